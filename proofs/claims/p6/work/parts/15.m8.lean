theorem dX12_window_0 : decode cX12_window 0 = .ok (.aload_n 0, 1) := by decide +kernel
theorem dX12_window_1 : decode cX12_window 1 = .ok (.iconst 0, 1) := by decide +kernel
theorem dX12_window_2 : decode cX12_window 2 = .ok (.putfield 175, 3) := by decide +kernel
theorem dX12_window_5 : decode cX12_window 5 = .ok (.iload_n 1, 1) := by decide +kernel
theorem dX12_window_6 : decode cX12_window 6 = .ok (.ifCond .lt 65, 3) := by decide +kernel
theorem dX12_window_9 : decode cX12_window 9 = .ok (.iload_n 1, 1) := by decide +kernel
theorem dX12_window_10 : decode cX12_window 10 = .ok (.bipush 7, 2) := by decide +kernel
theorem dX12_window_12 : decode cX12_window 12 = .ok (.if_icmp .gt 59, 3) := by decide +kernel
theorem dX12_window_15 : decode cX12_window 15 = .ok (.iload_n 2, 1) := by decide +kernel
theorem dX12_window_16 : decode cX12_window 16 = .ok (.bipush (-100), 2) := by decide +kernel
theorem dX12_window_18 : decode cX12_window 18 = .ok (.if_icmp .lt 53, 3) := by decide +kernel
theorem dX12_window_21 : decode cX12_window 21 = .ok (.iload_n 2, 1) := by decide +kernel
theorem dX12_window_22 : decode cX12_window 22 = .ok (.sipush 999, 3) := by decide +kernel
theorem dX12_window_25 : decode cX12_window 25 = .ok (.if_icmp .gt 46, 3) := by decide +kernel
theorem dX12_window_28 : decode cX12_window 28 = .ok (.iload_n 3, 1) := by decide +kernel
theorem dX12_window_29 : decode cX12_window 29 = .ok (.bipush (-100), 2) := by decide +kernel
theorem dX12_window_31 : decode cX12_window 31 = .ok (.if_icmp .lt 40, 3) := by decide +kernel
theorem dX12_window_34 : decode cX12_window 34 = .ok (.iload_n 3, 1) := by decide +kernel
theorem dX12_window_35 : decode cX12_window 35 = .ok (.sipush 999, 3) := by decide +kernel
theorem dX12_window_38 : decode cX12_window 38 = .ok (.if_icmp .gt 33, 3) := by decide +kernel
theorem dX12_window_41 : decode cX12_window 41 = .ok (.iload 4, 2) := by decide +kernel
theorem dX12_window_43 : decode cX12_window 43 = .ok (.bipush 40, 2) := by decide +kernel
theorem dX12_window_45 : decode cX12_window 45 = .ok (.if_icmp .lt 26, 3) := by decide +kernel
theorem dX12_window_48 : decode cX12_window 48 = .ok (.iload 4, 2) := by decide +kernel
theorem dX12_window_50 : decode cX12_window 50 = .ok (.sipush 400, 3) := by decide +kernel
theorem dX12_window_53 : decode cX12_window 53 = .ok (.if_icmp .gt 18, 3) := by decide +kernel
theorem dX12_window_56 : decode cX12_window 56 = .ok (.iload 5, 2) := by decide +kernel
theorem dX12_window_58 : decode cX12_window 58 = .ok (.bipush 30, 2) := by decide +kernel
theorem dX12_window_60 : decode cX12_window 60 = .ok (.if_icmp .lt 11, 3) := by decide +kernel
theorem dX12_window_63 : decode cX12_window 63 = .ok (.iload 5, 2) := by decide +kernel
theorem dX12_window_65 : decode cX12_window 65 = .ok (.sipush 400, 3) := by decide +kernel
theorem dX12_window_68 : decode cX12_window 68 = .ok (.if_icmp .le 10, 3) := by decide +kernel
theorem dX12_window_71 : decode cX12_window 71 = .ok (.aload_n 0, 1) := by decide +kernel
theorem dX12_window_72 : decode cX12_window 72 = .ok (.iconst 1, 1) := by decide +kernel
theorem dX12_window_73 : decode cX12_window 73 = .ok (.putfield 175, 3) := by decide +kernel
theorem dX12_window_76 : decode cX12_window 76 = .ok (.iconst 0, 1) := by decide +kernel
theorem dX12_window_77 : decode cX12_window 77 = .ok (.ireturn, 1) := by decide +kernel
theorem dX12_window_78 : decode cX12_window 78 = .ok (.aload_n 0, 1) := by decide +kernel
theorem dX12_window_79 : decode cX12_window 79 = .ok (.getfield 236, 3) := by decide +kernel
theorem dX12_window_82 : decode cX12_window 82 = .ok (.ifCond .eq 19, 3) := by decide +kernel
theorem dX12_window_85 : decode cX12_window 85 = .ok (.aload_n 0, 1) := by decide +kernel
theorem dX12_window_86 : decode cX12_window 86 = .ok (.getfield 279, 3) := by decide +kernel
theorem dX12_window_89 : decode cX12_window 89 = .ok (.ifCond .gt 12, 3) := by decide +kernel
theorem dX12_window_92 : decode cX12_window 92 = .ok (.aload_n 0, 1) := by decide +kernel
theorem dX12_window_93 : decode cX12_window 93 = .ok (.getfield 60, 3) := by decide +kernel
theorem dX12_window_96 : decode cX12_window 96 = .ok (.iload_n 1, 1) := by decide +kernel
theorem dX12_window_97 : decode cX12_window 97 = .ok (.baload, 1) := by decide +kernel
theorem dX12_window_98 : decode cX12_window 98 = .ok (.ifCond .eq 17, 3) := by decide +kernel
theorem dX12_window_101 : decode cX12_window 101 = .ok (.aload_n 0, 1) := by decide +kernel
theorem dX12_window_102 : decode cX12_window 102 = .ok (.iconst 2, 1) := by decide +kernel
theorem dX12_window_103 : decode cX12_window 103 = .ok (.invokevirtual 297, 3) := by decide +kernel
theorem dX12_window_106 : decode cX12_window 106 = .ok (.ifCond .le 7, 3) := by decide +kernel
theorem dX12_window_109 : decode cX12_window 109 = .ok (.iconst 1, 1) := by decide +kernel
theorem dX12_window_110 : decode cX12_window 110 = .ok (.goto 4, 3) := by decide +kernel
theorem dX12_window_113 : decode cX12_window 113 = .ok (.iconst 0, 1) := by decide +kernel
theorem dX12_window_114 : decode cX12_window 114 = .ok (.ireturn, 1) := by decide +kernel
theorem dX12_window_115 : decode cX12_window 115 = .ok (.aload_n 0, 1) := by decide +kernel
theorem dX12_window_116 : decode cX12_window 116 = .ok (.getfield 66, 3) := by decide +kernel
theorem dX12_window_119 : decode cX12_window 119 = .ok (.iload_n 1, 1) := by decide +kernel
theorem dX12_window_120 : decode cX12_window 120 = .ok (.baload, 1) := by decide +kernel
theorem dX12_window_121 : decode cX12_window 121 = .ok (.ifCond .ne 17, 3) := by decide +kernel
theorem dX12_window_124 : decode cX12_window 124 = .ok (.aload_n 0, 1) := by decide +kernel
theorem dX12_window_125 : decode cX12_window 125 = .ok (.getfield 36, 3) := by decide +kernel
theorem dX12_window_128 : decode cX12_window 128 = .ok (.iload_n 1, 1) := by decide +kernel
theorem dX12_window_129 : decode cX12_window 129 = .ok (.iload_n 2, 1) := by decide +kernel
theorem dX12_window_130 : decode cX12_window 130 = .ok (.iastore, 1) := by decide +kernel
theorem dX12_window_131 : decode cX12_window 131 = .ok (.aload_n 0, 1) := by decide +kernel
theorem dX12_window_132 : decode cX12_window 132 = .ok (.getfield 39, 3) := by decide +kernel
theorem dX12_window_135 : decode cX12_window 135 = .ok (.iload_n 1, 1) := by decide +kernel
theorem dX12_window_136 : decode cX12_window 136 = .ok (.iload_n 3, 1) := by decide +kernel
theorem dX12_window_137 : decode cX12_window 137 = .ok (.iastore, 1) := by decide +kernel
theorem dX12_window_138 : decode cX12_window 138 = .ok (.aload_n 0, 1) := by decide +kernel
theorem dX12_window_139 : decode cX12_window 139 = .ok (.iload_n 1, 1) := by decide +kernel
theorem dX12_window_140 : decode cX12_window 140 = .ok (.iload 4, 2) := by decide +kernel
theorem dX12_window_142 : decode cX12_window 142 = .ok (.iload 5, 2) := by decide +kernel
theorem dX12_window_144 : decode cX12_window 144 = .ok (.invokevirtual 340, 3) := by decide +kernel
theorem dX12_window_147 : decode cX12_window 147 = .ok (.aload_n 0, 1) := by decide +kernel
theorem dX12_window_148 : decode cX12_window 148 = .ok (.getfield 57, 3) := by decide +kernel
theorem dX12_window_151 : decode cX12_window 151 = .ok (.iload_n 1, 1) := by decide +kernel
theorem dX12_window_152 : decode cX12_window 152 = .ok (.baload, 1) := by decide +kernel
theorem dX12_window_153 : decode cX12_window 153 = .ok (.ifCond .ne 7, 3) := by decide +kernel
theorem dX12_window_156 : decode cX12_window 156 = .ok (.iconst 1, 1) := by decide +kernel
theorem dX12_window_157 : decode cX12_window 157 = .ok (.goto 4, 3) := by decide +kernel
theorem dX12_window_160 : decode cX12_window 160 = .ok (.iconst 0, 1) := by decide +kernel
theorem dX12_window_161 : decode cX12_window 161 = .ok (.ireturn, 1) := by decide +kernel
set_option maxHeartbeats 4000000 in
set_option maxRecDepth 100000 in
theorem m_X12_window (l : Launch) {Z : pZ} (S : pSh Z) {h : pH} (I : Iv Z h) (w : Int32) (left : Int32) (top : Int32) (width : Int32) (tall : Int32) (E9 : mE h) (S9 : mS h) (K9 : mK h) (ht : (h 137 25).toInt ≤ 599) (hb9 : (h 137 27).toInt ≤ 599) (hq : (h 137 82).toInt ≤ 6980) : pMet l yX12_window cX12_window 6 (some .boolean) 4 0 0 107 Z h [.ref (zB Z + 137), .int w, .int left, .int top, .int width, .int tall] (pQi Z (fun r Z1 h1 => Z = Z1 ∧ Iv Z h1 ∧ agr [(137, 0), (137, 18), (137, 19), (137, 20), (137, 22), (137, 21), (137, 23), (137, 40), (137, 48), (137, 56), (137, 58), (137, 70), (137, 71), (153, 1000), (147, 1000), (148, 1000), (155, 1000), (149, 1000), (152, 1000), (179, 1000), (143, 1000), (186, 1000), (162, 1000), (163, 1000), (165, 1000), (166, 1000), (164, 1000), (167, 1000), (168, 1000), (169, 1000), (170, 1000), (174, 1000), (175, 1000), (176, 1000), (177, 1000), (137, 25), (137, 82), (145, 1000), (146, 1000)] h h1 ∧ (r.toInt = 0 ∨ r.toInt = 1) ∧ (mE h1) ∧ (mS h1) ∧ (mK h1) ∧ ((h 137 25).toInt + (0) ≤ (h1 137 25).toInt ∧ (h1 137 25).toInt ≤ (h 137 25).toInt + (1)) ∧ ((h 137 82).toInt + (0) ≤ (h1 137 82).toInt ∧ (h1 137 82).toInt ≤ (h 137 82).toInt + (2)))) := by
  refine pOfW (lv := [(0, .ref (zB Z + 137)), (1, .int w), (2, .int left), (3, .int top), (4, .int width), (5, .int tall)]) (by decide) (Nat.le_of_ble_eq_true rfl) rfl ?_
  intro p e s m below meth c ls M hr hlk hnm V hl
  have hx := M.1.1
  have hb := M.1.2.1
  have A : agr [] h h := agr.rf
  have i_56 : 0 ≤ (h 137 56).toInt ∧ (h 137 56).toInt ≤ 40 := I.get (sm_this S) 56
  have i_70 : 0 ≤ (h 137 70).toInt ∧ (h 137 70).toInt ≤ 40 := I.get (sm_this S) 70
  have i_58 : 0 ≤ (h 137 58).toInt ∧ (h 137 58).toInt ≤ 40 := I.get (sm_this S) 58
  have i_25 : 0 ≤ (h 137 25).toInt ∧ (h 137 25).toInt ≤ 600 := I.get (sm_this S) 25
  have i_27 : 0 ≤ (h 137 27).toInt ∧ (h 137 27).toInt ≤ 600 := I.get (sm_this S) 27
  have i_82 : 0 ≤ (h 137 82).toInt ∧ (h 137 82).toInt ≤ 7000 := I.get (sm_this S) 82
  have i_83 : 0 ≤ (h 137 83).toInt ∧ (h 137 83).toInt ≤ 7000 := I.get (sm_this S) 83
  have i_2 : 0 ≤ (h 137 2).toInt ∧ (h 137 2).toInt ≤ 64 := I.get (sm_this S) 2
  have n9 := S9.num
  have J_161 : ∀ (y161_0 : Int32) (hJ : pH) (H : Heap) (locs : List Loc) (ls : Array Slot), pV Z hJ s.heap H locs → Iv Z hJ → agr [(137, 0), (137, 19), (137, 25), (137, 56), (137, 58), (137, 70), (137, 71), (137, 82), (143, 1000), (145, 1000), (146, 1000), (147, 1000), (148, 1000), (149, 1000), (152, 1000), (153, 1000), (155, 1000), (162, 1000), (163, 1000), (164, 1000), (165, 1000), (166, 1000), (167, 1000), (168, 1000), (169, 1000), (170, 1000), (174, 1000), (175, 1000), (176, 1000), (177, 1000), (179, 1000), (186, 1000)] h hJ → lv_has ls 6 [(0, .ref (zB Z + 137)), (1, .int w), (2, .int left), (3, .int top), (4, .int width), (5, .int tall)] → (0 ≤ w.toInt ∧ w.toInt ≤ 7) → (-100 ≤ left.toInt ∧ left.toInt ≤ 999) → (-100 ≤ top.toInt ∧ top.toInt ≤ 999) → (40 ≤ width.toInt ∧ width.toInt ≤ 400) → (30 ≤ tall.toInt ∧ tall.toInt ≤ 400) → (0 ≤ y161_0.toInt ∧ y161_0.toInt ≤ 1) → ((h 137 25).toInt + (1) ≤ (hJ 137 25).toInt ∧ (hJ 137 25).toInt ≤ (h 137 25).toInt + (1)) → ((h 137 27).toInt + (0) ≤ (hJ 137 27).toInt ∧ (hJ 137 27).toInt ≤ (h 137 27).toInt + (0)) → ((h 137 82).toInt + (0) ≤ (hJ 137 82).toInt ∧ (hJ 137 82).toInt ≤ (h 137 82).toInt + (2)) → ((h 137 83).toInt + (0) ≤ (hJ 137 83).toInt ∧ (hJ 137 83).toInt ≤ (h 137 83).toInt + (0)) → ((h 137 2).toInt + (0) ≤ (hJ 137 2).toInt ∧ (hJ 137 2).toInt ≤ (h 137 2).toInt + (0)) → mE hJ → mS hJ → mK hJ → W p l e (pRm 4 0 0 107) s m ([.ref (zB Z + 137), .int w, .int left, .int top, .int width, .int tall] : List Value).toArray below meth c H locs 0 0 (MQ below (pQi Z (fun r Z1 h1 => Z = Z1 ∧ Iv Z h1 ∧ agr [(137, 0), (137, 18), (137, 19), (137, 20), (137, 22), (137, 21), (137, 23), (137, 40), (137, 48), (137, 56), (137, 58), (137, 70), (137, 71), (153, 1000), (147, 1000), (148, 1000), (155, 1000), (149, 1000), (152, 1000), (179, 1000), (143, 1000), (186, 1000), (162, 1000), (163, 1000), (165, 1000), (166, 1000), (164, 1000), (167, 1000), (168, 1000), (169, 1000), (170, 1000), (174, 1000), (175, 1000), (176, 1000), (177, 1000), (137, 25), (137, 82), (145, 1000), (146, 1000)] h h1 ∧ (r.toInt = 0 ∨ r.toInt = 1) ∧ (mE h1) ∧ (mS h1) ∧ (mK h1) ∧ ((h 137 25).toInt + (0) ≤ (h1 137 25).toInt ∧ (h1 137 25).toInt ≤ (h 137 25).toInt + (1)) ∧ ((h 137 82).toInt + (0) ≤ (h1 137 82).toInt ∧ (h1 137 82).toInt ≤ (h 137 82).toInt + (2)))) ([.ref (zB Z + 137), .int w, .int left, .int top, .int width, .int tall] : List Value).toArray s 0 0 (pA (zB Z))) (F0 m 161 ls [.int y161_0]) := by
    intro y161_0 hJ H locs ls V I A hl g_161_1 g_161_2 g_161_3 g_161_4 g_161_5 gs_161_0 gd_161_25 gd_161_27 gd_161_82 gd_161_83 gd_161_2 E9 S9 K9
    exact pe_i M V rfl rfl hr hlk (pn_z (pi_z (by omega))).1 ⟨rfl, I, A.wk (by decide), by omega, (E9.congr rfl rfl), (S9.congr rfl rfl rfl rfl rfl rfl rfl), (K9.congr rfl rfl), (show (h 137 25).toInt + (0) ≤ (hJ 137 25).toInt ∧ (hJ 137 25).toInt ≤ (h 137 25).toInt + (1) by omega), (show (h 137 82).toInt + (0) ≤ (hJ 137 82).toInt ∧ (hJ 137 82).toInt ≤ (h 137 82).toInt + (2) by omega)⟩ ⟨Nat.le_refl _, Nat.le_refl _⟩ dX12_window_161
  have J_138 : ∀ (hJ : pH) (H : Heap) (locs : List Loc) (ls : Array Slot), pV Z hJ s.heap H locs → Iv Z hJ → agr [(137, 0), (145, 1000), (146, 1000)] h hJ → lv_has ls 6 [(0, .ref (zB Z + 137)), (1, .int w), (2, .int left), (3, .int top), (4, .int width), (5, .int tall)] → (0 ≤ w.toInt ∧ w.toInt ≤ 7) → (-100 ≤ left.toInt ∧ left.toInt ≤ 999) → (-100 ≤ top.toInt ∧ top.toInt ≤ 999) → (40 ≤ width.toInt ∧ width.toInt ≤ 400) → (30 ≤ tall.toInt ∧ tall.toInt ≤ 400) → ((h 137 56).toInt + (0) ≤ (hJ 137 56).toInt ∧ (hJ 137 56).toInt ≤ (h 137 56).toInt + (0)) → ((h 137 70).toInt + (0) ≤ (hJ 137 70).toInt ∧ (hJ 137 70).toInt ≤ (h 137 70).toInt + (0)) → ((h 137 58).toInt + (0) ≤ (hJ 137 58).toInt ∧ (hJ 137 58).toInt ≤ (h 137 58).toInt + (0)) → ((h 137 25).toInt + (0) ≤ (hJ 137 25).toInt ∧ (hJ 137 25).toInt ≤ (h 137 25).toInt + (0)) → ((h 137 27).toInt + (0) ≤ (hJ 137 27).toInt ∧ (hJ 137 27).toInt ≤ (h 137 27).toInt + (0)) → ((h 137 82).toInt + (0) ≤ (hJ 137 82).toInt ∧ (hJ 137 82).toInt ≤ (h 137 82).toInt + (0)) → ((h 137 83).toInt + (0) ≤ (hJ 137 83).toInt ∧ (hJ 137 83).toInt ≤ (h 137 83).toInt + (0)) → ((h 137 2).toInt + (0) ≤ (hJ 137 2).toInt ∧ (hJ 137 2).toInt ≤ (h 137 2).toInt + (0)) → ((hJ 137 56).toInt = 0) → mE hJ → mS hJ → mK hJ → W p l e (pRm 4 0 0 107) s m ([.ref (zB Z + 137), .int w, .int left, .int top, .int width, .int tall] : List Value).toArray below meth c H locs 0 0 (MQ below (pQi Z (fun r Z1 h1 => Z = Z1 ∧ Iv Z h1 ∧ agr [(137, 0), (137, 18), (137, 19), (137, 20), (137, 22), (137, 21), (137, 23), (137, 40), (137, 48), (137, 56), (137, 58), (137, 70), (137, 71), (153, 1000), (147, 1000), (148, 1000), (155, 1000), (149, 1000), (152, 1000), (179, 1000), (143, 1000), (186, 1000), (162, 1000), (163, 1000), (165, 1000), (166, 1000), (164, 1000), (167, 1000), (168, 1000), (169, 1000), (170, 1000), (174, 1000), (175, 1000), (176, 1000), (177, 1000), (137, 25), (137, 82), (145, 1000), (146, 1000)] h h1 ∧ (r.toInt = 0 ∨ r.toInt = 1) ∧ (mE h1) ∧ (mS h1) ∧ (mK h1) ∧ ((h 137 25).toInt + (0) ≤ (h1 137 25).toInt ∧ (h1 137 25).toInt ≤ (h 137 25).toInt + (1)) ∧ ((h 137 82).toInt + (0) ≤ (h1 137 82).toInt ∧ (h1 137 82).toInt ≤ (h 137 82).toInt + (2)))) ([.ref (zB Z + 137), .int w, .int left, .int top, .int width, .int tall] : List Value).toArray s 0 0 (pA (zB Z))) (F0 m 138 ls []) := by
    intro hJ H locs ls V I A hl g_138_1 g_138_2 g_138_3 g_138_4 g_138_5 gd_138_56 gd_138_70 gd_138_58 gd_138_25 gd_138_27 gd_138_82 gd_138_83 gd_138_2 e138 E9 S9 K9
    refine lv_aload_n hx hb dX12_window_138 rfl (lv_at hl 0 rfl) ?_
    refine lv_iload_n hx hb dX12_window_139 rfl (lv_at hl 1 rfl) ?_
    refine lv_iload hx hb dX12_window_140 (lv_at hl 4 rfl) ?_
    refine lv_iload hx hb dX12_window_142 (lv_at hl 5 rfl) ?_
    refine pk_v (pr_V M V (m_X12_tellWindow l S I w width tall (by omega) (show (hJ 137 56).toInt = 0 by omega) (show (hJ 137 70).toInt = 0 by omega) (show (hJ 137 58).toInt = 0 by omega) (S9.congr rfl rfl rfl rfl rfl rfl rfl) (show (hJ 137 25).toInt ≤ 599 by omega) (show (hJ 137 82).toInt ≤ 6998 by omega)) km_X12_tellWindow (sm_this S) pC12 lkM_X12_340 rfl hl.1 rfl (Nat.le_of_ble_eq_true rfl) ⟨Nat.le_of_ble_eq_true rfl, Nat.le_of_ble_eq_true rfl⟩ ⟨Nat.le_of_ble_eq_true rfl, Nat.le_of_ble_eq_true rfl⟩ dX12_window_144) V (fun Zr1 hr1 H locs pr1 _ _ V => ?_)
    obtain ⟨rfl, I, pA_r1, fr1_0, fr1_1, fr1_2⟩ := pr1
    have fr1_1 : (hJ 137 25).toInt + (1) ≤ (hr1 137 25).toInt ∧ (hr1 137 25).toInt ≤ (hJ 137 25).toInt + (1) := fr1_1
    have fr1_2 : (hJ 137 82).toInt + (0) ≤ (hr1 137 82).toInt ∧ (hr1 137 82).toInt ≤ (hJ 137 82).toInt + (2) := fr1_2
    have A := A.wk (l3 := [(137, 0), (145, 1000), (146, 1000), (147, 1000), (148, 1000), (153, 1000), (155, 1000), (149, 1000), (152, 1000), (179, 1000), (143, 1000), (186, 1000), (162, 1000), (163, 1000), (165, 1000), (166, 1000), (164, 1000), (167, 1000), (168, 1000), (169, 1000), (170, 1000), (174, 1000), (175, 1000), (176, 1000), (177, 1000), (137, 25), (137, 19), (137, 71), (137, 56), (137, 70), (137, 58), (137, 82)]) (by decide)
    have A := A.tr pA_r1 (by decide)
    have E9 : mE hr1 := E9.congr (pA_r1.get 137 2 (by decide)) (pA_r1.row 138 (by decide))
    have S9 : mS hr1 := fr1_0
    have K9 : mK hr1 := K9.congr (pA_r1.row 185 (by decide)) (pA_r1.row 184 (by decide))
    have w_r1_27 : (hr1 137 27).toInt = (hJ 137 27).toInt := congrArg Int32.toInt (pA_r1.get 137 27 (by decide))
    have w_r1_83 : (hr1 137 83).toInt = (hJ 137 83).toInt := congrArg Int32.toInt (pA_r1.get 137 83 (by decide))
    have w_r1_2 : (hr1 137 2).toInt = (hJ 137 2).toInt := congrArg Int32.toInt (pA_r1.get 137 2 (by decide))
    refine lv_aload_n hx hb dX12_window_147 rfl (lv_at hl 0 rfl) ?_
    refine pg_r M V 12 36 (sm_this S) pC12 fk12_36 (sm_collapsed S).2.2 lkF_X12_57 dX12_window_148 ?_
    refine lv_iload_n hx hb dX12_window_151 rfl (lv_at hl 1 rfl) ?_
    refine pa_z M V (sm_collapsed S).1 (by rw [(sm_collapsed S).2.1]; exact pi_in (by omega)) dX12_window_152 ?_
    refine lv_topi (fun v2 ev2 => ?_)
    have tv2 : 0 ≤ v2.toInt ∧ v2.toInt ≤ 1 := by rw [ev2]; exact I.get (sm_collapsed S).1 _
    refine lv_if_ne (tgt := 160) hx hb dX12_window_153 (by decide) (fun c_153 => ?_) (fun c_153 => ?_)
    · skip
      have k_0 : (0 : Int32).toInt = 0 := rfl
      have c_153 := pi_ne c_153
      refine lv_iconst (v := 0) hx hb dX12_window_160 (by decide) ?_
      exact J_161 (0 : Int32) _ _ _ _ V I (A.wk (by decide)) (lv_sub hl [0, 1, 2, 3, 4, 5] rfl) (by omega) (by omega) (by omega) (by omega) (by omega) (by omega) (show (h 137 25).toInt + (1) ≤ (hr1 137 25).toInt ∧ (hr1 137 25).toInt ≤ (h 137 25).toInt + (1) by omega) (show (h 137 27).toInt + (0) ≤ (hr1 137 27).toInt ∧ (hr1 137 27).toInt ≤ (h 137 27).toInt + (0) by omega) (show (h 137 82).toInt + (0) ≤ (hr1 137 82).toInt ∧ (hr1 137 82).toInt ≤ (h 137 82).toInt + (2) by omega) (show (h 137 83).toInt + (0) ≤ (hr1 137 83).toInt ∧ (hr1 137 83).toInt ≤ (h 137 83).toInt + (0) by omega) (show (h 137 2).toInt + (0) ≤ (hr1 137 2).toInt ∧ (hr1 137 2).toInt ≤ (h 137 2).toInt + (0) by omega) (E9.congr rfl rfl) (S9.congr rfl rfl rfl rfl rfl rfl rfl) (K9.congr rfl rfl) 
    · skip
      have k_0 : (0 : Int32).toInt = 0 := rfl
      have c_153 := pi_eq.mp c_153
      refine lv_iconst (v := 1) hx hb dX12_window_156 (by decide) ?_
      refine lv_goto (tgt := 161) hx hb dX12_window_157 (by decide) ?_
      have k_1 : (1 : Int32).toInt = 1 := rfl
      exact J_161 (1 : Int32) _ _ _ _ V I (A.wk (by decide)) (lv_sub hl [0, 1, 2, 3, 4, 5] rfl) (by omega) (by omega) (by omega) (by omega) (by omega) (by omega) (show (h 137 25).toInt + (1) ≤ (hr1 137 25).toInt ∧ (hr1 137 25).toInt ≤ (h 137 25).toInt + (1) by omega) (show (h 137 27).toInt + (0) ≤ (hr1 137 27).toInt ∧ (hr1 137 27).toInt ≤ (h 137 27).toInt + (0) by omega) (show (h 137 82).toInt + (0) ≤ (hr1 137 82).toInt ∧ (hr1 137 82).toInt ≤ (h 137 82).toInt + (2) by omega) (show (h 137 83).toInt + (0) ≤ (hr1 137 83).toInt ∧ (hr1 137 83).toInt ≤ (h 137 83).toInt + (0) by omega) (show (h 137 2).toInt + (0) ≤ (hr1 137 2).toInt ∧ (hr1 137 2).toInt ≤ (h 137 2).toInt + (0) by omega) (E9.congr rfl rfl) (S9.congr rfl rfl rfl rfl rfl rfl rfl) (K9.congr rfl rfl) 
  have J_114 : ∀ (y114_0 : Int32) (hJ : pH) (H : Heap) (locs : List Loc) (ls : Array Slot), pV Z hJ s.heap H locs → Iv Z hJ → agr [(137, 0), (137, 18), (137, 19), (137, 20), (137, 21), (137, 22), (137, 23), (137, 40), (137, 48), (137, 56), (137, 58), (137, 70), (137, 71), (153, 1000)] h hJ → lv_has ls 6 [(0, .ref (zB Z + 137)), (1, .int w), (2, .int left), (3, .int top), (4, .int width), (5, .int tall)] → (0 ≤ w.toInt ∧ w.toInt ≤ 7) → (-100 ≤ left.toInt ∧ left.toInt ≤ 999) → (-100 ≤ top.toInt ∧ top.toInt ≤ 999) → (40 ≤ width.toInt ∧ width.toInt ≤ 400) → (30 ≤ tall.toInt ∧ tall.toInt ≤ 400) → (0 ≤ y114_0.toInt ∧ y114_0.toInt ≤ 0) → ((h 137 25).toInt + (0) ≤ (hJ 137 25).toInt ∧ (hJ 137 25).toInt ≤ (h 137 25).toInt + (0)) → ((h 137 27).toInt + (0) ≤ (hJ 137 27).toInt ∧ (hJ 137 27).toInt ≤ (h 137 27).toInt + (0)) → ((h 137 82).toInt + (0) ≤ (hJ 137 82).toInt ∧ (hJ 137 82).toInt ≤ (h 137 82).toInt + (0)) → ((h 137 83).toInt + (0) ≤ (hJ 137 83).toInt ∧ (hJ 137 83).toInt ≤ (h 137 83).toInt + (0)) → ((h 137 2).toInt + (0) ≤ (hJ 137 2).toInt ∧ (hJ 137 2).toInt ≤ (h 137 2).toInt + (0)) → mE hJ → mS hJ → mK hJ → W p l e (pRm 4 0 0 107) s m ([.ref (zB Z + 137), .int w, .int left, .int top, .int width, .int tall] : List Value).toArray below meth c H locs 0 0 (MQ below (pQi Z (fun r Z1 h1 => Z = Z1 ∧ Iv Z h1 ∧ agr [(137, 0), (137, 18), (137, 19), (137, 20), (137, 22), (137, 21), (137, 23), (137, 40), (137, 48), (137, 56), (137, 58), (137, 70), (137, 71), (153, 1000), (147, 1000), (148, 1000), (155, 1000), (149, 1000), (152, 1000), (179, 1000), (143, 1000), (186, 1000), (162, 1000), (163, 1000), (165, 1000), (166, 1000), (164, 1000), (167, 1000), (168, 1000), (169, 1000), (170, 1000), (174, 1000), (175, 1000), (176, 1000), (177, 1000), (137, 25), (137, 82), (145, 1000), (146, 1000)] h h1 ∧ (r.toInt = 0 ∨ r.toInt = 1) ∧ (mE h1) ∧ (mS h1) ∧ (mK h1) ∧ ((h 137 25).toInt + (0) ≤ (h1 137 25).toInt ∧ (h1 137 25).toInt ≤ (h 137 25).toInt + (1)) ∧ ((h 137 82).toInt + (0) ≤ (h1 137 82).toInt ∧ (h1 137 82).toInt ≤ (h 137 82).toInt + (2)))) ([.ref (zB Z + 137), .int w, .int left, .int top, .int width, .int tall] : List Value).toArray s 0 0 (pA (zB Z))) (F0 m 114 ls [.int y114_0]) := by
    intro y114_0 hJ H locs ls V I A hl g_114_1 g_114_2 g_114_3 g_114_4 g_114_5 gs_114_0 gd_114_25 gd_114_27 gd_114_82 gd_114_83 gd_114_2 E9 S9 K9
    exact pe_i M V rfl rfl hr hlk (pn_z (pi_z (by omega))).1 ⟨rfl, I, A.wk (by decide), by omega, (E9.congr rfl rfl), (S9.congr rfl rfl rfl rfl rfl rfl rfl), (K9.congr rfl rfl), (show (h 137 25).toInt + (0) ≤ (hJ 137 25).toInt ∧ (hJ 137 25).toInt ≤ (h 137 25).toInt + (1) by omega), (show (h 137 82).toInt + (0) ≤ (hJ 137 82).toInt ∧ (hJ 137 82).toInt ≤ (h 137 82).toInt + (2) by omega)⟩ ⟨Nat.le_refl _, Nat.le_refl _⟩ dX12_window_114
  have J_101 : ∀ (hJ : pH) (H : Heap) (locs : List Loc) (ls : Array Slot), pV Z hJ s.heap H locs → Iv Z hJ → agr [(137, 0)] h hJ → lv_has ls 6 [(0, .ref (zB Z + 137)), (1, .int w), (2, .int left), (3, .int top), (4, .int width), (5, .int tall)] → (0 ≤ w.toInt ∧ w.toInt ≤ 7) → (-100 ≤ left.toInt ∧ left.toInt ≤ 999) → (-100 ≤ top.toInt ∧ top.toInt ≤ 999) → (40 ≤ width.toInt ∧ width.toInt ≤ 400) → (30 ≤ tall.toInt ∧ tall.toInt ≤ 400) → ((h 137 56).toInt + (0) ≤ (hJ 137 56).toInt ∧ (hJ 137 56).toInt ≤ (h 137 56).toInt + (0)) → ((h 137 70).toInt + (0) ≤ (hJ 137 70).toInt ∧ (hJ 137 70).toInt ≤ (h 137 70).toInt + (0)) → ((h 137 58).toInt + (0) ≤ (hJ 137 58).toInt ∧ (hJ 137 58).toInt ≤ (h 137 58).toInt + (0)) → ((h 137 25).toInt + (0) ≤ (hJ 137 25).toInt ∧ (hJ 137 25).toInt ≤ (h 137 25).toInt + (0)) → ((h 137 27).toInt + (0) ≤ (hJ 137 27).toInt ∧ (hJ 137 27).toInt ≤ (h 137 27).toInt + (0)) → ((h 137 82).toInt + (0) ≤ (hJ 137 82).toInt ∧ (hJ 137 82).toInt ≤ (h 137 82).toInt + (0)) → ((h 137 83).toInt + (0) ≤ (hJ 137 83).toInt ∧ (hJ 137 83).toInt ≤ (h 137 83).toInt + (0)) → ((h 137 2).toInt + (0) ≤ (hJ 137 2).toInt ∧ (hJ 137 2).toInt ≤ (h 137 2).toInt + (0)) → mE hJ → mS hJ → mK hJ → W p l e (pRm 4 0 0 107) s m ([.ref (zB Z + 137), .int w, .int left, .int top, .int width, .int tall] : List Value).toArray below meth c H locs 0 0 (MQ below (pQi Z (fun r Z1 h1 => Z = Z1 ∧ Iv Z h1 ∧ agr [(137, 0), (137, 18), (137, 19), (137, 20), (137, 22), (137, 21), (137, 23), (137, 40), (137, 48), (137, 56), (137, 58), (137, 70), (137, 71), (153, 1000), (147, 1000), (148, 1000), (155, 1000), (149, 1000), (152, 1000), (179, 1000), (143, 1000), (186, 1000), (162, 1000), (163, 1000), (165, 1000), (166, 1000), (164, 1000), (167, 1000), (168, 1000), (169, 1000), (170, 1000), (174, 1000), (175, 1000), (176, 1000), (177, 1000), (137, 25), (137, 82), (145, 1000), (146, 1000)] h h1 ∧ (r.toInt = 0 ∨ r.toInt = 1) ∧ (mE h1) ∧ (mS h1) ∧ (mK h1) ∧ ((h 137 25).toInt + (0) ≤ (h1 137 25).toInt ∧ (h1 137 25).toInt ≤ (h 137 25).toInt + (1)) ∧ ((h 137 82).toInt + (0) ≤ (h1 137 82).toInt ∧ (h1 137 82).toInt ≤ (h 137 82).toInt + (2)))) ([.ref (zB Z + 137), .int w, .int left, .int top, .int width, .int tall] : List Value).toArray s 0 0 (pA (zB Z))) (F0 m 101 ls []) := by
    intro hJ H locs ls V I A hl g_101_1 g_101_2 g_101_3 g_101_4 g_101_5 gd_101_56 gd_101_70 gd_101_58 gd_101_25 gd_101_27 gd_101_82 gd_101_83 gd_101_2 E9 S9 K9
    refine lv_aload_n hx hb dX12_window_101 rfl (lv_at hl 0 rfl) ?_
    refine lv_iconst (v := 2) hx hb dX12_window_102 (by decide) ?_
    refine pk_i (pr_V M V (m_X12_fails l S I (2 : Int32) ) km_X12_fails (sm_this S) pC12 lkM_X12_297 rfl hl.1 rfl (Nat.le_of_ble_eq_true rfl) ⟨Nat.le_of_ble_eq_true rfl, Nat.le_of_ble_eq_true rfl⟩ ⟨Nat.le_of_ble_eq_true rfl, Nat.le_of_ble_eq_true rfl⟩ dX12_window_103) V (fun r3 Zr3 hr3 H locs pr3 _ _ V => ?_)
    obtain ⟨rfl, I, pA_r3, fr3_0, fr3_1⟩ := pr3
    have A := A.wk (l3 := [(137, 0), (137, 18), (137, 19), (137, 20), (137, 22), (137, 21), (137, 23), (137, 40), (137, 48), (137, 56), (137, 58), (137, 70), (137, 71), (153, 1000)]) (by decide)
    have A := A.tr pA_r3 (by decide)
    have E9 : mE hr3 := E9.congr (pA_r3.get 137 2 (by decide)) (pA_r3.row 138 (by decide))
    have S9 : mS hr3 := fr3_1 (S9.congr rfl rfl rfl rfl rfl rfl rfl)
    have K9 : mK hr3 := K9.congr (pA_r3.row 185 (by decide)) (pA_r3.row 184 (by decide))
    have w_r3_25 : (hr3 137 25).toInt = (hJ 137 25).toInt := congrArg Int32.toInt (pA_r3.get 137 25 (by decide))
    have w_r3_27 : (hr3 137 27).toInt = (hJ 137 27).toInt := congrArg Int32.toInt (pA_r3.get 137 27 (by decide))
    have w_r3_82 : (hr3 137 82).toInt = (hJ 137 82).toInt := congrArg Int32.toInt (pA_r3.get 137 82 (by decide))
    have w_r3_83 : (hr3 137 83).toInt = (hJ 137 83).toInt := congrArg Int32.toInt (pA_r3.get 137 83 (by decide))
    have w_r3_2 : (hr3 137 2).toInt = (hJ 137 2).toInt := congrArg Int32.toInt (pA_r3.get 137 2 (by decide))
    refine lv_if_le (tgt := 113) hx hb dX12_window_106 (by decide) (fun c_106 => ?_) (fun c_106 => ?_)
    · skip
      have k_0 : (0 : Int32).toInt = 0 := rfl
      have c_106 := pi_le.mp c_106
      refine lv_iconst (v := 0) hx hb dX12_window_113 (by decide) ?_
      exact J_114 (0 : Int32) _ _ _ _ V I (A.wk (by decide)) (lv_sub hl [0, 1, 2, 3, 4, 5] rfl) (by omega) (by omega) (by omega) (by omega) (by omega) (by omega) (show (h 137 25).toInt + (0) ≤ (hr3 137 25).toInt ∧ (hr3 137 25).toInt ≤ (h 137 25).toInt + (0) by omega) (show (h 137 27).toInt + (0) ≤ (hr3 137 27).toInt ∧ (hr3 137 27).toInt ≤ (h 137 27).toInt + (0) by omega) (show (h 137 82).toInt + (0) ≤ (hr3 137 82).toInt ∧ (hr3 137 82).toInt ≤ (h 137 82).toInt + (0) by omega) (show (h 137 83).toInt + (0) ≤ (hr3 137 83).toInt ∧ (hr3 137 83).toInt ≤ (h 137 83).toInt + (0) by omega) (show (h 137 2).toInt + (0) ≤ (hr3 137 2).toInt ∧ (hr3 137 2).toInt ≤ (h 137 2).toInt + (0) by omega) (E9.congr rfl rfl) (S9.congr rfl rfl rfl rfl rfl rfl rfl) (K9.congr rfl rfl) 
    · skip
      have k_0 : (0 : Int32).toInt = 0 := rfl
      have c_106 := pi_le' c_106
      refine lv_iconst (v := 1) hx hb dX12_window_109 (by decide) ?_
      refine lv_goto (tgt := 114) hx hb dX12_window_110 (by decide) ?_
      have k_1 : (1 : Int32).toInt = 1 := rfl
      exact J_114 (1 : Int32) _ _ _ _ V I (A.wk (by decide)) (lv_sub hl [0, 1, 2, 3, 4, 5] rfl) (by omega) (by omega) (by omega) (by omega) (by omega) (by omega) (show (h 137 25).toInt + (0) ≤ (hr3 137 25).toInt ∧ (hr3 137 25).toInt ≤ (h 137 25).toInt + (0) by omega) (show (h 137 27).toInt + (0) ≤ (hr3 137 27).toInt ∧ (hr3 137 27).toInt ≤ (h 137 27).toInt + (0) by omega) (show (h 137 82).toInt + (0) ≤ (hr3 137 82).toInt ∧ (hr3 137 82).toInt ≤ (h 137 82).toInt + (0) by omega) (show (h 137 83).toInt + (0) ≤ (hr3 137 83).toInt ∧ (hr3 137 83).toInt ≤ (h 137 83).toInt + (0) by omega) (show (h 137 2).toInt + (0) ≤ (hr3 137 2).toInt ∧ (hr3 137 2).toInt ≤ (h 137 2).toInt + (0) by omega) (E9.congr rfl rfl) (S9.congr rfl rfl rfl rfl rfl rfl rfl) (K9.congr rfl rfl) 
  have J_71 : ∀ (hJ : pH) (H : Heap) (locs : List Loc) (ls : Array Slot), pV Z hJ s.heap H locs → Iv Z hJ → agr [(137, 0)] h hJ → lv_has ls 6 [(0, .ref (zB Z + 137)), (1, .int w), (2, .int left), (3, .int top), (4, .int width), (5, .int tall)] → ((h 137 56).toInt + (0) ≤ (hJ 137 56).toInt ∧ (hJ 137 56).toInt ≤ (h 137 56).toInt + (0)) → ((h 137 70).toInt + (0) ≤ (hJ 137 70).toInt ∧ (hJ 137 70).toInt ≤ (h 137 70).toInt + (0)) → ((h 137 58).toInt + (0) ≤ (hJ 137 58).toInt ∧ (hJ 137 58).toInt ≤ (h 137 58).toInt + (0)) → ((h 137 25).toInt + (0) ≤ (hJ 137 25).toInt ∧ (hJ 137 25).toInt ≤ (h 137 25).toInt + (0)) → ((h 137 27).toInt + (0) ≤ (hJ 137 27).toInt ∧ (hJ 137 27).toInt ≤ (h 137 27).toInt + (0)) → ((h 137 82).toInt + (0) ≤ (hJ 137 82).toInt ∧ (hJ 137 82).toInt ≤ (h 137 82).toInt + (0)) → ((h 137 83).toInt + (0) ≤ (hJ 137 83).toInt ∧ (hJ 137 83).toInt ≤ (h 137 83).toInt + (0)) → ((h 137 2).toInt + (0) ≤ (hJ 137 2).toInt ∧ (hJ 137 2).toInt ≤ (h 137 2).toInt + (0)) → mE hJ → mS hJ → mK hJ → W p l e (pRm 4 0 0 107) s m ([.ref (zB Z + 137), .int w, .int left, .int top, .int width, .int tall] : List Value).toArray below meth c H locs 0 0 (MQ below (pQi Z (fun r Z1 h1 => Z = Z1 ∧ Iv Z h1 ∧ agr [(137, 0), (137, 18), (137, 19), (137, 20), (137, 22), (137, 21), (137, 23), (137, 40), (137, 48), (137, 56), (137, 58), (137, 70), (137, 71), (153, 1000), (147, 1000), (148, 1000), (155, 1000), (149, 1000), (152, 1000), (179, 1000), (143, 1000), (186, 1000), (162, 1000), (163, 1000), (165, 1000), (166, 1000), (164, 1000), (167, 1000), (168, 1000), (169, 1000), (170, 1000), (174, 1000), (175, 1000), (176, 1000), (177, 1000), (137, 25), (137, 82), (145, 1000), (146, 1000)] h h1 ∧ (r.toInt = 0 ∨ r.toInt = 1) ∧ (mE h1) ∧ (mS h1) ∧ (mK h1) ∧ ((h 137 25).toInt + (0) ≤ (h1 137 25).toInt ∧ (h1 137 25).toInt ≤ (h 137 25).toInt + (1)) ∧ ((h 137 82).toInt + (0) ≤ (h1 137 82).toInt ∧ (h1 137 82).toInt ≤ (h 137 82).toInt + (2)))) ([.ref (zB Z + 137), .int w, .int left, .int top, .int width, .int tall] : List Value).toArray s 0 0 (pA (zB Z))) (F0 m 71 ls []) := by
    intro hJ H locs ls V I A hl gd_71_56 gd_71_70 gd_71_58 gd_71_25 gd_71_27 gd_71_82 gd_71_83 gd_71_2 E9 S9 K9
    refine lv_aload_n hx hb dX12_window_71 rfl (lv_at hl 0 rfl) ?_
    refine lv_iconst (v := 1) hx hb dX12_window_72 (by decide) ?_
    refine pp_i M V 12 0 (sm_this S) pC12 fk12_0 rfl lkF_X12_175 ⟨rfl, rfl⟩ dX12_window_73 (fun H locs V => ?_)
    have A := A.up (o := 137) (k := 0) (v := (1 : Int32)) (by decide)
    have I := I.up (k := 0) (v := (1 : Int32)) (sm_this S) (pi_full _)
    refine lv_iconst (v := 0) hx hb dX12_window_76 (by decide) ?_
    have k_0 : (0 : Int32).toInt = 0 := rfl
    exact pe_i M V rfl rfl hr hlk (pn_z (pi_z (by omega))).1 ⟨rfl, I, A.wk (by decide), by omega, (E9.congr rfl rfl), (S9.congr rfl rfl rfl rfl rfl rfl rfl), (K9.congr rfl rfl), (show (h 137 25).toInt + (0) ≤ (hJ 137 25).toInt ∧ (hJ 137 25).toInt ≤ (h 137 25).toInt + (1) by omega), (show (h 137 82).toInt + (0) ≤ (hJ 137 82).toInt ∧ (hJ 137 82).toInt ≤ (h 137 82).toInt + (2) by omega)⟩ ⟨Nat.le_refl _, Nat.le_refl _⟩ dX12_window_77
  refine lv_aload_n hx hb dX12_window_0 rfl (lv_at hl 0 rfl) ?_
  refine lv_iconst (v := 0) hx hb dX12_window_1 (by decide) ?_
  refine pp_i M V 12 0 (sm_this S) pC12 fk12_0 rfl lkF_X12_175 ⟨rfl, rfl⟩ dX12_window_2 (fun H locs V => ?_)
  have A := A.wk (l3 := [(137, 0)]) (by decide)
  have A := A.up (o := 137) (k := 0) (v := (0 : Int32)) (by decide)
  have I := I.up (k := 0) (v := (0 : Int32)) (sm_this S) (pi_full _)
  refine lv_iload_n hx hb dX12_window_5 rfl (lv_at hl 1 rfl) ?_
  refine lv_if_lt (tgt := 71) hx hb dX12_window_6 (by decide) (fun c_6 => ?_) (fun c_6 => ?_)
  · skip
    have k_0 : (0 : Int32).toInt = 0 := rfl
    have c_6 := pi_lt.mp c_6
    exact J_71 _ _ _ _ V I (A.wk (by decide)) (lv_sub hl [0, 1, 2, 3, 4, 5] rfl) (show (h 137 56).toInt + (0) ≤ (h 137 56).toInt ∧ (h 137 56).toInt ≤ (h 137 56).toInt + (0) by omega) (show (h 137 70).toInt + (0) ≤ (h 137 70).toInt ∧ (h 137 70).toInt ≤ (h 137 70).toInt + (0) by omega) (show (h 137 58).toInt + (0) ≤ (h 137 58).toInt ∧ (h 137 58).toInt ≤ (h 137 58).toInt + (0) by omega) (show (h 137 25).toInt + (0) ≤ (h 137 25).toInt ∧ (h 137 25).toInt ≤ (h 137 25).toInt + (0) by omega) (show (h 137 27).toInt + (0) ≤ (h 137 27).toInt ∧ (h 137 27).toInt ≤ (h 137 27).toInt + (0) by omega) (show (h 137 82).toInt + (0) ≤ (h 137 82).toInt ∧ (h 137 82).toInt ≤ (h 137 82).toInt + (0) by omega) (show (h 137 83).toInt + (0) ≤ (h 137 83).toInt ∧ (h 137 83).toInt ≤ (h 137 83).toInt + (0) by omega) (show (h 137 2).toInt + (0) ≤ (h 137 2).toInt ∧ (h 137 2).toInt ≤ (h 137 2).toInt + (0) by omega) (E9.congr rfl rfl) (S9.congr rfl rfl rfl rfl rfl rfl rfl) (K9.congr rfl rfl) 
  · skip
    have k_0 : (0 : Int32).toInt = 0 := rfl
    have c_6 := pi_lt' c_6
    refine lv_iload_n hx hb dX12_window_9 rfl (lv_at hl 1 rfl) ?_
    refine lv_bipush (v := 7) hx hb dX12_window_10 (by decide) ?_
    refine lv_icmp_gt (tgt := 71) hx hb dX12_window_12 (by decide) (fun c_12 => ?_) (fun c_12 => ?_)
    · skip
      have k_7 : (7 : Int32).toInt = 7 := rfl
      have c_12 := pi_lt.mp c_12
      exact J_71 _ _ _ _ V I (A.wk (by decide)) (lv_sub hl [0, 1, 2, 3, 4, 5] rfl) (show (h 137 56).toInt + (0) ≤ (h 137 56).toInt ∧ (h 137 56).toInt ≤ (h 137 56).toInt + (0) by omega) (show (h 137 70).toInt + (0) ≤ (h 137 70).toInt ∧ (h 137 70).toInt ≤ (h 137 70).toInt + (0) by omega) (show (h 137 58).toInt + (0) ≤ (h 137 58).toInt ∧ (h 137 58).toInt ≤ (h 137 58).toInt + (0) by omega) (show (h 137 25).toInt + (0) ≤ (h 137 25).toInt ∧ (h 137 25).toInt ≤ (h 137 25).toInt + (0) by omega) (show (h 137 27).toInt + (0) ≤ (h 137 27).toInt ∧ (h 137 27).toInt ≤ (h 137 27).toInt + (0) by omega) (show (h 137 82).toInt + (0) ≤ (h 137 82).toInt ∧ (h 137 82).toInt ≤ (h 137 82).toInt + (0) by omega) (show (h 137 83).toInt + (0) ≤ (h 137 83).toInt ∧ (h 137 83).toInt ≤ (h 137 83).toInt + (0) by omega) (show (h 137 2).toInt + (0) ≤ (h 137 2).toInt ∧ (h 137 2).toInt ≤ (h 137 2).toInt + (0) by omega) (E9.congr rfl rfl) (S9.congr rfl rfl rfl rfl rfl rfl rfl) (K9.congr rfl rfl) 
    · skip
      have k_7 : (7 : Int32).toInt = 7 := rfl
      have c_12 := pi_lt' c_12
      refine lv_iload_n hx hb dX12_window_15 rfl (lv_at hl 2 rfl) ?_
      refine lv_bipush (v := (-100)) hx hb dX12_window_16 (by decide) ?_
      refine lv_icmp_lt (tgt := 71) hx hb dX12_window_18 (by decide) (fun c_18 => ?_) (fun c_18 => ?_)
      · skip
        have k_m100 : (-100 : Int32).toInt = -100 := rfl
        have c_18 := pi_lt.mp c_18
        exact J_71 _ _ _ _ V I (A.wk (by decide)) (lv_sub hl [0, 1, 2, 3, 4, 5] rfl) (show (h 137 56).toInt + (0) ≤ (h 137 56).toInt ∧ (h 137 56).toInt ≤ (h 137 56).toInt + (0) by omega) (show (h 137 70).toInt + (0) ≤ (h 137 70).toInt ∧ (h 137 70).toInt ≤ (h 137 70).toInt + (0) by omega) (show (h 137 58).toInt + (0) ≤ (h 137 58).toInt ∧ (h 137 58).toInt ≤ (h 137 58).toInt + (0) by omega) (show (h 137 25).toInt + (0) ≤ (h 137 25).toInt ∧ (h 137 25).toInt ≤ (h 137 25).toInt + (0) by omega) (show (h 137 27).toInt + (0) ≤ (h 137 27).toInt ∧ (h 137 27).toInt ≤ (h 137 27).toInt + (0) by omega) (show (h 137 82).toInt + (0) ≤ (h 137 82).toInt ∧ (h 137 82).toInt ≤ (h 137 82).toInt + (0) by omega) (show (h 137 83).toInt + (0) ≤ (h 137 83).toInt ∧ (h 137 83).toInt ≤ (h 137 83).toInt + (0) by omega) (show (h 137 2).toInt + (0) ≤ (h 137 2).toInt ∧ (h 137 2).toInt ≤ (h 137 2).toInt + (0) by omega) (E9.congr rfl rfl) (S9.congr rfl rfl rfl rfl rfl rfl rfl) (K9.congr rfl rfl) 
      · skip
        have k_m100 : (-100 : Int32).toInt = -100 := rfl
        have c_18 := pi_lt' c_18
        refine lv_iload_n hx hb dX12_window_21 rfl (lv_at hl 2 rfl) ?_
        refine lv_sipush (v := 999) hx hb dX12_window_22 (by decide) ?_
        refine lv_icmp_gt (tgt := 71) hx hb dX12_window_25 (by decide) (fun c_25 => ?_) (fun c_25 => ?_)
        · skip
          have k_999 : (999 : Int32).toInt = 999 := rfl
          have c_25 := pi_lt.mp c_25
          exact J_71 _ _ _ _ V I (A.wk (by decide)) (lv_sub hl [0, 1, 2, 3, 4, 5] rfl) (show (h 137 56).toInt + (0) ≤ (h 137 56).toInt ∧ (h 137 56).toInt ≤ (h 137 56).toInt + (0) by omega) (show (h 137 70).toInt + (0) ≤ (h 137 70).toInt ∧ (h 137 70).toInt ≤ (h 137 70).toInt + (0) by omega) (show (h 137 58).toInt + (0) ≤ (h 137 58).toInt ∧ (h 137 58).toInt ≤ (h 137 58).toInt + (0) by omega) (show (h 137 25).toInt + (0) ≤ (h 137 25).toInt ∧ (h 137 25).toInt ≤ (h 137 25).toInt + (0) by omega) (show (h 137 27).toInt + (0) ≤ (h 137 27).toInt ∧ (h 137 27).toInt ≤ (h 137 27).toInt + (0) by omega) (show (h 137 82).toInt + (0) ≤ (h 137 82).toInt ∧ (h 137 82).toInt ≤ (h 137 82).toInt + (0) by omega) (show (h 137 83).toInt + (0) ≤ (h 137 83).toInt ∧ (h 137 83).toInt ≤ (h 137 83).toInt + (0) by omega) (show (h 137 2).toInt + (0) ≤ (h 137 2).toInt ∧ (h 137 2).toInt ≤ (h 137 2).toInt + (0) by omega) (E9.congr rfl rfl) (S9.congr rfl rfl rfl rfl rfl rfl rfl) (K9.congr rfl rfl) 
        · skip
          have k_999 : (999 : Int32).toInt = 999 := rfl
          have c_25 := pi_lt' c_25
          refine lv_iload_n hx hb dX12_window_28 rfl (lv_at hl 3 rfl) ?_
          refine lv_bipush (v := (-100)) hx hb dX12_window_29 (by decide) ?_
          refine lv_icmp_lt (tgt := 71) hx hb dX12_window_31 (by decide) (fun c_31 => ?_) (fun c_31 => ?_)
          · skip
            have c_31 := pi_lt.mp c_31
            exact J_71 _ _ _ _ V I (A.wk (by decide)) (lv_sub hl [0, 1, 2, 3, 4, 5] rfl) (show (h 137 56).toInt + (0) ≤ (h 137 56).toInt ∧ (h 137 56).toInt ≤ (h 137 56).toInt + (0) by omega) (show (h 137 70).toInt + (0) ≤ (h 137 70).toInt ∧ (h 137 70).toInt ≤ (h 137 70).toInt + (0) by omega) (show (h 137 58).toInt + (0) ≤ (h 137 58).toInt ∧ (h 137 58).toInt ≤ (h 137 58).toInt + (0) by omega) (show (h 137 25).toInt + (0) ≤ (h 137 25).toInt ∧ (h 137 25).toInt ≤ (h 137 25).toInt + (0) by omega) (show (h 137 27).toInt + (0) ≤ (h 137 27).toInt ∧ (h 137 27).toInt ≤ (h 137 27).toInt + (0) by omega) (show (h 137 82).toInt + (0) ≤ (h 137 82).toInt ∧ (h 137 82).toInt ≤ (h 137 82).toInt + (0) by omega) (show (h 137 83).toInt + (0) ≤ (h 137 83).toInt ∧ (h 137 83).toInt ≤ (h 137 83).toInt + (0) by omega) (show (h 137 2).toInt + (0) ≤ (h 137 2).toInt ∧ (h 137 2).toInt ≤ (h 137 2).toInt + (0) by omega) (E9.congr rfl rfl) (S9.congr rfl rfl rfl rfl rfl rfl rfl) (K9.congr rfl rfl) 
          · skip
            have c_31 := pi_lt' c_31
            refine lv_iload_n hx hb dX12_window_34 rfl (lv_at hl 3 rfl) ?_
            refine lv_sipush (v := 999) hx hb dX12_window_35 (by decide) ?_
            refine lv_icmp_gt (tgt := 71) hx hb dX12_window_38 (by decide) (fun c_38 => ?_) (fun c_38 => ?_)
            · skip
              have c_38 := pi_lt.mp c_38
              exact J_71 _ _ _ _ V I (A.wk (by decide)) (lv_sub hl [0, 1, 2, 3, 4, 5] rfl) (show (h 137 56).toInt + (0) ≤ (h 137 56).toInt ∧ (h 137 56).toInt ≤ (h 137 56).toInt + (0) by omega) (show (h 137 70).toInt + (0) ≤ (h 137 70).toInt ∧ (h 137 70).toInt ≤ (h 137 70).toInt + (0) by omega) (show (h 137 58).toInt + (0) ≤ (h 137 58).toInt ∧ (h 137 58).toInt ≤ (h 137 58).toInt + (0) by omega) (show (h 137 25).toInt + (0) ≤ (h 137 25).toInt ∧ (h 137 25).toInt ≤ (h 137 25).toInt + (0) by omega) (show (h 137 27).toInt + (0) ≤ (h 137 27).toInt ∧ (h 137 27).toInt ≤ (h 137 27).toInt + (0) by omega) (show (h 137 82).toInt + (0) ≤ (h 137 82).toInt ∧ (h 137 82).toInt ≤ (h 137 82).toInt + (0) by omega) (show (h 137 83).toInt + (0) ≤ (h 137 83).toInt ∧ (h 137 83).toInt ≤ (h 137 83).toInt + (0) by omega) (show (h 137 2).toInt + (0) ≤ (h 137 2).toInt ∧ (h 137 2).toInt ≤ (h 137 2).toInt + (0) by omega) (E9.congr rfl rfl) (S9.congr rfl rfl rfl rfl rfl rfl rfl) (K9.congr rfl rfl) 
            · skip
              have c_38 := pi_lt' c_38
              refine lv_iload hx hb dX12_window_41 (lv_at hl 4 rfl) ?_
              refine lv_bipush (v := 40) hx hb dX12_window_43 (by decide) ?_
              refine lv_icmp_lt (tgt := 71) hx hb dX12_window_45 (by decide) (fun c_45 => ?_) (fun c_45 => ?_)
              · skip
                have k_40 : (40 : Int32).toInt = 40 := rfl
                have c_45 := pi_lt.mp c_45
                exact J_71 _ _ _ _ V I (A.wk (by decide)) (lv_sub hl [0, 1, 2, 3, 4, 5] rfl) (show (h 137 56).toInt + (0) ≤ (h 137 56).toInt ∧ (h 137 56).toInt ≤ (h 137 56).toInt + (0) by omega) (show (h 137 70).toInt + (0) ≤ (h 137 70).toInt ∧ (h 137 70).toInt ≤ (h 137 70).toInt + (0) by omega) (show (h 137 58).toInt + (0) ≤ (h 137 58).toInt ∧ (h 137 58).toInt ≤ (h 137 58).toInt + (0) by omega) (show (h 137 25).toInt + (0) ≤ (h 137 25).toInt ∧ (h 137 25).toInt ≤ (h 137 25).toInt + (0) by omega) (show (h 137 27).toInt + (0) ≤ (h 137 27).toInt ∧ (h 137 27).toInt ≤ (h 137 27).toInt + (0) by omega) (show (h 137 82).toInt + (0) ≤ (h 137 82).toInt ∧ (h 137 82).toInt ≤ (h 137 82).toInt + (0) by omega) (show (h 137 83).toInt + (0) ≤ (h 137 83).toInt ∧ (h 137 83).toInt ≤ (h 137 83).toInt + (0) by omega) (show (h 137 2).toInt + (0) ≤ (h 137 2).toInt ∧ (h 137 2).toInt ≤ (h 137 2).toInt + (0) by omega) (E9.congr rfl rfl) (S9.congr rfl rfl rfl rfl rfl rfl rfl) (K9.congr rfl rfl) 
              · skip
                have k_40 : (40 : Int32).toInt = 40 := rfl
                have c_45 := pi_lt' c_45
                refine lv_iload hx hb dX12_window_48 (lv_at hl 4 rfl) ?_
                refine lv_sipush (v := 400) hx hb dX12_window_50 (by decide) ?_
                refine lv_icmp_gt (tgt := 71) hx hb dX12_window_53 (by decide) (fun c_53 => ?_) (fun c_53 => ?_)
                · skip
                  have k_400 : (400 : Int32).toInt = 400 := rfl
                  have c_53 := pi_lt.mp c_53
                  exact J_71 _ _ _ _ V I (A.wk (by decide)) (lv_sub hl [0, 1, 2, 3, 4, 5] rfl) (show (h 137 56).toInt + (0) ≤ (h 137 56).toInt ∧ (h 137 56).toInt ≤ (h 137 56).toInt + (0) by omega) (show (h 137 70).toInt + (0) ≤ (h 137 70).toInt ∧ (h 137 70).toInt ≤ (h 137 70).toInt + (0) by omega) (show (h 137 58).toInt + (0) ≤ (h 137 58).toInt ∧ (h 137 58).toInt ≤ (h 137 58).toInt + (0) by omega) (show (h 137 25).toInt + (0) ≤ (h 137 25).toInt ∧ (h 137 25).toInt ≤ (h 137 25).toInt + (0) by omega) (show (h 137 27).toInt + (0) ≤ (h 137 27).toInt ∧ (h 137 27).toInt ≤ (h 137 27).toInt + (0) by omega) (show (h 137 82).toInt + (0) ≤ (h 137 82).toInt ∧ (h 137 82).toInt ≤ (h 137 82).toInt + (0) by omega) (show (h 137 83).toInt + (0) ≤ (h 137 83).toInt ∧ (h 137 83).toInt ≤ (h 137 83).toInt + (0) by omega) (show (h 137 2).toInt + (0) ≤ (h 137 2).toInt ∧ (h 137 2).toInt ≤ (h 137 2).toInt + (0) by omega) (E9.congr rfl rfl) (S9.congr rfl rfl rfl rfl rfl rfl rfl) (K9.congr rfl rfl) 
                · skip
                  have k_400 : (400 : Int32).toInt = 400 := rfl
                  have c_53 := pi_lt' c_53
                  refine lv_iload hx hb dX12_window_56 (lv_at hl 5 rfl) ?_
                  refine lv_bipush (v := 30) hx hb dX12_window_58 (by decide) ?_
                  refine lv_icmp_lt (tgt := 71) hx hb dX12_window_60 (by decide) (fun c_60 => ?_) (fun c_60 => ?_)
                  · skip
                    have k_30 : (30 : Int32).toInt = 30 := rfl
                    have c_60 := pi_lt.mp c_60
                    exact J_71 _ _ _ _ V I (A.wk (by decide)) (lv_sub hl [0, 1, 2, 3, 4, 5] rfl) (show (h 137 56).toInt + (0) ≤ (h 137 56).toInt ∧ (h 137 56).toInt ≤ (h 137 56).toInt + (0) by omega) (show (h 137 70).toInt + (0) ≤ (h 137 70).toInt ∧ (h 137 70).toInt ≤ (h 137 70).toInt + (0) by omega) (show (h 137 58).toInt + (0) ≤ (h 137 58).toInt ∧ (h 137 58).toInt ≤ (h 137 58).toInt + (0) by omega) (show (h 137 25).toInt + (0) ≤ (h 137 25).toInt ∧ (h 137 25).toInt ≤ (h 137 25).toInt + (0) by omega) (show (h 137 27).toInt + (0) ≤ (h 137 27).toInt ∧ (h 137 27).toInt ≤ (h 137 27).toInt + (0) by omega) (show (h 137 82).toInt + (0) ≤ (h 137 82).toInt ∧ (h 137 82).toInt ≤ (h 137 82).toInt + (0) by omega) (show (h 137 83).toInt + (0) ≤ (h 137 83).toInt ∧ (h 137 83).toInt ≤ (h 137 83).toInt + (0) by omega) (show (h 137 2).toInt + (0) ≤ (h 137 2).toInt ∧ (h 137 2).toInt ≤ (h 137 2).toInt + (0) by omega) (E9.congr rfl rfl) (S9.congr rfl rfl rfl rfl rfl rfl rfl) (K9.congr rfl rfl) 
                  · skip
                    have k_30 : (30 : Int32).toInt = 30 := rfl
                    have c_60 := pi_lt' c_60
                    refine lv_iload hx hb dX12_window_63 (lv_at hl 5 rfl) ?_
                    refine lv_sipush (v := 400) hx hb dX12_window_65 (by decide) ?_
                    refine lv_icmp_le (tgt := 78) hx hb dX12_window_68 (by decide) (fun c_68 => ?_) (fun c_68 => ?_)
                    · skip
                      have c_68 := pi_le.mp c_68
                      refine lv_aload_n hx hb dX12_window_78 rfl (lv_at hl 0 rfl) ?_
                      refine pg_i M V 12 18 (sm_this S) pC12 fk12_18 lkF_X12_236 dX12_window_79 ?_
                      refine lv_topi (fun v4 ev4 => ?_)
                      have tv4 : 0 ≤ v4.toInt ∧ v4.toInt ≤ 1 := by rw [ev4]; exact I.get (sm_this S) 18
                      refine lv_if_eq (tgt := 101) hx hb dX12_window_82 (by decide) (fun c_82 => ?_) (fun c_82 => ?_)
                      · skip
                        have c_82 := pi_eq.mp c_82
                        exact J_101 _ _ _ _ V I (A.wk (by decide)) (lv_sub hl [0, 1, 2, 3, 4, 5] rfl) (by omega) (by omega) (by omega) (by omega) (by omega) (show (h 137 56).toInt + (0) ≤ (h 137 56).toInt ∧ (h 137 56).toInt ≤ (h 137 56).toInt + (0) by omega) (show (h 137 70).toInt + (0) ≤ (h 137 70).toInt ∧ (h 137 70).toInt ≤ (h 137 70).toInt + (0) by omega) (show (h 137 58).toInt + (0) ≤ (h 137 58).toInt ∧ (h 137 58).toInt ≤ (h 137 58).toInt + (0) by omega) (show (h 137 25).toInt + (0) ≤ (h 137 25).toInt ∧ (h 137 25).toInt ≤ (h 137 25).toInt + (0) by omega) (show (h 137 27).toInt + (0) ≤ (h 137 27).toInt ∧ (h 137 27).toInt ≤ (h 137 27).toInt + (0) by omega) (show (h 137 82).toInt + (0) ≤ (h 137 82).toInt ∧ (h 137 82).toInt ≤ (h 137 82).toInt + (0) by omega) (show (h 137 83).toInt + (0) ≤ (h 137 83).toInt ∧ (h 137 83).toInt ≤ (h 137 83).toInt + (0) by omega) (show (h 137 2).toInt + (0) ≤ (h 137 2).toInt ∧ (h 137 2).toInt ≤ (h 137 2).toInt + (0) by omega) (E9.congr rfl rfl) (S9.congr rfl rfl rfl rfl rfl rfl rfl) (K9.congr rfl rfl) 
                      · skip
                        have c_82 := pi_ne c_82
                        refine lv_aload_n hx hb dX12_window_85 rfl (lv_at hl 0 rfl) ?_
                        refine pg_i M V 12 56 (sm_this S) pC12 fk12_56 lkF_X12_279 dX12_window_86 ?_
                        refine lv_topi (fun v5 ev5 => ?_)
                        have tv5 : 0 ≤ v5.toInt ∧ v5.toInt ≤ 40 := by rw [ev5]; exact I.get (sm_this S) 56
                        have uv5 : v5.toInt = (h 137 56).toInt := congrArg Int32.toInt ev5
                        refine lv_if_gt (tgt := 101) hx hb dX12_window_89 (by decide) (fun c_89 => ?_) (fun c_89 => ?_)
                        · skip
                          have c_89 := pi_lt.mp c_89
                          exact J_101 _ _ _ _ V I (A.wk (by decide)) (lv_sub hl [0, 1, 2, 3, 4, 5] rfl) (by omega) (by omega) (by omega) (by omega) (by omega) (show (h 137 56).toInt + (0) ≤ (h 137 56).toInt ∧ (h 137 56).toInt ≤ (h 137 56).toInt + (0) by omega) (show (h 137 70).toInt + (0) ≤ (h 137 70).toInt ∧ (h 137 70).toInt ≤ (h 137 70).toInt + (0) by omega) (show (h 137 58).toInt + (0) ≤ (h 137 58).toInt ∧ (h 137 58).toInt ≤ (h 137 58).toInt + (0) by omega) (show (h 137 25).toInt + (0) ≤ (h 137 25).toInt ∧ (h 137 25).toInt ≤ (h 137 25).toInt + (0) by omega) (show (h 137 27).toInt + (0) ≤ (h 137 27).toInt ∧ (h 137 27).toInt ≤ (h 137 27).toInt + (0) by omega) (show (h 137 82).toInt + (0) ≤ (h 137 82).toInt ∧ (h 137 82).toInt ≤ (h 137 82).toInt + (0) by omega) (show (h 137 83).toInt + (0) ≤ (h 137 83).toInt ∧ (h 137 83).toInt ≤ (h 137 83).toInt + (0) by omega) (show (h 137 2).toInt + (0) ≤ (h 137 2).toInt ∧ (h 137 2).toInt ≤ (h 137 2).toInt + (0) by omega) (E9.congr rfl rfl) (S9.congr rfl rfl rfl rfl rfl rfl rfl) (K9.congr rfl rfl) 
                        · skip
                          have c_89 := pi_lt' c_89
                          refine lv_aload_n hx hb dX12_window_92 rfl (lv_at hl 0 rfl) ?_
                          refine pg_r M V 12 37 (sm_this S) pC12 fk12_37 (sm_here S).2.2 lkF_X12_60 dX12_window_93 ?_
                          refine lv_iload_n hx hb dX12_window_96 rfl (lv_at hl 1 rfl) ?_
                          refine pa_z M V (sm_here S).1 (by rw [(sm_here S).2.1]; exact pi_in (by omega)) dX12_window_97 ?_
                          refine lv_topi (fun v6 ev6 => ?_)
                          have tv6 : 0 ≤ v6.toInt ∧ v6.toInt ≤ 1 := by rw [ev6]; exact I.get (sm_here S).1 _
                          refine lv_if_eq (tgt := 115) hx hb dX12_window_98 (by decide) (fun c_98 => ?_) (fun c_98 => ?_)
                          · skip
                            have c_98 := pi_eq.mp c_98
                            refine lv_aload_n hx hb dX12_window_115 rfl (lv_at hl 0 rfl) ?_
                            refine pg_r M V 12 39 (sm_this S) pC12 fk12_39 (sm_known S).2.2 lkF_X12_66 dX12_window_116 ?_
                            refine lv_iload_n hx hb dX12_window_119 rfl (lv_at hl 1 rfl) ?_
                            refine pa_z M V (sm_known S).1 (by rw [(sm_known S).2.1]; exact pi_in (by omega)) dX12_window_120 ?_
                            refine lv_topi (fun v7 ev7 => ?_)
                            have tv7 : 0 ≤ v7.toInt ∧ v7.toInt ≤ 1 := by rw [ev7]; exact I.get (sm_known S).1 _
                            refine lv_if_ne (tgt := 138) hx hb dX12_window_121 (by decide) (fun c_121 => ?_) (fun c_121 => ?_)
                            · skip
                              have c_121 := pi_ne c_121
                              exact J_138 _ _ _ _ V I (A.wk (by decide)) (lv_sub hl [0, 1, 2, 3, 4, 5] rfl) (by omega) (by omega) (by omega) (by omega) (by omega) (show (h 137 56).toInt + (0) ≤ (h 137 56).toInt ∧ (h 137 56).toInt ≤ (h 137 56).toInt + (0) by omega) (show (h 137 70).toInt + (0) ≤ (h 137 70).toInt ∧ (h 137 70).toInt ≤ (h 137 70).toInt + (0) by omega) (show (h 137 58).toInt + (0) ≤ (h 137 58).toInt ∧ (h 137 58).toInt ≤ (h 137 58).toInt + (0) by omega) (show (h 137 25).toInt + (0) ≤ (h 137 25).toInt ∧ (h 137 25).toInt ≤ (h 137 25).toInt + (0) by omega) (show (h 137 27).toInt + (0) ≤ (h 137 27).toInt ∧ (h 137 27).toInt ≤ (h 137 27).toInt + (0) by omega) (show (h 137 82).toInt + (0) ≤ (h 137 82).toInt ∧ (h 137 82).toInt ≤ (h 137 82).toInt + (0) by omega) (show (h 137 83).toInt + (0) ≤ (h 137 83).toInt ∧ (h 137 83).toInt ≤ (h 137 83).toInt + (0) by omega) (show (h 137 2).toInt + (0) ≤ (h 137 2).toInt ∧ (h 137 2).toInt ≤ (h 137 2).toInt + (0) by omega) (show (h 137 56).toInt = 0 by omega) (E9.congr rfl rfl) (S9.congr rfl rfl rfl rfl rfl rfl rfl) (K9.congr rfl rfl) 
                            · skip
                              have c_121 := pi_eq.mp c_121
                              refine lv_aload_n hx hb dX12_window_124 rfl (lv_at hl 0 rfl) ?_
                              refine pg_r M V 12 29 (sm_this S) pC12 fk12_29 (sm_x S).2.2 lkF_X12_36 dX12_window_125 ?_
                              refine lv_iload_n hx hb dX12_window_128 rfl (lv_at hl 1 rfl) ?_
                              refine lv_iload_n hx hb dX12_window_129 rfl (lv_at hl 2 rfl) ?_
                              refine ps_i M V (sm_x S).1 (by rw [(sm_x S).2.1]; exact pi_in (by omega)) dX12_window_130 (fun H locs V => ?_)
                              have A := A.wk (l3 := [(137, 0), (145, 1000)]) (by decide)
                              have A := A.upA (o := 145) (k := w.toNatClampNeg) (v := left) (by decide)
                              have I := I.up (k := w.toNatClampNeg) (v := left) (sm_x S).1 (pi_full _)
                              refine lv_aload_n hx hb dX12_window_131 rfl (lv_at hl 0 rfl) ?_
                              refine pg_r M V 12 30 (sm_this S) pC12 fk12_30 (sm_y S).2.2 lkF_X12_39 dX12_window_132 ?_
                              refine lv_iload_n hx hb dX12_window_135 rfl (lv_at hl 1 rfl) ?_
                              refine lv_iload_n hx hb dX12_window_136 rfl (lv_at hl 3 rfl) ?_
                              refine ps_i M V (sm_y S).1 (by rw [(sm_y S).2.1]; exact pi_in (by omega)) dX12_window_137 (fun H locs V => ?_)
                              have A := A.wk (l3 := [(137, 0), (145, 1000), (146, 1000)]) (by decide)
                              have A := A.upA (o := 146) (k := w.toNatClampNeg) (v := top) (by decide)
                              have I := I.up (k := w.toNatClampNeg) (v := top) (sm_y S).1 (pi_full _)
                              exact J_138 _ _ _ _ V I (A.wk (by decide)) (lv_sub hl [0, 1, 2, 3, 4, 5] rfl) (by omega) (by omega) (by omega) (by omega) (by omega) (show (h 137 56).toInt + (0) ≤ (h 137 56).toInt ∧ (h 137 56).toInt ≤ (h 137 56).toInt + (0) by omega) (show (h 137 70).toInt + (0) ≤ (h 137 70).toInt ∧ (h 137 70).toInt ≤ (h 137 70).toInt + (0) by omega) (show (h 137 58).toInt + (0) ≤ (h 137 58).toInt ∧ (h 137 58).toInt ≤ (h 137 58).toInt + (0) by omega) (show (h 137 25).toInt + (0) ≤ (h 137 25).toInt ∧ (h 137 25).toInt ≤ (h 137 25).toInt + (0) by omega) (show (h 137 27).toInt + (0) ≤ (h 137 27).toInt ∧ (h 137 27).toInt ≤ (h 137 27).toInt + (0) by omega) (show (h 137 82).toInt + (0) ≤ (h 137 82).toInt ∧ (h 137 82).toInt ≤ (h 137 82).toInt + (0) by omega) (show (h 137 83).toInt + (0) ≤ (h 137 83).toInt ∧ (h 137 83).toInt ≤ (h 137 83).toInt + (0) by omega) (show (h 137 2).toInt + (0) ≤ (h 137 2).toInt ∧ (h 137 2).toInt ≤ (h 137 2).toInt + (0) by omega) (show (h 137 56).toInt = 0 by omega) (E9.congr rfl rfl) (S9.congr rfl rfl rfl rfl rfl rfl rfl) (K9.congr rfl rfl) 
                          · skip
                            have c_98 := pi_ne c_98
                            exact J_101 _ _ _ _ V I (A.wk (by decide)) (lv_sub hl [0, 1, 2, 3, 4, 5] rfl) (by omega) (by omega) (by omega) (by omega) (by omega) (show (h 137 56).toInt + (0) ≤ (h 137 56).toInt ∧ (h 137 56).toInt ≤ (h 137 56).toInt + (0) by omega) (show (h 137 70).toInt + (0) ≤ (h 137 70).toInt ∧ (h 137 70).toInt ≤ (h 137 70).toInt + (0) by omega) (show (h 137 58).toInt + (0) ≤ (h 137 58).toInt ∧ (h 137 58).toInt ≤ (h 137 58).toInt + (0) by omega) (show (h 137 25).toInt + (0) ≤ (h 137 25).toInt ∧ (h 137 25).toInt ≤ (h 137 25).toInt + (0) by omega) (show (h 137 27).toInt + (0) ≤ (h 137 27).toInt ∧ (h 137 27).toInt ≤ (h 137 27).toInt + (0) by omega) (show (h 137 82).toInt + (0) ≤ (h 137 82).toInt ∧ (h 137 82).toInt ≤ (h 137 82).toInt + (0) by omega) (show (h 137 83).toInt + (0) ≤ (h 137 83).toInt ∧ (h 137 83).toInt ≤ (h 137 83).toInt + (0) by omega) (show (h 137 2).toInt + (0) ≤ (h 137 2).toInt ∧ (h 137 2).toInt ≤ (h 137 2).toInt + (0) by omega) (E9.congr rfl rfl) (S9.congr rfl rfl rfl rfl rfl rfl rfl) (K9.congr rfl rfl) 
                    · skip
                      have c_68 := pi_le' c_68
                      exact J_71 _ _ _ _ V I (A.wk (by decide)) (lv_sub hl [0, 1, 2, 3, 4, 5] rfl) (show (h 137 56).toInt + (0) ≤ (h 137 56).toInt ∧ (h 137 56).toInt ≤ (h 137 56).toInt + (0) by omega) (show (h 137 70).toInt + (0) ≤ (h 137 70).toInt ∧ (h 137 70).toInt ≤ (h 137 70).toInt + (0) by omega) (show (h 137 58).toInt + (0) ≤ (h 137 58).toInt ∧ (h 137 58).toInt ≤ (h 137 58).toInt + (0) by omega) (show (h 137 25).toInt + (0) ≤ (h 137 25).toInt ∧ (h 137 25).toInt ≤ (h 137 25).toInt + (0) by omega) (show (h 137 27).toInt + (0) ≤ (h 137 27).toInt ∧ (h 137 27).toInt ≤ (h 137 27).toInt + (0) by omega) (show (h 137 82).toInt + (0) ≤ (h 137 82).toInt ∧ (h 137 82).toInt ≤ (h 137 82).toInt + (0) by omega) (show (h 137 83).toInt + (0) ≤ (h 137 83).toInt ∧ (h 137 83).toInt ≤ (h 137 83).toInt + (0) by omega) (show (h 137 2).toInt + (0) ≤ (h 137 2).toInt ∧ (h 137 2).toInt ≤ (h 137 2).toInt + (0) by omega) (E9.congr rfl rfl) (S9.congr rfl rfl rfl rfl rfl rfl rfl) (K9.congr rfl rfl) 
theorem dX12_popup_0 : decode cX12_popup 0 = .ok (.aload_n 0, 1) := by decide +kernel
theorem dX12_popup_1 : decode cX12_popup 1 = .ok (.aload_n 0, 1) := by decide +kernel
theorem dX12_popup_2 : decode cX12_popup 2 = .ok (.iload_n 1, 1) := by decide +kernel
theorem dX12_popup_3 : decode cX12_popup 3 = .ok (.invokevirtual 343, 3) := by decide +kernel
theorem dX12_popup_6 : decode cX12_popup 6 = .ok (.ifCond .eq 29, 3) := by decide +kernel
theorem dX12_popup_9 : decode cX12_popup 9 = .ok (.iload_n 2, 1) := by decide +kernel
theorem dX12_popup_10 : decode cX12_popup 10 = .ok (.bipush 40, 2) := by decide +kernel
theorem dX12_popup_12 : decode cX12_popup 12 = .ok (.if_icmp .lt 23, 3) := by decide +kernel
theorem dX12_popup_15 : decode cX12_popup 15 = .ok (.iload_n 2, 1) := by decide +kernel
theorem dX12_popup_16 : decode cX12_popup 16 = .ok (.sipush 400, 3) := by decide +kernel
theorem dX12_popup_19 : decode cX12_popup 19 = .ok (.if_icmp .gt 16, 3) := by decide +kernel
theorem dX12_popup_22 : decode cX12_popup 22 = .ok (.iload_n 3, 1) := by decide +kernel
theorem dX12_popup_23 : decode cX12_popup 23 = .ok (.bipush 30, 2) := by decide +kernel
theorem dX12_popup_25 : decode cX12_popup 25 = .ok (.if_icmp .lt 10, 3) := by decide +kernel
theorem dX12_popup_28 : decode cX12_popup 28 = .ok (.iload_n 3, 1) := by decide +kernel
theorem dX12_popup_29 : decode cX12_popup 29 = .ok (.sipush 400, 3) := by decide +kernel
theorem dX12_popup_32 : decode cX12_popup 32 = .ok (.if_icmp .le 7, 3) := by decide +kernel
theorem dX12_popup_35 : decode cX12_popup 35 = .ok (.iconst 1, 1) := by decide +kernel
theorem dX12_popup_36 : decode cX12_popup 36 = .ok (.goto 4, 3) := by decide +kernel
theorem dX12_popup_39 : decode cX12_popup 39 = .ok (.iconst 0, 1) := by decide +kernel
theorem dX12_popup_40 : decode cX12_popup 40 = .ok (.putfield 175, 3) := by decide +kernel
theorem dX12_popup_43 : decode cX12_popup 43 = .ok (.aload_n 0, 1) := by decide +kernel
theorem dX12_popup_44 : decode cX12_popup 44 = .ok (.getfield 175, 3) := by decide +kernel
theorem dX12_popup_47 : decode cX12_popup 47 = .ok (.ifCond .le 5, 3) := by decide +kernel
theorem dX12_popup_50 : decode cX12_popup 50 = .ok (.iconst 0, 1) := by decide +kernel
theorem dX12_popup_51 : decode cX12_popup 51 = .ok (.ireturn, 1) := by decide +kernel
theorem dX12_popup_52 : decode cX12_popup 52 = .ok (.aload_n 0, 1) := by decide +kernel
theorem dX12_popup_53 : decode cX12_popup 53 = .ok (.getfield 236, 3) := by decide +kernel
theorem dX12_popup_56 : decode cX12_popup 56 = .ok (.ifCond .eq 20, 3) := by decide +kernel
theorem dX12_popup_59 : decode cX12_popup 59 = .ok (.aload_n 0, 1) := by decide +kernel
theorem dX12_popup_60 : decode cX12_popup 60 = .ok (.getfield 279, 3) := by decide +kernel
theorem dX12_popup_63 : decode cX12_popup 63 = .ok (.ifCond .gt 13, 3) := by decide +kernel
theorem dX12_popup_66 : decode cX12_popup 66 = .ok (.aload_n 0, 1) := by decide +kernel
theorem dX12_popup_67 : decode cX12_popup 67 = .ok (.getfield 60, 3) := by decide +kernel
theorem dX12_popup_70 : decode cX12_popup 70 = .ok (.bipush 8, 2) := by decide +kernel
theorem dX12_popup_72 : decode cX12_popup 72 = .ok (.baload, 1) := by decide +kernel
theorem dX12_popup_73 : decode cX12_popup 73 = .ok (.ifCond .eq 17, 3) := by decide +kernel
theorem dX12_popup_76 : decode cX12_popup 76 = .ok (.aload_n 0, 1) := by decide +kernel
theorem dX12_popup_77 : decode cX12_popup 77 = .ok (.iconst 2, 1) := by decide +kernel
theorem dX12_popup_78 : decode cX12_popup 78 = .ok (.invokevirtual 297, 3) := by decide +kernel
theorem dX12_popup_81 : decode cX12_popup 81 = .ok (.ifCond .le 7, 3) := by decide +kernel
theorem dX12_popup_84 : decode cX12_popup 84 = .ok (.iconst 1, 1) := by decide +kernel
theorem dX12_popup_85 : decode cX12_popup 85 = .ok (.goto 4, 3) := by decide +kernel
theorem dX12_popup_88 : decode cX12_popup 88 = .ok (.iconst 0, 1) := by decide +kernel
theorem dX12_popup_89 : decode cX12_popup 89 = .ok (.ireturn, 1) := by decide +kernel
theorem dX12_popup_90 : decode cX12_popup 90 = .ok (.aload_n 0, 1) := by decide +kernel
theorem dX12_popup_91 : decode cX12_popup 91 = .ok (.getfield 69, 3) := by decide +kernel
theorem dX12_popup_94 : decode cX12_popup 94 = .ok (.iload_n 1, 1) := by decide +kernel
theorem dX12_popup_95 : decode cX12_popup 95 = .ok (.if_icmp .eq 5, 3) := by decide +kernel
theorem dX12_popup_98 : decode cX12_popup 98 = .ok (.iconst 0, 1) := by decide +kernel
theorem dX12_popup_99 : decode cX12_popup 99 = .ok (.ireturn, 1) := by decide +kernel
theorem dX12_popup_100 : decode cX12_popup 100 = .ok (.aload_n 0, 1) := by decide +kernel
theorem dX12_popup_101 : decode cX12_popup 101 = .ok (.bipush 8, 2) := by decide +kernel
theorem dX12_popup_103 : decode cX12_popup 103 = .ok (.iload_n 2, 1) := by decide +kernel
theorem dX12_popup_104 : decode cX12_popup 104 = .ok (.iload_n 3, 1) := by decide +kernel
theorem dX12_popup_105 : decode cX12_popup 105 = .ok (.invokevirtual 340, 3) := by decide +kernel
theorem dX12_popup_108 : decode cX12_popup 108 = .ok (.iconst 1, 1) := by decide +kernel
theorem dX12_popup_109 : decode cX12_popup 109 = .ok (.ireturn, 1) := by decide +kernel
set_option maxHeartbeats 4000000 in
set_option maxRecDepth 100000 in
theorem m_X12_popup (l : Launch) {Z : pZ} (S : pSh Z) {h : pH} (I : Iv Z h) (label : Int32) (width : Int32) (tall : Int32) (E9 : mE h) (S9 : mS h) (K9 : mK h) (ht : (h 137 25).toInt ≤ 599) (hb9 : (h 137 27).toInt ≤ 599) (hq : (h 137 82).toInt ≤ 6980) : pMet l yX12_popup cX12_popup 4 (some .boolean) 4 0 0 107 Z h [.ref (zB Z + 137), .int label, .int width, .int tall] (pQi Z (fun r Z1 h1 => Z = Z1 ∧ Iv Z h1 ∧ agr [(137, 0), (137, 18), (137, 19), (137, 20), (137, 22), (137, 21), (137, 23), (137, 40), (137, 48), (137, 56), (137, 58), (137, 70), (137, 71), (153, 1000), (147, 1000), (148, 1000), (155, 1000), (149, 1000), (152, 1000), (179, 1000), (143, 1000), (186, 1000), (162, 1000), (163, 1000), (165, 1000), (166, 1000), (164, 1000), (167, 1000), (168, 1000), (169, 1000), (170, 1000), (174, 1000), (175, 1000), (176, 1000), (177, 1000), (137, 25), (137, 82)] h h1 ∧ (r.toInt = 0 ∨ r.toInt = 1) ∧ (mE h1) ∧ (mS h1) ∧ (mK h1) ∧ ((h 137 25).toInt + (0) ≤ (h1 137 25).toInt ∧ (h1 137 25).toInt ≤ (h 137 25).toInt + (1)) ∧ ((h 137 82).toInt + (0) ≤ (h1 137 82).toInt ∧ (h1 137 82).toInt ≤ (h 137 82).toInt + (2)))) := by
  refine pOfW (lv := [(0, .ref (zB Z + 137)), (1, .int label), (2, .int width), (3, .int tall)]) (by decide) (Nat.le_of_ble_eq_true rfl) rfl ?_
  intro p e s m below meth c ls M hr hlk hnm V hl
  have hx := M.1.1
  have hb := M.1.2.1
  have A : agr [] h h := agr.rf
  have i_56 : 0 ≤ (h 137 56).toInt ∧ (h 137 56).toInt ≤ 40 := I.get (sm_this S) 56
  have i_70 : 0 ≤ (h 137 70).toInt ∧ (h 137 70).toInt ≤ 40 := I.get (sm_this S) 70
  have i_58 : 0 ≤ (h 137 58).toInt ∧ (h 137 58).toInt ≤ 40 := I.get (sm_this S) 58
  have i_25 : 0 ≤ (h 137 25).toInt ∧ (h 137 25).toInt ≤ 600 := I.get (sm_this S) 25
  have i_27 : 0 ≤ (h 137 27).toInt ∧ (h 137 27).toInt ≤ 600 := I.get (sm_this S) 27
  have i_82 : 0 ≤ (h 137 82).toInt ∧ (h 137 82).toInt ≤ 7000 := I.get (sm_this S) 82
  have i_83 : 0 ≤ (h 137 83).toInt ∧ (h 137 83).toInt ≤ 7000 := I.get (sm_this S) 83
  have i_2 : 0 ≤ (h 137 2).toInt ∧ (h 137 2).toInt ≤ 64 := I.get (sm_this S) 2
  have n9 := S9.num
  have J_89 : ∀ (y89_0 : Int32) (hJ : pH) (H : Heap) (locs : List Loc) (ls : Array Slot), pV Z hJ s.heap H locs → Iv Z hJ → agr [(137, 0), (137, 18), (137, 19), (137, 20), (137, 21), (137, 22), (137, 23), (137, 40), (137, 48), (137, 56), (137, 58), (137, 70), (137, 71), (153, 1000)] h hJ → lv_has ls 4 [(0, .ref (zB Z + 137)), (1, .int label), (2, .int width), (3, .int tall)] → (0 ≤ y89_0.toInt ∧ y89_0.toInt ≤ 0) → ((h 137 25).toInt + (0) ≤ (hJ 137 25).toInt ∧ (hJ 137 25).toInt ≤ (h 137 25).toInt + (0)) → ((h 137 27).toInt + (0) ≤ (hJ 137 27).toInt ∧ (hJ 137 27).toInt ≤ (h 137 27).toInt + (0)) → ((h 137 82).toInt + (0) ≤ (hJ 137 82).toInt ∧ (hJ 137 82).toInt ≤ (h 137 82).toInt + (0)) → ((h 137 83).toInt + (0) ≤ (hJ 137 83).toInt ∧ (hJ 137 83).toInt ≤ (h 137 83).toInt + (0)) → ((h 137 2).toInt + (0) ≤ (hJ 137 2).toInt ∧ (hJ 137 2).toInt ≤ (h 137 2).toInt + (0)) → mE hJ → mS hJ → mK hJ → W p l e (pRm 4 0 0 107) s m ([.ref (zB Z + 137), .int label, .int width, .int tall] : List Value).toArray below meth c H locs 0 0 (MQ below (pQi Z (fun r Z1 h1 => Z = Z1 ∧ Iv Z h1 ∧ agr [(137, 0), (137, 18), (137, 19), (137, 20), (137, 22), (137, 21), (137, 23), (137, 40), (137, 48), (137, 56), (137, 58), (137, 70), (137, 71), (153, 1000), (147, 1000), (148, 1000), (155, 1000), (149, 1000), (152, 1000), (179, 1000), (143, 1000), (186, 1000), (162, 1000), (163, 1000), (165, 1000), (166, 1000), (164, 1000), (167, 1000), (168, 1000), (169, 1000), (170, 1000), (174, 1000), (175, 1000), (176, 1000), (177, 1000), (137, 25), (137, 82)] h h1 ∧ (r.toInt = 0 ∨ r.toInt = 1) ∧ (mE h1) ∧ (mS h1) ∧ (mK h1) ∧ ((h 137 25).toInt + (0) ≤ (h1 137 25).toInt ∧ (h1 137 25).toInt ≤ (h 137 25).toInt + (1)) ∧ ((h 137 82).toInt + (0) ≤ (h1 137 82).toInt ∧ (h1 137 82).toInt ≤ (h 137 82).toInt + (2)))) ([.ref (zB Z + 137), .int label, .int width, .int tall] : List Value).toArray s 0 0 (pA (zB Z))) (F0 m 89 ls [.int y89_0]) := by
    intro y89_0 hJ H locs ls V I A hl gs_89_0 gd_89_25 gd_89_27 gd_89_82 gd_89_83 gd_89_2 E9 S9 K9
    exact pe_i M V rfl rfl hr hlk (pn_z (pi_z (by omega))).1 ⟨rfl, I, A.wk (by decide), by omega, (E9.congr rfl rfl), (S9.congr rfl rfl rfl rfl rfl rfl rfl), (K9.congr rfl rfl), (show (h 137 25).toInt + (0) ≤ (hJ 137 25).toInt ∧ (hJ 137 25).toInt ≤ (h 137 25).toInt + (1) by omega), (show (h 137 82).toInt + (0) ≤ (hJ 137 82).toInt ∧ (hJ 137 82).toInt ≤ (h 137 82).toInt + (2) by omega)⟩ ⟨Nat.le_refl _, Nat.le_refl _⟩ dX12_popup_89
  have J_76 : ∀ (hJ : pH) (H : Heap) (locs : List Loc) (ls : Array Slot), pV Z hJ s.heap H locs → Iv Z hJ → agr [(137, 0)] h hJ → lv_has ls 4 [(0, .ref (zB Z + 137)), (1, .int label), (2, .int width), (3, .int tall)] → ((h 137 56).toInt + (0) ≤ (hJ 137 56).toInt ∧ (hJ 137 56).toInt ≤ (h 137 56).toInt + (0)) → ((h 137 70).toInt + (0) ≤ (hJ 137 70).toInt ∧ (hJ 137 70).toInt ≤ (h 137 70).toInt + (0)) → ((h 137 58).toInt + (0) ≤ (hJ 137 58).toInt ∧ (hJ 137 58).toInt ≤ (h 137 58).toInt + (0)) → ((h 137 25).toInt + (0) ≤ (hJ 137 25).toInt ∧ (hJ 137 25).toInt ≤ (h 137 25).toInt + (0)) → ((h 137 27).toInt + (0) ≤ (hJ 137 27).toInt ∧ (hJ 137 27).toInt ≤ (h 137 27).toInt + (0)) → ((h 137 82).toInt + (0) ≤ (hJ 137 82).toInt ∧ (hJ 137 82).toInt ≤ (h 137 82).toInt + (0)) → ((h 137 83).toInt + (0) ≤ (hJ 137 83).toInt ∧ (hJ 137 83).toInt ≤ (h 137 83).toInt + (0)) → ((h 137 2).toInt + (0) ≤ (hJ 137 2).toInt ∧ (hJ 137 2).toInt ≤ (h 137 2).toInt + (0)) → mE hJ → mS hJ → mK hJ → W p l e (pRm 4 0 0 107) s m ([.ref (zB Z + 137), .int label, .int width, .int tall] : List Value).toArray below meth c H locs 0 0 (MQ below (pQi Z (fun r Z1 h1 => Z = Z1 ∧ Iv Z h1 ∧ agr [(137, 0), (137, 18), (137, 19), (137, 20), (137, 22), (137, 21), (137, 23), (137, 40), (137, 48), (137, 56), (137, 58), (137, 70), (137, 71), (153, 1000), (147, 1000), (148, 1000), (155, 1000), (149, 1000), (152, 1000), (179, 1000), (143, 1000), (186, 1000), (162, 1000), (163, 1000), (165, 1000), (166, 1000), (164, 1000), (167, 1000), (168, 1000), (169, 1000), (170, 1000), (174, 1000), (175, 1000), (176, 1000), (177, 1000), (137, 25), (137, 82)] h h1 ∧ (r.toInt = 0 ∨ r.toInt = 1) ∧ (mE h1) ∧ (mS h1) ∧ (mK h1) ∧ ((h 137 25).toInt + (0) ≤ (h1 137 25).toInt ∧ (h1 137 25).toInt ≤ (h 137 25).toInt + (1)) ∧ ((h 137 82).toInt + (0) ≤ (h1 137 82).toInt ∧ (h1 137 82).toInt ≤ (h 137 82).toInt + (2)))) ([.ref (zB Z + 137), .int label, .int width, .int tall] : List Value).toArray s 0 0 (pA (zB Z))) (F0 m 76 ls []) := by
    intro hJ H locs ls V I A hl gd_76_56 gd_76_70 gd_76_58 gd_76_25 gd_76_27 gd_76_82 gd_76_83 gd_76_2 E9 S9 K9
    refine lv_aload_n hx hb dX12_popup_76 rfl (lv_at hl 0 rfl) ?_
    refine lv_iconst (v := 2) hx hb dX12_popup_77 (by decide) ?_
    refine pk_i (pr_V M V (m_X12_fails l S I (2 : Int32) ) km_X12_fails (sm_this S) pC12 lkM_X12_297 rfl hl.1 rfl (Nat.le_of_ble_eq_true rfl) ⟨Nat.le_of_ble_eq_true rfl, Nat.le_of_ble_eq_true rfl⟩ ⟨Nat.le_of_ble_eq_true rfl, Nat.le_of_ble_eq_true rfl⟩ dX12_popup_78) V (fun r1 Zr1 hr1 H locs pr1 _ _ V => ?_)
    obtain ⟨rfl, I, pA_r1, fr1_0, fr1_1⟩ := pr1
    have A := A.wk (l3 := [(137, 0), (137, 18), (137, 19), (137, 20), (137, 22), (137, 21), (137, 23), (137, 40), (137, 48), (137, 56), (137, 58), (137, 70), (137, 71), (153, 1000)]) (by decide)
    have A := A.tr pA_r1 (by decide)
    have E9 : mE hr1 := E9.congr (pA_r1.get 137 2 (by decide)) (pA_r1.row 138 (by decide))
    have S9 : mS hr1 := fr1_1 (S9.congr rfl rfl rfl rfl rfl rfl rfl)
    have K9 : mK hr1 := K9.congr (pA_r1.row 185 (by decide)) (pA_r1.row 184 (by decide))
    have w_r1_25 : (hr1 137 25).toInt = (hJ 137 25).toInt := congrArg Int32.toInt (pA_r1.get 137 25 (by decide))
    have w_r1_27 : (hr1 137 27).toInt = (hJ 137 27).toInt := congrArg Int32.toInt (pA_r1.get 137 27 (by decide))
    have w_r1_82 : (hr1 137 82).toInt = (hJ 137 82).toInt := congrArg Int32.toInt (pA_r1.get 137 82 (by decide))
    have w_r1_83 : (hr1 137 83).toInt = (hJ 137 83).toInt := congrArg Int32.toInt (pA_r1.get 137 83 (by decide))
    have w_r1_2 : (hr1 137 2).toInt = (hJ 137 2).toInt := congrArg Int32.toInt (pA_r1.get 137 2 (by decide))
    refine lv_if_le (tgt := 88) hx hb dX12_popup_81 (by decide) (fun c_81 => ?_) (fun c_81 => ?_)
    · skip
      have k_0 : (0 : Int32).toInt = 0 := rfl
      have c_81 := pi_le.mp c_81
      refine lv_iconst (v := 0) hx hb dX12_popup_88 (by decide) ?_
      exact J_89 (0 : Int32) _ _ _ _ V I (A.wk (by decide)) (lv_sub hl [0, 1, 2, 3] rfl) (by omega) (show (h 137 25).toInt + (0) ≤ (hr1 137 25).toInt ∧ (hr1 137 25).toInt ≤ (h 137 25).toInt + (0) by omega) (show (h 137 27).toInt + (0) ≤ (hr1 137 27).toInt ∧ (hr1 137 27).toInt ≤ (h 137 27).toInt + (0) by omega) (show (h 137 82).toInt + (0) ≤ (hr1 137 82).toInt ∧ (hr1 137 82).toInt ≤ (h 137 82).toInt + (0) by omega) (show (h 137 83).toInt + (0) ≤ (hr1 137 83).toInt ∧ (hr1 137 83).toInt ≤ (h 137 83).toInt + (0) by omega) (show (h 137 2).toInt + (0) ≤ (hr1 137 2).toInt ∧ (hr1 137 2).toInt ≤ (h 137 2).toInt + (0) by omega) (E9.congr rfl rfl) (S9.congr rfl rfl rfl rfl rfl rfl rfl) (K9.congr rfl rfl) 
    · skip
      have k_0 : (0 : Int32).toInt = 0 := rfl
      have c_81 := pi_le' c_81
      refine lv_iconst (v := 1) hx hb dX12_popup_84 (by decide) ?_
      refine lv_goto (tgt := 89) hx hb dX12_popup_85 (by decide) ?_
      have k_1 : (1 : Int32).toInt = 1 := rfl
      exact J_89 (1 : Int32) _ _ _ _ V I (A.wk (by decide)) (lv_sub hl [0, 1, 2, 3] rfl) (by omega) (show (h 137 25).toInt + (0) ≤ (hr1 137 25).toInt ∧ (hr1 137 25).toInt ≤ (h 137 25).toInt + (0) by omega) (show (h 137 27).toInt + (0) ≤ (hr1 137 27).toInt ∧ (hr1 137 27).toInt ≤ (h 137 27).toInt + (0) by omega) (show (h 137 82).toInt + (0) ≤ (hr1 137 82).toInt ∧ (hr1 137 82).toInt ≤ (h 137 82).toInt + (0) by omega) (show (h 137 83).toInt + (0) ≤ (hr1 137 83).toInt ∧ (hr1 137 83).toInt ≤ (h 137 83).toInt + (0) by omega) (show (h 137 2).toInt + (0) ≤ (hr1 137 2).toInt ∧ (hr1 137 2).toInt ≤ (h 137 2).toInt + (0) by omega) (E9.congr rfl rfl) (S9.congr rfl rfl rfl rfl rfl rfl rfl) (K9.congr rfl rfl) 
  have J_40 : ∀ (y40_0 : Int32) (hJ : pH) (H : Heap) (locs : List Loc) (ls : Array Slot), pV Z hJ s.heap H locs → Iv Z hJ → agr [] h hJ → lv_has ls 4 [(0, .ref (zB Z + 137)), (1, .int label), (2, .int width), (3, .int tall)] → (0 ≤ y40_0.toInt ∧ y40_0.toInt ≤ 1) → ((h 137 56).toInt + (0) ≤ (hJ 137 56).toInt ∧ (hJ 137 56).toInt ≤ (h 137 56).toInt + (0)) → ((h 137 70).toInt + (0) ≤ (hJ 137 70).toInt ∧ (hJ 137 70).toInt ≤ (h 137 70).toInt + (0)) → ((h 137 58).toInt + (0) ≤ (hJ 137 58).toInt ∧ (hJ 137 58).toInt ≤ (h 137 58).toInt + (0)) → ((h 137 25).toInt + (0) ≤ (hJ 137 25).toInt ∧ (hJ 137 25).toInt ≤ (h 137 25).toInt + (0)) → ((h 137 27).toInt + (0) ≤ (hJ 137 27).toInt ∧ (hJ 137 27).toInt ≤ (h 137 27).toInt + (0)) → ((h 137 82).toInt + (0) ≤ (hJ 137 82).toInt ∧ (hJ 137 82).toInt ≤ (h 137 82).toInt + (0)) → ((h 137 83).toInt + (0) ≤ (hJ 137 83).toInt ∧ (hJ 137 83).toInt ≤ (h 137 83).toInt + (0)) → ((h 137 2).toInt + (0) ≤ (hJ 137 2).toInt ∧ (hJ 137 2).toInt ≤ (h 137 2).toInt + (0)) → mE hJ → mS hJ → mK hJ → W p l e (pRm 4 0 0 107) s m ([.ref (zB Z + 137), .int label, .int width, .int tall] : List Value).toArray below meth c H locs 0 0 (MQ below (pQi Z (fun r Z1 h1 => Z = Z1 ∧ Iv Z h1 ∧ agr [(137, 0), (137, 18), (137, 19), (137, 20), (137, 22), (137, 21), (137, 23), (137, 40), (137, 48), (137, 56), (137, 58), (137, 70), (137, 71), (153, 1000), (147, 1000), (148, 1000), (155, 1000), (149, 1000), (152, 1000), (179, 1000), (143, 1000), (186, 1000), (162, 1000), (163, 1000), (165, 1000), (166, 1000), (164, 1000), (167, 1000), (168, 1000), (169, 1000), (170, 1000), (174, 1000), (175, 1000), (176, 1000), (177, 1000), (137, 25), (137, 82)] h h1 ∧ (r.toInt = 0 ∨ r.toInt = 1) ∧ (mE h1) ∧ (mS h1) ∧ (mK h1) ∧ ((h 137 25).toInt + (0) ≤ (h1 137 25).toInt ∧ (h1 137 25).toInt ≤ (h 137 25).toInt + (1)) ∧ ((h 137 82).toInt + (0) ≤ (h1 137 82).toInt ∧ (h1 137 82).toInt ≤ (h 137 82).toInt + (2)))) ([.ref (zB Z + 137), .int label, .int width, .int tall] : List Value).toArray s 0 0 (pA (zB Z))) (F0 m 40 ls [.int y40_0, .ref (zB Z + 137)]) := by
    intro y40_0 hJ H locs ls V I A hl gs_40_0 gd_40_56 gd_40_70 gd_40_58 gd_40_25 gd_40_27 gd_40_82 gd_40_83 gd_40_2 E9 S9 K9
    refine pp_i M V 12 0 (sm_this S) pC12 fk12_0 rfl lkF_X12_175 ⟨rfl, rfl⟩ dX12_popup_40 (fun H locs V => ?_)
    have A := A.wk (l3 := [(137, 0)]) (by decide)
    have A := A.up (o := 137) (k := 0) (v := y40_0) (by decide)
    have I := I.up (k := 0) (v := y40_0) (sm_this S) (pi_full _)
    refine lv_aload_n hx hb dX12_popup_43 rfl (lv_at hl 0 rfl) ?_
    refine pg_iv M V 12 0 (v := y40_0) (sm_this S) pC12 fk12_0 rfl lkF_X12_175 dX12_popup_44 ?_
    refine lv_if_le (tgt := 52) hx hb dX12_popup_47 (by decide) (fun c_47 => ?_) (fun c_47 => ?_)
    · skip
      have k_0 : (0 : Int32).toInt = 0 := rfl
      have c_47 := pi_le.mp c_47
      refine lv_aload_n hx hb dX12_popup_52 rfl (lv_at hl 0 rfl) ?_
      refine pg_i M V 12 18 (sm_this S) pC12 fk12_18 lkF_X12_236 dX12_popup_53 ?_
      refine lv_topi (fun v2 ev2 => ?_)
      have tv2 : 0 ≤ v2.toInt ∧ v2.toInt ≤ 1 := by rw [ev2]; exact I.get (sm_this S) 18
      refine lv_if_eq (tgt := 76) hx hb dX12_popup_56 (by decide) (fun c_56 => ?_) (fun c_56 => ?_)
      · skip
        have c_56 := pi_eq.mp c_56
        exact J_76 _ _ _ _ V I (A.wk (by decide)) (lv_sub hl [0, 1, 2, 3] rfl) (show (h 137 56).toInt + (0) ≤ (hJ 137 56).toInt ∧ (hJ 137 56).toInt ≤ (h 137 56).toInt + (0) by omega) (show (h 137 70).toInt + (0) ≤ (hJ 137 70).toInt ∧ (hJ 137 70).toInt ≤ (h 137 70).toInt + (0) by omega) (show (h 137 58).toInt + (0) ≤ (hJ 137 58).toInt ∧ (hJ 137 58).toInt ≤ (h 137 58).toInt + (0) by omega) (show (h 137 25).toInt + (0) ≤ (hJ 137 25).toInt ∧ (hJ 137 25).toInt ≤ (h 137 25).toInt + (0) by omega) (show (h 137 27).toInt + (0) ≤ (hJ 137 27).toInt ∧ (hJ 137 27).toInt ≤ (h 137 27).toInt + (0) by omega) (show (h 137 82).toInt + (0) ≤ (hJ 137 82).toInt ∧ (hJ 137 82).toInt ≤ (h 137 82).toInt + (0) by omega) (show (h 137 83).toInt + (0) ≤ (hJ 137 83).toInt ∧ (hJ 137 83).toInt ≤ (h 137 83).toInt + (0) by omega) (show (h 137 2).toInt + (0) ≤ (hJ 137 2).toInt ∧ (hJ 137 2).toInt ≤ (h 137 2).toInt + (0) by omega) (E9.congr rfl rfl) (S9.congr rfl rfl rfl rfl rfl rfl rfl) (K9.congr rfl rfl) 
      · skip
        have c_56 := pi_ne c_56
        refine lv_aload_n hx hb dX12_popup_59 rfl (lv_at hl 0 rfl) ?_
        refine pg_i M V 12 56 (sm_this S) pC12 fk12_56 lkF_X12_279 dX12_popup_60 ?_
        refine lv_topi (fun v3 ev3 => ?_)
        have tv3 : 0 ≤ v3.toInt ∧ v3.toInt ≤ 40 := by rw [ev3]; exact I.get (sm_this S) 56
        have uv3 : v3.toInt = (hJ 137 56).toInt := congrArg Int32.toInt ev3
        refine lv_if_gt (tgt := 76) hx hb dX12_popup_63 (by decide) (fun c_63 => ?_) (fun c_63 => ?_)
        · skip
          have c_63 := pi_lt.mp c_63
          exact J_76 _ _ _ _ V I (A.wk (by decide)) (lv_sub hl [0, 1, 2, 3] rfl) (show (h 137 56).toInt + (0) ≤ (hJ 137 56).toInt ∧ (hJ 137 56).toInt ≤ (h 137 56).toInt + (0) by omega) (show (h 137 70).toInt + (0) ≤ (hJ 137 70).toInt ∧ (hJ 137 70).toInt ≤ (h 137 70).toInt + (0) by omega) (show (h 137 58).toInt + (0) ≤ (hJ 137 58).toInt ∧ (hJ 137 58).toInt ≤ (h 137 58).toInt + (0) by omega) (show (h 137 25).toInt + (0) ≤ (hJ 137 25).toInt ∧ (hJ 137 25).toInt ≤ (h 137 25).toInt + (0) by omega) (show (h 137 27).toInt + (0) ≤ (hJ 137 27).toInt ∧ (hJ 137 27).toInt ≤ (h 137 27).toInt + (0) by omega) (show (h 137 82).toInt + (0) ≤ (hJ 137 82).toInt ∧ (hJ 137 82).toInt ≤ (h 137 82).toInt + (0) by omega) (show (h 137 83).toInt + (0) ≤ (hJ 137 83).toInt ∧ (hJ 137 83).toInt ≤ (h 137 83).toInt + (0) by omega) (show (h 137 2).toInt + (0) ≤ (hJ 137 2).toInt ∧ (hJ 137 2).toInt ≤ (h 137 2).toInt + (0) by omega) (E9.congr rfl rfl) (S9.congr rfl rfl rfl rfl rfl rfl rfl) (K9.congr rfl rfl) 
        · skip
          have c_63 := pi_lt' c_63
          refine lv_aload_n hx hb dX12_popup_66 rfl (lv_at hl 0 rfl) ?_
          refine pg_r M V 12 37 (sm_this S) pC12 fk12_37 (sm_here S).2.2 lkF_X12_60 dX12_popup_67 ?_
          refine lv_bipush (v := 8) hx hb dX12_popup_70 (by decide) ?_
          have k_8 : (8 : Int32).toInt = 8 := rfl
          refine pa_z M V (sm_here S).1 (by rw [(sm_here S).2.1]; exact pi_in (by omega)) dX12_popup_72 ?_
          refine lv_topi (fun v4 ev4 => ?_)
          have tv4 : 0 ≤ v4.toInt ∧ v4.toInt ≤ 1 := by rw [ev4]; exact I.get (sm_here S).1 _
          refine lv_if_eq (tgt := 90) hx hb dX12_popup_73 (by decide) (fun c_73 => ?_) (fun c_73 => ?_)
          · skip
            have c_73 := pi_eq.mp c_73
            refine lv_aload_n hx hb dX12_popup_90 rfl (lv_at hl 0 rfl) ?_
            refine pg_i M V 12 40 (sm_this S) pC12 fk12_40 lkF_X12_69 dX12_popup_91 ?_
            refine lv_topi (fun v5 ev5 => ?_)
            refine lv_iload_n hx hb dX12_popup_94 rfl (lv_at hl 1 rfl) ?_
            refine lv_icmp_eq (tgt := 100) hx hb dX12_popup_95 (by decide) (fun c_95 => ?_) (fun c_95 => ?_)
            · skip
              have c_95 := pi_eq.mp c_95
              refine lv_aload_n hx hb dX12_popup_100 rfl (lv_at hl 0 rfl) ?_
              refine lv_bipush (v := 8) hx hb dX12_popup_101 (by decide) ?_
              refine lv_iload_n hx hb dX12_popup_103 rfl (lv_at hl 2 rfl) ?_
              refine lv_iload_n hx hb dX12_popup_104 rfl (lv_at hl 3 rfl) ?_
              refine pk_v (pr_V M V (m_X12_tellWindow l S I (8 : Int32) width tall (by omega) (show (hJ 137 56).toInt = 0 by omega) (show (hJ 137 70).toInt = 0 by omega) (show (hJ 137 58).toInt = 0 by omega) (S9.congr rfl rfl rfl rfl rfl rfl rfl) (show (hJ 137 25).toInt ≤ 599 by omega) (show (hJ 137 82).toInt ≤ 6998 by omega)) km_X12_tellWindow (sm_this S) pC12 lkM_X12_340 rfl hl.1 rfl (Nat.le_of_ble_eq_true rfl) ⟨Nat.le_of_ble_eq_true rfl, Nat.le_of_ble_eq_true rfl⟩ ⟨Nat.le_of_ble_eq_true rfl, Nat.le_of_ble_eq_true rfl⟩ dX12_popup_105) V (fun Zr6 hr6 H locs pr6 _ _ V => ?_)
              obtain ⟨rfl, I, pA_r6, fr6_0, fr6_1, fr6_2⟩ := pr6
              have fr6_1 : (hJ 137 25).toInt + (1) ≤ (hr6 137 25).toInt ∧ (hr6 137 25).toInt ≤ (hJ 137 25).toInt + (1) := fr6_1
              have fr6_2 : (hJ 137 82).toInt + (0) ≤ (hr6 137 82).toInt ∧ (hr6 137 82).toInt ≤ (hJ 137 82).toInt + (2) := fr6_2
              have A := A.wk (l3 := [(137, 0), (147, 1000), (148, 1000), (153, 1000), (155, 1000), (149, 1000), (152, 1000), (179, 1000), (143, 1000), (186, 1000), (162, 1000), (163, 1000), (165, 1000), (166, 1000), (164, 1000), (167, 1000), (168, 1000), (169, 1000), (170, 1000), (174, 1000), (175, 1000), (176, 1000), (177, 1000), (137, 25), (137, 19), (137, 71), (137, 56), (137, 70), (137, 58), (137, 82)]) (by decide)
              have A := A.tr pA_r6 (by decide)
              have E9 : mE hr6 := E9.congr (pA_r6.get 137 2 (by decide)) (pA_r6.row 138 (by decide))
              have S9 : mS hr6 := fr6_0
              have K9 : mK hr6 := K9.congr (pA_r6.row 185 (by decide)) (pA_r6.row 184 (by decide))
              have w_r6_27 : (hr6 137 27).toInt = (hJ 137 27).toInt := congrArg Int32.toInt (pA_r6.get 137 27 (by decide))
              have w_r6_83 : (hr6 137 83).toInt = (hJ 137 83).toInt := congrArg Int32.toInt (pA_r6.get 137 83 (by decide))
              have w_r6_2 : (hr6 137 2).toInt = (hJ 137 2).toInt := congrArg Int32.toInt (pA_r6.get 137 2 (by decide))
              refine lv_iconst (v := 1) hx hb dX12_popup_108 (by decide) ?_
              have k_1 : (1 : Int32).toInt = 1 := rfl
              exact pe_i M V rfl rfl hr hlk (pn_z (pi_z (by omega))).1 ⟨rfl, I, A.wk (by decide), by omega, (E9.congr rfl rfl), (S9.congr rfl rfl rfl rfl rfl rfl rfl), (K9.congr rfl rfl), (show (h 137 25).toInt + (0) ≤ (hr6 137 25).toInt ∧ (hr6 137 25).toInt ≤ (h 137 25).toInt + (1) by omega), (show (h 137 82).toInt + (0) ≤ (hr6 137 82).toInt ∧ (hr6 137 82).toInt ≤ (h 137 82).toInt + (2) by omega)⟩ ⟨Nat.le_refl _, Nat.le_refl _⟩ dX12_popup_109
            · skip
              have c_95 := pi_ne c_95
              refine lv_iconst (v := 0) hx hb dX12_popup_98 (by decide) ?_
              exact pe_i M V rfl rfl hr hlk (pn_z (pi_z (by omega))).1 ⟨rfl, I, A.wk (by decide), by omega, (E9.congr rfl rfl), (S9.congr rfl rfl rfl rfl rfl rfl rfl), (K9.congr rfl rfl), (show (h 137 25).toInt + (0) ≤ (hJ 137 25).toInt ∧ (hJ 137 25).toInt ≤ (h 137 25).toInt + (1) by omega), (show (h 137 82).toInt + (0) ≤ (hJ 137 82).toInt ∧ (hJ 137 82).toInt ≤ (h 137 82).toInt + (2) by omega)⟩ ⟨Nat.le_refl _, Nat.le_refl _⟩ dX12_popup_99
          · skip
            have c_73 := pi_ne c_73
            exact J_76 _ _ _ _ V I (A.wk (by decide)) (lv_sub hl [0, 1, 2, 3] rfl) (show (h 137 56).toInt + (0) ≤ (hJ 137 56).toInt ∧ (hJ 137 56).toInt ≤ (h 137 56).toInt + (0) by omega) (show (h 137 70).toInt + (0) ≤ (hJ 137 70).toInt ∧ (hJ 137 70).toInt ≤ (h 137 70).toInt + (0) by omega) (show (h 137 58).toInt + (0) ≤ (hJ 137 58).toInt ∧ (hJ 137 58).toInt ≤ (h 137 58).toInt + (0) by omega) (show (h 137 25).toInt + (0) ≤ (hJ 137 25).toInt ∧ (hJ 137 25).toInt ≤ (h 137 25).toInt + (0) by omega) (show (h 137 27).toInt + (0) ≤ (hJ 137 27).toInt ∧ (hJ 137 27).toInt ≤ (h 137 27).toInt + (0) by omega) (show (h 137 82).toInt + (0) ≤ (hJ 137 82).toInt ∧ (hJ 137 82).toInt ≤ (h 137 82).toInt + (0) by omega) (show (h 137 83).toInt + (0) ≤ (hJ 137 83).toInt ∧ (hJ 137 83).toInt ≤ (h 137 83).toInt + (0) by omega) (show (h 137 2).toInt + (0) ≤ (hJ 137 2).toInt ∧ (hJ 137 2).toInt ≤ (h 137 2).toInt + (0) by omega) (E9.congr rfl rfl) (S9.congr rfl rfl rfl rfl rfl rfl rfl) (K9.congr rfl rfl) 
    · skip
      have k_0 : (0 : Int32).toInt = 0 := rfl
      have c_47 := pi_le' c_47
      refine lv_iconst (v := 0) hx hb dX12_popup_50 (by decide) ?_
      exact pe_i M V rfl rfl hr hlk (pn_z (pi_z (by omega))).1 ⟨rfl, I, A.wk (by decide), by omega, (E9.congr rfl rfl), (S9.congr rfl rfl rfl rfl rfl rfl rfl), (K9.congr rfl rfl), (show (h 137 25).toInt + (0) ≤ (hJ 137 25).toInt ∧ (hJ 137 25).toInt ≤ (h 137 25).toInt + (1) by omega), (show (h 137 82).toInt + (0) ≤ (hJ 137 82).toInt ∧ (hJ 137 82).toInt ≤ (h 137 82).toInt + (2) by omega)⟩ ⟨Nat.le_refl _, Nat.le_refl _⟩ dX12_popup_51
  have J_35 : ∀ (hJ : pH) (H : Heap) (locs : List Loc) (ls : Array Slot), pV Z hJ s.heap H locs → Iv Z hJ → agr [] h hJ → lv_has ls 4 [(0, .ref (zB Z + 137)), (1, .int label), (2, .int width), (3, .int tall)] → ((h 137 56).toInt + (0) ≤ (hJ 137 56).toInt ∧ (hJ 137 56).toInt ≤ (h 137 56).toInt + (0)) → ((h 137 70).toInt + (0) ≤ (hJ 137 70).toInt ∧ (hJ 137 70).toInt ≤ (h 137 70).toInt + (0)) → ((h 137 58).toInt + (0) ≤ (hJ 137 58).toInt ∧ (hJ 137 58).toInt ≤ (h 137 58).toInt + (0)) → ((h 137 25).toInt + (0) ≤ (hJ 137 25).toInt ∧ (hJ 137 25).toInt ≤ (h 137 25).toInt + (0)) → ((h 137 27).toInt + (0) ≤ (hJ 137 27).toInt ∧ (hJ 137 27).toInt ≤ (h 137 27).toInt + (0)) → ((h 137 82).toInt + (0) ≤ (hJ 137 82).toInt ∧ (hJ 137 82).toInt ≤ (h 137 82).toInt + (0)) → ((h 137 83).toInt + (0) ≤ (hJ 137 83).toInt ∧ (hJ 137 83).toInt ≤ (h 137 83).toInt + (0)) → ((h 137 2).toInt + (0) ≤ (hJ 137 2).toInt ∧ (hJ 137 2).toInt ≤ (h 137 2).toInt + (0)) → mE hJ → mS hJ → mK hJ → W p l e (pRm 4 0 0 107) s m ([.ref (zB Z + 137), .int label, .int width, .int tall] : List Value).toArray below meth c H locs 0 0 (MQ below (pQi Z (fun r Z1 h1 => Z = Z1 ∧ Iv Z h1 ∧ agr [(137, 0), (137, 18), (137, 19), (137, 20), (137, 22), (137, 21), (137, 23), (137, 40), (137, 48), (137, 56), (137, 58), (137, 70), (137, 71), (153, 1000), (147, 1000), (148, 1000), (155, 1000), (149, 1000), (152, 1000), (179, 1000), (143, 1000), (186, 1000), (162, 1000), (163, 1000), (165, 1000), (166, 1000), (164, 1000), (167, 1000), (168, 1000), (169, 1000), (170, 1000), (174, 1000), (175, 1000), (176, 1000), (177, 1000), (137, 25), (137, 82)] h h1 ∧ (r.toInt = 0 ∨ r.toInt = 1) ∧ (mE h1) ∧ (mS h1) ∧ (mK h1) ∧ ((h 137 25).toInt + (0) ≤ (h1 137 25).toInt ∧ (h1 137 25).toInt ≤ (h 137 25).toInt + (1)) ∧ ((h 137 82).toInt + (0) ≤ (h1 137 82).toInt ∧ (h1 137 82).toInt ≤ (h 137 82).toInt + (2)))) ([.ref (zB Z + 137), .int label, .int width, .int tall] : List Value).toArray s 0 0 (pA (zB Z))) (F0 m 35 ls [.ref (zB Z + 137)]) := by
    intro hJ H locs ls V I A hl gd_35_56 gd_35_70 gd_35_58 gd_35_25 gd_35_27 gd_35_82 gd_35_83 gd_35_2 E9 S9 K9
    refine lv_iconst (v := 1) hx hb dX12_popup_35 (by decide) ?_
    refine lv_goto (tgt := 40) hx hb dX12_popup_36 (by decide) ?_
    have k_1 : (1 : Int32).toInt = 1 := rfl
    exact J_40 (1 : Int32) _ _ _ _ V I (A.wk (by decide)) (lv_sub hl [0, 1, 2, 3] rfl) (by omega) (show (h 137 56).toInt + (0) ≤ (hJ 137 56).toInt ∧ (hJ 137 56).toInt ≤ (h 137 56).toInt + (0) by omega) (show (h 137 70).toInt + (0) ≤ (hJ 137 70).toInt ∧ (hJ 137 70).toInt ≤ (h 137 70).toInt + (0) by omega) (show (h 137 58).toInt + (0) ≤ (hJ 137 58).toInt ∧ (hJ 137 58).toInt ≤ (h 137 58).toInt + (0) by omega) (show (h 137 25).toInt + (0) ≤ (hJ 137 25).toInt ∧ (hJ 137 25).toInt ≤ (h 137 25).toInt + (0) by omega) (show (h 137 27).toInt + (0) ≤ (hJ 137 27).toInt ∧ (hJ 137 27).toInt ≤ (h 137 27).toInt + (0) by omega) (show (h 137 82).toInt + (0) ≤ (hJ 137 82).toInt ∧ (hJ 137 82).toInt ≤ (h 137 82).toInt + (0) by omega) (show (h 137 83).toInt + (0) ≤ (hJ 137 83).toInt ∧ (hJ 137 83).toInt ≤ (h 137 83).toInt + (0) by omega) (show (h 137 2).toInt + (0) ≤ (hJ 137 2).toInt ∧ (hJ 137 2).toInt ≤ (h 137 2).toInt + (0) by omega) (E9.congr rfl rfl) (S9.congr rfl rfl rfl rfl rfl rfl rfl) (K9.congr rfl rfl) 
  refine lv_aload_n hx hb dX12_popup_0 rfl (lv_at hl 0 rfl) ?_
  refine lv_aload_n hx hb dX12_popup_1 rfl (lv_at hl 0 rfl) ?_
  refine lv_iload_n hx hb dX12_popup_2 rfl (lv_at hl 1 rfl) ?_
  refine pk_i (pr_V M V (m_X12_isLabel l S I label) km_X12_isLabel (sm_this S) pC12 lkM_X12_343 rfl hl.1 rfl (Nat.le_of_ble_eq_true rfl) ⟨Nat.le_of_ble_eq_true rfl, Nat.le_of_ble_eq_true rfl⟩ ⟨Nat.le_of_ble_eq_true rfl, Nat.le_of_ble_eq_true rfl⟩ dX12_popup_3) V (fun r7 Zr7 hr7 H locs pr7 _ _ V => ?_)
  obtain ⟨rfl, rfl, fr7_0⟩ := pr7
  refine lv_if_eq (tgt := 35) hx hb dX12_popup_6 (by decide) (fun c_6 => ?_) (fun c_6 => ?_)
  · skip
    have k_0 : (0 : Int32).toInt = 0 := rfl
    have c_6 := pi_eq.mp c_6
    exact J_35 _ _ _ _ V I (A.wk (by decide)) (lv_sub hl [0, 1, 2, 3] rfl) (show (h 137 56).toInt + (0) ≤ (h 137 56).toInt ∧ (h 137 56).toInt ≤ (h 137 56).toInt + (0) by omega) (show (h 137 70).toInt + (0) ≤ (h 137 70).toInt ∧ (h 137 70).toInt ≤ (h 137 70).toInt + (0) by omega) (show (h 137 58).toInt + (0) ≤ (h 137 58).toInt ∧ (h 137 58).toInt ≤ (h 137 58).toInt + (0) by omega) (show (h 137 25).toInt + (0) ≤ (h 137 25).toInt ∧ (h 137 25).toInt ≤ (h 137 25).toInt + (0) by omega) (show (h 137 27).toInt + (0) ≤ (h 137 27).toInt ∧ (h 137 27).toInt ≤ (h 137 27).toInt + (0) by omega) (show (h 137 82).toInt + (0) ≤ (h 137 82).toInt ∧ (h 137 82).toInt ≤ (h 137 82).toInt + (0) by omega) (show (h 137 83).toInt + (0) ≤ (h 137 83).toInt ∧ (h 137 83).toInt ≤ (h 137 83).toInt + (0) by omega) (show (h 137 2).toInt + (0) ≤ (h 137 2).toInt ∧ (h 137 2).toInt ≤ (h 137 2).toInt + (0) by omega) (E9.congr rfl rfl) (S9.congr rfl rfl rfl rfl rfl rfl rfl) (K9.congr rfl rfl) 
  · skip
    have k_0 : (0 : Int32).toInt = 0 := rfl
    have c_6 := pi_ne c_6
    refine lv_iload_n hx hb dX12_popup_9 rfl (lv_at hl 2 rfl) ?_
    refine lv_bipush (v := 40) hx hb dX12_popup_10 (by decide) ?_
    refine lv_icmp_lt (tgt := 35) hx hb dX12_popup_12 (by decide) (fun c_12 => ?_) (fun c_12 => ?_)
    · skip
      have k_40 : (40 : Int32).toInt = 40 := rfl
      have c_12 := pi_lt.mp c_12
      exact J_35 _ _ _ _ V I (A.wk (by decide)) (lv_sub hl [0, 1, 2, 3] rfl) (show (h 137 56).toInt + (0) ≤ (h 137 56).toInt ∧ (h 137 56).toInt ≤ (h 137 56).toInt + (0) by omega) (show (h 137 70).toInt + (0) ≤ (h 137 70).toInt ∧ (h 137 70).toInt ≤ (h 137 70).toInt + (0) by omega) (show (h 137 58).toInt + (0) ≤ (h 137 58).toInt ∧ (h 137 58).toInt ≤ (h 137 58).toInt + (0) by omega) (show (h 137 25).toInt + (0) ≤ (h 137 25).toInt ∧ (h 137 25).toInt ≤ (h 137 25).toInt + (0) by omega) (show (h 137 27).toInt + (0) ≤ (h 137 27).toInt ∧ (h 137 27).toInt ≤ (h 137 27).toInt + (0) by omega) (show (h 137 82).toInt + (0) ≤ (h 137 82).toInt ∧ (h 137 82).toInt ≤ (h 137 82).toInt + (0) by omega) (show (h 137 83).toInt + (0) ≤ (h 137 83).toInt ∧ (h 137 83).toInt ≤ (h 137 83).toInt + (0) by omega) (show (h 137 2).toInt + (0) ≤ (h 137 2).toInt ∧ (h 137 2).toInt ≤ (h 137 2).toInt + (0) by omega) (E9.congr rfl rfl) (S9.congr rfl rfl rfl rfl rfl rfl rfl) (K9.congr rfl rfl) 
    · skip
      have k_40 : (40 : Int32).toInt = 40 := rfl
      have c_12 := pi_lt' c_12
      refine lv_iload_n hx hb dX12_popup_15 rfl (lv_at hl 2 rfl) ?_
      refine lv_sipush (v := 400) hx hb dX12_popup_16 (by decide) ?_
      refine lv_icmp_gt (tgt := 35) hx hb dX12_popup_19 (by decide) (fun c_19 => ?_) (fun c_19 => ?_)
      · skip
        have k_400 : (400 : Int32).toInt = 400 := rfl
        have c_19 := pi_lt.mp c_19
        exact J_35 _ _ _ _ V I (A.wk (by decide)) (lv_sub hl [0, 1, 2, 3] rfl) (show (h 137 56).toInt + (0) ≤ (h 137 56).toInt ∧ (h 137 56).toInt ≤ (h 137 56).toInt + (0) by omega) (show (h 137 70).toInt + (0) ≤ (h 137 70).toInt ∧ (h 137 70).toInt ≤ (h 137 70).toInt + (0) by omega) (show (h 137 58).toInt + (0) ≤ (h 137 58).toInt ∧ (h 137 58).toInt ≤ (h 137 58).toInt + (0) by omega) (show (h 137 25).toInt + (0) ≤ (h 137 25).toInt ∧ (h 137 25).toInt ≤ (h 137 25).toInt + (0) by omega) (show (h 137 27).toInt + (0) ≤ (h 137 27).toInt ∧ (h 137 27).toInt ≤ (h 137 27).toInt + (0) by omega) (show (h 137 82).toInt + (0) ≤ (h 137 82).toInt ∧ (h 137 82).toInt ≤ (h 137 82).toInt + (0) by omega) (show (h 137 83).toInt + (0) ≤ (h 137 83).toInt ∧ (h 137 83).toInt ≤ (h 137 83).toInt + (0) by omega) (show (h 137 2).toInt + (0) ≤ (h 137 2).toInt ∧ (h 137 2).toInt ≤ (h 137 2).toInt + (0) by omega) (E9.congr rfl rfl) (S9.congr rfl rfl rfl rfl rfl rfl rfl) (K9.congr rfl rfl) 
      · skip
        have k_400 : (400 : Int32).toInt = 400 := rfl
        have c_19 := pi_lt' c_19
        refine lv_iload_n hx hb dX12_popup_22 rfl (lv_at hl 3 rfl) ?_
        refine lv_bipush (v := 30) hx hb dX12_popup_23 (by decide) ?_
        refine lv_icmp_lt (tgt := 35) hx hb dX12_popup_25 (by decide) (fun c_25 => ?_) (fun c_25 => ?_)
        · skip
          have k_30 : (30 : Int32).toInt = 30 := rfl
          have c_25 := pi_lt.mp c_25
          exact J_35 _ _ _ _ V I (A.wk (by decide)) (lv_sub hl [0, 1, 2, 3] rfl) (show (h 137 56).toInt + (0) ≤ (h 137 56).toInt ∧ (h 137 56).toInt ≤ (h 137 56).toInt + (0) by omega) (show (h 137 70).toInt + (0) ≤ (h 137 70).toInt ∧ (h 137 70).toInt ≤ (h 137 70).toInt + (0) by omega) (show (h 137 58).toInt + (0) ≤ (h 137 58).toInt ∧ (h 137 58).toInt ≤ (h 137 58).toInt + (0) by omega) (show (h 137 25).toInt + (0) ≤ (h 137 25).toInt ∧ (h 137 25).toInt ≤ (h 137 25).toInt + (0) by omega) (show (h 137 27).toInt + (0) ≤ (h 137 27).toInt ∧ (h 137 27).toInt ≤ (h 137 27).toInt + (0) by omega) (show (h 137 82).toInt + (0) ≤ (h 137 82).toInt ∧ (h 137 82).toInt ≤ (h 137 82).toInt + (0) by omega) (show (h 137 83).toInt + (0) ≤ (h 137 83).toInt ∧ (h 137 83).toInt ≤ (h 137 83).toInt + (0) by omega) (show (h 137 2).toInt + (0) ≤ (h 137 2).toInt ∧ (h 137 2).toInt ≤ (h 137 2).toInt + (0) by omega) (E9.congr rfl rfl) (S9.congr rfl rfl rfl rfl rfl rfl rfl) (K9.congr rfl rfl) 
        · skip
          have k_30 : (30 : Int32).toInt = 30 := rfl
          have c_25 := pi_lt' c_25
          refine lv_iload_n hx hb dX12_popup_28 rfl (lv_at hl 3 rfl) ?_
          refine lv_sipush (v := 400) hx hb dX12_popup_29 (by decide) ?_
          refine lv_icmp_le (tgt := 39) hx hb dX12_popup_32 (by decide) (fun c_32 => ?_) (fun c_32 => ?_)
          · skip
            have c_32 := pi_le.mp c_32
            refine lv_iconst (v := 0) hx hb dX12_popup_39 (by decide) ?_
            exact J_40 (0 : Int32) _ _ _ _ V I (A.wk (by decide)) (lv_sub hl [0, 1, 2, 3] rfl) (by omega) (show (h 137 56).toInt + (0) ≤ (h 137 56).toInt ∧ (h 137 56).toInt ≤ (h 137 56).toInt + (0) by omega) (show (h 137 70).toInt + (0) ≤ (h 137 70).toInt ∧ (h 137 70).toInt ≤ (h 137 70).toInt + (0) by omega) (show (h 137 58).toInt + (0) ≤ (h 137 58).toInt ∧ (h 137 58).toInt ≤ (h 137 58).toInt + (0) by omega) (show (h 137 25).toInt + (0) ≤ (h 137 25).toInt ∧ (h 137 25).toInt ≤ (h 137 25).toInt + (0) by omega) (show (h 137 27).toInt + (0) ≤ (h 137 27).toInt ∧ (h 137 27).toInt ≤ (h 137 27).toInt + (0) by omega) (show (h 137 82).toInt + (0) ≤ (h 137 82).toInt ∧ (h 137 82).toInt ≤ (h 137 82).toInt + (0) by omega) (show (h 137 83).toInt + (0) ≤ (h 137 83).toInt ∧ (h 137 83).toInt ≤ (h 137 83).toInt + (0) by omega) (show (h 137 2).toInt + (0) ≤ (h 137 2).toInt ∧ (h 137 2).toInt ≤ (h 137 2).toInt + (0) by omega) (E9.congr rfl rfl) (S9.congr rfl rfl rfl rfl rfl rfl rfl) (K9.congr rfl rfl) 
          · skip
            have c_32 := pi_le' c_32
            exact J_35 _ _ _ _ V I (A.wk (by decide)) (lv_sub hl [0, 1, 2, 3] rfl) (show (h 137 56).toInt + (0) ≤ (h 137 56).toInt ∧ (h 137 56).toInt ≤ (h 137 56).toInt + (0) by omega) (show (h 137 70).toInt + (0) ≤ (h 137 70).toInt ∧ (h 137 70).toInt ≤ (h 137 70).toInt + (0) by omega) (show (h 137 58).toInt + (0) ≤ (h 137 58).toInt ∧ (h 137 58).toInt ≤ (h 137 58).toInt + (0) by omega) (show (h 137 25).toInt + (0) ≤ (h 137 25).toInt ∧ (h 137 25).toInt ≤ (h 137 25).toInt + (0) by omega) (show (h 137 27).toInt + (0) ≤ (h 137 27).toInt ∧ (h 137 27).toInt ≤ (h 137 27).toInt + (0) by omega) (show (h 137 82).toInt + (0) ≤ (h 137 82).toInt ∧ (h 137 82).toInt ≤ (h 137 82).toInt + (0) by omega) (show (h 137 83).toInt + (0) ≤ (h 137 83).toInt ∧ (h 137 83).toInt ≤ (h 137 83).toInt + (0) by omega) (show (h 137 2).toInt + (0) ≤ (h 137 2).toInt ∧ (h 137 2).toInt ≤ (h 137 2).toInt + (0) by omega) (E9.congr rfl rfl) (S9.congr rfl rfl rfl rfl rfl rfl rfl) (K9.congr rfl rfl) 
theorem dX12_scope_0 : decode cX12_scope 0 = .ok (.aload_n 0, 1) := by decide +kernel
theorem dX12_scope_1 : decode cX12_scope 1 = .ok (.aload_n 0, 1) := by decide +kernel
theorem dX12_scope_2 : decode cX12_scope 2 = .ok (.iload_n 1, 1) := by decide +kernel
theorem dX12_scope_3 : decode cX12_scope 3 = .ok (.invokevirtual 343, 3) := by decide +kernel
theorem dX12_scope_6 : decode cX12_scope 6 = .ok (.invokevirtual 371, 3) := by decide +kernel
theorem dX12_scope_9 : decode cX12_scope 9 = .ok (.ifCond .eq 4, 3) := by decide +kernel
theorem dX12_scope_12 : decode cX12_scope 12 = .ok (.return_, 1) := by decide +kernel
theorem dX12_scope_13 : decode cX12_scope 13 = .ok (.aload_n 0, 1) := by decide +kernel
theorem dX12_scope_14 : decode cX12_scope 14 = .ok (.getfield 279, 3) := by decide +kernel
theorem dX12_scope_17 : decode cX12_scope 17 = .ok (.bipush 40, 2) := by decide +kernel
theorem dX12_scope_19 : decode cX12_scope 19 = .ok (.if_icmp .ne 10, 3) := by decide +kernel
theorem dX12_scope_22 : decode cX12_scope 22 = .ok (.aload_n 0, 1) := by decide +kernel
theorem dX12_scope_23 : decode cX12_scope 23 = .ok (.iconst 2, 1) := by decide +kernel
theorem dX12_scope_24 : decode cX12_scope 24 = .ok (.invokevirtual 297, 3) := by decide +kernel
theorem dX12_scope_27 : decode cX12_scope 27 = .ok (.pop, 1) := by decide +kernel
theorem dX12_scope_28 : decode cX12_scope 28 = .ok (.return_, 1) := by decide +kernel
theorem dX12_scope_29 : decode cX12_scope 29 = .ok (.aload_n 0, 1) := by decide +kernel
theorem dX12_scope_30 : decode cX12_scope 30 = .ok (.iload_n 1, 1) := by decide +kernel
theorem dX12_scope_31 : decode cX12_scope 31 = .ok (.invokevirtual 356, 3) := by decide +kernel
theorem dX12_scope_34 : decode cX12_scope 34 = .ok (.istore_n 2, 1) := by decide +kernel
theorem dX12_scope_35 : decode cX12_scope 35 = .ok (.aload_n 0, 1) := by decide +kernel
theorem dX12_scope_36 : decode cX12_scope 36 = .ok (.iconst 3, 1) := by decide +kernel
theorem dX12_scope_37 : decode cX12_scope 37 = .ok (.iconst (-1), 1) := by decide +kernel
theorem dX12_scope_38 : decode cX12_scope 38 = .ok (.iconst 0, 1) := by decide +kernel
theorem dX12_scope_39 : decode cX12_scope 39 = .ok (.invokevirtual 334, 3) := by decide +kernel
theorem dX12_scope_42 : decode cX12_scope 42 = .ok (.aload_n 0, 1) := by decide +kernel
theorem dX12_scope_43 : decode cX12_scope 43 = .ok (.iload_n 2, 1) := by decide +kernel
theorem dX12_scope_44 : decode cX12_scope 44 = .ok (.invokevirtual 337, 3) := by decide +kernel
theorem dX12_scope_47 : decode cX12_scope 47 = .ok (.return_, 1) := by decide +kernel
set_option maxHeartbeats 4000000 in
set_option maxRecDepth 100000 in
theorem m_X12_scope (l : Launch) {Z : pZ} (S : pSh Z) {h : pH} (I : Iv Z h) (label : Int32) (E9 : mE h) (S9 : mS h) (K9 : mK h) (ht : (h 137 25).toInt ≤ 599) (hb9 : (h 137 27).toInt ≤ 599) (hq : (h 137 82).toInt ≤ 6980) : pMet l yX12_scope cX12_scope 3 none 2 0 0 43 Z h [.ref (zB Z + 137), .int label] (pQv Z (fun Z1 h1 => Z = Z1 ∧ Iv Z h1 ∧ agr [(137, 0), (137, 18), (137, 19), (137, 20), (137, 22), (137, 21), (137, 23), (137, 40), (137, 48), (137, 56), (137, 58), (137, 70), (137, 71), (153, 1000), (162, 1000), (163, 1000), (165, 1000), (166, 1000), (164, 1000), (167, 1000)] h h1 ∧ (mE h1) ∧ (mS h1) ∧ (mK h1))) := by
  refine pOfW (lv := [(0, .ref (zB Z + 137)), (1, .int label)]) (by decide) (Nat.le_of_ble_eq_true rfl) rfl ?_
  intro p e s m below meth c ls M hr hlk hnm V hl
  have hx := M.1.1
  have hb := M.1.2.1
  have A : agr [] h h := agr.rf
  have i_56 : 0 ≤ (h 137 56).toInt ∧ (h 137 56).toInt ≤ 40 := I.get (sm_this S) 56
  have i_70 : 0 ≤ (h 137 70).toInt ∧ (h 137 70).toInt ≤ 40 := I.get (sm_this S) 70
  have i_58 : 0 ≤ (h 137 58).toInt ∧ (h 137 58).toInt ≤ 40 := I.get (sm_this S) 58
  have i_25 : 0 ≤ (h 137 25).toInt ∧ (h 137 25).toInt ≤ 600 := I.get (sm_this S) 25
  have i_27 : 0 ≤ (h 137 27).toInt ∧ (h 137 27).toInt ≤ 600 := I.get (sm_this S) 27
  have i_82 : 0 ≤ (h 137 82).toInt ∧ (h 137 82).toInt ≤ 7000 := I.get (sm_this S) 82
  have i_83 : 0 ≤ (h 137 83).toInt ∧ (h 137 83).toInt ≤ 7000 := I.get (sm_this S) 83
  have i_2 : 0 ≤ (h 137 2).toInt ∧ (h 137 2).toInt ≤ 64 := I.get (sm_this S) 2
  have n9 := S9.num
  have S0 := S9
  have z56 : ((h 137 56).toNatClampNeg : Int) = (h 137 56).toInt := pi_cl i_56.1
  refine lv_aload_n hx hb dX12_scope_0 rfl (lv_at hl 0 rfl) ?_
  refine lv_aload_n hx hb dX12_scope_1 rfl (lv_at hl 0 rfl) ?_
  refine lv_iload_n hx hb dX12_scope_2 rfl (lv_at hl 1 rfl) ?_
  refine pk_i (pr_V M V (m_X12_isLabel l S I label) km_X12_isLabel (sm_this S) pC12 lkM_X12_343 rfl hl.1 rfl (Nat.le_of_ble_eq_true rfl) ⟨Nat.le_of_ble_eq_true rfl, Nat.le_of_ble_eq_true rfl⟩ ⟨Nat.le_of_ble_eq_true rfl, Nat.le_of_ble_eq_true rfl⟩ dX12_scope_3) V (fun r1 Zr1 hr1 H locs pr1 _ _ V => ?_)
  obtain ⟨rfl, rfl, fr1_0⟩ := pr1
  refine pk_i (pr_V M V (m_X12_bars l S I r1 (by omega)) km_X12_bars (sm_this S) pC12 lkM_X12_371 rfl hl.1 rfl (Nat.le_of_ble_eq_true rfl) ⟨Nat.le_of_ble_eq_true rfl, Nat.le_of_ble_eq_true rfl⟩ ⟨Nat.le_of_ble_eq_true rfl, Nat.le_of_ble_eq_true rfl⟩ dX12_scope_6) V (fun r2 Zr2 hr2 H locs pr2 _ _ V => ?_)
  obtain ⟨rfl, I, pA_r2, fr2_0, fr2_1, fr2_2⟩ := pr2
  refine lv_if_eq (tgt := 13) hx hb dX12_scope_9 (by decide) (fun c_9 => ?_) (fun c_9 => ?_)
  · skip
    have k_0 : (0 : Int32).toInt = 0 := rfl
    have c_9 := pi_eq.mp c_9
    have b_r2 := fr2_1 (by omega)
    have pB_r2 := b_r2.2.2
    have g_r2 := b_r2.1
    have a_r2 : 1 ≤ (h 137 70).toInt := b_r2.2.1
    have A := A.wk (l3 := [(137, 0)]) (by decide)
    have A := A.tr pB_r2 (by decide)
    have E9 : mE hr2 := E9.congr (pB_r2.get 137 2 (by decide)) (pB_r2.row 138 (by decide))
    have S9 : mS hr2 := S9.congr (pB_r2.get 137 56 (by decide)) (pB_r2.get 137 70 (by decide)) (pB_r2.get 137 58 (by decide)) (pB_r2.row 162 (by decide)) (pB_r2.row 163 (by decide)) (pB_r2.row 165 (by decide)) (pB_r2.row 166 (by decide))
    have K9 : mK hr2 := K9.congr (pB_r2.row 185 (by decide)) (pB_r2.row 184 (by decide))
    have w_r2_r162 : hr2 162 = (h 162) := pB_r2.row 162 (by decide)
    have w_r2_r163 : hr2 163 = (h 163) := pB_r2.row 163 (by decide)
    have w_r2_r165 : hr2 165 = (h 165) := pB_r2.row 165 (by decide)
    have w_r2_r166 : hr2 166 = (h 166) := pB_r2.row 166 (by decide)
    have w_r2_56 : (hr2 137 56).toInt = (h 137 56).toInt := congrArg Int32.toInt (pB_r2.get 137 56 (by decide))
    have w_r2_70 : (hr2 137 70).toInt = (h 137 70).toInt := congrArg Int32.toInt (pB_r2.get 137 70 (by decide))
    have w_r2_58 : (hr2 137 58).toInt = (h 137 58).toInt := congrArg Int32.toInt (pB_r2.get 137 58 (by decide))
    have w_r2_25 : (hr2 137 25).toInt = (h 137 25).toInt := congrArg Int32.toInt (pB_r2.get 137 25 (by decide))
    have w_r2_27 : (hr2 137 27).toInt = (h 137 27).toInt := congrArg Int32.toInt (pB_r2.get 137 27 (by decide))
    have w_r2_82 : (hr2 137 82).toInt = (h 137 82).toInt := congrArg Int32.toInt (pB_r2.get 137 82 (by decide))
    have w_r2_83 : (hr2 137 83).toInt = (h 137 83).toInt := congrArg Int32.toInt (pB_r2.get 137 83 (by decide))
    have w_r2_2 : (hr2 137 2).toInt = (h 137 2).toInt := congrArg Int32.toInt (pB_r2.get 137 2 (by decide))
    refine lv_aload_n hx hb dX12_scope_13 rfl (lv_at hl 0 rfl) ?_
    refine pg_i M V 12 56 (sm_this S) pC12 fk12_56 lkF_X12_279 dX12_scope_14 ?_
    refine lv_topi (fun v3 ev3 => ?_)
    have tv3 : 0 ≤ v3.toInt ∧ v3.toInt ≤ 40 := by rw [ev3]; exact I.get (sm_this S) 56
    have uv3 : v3.toInt = (hr2 137 56).toInt := congrArg Int32.toInt ev3
    refine lv_bipush (v := 40) hx hb dX12_scope_17 (by decide) ?_
    refine lv_icmp_ne (tgt := 29) hx hb dX12_scope_19 (by decide) (fun c_19 => ?_) (fun c_19 => ?_)
    · skip
      have k_40 : (40 : Int32).toInt = 40 := rfl
      have c_19 := pi_ne c_19
      refine lv_aload_n hx hb dX12_scope_29 rfl (lv_at hl 0 rfl) ?_
      refine lv_iload_n hx hb dX12_scope_30 rfl (lv_at hl 1 rfl) ?_
      refine pk_i (pr_V M V (m_X12_idOf l S I label (show 1 ≤ (hr2 137 58).toInt by omega)) km_X12_idOf (sm_this S) pC12 lkM_X12_356 rfl hl.1 rfl (Nat.le_of_ble_eq_true rfl) ⟨Nat.le_of_ble_eq_true rfl, Nat.le_of_ble_eq_true rfl⟩ ⟨Nat.le_of_ble_eq_true rfl, Nat.le_of_ble_eq_true rfl⟩ dX12_scope_31) V (fun r4 Zr4 hr4 H locs pr4 _ _ V => ?_)
      obtain ⟨rfl, I, pA_r4⟩ := pr4
      have A := A.tr pA_r4 (by decide)
      have E9 : mE hr4 := E9.congr (pA_r4.get 137 2 (by decide)) (pA_r4.row 138 (by decide))
      have S9 : mS hr4 := S9.congr (pA_r4.get 137 56 (by decide)) (pA_r4.get 137 70 (by decide)) (pA_r4.get 137 58 (by decide)) (pA_r4.row 162 (by decide)) (pA_r4.row 163 (by decide)) (pA_r4.row 165 (by decide)) (pA_r4.row 166 (by decide))
      have K9 : mK hr4 := K9.congr (pA_r4.row 185 (by decide)) (pA_r4.row 184 (by decide))
      have w_r4_r162 : hr4 162 = (hr2 162) := pA_r4.row 162 (by decide)
      have w_r4_r163 : hr4 163 = (hr2 163) := pA_r4.row 163 (by decide)
      have w_r4_r165 : hr4 165 = (hr2 165) := pA_r4.row 165 (by decide)
      have w_r4_r166 : hr4 166 = (hr2 166) := pA_r4.row 166 (by decide)
      have w_r4_56 : (hr4 137 56).toInt = (hr2 137 56).toInt := congrArg Int32.toInt (pA_r4.get 137 56 (by decide))
      have w_r4_70 : (hr4 137 70).toInt = (hr2 137 70).toInt := congrArg Int32.toInt (pA_r4.get 137 70 (by decide))
      have w_r4_58 : (hr4 137 58).toInt = (hr2 137 58).toInt := congrArg Int32.toInt (pA_r4.get 137 58 (by decide))
      have w_r4_25 : (hr4 137 25).toInt = (hr2 137 25).toInt := congrArg Int32.toInt (pA_r4.get 137 25 (by decide))
      have w_r4_27 : (hr4 137 27).toInt = (hr2 137 27).toInt := congrArg Int32.toInt (pA_r4.get 137 27 (by decide))
      have w_r4_82 : (hr4 137 82).toInt = (hr2 137 82).toInt := congrArg Int32.toInt (pA_r4.get 137 82 (by decide))
      have w_r4_83 : (hr4 137 83).toInt = (hr2 137 83).toInt := congrArg Int32.toInt (pA_r4.get 137 83 (by decide))
      have w_r4_2 : (hr4 137 2).toInt = (hr2 137 2).toInt := congrArg Int32.toInt (pA_r4.get 137 2 (by decide))
      refine lv_istore_n (lv' := [(2, .int r4), (0, .ref (zB Z + 137)), (1, .int label)]) hx hb dX12_scope_34 rfl hl (by decide) rfl (fun ls hl => ?_)
      refine lv_aload_n hx hb dX12_scope_35 rfl (lv_at hl 1 rfl) ?_
      refine lv_iconst (v := 3) hx hb dX12_scope_36 (by decide) ?_
      refine lv_iconst (v := (-1)) hx hb dX12_scope_37 (by decide) ?_
      refine lv_iconst (v := 0) hx hb dX12_scope_38 (by decide) ?_
      have so_56 : _ = h 137 56 := A.get 137 56 (by decide)
      have so_58 : _ = h 137 58 := A.get 137 58 (by decide)
      have st_162 : _ = h 162 := A.row 162 (by decide)
      have st_163 : _ = h 163 := A.row 163 (by decide)
      have st_165 : _ = h 165 := A.row 165 (by decide)
      have st_166 : _ = h 166 := A.row 166 (by decide)
      have k_3 : (3 : Int32).toInt = 3 := rfl
      have k_m1 : (-1 : Int32).toInt = -1 := rfl
      refine pk_v (pr_V M V (m_X12_openThing l S I (3 : Int32) (-1 : Int32) (0 : Int32) (by omega) (by omega) (by omega) (show (hr4 137 56).toInt ≤ 39 by omega)) km_X12_openThing (sm_this S) pC12 lkM_X12_334 rfl hl.1 rfl (Nat.le_of_ble_eq_true rfl) ⟨Nat.le_of_ble_eq_true rfl, Nat.le_of_ble_eq_true rfl⟩ ⟨Nat.le_of_ble_eq_true rfl, Nat.le_of_ble_eq_true rfl⟩ dX12_scope_39) V (fun Zr5 hr5 H locs pr5 _ _ V => ?_)
      obtain ⟨rfl, I, pA_r5, fr5_0, fr5_1, fr5_2, fr5_3, fr5_4⟩ := pr5
      have fr5_4 : (hr4 137 56).toInt + (1) ≤ (hr5 137 56).toInt ∧ (hr5 137 56).toInt ≤ (hr4 137 56).toInt + (1) := fr5_4
      have A := A.wk (l3 := [(137, 0), (137, 56), (162, 1000), (163, 1000), (165, 1000), (166, 1000), (164, 1000)]) (by decide)
      have A := A.tr pA_r5 (by decide)
      have E9 : mE hr5 := E9.congr (pA_r5.get 137 2 (by decide)) (pA_r5.row 138 (by decide))
      have K9 : mK hr5 := K9.congr (pA_r5.row 185 (by decide)) (pA_r5.row 184 (by decide))
      have w_r5_70 : (hr5 137 70).toInt = (hr4 137 70).toInt := congrArg Int32.toInt (pA_r5.get 137 70 (by decide))
      have w_r5_58 : (hr5 137 58).toInt = (hr4 137 58).toInt := congrArg Int32.toInt (pA_r5.get 137 58 (by decide))
      have w_r5_25 : (hr5 137 25).toInt = (hr4 137 25).toInt := congrArg Int32.toInt (pA_r5.get 137 25 (by decide))
      have w_r5_27 : (hr5 137 27).toInt = (hr4 137 27).toInt := congrArg Int32.toInt (pA_r5.get 137 27 (by decide))
      have w_r5_82 : (hr5 137 82).toInt = (hr4 137 82).toInt := congrArg Int32.toInt (pA_r5.get 137 82 (by decide))
      have w_r5_83 : (hr5 137 83).toInt = (hr4 137 83).toInt := congrArg Int32.toInt (pA_r5.get 137 83 (by decide))
      have w_r5_2 : (hr5 137 2).toInt = (hr4 137 2).toInt := congrArg Int32.toInt (pA_r5.get 137 2 (by decide))
      refine lv_aload_n hx hb dX12_scope_42 rfl (lv_at hl 1 rfl) ?_
      refine lv_iload_n hx hb dX12_scope_43 rfl (lv_at hl 0 rfl) ?_
      refine pk_v (pr_V M V (m_X12_push l S I r4 (show (hr5 137 58).toInt ≤ 39 by omega)) km_X12_push (sm_this S) pC12 lkM_X12_337 rfl hl.1 rfl (Nat.le_of_ble_eq_true rfl) ⟨Nat.le_of_ble_eq_true rfl, Nat.le_of_ble_eq_true rfl⟩ ⟨Nat.le_of_ble_eq_true rfl, Nat.le_of_ble_eq_true rfl⟩ dX12_scope_44) V (fun Zr6 hr6 H locs pr6 _ _ V => ?_)
      obtain ⟨rfl, I, pA_r6, fr6_0⟩ := pr6
      have fr6_0 : (hr5 137 58).toInt + (1) ≤ (hr6 137 58).toInt ∧ (hr6 137 58).toInt ≤ (hr5 137 58).toInt + (1) := fr6_0
      have A := A.wk (l3 := [(137, 0), (137, 56), (162, 1000), (163, 1000), (165, 1000), (166, 1000), (164, 1000), (137, 58), (167, 1000)]) (by decide)
      have A := A.tr pA_r6 (by decide)
      have E9 : mE hr6 := E9.congr (pA_r6.get 137 2 (by decide)) (pA_r6.row 138 (by decide))
      have K9 : mK hr6 := K9.congr (pA_r6.row 185 (by decide)) (pA_r6.row 184 (by decide))
      have w_r6_r162 : hr6 162 = (hr5 162) := pA_r6.row 162 (by decide)
      have w_r6_r163 : hr6 163 = (hr5 163) := pA_r6.row 163 (by decide)
      have w_r6_r165 : hr6 165 = (hr5 165) := pA_r6.row 165 (by decide)
      have w_r6_r166 : hr6 166 = (hr5 166) := pA_r6.row 166 (by decide)
      have w_r6_56 : (hr6 137 56).toInt = (hr5 137 56).toInt := congrArg Int32.toInt (pA_r6.get 137 56 (by decide))
      have w_r6_70 : (hr6 137 70).toInt = (hr5 137 70).toInt := congrArg Int32.toInt (pA_r6.get 137 70 (by decide))
      have w_r6_25 : (hr6 137 25).toInt = (hr5 137 25).toInt := congrArg Int32.toInt (pA_r6.get 137 25 (by decide))
      have w_r6_27 : (hr6 137 27).toInt = (hr5 137 27).toInt := congrArg Int32.toInt (pA_r6.get 137 27 (by decide))
      have w_r6_82 : (hr6 137 82).toInt = (hr5 137 82).toInt := congrArg Int32.toInt (pA_r6.get 137 82 (by decide))
      have w_r6_83 : (hr6 137 83).toInt = (hr5 137 83).toInt := congrArg Int32.toInt (pA_r6.get 137 83 (by decide))
      have w_r6_2 : (hr6 137 2).toInt = (hr5 137 2).toInt := congrArg Int32.toInt (pA_r6.get 137 2 (by decide))
      exact pe_v M V rfl rfl hr hlk ⟨rfl, I, A.wk (by decide), (E9.congr rfl rfl), (mS.push (i := (h 137 56).toNatClampNeg) (kind := (3 : Int32)) (ar := (-1 : Int32)) (nu := (0 : Int32)) S0 z56 (by omega) (show (hr6 137 56).toInt = _ by omega) (show (hr6 137 70).toInt = _ by rw [if_pos (by decide)]; omega) (show (hr6 137 58).toInt = _ by rw [if_neg (by decide)]; omega) (show (hr6 162) = _ by rw [w_r6_r162, fr5_0, st_162, so_56]) (show (hr6 163) = _ by rw [w_r6_r163, fr5_1, st_163, so_56, so_58]) (show (hr6 165) = _ by rw [w_r6_r165, fr5_2, st_165, so_56]) (show (hr6 166) = _ by rw [w_r6_r166, fr5_3, st_166, so_56]) (fun z9 => absurd z56 (by omega)) (fun z9 => absurd rfl z9) (fun z9 => absurd z9 (by decide))), (K9.congr rfl rfl)⟩ ⟨Nat.le_refl _, Nat.le_refl _⟩ dX12_scope_47
    · skip
      have k_40 : (40 : Int32).toInt = 40 := rfl
      have c_19 := pi_eq.mp c_19
      refine lv_aload_n hx hb dX12_scope_22 rfl (lv_at hl 0 rfl) ?_
      refine lv_iconst (v := 2) hx hb dX12_scope_23 (by decide) ?_
      refine pk_i (pr_V M V (m_X12_fails l S I (2 : Int32) ) km_X12_fails (sm_this S) pC12 lkM_X12_297 rfl hl.1 rfl (Nat.le_of_ble_eq_true rfl) ⟨Nat.le_of_ble_eq_true rfl, Nat.le_of_ble_eq_true rfl⟩ ⟨Nat.le_of_ble_eq_true rfl, Nat.le_of_ble_eq_true rfl⟩ dX12_scope_24) V (fun r7 Zr7 hr7 H locs pr7 _ _ V => ?_)
      obtain ⟨rfl, I, pA_r7, fr7_0, fr7_1⟩ := pr7
      have A := A.wk (l3 := [(137, 0), (137, 18), (137, 19), (137, 20), (137, 22), (137, 21), (137, 23), (137, 40), (137, 48), (137, 56), (137, 58), (137, 70), (137, 71), (153, 1000)]) (by decide)
      have A := A.tr pA_r7 (by decide)
      have E9 : mE hr7 := E9.congr (pA_r7.get 137 2 (by decide)) (pA_r7.row 138 (by decide))
      have S9 : mS hr7 := fr7_1 (S9.congr rfl rfl rfl rfl rfl rfl rfl)
      have K9 : mK hr7 := K9.congr (pA_r7.row 185 (by decide)) (pA_r7.row 184 (by decide))
      have w_r7_r162 : hr7 162 = (hr2 162) := pA_r7.row 162 (by decide)
      have w_r7_r163 : hr7 163 = (hr2 163) := pA_r7.row 163 (by decide)
      have w_r7_r165 : hr7 165 = (hr2 165) := pA_r7.row 165 (by decide)
      have w_r7_r166 : hr7 166 = (hr2 166) := pA_r7.row 166 (by decide)
      have w_r7_25 : (hr7 137 25).toInt = (hr2 137 25).toInt := congrArg Int32.toInt (pA_r7.get 137 25 (by decide))
      have w_r7_27 : (hr7 137 27).toInt = (hr2 137 27).toInt := congrArg Int32.toInt (pA_r7.get 137 27 (by decide))
      have w_r7_82 : (hr7 137 82).toInt = (hr2 137 82).toInt := congrArg Int32.toInt (pA_r7.get 137 82 (by decide))
      have w_r7_83 : (hr7 137 83).toInt = (hr2 137 83).toInt := congrArg Int32.toInt (pA_r7.get 137 83 (by decide))
      have w_r7_2 : (hr7 137 2).toInt = (hr2 137 2).toInt := congrArg Int32.toInt (pA_r7.get 137 2 (by decide))
      refine lv_pop hx hb dX12_scope_27 rfl ?_
      exact pe_v M V rfl rfl hr hlk ⟨rfl, I, A.wk (by decide), (E9.congr rfl rfl), (S9.congr rfl rfl rfl rfl rfl rfl rfl), (K9.congr rfl rfl)⟩ ⟨Nat.le_refl _, Nat.le_refl _⟩ dX12_scope_28
  · skip
    have k_0 : (0 : Int32).toInt = 0 := rfl
    have c_9 := pi_ne c_9
    have A := A.wk (l3 := [(137, 0), (137, 18), (137, 19), (137, 20), (137, 22), (137, 21), (137, 23), (137, 40), (137, 48), (137, 56), (137, 58), (137, 70), (137, 71), (153, 1000)]) (by decide)
    have A := A.tr pA_r2 (by decide)
    have E9 : mE hr2 := E9.congr (pA_r2.get 137 2 (by decide)) (pA_r2.row 138 (by decide))
    have S9 : mS hr2 := fr2_2 (S9.congr rfl rfl rfl rfl rfl rfl rfl)
    have K9 : mK hr2 := K9.congr (pA_r2.row 185 (by decide)) (pA_r2.row 184 (by decide))
    have w_r2_r162 : hr2 162 = (h 162) := pA_r2.row 162 (by decide)
    have w_r2_r163 : hr2 163 = (h 163) := pA_r2.row 163 (by decide)
    have w_r2_r165 : hr2 165 = (h 165) := pA_r2.row 165 (by decide)
    have w_r2_r166 : hr2 166 = (h 166) := pA_r2.row 166 (by decide)
    have w_r2_25 : (hr2 137 25).toInt = (h 137 25).toInt := congrArg Int32.toInt (pA_r2.get 137 25 (by decide))
    have w_r2_27 : (hr2 137 27).toInt = (h 137 27).toInt := congrArg Int32.toInt (pA_r2.get 137 27 (by decide))
    have w_r2_82 : (hr2 137 82).toInt = (h 137 82).toInt := congrArg Int32.toInt (pA_r2.get 137 82 (by decide))
    have w_r2_83 : (hr2 137 83).toInt = (h 137 83).toInt := congrArg Int32.toInt (pA_r2.get 137 83 (by decide))
    have w_r2_2 : (hr2 137 2).toInt = (h 137 2).toInt := congrArg Int32.toInt (pA_r2.get 137 2 (by decide))
    exact pe_v M V rfl rfl hr hlk ⟨rfl, I, A.wk (by decide), (E9.congr rfl rfl), (S9.congr rfl rfl rfl rfl rfl rfl rfl), (K9.congr rfl rfl)⟩ ⟨Nat.le_refl _, Nat.le_refl _⟩ dX12_scope_12
theorem dX12_group_0 : decode cX12_group 0 = .ok (.aload_n 0, 1) := by decide +kernel
theorem dX12_group_1 : decode cX12_group 1 = .ok (.iconst 0, 1) := by decide +kernel
theorem dX12_group_2 : decode cX12_group 2 = .ok (.putfield 175, 3) := by decide +kernel
theorem dX12_group_5 : decode cX12_group 5 = .ok (.aload_n 0, 1) := by decide +kernel
theorem dX12_group_6 : decode cX12_group 6 = .ok (.getfield 236, 3) := by decide +kernel
theorem dX12_group_9 : decode cX12_group 9 = .ok (.ifCond .eq 19, 3) := by decide +kernel
theorem dX12_group_12 : decode cX12_group 12 = .ok (.aload_n 0, 1) := by decide +kernel
theorem dX12_group_13 : decode cX12_group 13 = .ok (.getfield 285, 3) := by decide +kernel
theorem dX12_group_16 : decode cX12_group 16 = .ok (.ifCond .eq 12, 3) := by decide +kernel
theorem dX12_group_19 : decode cX12_group 19 = .ok (.aload_n 0, 1) := by decide +kernel
theorem dX12_group_20 : decode cX12_group 20 = .ok (.getfield 279, 3) := by decide +kernel
theorem dX12_group_23 : decode cX12_group 23 = .ok (.bipush 40, 2) := by decide +kernel
theorem dX12_group_25 : decode cX12_group 25 = .ok (.if_icmp .ne 9, 3) := by decide +kernel
theorem dX12_group_28 : decode cX12_group 28 = .ok (.aload_n 0, 1) := by decide +kernel
theorem dX12_group_29 : decode cX12_group 29 = .ok (.invokevirtual 239, 3) := by decide +kernel
theorem dX12_group_32 : decode cX12_group 32 = .ok (.pop, 1) := by decide +kernel
theorem dX12_group_33 : decode cX12_group 33 = .ok (.return_, 1) := by decide +kernel
theorem dX12_group_34 : decode cX12_group 34 = .ok (.aload_n 0, 1) := by decide +kernel
theorem dX12_group_35 : decode cX12_group 35 = .ok (.getfield 285, 3) := by decide +kernel
theorem dX12_group_38 : decode cX12_group 38 = .ok (.iconst 1, 1) := by decide +kernel
theorem dX12_group_39 : decode cX12_group 39 = .ok (.isub, 1) := by decide +kernel
theorem dX12_group_40 : decode cX12_group 40 = .ok (.istore_n 1, 1) := by decide +kernel
theorem dX12_group_41 : decode cX12_group 41 = .ok (.aload_n 0, 1) := by decide +kernel
theorem dX12_group_42 : decode cX12_group 42 = .ok (.getfield 138, 3) := by decide +kernel
theorem dX12_group_45 : decode cX12_group 45 = .ok (.iload_n 1, 1) := by decide +kernel
theorem dX12_group_46 : decode cX12_group 46 = .ok (.baload, 1) := by decide +kernel
theorem dX12_group_47 : decode cX12_group 47 = .ok (.ifCond .eq 16, 3) := by decide +kernel
theorem dX12_group_50 : decode cX12_group 50 = .ok (.aload_n 0, 1) := by decide +kernel
theorem dX12_group_51 : decode cX12_group 51 = .ok (.getfield 135, 3) := by decide +kernel
theorem dX12_group_54 : decode cX12_group 54 = .ok (.iload_n 1, 1) := by decide +kernel
theorem dX12_group_55 : decode cX12_group 55 = .ok (.baload, 1) := by decide +kernel
theorem dX12_group_56 : decode cX12_group 56 = .ok (.ifCond .eq 7, 3) := by decide +kernel
theorem dX12_group_59 : decode cX12_group 59 = .ok (.iconst 1, 1) := by decide +kernel
theorem dX12_group_60 : decode cX12_group 60 = .ok (.goto 4, 3) := by decide +kernel
theorem dX12_group_63 : decode cX12_group 63 = .ok (.iconst 0, 1) := by decide +kernel
theorem dX12_group_64 : decode cX12_group 64 = .ok (.istore_n 2, 1) := by decide +kernel
theorem dX12_group_65 : decode cX12_group 65 = .ok (.aload_n 0, 1) := by decide +kernel
theorem dX12_group_66 : decode cX12_group 66 = .ok (.iload_n 1, 1) := by decide +kernel
theorem dX12_group_67 : decode cX12_group 67 = .ok (.invokevirtual 350, 3) := by decide +kernel
theorem dX12_group_70 : decode cX12_group 70 = .ok (.istore_n 3, 1) := by decide +kernel
theorem dX12_group_71 : decode cX12_group 71 = .ok (.aload_n 0, 1) := by decide +kernel
theorem dX12_group_72 : decode cX12_group 72 = .ok (.iload_n 1, 1) := by decide +kernel
theorem dX12_group_73 : decode cX12_group 73 = .ok (.invokevirtual 353, 3) := by decide +kernel
theorem dX12_group_76 : decode cX12_group 76 = .ok (.istore 4, 2) := by decide +kernel
theorem dX12_group_78 : decode cX12_group 78 = .ok (.aload_n 0, 1) := by decide +kernel
theorem dX12_group_79 : decode cX12_group 79 = .ok (.getfield 138, 3) := by decide +kernel
theorem dX12_group_82 : decode cX12_group 82 = .ok (.iload_n 1, 1) := by decide +kernel
theorem dX12_group_83 : decode cX12_group 83 = .ok (.iconst 0, 1) := by decide +kernel
theorem dX12_group_84 : decode cX12_group 84 = .ok (.bastore, 1) := by decide +kernel
theorem dX12_group_85 : decode cX12_group 85 = .ok (.aload_n 0, 1) := by decide +kernel
theorem dX12_group_86 : decode cX12_group 86 = .ok (.iload_n 3, 1) := by decide +kernel
theorem dX12_group_87 : decode cX12_group 87 = .ok (.iload 4, 2) := by decide +kernel
theorem dX12_group_89 : decode cX12_group 89 = .ok (.invokevirtual 331, 3) := by decide +kernel
theorem dX12_group_92 : decode cX12_group 92 = .ok (.istore 5, 2) := by decide +kernel
theorem dX12_group_94 : decode cX12_group 94 = .ok (.aload_n 0, 1) := by decide +kernel
theorem dX12_group_95 : decode cX12_group 95 = .ok (.getfield 141, 3) := by decide +kernel
theorem dX12_group_98 : decode cX12_group 98 = .ok (.iload 5, 2) := by decide +kernel
theorem dX12_group_100 : decode cX12_group 100 = .ok (.iload_n 2, 1) := by decide +kernel
theorem dX12_group_101 : decode cX12_group 101 = .ok (.bastore, 1) := by decide +kernel
theorem dX12_group_102 : decode cX12_group 102 = .ok (.aload_n 0, 1) := by decide +kernel
theorem dX12_group_103 : decode cX12_group 103 = .ok (.iconst 4, 1) := by decide +kernel
theorem dX12_group_104 : decode cX12_group 104 = .ok (.iload 5, 2) := by decide +kernel
theorem dX12_group_106 : decode cX12_group 106 = .ok (.iconst 0, 1) := by decide +kernel
theorem dX12_group_107 : decode cX12_group 107 = .ok (.invokevirtual 334, 3) := by decide +kernel
theorem dX12_group_110 : decode cX12_group 110 = .ok (.return_, 1) := by decide +kernel
set_option maxHeartbeats 4000000 in
set_option maxRecDepth 100000 in
theorem m_X12_group (l : Launch) {Z : pZ} (S : pSh Z) {h : pH} (I : Iv Z h) (E9 : mE h) (S9 : mS h) (K9 : mK h) (ht : (h 137 25).toInt ≤ 599) (hb9 : (h 137 27).toInt ≤ 599) (hq : (h 137 82).toInt ≤ 6980) : pMet l yX12_group cX12_group 6 none 2 0 0 42 Z h [.ref (zB Z + 137)] (pQv Z (fun Z1 h1 => Z = Z1 ∧ Iv Z h1 ∧ agr [(137, 0), (137, 18), (137, 19), (137, 20), (137, 22), (137, 21), (137, 23), (137, 40), (137, 48), (137, 56), (137, 58), (137, 70), (137, 71), (153, 1000), (162, 1000), (163, 1000), (165, 1000), (166, 1000), (164, 1000), (168, 1000), (169, 1000), (170, 1000), (174, 1000), (175, 1000), (176, 1000), (177, 1000), (178, 1000)] h h1 ∧ (mE h1) ∧ (mS h1) ∧ (mK h1))) := by
  refine pOfW (lv := [(0, .ref (zB Z + 137))]) (by decide) (Nat.le_of_ble_eq_true rfl) rfl ?_
  intro p e s m below meth c ls M hr hlk hnm V hl
  have hx := M.1.1
  have hb := M.1.2.1
  have A : agr [] h h := agr.rf
  have i_56 : 0 ≤ (h 137 56).toInt ∧ (h 137 56).toInt ≤ 40 := I.get (sm_this S) 56
  have i_70 : 0 ≤ (h 137 70).toInt ∧ (h 137 70).toInt ≤ 40 := I.get (sm_this S) 70
  have i_58 : 0 ≤ (h 137 58).toInt ∧ (h 137 58).toInt ≤ 40 := I.get (sm_this S) 58
  have i_25 : 0 ≤ (h 137 25).toInt ∧ (h 137 25).toInt ≤ 600 := I.get (sm_this S) 25
  have i_27 : 0 ≤ (h 137 27).toInt ∧ (h 137 27).toInt ≤ 600 := I.get (sm_this S) 27
  have i_82 : 0 ≤ (h 137 82).toInt ∧ (h 137 82).toInt ≤ 7000 := I.get (sm_this S) 82
  have i_83 : 0 ≤ (h 137 83).toInt ∧ (h 137 83).toInt ≤ 7000 := I.get (sm_this S) 83
  have i_2 : 0 ≤ (h 137 2).toInt ∧ (h 137 2).toInt ≤ 64 := I.get (sm_this S) 2
  have n9 := S9.num
  have S0 := S9
  have z56 : ((h 137 56).toNatClampNeg : Int) = (h 137 56).toInt := pi_cl i_56.1
  have J_64 : ∀ (x64_1 : Int32) (y64_0 : Int32) (hJ : pH) (H : Heap) (locs : List Loc) (ls : Array Slot), pV Z hJ s.heap H locs → Iv Z hJ → agr [(137, 0)] h hJ → lv_has ls 6 [(0, .ref (zB Z + 137)), (1, .int x64_1)] → (-1 ≤ x64_1.toInt ∧ x64_1.toInt ≤ 39) → (0 ≤ y64_0.toInt ∧ y64_0.toInt ≤ 1) → ((h 137 56).toInt + (0) ≤ (hJ 137 56).toInt ∧ (hJ 137 56).toInt ≤ (h 137 56).toInt + (0)) → ((h 137 70).toInt + (0) ≤ (hJ 137 70).toInt ∧ (hJ 137 70).toInt ≤ (h 137 70).toInt + (0)) → ((h 137 58).toInt + (0) ≤ (hJ 137 58).toInt ∧ (hJ 137 58).toInt ≤ (h 137 58).toInt + (0)) → ((h 137 25).toInt + (0) ≤ (hJ 137 25).toInt ∧ (hJ 137 25).toInt ≤ (h 137 25).toInt + (0)) → ((h 137 27).toInt + (0) ≤ (hJ 137 27).toInt ∧ (hJ 137 27).toInt ≤ (h 137 27).toInt + (0)) → ((h 137 82).toInt + (0) ≤ (hJ 137 82).toInt ∧ (hJ 137 82).toInt ≤ (h 137 82).toInt + (0)) → ((h 137 83).toInt + (0) ≤ (hJ 137 83).toInt ∧ (hJ 137 83).toInt ≤ (h 137 83).toInt + (0)) → ((h 137 2).toInt + (0) ≤ (hJ 137 2).toInt ∧ (hJ 137 2).toInt ≤ (h 137 2).toInt + (0)) → (x64_1.toInt + 1 = (hJ 137 70).toInt ∧ 1 ≤ (hJ 137 70).toInt ∧ (hJ 137 56).toInt ≤ 39) → mE hJ → mS hJ → mK hJ → W p l e (pRm 2 0 0 42) s m ([.ref (zB Z + 137)] : List Value).toArray below meth c H locs 0 0 (MQ below (pQv Z (fun Z1 h1 => Z = Z1 ∧ Iv Z h1 ∧ agr [(137, 0), (137, 18), (137, 19), (137, 20), (137, 22), (137, 21), (137, 23), (137, 40), (137, 48), (137, 56), (137, 58), (137, 70), (137, 71), (153, 1000), (162, 1000), (163, 1000), (165, 1000), (166, 1000), (164, 1000), (168, 1000), (169, 1000), (170, 1000), (174, 1000), (175, 1000), (176, 1000), (177, 1000), (178, 1000)] h h1 ∧ (mE h1) ∧ (mS h1) ∧ (mK h1))) ([.ref (zB Z + 137)] : List Value).toArray s 0 0 (pA (zB Z))) (F0 m 64 ls [.int y64_0]) := by
    intro x64_1 y64_0 hJ H locs ls V I A hl g_64_1 gs_64_0 gd_64_56 gd_64_70 gd_64_58 gd_64_25 gd_64_27 gd_64_82 gd_64_83 gd_64_2 e64 E9 S9 K9
    refine lv_istore_n (lv' := [(2, .int y64_0), (0, .ref (zB Z + 137)), (1, .int x64_1)]) hx hb dX12_group_64 rfl hl (by decide) rfl (fun ls hl => ?_)
    refine lv_aload_n hx hb dX12_group_65 rfl (lv_at hl 1 rfl) ?_
    refine lv_iload_n hx hb dX12_group_66 rfl (lv_at hl 2 rfl) ?_
    refine pk_i (pr_V M V (m_X12_nextX l S I x64_1 (by omega)) km_X12_nextX (sm_this S) pC12 lkM_X12_350 rfl hl.1 rfl (Nat.le_of_ble_eq_true rfl) ⟨Nat.le_of_ble_eq_true rfl, Nat.le_of_ble_eq_true rfl⟩ ⟨Nat.le_of_ble_eq_true rfl, Nat.le_of_ble_eq_true rfl⟩ dX12_group_67) V (fun r1 Zr1 hr1 H locs pr1 _ _ V => ?_)
    obtain ⟨rfl, I, pA_r1⟩ := pr1
    have A := A.tr pA_r1 (by decide)
    have E9 : mE hr1 := E9.congr (pA_r1.get 137 2 (by decide)) (pA_r1.row 138 (by decide))
    have S9 : mS hr1 := S9.congr (pA_r1.get 137 56 (by decide)) (pA_r1.get 137 70 (by decide)) (pA_r1.get 137 58 (by decide)) (pA_r1.row 162 (by decide)) (pA_r1.row 163 (by decide)) (pA_r1.row 165 (by decide)) (pA_r1.row 166 (by decide))
    have K9 : mK hr1 := K9.congr (pA_r1.row 185 (by decide)) (pA_r1.row 184 (by decide))
    have w_r1_r162 : hr1 162 = (hJ 162) := pA_r1.row 162 (by decide)
    have w_r1_r163 : hr1 163 = (hJ 163) := pA_r1.row 163 (by decide)
    have w_r1_r165 : hr1 165 = (hJ 165) := pA_r1.row 165 (by decide)
    have w_r1_r166 : hr1 166 = (hJ 166) := pA_r1.row 166 (by decide)
    have w_r1_56 : (hr1 137 56).toInt = (hJ 137 56).toInt := congrArg Int32.toInt (pA_r1.get 137 56 (by decide))
    have w_r1_70 : (hr1 137 70).toInt = (hJ 137 70).toInt := congrArg Int32.toInt (pA_r1.get 137 70 (by decide))
    have w_r1_58 : (hr1 137 58).toInt = (hJ 137 58).toInt := congrArg Int32.toInt (pA_r1.get 137 58 (by decide))
    have w_r1_25 : (hr1 137 25).toInt = (hJ 137 25).toInt := congrArg Int32.toInt (pA_r1.get 137 25 (by decide))
    have w_r1_27 : (hr1 137 27).toInt = (hJ 137 27).toInt := congrArg Int32.toInt (pA_r1.get 137 27 (by decide))
    have w_r1_82 : (hr1 137 82).toInt = (hJ 137 82).toInt := congrArg Int32.toInt (pA_r1.get 137 82 (by decide))
    have w_r1_83 : (hr1 137 83).toInt = (hJ 137 83).toInt := congrArg Int32.toInt (pA_r1.get 137 83 (by decide))
    have w_r1_2 : (hr1 137 2).toInt = (hJ 137 2).toInt := congrArg Int32.toInt (pA_r1.get 137 2 (by decide))
    refine lv_istore_n (lv' := [(3, .int r1), (2, .int y64_0), (0, .ref (zB Z + 137)), (1, .int x64_1)]) hx hb dX12_group_70 rfl hl (by decide) rfl (fun ls hl => ?_)
    refine lv_aload_n hx hb dX12_group_71 rfl (lv_at hl 2 rfl) ?_
    refine lv_iload_n hx hb dX12_group_72 rfl (lv_at hl 3 rfl) ?_
    refine pk_i (pr_V M V (m_X12_nextY l S I x64_1 (by omega)) km_X12_nextY (sm_this S) pC12 lkM_X12_353 rfl hl.1 rfl (Nat.le_of_ble_eq_true rfl) ⟨Nat.le_of_ble_eq_true rfl, Nat.le_of_ble_eq_true rfl⟩ ⟨Nat.le_of_ble_eq_true rfl, Nat.le_of_ble_eq_true rfl⟩ dX12_group_73) V (fun r2 Zr2 hr2 H locs pr2 _ _ V => ?_)
    obtain ⟨rfl, I, pA_r2⟩ := pr2
    have A := A.tr pA_r2 (by decide)
    have E9 : mE hr2 := E9.congr (pA_r2.get 137 2 (by decide)) (pA_r2.row 138 (by decide))
    have S9 : mS hr2 := S9.congr (pA_r2.get 137 56 (by decide)) (pA_r2.get 137 70 (by decide)) (pA_r2.get 137 58 (by decide)) (pA_r2.row 162 (by decide)) (pA_r2.row 163 (by decide)) (pA_r2.row 165 (by decide)) (pA_r2.row 166 (by decide))
    have K9 : mK hr2 := K9.congr (pA_r2.row 185 (by decide)) (pA_r2.row 184 (by decide))
    have w_r2_r162 : hr2 162 = (hr1 162) := pA_r2.row 162 (by decide)
    have w_r2_r163 : hr2 163 = (hr1 163) := pA_r2.row 163 (by decide)
    have w_r2_r165 : hr2 165 = (hr1 165) := pA_r2.row 165 (by decide)
    have w_r2_r166 : hr2 166 = (hr1 166) := pA_r2.row 166 (by decide)
    have w_r2_56 : (hr2 137 56).toInt = (hr1 137 56).toInt := congrArg Int32.toInt (pA_r2.get 137 56 (by decide))
    have w_r2_70 : (hr2 137 70).toInt = (hr1 137 70).toInt := congrArg Int32.toInt (pA_r2.get 137 70 (by decide))
    have w_r2_58 : (hr2 137 58).toInt = (hr1 137 58).toInt := congrArg Int32.toInt (pA_r2.get 137 58 (by decide))
    have w_r2_25 : (hr2 137 25).toInt = (hr1 137 25).toInt := congrArg Int32.toInt (pA_r2.get 137 25 (by decide))
    have w_r2_27 : (hr2 137 27).toInt = (hr1 137 27).toInt := congrArg Int32.toInt (pA_r2.get 137 27 (by decide))
    have w_r2_82 : (hr2 137 82).toInt = (hr1 137 82).toInt := congrArg Int32.toInt (pA_r2.get 137 82 (by decide))
    have w_r2_83 : (hr2 137 83).toInt = (hr1 137 83).toInt := congrArg Int32.toInt (pA_r2.get 137 83 (by decide))
    have w_r2_2 : (hr2 137 2).toInt = (hr1 137 2).toInt := congrArg Int32.toInt (pA_r2.get 137 2 (by decide))
    refine lv_istore (lv' := [(4, .int r2), (3, .int r1), (2, .int y64_0), (0, .ref (zB Z + 137)), (1, .int x64_1)]) hx hb dX12_group_76 hl (by decide) rfl (fun ls hl => ?_)
    refine lv_aload_n hx hb dX12_group_78 rfl (lv_at hl 3 rfl) ?_
    refine pg_r M V 12 68 (sm_this S) pC12 fk12_68 (sm_near S).2.2 lkF_X12_138 dX12_group_79 ?_
    refine lv_iload_n hx hb dX12_group_82 rfl (lv_at hl 4 rfl) ?_
    refine lv_iconst (v := 0) hx hb dX12_group_83 (by decide) ?_
    have k_0 : (0 : Int32).toInt = 0 := rfl
    refine ps_z M V (sm_near S).1 (by rw [(sm_near S).2.1]; exact pi_in (by omega)) (pi_z (by omega)) dX12_group_84 (fun H locs V => ?_)
    have A := A.wk (l3 := [(137, 0), (177, 1000)]) (by decide)
    have A := A.upA (o := 177) (k := x64_1.toNatClampNeg) (v := (0 : Int32)) (by decide)
    have I := I.up (k := x64_1.toNatClampNeg) (v := (0 : Int32)) (sm_near S).1 (show (0 : Int) ≤ (0 : Int32).toInt ∧ (0 : Int32).toInt ≤ (1 : Int) by omega)
    refine lv_aload_n hx hb dX12_group_85 rfl (lv_at hl 3 rfl) ?_
    refine lv_iload_n hx hb dX12_group_86 rfl (lv_at hl 1 rfl) ?_
    refine lv_iload hx hb dX12_group_87 (lv_at hl 0 rfl) ?_
    refine pk_i (pr_V M V (m_X12_area l S I r1 r2 (show (hr2 137 70).toInt ≤ 39 by omega)) km_X12_area (sm_this S) pC12 lkM_X12_331 rfl hl.1 rfl (Nat.le_of_ble_eq_true rfl) ⟨Nat.le_of_ble_eq_true rfl, Nat.le_of_ble_eq_true rfl⟩ ⟨Nat.le_of_ble_eq_true rfl, Nat.le_of_ble_eq_true rfl⟩ dX12_group_89) V (fun r3 Zr3 hr3 H locs pr3 _ _ V => ?_)
    obtain ⟨rfl, I, pA_r3, fr3_0, fr3_1⟩ := pr3
    have fr3_0 : r3.toInt = (hr2 137 70).toInt ∧ 0 ≤ r3.toInt ∧ r3.toInt ≤ 39 := fr3_0
    have fr3_1 : (hr2 137 70).toInt + (1) ≤ (hr3 137 70).toInt ∧ (hr3 137 70).toInt ≤ (hr2 137 70).toInt + (1) := fr3_1
    have A := A.wk (l3 := [(137, 0), (177, 1000), (137, 70), (168, 1000), (169, 1000), (170, 1000), (174, 1000), (175, 1000), (176, 1000)]) (by decide)
    have A := A.tr pA_r3 (by decide)
    have E9 : mE hr3 := E9.congr (pA_r3.get 137 2 (by decide)) (pA_r3.row 138 (by decide))
    have K9 : mK hr3 := K9.congr (pA_r3.row 185 (by decide)) (pA_r3.row 184 (by decide))
    have w_r3_r162 : hr3 162 = (hr2 162) := pA_r3.row 162 (by decide)
    have w_r3_r163 : hr3 163 = (hr2 163) := pA_r3.row 163 (by decide)
    have w_r3_r165 : hr3 165 = (hr2 165) := pA_r3.row 165 (by decide)
    have w_r3_r166 : hr3 166 = (hr2 166) := pA_r3.row 166 (by decide)
    have w_r3_56 : (hr3 137 56).toInt = (hr2 137 56).toInt := congrArg Int32.toInt (pA_r3.get 137 56 (by decide))
    have w_r3_58 : (hr3 137 58).toInt = (hr2 137 58).toInt := congrArg Int32.toInt (pA_r3.get 137 58 (by decide))
    have w_r3_25 : (hr3 137 25).toInt = (hr2 137 25).toInt := congrArg Int32.toInt (pA_r3.get 137 25 (by decide))
    have w_r3_27 : (hr3 137 27).toInt = (hr2 137 27).toInt := congrArg Int32.toInt (pA_r3.get 137 27 (by decide))
    have w_r3_82 : (hr3 137 82).toInt = (hr2 137 82).toInt := congrArg Int32.toInt (pA_r3.get 137 82 (by decide))
    have w_r3_83 : (hr3 137 83).toInt = (hr2 137 83).toInt := congrArg Int32.toInt (pA_r3.get 137 83 (by decide))
    have w_r3_2 : (hr3 137 2).toInt = (hr2 137 2).toInt := congrArg Int32.toInt (pA_r3.get 137 2 (by decide))
    refine lv_istore (lv' := [(5, .int r3), (4, .int r2), (3, .int r1), (2, .int y64_0), (0, .ref (zB Z + 137)), (1, .int x64_1)]) hx hb dX12_group_92 hl (by decide) rfl (fun ls hl => ?_)
    refine lv_aload_n hx hb dX12_group_94 rfl (lv_at hl 4 rfl) ?_
    refine pg_r M V 12 69 (sm_this S) pC12 fk12_69 (sm_wasNear S).2.2 lkF_X12_141 dX12_group_95 ?_
    refine lv_iload hx hb dX12_group_98 (lv_at hl 0 rfl) ?_
    refine lv_iload_n hx hb dX12_group_100 rfl (lv_at hl 3 rfl) ?_
    refine ps_z M V (sm_wasNear S).1 (by rw [(sm_wasNear S).2.1]; exact pi_in (by omega)) (pi_z (by omega)) dX12_group_101 (fun H locs V => ?_)
    have A := A.wk (l3 := [(137, 0), (177, 1000), (137, 70), (168, 1000), (169, 1000), (170, 1000), (174, 1000), (175, 1000), (176, 1000), (178, 1000)]) (by decide)
    have A := A.upA (o := 178) (k := r3.toNatClampNeg) (v := y64_0) (by decide)
    have I := I.up (k := r3.toNatClampNeg) (v := y64_0) (sm_wasNear S).1 (show (0 : Int) ≤ y64_0.toInt ∧ y64_0.toInt ≤ (1 : Int) by omega)
    refine lv_aload_n hx hb dX12_group_102 rfl (lv_at hl 4 rfl) ?_
    refine lv_iconst (v := 4) hx hb dX12_group_103 (by decide) ?_
    refine lv_iload hx hb dX12_group_104 (lv_at hl 0 rfl) ?_
    refine lv_iconst (v := 0) hx hb dX12_group_106 (by decide) ?_
    have so_56 : _ = h 137 56 := A.get 137 56 (by decide)
    have so_58 : _ = h 137 58 := A.get 137 58 (by decide)
    have st_162 : _ = h 162 := A.row 162 (by decide)
    have st_163 : _ = h 163 := A.row 163 (by decide)
    have st_165 : _ = h 165 := A.row 165 (by decide)
    have st_166 : _ = h 166 := A.row 166 (by decide)
    have k_4 : (4 : Int32).toInt = 4 := rfl
    refine pk_v (pr_V M V (m_X12_openThing l S I (4 : Int32) r3 (0 : Int32) (by omega) (by omega) (by omega) (show (hr3 137 56).toInt ≤ 39 by omega)) km_X12_openThing (sm_this S) pC12 lkM_X12_334 rfl hl.1 rfl (Nat.le_of_ble_eq_true rfl) ⟨Nat.le_of_ble_eq_true rfl, Nat.le_of_ble_eq_true rfl⟩ ⟨Nat.le_of_ble_eq_true rfl, Nat.le_of_ble_eq_true rfl⟩ dX12_group_107) V (fun Zr4 hr4 H locs pr4 _ _ V => ?_)
    obtain ⟨rfl, I, pA_r4, fr4_0, fr4_1, fr4_2, fr4_3, fr4_4⟩ := pr4
    have fr4_4 : (hr3 137 56).toInt + (1) ≤ (hr4 137 56).toInt ∧ (hr4 137 56).toInt ≤ (hr3 137 56).toInt + (1) := fr4_4
    have A := A.wk (l3 := [(137, 0), (177, 1000), (137, 70), (168, 1000), (169, 1000), (170, 1000), (174, 1000), (175, 1000), (176, 1000), (178, 1000), (137, 56), (162, 1000), (163, 1000), (165, 1000), (166, 1000), (164, 1000)]) (by decide)
    have A := A.tr pA_r4 (by decide)
    have E9 : mE hr4 := E9.congr (pA_r4.get 137 2 (by decide)) (pA_r4.row 138 (by decide))
    have K9 : mK hr4 := K9.congr (pA_r4.row 185 (by decide)) (pA_r4.row 184 (by decide))
    have w_r4_70 : (hr4 137 70).toInt = (hr3 137 70).toInt := congrArg Int32.toInt (pA_r4.get 137 70 (by decide))
    have w_r4_58 : (hr4 137 58).toInt = (hr3 137 58).toInt := congrArg Int32.toInt (pA_r4.get 137 58 (by decide))
    have w_r4_25 : (hr4 137 25).toInt = (hr3 137 25).toInt := congrArg Int32.toInt (pA_r4.get 137 25 (by decide))
    have w_r4_27 : (hr4 137 27).toInt = (hr3 137 27).toInt := congrArg Int32.toInt (pA_r4.get 137 27 (by decide))
    have w_r4_82 : (hr4 137 82).toInt = (hr3 137 82).toInt := congrArg Int32.toInt (pA_r4.get 137 82 (by decide))
    have w_r4_83 : (hr4 137 83).toInt = (hr3 137 83).toInt := congrArg Int32.toInt (pA_r4.get 137 83 (by decide))
    have w_r4_2 : (hr4 137 2).toInt = (hr3 137 2).toInt := congrArg Int32.toInt (pA_r4.get 137 2 (by decide))
    exact pe_v M V rfl rfl hr hlk ⟨rfl, I, A.wk (by decide), (E9.congr rfl rfl), (mS.push (i := (h 137 56).toNatClampNeg) (kind := (4 : Int32)) (ar := r3) (nu := (0 : Int32)) S0 z56 (by omega) (show (hr4 137 56).toInt = _ by omega) (show (hr4 137 70).toInt = _ by rw [if_neg (by decide)]; omega) (show (hr4 137 58).toInt = _ by rw [if_pos rfl]; omega) (show (hr4 162) = _ by rw [fr4_0, st_162, so_56]) (show (hr4 163) = _ by rw [fr4_1, st_163, so_56, so_58]) (show (hr4 165) = _ by rw [fr4_2, st_165, so_56]) (show (hr4 166) = _ by rw [fr4_3, st_166, so_56]) (fun z9 => absurd z56 (by omega)) (fun _ => by omega) (fun z9 => absurd z9 (by decide))), (K9.congr rfl rfl)⟩ ⟨Nat.le_refl _, Nat.le_refl _⟩ dX12_group_110
  have J_63 : ∀ (x63_1 : Int32) (hJ : pH) (H : Heap) (locs : List Loc) (ls : Array Slot), pV Z hJ s.heap H locs → Iv Z hJ → agr [(137, 0)] h hJ → lv_has ls 6 [(0, .ref (zB Z + 137)), (1, .int x63_1)] → (-1 ≤ x63_1.toInt ∧ x63_1.toInt ≤ 39) → ((h 137 56).toInt + (0) ≤ (hJ 137 56).toInt ∧ (hJ 137 56).toInt ≤ (h 137 56).toInt + (0)) → ((h 137 70).toInt + (0) ≤ (hJ 137 70).toInt ∧ (hJ 137 70).toInt ≤ (h 137 70).toInt + (0)) → ((h 137 58).toInt + (0) ≤ (hJ 137 58).toInt ∧ (hJ 137 58).toInt ≤ (h 137 58).toInt + (0)) → ((h 137 25).toInt + (0) ≤ (hJ 137 25).toInt ∧ (hJ 137 25).toInt ≤ (h 137 25).toInt + (0)) → ((h 137 27).toInt + (0) ≤ (hJ 137 27).toInt ∧ (hJ 137 27).toInt ≤ (h 137 27).toInt + (0)) → ((h 137 82).toInt + (0) ≤ (hJ 137 82).toInt ∧ (hJ 137 82).toInt ≤ (h 137 82).toInt + (0)) → ((h 137 83).toInt + (0) ≤ (hJ 137 83).toInt ∧ (hJ 137 83).toInt ≤ (h 137 83).toInt + (0)) → ((h 137 2).toInt + (0) ≤ (hJ 137 2).toInt ∧ (hJ 137 2).toInt ≤ (h 137 2).toInt + (0)) → (x63_1.toInt + 1 = (hJ 137 70).toInt ∧ 1 ≤ (hJ 137 70).toInt ∧ (hJ 137 56).toInt ≤ 39) → mE hJ → mS hJ → mK hJ → W p l e (pRm 2 0 0 42) s m ([.ref (zB Z + 137)] : List Value).toArray below meth c H locs 0 0 (MQ below (pQv Z (fun Z1 h1 => Z = Z1 ∧ Iv Z h1 ∧ agr [(137, 0), (137, 18), (137, 19), (137, 20), (137, 22), (137, 21), (137, 23), (137, 40), (137, 48), (137, 56), (137, 58), (137, 70), (137, 71), (153, 1000), (162, 1000), (163, 1000), (165, 1000), (166, 1000), (164, 1000), (168, 1000), (169, 1000), (170, 1000), (174, 1000), (175, 1000), (176, 1000), (177, 1000), (178, 1000)] h h1 ∧ (mE h1) ∧ (mS h1) ∧ (mK h1))) ([.ref (zB Z + 137)] : List Value).toArray s 0 0 (pA (zB Z))) (F0 m 63 ls []) := by
    intro x63_1 hJ H locs ls V I A hl g_63_1 gd_63_56 gd_63_70 gd_63_58 gd_63_25 gd_63_27 gd_63_82 gd_63_83 gd_63_2 e63 E9 S9 K9
    refine lv_iconst (v := 0) hx hb dX12_group_63 (by decide) ?_
    have k_0 : (0 : Int32).toInt = 0 := rfl
    exact J_64 x63_1 (0 : Int32) _ _ _ _ V I (A.wk (by decide)) (lv_sub hl [0, 1] rfl) (by omega) (by omega) (show (h 137 56).toInt + (0) ≤ (hJ 137 56).toInt ∧ (hJ 137 56).toInt ≤ (h 137 56).toInt + (0) by omega) (show (h 137 70).toInt + (0) ≤ (hJ 137 70).toInt ∧ (hJ 137 70).toInt ≤ (h 137 70).toInt + (0) by omega) (show (h 137 58).toInt + (0) ≤ (hJ 137 58).toInt ∧ (hJ 137 58).toInt ≤ (h 137 58).toInt + (0) by omega) (show (h 137 25).toInt + (0) ≤ (hJ 137 25).toInt ∧ (hJ 137 25).toInt ≤ (h 137 25).toInt + (0) by omega) (show (h 137 27).toInt + (0) ≤ (hJ 137 27).toInt ∧ (hJ 137 27).toInt ≤ (h 137 27).toInt + (0) by omega) (show (h 137 82).toInt + (0) ≤ (hJ 137 82).toInt ∧ (hJ 137 82).toInt ≤ (h 137 82).toInt + (0) by omega) (show (h 137 83).toInt + (0) ≤ (hJ 137 83).toInt ∧ (hJ 137 83).toInt ≤ (h 137 83).toInt + (0) by omega) (show (h 137 2).toInt + (0) ≤ (hJ 137 2).toInt ∧ (hJ 137 2).toInt ≤ (h 137 2).toInt + (0) by omega) (show x63_1.toInt + 1 = (hJ 137 70).toInt ∧ 1 ≤ (hJ 137 70).toInt ∧ (hJ 137 56).toInt ≤ 39 by omega) (E9.congr rfl rfl) (S9.congr rfl rfl rfl rfl rfl rfl rfl) (K9.congr rfl rfl) 
  have J_28 : ∀ (hJ : pH) (H : Heap) (locs : List Loc) (ls : Array Slot), pV Z hJ s.heap H locs → Iv Z hJ → agr [(137, 0)] h hJ → lv_has ls 6 [(0, .ref (zB Z + 137))] → ((h 137 56).toInt + (0) ≤ (hJ 137 56).toInt ∧ (hJ 137 56).toInt ≤ (h 137 56).toInt + (0)) → ((h 137 70).toInt + (0) ≤ (hJ 137 70).toInt ∧ (hJ 137 70).toInt ≤ (h 137 70).toInt + (0)) → ((h 137 58).toInt + (0) ≤ (hJ 137 58).toInt ∧ (hJ 137 58).toInt ≤ (h 137 58).toInt + (0)) → ((h 137 25).toInt + (0) ≤ (hJ 137 25).toInt ∧ (hJ 137 25).toInt ≤ (h 137 25).toInt + (0)) → ((h 137 27).toInt + (0) ≤ (hJ 137 27).toInt ∧ (hJ 137 27).toInt ≤ (h 137 27).toInt + (0)) → ((h 137 82).toInt + (0) ≤ (hJ 137 82).toInt ∧ (hJ 137 82).toInt ≤ (h 137 82).toInt + (0)) → ((h 137 83).toInt + (0) ≤ (hJ 137 83).toInt ∧ (hJ 137 83).toInt ≤ (h 137 83).toInt + (0)) → ((h 137 2).toInt + (0) ≤ (hJ 137 2).toInt ∧ (hJ 137 2).toInt ≤ (h 137 2).toInt + (0)) → mE hJ → mS hJ → mK hJ → W p l e (pRm 2 0 0 42) s m ([.ref (zB Z + 137)] : List Value).toArray below meth c H locs 0 0 (MQ below (pQv Z (fun Z1 h1 => Z = Z1 ∧ Iv Z h1 ∧ agr [(137, 0), (137, 18), (137, 19), (137, 20), (137, 22), (137, 21), (137, 23), (137, 40), (137, 48), (137, 56), (137, 58), (137, 70), (137, 71), (153, 1000), (162, 1000), (163, 1000), (165, 1000), (166, 1000), (164, 1000), (168, 1000), (169, 1000), (170, 1000), (174, 1000), (175, 1000), (176, 1000), (177, 1000), (178, 1000)] h h1 ∧ (mE h1) ∧ (mS h1) ∧ (mK h1))) ([.ref (zB Z + 137)] : List Value).toArray s 0 0 (pA (zB Z))) (F0 m 28 ls []) := by
    intro hJ H locs ls V I A hl gd_28_56 gd_28_70 gd_28_58 gd_28_25 gd_28_27 gd_28_82 gd_28_83 gd_28_2 E9 S9 K9
    refine lv_aload_n hx hb dX12_group_28 rfl (lv_at hl 0 rfl) ?_
    refine pk_i (pr_V M V (m_X12_breaks l S I  ) km_X12_breaks (sm_this S) pC12 lkM_X12_239 rfl hl.1 rfl (Nat.le_of_ble_eq_true rfl) ⟨Nat.le_of_ble_eq_true rfl, Nat.le_of_ble_eq_true rfl⟩ ⟨Nat.le_of_ble_eq_true rfl, Nat.le_of_ble_eq_true rfl⟩ dX12_group_29) V (fun r5 Zr5 hr5 H locs pr5 _ _ V => ?_)
    obtain ⟨rfl, I, pA_r5, fr5_0, fr5_1⟩ := pr5
    have A := A.wk (l3 := [(137, 0), (137, 18), (137, 19), (137, 20), (137, 22), (137, 21), (137, 23), (137, 40), (137, 48), (137, 56), (137, 58), (137, 70), (137, 71), (153, 1000)]) (by decide)
    have A := A.tr pA_r5 (by decide)
    have E9 : mE hr5 := E9.congr (pA_r5.get 137 2 (by decide)) (pA_r5.row 138 (by decide))
    have S9 : mS hr5 := fr5_1 (S9.congr rfl rfl rfl rfl rfl rfl rfl)
    have K9 : mK hr5 := K9.congr (pA_r5.row 185 (by decide)) (pA_r5.row 184 (by decide))
    have w_r5_r162 : hr5 162 = (hJ 162) := pA_r5.row 162 (by decide)
    have w_r5_r163 : hr5 163 = (hJ 163) := pA_r5.row 163 (by decide)
    have w_r5_r165 : hr5 165 = (hJ 165) := pA_r5.row 165 (by decide)
    have w_r5_r166 : hr5 166 = (hJ 166) := pA_r5.row 166 (by decide)
    have w_r5_25 : (hr5 137 25).toInt = (hJ 137 25).toInt := congrArg Int32.toInt (pA_r5.get 137 25 (by decide))
    have w_r5_27 : (hr5 137 27).toInt = (hJ 137 27).toInt := congrArg Int32.toInt (pA_r5.get 137 27 (by decide))
    have w_r5_82 : (hr5 137 82).toInt = (hJ 137 82).toInt := congrArg Int32.toInt (pA_r5.get 137 82 (by decide))
    have w_r5_83 : (hr5 137 83).toInt = (hJ 137 83).toInt := congrArg Int32.toInt (pA_r5.get 137 83 (by decide))
    have w_r5_2 : (hr5 137 2).toInt = (hJ 137 2).toInt := congrArg Int32.toInt (pA_r5.get 137 2 (by decide))
    refine lv_pop hx hb dX12_group_32 rfl ?_
    exact pe_v M V rfl rfl hr hlk ⟨rfl, I, A.wk (by decide), (E9.congr rfl rfl), (S9.congr rfl rfl rfl rfl rfl rfl rfl), (K9.congr rfl rfl)⟩ ⟨Nat.le_refl _, Nat.le_refl _⟩ dX12_group_33
  refine lv_aload_n hx hb dX12_group_0 rfl (lv_at hl 0 rfl) ?_
  refine lv_iconst (v := 0) hx hb dX12_group_1 (by decide) ?_
  refine pp_i M V 12 0 (sm_this S) pC12 fk12_0 rfl lkF_X12_175 ⟨rfl, rfl⟩ dX12_group_2 (fun H locs V => ?_)
  have A := A.wk (l3 := [(137, 0)]) (by decide)
  have A := A.up (o := 137) (k := 0) (v := (0 : Int32)) (by decide)
  have I := I.up (k := 0) (v := (0 : Int32)) (sm_this S) (pi_full _)
  refine lv_aload_n hx hb dX12_group_5 rfl (lv_at hl 0 rfl) ?_
  refine pg_i M V 12 18 (sm_this S) pC12 fk12_18 lkF_X12_236 dX12_group_6 ?_
  refine lv_topi (fun v6 ev6 => ?_)
  have tv6 : 0 ≤ v6.toInt ∧ v6.toInt ≤ 1 := by rw [ev6]; exact I.get (sm_this S) 18
  refine lv_if_eq (tgt := 28) hx hb dX12_group_9 (by decide) (fun c_9 => ?_) (fun c_9 => ?_)
  · skip
    have k_0 : (0 : Int32).toInt = 0 := rfl
    have c_9 := pi_eq.mp c_9
    exact J_28 _ _ _ _ V I (A.wk (by decide)) (lv_sub hl [0] rfl) (show (h 137 56).toInt + (0) ≤ (h 137 56).toInt ∧ (h 137 56).toInt ≤ (h 137 56).toInt + (0) by omega) (show (h 137 70).toInt + (0) ≤ (h 137 70).toInt ∧ (h 137 70).toInt ≤ (h 137 70).toInt + (0) by omega) (show (h 137 58).toInt + (0) ≤ (h 137 58).toInt ∧ (h 137 58).toInt ≤ (h 137 58).toInt + (0) by omega) (show (h 137 25).toInt + (0) ≤ (h 137 25).toInt ∧ (h 137 25).toInt ≤ (h 137 25).toInt + (0) by omega) (show (h 137 27).toInt + (0) ≤ (h 137 27).toInt ∧ (h 137 27).toInt ≤ (h 137 27).toInt + (0) by omega) (show (h 137 82).toInt + (0) ≤ (h 137 82).toInt ∧ (h 137 82).toInt ≤ (h 137 82).toInt + (0) by omega) (show (h 137 83).toInt + (0) ≤ (h 137 83).toInt ∧ (h 137 83).toInt ≤ (h 137 83).toInt + (0) by omega) (show (h 137 2).toInt + (0) ≤ (h 137 2).toInt ∧ (h 137 2).toInt ≤ (h 137 2).toInt + (0) by omega) (E9.congr rfl rfl) (S9.congr rfl rfl rfl rfl rfl rfl rfl) (K9.congr rfl rfl) 
  · skip
    have k_0 : (0 : Int32).toInt = 0 := rfl
    have c_9 := pi_ne c_9
    refine lv_aload_n hx hb dX12_group_12 rfl (lv_at hl 0 rfl) ?_
    refine pg_i M V 12 70 (sm_this S) pC12 fk12_70 lkF_X12_285 dX12_group_13 ?_
    refine lv_topi (fun v7 ev7 => ?_)
    have tv7 : 0 ≤ v7.toInt ∧ v7.toInt ≤ 40 := by rw [ev7]; exact I.get (sm_this S) 70
    have uv7 : v7.toInt = (h 137 70).toInt := congrArg Int32.toInt ev7
    refine lv_if_eq (tgt := 28) hx hb dX12_group_16 (by decide) (fun c_16 => ?_) (fun c_16 => ?_)
    · skip
      have c_16 := pi_eq.mp c_16
      exact J_28 _ _ _ _ V I (A.wk (by decide)) (lv_sub hl [0] rfl) (show (h 137 56).toInt + (0) ≤ (h 137 56).toInt ∧ (h 137 56).toInt ≤ (h 137 56).toInt + (0) by omega) (show (h 137 70).toInt + (0) ≤ (h 137 70).toInt ∧ (h 137 70).toInt ≤ (h 137 70).toInt + (0) by omega) (show (h 137 58).toInt + (0) ≤ (h 137 58).toInt ∧ (h 137 58).toInt ≤ (h 137 58).toInt + (0) by omega) (show (h 137 25).toInt + (0) ≤ (h 137 25).toInt ∧ (h 137 25).toInt ≤ (h 137 25).toInt + (0) by omega) (show (h 137 27).toInt + (0) ≤ (h 137 27).toInt ∧ (h 137 27).toInt ≤ (h 137 27).toInt + (0) by omega) (show (h 137 82).toInt + (0) ≤ (h 137 82).toInt ∧ (h 137 82).toInt ≤ (h 137 82).toInt + (0) by omega) (show (h 137 83).toInt + (0) ≤ (h 137 83).toInt ∧ (h 137 83).toInt ≤ (h 137 83).toInt + (0) by omega) (show (h 137 2).toInt + (0) ≤ (h 137 2).toInt ∧ (h 137 2).toInt ≤ (h 137 2).toInt + (0) by omega) (E9.congr rfl rfl) (S9.congr rfl rfl rfl rfl rfl rfl rfl) (K9.congr rfl rfl) 
    · skip
      have c_16 := pi_ne c_16
      refine lv_aload_n hx hb dX12_group_19 rfl (lv_at hl 0 rfl) ?_
      refine pg_i M V 12 56 (sm_this S) pC12 fk12_56 lkF_X12_279 dX12_group_20 ?_
      refine lv_topi (fun v8 ev8 => ?_)
      have tv8 : 0 ≤ v8.toInt ∧ v8.toInt ≤ 40 := by rw [ev8]; exact I.get (sm_this S) 56
      have uv8 : v8.toInt = (h 137 56).toInt := congrArg Int32.toInt ev8
      refine lv_bipush (v := 40) hx hb dX12_group_23 (by decide) ?_
      refine lv_icmp_ne (tgt := 34) hx hb dX12_group_25 (by decide) (fun c_25 => ?_) (fun c_25 => ?_)
      · skip
        have k_40 : (40 : Int32).toInt = 40 := rfl
        have c_25 := pi_ne c_25
        refine lv_aload_n hx hb dX12_group_34 rfl (lv_at hl 0 rfl) ?_
        refine pg_iv M V 12 70 (v := v7) (sm_this S) pC12 fk12_70 ev7.symm lkF_X12_285 dX12_group_35 ?_
        refine lv_iconst (v := 1) hx hb dX12_group_38 (by decide) ?_
        refine lv_isub hx hb dX12_group_39 ?_
        refine lv_topi (fun v9 ev9 => ?_)
        refine lv_istore_n (lv' := [(1, .int v9), (0, .ref (zB Z + 137))]) hx hb dX12_group_40 rfl hl (by decide) rfl (fun ls hl => ?_)
        refine lv_aload_n hx hb dX12_group_41 rfl (lv_at hl 1 rfl) ?_
        refine pg_r M V 12 68 (sm_this S) pC12 fk12_68 (sm_near S).2.2 lkF_X12_138 dX12_group_42 ?_
        refine lv_iload_n hx hb dX12_group_45 rfl (lv_at hl 0 rfl) ?_
        have k_1 : (1 : Int32).toInt = 1 := rfl
        have tv9 : v9.toInt = v7.toInt - 1 := by rw [ev9]; have z9 := pi_sub (x := v7) (y := (1 : Int32)); rw [k_1] at z9; exact z9 (by omega)
        refine pa_z M V (sm_near S).1 (by rw [(sm_near S).2.1]; exact pi_in (by omega)) dX12_group_46 ?_
        refine lv_topi (fun v10 ev10 => ?_)
        have tv10 : 0 ≤ v10.toInt ∧ v10.toInt ≤ 1 := by rw [ev10]; exact I.get (sm_near S).1 _
        refine lv_if_eq (tgt := 63) hx hb dX12_group_47 (by decide) (fun c_47 => ?_) (fun c_47 => ?_)
        · skip
          have c_47 := pi_eq.mp c_47
          exact J_63 v9 _ _ _ _ V I (A.wk (by decide)) (lv_sub hl [1, 0] rfl) (by omega) (show (h 137 56).toInt + (0) ≤ (h 137 56).toInt ∧ (h 137 56).toInt ≤ (h 137 56).toInt + (0) by omega) (show (h 137 70).toInt + (0) ≤ (h 137 70).toInt ∧ (h 137 70).toInt ≤ (h 137 70).toInt + (0) by omega) (show (h 137 58).toInt + (0) ≤ (h 137 58).toInt ∧ (h 137 58).toInt ≤ (h 137 58).toInt + (0) by omega) (show (h 137 25).toInt + (0) ≤ (h 137 25).toInt ∧ (h 137 25).toInt ≤ (h 137 25).toInt + (0) by omega) (show (h 137 27).toInt + (0) ≤ (h 137 27).toInt ∧ (h 137 27).toInt ≤ (h 137 27).toInt + (0) by omega) (show (h 137 82).toInt + (0) ≤ (h 137 82).toInt ∧ (h 137 82).toInt ≤ (h 137 82).toInt + (0) by omega) (show (h 137 83).toInt + (0) ≤ (h 137 83).toInt ∧ (h 137 83).toInt ≤ (h 137 83).toInt + (0) by omega) (show (h 137 2).toInt + (0) ≤ (h 137 2).toInt ∧ (h 137 2).toInt ≤ (h 137 2).toInt + (0) by omega) (show v9.toInt + 1 = (h 137 70).toInt ∧ 1 ≤ (h 137 70).toInt ∧ (h 137 56).toInt ≤ 39 by omega) (E9.congr rfl rfl) (S9.congr rfl rfl rfl rfl rfl rfl rfl) (K9.congr rfl rfl) 
        · skip
          have c_47 := pi_ne c_47
          refine lv_aload_n hx hb dX12_group_50 rfl (lv_at hl 1 rfl) ?_
          refine pg_r M V 12 67 (sm_this S) pC12 fk12_67 (sm_some S).2.2 lkF_X12_135 dX12_group_51 ?_
          refine lv_iload_n hx hb dX12_group_54 rfl (lv_at hl 0 rfl) ?_
          refine pa_z M V (sm_some S).1 (by rw [(sm_some S).2.1]; exact pi_in (by omega)) dX12_group_55 ?_
          refine lv_topi (fun v11 ev11 => ?_)
          have tv11 : 0 ≤ v11.toInt ∧ v11.toInt ≤ 1 := by rw [ev11]; exact I.get (sm_some S).1 _
          refine lv_if_eq (tgt := 63) hx hb dX12_group_56 (by decide) (fun c_56 => ?_) (fun c_56 => ?_)
          · skip
            have c_56 := pi_eq.mp c_56
            exact J_63 v9 _ _ _ _ V I (A.wk (by decide)) (lv_sub hl [1, 0] rfl) (by omega) (show (h 137 56).toInt + (0) ≤ (h 137 56).toInt ∧ (h 137 56).toInt ≤ (h 137 56).toInt + (0) by omega) (show (h 137 70).toInt + (0) ≤ (h 137 70).toInt ∧ (h 137 70).toInt ≤ (h 137 70).toInt + (0) by omega) (show (h 137 58).toInt + (0) ≤ (h 137 58).toInt ∧ (h 137 58).toInt ≤ (h 137 58).toInt + (0) by omega) (show (h 137 25).toInt + (0) ≤ (h 137 25).toInt ∧ (h 137 25).toInt ≤ (h 137 25).toInt + (0) by omega) (show (h 137 27).toInt + (0) ≤ (h 137 27).toInt ∧ (h 137 27).toInt ≤ (h 137 27).toInt + (0) by omega) (show (h 137 82).toInt + (0) ≤ (h 137 82).toInt ∧ (h 137 82).toInt ≤ (h 137 82).toInt + (0) by omega) (show (h 137 83).toInt + (0) ≤ (h 137 83).toInt ∧ (h 137 83).toInt ≤ (h 137 83).toInt + (0) by omega) (show (h 137 2).toInt + (0) ≤ (h 137 2).toInt ∧ (h 137 2).toInt ≤ (h 137 2).toInt + (0) by omega) (show v9.toInt + 1 = (h 137 70).toInt ∧ 1 ≤ (h 137 70).toInt ∧ (h 137 56).toInt ≤ 39 by omega) (E9.congr rfl rfl) (S9.congr rfl rfl rfl rfl rfl rfl rfl) (K9.congr rfl rfl) 
          · skip
            have c_56 := pi_ne c_56
            refine lv_iconst (v := 1) hx hb dX12_group_59 (by decide) ?_
            refine lv_goto (tgt := 64) hx hb dX12_group_60 (by decide) ?_
            exact J_64 v9 (1 : Int32) _ _ _ _ V I (A.wk (by decide)) (lv_sub hl [1, 0] rfl) (by omega) (by omega) (show (h 137 56).toInt + (0) ≤ (h 137 56).toInt ∧ (h 137 56).toInt ≤ (h 137 56).toInt + (0) by omega) (show (h 137 70).toInt + (0) ≤ (h 137 70).toInt ∧ (h 137 70).toInt ≤ (h 137 70).toInt + (0) by omega) (show (h 137 58).toInt + (0) ≤ (h 137 58).toInt ∧ (h 137 58).toInt ≤ (h 137 58).toInt + (0) by omega) (show (h 137 25).toInt + (0) ≤ (h 137 25).toInt ∧ (h 137 25).toInt ≤ (h 137 25).toInt + (0) by omega) (show (h 137 27).toInt + (0) ≤ (h 137 27).toInt ∧ (h 137 27).toInt ≤ (h 137 27).toInt + (0) by omega) (show (h 137 82).toInt + (0) ≤ (h 137 82).toInt ∧ (h 137 82).toInt ≤ (h 137 82).toInt + (0) by omega) (show (h 137 83).toInt + (0) ≤ (h 137 83).toInt ∧ (h 137 83).toInt ≤ (h 137 83).toInt + (0) by omega) (show (h 137 2).toInt + (0) ≤ (h 137 2).toInt ∧ (h 137 2).toInt ≤ (h 137 2).toInt + (0) by omega) (show v9.toInt + 1 = (h 137 70).toInt ∧ 1 ≤ (h 137 70).toInt ∧ (h 137 56).toInt ≤ 39 by omega) (E9.congr rfl rfl) (S9.congr rfl rfl rfl rfl rfl rfl rfl) (K9.congr rfl rfl) 
      · skip
        have k_40 : (40 : Int32).toInt = 40 := rfl
        have c_25 := pi_eq.mp c_25
        exact J_28 _ _ _ _ V I (A.wk (by decide)) (lv_sub hl [0] rfl) (show (h 137 56).toInt + (0) ≤ (h 137 56).toInt ∧ (h 137 56).toInt ≤ (h 137 56).toInt + (0) by omega) (show (h 137 70).toInt + (0) ≤ (h 137 70).toInt ∧ (h 137 70).toInt ≤ (h 137 70).toInt + (0) by omega) (show (h 137 58).toInt + (0) ≤ (h 137 58).toInt ∧ (h 137 58).toInt ≤ (h 137 58).toInt + (0) by omega) (show (h 137 25).toInt + (0) ≤ (h 137 25).toInt ∧ (h 137 25).toInt ≤ (h 137 25).toInt + (0) by omega) (show (h 137 27).toInt + (0) ≤ (h 137 27).toInt ∧ (h 137 27).toInt ≤ (h 137 27).toInt + (0) by omega) (show (h 137 82).toInt + (0) ≤ (h 137 82).toInt ∧ (h 137 82).toInt ≤ (h 137 82).toInt + (0) by omega) (show (h 137 83).toInt + (0) ≤ (h 137 83).toInt ∧ (h 137 83).toInt ≤ (h 137 83).toInt + (0) by omega) (show (h 137 2).toInt + (0) ≤ (h 137 2).toInt ∧ (h 137 2).toInt ≤ (h 137 2).toInt + (0) by omega) (E9.congr rfl rfl) (S9.congr rfl rfl rfl rfl rfl rfl rfl) (K9.congr rfl rfl) 
theorem dX12_tree_0 : decode cX12_tree 0 = .ok (.aload_n 0, 1) := by decide +kernel
theorem dX12_tree_1 : decode cX12_tree 1 = .ok (.aload_n 0, 1) := by decide +kernel
theorem dX12_tree_2 : decode cX12_tree 2 = .ok (.iload_n 1, 1) := by decide +kernel
theorem dX12_tree_3 : decode cX12_tree 3 = .ok (.invokevirtual 343, 3) := by decide +kernel
theorem dX12_tree_6 : decode cX12_tree 6 = .ok (.ifCond .eq 19, 3) := by decide +kernel
theorem dX12_tree_9 : decode cX12_tree 9 = .ok (.iload_n 2, 1) := by decide +kernel
theorem dX12_tree_10 : decode cX12_tree 10 = .ok (.iconst 1, 1) := by decide +kernel
theorem dX12_tree_11 : decode cX12_tree 11 = .ok (.if_icmp .lt 14, 3) := by decide +kernel
theorem dX12_tree_14 : decode cX12_tree 14 = .ok (.iload_n 2, 1) := by decide +kernel
theorem dX12_tree_15 : decode cX12_tree 15 = .ok (.sipush 200, 3) := by decide +kernel
theorem dX12_tree_18 : decode cX12_tree 18 = .ok (.if_icmp .gt 7, 3) := by decide +kernel
theorem dX12_tree_21 : decode cX12_tree 21 = .ok (.iconst 1, 1) := by decide +kernel
theorem dX12_tree_22 : decode cX12_tree 22 = .ok (.goto 4, 3) := by decide +kernel
theorem dX12_tree_25 : decode cX12_tree 25 = .ok (.iconst 0, 1) := by decide +kernel
theorem dX12_tree_26 : decode cX12_tree 26 = .ok (.invokevirtual 371, 3) := by decide +kernel
theorem dX12_tree_29 : decode cX12_tree 29 = .ok (.ifCond .eq 5, 3) := by decide +kernel
theorem dX12_tree_32 : decode cX12_tree 32 = .ok (.iconst 0, 1) := by decide +kernel
theorem dX12_tree_33 : decode cX12_tree 33 = .ok (.ireturn, 1) := by decide +kernel
theorem dX12_tree_34 : decode cX12_tree 34 = .ok (.aload_n 0, 1) := by decide +kernel
theorem dX12_tree_35 : decode cX12_tree 35 = .ok (.iload_n 1, 1) := by decide +kernel
theorem dX12_tree_36 : decode cX12_tree 36 = .ok (.iload_n 2, 1) := by decide +kernel
theorem dX12_tree_37 : decode cX12_tree 37 = .ok (.bipush 12, 2) := by decide +kernel
theorem dX12_tree_39 : decode cX12_tree 39 = .ok (.invokevirtual 375, 3) := by decide +kernel
theorem dX12_tree_42 : decode cX12_tree 42 = .ok (.istore_n 3, 1) := by decide +kernel
theorem dX12_tree_43 : decode cX12_tree 43 = .ok (.aload_n 0, 1) := by decide +kernel
theorem dX12_tree_44 : decode cX12_tree 44 = .ok (.iload_n 3, 1) := by decide +kernel
theorem dX12_tree_45 : decode cX12_tree 45 = .ok (.invokevirtual 378, 3) := by decide +kernel
theorem dX12_tree_48 : decode cX12_tree 48 = .ok (.istore 4, 2) := by decide +kernel
theorem dX12_tree_50 : decode cX12_tree 50 = .ok (.aload_n 0, 1) := by decide +kernel
theorem dX12_tree_51 : decode cX12_tree 51 = .ok (.iload_n 3, 1) := by decide +kernel
theorem dX12_tree_52 : decode cX12_tree 52 = .ok (.invokevirtual 387, 3) := by decide +kernel
theorem dX12_tree_55 : decode cX12_tree 55 = .ok (.ifCond .eq 7, 3) := by decide +kernel
theorem dX12_tree_58 : decode cX12_tree 58 = .ok (.iconst 1, 1) := by decide +kernel
theorem dX12_tree_59 : decode cX12_tree 59 = .ok (.goto 4, 3) := by decide +kernel
theorem dX12_tree_62 : decode cX12_tree 62 = .ok (.iconst 0, 1) := by decide +kernel
theorem dX12_tree_63 : decode cX12_tree 63 = .ok (.istore 5, 2) := by decide +kernel
theorem dX12_tree_65 : decode cX12_tree 65 = .ok (.iload 4, 2) := by decide +kernel
theorem dX12_tree_67 : decode cX12_tree 67 = .ok (.ifCond .eq 33, 3) := by decide +kernel
theorem dX12_tree_70 : decode cX12_tree 70 = .ok (.iload 5, 2) := by decide +kernel
theorem dX12_tree_72 : decode cX12_tree 72 = .ok (.ifCond .ne 25, 3) := by decide +kernel
theorem dX12_tree_75 : decode cX12_tree 75 = .ok (.aload_n 0, 1) := by decide +kernel
theorem dX12_tree_76 : decode cX12_tree 76 = .ok (.iload_n 3, 1) := by decide +kernel
theorem dX12_tree_77 : decode cX12_tree 77 = .ok (.invokevirtual 365, 3) := by decide +kernel
theorem dX12_tree_80 : decode cX12_tree 80 = .ok (.iconst (-1), 1) := by decide +kernel
theorem dX12_tree_81 : decode cX12_tree 81 = .ok (.if_icmp .ne 12, 3) := by decide +kernel
theorem dX12_tree_84 : decode cX12_tree 84 = .ok (.aload_n 0, 1) := by decide +kernel
theorem dX12_tree_85 : decode cX12_tree 85 = .ok (.getfield 362, 3) := by decide +kernel
theorem dX12_tree_88 : decode cX12_tree 88 = .ok (.bipush 40, 2) := by decide +kernel
theorem dX12_tree_90 : decode cX12_tree 90 = .ok (.if_icmp .ge 7, 3) := by decide +kernel
theorem dX12_tree_93 : decode cX12_tree 93 = .ok (.iconst 1, 1) := by decide +kernel
theorem dX12_tree_94 : decode cX12_tree 94 = .ok (.goto 4, 3) := by decide +kernel
theorem dX12_tree_97 : decode cX12_tree 97 = .ok (.iconst 0, 1) := by decide +kernel
theorem dX12_tree_98 : decode cX12_tree 98 = .ok (.istore 5, 2) := by decide +kernel
theorem dX12_tree_100 : decode cX12_tree 100 = .ok (.iload 4, 2) := by decide +kernel
theorem dX12_tree_102 : decode cX12_tree 102 = .ok (.ifCond .eq 18, 3) := by decide +kernel
theorem dX12_tree_105 : decode cX12_tree 105 = .ok (.aload_n 0, 1) := by decide +kernel
theorem dX12_tree_106 : decode cX12_tree 106 = .ok (.iload_n 3, 1) := by decide +kernel
theorem dX12_tree_107 : decode cX12_tree 107 = .ok (.iload 5, 2) := by decide +kernel
theorem dX12_tree_109 : decode cX12_tree 109 = .ok (.ifCond .eq 7, 3) := by decide +kernel
theorem dX12_tree_112 : decode cX12_tree 112 = .ok (.iconst 1, 1) := by decide +kernel
theorem dX12_tree_113 : decode cX12_tree 113 = .ok (.goto 4, 3) := by decide +kernel
theorem dX12_tree_116 : decode cX12_tree 116 = .ok (.iconst 0, 1) := by decide +kernel
theorem dX12_tree_117 : decode cX12_tree 117 = .ok (.invokevirtual 390, 3) := by decide +kernel
theorem dX12_tree_120 : decode cX12_tree 120 = .ok (.iload 5, 2) := by decide +kernel
theorem dX12_tree_122 : decode cX12_tree 122 = .ok (.ifCond .eq 26, 3) := by decide +kernel
theorem dX12_tree_125 : decode cX12_tree 125 = .ok (.aload_n 0, 1) := by decide +kernel
theorem dX12_tree_126 : decode cX12_tree 126 = .ok (.getfield 279, 3) := by decide +kernel
theorem dX12_tree_129 : decode cX12_tree 129 = .ok (.bipush 40, 2) := by decide +kernel
theorem dX12_tree_131 : decode cX12_tree 131 = .ok (.if_icmp .ne 17, 3) := by decide +kernel
theorem dX12_tree_134 : decode cX12_tree 134 = .ok (.aload_n 0, 1) := by decide +kernel
theorem dX12_tree_135 : decode cX12_tree 135 = .ok (.iconst 2, 1) := by decide +kernel
theorem dX12_tree_136 : decode cX12_tree 136 = .ok (.invokevirtual 297, 3) := by decide +kernel
theorem dX12_tree_139 : decode cX12_tree 139 = .ok (.ifCond .le 7, 3) := by decide +kernel
theorem dX12_tree_142 : decode cX12_tree 142 = .ok (.iconst 1, 1) := by decide +kernel
theorem dX12_tree_143 : decode cX12_tree 143 = .ok (.goto 4, 3) := by decide +kernel
theorem dX12_tree_146 : decode cX12_tree 146 = .ok (.iconst 0, 1) := by decide +kernel
theorem dX12_tree_147 : decode cX12_tree 147 = .ok (.ireturn, 1) := by decide +kernel
theorem dX12_tree_148 : decode cX12_tree 148 = .ok (.aload_n 0, 1) := by decide +kernel
theorem dX12_tree_149 : decode cX12_tree 149 = .ok (.iload_n 3, 1) := by decide +kernel
theorem dX12_tree_150 : decode cX12_tree 150 = .ok (.invokevirtual 381, 3) := by decide +kernel
theorem dX12_tree_153 : decode cX12_tree 153 = .ok (.aload_n 0, 1) := by decide +kernel
theorem dX12_tree_154 : decode cX12_tree 154 = .ok (.iload_n 1, 1) := by decide +kernel
theorem dX12_tree_155 : decode cX12_tree 155 = .ok (.invokevirtual 384, 3) := by decide +kernel
theorem dX12_tree_158 : decode cX12_tree 158 = .ok (.iload 5, 2) := by decide +kernel
theorem dX12_tree_160 : decode cX12_tree 160 = .ok (.ifCond .ne 5, 3) := by decide +kernel
theorem dX12_tree_163 : decode cX12_tree 163 = .ok (.iconst 0, 1) := by decide +kernel
theorem dX12_tree_164 : decode cX12_tree 164 = .ok (.ireturn, 1) := by decide +kernel
theorem dX12_tree_165 : decode cX12_tree 165 = .ok (.aload_n 0, 1) := by decide +kernel
theorem dX12_tree_166 : decode cX12_tree 166 = .ok (.getfield 285, 3) := by decide +kernel
theorem dX12_tree_169 : decode cX12_tree 169 = .ok (.iconst 1, 1) := by decide +kernel
theorem dX12_tree_170 : decode cX12_tree 170 = .ok (.isub, 1) := by decide +kernel
theorem dX12_tree_171 : decode cX12_tree 171 = .ok (.istore 6, 2) := by decide +kernel
theorem dX12_tree_173 : decode cX12_tree 173 = .ok (.aload_n 0, 1) := by decide +kernel
theorem dX12_tree_174 : decode cX12_tree 174 = .ok (.iconst 2, 1) := by decide +kernel
theorem dX12_tree_175 : decode cX12_tree 175 = .ok (.iload 6, 2) := by decide +kernel
theorem dX12_tree_177 : decode cX12_tree 177 = .ok (.iconst 0, 1) := by decide +kernel
theorem dX12_tree_178 : decode cX12_tree 178 = .ok (.invokevirtual 334, 3) := by decide +kernel
theorem dX12_tree_181 : decode cX12_tree 181 = .ok (.aload_n 0, 1) := by decide +kernel
theorem dX12_tree_182 : decode cX12_tree 182 = .ok (.iload_n 3, 1) := by decide +kernel
theorem dX12_tree_183 : decode cX12_tree 183 = .ok (.invokevirtual 337, 3) := by decide +kernel
theorem dX12_tree_186 : decode cX12_tree 186 = .ok (.aload_n 0, 1) := by decide +kernel
theorem dX12_tree_187 : decode cX12_tree 187 = .ok (.getfield 117, 3) := by decide +kernel
theorem dX12_tree_190 : decode cX12_tree 190 = .ok (.iload 6, 2) := by decide +kernel
theorem dX12_tree_192 : decode cX12_tree 192 = .ok (.dup2, 1) := by decide +kernel
theorem dX12_tree_193 : decode cX12_tree 193 = .ok (.iaload, 1) := by decide +kernel
theorem dX12_tree_194 : decode cX12_tree 194 = .ok (.bipush 10, 2) := by decide +kernel
theorem dX12_tree_196 : decode cX12_tree 196 = .ok (.iadd, 1) := by decide +kernel
theorem dX12_tree_197 : decode cX12_tree 197 = .ok (.iastore, 1) := by decide +kernel
theorem dX12_tree_198 : decode cX12_tree 198 = .ok (.iconst 1, 1) := by decide +kernel
theorem dX12_tree_199 : decode cX12_tree 199 = .ok (.ireturn, 1) := by decide +kernel
set_option maxHeartbeats 4000000 in
set_option maxRecDepth 100000 in
theorem m_X12_tree (l : Launch) {Z : pZ} (S : pSh Z) {h : pH} (I : Iv Z h) (label : Int32) (width : Int32) (E9 : mE h) (S9 : mS h) (K9 : mK h) (ht : (h 137 25).toInt ≤ 599) (hb9 : (h 137 27).toInt ≤ 599) (hq : (h 137 82).toInt ≤ 6980) : pMet l yX12_tree cX12_tree 7 (some .boolean) 4 0 0 101 Z h [.ref (zB Z + 137), .int label, .int width] (pQi Z (fun r Z1 h1 => Z = Z1 ∧ Iv Z h1 ∧ agr [(137, 0), (137, 18), (137, 19), (137, 20), (137, 22), (137, 21), (137, 23), (137, 40), (137, 48), (137, 56), (137, 58), (137, 70), (137, 71), (153, 1000), (180, 1000), (172, 1000), (173, 1000), (171, 1000), (174, 1000), (175, 1000), (176, 1000), (177, 1000), (137, 25), (143, 1000), (137, 28), (137, 27), (144, 1000), (137, 82), (186, 1000), (137, 79), (181, 1000), (182, 1000), (184, 1000), (185, 1000), (162, 1000), (163, 1000), (165, 1000), (166, 1000), (164, 1000), (167, 1000), (170, 1000)] h h1 ∧ (r.toInt = 0 ∨ r.toInt = 1) ∧ (mE h1) ∧ (mS h1) ∧ (mK h1) ∧ ((h 137 25).toInt + (0) ≤ (h1 137 25).toInt ∧ (h1 137 25).toInt ≤ (h 137 25).toInt + (1)) ∧ ((h 137 27).toInt + (0) ≤ (h1 137 27).toInt ∧ (h1 137 27).toInt ≤ (h 137 27).toInt + (1)) ∧ ((h 137 82).toInt + (0) ≤ (h1 137 82).toInt ∧ (h1 137 82).toInt ≤ (h 137 82).toInt + (4)))) := by
  refine pOfW (lv := [(0, .ref (zB Z + 137)), (1, .int label), (2, .int width)]) (by decide) (Nat.le_of_ble_eq_true rfl) rfl ?_
  intro p e s m below meth c ls M hr hlk hnm V hl
  have hx := M.1.1
  have hb := M.1.2.1
  have A : agr [] h h := agr.rf
  have i_56 : 0 ≤ (h 137 56).toInt ∧ (h 137 56).toInt ≤ 40 := I.get (sm_this S) 56
  have i_70 : 0 ≤ (h 137 70).toInt ∧ (h 137 70).toInt ≤ 40 := I.get (sm_this S) 70
  have i_58 : 0 ≤ (h 137 58).toInt ∧ (h 137 58).toInt ≤ 40 := I.get (sm_this S) 58
  have i_25 : 0 ≤ (h 137 25).toInt ∧ (h 137 25).toInt ≤ 600 := I.get (sm_this S) 25
  have i_27 : 0 ≤ (h 137 27).toInt ∧ (h 137 27).toInt ≤ 600 := I.get (sm_this S) 27
  have i_82 : 0 ≤ (h 137 82).toInt ∧ (h 137 82).toInt ≤ 7000 := I.get (sm_this S) 82
  have i_83 : 0 ≤ (h 137 83).toInt ∧ (h 137 83).toInt ≤ 7000 := I.get (sm_this S) 83
  have i_2 : 0 ≤ (h 137 2).toInt ∧ (h 137 2).toInt ≤ 64 := I.get (sm_this S) 2
  have n9 := S9.num
  have S0 := S9
  have z56 : ((h 137 56).toNatClampNeg : Int) = (h 137 56).toInt := pi_cl i_56.1
  have J_148 : ∀ (x148_3 : Int32) (x148_4 : Int32) (x148_5 : Int32) (hJ : pH) (H : Heap) (locs : List Loc) (ls : Array Slot), pV Z hJ s.heap H locs → Iv Z hJ → agr [(137, 0), (137, 19), (137, 20), (137, 21), (137, 22), (137, 25), (137, 27), (137, 28), (137, 79), (143, 1000), (144, 1000), (171, 1000), (172, 1000), (173, 1000), (174, 1000), (175, 1000), (176, 1000), (177, 1000), (180, 1000), (181, 1000), (182, 1000), (184, 1000), (185, 1000)] h hJ → lv_has ls 7 [(0, .ref (zB Z + 137)), (1, .int label), (2, .int width), (3, .int x148_3), (4, .int x148_4), (5, .int x148_5)] → (0 ≤ x148_4.toInt ∧ x148_4.toInt ≤ 1) → (0 ≤ x148_5.toInt ∧ x148_5.toInt ≤ 1) → ((h 137 56).toInt + (0) ≤ (hJ 137 56).toInt ∧ (hJ 137 56).toInt ≤ (h 137 56).toInt + (0)) → ((h 137 70).toInt + (0) ≤ (hJ 137 70).toInt ∧ (hJ 137 70).toInt ≤ (h 137 70).toInt + (0)) → ((h 137 58).toInt + (0) ≤ (hJ 137 58).toInt ∧ (hJ 137 58).toInt ≤ (h 137 58).toInt + (0)) → ((h 137 25).toInt + (1) ≤ (hJ 137 25).toInt ∧ (hJ 137 25).toInt ≤ (h 137 25).toInt + (1)) → ((h 137 27).toInt + (1) ≤ (hJ 137 27).toInt ∧ (hJ 137 27).toInt ≤ (h 137 27).toInt + (1)) → ((h 137 82).toInt + (0) ≤ (hJ 137 82).toInt ∧ (hJ 137 82).toInt ≤ (h 137 82).toInt + (0)) → ((h 137 83).toInt + (0) ≤ (hJ 137 83).toInt ∧ (hJ 137 83).toInt ≤ (h 137 83).toInt + (0)) → ((h 137 2).toInt + (0) ≤ (hJ 137 2).toInt ∧ (hJ 137 2).toInt ≤ (h 137 2).toInt + (0)) → (x148_5.toInt = 1 → (hJ 137 56).toInt ≤ 39) → (0 ≤ label.toInt ∧ label.toInt ≤ 999 ∧ 1 ≤ width.toInt ∧ width.toInt ≤ 200) → (1 ≤ (h 137 70).toInt) → mE hJ → mS hJ → mK hJ → W p l e (pRm 4 0 0 101) s m ([.ref (zB Z + 137), .int label, .int width] : List Value).toArray below meth c H locs 0 0 (MQ below (pQi Z (fun r Z1 h1 => Z = Z1 ∧ Iv Z h1 ∧ agr [(137, 0), (137, 18), (137, 19), (137, 20), (137, 22), (137, 21), (137, 23), (137, 40), (137, 48), (137, 56), (137, 58), (137, 70), (137, 71), (153, 1000), (180, 1000), (172, 1000), (173, 1000), (171, 1000), (174, 1000), (175, 1000), (176, 1000), (177, 1000), (137, 25), (143, 1000), (137, 28), (137, 27), (144, 1000), (137, 82), (186, 1000), (137, 79), (181, 1000), (182, 1000), (184, 1000), (185, 1000), (162, 1000), (163, 1000), (165, 1000), (166, 1000), (164, 1000), (167, 1000), (170, 1000)] h h1 ∧ (r.toInt = 0 ∨ r.toInt = 1) ∧ (mE h1) ∧ (mS h1) ∧ (mK h1) ∧ ((h 137 25).toInt + (0) ≤ (h1 137 25).toInt ∧ (h1 137 25).toInt ≤ (h 137 25).toInt + (1)) ∧ ((h 137 27).toInt + (0) ≤ (h1 137 27).toInt ∧ (h1 137 27).toInt ≤ (h 137 27).toInt + (1)) ∧ ((h 137 82).toInt + (0) ≤ (h1 137 82).toInt ∧ (h1 137 82).toInt ≤ (h 137 82).toInt + (4)))) ([.ref (zB Z + 137), .int label, .int width] : List Value).toArray s 0 0 (pA (zB Z))) (F0 m 148 ls []) := by
    intro x148_3 x148_4 x148_5 hJ H locs ls V I A hl g_148_4 g_148_5 gd_148_56 gd_148_70 gd_148_58 gd_148_25 gd_148_27 gd_148_82 gd_148_83 gd_148_2 e148 eL eA E9 S9 K9
    refine lv_aload_n hx hb dX12_tree_148 rfl (lv_at hl 0 rfl) ?_
    refine lv_iload_n hx hb dX12_tree_149 rfl (lv_at hl 3 rfl) ?_
    refine pk_v (pr_V M V (m_X12_shape l S I x148_3 (show (hJ 137 82).toInt ≤ 6999 by omega)) km_X12_shape (sm_this S) pC12 lkM_X12_381 rfl hl.1 rfl (Nat.le_of_ble_eq_true rfl) ⟨Nat.le_of_ble_eq_true rfl, Nat.le_of_ble_eq_true rfl⟩ ⟨Nat.le_of_ble_eq_true rfl, Nat.le_of_ble_eq_true rfl⟩ dX12_tree_150) V (fun Zr1 hr1 H locs pr1 _ _ V => ?_)
    obtain ⟨rfl, I, pA_r1, fr1_0⟩ := pr1
    have fr1_0 : (hJ 137 82).toInt + (0) ≤ (hr1 137 82).toInt ∧ (hr1 137 82).toInt ≤ (hJ 137 82).toInt + (1) := fr1_0
    have A := A.wk (l3 := [(137, 0), (137, 19), (137, 20), (137, 21), (137, 22), (137, 25), (137, 27), (137, 28), (137, 79), (143, 1000), (144, 1000), (171, 1000), (172, 1000), (173, 1000), (174, 1000), (175, 1000), (176, 1000), (177, 1000), (180, 1000), (181, 1000), (182, 1000), (184, 1000), (185, 1000), (137, 82), (186, 1000)]) (by decide)
    have A := A.tr pA_r1 (by decide)
    have E9 : mE hr1 := E9.congr (pA_r1.get 137 2 (by decide)) (pA_r1.row 138 (by decide))
    have S9 : mS hr1 := S9.congr (pA_r1.get 137 56 (by decide)) (pA_r1.get 137 70 (by decide)) (pA_r1.get 137 58 (by decide)) (pA_r1.row 162 (by decide)) (pA_r1.row 163 (by decide)) (pA_r1.row 165 (by decide)) (pA_r1.row 166 (by decide))
    have K9 : mK hr1 := K9.congr (pA_r1.row 185 (by decide)) (pA_r1.row 184 (by decide))
    have w_r1_r162 : hr1 162 = (hJ 162) := pA_r1.row 162 (by decide)
    have w_r1_r163 : hr1 163 = (hJ 163) := pA_r1.row 163 (by decide)
    have w_r1_r165 : hr1 165 = (hJ 165) := pA_r1.row 165 (by decide)
    have w_r1_r166 : hr1 166 = (hJ 166) := pA_r1.row 166 (by decide)
    have w_r1_56 : (hr1 137 56).toInt = (hJ 137 56).toInt := congrArg Int32.toInt (pA_r1.get 137 56 (by decide))
    have w_r1_70 : (hr1 137 70).toInt = (hJ 137 70).toInt := congrArg Int32.toInt (pA_r1.get 137 70 (by decide))
    have w_r1_58 : (hr1 137 58).toInt = (hJ 137 58).toInt := congrArg Int32.toInt (pA_r1.get 137 58 (by decide))
    have w_r1_25 : (hr1 137 25).toInt = (hJ 137 25).toInt := congrArg Int32.toInt (pA_r1.get 137 25 (by decide))
    have w_r1_27 : (hr1 137 27).toInt = (hJ 137 27).toInt := congrArg Int32.toInt (pA_r1.get 137 27 (by decide))
    have w_r1_83 : (hr1 137 83).toInt = (hJ 137 83).toInt := congrArg Int32.toInt (pA_r1.get 137 83 (by decide))
    have w_r1_2 : (hr1 137 2).toInt = (hJ 137 2).toInt := congrArg Int32.toInt (pA_r1.get 137 2 (by decide))
    refine lv_aload_n hx hb dX12_tree_153 rfl (lv_at hl 0 rfl) ?_
    refine lv_iload_n hx hb dX12_tree_154 rfl (lv_at hl 1 rfl) ?_
    refine pk_v (pr_V M V (m_X12_digits l S I label (by omega) (show (hr1 137 82).toInt ≤ 6997 by omega)) km_X12_digits (sm_this S) pC12 lkM_X12_384 rfl hl.1 rfl (Nat.le_of_ble_eq_true rfl) ⟨Nat.le_of_ble_eq_true rfl, Nat.le_of_ble_eq_true rfl⟩ ⟨Nat.le_of_ble_eq_true rfl, Nat.le_of_ble_eq_true rfl⟩ dX12_tree_155) V (fun Zr2 hr2 H locs pr2 _ _ V => ?_)
    obtain ⟨rfl, I, pA_r2, fr2_0⟩ := pr2
    have fr2_0 : (hr1 137 82).toInt + (0) ≤ (hr2 137 82).toInt ∧ (hr2 137 82).toInt ≤ (hr1 137 82).toInt + (3) := fr2_0
    have A := A.tr pA_r2 (by decide)
    have E9 : mE hr2 := E9.congr (pA_r2.get 137 2 (by decide)) (pA_r2.row 138 (by decide))
    have S9 : mS hr2 := S9.congr (pA_r2.get 137 56 (by decide)) (pA_r2.get 137 70 (by decide)) (pA_r2.get 137 58 (by decide)) (pA_r2.row 162 (by decide)) (pA_r2.row 163 (by decide)) (pA_r2.row 165 (by decide)) (pA_r2.row 166 (by decide))
    have K9 : mK hr2 := K9.congr (pA_r2.row 185 (by decide)) (pA_r2.row 184 (by decide))
    have w_r2_r162 : hr2 162 = (hr1 162) := pA_r2.row 162 (by decide)
    have w_r2_r163 : hr2 163 = (hr1 163) := pA_r2.row 163 (by decide)
    have w_r2_r165 : hr2 165 = (hr1 165) := pA_r2.row 165 (by decide)
    have w_r2_r166 : hr2 166 = (hr1 166) := pA_r2.row 166 (by decide)
    have w_r2_56 : (hr2 137 56).toInt = (hr1 137 56).toInt := congrArg Int32.toInt (pA_r2.get 137 56 (by decide))
    have w_r2_70 : (hr2 137 70).toInt = (hr1 137 70).toInt := congrArg Int32.toInt (pA_r2.get 137 70 (by decide))
    have w_r2_58 : (hr2 137 58).toInt = (hr1 137 58).toInt := congrArg Int32.toInt (pA_r2.get 137 58 (by decide))
    have w_r2_25 : (hr2 137 25).toInt = (hr1 137 25).toInt := congrArg Int32.toInt (pA_r2.get 137 25 (by decide))
    have w_r2_27 : (hr2 137 27).toInt = (hr1 137 27).toInt := congrArg Int32.toInt (pA_r2.get 137 27 (by decide))
    have w_r2_83 : (hr2 137 83).toInt = (hr1 137 83).toInt := congrArg Int32.toInt (pA_r2.get 137 83 (by decide))
    have w_r2_2 : (hr2 137 2).toInt = (hr1 137 2).toInt := congrArg Int32.toInt (pA_r2.get 137 2 (by decide))
    refine lv_iload hx hb dX12_tree_158 (lv_at hl 5 rfl) ?_
    refine lv_if_ne (tgt := 165) hx hb dX12_tree_160 (by decide) (fun c_160 => ?_) (fun c_160 => ?_)
    · skip
      have k_0 : (0 : Int32).toInt = 0 := rfl
      have c_160 := pi_ne c_160
      refine lv_aload_n hx hb dX12_tree_165 rfl (lv_at hl 0 rfl) ?_
      refine pg_i M V 12 70 (sm_this S) pC12 fk12_70 lkF_X12_285 dX12_tree_166 ?_
      refine lv_topi (fun v3 ev3 => ?_)
      have tv3 : 0 ≤ v3.toInt ∧ v3.toInt ≤ 40 := by rw [ev3]; exact I.get (sm_this S) 70
      have uv3 : v3.toInt = (hr2 137 70).toInt := congrArg Int32.toInt ev3
      refine lv_iconst (v := 1) hx hb dX12_tree_169 (by decide) ?_
      refine lv_isub hx hb dX12_tree_170 ?_
      refine lv_topi (fun v4 ev4 => ?_)
      refine lv_istore (lv' := [(6, .int v4), (0, .ref (zB Z + 137)), (1, .int label), (2, .int width), (3, .int x148_3), (4, .int x148_4), (5, .int x148_5)]) hx hb dX12_tree_171 hl (by decide) rfl (fun ls hl => ?_)
      refine lv_aload_n hx hb dX12_tree_173 rfl (lv_at hl 1 rfl) ?_
      refine lv_iconst (v := 2) hx hb dX12_tree_174 (by decide) ?_
      refine lv_iload hx hb dX12_tree_175 (lv_at hl 0 rfl) ?_
      refine lv_iconst (v := 0) hx hb dX12_tree_177 (by decide) ?_
      have so_56 : _ = h 137 56 := A.get 137 56 (by decide)
      have so_58 : _ = h 137 58 := A.get 137 58 (by decide)
      have st_162 : _ = h 162 := A.row 162 (by decide)
      have st_163 : _ = h 163 := A.row 163 (by decide)
      have st_165 : _ = h 165 := A.row 165 (by decide)
      have st_166 : _ = h 166 := A.row 166 (by decide)
      have k_2 : (2 : Int32).toInt = 2 := rfl
      have k_1 : (1 : Int32).toInt = 1 := rfl
      have tv4 : v4.toInt = v3.toInt - 1 := by rw [ev4]; have z9 := pi_sub (x := v3) (y := (1 : Int32)); rw [k_1] at z9; exact z9 (by omega)
      refine pk_v (pr_V M V (m_X12_openThing l S I (2 : Int32) v4 (0 : Int32) (by omega) (by omega) (by omega) (show (hr2 137 56).toInt ≤ 39 by omega)) km_X12_openThing (sm_this S) pC12 lkM_X12_334 rfl hl.1 rfl (Nat.le_of_ble_eq_true rfl) ⟨Nat.le_of_ble_eq_true rfl, Nat.le_of_ble_eq_true rfl⟩ ⟨Nat.le_of_ble_eq_true rfl, Nat.le_of_ble_eq_true rfl⟩ dX12_tree_178) V (fun Zr5 hr5 H locs pr5 _ _ V => ?_)
      obtain ⟨rfl, I, pA_r5, fr5_0, fr5_1, fr5_2, fr5_3, fr5_4⟩ := pr5
      have fr5_4 : (hr2 137 56).toInt + (1) ≤ (hr5 137 56).toInt ∧ (hr5 137 56).toInt ≤ (hr2 137 56).toInt + (1) := fr5_4
      have A := A.wk (l3 := [(137, 0), (137, 19), (137, 20), (137, 21), (137, 22), (137, 25), (137, 27), (137, 28), (137, 79), (143, 1000), (144, 1000), (171, 1000), (172, 1000), (173, 1000), (174, 1000), (175, 1000), (176, 1000), (177, 1000), (180, 1000), (181, 1000), (182, 1000), (184, 1000), (185, 1000), (137, 82), (186, 1000), (137, 56), (162, 1000), (163, 1000), (165, 1000), (166, 1000), (164, 1000)]) (by decide)
      have A := A.tr pA_r5 (by decide)
      have E9 : mE hr5 := E9.congr (pA_r5.get 137 2 (by decide)) (pA_r5.row 138 (by decide))
      have K9 : mK hr5 := K9.congr (pA_r5.row 185 (by decide)) (pA_r5.row 184 (by decide))
      have w_r5_70 : (hr5 137 70).toInt = (hr2 137 70).toInt := congrArg Int32.toInt (pA_r5.get 137 70 (by decide))
      have w_r5_58 : (hr5 137 58).toInt = (hr2 137 58).toInt := congrArg Int32.toInt (pA_r5.get 137 58 (by decide))
      have w_r5_25 : (hr5 137 25).toInt = (hr2 137 25).toInt := congrArg Int32.toInt (pA_r5.get 137 25 (by decide))
      have w_r5_27 : (hr5 137 27).toInt = (hr2 137 27).toInt := congrArg Int32.toInt (pA_r5.get 137 27 (by decide))
      have w_r5_82 : (hr5 137 82).toInt = (hr2 137 82).toInt := congrArg Int32.toInt (pA_r5.get 137 82 (by decide))
      have w_r5_83 : (hr5 137 83).toInt = (hr2 137 83).toInt := congrArg Int32.toInt (pA_r5.get 137 83 (by decide))
      have w_r5_2 : (hr5 137 2).toInt = (hr2 137 2).toInt := congrArg Int32.toInt (pA_r5.get 137 2 (by decide))
      refine lv_aload_n hx hb dX12_tree_181 rfl (lv_at hl 1 rfl) ?_
      refine lv_iload_n hx hb dX12_tree_182 rfl (lv_at hl 4 rfl) ?_
      refine pk_v (pr_V M V (m_X12_push l S I x148_3 (show (hr5 137 58).toInt ≤ 39 by omega)) km_X12_push (sm_this S) pC12 lkM_X12_337 rfl hl.1 rfl (Nat.le_of_ble_eq_true rfl) ⟨Nat.le_of_ble_eq_true rfl, Nat.le_of_ble_eq_true rfl⟩ ⟨Nat.le_of_ble_eq_true rfl, Nat.le_of_ble_eq_true rfl⟩ dX12_tree_183) V (fun Zr6 hr6 H locs pr6 _ _ V => ?_)
      obtain ⟨rfl, I, pA_r6, fr6_0⟩ := pr6
      have fr6_0 : (hr5 137 58).toInt + (1) ≤ (hr6 137 58).toInt ∧ (hr6 137 58).toInt ≤ (hr5 137 58).toInt + (1) := fr6_0
      have A := A.wk (l3 := [(137, 0), (137, 19), (137, 20), (137, 21), (137, 22), (137, 25), (137, 27), (137, 28), (137, 79), (143, 1000), (144, 1000), (171, 1000), (172, 1000), (173, 1000), (174, 1000), (175, 1000), (176, 1000), (177, 1000), (180, 1000), (181, 1000), (182, 1000), (184, 1000), (185, 1000), (137, 82), (186, 1000), (137, 56), (162, 1000), (163, 1000), (165, 1000), (166, 1000), (164, 1000), (137, 58), (167, 1000)]) (by decide)
      have A := A.tr pA_r6 (by decide)
      have E9 : mE hr6 := E9.congr (pA_r6.get 137 2 (by decide)) (pA_r6.row 138 (by decide))
      have K9 : mK hr6 := K9.congr (pA_r6.row 185 (by decide)) (pA_r6.row 184 (by decide))
      have w_r6_r162 : hr6 162 = (hr5 162) := pA_r6.row 162 (by decide)
      have w_r6_r163 : hr6 163 = (hr5 163) := pA_r6.row 163 (by decide)
      have w_r6_r165 : hr6 165 = (hr5 165) := pA_r6.row 165 (by decide)
      have w_r6_r166 : hr6 166 = (hr5 166) := pA_r6.row 166 (by decide)
      have w_r6_56 : (hr6 137 56).toInt = (hr5 137 56).toInt := congrArg Int32.toInt (pA_r6.get 137 56 (by decide))
      have w_r6_70 : (hr6 137 70).toInt = (hr5 137 70).toInt := congrArg Int32.toInt (pA_r6.get 137 70 (by decide))
      have w_r6_25 : (hr6 137 25).toInt = (hr5 137 25).toInt := congrArg Int32.toInt (pA_r6.get 137 25 (by decide))
      have w_r6_27 : (hr6 137 27).toInt = (hr5 137 27).toInt := congrArg Int32.toInt (pA_r6.get 137 27 (by decide))
      have w_r6_82 : (hr6 137 82).toInt = (hr5 137 82).toInt := congrArg Int32.toInt (pA_r6.get 137 82 (by decide))
      have w_r6_83 : (hr6 137 83).toInt = (hr5 137 83).toInt := congrArg Int32.toInt (pA_r6.get 137 83 (by decide))
      have w_r6_2 : (hr6 137 2).toInt = (hr5 137 2).toInt := congrArg Int32.toInt (pA_r6.get 137 2 (by decide))
      refine lv_aload_n hx hb dX12_tree_186 rfl (lv_at hl 1 rfl) ?_
      refine pg_r M V 12 61 (sm_this S) pC12 fk12_61 (sm_indent S).2.2 lkF_X12_117 dX12_tree_187 ?_
      refine lv_iload hx hb dX12_tree_190 (lv_at hl 0 rfl) ?_
      refine lv_dup2_11 hx hb dX12_tree_192 rfl rfl ?_
      refine pa_i M V (sm_indent S).1 (by rw [(sm_indent S).2.1]; exact pi_in (by omega)) dX12_tree_193 ?_
      refine lv_topi (fun v7 ev7 => ?_)
      refine lv_bipush (v := 10) hx hb dX12_tree_194 (by decide) ?_
      refine lv_iadd hx hb dX12_tree_196 ?_
      refine lv_topi (fun v8 ev8 => ?_)
      refine ps_i M V (sm_indent S).1 (by rw [(sm_indent S).2.1]; exact pi_in (by omega)) dX12_tree_197 (fun H locs V => ?_)
      have A := A.wk (l3 := [(137, 0), (137, 19), (137, 20), (137, 21), (137, 22), (137, 25), (137, 27), (137, 28), (137, 79), (143, 1000), (144, 1000), (171, 1000), (172, 1000), (173, 1000), (174, 1000), (175, 1000), (176, 1000), (177, 1000), (180, 1000), (181, 1000), (182, 1000), (184, 1000), (185, 1000), (137, 82), (186, 1000), (137, 56), (162, 1000), (163, 1000), (165, 1000), (166, 1000), (164, 1000), (137, 58), (167, 1000), (170, 1000)]) (by decide)
      have A := A.upA (o := 170) (k := v4.toNatClampNeg) (v := v8) (by decide)
      have I := I.up (k := v4.toNatClampNeg) (v := v8) (sm_indent S).1 (pi_full _)
      refine lv_iconst (v := 1) hx hb dX12_tree_198 (by decide) ?_
      exact pe_i M V rfl rfl hr hlk (pn_z (pi_z (by omega))).1 ⟨rfl, I, A.wk (by decide), by omega, (E9.congr rfl rfl), (mS.push (i := (h 137 56).toNatClampNeg) (kind := (2 : Int32)) (ar := v4) (nu := (0 : Int32)) S0 z56 (by omega) (show (hr6 137 56).toInt = _ by omega) (show (hr6 137 70).toInt = _ by rw [if_pos (by decide)]; omega) (show (hr6 137 58).toInt = _ by rw [if_neg (by decide)]; omega) (show (hr6 162) = _ by rw [w_r6_r162, fr5_0, st_162, so_56]) (show (hr6 163) = _ by rw [w_r6_r163, fr5_1, st_163, so_56, so_58]) (show (hr6 165) = _ by rw [w_r6_r165, fr5_2, st_165, so_56]) (show (hr6 166) = _ by rw [w_r6_r166, fr5_3, st_166, so_56]) (fun z9 => absurd z56 (by omega)) (fun _ => by omega) (fun z9 => absurd z9 (by decide))), (K9.congr rfl rfl), (show (h 137 25).toInt + (0) ≤ (hr6 137 25).toInt ∧ (hr6 137 25).toInt ≤ (h 137 25).toInt + (1) by omega), (show (h 137 27).toInt + (0) ≤ (hr6 137 27).toInt ∧ (hr6 137 27).toInt ≤ (h 137 27).toInt + (1) by omega), (show (h 137 82).toInt + (0) ≤ (hr6 137 82).toInt ∧ (hr6 137 82).toInt ≤ (h 137 82).toInt + (4) by omega)⟩ ⟨Nat.le_refl _, Nat.le_refl _⟩ dX12_tree_199
    · skip
      have k_0 : (0 : Int32).toInt = 0 := rfl
      have c_160 := pi_eq.mp c_160
      refine lv_iconst (v := 0) hx hb dX12_tree_163 (by decide) ?_
      exact pe_i M V rfl rfl hr hlk (pn_z (pi_z (by omega))).1 ⟨rfl, I, A.wk (by decide), by omega, (E9.congr rfl rfl), (S9.congr rfl rfl rfl rfl rfl rfl rfl), (K9.congr rfl rfl), (show (h 137 25).toInt + (0) ≤ (hr2 137 25).toInt ∧ (hr2 137 25).toInt ≤ (h 137 25).toInt + (1) by omega), (show (h 137 27).toInt + (0) ≤ (hr2 137 27).toInt ∧ (hr2 137 27).toInt ≤ (h 137 27).toInt + (1) by omega), (show (h 137 82).toInt + (0) ≤ (hr2 137 82).toInt ∧ (hr2 137 82).toInt ≤ (h 137 82).toInt + (4) by omega)⟩ ⟨Nat.le_refl _, Nat.le_refl _⟩ dX12_tree_164
  have J_147 : ∀ (x147_3 : Int32) (x147_4 : Int32) (x147_5 : Int32) (y147_0 : Int32) (hJ : pH) (H : Heap) (locs : List Loc) (ls : Array Slot), pV Z hJ s.heap H locs → Iv Z hJ → agr [(137, 0), (137, 18), (137, 19), (137, 20), (137, 21), (137, 22), (137, 23), (137, 25), (137, 27), (137, 28), (137, 40), (137, 48), (137, 56), (137, 58), (137, 70), (137, 71), (137, 79), (143, 1000), (144, 1000), (153, 1000), (171, 1000), (172, 1000), (173, 1000), (174, 1000), (175, 1000), (176, 1000), (177, 1000), (180, 1000), (181, 1000), (182, 1000), (184, 1000), (185, 1000)] h hJ → lv_has ls 7 [(0, .ref (zB Z + 137)), (1, .int label), (2, .int width), (3, .int x147_3), (4, .int x147_4), (5, .int x147_5)] → (0 ≤ x147_4.toInt ∧ x147_4.toInt ≤ 1) → (1 ≤ x147_5.toInt ∧ x147_5.toInt ≤ 1) → (0 ≤ y147_0.toInt ∧ y147_0.toInt ≤ 0) → ((h 137 25).toInt + (1) ≤ (hJ 137 25).toInt ∧ (hJ 137 25).toInt ≤ (h 137 25).toInt + (1)) → ((h 137 27).toInt + (1) ≤ (hJ 137 27).toInt ∧ (hJ 137 27).toInt ≤ (h 137 27).toInt + (1)) → ((h 137 82).toInt + (0) ≤ (hJ 137 82).toInt ∧ (hJ 137 82).toInt ≤ (h 137 82).toInt + (0)) → ((h 137 83).toInt + (0) ≤ (hJ 137 83).toInt ∧ (hJ 137 83).toInt ≤ (h 137 83).toInt + (0)) → ((h 137 2).toInt + (0) ≤ (hJ 137 2).toInt ∧ (hJ 137 2).toInt ≤ (h 137 2).toInt + (0)) → (0 ≤ label.toInt ∧ label.toInt ≤ 999 ∧ 1 ≤ width.toInt ∧ width.toInt ≤ 200) → (1 ≤ (h 137 70).toInt) → mE hJ → mS hJ → mK hJ → W p l e (pRm 4 0 0 101) s m ([.ref (zB Z + 137), .int label, .int width] : List Value).toArray below meth c H locs 0 0 (MQ below (pQi Z (fun r Z1 h1 => Z = Z1 ∧ Iv Z h1 ∧ agr [(137, 0), (137, 18), (137, 19), (137, 20), (137, 22), (137, 21), (137, 23), (137, 40), (137, 48), (137, 56), (137, 58), (137, 70), (137, 71), (153, 1000), (180, 1000), (172, 1000), (173, 1000), (171, 1000), (174, 1000), (175, 1000), (176, 1000), (177, 1000), (137, 25), (143, 1000), (137, 28), (137, 27), (144, 1000), (137, 82), (186, 1000), (137, 79), (181, 1000), (182, 1000), (184, 1000), (185, 1000), (162, 1000), (163, 1000), (165, 1000), (166, 1000), (164, 1000), (167, 1000), (170, 1000)] h h1 ∧ (r.toInt = 0 ∨ r.toInt = 1) ∧ (mE h1) ∧ (mS h1) ∧ (mK h1) ∧ ((h 137 25).toInt + (0) ≤ (h1 137 25).toInt ∧ (h1 137 25).toInt ≤ (h 137 25).toInt + (1)) ∧ ((h 137 27).toInt + (0) ≤ (h1 137 27).toInt ∧ (h1 137 27).toInt ≤ (h 137 27).toInt + (1)) ∧ ((h 137 82).toInt + (0) ≤ (h1 137 82).toInt ∧ (h1 137 82).toInt ≤ (h 137 82).toInt + (4)))) ([.ref (zB Z + 137), .int label, .int width] : List Value).toArray s 0 0 (pA (zB Z))) (F0 m 147 ls [.int y147_0]) := by
    intro x147_3 x147_4 x147_5 y147_0 hJ H locs ls V I A hl g_147_4 g_147_5 gs_147_0 gd_147_25 gd_147_27 gd_147_82 gd_147_83 gd_147_2 eL eA E9 S9 K9
    exact pe_i M V rfl rfl hr hlk (pn_z (pi_z (by omega))).1 ⟨rfl, I, A.wk (by decide), by omega, (E9.congr rfl rfl), (S9.congr rfl rfl rfl rfl rfl rfl rfl), (K9.congr rfl rfl), (show (h 137 25).toInt + (0) ≤ (hJ 137 25).toInt ∧ (hJ 137 25).toInt ≤ (h 137 25).toInt + (1) by omega), (show (h 137 27).toInt + (0) ≤ (hJ 137 27).toInt ∧ (hJ 137 27).toInt ≤ (h 137 27).toInt + (1) by omega), (show (h 137 82).toInt + (0) ≤ (hJ 137 82).toInt ∧ (hJ 137 82).toInt ≤ (h 137 82).toInt + (4) by omega)⟩ ⟨Nat.le_refl _, Nat.le_refl _⟩ dX12_tree_147
  have J_120 : ∀ (x120_3 : Int32) (x120_4 : Int32) (x120_5 : Int32) (hJ : pH) (H : Heap) (locs : List Loc) (ls : Array Slot), pV Z hJ s.heap H locs → Iv Z hJ → agr [(137, 0), (137, 19), (137, 20), (137, 21), (137, 22), (137, 25), (137, 27), (137, 28), (137, 79), (143, 1000), (144, 1000), (171, 1000), (172, 1000), (173, 1000), (174, 1000), (175, 1000), (176, 1000), (177, 1000), (180, 1000), (181, 1000), (182, 1000), (184, 1000), (185, 1000)] h hJ → lv_has ls 7 [(0, .ref (zB Z + 137)), (1, .int label), (2, .int width), (3, .int x120_3), (4, .int x120_4), (5, .int x120_5)] → (0 ≤ x120_4.toInt ∧ x120_4.toInt ≤ 1) → (0 ≤ x120_5.toInt ∧ x120_5.toInt ≤ 1) → ((h 137 56).toInt + (0) ≤ (hJ 137 56).toInt ∧ (hJ 137 56).toInt ≤ (h 137 56).toInt + (0)) → ((h 137 70).toInt + (0) ≤ (hJ 137 70).toInt ∧ (hJ 137 70).toInt ≤ (h 137 70).toInt + (0)) → ((h 137 58).toInt + (0) ≤ (hJ 137 58).toInt ∧ (hJ 137 58).toInt ≤ (h 137 58).toInt + (0)) → ((h 137 25).toInt + (1) ≤ (hJ 137 25).toInt ∧ (hJ 137 25).toInt ≤ (h 137 25).toInt + (1)) → ((h 137 27).toInt + (1) ≤ (hJ 137 27).toInt ∧ (hJ 137 27).toInt ≤ (h 137 27).toInt + (1)) → ((h 137 82).toInt + (0) ≤ (hJ 137 82).toInt ∧ (hJ 137 82).toInt ≤ (h 137 82).toInt + (0)) → ((h 137 83).toInt + (0) ≤ (hJ 137 83).toInt ∧ (hJ 137 83).toInt ≤ (h 137 83).toInt + (0)) → ((h 137 2).toInt + (0) ≤ (hJ 137 2).toInt ∧ (hJ 137 2).toInt ≤ (h 137 2).toInt + (0)) → (0 ≤ label.toInt ∧ label.toInt ≤ 999 ∧ 1 ≤ width.toInt ∧ width.toInt ≤ 200) → (1 ≤ (h 137 70).toInt) → mE hJ → mS hJ → mK hJ → W p l e (pRm 4 0 0 101) s m ([.ref (zB Z + 137), .int label, .int width] : List Value).toArray below meth c H locs 0 0 (MQ below (pQi Z (fun r Z1 h1 => Z = Z1 ∧ Iv Z h1 ∧ agr [(137, 0), (137, 18), (137, 19), (137, 20), (137, 22), (137, 21), (137, 23), (137, 40), (137, 48), (137, 56), (137, 58), (137, 70), (137, 71), (153, 1000), (180, 1000), (172, 1000), (173, 1000), (171, 1000), (174, 1000), (175, 1000), (176, 1000), (177, 1000), (137, 25), (143, 1000), (137, 28), (137, 27), (144, 1000), (137, 82), (186, 1000), (137, 79), (181, 1000), (182, 1000), (184, 1000), (185, 1000), (162, 1000), (163, 1000), (165, 1000), (166, 1000), (164, 1000), (167, 1000), (170, 1000)] h h1 ∧ (r.toInt = 0 ∨ r.toInt = 1) ∧ (mE h1) ∧ (mS h1) ∧ (mK h1) ∧ ((h 137 25).toInt + (0) ≤ (h1 137 25).toInt ∧ (h1 137 25).toInt ≤ (h 137 25).toInt + (1)) ∧ ((h 137 27).toInt + (0) ≤ (h1 137 27).toInt ∧ (h1 137 27).toInt ≤ (h 137 27).toInt + (1)) ∧ ((h 137 82).toInt + (0) ≤ (h1 137 82).toInt ∧ (h1 137 82).toInt ≤ (h 137 82).toInt + (4)))) ([.ref (zB Z + 137), .int label, .int width] : List Value).toArray s 0 0 (pA (zB Z))) (F0 m 120 ls []) := by
    intro x120_3 x120_4 x120_5 hJ H locs ls V I A hl g_120_4 g_120_5 gd_120_56 gd_120_70 gd_120_58 gd_120_25 gd_120_27 gd_120_82 gd_120_83 gd_120_2 eL eA E9 S9 K9
    refine lv_iload hx hb dX12_tree_120 (lv_at hl 5 rfl) ?_
    refine lv_if_eq (tgt := 148) hx hb dX12_tree_122 (by decide) (fun c_122 => ?_) (fun c_122 => ?_)
    · skip
      have k_0 : (0 : Int32).toInt = 0 := rfl
      have c_122 := pi_eq.mp c_122
      exact J_148 x120_3 x120_4 x120_5 _ _ _ _ V I (A.wk (by decide)) (lv_sub hl [0, 1, 2, 3, 4, 5] rfl) (by omega) (by omega) (show (h 137 56).toInt + (0) ≤ (hJ 137 56).toInt ∧ (hJ 137 56).toInt ≤ (h 137 56).toInt + (0) by omega) (show (h 137 70).toInt + (0) ≤ (hJ 137 70).toInt ∧ (hJ 137 70).toInt ≤ (h 137 70).toInt + (0) by omega) (show (h 137 58).toInt + (0) ≤ (hJ 137 58).toInt ∧ (hJ 137 58).toInt ≤ (h 137 58).toInt + (0) by omega) (show (h 137 25).toInt + (1) ≤ (hJ 137 25).toInt ∧ (hJ 137 25).toInt ≤ (h 137 25).toInt + (1) by omega) (show (h 137 27).toInt + (1) ≤ (hJ 137 27).toInt ∧ (hJ 137 27).toInt ≤ (h 137 27).toInt + (1) by omega) (show (h 137 82).toInt + (0) ≤ (hJ 137 82).toInt ∧ (hJ 137 82).toInt ≤ (h 137 82).toInt + (0) by omega) (show (h 137 83).toInt + (0) ≤ (hJ 137 83).toInt ∧ (hJ 137 83).toInt ≤ (h 137 83).toInt + (0) by omega) (show (h 137 2).toInt + (0) ≤ (hJ 137 2).toInt ∧ (hJ 137 2).toInt ≤ (h 137 2).toInt + (0) by omega) (show x120_5.toInt = 1 → (hJ 137 56).toInt ≤ 39 by omega) (by omega) (by omega) (E9.congr rfl rfl) (S9.congr rfl rfl rfl rfl rfl rfl rfl) (K9.congr rfl rfl) 
    · skip
      have k_0 : (0 : Int32).toInt = 0 := rfl
      have c_122 := pi_ne c_122
      refine lv_aload_n hx hb dX12_tree_125 rfl (lv_at hl 0 rfl) ?_
      refine pg_i M V 12 56 (sm_this S) pC12 fk12_56 lkF_X12_279 dX12_tree_126 ?_
      refine lv_topi (fun v9 ev9 => ?_)
      have tv9 : 0 ≤ v9.toInt ∧ v9.toInt ≤ 40 := by rw [ev9]; exact I.get (sm_this S) 56
      have uv9 : v9.toInt = (hJ 137 56).toInt := congrArg Int32.toInt ev9
      refine lv_bipush (v := 40) hx hb dX12_tree_129 (by decide) ?_
      refine lv_icmp_ne (tgt := 148) hx hb dX12_tree_131 (by decide) (fun c_131 => ?_) (fun c_131 => ?_)
      · skip
        have k_40 : (40 : Int32).toInt = 40 := rfl
        have c_131 := pi_ne c_131
        exact J_148 x120_3 x120_4 x120_5 _ _ _ _ V I (A.wk (by decide)) (lv_sub hl [0, 1, 2, 3, 4, 5] rfl) (by omega) (by omega) (show (h 137 56).toInt + (0) ≤ (hJ 137 56).toInt ∧ (hJ 137 56).toInt ≤ (h 137 56).toInt + (0) by omega) (show (h 137 70).toInt + (0) ≤ (hJ 137 70).toInt ∧ (hJ 137 70).toInt ≤ (h 137 70).toInt + (0) by omega) (show (h 137 58).toInt + (0) ≤ (hJ 137 58).toInt ∧ (hJ 137 58).toInt ≤ (h 137 58).toInt + (0) by omega) (show (h 137 25).toInt + (1) ≤ (hJ 137 25).toInt ∧ (hJ 137 25).toInt ≤ (h 137 25).toInt + (1) by omega) (show (h 137 27).toInt + (1) ≤ (hJ 137 27).toInt ∧ (hJ 137 27).toInt ≤ (h 137 27).toInt + (1) by omega) (show (h 137 82).toInt + (0) ≤ (hJ 137 82).toInt ∧ (hJ 137 82).toInt ≤ (h 137 82).toInt + (0) by omega) (show (h 137 83).toInt + (0) ≤ (hJ 137 83).toInt ∧ (hJ 137 83).toInt ≤ (h 137 83).toInt + (0) by omega) (show (h 137 2).toInt + (0) ≤ (hJ 137 2).toInt ∧ (hJ 137 2).toInt ≤ (h 137 2).toInt + (0) by omega) (show x120_5.toInt = 1 → (hJ 137 56).toInt ≤ 39 by omega) (by omega) (by omega) (E9.congr rfl rfl) (S9.congr rfl rfl rfl rfl rfl rfl rfl) (K9.congr rfl rfl) 
      · skip
        have k_40 : (40 : Int32).toInt = 40 := rfl
        have c_131 := pi_eq.mp c_131
        refine lv_aload_n hx hb dX12_tree_134 rfl (lv_at hl 0 rfl) ?_
        refine lv_iconst (v := 2) hx hb dX12_tree_135 (by decide) ?_
        refine pk_i (pr_V M V (m_X12_fails l S I (2 : Int32) ) km_X12_fails (sm_this S) pC12 lkM_X12_297 rfl hl.1 rfl (Nat.le_of_ble_eq_true rfl) ⟨Nat.le_of_ble_eq_true rfl, Nat.le_of_ble_eq_true rfl⟩ ⟨Nat.le_of_ble_eq_true rfl, Nat.le_of_ble_eq_true rfl⟩ dX12_tree_136) V (fun r10 Zr10 hr10 H locs pr10 _ _ V => ?_)
        obtain ⟨rfl, I, pA_r10, fr10_0, fr10_1⟩ := pr10
        have A := A.wk (l3 := [(137, 0), (137, 19), (137, 20), (137, 21), (137, 22), (137, 25), (137, 27), (137, 28), (137, 79), (143, 1000), (144, 1000), (171, 1000), (172, 1000), (173, 1000), (174, 1000), (175, 1000), (176, 1000), (177, 1000), (180, 1000), (181, 1000), (182, 1000), (184, 1000), (185, 1000), (137, 18), (137, 23), (137, 40), (137, 48), (137, 56), (137, 58), (137, 70), (137, 71), (153, 1000)]) (by decide)
        have A := A.tr pA_r10 (by decide)
        have E9 : mE hr10 := E9.congr (pA_r10.get 137 2 (by decide)) (pA_r10.row 138 (by decide))
        have S9 : mS hr10 := fr10_1 (S9.congr rfl rfl rfl rfl rfl rfl rfl)
        have K9 : mK hr10 := K9.congr (pA_r10.row 185 (by decide)) (pA_r10.row 184 (by decide))
        have w_r10_r162 : hr10 162 = (hJ 162) := pA_r10.row 162 (by decide)
        have w_r10_r163 : hr10 163 = (hJ 163) := pA_r10.row 163 (by decide)
        have w_r10_r165 : hr10 165 = (hJ 165) := pA_r10.row 165 (by decide)
        have w_r10_r166 : hr10 166 = (hJ 166) := pA_r10.row 166 (by decide)
        have w_r10_25 : (hr10 137 25).toInt = (hJ 137 25).toInt := congrArg Int32.toInt (pA_r10.get 137 25 (by decide))
        have w_r10_27 : (hr10 137 27).toInt = (hJ 137 27).toInt := congrArg Int32.toInt (pA_r10.get 137 27 (by decide))
        have w_r10_82 : (hr10 137 82).toInt = (hJ 137 82).toInt := congrArg Int32.toInt (pA_r10.get 137 82 (by decide))
        have w_r10_83 : (hr10 137 83).toInt = (hJ 137 83).toInt := congrArg Int32.toInt (pA_r10.get 137 83 (by decide))
        have w_r10_2 : (hr10 137 2).toInt = (hJ 137 2).toInt := congrArg Int32.toInt (pA_r10.get 137 2 (by decide))
        refine lv_if_le (tgt := 146) hx hb dX12_tree_139 (by decide) (fun c_139 => ?_) (fun c_139 => ?_)
        · skip
          have c_139 := pi_le.mp c_139
          refine lv_iconst (v := 0) hx hb dX12_tree_146 (by decide) ?_
          exact J_147 x120_3 x120_4 x120_5 (0 : Int32) _ _ _ _ V I (A.wk (by decide)) (lv_sub hl [0, 1, 2, 3, 4, 5] rfl) (by omega) (by omega) (by omega) (show (h 137 25).toInt + (1) ≤ (hr10 137 25).toInt ∧ (hr10 137 25).toInt ≤ (h 137 25).toInt + (1) by omega) (show (h 137 27).toInt + (1) ≤ (hr10 137 27).toInt ∧ (hr10 137 27).toInt ≤ (h 137 27).toInt + (1) by omega) (show (h 137 82).toInt + (0) ≤ (hr10 137 82).toInt ∧ (hr10 137 82).toInt ≤ (h 137 82).toInt + (0) by omega) (show (h 137 83).toInt + (0) ≤ (hr10 137 83).toInt ∧ (hr10 137 83).toInt ≤ (h 137 83).toInt + (0) by omega) (show (h 137 2).toInt + (0) ≤ (hr10 137 2).toInt ∧ (hr10 137 2).toInt ≤ (h 137 2).toInt + (0) by omega) (by omega) (by omega) (E9.congr rfl rfl) (S9.congr rfl rfl rfl rfl rfl rfl rfl) (K9.congr rfl rfl) 
        · skip
          have c_139 := pi_le' c_139
          refine lv_iconst (v := 1) hx hb dX12_tree_142 (by decide) ?_
          refine lv_goto (tgt := 147) hx hb dX12_tree_143 (by decide) ?_
          have k_1 : (1 : Int32).toInt = 1 := rfl
          exact J_147 x120_3 x120_4 x120_5 (1 : Int32) _ _ _ _ V I (A.wk (by decide)) (lv_sub hl [0, 1, 2, 3, 4, 5] rfl) (by omega) (by omega) (by omega) (show (h 137 25).toInt + (1) ≤ (hr10 137 25).toInt ∧ (hr10 137 25).toInt ≤ (h 137 25).toInt + (1) by omega) (show (h 137 27).toInt + (1) ≤ (hr10 137 27).toInt ∧ (hr10 137 27).toInt ≤ (h 137 27).toInt + (1) by omega) (show (h 137 82).toInt + (0) ≤ (hr10 137 82).toInt ∧ (hr10 137 82).toInt ≤ (h 137 82).toInt + (0) by omega) (show (h 137 83).toInt + (0) ≤ (hr10 137 83).toInt ∧ (hr10 137 83).toInt ≤ (h 137 83).toInt + (0) by omega) (show (h 137 2).toInt + (0) ≤ (hr10 137 2).toInt ∧ (hr10 137 2).toInt ≤ (h 137 2).toInt + (0) by omega) (by omega) (by omega) (E9.congr rfl rfl) (S9.congr rfl rfl rfl rfl rfl rfl rfl) (K9.congr rfl rfl) 
  have J_117 : ∀ (x117_3 : Int32) (x117_4 : Int32) (x117_5 : Int32) (y117_0 : Int32) (y117_1 : Int32) (hJ : pH) (H : Heap) (locs : List Loc) (ls : Array Slot), pV Z hJ s.heap H locs → Iv Z hJ → agr [(137, 0), (137, 19), (137, 20), (137, 21), (137, 22), (137, 25), (137, 27), (137, 28), (143, 1000), (144, 1000), (171, 1000), (172, 1000), (173, 1000), (174, 1000), (175, 1000), (176, 1000), (177, 1000), (180, 1000)] h hJ → lv_has ls 7 [(0, .ref (zB Z + 137)), (1, .int label), (2, .int width), (3, .int x117_3), (4, .int x117_4), (5, .int x117_5)] → (1 ≤ x117_4.toInt ∧ x117_4.toInt ≤ 1) → (0 ≤ x117_5.toInt ∧ x117_5.toInt ≤ 1) → (0 ≤ y117_0.toInt ∧ y117_0.toInt ≤ 1) → ((h 137 56).toInt + (0) ≤ (hJ 137 56).toInt ∧ (hJ 137 56).toInt ≤ (h 137 56).toInt + (0)) → ((h 137 70).toInt + (0) ≤ (hJ 137 70).toInt ∧ (hJ 137 70).toInt ≤ (h 137 70).toInt + (0)) → ((h 137 58).toInt + (0) ≤ (hJ 137 58).toInt ∧ (hJ 137 58).toInt ≤ (h 137 58).toInt + (0)) → ((h 137 25).toInt + (1) ≤ (hJ 137 25).toInt ∧ (hJ 137 25).toInt ≤ (h 137 25).toInt + (1)) → ((h 137 27).toInt + (1) ≤ (hJ 137 27).toInt ∧ (hJ 137 27).toInt ≤ (h 137 27).toInt + (1)) → ((h 137 82).toInt + (0) ≤ (hJ 137 82).toInt ∧ (hJ 137 82).toInt ≤ (h 137 82).toInt + (0)) → ((h 137 83).toInt + (0) ≤ (hJ 137 83).toInt ∧ (hJ 137 83).toInt ≤ (h 137 83).toInt + (0)) → ((h 137 2).toInt + (0) ≤ (hJ 137 2).toInt ∧ (hJ 137 2).toInt ≤ (h 137 2).toInt + (0)) → (0 ≤ label.toInt ∧ label.toInt ≤ 999 ∧ 1 ≤ width.toInt ∧ width.toInt ≤ 200) → (1 ≤ (h 137 70).toInt) → mE hJ → mS hJ → mK hJ → W p l e (pRm 4 0 0 101) s m ([.ref (zB Z + 137), .int label, .int width] : List Value).toArray below meth c H locs 0 0 (MQ below (pQi Z (fun r Z1 h1 => Z = Z1 ∧ Iv Z h1 ∧ agr [(137, 0), (137, 18), (137, 19), (137, 20), (137, 22), (137, 21), (137, 23), (137, 40), (137, 48), (137, 56), (137, 58), (137, 70), (137, 71), (153, 1000), (180, 1000), (172, 1000), (173, 1000), (171, 1000), (174, 1000), (175, 1000), (176, 1000), (177, 1000), (137, 25), (143, 1000), (137, 28), (137, 27), (144, 1000), (137, 82), (186, 1000), (137, 79), (181, 1000), (182, 1000), (184, 1000), (185, 1000), (162, 1000), (163, 1000), (165, 1000), (166, 1000), (164, 1000), (167, 1000), (170, 1000)] h h1 ∧ (r.toInt = 0 ∨ r.toInt = 1) ∧ (mE h1) ∧ (mS h1) ∧ (mK h1) ∧ ((h 137 25).toInt + (0) ≤ (h1 137 25).toInt ∧ (h1 137 25).toInt ≤ (h 137 25).toInt + (1)) ∧ ((h 137 27).toInt + (0) ≤ (h1 137 27).toInt ∧ (h1 137 27).toInt ≤ (h 137 27).toInt + (1)) ∧ ((h 137 82).toInt + (0) ≤ (h1 137 82).toInt ∧ (h1 137 82).toInt ≤ (h 137 82).toInt + (4)))) ([.ref (zB Z + 137), .int label, .int width] : List Value).toArray s 0 0 (pA (zB Z))) (F0 m 117 ls [.int y117_0, .int y117_1, .ref (zB Z + 137)]) := by
    intro x117_3 x117_4 x117_5 y117_0 y117_1 hJ H locs ls V I A hl g_117_4 g_117_5 gs_117_0 gd_117_56 gd_117_70 gd_117_58 gd_117_25 gd_117_27 gd_117_82 gd_117_83 gd_117_2 eL eA E9 S9 K9
    refine pk_v (pr_V M V (m_X12_keep l S I y117_1 y117_0 (K9.congr rfl rfl)) km_X12_keep (sm_this S) pC12 lkM_X12_390 rfl hl.1 rfl (Nat.le_of_ble_eq_true rfl) ⟨Nat.le_of_ble_eq_true rfl, Nat.le_of_ble_eq_true rfl⟩ ⟨Nat.le_of_ble_eq_true rfl, Nat.le_of_ble_eq_true rfl⟩ dX12_tree_117) V (fun Zr11 hr11 H locs pr11 _ _ V => ?_)
    obtain ⟨rfl, I, pA_r11, fr11_0⟩ := pr11
    have A := A.wk (l3 := [(137, 0), (137, 19), (137, 20), (137, 21), (137, 22), (137, 25), (137, 27), (137, 28), (143, 1000), (144, 1000), (171, 1000), (172, 1000), (173, 1000), (174, 1000), (175, 1000), (176, 1000), (177, 1000), (180, 1000), (137, 79), (181, 1000), (182, 1000), (184, 1000), (185, 1000)]) (by decide)
    have A := A.tr pA_r11 (by decide)
    have E9 : mE hr11 := E9.congr (pA_r11.get 137 2 (by decide)) (pA_r11.row 138 (by decide))
    have S9 : mS hr11 := S9.congr (pA_r11.get 137 56 (by decide)) (pA_r11.get 137 70 (by decide)) (pA_r11.get 137 58 (by decide)) (pA_r11.row 162 (by decide)) (pA_r11.row 163 (by decide)) (pA_r11.row 165 (by decide)) (pA_r11.row 166 (by decide))
    have K9 : mK hr11 := fr11_0
    have w_r11_r162 : hr11 162 = (hJ 162) := pA_r11.row 162 (by decide)
    have w_r11_r163 : hr11 163 = (hJ 163) := pA_r11.row 163 (by decide)
    have w_r11_r165 : hr11 165 = (hJ 165) := pA_r11.row 165 (by decide)
    have w_r11_r166 : hr11 166 = (hJ 166) := pA_r11.row 166 (by decide)
    have w_r11_56 : (hr11 137 56).toInt = (hJ 137 56).toInt := congrArg Int32.toInt (pA_r11.get 137 56 (by decide))
    have w_r11_70 : (hr11 137 70).toInt = (hJ 137 70).toInt := congrArg Int32.toInt (pA_r11.get 137 70 (by decide))
    have w_r11_58 : (hr11 137 58).toInt = (hJ 137 58).toInt := congrArg Int32.toInt (pA_r11.get 137 58 (by decide))
    have w_r11_25 : (hr11 137 25).toInt = (hJ 137 25).toInt := congrArg Int32.toInt (pA_r11.get 137 25 (by decide))
    have w_r11_27 : (hr11 137 27).toInt = (hJ 137 27).toInt := congrArg Int32.toInt (pA_r11.get 137 27 (by decide))
    have w_r11_82 : (hr11 137 82).toInt = (hJ 137 82).toInt := congrArg Int32.toInt (pA_r11.get 137 82 (by decide))
    have w_r11_83 : (hr11 137 83).toInt = (hJ 137 83).toInt := congrArg Int32.toInt (pA_r11.get 137 83 (by decide))
    have w_r11_2 : (hr11 137 2).toInt = (hJ 137 2).toInt := congrArg Int32.toInt (pA_r11.get 137 2 (by decide))
    exact J_120 x117_3 x117_4 x117_5 _ _ _ _ V I (A.wk (by decide)) (lv_sub hl [0, 1, 2, 3, 4, 5] rfl) (by omega) (by omega) (show (h 137 56).toInt + (0) ≤ (hr11 137 56).toInt ∧ (hr11 137 56).toInt ≤ (h 137 56).toInt + (0) by omega) (show (h 137 70).toInt + (0) ≤ (hr11 137 70).toInt ∧ (hr11 137 70).toInt ≤ (h 137 70).toInt + (0) by omega) (show (h 137 58).toInt + (0) ≤ (hr11 137 58).toInt ∧ (hr11 137 58).toInt ≤ (h 137 58).toInt + (0) by omega) (show (h 137 25).toInt + (1) ≤ (hr11 137 25).toInt ∧ (hr11 137 25).toInt ≤ (h 137 25).toInt + (1) by omega) (show (h 137 27).toInt + (1) ≤ (hr11 137 27).toInt ∧ (hr11 137 27).toInt ≤ (h 137 27).toInt + (1) by omega) (show (h 137 82).toInt + (0) ≤ (hr11 137 82).toInt ∧ (hr11 137 82).toInt ≤ (h 137 82).toInt + (0) by omega) (show (h 137 83).toInt + (0) ≤ (hr11 137 83).toInt ∧ (hr11 137 83).toInt ≤ (h 137 83).toInt + (0) by omega) (show (h 137 2).toInt + (0) ≤ (hr11 137 2).toInt ∧ (hr11 137 2).toInt ≤ (h 137 2).toInt + (0) by omega) (by omega) (by omega) (E9.congr rfl rfl) (S9.congr rfl rfl rfl rfl rfl rfl rfl) (K9.congr rfl rfl) 
  have J_100 : ∀ (x100_3 : Int32) (x100_4 : Int32) (x100_5 : Int32) (hJ : pH) (H : Heap) (locs : List Loc) (ls : Array Slot), pV Z hJ s.heap H locs → Iv Z hJ → agr [(137, 0), (137, 19), (137, 20), (137, 21), (137, 22), (137, 25), (137, 27), (137, 28), (143, 1000), (144, 1000), (171, 1000), (172, 1000), (173, 1000), (174, 1000), (175, 1000), (176, 1000), (177, 1000), (180, 1000)] h hJ → lv_has ls 7 [(0, .ref (zB Z + 137)), (1, .int label), (2, .int width), (3, .int x100_3), (4, .int x100_4), (5, .int x100_5)] → (0 ≤ x100_4.toInt ∧ x100_4.toInt ≤ 1) → (0 ≤ x100_5.toInt ∧ x100_5.toInt ≤ 1) → ((h 137 56).toInt + (0) ≤ (hJ 137 56).toInt ∧ (hJ 137 56).toInt ≤ (h 137 56).toInt + (0)) → ((h 137 70).toInt + (0) ≤ (hJ 137 70).toInt ∧ (hJ 137 70).toInt ≤ (h 137 70).toInt + (0)) → ((h 137 58).toInt + (0) ≤ (hJ 137 58).toInt ∧ (hJ 137 58).toInt ≤ (h 137 58).toInt + (0)) → ((h 137 25).toInt + (1) ≤ (hJ 137 25).toInt ∧ (hJ 137 25).toInt ≤ (h 137 25).toInt + (1)) → ((h 137 27).toInt + (1) ≤ (hJ 137 27).toInt ∧ (hJ 137 27).toInt ≤ (h 137 27).toInt + (1)) → ((h 137 82).toInt + (0) ≤ (hJ 137 82).toInt ∧ (hJ 137 82).toInt ≤ (h 137 82).toInt + (0)) → ((h 137 83).toInt + (0) ≤ (hJ 137 83).toInt ∧ (hJ 137 83).toInt ≤ (h 137 83).toInt + (0)) → ((h 137 2).toInt + (0) ≤ (hJ 137 2).toInt ∧ (hJ 137 2).toInt ≤ (h 137 2).toInt + (0)) → (0 ≤ label.toInt ∧ label.toInt ≤ 999 ∧ 1 ≤ width.toInt ∧ width.toInt ≤ 200) → (1 ≤ (h 137 70).toInt) → mE hJ → mS hJ → mK hJ → W p l e (pRm 4 0 0 101) s m ([.ref (zB Z + 137), .int label, .int width] : List Value).toArray below meth c H locs 0 0 (MQ below (pQi Z (fun r Z1 h1 => Z = Z1 ∧ Iv Z h1 ∧ agr [(137, 0), (137, 18), (137, 19), (137, 20), (137, 22), (137, 21), (137, 23), (137, 40), (137, 48), (137, 56), (137, 58), (137, 70), (137, 71), (153, 1000), (180, 1000), (172, 1000), (173, 1000), (171, 1000), (174, 1000), (175, 1000), (176, 1000), (177, 1000), (137, 25), (143, 1000), (137, 28), (137, 27), (144, 1000), (137, 82), (186, 1000), (137, 79), (181, 1000), (182, 1000), (184, 1000), (185, 1000), (162, 1000), (163, 1000), (165, 1000), (166, 1000), (164, 1000), (167, 1000), (170, 1000)] h h1 ∧ (r.toInt = 0 ∨ r.toInt = 1) ∧ (mE h1) ∧ (mS h1) ∧ (mK h1) ∧ ((h 137 25).toInt + (0) ≤ (h1 137 25).toInt ∧ (h1 137 25).toInt ≤ (h 137 25).toInt + (1)) ∧ ((h 137 27).toInt + (0) ≤ (h1 137 27).toInt ∧ (h1 137 27).toInt ≤ (h 137 27).toInt + (1)) ∧ ((h 137 82).toInt + (0) ≤ (h1 137 82).toInt ∧ (h1 137 82).toInt ≤ (h 137 82).toInt + (4)))) ([.ref (zB Z + 137), .int label, .int width] : List Value).toArray s 0 0 (pA (zB Z))) (F0 m 100 ls []) := by
    intro x100_3 x100_4 x100_5 hJ H locs ls V I A hl g_100_4 g_100_5 gd_100_56 gd_100_70 gd_100_58 gd_100_25 gd_100_27 gd_100_82 gd_100_83 gd_100_2 eL eA E9 S9 K9
    refine lv_iload hx hb dX12_tree_100 (lv_at hl 4 rfl) ?_
    refine lv_if_eq (tgt := 120) hx hb dX12_tree_102 (by decide) (fun c_102 => ?_) (fun c_102 => ?_)
    · skip
      have k_0 : (0 : Int32).toInt = 0 := rfl
      have c_102 := pi_eq.mp c_102
      exact J_120 x100_3 x100_4 x100_5 _ _ _ _ V I (A.wk (by decide)) (lv_sub hl [0, 1, 2, 3, 4, 5] rfl) (by omega) (by omega) (show (h 137 56).toInt + (0) ≤ (hJ 137 56).toInt ∧ (hJ 137 56).toInt ≤ (h 137 56).toInt + (0) by omega) (show (h 137 70).toInt + (0) ≤ (hJ 137 70).toInt ∧ (hJ 137 70).toInt ≤ (h 137 70).toInt + (0) by omega) (show (h 137 58).toInt + (0) ≤ (hJ 137 58).toInt ∧ (hJ 137 58).toInt ≤ (h 137 58).toInt + (0) by omega) (show (h 137 25).toInt + (1) ≤ (hJ 137 25).toInt ∧ (hJ 137 25).toInt ≤ (h 137 25).toInt + (1) by omega) (show (h 137 27).toInt + (1) ≤ (hJ 137 27).toInt ∧ (hJ 137 27).toInt ≤ (h 137 27).toInt + (1) by omega) (show (h 137 82).toInt + (0) ≤ (hJ 137 82).toInt ∧ (hJ 137 82).toInt ≤ (h 137 82).toInt + (0) by omega) (show (h 137 83).toInt + (0) ≤ (hJ 137 83).toInt ∧ (hJ 137 83).toInt ≤ (h 137 83).toInt + (0) by omega) (show (h 137 2).toInt + (0) ≤ (hJ 137 2).toInt ∧ (hJ 137 2).toInt ≤ (h 137 2).toInt + (0) by omega) (by omega) (by omega) (E9.congr rfl rfl) (S9.congr rfl rfl rfl rfl rfl rfl rfl) (K9.congr rfl rfl) 
    · skip
      have k_0 : (0 : Int32).toInt = 0 := rfl
      have c_102 := pi_ne c_102
      refine lv_aload_n hx hb dX12_tree_105 rfl (lv_at hl 0 rfl) ?_
      refine lv_iload_n hx hb dX12_tree_106 rfl (lv_at hl 3 rfl) ?_
      refine lv_iload hx hb dX12_tree_107 (lv_at hl 5 rfl) ?_
      refine lv_if_eq (tgt := 116) hx hb dX12_tree_109 (by decide) (fun c_109 => ?_) (fun c_109 => ?_)
      · skip
        have c_109 := pi_eq.mp c_109
        refine lv_iconst (v := 0) hx hb dX12_tree_116 (by decide) ?_
        exact J_117 x100_3 x100_4 x100_5 (0 : Int32) x100_3 _ _ _ _ V I (A.wk (by decide)) (lv_sub hl [0, 1, 2, 3, 4, 5] rfl) (by omega) (by omega) (by omega) (show (h 137 56).toInt + (0) ≤ (hJ 137 56).toInt ∧ (hJ 137 56).toInt ≤ (h 137 56).toInt + (0) by omega) (show (h 137 70).toInt + (0) ≤ (hJ 137 70).toInt ∧ (hJ 137 70).toInt ≤ (h 137 70).toInt + (0) by omega) (show (h 137 58).toInt + (0) ≤ (hJ 137 58).toInt ∧ (hJ 137 58).toInt ≤ (h 137 58).toInt + (0) by omega) (show (h 137 25).toInt + (1) ≤ (hJ 137 25).toInt ∧ (hJ 137 25).toInt ≤ (h 137 25).toInt + (1) by omega) (show (h 137 27).toInt + (1) ≤ (hJ 137 27).toInt ∧ (hJ 137 27).toInt ≤ (h 137 27).toInt + (1) by omega) (show (h 137 82).toInt + (0) ≤ (hJ 137 82).toInt ∧ (hJ 137 82).toInt ≤ (h 137 82).toInt + (0) by omega) (show (h 137 83).toInt + (0) ≤ (hJ 137 83).toInt ∧ (hJ 137 83).toInt ≤ (h 137 83).toInt + (0) by omega) (show (h 137 2).toInt + (0) ≤ (hJ 137 2).toInt ∧ (hJ 137 2).toInt ≤ (h 137 2).toInt + (0) by omega) (by omega) (by omega) (E9.congr rfl rfl) (S9.congr rfl rfl rfl rfl rfl rfl rfl) (K9.congr rfl rfl) 
      · skip
        have c_109 := pi_ne c_109
        refine lv_iconst (v := 1) hx hb dX12_tree_112 (by decide) ?_
        refine lv_goto (tgt := 117) hx hb dX12_tree_113 (by decide) ?_
        have k_1 : (1 : Int32).toInt = 1 := rfl
        exact J_117 x100_3 x100_4 x100_5 (1 : Int32) x100_3 _ _ _ _ V I (A.wk (by decide)) (lv_sub hl [0, 1, 2, 3, 4, 5] rfl) (by omega) (by omega) (by omega) (show (h 137 56).toInt + (0) ≤ (hJ 137 56).toInt ∧ (hJ 137 56).toInt ≤ (h 137 56).toInt + (0) by omega) (show (h 137 70).toInt + (0) ≤ (hJ 137 70).toInt ∧ (hJ 137 70).toInt ≤ (h 137 70).toInt + (0) by omega) (show (h 137 58).toInt + (0) ≤ (hJ 137 58).toInt ∧ (hJ 137 58).toInt ≤ (h 137 58).toInt + (0) by omega) (show (h 137 25).toInt + (1) ≤ (hJ 137 25).toInt ∧ (hJ 137 25).toInt ≤ (h 137 25).toInt + (1) by omega) (show (h 137 27).toInt + (1) ≤ (hJ 137 27).toInt ∧ (hJ 137 27).toInt ≤ (h 137 27).toInt + (1) by omega) (show (h 137 82).toInt + (0) ≤ (hJ 137 82).toInt ∧ (hJ 137 82).toInt ≤ (h 137 82).toInt + (0) by omega) (show (h 137 83).toInt + (0) ≤ (hJ 137 83).toInt ∧ (hJ 137 83).toInt ≤ (h 137 83).toInt + (0) by omega) (show (h 137 2).toInt + (0) ≤ (hJ 137 2).toInt ∧ (hJ 137 2).toInt ≤ (h 137 2).toInt + (0) by omega) (by omega) (by omega) (E9.congr rfl rfl) (S9.congr rfl rfl rfl rfl rfl rfl rfl) (K9.congr rfl rfl) 
  have J_98 : ∀ (x98_3 : Int32) (x98_4 : Int32) (x98_5 : Int32) (y98_0 : Int32) (hJ : pH) (H : Heap) (locs : List Loc) (ls : Array Slot), pV Z hJ s.heap H locs → Iv Z hJ → agr [(137, 0), (137, 19), (137, 20), (137, 21), (137, 22), (137, 25), (137, 27), (137, 28), (143, 1000), (144, 1000), (171, 1000), (172, 1000), (173, 1000), (174, 1000), (175, 1000), (176, 1000), (177, 1000), (180, 1000)] h hJ → lv_has ls 7 [(0, .ref (zB Z + 137)), (1, .int label), (2, .int width), (3, .int x98_3), (4, .int x98_4), (5, .int x98_5)] → (1 ≤ x98_4.toInt ∧ x98_4.toInt ≤ 1) → (0 ≤ x98_5.toInt ∧ x98_5.toInt ≤ 1) → (0 ≤ y98_0.toInt ∧ y98_0.toInt ≤ 1) → ((h 137 56).toInt + (0) ≤ (hJ 137 56).toInt ∧ (hJ 137 56).toInt ≤ (h 137 56).toInt + (0)) → ((h 137 70).toInt + (0) ≤ (hJ 137 70).toInt ∧ (hJ 137 70).toInt ≤ (h 137 70).toInt + (0)) → ((h 137 58).toInt + (0) ≤ (hJ 137 58).toInt ∧ (hJ 137 58).toInt ≤ (h 137 58).toInt + (0)) → ((h 137 25).toInt + (1) ≤ (hJ 137 25).toInt ∧ (hJ 137 25).toInt ≤ (h 137 25).toInt + (1)) → ((h 137 27).toInt + (1) ≤ (hJ 137 27).toInt ∧ (hJ 137 27).toInt ≤ (h 137 27).toInt + (1)) → ((h 137 82).toInt + (0) ≤ (hJ 137 82).toInt ∧ (hJ 137 82).toInt ≤ (h 137 82).toInt + (0)) → ((h 137 83).toInt + (0) ≤ (hJ 137 83).toInt ∧ (hJ 137 83).toInt ≤ (h 137 83).toInt + (0)) → ((h 137 2).toInt + (0) ≤ (hJ 137 2).toInt ∧ (hJ 137 2).toInt ≤ (h 137 2).toInt + (0)) → (0 ≤ label.toInt ∧ label.toInt ≤ 999 ∧ 1 ≤ width.toInt ∧ width.toInt ≤ 200) → (1 ≤ (h 137 70).toInt) → mE hJ → mS hJ → mK hJ → W p l e (pRm 4 0 0 101) s m ([.ref (zB Z + 137), .int label, .int width] : List Value).toArray below meth c H locs 0 0 (MQ below (pQi Z (fun r Z1 h1 => Z = Z1 ∧ Iv Z h1 ∧ agr [(137, 0), (137, 18), (137, 19), (137, 20), (137, 22), (137, 21), (137, 23), (137, 40), (137, 48), (137, 56), (137, 58), (137, 70), (137, 71), (153, 1000), (180, 1000), (172, 1000), (173, 1000), (171, 1000), (174, 1000), (175, 1000), (176, 1000), (177, 1000), (137, 25), (143, 1000), (137, 28), (137, 27), (144, 1000), (137, 82), (186, 1000), (137, 79), (181, 1000), (182, 1000), (184, 1000), (185, 1000), (162, 1000), (163, 1000), (165, 1000), (166, 1000), (164, 1000), (167, 1000), (170, 1000)] h h1 ∧ (r.toInt = 0 ∨ r.toInt = 1) ∧ (mE h1) ∧ (mS h1) ∧ (mK h1) ∧ ((h 137 25).toInt + (0) ≤ (h1 137 25).toInt ∧ (h1 137 25).toInt ≤ (h 137 25).toInt + (1)) ∧ ((h 137 27).toInt + (0) ≤ (h1 137 27).toInt ∧ (h1 137 27).toInt ≤ (h 137 27).toInt + (1)) ∧ ((h 137 82).toInt + (0) ≤ (h1 137 82).toInt ∧ (h1 137 82).toInt ≤ (h 137 82).toInt + (4)))) ([.ref (zB Z + 137), .int label, .int width] : List Value).toArray s 0 0 (pA (zB Z))) (F0 m 98 ls [.int y98_0]) := by
    intro x98_3 x98_4 x98_5 y98_0 hJ H locs ls V I A hl g_98_4 g_98_5 gs_98_0 gd_98_56 gd_98_70 gd_98_58 gd_98_25 gd_98_27 gd_98_82 gd_98_83 gd_98_2 eL eA E9 S9 K9
    refine lv_istore (lv' := [(5, .int y98_0), (0, .ref (zB Z + 137)), (1, .int label), (2, .int width), (3, .int x98_3), (4, .int x98_4)]) hx hb dX12_tree_98 hl (by decide) rfl (fun ls hl => ?_)
    exact J_100 x98_3 x98_4 y98_0 _ _ _ _ V I (A.wk (by decide)) (lv_sub hl [1, 2, 3, 4, 5, 0] rfl) (by omega) (by omega) (show (h 137 56).toInt + (0) ≤ (hJ 137 56).toInt ∧ (hJ 137 56).toInt ≤ (h 137 56).toInt + (0) by omega) (show (h 137 70).toInt + (0) ≤ (hJ 137 70).toInt ∧ (hJ 137 70).toInt ≤ (h 137 70).toInt + (0) by omega) (show (h 137 58).toInt + (0) ≤ (hJ 137 58).toInt ∧ (hJ 137 58).toInt ≤ (h 137 58).toInt + (0) by omega) (show (h 137 25).toInt + (1) ≤ (hJ 137 25).toInt ∧ (hJ 137 25).toInt ≤ (h 137 25).toInt + (1) by omega) (show (h 137 27).toInt + (1) ≤ (hJ 137 27).toInt ∧ (hJ 137 27).toInt ≤ (h 137 27).toInt + (1) by omega) (show (h 137 82).toInt + (0) ≤ (hJ 137 82).toInt ∧ (hJ 137 82).toInt ≤ (h 137 82).toInt + (0) by omega) (show (h 137 83).toInt + (0) ≤ (hJ 137 83).toInt ∧ (hJ 137 83).toInt ≤ (h 137 83).toInt + (0) by omega) (show (h 137 2).toInt + (0) ≤ (hJ 137 2).toInt ∧ (hJ 137 2).toInt ≤ (h 137 2).toInt + (0) by omega) (by omega) (by omega) (E9.congr rfl rfl) (S9.congr rfl rfl rfl rfl rfl rfl rfl) (K9.congr rfl rfl) 
  have J_97 : ∀ (x97_3 : Int32) (x97_4 : Int32) (x97_5 : Int32) (hJ : pH) (H : Heap) (locs : List Loc) (ls : Array Slot), pV Z hJ s.heap H locs → Iv Z hJ → agr [(137, 0), (137, 19), (137, 20), (137, 21), (137, 22), (137, 25), (137, 27), (137, 28), (143, 1000), (144, 1000), (171, 1000), (172, 1000), (173, 1000), (174, 1000), (175, 1000), (176, 1000), (177, 1000), (180, 1000)] h hJ → lv_has ls 7 [(0, .ref (zB Z + 137)), (1, .int label), (2, .int width), (3, .int x97_3), (4, .int x97_4), (5, .int x97_5)] → (1 ≤ x97_4.toInt ∧ x97_4.toInt ≤ 1) → (0 ≤ x97_5.toInt ∧ x97_5.toInt ≤ 1) → ((h 137 56).toInt + (0) ≤ (hJ 137 56).toInt ∧ (hJ 137 56).toInt ≤ (h 137 56).toInt + (0)) → ((h 137 70).toInt + (0) ≤ (hJ 137 70).toInt ∧ (hJ 137 70).toInt ≤ (h 137 70).toInt + (0)) → ((h 137 58).toInt + (0) ≤ (hJ 137 58).toInt ∧ (hJ 137 58).toInt ≤ (h 137 58).toInt + (0)) → ((h 137 25).toInt + (1) ≤ (hJ 137 25).toInt ∧ (hJ 137 25).toInt ≤ (h 137 25).toInt + (1)) → ((h 137 27).toInt + (1) ≤ (hJ 137 27).toInt ∧ (hJ 137 27).toInt ≤ (h 137 27).toInt + (1)) → ((h 137 82).toInt + (0) ≤ (hJ 137 82).toInt ∧ (hJ 137 82).toInt ≤ (h 137 82).toInt + (0)) → ((h 137 83).toInt + (0) ≤ (hJ 137 83).toInt ∧ (hJ 137 83).toInt ≤ (h 137 83).toInt + (0)) → ((h 137 2).toInt + (0) ≤ (hJ 137 2).toInt ∧ (hJ 137 2).toInt ≤ (h 137 2).toInt + (0)) → (0 ≤ label.toInt ∧ label.toInt ≤ 999 ∧ 1 ≤ width.toInt ∧ width.toInt ≤ 200) → (1 ≤ (h 137 70).toInt) → mE hJ → mS hJ → mK hJ → W p l e (pRm 4 0 0 101) s m ([.ref (zB Z + 137), .int label, .int width] : List Value).toArray below meth c H locs 0 0 (MQ below (pQi Z (fun r Z1 h1 => Z = Z1 ∧ Iv Z h1 ∧ agr [(137, 0), (137, 18), (137, 19), (137, 20), (137, 22), (137, 21), (137, 23), (137, 40), (137, 48), (137, 56), (137, 58), (137, 70), (137, 71), (153, 1000), (180, 1000), (172, 1000), (173, 1000), (171, 1000), (174, 1000), (175, 1000), (176, 1000), (177, 1000), (137, 25), (143, 1000), (137, 28), (137, 27), (144, 1000), (137, 82), (186, 1000), (137, 79), (181, 1000), (182, 1000), (184, 1000), (185, 1000), (162, 1000), (163, 1000), (165, 1000), (166, 1000), (164, 1000), (167, 1000), (170, 1000)] h h1 ∧ (r.toInt = 0 ∨ r.toInt = 1) ∧ (mE h1) ∧ (mS h1) ∧ (mK h1) ∧ ((h 137 25).toInt + (0) ≤ (h1 137 25).toInt ∧ (h1 137 25).toInt ≤ (h 137 25).toInt + (1)) ∧ ((h 137 27).toInt + (0) ≤ (h1 137 27).toInt ∧ (h1 137 27).toInt ≤ (h 137 27).toInt + (1)) ∧ ((h 137 82).toInt + (0) ≤ (h1 137 82).toInt ∧ (h1 137 82).toInt ≤ (h 137 82).toInt + (4)))) ([.ref (zB Z + 137), .int label, .int width] : List Value).toArray s 0 0 (pA (zB Z))) (F0 m 97 ls []) := by
    intro x97_3 x97_4 x97_5 hJ H locs ls V I A hl g_97_4 g_97_5 gd_97_56 gd_97_70 gd_97_58 gd_97_25 gd_97_27 gd_97_82 gd_97_83 gd_97_2 eL eA E9 S9 K9
    refine lv_iconst (v := 0) hx hb dX12_tree_97 (by decide) ?_
    have k_0 : (0 : Int32).toInt = 0 := rfl
    exact J_98 x97_3 x97_4 x97_5 (0 : Int32) _ _ _ _ V I (A.wk (by decide)) (lv_sub hl [0, 1, 2, 3, 4, 5] rfl) (by omega) (by omega) (by omega) (show (h 137 56).toInt + (0) ≤ (hJ 137 56).toInt ∧ (hJ 137 56).toInt ≤ (h 137 56).toInt + (0) by omega) (show (h 137 70).toInt + (0) ≤ (hJ 137 70).toInt ∧ (hJ 137 70).toInt ≤ (h 137 70).toInt + (0) by omega) (show (h 137 58).toInt + (0) ≤ (hJ 137 58).toInt ∧ (hJ 137 58).toInt ≤ (h 137 58).toInt + (0) by omega) (show (h 137 25).toInt + (1) ≤ (hJ 137 25).toInt ∧ (hJ 137 25).toInt ≤ (h 137 25).toInt + (1) by omega) (show (h 137 27).toInt + (1) ≤ (hJ 137 27).toInt ∧ (hJ 137 27).toInt ≤ (h 137 27).toInt + (1) by omega) (show (h 137 82).toInt + (0) ≤ (hJ 137 82).toInt ∧ (hJ 137 82).toInt ≤ (h 137 82).toInt + (0) by omega) (show (h 137 83).toInt + (0) ≤ (hJ 137 83).toInt ∧ (hJ 137 83).toInt ≤ (h 137 83).toInt + (0) by omega) (show (h 137 2).toInt + (0) ≤ (hJ 137 2).toInt ∧ (hJ 137 2).toInt ≤ (h 137 2).toInt + (0) by omega) (by omega) (by omega) (E9.congr rfl rfl) (S9.congr rfl rfl rfl rfl rfl rfl rfl) (K9.congr rfl rfl) 
  have J_93 : ∀ (x93_3 : Int32) (x93_4 : Int32) (x93_5 : Int32) (hJ : pH) (H : Heap) (locs : List Loc) (ls : Array Slot), pV Z hJ s.heap H locs → Iv Z hJ → agr [(137, 0), (137, 19), (137, 20), (137, 21), (137, 22), (137, 25), (137, 27), (137, 28), (143, 1000), (144, 1000), (171, 1000), (172, 1000), (173, 1000), (174, 1000), (175, 1000), (176, 1000), (177, 1000), (180, 1000)] h hJ → lv_has ls 7 [(0, .ref (zB Z + 137)), (1, .int label), (2, .int width), (3, .int x93_3), (4, .int x93_4), (5, .int x93_5)] → (1 ≤ x93_4.toInt ∧ x93_4.toInt ≤ 1) → (0 ≤ x93_5.toInt ∧ x93_5.toInt ≤ 0) → ((h 137 56).toInt + (0) ≤ (hJ 137 56).toInt ∧ (hJ 137 56).toInt ≤ (h 137 56).toInt + (0)) → ((h 137 70).toInt + (0) ≤ (hJ 137 70).toInt ∧ (hJ 137 70).toInt ≤ (h 137 70).toInt + (0)) → ((h 137 58).toInt + (0) ≤ (hJ 137 58).toInt ∧ (hJ 137 58).toInt ≤ (h 137 58).toInt + (0)) → ((h 137 25).toInt + (1) ≤ (hJ 137 25).toInt ∧ (hJ 137 25).toInt ≤ (h 137 25).toInt + (1)) → ((h 137 27).toInt + (1) ≤ (hJ 137 27).toInt ∧ (hJ 137 27).toInt ≤ (h 137 27).toInt + (1)) → ((h 137 82).toInt + (0) ≤ (hJ 137 82).toInt ∧ (hJ 137 82).toInt ≤ (h 137 82).toInt + (0)) → ((h 137 83).toInt + (0) ≤ (hJ 137 83).toInt ∧ (hJ 137 83).toInt ≤ (h 137 83).toInt + (0)) → ((h 137 2).toInt + (0) ≤ (hJ 137 2).toInt ∧ (hJ 137 2).toInt ≤ (h 137 2).toInt + (0)) → (0 ≤ label.toInt ∧ label.toInt ≤ 999 ∧ 1 ≤ width.toInt ∧ width.toInt ≤ 200) → (1 ≤ (h 137 70).toInt) → mE hJ → mS hJ → mK hJ → W p l e (pRm 4 0 0 101) s m ([.ref (zB Z + 137), .int label, .int width] : List Value).toArray below meth c H locs 0 0 (MQ below (pQi Z (fun r Z1 h1 => Z = Z1 ∧ Iv Z h1 ∧ agr [(137, 0), (137, 18), (137, 19), (137, 20), (137, 22), (137, 21), (137, 23), (137, 40), (137, 48), (137, 56), (137, 58), (137, 70), (137, 71), (153, 1000), (180, 1000), (172, 1000), (173, 1000), (171, 1000), (174, 1000), (175, 1000), (176, 1000), (177, 1000), (137, 25), (143, 1000), (137, 28), (137, 27), (144, 1000), (137, 82), (186, 1000), (137, 79), (181, 1000), (182, 1000), (184, 1000), (185, 1000), (162, 1000), (163, 1000), (165, 1000), (166, 1000), (164, 1000), (167, 1000), (170, 1000)] h h1 ∧ (r.toInt = 0 ∨ r.toInt = 1) ∧ (mE h1) ∧ (mS h1) ∧ (mK h1) ∧ ((h 137 25).toInt + (0) ≤ (h1 137 25).toInt ∧ (h1 137 25).toInt ≤ (h 137 25).toInt + (1)) ∧ ((h 137 27).toInt + (0) ≤ (h1 137 27).toInt ∧ (h1 137 27).toInt ≤ (h 137 27).toInt + (1)) ∧ ((h 137 82).toInt + (0) ≤ (h1 137 82).toInt ∧ (h1 137 82).toInt ≤ (h 137 82).toInt + (4)))) ([.ref (zB Z + 137), .int label, .int width] : List Value).toArray s 0 0 (pA (zB Z))) (F0 m 93 ls []) := by
    intro x93_3 x93_4 x93_5 hJ H locs ls V I A hl g_93_4 g_93_5 gd_93_56 gd_93_70 gd_93_58 gd_93_25 gd_93_27 gd_93_82 gd_93_83 gd_93_2 eL eA E9 S9 K9
    refine lv_iconst (v := 1) hx hb dX12_tree_93 (by decide) ?_
    refine lv_goto (tgt := 98) hx hb dX12_tree_94 (by decide) ?_
    have k_1 : (1 : Int32).toInt = 1 := rfl
    exact J_98 x93_3 x93_4 x93_5 (1 : Int32) _ _ _ _ V I (A.wk (by decide)) (lv_sub hl [0, 1, 2, 3, 4, 5] rfl) (by omega) (by omega) (by omega) (show (h 137 56).toInt + (0) ≤ (hJ 137 56).toInt ∧ (hJ 137 56).toInt ≤ (h 137 56).toInt + (0) by omega) (show (h 137 70).toInt + (0) ≤ (hJ 137 70).toInt ∧ (hJ 137 70).toInt ≤ (h 137 70).toInt + (0) by omega) (show (h 137 58).toInt + (0) ≤ (hJ 137 58).toInt ∧ (hJ 137 58).toInt ≤ (h 137 58).toInt + (0) by omega) (show (h 137 25).toInt + (1) ≤ (hJ 137 25).toInt ∧ (hJ 137 25).toInt ≤ (h 137 25).toInt + (1) by omega) (show (h 137 27).toInt + (1) ≤ (hJ 137 27).toInt ∧ (hJ 137 27).toInt ≤ (h 137 27).toInt + (1) by omega) (show (h 137 82).toInt + (0) ≤ (hJ 137 82).toInt ∧ (hJ 137 82).toInt ≤ (h 137 82).toInt + (0) by omega) (show (h 137 83).toInt + (0) ≤ (hJ 137 83).toInt ∧ (hJ 137 83).toInt ≤ (h 137 83).toInt + (0) by omega) (show (h 137 2).toInt + (0) ≤ (hJ 137 2).toInt ∧ (hJ 137 2).toInt ≤ (h 137 2).toInt + (0) by omega) (by omega) (by omega) (E9.congr rfl rfl) (S9.congr rfl rfl rfl rfl rfl rfl rfl) (K9.congr rfl rfl) 
  have J_63 : ∀ (x63_3 : Int32) (x63_4 : Int32) (y63_0 : Int32) (hJ : pH) (H : Heap) (locs : List Loc) (ls : Array Slot), pV Z hJ s.heap H locs → Iv Z hJ → agr [(137, 0), (137, 19), (137, 20), (137, 21), (137, 22), (137, 25), (137, 27), (137, 28), (143, 1000), (144, 1000), (171, 1000), (172, 1000), (173, 1000), (174, 1000), (175, 1000), (176, 1000), (177, 1000), (180, 1000)] h hJ → lv_has ls 7 [(0, .ref (zB Z + 137)), (1, .int label), (2, .int width), (3, .int x63_3), (4, .int x63_4)] → (0 ≤ x63_4.toInt ∧ x63_4.toInt ≤ 1) → (0 ≤ y63_0.toInt ∧ y63_0.toInt ≤ 1) → ((h 137 56).toInt + (0) ≤ (hJ 137 56).toInt ∧ (hJ 137 56).toInt ≤ (h 137 56).toInt + (0)) → ((h 137 70).toInt + (0) ≤ (hJ 137 70).toInt ∧ (hJ 137 70).toInt ≤ (h 137 70).toInt + (0)) → ((h 137 58).toInt + (0) ≤ (hJ 137 58).toInt ∧ (hJ 137 58).toInt ≤ (h 137 58).toInt + (0)) → ((h 137 25).toInt + (1) ≤ (hJ 137 25).toInt ∧ (hJ 137 25).toInt ≤ (h 137 25).toInt + (1)) → ((h 137 27).toInt + (1) ≤ (hJ 137 27).toInt ∧ (hJ 137 27).toInt ≤ (h 137 27).toInt + (1)) → ((h 137 82).toInt + (0) ≤ (hJ 137 82).toInt ∧ (hJ 137 82).toInt ≤ (h 137 82).toInt + (0)) → ((h 137 83).toInt + (0) ≤ (hJ 137 83).toInt ∧ (hJ 137 83).toInt ≤ (h 137 83).toInt + (0)) → ((h 137 2).toInt + (0) ≤ (hJ 137 2).toInt ∧ (hJ 137 2).toInt ≤ (h 137 2).toInt + (0)) → (0 ≤ label.toInt ∧ label.toInt ≤ 999 ∧ 1 ≤ width.toInt ∧ width.toInt ≤ 200) → (1 ≤ (h 137 70).toInt) → mE hJ → mS hJ → mK hJ → W p l e (pRm 4 0 0 101) s m ([.ref (zB Z + 137), .int label, .int width] : List Value).toArray below meth c H locs 0 0 (MQ below (pQi Z (fun r Z1 h1 => Z = Z1 ∧ Iv Z h1 ∧ agr [(137, 0), (137, 18), (137, 19), (137, 20), (137, 22), (137, 21), (137, 23), (137, 40), (137, 48), (137, 56), (137, 58), (137, 70), (137, 71), (153, 1000), (180, 1000), (172, 1000), (173, 1000), (171, 1000), (174, 1000), (175, 1000), (176, 1000), (177, 1000), (137, 25), (143, 1000), (137, 28), (137, 27), (144, 1000), (137, 82), (186, 1000), (137, 79), (181, 1000), (182, 1000), (184, 1000), (185, 1000), (162, 1000), (163, 1000), (165, 1000), (166, 1000), (164, 1000), (167, 1000), (170, 1000)] h h1 ∧ (r.toInt = 0 ∨ r.toInt = 1) ∧ (mE h1) ∧ (mS h1) ∧ (mK h1) ∧ ((h 137 25).toInt + (0) ≤ (h1 137 25).toInt ∧ (h1 137 25).toInt ≤ (h 137 25).toInt + (1)) ∧ ((h 137 27).toInt + (0) ≤ (h1 137 27).toInt ∧ (h1 137 27).toInt ≤ (h 137 27).toInt + (1)) ∧ ((h 137 82).toInt + (0) ≤ (h1 137 82).toInt ∧ (h1 137 82).toInt ≤ (h 137 82).toInt + (4)))) ([.ref (zB Z + 137), .int label, .int width] : List Value).toArray s 0 0 (pA (zB Z))) (F0 m 63 ls [.int y63_0]) := by
    intro x63_3 x63_4 y63_0 hJ H locs ls V I A hl g_63_4 gs_63_0 gd_63_56 gd_63_70 gd_63_58 gd_63_25 gd_63_27 gd_63_82 gd_63_83 gd_63_2 eL eA E9 S9 K9
    refine lv_istore (lv' := [(5, .int y63_0), (0, .ref (zB Z + 137)), (1, .int label), (2, .int width), (3, .int x63_3), (4, .int x63_4)]) hx hb dX12_tree_63 hl (by decide) rfl (fun ls hl => ?_)
    refine lv_iload hx hb dX12_tree_65 (lv_at hl 5 rfl) ?_
    refine lv_if_eq (tgt := 100) hx hb dX12_tree_67 (by decide) (fun c_67 => ?_) (fun c_67 => ?_)
    · skip
      have k_0 : (0 : Int32).toInt = 0 := rfl
      have c_67 := pi_eq.mp c_67
      exact J_100 x63_3 x63_4 y63_0 _ _ _ _ V I (A.wk (by decide)) (lv_sub hl [1, 2, 3, 4, 5, 0] rfl) (by omega) (by omega) (show (h 137 56).toInt + (0) ≤ (hJ 137 56).toInt ∧ (hJ 137 56).toInt ≤ (h 137 56).toInt + (0) by omega) (show (h 137 70).toInt + (0) ≤ (hJ 137 70).toInt ∧ (hJ 137 70).toInt ≤ (h 137 70).toInt + (0) by omega) (show (h 137 58).toInt + (0) ≤ (hJ 137 58).toInt ∧ (hJ 137 58).toInt ≤ (h 137 58).toInt + (0) by omega) (show (h 137 25).toInt + (1) ≤ (hJ 137 25).toInt ∧ (hJ 137 25).toInt ≤ (h 137 25).toInt + (1) by omega) (show (h 137 27).toInt + (1) ≤ (hJ 137 27).toInt ∧ (hJ 137 27).toInt ≤ (h 137 27).toInt + (1) by omega) (show (h 137 82).toInt + (0) ≤ (hJ 137 82).toInt ∧ (hJ 137 82).toInt ≤ (h 137 82).toInt + (0) by omega) (show (h 137 83).toInt + (0) ≤ (hJ 137 83).toInt ∧ (hJ 137 83).toInt ≤ (h 137 83).toInt + (0) by omega) (show (h 137 2).toInt + (0) ≤ (hJ 137 2).toInt ∧ (hJ 137 2).toInt ≤ (h 137 2).toInt + (0) by omega) (by omega) (by omega) (E9.congr rfl rfl) (S9.congr rfl rfl rfl rfl rfl rfl rfl) (K9.congr rfl rfl) 
    · skip
      have k_0 : (0 : Int32).toInt = 0 := rfl
      have c_67 := pi_ne c_67
      refine lv_iload hx hb dX12_tree_70 (lv_at hl 0 rfl) ?_
      refine lv_if_ne (tgt := 97) hx hb dX12_tree_72 (by decide) (fun c_72 => ?_) (fun c_72 => ?_)
      · skip
        have c_72 := pi_ne c_72
        exact J_97 x63_3 x63_4 y63_0 _ _ _ _ V I (A.wk (by decide)) (lv_sub hl [1, 2, 3, 4, 5, 0] rfl) (by omega) (by omega) (show (h 137 56).toInt + (0) ≤ (hJ 137 56).toInt ∧ (hJ 137 56).toInt ≤ (h 137 56).toInt + (0) by omega) (show (h 137 70).toInt + (0) ≤ (hJ 137 70).toInt ∧ (hJ 137 70).toInt ≤ (h 137 70).toInt + (0) by omega) (show (h 137 58).toInt + (0) ≤ (hJ 137 58).toInt ∧ (hJ 137 58).toInt ≤ (h 137 58).toInt + (0) by omega) (show (h 137 25).toInt + (1) ≤ (hJ 137 25).toInt ∧ (hJ 137 25).toInt ≤ (h 137 25).toInt + (1) by omega) (show (h 137 27).toInt + (1) ≤ (hJ 137 27).toInt ∧ (hJ 137 27).toInt ≤ (h 137 27).toInt + (1) by omega) (show (h 137 82).toInt + (0) ≤ (hJ 137 82).toInt ∧ (hJ 137 82).toInt ≤ (h 137 82).toInt + (0) by omega) (show (h 137 83).toInt + (0) ≤ (hJ 137 83).toInt ∧ (hJ 137 83).toInt ≤ (h 137 83).toInt + (0) by omega) (show (h 137 2).toInt + (0) ≤ (hJ 137 2).toInt ∧ (hJ 137 2).toInt ≤ (h 137 2).toInt + (0) by omega) (by omega) (by omega) (E9.congr rfl rfl) (S9.congr rfl rfl rfl rfl rfl rfl rfl) (K9.congr rfl rfl) 
      · skip
        have c_72 := pi_eq.mp c_72
        refine lv_aload_n hx hb dX12_tree_75 rfl (lv_at hl 1 rfl) ?_
        refine lv_iload_n hx hb dX12_tree_76 rfl (lv_at hl 4 rfl) ?_
        refine pk_i (pr_V M V (m_X12_find l S I x63_3 ) km_X12_find (sm_this S) pC12 lkM_X12_365 rfl hl.1 rfl (Nat.le_of_ble_eq_true rfl) ⟨Nat.le_of_ble_eq_true rfl, Nat.le_of_ble_eq_true rfl⟩ ⟨Nat.le_of_ble_eq_true rfl, Nat.le_of_ble_eq_true rfl⟩ dX12_tree_77) V (fun r12 Zr12 hr12 H locs pr12 _ _ V => ?_)
        obtain ⟨rfl, I, pA_r12, fr12_0, fr12_1⟩ := pr12
        have A := A.tr pA_r12 (by decide)
        have E9 : mE hr12 := E9.congr (pA_r12.get 137 2 (by decide)) (pA_r12.row 138 (by decide))
        have S9 : mS hr12 := S9.congr (pA_r12.get 137 56 (by decide)) (pA_r12.get 137 70 (by decide)) (pA_r12.get 137 58 (by decide)) (pA_r12.row 162 (by decide)) (pA_r12.row 163 (by decide)) (pA_r12.row 165 (by decide)) (pA_r12.row 166 (by decide))
        have K9 : mK hr12 := K9.congr (pA_r12.row 185 (by decide)) (pA_r12.row 184 (by decide))
        have w_r12_r162 : hr12 162 = (hJ 162) := pA_r12.row 162 (by decide)
        have w_r12_r163 : hr12 163 = (hJ 163) := pA_r12.row 163 (by decide)
        have w_r12_r165 : hr12 165 = (hJ 165) := pA_r12.row 165 (by decide)
        have w_r12_r166 : hr12 166 = (hJ 166) := pA_r12.row 166 (by decide)
        have w_r12_56 : (hr12 137 56).toInt = (hJ 137 56).toInt := congrArg Int32.toInt (pA_r12.get 137 56 (by decide))
        have w_r12_70 : (hr12 137 70).toInt = (hJ 137 70).toInt := congrArg Int32.toInt (pA_r12.get 137 70 (by decide))
        have w_r12_58 : (hr12 137 58).toInt = (hJ 137 58).toInt := congrArg Int32.toInt (pA_r12.get 137 58 (by decide))
        have w_r12_25 : (hr12 137 25).toInt = (hJ 137 25).toInt := congrArg Int32.toInt (pA_r12.get 137 25 (by decide))
        have w_r12_27 : (hr12 137 27).toInt = (hJ 137 27).toInt := congrArg Int32.toInt (pA_r12.get 137 27 (by decide))
        have w_r12_82 : (hr12 137 82).toInt = (hJ 137 82).toInt := congrArg Int32.toInt (pA_r12.get 137 82 (by decide))
        have w_r12_83 : (hr12 137 83).toInt = (hJ 137 83).toInt := congrArg Int32.toInt (pA_r12.get 137 83 (by decide))
        have w_r12_2 : (hr12 137 2).toInt = (hJ 137 2).toInt := congrArg Int32.toInt (pA_r12.get 137 2 (by decide))
        refine lv_iconst (v := (-1)) hx hb dX12_tree_80 (by decide) ?_
        refine lv_icmp_ne (tgt := 93) hx hb dX12_tree_81 (by decide) (fun c_81 => ?_) (fun c_81 => ?_)
        · skip
          have k_m1 : (-1 : Int32).toInt = -1 := rfl
          have c_81 := pi_ne c_81
          exact J_93 x63_3 x63_4 y63_0 _ _ _ _ V I (A.wk (by decide)) (lv_sub hl [1, 2, 3, 4, 5, 0] rfl) (by omega) (by omega) (show (h 137 56).toInt + (0) ≤ (hr12 137 56).toInt ∧ (hr12 137 56).toInt ≤ (h 137 56).toInt + (0) by omega) (show (h 137 70).toInt + (0) ≤ (hr12 137 70).toInt ∧ (hr12 137 70).toInt ≤ (h 137 70).toInt + (0) by omega) (show (h 137 58).toInt + (0) ≤ (hr12 137 58).toInt ∧ (hr12 137 58).toInt ≤ (h 137 58).toInt + (0) by omega) (show (h 137 25).toInt + (1) ≤ (hr12 137 25).toInt ∧ (hr12 137 25).toInt ≤ (h 137 25).toInt + (1) by omega) (show (h 137 27).toInt + (1) ≤ (hr12 137 27).toInt ∧ (hr12 137 27).toInt ≤ (h 137 27).toInt + (1) by omega) (show (h 137 82).toInt + (0) ≤ (hr12 137 82).toInt ∧ (hr12 137 82).toInt ≤ (h 137 82).toInt + (0) by omega) (show (h 137 83).toInt + (0) ≤ (hr12 137 83).toInt ∧ (hr12 137 83).toInt ≤ (h 137 83).toInt + (0) by omega) (show (h 137 2).toInt + (0) ≤ (hr12 137 2).toInt ∧ (hr12 137 2).toInt ≤ (h 137 2).toInt + (0) by omega) (by omega) (by omega) (E9.congr rfl rfl) (S9.congr rfl rfl rfl rfl rfl rfl rfl) (K9.congr rfl rfl) 
        · skip
          have k_m1 : (-1 : Int32).toInt = -1 := rfl
          have c_81 := pi_eq.mp c_81
          refine lv_aload_n hx hb dX12_tree_84 rfl (lv_at hl 1 rfl) ?_
          refine pg_i M V 12 79 (sm_this S) pC12 fk12_79 lkF_X12_362 dX12_tree_85 ?_
          refine lv_topi (fun v13 ev13 => ?_)
          have tv13 : 0 ≤ v13.toInt ∧ v13.toInt ≤ 40 := by rw [ev13]; exact I.get (sm_this S) 79
          refine lv_bipush (v := 40) hx hb dX12_tree_88 (by decide) ?_
          refine lv_icmp_ge (tgt := 97) hx hb dX12_tree_90 (by decide) (fun c_90 => ?_) (fun c_90 => ?_)
          · skip
            have k_40 : (40 : Int32).toInt = 40 := rfl
            have c_90 := pi_le.mp c_90
            exact J_97 x63_3 x63_4 y63_0 _ _ _ _ V I (A.wk (by decide)) (lv_sub hl [1, 2, 3, 4, 5, 0] rfl) (by omega) (by omega) (show (h 137 56).toInt + (0) ≤ (hr12 137 56).toInt ∧ (hr12 137 56).toInt ≤ (h 137 56).toInt + (0) by omega) (show (h 137 70).toInt + (0) ≤ (hr12 137 70).toInt ∧ (hr12 137 70).toInt ≤ (h 137 70).toInt + (0) by omega) (show (h 137 58).toInt + (0) ≤ (hr12 137 58).toInt ∧ (hr12 137 58).toInt ≤ (h 137 58).toInt + (0) by omega) (show (h 137 25).toInt + (1) ≤ (hr12 137 25).toInt ∧ (hr12 137 25).toInt ≤ (h 137 25).toInt + (1) by omega) (show (h 137 27).toInt + (1) ≤ (hr12 137 27).toInt ∧ (hr12 137 27).toInt ≤ (h 137 27).toInt + (1) by omega) (show (h 137 82).toInt + (0) ≤ (hr12 137 82).toInt ∧ (hr12 137 82).toInt ≤ (h 137 82).toInt + (0) by omega) (show (h 137 83).toInt + (0) ≤ (hr12 137 83).toInt ∧ (hr12 137 83).toInt ≤ (h 137 83).toInt + (0) by omega) (show (h 137 2).toInt + (0) ≤ (hr12 137 2).toInt ∧ (hr12 137 2).toInt ≤ (h 137 2).toInt + (0) by omega) (by omega) (by omega) (E9.congr rfl rfl) (S9.congr rfl rfl rfl rfl rfl rfl rfl) (K9.congr rfl rfl) 
          · skip
            have k_40 : (40 : Int32).toInt = 40 := rfl
            have c_90 := pi_le' c_90
            exact J_93 x63_3 x63_4 y63_0 _ _ _ _ V I (A.wk (by decide)) (lv_sub hl [1, 2, 3, 4, 5, 0] rfl) (by omega) (by omega) (show (h 137 56).toInt + (0) ≤ (hr12 137 56).toInt ∧ (hr12 137 56).toInt ≤ (h 137 56).toInt + (0) by omega) (show (h 137 70).toInt + (0) ≤ (hr12 137 70).toInt ∧ (hr12 137 70).toInt ≤ (h 137 70).toInt + (0) by omega) (show (h 137 58).toInt + (0) ≤ (hr12 137 58).toInt ∧ (hr12 137 58).toInt ≤ (h 137 58).toInt + (0) by omega) (show (h 137 25).toInt + (1) ≤ (hr12 137 25).toInt ∧ (hr12 137 25).toInt ≤ (h 137 25).toInt + (1) by omega) (show (h 137 27).toInt + (1) ≤ (hr12 137 27).toInt ∧ (hr12 137 27).toInt ≤ (h 137 27).toInt + (1) by omega) (show (h 137 82).toInt + (0) ≤ (hr12 137 82).toInt ∧ (hr12 137 82).toInt ≤ (h 137 82).toInt + (0) by omega) (show (h 137 83).toInt + (0) ≤ (hr12 137 83).toInt ∧ (hr12 137 83).toInt ≤ (h 137 83).toInt + (0) by omega) (show (h 137 2).toInt + (0) ≤ (hr12 137 2).toInt ∧ (hr12 137 2).toInt ≤ (h 137 2).toInt + (0) by omega) (by omega) (by omega) (E9.congr rfl rfl) (S9.congr rfl rfl rfl rfl rfl rfl rfl) (K9.congr rfl rfl) 
  have J_26 : ∀ (y26_0 : Int32) (hJ : pH) (H : Heap) (locs : List Loc) (ls : Array Slot), pV Z hJ s.heap H locs → Iv Z hJ → agr [] h hJ → lv_has ls 7 [(0, .ref (zB Z + 137)), (1, .int label), (2, .int width)] → (0 ≤ y26_0.toInt ∧ y26_0.toInt ≤ 1) → ((h 137 56).toInt + (0) ≤ (hJ 137 56).toInt ∧ (hJ 137 56).toInt ≤ (h 137 56).toInt + (0)) → ((h 137 70).toInt + (0) ≤ (hJ 137 70).toInt ∧ (hJ 137 70).toInt ≤ (h 137 70).toInt + (0)) → ((h 137 58).toInt + (0) ≤ (hJ 137 58).toInt ∧ (hJ 137 58).toInt ≤ (h 137 58).toInt + (0)) → ((h 137 25).toInt + (0) ≤ (hJ 137 25).toInt ∧ (hJ 137 25).toInt ≤ (h 137 25).toInt + (0)) → ((h 137 27).toInt + (0) ≤ (hJ 137 27).toInt ∧ (hJ 137 27).toInt ≤ (h 137 27).toInt + (0)) → ((h 137 82).toInt + (0) ≤ (hJ 137 82).toInt ∧ (hJ 137 82).toInt ≤ (h 137 82).toInt + (0)) → ((h 137 83).toInt + (0) ≤ (hJ 137 83).toInt ∧ (hJ 137 83).toInt ≤ (h 137 83).toInt + (0)) → ((h 137 2).toInt + (0) ≤ (hJ 137 2).toInt ∧ (hJ 137 2).toInt ≤ (h 137 2).toInt + (0)) → (y26_0.toInt = 1 → 0 ≤ label.toInt ∧ label.toInt ≤ 999 ∧ 1 ≤ width.toInt ∧ width.toInt ≤ 200) → mE hJ → mS hJ → mK hJ → W p l e (pRm 4 0 0 101) s m ([.ref (zB Z + 137), .int label, .int width] : List Value).toArray below meth c H locs 0 0 (MQ below (pQi Z (fun r Z1 h1 => Z = Z1 ∧ Iv Z h1 ∧ agr [(137, 0), (137, 18), (137, 19), (137, 20), (137, 22), (137, 21), (137, 23), (137, 40), (137, 48), (137, 56), (137, 58), (137, 70), (137, 71), (153, 1000), (180, 1000), (172, 1000), (173, 1000), (171, 1000), (174, 1000), (175, 1000), (176, 1000), (177, 1000), (137, 25), (143, 1000), (137, 28), (137, 27), (144, 1000), (137, 82), (186, 1000), (137, 79), (181, 1000), (182, 1000), (184, 1000), (185, 1000), (162, 1000), (163, 1000), (165, 1000), (166, 1000), (164, 1000), (167, 1000), (170, 1000)] h h1 ∧ (r.toInt = 0 ∨ r.toInt = 1) ∧ (mE h1) ∧ (mS h1) ∧ (mK h1) ∧ ((h 137 25).toInt + (0) ≤ (h1 137 25).toInt ∧ (h1 137 25).toInt ≤ (h 137 25).toInt + (1)) ∧ ((h 137 27).toInt + (0) ≤ (h1 137 27).toInt ∧ (h1 137 27).toInt ≤ (h 137 27).toInt + (1)) ∧ ((h 137 82).toInt + (0) ≤ (h1 137 82).toInt ∧ (h1 137 82).toInt ≤ (h 137 82).toInt + (4)))) ([.ref (zB Z + 137), .int label, .int width] : List Value).toArray s 0 0 (pA (zB Z))) (F0 m 26 ls [.int y26_0, .ref (zB Z + 137)]) := by
    intro y26_0 hJ H locs ls V I A hl gs_26_0 gd_26_56 gd_26_70 gd_26_58 gd_26_25 gd_26_27 gd_26_82 gd_26_83 gd_26_2 eb E9 S9 K9
    refine pk_i (pr_V M V (m_X12_bars l S I y26_0 (by omega)) km_X12_bars (sm_this S) pC12 lkM_X12_371 rfl hl.1 rfl (Nat.le_of_ble_eq_true rfl) ⟨Nat.le_of_ble_eq_true rfl, Nat.le_of_ble_eq_true rfl⟩ ⟨Nat.le_of_ble_eq_true rfl, Nat.le_of_ble_eq_true rfl⟩ dX12_tree_26) V (fun r14 Zr14 hr14 H locs pr14 _ _ V => ?_)
    obtain ⟨rfl, I, pA_r14, fr14_0, fr14_1, fr14_2⟩ := pr14
    refine lv_if_eq (tgt := 34) hx hb dX12_tree_29 (by decide) (fun c_29 => ?_) (fun c_29 => ?_)
    · skip
      have k_0 : (0 : Int32).toInt = 0 := rfl
      have c_29 := pi_eq.mp c_29
      have b_r14 := fr14_1 (by omega)
      have pB_r14 := b_r14.2.2
      have g_r14 := b_r14.1
      have a_r14 : 1 ≤ (hJ 137 70).toInt := b_r14.2.1
      have A := A.wk (l3 := [(137, 0)]) (by decide)
      have A := A.tr pB_r14 (by decide)
      have E9 : mE hr14 := E9.congr (pB_r14.get 137 2 (by decide)) (pB_r14.row 138 (by decide))
      have S9 : mS hr14 := S9.congr (pB_r14.get 137 56 (by decide)) (pB_r14.get 137 70 (by decide)) (pB_r14.get 137 58 (by decide)) (pB_r14.row 162 (by decide)) (pB_r14.row 163 (by decide)) (pB_r14.row 165 (by decide)) (pB_r14.row 166 (by decide))
      have K9 : mK hr14 := K9.congr (pB_r14.row 185 (by decide)) (pB_r14.row 184 (by decide))
      have w_r14_r162 : hr14 162 = (hJ 162) := pB_r14.row 162 (by decide)
      have w_r14_r163 : hr14 163 = (hJ 163) := pB_r14.row 163 (by decide)
      have w_r14_r165 : hr14 165 = (hJ 165) := pB_r14.row 165 (by decide)
      have w_r14_r166 : hr14 166 = (hJ 166) := pB_r14.row 166 (by decide)
      have w_r14_56 : (hr14 137 56).toInt = (hJ 137 56).toInt := congrArg Int32.toInt (pB_r14.get 137 56 (by decide))
      have w_r14_70 : (hr14 137 70).toInt = (hJ 137 70).toInt := congrArg Int32.toInt (pB_r14.get 137 70 (by decide))
      have w_r14_58 : (hr14 137 58).toInt = (hJ 137 58).toInt := congrArg Int32.toInt (pB_r14.get 137 58 (by decide))
      have w_r14_25 : (hr14 137 25).toInt = (hJ 137 25).toInt := congrArg Int32.toInt (pB_r14.get 137 25 (by decide))
      have w_r14_27 : (hr14 137 27).toInt = (hJ 137 27).toInt := congrArg Int32.toInt (pB_r14.get 137 27 (by decide))
      have w_r14_82 : (hr14 137 82).toInt = (hJ 137 82).toInt := congrArg Int32.toInt (pB_r14.get 137 82 (by decide))
      have w_r14_83 : (hr14 137 83).toInt = (hJ 137 83).toInt := congrArg Int32.toInt (pB_r14.get 137 83 (by decide))
      have w_r14_2 : (hr14 137 2).toInt = (hJ 137 2).toInt := congrArg Int32.toInt (pB_r14.get 137 2 (by decide))
      refine lv_aload_n hx hb dX12_tree_34 rfl (lv_at hl 0 rfl) ?_
      refine lv_iload_n hx hb dX12_tree_35 rfl (lv_at hl 1 rfl) ?_
      refine lv_iload_n hx hb dX12_tree_36 rfl (lv_at hl 2 rfl) ?_
      refine lv_bipush (v := 12) hx hb dX12_tree_37 (by decide) ?_
      refine pk_i (pr_V M V (m_X12_lay l S I label width (12 : Int32) (show 1 ≤ (hr14 137 58).toInt by omega) (show 1 ≤ (hr14 137 70).toInt by omega) (show (hr14 137 25).toInt ≤ 599 by omega)) km_X12_lay (sm_this S) pC12 lkM_X12_375 rfl hl.1 rfl (Nat.le_of_ble_eq_true rfl) ⟨Nat.le_of_ble_eq_true rfl, Nat.le_of_ble_eq_true rfl⟩ ⟨Nat.le_of_ble_eq_true rfl, Nat.le_of_ble_eq_true rfl⟩ dX12_tree_39) V (fun r15 Zr15 hr15 H locs pr15 _ _ V => ?_)
      obtain ⟨rfl, I, pA_r15, fr15_0⟩ := pr15
      have fr15_0 : (hr14 137 25).toInt + (1) ≤ (hr15 137 25).toInt ∧ (hr15 137 25).toInt ≤ (hr14 137 25).toInt + (1) := fr15_0
      have A := A.wk (l3 := [(137, 0), (180, 1000), (172, 1000), (173, 1000), (171, 1000), (174, 1000), (175, 1000), (176, 1000), (177, 1000), (137, 25), (143, 1000)]) (by decide)
      have A := A.tr pA_r15 (by decide)
      have E9 : mE hr15 := E9.congr (pA_r15.get 137 2 (by decide)) (pA_r15.row 138 (by decide))
      have S9 : mS hr15 := S9.congr (pA_r15.get 137 56 (by decide)) (pA_r15.get 137 70 (by decide)) (pA_r15.get 137 58 (by decide)) (pA_r15.row 162 (by decide)) (pA_r15.row 163 (by decide)) (pA_r15.row 165 (by decide)) (pA_r15.row 166 (by decide))
      have K9 : mK hr15 := K9.congr (pA_r15.row 185 (by decide)) (pA_r15.row 184 (by decide))
      have w_r15_r162 : hr15 162 = (hr14 162) := pA_r15.row 162 (by decide)
      have w_r15_r163 : hr15 163 = (hr14 163) := pA_r15.row 163 (by decide)
      have w_r15_r165 : hr15 165 = (hr14 165) := pA_r15.row 165 (by decide)
      have w_r15_r166 : hr15 166 = (hr14 166) := pA_r15.row 166 (by decide)
      have w_r15_56 : (hr15 137 56).toInt = (hr14 137 56).toInt := congrArg Int32.toInt (pA_r15.get 137 56 (by decide))
      have w_r15_70 : (hr15 137 70).toInt = (hr14 137 70).toInt := congrArg Int32.toInt (pA_r15.get 137 70 (by decide))
      have w_r15_58 : (hr15 137 58).toInt = (hr14 137 58).toInt := congrArg Int32.toInt (pA_r15.get 137 58 (by decide))
      have w_r15_27 : (hr15 137 27).toInt = (hr14 137 27).toInt := congrArg Int32.toInt (pA_r15.get 137 27 (by decide))
      have w_r15_82 : (hr15 137 82).toInt = (hr14 137 82).toInt := congrArg Int32.toInt (pA_r15.get 137 82 (by decide))
      have w_r15_83 : (hr15 137 83).toInt = (hr14 137 83).toInt := congrArg Int32.toInt (pA_r15.get 137 83 (by decide))
      have w_r15_2 : (hr15 137 2).toInt = (hr14 137 2).toInt := congrArg Int32.toInt (pA_r15.get 137 2 (by decide))
      refine lv_istore_n (lv' := [(3, .int r15), (0, .ref (zB Z + 137)), (1, .int label), (2, .int width)]) hx hb dX12_tree_42 rfl hl (by decide) rfl (fun ls hl => ?_)
      refine lv_aload_n hx hb dX12_tree_43 rfl (lv_at hl 1 rfl) ?_
      refine lv_iload_n hx hb dX12_tree_44 rfl (lv_at hl 0 rfl) ?_
      refine pk_i (pr_V M V (m_X12_behaves l S I r15 (show (hr15 137 27).toInt ≤ 599 by omega)) km_X12_behaves (sm_this S) pC12 lkM_X12_378 rfl hl.1 rfl (Nat.le_of_ble_eq_true rfl) ⟨Nat.le_of_ble_eq_true rfl, Nat.le_of_ble_eq_true rfl⟩ ⟨Nat.le_of_ble_eq_true rfl, Nat.le_of_ble_eq_true rfl⟩ dX12_tree_45) V (fun r16 Zr16 hr16 H locs pr16 _ _ V => ?_)
      obtain ⟨rfl, I, pA_r16, fr16_0, fr16_1⟩ := pr16
      have fr16_1 : (hr15 137 27).toInt + (1) ≤ (hr16 137 27).toInt ∧ (hr16 137 27).toInt ≤ (hr15 137 27).toInt + (1) := fr16_1
      have A := A.wk (l3 := [(137, 0), (180, 1000), (172, 1000), (173, 1000), (171, 1000), (174, 1000), (175, 1000), (176, 1000), (177, 1000), (137, 25), (143, 1000), (137, 20), (137, 21), (137, 22), (137, 28), (137, 27), (144, 1000), (137, 19)]) (by decide)
      have A := A.tr pA_r16 (by decide)
      have E9 : mE hr16 := E9.congr (pA_r16.get 137 2 (by decide)) (pA_r16.row 138 (by decide))
      have S9 : mS hr16 := S9.congr (pA_r16.get 137 56 (by decide)) (pA_r16.get 137 70 (by decide)) (pA_r16.get 137 58 (by decide)) (pA_r16.row 162 (by decide)) (pA_r16.row 163 (by decide)) (pA_r16.row 165 (by decide)) (pA_r16.row 166 (by decide))
      have K9 : mK hr16 := K9.congr (pA_r16.row 185 (by decide)) (pA_r16.row 184 (by decide))
      have w_r16_r162 : hr16 162 = (hr15 162) := pA_r16.row 162 (by decide)
      have w_r16_r163 : hr16 163 = (hr15 163) := pA_r16.row 163 (by decide)
      have w_r16_r165 : hr16 165 = (hr15 165) := pA_r16.row 165 (by decide)
      have w_r16_r166 : hr16 166 = (hr15 166) := pA_r16.row 166 (by decide)
      have w_r16_56 : (hr16 137 56).toInt = (hr15 137 56).toInt := congrArg Int32.toInt (pA_r16.get 137 56 (by decide))
      have w_r16_70 : (hr16 137 70).toInt = (hr15 137 70).toInt := congrArg Int32.toInt (pA_r16.get 137 70 (by decide))
      have w_r16_58 : (hr16 137 58).toInt = (hr15 137 58).toInt := congrArg Int32.toInt (pA_r16.get 137 58 (by decide))
      have w_r16_25 : (hr16 137 25).toInt = (hr15 137 25).toInt := congrArg Int32.toInt (pA_r16.get 137 25 (by decide))
      have w_r16_82 : (hr16 137 82).toInt = (hr15 137 82).toInt := congrArg Int32.toInt (pA_r16.get 137 82 (by decide))
      have w_r16_83 : (hr16 137 83).toInt = (hr15 137 83).toInt := congrArg Int32.toInt (pA_r16.get 137 83 (by decide))
      have w_r16_2 : (hr16 137 2).toInt = (hr15 137 2).toInt := congrArg Int32.toInt (pA_r16.get 137 2 (by decide))
      refine lv_istore (lv' := [(4, .int r16), (3, .int r15), (0, .ref (zB Z + 137)), (1, .int label), (2, .int width)]) hx hb dX12_tree_48 hl (by decide) rfl (fun ls hl => ?_)
      refine lv_aload_n hx hb dX12_tree_50 rfl (lv_at hl 2 rfl) ?_
      refine lv_iload_n hx hb dX12_tree_51 rfl (lv_at hl 1 rfl) ?_
      refine pk_i (pr_V M V (m_X12_numberOf l S I r15 ) km_X12_numberOf (sm_this S) pC12 lkM_X12_387 rfl hl.1 rfl (Nat.le_of_ble_eq_true rfl) ⟨Nat.le_of_ble_eq_true rfl, Nat.le_of_ble_eq_true rfl⟩ ⟨Nat.le_of_ble_eq_true rfl, Nat.le_of_ble_eq_true rfl⟩ dX12_tree_52) V (fun r17 Zr17 hr17 H locs pr17 _ _ V => ?_)
      obtain ⟨rfl, I, pA_r17⟩ := pr17
      have A := A.tr pA_r17 (by decide)
      have E9 : mE hr17 := E9.congr (pA_r17.get 137 2 (by decide)) (pA_r17.row 138 (by decide))
      have S9 : mS hr17 := S9.congr (pA_r17.get 137 56 (by decide)) (pA_r17.get 137 70 (by decide)) (pA_r17.get 137 58 (by decide)) (pA_r17.row 162 (by decide)) (pA_r17.row 163 (by decide)) (pA_r17.row 165 (by decide)) (pA_r17.row 166 (by decide))
      have K9 : mK hr17 := K9.congr (pA_r17.row 185 (by decide)) (pA_r17.row 184 (by decide))
      have w_r17_r162 : hr17 162 = (hr16 162) := pA_r17.row 162 (by decide)
      have w_r17_r163 : hr17 163 = (hr16 163) := pA_r17.row 163 (by decide)
      have w_r17_r165 : hr17 165 = (hr16 165) := pA_r17.row 165 (by decide)
      have w_r17_r166 : hr17 166 = (hr16 166) := pA_r17.row 166 (by decide)
      have w_r17_56 : (hr17 137 56).toInt = (hr16 137 56).toInt := congrArg Int32.toInt (pA_r17.get 137 56 (by decide))
      have w_r17_70 : (hr17 137 70).toInt = (hr16 137 70).toInt := congrArg Int32.toInt (pA_r17.get 137 70 (by decide))
      have w_r17_58 : (hr17 137 58).toInt = (hr16 137 58).toInt := congrArg Int32.toInt (pA_r17.get 137 58 (by decide))
      have w_r17_25 : (hr17 137 25).toInt = (hr16 137 25).toInt := congrArg Int32.toInt (pA_r17.get 137 25 (by decide))
      have w_r17_27 : (hr17 137 27).toInt = (hr16 137 27).toInt := congrArg Int32.toInt (pA_r17.get 137 27 (by decide))
      have w_r17_82 : (hr17 137 82).toInt = (hr16 137 82).toInt := congrArg Int32.toInt (pA_r17.get 137 82 (by decide))
      have w_r17_83 : (hr17 137 83).toInt = (hr16 137 83).toInt := congrArg Int32.toInt (pA_r17.get 137 83 (by decide))
      have w_r17_2 : (hr17 137 2).toInt = (hr16 137 2).toInt := congrArg Int32.toInt (pA_r17.get 137 2 (by decide))
      refine lv_if_eq (tgt := 62) hx hb dX12_tree_55 (by decide) (fun c_55 => ?_) (fun c_55 => ?_)
      · skip
        have c_55 := pi_eq.mp c_55
        refine lv_iconst (v := 0) hx hb dX12_tree_62 (by decide) ?_
        exact J_63 r15 r16 (0 : Int32) _ _ _ _ V I (A.wk (by decide)) (lv_sub hl [2, 3, 4, 1, 0] rfl) (by omega) (by omega) (show (h 137 56).toInt + (0) ≤ (hr17 137 56).toInt ∧ (hr17 137 56).toInt ≤ (h 137 56).toInt + (0) by omega) (show (h 137 70).toInt + (0) ≤ (hr17 137 70).toInt ∧ (hr17 137 70).toInt ≤ (h 137 70).toInt + (0) by omega) (show (h 137 58).toInt + (0) ≤ (hr17 137 58).toInt ∧ (hr17 137 58).toInt ≤ (h 137 58).toInt + (0) by omega) (show (h 137 25).toInt + (1) ≤ (hr17 137 25).toInt ∧ (hr17 137 25).toInt ≤ (h 137 25).toInt + (1) by omega) (show (h 137 27).toInt + (1) ≤ (hr17 137 27).toInt ∧ (hr17 137 27).toInt ≤ (h 137 27).toInt + (1) by omega) (show (h 137 82).toInt + (0) ≤ (hr17 137 82).toInt ∧ (hr17 137 82).toInt ≤ (h 137 82).toInt + (0) by omega) (show (h 137 83).toInt + (0) ≤ (hr17 137 83).toInt ∧ (hr17 137 83).toInt ≤ (h 137 83).toInt + (0) by omega) (show (h 137 2).toInt + (0) ≤ (hr17 137 2).toInt ∧ (hr17 137 2).toInt ≤ (h 137 2).toInt + (0) by omega) (by omega) (by omega) (E9.congr rfl rfl) (S9.congr rfl rfl rfl rfl rfl rfl rfl) (K9.congr rfl rfl) 
      · skip
        have c_55 := pi_ne c_55
        refine lv_iconst (v := 1) hx hb dX12_tree_58 (by decide) ?_
        refine lv_goto (tgt := 63) hx hb dX12_tree_59 (by decide) ?_
        have k_1 : (1 : Int32).toInt = 1 := rfl
        exact J_63 r15 r16 (1 : Int32) _ _ _ _ V I (A.wk (by decide)) (lv_sub hl [2, 3, 4, 1, 0] rfl) (by omega) (by omega) (show (h 137 56).toInt + (0) ≤ (hr17 137 56).toInt ∧ (hr17 137 56).toInt ≤ (h 137 56).toInt + (0) by omega) (show (h 137 70).toInt + (0) ≤ (hr17 137 70).toInt ∧ (hr17 137 70).toInt ≤ (h 137 70).toInt + (0) by omega) (show (h 137 58).toInt + (0) ≤ (hr17 137 58).toInt ∧ (hr17 137 58).toInt ≤ (h 137 58).toInt + (0) by omega) (show (h 137 25).toInt + (1) ≤ (hr17 137 25).toInt ∧ (hr17 137 25).toInt ≤ (h 137 25).toInt + (1) by omega) (show (h 137 27).toInt + (1) ≤ (hr17 137 27).toInt ∧ (hr17 137 27).toInt ≤ (h 137 27).toInt + (1) by omega) (show (h 137 82).toInt + (0) ≤ (hr17 137 82).toInt ∧ (hr17 137 82).toInt ≤ (h 137 82).toInt + (0) by omega) (show (h 137 83).toInt + (0) ≤ (hr17 137 83).toInt ∧ (hr17 137 83).toInt ≤ (h 137 83).toInt + (0) by omega) (show (h 137 2).toInt + (0) ≤ (hr17 137 2).toInt ∧ (hr17 137 2).toInt ≤ (h 137 2).toInt + (0) by omega) (by omega) (by omega) (E9.congr rfl rfl) (S9.congr rfl rfl rfl rfl rfl rfl rfl) (K9.congr rfl rfl) 
    · skip
      have k_0 : (0 : Int32).toInt = 0 := rfl
      have c_29 := pi_ne c_29
      have A := A.wk (l3 := [(137, 0), (137, 18), (137, 19), (137, 20), (137, 22), (137, 21), (137, 23), (137, 40), (137, 48), (137, 56), (137, 58), (137, 70), (137, 71), (153, 1000)]) (by decide)
      have A := A.tr pA_r14 (by decide)
      have E9 : mE hr14 := E9.congr (pA_r14.get 137 2 (by decide)) (pA_r14.row 138 (by decide))
      have S9 : mS hr14 := fr14_2 (S9.congr rfl rfl rfl rfl rfl rfl rfl)
      have K9 : mK hr14 := K9.congr (pA_r14.row 185 (by decide)) (pA_r14.row 184 (by decide))
      have w_r14_r162 : hr14 162 = (hJ 162) := pA_r14.row 162 (by decide)
      have w_r14_r163 : hr14 163 = (hJ 163) := pA_r14.row 163 (by decide)
      have w_r14_r165 : hr14 165 = (hJ 165) := pA_r14.row 165 (by decide)
      have w_r14_r166 : hr14 166 = (hJ 166) := pA_r14.row 166 (by decide)
      have w_r14_25 : (hr14 137 25).toInt = (hJ 137 25).toInt := congrArg Int32.toInt (pA_r14.get 137 25 (by decide))
      have w_r14_27 : (hr14 137 27).toInt = (hJ 137 27).toInt := congrArg Int32.toInt (pA_r14.get 137 27 (by decide))
      have w_r14_82 : (hr14 137 82).toInt = (hJ 137 82).toInt := congrArg Int32.toInt (pA_r14.get 137 82 (by decide))
      have w_r14_83 : (hr14 137 83).toInt = (hJ 137 83).toInt := congrArg Int32.toInt (pA_r14.get 137 83 (by decide))
      have w_r14_2 : (hr14 137 2).toInt = (hJ 137 2).toInt := congrArg Int32.toInt (pA_r14.get 137 2 (by decide))
      refine lv_iconst (v := 0) hx hb dX12_tree_32 (by decide) ?_
      exact pe_i M V rfl rfl hr hlk (pn_z (pi_z (by omega))).1 ⟨rfl, I, A.wk (by decide), by omega, (E9.congr rfl rfl), (S9.congr rfl rfl rfl rfl rfl rfl rfl), (K9.congr rfl rfl), (show (h 137 25).toInt + (0) ≤ (hr14 137 25).toInt ∧ (hr14 137 25).toInt ≤ (h 137 25).toInt + (1) by omega), (show (h 137 27).toInt + (0) ≤ (hr14 137 27).toInt ∧ (hr14 137 27).toInt ≤ (h 137 27).toInt + (1) by omega), (show (h 137 82).toInt + (0) ≤ (hr14 137 82).toInt ∧ (hr14 137 82).toInt ≤ (h 137 82).toInt + (4) by omega)⟩ ⟨Nat.le_refl _, Nat.le_refl _⟩ dX12_tree_33
  have J_25 : ∀ (hJ : pH) (H : Heap) (locs : List Loc) (ls : Array Slot), pV Z hJ s.heap H locs → Iv Z hJ → agr [] h hJ → lv_has ls 7 [(0, .ref (zB Z + 137)), (1, .int label), (2, .int width)] → ((h 137 56).toInt + (0) ≤ (hJ 137 56).toInt ∧ (hJ 137 56).toInt ≤ (h 137 56).toInt + (0)) → ((h 137 70).toInt + (0) ≤ (hJ 137 70).toInt ∧ (hJ 137 70).toInt ≤ (h 137 70).toInt + (0)) → ((h 137 58).toInt + (0) ≤ (hJ 137 58).toInt ∧ (hJ 137 58).toInt ≤ (h 137 58).toInt + (0)) → ((h 137 25).toInt + (0) ≤ (hJ 137 25).toInt ∧ (hJ 137 25).toInt ≤ (h 137 25).toInt + (0)) → ((h 137 27).toInt + (0) ≤ (hJ 137 27).toInt ∧ (hJ 137 27).toInt ≤ (h 137 27).toInt + (0)) → ((h 137 82).toInt + (0) ≤ (hJ 137 82).toInt ∧ (hJ 137 82).toInt ≤ (h 137 82).toInt + (0)) → ((h 137 83).toInt + (0) ≤ (hJ 137 83).toInt ∧ (hJ 137 83).toInt ≤ (h 137 83).toInt + (0)) → ((h 137 2).toInt + (0) ≤ (hJ 137 2).toInt ∧ (hJ 137 2).toInt ≤ (h 137 2).toInt + (0)) → mE hJ → mS hJ → mK hJ → W p l e (pRm 4 0 0 101) s m ([.ref (zB Z + 137), .int label, .int width] : List Value).toArray below meth c H locs 0 0 (MQ below (pQi Z (fun r Z1 h1 => Z = Z1 ∧ Iv Z h1 ∧ agr [(137, 0), (137, 18), (137, 19), (137, 20), (137, 22), (137, 21), (137, 23), (137, 40), (137, 48), (137, 56), (137, 58), (137, 70), (137, 71), (153, 1000), (180, 1000), (172, 1000), (173, 1000), (171, 1000), (174, 1000), (175, 1000), (176, 1000), (177, 1000), (137, 25), (143, 1000), (137, 28), (137, 27), (144, 1000), (137, 82), (186, 1000), (137, 79), (181, 1000), (182, 1000), (184, 1000), (185, 1000), (162, 1000), (163, 1000), (165, 1000), (166, 1000), (164, 1000), (167, 1000), (170, 1000)] h h1 ∧ (r.toInt = 0 ∨ r.toInt = 1) ∧ (mE h1) ∧ (mS h1) ∧ (mK h1) ∧ ((h 137 25).toInt + (0) ≤ (h1 137 25).toInt ∧ (h1 137 25).toInt ≤ (h 137 25).toInt + (1)) ∧ ((h 137 27).toInt + (0) ≤ (h1 137 27).toInt ∧ (h1 137 27).toInt ≤ (h 137 27).toInt + (1)) ∧ ((h 137 82).toInt + (0) ≤ (h1 137 82).toInt ∧ (h1 137 82).toInt ≤ (h 137 82).toInt + (4)))) ([.ref (zB Z + 137), .int label, .int width] : List Value).toArray s 0 0 (pA (zB Z))) (F0 m 25 ls [.ref (zB Z + 137)]) := by
    intro hJ H locs ls V I A hl gd_25_56 gd_25_70 gd_25_58 gd_25_25 gd_25_27 gd_25_82 gd_25_83 gd_25_2 E9 S9 K9
    refine lv_iconst (v := 0) hx hb dX12_tree_25 (by decide) ?_
    have k_0 : (0 : Int32).toInt = 0 := rfl
    exact J_26 (0 : Int32) _ _ _ _ V I (A.wk (by decide)) (lv_sub hl [0, 1, 2] rfl) (by omega) (show (h 137 56).toInt + (0) ≤ (hJ 137 56).toInt ∧ (hJ 137 56).toInt ≤ (h 137 56).toInt + (0) by omega) (show (h 137 70).toInt + (0) ≤ (hJ 137 70).toInt ∧ (hJ 137 70).toInt ≤ (h 137 70).toInt + (0) by omega) (show (h 137 58).toInt + (0) ≤ (hJ 137 58).toInt ∧ (hJ 137 58).toInt ≤ (h 137 58).toInt + (0) by omega) (show (h 137 25).toInt + (0) ≤ (hJ 137 25).toInt ∧ (hJ 137 25).toInt ≤ (h 137 25).toInt + (0) by omega) (show (h 137 27).toInt + (0) ≤ (hJ 137 27).toInt ∧ (hJ 137 27).toInt ≤ (h 137 27).toInt + (0) by omega) (show (h 137 82).toInt + (0) ≤ (hJ 137 82).toInt ∧ (hJ 137 82).toInt ≤ (h 137 82).toInt + (0) by omega) (show (h 137 83).toInt + (0) ≤ (hJ 137 83).toInt ∧ (hJ 137 83).toInt ≤ (h 137 83).toInt + (0) by omega) (show (h 137 2).toInt + (0) ≤ (hJ 137 2).toInt ∧ (hJ 137 2).toInt ≤ (h 137 2).toInt + (0) by omega) (by omega) (E9.congr rfl rfl) (S9.congr rfl rfl rfl rfl rfl rfl rfl) (K9.congr rfl rfl) 
  refine lv_aload_n hx hb dX12_tree_0 rfl (lv_at hl 0 rfl) ?_
  refine lv_aload_n hx hb dX12_tree_1 rfl (lv_at hl 0 rfl) ?_
  refine lv_iload_n hx hb dX12_tree_2 rfl (lv_at hl 1 rfl) ?_
  refine pk_i (pr_V M V (m_X12_isLabel l S I label) km_X12_isLabel (sm_this S) pC12 lkM_X12_343 rfl hl.1 rfl (Nat.le_of_ble_eq_true rfl) ⟨Nat.le_of_ble_eq_true rfl, Nat.le_of_ble_eq_true rfl⟩ ⟨Nat.le_of_ble_eq_true rfl, Nat.le_of_ble_eq_true rfl⟩ dX12_tree_3) V (fun r18 Zr18 hr18 H locs pr18 _ _ V => ?_)
  obtain ⟨rfl, rfl, fr18_0⟩ := pr18
  refine lv_if_eq (tgt := 25) hx hb dX12_tree_6 (by decide) (fun c_6 => ?_) (fun c_6 => ?_)
  · skip
    have k_0 : (0 : Int32).toInt = 0 := rfl
    have c_6 := pi_eq.mp c_6
    exact J_25 _ _ _ _ V I (A.wk (by decide)) (lv_sub hl [0, 1, 2] rfl) (show (h 137 56).toInt + (0) ≤ (h 137 56).toInt ∧ (h 137 56).toInt ≤ (h 137 56).toInt + (0) by omega) (show (h 137 70).toInt + (0) ≤ (h 137 70).toInt ∧ (h 137 70).toInt ≤ (h 137 70).toInt + (0) by omega) (show (h 137 58).toInt + (0) ≤ (h 137 58).toInt ∧ (h 137 58).toInt ≤ (h 137 58).toInt + (0) by omega) (show (h 137 25).toInt + (0) ≤ (h 137 25).toInt ∧ (h 137 25).toInt ≤ (h 137 25).toInt + (0) by omega) (show (h 137 27).toInt + (0) ≤ (h 137 27).toInt ∧ (h 137 27).toInt ≤ (h 137 27).toInt + (0) by omega) (show (h 137 82).toInt + (0) ≤ (h 137 82).toInt ∧ (h 137 82).toInt ≤ (h 137 82).toInt + (0) by omega) (show (h 137 83).toInt + (0) ≤ (h 137 83).toInt ∧ (h 137 83).toInt ≤ (h 137 83).toInt + (0) by omega) (show (h 137 2).toInt + (0) ≤ (h 137 2).toInt ∧ (h 137 2).toInt ≤ (h 137 2).toInt + (0) by omega) (E9.congr rfl rfl) (S9.congr rfl rfl rfl rfl rfl rfl rfl) (K9.congr rfl rfl) 
  · skip
    have k_0 : (0 : Int32).toInt = 0 := rfl
    have c_6 := pi_ne c_6
    refine lv_iload_n hx hb dX12_tree_9 rfl (lv_at hl 2 rfl) ?_
    refine lv_iconst (v := 1) hx hb dX12_tree_10 (by decide) ?_
    refine lv_icmp_lt (tgt := 25) hx hb dX12_tree_11 (by decide) (fun c_11 => ?_) (fun c_11 => ?_)
    · skip
      have k_1 : (1 : Int32).toInt = 1 := rfl
      have c_11 := pi_lt.mp c_11
      exact J_25 _ _ _ _ V I (A.wk (by decide)) (lv_sub hl [0, 1, 2] rfl) (show (h 137 56).toInt + (0) ≤ (h 137 56).toInt ∧ (h 137 56).toInt ≤ (h 137 56).toInt + (0) by omega) (show (h 137 70).toInt + (0) ≤ (h 137 70).toInt ∧ (h 137 70).toInt ≤ (h 137 70).toInt + (0) by omega) (show (h 137 58).toInt + (0) ≤ (h 137 58).toInt ∧ (h 137 58).toInt ≤ (h 137 58).toInt + (0) by omega) (show (h 137 25).toInt + (0) ≤ (h 137 25).toInt ∧ (h 137 25).toInt ≤ (h 137 25).toInt + (0) by omega) (show (h 137 27).toInt + (0) ≤ (h 137 27).toInt ∧ (h 137 27).toInt ≤ (h 137 27).toInt + (0) by omega) (show (h 137 82).toInt + (0) ≤ (h 137 82).toInt ∧ (h 137 82).toInt ≤ (h 137 82).toInt + (0) by omega) (show (h 137 83).toInt + (0) ≤ (h 137 83).toInt ∧ (h 137 83).toInt ≤ (h 137 83).toInt + (0) by omega) (show (h 137 2).toInt + (0) ≤ (h 137 2).toInt ∧ (h 137 2).toInt ≤ (h 137 2).toInt + (0) by omega) (E9.congr rfl rfl) (S9.congr rfl rfl rfl rfl rfl rfl rfl) (K9.congr rfl rfl) 
    · skip
      have k_1 : (1 : Int32).toInt = 1 := rfl
      have c_11 := pi_lt' c_11
      refine lv_iload_n hx hb dX12_tree_14 rfl (lv_at hl 2 rfl) ?_
      refine lv_sipush (v := 200) hx hb dX12_tree_15 (by decide) ?_
      refine lv_icmp_gt (tgt := 25) hx hb dX12_tree_18 (by decide) (fun c_18 => ?_) (fun c_18 => ?_)
      · skip
        have k_200 : (200 : Int32).toInt = 200 := rfl
        have c_18 := pi_lt.mp c_18
        exact J_25 _ _ _ _ V I (A.wk (by decide)) (lv_sub hl [0, 1, 2] rfl) (show (h 137 56).toInt + (0) ≤ (h 137 56).toInt ∧ (h 137 56).toInt ≤ (h 137 56).toInt + (0) by omega) (show (h 137 70).toInt + (0) ≤ (h 137 70).toInt ∧ (h 137 70).toInt ≤ (h 137 70).toInt + (0) by omega) (show (h 137 58).toInt + (0) ≤ (h 137 58).toInt ∧ (h 137 58).toInt ≤ (h 137 58).toInt + (0) by omega) (show (h 137 25).toInt + (0) ≤ (h 137 25).toInt ∧ (h 137 25).toInt ≤ (h 137 25).toInt + (0) by omega) (show (h 137 27).toInt + (0) ≤ (h 137 27).toInt ∧ (h 137 27).toInt ≤ (h 137 27).toInt + (0) by omega) (show (h 137 82).toInt + (0) ≤ (h 137 82).toInt ∧ (h 137 82).toInt ≤ (h 137 82).toInt + (0) by omega) (show (h 137 83).toInt + (0) ≤ (h 137 83).toInt ∧ (h 137 83).toInt ≤ (h 137 83).toInt + (0) by omega) (show (h 137 2).toInt + (0) ≤ (h 137 2).toInt ∧ (h 137 2).toInt ≤ (h 137 2).toInt + (0) by omega) (E9.congr rfl rfl) (S9.congr rfl rfl rfl rfl rfl rfl rfl) (K9.congr rfl rfl) 
      · skip
        have k_200 : (200 : Int32).toInt = 200 := rfl
        have c_18 := pi_lt' c_18
        refine lv_iconst (v := 1) hx hb dX12_tree_21 (by decide) ?_
        refine lv_goto (tgt := 26) hx hb dX12_tree_22 (by decide) ?_
        exact J_26 (1 : Int32) _ _ _ _ V I (A.wk (by decide)) (lv_sub hl [0, 1, 2] rfl) (by omega) (show (h 137 56).toInt + (0) ≤ (h 137 56).toInt ∧ (h 137 56).toInt ≤ (h 137 56).toInt + (0) by omega) (show (h 137 70).toInt + (0) ≤ (h 137 70).toInt ∧ (h 137 70).toInt ≤ (h 137 70).toInt + (0) by omega) (show (h 137 58).toInt + (0) ≤ (h 137 58).toInt ∧ (h 137 58).toInt ≤ (h 137 58).toInt + (0) by omega) (show (h 137 25).toInt + (0) ≤ (h 137 25).toInt ∧ (h 137 25).toInt ≤ (h 137 25).toInt + (0) by omega) (show (h 137 27).toInt + (0) ≤ (h 137 27).toInt ∧ (h 137 27).toInt ≤ (h 137 27).toInt + (0) by omega) (show (h 137 82).toInt + (0) ≤ (h 137 82).toInt ∧ (h 137 82).toInt ≤ (h 137 82).toInt + (0) by omega) (show (h 137 83).toInt + (0) ≤ (h 137 83).toInt ∧ (h 137 83).toInt ≤ (h 137 83).toInt + (0) by omega) (show (h 137 2).toInt + (0) ≤ (h 137 2).toInt ∧ (h 137 2).toInt ≤ (h 137 2).toInt + (0) by omega) (by omega) (E9.congr rfl rfl) (S9.congr rfl rfl rfl rfl rfl rfl rfl) (K9.congr rfl rfl) 
theorem dX12_child_0 : decode cX12_child 0 = .ok (.aload_n 0, 1) := by decide +kernel
theorem dX12_child_1 : decode cX12_child 1 = .ok (.aload_n 0, 1) := by decide +kernel
theorem dX12_child_2 : decode cX12_child 2 = .ok (.iload_n 1, 1) := by decide +kernel
theorem dX12_child_3 : decode cX12_child 3 = .ok (.invokevirtual 343, 3) := by decide +kernel
theorem dX12_child_6 : decode cX12_child 6 = .ok (.ifCond .eq 31, 3) := by decide +kernel
theorem dX12_child_9 : decode cX12_child 9 = .ok (.iload_n 2, 1) := by decide +kernel
theorem dX12_child_10 : decode cX12_child 10 = .ok (.iconst 1, 1) := by decide +kernel
theorem dX12_child_11 : decode cX12_child 11 = .ok (.if_icmp .lt 26, 3) := by decide +kernel
theorem dX12_child_14 : decode cX12_child 14 = .ok (.iload_n 2, 1) := by decide +kernel
theorem dX12_child_15 : decode cX12_child 15 = .ok (.sipush 200, 3) := by decide +kernel
theorem dX12_child_18 : decode cX12_child 18 = .ok (.if_icmp .gt 19, 3) := by decide +kernel
theorem dX12_child_21 : decode cX12_child 21 = .ok (.iload_n 3, 1) := by decide +kernel
theorem dX12_child_22 : decode cX12_child 22 = .ok (.iconst 1, 1) := by decide +kernel
theorem dX12_child_23 : decode cX12_child 23 = .ok (.if_icmp .lt 14, 3) := by decide +kernel
theorem dX12_child_26 : decode cX12_child 26 = .ok (.iload_n 3, 1) := by decide +kernel
theorem dX12_child_27 : decode cX12_child 27 = .ok (.sipush 200, 3) := by decide +kernel
theorem dX12_child_30 : decode cX12_child 30 = .ok (.if_icmp .gt 7, 3) := by decide +kernel
theorem dX12_child_33 : decode cX12_child 33 = .ok (.iconst 1, 1) := by decide +kernel
theorem dX12_child_34 : decode cX12_child 34 = .ok (.goto 4, 3) := by decide +kernel
theorem dX12_child_37 : decode cX12_child 37 = .ok (.iconst 0, 1) := by decide +kernel
theorem dX12_child_38 : decode cX12_child 38 = .ok (.invokevirtual 371, 3) := by decide +kernel
theorem dX12_child_41 : decode cX12_child 41 = .ok (.ifCond .eq 4, 3) := by decide +kernel
theorem dX12_child_44 : decode cX12_child 44 = .ok (.return_, 1) := by decide +kernel
theorem dX12_child_45 : decode cX12_child 45 = .ok (.aload_n 0, 1) := by decide +kernel
theorem dX12_child_46 : decode cX12_child 46 = .ok (.getfield 279, 3) := by decide +kernel
theorem dX12_child_49 : decode cX12_child 49 = .ok (.bipush 40, 2) := by decide +kernel
theorem dX12_child_51 : decode cX12_child 51 = .ok (.if_icmp .eq 12, 3) := by decide +kernel
theorem dX12_child_54 : decode cX12_child 54 = .ok (.aload_n 0, 1) := by decide +kernel
theorem dX12_child_55 : decode cX12_child 55 = .ok (.getfield 246, 3) := by decide +kernel
theorem dX12_child_58 : decode cX12_child 58 = .ok (.bipush 8, 2) := by decide +kernel
theorem dX12_child_60 : decode cX12_child 60 = .ok (.if_icmp .ne 10, 3) := by decide +kernel
theorem dX12_child_63 : decode cX12_child 63 = .ok (.aload_n 0, 1) := by decide +kernel
theorem dX12_child_64 : decode cX12_child 64 = .ok (.iconst 2, 1) := by decide +kernel
theorem dX12_child_65 : decode cX12_child 65 = .ok (.invokevirtual 297, 3) := by decide +kernel
theorem dX12_child_68 : decode cX12_child 68 = .ok (.pop, 1) := by decide +kernel
theorem dX12_child_69 : decode cX12_child 69 = .ok (.return_, 1) := by decide +kernel
theorem dX12_child_70 : decode cX12_child 70 = .ok (.aload_n 0, 1) := by decide +kernel
theorem dX12_child_71 : decode cX12_child 71 = .ok (.iload_n 1, 1) := by decide +kernel
theorem dX12_child_72 : decode cX12_child 72 = .ok (.iload_n 2, 1) := by decide +kernel
theorem dX12_child_73 : decode cX12_child 73 = .ok (.iload_n 3, 1) := by decide +kernel
theorem dX12_child_74 : decode cX12_child 74 = .ok (.invokevirtual 375, 3) := by decide +kernel
theorem dX12_child_77 : decode cX12_child 77 = .ok (.istore 4, 2) := by decide +kernel
theorem dX12_child_79 : decode cX12_child 79 = .ok (.aload_n 0, 1) := by decide +kernel
theorem dX12_child_80 : decode cX12_child 80 = .ok (.iload 4, 2) := by decide +kernel
theorem dX12_child_82 : decode cX12_child 82 = .ok (.invokevirtual 381, 3) := by decide +kernel
theorem dX12_child_85 : decode cX12_child 85 = .ok (.aload_n 0, 1) := by decide +kernel
theorem dX12_child_86 : decode cX12_child 86 = .ok (.getfield 246, 3) := by decide +kernel
theorem dX12_child_89 : decode cX12_child 89 = .ok (.istore 5, 2) := by decide +kernel
theorem dX12_child_91 : decode cX12_child 91 = .ok (.aload_n 0, 1) := by decide +kernel
theorem dX12_child_92 : decode cX12_child 92 = .ok (.dup, 1) := by decide +kernel
theorem dX12_child_93 : decode cX12_child 93 = .ok (.getfield 246, 3) := by decide +kernel
theorem dX12_child_96 : decode cX12_child 96 = .ok (.iconst 1, 1) := by decide +kernel
theorem dX12_child_97 : decode cX12_child 97 = .ok (.iadd, 1) := by decide +kernel
theorem dX12_child_98 : decode cX12_child 98 = .ok (.putfield 246, 3) := by decide +kernel
theorem dX12_child_101 : decode cX12_child 101 = .ok (.iload 5, 2) := by decide +kernel
theorem dX12_child_103 : decode cX12_child 103 = .ok (.aload_n 0, 1) := by decide +kernel
theorem dX12_child_104 : decode cX12_child 104 = .ok (.getfield 90, 3) := by decide +kernel
theorem dX12_child_107 : decode cX12_child 107 = .ok (.if_icmp .ne 20, 3) := by decide +kernel
theorem dX12_child_110 : decode cX12_child 110 = .ok (.aload_n 0, 1) := by decide +kernel
theorem dX12_child_111 : decode cX12_child 111 = .ok (.getfield 84, 3) := by decide +kernel
theorem dX12_child_114 : decode cX12_child 114 = .ok (.iload 5, 2) := by decide +kernel
theorem dX12_child_116 : decode cX12_child 116 = .ok (.dup2, 1) := by decide +kernel
theorem dX12_child_117 : decode cX12_child 117 = .ok (.iaload, 1) := by decide +kernel
theorem dX12_child_118 : decode cX12_child 118 = .ok (.bipush 10, 2) := by decide +kernel
theorem dX12_child_120 : decode cX12_child 120 = .ok (.aload_n 0, 1) := by decide +kernel
theorem dX12_child_121 : decode cX12_child 121 = .ok (.getfield 214, 3) := by decide +kernel
theorem dX12_child_124 : decode cX12_child 124 = .ok (.imul, 1) := by decide +kernel
theorem dX12_child_125 : decode cX12_child 125 = .ok (.iadd, 1) := by decide +kernel
theorem dX12_child_126 : decode cX12_child 126 = .ok (.iastore, 1) := by decide +kernel
theorem dX12_child_127 : decode cX12_child 127 = .ok (.aload_n 0, 1) := by decide +kernel
theorem dX12_child_128 : decode cX12_child 128 = .ok (.getfield 84, 3) := by decide +kernel
theorem dX12_child_131 : decode cX12_child 131 = .ok (.iload 5, 2) := by decide +kernel
theorem dX12_child_133 : decode cX12_child 133 = .ok (.aload_n 0, 1) := by decide +kernel
theorem dX12_child_134 : decode cX12_child 134 = .ok (.getfield 84, 3) := by decide +kernel
theorem dX12_child_137 : decode cX12_child 137 = .ok (.iload 5, 2) := by decide +kernel
theorem dX12_child_139 : decode cX12_child 139 = .ok (.iaload, 1) := by decide +kernel
theorem dX12_child_140 : decode cX12_child 140 = .ok (.iconst 0, 1) := by decide +kernel
theorem dX12_child_141 : decode cX12_child 141 = .ok (.iconst 0, 1) := by decide +kernel
theorem dX12_child_142 : decode cX12_child 142 = .ok (.aload_n 0, 1) := by decide +kernel
theorem dX12_child_143 : decode cX12_child 143 = .ok (.getfield 87, 3) := by decide +kernel
theorem dX12_child_146 : decode cX12_child 146 = .ok (.iload 5, 2) := by decide +kernel
theorem dX12_child_148 : decode cX12_child 148 = .ok (.iaload, 1) := by decide +kernel
theorem dX12_child_149 : decode cX12_child 149 = .ok (.iload_n 3, 1) := by decide +kernel
theorem dX12_child_150 : decode cX12_child 150 = .ok (.isub, 1) := by decide +kernel
theorem dX12_child_151 : decode cX12_child 151 = .ok (.invokestatic 182, 3) := by decide +kernel
theorem dX12_child_154 : decode cX12_child 154 = .ok (.invokestatic 327, 3) := by decide +kernel
theorem dX12_child_157 : decode cX12_child 157 = .ok (.iastore, 1) := by decide +kernel
theorem dX12_child_158 : decode cX12_child 158 = .ok (.aload_n 0, 1) := by decide +kernel
theorem dX12_child_159 : decode cX12_child 159 = .ok (.iconst 1, 1) := by decide +kernel
theorem dX12_child_160 : decode cX12_child 160 = .ok (.aload_n 0, 1) := by decide +kernel
theorem dX12_child_161 : decode cX12_child 161 = .ok (.aload_n 0, 1) := by decide +kernel
theorem dX12_child_162 : decode cX12_child 162 = .ok (.getfield 150, 3) := by decide +kernel
theorem dX12_child_165 : decode cX12_child 165 = .ok (.iconst 0, 1) := by decide +kernel
theorem dX12_child_166 : decode cX12_child 166 = .ok (.iaload, 1) := by decide +kernel
theorem dX12_child_167 : decode cX12_child 167 = .ok (.iconst 2, 1) := by decide +kernel
theorem dX12_child_168 : decode cX12_child 168 = .ok (.iadd, 1) := by decide +kernel
theorem dX12_child_169 : decode cX12_child 169 = .ok (.aload_n 0, 1) := by decide +kernel
theorem dX12_child_170 : decode cX12_child 170 = .ok (.getfield 150, 3) := by decide +kernel
theorem dX12_child_173 : decode cX12_child 173 = .ok (.iconst 1, 1) := by decide +kernel
theorem dX12_child_174 : decode cX12_child 174 = .ok (.iaload, 1) := by decide +kernel
theorem dX12_child_175 : decode cX12_child 175 = .ok (.iconst 2, 1) := by decide +kernel
theorem dX12_child_176 : decode cX12_child 176 = .ok (.iadd, 1) := by decide +kernel
theorem dX12_child_177 : decode cX12_child 177 = .ok (.aload_n 0, 1) := by decide +kernel
theorem dX12_child_178 : decode cX12_child 178 = .ok (.getfield 84, 3) := by decide +kernel
theorem dX12_child_181 : decode cX12_child 181 = .ok (.iload 5, 2) := by decide +kernel
theorem dX12_child_183 : decode cX12_child 183 = .ok (.iaload, 1) := by decide +kernel
theorem dX12_child_184 : decode cX12_child 184 = .ok (.isub, 1) := by decide +kernel
theorem dX12_child_185 : decode cX12_child 185 = .ok (.invokevirtual 331, 3) := by decide +kernel
theorem dX12_child_188 : decode cX12_child 188 = .ok (.iload 5, 2) := by decide +kernel
theorem dX12_child_190 : decode cX12_child 190 = .ok (.invokevirtual 334, 3) := by decide +kernel
theorem dX12_child_193 : decode cX12_child 193 = .ok (.aload_n 0, 1) := by decide +kernel
theorem dX12_child_194 : decode cX12_child 194 = .ok (.iload 4, 2) := by decide +kernel
theorem dX12_child_196 : decode cX12_child 196 = .ok (.invokevirtual 337, 3) := by decide +kernel
theorem dX12_child_199 : decode cX12_child 199 = .ok (.aload_n 0, 1) := by decide +kernel
theorem dX12_child_200 : decode cX12_child 200 = .ok (.getfield 147, 3) := by decide +kernel
theorem dX12_child_203 : decode cX12_child 203 = .ok (.iconst 0, 1) := by decide +kernel
theorem dX12_child_204 : decode cX12_child 204 = .ok (.aload_n 0, 1) := by decide +kernel
theorem dX12_child_205 : decode cX12_child 205 = .ok (.getfield 147, 3) := by decide +kernel
theorem dX12_child_208 : decode cX12_child 208 = .ok (.iconst 0, 1) := by decide +kernel
theorem dX12_child_209 : decode cX12_child 209 = .ok (.iaload, 1) := by decide +kernel
theorem dX12_child_210 : decode cX12_child 210 = .ok (.aload_n 0, 1) := by decide +kernel
theorem dX12_child_211 : decode cX12_child 211 = .ok (.getfield 150, 3) := by decide +kernel
theorem dX12_child_214 : decode cX12_child 214 = .ok (.iconst 0, 1) := by decide +kernel
theorem dX12_child_215 : decode cX12_child 215 = .ok (.iaload, 1) := by decide +kernel
theorem dX12_child_216 : decode cX12_child 216 = .ok (.invokestatic 182, 3) := by decide +kernel
theorem dX12_child_219 : decode cX12_child 219 = .ok (.iastore, 1) := by decide +kernel
theorem dX12_child_220 : decode cX12_child 220 = .ok (.aload_n 0, 1) := by decide +kernel
theorem dX12_child_221 : decode cX12_child 221 = .ok (.getfield 147, 3) := by decide +kernel
theorem dX12_child_224 : decode cX12_child 224 = .ok (.iconst 1, 1) := by decide +kernel
theorem dX12_child_225 : decode cX12_child 225 = .ok (.aload_n 0, 1) := by decide +kernel
theorem dX12_child_226 : decode cX12_child 226 = .ok (.getfield 147, 3) := by decide +kernel
theorem dX12_child_229 : decode cX12_child 229 = .ok (.iconst 1, 1) := by decide +kernel
theorem dX12_child_230 : decode cX12_child 230 = .ok (.iaload, 1) := by decide +kernel
theorem dX12_child_231 : decode cX12_child 231 = .ok (.aload_n 0, 1) := by decide +kernel
theorem dX12_child_232 : decode cX12_child 232 = .ok (.getfield 150, 3) := by decide +kernel
theorem dX12_child_235 : decode cX12_child 235 = .ok (.iconst 1, 1) := by decide +kernel
theorem dX12_child_236 : decode cX12_child 236 = .ok (.iaload, 1) := by decide +kernel
theorem dX12_child_237 : decode cX12_child 237 = .ok (.invokestatic 182, 3) := by decide +kernel
theorem dX12_child_240 : decode cX12_child 240 = .ok (.iastore, 1) := by decide +kernel
theorem dX12_child_241 : decode cX12_child 241 = .ok (.aload_n 0, 1) := by decide +kernel
theorem dX12_child_242 : decode cX12_child 242 = .ok (.getfield 147, 3) := by decide +kernel
theorem dX12_child_245 : decode cX12_child 245 = .ok (.iconst 2, 1) := by decide +kernel
theorem dX12_child_246 : decode cX12_child 246 = .ok (.aload_n 0, 1) := by decide +kernel
theorem dX12_child_247 : decode cX12_child 247 = .ok (.getfield 147, 3) := by decide +kernel
theorem dX12_child_250 : decode cX12_child 250 = .ok (.iconst 2, 1) := by decide +kernel
theorem dX12_child_251 : decode cX12_child 251 = .ok (.iaload, 1) := by decide +kernel
theorem dX12_child_252 : decode cX12_child 252 = .ok (.aload_n 0, 1) := by decide +kernel
theorem dX12_child_253 : decode cX12_child 253 = .ok (.getfield 150, 3) := by decide +kernel
theorem dX12_child_256 : decode cX12_child 256 = .ok (.iconst 2, 1) := by decide +kernel
theorem dX12_child_257 : decode cX12_child 257 = .ok (.iaload, 1) := by decide +kernel
theorem dX12_child_258 : decode cX12_child 258 = .ok (.invokestatic 178, 3) := by decide +kernel
theorem dX12_child_261 : decode cX12_child 261 = .ok (.iastore, 1) := by decide +kernel
theorem dX12_child_262 : decode cX12_child 262 = .ok (.aload_n 0, 1) := by decide +kernel
theorem dX12_child_263 : decode cX12_child 263 = .ok (.getfield 147, 3) := by decide +kernel
theorem dX12_child_266 : decode cX12_child 266 = .ok (.iconst 3, 1) := by decide +kernel
theorem dX12_child_267 : decode cX12_child 267 = .ok (.aload_n 0, 1) := by decide +kernel
theorem dX12_child_268 : decode cX12_child 268 = .ok (.getfield 147, 3) := by decide +kernel
theorem dX12_child_271 : decode cX12_child 271 = .ok (.iconst 3, 1) := by decide +kernel
theorem dX12_child_272 : decode cX12_child 272 = .ok (.iaload, 1) := by decide +kernel
theorem dX12_child_273 : decode cX12_child 273 = .ok (.aload_n 0, 1) := by decide +kernel
theorem dX12_child_274 : decode cX12_child 274 = .ok (.getfield 150, 3) := by decide +kernel
theorem dX12_child_277 : decode cX12_child 277 = .ok (.iconst 3, 1) := by decide +kernel
theorem dX12_child_278 : decode cX12_child 278 = .ok (.iaload, 1) := by decide +kernel
theorem dX12_child_279 : decode cX12_child 279 = .ok (.invokestatic 178, 3) := by decide +kernel
theorem dX12_child_282 : decode cX12_child 282 = .ok (.iastore, 1) := by decide +kernel
theorem dX12_child_283 : decode cX12_child 283 = .ok (.aload_n 0, 1) := by decide +kernel
theorem dX12_child_284 : decode cX12_child 284 = .ok (.getfield 72, 3) := by decide +kernel
theorem dX12_child_287 : decode cX12_child 287 = .ok (.iload 5, 2) := by decide +kernel
theorem dX12_child_289 : decode cX12_child 289 = .ok (.aload_n 0, 1) := by decide +kernel
theorem dX12_child_290 : decode cX12_child 290 = .ok (.getfield 144, 3) := by decide +kernel
theorem dX12_child_293 : decode cX12_child 293 = .ok (.iastore, 1) := by decide +kernel
theorem dX12_child_294 : decode cX12_child 294 = .ok (.iconst 0, 1) := by decide +kernel
theorem dX12_child_295 : decode cX12_child 295 = .ok (.istore 6, 2) := by decide +kernel
theorem dX12_child_297 : decode cX12_child 297 = .ok (.iload 6, 2) := by decide +kernel
theorem dX12_child_299 : decode cX12_child 299 = .ok (.iconst 4, 1) := by decide +kernel
theorem dX12_child_300 : decode cX12_child 300 = .ok (.if_icmp .ge 28, 3) := by decide +kernel
theorem dX12_child_303 : decode cX12_child 303 = .ok (.aload_n 0, 1) := by decide +kernel
theorem dX12_child_304 : decode cX12_child 304 = .ok (.getfield 75, 3) := by decide +kernel
theorem dX12_child_307 : decode cX12_child 307 = .ok (.iconst 4, 1) := by decide +kernel
theorem dX12_child_308 : decode cX12_child 308 = .ok (.iload 5, 2) := by decide +kernel
theorem dX12_child_310 : decode cX12_child 310 = .ok (.imul, 1) := by decide +kernel
theorem dX12_child_311 : decode cX12_child 311 = .ok (.iload 6, 2) := by decide +kernel
theorem dX12_child_313 : decode cX12_child 313 = .ok (.iadd, 1) := by decide +kernel
theorem dX12_child_314 : decode cX12_child 314 = .ok (.aload_n 0, 1) := by decide +kernel
theorem dX12_child_315 : decode cX12_child 315 = .ok (.getfield 147, 3) := by decide +kernel
theorem dX12_child_318 : decode cX12_child 318 = .ok (.iload 6, 2) := by decide +kernel
theorem dX12_child_320 : decode cX12_child 320 = .ok (.iaload, 1) := by decide +kernel
theorem dX12_child_321 : decode cX12_child 321 = .ok (.iastore, 1) := by decide +kernel
theorem dX12_child_322 : decode cX12_child 322 = .ok (.iinc 6 1, 3) := by decide +kernel
theorem dX12_child_325 : decode cX12_child 325 = .ok (.goto (-28), 3) := by decide +kernel
theorem dX12_child_328 : decode cX12_child 328 = .ok (.return_, 1) := by decide +kernel
set_option maxHeartbeats 4000000 in
set_option maxRecDepth 100000 in
theorem m_X12_child (l : Launch) {Z : pZ} (S : pSh Z) {h : pH} (I : Iv Z h) (label : Int32) (width : Int32) (tall : Int32) (E9 : mE h) (S9 : mS h) (K9 : mK h) (ht : (h 137 25).toInt ≤ 599) (hb9 : (h 137 27).toInt ≤ 599) (hq : (h 137 82).toInt ≤ 6980) : pMet l yX12_child cX12_child 7 none 4 0 0 99 Z h [.ref (zB Z + 137), .int label, .int width, .int tall] (pQv Z (fun Z1 h1 => Z = Z1 ∧ Iv Z h1 ∧ agr [(137, 0), (137, 18), (137, 19), (137, 20), (137, 22), (137, 21), (137, 23), (137, 40), (137, 48), (137, 56), (137, 58), (137, 70), (137, 71), (153, 1000), (180, 1000), (172, 1000), (173, 1000), (171, 1000), (174, 1000), (175, 1000), (176, 1000), (177, 1000), (137, 25), (143, 1000), (137, 82), (186, 1000), (162, 1000), (163, 1000), (165, 1000), (166, 1000), (164, 1000), (168, 1000), (169, 1000), (170, 1000), (167, 1000), (160, 1000), (179, 1000), (156, 1000), (157, 1000)] h h1 ∧ (mE h1) ∧ (mS h1) ∧ (mK h1) ∧ ((h 137 25).toInt + (0) ≤ (h1 137 25).toInt ∧ (h1 137 25).toInt ≤ (h 137 25).toInt + (1)) ∧ ((h 137 82).toInt + (0) ≤ (h1 137 82).toInt ∧ (h1 137 82).toInt ≤ (h 137 82).toInt + (1)))) := by
  refine pOfW (lv := [(0, .ref (zB Z + 137)), (1, .int label), (2, .int width), (3, .int tall)]) (by decide) (Nat.le_of_ble_eq_true rfl) rfl ?_
  intro p e s m below meth c ls M hr hlk hnm V hl
  have hx := M.1.1
  have hb := M.1.2.1
  have A : agr [] h h := agr.rf
  have i_56 : 0 ≤ (h 137 56).toInt ∧ (h 137 56).toInt ≤ 40 := I.get (sm_this S) 56
  have i_70 : 0 ≤ (h 137 70).toInt ∧ (h 137 70).toInt ≤ 40 := I.get (sm_this S) 70
  have i_58 : 0 ≤ (h 137 58).toInt ∧ (h 137 58).toInt ≤ 40 := I.get (sm_this S) 58
  have i_25 : 0 ≤ (h 137 25).toInt ∧ (h 137 25).toInt ≤ 600 := I.get (sm_this S) 25
  have i_27 : 0 ≤ (h 137 27).toInt ∧ (h 137 27).toInt ≤ 600 := I.get (sm_this S) 27
  have i_82 : 0 ≤ (h 137 82).toInt ∧ (h 137 82).toInt ≤ 7000 := I.get (sm_this S) 82
  have i_83 : 0 ≤ (h 137 83).toInt ∧ (h 137 83).toInt ≤ 7000 := I.get (sm_this S) 83
  have i_2 : 0 ≤ (h 137 2).toInt ∧ (h 137 2).toInt ≤ 64 := I.get (sm_this S) 2
  have n9 := S9.num
  have S0 := S9
  have z56 : ((h 137 56).toNatClampNeg : Int) = (h 137 56).toInt := pi_cl i_56.1
  have J_297 : ∀ (n9 : Nat) (x297_4 : Int32) (x297_5 : Int32) (x297_6 : Int32) (hJ : pH) (H : Heap) (locs : List Loc) (ls : Array Slot), pV Z hJ s.heap H locs → Iv Z hJ → agr [(137, 0), (137, 25), (137, 48), (137, 56), (137, 58), (137, 70), (137, 82), (143, 1000), (156, 1000), (157, 1000), (160, 1000), (162, 1000), (163, 1000), (164, 1000), (165, 1000), (166, 1000), (167, 1000), (168, 1000), (169, 1000), (170, 1000), (171, 1000), (172, 1000), (173, 1000), (174, 1000), (175, 1000), (176, 1000), (177, 1000), (179, 1000), (180, 1000), (186, 1000)] h hJ → lv_has ls 7 [(0, .ref (zB Z + 137)), (1, .int label), (2, .int width), (3, .int tall), (4, .int x297_4), (5, .int x297_5), (6, .int x297_6)] → (0 ≤ x297_5.toInt ∧ x297_5.toInt ≤ 8) → (0 ≤ x297_6.toInt ∧ x297_6.toInt ≤ 4) → ((h 137 56).toInt + (1) ≤ (hJ 137 56).toInt ∧ (hJ 137 56).toInt ≤ (h 137 56).toInt + (1)) → ((h 137 70).toInt + (1) ≤ (hJ 137 70).toInt ∧ (hJ 137 70).toInt ≤ (h 137 70).toInt + (1)) → ((h 137 58).toInt + (1) ≤ (hJ 137 58).toInt ∧ (hJ 137 58).toInt ≤ (h 137 58).toInt + (1)) → ((h 137 25).toInt + (1) ≤ (hJ 137 25).toInt ∧ (hJ 137 25).toInt ≤ (h 137 25).toInt + (1)) → ((h 137 27).toInt + (0) ≤ (hJ 137 27).toInt ∧ (hJ 137 27).toInt ≤ (h 137 27).toInt + (0)) → ((h 137 82).toInt + (0) ≤ (hJ 137 82).toInt ∧ (hJ 137 82).toInt ≤ (h 137 82).toInt + (1)) → ((h 137 83).toInt + (0) ≤ (hJ 137 83).toInt ∧ (hJ 137 83).toInt ≤ (h 137 83).toInt + (0)) → ((h 137 2).toInt + (0) ≤ (hJ 137 2).toInt ∧ (hJ 137 2).toInt ≤ (h 137 2).toInt + (0)) → (1 ≤ (h 137 70).toInt) → ((h 137 56).toInt ≤ 39) → (x297_5.toInt ≤ 7) → mE hJ → mS hJ → mK hJ → (4 - x297_6.toInt).toNat < n9 → W p l e (pRm 4 0 0 99) s m ([.ref (zB Z + 137), .int label, .int width, .int tall] : List Value).toArray below meth c H locs 0 0 (MQ below (pQv Z (fun Z1 h1 => Z = Z1 ∧ Iv Z h1 ∧ agr [(137, 0), (137, 18), (137, 19), (137, 20), (137, 22), (137, 21), (137, 23), (137, 40), (137, 48), (137, 56), (137, 58), (137, 70), (137, 71), (153, 1000), (180, 1000), (172, 1000), (173, 1000), (171, 1000), (174, 1000), (175, 1000), (176, 1000), (177, 1000), (137, 25), (143, 1000), (137, 82), (186, 1000), (162, 1000), (163, 1000), (165, 1000), (166, 1000), (164, 1000), (168, 1000), (169, 1000), (170, 1000), (167, 1000), (160, 1000), (179, 1000), (156, 1000), (157, 1000)] h h1 ∧ (mE h1) ∧ (mS h1) ∧ (mK h1) ∧ ((h 137 25).toInt + (0) ≤ (h1 137 25).toInt ∧ (h1 137 25).toInt ≤ (h 137 25).toInt + (1)) ∧ ((h 137 82).toInt + (0) ≤ (h1 137 82).toInt ∧ (h1 137 82).toInt ≤ (h 137 82).toInt + (1)))) ([.ref (zB Z + 137), .int label, .int width, .int tall] : List Value).toArray s 0 0 (pA (zB Z))) (F0 m 297 ls []) := by
    intro n9
    induction n9 with
    | zero => intro x297_4 x297_5 x297_6 hJ H locs ls V I A hl g_297_5 g_297_6 gd_297_56 gd_297_70 gd_297_58 gd_297_25 gd_297_27 gd_297_82 gd_297_83 gd_297_2 eA eO eN E9 S9 K9 hm9; exact absurd hm9 (Nat.not_lt_zero _)
    | succ n9 ih_297 =>
      intro x297_4 x297_5 x297_6 hJ H locs ls V I A hl g_297_5 g_297_6 gd_297_56 gd_297_70 gd_297_58 gd_297_25 gd_297_27 gd_297_82 gd_297_83 gd_297_2 eA eO eN E9 S9 K9 hm9
      refine lv_iload hx hb dX12_child_297 (lv_at hl 6 rfl) ?_
      refine lv_iconst (v := 4) hx hb dX12_child_299 (by decide) ?_
      refine lv_icmp_ge (tgt := 328) hx hb dX12_child_300 (by decide) (fun c_300 => ?_) (fun c_300 => ?_)
      · skip
        have k_4 : (4 : Int32).toInt = 4 := rfl
        have c_300 := pi_le.mp c_300
        exact pe_v M V rfl rfl hr hlk ⟨rfl, I, A.wk (by decide), (E9.congr rfl rfl), (S9.congr rfl rfl rfl rfl rfl rfl rfl), (K9.congr rfl rfl), (show (h 137 25).toInt + (0) ≤ (hJ 137 25).toInt ∧ (hJ 137 25).toInt ≤ (h 137 25).toInt + (1) by omega), (show (h 137 82).toInt + (0) ≤ (hJ 137 82).toInt ∧ (hJ 137 82).toInt ≤ (h 137 82).toInt + (1) by omega)⟩ ⟨Nat.le_refl _, Nat.le_refl _⟩ dX12_child_328
      · skip
        have k_4 : (4 : Int32).toInt = 4 := rfl
        have c_300 := pi_le' c_300
        refine lv_aload_n hx hb dX12_child_303 rfl (lv_at hl 0 rfl) ?_
        refine pg_r M V 12 43 (sm_this S) pC12 fk12_43 (sm_childClip S).2.2 lkF_X12_75 dX12_child_304 ?_
        refine lv_iconst (v := 4) hx hb dX12_child_307 (by decide) ?_
        refine lv_iload hx hb dX12_child_308 (lv_at hl 5 rfl) ?_
        refine lv_imul hx hb dX12_child_310 ?_
        refine lv_topi (fun v1 ev1 => ?_)
        refine lv_iload hx hb dX12_child_311 (lv_at hl 6 rfl) ?_
        refine lv_iadd hx hb dX12_child_313 ?_
        refine lv_topi (fun v2 ev2 => ?_)
        refine lv_aload_n hx hb dX12_child_314 rfl (lv_at hl 0 rfl) ?_
        refine pg_r M V 12 72 (sm_this S) pC12 fk12_72 (sm_clip S).2.2 lkF_X12_147 dX12_child_315 ?_
        refine lv_iload hx hb dX12_child_318 (lv_at hl 6 rfl) ?_
        refine pa_i M V (sm_clip S).1 (by rw [(sm_clip S).2.1]; exact pi_in (by omega)) dX12_child_320 ?_
        refine lv_topi (fun v3 ev3 => ?_)
        have tv1 : v1.toInt = 4 * x297_5.toInt := by rw [ev1]; have z9 := pi_mul (x := (4 : Int32)) (y := x297_5); rw [k_4] at z9; exact z9 (by omega)
        have tv2 : v2.toInt = v1.toInt + x297_6.toInt := by rw [ev2]; exact pi_add (by omega)
        refine ps_i M V (sm_childClip S).1 (by rw [(sm_childClip S).2.1]; exact pi_in (by omega)) dX12_child_321 (fun H locs V => ?_)
        have A := A.upA (o := 157) (k := v2.toNatClampNeg) (v := v3) (by decide)
        have I := I.up (k := v2.toNatClampNeg) (v := v3) (sm_childClip S).1 (pi_full _)
        obtain ⟨v4, ev4⟩ : ∃ y : Int32, y = x297_6 + 1 := ⟨_, rfl⟩
        refine lv_iinc (v := v4) (lv' := [(6, .int v4), (0, .ref (zB Z + 137)), (1, .int label), (2, .int width), (3, .int tall), (4, .int x297_4), (5, .int x297_5)]) hx hb dX12_child_322 hl (k := 6) rfl (by rw [ev4]; rfl) (by decide) rfl (fun ls hl => ?_)
        refine lv_goto (tgt := 297) hx hb dX12_child_325 (by decide) ?_
        have k_1 : (1 : Int32).toInt = 1 := rfl
        have tv4 : v4.toInt = x297_6.toInt + 1 := by rw [ev4]; have z9 := pi_add (x := x297_6) (y := (1 : Int32)); rw [k_1] at z9; exact z9 (by omega)
        exact ih_297 x297_4 x297_5 v4 _ _ _ _ V I (A.wk (by decide)) (lv_sub hl [1, 2, 3, 4, 5, 6, 0] rfl) (by omega) (by omega) (show (h 137 56).toInt + (1) ≤ (hJ 137 56).toInt ∧ (hJ 137 56).toInt ≤ (h 137 56).toInt + (1) by omega) (show (h 137 70).toInt + (1) ≤ (hJ 137 70).toInt ∧ (hJ 137 70).toInt ≤ (h 137 70).toInt + (1) by omega) (show (h 137 58).toInt + (1) ≤ (hJ 137 58).toInt ∧ (hJ 137 58).toInt ≤ (h 137 58).toInt + (1) by omega) (show (h 137 25).toInt + (1) ≤ (hJ 137 25).toInt ∧ (hJ 137 25).toInt ≤ (h 137 25).toInt + (1) by omega) (show (h 137 27).toInt + (0) ≤ (hJ 137 27).toInt ∧ (hJ 137 27).toInt ≤ (h 137 27).toInt + (0) by omega) (show (h 137 82).toInt + (0) ≤ (hJ 137 82).toInt ∧ (hJ 137 82).toInt ≤ (h 137 82).toInt + (1) by omega) (show (h 137 83).toInt + (0) ≤ (hJ 137 83).toInt ∧ (hJ 137 83).toInt ≤ (h 137 83).toInt + (0) by omega) (show (h 137 2).toInt + (0) ≤ (hJ 137 2).toInt ∧ (hJ 137 2).toInt ≤ (h 137 2).toInt + (0) by omega) (by omega) (by omega) (by omega) (E9.congr rfl rfl) (S9.congr rfl rfl rfl rfl rfl rfl rfl) (K9.congr rfl rfl) (by omega) 
  have J_127 : ∀ (x127_4 : Int32) (x127_5 : Int32) (hJ : pH) (H : Heap) (locs : List Loc) (ls : Array Slot), pV Z hJ s.heap H locs → Iv Z hJ → agr [(137, 0), (137, 25), (137, 48), (137, 82), (143, 1000), (160, 1000), (171, 1000), (172, 1000), (173, 1000), (174, 1000), (175, 1000), (176, 1000), (177, 1000), (180, 1000), (186, 1000)] h hJ → lv_has ls 7 [(0, .ref (zB Z + 137)), (1, .int label), (2, .int width), (3, .int tall), (4, .int x127_4), (5, .int x127_5)] → (0 ≤ x127_5.toInt ∧ x127_5.toInt ≤ 8) → ((h 137 56).toInt + (0) ≤ (hJ 137 56).toInt ∧ (hJ 137 56).toInt ≤ (h 137 56).toInt + (0)) → ((h 137 70).toInt + (0) ≤ (hJ 137 70).toInt ∧ (hJ 137 70).toInt ≤ (h 137 70).toInt + (0)) → ((h 137 58).toInt + (0) ≤ (hJ 137 58).toInt ∧ (hJ 137 58).toInt ≤ (h 137 58).toInt + (0)) → ((h 137 25).toInt + (1) ≤ (hJ 137 25).toInt ∧ (hJ 137 25).toInt ≤ (h 137 25).toInt + (1)) → ((h 137 27).toInt + (0) ≤ (hJ 137 27).toInt ∧ (hJ 137 27).toInt ≤ (h 137 27).toInt + (0)) → ((h 137 82).toInt + (0) ≤ (hJ 137 82).toInt ∧ (hJ 137 82).toInt ≤ (h 137 82).toInt + (1)) → ((h 137 83).toInt + (0) ≤ (hJ 137 83).toInt ∧ (hJ 137 83).toInt ≤ (h 137 83).toInt + (0)) → ((h 137 2).toInt + (0) ≤ (hJ 137 2).toInt ∧ (hJ 137 2).toInt ≤ (h 137 2).toInt + (0)) → (1 ≤ (h 137 70).toInt) → ((h 137 56).toInt ≤ 39) → (x127_5.toInt ≤ 7) → mE hJ → mS hJ → mK hJ → W p l e (pRm 4 0 0 99) s m ([.ref (zB Z + 137), .int label, .int width, .int tall] : List Value).toArray below meth c H locs 0 0 (MQ below (pQv Z (fun Z1 h1 => Z = Z1 ∧ Iv Z h1 ∧ agr [(137, 0), (137, 18), (137, 19), (137, 20), (137, 22), (137, 21), (137, 23), (137, 40), (137, 48), (137, 56), (137, 58), (137, 70), (137, 71), (153, 1000), (180, 1000), (172, 1000), (173, 1000), (171, 1000), (174, 1000), (175, 1000), (176, 1000), (177, 1000), (137, 25), (143, 1000), (137, 82), (186, 1000), (162, 1000), (163, 1000), (165, 1000), (166, 1000), (164, 1000), (168, 1000), (169, 1000), (170, 1000), (167, 1000), (160, 1000), (179, 1000), (156, 1000), (157, 1000)] h h1 ∧ (mE h1) ∧ (mS h1) ∧ (mK h1) ∧ ((h 137 25).toInt + (0) ≤ (h1 137 25).toInt ∧ (h1 137 25).toInt ≤ (h 137 25).toInt + (1)) ∧ ((h 137 82).toInt + (0) ≤ (h1 137 82).toInt ∧ (h1 137 82).toInt ≤ (h 137 82).toInt + (1)))) ([.ref (zB Z + 137), .int label, .int width, .int tall] : List Value).toArray s 0 0 (pA (zB Z))) (F0 m 127 ls []) := by
    intro x127_4 x127_5 hJ H locs ls V I A hl g_127_5 gd_127_56 gd_127_70 gd_127_58 gd_127_25 gd_127_27 gd_127_82 gd_127_83 gd_127_2 eA eO eN E9 S9 K9
    refine lv_aload_n hx hb dX12_child_127 rfl (lv_at hl 0 rfl) ?_
    refine pg_r M V 12 46 (sm_this S) pC12 fk12_46 (sm_childScroll S).2.2 lkF_X12_84 dX12_child_128 ?_
    refine lv_iload hx hb dX12_child_131 (lv_at hl 5 rfl) ?_
    refine lv_aload_n hx hb dX12_child_133 rfl (lv_at hl 0 rfl) ?_
    refine pg_r M V 12 46 (sm_this S) pC12 fk12_46 (sm_childScroll S).2.2 lkF_X12_84 dX12_child_134 ?_
    refine lv_iload hx hb dX12_child_137 (lv_at hl 5 rfl) ?_
    refine pa_i M V (sm_childScroll S).1 (by rw [(sm_childScroll S).2.1]; exact pi_in (by omega)) dX12_child_139 ?_
    refine lv_topi (fun v5 ev5 => ?_)
    refine lv_iconst (v := 0) hx hb dX12_child_140 (by decide) ?_
    refine lv_iconst (v := 0) hx hb dX12_child_141 (by decide) ?_
    refine lv_aload_n hx hb dX12_child_142 rfl (lv_at hl 0 rfl) ?_
    refine pg_r M V 12 47 (sm_this S) pC12 fk12_47 (sm_childLowest S).2.2 lkF_X12_87 dX12_child_143 ?_
    refine lv_iload hx hb dX12_child_146 (lv_at hl 5 rfl) ?_
    refine pa_i M V (sm_childLowest S).1 (by rw [(sm_childLowest S).2.1]; exact pi_in (by omega)) dX12_child_148 ?_
    refine lv_topi (fun v6 ev6 => ?_)
    refine lv_iload_n hx hb dX12_child_149 rfl (lv_at hl 3 rfl) ?_
    refine lv_isub hx hb dX12_child_150 ?_
    refine lv_topi (fun v7 ev7 => ?_)
    refine pk_i (pr_S M V (m_X12_max l (Z := Z) (h := _) (0 : Int32) v7) km_X12_max lkM_X12_182 rfl hl.1 rfl (Nat.le_of_ble_eq_true rfl) ⟨Nat.le_of_ble_eq_true rfl, Nat.le_of_ble_eq_true rfl⟩ ⟨Nat.le_of_ble_eq_true rfl, Nat.le_of_ble_eq_true rfl⟩ dX12_child_151) V (fun r8 Zr8 hr8 H locs pr8 _ _ V => ?_)
    obtain ⟨rfl, rfl, fr8_0, fr8_1, fr8_2⟩ := pr8
    have k_0 : (0 : Int32).toInt = 0 := rfl
    refine pk_i (pr_S M V (m_X12_between l (Z := Z) (h := _) v5 (0 : Int32) r8) km_X12_between lkM_X12_327 rfl hl.1 rfl (Nat.le_of_ble_eq_true rfl) ⟨Nat.le_of_ble_eq_true rfl, Nat.le_of_ble_eq_true rfl⟩ ⟨Nat.le_of_ble_eq_true rfl, Nat.le_of_ble_eq_true rfl⟩ dX12_child_154) V (fun r9 Zr9 hr9 H locs pr9 _ _ V => ?_)
    obtain ⟨rfl, rfl, fr9_0, fr9_1⟩ := pr9
    refine ps_i M V (sm_childScroll S).1 (by rw [(sm_childScroll S).2.1]; exact pi_in (by omega)) dX12_child_157 (fun H locs V => ?_)
    have A := A.upA (o := 160) (k := x127_5.toNatClampNeg) (v := r9) (by decide)
    have I := I.up (k := x127_5.toNatClampNeg) (v := r9) (sm_childScroll S).1 (pi_full _)
    refine lv_aload_n hx hb dX12_child_158 rfl (lv_at hl 0 rfl) ?_
    refine lv_iconst (v := 1) hx hb dX12_child_159 (by decide) ?_
    refine lv_aload_n hx hb dX12_child_160 rfl (lv_at hl 0 rfl) ?_
    refine lv_aload_n hx hb dX12_child_161 rfl (lv_at hl 0 rfl) ?_
    refine pg_r M V 12 73 (sm_this S) pC12 fk12_73 (sm_item S).2.2 lkF_X12_150 dX12_child_162 ?_
    refine lv_iconst (v := 0) hx hb dX12_child_165 (by decide) ?_
    refine pa_i M V (sm_item S).1 (by rw [(sm_item S).2.1]; exact pi_in (by omega)) dX12_child_166 ?_
    refine lv_topi (fun v10 ev10 => ?_)
    refine lv_iconst (v := 2) hx hb dX12_child_167 (by decide) ?_
    refine lv_iadd hx hb dX12_child_168 ?_
    refine lv_topi (fun v11 ev11 => ?_)
    refine lv_aload_n hx hb dX12_child_169 rfl (lv_at hl 0 rfl) ?_
    refine pg_r M V 12 73 (sm_this S) pC12 fk12_73 (sm_item S).2.2 lkF_X12_150 dX12_child_170 ?_
    refine lv_iconst (v := 1) hx hb dX12_child_173 (by decide) ?_
    have k_1 : (1 : Int32).toInt = 1 := rfl
    refine pa_i M V (sm_item S).1 (by rw [(sm_item S).2.1]; exact pi_in (by omega)) dX12_child_174 ?_
    refine lv_topi (fun v12 ev12 => ?_)
    refine lv_iconst (v := 2) hx hb dX12_child_175 (by decide) ?_
    refine lv_iadd hx hb dX12_child_176 ?_
    refine lv_topi (fun v13 ev13 => ?_)
    refine lv_aload_n hx hb dX12_child_177 rfl (lv_at hl 0 rfl) ?_
    refine pg_r M V 12 46 (sm_this S) pC12 fk12_46 (sm_childScroll S).2.2 lkF_X12_84 dX12_child_178 ?_
    refine lv_iload hx hb dX12_child_181 (lv_at hl 5 rfl) ?_
    refine pa_iv M V (v := r9) (sm_childScroll S).1 (by rw [(sm_childScroll S).2.1]; exact pi_in (by omega)) u2_at dX12_child_183 ?_
    refine lv_isub hx hb dX12_child_184 ?_
    refine lv_topi (fun v14 ev14 => ?_)
    refine pk_i (pr_V M V (m_X12_area l S I v11 v14 (show (hJ 137 70).toInt ≤ 39 by omega)) km_X12_area (sm_this S) pC12 lkM_X12_331 rfl hl.1 rfl (Nat.le_of_ble_eq_true rfl) ⟨Nat.le_of_ble_eq_true rfl, Nat.le_of_ble_eq_true rfl⟩ ⟨Nat.le_of_ble_eq_true rfl, Nat.le_of_ble_eq_true rfl⟩ dX12_child_185) V (fun r15 Zr15 hr15 H locs pr15 _ _ V => ?_)
    obtain ⟨rfl, I, pA_r15, fr15_0, fr15_1⟩ := pr15
    have fr15_0 : r15.toInt = (hJ 137 70).toInt ∧ 0 ≤ r15.toInt ∧ r15.toInt ≤ 39 := fr15_0
    have fr15_1 : (hJ 137 70).toInt + (1) ≤ (hr15 137 70).toInt ∧ (hr15 137 70).toInt ≤ (hJ 137 70).toInt + (1) := fr15_1
    have A := A.wk (l3 := [(137, 0), (137, 25), (137, 48), (137, 82), (143, 1000), (160, 1000), (171, 1000), (172, 1000), (173, 1000), (174, 1000), (175, 1000), (176, 1000), (177, 1000), (180, 1000), (186, 1000), (137, 70), (168, 1000), (169, 1000), (170, 1000)]) (by decide)
    have A := A.tr pA_r15 (by decide)
    have E9 : mE hr15 := E9.congr (pA_r15.get 137 2 (by decide)) (pA_r15.row 138 (by decide))
    have K9 : mK hr15 := K9.congr (pA_r15.row 185 (by decide)) (pA_r15.row 184 (by decide))
    have w_r15_r162 : hr15 162 = (hJ 162) := pA_r15.row 162 (by decide)
    have w_r15_r163 : hr15 163 = (hJ 163) := pA_r15.row 163 (by decide)
    have w_r15_r165 : hr15 165 = (hJ 165) := pA_r15.row 165 (by decide)
    have w_r15_r166 : hr15 166 = (hJ 166) := pA_r15.row 166 (by decide)
    have w_r15_56 : (hr15 137 56).toInt = (hJ 137 56).toInt := congrArg Int32.toInt (pA_r15.get 137 56 (by decide))
    have w_r15_58 : (hr15 137 58).toInt = (hJ 137 58).toInt := congrArg Int32.toInt (pA_r15.get 137 58 (by decide))
    have w_r15_25 : (hr15 137 25).toInt = (hJ 137 25).toInt := congrArg Int32.toInt (pA_r15.get 137 25 (by decide))
    have w_r15_27 : (hr15 137 27).toInt = (hJ 137 27).toInt := congrArg Int32.toInt (pA_r15.get 137 27 (by decide))
    have w_r15_82 : (hr15 137 82).toInt = (hJ 137 82).toInt := congrArg Int32.toInt (pA_r15.get 137 82 (by decide))
    have w_r15_83 : (hr15 137 83).toInt = (hJ 137 83).toInt := congrArg Int32.toInt (pA_r15.get 137 83 (by decide))
    have w_r15_2 : (hr15 137 2).toInt = (hJ 137 2).toInt := congrArg Int32.toInt (pA_r15.get 137 2 (by decide))
    refine lv_iload hx hb dX12_child_188 (lv_at hl 5 rfl) ?_
    have so_56 : _ = h 137 56 := A.get 137 56 (by decide)
    have so_58 : _ = h 137 58 := A.get 137 58 (by decide)
    have st_162 : _ = h 162 := A.row 162 (by decide)
    have st_163 : _ = h 163 := A.row 163 (by decide)
    have st_165 : _ = h 165 := A.row 165 (by decide)
    have st_166 : _ = h 166 := A.row 166 (by decide)
    refine pk_v (pr_V M V (m_X12_openThing l S I (1 : Int32) r15 x127_5 (by omega) (by omega) (by omega) (show (hr15 137 56).toInt ≤ 39 by omega)) km_X12_openThing (sm_this S) pC12 lkM_X12_334 rfl hl.1 rfl (Nat.le_of_ble_eq_true rfl) ⟨Nat.le_of_ble_eq_true rfl, Nat.le_of_ble_eq_true rfl⟩ ⟨Nat.le_of_ble_eq_true rfl, Nat.le_of_ble_eq_true rfl⟩ dX12_child_190) V (fun Zr16 hr16 H locs pr16 _ _ V => ?_)
    obtain ⟨rfl, I, pA_r16, fr16_0, fr16_1, fr16_2, fr16_3, fr16_4⟩ := pr16
    have fr16_4 : (hr15 137 56).toInt + (1) ≤ (hr16 137 56).toInt ∧ (hr16 137 56).toInt ≤ (hr15 137 56).toInt + (1) := fr16_4
    have A := A.wk (l3 := [(137, 0), (137, 25), (137, 48), (137, 82), (143, 1000), (160, 1000), (171, 1000), (172, 1000), (173, 1000), (174, 1000), (175, 1000), (176, 1000), (177, 1000), (180, 1000), (186, 1000), (137, 70), (168, 1000), (169, 1000), (170, 1000), (137, 56), (162, 1000), (163, 1000), (165, 1000), (166, 1000), (164, 1000)]) (by decide)
    have A := A.tr pA_r16 (by decide)
    have E9 : mE hr16 := E9.congr (pA_r16.get 137 2 (by decide)) (pA_r16.row 138 (by decide))
    have K9 : mK hr16 := K9.congr (pA_r16.row 185 (by decide)) (pA_r16.row 184 (by decide))
    have w_r16_70 : (hr16 137 70).toInt = (hr15 137 70).toInt := congrArg Int32.toInt (pA_r16.get 137 70 (by decide))
    have w_r16_58 : (hr16 137 58).toInt = (hr15 137 58).toInt := congrArg Int32.toInt (pA_r16.get 137 58 (by decide))
    have w_r16_25 : (hr16 137 25).toInt = (hr15 137 25).toInt := congrArg Int32.toInt (pA_r16.get 137 25 (by decide))
    have w_r16_27 : (hr16 137 27).toInt = (hr15 137 27).toInt := congrArg Int32.toInt (pA_r16.get 137 27 (by decide))
    have w_r16_82 : (hr16 137 82).toInt = (hr15 137 82).toInt := congrArg Int32.toInt (pA_r16.get 137 82 (by decide))
    have w_r16_83 : (hr16 137 83).toInt = (hr15 137 83).toInt := congrArg Int32.toInt (pA_r16.get 137 83 (by decide))
    have w_r16_2 : (hr16 137 2).toInt = (hr15 137 2).toInt := congrArg Int32.toInt (pA_r16.get 137 2 (by decide))
    refine lv_aload_n hx hb dX12_child_193 rfl (lv_at hl 0 rfl) ?_
    refine lv_iload hx hb dX12_child_194 (lv_at hl 4 rfl) ?_
    refine pk_v (pr_V M V (m_X12_push l S I x127_4 (show (hr16 137 58).toInt ≤ 39 by omega)) km_X12_push (sm_this S) pC12 lkM_X12_337 rfl hl.1 rfl (Nat.le_of_ble_eq_true rfl) ⟨Nat.le_of_ble_eq_true rfl, Nat.le_of_ble_eq_true rfl⟩ ⟨Nat.le_of_ble_eq_true rfl, Nat.le_of_ble_eq_true rfl⟩ dX12_child_196) V (fun Zr17 hr17 H locs pr17 _ _ V => ?_)
    obtain ⟨rfl, I, pA_r17, fr17_0⟩ := pr17
    have fr17_0 : (hr16 137 58).toInt + (1) ≤ (hr17 137 58).toInt ∧ (hr17 137 58).toInt ≤ (hr16 137 58).toInt + (1) := fr17_0
    have A := A.wk (l3 := [(137, 0), (137, 25), (137, 48), (137, 82), (143, 1000), (160, 1000), (171, 1000), (172, 1000), (173, 1000), (174, 1000), (175, 1000), (176, 1000), (177, 1000), (180, 1000), (186, 1000), (137, 70), (168, 1000), (169, 1000), (170, 1000), (137, 56), (162, 1000), (163, 1000), (165, 1000), (166, 1000), (164, 1000), (137, 58), (167, 1000)]) (by decide)
    have A := A.tr pA_r17 (by decide)
    have E9 : mE hr17 := E9.congr (pA_r17.get 137 2 (by decide)) (pA_r17.row 138 (by decide))
    have K9 : mK hr17 := K9.congr (pA_r17.row 185 (by decide)) (pA_r17.row 184 (by decide))
    have w_r17_r162 : hr17 162 = (hr16 162) := pA_r17.row 162 (by decide)
    have w_r17_r163 : hr17 163 = (hr16 163) := pA_r17.row 163 (by decide)
    have w_r17_r165 : hr17 165 = (hr16 165) := pA_r17.row 165 (by decide)
    have w_r17_r166 : hr17 166 = (hr16 166) := pA_r17.row 166 (by decide)
    have w_r17_56 : (hr17 137 56).toInt = (hr16 137 56).toInt := congrArg Int32.toInt (pA_r17.get 137 56 (by decide))
    have w_r17_70 : (hr17 137 70).toInt = (hr16 137 70).toInt := congrArg Int32.toInt (pA_r17.get 137 70 (by decide))
    have w_r17_25 : (hr17 137 25).toInt = (hr16 137 25).toInt := congrArg Int32.toInt (pA_r17.get 137 25 (by decide))
    have w_r17_27 : (hr17 137 27).toInt = (hr16 137 27).toInt := congrArg Int32.toInt (pA_r17.get 137 27 (by decide))
    have w_r17_82 : (hr17 137 82).toInt = (hr16 137 82).toInt := congrArg Int32.toInt (pA_r17.get 137 82 (by decide))
    have w_r17_83 : (hr17 137 83).toInt = (hr16 137 83).toInt := congrArg Int32.toInt (pA_r17.get 137 83 (by decide))
    have w_r17_2 : (hr17 137 2).toInt = (hr16 137 2).toInt := congrArg Int32.toInt (pA_r17.get 137 2 (by decide))
    refine lv_aload_n hx hb dX12_child_199 rfl (lv_at hl 0 rfl) ?_
    refine pg_r M V 12 72 (sm_this S) pC12 fk12_72 (sm_clip S).2.2 lkF_X12_147 dX12_child_200 ?_
    refine lv_iconst (v := 0) hx hb dX12_child_203 (by decide) ?_
    refine lv_aload_n hx hb dX12_child_204 rfl (lv_at hl 0 rfl) ?_
    refine pg_r M V 12 72 (sm_this S) pC12 fk12_72 (sm_clip S).2.2 lkF_X12_147 dX12_child_205 ?_
    refine lv_iconst (v := 0) hx hb dX12_child_208 (by decide) ?_
    refine pa_i M V (sm_clip S).1 (by rw [(sm_clip S).2.1]; exact pi_in (by omega)) dX12_child_209 ?_
    refine lv_topi (fun v18 ev18 => ?_)
    refine lv_aload_n hx hb dX12_child_210 rfl (lv_at hl 0 rfl) ?_
    refine pg_r M V 12 73 (sm_this S) pC12 fk12_73 (sm_item S).2.2 lkF_X12_150 dX12_child_211 ?_
    refine lv_iconst (v := 0) hx hb dX12_child_214 (by decide) ?_
    refine pa_iv M V (v := v10) (sm_item S).1 (by rw [(sm_item S).2.1]; exact pi_in (by omega)) ((congrFun (pA_r17.row 180 (by decide)) _).trans (show _ = v10 from ((congrFun (pA_r16.row 180 (by decide)) _).trans (show _ = v10 from ((congrFun (pA_r15.row 180 (by decide)) _).trans (show _ = v10 from ev10.symm)))))) dX12_child_215 ?_
    refine pk_i (pr_S M V (m_X12_max l (Z := Z) (h := _) v18 v10) km_X12_max lkM_X12_182 rfl hl.1 rfl (Nat.le_of_ble_eq_true rfl) ⟨Nat.le_of_ble_eq_true rfl, Nat.le_of_ble_eq_true rfl⟩ ⟨Nat.le_of_ble_eq_true rfl, Nat.le_of_ble_eq_true rfl⟩ dX12_child_216) V (fun r19 Zr19 hr19 H locs pr19 _ _ V => ?_)
    obtain ⟨rfl, rfl, fr19_0, fr19_1, fr19_2⟩ := pr19
    refine ps_i M V (sm_clip S).1 (by rw [(sm_clip S).2.1]; exact pi_in (by omega)) dX12_child_219 (fun H locs V => ?_)
    have A := A.wk (l3 := [(137, 0), (137, 25), (137, 48), (137, 82), (143, 1000), (160, 1000), (171, 1000), (172, 1000), (173, 1000), (174, 1000), (175, 1000), (176, 1000), (177, 1000), (180, 1000), (186, 1000), (137, 70), (168, 1000), (169, 1000), (170, 1000), (137, 56), (162, 1000), (163, 1000), (165, 1000), (166, 1000), (164, 1000), (137, 58), (167, 1000), (179, 1000)]) (by decide)
    have A := A.upA (o := 179) (k := (0 : Int32).toNatClampNeg) (v := r19) (by decide)
    have I := I.up (k := (0 : Int32).toNatClampNeg) (v := r19) (sm_clip S).1 (pi_full _)
    refine lv_aload_n hx hb dX12_child_220 rfl (lv_at hl 0 rfl) ?_
    refine pg_r M V 12 72 (sm_this S) pC12 fk12_72 (sm_clip S).2.2 lkF_X12_147 dX12_child_221 ?_
    refine lv_iconst (v := 1) hx hb dX12_child_224 (by decide) ?_
    refine lv_aload_n hx hb dX12_child_225 rfl (lv_at hl 0 rfl) ?_
    refine pg_r M V 12 72 (sm_this S) pC12 fk12_72 (sm_clip S).2.2 lkF_X12_147 dX12_child_226 ?_
    refine lv_iconst (v := 1) hx hb dX12_child_229 (by decide) ?_
    refine pa_i M V (sm_clip S).1 (by rw [(sm_clip S).2.1]; exact pi_in (by omega)) dX12_child_230 ?_
    refine lv_topi (fun v20 ev20 => ?_)
    refine lv_aload_n hx hb dX12_child_231 rfl (lv_at hl 0 rfl) ?_
    refine pg_r M V 12 73 (sm_this S) pC12 fk12_73 (sm_item S).2.2 lkF_X12_150 dX12_child_232 ?_
    refine lv_iconst (v := 1) hx hb dX12_child_235 (by decide) ?_
    refine pa_iv M V (v := v12) (sm_item S).1 (by rw [(sm_item S).2.1]; exact pi_in (by omega)) ((congrFun (pA_r17.row 180 (by decide)) _).trans (show _ = v12 from ((congrFun (pA_r16.row 180 (by decide)) _).trans (show _ = v12 from ((congrFun (pA_r15.row 180 (by decide)) _).trans (show _ = v12 from ev12.symm)))))) dX12_child_236 ?_
    refine pk_i (pr_S M V (m_X12_max l (Z := Z) (h := _) v20 v12) km_X12_max lkM_X12_182 rfl hl.1 rfl (Nat.le_of_ble_eq_true rfl) ⟨Nat.le_of_ble_eq_true rfl, Nat.le_of_ble_eq_true rfl⟩ ⟨Nat.le_of_ble_eq_true rfl, Nat.le_of_ble_eq_true rfl⟩ dX12_child_237) V (fun r21 Zr21 hr21 H locs pr21 _ _ V => ?_)
    obtain ⟨rfl, rfl, fr21_0, fr21_1, fr21_2⟩ := pr21
    refine ps_i M V (sm_clip S).1 (by rw [(sm_clip S).2.1]; exact pi_in (by omega)) dX12_child_240 (fun H locs V => ?_)
    have A := A.upA (o := 179) (k := (1 : Int32).toNatClampNeg) (v := r21) (by decide)
    have I := I.up (k := (1 : Int32).toNatClampNeg) (v := r21) (sm_clip S).1 (pi_full _)
    refine lv_aload_n hx hb dX12_child_241 rfl (lv_at hl 0 rfl) ?_
    refine pg_r M V 12 72 (sm_this S) pC12 fk12_72 (sm_clip S).2.2 lkF_X12_147 dX12_child_242 ?_
    refine lv_iconst (v := 2) hx hb dX12_child_245 (by decide) ?_
    refine lv_aload_n hx hb dX12_child_246 rfl (lv_at hl 0 rfl) ?_
    refine pg_r M V 12 72 (sm_this S) pC12 fk12_72 (sm_clip S).2.2 lkF_X12_147 dX12_child_247 ?_
    refine lv_iconst (v := 2) hx hb dX12_child_250 (by decide) ?_
    have k_2 : (2 : Int32).toInt = 2 := rfl
    refine pa_i M V (sm_clip S).1 (by rw [(sm_clip S).2.1]; exact pi_in (by omega)) dX12_child_251 ?_
    refine lv_topi (fun v22 ev22 => ?_)
    refine lv_aload_n hx hb dX12_child_252 rfl (lv_at hl 0 rfl) ?_
    refine pg_r M V 12 73 (sm_this S) pC12 fk12_73 (sm_item S).2.2 lkF_X12_150 dX12_child_253 ?_
    refine lv_iconst (v := 2) hx hb dX12_child_256 (by decide) ?_
    refine pa_i M V (sm_item S).1 (by rw [(sm_item S).2.1]; exact pi_in (by omega)) dX12_child_257 ?_
    refine lv_topi (fun v23 ev23 => ?_)
    refine pk_i (pr_S M V (m_X12_min l (Z := Z) (h := _) v22 v23) km_X12_min lkM_X12_178 rfl hl.1 rfl (Nat.le_of_ble_eq_true rfl) ⟨Nat.le_of_ble_eq_true rfl, Nat.le_of_ble_eq_true rfl⟩ ⟨Nat.le_of_ble_eq_true rfl, Nat.le_of_ble_eq_true rfl⟩ dX12_child_258) V (fun r24 Zr24 hr24 H locs pr24 _ _ V => ?_)
    obtain ⟨rfl, rfl, fr24_0, fr24_1, fr24_2⟩ := pr24
    refine ps_i M V (sm_clip S).1 (by rw [(sm_clip S).2.1]; exact pi_in (by omega)) dX12_child_261 (fun H locs V => ?_)
    have A := A.upA (o := 179) (k := (2 : Int32).toNatClampNeg) (v := r24) (by decide)
    have I := I.up (k := (2 : Int32).toNatClampNeg) (v := r24) (sm_clip S).1 (pi_full _)
    refine lv_aload_n hx hb dX12_child_262 rfl (lv_at hl 0 rfl) ?_
    refine pg_r M V 12 72 (sm_this S) pC12 fk12_72 (sm_clip S).2.2 lkF_X12_147 dX12_child_263 ?_
    refine lv_iconst (v := 3) hx hb dX12_child_266 (by decide) ?_
    refine lv_aload_n hx hb dX12_child_267 rfl (lv_at hl 0 rfl) ?_
    refine pg_r M V 12 72 (sm_this S) pC12 fk12_72 (sm_clip S).2.2 lkF_X12_147 dX12_child_268 ?_
    refine lv_iconst (v := 3) hx hb dX12_child_271 (by decide) ?_
    have k_3 : (3 : Int32).toInt = 3 := rfl
    refine pa_i M V (sm_clip S).1 (by rw [(sm_clip S).2.1]; exact pi_in (by omega)) dX12_child_272 ?_
    refine lv_topi (fun v25 ev25 => ?_)
    refine lv_aload_n hx hb dX12_child_273 rfl (lv_at hl 0 rfl) ?_
    refine pg_r M V 12 73 (sm_this S) pC12 fk12_73 (sm_item S).2.2 lkF_X12_150 dX12_child_274 ?_
    refine lv_iconst (v := 3) hx hb dX12_child_277 (by decide) ?_
    refine pa_i M V (sm_item S).1 (by rw [(sm_item S).2.1]; exact pi_in (by omega)) dX12_child_278 ?_
    refine lv_topi (fun v26 ev26 => ?_)
    refine pk_i (pr_S M V (m_X12_min l (Z := Z) (h := _) v25 v26) km_X12_min lkM_X12_178 rfl hl.1 rfl (Nat.le_of_ble_eq_true rfl) ⟨Nat.le_of_ble_eq_true rfl, Nat.le_of_ble_eq_true rfl⟩ ⟨Nat.le_of_ble_eq_true rfl, Nat.le_of_ble_eq_true rfl⟩ dX12_child_279) V (fun r27 Zr27 hr27 H locs pr27 _ _ V => ?_)
    obtain ⟨rfl, rfl, fr27_0, fr27_1, fr27_2⟩ := pr27
    refine ps_i M V (sm_clip S).1 (by rw [(sm_clip S).2.1]; exact pi_in (by omega)) dX12_child_282 (fun H locs V => ?_)
    have A := A.upA (o := 179) (k := (3 : Int32).toNatClampNeg) (v := r27) (by decide)
    have I := I.up (k := (3 : Int32).toNatClampNeg) (v := r27) (sm_clip S).1 (pi_full _)
    refine lv_aload_n hx hb dX12_child_283 rfl (lv_at hl 0 rfl) ?_
    refine pg_r M V 12 42 (sm_this S) pC12 fk12_42 (sm_childWindow S).2.2 lkF_X12_72 dX12_child_284 ?_
    refine lv_iload hx hb dX12_child_287 (lv_at hl 5 rfl) ?_
    refine lv_aload_n hx hb dX12_child_289 rfl (lv_at hl 0 rfl) ?_
    refine pg_i M V 12 71 (sm_this S) pC12 fk12_71 lkF_X12_144 dX12_child_290 ?_
    refine lv_topi (fun v28 ev28 => ?_)
    have tv28 : -1 ≤ v28.toInt ∧ v28.toInt ≤ 8 := by rw [ev28]; exact I.get (sm_this S) 71
    refine ps_i M V (sm_childWindow S).1 (by rw [(sm_childWindow S).2.1]; exact pi_in (by omega)) dX12_child_293 (fun H locs V => ?_)
    have A := A.wk (l3 := [(137, 0), (137, 25), (137, 48), (137, 82), (143, 1000), (160, 1000), (171, 1000), (172, 1000), (173, 1000), (174, 1000), (175, 1000), (176, 1000), (177, 1000), (180, 1000), (186, 1000), (137, 70), (168, 1000), (169, 1000), (170, 1000), (137, 56), (162, 1000), (163, 1000), (165, 1000), (166, 1000), (164, 1000), (137, 58), (167, 1000), (179, 1000), (156, 1000)]) (by decide)
    have A := A.upA (o := 156) (k := x127_5.toNatClampNeg) (v := v28) (by decide)
    have I := I.up (k := x127_5.toNatClampNeg) (v := v28) (sm_childWindow S).1 (pi_full _)
    refine lv_iconst (v := 0) hx hb dX12_child_294 (by decide) ?_
    refine lv_istore (lv' := [(6, .int (0 : Int32)), (0, .ref (zB Z + 137)), (1, .int label), (2, .int width), (3, .int tall), (4, .int x127_4), (5, .int x127_5)]) hx hb dX12_child_295 hl (by decide) rfl (fun ls hl => ?_)
    exact J_297 _ x127_4 x127_5 (0 : Int32) _ _ _ _ V I (A.wk (by decide)) (lv_sub hl [1, 2, 3, 4, 5, 6, 0] rfl) (by omega) (by omega) (show (h 137 56).toInt + (1) ≤ (hr17 137 56).toInt ∧ (hr17 137 56).toInt ≤ (h 137 56).toInt + (1) by omega) (show (h 137 70).toInt + (1) ≤ (hr17 137 70).toInt ∧ (hr17 137 70).toInt ≤ (h 137 70).toInt + (1) by omega) (show (h 137 58).toInt + (1) ≤ (hr17 137 58).toInt ∧ (hr17 137 58).toInt ≤ (h 137 58).toInt + (1) by omega) (show (h 137 25).toInt + (1) ≤ (hr17 137 25).toInt ∧ (hr17 137 25).toInt ≤ (h 137 25).toInt + (1) by omega) (show (h 137 27).toInt + (0) ≤ (hr17 137 27).toInt ∧ (hr17 137 27).toInt ≤ (h 137 27).toInt + (0) by omega) (show (h 137 82).toInt + (0) ≤ (hr17 137 82).toInt ∧ (hr17 137 82).toInt ≤ (h 137 82).toInt + (1) by omega) (show (h 137 83).toInt + (0) ≤ (hr17 137 83).toInt ∧ (hr17 137 83).toInt ≤ (h 137 83).toInt + (0) by omega) (show (h 137 2).toInt + (0) ≤ (hr17 137 2).toInt ∧ (hr17 137 2).toInt ≤ (h 137 2).toInt + (0) by omega) (by omega) (by omega) (by omega) (E9.congr rfl rfl) (mS.push (i := (h 137 56).toNatClampNeg) (kind := (1 : Int32)) (ar := r15) (nu := x127_5) S0 z56 (by omega) (show (hr17 137 56).toInt = _ by omega) (show (hr17 137 70).toInt = _ by rw [if_neg (by decide)]; omega) (show (hr17 137 58).toInt = _ by rw [if_neg (by decide)]; omega) (show (hr17 162) = _ by rw [w_r17_r162, fr16_0, st_162, so_56]) (show (hr17 163) = _ by rw [w_r17_r163, fr16_1, st_163, so_56, so_58]) (show (hr17 165) = _ by rw [w_r17_r165, fr16_2, st_165, so_56]) (show (hr17 166) = _ by rw [w_r17_r166, fr16_3, st_166, so_56]) (fun z9 => absurd z56 (by omega)) (fun _ => by omega) (fun _ => by omega)) (K9.congr rfl rfl) (Nat.lt_succ_self _) 
  have J_63 : ∀ (hJ : pH) (H : Heap) (locs : List Loc) (ls : Array Slot), pV Z hJ s.heap H locs → Iv Z hJ → agr [(137, 0)] h hJ → lv_has ls 7 [(0, .ref (zB Z + 137)), (1, .int label), (2, .int width), (3, .int tall)] → ((h 137 56).toInt + (0) ≤ (hJ 137 56).toInt ∧ (hJ 137 56).toInt ≤ (h 137 56).toInt + (0)) → ((h 137 70).toInt + (0) ≤ (hJ 137 70).toInt ∧ (hJ 137 70).toInt ≤ (h 137 70).toInt + (0)) → ((h 137 58).toInt + (0) ≤ (hJ 137 58).toInt ∧ (hJ 137 58).toInt ≤ (h 137 58).toInt + (0)) → ((h 137 25).toInt + (0) ≤ (hJ 137 25).toInt ∧ (hJ 137 25).toInt ≤ (h 137 25).toInt + (0)) → ((h 137 27).toInt + (0) ≤ (hJ 137 27).toInt ∧ (hJ 137 27).toInt ≤ (h 137 27).toInt + (0)) → ((h 137 82).toInt + (0) ≤ (hJ 137 82).toInt ∧ (hJ 137 82).toInt ≤ (h 137 82).toInt + (0)) → ((h 137 83).toInt + (0) ≤ (hJ 137 83).toInt ∧ (hJ 137 83).toInt ≤ (h 137 83).toInt + (0)) → ((h 137 2).toInt + (0) ≤ (hJ 137 2).toInt ∧ (hJ 137 2).toInt ≤ (h 137 2).toInt + (0)) → mE hJ → mS hJ → mK hJ → W p l e (pRm 4 0 0 99) s m ([.ref (zB Z + 137), .int label, .int width, .int tall] : List Value).toArray below meth c H locs 0 0 (MQ below (pQv Z (fun Z1 h1 => Z = Z1 ∧ Iv Z h1 ∧ agr [(137, 0), (137, 18), (137, 19), (137, 20), (137, 22), (137, 21), (137, 23), (137, 40), (137, 48), (137, 56), (137, 58), (137, 70), (137, 71), (153, 1000), (180, 1000), (172, 1000), (173, 1000), (171, 1000), (174, 1000), (175, 1000), (176, 1000), (177, 1000), (137, 25), (143, 1000), (137, 82), (186, 1000), (162, 1000), (163, 1000), (165, 1000), (166, 1000), (164, 1000), (168, 1000), (169, 1000), (170, 1000), (167, 1000), (160, 1000), (179, 1000), (156, 1000), (157, 1000)] h h1 ∧ (mE h1) ∧ (mS h1) ∧ (mK h1) ∧ ((h 137 25).toInt + (0) ≤ (h1 137 25).toInt ∧ (h1 137 25).toInt ≤ (h 137 25).toInt + (1)) ∧ ((h 137 82).toInt + (0) ≤ (h1 137 82).toInt ∧ (h1 137 82).toInt ≤ (h 137 82).toInt + (1)))) ([.ref (zB Z + 137), .int label, .int width, .int tall] : List Value).toArray s 0 0 (pA (zB Z))) (F0 m 63 ls []) := by
    intro hJ H locs ls V I A hl gd_63_56 gd_63_70 gd_63_58 gd_63_25 gd_63_27 gd_63_82 gd_63_83 gd_63_2 E9 S9 K9
    refine lv_aload_n hx hb dX12_child_63 rfl (lv_at hl 0 rfl) ?_
    refine lv_iconst (v := 2) hx hb dX12_child_64 (by decide) ?_
    refine pk_i (pr_V M V (m_X12_fails l S I (2 : Int32) ) km_X12_fails (sm_this S) pC12 lkM_X12_297 rfl hl.1 rfl (Nat.le_of_ble_eq_true rfl) ⟨Nat.le_of_ble_eq_true rfl, Nat.le_of_ble_eq_true rfl⟩ ⟨Nat.le_of_ble_eq_true rfl, Nat.le_of_ble_eq_true rfl⟩ dX12_child_65) V (fun r29 Zr29 hr29 H locs pr29 _ _ V => ?_)
    obtain ⟨rfl, I, pA_r29, fr29_0, fr29_1⟩ := pr29
    have A := A.wk (l3 := [(137, 0), (137, 18), (137, 19), (137, 20), (137, 22), (137, 21), (137, 23), (137, 40), (137, 48), (137, 56), (137, 58), (137, 70), (137, 71), (153, 1000)]) (by decide)
    have A := A.tr pA_r29 (by decide)
    have E9 : mE hr29 := E9.congr (pA_r29.get 137 2 (by decide)) (pA_r29.row 138 (by decide))
    have S9 : mS hr29 := fr29_1 (S9.congr rfl rfl rfl rfl rfl rfl rfl)
    have K9 : mK hr29 := K9.congr (pA_r29.row 185 (by decide)) (pA_r29.row 184 (by decide))
    have w_r29_r162 : hr29 162 = (hJ 162) := pA_r29.row 162 (by decide)
    have w_r29_r163 : hr29 163 = (hJ 163) := pA_r29.row 163 (by decide)
    have w_r29_r165 : hr29 165 = (hJ 165) := pA_r29.row 165 (by decide)
    have w_r29_r166 : hr29 166 = (hJ 166) := pA_r29.row 166 (by decide)
    have w_r29_25 : (hr29 137 25).toInt = (hJ 137 25).toInt := congrArg Int32.toInt (pA_r29.get 137 25 (by decide))
    have w_r29_27 : (hr29 137 27).toInt = (hJ 137 27).toInt := congrArg Int32.toInt (pA_r29.get 137 27 (by decide))
    have w_r29_82 : (hr29 137 82).toInt = (hJ 137 82).toInt := congrArg Int32.toInt (pA_r29.get 137 82 (by decide))
    have w_r29_83 : (hr29 137 83).toInt = (hJ 137 83).toInt := congrArg Int32.toInt (pA_r29.get 137 83 (by decide))
    have w_r29_2 : (hr29 137 2).toInt = (hJ 137 2).toInt := congrArg Int32.toInt (pA_r29.get 137 2 (by decide))
    refine lv_pop hx hb dX12_child_68 rfl ?_
    exact pe_v M V rfl rfl hr hlk ⟨rfl, I, A.wk (by decide), (E9.congr rfl rfl), (S9.congr rfl rfl rfl rfl rfl rfl rfl), (K9.congr rfl rfl), (show (h 137 25).toInt + (0) ≤ (hr29 137 25).toInt ∧ (hr29 137 25).toInt ≤ (h 137 25).toInt + (1) by omega), (show (h 137 82).toInt + (0) ≤ (hr29 137 82).toInt ∧ (hr29 137 82).toInt ≤ (h 137 82).toInt + (1) by omega)⟩ ⟨Nat.le_refl _, Nat.le_refl _⟩ dX12_child_69
  have J_38 : ∀ (y38_0 : Int32) (hJ : pH) (H : Heap) (locs : List Loc) (ls : Array Slot), pV Z hJ s.heap H locs → Iv Z hJ → agr [] h hJ → lv_has ls 7 [(0, .ref (zB Z + 137)), (1, .int label), (2, .int width), (3, .int tall)] → (0 ≤ y38_0.toInt ∧ y38_0.toInt ≤ 1) → ((h 137 56).toInt + (0) ≤ (hJ 137 56).toInt ∧ (hJ 137 56).toInt ≤ (h 137 56).toInt + (0)) → ((h 137 70).toInt + (0) ≤ (hJ 137 70).toInt ∧ (hJ 137 70).toInt ≤ (h 137 70).toInt + (0)) → ((h 137 58).toInt + (0) ≤ (hJ 137 58).toInt ∧ (hJ 137 58).toInt ≤ (h 137 58).toInt + (0)) → ((h 137 25).toInt + (0) ≤ (hJ 137 25).toInt ∧ (hJ 137 25).toInt ≤ (h 137 25).toInt + (0)) → ((h 137 27).toInt + (0) ≤ (hJ 137 27).toInt ∧ (hJ 137 27).toInt ≤ (h 137 27).toInt + (0)) → ((h 137 82).toInt + (0) ≤ (hJ 137 82).toInt ∧ (hJ 137 82).toInt ≤ (h 137 82).toInt + (0)) → ((h 137 83).toInt + (0) ≤ (hJ 137 83).toInt ∧ (hJ 137 83).toInt ≤ (h 137 83).toInt + (0)) → ((h 137 2).toInt + (0) ≤ (hJ 137 2).toInt ∧ (hJ 137 2).toInt ≤ (h 137 2).toInt + (0)) → (y38_0.toInt = 1 → 0 ≤ label.toInt ∧ label.toInt ≤ 999) → mE hJ → mS hJ → mK hJ → W p l e (pRm 4 0 0 99) s m ([.ref (zB Z + 137), .int label, .int width, .int tall] : List Value).toArray below meth c H locs 0 0 (MQ below (pQv Z (fun Z1 h1 => Z = Z1 ∧ Iv Z h1 ∧ agr [(137, 0), (137, 18), (137, 19), (137, 20), (137, 22), (137, 21), (137, 23), (137, 40), (137, 48), (137, 56), (137, 58), (137, 70), (137, 71), (153, 1000), (180, 1000), (172, 1000), (173, 1000), (171, 1000), (174, 1000), (175, 1000), (176, 1000), (177, 1000), (137, 25), (143, 1000), (137, 82), (186, 1000), (162, 1000), (163, 1000), (165, 1000), (166, 1000), (164, 1000), (168, 1000), (169, 1000), (170, 1000), (167, 1000), (160, 1000), (179, 1000), (156, 1000), (157, 1000)] h h1 ∧ (mE h1) ∧ (mS h1) ∧ (mK h1) ∧ ((h 137 25).toInt + (0) ≤ (h1 137 25).toInt ∧ (h1 137 25).toInt ≤ (h 137 25).toInt + (1)) ∧ ((h 137 82).toInt + (0) ≤ (h1 137 82).toInt ∧ (h1 137 82).toInt ≤ (h 137 82).toInt + (1)))) ([.ref (zB Z + 137), .int label, .int width, .int tall] : List Value).toArray s 0 0 (pA (zB Z))) (F0 m 38 ls [.int y38_0, .ref (zB Z + 137)]) := by
    intro y38_0 hJ H locs ls V I A hl gs_38_0 gd_38_56 gd_38_70 gd_38_58 gd_38_25 gd_38_27 gd_38_82 gd_38_83 gd_38_2 eb E9 S9 K9
    refine pk_i (pr_V M V (m_X12_bars l S I y38_0 (by omega)) km_X12_bars (sm_this S) pC12 lkM_X12_371 rfl hl.1 rfl (Nat.le_of_ble_eq_true rfl) ⟨Nat.le_of_ble_eq_true rfl, Nat.le_of_ble_eq_true rfl⟩ ⟨Nat.le_of_ble_eq_true rfl, Nat.le_of_ble_eq_true rfl⟩ dX12_child_38) V (fun r30 Zr30 hr30 H locs pr30 _ _ V => ?_)
    obtain ⟨rfl, I, pA_r30, fr30_0, fr30_1, fr30_2⟩ := pr30
    refine lv_if_eq (tgt := 45) hx hb dX12_child_41 (by decide) (fun c_41 => ?_) (fun c_41 => ?_)
    · skip
      have k_0 : (0 : Int32).toInt = 0 := rfl
      have c_41 := pi_eq.mp c_41
      have b_r30 := fr30_1 (by omega)
      have pB_r30 := b_r30.2.2
      have g_r30 := b_r30.1
      have a_r30 : 1 ≤ (hJ 137 70).toInt := b_r30.2.1
      have A := A.wk (l3 := [(137, 0)]) (by decide)
      have A := A.tr pB_r30 (by decide)
      have E9 : mE hr30 := E9.congr (pB_r30.get 137 2 (by decide)) (pB_r30.row 138 (by decide))
      have S9 : mS hr30 := S9.congr (pB_r30.get 137 56 (by decide)) (pB_r30.get 137 70 (by decide)) (pB_r30.get 137 58 (by decide)) (pB_r30.row 162 (by decide)) (pB_r30.row 163 (by decide)) (pB_r30.row 165 (by decide)) (pB_r30.row 166 (by decide))
      have K9 : mK hr30 := K9.congr (pB_r30.row 185 (by decide)) (pB_r30.row 184 (by decide))
      have w_r30_r162 : hr30 162 = (hJ 162) := pB_r30.row 162 (by decide)
      have w_r30_r163 : hr30 163 = (hJ 163) := pB_r30.row 163 (by decide)
      have w_r30_r165 : hr30 165 = (hJ 165) := pB_r30.row 165 (by decide)
      have w_r30_r166 : hr30 166 = (hJ 166) := pB_r30.row 166 (by decide)
      have w_r30_56 : (hr30 137 56).toInt = (hJ 137 56).toInt := congrArg Int32.toInt (pB_r30.get 137 56 (by decide))
      have w_r30_70 : (hr30 137 70).toInt = (hJ 137 70).toInt := congrArg Int32.toInt (pB_r30.get 137 70 (by decide))
      have w_r30_58 : (hr30 137 58).toInt = (hJ 137 58).toInt := congrArg Int32.toInt (pB_r30.get 137 58 (by decide))
      have w_r30_25 : (hr30 137 25).toInt = (hJ 137 25).toInt := congrArg Int32.toInt (pB_r30.get 137 25 (by decide))
      have w_r30_27 : (hr30 137 27).toInt = (hJ 137 27).toInt := congrArg Int32.toInt (pB_r30.get 137 27 (by decide))
      have w_r30_82 : (hr30 137 82).toInt = (hJ 137 82).toInt := congrArg Int32.toInt (pB_r30.get 137 82 (by decide))
      have w_r30_83 : (hr30 137 83).toInt = (hJ 137 83).toInt := congrArg Int32.toInt (pB_r30.get 137 83 (by decide))
      have w_r30_2 : (hr30 137 2).toInt = (hJ 137 2).toInt := congrArg Int32.toInt (pB_r30.get 137 2 (by decide))
      refine lv_aload_n hx hb dX12_child_45 rfl (lv_at hl 0 rfl) ?_
      refine pg_i M V 12 56 (sm_this S) pC12 fk12_56 lkF_X12_279 dX12_child_46 ?_
      refine lv_topi (fun v31 ev31 => ?_)
      have tv31 : 0 ≤ v31.toInt ∧ v31.toInt ≤ 40 := by rw [ev31]; exact I.get (sm_this S) 56
      have uv31 : v31.toInt = (hr30 137 56).toInt := congrArg Int32.toInt ev31
      refine lv_bipush (v := 40) hx hb dX12_child_49 (by decide) ?_
      refine lv_icmp_eq (tgt := 63) hx hb dX12_child_51 (by decide) (fun c_51 => ?_) (fun c_51 => ?_)
      · skip
        have k_40 : (40 : Int32).toInt = 40 := rfl
        have c_51 := pi_eq.mp c_51
        exact J_63 _ _ _ _ V I (A.wk (by decide)) (lv_sub hl [0, 1, 2, 3] rfl) (show (h 137 56).toInt + (0) ≤ (hr30 137 56).toInt ∧ (hr30 137 56).toInt ≤ (h 137 56).toInt + (0) by omega) (show (h 137 70).toInt + (0) ≤ (hr30 137 70).toInt ∧ (hr30 137 70).toInt ≤ (h 137 70).toInt + (0) by omega) (show (h 137 58).toInt + (0) ≤ (hr30 137 58).toInt ∧ (hr30 137 58).toInt ≤ (h 137 58).toInt + (0) by omega) (show (h 137 25).toInt + (0) ≤ (hr30 137 25).toInt ∧ (hr30 137 25).toInt ≤ (h 137 25).toInt + (0) by omega) (show (h 137 27).toInt + (0) ≤ (hr30 137 27).toInt ∧ (hr30 137 27).toInt ≤ (h 137 27).toInt + (0) by omega) (show (h 137 82).toInt + (0) ≤ (hr30 137 82).toInt ∧ (hr30 137 82).toInt ≤ (h 137 82).toInt + (0) by omega) (show (h 137 83).toInt + (0) ≤ (hr30 137 83).toInt ∧ (hr30 137 83).toInt ≤ (h 137 83).toInt + (0) by omega) (show (h 137 2).toInt + (0) ≤ (hr30 137 2).toInt ∧ (hr30 137 2).toInt ≤ (h 137 2).toInt + (0) by omega) (E9.congr rfl rfl) (S9.congr rfl rfl rfl rfl rfl rfl rfl) (K9.congr rfl rfl) 
      · skip
        have k_40 : (40 : Int32).toInt = 40 := rfl
        have c_51 := pi_ne c_51
        refine lv_aload_n hx hb dX12_child_54 rfl (lv_at hl 0 rfl) ?_
        refine pg_i M V 12 48 (sm_this S) pC12 fk12_48 lkF_X12_246 dX12_child_55 ?_
        refine lv_topi (fun v32 ev32 => ?_)
        have tv32 : 0 ≤ v32.toInt ∧ v32.toInt ≤ 8 := by rw [ev32]; exact I.get (sm_this S) 48
        refine lv_bipush (v := 8) hx hb dX12_child_58 (by decide) ?_
        refine lv_icmp_ne (tgt := 70) hx hb dX12_child_60 (by decide) (fun c_60 => ?_) (fun c_60 => ?_)
        · skip
          have k_8 : (8 : Int32).toInt = 8 := rfl
          have c_60 := pi_ne c_60
          refine lv_aload_n hx hb dX12_child_70 rfl (lv_at hl 0 rfl) ?_
          refine lv_iload_n hx hb dX12_child_71 rfl (lv_at hl 1 rfl) ?_
          refine lv_iload_n hx hb dX12_child_72 rfl (lv_at hl 2 rfl) ?_
          refine lv_iload_n hx hb dX12_child_73 rfl (lv_at hl 3 rfl) ?_
          refine pk_i (pr_V M V (m_X12_lay l S I label width tall (show 1 ≤ (hr30 137 58).toInt by omega) (show 1 ≤ (hr30 137 70).toInt by omega) (show (hr30 137 25).toInt ≤ 599 by omega)) km_X12_lay (sm_this S) pC12 lkM_X12_375 rfl hl.1 rfl (Nat.le_of_ble_eq_true rfl) ⟨Nat.le_of_ble_eq_true rfl, Nat.le_of_ble_eq_true rfl⟩ ⟨Nat.le_of_ble_eq_true rfl, Nat.le_of_ble_eq_true rfl⟩ dX12_child_74) V (fun r33 Zr33 hr33 H locs pr33 _ _ V => ?_)
          obtain ⟨rfl, I, pA_r33, fr33_0⟩ := pr33
          have fr33_0 : (hr30 137 25).toInt + (1) ≤ (hr33 137 25).toInt ∧ (hr33 137 25).toInt ≤ (hr30 137 25).toInt + (1) := fr33_0
          have A := A.wk (l3 := [(137, 0), (180, 1000), (172, 1000), (173, 1000), (171, 1000), (174, 1000), (175, 1000), (176, 1000), (177, 1000), (137, 25), (143, 1000)]) (by decide)
          have A := A.tr pA_r33 (by decide)
          have E9 : mE hr33 := E9.congr (pA_r33.get 137 2 (by decide)) (pA_r33.row 138 (by decide))
          have S9 : mS hr33 := S9.congr (pA_r33.get 137 56 (by decide)) (pA_r33.get 137 70 (by decide)) (pA_r33.get 137 58 (by decide)) (pA_r33.row 162 (by decide)) (pA_r33.row 163 (by decide)) (pA_r33.row 165 (by decide)) (pA_r33.row 166 (by decide))
          have K9 : mK hr33 := K9.congr (pA_r33.row 185 (by decide)) (pA_r33.row 184 (by decide))
          have w_r33_r162 : hr33 162 = (hr30 162) := pA_r33.row 162 (by decide)
          have w_r33_r163 : hr33 163 = (hr30 163) := pA_r33.row 163 (by decide)
          have w_r33_r165 : hr33 165 = (hr30 165) := pA_r33.row 165 (by decide)
          have w_r33_r166 : hr33 166 = (hr30 166) := pA_r33.row 166 (by decide)
          have w_r33_56 : (hr33 137 56).toInt = (hr30 137 56).toInt := congrArg Int32.toInt (pA_r33.get 137 56 (by decide))
          have w_r33_70 : (hr33 137 70).toInt = (hr30 137 70).toInt := congrArg Int32.toInt (pA_r33.get 137 70 (by decide))
          have w_r33_58 : (hr33 137 58).toInt = (hr30 137 58).toInt := congrArg Int32.toInt (pA_r33.get 137 58 (by decide))
          have w_r33_27 : (hr33 137 27).toInt = (hr30 137 27).toInt := congrArg Int32.toInt (pA_r33.get 137 27 (by decide))
          have w_r33_82 : (hr33 137 82).toInt = (hr30 137 82).toInt := congrArg Int32.toInt (pA_r33.get 137 82 (by decide))
          have w_r33_83 : (hr33 137 83).toInt = (hr30 137 83).toInt := congrArg Int32.toInt (pA_r33.get 137 83 (by decide))
          have w_r33_2 : (hr33 137 2).toInt = (hr30 137 2).toInt := congrArg Int32.toInt (pA_r33.get 137 2 (by decide))
          refine lv_istore (lv' := [(4, .int r33), (0, .ref (zB Z + 137)), (1, .int label), (2, .int width), (3, .int tall)]) hx hb dX12_child_77 hl (by decide) rfl (fun ls hl => ?_)
          refine lv_aload_n hx hb dX12_child_79 rfl (lv_at hl 1 rfl) ?_
          refine lv_iload hx hb dX12_child_80 (lv_at hl 0 rfl) ?_
          refine pk_v (pr_V M V (m_X12_shape l S I r33 (show (hr33 137 82).toInt ≤ 6999 by omega)) km_X12_shape (sm_this S) pC12 lkM_X12_381 rfl hl.1 rfl (Nat.le_of_ble_eq_true rfl) ⟨Nat.le_of_ble_eq_true rfl, Nat.le_of_ble_eq_true rfl⟩ ⟨Nat.le_of_ble_eq_true rfl, Nat.le_of_ble_eq_true rfl⟩ dX12_child_82) V (fun Zr34 hr34 H locs pr34 _ _ V => ?_)
          obtain ⟨rfl, I, pA_r34, fr34_0⟩ := pr34
          have fr34_0 : (hr33 137 82).toInt + (0) ≤ (hr34 137 82).toInt ∧ (hr34 137 82).toInt ≤ (hr33 137 82).toInt + (1) := fr34_0
          have A := A.wk (l3 := [(137, 0), (180, 1000), (172, 1000), (173, 1000), (171, 1000), (174, 1000), (175, 1000), (176, 1000), (177, 1000), (137, 25), (143, 1000), (137, 82), (186, 1000)]) (by decide)
          have A := A.tr pA_r34 (by decide)
          have E9 : mE hr34 := E9.congr (pA_r34.get 137 2 (by decide)) (pA_r34.row 138 (by decide))
          have S9 : mS hr34 := S9.congr (pA_r34.get 137 56 (by decide)) (pA_r34.get 137 70 (by decide)) (pA_r34.get 137 58 (by decide)) (pA_r34.row 162 (by decide)) (pA_r34.row 163 (by decide)) (pA_r34.row 165 (by decide)) (pA_r34.row 166 (by decide))
          have K9 : mK hr34 := K9.congr (pA_r34.row 185 (by decide)) (pA_r34.row 184 (by decide))
          have w_r34_r162 : hr34 162 = (hr33 162) := pA_r34.row 162 (by decide)
          have w_r34_r163 : hr34 163 = (hr33 163) := pA_r34.row 163 (by decide)
          have w_r34_r165 : hr34 165 = (hr33 165) := pA_r34.row 165 (by decide)
          have w_r34_r166 : hr34 166 = (hr33 166) := pA_r34.row 166 (by decide)
          have w_r34_56 : (hr34 137 56).toInt = (hr33 137 56).toInt := congrArg Int32.toInt (pA_r34.get 137 56 (by decide))
          have w_r34_70 : (hr34 137 70).toInt = (hr33 137 70).toInt := congrArg Int32.toInt (pA_r34.get 137 70 (by decide))
          have w_r34_58 : (hr34 137 58).toInt = (hr33 137 58).toInt := congrArg Int32.toInt (pA_r34.get 137 58 (by decide))
          have w_r34_25 : (hr34 137 25).toInt = (hr33 137 25).toInt := congrArg Int32.toInt (pA_r34.get 137 25 (by decide))
          have w_r34_27 : (hr34 137 27).toInt = (hr33 137 27).toInt := congrArg Int32.toInt (pA_r34.get 137 27 (by decide))
          have w_r34_83 : (hr34 137 83).toInt = (hr33 137 83).toInt := congrArg Int32.toInt (pA_r34.get 137 83 (by decide))
          have w_r34_2 : (hr34 137 2).toInt = (hr33 137 2).toInt := congrArg Int32.toInt (pA_r34.get 137 2 (by decide))
          refine lv_aload_n hx hb dX12_child_85 rfl (lv_at hl 1 rfl) ?_
          refine pg_iv M V 12 48 (v := v32) (sm_this S) pC12 fk12_48 ((pA_r34.get 137 48 (by decide)).trans ((pA_r33.get 137 48 (by decide)).trans ev32.symm)) lkF_X12_246 dX12_child_86 ?_
          refine lv_istore (lv' := [(5, .int v32), (4, .int r33), (0, .ref (zB Z + 137)), (1, .int label), (2, .int width), (3, .int tall)]) hx hb dX12_child_89 hl (by decide) rfl (fun ls hl => ?_)
          refine lv_aload_n hx hb dX12_child_91 rfl (lv_at hl 2 rfl) ?_
          refine lv_dup hx hb dX12_child_92 rfl ?_
          refine pg_iv M V 12 48 (v := v32) (sm_this S) pC12 fk12_48 ((pA_r34.get 137 48 (by decide)).trans ((pA_r33.get 137 48 (by decide)).trans ev32.symm)) lkF_X12_246 dX12_child_93 ?_
          refine lv_iconst (v := 1) hx hb dX12_child_96 (by decide) ?_
          refine lv_iadd hx hb dX12_child_97 ?_
          refine lv_topi (fun v35 ev35 => ?_)
          refine pp_i M V 12 48 (sm_this S) pC12 fk12_48 rfl lkF_X12_246 ⟨rfl, rfl⟩ dX12_child_98 (fun H locs V => ?_)
          have A := A.wk (l3 := [(137, 0), (180, 1000), (172, 1000), (173, 1000), (171, 1000), (174, 1000), (175, 1000), (176, 1000), (177, 1000), (137, 25), (143, 1000), (137, 82), (186, 1000), (137, 48)]) (by decide)
          have A := A.up (o := 137) (k := 48) (v := v35) (by decide)
          have k_1 : (1 : Int32).toInt = 1 := rfl
          have tv35 : v35.toInt = v32.toInt + 1 := by rw [ev35]; have z9 := pi_add (x := v32) (y := (1 : Int32)); rw [k_1] at z9; exact z9 (by omega)
          have I := I.up (k := 48) (v := v35) (sm_this S) (show (0 : Int) ≤ v35.toInt ∧ v35.toInt ≤ (8 : Int) by omega)
          refine lv_iload hx hb dX12_child_101 (lv_at hl 0 rfl) ?_
          refine lv_aload_n hx hb dX12_child_103 rfl (lv_at hl 2 rfl) ?_
          refine pg_i M V 12 50 (sm_this S) pC12 fk12_50 lkF_X12_90 dX12_child_104 ?_
          refine lv_topi (fun v36 ev36 => ?_)
          refine lv_icmp_ne (tgt := 127) hx hb dX12_child_107 (by decide) (fun c_107 => ?_) (fun c_107 => ?_)
          · skip
            have c_107 := pi_ne c_107
            exact J_127 r33 v32 _ _ _ _ V I (A.wk (by decide)) (lv_sub hl [2, 3, 4, 5, 1, 0] rfl) (by omega) (show (h 137 56).toInt + (0) ≤ (hr34 137 56).toInt ∧ (hr34 137 56).toInt ≤ (h 137 56).toInt + (0) by omega) (show (h 137 70).toInt + (0) ≤ (hr34 137 70).toInt ∧ (hr34 137 70).toInt ≤ (h 137 70).toInt + (0) by omega) (show (h 137 58).toInt + (0) ≤ (hr34 137 58).toInt ∧ (hr34 137 58).toInt ≤ (h 137 58).toInt + (0) by omega) (show (h 137 25).toInt + (1) ≤ (hr34 137 25).toInt ∧ (hr34 137 25).toInt ≤ (h 137 25).toInt + (1) by omega) (show (h 137 27).toInt + (0) ≤ (hr34 137 27).toInt ∧ (hr34 137 27).toInt ≤ (h 137 27).toInt + (0) by omega) (show (h 137 82).toInt + (0) ≤ (hr34 137 82).toInt ∧ (hr34 137 82).toInt ≤ (h 137 82).toInt + (1) by omega) (show (h 137 83).toInt + (0) ≤ (hr34 137 83).toInt ∧ (hr34 137 83).toInt ≤ (h 137 83).toInt + (0) by omega) (show (h 137 2).toInt + (0) ≤ (hr34 137 2).toInt ∧ (hr34 137 2).toInt ≤ (h 137 2).toInt + (0) by omega) (by omega) (by omega) (by omega) (E9.congr rfl rfl) (S9.congr rfl rfl rfl rfl rfl rfl rfl) (K9.congr rfl rfl) 
          · skip
            have c_107 := pi_eq.mp c_107
            refine lv_aload_n hx hb dX12_child_110 rfl (lv_at hl 2 rfl) ?_
            refine pg_r M V 12 46 (sm_this S) pC12 fk12_46 (sm_childScroll S).2.2 lkF_X12_84 dX12_child_111 ?_
            refine lv_iload hx hb dX12_child_114 (lv_at hl 0 rfl) ?_
            refine lv_dup2_11 hx hb dX12_child_116 rfl rfl ?_
            refine pa_i M V (sm_childScroll S).1 (by rw [(sm_childScroll S).2.1]; exact pi_in (by omega)) dX12_child_117 ?_
            refine lv_topi (fun v37 ev37 => ?_)
            refine lv_bipush (v := 10) hx hb dX12_child_118 (by decide) ?_
            refine lv_aload_n hx hb dX12_child_120 rfl (lv_at hl 2 rfl) ?_
            refine pg_i M V 12 15 (sm_this S) pC12 fk12_15 lkF_X12_214 dX12_child_121 ?_
            refine lv_topi (fun v38 ev38 => ?_)
            refine lv_imul hx hb dX12_child_124 ?_
            refine lv_topi (fun v39 ev39 => ?_)
            refine lv_iadd hx hb dX12_child_125 ?_
            refine lv_topi (fun v40 ev40 => ?_)
            refine ps_i M V (sm_childScroll S).1 (by rw [(sm_childScroll S).2.1]; exact pi_in (by omega)) dX12_child_126 (fun H locs V => ?_)
            have A := A.wk (l3 := [(137, 0), (180, 1000), (172, 1000), (173, 1000), (171, 1000), (174, 1000), (175, 1000), (176, 1000), (177, 1000), (137, 25), (143, 1000), (137, 82), (186, 1000), (137, 48), (160, 1000)]) (by decide)
            have A := A.upA (o := 160) (k := v32.toNatClampNeg) (v := v40) (by decide)
            have I := I.up (k := v32.toNatClampNeg) (v := v40) (sm_childScroll S).1 (pi_full _)
            exact J_127 r33 v32 _ _ _ _ V I (A.wk (by decide)) (lv_sub hl [2, 3, 4, 5, 1, 0] rfl) (by omega) (show (h 137 56).toInt + (0) ≤ (hr34 137 56).toInt ∧ (hr34 137 56).toInt ≤ (h 137 56).toInt + (0) by omega) (show (h 137 70).toInt + (0) ≤ (hr34 137 70).toInt ∧ (hr34 137 70).toInt ≤ (h 137 70).toInt + (0) by omega) (show (h 137 58).toInt + (0) ≤ (hr34 137 58).toInt ∧ (hr34 137 58).toInt ≤ (h 137 58).toInt + (0) by omega) (show (h 137 25).toInt + (1) ≤ (hr34 137 25).toInt ∧ (hr34 137 25).toInt ≤ (h 137 25).toInt + (1) by omega) (show (h 137 27).toInt + (0) ≤ (hr34 137 27).toInt ∧ (hr34 137 27).toInt ≤ (h 137 27).toInt + (0) by omega) (show (h 137 82).toInt + (0) ≤ (hr34 137 82).toInt ∧ (hr34 137 82).toInt ≤ (h 137 82).toInt + (1) by omega) (show (h 137 83).toInt + (0) ≤ (hr34 137 83).toInt ∧ (hr34 137 83).toInt ≤ (h 137 83).toInt + (0) by omega) (show (h 137 2).toInt + (0) ≤ (hr34 137 2).toInt ∧ (hr34 137 2).toInt ≤ (h 137 2).toInt + (0) by omega) (by omega) (by omega) (by omega) (E9.congr rfl rfl) (S9.congr rfl rfl rfl rfl rfl rfl rfl) (K9.congr rfl rfl) 
        · skip
          have k_8 : (8 : Int32).toInt = 8 := rfl
          have c_60 := pi_eq.mp c_60
          exact J_63 _ _ _ _ V I (A.wk (by decide)) (lv_sub hl [0, 1, 2, 3] rfl) (show (h 137 56).toInt + (0) ≤ (hr30 137 56).toInt ∧ (hr30 137 56).toInt ≤ (h 137 56).toInt + (0) by omega) (show (h 137 70).toInt + (0) ≤ (hr30 137 70).toInt ∧ (hr30 137 70).toInt ≤ (h 137 70).toInt + (0) by omega) (show (h 137 58).toInt + (0) ≤ (hr30 137 58).toInt ∧ (hr30 137 58).toInt ≤ (h 137 58).toInt + (0) by omega) (show (h 137 25).toInt + (0) ≤ (hr30 137 25).toInt ∧ (hr30 137 25).toInt ≤ (h 137 25).toInt + (0) by omega) (show (h 137 27).toInt + (0) ≤ (hr30 137 27).toInt ∧ (hr30 137 27).toInt ≤ (h 137 27).toInt + (0) by omega) (show (h 137 82).toInt + (0) ≤ (hr30 137 82).toInt ∧ (hr30 137 82).toInt ≤ (h 137 82).toInt + (0) by omega) (show (h 137 83).toInt + (0) ≤ (hr30 137 83).toInt ∧ (hr30 137 83).toInt ≤ (h 137 83).toInt + (0) by omega) (show (h 137 2).toInt + (0) ≤ (hr30 137 2).toInt ∧ (hr30 137 2).toInt ≤ (h 137 2).toInt + (0) by omega) (E9.congr rfl rfl) (S9.congr rfl rfl rfl rfl rfl rfl rfl) (K9.congr rfl rfl) 
    · skip
      have k_0 : (0 : Int32).toInt = 0 := rfl
      have c_41 := pi_ne c_41
      have A := A.wk (l3 := [(137, 0), (137, 18), (137, 19), (137, 20), (137, 22), (137, 21), (137, 23), (137, 40), (137, 48), (137, 56), (137, 58), (137, 70), (137, 71), (153, 1000)]) (by decide)
      have A := A.tr pA_r30 (by decide)
      have E9 : mE hr30 := E9.congr (pA_r30.get 137 2 (by decide)) (pA_r30.row 138 (by decide))
      have S9 : mS hr30 := fr30_2 (S9.congr rfl rfl rfl rfl rfl rfl rfl)
      have K9 : mK hr30 := K9.congr (pA_r30.row 185 (by decide)) (pA_r30.row 184 (by decide))
      have w_r30_r162 : hr30 162 = (hJ 162) := pA_r30.row 162 (by decide)
      have w_r30_r163 : hr30 163 = (hJ 163) := pA_r30.row 163 (by decide)
      have w_r30_r165 : hr30 165 = (hJ 165) := pA_r30.row 165 (by decide)
      have w_r30_r166 : hr30 166 = (hJ 166) := pA_r30.row 166 (by decide)
      have w_r30_25 : (hr30 137 25).toInt = (hJ 137 25).toInt := congrArg Int32.toInt (pA_r30.get 137 25 (by decide))
      have w_r30_27 : (hr30 137 27).toInt = (hJ 137 27).toInt := congrArg Int32.toInt (pA_r30.get 137 27 (by decide))
      have w_r30_82 : (hr30 137 82).toInt = (hJ 137 82).toInt := congrArg Int32.toInt (pA_r30.get 137 82 (by decide))
      have w_r30_83 : (hr30 137 83).toInt = (hJ 137 83).toInt := congrArg Int32.toInt (pA_r30.get 137 83 (by decide))
      have w_r30_2 : (hr30 137 2).toInt = (hJ 137 2).toInt := congrArg Int32.toInt (pA_r30.get 137 2 (by decide))
      exact pe_v M V rfl rfl hr hlk ⟨rfl, I, A.wk (by decide), (E9.congr rfl rfl), (S9.congr rfl rfl rfl rfl rfl rfl rfl), (K9.congr rfl rfl), (show (h 137 25).toInt + (0) ≤ (hr30 137 25).toInt ∧ (hr30 137 25).toInt ≤ (h 137 25).toInt + (1) by omega), (show (h 137 82).toInt + (0) ≤ (hr30 137 82).toInt ∧ (hr30 137 82).toInt ≤ (h 137 82).toInt + (1) by omega)⟩ ⟨Nat.le_refl _, Nat.le_refl _⟩ dX12_child_44
  have J_37 : ∀ (hJ : pH) (H : Heap) (locs : List Loc) (ls : Array Slot), pV Z hJ s.heap H locs → Iv Z hJ → agr [] h hJ → lv_has ls 7 [(0, .ref (zB Z + 137)), (1, .int label), (2, .int width), (3, .int tall)] → ((h 137 56).toInt + (0) ≤ (hJ 137 56).toInt ∧ (hJ 137 56).toInt ≤ (h 137 56).toInt + (0)) → ((h 137 70).toInt + (0) ≤ (hJ 137 70).toInt ∧ (hJ 137 70).toInt ≤ (h 137 70).toInt + (0)) → ((h 137 58).toInt + (0) ≤ (hJ 137 58).toInt ∧ (hJ 137 58).toInt ≤ (h 137 58).toInt + (0)) → ((h 137 25).toInt + (0) ≤ (hJ 137 25).toInt ∧ (hJ 137 25).toInt ≤ (h 137 25).toInt + (0)) → ((h 137 27).toInt + (0) ≤ (hJ 137 27).toInt ∧ (hJ 137 27).toInt ≤ (h 137 27).toInt + (0)) → ((h 137 82).toInt + (0) ≤ (hJ 137 82).toInt ∧ (hJ 137 82).toInt ≤ (h 137 82).toInt + (0)) → ((h 137 83).toInt + (0) ≤ (hJ 137 83).toInt ∧ (hJ 137 83).toInt ≤ (h 137 83).toInt + (0)) → ((h 137 2).toInt + (0) ≤ (hJ 137 2).toInt ∧ (hJ 137 2).toInt ≤ (h 137 2).toInt + (0)) → mE hJ → mS hJ → mK hJ → W p l e (pRm 4 0 0 99) s m ([.ref (zB Z + 137), .int label, .int width, .int tall] : List Value).toArray below meth c H locs 0 0 (MQ below (pQv Z (fun Z1 h1 => Z = Z1 ∧ Iv Z h1 ∧ agr [(137, 0), (137, 18), (137, 19), (137, 20), (137, 22), (137, 21), (137, 23), (137, 40), (137, 48), (137, 56), (137, 58), (137, 70), (137, 71), (153, 1000), (180, 1000), (172, 1000), (173, 1000), (171, 1000), (174, 1000), (175, 1000), (176, 1000), (177, 1000), (137, 25), (143, 1000), (137, 82), (186, 1000), (162, 1000), (163, 1000), (165, 1000), (166, 1000), (164, 1000), (168, 1000), (169, 1000), (170, 1000), (167, 1000), (160, 1000), (179, 1000), (156, 1000), (157, 1000)] h h1 ∧ (mE h1) ∧ (mS h1) ∧ (mK h1) ∧ ((h 137 25).toInt + (0) ≤ (h1 137 25).toInt ∧ (h1 137 25).toInt ≤ (h 137 25).toInt + (1)) ∧ ((h 137 82).toInt + (0) ≤ (h1 137 82).toInt ∧ (h1 137 82).toInt ≤ (h 137 82).toInt + (1)))) ([.ref (zB Z + 137), .int label, .int width, .int tall] : List Value).toArray s 0 0 (pA (zB Z))) (F0 m 37 ls [.ref (zB Z + 137)]) := by
    intro hJ H locs ls V I A hl gd_37_56 gd_37_70 gd_37_58 gd_37_25 gd_37_27 gd_37_82 gd_37_83 gd_37_2 E9 S9 K9
    refine lv_iconst (v := 0) hx hb dX12_child_37 (by decide) ?_
    have k_0 : (0 : Int32).toInt = 0 := rfl
    exact J_38 (0 : Int32) _ _ _ _ V I (A.wk (by decide)) (lv_sub hl [0, 1, 2, 3] rfl) (by omega) (show (h 137 56).toInt + (0) ≤ (hJ 137 56).toInt ∧ (hJ 137 56).toInt ≤ (h 137 56).toInt + (0) by omega) (show (h 137 70).toInt + (0) ≤ (hJ 137 70).toInt ∧ (hJ 137 70).toInt ≤ (h 137 70).toInt + (0) by omega) (show (h 137 58).toInt + (0) ≤ (hJ 137 58).toInt ∧ (hJ 137 58).toInt ≤ (h 137 58).toInt + (0) by omega) (show (h 137 25).toInt + (0) ≤ (hJ 137 25).toInt ∧ (hJ 137 25).toInt ≤ (h 137 25).toInt + (0) by omega) (show (h 137 27).toInt + (0) ≤ (hJ 137 27).toInt ∧ (hJ 137 27).toInt ≤ (h 137 27).toInt + (0) by omega) (show (h 137 82).toInt + (0) ≤ (hJ 137 82).toInt ∧ (hJ 137 82).toInt ≤ (h 137 82).toInt + (0) by omega) (show (h 137 83).toInt + (0) ≤ (hJ 137 83).toInt ∧ (hJ 137 83).toInt ≤ (h 137 83).toInt + (0) by omega) (show (h 137 2).toInt + (0) ≤ (hJ 137 2).toInt ∧ (hJ 137 2).toInt ≤ (h 137 2).toInt + (0) by omega) (by omega) (E9.congr rfl rfl) (S9.congr rfl rfl rfl rfl rfl rfl rfl) (K9.congr rfl rfl) 
  refine lv_aload_n hx hb dX12_child_0 rfl (lv_at hl 0 rfl) ?_
  refine lv_aload_n hx hb dX12_child_1 rfl (lv_at hl 0 rfl) ?_
  refine lv_iload_n hx hb dX12_child_2 rfl (lv_at hl 1 rfl) ?_
  refine pk_i (pr_V M V (m_X12_isLabel l S I label) km_X12_isLabel (sm_this S) pC12 lkM_X12_343 rfl hl.1 rfl (Nat.le_of_ble_eq_true rfl) ⟨Nat.le_of_ble_eq_true rfl, Nat.le_of_ble_eq_true rfl⟩ ⟨Nat.le_of_ble_eq_true rfl, Nat.le_of_ble_eq_true rfl⟩ dX12_child_3) V (fun r41 Zr41 hr41 H locs pr41 _ _ V => ?_)
  obtain ⟨rfl, rfl, fr41_0⟩ := pr41
  refine lv_if_eq (tgt := 37) hx hb dX12_child_6 (by decide) (fun c_6 => ?_) (fun c_6 => ?_)
  · skip
    have k_0 : (0 : Int32).toInt = 0 := rfl
    have c_6 := pi_eq.mp c_6
    exact J_37 _ _ _ _ V I (A.wk (by decide)) (lv_sub hl [0, 1, 2, 3] rfl) (show (h 137 56).toInt + (0) ≤ (h 137 56).toInt ∧ (h 137 56).toInt ≤ (h 137 56).toInt + (0) by omega) (show (h 137 70).toInt + (0) ≤ (h 137 70).toInt ∧ (h 137 70).toInt ≤ (h 137 70).toInt + (0) by omega) (show (h 137 58).toInt + (0) ≤ (h 137 58).toInt ∧ (h 137 58).toInt ≤ (h 137 58).toInt + (0) by omega) (show (h 137 25).toInt + (0) ≤ (h 137 25).toInt ∧ (h 137 25).toInt ≤ (h 137 25).toInt + (0) by omega) (show (h 137 27).toInt + (0) ≤ (h 137 27).toInt ∧ (h 137 27).toInt ≤ (h 137 27).toInt + (0) by omega) (show (h 137 82).toInt + (0) ≤ (h 137 82).toInt ∧ (h 137 82).toInt ≤ (h 137 82).toInt + (0) by omega) (show (h 137 83).toInt + (0) ≤ (h 137 83).toInt ∧ (h 137 83).toInt ≤ (h 137 83).toInt + (0) by omega) (show (h 137 2).toInt + (0) ≤ (h 137 2).toInt ∧ (h 137 2).toInt ≤ (h 137 2).toInt + (0) by omega) (E9.congr rfl rfl) (S9.congr rfl rfl rfl rfl rfl rfl rfl) (K9.congr rfl rfl) 
  · skip
    have k_0 : (0 : Int32).toInt = 0 := rfl
    have c_6 := pi_ne c_6
    refine lv_iload_n hx hb dX12_child_9 rfl (lv_at hl 2 rfl) ?_
    refine lv_iconst (v := 1) hx hb dX12_child_10 (by decide) ?_
    refine lv_icmp_lt (tgt := 37) hx hb dX12_child_11 (by decide) (fun c_11 => ?_) (fun c_11 => ?_)
    · skip
      have k_1 : (1 : Int32).toInt = 1 := rfl
      have c_11 := pi_lt.mp c_11
      exact J_37 _ _ _ _ V I (A.wk (by decide)) (lv_sub hl [0, 1, 2, 3] rfl) (show (h 137 56).toInt + (0) ≤ (h 137 56).toInt ∧ (h 137 56).toInt ≤ (h 137 56).toInt + (0) by omega) (show (h 137 70).toInt + (0) ≤ (h 137 70).toInt ∧ (h 137 70).toInt ≤ (h 137 70).toInt + (0) by omega) (show (h 137 58).toInt + (0) ≤ (h 137 58).toInt ∧ (h 137 58).toInt ≤ (h 137 58).toInt + (0) by omega) (show (h 137 25).toInt + (0) ≤ (h 137 25).toInt ∧ (h 137 25).toInt ≤ (h 137 25).toInt + (0) by omega) (show (h 137 27).toInt + (0) ≤ (h 137 27).toInt ∧ (h 137 27).toInt ≤ (h 137 27).toInt + (0) by omega) (show (h 137 82).toInt + (0) ≤ (h 137 82).toInt ∧ (h 137 82).toInt ≤ (h 137 82).toInt + (0) by omega) (show (h 137 83).toInt + (0) ≤ (h 137 83).toInt ∧ (h 137 83).toInt ≤ (h 137 83).toInt + (0) by omega) (show (h 137 2).toInt + (0) ≤ (h 137 2).toInt ∧ (h 137 2).toInt ≤ (h 137 2).toInt + (0) by omega) (E9.congr rfl rfl) (S9.congr rfl rfl rfl rfl rfl rfl rfl) (K9.congr rfl rfl) 
    · skip
      have k_1 : (1 : Int32).toInt = 1 := rfl
      have c_11 := pi_lt' c_11
      refine lv_iload_n hx hb dX12_child_14 rfl (lv_at hl 2 rfl) ?_
      refine lv_sipush (v := 200) hx hb dX12_child_15 (by decide) ?_
      refine lv_icmp_gt (tgt := 37) hx hb dX12_child_18 (by decide) (fun c_18 => ?_) (fun c_18 => ?_)
      · skip
        have k_200 : (200 : Int32).toInt = 200 := rfl
        have c_18 := pi_lt.mp c_18
        exact J_37 _ _ _ _ V I (A.wk (by decide)) (lv_sub hl [0, 1, 2, 3] rfl) (show (h 137 56).toInt + (0) ≤ (h 137 56).toInt ∧ (h 137 56).toInt ≤ (h 137 56).toInt + (0) by omega) (show (h 137 70).toInt + (0) ≤ (h 137 70).toInt ∧ (h 137 70).toInt ≤ (h 137 70).toInt + (0) by omega) (show (h 137 58).toInt + (0) ≤ (h 137 58).toInt ∧ (h 137 58).toInt ≤ (h 137 58).toInt + (0) by omega) (show (h 137 25).toInt + (0) ≤ (h 137 25).toInt ∧ (h 137 25).toInt ≤ (h 137 25).toInt + (0) by omega) (show (h 137 27).toInt + (0) ≤ (h 137 27).toInt ∧ (h 137 27).toInt ≤ (h 137 27).toInt + (0) by omega) (show (h 137 82).toInt + (0) ≤ (h 137 82).toInt ∧ (h 137 82).toInt ≤ (h 137 82).toInt + (0) by omega) (show (h 137 83).toInt + (0) ≤ (h 137 83).toInt ∧ (h 137 83).toInt ≤ (h 137 83).toInt + (0) by omega) (show (h 137 2).toInt + (0) ≤ (h 137 2).toInt ∧ (h 137 2).toInt ≤ (h 137 2).toInt + (0) by omega) (E9.congr rfl rfl) (S9.congr rfl rfl rfl rfl rfl rfl rfl) (K9.congr rfl rfl) 
      · skip
        have k_200 : (200 : Int32).toInt = 200 := rfl
        have c_18 := pi_lt' c_18
        refine lv_iload_n hx hb dX12_child_21 rfl (lv_at hl 3 rfl) ?_
        refine lv_iconst (v := 1) hx hb dX12_child_22 (by decide) ?_
        refine lv_icmp_lt (tgt := 37) hx hb dX12_child_23 (by decide) (fun c_23 => ?_) (fun c_23 => ?_)
        · skip
          have c_23 := pi_lt.mp c_23
          exact J_37 _ _ _ _ V I (A.wk (by decide)) (lv_sub hl [0, 1, 2, 3] rfl) (show (h 137 56).toInt + (0) ≤ (h 137 56).toInt ∧ (h 137 56).toInt ≤ (h 137 56).toInt + (0) by omega) (show (h 137 70).toInt + (0) ≤ (h 137 70).toInt ∧ (h 137 70).toInt ≤ (h 137 70).toInt + (0) by omega) (show (h 137 58).toInt + (0) ≤ (h 137 58).toInt ∧ (h 137 58).toInt ≤ (h 137 58).toInt + (0) by omega) (show (h 137 25).toInt + (0) ≤ (h 137 25).toInt ∧ (h 137 25).toInt ≤ (h 137 25).toInt + (0) by omega) (show (h 137 27).toInt + (0) ≤ (h 137 27).toInt ∧ (h 137 27).toInt ≤ (h 137 27).toInt + (0) by omega) (show (h 137 82).toInt + (0) ≤ (h 137 82).toInt ∧ (h 137 82).toInt ≤ (h 137 82).toInt + (0) by omega) (show (h 137 83).toInt + (0) ≤ (h 137 83).toInt ∧ (h 137 83).toInt ≤ (h 137 83).toInt + (0) by omega) (show (h 137 2).toInt + (0) ≤ (h 137 2).toInt ∧ (h 137 2).toInt ≤ (h 137 2).toInt + (0) by omega) (E9.congr rfl rfl) (S9.congr rfl rfl rfl rfl rfl rfl rfl) (K9.congr rfl rfl) 
        · skip
          have c_23 := pi_lt' c_23
          refine lv_iload_n hx hb dX12_child_26 rfl (lv_at hl 3 rfl) ?_
          refine lv_sipush (v := 200) hx hb dX12_child_27 (by decide) ?_
          refine lv_icmp_gt (tgt := 37) hx hb dX12_child_30 (by decide) (fun c_30 => ?_) (fun c_30 => ?_)
          · skip
            have c_30 := pi_lt.mp c_30
            exact J_37 _ _ _ _ V I (A.wk (by decide)) (lv_sub hl [0, 1, 2, 3] rfl) (show (h 137 56).toInt + (0) ≤ (h 137 56).toInt ∧ (h 137 56).toInt ≤ (h 137 56).toInt + (0) by omega) (show (h 137 70).toInt + (0) ≤ (h 137 70).toInt ∧ (h 137 70).toInt ≤ (h 137 70).toInt + (0) by omega) (show (h 137 58).toInt + (0) ≤ (h 137 58).toInt ∧ (h 137 58).toInt ≤ (h 137 58).toInt + (0) by omega) (show (h 137 25).toInt + (0) ≤ (h 137 25).toInt ∧ (h 137 25).toInt ≤ (h 137 25).toInt + (0) by omega) (show (h 137 27).toInt + (0) ≤ (h 137 27).toInt ∧ (h 137 27).toInt ≤ (h 137 27).toInt + (0) by omega) (show (h 137 82).toInt + (0) ≤ (h 137 82).toInt ∧ (h 137 82).toInt ≤ (h 137 82).toInt + (0) by omega) (show (h 137 83).toInt + (0) ≤ (h 137 83).toInt ∧ (h 137 83).toInt ≤ (h 137 83).toInt + (0) by omega) (show (h 137 2).toInt + (0) ≤ (h 137 2).toInt ∧ (h 137 2).toInt ≤ (h 137 2).toInt + (0) by omega) (E9.congr rfl rfl) (S9.congr rfl rfl rfl rfl rfl rfl rfl) (K9.congr rfl rfl) 
          · skip
            have c_30 := pi_lt' c_30
            refine lv_iconst (v := 1) hx hb dX12_child_33 (by decide) ?_
            refine lv_goto (tgt := 38) hx hb dX12_child_34 (by decide) ?_
            exact J_38 (1 : Int32) _ _ _ _ V I (A.wk (by decide)) (lv_sub hl [0, 1, 2, 3] rfl) (by omega) (show (h 137 56).toInt + (0) ≤ (h 137 56).toInt ∧ (h 137 56).toInt ≤ (h 137 56).toInt + (0) by omega) (show (h 137 70).toInt + (0) ≤ (h 137 70).toInt ∧ (h 137 70).toInt ≤ (h 137 70).toInt + (0) by omega) (show (h 137 58).toInt + (0) ≤ (h 137 58).toInt ∧ (h 137 58).toInt ≤ (h 137 58).toInt + (0) by omega) (show (h 137 25).toInt + (0) ≤ (h 137 25).toInt ∧ (h 137 25).toInt ≤ (h 137 25).toInt + (0) by omega) (show (h 137 27).toInt + (0) ≤ (h 137 27).toInt ∧ (h 137 27).toInt ≤ (h 137 27).toInt + (0) by omega) (show (h 137 82).toInt + (0) ≤ (h 137 82).toInt ∧ (h 137 82).toInt ≤ (h 137 82).toInt + (0) by omega) (show (h 137 83).toInt + (0) ≤ (h 137 83).toInt ∧ (h 137 83).toInt ≤ (h 137 83).toInt + (0) by omega) (show (h 137 2).toInt + (0) ≤ (h 137 2).toInt ∧ (h 137 2).toInt ≤ (h 137 2).toInt + (0) by omega) (by omega) (E9.congr rfl rfl) (S9.congr rfl rfl rfl rfl rfl rfl rfl) (K9.congr rfl rfl) 
