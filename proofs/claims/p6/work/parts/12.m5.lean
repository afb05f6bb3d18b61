theorem dX12_takeAll_0 : decode cX12_takeAll 0 = .ok (.aload_n 0, 1) := by decide +kernel
theorem dX12_takeAll_1 : decode cX12_takeAll 1 = .ok (.iconst 0, 1) := by decide +kernel
theorem dX12_takeAll_2 : decode cX12_takeAll 2 = .ok (.putfield 202, 3) := by decide +kernel
theorem dX12_takeAll_5 : decode cX12_takeAll 5 = .ok (.aload_n 0, 1) := by decide +kernel
theorem dX12_takeAll_6 : decode cX12_takeAll 6 = .ok (.iconst 0, 1) := by decide +kernel
theorem dX12_takeAll_7 : decode cX12_takeAll 7 = .ok (.putfield 205, 3) := by decide +kernel
theorem dX12_takeAll_10 : decode cX12_takeAll 10 = .ok (.aload_n 0, 1) := by decide +kernel
theorem dX12_takeAll_11 : decode cX12_takeAll 11 = .ok (.iconst 0, 1) := by decide +kernel
theorem dX12_takeAll_12 : decode cX12_takeAll 12 = .ok (.putfield 214, 3) := by decide +kernel
theorem dX12_takeAll_15 : decode cX12_takeAll 15 = .ok (.aload_n 0, 1) := by decide +kernel
theorem dX12_takeAll_16 : decode cX12_takeAll 16 = .ok (.iconst 0, 1) := by decide +kernel
theorem dX12_takeAll_17 : decode cX12_takeAll 17 = .ok (.putfield 217, 3) := by decide +kernel
theorem dX12_takeAll_20 : decode cX12_takeAll 20 = .ok (.iconst 0, 1) := by decide +kernel
theorem dX12_takeAll_21 : decode cX12_takeAll 21 = .ok (.istore_n 1, 1) := by decide +kernel
theorem dX12_takeAll_22 : decode cX12_takeAll 22 = .ok (.iload_n 1, 1) := by decide +kernel
theorem dX12_takeAll_23 : decode cX12_takeAll 23 = .ok (.bipush 6, 2) := by decide +kernel
theorem dX12_takeAll_25 : decode cX12_takeAll 25 = .ok (.if_icmp .ge 23, 3) := by decide +kernel
theorem dX12_takeAll_28 : decode cX12_takeAll 28 = .ok (.aload_n 0, 1) := by decide +kernel
theorem dX12_takeAll_29 : decode cX12_takeAll 29 = .ok (.getfield 17, 3) := by decide +kernel
theorem dX12_takeAll_32 : decode cX12_takeAll 32 = .ok (.iload_n 1, 1) := by decide +kernel
theorem dX12_takeAll_33 : decode cX12_takeAll 33 = .ok (.iconst 0, 1) := by decide +kernel
theorem dX12_takeAll_34 : decode cX12_takeAll 34 = .ok (.bastore, 1) := by decide +kernel
theorem dX12_takeAll_35 : decode cX12_takeAll 35 = .ok (.aload_n 0, 1) := by decide +kernel
theorem dX12_takeAll_36 : decode cX12_takeAll 36 = .ok (.getfield 20, 3) := by decide +kernel
theorem dX12_takeAll_39 : decode cX12_takeAll 39 = .ok (.iload_n 1, 1) := by decide +kernel
theorem dX12_takeAll_40 : decode cX12_takeAll 40 = .ok (.iconst 0, 1) := by decide +kernel
theorem dX12_takeAll_41 : decode cX12_takeAll 41 = .ok (.bastore, 1) := by decide +kernel
theorem dX12_takeAll_42 : decode cX12_takeAll 42 = .ok (.iinc 1 1, 3) := by decide +kernel
theorem dX12_takeAll_45 : decode cX12_takeAll 45 = .ok (.goto (-23), 3) := by decide +kernel
theorem dX12_takeAll_48 : decode cX12_takeAll 48 = .ok (.iconst 0, 1) := by decide +kernel
theorem dX12_takeAll_49 : decode cX12_takeAll 49 = .ok (.istore_n 1, 1) := by decide +kernel
theorem dX12_takeAll_50 : decode cX12_takeAll 50 = .ok (.iconst 0, 1) := by decide +kernel
theorem dX12_takeAll_51 : decode cX12_takeAll 51 = .ok (.istore_n 2, 1) := by decide +kernel
theorem dX12_takeAll_52 : decode cX12_takeAll 52 = .ok (.iload_n 1, 1) := by decide +kernel
theorem dX12_takeAll_53 : decode cX12_takeAll 53 = .ok (.aload_n 0, 1) := by decide +kernel
theorem dX12_takeAll_54 : decode cX12_takeAll 54 = .ok (.getfield 185, 3) := by decide +kernel
theorem dX12_takeAll_57 : decode cX12_takeAll 57 = .ok (.if_icmp .ge 79, 3) := by decide +kernel
theorem dX12_takeAll_60 : decode cX12_takeAll 60 = .ok (.iload_n 2, 1) := by decide +kernel
theorem dX12_takeAll_61 : decode cX12_takeAll 61 = .ok (.ifCond .eq 15, 3) := by decide +kernel
theorem dX12_takeAll_64 : decode cX12_takeAll 64 = .ok (.aload_n 0, 1) := by decide +kernel
theorem dX12_takeAll_65 : decode cX12_takeAll 65 = .ok (.getfield 7, 3) := by decide +kernel
theorem dX12_takeAll_68 : decode cX12_takeAll 68 = .ok (.iconst 3, 1) := by decide +kernel
theorem dX12_takeAll_69 : decode cX12_takeAll 69 = .ok (.iload_n 1, 1) := by decide +kernel
theorem dX12_takeAll_70 : decode cX12_takeAll 70 = .ok (.imul, 1) := by decide +kernel
theorem dX12_takeAll_71 : decode cX12_takeAll 71 = .ok (.iaload, 1) := by decide +kernel
theorem dX12_takeAll_72 : decode cX12_takeAll 72 = .ok (.iconst 2, 1) := by decide +kernel
theorem dX12_takeAll_73 : decode cX12_takeAll 73 = .ok (.if_icmp .lt 63, 3) := by decide +kernel
theorem dX12_takeAll_76 : decode cX12_takeAll 76 = .ok (.iload_n 2, 1) := by decide +kernel
theorem dX12_takeAll_77 : decode cX12_takeAll 77 = .ok (.ifCond .ne 15, 3) := by decide +kernel
theorem dX12_takeAll_80 : decode cX12_takeAll 80 = .ok (.aload_n 0, 1) := by decide +kernel
theorem dX12_takeAll_81 : decode cX12_takeAll 81 = .ok (.getfield 7, 3) := by decide +kernel
theorem dX12_takeAll_84 : decode cX12_takeAll 84 = .ok (.iconst 3, 1) := by decide +kernel
theorem dX12_takeAll_85 : decode cX12_takeAll 85 = .ok (.iload_n 1, 1) := by decide +kernel
theorem dX12_takeAll_86 : decode cX12_takeAll 86 = .ok (.imul, 1) := by decide +kernel
theorem dX12_takeAll_87 : decode cX12_takeAll 87 = .ok (.iaload, 1) := by decide +kernel
theorem dX12_takeAll_88 : decode cX12_takeAll 88 = .ok (.iconst 1, 1) := by decide +kernel
theorem dX12_takeAll_89 : decode cX12_takeAll 89 = .ok (.if_icmp .ne 7, 3) := by decide +kernel
theorem dX12_takeAll_92 : decode cX12_takeAll 92 = .ok (.iconst 1, 1) := by decide +kernel
theorem dX12_takeAll_93 : decode cX12_takeAll 93 = .ok (.goto 4, 3) := by decide +kernel
theorem dX12_takeAll_96 : decode cX12_takeAll 96 = .ok (.iconst 0, 1) := by decide +kernel
theorem dX12_takeAll_97 : decode cX12_takeAll 97 = .ok (.istore_n 2, 1) := by decide +kernel
theorem dX12_takeAll_98 : decode cX12_takeAll 98 = .ok (.aload_n 0, 1) := by decide +kernel
theorem dX12_takeAll_99 : decode cX12_takeAll 99 = .ok (.aload_n 0, 1) := by decide +kernel
theorem dX12_takeAll_100 : decode cX12_takeAll 100 = .ok (.getfield 7, 3) := by decide +kernel
theorem dX12_takeAll_103 : decode cX12_takeAll 103 = .ok (.iconst 3, 1) := by decide +kernel
theorem dX12_takeAll_104 : decode cX12_takeAll 104 = .ok (.iload_n 1, 1) := by decide +kernel
theorem dX12_takeAll_105 : decode cX12_takeAll 105 = .ok (.imul, 1) := by decide +kernel
theorem dX12_takeAll_106 : decode cX12_takeAll 106 = .ok (.iaload, 1) := by decide +kernel
theorem dX12_takeAll_107 : decode cX12_takeAll 107 = .ok (.aload_n 0, 1) := by decide +kernel
theorem dX12_takeAll_108 : decode cX12_takeAll 108 = .ok (.getfield 7, 3) := by decide +kernel
theorem dX12_takeAll_111 : decode cX12_takeAll 111 = .ok (.iconst 3, 1) := by decide +kernel
theorem dX12_takeAll_112 : decode cX12_takeAll 112 = .ok (.iload_n 1, 1) := by decide +kernel
theorem dX12_takeAll_113 : decode cX12_takeAll 113 = .ok (.imul, 1) := by decide +kernel
theorem dX12_takeAll_114 : decode cX12_takeAll 114 = .ok (.iconst 1, 1) := by decide +kernel
theorem dX12_takeAll_115 : decode cX12_takeAll 115 = .ok (.iadd, 1) := by decide +kernel
theorem dX12_takeAll_116 : decode cX12_takeAll 116 = .ok (.iaload, 1) := by decide +kernel
theorem dX12_takeAll_117 : decode cX12_takeAll 117 = .ok (.aload_n 0, 1) := by decide +kernel
theorem dX12_takeAll_118 : decode cX12_takeAll 118 = .ok (.getfield 7, 3) := by decide +kernel
theorem dX12_takeAll_121 : decode cX12_takeAll 121 = .ok (.iconst 3, 1) := by decide +kernel
theorem dX12_takeAll_122 : decode cX12_takeAll 122 = .ok (.iload_n 1, 1) := by decide +kernel
theorem dX12_takeAll_123 : decode cX12_takeAll 123 = .ok (.imul, 1) := by decide +kernel
theorem dX12_takeAll_124 : decode cX12_takeAll 124 = .ok (.iconst 2, 1) := by decide +kernel
theorem dX12_takeAll_125 : decode cX12_takeAll 125 = .ok (.iadd, 1) := by decide +kernel
theorem dX12_takeAll_126 : decode cX12_takeAll 126 = .ok (.iaload, 1) := by decide +kernel
theorem dX12_takeAll_127 : decode cX12_takeAll 127 = .ok (.invokevirtual 220, 3) := by decide +kernel
theorem dX12_takeAll_130 : decode cX12_takeAll 130 = .ok (.iinc 1 1, 3) := by decide +kernel
theorem dX12_takeAll_133 : decode cX12_takeAll 133 = .ok (.goto (-81), 3) := by decide +kernel
theorem dX12_takeAll_136 : decode cX12_takeAll 136 = .ok (.iconst 3, 1) := by decide +kernel
theorem dX12_takeAll_137 : decode cX12_takeAll 137 = .ok (.iload_n 1, 1) := by decide +kernel
theorem dX12_takeAll_138 : decode cX12_takeAll 138 = .ok (.imul, 1) := by decide +kernel
theorem dX12_takeAll_139 : decode cX12_takeAll 139 = .ok (.istore_n 3, 1) := by decide +kernel
theorem dX12_takeAll_140 : decode cX12_takeAll 140 = .ok (.iload_n 3, 1) := by decide +kernel
theorem dX12_takeAll_141 : decode cX12_takeAll 141 = .ok (.iconst 3, 1) := by decide +kernel
theorem dX12_takeAll_142 : decode cX12_takeAll 142 = .ok (.aload_n 0, 1) := by decide +kernel
theorem dX12_takeAll_143 : decode cX12_takeAll 143 = .ok (.getfield 185, 3) := by decide +kernel
theorem dX12_takeAll_146 : decode cX12_takeAll 146 = .ok (.imul, 1) := by decide +kernel
theorem dX12_takeAll_147 : decode cX12_takeAll 147 = .ok (.if_icmp .ge 25, 3) := by decide +kernel
theorem dX12_takeAll_150 : decode cX12_takeAll 150 = .ok (.aload_n 0, 1) := by decide +kernel
theorem dX12_takeAll_151 : decode cX12_takeAll 151 = .ok (.getfield 7, 3) := by decide +kernel
theorem dX12_takeAll_154 : decode cX12_takeAll 154 = .ok (.iload_n 3, 1) := by decide +kernel
theorem dX12_takeAll_155 : decode cX12_takeAll 155 = .ok (.iconst 3, 1) := by decide +kernel
theorem dX12_takeAll_156 : decode cX12_takeAll 156 = .ok (.iload_n 1, 1) := by decide +kernel
theorem dX12_takeAll_157 : decode cX12_takeAll 157 = .ok (.imul, 1) := by decide +kernel
theorem dX12_takeAll_158 : decode cX12_takeAll 158 = .ok (.isub, 1) := by decide +kernel
theorem dX12_takeAll_159 : decode cX12_takeAll 159 = .ok (.aload_n 0, 1) := by decide +kernel
theorem dX12_takeAll_160 : decode cX12_takeAll 160 = .ok (.getfield 7, 3) := by decide +kernel
theorem dX12_takeAll_163 : decode cX12_takeAll 163 = .ok (.iload_n 3, 1) := by decide +kernel
theorem dX12_takeAll_164 : decode cX12_takeAll 164 = .ok (.iaload, 1) := by decide +kernel
theorem dX12_takeAll_165 : decode cX12_takeAll 165 = .ok (.iastore, 1) := by decide +kernel
theorem dX12_takeAll_166 : decode cX12_takeAll 166 = .ok (.iinc 3 1, 3) := by decide +kernel
theorem dX12_takeAll_169 : decode cX12_takeAll 169 = .ok (.goto (-29), 3) := by decide +kernel
theorem dX12_takeAll_172 : decode cX12_takeAll 172 = .ok (.aload_n 0, 1) := by decide +kernel
theorem dX12_takeAll_173 : decode cX12_takeAll 173 = .ok (.dup, 1) := by decide +kernel
theorem dX12_takeAll_174 : decode cX12_takeAll 174 = .ok (.getfield 185, 3) := by decide +kernel
theorem dX12_takeAll_177 : decode cX12_takeAll 177 = .ok (.iload_n 1, 1) := by decide +kernel
theorem dX12_takeAll_178 : decode cX12_takeAll 178 = .ok (.isub, 1) := by decide +kernel
theorem dX12_takeAll_179 : decode cX12_takeAll 179 = .ok (.putfield 185, 3) := by decide +kernel
theorem dX12_takeAll_182 : decode cX12_takeAll 182 = .ok (.iload_n 1, 1) := by decide +kernel
theorem dX12_takeAll_183 : decode cX12_takeAll 183 = .ok (.ireturn, 1) := by decide +kernel
set_option maxHeartbeats 4000000 in
set_option maxRecDepth 100000 in
theorem m_X12_takeAll (l : Launch) {Z : pZ} (S : pSh Z) {h : pH} (I : Iv Z h) (E9 : mE h) : pMet l yX12_takeAll cX12_takeAll 4 (some .int) 1 0 0 24 Z h [.ref (zB Z + 137)] (pQi Z (fun r Z1 h1 => Z = Z1 ∧ Iv Z h1 ∧ agr [(137, 3), (137, 4), (137, 9), (137, 13), (137, 14), (137, 7), (137, 8), (137, 15), (137, 16), (139, 1000), (140, 1000), (141, 1000), (142, 1000), (137, 2), (138, 1000)] h h1 ∧ (0 ≤ r.toInt ∧ r.toInt ≤ (h 137 2).toInt) ∧ ((h1 137 2).toInt ≤ (h 137 2).toInt ∧ 0 ≤ (h1 137 2).toInt) ∧ (mE h1) ∧ ((h 137 2).toInt + (-64) ≤ (h1 137 2).toInt ∧ (h1 137 2).toInt ≤ (h 137 2).toInt + (0)))) := by
  refine pOfW (lv := [(0, .ref (zB Z + 137))]) (by decide) (Nat.le_of_ble_eq_true rfl) rfl ?_
  intro p e s m below meth c ls M hr hlk hnm V hl
  have hx := M.1.1
  have hb := M.1.2.1
  have A : agr [] h h := agr.rf
  have i_2 : 0 ≤ (h 137 2).toInt ∧ (h 137 2).toInt ≤ 64 := I.get (sm_this S) 2
  have hE0 := E9
  have J_140 : ∀ (n9 : Nat) (x140_1 : Int32) (x140_2 : Int32) (x140_3 : Int32) (hJ : pH) (H : Heap) (locs : List Loc) (ls : Array Slot), pV Z hJ s.heap H locs → Iv Z hJ → agr [(137, 3), (137, 4), (137, 7), (137, 8), (137, 9), (137, 13), (137, 14), (137, 15), (137, 16), (138, 1000), (139, 1000), (140, 1000), (141, 1000), (142, 1000)] h hJ → lv_has ls 4 [(0, .ref (zB Z + 137)), (1, .int x140_1), (2, .int x140_2), (3, .int x140_3)] → (0 ≤ x140_1.toInt ∧ x140_1.toInt ≤ 64) → (0 ≤ x140_2.toInt ∧ x140_2.toInt ≤ 1) → (0 ≤ x140_3.toInt ∧ x140_3.toInt ≤ 192) → ((h 137 2).toInt + (0) ≤ (hJ 137 2).toInt ∧ (hJ 137 2).toInt ≤ (h 137 2).toInt + (0)) → (x140_1.toInt ≤ (hJ 137 2).toInt ∧ 3 * x140_1.toInt ≤ x140_3.toInt ∧ x140_3.toInt ≤ 3 * (hJ 137 2).toInt) → (mSh h hJ x140_1 x140_3) → (192 - x140_3.toInt).toNat < n9 → W p l e (pRm 1 0 0 24) s m ([.ref (zB Z + 137)] : List Value).toArray below meth c H locs 0 0 (MQ below (pQi Z (fun r Z1 h1 => Z = Z1 ∧ Iv Z h1 ∧ agr [(137, 3), (137, 4), (137, 9), (137, 13), (137, 14), (137, 7), (137, 8), (137, 15), (137, 16), (139, 1000), (140, 1000), (141, 1000), (142, 1000), (137, 2), (138, 1000)] h h1 ∧ (0 ≤ r.toInt ∧ r.toInt ≤ (h 137 2).toInt) ∧ ((h1 137 2).toInt ≤ (h 137 2).toInt ∧ 0 ≤ (h1 137 2).toInt) ∧ (mE h1) ∧ ((h 137 2).toInt + (-64) ≤ (h1 137 2).toInt ∧ (h1 137 2).toInt ≤ (h 137 2).toInt + (0)))) ([.ref (zB Z + 137)] : List Value).toArray s 0 0 (pA (zB Z))) (F0 m 140 ls []) := by
    intro n9
    induction n9 with
    | zero => intro x140_1 x140_2 x140_3 hJ H locs ls V I A hl g_140_1 g_140_2 g_140_3 gd_140_2 e140 g140 hm9; exact absurd hm9 (Nat.not_lt_zero _)
    | succ n9 ih_140 =>
      intro x140_1 x140_2 x140_3 hJ H locs ls V I A hl g_140_1 g_140_2 g_140_3 gd_140_2 e140 g140 hm9
      refine lv_iload_n hx hb dX12_takeAll_140 rfl (lv_at hl 3 rfl) ?_
      refine lv_iconst (v := 3) hx hb dX12_takeAll_141 (by decide) ?_
      refine lv_aload_n hx hb dX12_takeAll_142 rfl (lv_at hl 0 rfl) ?_
      refine pg_i M V 12 2 (sm_this S) pC12 fk12_2 lkF_X12_185 dX12_takeAll_143 ?_
      refine lv_topi (fun v1 ev1 => ?_)
      have tv1 : 0 ≤ v1.toInt ∧ v1.toInt ≤ 64 := by rw [ev1]; exact I.get (sm_this S) 2
      have uv1 : v1.toInt = (hJ 137 2).toInt := congrArg Int32.toInt ev1
      refine lv_imul hx hb dX12_takeAll_146 ?_
      refine lv_topi (fun v2 ev2 => ?_)
      refine lv_icmp_ge (tgt := 172) hx hb dX12_takeAll_147 (by decide) (fun c_147 => ?_) (fun c_147 => ?_)
      · skip
        have k_3 : (3 : Int32).toInt = 3 := rfl
        have tv2 : v2.toInt = 3 * v1.toInt := by rw [ev2]; have z9 := pi_mul (x := (3 : Int32)) (y := v1); rw [k_3] at z9; exact z9 (by omega)
        have c_147 := pi_le.mp c_147
        refine lv_aload_n hx hb dX12_takeAll_172 rfl (lv_at hl 0 rfl) ?_
        refine lv_dup hx hb dX12_takeAll_173 rfl ?_
        refine pg_iv M V 12 2 (v := v1) (sm_this S) pC12 fk12_2 ev1.symm lkF_X12_185 dX12_takeAll_174 ?_
        refine lv_iload_n hx hb dX12_takeAll_177 rfl (lv_at hl 1 rfl) ?_
        refine lv_isub hx hb dX12_takeAll_178 ?_
        refine lv_topi (fun v3 ev3 => ?_)
        refine pp_i M V 12 2 (sm_this S) pC12 fk12_2 rfl lkF_X12_185 ⟨rfl, rfl⟩ dX12_takeAll_179 (fun H locs V => ?_)
        have A := A.wk (l3 := [(137, 3), (137, 4), (137, 7), (137, 8), (137, 9), (137, 13), (137, 14), (137, 15), (137, 16), (138, 1000), (139, 1000), (140, 1000), (141, 1000), (142, 1000), (137, 2)]) (by decide)
        have A := A.up (o := 137) (k := 2) (v := v3) (by decide)
        have tv3 : v3.toInt = v1.toInt - x140_1.toInt := by rw [ev3]; exact pi_sub (by omega)
        have I := I.up (k := 2) (v := v3) (sm_this S) (show (0 : Int) ≤ v3.toInt ∧ v3.toInt ≤ (64 : Int) by omega)
        refine lv_iload_n hx hb dX12_takeAll_182 rfl (lv_at hl 1 rfl) ?_
        exact pe_i M V rfl rfl hr hlk rfl ⟨rfl, I, A.wk (by decide), by omega, (show v3.toInt ≤ (h 137 2).toInt ∧ 0 ≤ v3.toInt by omega), (mSh_end g140 hE0 (by omega) (by omega) (by omega)), (show (h 137 2).toInt + (-64) ≤ v3.toInt ∧ v3.toInt ≤ (h 137 2).toInt + (0) by omega)⟩ ⟨Nat.le_refl _, Nat.le_refl _⟩ dX12_takeAll_183
      · skip
        have k_3 : (3 : Int32).toInt = 3 := rfl
        have tv2 : v2.toInt = 3 * v1.toInt := by rw [ev2]; have z9 := pi_mul (x := (3 : Int32)) (y := v1); rw [k_3] at z9; exact z9 (by omega)
        have c_147 := pi_le' c_147
        refine lv_aload_n hx hb dX12_takeAll_150 rfl (lv_at hl 0 rfl) ?_
        refine pg_r M V 12 1 (sm_this S) pC12 fk12_1 (sm_events S).2.2 lkF_X12_7 dX12_takeAll_151 ?_
        refine lv_iload_n hx hb dX12_takeAll_154 rfl (lv_at hl 3 rfl) ?_
        refine lv_iconst (v := 3) hx hb dX12_takeAll_155 (by decide) ?_
        refine lv_iload_n hx hb dX12_takeAll_156 rfl (lv_at hl 1 rfl) ?_
        refine lv_imul hx hb dX12_takeAll_157 ?_
        refine lv_topi (fun v4 ev4 => ?_)
        refine lv_isub hx hb dX12_takeAll_158 ?_
        refine lv_topi (fun v5 ev5 => ?_)
        refine lv_aload_n hx hb dX12_takeAll_159 rfl (lv_at hl 0 rfl) ?_
        refine pg_r M V 12 1 (sm_this S) pC12 fk12_1 (sm_events S).2.2 lkF_X12_7 dX12_takeAll_160 ?_
        refine lv_iload_n hx hb dX12_takeAll_163 rfl (lv_at hl 3 rfl) ?_
        refine pa_i M V (sm_events S).1 (by rw [(sm_events S).2.1]; exact pi_in (by omega)) dX12_takeAll_164 ?_
        refine lv_topi (fun v6 ev6 => ?_)
        have tv4 : v4.toInt = 3 * x140_1.toInt := by rw [ev4]; have z9 := pi_mul (x := (3 : Int32)) (y := x140_1); rw [k_3] at z9; exact z9 (by omega)
        have tv5 : v5.toInt = x140_3.toInt - v4.toInt := by rw [ev5]; exact pi_sub (by omega)
        refine ps_i M V (sm_events S).1 (by rw [(sm_events S).2.1]; exact pi_in (by omega)) dX12_takeAll_165 (fun H locs V => ?_)
        have A := A.upA (o := 138) (k := v5.toNatClampNeg) (v := v6) (by decide)
        have I := I.up (k := v5.toNatClampNeg) (v := v6) (sm_events S).1 (pi_full _)
        obtain ⟨v7, ev7⟩ : ∃ y : Int32, y = x140_3 + 1 := ⟨_, rfl⟩
        refine lv_iinc (v := v7) (lv' := [(3, .int v7), (0, .ref (zB Z + 137)), (1, .int x140_1), (2, .int x140_2)]) hx hb dX12_takeAll_166 hl (k := 3) rfl (by rw [ev7]; rfl) (by decide) rfl (fun ls hl => ?_)
        refine lv_goto (tgt := 140) hx hb dX12_takeAll_169 (by decide) ?_
        have k_1 : (1 : Int32).toInt = 1 := rfl
        have tv7 : v7.toInt = x140_3.toInt + 1 := by rw [ev7]; have z9 := pi_add (x := x140_3) (y := (1 : Int32)); rw [k_1] at z9; exact z9 (by omega)
        exact ih_140 x140_1 x140_2 v7 _ _ _ _ V I (A.wk (by decide)) (lv_sub hl [1, 2, 3, 0] rfl) (by omega) (by omega) (by omega) (show (h 137 2).toInt + (0) ≤ (hJ 137 2).toInt ∧ (hJ 137 2).toInt ≤ (h 137 2).toInt + (0) by omega) (show x140_1.toInt ≤ (hJ 137 2).toInt ∧ 3 * x140_1.toInt ≤ v7.toInt ∧ v7.toInt ≤ 3 * (hJ 137 2).toInt by omega) (mSh_step g140 (by omega) (by omega) (by omega) ev6) (by omega) 
  have J_136 : ∀ (x136_1 : Int32) (x136_2 : Int32) (hJ : pH) (H : Heap) (locs : List Loc) (ls : Array Slot), pV Z hJ s.heap H locs → Iv Z hJ → agr [(137, 3), (137, 4), (137, 7), (137, 8), (137, 9), (137, 13), (137, 14), (137, 15), (137, 16), (139, 1000), (140, 1000), (141, 1000), (142, 1000)] h hJ → lv_has ls 4 [(0, .ref (zB Z + 137)), (1, .int x136_1), (2, .int x136_2)] → (0 ≤ x136_1.toInt ∧ x136_1.toInt ≤ 64) → (0 ≤ x136_2.toInt ∧ x136_2.toInt ≤ 1) → ((h 137 2).toInt + (0) ≤ (hJ 137 2).toInt ∧ (hJ 137 2).toInt ≤ (h 137 2).toInt + (0)) → (x136_1.toInt ≤ (hJ 137 2).toInt) → mE hJ → W p l e (pRm 1 0 0 24) s m ([.ref (zB Z + 137)] : List Value).toArray below meth c H locs 0 0 (MQ below (pQi Z (fun r Z1 h1 => Z = Z1 ∧ Iv Z h1 ∧ agr [(137, 3), (137, 4), (137, 9), (137, 13), (137, 14), (137, 7), (137, 8), (137, 15), (137, 16), (139, 1000), (140, 1000), (141, 1000), (142, 1000), (137, 2), (138, 1000)] h h1 ∧ (0 ≤ r.toInt ∧ r.toInt ≤ (h 137 2).toInt) ∧ ((h1 137 2).toInt ≤ (h 137 2).toInt ∧ 0 ≤ (h1 137 2).toInt) ∧ (mE h1) ∧ ((h 137 2).toInt + (-64) ≤ (h1 137 2).toInt ∧ (h1 137 2).toInt ≤ (h 137 2).toInt + (0)))) ([.ref (zB Z + 137)] : List Value).toArray s 0 0 (pA (zB Z))) (F0 m 136 ls []) := by
    intro x136_1 x136_2 hJ H locs ls V I A hl g_136_1 g_136_2 gd_136_2 e136 E9
    refine lv_iconst (v := 3) hx hb dX12_takeAll_136 (by decide) ?_
    refine lv_iload_n hx hb dX12_takeAll_137 rfl (lv_at hl 1 rfl) ?_
    refine lv_imul hx hb dX12_takeAll_138 ?_
    refine lv_topi (fun v8 ev8 => ?_)
    refine lv_istore_n (lv' := [(3, .int v8), (0, .ref (zB Z + 137)), (1, .int x136_1), (2, .int x136_2)]) hx hb dX12_takeAll_139 rfl hl (by decide) rfl (fun ls hl => ?_)
    have k_3 : (3 : Int32).toInt = 3 := rfl
    have tv8 : v8.toInt = 3 * x136_1.toInt := by rw [ev8]; have z9 := pi_mul (x := (3 : Int32)) (y := x136_1); rw [k_3] at z9; exact z9 (by omega)
    exact J_140 _ x136_1 x136_2 v8 _ _ _ _ V I (A.wk (by decide)) (lv_sub hl [1, 2, 3, 0] rfl) (by omega) (by omega) (by omega) (show (h 137 2).toInt + (0) ≤ (hJ 137 2).toInt ∧ (hJ 137 2).toInt ≤ (h 137 2).toInt + (0) by omega) (show x136_1.toInt ≤ (hJ 137 2).toInt ∧ 3 * x136_1.toInt ≤ v8.toInt ∧ v8.toInt ≤ 3 * (hJ 137 2).toInt by omega) (mSh_0 (A.row 138 (by decide)) (by omega)) (Nat.lt_succ_self _) 
  have J_52 : ∀ (n9 : Nat) (x52_1 : Int32) (x52_2 : Int32) (hJ : pH) (H : Heap) (locs : List Loc) (ls : Array Slot), pV Z hJ s.heap H locs → Iv Z hJ → agr [(137, 3), (137, 4), (137, 7), (137, 8), (137, 9), (137, 13), (137, 14), (137, 15), (137, 16), (139, 1000), (140, 1000), (141, 1000), (142, 1000)] h hJ → lv_has ls 4 [(0, .ref (zB Z + 137)), (1, .int x52_1), (2, .int x52_2)] → (0 ≤ x52_1.toInt ∧ x52_1.toInt ≤ 64) → (0 ≤ x52_2.toInt ∧ x52_2.toInt ≤ 1) → ((h 137 2).toInt + (0) ≤ (hJ 137 2).toInt ∧ (hJ 137 2).toInt ≤ (h 137 2).toInt + (0)) → (x52_1.toInt ≤ (hJ 137 2).toInt) → mE hJ → (64 - x52_1.toInt).toNat < n9 → W p l e (pRm 1 0 0 24) s m ([.ref (zB Z + 137)] : List Value).toArray below meth c H locs 0 0 (MQ below (pQi Z (fun r Z1 h1 => Z = Z1 ∧ Iv Z h1 ∧ agr [(137, 3), (137, 4), (137, 9), (137, 13), (137, 14), (137, 7), (137, 8), (137, 15), (137, 16), (139, 1000), (140, 1000), (141, 1000), (142, 1000), (137, 2), (138, 1000)] h h1 ∧ (0 ≤ r.toInt ∧ r.toInt ≤ (h 137 2).toInt) ∧ ((h1 137 2).toInt ≤ (h 137 2).toInt ∧ 0 ≤ (h1 137 2).toInt) ∧ (mE h1) ∧ ((h 137 2).toInt + (-64) ≤ (h1 137 2).toInt ∧ (h1 137 2).toInt ≤ (h 137 2).toInt + (0)))) ([.ref (zB Z + 137)] : List Value).toArray s 0 0 (pA (zB Z))) (F0 m 52 ls []) := by
    intro n9
    induction n9 with
    | zero => intro x52_1 x52_2 hJ H locs ls V I A hl g_52_1 g_52_2 gd_52_2 e52 E9 hm9; exact absurd hm9 (Nat.not_lt_zero _)
    | succ n9 ih_52 =>
      intro x52_1 x52_2 hJ H locs ls V I A hl g_52_1 g_52_2 gd_52_2 e52 E9 hm9
      have J_97 : ∀ (y97_0 : Int32) (hJ : pH) (H : Heap) (locs : List Loc) (ls : Array Slot), pV Z hJ s.heap H locs → Iv Z hJ → agr [(137, 3), (137, 4), (137, 7), (137, 8), (137, 9), (137, 13), (137, 14), (137, 15), (137, 16), (139, 1000), (140, 1000), (141, 1000), (142, 1000)] h hJ → lv_has ls 4 [(0, .ref (zB Z + 137)), (1, .int x52_1), (2, .int x52_2)] → (0 ≤ x52_1.toInt ∧ x52_1.toInt ≤ 63) → (0 ≤ x52_2.toInt ∧ x52_2.toInt ≤ 1) → (0 ≤ y97_0.toInt ∧ y97_0.toInt ≤ 1) → ((h 137 2).toInt + (0) ≤ (hJ 137 2).toInt ∧ (hJ 137 2).toInt ≤ (h 137 2).toInt + (0)) → (x52_1.toInt < (hJ 137 2).toInt) → mE hJ → W p l e (pRm 1 0 0 24) s m ([.ref (zB Z + 137)] : List Value).toArray below meth c H locs 0 0 (MQ below (pQi Z (fun r Z1 h1 => Z = Z1 ∧ Iv Z h1 ∧ agr [(137, 3), (137, 4), (137, 9), (137, 13), (137, 14), (137, 7), (137, 8), (137, 15), (137, 16), (139, 1000), (140, 1000), (141, 1000), (142, 1000), (137, 2), (138, 1000)] h h1 ∧ (0 ≤ r.toInt ∧ r.toInt ≤ (h 137 2).toInt) ∧ ((h1 137 2).toInt ≤ (h 137 2).toInt ∧ 0 ≤ (h1 137 2).toInt) ∧ (mE h1) ∧ ((h 137 2).toInt + (-64) ≤ (h1 137 2).toInt ∧ (h1 137 2).toInt ≤ (h 137 2).toInt + (0)))) ([.ref (zB Z + 137)] : List Value).toArray s 0 0 (pA (zB Z))) (F0 m 97 ls [.int y97_0]) := by
        intro y97_0 hJ H locs ls V I A hl g_97_1 g_97_2 gs_97_0 gd_97_2 e97 E9
        refine lv_istore_n (lv' := [(2, .int y97_0), (0, .ref (zB Z + 137)), (1, .int x52_1)]) hx hb dX12_takeAll_97 rfl hl (by decide) rfl (fun ls hl => ?_)
        refine lv_aload_n hx hb dX12_takeAll_98 rfl (lv_at hl 1 rfl) ?_
        refine lv_aload_n hx hb dX12_takeAll_99 rfl (lv_at hl 1 rfl) ?_
        refine pg_r M V 12 1 (sm_this S) pC12 fk12_1 (sm_events S).2.2 lkF_X12_7 dX12_takeAll_100 ?_
        refine lv_iconst (v := 3) hx hb dX12_takeAll_103 (by decide) ?_
        refine lv_iload_n hx hb dX12_takeAll_104 rfl (lv_at hl 2 rfl) ?_
        refine lv_imul hx hb dX12_takeAll_105 ?_
        refine lv_topi (fun v9 ev9 => ?_)
        have k_3 : (3 : Int32).toInt = 3 := rfl
        have tv9 : v9.toInt = 3 * x52_1.toInt := by rw [ev9]; have z9 := pi_mul (x := (3 : Int32)) (y := x52_1); rw [k_3] at z9; exact z9 (by omega)
        refine pa_i M V (sm_events S).1 (by rw [(sm_events S).2.1]; exact pi_in (by omega)) dX12_takeAll_106 ?_
        refine lv_topi (fun v10 ev10 => ?_)
        refine lv_aload_n hx hb dX12_takeAll_107 rfl (lv_at hl 1 rfl) ?_
        refine pg_r M V 12 1 (sm_this S) pC12 fk12_1 (sm_events S).2.2 lkF_X12_7 dX12_takeAll_108 ?_
        refine lv_iconst (v := 3) hx hb dX12_takeAll_111 (by decide) ?_
        refine lv_iload_n hx hb dX12_takeAll_112 rfl (lv_at hl 2 rfl) ?_
        refine lv_imul hx hb dX12_takeAll_113 ?_
        refine lv_topi (fun v11 ev11 => ?_)
        refine lv_iconst (v := 1) hx hb dX12_takeAll_114 (by decide) ?_
        refine lv_iadd hx hb dX12_takeAll_115 ?_
        refine lv_topi (fun v12 ev12 => ?_)
        have tv11 : v11.toInt = 3 * x52_1.toInt := by rw [ev11]; have z9 := pi_mul (x := (3 : Int32)) (y := x52_1); rw [k_3] at z9; exact z9 (by omega)
        have k_1 : (1 : Int32).toInt = 1 := rfl
        have tv12 : v12.toInt = v11.toInt + 1 := by rw [ev12]; have z9 := pi_add (x := v11) (y := (1 : Int32)); rw [k_1] at z9; exact z9 (by omega)
        refine pa_i M V (sm_events S).1 (by rw [(sm_events S).2.1]; exact pi_in (by omega)) dX12_takeAll_116 ?_
        refine lv_topi (fun v13 ev13 => ?_)
        refine lv_aload_n hx hb dX12_takeAll_117 rfl (lv_at hl 1 rfl) ?_
        refine pg_r M V 12 1 (sm_this S) pC12 fk12_1 (sm_events S).2.2 lkF_X12_7 dX12_takeAll_118 ?_
        refine lv_iconst (v := 3) hx hb dX12_takeAll_121 (by decide) ?_
        refine lv_iload_n hx hb dX12_takeAll_122 rfl (lv_at hl 2 rfl) ?_
        refine lv_imul hx hb dX12_takeAll_123 ?_
        refine lv_topi (fun v14 ev14 => ?_)
        refine lv_iconst (v := 2) hx hb dX12_takeAll_124 (by decide) ?_
        refine lv_iadd hx hb dX12_takeAll_125 ?_
        refine lv_topi (fun v15 ev15 => ?_)
        have tv14 : v14.toInt = 3 * x52_1.toInt := by rw [ev14]; have z9 := pi_mul (x := (3 : Int32)) (y := x52_1); rw [k_3] at z9; exact z9 (by omega)
        have k_2 : (2 : Int32).toInt = 2 := rfl
        have tv15 : v15.toInt = v14.toInt + 2 := by rw [ev15]; have z9 := pi_add (x := v14) (y := (2 : Int32)); rw [k_2] at z9; exact z9 (by omega)
        refine pa_i M V (sm_events S).1 (by rw [(sm_events S).2.1]; exact pi_in (by omega)) dX12_takeAll_126 ?_
        refine lv_topi (fun v16 ev16 => ?_)
        refine pk_v (pr_V M V (m_X12_take l S I v10 v13 v16 (mE_use E9 (show _ ∧ x52_1.toInt < (hJ 137 2).toInt by omega) (by omega) (by omega) ev10 ev13)) km_X12_take (sm_this S) pC12 lkM_X12_220 rfl hl.1 rfl (Nat.le_of_ble_eq_true rfl) ⟨Nat.le_of_ble_eq_true rfl, Nat.le_of_ble_eq_true rfl⟩ ⟨Nat.le_of_ble_eq_true rfl, Nat.le_of_ble_eq_true rfl⟩ dX12_takeAll_127) V (fun Zr17 hr17 H locs pr17 _ _ V => ?_)
        obtain ⟨rfl, I, pA_r17⟩ := pr17
        have A := A.tr pA_r17 (by decide)
        have E9 : mE hr17 := E9.congr (pA_r17.get 137 2 (by decide)) (pA_r17.row 138 (by decide))
        have w_r17_2 : (hr17 137 2).toInt = (hJ 137 2).toInt := congrArg Int32.toInt (pA_r17.get 137 2 (by decide))
        obtain ⟨v18, ev18⟩ : ∃ y : Int32, y = x52_1 + 1 := ⟨_, rfl⟩
        refine lv_iinc (v := v18) (lv' := [(1, .int v18), (2, .int y97_0), (0, .ref (zB Z + 137))]) hx hb dX12_takeAll_130 hl (k := 2) rfl (by rw [ev18]; rfl) (by decide) rfl (fun ls hl => ?_)
        refine lv_goto (tgt := 52) hx hb dX12_takeAll_133 (by decide) ?_
        have tv18 : v18.toInt = x52_1.toInt + 1 := by rw [ev18]; have z9 := pi_add (x := x52_1) (y := (1 : Int32)); rw [k_1] at z9; exact z9 (by omega)
        exact ih_52 v18 y97_0 _ _ _ _ V I (A.wk (by decide)) (lv_sub hl [2, 0, 1] rfl) (by omega) (by omega) (show (h 137 2).toInt + (0) ≤ (hr17 137 2).toInt ∧ (hr17 137 2).toInt ≤ (h 137 2).toInt + (0) by omega) (show v18.toInt ≤ (hr17 137 2).toInt by omega) (E9.congr rfl rfl) (by omega) 
      have J_92 : ∀ (hJ : pH) (H : Heap) (locs : List Loc) (ls : Array Slot), pV Z hJ s.heap H locs → Iv Z hJ → agr [(137, 3), (137, 4), (137, 7), (137, 8), (137, 9), (137, 13), (137, 14), (137, 15), (137, 16), (139, 1000), (140, 1000), (141, 1000), (142, 1000)] h hJ → lv_has ls 4 [(0, .ref (zB Z + 137)), (1, .int x52_1), (2, .int x52_2)] → (0 ≤ x52_1.toInt ∧ x52_1.toInt ≤ 63) → (0 ≤ x52_2.toInt ∧ x52_2.toInt ≤ 1) → ((h 137 2).toInt + (0) ≤ (hJ 137 2).toInt ∧ (hJ 137 2).toInt ≤ (h 137 2).toInt + (0)) → (x52_1.toInt < (hJ 137 2).toInt) → mE hJ → W p l e (pRm 1 0 0 24) s m ([.ref (zB Z + 137)] : List Value).toArray below meth c H locs 0 0 (MQ below (pQi Z (fun r Z1 h1 => Z = Z1 ∧ Iv Z h1 ∧ agr [(137, 3), (137, 4), (137, 9), (137, 13), (137, 14), (137, 7), (137, 8), (137, 15), (137, 16), (139, 1000), (140, 1000), (141, 1000), (142, 1000), (137, 2), (138, 1000)] h h1 ∧ (0 ≤ r.toInt ∧ r.toInt ≤ (h 137 2).toInt) ∧ ((h1 137 2).toInt ≤ (h 137 2).toInt ∧ 0 ≤ (h1 137 2).toInt) ∧ (mE h1) ∧ ((h 137 2).toInt + (-64) ≤ (h1 137 2).toInt ∧ (h1 137 2).toInt ≤ (h 137 2).toInt + (0)))) ([.ref (zB Z + 137)] : List Value).toArray s 0 0 (pA (zB Z))) (F0 m 92 ls []) := by
        intro hJ H locs ls V I A hl g_92_1 g_92_2 gd_92_2 e92 E9
        refine lv_iconst (v := 1) hx hb dX12_takeAll_92 (by decide) ?_
        refine lv_goto (tgt := 97) hx hb dX12_takeAll_93 (by decide) ?_
        have k_1 : (1 : Int32).toInt = 1 := rfl
        exact J_97 (1 : Int32) _ _ _ _ V I (A.wk (by decide)) (lv_sub hl [0, 1, 2] rfl) (by omega) (by omega) (by omega) (show (h 137 2).toInt + (0) ≤ (hJ 137 2).toInt ∧ (hJ 137 2).toInt ≤ (h 137 2).toInt + (0) by omega) (show x52_1.toInt < (hJ 137 2).toInt by omega) (E9.congr rfl rfl) 
      have J_76 : ∀ (hJ : pH) (H : Heap) (locs : List Loc) (ls : Array Slot), pV Z hJ s.heap H locs → Iv Z hJ → agr [(137, 3), (137, 4), (137, 7), (137, 8), (137, 9), (137, 13), (137, 14), (137, 15), (137, 16), (139, 1000), (140, 1000), (141, 1000), (142, 1000)] h hJ → lv_has ls 4 [(0, .ref (zB Z + 137)), (1, .int x52_1), (2, .int x52_2)] → (0 ≤ x52_1.toInt ∧ x52_1.toInt ≤ 63) → (0 ≤ x52_2.toInt ∧ x52_2.toInt ≤ 1) → ((h 137 2).toInt + (0) ≤ (hJ 137 2).toInt ∧ (hJ 137 2).toInt ≤ (h 137 2).toInt + (0)) → (x52_1.toInt < (hJ 137 2).toInt) → mE hJ → W p l e (pRm 1 0 0 24) s m ([.ref (zB Z + 137)] : List Value).toArray below meth c H locs 0 0 (MQ below (pQi Z (fun r Z1 h1 => Z = Z1 ∧ Iv Z h1 ∧ agr [(137, 3), (137, 4), (137, 9), (137, 13), (137, 14), (137, 7), (137, 8), (137, 15), (137, 16), (139, 1000), (140, 1000), (141, 1000), (142, 1000), (137, 2), (138, 1000)] h h1 ∧ (0 ≤ r.toInt ∧ r.toInt ≤ (h 137 2).toInt) ∧ ((h1 137 2).toInt ≤ (h 137 2).toInt ∧ 0 ≤ (h1 137 2).toInt) ∧ (mE h1) ∧ ((h 137 2).toInt + (-64) ≤ (h1 137 2).toInt ∧ (h1 137 2).toInt ≤ (h 137 2).toInt + (0)))) ([.ref (zB Z + 137)] : List Value).toArray s 0 0 (pA (zB Z))) (F0 m 76 ls []) := by
        intro hJ H locs ls V I A hl g_76_1 g_76_2 gd_76_2 e76 E9
        refine lv_iload_n hx hb dX12_takeAll_76 rfl (lv_at hl 2 rfl) ?_
        refine lv_if_ne (tgt := 92) hx hb dX12_takeAll_77 (by decide) (fun c_77 => ?_) (fun c_77 => ?_)
        · skip
          have k_0 : (0 : Int32).toInt = 0 := rfl
          have c_77 := pi_ne c_77
          exact J_92 _ _ _ _ V I (A.wk (by decide)) (lv_sub hl [0, 1, 2] rfl) (by omega) (by omega) (show (h 137 2).toInt + (0) ≤ (hJ 137 2).toInt ∧ (hJ 137 2).toInt ≤ (h 137 2).toInt + (0) by omega) (show x52_1.toInt < (hJ 137 2).toInt by omega) (E9.congr rfl rfl) 
        · skip
          have k_0 : (0 : Int32).toInt = 0 := rfl
          have c_77 := pi_eq.mp c_77
          refine lv_aload_n hx hb dX12_takeAll_80 rfl (lv_at hl 0 rfl) ?_
          refine pg_r M V 12 1 (sm_this S) pC12 fk12_1 (sm_events S).2.2 lkF_X12_7 dX12_takeAll_81 ?_
          refine lv_iconst (v := 3) hx hb dX12_takeAll_84 (by decide) ?_
          refine lv_iload_n hx hb dX12_takeAll_85 rfl (lv_at hl 1 rfl) ?_
          refine lv_imul hx hb dX12_takeAll_86 ?_
          refine lv_topi (fun v19 ev19 => ?_)
          have k_3 : (3 : Int32).toInt = 3 := rfl
          have tv19 : v19.toInt = 3 * x52_1.toInt := by rw [ev19]; have z9 := pi_mul (x := (3 : Int32)) (y := x52_1); rw [k_3] at z9; exact z9 (by omega)
          refine pa_i M V (sm_events S).1 (by rw [(sm_events S).2.1]; exact pi_in (by omega)) dX12_takeAll_87 ?_
          refine lv_topi (fun v20 ev20 => ?_)
          refine lv_iconst (v := 1) hx hb dX12_takeAll_88 (by decide) ?_
          refine lv_icmp_ne (tgt := 96) hx hb dX12_takeAll_89 (by decide) (fun c_89 => ?_) (fun c_89 => ?_)
          · skip
            have k_1 : (1 : Int32).toInt = 1 := rfl
            have c_89 := pi_ne c_89
            refine lv_iconst (v := 0) hx hb dX12_takeAll_96 (by decide) ?_
            exact J_97 (0 : Int32) _ _ _ _ V I (A.wk (by decide)) (lv_sub hl [0, 1, 2] rfl) (by omega) (by omega) (by omega) (show (h 137 2).toInt + (0) ≤ (hJ 137 2).toInt ∧ (hJ 137 2).toInt ≤ (h 137 2).toInt + (0) by omega) (show x52_1.toInt < (hJ 137 2).toInt by omega) (E9.congr rfl rfl) 
          · skip
            have k_1 : (1 : Int32).toInt = 1 := rfl
            have c_89 := pi_eq.mp c_89
            exact J_92 _ _ _ _ V I (A.wk (by decide)) (lv_sub hl [0, 1, 2] rfl) (by omega) (by omega) (show (h 137 2).toInt + (0) ≤ (hJ 137 2).toInt ∧ (hJ 137 2).toInt ≤ (h 137 2).toInt + (0) by omega) (show x52_1.toInt < (hJ 137 2).toInt by omega) (E9.congr rfl rfl) 
      refine lv_iload_n hx hb dX12_takeAll_52 rfl (lv_at hl 1 rfl) ?_
      refine lv_aload_n hx hb dX12_takeAll_53 rfl (lv_at hl 0 rfl) ?_
      refine pg_i M V 12 2 (sm_this S) pC12 fk12_2 lkF_X12_185 dX12_takeAll_54 ?_
      refine lv_topi (fun v21 ev21 => ?_)
      have tv21 : 0 ≤ v21.toInt ∧ v21.toInt ≤ 64 := by rw [ev21]; exact I.get (sm_this S) 2
      have uv21 : v21.toInt = (hJ 137 2).toInt := congrArg Int32.toInt ev21
      refine lv_icmp_ge (tgt := 136) hx hb dX12_takeAll_57 (by decide) (fun c_57 => ?_) (fun c_57 => ?_)
      · skip
        have c_57 := pi_le.mp c_57
        exact J_136 x52_1 x52_2 _ _ _ _ V I (A.wk (by decide)) (lv_sub hl [0, 1, 2] rfl) (by omega) (by omega) (show (h 137 2).toInt + (0) ≤ (hJ 137 2).toInt ∧ (hJ 137 2).toInt ≤ (h 137 2).toInt + (0) by omega) (show x52_1.toInt ≤ (hJ 137 2).toInt by omega) (E9.congr rfl rfl) 
      · skip
        have c_57 := pi_le' c_57
        refine lv_iload_n hx hb dX12_takeAll_60 rfl (lv_at hl 2 rfl) ?_
        refine lv_if_eq (tgt := 76) hx hb dX12_takeAll_61 (by decide) (fun c_61 => ?_) (fun c_61 => ?_)
        · skip
          have k_0 : (0 : Int32).toInt = 0 := rfl
          have c_61 := pi_eq.mp c_61
          exact J_76 _ _ _ _ V I (A.wk (by decide)) (lv_sub hl [0, 1, 2] rfl) (by omega) (by omega) (show (h 137 2).toInt + (0) ≤ (hJ 137 2).toInt ∧ (hJ 137 2).toInt ≤ (h 137 2).toInt + (0) by omega) (show x52_1.toInt < (hJ 137 2).toInt by omega) (E9.congr rfl rfl) 
        · skip
          have k_0 : (0 : Int32).toInt = 0 := rfl
          have c_61 := pi_ne c_61
          refine lv_aload_n hx hb dX12_takeAll_64 rfl (lv_at hl 0 rfl) ?_
          refine pg_r M V 12 1 (sm_this S) pC12 fk12_1 (sm_events S).2.2 lkF_X12_7 dX12_takeAll_65 ?_
          refine lv_iconst (v := 3) hx hb dX12_takeAll_68 (by decide) ?_
          refine lv_iload_n hx hb dX12_takeAll_69 rfl (lv_at hl 1 rfl) ?_
          refine lv_imul hx hb dX12_takeAll_70 ?_
          refine lv_topi (fun v22 ev22 => ?_)
          have k_3 : (3 : Int32).toInt = 3 := rfl
          have tv22 : v22.toInt = 3 * x52_1.toInt := by rw [ev22]; have z9 := pi_mul (x := (3 : Int32)) (y := x52_1); rw [k_3] at z9; exact z9 (by omega)
          refine pa_i M V (sm_events S).1 (by rw [(sm_events S).2.1]; exact pi_in (by omega)) dX12_takeAll_71 ?_
          refine lv_topi (fun v23 ev23 => ?_)
          refine lv_iconst (v := 2) hx hb dX12_takeAll_72 (by decide) ?_
          refine lv_icmp_lt (tgt := 136) hx hb dX12_takeAll_73 (by decide) (fun c_73 => ?_) (fun c_73 => ?_)
          · skip
            have k_2 : (2 : Int32).toInt = 2 := rfl
            have c_73 := pi_lt.mp c_73
            exact J_136 x52_1 x52_2 _ _ _ _ V I (A.wk (by decide)) (lv_sub hl [0, 1, 2] rfl) (by omega) (by omega) (show (h 137 2).toInt + (0) ≤ (hJ 137 2).toInt ∧ (hJ 137 2).toInt ≤ (h 137 2).toInt + (0) by omega) (show x52_1.toInt ≤ (hJ 137 2).toInt by omega) (E9.congr rfl rfl) 
          · skip
            have k_2 : (2 : Int32).toInt = 2 := rfl
            have c_73 := pi_lt' c_73
            exact J_76 _ _ _ _ V I (A.wk (by decide)) (lv_sub hl [0, 1, 2] rfl) (by omega) (by omega) (show (h 137 2).toInt + (0) ≤ (hJ 137 2).toInt ∧ (hJ 137 2).toInt ≤ (h 137 2).toInt + (0) by omega) (show x52_1.toInt < (hJ 137 2).toInt by omega) (E9.congr rfl rfl) 
  have J_22 : ∀ (n9 : Nat) (x22_1 : Int32) (hJ : pH) (H : Heap) (locs : List Loc) (ls : Array Slot), pV Z hJ s.heap H locs → Iv Z hJ → agr [(137, 13), (137, 14), (137, 15), (137, 16), (140, 1000), (141, 1000)] h hJ → lv_has ls 4 [(0, .ref (zB Z + 137)), (1, .int x22_1)] → (0 ≤ x22_1.toInt ∧ x22_1.toInt ≤ 6) → ((h 137 2).toInt + (0) ≤ (hJ 137 2).toInt ∧ (hJ 137 2).toInt ≤ (h 137 2).toInt + (0)) → mE hJ → (6 - x22_1.toInt).toNat < n9 → W p l e (pRm 1 0 0 24) s m ([.ref (zB Z + 137)] : List Value).toArray below meth c H locs 0 0 (MQ below (pQi Z (fun r Z1 h1 => Z = Z1 ∧ Iv Z h1 ∧ agr [(137, 3), (137, 4), (137, 9), (137, 13), (137, 14), (137, 7), (137, 8), (137, 15), (137, 16), (139, 1000), (140, 1000), (141, 1000), (142, 1000), (137, 2), (138, 1000)] h h1 ∧ (0 ≤ r.toInt ∧ r.toInt ≤ (h 137 2).toInt) ∧ ((h1 137 2).toInt ≤ (h 137 2).toInt ∧ 0 ≤ (h1 137 2).toInt) ∧ (mE h1) ∧ ((h 137 2).toInt + (-64) ≤ (h1 137 2).toInt ∧ (h1 137 2).toInt ≤ (h 137 2).toInt + (0)))) ([.ref (zB Z + 137)] : List Value).toArray s 0 0 (pA (zB Z))) (F0 m 22 ls []) := by
    intro n9
    induction n9 with
    | zero => intro x22_1 hJ H locs ls V I A hl g_22_1 gd_22_2 E9 hm9; exact absurd hm9 (Nat.not_lt_zero _)
    | succ n9 ih_22 =>
      intro x22_1 hJ H locs ls V I A hl g_22_1 gd_22_2 E9 hm9
      refine lv_iload_n hx hb dX12_takeAll_22 rfl (lv_at hl 1 rfl) ?_
      refine lv_bipush (v := 6) hx hb dX12_takeAll_23 (by decide) ?_
      refine lv_icmp_ge (tgt := 48) hx hb dX12_takeAll_25 (by decide) (fun c_25 => ?_) (fun c_25 => ?_)
      · skip
        have k_6 : (6 : Int32).toInt = 6 := rfl
        have c_25 := pi_le.mp c_25
        refine lv_iconst (v := 0) hx hb dX12_takeAll_48 (by decide) ?_
        refine lv_istore_n (lv' := [(1, .int (0 : Int32)), (0, .ref (zB Z + 137))]) hx hb dX12_takeAll_49 rfl hl (by decide) rfl (fun ls hl => ?_)
        refine lv_iconst (v := 0) hx hb dX12_takeAll_50 (by decide) ?_
        refine lv_istore_n (lv' := [(2, .int (0 : Int32)), (1, .int (0 : Int32)), (0, .ref (zB Z + 137))]) hx hb dX12_takeAll_51 rfl hl (by decide) rfl (fun ls hl => ?_)
        have k_0 : (0 : Int32).toInt = 0 := rfl
        exact J_52 _ (0 : Int32) (0 : Int32) _ _ _ _ V I (A.wk (by decide)) (lv_sub hl [2, 1, 0] rfl) (by omega) (by omega) (show (h 137 2).toInt + (0) ≤ (hJ 137 2).toInt ∧ (hJ 137 2).toInt ≤ (h 137 2).toInt + (0) by omega) (show (0 : Int32).toInt ≤ (hJ 137 2).toInt by omega) (E9.congr rfl rfl) (Nat.lt_succ_self _) 
      · skip
        have k_6 : (6 : Int32).toInt = 6 := rfl
        have c_25 := pi_le' c_25
        refine lv_aload_n hx hb dX12_takeAll_28 rfl (lv_at hl 0 rfl) ?_
        refine pg_r M V 12 11 (sm_this S) pC12 fk12_11 (sm_downHere S).2.2 lkF_X12_17 dX12_takeAll_29 ?_
        refine lv_iload_n hx hb dX12_takeAll_32 rfl (lv_at hl 1 rfl) ?_
        refine lv_iconst (v := 0) hx hb dX12_takeAll_33 (by decide) ?_
        have k_0 : (0 : Int32).toInt = 0 := rfl
        refine ps_z M V (sm_downHere S).1 (by rw [(sm_downHere S).2.1]; exact pi_in (by omega)) (pi_z (by omega)) dX12_takeAll_34 (fun H locs V => ?_)
        have A := A.upA (o := 140) (k := x22_1.toNatClampNeg) (v := (0 : Int32)) (by decide)
        have I := I.up (k := x22_1.toNatClampNeg) (v := (0 : Int32)) (sm_downHere S).1 (show (0 : Int) ≤ (0 : Int32).toInt ∧ (0 : Int32).toInt ≤ (1 : Int) by omega)
        refine lv_aload_n hx hb dX12_takeAll_35 rfl (lv_at hl 0 rfl) ?_
        refine pg_r M V 12 12 (sm_this S) pC12 fk12_12 (sm_upHere S).2.2 lkF_X12_20 dX12_takeAll_36 ?_
        refine lv_iload_n hx hb dX12_takeAll_39 rfl (lv_at hl 1 rfl) ?_
        refine lv_iconst (v := 0) hx hb dX12_takeAll_40 (by decide) ?_
        refine ps_z M V (sm_upHere S).1 (by rw [(sm_upHere S).2.1]; exact pi_in (by omega)) (pi_z (by omega)) dX12_takeAll_41 (fun H locs V => ?_)
        have A := A.upA (o := 141) (k := x22_1.toNatClampNeg) (v := (0 : Int32)) (by decide)
        have I := I.up (k := x22_1.toNatClampNeg) (v := (0 : Int32)) (sm_upHere S).1 (show (0 : Int) ≤ (0 : Int32).toInt ∧ (0 : Int32).toInt ≤ (1 : Int) by omega)
        obtain ⟨v24, ev24⟩ : ∃ y : Int32, y = x22_1 + 1 := ⟨_, rfl⟩
        refine lv_iinc (v := v24) (lv' := [(1, .int v24), (0, .ref (zB Z + 137))]) hx hb dX12_takeAll_42 hl (k := 1) rfl (by rw [ev24]; rfl) (by decide) rfl (fun ls hl => ?_)
        refine lv_goto (tgt := 22) hx hb dX12_takeAll_45 (by decide) ?_
        have k_1 : (1 : Int32).toInt = 1 := rfl
        have tv24 : v24.toInt = x22_1.toInt + 1 := by rw [ev24]; have z9 := pi_add (x := x22_1) (y := (1 : Int32)); rw [k_1] at z9; exact z9 (by omega)
        exact ih_22 v24 _ _ _ _ V I (A.wk (by decide)) (lv_sub hl [1, 0] rfl) (by omega) (show (h 137 2).toInt + (0) ≤ (hJ 137 2).toInt ∧ (hJ 137 2).toInt ≤ (h 137 2).toInt + (0) by omega) (E9.congr rfl rfl) (by omega) 
  refine lv_aload_n hx hb dX12_takeAll_0 rfl (lv_at hl 0 rfl) ?_
  refine lv_iconst (v := 0) hx hb dX12_takeAll_1 (by decide) ?_
  have k_0 : (0 : Int32).toInt = 0 := rfl
  have z_2 : (0 : Int32) = 0 ∨ (0 : Int32) = 1 := pi_z (by omega)
  refine pp_i M V 12 13 (sm_this S) pC12 fk12_13 rfl lkF_X12_202 ⟨(pn_z z_2).1, (pn_z z_2).2.1⟩ dX12_takeAll_2 (fun H locs V => ?_)
  have A := A.wk (l3 := [(137, 13)]) (by decide)
  have A := A.up (o := 137) (k := 13) (v := (0 : Int32)) (by decide)
  have I := I.up (k := 13) (v := (0 : Int32)) (sm_this S) (show (0 : Int) ≤ (0 : Int32).toInt ∧ (0 : Int32).toInt ≤ (1 : Int) by omega)
  refine lv_aload_n hx hb dX12_takeAll_5 rfl (lv_at hl 0 rfl) ?_
  refine lv_iconst (v := 0) hx hb dX12_takeAll_6 (by decide) ?_
  have z_7 : (0 : Int32) = 0 ∨ (0 : Int32) = 1 := pi_z (by omega)
  refine pp_i M V 12 14 (sm_this S) pC12 fk12_14 rfl lkF_X12_205 ⟨(pn_z z_7).1, (pn_z z_7).2.1⟩ dX12_takeAll_7 (fun H locs V => ?_)
  have A := A.wk (l3 := [(137, 13), (137, 14)]) (by decide)
  have A := A.up (o := 137) (k := 14) (v := (0 : Int32)) (by decide)
  have I := I.up (k := 14) (v := (0 : Int32)) (sm_this S) (show (0 : Int) ≤ (0 : Int32).toInt ∧ (0 : Int32).toInt ≤ (1 : Int) by omega)
  refine lv_aload_n hx hb dX12_takeAll_10 rfl (lv_at hl 0 rfl) ?_
  refine lv_iconst (v := 0) hx hb dX12_takeAll_11 (by decide) ?_
  refine pp_i M V 12 15 (sm_this S) pC12 fk12_15 rfl lkF_X12_214 ⟨rfl, rfl⟩ dX12_takeAll_12 (fun H locs V => ?_)
  have A := A.wk (l3 := [(137, 13), (137, 14), (137, 15)]) (by decide)
  have A := A.up (o := 137) (k := 15) (v := (0 : Int32)) (by decide)
  have I := I.up (k := 15) (v := (0 : Int32)) (sm_this S) (pi_full _)
  refine lv_aload_n hx hb dX12_takeAll_15 rfl (lv_at hl 0 rfl) ?_
  refine lv_iconst (v := 0) hx hb dX12_takeAll_16 (by decide) ?_
  refine pp_i M V 12 16 (sm_this S) pC12 fk12_16 rfl lkF_X12_217 ⟨rfl, rfl⟩ dX12_takeAll_17 (fun H locs V => ?_)
  have A := A.wk (l3 := [(137, 13), (137, 14), (137, 15), (137, 16)]) (by decide)
  have A := A.up (o := 137) (k := 16) (v := (0 : Int32)) (by decide)
  have I := I.up (k := 16) (v := (0 : Int32)) (sm_this S) (show (0 : Int) ≤ (0 : Int32).toInt ∧ (0 : Int32).toInt ≤ (16 : Int) by omega)
  refine lv_iconst (v := 0) hx hb dX12_takeAll_20 (by decide) ?_
  refine lv_istore_n (lv' := [(1, .int (0 : Int32)), (0, .ref (zB Z + 137))]) hx hb dX12_takeAll_21 rfl hl (by decide) rfl (fun ls hl => ?_)
  exact J_22 _ (0 : Int32) _ _ _ _ V I (A.wk (by decide)) (lv_sub hl [1, 0] rfl) (by omega) (show (h 137 2).toInt + (0) ≤ (h 137 2).toInt ∧ (h 137 2).toInt ≤ (h 137 2).toInt + (0) by omega) (E9.congr rfl rfl) (Nat.lt_succ_self _) 
theorem dX12_begin_0 : decode cX12_begin 0 = .ok (.aload_n 0, 1) := by decide +kernel
theorem dX12_begin_1 : decode cX12_begin 1 = .ok (.iconst 0, 1) := by decide +kernel
theorem dX12_begin_2 : decode cX12_begin 2 = .ok (.putfield 175, 3) := by decide +kernel
theorem dX12_begin_5 : decode cX12_begin 5 = .ok (.aload_n 0, 1) := by decide +kernel
theorem dX12_begin_6 : decode cX12_begin 6 = .ok (.getfield 236, 3) := by decide +kernel
theorem dX12_begin_9 : decode cX12_begin 9 = .ok (.ifCond .eq 8, 3) := by decide +kernel
theorem dX12_begin_12 : decode cX12_begin 12 = .ok (.aload_n 0, 1) := by decide +kernel
theorem dX12_begin_13 : decode cX12_begin 13 = .ok (.invokevirtual 239, 3) := by decide +kernel
theorem dX12_begin_16 : decode cX12_begin 16 = .ok (.ireturn, 1) := by decide +kernel
theorem dX12_begin_17 : decode cX12_begin 17 = .ok (.aload_n 0, 1) := by decide +kernel
theorem dX12_begin_18 : decode cX12_begin 18 = .ok (.invokevirtual 243, 3) := by decide +kernel
theorem dX12_begin_21 : decode cX12_begin 21 = .ok (.istore_n 1, 1) := by decide +kernel
theorem dX12_begin_22 : decode cX12_begin 22 = .ok (.aload_n 0, 1) := by decide +kernel
theorem dX12_begin_23 : decode cX12_begin 23 = .ok (.iconst 1, 1) := by decide +kernel
theorem dX12_begin_24 : decode cX12_begin 24 = .ok (.putfield 236, 3) := by decide +kernel
theorem dX12_begin_27 : decode cX12_begin 27 = .ok (.iconst 0, 1) := by decide +kernel
theorem dX12_begin_28 : decode cX12_begin 28 = .ok (.istore_n 2, 1) := by decide +kernel
theorem dX12_begin_29 : decode cX12_begin 29 = .ok (.iload_n 2, 1) := by decide +kernel
theorem dX12_begin_30 : decode cX12_begin 30 = .ok (.bipush 9, 2) := by decide +kernel
theorem dX12_begin_32 : decode cX12_begin 32 = .ok (.if_icmp .ge 28, 3) := by decide +kernel
theorem dX12_begin_35 : decode cX12_begin 35 = .ok (.aload_n 0, 1) := by decide +kernel
theorem dX12_begin_36 : decode cX12_begin 36 = .ok (.getfield 63, 3) := by decide +kernel
theorem dX12_begin_39 : decode cX12_begin 39 = .ok (.iload_n 2, 1) := by decide +kernel
theorem dX12_begin_40 : decode cX12_begin 40 = .ok (.aload_n 0, 1) := by decide +kernel
theorem dX12_begin_41 : decode cX12_begin 41 = .ok (.getfield 60, 3) := by decide +kernel
theorem dX12_begin_44 : decode cX12_begin 44 = .ok (.iload_n 2, 1) := by decide +kernel
theorem dX12_begin_45 : decode cX12_begin 45 = .ok (.baload, 1) := by decide +kernel
theorem dX12_begin_46 : decode cX12_begin 46 = .ok (.bastore, 1) := by decide +kernel
theorem dX12_begin_47 : decode cX12_begin 47 = .ok (.aload_n 0, 1) := by decide +kernel
theorem dX12_begin_48 : decode cX12_begin 48 = .ok (.getfield 60, 3) := by decide +kernel
theorem dX12_begin_51 : decode cX12_begin 51 = .ok (.iload_n 2, 1) := by decide +kernel
theorem dX12_begin_52 : decode cX12_begin 52 = .ok (.iconst 0, 1) := by decide +kernel
theorem dX12_begin_53 : decode cX12_begin 53 = .ok (.bastore, 1) := by decide +kernel
theorem dX12_begin_54 : decode cX12_begin 54 = .ok (.iinc 2 1, 3) := by decide +kernel
theorem dX12_begin_57 : decode cX12_begin 57 = .ok (.goto (-28), 3) := by decide +kernel
theorem dX12_begin_60 : decode cX12_begin 60 = .ok (.aload_n 0, 1) := by decide +kernel
theorem dX12_begin_61 : decode cX12_begin 61 = .ok (.aload_n 0, 1) := by decide +kernel
theorem dX12_begin_62 : decode cX12_begin 62 = .ok (.getfield 246, 3) := by decide +kernel
theorem dX12_begin_65 : decode cX12_begin 65 = .ok (.putfield 249, 3) := by decide +kernel
theorem dX12_begin_68 : decode cX12_begin 68 = .ok (.iconst 0, 1) := by decide +kernel
theorem dX12_begin_69 : decode cX12_begin 69 = .ok (.istore_n 2, 1) := by decide +kernel
theorem dX12_begin_70 : decode cX12_begin 70 = .ok (.iload_n 2, 1) := by decide +kernel
theorem dX12_begin_71 : decode cX12_begin 71 = .ok (.bipush 8, 2) := by decide +kernel
theorem dX12_begin_73 : decode cX12_begin 73 = .ok (.if_icmp .ge 21, 3) := by decide +kernel
theorem dX12_begin_76 : decode cX12_begin 76 = .ok (.aload_n 0, 1) := by decide +kernel
theorem dX12_begin_77 : decode cX12_begin 77 = .ok (.getfield 78, 3) := by decide +kernel
theorem dX12_begin_80 : decode cX12_begin 80 = .ok (.iload_n 2, 1) := by decide +kernel
theorem dX12_begin_81 : decode cX12_begin 81 = .ok (.aload_n 0, 1) := by decide +kernel
theorem dX12_begin_82 : decode cX12_begin 82 = .ok (.getfield 72, 3) := by decide +kernel
theorem dX12_begin_85 : decode cX12_begin 85 = .ok (.iload_n 2, 1) := by decide +kernel
theorem dX12_begin_86 : decode cX12_begin 86 = .ok (.iaload, 1) := by decide +kernel
theorem dX12_begin_87 : decode cX12_begin 87 = .ok (.iastore, 1) := by decide +kernel
theorem dX12_begin_88 : decode cX12_begin 88 = .ok (.iinc 2 1, 3) := by decide +kernel
theorem dX12_begin_91 : decode cX12_begin 91 = .ok (.goto (-21), 3) := by decide +kernel
theorem dX12_begin_94 : decode cX12_begin 94 = .ok (.iconst 0, 1) := by decide +kernel
theorem dX12_begin_95 : decode cX12_begin 95 = .ok (.istore_n 2, 1) := by decide +kernel
theorem dX12_begin_96 : decode cX12_begin 96 = .ok (.iload_n 2, 1) := by decide +kernel
theorem dX12_begin_97 : decode cX12_begin 97 = .ok (.bipush 32, 2) := by decide +kernel
theorem dX12_begin_99 : decode cX12_begin 99 = .ok (.if_icmp .ge 21, 3) := by decide +kernel
theorem dX12_begin_102 : decode cX12_begin 102 = .ok (.aload_n 0, 1) := by decide +kernel
theorem dX12_begin_103 : decode cX12_begin 103 = .ok (.getfield 81, 3) := by decide +kernel
theorem dX12_begin_106 : decode cX12_begin 106 = .ok (.iload_n 2, 1) := by decide +kernel
theorem dX12_begin_107 : decode cX12_begin 107 = .ok (.aload_n 0, 1) := by decide +kernel
theorem dX12_begin_108 : decode cX12_begin 108 = .ok (.getfield 75, 3) := by decide +kernel
theorem dX12_begin_111 : decode cX12_begin 111 = .ok (.iload_n 2, 1) := by decide +kernel
theorem dX12_begin_112 : decode cX12_begin 112 = .ok (.iaload, 1) := by decide +kernel
theorem dX12_begin_113 : decode cX12_begin 113 = .ok (.iastore, 1) := by decide +kernel
theorem dX12_begin_114 : decode cX12_begin 114 = .ok (.iinc 2 1, 3) := by decide +kernel
theorem dX12_begin_117 : decode cX12_begin 117 = .ok (.goto (-21), 3) := by decide +kernel
theorem dX12_begin_120 : decode cX12_begin 120 = .ok (.aload_n 0, 1) := by decide +kernel
theorem dX12_begin_121 : decode cX12_begin 121 = .ok (.iconst 0, 1) := by decide +kernel
theorem dX12_begin_122 : decode cX12_begin 122 = .ok (.putfield 246, 3) := by decide +kernel
theorem dX12_begin_125 : decode cX12_begin 125 = .ok (.aload_n 0, 1) := by decide +kernel
theorem dX12_begin_126 : decode cX12_begin 126 = .ok (.invokevirtual 252, 3) := by decide +kernel
theorem dX12_begin_129 : decode cX12_begin 129 = .ok (.aload_n 0, 1) := by decide +kernel
theorem dX12_begin_130 : decode cX12_begin 130 = .ok (.getfield 255, 3) := by decide +kernel
theorem dX12_begin_133 : decode cX12_begin 133 = .ok (.sipush 1000, 3) := by decide +kernel
theorem dX12_begin_136 : decode cX12_begin 136 = .ok (.if_icmp .lt 77, 3) := by decide +kernel
theorem dX12_begin_139 : decode cX12_begin 139 = .ok (.aload_n 0, 1) := by decide +kernel
theorem dX12_begin_140 : decode cX12_begin 140 = .ok (.getfield 255, 3) := by decide +kernel
theorem dX12_begin_143 : decode cX12_begin 143 = .ok (.sipush 1008, 3) := by decide +kernel
theorem dX12_begin_146 : decode cX12_begin 146 = .ok (.if_icmp .ge 67, 3) := by decide +kernel
theorem dX12_begin_149 : decode cX12_begin 149 = .ok (.aload_n 0, 1) := by decide +kernel
theorem dX12_begin_150 : decode cX12_begin 150 = .ok (.getfield 198, 3) := by decide +kernel
theorem dX12_begin_153 : decode cX12_begin 153 = .ok (.ifCond .eq 60, 3) := by decide +kernel
theorem dX12_begin_156 : decode cX12_begin 156 = .ok (.aload_n 0, 1) := by decide +kernel
theorem dX12_begin_157 : decode cX12_begin 157 = .ok (.getfield 202, 3) := by decide +kernel
theorem dX12_begin_160 : decode cX12_begin 160 = .ok (.ifCond .ne 53, 3) := by decide +kernel
theorem dX12_begin_163 : decode cX12_begin 163 = .ok (.aload_n 0, 1) := by decide +kernel
theorem dX12_begin_164 : decode cX12_begin 164 = .ok (.getfield 36, 3) := by decide +kernel
theorem dX12_begin_167 : decode cX12_begin 167 = .ok (.aload_n 0, 1) := by decide +kernel
theorem dX12_begin_168 : decode cX12_begin 168 = .ok (.getfield 255, 3) := by decide +kernel
theorem dX12_begin_171 : decode cX12_begin 171 = .ok (.sipush 1000, 3) := by decide +kernel
theorem dX12_begin_174 : decode cX12_begin 174 = .ok (.isub, 1) := by decide +kernel
theorem dX12_begin_175 : decode cX12_begin 175 = .ok (.dup2, 1) := by decide +kernel
theorem dX12_begin_176 : decode cX12_begin 176 = .ok (.iaload, 1) := by decide +kernel
theorem dX12_begin_177 : decode cX12_begin 177 = .ok (.aload_n 0, 1) := by decide +kernel
theorem dX12_begin_178 : decode cX12_begin 178 = .ok (.getfield 192, 3) := by decide +kernel
theorem dX12_begin_181 : decode cX12_begin 181 = .ok (.aload_n 0, 1) := by decide +kernel
theorem dX12_begin_182 : decode cX12_begin 182 = .ok (.getfield 258, 3) := by decide +kernel
theorem dX12_begin_185 : decode cX12_begin 185 = .ok (.isub, 1) := by decide +kernel
theorem dX12_begin_186 : decode cX12_begin 186 = .ok (.iadd, 1) := by decide +kernel
theorem dX12_begin_187 : decode cX12_begin 187 = .ok (.iastore, 1) := by decide +kernel
theorem dX12_begin_188 : decode cX12_begin 188 = .ok (.aload_n 0, 1) := by decide +kernel
theorem dX12_begin_189 : decode cX12_begin 189 = .ok (.getfield 39, 3) := by decide +kernel
theorem dX12_begin_192 : decode cX12_begin 192 = .ok (.aload_n 0, 1) := by decide +kernel
theorem dX12_begin_193 : decode cX12_begin 193 = .ok (.getfield 255, 3) := by decide +kernel
theorem dX12_begin_196 : decode cX12_begin 196 = .ok (.sipush 1000, 3) := by decide +kernel
theorem dX12_begin_199 : decode cX12_begin 199 = .ok (.isub, 1) := by decide +kernel
theorem dX12_begin_200 : decode cX12_begin 200 = .ok (.dup2, 1) := by decide +kernel
theorem dX12_begin_201 : decode cX12_begin 201 = .ok (.iaload, 1) := by decide +kernel
theorem dX12_begin_202 : decode cX12_begin 202 = .ok (.aload_n 0, 1) := by decide +kernel
theorem dX12_begin_203 : decode cX12_begin 203 = .ok (.getfield 195, 3) := by decide +kernel
theorem dX12_begin_206 : decode cX12_begin 206 = .ok (.aload_n 0, 1) := by decide +kernel
theorem dX12_begin_207 : decode cX12_begin 207 = .ok (.getfield 261, 3) := by decide +kernel
theorem dX12_begin_210 : decode cX12_begin 210 = .ok (.isub, 1) := by decide +kernel
theorem dX12_begin_211 : decode cX12_begin 211 = .ok (.iadd, 1) := by decide +kernel
theorem dX12_begin_212 : decode cX12_begin 212 = .ok (.iastore, 1) := by decide +kernel
theorem dX12_begin_213 : decode cX12_begin 213 = .ok (.aload_n 0, 1) := by decide +kernel
theorem dX12_begin_214 : decode cX12_begin 214 = .ok (.aload_n 0, 1) := by decide +kernel
theorem dX12_begin_215 : decode cX12_begin 215 = .ok (.getfield 192, 3) := by decide +kernel
theorem dX12_begin_218 : decode cX12_begin 218 = .ok (.putfield 258, 3) := by decide +kernel
theorem dX12_begin_221 : decode cX12_begin 221 = .ok (.aload_n 0, 1) := by decide +kernel
theorem dX12_begin_222 : decode cX12_begin 222 = .ok (.aload_n 0, 1) := by decide +kernel
theorem dX12_begin_223 : decode cX12_begin 223 = .ok (.getfield 195, 3) := by decide +kernel
theorem dX12_begin_226 : decode cX12_begin 226 = .ok (.putfield 261, 3) := by decide +kernel
theorem dX12_begin_229 : decode cX12_begin 229 = .ok (.aload_n 0, 1) := by decide +kernel
theorem dX12_begin_230 : decode cX12_begin 230 = .ok (.iconst (-1), 1) := by decide +kernel
theorem dX12_begin_231 : decode cX12_begin 231 = .ok (.putfield 90, 3) := by decide +kernel
theorem dX12_begin_234 : decode cX12_begin 234 = .ok (.iconst 0, 1) := by decide +kernel
theorem dX12_begin_235 : decode cX12_begin 235 = .ok (.istore_n 2, 1) := by decide +kernel
theorem dX12_begin_236 : decode cX12_begin 236 = .ok (.iload_n 2, 1) := by decide +kernel
theorem dX12_begin_237 : decode cX12_begin 237 = .ok (.aload_n 0, 1) := by decide +kernel
theorem dX12_begin_238 : decode cX12_begin 238 = .ok (.getfield 249, 3) := by decide +kernel
theorem dX12_begin_241 : decode cX12_begin 241 = .ok (.if_icmp .ge 88, 3) := by decide +kernel
theorem dX12_begin_244 : decode cX12_begin 244 = .ok (.aload_n 0, 1) := by decide +kernel
theorem dX12_begin_245 : decode cX12_begin 245 = .ok (.getfield 26, 3) := by decide +kernel
theorem dX12_begin_248 : decode cX12_begin 248 = .ok (.iconst (-1), 1) := by decide +kernel
theorem dX12_begin_249 : decode cX12_begin 249 = .ok (.if_icmp .eq 74, 3) := by decide +kernel
theorem dX12_begin_252 : decode cX12_begin 252 = .ok (.aload_n 0, 1) := by decide +kernel
theorem dX12_begin_253 : decode cX12_begin 253 = .ok (.getfield 78, 3) := by decide +kernel
theorem dX12_begin_256 : decode cX12_begin 256 = .ok (.iload_n 2, 1) := by decide +kernel
theorem dX12_begin_257 : decode cX12_begin 257 = .ok (.iaload, 1) := by decide +kernel
theorem dX12_begin_258 : decode cX12_begin 258 = .ok (.aload_n 0, 1) := by decide +kernel
theorem dX12_begin_259 : decode cX12_begin 259 = .ok (.getfield 26, 3) := by decide +kernel
theorem dX12_begin_262 : decode cX12_begin 262 = .ok (.if_icmp .ne 61, 3) := by decide +kernel
theorem dX12_begin_265 : decode cX12_begin 265 = .ok (.aload_n 0, 1) := by decide +kernel
theorem dX12_begin_266 : decode cX12_begin 266 = .ok (.aload_n 0, 1) := by decide +kernel
theorem dX12_begin_267 : decode cX12_begin 267 = .ok (.getfield 192, 3) := by decide +kernel
theorem dX12_begin_270 : decode cX12_begin 270 = .ok (.aload_n 0, 1) := by decide +kernel
theorem dX12_begin_271 : decode cX12_begin 271 = .ok (.getfield 195, 3) := by decide +kernel
theorem dX12_begin_274 : decode cX12_begin 274 = .ok (.aload_n 0, 1) := by decide +kernel
theorem dX12_begin_275 : decode cX12_begin 275 = .ok (.getfield 81, 3) := by decide +kernel
theorem dX12_begin_278 : decode cX12_begin 278 = .ok (.iconst 4, 1) := by decide +kernel
theorem dX12_begin_279 : decode cX12_begin 279 = .ok (.iload_n 2, 1) := by decide +kernel
theorem dX12_begin_280 : decode cX12_begin 280 = .ok (.imul, 1) := by decide +kernel
theorem dX12_begin_281 : decode cX12_begin 281 = .ok (.iaload, 1) := by decide +kernel
theorem dX12_begin_282 : decode cX12_begin 282 = .ok (.aload_n 0, 1) := by decide +kernel
theorem dX12_begin_283 : decode cX12_begin 283 = .ok (.getfield 81, 3) := by decide +kernel
theorem dX12_begin_286 : decode cX12_begin 286 = .ok (.iconst 4, 1) := by decide +kernel
theorem dX12_begin_287 : decode cX12_begin 287 = .ok (.iload_n 2, 1) := by decide +kernel
theorem dX12_begin_288 : decode cX12_begin 288 = .ok (.imul, 1) := by decide +kernel
theorem dX12_begin_289 : decode cX12_begin 289 = .ok (.iconst 1, 1) := by decide +kernel
theorem dX12_begin_290 : decode cX12_begin 290 = .ok (.iadd, 1) := by decide +kernel
theorem dX12_begin_291 : decode cX12_begin 291 = .ok (.iaload, 1) := by decide +kernel
theorem dX12_begin_292 : decode cX12_begin 292 = .ok (.aload_n 0, 1) := by decide +kernel
theorem dX12_begin_293 : decode cX12_begin 293 = .ok (.getfield 81, 3) := by decide +kernel
theorem dX12_begin_296 : decode cX12_begin 296 = .ok (.iconst 4, 1) := by decide +kernel
theorem dX12_begin_297 : decode cX12_begin 297 = .ok (.iload_n 2, 1) := by decide +kernel
theorem dX12_begin_298 : decode cX12_begin 298 = .ok (.imul, 1) := by decide +kernel
theorem dX12_begin_299 : decode cX12_begin 299 = .ok (.iconst 2, 1) := by decide +kernel
theorem dX12_begin_300 : decode cX12_begin 300 = .ok (.iadd, 1) := by decide +kernel
theorem dX12_begin_301 : decode cX12_begin 301 = .ok (.iaload, 1) := by decide +kernel
theorem dX12_begin_302 : decode cX12_begin 302 = .ok (.aload_n 0, 1) := by decide +kernel
theorem dX12_begin_303 : decode cX12_begin 303 = .ok (.getfield 81, 3) := by decide +kernel
theorem dX12_begin_306 : decode cX12_begin 306 = .ok (.iconst 4, 1) := by decide +kernel
theorem dX12_begin_307 : decode cX12_begin 307 = .ok (.iload_n 2, 1) := by decide +kernel
theorem dX12_begin_308 : decode cX12_begin 308 = .ok (.imul, 1) := by decide +kernel
theorem dX12_begin_309 : decode cX12_begin 309 = .ok (.iconst 3, 1) := by decide +kernel
theorem dX12_begin_310 : decode cX12_begin 310 = .ok (.iadd, 1) := by decide +kernel
theorem dX12_begin_311 : decode cX12_begin 311 = .ok (.iaload, 1) := by decide +kernel
theorem dX12_begin_312 : decode cX12_begin 312 = .ok (.invokevirtual 228, 3) := by decide +kernel
theorem dX12_begin_315 : decode cX12_begin 315 = .ok (.ifCond .eq 8, 3) := by decide +kernel
theorem dX12_begin_318 : decode cX12_begin 318 = .ok (.aload_n 0, 1) := by decide +kernel
theorem dX12_begin_319 : decode cX12_begin 319 = .ok (.iload_n 2, 1) := by decide +kernel
theorem dX12_begin_320 : decode cX12_begin 320 = .ok (.putfield 90, 3) := by decide +kernel
theorem dX12_begin_323 : decode cX12_begin 323 = .ok (.iinc 2 1, 3) := by decide +kernel
theorem dX12_begin_326 : decode cX12_begin 326 = .ok (.goto (-90), 3) := by decide +kernel
theorem dX12_begin_329 : decode cX12_begin 329 = .ok (.aload_n 0, 1) := by decide +kernel
theorem dX12_begin_330 : decode cX12_begin 330 = .ok (.iconst 0, 1) := by decide +kernel
theorem dX12_begin_331 : decode cX12_begin 331 = .ok (.putfield 264, 3) := by decide +kernel
theorem dX12_begin_334 : decode cX12_begin 334 = .ok (.aload_n 0, 1) := by decide +kernel
theorem dX12_begin_335 : decode cX12_begin 335 = .ok (.iconst 0, 1) := by decide +kernel
theorem dX12_begin_336 : decode cX12_begin 336 = .ok (.putfield 267, 3) := by decide +kernel
theorem dX12_begin_339 : decode cX12_begin 339 = .ok (.aload_n 0, 1) := by decide +kernel
theorem dX12_begin_340 : decode cX12_begin 340 = .ok (.iconst 0, 1) := by decide +kernel
theorem dX12_begin_341 : decode cX12_begin 341 = .ok (.putfield 270, 3) := by decide +kernel
theorem dX12_begin_344 : decode cX12_begin 344 = .ok (.aload_n 0, 1) := by decide +kernel
theorem dX12_begin_345 : decode cX12_begin 345 = .ok (.iconst 0, 1) := by decide +kernel
theorem dX12_begin_346 : decode cX12_begin 346 = .ok (.putfield 273, 3) := by decide +kernel
theorem dX12_begin_349 : decode cX12_begin 349 = .ok (.aload_n 0, 1) := by decide +kernel
theorem dX12_begin_350 : decode cX12_begin 350 = .ok (.iconst 0, 1) := by decide +kernel
theorem dX12_begin_351 : decode cX12_begin 351 = .ok (.putfield 276, 3) := by decide +kernel
theorem dX12_begin_354 : decode cX12_begin 354 = .ok (.aload_n 0, 1) := by decide +kernel
theorem dX12_begin_355 : decode cX12_begin 355 = .ok (.iconst 0, 1) := by decide +kernel
theorem dX12_begin_356 : decode cX12_begin 356 = .ok (.putfield 279, 3) := by decide +kernel
theorem dX12_begin_359 : decode cX12_begin 359 = .ok (.aload_n 0, 1) := by decide +kernel
theorem dX12_begin_360 : decode cX12_begin 360 = .ok (.iconst 0, 1) := by decide +kernel
theorem dX12_begin_361 : decode cX12_begin 361 = .ok (.putfield 282, 3) := by decide +kernel
theorem dX12_begin_364 : decode cX12_begin 364 = .ok (.aload_n 0, 1) := by decide +kernel
theorem dX12_begin_365 : decode cX12_begin 365 = .ok (.iconst 0, 1) := by decide +kernel
theorem dX12_begin_366 : decode cX12_begin 366 = .ok (.putfield 285, 3) := by decide +kernel
theorem dX12_begin_369 : decode cX12_begin 369 = .ok (.aload_n 0, 1) := by decide +kernel
theorem dX12_begin_370 : decode cX12_begin 370 = .ok (.iconst 0, 1) := by decide +kernel
theorem dX12_begin_371 : decode cX12_begin 371 = .ok (.putfield 288, 3) := by decide +kernel
theorem dX12_begin_374 : decode cX12_begin 374 = .ok (.aload_n 0, 1) := by decide +kernel
theorem dX12_begin_375 : decode cX12_begin 375 = .ok (.iconst (-1), 1) := by decide +kernel
theorem dX12_begin_376 : decode cX12_begin 376 = .ok (.putfield 144, 3) := by decide +kernel
theorem dX12_begin_379 : decode cX12_begin 379 = .ok (.iload_n 1, 1) := by decide +kernel
theorem dX12_begin_380 : decode cX12_begin 380 = .ok (.ireturn, 1) := by decide +kernel
set_option maxHeartbeats 4000000 in
set_option maxRecDepth 100000 in
theorem m_X12_begin (l : Launch) {Z : pZ} (S : pSh Z) {h : pH} (I : Iv Z h) (E9 : mE h) (S9 : mS h) (K9 : mK h) : pMet l yX12_begin cX12_begin 3 (some .int) 3 0 0 68 Z h [.ref (zB Z + 137)] (pQi Z (fun r Z1 h1 => Z = Z1 ∧ Iv Z h1 ∧ agr [(137, 3), (137, 4), (137, 9), (137, 13), (137, 14), (137, 7), (137, 8), (137, 15), (137, 16), (139, 1000), (140, 1000), (141, 1000), (142, 1000), (137, 2), (138, 1000), (137, 0), (137, 18), (137, 19), (137, 20), (137, 22), (137, 21), (137, 23), (137, 40), (137, 48), (137, 56), (137, 58), (137, 70), (137, 71), (153, 1000), (137, 49), (137, 5), (137, 6), (137, 50), (137, 25), (137, 27), (137, 28), (137, 41), (137, 82), (154, 1000), (158, 1000), (159, 1000), (151, 1000), (145, 1000), (146, 1000)] h h1 ∧ (mE h1) ∧ (mS h1) ∧ (mK h1) ∧ ((h1 137 2).toInt ≤ (h 137 2).toInt) ∧ ((h1 137 25).toInt ≤ (h 137 25).toInt) ∧ ((h1 137 27).toInt ≤ (h 137 27).toInt) ∧ ((h1 137 82).toInt ≤ (h 137 82).toInt))) := by
  refine pOfW (lv := [(0, .ref (zB Z + 137))]) (by decide) (Nat.le_of_ble_eq_true rfl) rfl ?_
  intro p e s m below meth c ls M hr hlk hnm V hl
  have hx := M.1.1
  have hb := M.1.2.1
  have A : agr [] h h := agr.rf
  have i_2 : 0 ≤ (h 137 2).toInt ∧ (h 137 2).toInt ≤ 64 := I.get (sm_this S) 2
  have i_25 : 0 ≤ (h 137 25).toInt ∧ (h 137 25).toInt ≤ 600 := I.get (sm_this S) 25
  have i_27 : 0 ≤ (h 137 27).toInt ∧ (h 137 27).toInt ≤ 600 := I.get (sm_this S) 27
  have i_82 : 0 ≤ (h 137 82).toInt ∧ (h 137 82).toInt ≤ 7000 := I.get (sm_this S) 82
  have i_56 : 0 ≤ (h 137 56).toInt ∧ (h 137 56).toInt ≤ 40 := I.get (sm_this S) 56
  have i_70 : 0 ≤ (h 137 70).toInt ∧ (h 137 70).toInt ≤ 40 := I.get (sm_this S) 70
  have i_58 : 0 ≤ (h 137 58).toInt ∧ (h 137 58).toInt ≤ 40 := I.get (sm_this S) 58
  have J_236 : ∀ (n9 : Nat) (x236_1 : Int32) (x236_2 : Int32) (hJ : pH) (H : Heap) (locs : List Loc) (ls : Array Slot), pV Z hJ s.heap H locs → Iv Z hJ → agr [(137, 0), (137, 2), (137, 3), (137, 4), (137, 5), (137, 6), (137, 7), (137, 8), (137, 9), (137, 13), (137, 14), (137, 15), (137, 16), (137, 18), (137, 23), (137, 40), (137, 48), (137, 49), (137, 50), (138, 1000), (139, 1000), (140, 1000), (141, 1000), (142, 1000), (145, 1000), (146, 1000), (151, 1000), (153, 1000), (154, 1000), (158, 1000), (159, 1000)] h hJ → lv_has ls 3 [(0, .ref (zB Z + 137)), (1, .int x236_1), (2, .int x236_2)] → (0 ≤ x236_1.toInt ∧ x236_1.toInt ≤ 64) → (0 ≤ x236_2.toInt ∧ x236_2.toInt ≤ 8) → ((h 137 2).toInt + (-64) ≤ (hJ 137 2).toInt ∧ (hJ 137 2).toInt ≤ (h 137 2).toInt + (0)) → ((h 137 25).toInt + (0) ≤ (hJ 137 25).toInt ∧ (hJ 137 25).toInt ≤ (h 137 25).toInt + (0)) → ((h 137 27).toInt + (0) ≤ (hJ 137 27).toInt ∧ (hJ 137 27).toInt ≤ (h 137 27).toInt + (0)) → ((h 137 82).toInt + (0) ≤ (hJ 137 82).toInt ∧ (hJ 137 82).toInt ≤ (h 137 82).toInt + (0)) → ((h 137 56).toInt + (0) ≤ (hJ 137 56).toInt ∧ (hJ 137 56).toInt ≤ (h 137 56).toInt + (0)) → ((h 137 70).toInt + (0) ≤ (hJ 137 70).toInt ∧ (hJ 137 70).toInt ≤ (h 137 70).toInt + (0)) → ((h 137 58).toInt + (0) ≤ (hJ 137 58).toInt ∧ (hJ 137 58).toInt ≤ (h 137 58).toInt + (0)) → mE hJ → mS hJ → mK hJ → (8 - x236_2.toInt).toNat < n9 → W p l e (pRm 3 0 0 68) s m ([.ref (zB Z + 137)] : List Value).toArray below meth c H locs 0 0 (MQ below (pQi Z (fun r Z1 h1 => Z = Z1 ∧ Iv Z h1 ∧ agr [(137, 3), (137, 4), (137, 9), (137, 13), (137, 14), (137, 7), (137, 8), (137, 15), (137, 16), (139, 1000), (140, 1000), (141, 1000), (142, 1000), (137, 2), (138, 1000), (137, 0), (137, 18), (137, 19), (137, 20), (137, 22), (137, 21), (137, 23), (137, 40), (137, 48), (137, 56), (137, 58), (137, 70), (137, 71), (153, 1000), (137, 49), (137, 5), (137, 6), (137, 50), (137, 25), (137, 27), (137, 28), (137, 41), (137, 82), (154, 1000), (158, 1000), (159, 1000), (151, 1000), (145, 1000), (146, 1000)] h h1 ∧ (mE h1) ∧ (mS h1) ∧ (mK h1) ∧ ((h1 137 2).toInt ≤ (h 137 2).toInt) ∧ ((h1 137 25).toInt ≤ (h 137 25).toInt) ∧ ((h1 137 27).toInt ≤ (h 137 27).toInt) ∧ ((h1 137 82).toInt ≤ (h 137 82).toInt))) ([.ref (zB Z + 137)] : List Value).toArray s 0 0 (pA (zB Z))) (F0 m 236 ls []) := by
    intro n9
    induction n9 with
    | zero => intro x236_1 x236_2 hJ H locs ls V I A hl g_236_1 g_236_2 gd_236_2 gd_236_25 gd_236_27 gd_236_82 gd_236_56 gd_236_70 gd_236_58 E9 S9 K9 hm9; exact absurd hm9 (Nat.not_lt_zero _)
    | succ n9 ih_236 =>
      intro x236_1 x236_2 hJ H locs ls V I A hl g_236_1 g_236_2 gd_236_2 gd_236_25 gd_236_27 gd_236_82 gd_236_56 gd_236_70 gd_236_58 E9 S9 K9 hm9
      have J_323 : ∀ (hJ : pH) (H : Heap) (locs : List Loc) (ls : Array Slot), pV Z hJ s.heap H locs → Iv Z hJ → agr [(137, 0), (137, 2), (137, 3), (137, 4), (137, 5), (137, 6), (137, 7), (137, 8), (137, 9), (137, 13), (137, 14), (137, 15), (137, 16), (137, 18), (137, 23), (137, 40), (137, 48), (137, 49), (137, 50), (138, 1000), (139, 1000), (140, 1000), (141, 1000), (142, 1000), (145, 1000), (146, 1000), (151, 1000), (153, 1000), (154, 1000), (158, 1000), (159, 1000)] h hJ → lv_has ls 3 [(0, .ref (zB Z + 137)), (1, .int x236_1), (2, .int x236_2)] → (0 ≤ x236_1.toInt ∧ x236_1.toInt ≤ 64) → (0 ≤ x236_2.toInt ∧ x236_2.toInt ≤ 7) → ((h 137 2).toInt + (-64) ≤ (hJ 137 2).toInt ∧ (hJ 137 2).toInt ≤ (h 137 2).toInt + (0)) → ((h 137 25).toInt + (0) ≤ (hJ 137 25).toInt ∧ (hJ 137 25).toInt ≤ (h 137 25).toInt + (0)) → ((h 137 27).toInt + (0) ≤ (hJ 137 27).toInt ∧ (hJ 137 27).toInt ≤ (h 137 27).toInt + (0)) → ((h 137 82).toInt + (0) ≤ (hJ 137 82).toInt ∧ (hJ 137 82).toInt ≤ (h 137 82).toInt + (0)) → ((h 137 56).toInt + (0) ≤ (hJ 137 56).toInt ∧ (hJ 137 56).toInt ≤ (h 137 56).toInt + (0)) → ((h 137 70).toInt + (0) ≤ (hJ 137 70).toInt ∧ (hJ 137 70).toInt ≤ (h 137 70).toInt + (0)) → ((h 137 58).toInt + (0) ≤ (hJ 137 58).toInt ∧ (hJ 137 58).toInt ≤ (h 137 58).toInt + (0)) → mE hJ → mS hJ → mK hJ → W p l e (pRm 3 0 0 68) s m ([.ref (zB Z + 137)] : List Value).toArray below meth c H locs 0 0 (MQ below (pQi Z (fun r Z1 h1 => Z = Z1 ∧ Iv Z h1 ∧ agr [(137, 3), (137, 4), (137, 9), (137, 13), (137, 14), (137, 7), (137, 8), (137, 15), (137, 16), (139, 1000), (140, 1000), (141, 1000), (142, 1000), (137, 2), (138, 1000), (137, 0), (137, 18), (137, 19), (137, 20), (137, 22), (137, 21), (137, 23), (137, 40), (137, 48), (137, 56), (137, 58), (137, 70), (137, 71), (153, 1000), (137, 49), (137, 5), (137, 6), (137, 50), (137, 25), (137, 27), (137, 28), (137, 41), (137, 82), (154, 1000), (158, 1000), (159, 1000), (151, 1000), (145, 1000), (146, 1000)] h h1 ∧ (mE h1) ∧ (mS h1) ∧ (mK h1) ∧ ((h1 137 2).toInt ≤ (h 137 2).toInt) ∧ ((h1 137 25).toInt ≤ (h 137 25).toInt) ∧ ((h1 137 27).toInt ≤ (h 137 27).toInt) ∧ ((h1 137 82).toInt ≤ (h 137 82).toInt))) ([.ref (zB Z + 137)] : List Value).toArray s 0 0 (pA (zB Z))) (F0 m 323 ls []) := by
        intro hJ H locs ls V I A hl g_323_1 g_323_2 gd_323_2 gd_323_25 gd_323_27 gd_323_82 gd_323_56 gd_323_70 gd_323_58 E9 S9 K9
        obtain ⟨v1, ev1⟩ : ∃ y : Int32, y = x236_2 + 1 := ⟨_, rfl⟩
        refine lv_iinc (v := v1) (lv' := [(2, .int v1), (0, .ref (zB Z + 137)), (1, .int x236_1)]) hx hb dX12_begin_323 hl (k := 2) rfl (by rw [ev1]; rfl) (by decide) rfl (fun ls hl => ?_)
        refine lv_goto (tgt := 236) hx hb dX12_begin_326 (by decide) ?_
        have k_1 : (1 : Int32).toInt = 1 := rfl
        have tv1 : v1.toInt = x236_2.toInt + 1 := by rw [ev1]; have z9 := pi_add (x := x236_2) (y := (1 : Int32)); rw [k_1] at z9; exact z9 (by omega)
        exact ih_236 x236_1 v1 _ _ _ _ V I (A.wk (by decide)) (lv_sub hl [1, 2, 0] rfl) (by omega) (by omega) (show (h 137 2).toInt + (-64) ≤ (hJ 137 2).toInt ∧ (hJ 137 2).toInt ≤ (h 137 2).toInt + (0) by omega) (show (h 137 25).toInt + (0) ≤ (hJ 137 25).toInt ∧ (hJ 137 25).toInt ≤ (h 137 25).toInt + (0) by omega) (show (h 137 27).toInt + (0) ≤ (hJ 137 27).toInt ∧ (hJ 137 27).toInt ≤ (h 137 27).toInt + (0) by omega) (show (h 137 82).toInt + (0) ≤ (hJ 137 82).toInt ∧ (hJ 137 82).toInt ≤ (h 137 82).toInt + (0) by omega) (show (h 137 56).toInt + (0) ≤ (hJ 137 56).toInt ∧ (hJ 137 56).toInt ≤ (h 137 56).toInt + (0) by omega) (show (h 137 70).toInt + (0) ≤ (hJ 137 70).toInt ∧ (hJ 137 70).toInt ≤ (h 137 70).toInt + (0) by omega) (show (h 137 58).toInt + (0) ≤ (hJ 137 58).toInt ∧ (hJ 137 58).toInt ≤ (h 137 58).toInt + (0) by omega) (E9.congr rfl rfl) (S9.congr rfl rfl rfl rfl rfl rfl rfl) (K9.congr rfl rfl) (by omega) 
      refine lv_iload_n hx hb dX12_begin_236 rfl (lv_at hl 2 rfl) ?_
      refine lv_aload_n hx hb dX12_begin_237 rfl (lv_at hl 0 rfl) ?_
      refine pg_i M V 12 49 (sm_this S) pC12 fk12_49 lkF_X12_249 dX12_begin_238 ?_
      refine lv_topi (fun v2 ev2 => ?_)
      have tv2 : 0 ≤ v2.toInt ∧ v2.toInt ≤ 8 := by rw [ev2]; exact I.get (sm_this S) 49
      refine lv_icmp_ge (tgt := 329) hx hb dX12_begin_241 (by decide) (fun c_241 => ?_) (fun c_241 => ?_)
      · skip
        have c_241 := pi_le.mp c_241
        refine lv_aload_n hx hb dX12_begin_329 rfl (lv_at hl 0 rfl) ?_
        refine lv_iconst (v := 0) hx hb dX12_begin_330 (by decide) ?_
        refine pp_i M V 12 20 (sm_this S) pC12 fk12_20 rfl lkF_X12_264 ⟨rfl, rfl⟩ dX12_begin_331 (fun H locs V => ?_)
        have A := A.wk (l3 := [(137, 0), (137, 2), (137, 3), (137, 4), (137, 5), (137, 6), (137, 7), (137, 8), (137, 9), (137, 13), (137, 14), (137, 15), (137, 16), (137, 18), (137, 23), (137, 40), (137, 48), (137, 49), (137, 50), (138, 1000), (139, 1000), (140, 1000), (141, 1000), (142, 1000), (145, 1000), (146, 1000), (151, 1000), (153, 1000), (154, 1000), (158, 1000), (159, 1000), (137, 20)]) (by decide)
        have A := A.up (o := 137) (k := 20) (v := (0 : Int32)) (by decide)
        have I := I.up (k := 20) (v := (0 : Int32)) (sm_this S) (pi_full _)
        refine lv_aload_n hx hb dX12_begin_334 rfl (lv_at hl 0 rfl) ?_
        refine lv_iconst (v := 0) hx hb dX12_begin_335 (by decide) ?_
        refine pp_i M V 12 25 (sm_this S) pC12 fk12_25 rfl lkF_X12_267 ⟨rfl, rfl⟩ dX12_begin_336 (fun H locs V => ?_)
        have A := A.wk (l3 := [(137, 0), (137, 2), (137, 3), (137, 4), (137, 5), (137, 6), (137, 7), (137, 8), (137, 9), (137, 13), (137, 14), (137, 15), (137, 16), (137, 18), (137, 23), (137, 40), (137, 48), (137, 49), (137, 50), (138, 1000), (139, 1000), (140, 1000), (141, 1000), (142, 1000), (145, 1000), (146, 1000), (151, 1000), (153, 1000), (154, 1000), (158, 1000), (159, 1000), (137, 20), (137, 25)]) (by decide)
        have A := A.up (o := 137) (k := 25) (v := (0 : Int32)) (by decide)
        have k_0 : (0 : Int32).toInt = 0 := rfl
        have I := I.up (k := 25) (v := (0 : Int32)) (sm_this S) (show (0 : Int) ≤ (0 : Int32).toInt ∧ (0 : Int32).toInt ≤ (600 : Int) by omega)
        refine lv_aload_n hx hb dX12_begin_339 rfl (lv_at hl 0 rfl) ?_
        refine lv_iconst (v := 0) hx hb dX12_begin_340 (by decide) ?_
        refine pp_i M V 12 27 (sm_this S) pC12 fk12_27 rfl lkF_X12_270 ⟨rfl, rfl⟩ dX12_begin_341 (fun H locs V => ?_)
        have A := A.wk (l3 := [(137, 0), (137, 2), (137, 3), (137, 4), (137, 5), (137, 6), (137, 7), (137, 8), (137, 9), (137, 13), (137, 14), (137, 15), (137, 16), (137, 18), (137, 23), (137, 40), (137, 48), (137, 49), (137, 50), (138, 1000), (139, 1000), (140, 1000), (141, 1000), (142, 1000), (145, 1000), (146, 1000), (151, 1000), (153, 1000), (154, 1000), (158, 1000), (159, 1000), (137, 20), (137, 25), (137, 27)]) (by decide)
        have A := A.up (o := 137) (k := 27) (v := (0 : Int32)) (by decide)
        have I := I.up (k := 27) (v := (0 : Int32)) (sm_this S) (show (0 : Int) ≤ (0 : Int32).toInt ∧ (0 : Int32).toInt ≤ (600 : Int) by omega)
        refine lv_aload_n hx hb dX12_begin_344 rfl (lv_at hl 0 rfl) ?_
        refine lv_iconst (v := 0) hx hb dX12_begin_345 (by decide) ?_
        have z_346 : (0 : Int32) = 0 ∨ (0 : Int32) = 1 := pi_z (by omega)
        refine pp_i M V 12 28 (sm_this S) pC12 fk12_28 rfl lkF_X12_273 ⟨(pn_z z_346).1, (pn_z z_346).2.1⟩ dX12_begin_346 (fun H locs V => ?_)
        have A := A.wk (l3 := [(137, 0), (137, 2), (137, 3), (137, 4), (137, 5), (137, 6), (137, 7), (137, 8), (137, 9), (137, 13), (137, 14), (137, 15), (137, 16), (137, 18), (137, 23), (137, 40), (137, 48), (137, 49), (137, 50), (138, 1000), (139, 1000), (140, 1000), (141, 1000), (142, 1000), (145, 1000), (146, 1000), (151, 1000), (153, 1000), (154, 1000), (158, 1000), (159, 1000), (137, 20), (137, 25), (137, 27), (137, 28)]) (by decide)
        have A := A.up (o := 137) (k := 28) (v := (0 : Int32)) (by decide)
        have I := I.up (k := 28) (v := (0 : Int32)) (sm_this S) (show (0 : Int) ≤ (0 : Int32).toInt ∧ (0 : Int32).toInt ≤ (1 : Int) by omega)
        refine lv_aload_n hx hb dX12_begin_349 rfl (lv_at hl 0 rfl) ?_
        refine lv_iconst (v := 0) hx hb dX12_begin_350 (by decide) ?_
        have z_351 : (0 : Int32) = 0 ∨ (0 : Int32) = 1 := pi_z (by omega)
        refine pp_i M V 12 41 (sm_this S) pC12 fk12_41 rfl lkF_X12_276 ⟨(pn_z z_351).1, (pn_z z_351).2.1⟩ dX12_begin_351 (fun H locs V => ?_)
        have A := A.wk (l3 := [(137, 0), (137, 2), (137, 3), (137, 4), (137, 5), (137, 6), (137, 7), (137, 8), (137, 9), (137, 13), (137, 14), (137, 15), (137, 16), (137, 18), (137, 23), (137, 40), (137, 48), (137, 49), (137, 50), (138, 1000), (139, 1000), (140, 1000), (141, 1000), (142, 1000), (145, 1000), (146, 1000), (151, 1000), (153, 1000), (154, 1000), (158, 1000), (159, 1000), (137, 20), (137, 25), (137, 27), (137, 28), (137, 41)]) (by decide)
        have A := A.up (o := 137) (k := 41) (v := (0 : Int32)) (by decide)
        have I := I.up (k := 41) (v := (0 : Int32)) (sm_this S) (show (0 : Int) ≤ (0 : Int32).toInt ∧ (0 : Int32).toInt ≤ (1 : Int) by omega)
        refine lv_aload_n hx hb dX12_begin_354 rfl (lv_at hl 0 rfl) ?_
        refine lv_iconst (v := 0) hx hb dX12_begin_355 (by decide) ?_
        refine pp_i M V 12 56 (sm_this S) pC12 fk12_56 rfl lkF_X12_279 ⟨rfl, rfl⟩ dX12_begin_356 (fun H locs V => ?_)
        have A := A.wk (l3 := [(137, 0), (137, 2), (137, 3), (137, 4), (137, 5), (137, 6), (137, 7), (137, 8), (137, 9), (137, 13), (137, 14), (137, 15), (137, 16), (137, 18), (137, 23), (137, 40), (137, 48), (137, 49), (137, 50), (138, 1000), (139, 1000), (140, 1000), (141, 1000), (142, 1000), (145, 1000), (146, 1000), (151, 1000), (153, 1000), (154, 1000), (158, 1000), (159, 1000), (137, 20), (137, 25), (137, 27), (137, 28), (137, 41), (137, 56)]) (by decide)
        have A := A.up (o := 137) (k := 56) (v := (0 : Int32)) (by decide)
        have I := I.up (k := 56) (v := (0 : Int32)) (sm_this S) (show (0 : Int) ≤ (0 : Int32).toInt ∧ (0 : Int32).toInt ≤ (40 : Int) by omega)
        refine lv_aload_n hx hb dX12_begin_359 rfl (lv_at hl 0 rfl) ?_
        refine lv_iconst (v := 0) hx hb dX12_begin_360 (by decide) ?_
        refine pp_i M V 12 58 (sm_this S) pC12 fk12_58 rfl lkF_X12_282 ⟨rfl, rfl⟩ dX12_begin_361 (fun H locs V => ?_)
        have A := A.wk (l3 := [(137, 0), (137, 2), (137, 3), (137, 4), (137, 5), (137, 6), (137, 7), (137, 8), (137, 9), (137, 13), (137, 14), (137, 15), (137, 16), (137, 18), (137, 23), (137, 40), (137, 48), (137, 49), (137, 50), (138, 1000), (139, 1000), (140, 1000), (141, 1000), (142, 1000), (145, 1000), (146, 1000), (151, 1000), (153, 1000), (154, 1000), (158, 1000), (159, 1000), (137, 20), (137, 25), (137, 27), (137, 28), (137, 41), (137, 56), (137, 58)]) (by decide)
        have A := A.up (o := 137) (k := 58) (v := (0 : Int32)) (by decide)
        have I := I.up (k := 58) (v := (0 : Int32)) (sm_this S) (show (0 : Int) ≤ (0 : Int32).toInt ∧ (0 : Int32).toInt ≤ (40 : Int) by omega)
        refine lv_aload_n hx hb dX12_begin_364 rfl (lv_at hl 0 rfl) ?_
        refine lv_iconst (v := 0) hx hb dX12_begin_365 (by decide) ?_
        refine pp_i M V 12 70 (sm_this S) pC12 fk12_70 rfl lkF_X12_285 ⟨rfl, rfl⟩ dX12_begin_366 (fun H locs V => ?_)
        have A := A.wk (l3 := [(137, 0), (137, 2), (137, 3), (137, 4), (137, 5), (137, 6), (137, 7), (137, 8), (137, 9), (137, 13), (137, 14), (137, 15), (137, 16), (137, 18), (137, 23), (137, 40), (137, 48), (137, 49), (137, 50), (138, 1000), (139, 1000), (140, 1000), (141, 1000), (142, 1000), (145, 1000), (146, 1000), (151, 1000), (153, 1000), (154, 1000), (158, 1000), (159, 1000), (137, 20), (137, 25), (137, 27), (137, 28), (137, 41), (137, 56), (137, 58), (137, 70)]) (by decide)
        have A := A.up (o := 137) (k := 70) (v := (0 : Int32)) (by decide)
        have I := I.up (k := 70) (v := (0 : Int32)) (sm_this S) (show (0 : Int) ≤ (0 : Int32).toInt ∧ (0 : Int32).toInt ≤ (40 : Int) by omega)
        refine lv_aload_n hx hb dX12_begin_369 rfl (lv_at hl 0 rfl) ?_
        refine lv_iconst (v := 0) hx hb dX12_begin_370 (by decide) ?_
        refine pp_i M V 12 82 (sm_this S) pC12 fk12_82 rfl lkF_X12_288 ⟨rfl, rfl⟩ dX12_begin_371 (fun H locs V => ?_)
        have A := A.wk (l3 := [(137, 0), (137, 2), (137, 3), (137, 4), (137, 5), (137, 6), (137, 7), (137, 8), (137, 9), (137, 13), (137, 14), (137, 15), (137, 16), (137, 18), (137, 23), (137, 40), (137, 48), (137, 49), (137, 50), (138, 1000), (139, 1000), (140, 1000), (141, 1000), (142, 1000), (145, 1000), (146, 1000), (151, 1000), (153, 1000), (154, 1000), (158, 1000), (159, 1000), (137, 20), (137, 25), (137, 27), (137, 28), (137, 41), (137, 56), (137, 58), (137, 70), (137, 82)]) (by decide)
        have A := A.up (o := 137) (k := 82) (v := (0 : Int32)) (by decide)
        have I := I.up (k := 82) (v := (0 : Int32)) (sm_this S) (show (0 : Int) ≤ (0 : Int32).toInt ∧ (0 : Int32).toInt ≤ (7000 : Int) by omega)
        refine lv_aload_n hx hb dX12_begin_374 rfl (lv_at hl 0 rfl) ?_
        refine lv_iconst (v := (-1)) hx hb dX12_begin_375 (by decide) ?_
        refine pp_i M V 12 71 (sm_this S) pC12 fk12_71 rfl lkF_X12_144 ⟨rfl, rfl⟩ dX12_begin_376 (fun H locs V => ?_)
        have A := A.wk (l3 := [(137, 0), (137, 2), (137, 3), (137, 4), (137, 5), (137, 6), (137, 7), (137, 8), (137, 9), (137, 13), (137, 14), (137, 15), (137, 16), (137, 18), (137, 23), (137, 40), (137, 48), (137, 49), (137, 50), (138, 1000), (139, 1000), (140, 1000), (141, 1000), (142, 1000), (145, 1000), (146, 1000), (151, 1000), (153, 1000), (154, 1000), (158, 1000), (159, 1000), (137, 20), (137, 25), (137, 27), (137, 28), (137, 41), (137, 56), (137, 58), (137, 70), (137, 82), (137, 71)]) (by decide)
        have A := A.up (o := 137) (k := 71) (v := (-1 : Int32)) (by decide)
        have k_m1 : (-1 : Int32).toInt = -1 := rfl
        have I := I.up (k := 71) (v := (-1 : Int32)) (sm_this S) (show (-1 : Int) ≤ (-1 : Int32).toInt ∧ (-1 : Int32).toInt ≤ (8 : Int) by omega)
        refine lv_iload_n hx hb dX12_begin_379 rfl (lv_at hl 1 rfl) ?_
        exact pe_i M V rfl rfl hr hlk rfl ⟨rfl, I, A.wk (by decide), (E9.congr rfl rfl), (mS.zero rfl rfl rfl), (K9.congr rfl rfl), (show (hJ 137 2).toInt ≤ (h 137 2).toInt by omega), (show (0 : Int32).toInt ≤ (h 137 25).toInt by omega), (show (0 : Int32).toInt ≤ (h 137 27).toInt by omega), (show (0 : Int32).toInt ≤ (h 137 82).toInt by omega)⟩ ⟨Nat.le_refl _, Nat.le_refl _⟩ dX12_begin_380
      · skip
        have c_241 := pi_le' c_241
        refine lv_aload_n hx hb dX12_begin_244 rfl (lv_at hl 0 rfl) ?_
        refine pg_i M V 12 23 (sm_this S) pC12 fk12_23 lkF_X12_26 dX12_begin_245 ?_
        refine lv_topi (fun v3 ev3 => ?_)
        have tv3 : -1 ≤ v3.toInt ∧ v3.toInt ≤ 8 := by rw [ev3]; exact I.get (sm_this S) 23
        refine lv_iconst (v := (-1)) hx hb dX12_begin_248 (by decide) ?_
        refine lv_icmp_eq (tgt := 323) hx hb dX12_begin_249 (by decide) (fun c_249 => ?_) (fun c_249 => ?_)
        · skip
          have k_m1 : (-1 : Int32).toInt = -1 := rfl
          have c_249 := pi_eq.mp c_249
          exact J_323 _ _ _ _ V I (A.wk (by decide)) (lv_sub hl [0, 1, 2] rfl) (by omega) (by omega) (show (h 137 2).toInt + (-64) ≤ (hJ 137 2).toInt ∧ (hJ 137 2).toInt ≤ (h 137 2).toInt + (0) by omega) (show (h 137 25).toInt + (0) ≤ (hJ 137 25).toInt ∧ (hJ 137 25).toInt ≤ (h 137 25).toInt + (0) by omega) (show (h 137 27).toInt + (0) ≤ (hJ 137 27).toInt ∧ (hJ 137 27).toInt ≤ (h 137 27).toInt + (0) by omega) (show (h 137 82).toInt + (0) ≤ (hJ 137 82).toInt ∧ (hJ 137 82).toInt ≤ (h 137 82).toInt + (0) by omega) (show (h 137 56).toInt + (0) ≤ (hJ 137 56).toInt ∧ (hJ 137 56).toInt ≤ (h 137 56).toInt + (0) by omega) (show (h 137 70).toInt + (0) ≤ (hJ 137 70).toInt ∧ (hJ 137 70).toInt ≤ (h 137 70).toInt + (0) by omega) (show (h 137 58).toInt + (0) ≤ (hJ 137 58).toInt ∧ (hJ 137 58).toInt ≤ (h 137 58).toInt + (0) by omega) (E9.congr rfl rfl) (S9.congr rfl rfl rfl rfl rfl rfl rfl) (K9.congr rfl rfl) 
        · skip
          have k_m1 : (-1 : Int32).toInt = -1 := rfl
          have c_249 := pi_ne c_249
          refine lv_aload_n hx hb dX12_begin_252 rfl (lv_at hl 0 rfl) ?_
          refine pg_r M V 12 44 (sm_this S) pC12 fk12_44 (sm_oldWindow S).2.2 lkF_X12_78 dX12_begin_253 ?_
          refine lv_iload_n hx hb dX12_begin_256 rfl (lv_at hl 2 rfl) ?_
          refine pa_i M V (sm_oldWindow S).1 (by rw [(sm_oldWindow S).2.1]; exact pi_in (by omega)) dX12_begin_257 ?_
          refine lv_topi (fun v4 ev4 => ?_)
          refine lv_aload_n hx hb dX12_begin_258 rfl (lv_at hl 0 rfl) ?_
          refine pg_iv M V 12 23 (v := v3) (sm_this S) pC12 fk12_23 ev3.symm lkF_X12_26 dX12_begin_259 ?_
          refine lv_icmp_ne (tgt := 323) hx hb dX12_begin_262 (by decide) (fun c_262 => ?_) (fun c_262 => ?_)
          · skip
            have c_262 := pi_ne c_262
            exact J_323 _ _ _ _ V I (A.wk (by decide)) (lv_sub hl [0, 1, 2] rfl) (by omega) (by omega) (show (h 137 2).toInt + (-64) ≤ (hJ 137 2).toInt ∧ (hJ 137 2).toInt ≤ (h 137 2).toInt + (0) by omega) (show (h 137 25).toInt + (0) ≤ (hJ 137 25).toInt ∧ (hJ 137 25).toInt ≤ (h 137 25).toInt + (0) by omega) (show (h 137 27).toInt + (0) ≤ (hJ 137 27).toInt ∧ (hJ 137 27).toInt ≤ (h 137 27).toInt + (0) by omega) (show (h 137 82).toInt + (0) ≤ (hJ 137 82).toInt ∧ (hJ 137 82).toInt ≤ (h 137 82).toInt + (0) by omega) (show (h 137 56).toInt + (0) ≤ (hJ 137 56).toInt ∧ (hJ 137 56).toInt ≤ (h 137 56).toInt + (0) by omega) (show (h 137 70).toInt + (0) ≤ (hJ 137 70).toInt ∧ (hJ 137 70).toInt ≤ (h 137 70).toInt + (0) by omega) (show (h 137 58).toInt + (0) ≤ (hJ 137 58).toInt ∧ (hJ 137 58).toInt ≤ (h 137 58).toInt + (0) by omega) (E9.congr rfl rfl) (S9.congr rfl rfl rfl rfl rfl rfl rfl) (K9.congr rfl rfl) 
          · skip
            have c_262 := pi_eq.mp c_262
            refine lv_aload_n hx hb dX12_begin_265 rfl (lv_at hl 0 rfl) ?_
            refine lv_aload_n hx hb dX12_begin_266 rfl (lv_at hl 0 rfl) ?_
            refine pg_i M V 12 3 (sm_this S) pC12 fk12_3 lkF_X12_192 dX12_begin_267 ?_
            refine lv_topi (fun v5 ev5 => ?_)
            refine lv_aload_n hx hb dX12_begin_270 rfl (lv_at hl 0 rfl) ?_
            refine pg_i M V 12 4 (sm_this S) pC12 fk12_4 lkF_X12_195 dX12_begin_271 ?_
            refine lv_topi (fun v6 ev6 => ?_)
            refine lv_aload_n hx hb dX12_begin_274 rfl (lv_at hl 0 rfl) ?_
            refine pg_r M V 12 45 (sm_this S) pC12 fk12_45 (sm_oldClip S).2.2 lkF_X12_81 dX12_begin_275 ?_
            refine lv_iconst (v := 4) hx hb dX12_begin_278 (by decide) ?_
            refine lv_iload_n hx hb dX12_begin_279 rfl (lv_at hl 2 rfl) ?_
            refine lv_imul hx hb dX12_begin_280 ?_
            refine lv_topi (fun v7 ev7 => ?_)
            have k_4 : (4 : Int32).toInt = 4 := rfl
            have tv7 : v7.toInt = 4 * x236_2.toInt := by rw [ev7]; have z9 := pi_mul (x := (4 : Int32)) (y := x236_2); rw [k_4] at z9; exact z9 (by omega)
            refine pa_i M V (sm_oldClip S).1 (by rw [(sm_oldClip S).2.1]; exact pi_in (by omega)) dX12_begin_281 ?_
            refine lv_topi (fun v8 ev8 => ?_)
            refine lv_aload_n hx hb dX12_begin_282 rfl (lv_at hl 0 rfl) ?_
            refine pg_r M V 12 45 (sm_this S) pC12 fk12_45 (sm_oldClip S).2.2 lkF_X12_81 dX12_begin_283 ?_
            refine lv_iconst (v := 4) hx hb dX12_begin_286 (by decide) ?_
            refine lv_iload_n hx hb dX12_begin_287 rfl (lv_at hl 2 rfl) ?_
            refine lv_imul hx hb dX12_begin_288 ?_
            refine lv_topi (fun v9 ev9 => ?_)
            refine lv_iconst (v := 1) hx hb dX12_begin_289 (by decide) ?_
            refine lv_iadd hx hb dX12_begin_290 ?_
            refine lv_topi (fun v10 ev10 => ?_)
            have tv9 : v9.toInt = 4 * x236_2.toInt := by rw [ev9]; have z9 := pi_mul (x := (4 : Int32)) (y := x236_2); rw [k_4] at z9; exact z9 (by omega)
            have k_1 : (1 : Int32).toInt = 1 := rfl
            have tv10 : v10.toInt = v9.toInt + 1 := by rw [ev10]; have z9 := pi_add (x := v9) (y := (1 : Int32)); rw [k_1] at z9; exact z9 (by omega)
            refine pa_i M V (sm_oldClip S).1 (by rw [(sm_oldClip S).2.1]; exact pi_in (by omega)) dX12_begin_291 ?_
            refine lv_topi (fun v11 ev11 => ?_)
            refine lv_aload_n hx hb dX12_begin_292 rfl (lv_at hl 0 rfl) ?_
            refine pg_r M V 12 45 (sm_this S) pC12 fk12_45 (sm_oldClip S).2.2 lkF_X12_81 dX12_begin_293 ?_
            refine lv_iconst (v := 4) hx hb dX12_begin_296 (by decide) ?_
            refine lv_iload_n hx hb dX12_begin_297 rfl (lv_at hl 2 rfl) ?_
            refine lv_imul hx hb dX12_begin_298 ?_
            refine lv_topi (fun v12 ev12 => ?_)
            refine lv_iconst (v := 2) hx hb dX12_begin_299 (by decide) ?_
            refine lv_iadd hx hb dX12_begin_300 ?_
            refine lv_topi (fun v13 ev13 => ?_)
            have tv12 : v12.toInt = 4 * x236_2.toInt := by rw [ev12]; have z9 := pi_mul (x := (4 : Int32)) (y := x236_2); rw [k_4] at z9; exact z9 (by omega)
            have k_2 : (2 : Int32).toInt = 2 := rfl
            have tv13 : v13.toInt = v12.toInt + 2 := by rw [ev13]; have z9 := pi_add (x := v12) (y := (2 : Int32)); rw [k_2] at z9; exact z9 (by omega)
            refine pa_i M V (sm_oldClip S).1 (by rw [(sm_oldClip S).2.1]; exact pi_in (by omega)) dX12_begin_301 ?_
            refine lv_topi (fun v14 ev14 => ?_)
            refine lv_aload_n hx hb dX12_begin_302 rfl (lv_at hl 0 rfl) ?_
            refine pg_r M V 12 45 (sm_this S) pC12 fk12_45 (sm_oldClip S).2.2 lkF_X12_81 dX12_begin_303 ?_
            refine lv_iconst (v := 4) hx hb dX12_begin_306 (by decide) ?_
            refine lv_iload_n hx hb dX12_begin_307 rfl (lv_at hl 2 rfl) ?_
            refine lv_imul hx hb dX12_begin_308 ?_
            refine lv_topi (fun v15 ev15 => ?_)
            refine lv_iconst (v := 3) hx hb dX12_begin_309 (by decide) ?_
            refine lv_iadd hx hb dX12_begin_310 ?_
            refine lv_topi (fun v16 ev16 => ?_)
            have tv15 : v15.toInt = 4 * x236_2.toInt := by rw [ev15]; have z9 := pi_mul (x := (4 : Int32)) (y := x236_2); rw [k_4] at z9; exact z9 (by omega)
            have k_3 : (3 : Int32).toInt = 3 := rfl
            have tv16 : v16.toInt = v15.toInt + 3 := by rw [ev16]; have z9 := pi_add (x := v15) (y := (3 : Int32)); rw [k_3] at z9; exact z9 (by omega)
            refine pa_i M V (sm_oldClip S).1 (by rw [(sm_oldClip S).2.1]; exact pi_in (by omega)) dX12_begin_311 ?_
            refine lv_topi (fun v17 ev17 => ?_)
            refine pk_i (pr_V M V (m_X12_isIn l S I v5 v6 v8 v11 v14 v17) km_X12_isIn (sm_this S) pC12 lkM_X12_228 rfl hl.1 rfl (Nat.le_of_ble_eq_true rfl) ⟨Nat.le_of_ble_eq_true rfl, Nat.le_of_ble_eq_true rfl⟩ ⟨Nat.le_of_ble_eq_true rfl, Nat.le_of_ble_eq_true rfl⟩ dX12_begin_312) V (fun r18 Zr18 hr18 H locs pr18 _ _ V => ?_)
            obtain ⟨rfl, rfl, fr18_0⟩ := pr18
            refine lv_if_eq (tgt := 323) hx hb dX12_begin_315 (by decide) (fun c_315 => ?_) (fun c_315 => ?_)
            · skip
              have k_0 : (0 : Int32).toInt = 0 := rfl
              have c_315 := pi_eq.mp c_315
              exact J_323 _ _ _ _ V I (A.wk (by decide)) (lv_sub hl [0, 1, 2] rfl) (by omega) (by omega) (show (h 137 2).toInt + (-64) ≤ (hJ 137 2).toInt ∧ (hJ 137 2).toInt ≤ (h 137 2).toInt + (0) by omega) (show (h 137 25).toInt + (0) ≤ (hJ 137 25).toInt ∧ (hJ 137 25).toInt ≤ (h 137 25).toInt + (0) by omega) (show (h 137 27).toInt + (0) ≤ (hJ 137 27).toInt ∧ (hJ 137 27).toInt ≤ (h 137 27).toInt + (0) by omega) (show (h 137 82).toInt + (0) ≤ (hJ 137 82).toInt ∧ (hJ 137 82).toInt ≤ (h 137 82).toInt + (0) by omega) (show (h 137 56).toInt + (0) ≤ (hJ 137 56).toInt ∧ (hJ 137 56).toInt ≤ (h 137 56).toInt + (0) by omega) (show (h 137 70).toInt + (0) ≤ (hJ 137 70).toInt ∧ (hJ 137 70).toInt ≤ (h 137 70).toInt + (0) by omega) (show (h 137 58).toInt + (0) ≤ (hJ 137 58).toInt ∧ (hJ 137 58).toInt ≤ (h 137 58).toInt + (0) by omega) (E9.congr rfl rfl) (S9.congr rfl rfl rfl rfl rfl rfl rfl) (K9.congr rfl rfl) 
            · skip
              have k_0 : (0 : Int32).toInt = 0 := rfl
              have c_315 := pi_ne c_315
              refine lv_aload_n hx hb dX12_begin_318 rfl (lv_at hl 0 rfl) ?_
              refine lv_iload_n hx hb dX12_begin_319 rfl (lv_at hl 2 rfl) ?_
              refine pp_i M V 12 50 (sm_this S) pC12 fk12_50 rfl lkF_X12_90 ⟨rfl, rfl⟩ dX12_begin_320 (fun H locs V => ?_)
              have A := A.up (o := 137) (k := 50) (v := x236_2) (by decide)
              have I := I.up (k := 50) (v := x236_2) (sm_this S) (pi_full _)
              exact J_323 _ _ _ _ V I (A.wk (by decide)) (lv_sub hl [0, 1, 2] rfl) (by omega) (by omega) (show (h 137 2).toInt + (-64) ≤ (hJ 137 2).toInt ∧ (hJ 137 2).toInt ≤ (h 137 2).toInt + (0) by omega) (show (h 137 25).toInt + (0) ≤ (hJ 137 25).toInt ∧ (hJ 137 25).toInt ≤ (h 137 25).toInt + (0) by omega) (show (h 137 27).toInt + (0) ≤ (hJ 137 27).toInt ∧ (hJ 137 27).toInt ≤ (h 137 27).toInt + (0) by omega) (show (h 137 82).toInt + (0) ≤ (hJ 137 82).toInt ∧ (hJ 137 82).toInt ≤ (h 137 82).toInt + (0) by omega) (show (h 137 56).toInt + (0) ≤ (hJ 137 56).toInt ∧ (hJ 137 56).toInt ≤ (h 137 56).toInt + (0) by omega) (show (h 137 70).toInt + (0) ≤ (hJ 137 70).toInt ∧ (hJ 137 70).toInt ≤ (h 137 70).toInt + (0) by omega) (show (h 137 58).toInt + (0) ≤ (hJ 137 58).toInt ∧ (hJ 137 58).toInt ≤ (h 137 58).toInt + (0) by omega) (E9.congr rfl rfl) (S9.congr rfl rfl rfl rfl rfl rfl rfl) (K9.congr rfl rfl) 
  have J_213 : ∀ (x213_1 : Int32) (x213_2 : Int32) (hJ : pH) (H : Heap) (locs : List Loc) (ls : Array Slot), pV Z hJ s.heap H locs → Iv Z hJ → agr [(137, 0), (137, 2), (137, 3), (137, 4), (137, 7), (137, 8), (137, 9), (137, 13), (137, 14), (137, 15), (137, 16), (137, 18), (137, 23), (137, 40), (137, 48), (137, 49), (138, 1000), (139, 1000), (140, 1000), (141, 1000), (142, 1000), (145, 1000), (146, 1000), (151, 1000), (153, 1000), (154, 1000), (158, 1000), (159, 1000)] h hJ → lv_has ls 3 [(0, .ref (zB Z + 137)), (1, .int x213_1), (2, .int x213_2)] → (0 ≤ x213_1.toInt ∧ x213_1.toInt ≤ 64) → (32 ≤ x213_2.toInt ∧ x213_2.toInt ≤ 32) → ((h 137 2).toInt + (-64) ≤ (hJ 137 2).toInt ∧ (hJ 137 2).toInt ≤ (h 137 2).toInt + (0)) → ((h 137 25).toInt + (0) ≤ (hJ 137 25).toInt ∧ (hJ 137 25).toInt ≤ (h 137 25).toInt + (0)) → ((h 137 27).toInt + (0) ≤ (hJ 137 27).toInt ∧ (hJ 137 27).toInt ≤ (h 137 27).toInt + (0)) → ((h 137 82).toInt + (0) ≤ (hJ 137 82).toInt ∧ (hJ 137 82).toInt ≤ (h 137 82).toInt + (0)) → ((h 137 56).toInt + (0) ≤ (hJ 137 56).toInt ∧ (hJ 137 56).toInt ≤ (h 137 56).toInt + (0)) → ((h 137 70).toInt + (0) ≤ (hJ 137 70).toInt ∧ (hJ 137 70).toInt ≤ (h 137 70).toInt + (0)) → ((h 137 58).toInt + (0) ≤ (hJ 137 58).toInt ∧ (hJ 137 58).toInt ≤ (h 137 58).toInt + (0)) → mE hJ → mS hJ → mK hJ → W p l e (pRm 3 0 0 68) s m ([.ref (zB Z + 137)] : List Value).toArray below meth c H locs 0 0 (MQ below (pQi Z (fun r Z1 h1 => Z = Z1 ∧ Iv Z h1 ∧ agr [(137, 3), (137, 4), (137, 9), (137, 13), (137, 14), (137, 7), (137, 8), (137, 15), (137, 16), (139, 1000), (140, 1000), (141, 1000), (142, 1000), (137, 2), (138, 1000), (137, 0), (137, 18), (137, 19), (137, 20), (137, 22), (137, 21), (137, 23), (137, 40), (137, 48), (137, 56), (137, 58), (137, 70), (137, 71), (153, 1000), (137, 49), (137, 5), (137, 6), (137, 50), (137, 25), (137, 27), (137, 28), (137, 41), (137, 82), (154, 1000), (158, 1000), (159, 1000), (151, 1000), (145, 1000), (146, 1000)] h h1 ∧ (mE h1) ∧ (mS h1) ∧ (mK h1) ∧ ((h1 137 2).toInt ≤ (h 137 2).toInt) ∧ ((h1 137 25).toInt ≤ (h 137 25).toInt) ∧ ((h1 137 27).toInt ≤ (h 137 27).toInt) ∧ ((h1 137 82).toInt ≤ (h 137 82).toInt))) ([.ref (zB Z + 137)] : List Value).toArray s 0 0 (pA (zB Z))) (F0 m 213 ls []) := by
    intro x213_1 x213_2 hJ H locs ls V I A hl g_213_1 g_213_2 gd_213_2 gd_213_25 gd_213_27 gd_213_82 gd_213_56 gd_213_70 gd_213_58 E9 S9 K9
    refine lv_aload_n hx hb dX12_begin_213 rfl (lv_at hl 0 rfl) ?_
    refine lv_aload_n hx hb dX12_begin_214 rfl (lv_at hl 0 rfl) ?_
    refine pg_i M V 12 3 (sm_this S) pC12 fk12_3 lkF_X12_192 dX12_begin_215 ?_
    refine lv_topi (fun v19 ev19 => ?_)
    refine pp_i M V 12 5 (sm_this S) pC12 fk12_5 rfl lkF_X12_258 ⟨rfl, rfl⟩ dX12_begin_218 (fun H locs V => ?_)
    have A := A.wk (l3 := [(137, 0), (137, 2), (137, 3), (137, 4), (137, 7), (137, 8), (137, 9), (137, 13), (137, 14), (137, 15), (137, 16), (137, 18), (137, 23), (137, 40), (137, 48), (137, 49), (138, 1000), (139, 1000), (140, 1000), (141, 1000), (142, 1000), (145, 1000), (146, 1000), (151, 1000), (153, 1000), (154, 1000), (158, 1000), (159, 1000), (137, 5)]) (by decide)
    have A := A.up (o := 137) (k := 5) (v := v19) (by decide)
    have I := I.up (k := 5) (v := v19) (sm_this S) (pi_full _)
    refine lv_aload_n hx hb dX12_begin_221 rfl (lv_at hl 0 rfl) ?_
    refine lv_aload_n hx hb dX12_begin_222 rfl (lv_at hl 0 rfl) ?_
    refine pg_i M V 12 4 (sm_this S) pC12 fk12_4 lkF_X12_195 dX12_begin_223 ?_
    refine lv_topi (fun v20 ev20 => ?_)
    refine pp_i M V 12 6 (sm_this S) pC12 fk12_6 rfl lkF_X12_261 ⟨rfl, rfl⟩ dX12_begin_226 (fun H locs V => ?_)
    have A := A.wk (l3 := [(137, 0), (137, 2), (137, 3), (137, 4), (137, 7), (137, 8), (137, 9), (137, 13), (137, 14), (137, 15), (137, 16), (137, 18), (137, 23), (137, 40), (137, 48), (137, 49), (138, 1000), (139, 1000), (140, 1000), (141, 1000), (142, 1000), (145, 1000), (146, 1000), (151, 1000), (153, 1000), (154, 1000), (158, 1000), (159, 1000), (137, 5), (137, 6)]) (by decide)
    have A := A.up (o := 137) (k := 6) (v := v20) (by decide)
    have I := I.up (k := 6) (v := v20) (sm_this S) (pi_full _)
    refine lv_aload_n hx hb dX12_begin_229 rfl (lv_at hl 0 rfl) ?_
    refine lv_iconst (v := (-1)) hx hb dX12_begin_230 (by decide) ?_
    refine pp_i M V 12 50 (sm_this S) pC12 fk12_50 rfl lkF_X12_90 ⟨rfl, rfl⟩ dX12_begin_231 (fun H locs V => ?_)
    have A := A.wk (l3 := [(137, 0), (137, 2), (137, 3), (137, 4), (137, 7), (137, 8), (137, 9), (137, 13), (137, 14), (137, 15), (137, 16), (137, 18), (137, 23), (137, 40), (137, 48), (137, 49), (138, 1000), (139, 1000), (140, 1000), (141, 1000), (142, 1000), (145, 1000), (146, 1000), (151, 1000), (153, 1000), (154, 1000), (158, 1000), (159, 1000), (137, 5), (137, 6), (137, 50)]) (by decide)
    have A := A.up (o := 137) (k := 50) (v := (-1 : Int32)) (by decide)
    have I := I.up (k := 50) (v := (-1 : Int32)) (sm_this S) (pi_full _)
    refine lv_iconst (v := 0) hx hb dX12_begin_234 (by decide) ?_
    refine lv_istore_n (lv' := [(2, .int (0 : Int32)), (0, .ref (zB Z + 137)), (1, .int x213_1)]) hx hb dX12_begin_235 rfl hl (by decide) rfl (fun ls hl => ?_)
    have k_0 : (0 : Int32).toInt = 0 := rfl
    exact J_236 _ x213_1 (0 : Int32) _ _ _ _ V I (A.wk (by decide)) (lv_sub hl [1, 2, 0] rfl) (by omega) (by omega) (show (h 137 2).toInt + (-64) ≤ (hJ 137 2).toInt ∧ (hJ 137 2).toInt ≤ (h 137 2).toInt + (0) by omega) (show (h 137 25).toInt + (0) ≤ (hJ 137 25).toInt ∧ (hJ 137 25).toInt ≤ (h 137 25).toInt + (0) by omega) (show (h 137 27).toInt + (0) ≤ (hJ 137 27).toInt ∧ (hJ 137 27).toInt ≤ (h 137 27).toInt + (0) by omega) (show (h 137 82).toInt + (0) ≤ (hJ 137 82).toInt ∧ (hJ 137 82).toInt ≤ (h 137 82).toInt + (0) by omega) (show (h 137 56).toInt + (0) ≤ (hJ 137 56).toInt ∧ (hJ 137 56).toInt ≤ (h 137 56).toInt + (0) by omega) (show (h 137 70).toInt + (0) ≤ (hJ 137 70).toInt ∧ (hJ 137 70).toInt ≤ (h 137 70).toInt + (0) by omega) (show (h 137 58).toInt + (0) ≤ (hJ 137 58).toInt ∧ (hJ 137 58).toInt ≤ (h 137 58).toInt + (0) by omega) (E9.congr rfl rfl) (S9.congr rfl rfl rfl rfl rfl rfl rfl) (K9.congr rfl rfl) (Nat.lt_succ_self _) 
  have J_96 : ∀ (n9 : Nat) (x96_1 : Int32) (x96_2 : Int32) (hJ : pH) (H : Heap) (locs : List Loc) (ls : Array Slot), pV Z hJ s.heap H locs → Iv Z hJ → agr [(137, 0), (137, 2), (137, 3), (137, 4), (137, 7), (137, 8), (137, 9), (137, 13), (137, 14), (137, 15), (137, 16), (137, 18), (137, 49), (138, 1000), (139, 1000), (140, 1000), (141, 1000), (142, 1000), (153, 1000), (154, 1000), (158, 1000), (159, 1000)] h hJ → lv_has ls 3 [(0, .ref (zB Z + 137)), (1, .int x96_1), (2, .int x96_2)] → (0 ≤ x96_1.toInt ∧ x96_1.toInt ≤ 64) → (0 ≤ x96_2.toInt ∧ x96_2.toInt ≤ 32) → ((h 137 2).toInt + (-64) ≤ (hJ 137 2).toInt ∧ (hJ 137 2).toInt ≤ (h 137 2).toInt + (0)) → ((h 137 25).toInt + (0) ≤ (hJ 137 25).toInt ∧ (hJ 137 25).toInt ≤ (h 137 25).toInt + (0)) → ((h 137 27).toInt + (0) ≤ (hJ 137 27).toInt ∧ (hJ 137 27).toInt ≤ (h 137 27).toInt + (0)) → ((h 137 82).toInt + (0) ≤ (hJ 137 82).toInt ∧ (hJ 137 82).toInt ≤ (h 137 82).toInt + (0)) → ((h 137 56).toInt + (0) ≤ (hJ 137 56).toInt ∧ (hJ 137 56).toInt ≤ (h 137 56).toInt + (0)) → ((h 137 70).toInt + (0) ≤ (hJ 137 70).toInt ∧ (hJ 137 70).toInt ≤ (h 137 70).toInt + (0)) → ((h 137 58).toInt + (0) ≤ (hJ 137 58).toInt ∧ (hJ 137 58).toInt ≤ (h 137 58).toInt + (0)) → mE hJ → mS hJ → mK hJ → (32 - x96_2.toInt).toNat < n9 → W p l e (pRm 3 0 0 68) s m ([.ref (zB Z + 137)] : List Value).toArray below meth c H locs 0 0 (MQ below (pQi Z (fun r Z1 h1 => Z = Z1 ∧ Iv Z h1 ∧ agr [(137, 3), (137, 4), (137, 9), (137, 13), (137, 14), (137, 7), (137, 8), (137, 15), (137, 16), (139, 1000), (140, 1000), (141, 1000), (142, 1000), (137, 2), (138, 1000), (137, 0), (137, 18), (137, 19), (137, 20), (137, 22), (137, 21), (137, 23), (137, 40), (137, 48), (137, 56), (137, 58), (137, 70), (137, 71), (153, 1000), (137, 49), (137, 5), (137, 6), (137, 50), (137, 25), (137, 27), (137, 28), (137, 41), (137, 82), (154, 1000), (158, 1000), (159, 1000), (151, 1000), (145, 1000), (146, 1000)] h h1 ∧ (mE h1) ∧ (mS h1) ∧ (mK h1) ∧ ((h1 137 2).toInt ≤ (h 137 2).toInt) ∧ ((h1 137 25).toInt ≤ (h 137 25).toInt) ∧ ((h1 137 27).toInt ≤ (h 137 27).toInt) ∧ ((h1 137 82).toInt ≤ (h 137 82).toInt))) ([.ref (zB Z + 137)] : List Value).toArray s 0 0 (pA (zB Z))) (F0 m 96 ls []) := by
    intro n9
    induction n9 with
    | zero => intro x96_1 x96_2 hJ H locs ls V I A hl g_96_1 g_96_2 gd_96_2 gd_96_25 gd_96_27 gd_96_82 gd_96_56 gd_96_70 gd_96_58 E9 S9 K9 hm9; exact absurd hm9 (Nat.not_lt_zero _)
    | succ n9 ih_96 =>
      intro x96_1 x96_2 hJ H locs ls V I A hl g_96_1 g_96_2 gd_96_2 gd_96_25 gd_96_27 gd_96_82 gd_96_56 gd_96_70 gd_96_58 E9 S9 K9 hm9
      refine lv_iload_n hx hb dX12_begin_96 rfl (lv_at hl 2 rfl) ?_
      refine lv_bipush (v := 32) hx hb dX12_begin_97 (by decide) ?_
      refine lv_icmp_ge (tgt := 120) hx hb dX12_begin_99 (by decide) (fun c_99 => ?_) (fun c_99 => ?_)
      · skip
        have k_32 : (32 : Int32).toInt = 32 := rfl
        have c_99 := pi_le.mp c_99
        refine lv_aload_n hx hb dX12_begin_120 rfl (lv_at hl 0 rfl) ?_
        refine lv_iconst (v := 0) hx hb dX12_begin_121 (by decide) ?_
        refine pp_i M V 12 48 (sm_this S) pC12 fk12_48 rfl lkF_X12_246 ⟨rfl, rfl⟩ dX12_begin_122 (fun H locs V => ?_)
        have A := A.wk (l3 := [(137, 0), (137, 2), (137, 3), (137, 4), (137, 7), (137, 8), (137, 9), (137, 13), (137, 14), (137, 15), (137, 16), (137, 18), (137, 49), (138, 1000), (139, 1000), (140, 1000), (141, 1000), (142, 1000), (153, 1000), (154, 1000), (158, 1000), (159, 1000), (137, 48)]) (by decide)
        have A := A.up (o := 137) (k := 48) (v := (0 : Int32)) (by decide)
        have k_0 : (0 : Int32).toInt = 0 := rfl
        have I := I.up (k := 48) (v := (0 : Int32)) (sm_this S) (show (0 : Int) ≤ (0 : Int32).toInt ∧ (0 : Int32).toInt ≤ (8 : Int) by omega)
        refine lv_aload_n hx hb dX12_begin_125 rfl (lv_at hl 0 rfl) ?_
        refine pk_v (pr_V M V (m_X12_findWindow l S I  ) km_X12_findWindow (sm_this S) pC12 lkM_X12_252 rfl hl.1 rfl (Nat.le_of_ble_eq_true rfl) ⟨Nat.le_of_ble_eq_true rfl, Nat.le_of_ble_eq_true rfl⟩ ⟨Nat.le_of_ble_eq_true rfl, Nat.le_of_ble_eq_true rfl⟩ dX12_begin_126) V (fun Zr21 hr21 H locs pr21 _ _ V => ?_)
        obtain ⟨rfl, I, pA_r21⟩ := pr21
        have A := A.wk (l3 := [(137, 0), (137, 2), (137, 3), (137, 4), (137, 7), (137, 8), (137, 9), (137, 13), (137, 14), (137, 15), (137, 16), (137, 18), (137, 49), (138, 1000), (139, 1000), (140, 1000), (141, 1000), (142, 1000), (153, 1000), (154, 1000), (158, 1000), (159, 1000), (137, 48), (137, 23), (137, 40), (151, 1000)]) (by decide)
        have A := A.tr pA_r21 (by decide)
        have E9 : mE hr21 := E9.congr (pA_r21.get 137 2 (by decide)) (pA_r21.row 138 (by decide))
        have S9 : mS hr21 := S9.congr (pA_r21.get 137 56 (by decide)) (pA_r21.get 137 70 (by decide)) (pA_r21.get 137 58 (by decide)) (pA_r21.row 162 (by decide)) (pA_r21.row 163 (by decide)) (pA_r21.row 165 (by decide)) (pA_r21.row 166 (by decide))
        have K9 : mK hr21 := K9.congr (pA_r21.row 185 (by decide)) (pA_r21.row 184 (by decide))
        have w_r21_2 : (hr21 137 2).toInt = (hJ 137 2).toInt := congrArg Int32.toInt (pA_r21.get 137 2 (by decide))
        have w_r21_25 : (hr21 137 25).toInt = (hJ 137 25).toInt := congrArg Int32.toInt (pA_r21.get 137 25 (by decide))
        have w_r21_27 : (hr21 137 27).toInt = (hJ 137 27).toInt := congrArg Int32.toInt (pA_r21.get 137 27 (by decide))
        have w_r21_82 : (hr21 137 82).toInt = (hJ 137 82).toInt := congrArg Int32.toInt (pA_r21.get 137 82 (by decide))
        have w_r21_56 : (hr21 137 56).toInt = (hJ 137 56).toInt := congrArg Int32.toInt (pA_r21.get 137 56 (by decide))
        have w_r21_70 : (hr21 137 70).toInt = (hJ 137 70).toInt := congrArg Int32.toInt (pA_r21.get 137 70 (by decide))
        have w_r21_58 : (hr21 137 58).toInt = (hJ 137 58).toInt := congrArg Int32.toInt (pA_r21.get 137 58 (by decide))
        refine lv_aload_n hx hb dX12_begin_129 rfl (lv_at hl 0 rfl) ?_
        refine pg_i M V 12 19 (sm_this S) pC12 fk12_19 lkF_X12_255 dX12_begin_130 ?_
        refine lv_topi (fun v22 ev22 => ?_)
        refine lv_sipush (v := 1000) hx hb dX12_begin_133 (by decide) ?_
        refine lv_icmp_lt (tgt := 213) hx hb dX12_begin_136 (by decide) (fun c_136 => ?_) (fun c_136 => ?_)
        · skip
          have k_1000 : (1000 : Int32).toInt = 1000 := rfl
          have c_136 := pi_lt.mp c_136
          exact J_213 x96_1 x96_2 _ _ _ _ V I (A.wk (by decide)) (lv_sub hl [0, 1, 2] rfl) (by omega) (by omega) (show (h 137 2).toInt + (-64) ≤ (hr21 137 2).toInt ∧ (hr21 137 2).toInt ≤ (h 137 2).toInt + (0) by omega) (show (h 137 25).toInt + (0) ≤ (hr21 137 25).toInt ∧ (hr21 137 25).toInt ≤ (h 137 25).toInt + (0) by omega) (show (h 137 27).toInt + (0) ≤ (hr21 137 27).toInt ∧ (hr21 137 27).toInt ≤ (h 137 27).toInt + (0) by omega) (show (h 137 82).toInt + (0) ≤ (hr21 137 82).toInt ∧ (hr21 137 82).toInt ≤ (h 137 82).toInt + (0) by omega) (show (h 137 56).toInt + (0) ≤ (hr21 137 56).toInt ∧ (hr21 137 56).toInt ≤ (h 137 56).toInt + (0) by omega) (show (h 137 70).toInt + (0) ≤ (hr21 137 70).toInt ∧ (hr21 137 70).toInt ≤ (h 137 70).toInt + (0) by omega) (show (h 137 58).toInt + (0) ≤ (hr21 137 58).toInt ∧ (hr21 137 58).toInt ≤ (h 137 58).toInt + (0) by omega) (E9.congr rfl rfl) (S9.congr rfl rfl rfl rfl rfl rfl rfl) (K9.congr rfl rfl) 
        · skip
          have k_1000 : (1000 : Int32).toInt = 1000 := rfl
          have c_136 := pi_lt' c_136
          refine lv_aload_n hx hb dX12_begin_139 rfl (lv_at hl 0 rfl) ?_
          refine pg_iv M V 12 19 (v := v22) (sm_this S) pC12 fk12_19 ev22.symm lkF_X12_255 dX12_begin_140 ?_
          refine lv_sipush (v := 1008) hx hb dX12_begin_143 (by decide) ?_
          refine lv_icmp_ge (tgt := 213) hx hb dX12_begin_146 (by decide) (fun c_146 => ?_) (fun c_146 => ?_)
          · skip
            have k_1008 : (1008 : Int32).toInt = 1008 := rfl
            have c_146 := pi_le.mp c_146
            exact J_213 x96_1 x96_2 _ _ _ _ V I (A.wk (by decide)) (lv_sub hl [0, 1, 2] rfl) (by omega) (by omega) (show (h 137 2).toInt + (-64) ≤ (hr21 137 2).toInt ∧ (hr21 137 2).toInt ≤ (h 137 2).toInt + (0) by omega) (show (h 137 25).toInt + (0) ≤ (hr21 137 25).toInt ∧ (hr21 137 25).toInt ≤ (h 137 25).toInt + (0) by omega) (show (h 137 27).toInt + (0) ≤ (hr21 137 27).toInt ∧ (hr21 137 27).toInt ≤ (h 137 27).toInt + (0) by omega) (show (h 137 82).toInt + (0) ≤ (hr21 137 82).toInt ∧ (hr21 137 82).toInt ≤ (h 137 82).toInt + (0) by omega) (show (h 137 56).toInt + (0) ≤ (hr21 137 56).toInt ∧ (hr21 137 56).toInt ≤ (h 137 56).toInt + (0) by omega) (show (h 137 70).toInt + (0) ≤ (hr21 137 70).toInt ∧ (hr21 137 70).toInt ≤ (h 137 70).toInt + (0) by omega) (show (h 137 58).toInt + (0) ≤ (hr21 137 58).toInt ∧ (hr21 137 58).toInt ≤ (h 137 58).toInt + (0) by omega) (E9.congr rfl rfl) (S9.congr rfl rfl rfl rfl rfl rfl rfl) (K9.congr rfl rfl) 
          · skip
            have k_1008 : (1008 : Int32).toInt = 1008 := rfl
            have c_146 := pi_le' c_146
            refine lv_aload_n hx hb dX12_begin_149 rfl (lv_at hl 0 rfl) ?_
            refine pg_i M V 12 9 (sm_this S) pC12 fk12_9 lkF_X12_198 dX12_begin_150 ?_
            refine lv_topi (fun v23 ev23 => ?_)
            have tv23 : 0 ≤ v23.toInt ∧ v23.toInt ≤ 1 := by rw [ev23]; exact I.get (sm_this S) 9
            refine lv_if_eq (tgt := 213) hx hb dX12_begin_153 (by decide) (fun c_153 => ?_) (fun c_153 => ?_)
            · skip
              have c_153 := pi_eq.mp c_153
              exact J_213 x96_1 x96_2 _ _ _ _ V I (A.wk (by decide)) (lv_sub hl [0, 1, 2] rfl) (by omega) (by omega) (show (h 137 2).toInt + (-64) ≤ (hr21 137 2).toInt ∧ (hr21 137 2).toInt ≤ (h 137 2).toInt + (0) by omega) (show (h 137 25).toInt + (0) ≤ (hr21 137 25).toInt ∧ (hr21 137 25).toInt ≤ (h 137 25).toInt + (0) by omega) (show (h 137 27).toInt + (0) ≤ (hr21 137 27).toInt ∧ (hr21 137 27).toInt ≤ (h 137 27).toInt + (0) by omega) (show (h 137 82).toInt + (0) ≤ (hr21 137 82).toInt ∧ (hr21 137 82).toInt ≤ (h 137 82).toInt + (0) by omega) (show (h 137 56).toInt + (0) ≤ (hr21 137 56).toInt ∧ (hr21 137 56).toInt ≤ (h 137 56).toInt + (0) by omega) (show (h 137 70).toInt + (0) ≤ (hr21 137 70).toInt ∧ (hr21 137 70).toInt ≤ (h 137 70).toInt + (0) by omega) (show (h 137 58).toInt + (0) ≤ (hr21 137 58).toInt ∧ (hr21 137 58).toInt ≤ (h 137 58).toInt + (0) by omega) (E9.congr rfl rfl) (S9.congr rfl rfl rfl rfl rfl rfl rfl) (K9.congr rfl rfl) 
            · skip
              have c_153 := pi_ne c_153
              refine lv_aload_n hx hb dX12_begin_156 rfl (lv_at hl 0 rfl) ?_
              refine pg_i M V 12 13 (sm_this S) pC12 fk12_13 lkF_X12_202 dX12_begin_157 ?_
              refine lv_topi (fun v24 ev24 => ?_)
              have tv24 : 0 ≤ v24.toInt ∧ v24.toInt ≤ 1 := by rw [ev24]; exact I.get (sm_this S) 13
              refine lv_if_ne (tgt := 213) hx hb dX12_begin_160 (by decide) (fun c_160 => ?_) (fun c_160 => ?_)
              · skip
                have c_160 := pi_ne c_160
                exact J_213 x96_1 x96_2 _ _ _ _ V I (A.wk (by decide)) (lv_sub hl [0, 1, 2] rfl) (by omega) (by omega) (show (h 137 2).toInt + (-64) ≤ (hr21 137 2).toInt ∧ (hr21 137 2).toInt ≤ (h 137 2).toInt + (0) by omega) (show (h 137 25).toInt + (0) ≤ (hr21 137 25).toInt ∧ (hr21 137 25).toInt ≤ (h 137 25).toInt + (0) by omega) (show (h 137 27).toInt + (0) ≤ (hr21 137 27).toInt ∧ (hr21 137 27).toInt ≤ (h 137 27).toInt + (0) by omega) (show (h 137 82).toInt + (0) ≤ (hr21 137 82).toInt ∧ (hr21 137 82).toInt ≤ (h 137 82).toInt + (0) by omega) (show (h 137 56).toInt + (0) ≤ (hr21 137 56).toInt ∧ (hr21 137 56).toInt ≤ (h 137 56).toInt + (0) by omega) (show (h 137 70).toInt + (0) ≤ (hr21 137 70).toInt ∧ (hr21 137 70).toInt ≤ (h 137 70).toInt + (0) by omega) (show (h 137 58).toInt + (0) ≤ (hr21 137 58).toInt ∧ (hr21 137 58).toInt ≤ (h 137 58).toInt + (0) by omega) (E9.congr rfl rfl) (S9.congr rfl rfl rfl rfl rfl rfl rfl) (K9.congr rfl rfl) 
              · skip
                have c_160 := pi_eq.mp c_160
                refine lv_aload_n hx hb dX12_begin_163 rfl (lv_at hl 0 rfl) ?_
                refine pg_r M V 12 29 (sm_this S) pC12 fk12_29 (sm_x S).2.2 lkF_X12_36 dX12_begin_164 ?_
                refine lv_aload_n hx hb dX12_begin_167 rfl (lv_at hl 0 rfl) ?_
                refine pg_iv M V 12 19 (v := v22) (sm_this S) pC12 fk12_19 ev22.symm lkF_X12_255 dX12_begin_168 ?_
                refine lv_sipush (v := 1000) hx hb dX12_begin_171 (by decide) ?_
                refine lv_isub hx hb dX12_begin_174 ?_
                refine lv_topi (fun v25 ev25 => ?_)
                refine lv_dup2_11 hx hb dX12_begin_175 rfl rfl ?_
                have tv25 : v25.toInt = v22.toInt - 1000 := by rw [ev25]; have z9 := pi_sub (x := v22) (y := (1000 : Int32)); rw [k_1000] at z9; exact z9 (by omega)
                refine pa_i M V (sm_x S).1 (by rw [(sm_x S).2.1]; exact pi_in (by omega)) dX12_begin_176 ?_
                refine lv_topi (fun v26 ev26 => ?_)
                refine lv_aload_n hx hb dX12_begin_177 rfl (lv_at hl 0 rfl) ?_
                refine pg_i M V 12 3 (sm_this S) pC12 fk12_3 lkF_X12_192 dX12_begin_178 ?_
                refine lv_topi (fun v27 ev27 => ?_)
                refine lv_aload_n hx hb dX12_begin_181 rfl (lv_at hl 0 rfl) ?_
                refine pg_i M V 12 5 (sm_this S) pC12 fk12_5 lkF_X12_258 dX12_begin_182 ?_
                refine lv_topi (fun v28 ev28 => ?_)
                refine lv_isub hx hb dX12_begin_185 ?_
                refine lv_topi (fun v29 ev29 => ?_)
                refine lv_iadd hx hb dX12_begin_186 ?_
                refine lv_topi (fun v30 ev30 => ?_)
                refine ps_i M V (sm_x S).1 (by rw [(sm_x S).2.1]; exact pi_in (by omega)) dX12_begin_187 (fun H locs V => ?_)
                have A := A.wk (l3 := [(137, 0), (137, 2), (137, 3), (137, 4), (137, 7), (137, 8), (137, 9), (137, 13), (137, 14), (137, 15), (137, 16), (137, 18), (137, 49), (138, 1000), (139, 1000), (140, 1000), (141, 1000), (142, 1000), (153, 1000), (154, 1000), (158, 1000), (159, 1000), (137, 48), (137, 23), (137, 40), (151, 1000), (145, 1000)]) (by decide)
                have A := A.upA (o := 145) (k := v25.toNatClampNeg) (v := v30) (by decide)
                have I := I.up (k := v25.toNatClampNeg) (v := v30) (sm_x S).1 (pi_full _)
                refine lv_aload_n hx hb dX12_begin_188 rfl (lv_at hl 0 rfl) ?_
                refine pg_r M V 12 30 (sm_this S) pC12 fk12_30 (sm_y S).2.2 lkF_X12_39 dX12_begin_189 ?_
                refine lv_aload_n hx hb dX12_begin_192 rfl (lv_at hl 0 rfl) ?_
                refine pg_iv M V 12 19 (v := v22) (sm_this S) pC12 fk12_19 ev22.symm lkF_X12_255 dX12_begin_193 ?_
                refine lv_sipush (v := 1000) hx hb dX12_begin_196 (by decide) ?_
                refine lv_isub hx hb dX12_begin_199 ?_
                refine lv_topi (fun v31 ev31 => ?_)
                refine lv_dup2_11 hx hb dX12_begin_200 rfl rfl ?_
                have tv31 : v31.toInt = v22.toInt - 1000 := by rw [ev31]; have z9 := pi_sub (x := v22) (y := (1000 : Int32)); rw [k_1000] at z9; exact z9 (by omega)
                refine pa_i M V (sm_y S).1 (by rw [(sm_y S).2.1]; exact pi_in (by omega)) dX12_begin_201 ?_
                refine lv_topi (fun v32 ev32 => ?_)
                refine lv_aload_n hx hb dX12_begin_202 rfl (lv_at hl 0 rfl) ?_
                refine pg_i M V 12 4 (sm_this S) pC12 fk12_4 lkF_X12_195 dX12_begin_203 ?_
                refine lv_topi (fun v33 ev33 => ?_)
                refine lv_aload_n hx hb dX12_begin_206 rfl (lv_at hl 0 rfl) ?_
                refine pg_i M V 12 6 (sm_this S) pC12 fk12_6 lkF_X12_261 dX12_begin_207 ?_
                refine lv_topi (fun v34 ev34 => ?_)
                refine lv_isub hx hb dX12_begin_210 ?_
                refine lv_topi (fun v35 ev35 => ?_)
                refine lv_iadd hx hb dX12_begin_211 ?_
                refine lv_topi (fun v36 ev36 => ?_)
                refine ps_i M V (sm_y S).1 (by rw [(sm_y S).2.1]; exact pi_in (by omega)) dX12_begin_212 (fun H locs V => ?_)
                have A := A.wk (l3 := [(137, 0), (137, 2), (137, 3), (137, 4), (137, 7), (137, 8), (137, 9), (137, 13), (137, 14), (137, 15), (137, 16), (137, 18), (137, 49), (138, 1000), (139, 1000), (140, 1000), (141, 1000), (142, 1000), (153, 1000), (154, 1000), (158, 1000), (159, 1000), (137, 48), (137, 23), (137, 40), (151, 1000), (145, 1000), (146, 1000)]) (by decide)
                have A := A.upA (o := 146) (k := v31.toNatClampNeg) (v := v36) (by decide)
                have I := I.up (k := v31.toNatClampNeg) (v := v36) (sm_y S).1 (pi_full _)
                exact J_213 x96_1 x96_2 _ _ _ _ V I (A.wk (by decide)) (lv_sub hl [0, 1, 2] rfl) (by omega) (by omega) (show (h 137 2).toInt + (-64) ≤ (hr21 137 2).toInt ∧ (hr21 137 2).toInt ≤ (h 137 2).toInt + (0) by omega) (show (h 137 25).toInt + (0) ≤ (hr21 137 25).toInt ∧ (hr21 137 25).toInt ≤ (h 137 25).toInt + (0) by omega) (show (h 137 27).toInt + (0) ≤ (hr21 137 27).toInt ∧ (hr21 137 27).toInt ≤ (h 137 27).toInt + (0) by omega) (show (h 137 82).toInt + (0) ≤ (hr21 137 82).toInt ∧ (hr21 137 82).toInt ≤ (h 137 82).toInt + (0) by omega) (show (h 137 56).toInt + (0) ≤ (hr21 137 56).toInt ∧ (hr21 137 56).toInt ≤ (h 137 56).toInt + (0) by omega) (show (h 137 70).toInt + (0) ≤ (hr21 137 70).toInt ∧ (hr21 137 70).toInt ≤ (h 137 70).toInt + (0) by omega) (show (h 137 58).toInt + (0) ≤ (hr21 137 58).toInt ∧ (hr21 137 58).toInt ≤ (h 137 58).toInt + (0) by omega) (E9.congr rfl rfl) (S9.congr rfl rfl rfl rfl rfl rfl rfl) (K9.congr rfl rfl) 
      · skip
        have k_32 : (32 : Int32).toInt = 32 := rfl
        have c_99 := pi_le' c_99
        refine lv_aload_n hx hb dX12_begin_102 rfl (lv_at hl 0 rfl) ?_
        refine pg_r M V 12 45 (sm_this S) pC12 fk12_45 (sm_oldClip S).2.2 lkF_X12_81 dX12_begin_103 ?_
        refine lv_iload_n hx hb dX12_begin_106 rfl (lv_at hl 2 rfl) ?_
        refine lv_aload_n hx hb dX12_begin_107 rfl (lv_at hl 0 rfl) ?_
        refine pg_r M V 12 43 (sm_this S) pC12 fk12_43 (sm_childClip S).2.2 lkF_X12_75 dX12_begin_108 ?_
        refine lv_iload_n hx hb dX12_begin_111 rfl (lv_at hl 2 rfl) ?_
        refine pa_i M V (sm_childClip S).1 (by rw [(sm_childClip S).2.1]; exact pi_in (by omega)) dX12_begin_112 ?_
        refine lv_topi (fun v37 ev37 => ?_)
        refine ps_i M V (sm_oldClip S).1 (by rw [(sm_oldClip S).2.1]; exact pi_in (by omega)) dX12_begin_113 (fun H locs V => ?_)
        have A := A.upA (o := 159) (k := x96_2.toNatClampNeg) (v := v37) (by decide)
        have I := I.up (k := x96_2.toNatClampNeg) (v := v37) (sm_oldClip S).1 (pi_full _)
        obtain ⟨v38, ev38⟩ : ∃ y : Int32, y = x96_2 + 1 := ⟨_, rfl⟩
        refine lv_iinc (v := v38) (lv' := [(2, .int v38), (0, .ref (zB Z + 137)), (1, .int x96_1)]) hx hb dX12_begin_114 hl (k := 2) rfl (by rw [ev38]; rfl) (by decide) rfl (fun ls hl => ?_)
        refine lv_goto (tgt := 96) hx hb dX12_begin_117 (by decide) ?_
        have k_1 : (1 : Int32).toInt = 1 := rfl
        have tv38 : v38.toInt = x96_2.toInt + 1 := by rw [ev38]; have z9 := pi_add (x := x96_2) (y := (1 : Int32)); rw [k_1] at z9; exact z9 (by omega)
        exact ih_96 x96_1 v38 _ _ _ _ V I (A.wk (by decide)) (lv_sub hl [1, 2, 0] rfl) (by omega) (by omega) (show (h 137 2).toInt + (-64) ≤ (hJ 137 2).toInt ∧ (hJ 137 2).toInt ≤ (h 137 2).toInt + (0) by omega) (show (h 137 25).toInt + (0) ≤ (hJ 137 25).toInt ∧ (hJ 137 25).toInt ≤ (h 137 25).toInt + (0) by omega) (show (h 137 27).toInt + (0) ≤ (hJ 137 27).toInt ∧ (hJ 137 27).toInt ≤ (h 137 27).toInt + (0) by omega) (show (h 137 82).toInt + (0) ≤ (hJ 137 82).toInt ∧ (hJ 137 82).toInt ≤ (h 137 82).toInt + (0) by omega) (show (h 137 56).toInt + (0) ≤ (hJ 137 56).toInt ∧ (hJ 137 56).toInt ≤ (h 137 56).toInt + (0) by omega) (show (h 137 70).toInt + (0) ≤ (hJ 137 70).toInt ∧ (hJ 137 70).toInt ≤ (h 137 70).toInt + (0) by omega) (show (h 137 58).toInt + (0) ≤ (hJ 137 58).toInt ∧ (hJ 137 58).toInt ≤ (h 137 58).toInt + (0) by omega) (E9.congr rfl rfl) (S9.congr rfl rfl rfl rfl rfl rfl rfl) (K9.congr rfl rfl) (by omega) 
  have J_70 : ∀ (n9 : Nat) (x70_1 : Int32) (x70_2 : Int32) (hJ : pH) (H : Heap) (locs : List Loc) (ls : Array Slot), pV Z hJ s.heap H locs → Iv Z hJ → agr [(137, 0), (137, 2), (137, 3), (137, 4), (137, 7), (137, 8), (137, 9), (137, 13), (137, 14), (137, 15), (137, 16), (137, 18), (137, 49), (138, 1000), (139, 1000), (140, 1000), (141, 1000), (142, 1000), (153, 1000), (154, 1000), (158, 1000)] h hJ → lv_has ls 3 [(0, .ref (zB Z + 137)), (1, .int x70_1), (2, .int x70_2)] → (0 ≤ x70_1.toInt ∧ x70_1.toInt ≤ 64) → (0 ≤ x70_2.toInt ∧ x70_2.toInt ≤ 8) → ((h 137 2).toInt + (-64) ≤ (hJ 137 2).toInt ∧ (hJ 137 2).toInt ≤ (h 137 2).toInt + (0)) → ((h 137 25).toInt + (0) ≤ (hJ 137 25).toInt ∧ (hJ 137 25).toInt ≤ (h 137 25).toInt + (0)) → ((h 137 27).toInt + (0) ≤ (hJ 137 27).toInt ∧ (hJ 137 27).toInt ≤ (h 137 27).toInt + (0)) → ((h 137 82).toInt + (0) ≤ (hJ 137 82).toInt ∧ (hJ 137 82).toInt ≤ (h 137 82).toInt + (0)) → ((h 137 56).toInt + (0) ≤ (hJ 137 56).toInt ∧ (hJ 137 56).toInt ≤ (h 137 56).toInt + (0)) → ((h 137 70).toInt + (0) ≤ (hJ 137 70).toInt ∧ (hJ 137 70).toInt ≤ (h 137 70).toInt + (0)) → ((h 137 58).toInt + (0) ≤ (hJ 137 58).toInt ∧ (hJ 137 58).toInt ≤ (h 137 58).toInt + (0)) → mE hJ → mS hJ → mK hJ → (8 - x70_2.toInt).toNat < n9 → W p l e (pRm 3 0 0 68) s m ([.ref (zB Z + 137)] : List Value).toArray below meth c H locs 0 0 (MQ below (pQi Z (fun r Z1 h1 => Z = Z1 ∧ Iv Z h1 ∧ agr [(137, 3), (137, 4), (137, 9), (137, 13), (137, 14), (137, 7), (137, 8), (137, 15), (137, 16), (139, 1000), (140, 1000), (141, 1000), (142, 1000), (137, 2), (138, 1000), (137, 0), (137, 18), (137, 19), (137, 20), (137, 22), (137, 21), (137, 23), (137, 40), (137, 48), (137, 56), (137, 58), (137, 70), (137, 71), (153, 1000), (137, 49), (137, 5), (137, 6), (137, 50), (137, 25), (137, 27), (137, 28), (137, 41), (137, 82), (154, 1000), (158, 1000), (159, 1000), (151, 1000), (145, 1000), (146, 1000)] h h1 ∧ (mE h1) ∧ (mS h1) ∧ (mK h1) ∧ ((h1 137 2).toInt ≤ (h 137 2).toInt) ∧ ((h1 137 25).toInt ≤ (h 137 25).toInt) ∧ ((h1 137 27).toInt ≤ (h 137 27).toInt) ∧ ((h1 137 82).toInt ≤ (h 137 82).toInt))) ([.ref (zB Z + 137)] : List Value).toArray s 0 0 (pA (zB Z))) (F0 m 70 ls []) := by
    intro n9
    induction n9 with
    | zero => intro x70_1 x70_2 hJ H locs ls V I A hl g_70_1 g_70_2 gd_70_2 gd_70_25 gd_70_27 gd_70_82 gd_70_56 gd_70_70 gd_70_58 E9 S9 K9 hm9; exact absurd hm9 (Nat.not_lt_zero _)
    | succ n9 ih_70 =>
      intro x70_1 x70_2 hJ H locs ls V I A hl g_70_1 g_70_2 gd_70_2 gd_70_25 gd_70_27 gd_70_82 gd_70_56 gd_70_70 gd_70_58 E9 S9 K9 hm9
      refine lv_iload_n hx hb dX12_begin_70 rfl (lv_at hl 2 rfl) ?_
      refine lv_bipush (v := 8) hx hb dX12_begin_71 (by decide) ?_
      refine lv_icmp_ge (tgt := 94) hx hb dX12_begin_73 (by decide) (fun c_73 => ?_) (fun c_73 => ?_)
      · skip
        have k_8 : (8 : Int32).toInt = 8 := rfl
        have c_73 := pi_le.mp c_73
        refine lv_iconst (v := 0) hx hb dX12_begin_94 (by decide) ?_
        refine lv_istore_n (lv' := [(2, .int (0 : Int32)), (0, .ref (zB Z + 137)), (1, .int x70_1)]) hx hb dX12_begin_95 rfl hl (by decide) rfl (fun ls hl => ?_)
        have k_0 : (0 : Int32).toInt = 0 := rfl
        exact J_96 _ x70_1 (0 : Int32) _ _ _ _ V I (A.wk (by decide)) (lv_sub hl [1, 2, 0] rfl) (by omega) (by omega) (show (h 137 2).toInt + (-64) ≤ (hJ 137 2).toInt ∧ (hJ 137 2).toInt ≤ (h 137 2).toInt + (0) by omega) (show (h 137 25).toInt + (0) ≤ (hJ 137 25).toInt ∧ (hJ 137 25).toInt ≤ (h 137 25).toInt + (0) by omega) (show (h 137 27).toInt + (0) ≤ (hJ 137 27).toInt ∧ (hJ 137 27).toInt ≤ (h 137 27).toInt + (0) by omega) (show (h 137 82).toInt + (0) ≤ (hJ 137 82).toInt ∧ (hJ 137 82).toInt ≤ (h 137 82).toInt + (0) by omega) (show (h 137 56).toInt + (0) ≤ (hJ 137 56).toInt ∧ (hJ 137 56).toInt ≤ (h 137 56).toInt + (0) by omega) (show (h 137 70).toInt + (0) ≤ (hJ 137 70).toInt ∧ (hJ 137 70).toInt ≤ (h 137 70).toInt + (0) by omega) (show (h 137 58).toInt + (0) ≤ (hJ 137 58).toInt ∧ (hJ 137 58).toInt ≤ (h 137 58).toInt + (0) by omega) (E9.congr rfl rfl) (S9.congr rfl rfl rfl rfl rfl rfl rfl) (K9.congr rfl rfl) (Nat.lt_succ_self _) 
      · skip
        have k_8 : (8 : Int32).toInt = 8 := rfl
        have c_73 := pi_le' c_73
        refine lv_aload_n hx hb dX12_begin_76 rfl (lv_at hl 0 rfl) ?_
        refine pg_r M V 12 44 (sm_this S) pC12 fk12_44 (sm_oldWindow S).2.2 lkF_X12_78 dX12_begin_77 ?_
        refine lv_iload_n hx hb dX12_begin_80 rfl (lv_at hl 2 rfl) ?_
        refine lv_aload_n hx hb dX12_begin_81 rfl (lv_at hl 0 rfl) ?_
        refine pg_r M V 12 42 (sm_this S) pC12 fk12_42 (sm_childWindow S).2.2 lkF_X12_72 dX12_begin_82 ?_
        refine lv_iload_n hx hb dX12_begin_85 rfl (lv_at hl 2 rfl) ?_
        refine pa_i M V (sm_childWindow S).1 (by rw [(sm_childWindow S).2.1]; exact pi_in (by omega)) dX12_begin_86 ?_
        refine lv_topi (fun v39 ev39 => ?_)
        refine ps_i M V (sm_oldWindow S).1 (by rw [(sm_oldWindow S).2.1]; exact pi_in (by omega)) dX12_begin_87 (fun H locs V => ?_)
        have A := A.upA (o := 158) (k := x70_2.toNatClampNeg) (v := v39) (by decide)
        have I := I.up (k := x70_2.toNatClampNeg) (v := v39) (sm_oldWindow S).1 (pi_full _)
        obtain ⟨v40, ev40⟩ : ∃ y : Int32, y = x70_2 + 1 := ⟨_, rfl⟩
        refine lv_iinc (v := v40) (lv' := [(2, .int v40), (0, .ref (zB Z + 137)), (1, .int x70_1)]) hx hb dX12_begin_88 hl (k := 2) rfl (by rw [ev40]; rfl) (by decide) rfl (fun ls hl => ?_)
        refine lv_goto (tgt := 70) hx hb dX12_begin_91 (by decide) ?_
        have k_1 : (1 : Int32).toInt = 1 := rfl
        have tv40 : v40.toInt = x70_2.toInt + 1 := by rw [ev40]; have z9 := pi_add (x := x70_2) (y := (1 : Int32)); rw [k_1] at z9; exact z9 (by omega)
        exact ih_70 x70_1 v40 _ _ _ _ V I (A.wk (by decide)) (lv_sub hl [1, 2, 0] rfl) (by omega) (by omega) (show (h 137 2).toInt + (-64) ≤ (hJ 137 2).toInt ∧ (hJ 137 2).toInt ≤ (h 137 2).toInt + (0) by omega) (show (h 137 25).toInt + (0) ≤ (hJ 137 25).toInt ∧ (hJ 137 25).toInt ≤ (h 137 25).toInt + (0) by omega) (show (h 137 27).toInt + (0) ≤ (hJ 137 27).toInt ∧ (hJ 137 27).toInt ≤ (h 137 27).toInt + (0) by omega) (show (h 137 82).toInt + (0) ≤ (hJ 137 82).toInt ∧ (hJ 137 82).toInt ≤ (h 137 82).toInt + (0) by omega) (show (h 137 56).toInt + (0) ≤ (hJ 137 56).toInt ∧ (hJ 137 56).toInt ≤ (h 137 56).toInt + (0) by omega) (show (h 137 70).toInt + (0) ≤ (hJ 137 70).toInt ∧ (hJ 137 70).toInt ≤ (h 137 70).toInt + (0) by omega) (show (h 137 58).toInt + (0) ≤ (hJ 137 58).toInt ∧ (hJ 137 58).toInt ≤ (h 137 58).toInt + (0) by omega) (E9.congr rfl rfl) (S9.congr rfl rfl rfl rfl rfl rfl rfl) (K9.congr rfl rfl) (by omega) 
  have J_29 : ∀ (n9 : Nat) (x29_1 : Int32) (x29_2 : Int32) (hJ : pH) (H : Heap) (locs : List Loc) (ls : Array Slot), pV Z hJ s.heap H locs → Iv Z hJ → agr [(137, 0), (137, 2), (137, 3), (137, 4), (137, 7), (137, 8), (137, 9), (137, 13), (137, 14), (137, 15), (137, 16), (137, 18), (138, 1000), (139, 1000), (140, 1000), (141, 1000), (142, 1000), (153, 1000), (154, 1000)] h hJ → lv_has ls 3 [(0, .ref (zB Z + 137)), (1, .int x29_1), (2, .int x29_2)] → (0 ≤ x29_1.toInt ∧ x29_1.toInt ≤ 64) → (0 ≤ x29_2.toInt ∧ x29_2.toInt ≤ 9) → ((h 137 2).toInt + (-64) ≤ (hJ 137 2).toInt ∧ (hJ 137 2).toInt ≤ (h 137 2).toInt + (0)) → ((h 137 25).toInt + (0) ≤ (hJ 137 25).toInt ∧ (hJ 137 25).toInt ≤ (h 137 25).toInt + (0)) → ((h 137 27).toInt + (0) ≤ (hJ 137 27).toInt ∧ (hJ 137 27).toInt ≤ (h 137 27).toInt + (0)) → ((h 137 82).toInt + (0) ≤ (hJ 137 82).toInt ∧ (hJ 137 82).toInt ≤ (h 137 82).toInt + (0)) → ((h 137 56).toInt + (0) ≤ (hJ 137 56).toInt ∧ (hJ 137 56).toInt ≤ (h 137 56).toInt + (0)) → ((h 137 70).toInt + (0) ≤ (hJ 137 70).toInt ∧ (hJ 137 70).toInt ≤ (h 137 70).toInt + (0)) → ((h 137 58).toInt + (0) ≤ (hJ 137 58).toInt ∧ (hJ 137 58).toInt ≤ (h 137 58).toInt + (0)) → mE hJ → mS hJ → mK hJ → (9 - x29_2.toInt).toNat < n9 → W p l e (pRm 3 0 0 68) s m ([.ref (zB Z + 137)] : List Value).toArray below meth c H locs 0 0 (MQ below (pQi Z (fun r Z1 h1 => Z = Z1 ∧ Iv Z h1 ∧ agr [(137, 3), (137, 4), (137, 9), (137, 13), (137, 14), (137, 7), (137, 8), (137, 15), (137, 16), (139, 1000), (140, 1000), (141, 1000), (142, 1000), (137, 2), (138, 1000), (137, 0), (137, 18), (137, 19), (137, 20), (137, 22), (137, 21), (137, 23), (137, 40), (137, 48), (137, 56), (137, 58), (137, 70), (137, 71), (153, 1000), (137, 49), (137, 5), (137, 6), (137, 50), (137, 25), (137, 27), (137, 28), (137, 41), (137, 82), (154, 1000), (158, 1000), (159, 1000), (151, 1000), (145, 1000), (146, 1000)] h h1 ∧ (mE h1) ∧ (mS h1) ∧ (mK h1) ∧ ((h1 137 2).toInt ≤ (h 137 2).toInt) ∧ ((h1 137 25).toInt ≤ (h 137 25).toInt) ∧ ((h1 137 27).toInt ≤ (h 137 27).toInt) ∧ ((h1 137 82).toInt ≤ (h 137 82).toInt))) ([.ref (zB Z + 137)] : List Value).toArray s 0 0 (pA (zB Z))) (F0 m 29 ls []) := by
    intro n9
    induction n9 with
    | zero => intro x29_1 x29_2 hJ H locs ls V I A hl g_29_1 g_29_2 gd_29_2 gd_29_25 gd_29_27 gd_29_82 gd_29_56 gd_29_70 gd_29_58 E9 S9 K9 hm9; exact absurd hm9 (Nat.not_lt_zero _)
    | succ n9 ih_29 =>
      intro x29_1 x29_2 hJ H locs ls V I A hl g_29_1 g_29_2 gd_29_2 gd_29_25 gd_29_27 gd_29_82 gd_29_56 gd_29_70 gd_29_58 E9 S9 K9 hm9
      refine lv_iload_n hx hb dX12_begin_29 rfl (lv_at hl 2 rfl) ?_
      refine lv_bipush (v := 9) hx hb dX12_begin_30 (by decide) ?_
      refine lv_icmp_ge (tgt := 60) hx hb dX12_begin_32 (by decide) (fun c_32 => ?_) (fun c_32 => ?_)
      · skip
        have k_9 : (9 : Int32).toInt = 9 := rfl
        have c_32 := pi_le.mp c_32
        refine lv_aload_n hx hb dX12_begin_60 rfl (lv_at hl 0 rfl) ?_
        refine lv_aload_n hx hb dX12_begin_61 rfl (lv_at hl 0 rfl) ?_
        refine pg_i M V 12 48 (sm_this S) pC12 fk12_48 lkF_X12_246 dX12_begin_62 ?_
        refine lv_topi (fun v41 ev41 => ?_)
        have tv41 : 0 ≤ v41.toInt ∧ v41.toInt ≤ 8 := by rw [ev41]; exact I.get (sm_this S) 48
        refine pp_i M V 12 49 (sm_this S) pC12 fk12_49 rfl lkF_X12_249 ⟨rfl, rfl⟩ dX12_begin_65 (fun H locs V => ?_)
        have A := A.wk (l3 := [(137, 0), (137, 2), (137, 3), (137, 4), (137, 7), (137, 8), (137, 9), (137, 13), (137, 14), (137, 15), (137, 16), (137, 18), (138, 1000), (139, 1000), (140, 1000), (141, 1000), (142, 1000), (153, 1000), (154, 1000), (137, 49)]) (by decide)
        have A := A.up (o := 137) (k := 49) (v := v41) (by decide)
        have I := I.up (k := 49) (v := v41) (sm_this S) (show (0 : Int) ≤ v41.toInt ∧ v41.toInt ≤ (8 : Int) by omega)
        refine lv_iconst (v := 0) hx hb dX12_begin_68 (by decide) ?_
        refine lv_istore_n (lv' := [(2, .int (0 : Int32)), (0, .ref (zB Z + 137)), (1, .int x29_1)]) hx hb dX12_begin_69 rfl hl (by decide) rfl (fun ls hl => ?_)
        have k_0 : (0 : Int32).toInt = 0 := rfl
        exact J_70 _ x29_1 (0 : Int32) _ _ _ _ V I (A.wk (by decide)) (lv_sub hl [1, 2, 0] rfl) (by omega) (by omega) (show (h 137 2).toInt + (-64) ≤ (hJ 137 2).toInt ∧ (hJ 137 2).toInt ≤ (h 137 2).toInt + (0) by omega) (show (h 137 25).toInt + (0) ≤ (hJ 137 25).toInt ∧ (hJ 137 25).toInt ≤ (h 137 25).toInt + (0) by omega) (show (h 137 27).toInt + (0) ≤ (hJ 137 27).toInt ∧ (hJ 137 27).toInt ≤ (h 137 27).toInt + (0) by omega) (show (h 137 82).toInt + (0) ≤ (hJ 137 82).toInt ∧ (hJ 137 82).toInt ≤ (h 137 82).toInt + (0) by omega) (show (h 137 56).toInt + (0) ≤ (hJ 137 56).toInt ∧ (hJ 137 56).toInt ≤ (h 137 56).toInt + (0) by omega) (show (h 137 70).toInt + (0) ≤ (hJ 137 70).toInt ∧ (hJ 137 70).toInt ≤ (h 137 70).toInt + (0) by omega) (show (h 137 58).toInt + (0) ≤ (hJ 137 58).toInt ∧ (hJ 137 58).toInt ≤ (h 137 58).toInt + (0) by omega) (E9.congr rfl rfl) (S9.congr rfl rfl rfl rfl rfl rfl rfl) (K9.congr rfl rfl) (Nat.lt_succ_self _) 
      · skip
        have k_9 : (9 : Int32).toInt = 9 := rfl
        have c_32 := pi_le' c_32
        refine lv_aload_n hx hb dX12_begin_35 rfl (lv_at hl 0 rfl) ?_
        refine pg_r M V 12 38 (sm_this S) pC12 fk12_38 (sm_before S).2.2 lkF_X12_63 dX12_begin_36 ?_
        refine lv_iload_n hx hb dX12_begin_39 rfl (lv_at hl 2 rfl) ?_
        refine lv_aload_n hx hb dX12_begin_40 rfl (lv_at hl 0 rfl) ?_
        refine pg_r M V 12 37 (sm_this S) pC12 fk12_37 (sm_here S).2.2 lkF_X12_60 dX12_begin_41 ?_
        refine lv_iload_n hx hb dX12_begin_44 rfl (lv_at hl 2 rfl) ?_
        refine pa_z M V (sm_here S).1 (by rw [(sm_here S).2.1]; exact pi_in (by omega)) dX12_begin_45 ?_
        refine lv_topi (fun v42 ev42 => ?_)
        have tv42 : 0 ≤ v42.toInt ∧ v42.toInt ≤ 1 := by rw [ev42]; exact I.get (sm_here S).1 _
        refine ps_z M V (sm_before S).1 (by rw [(sm_before S).2.1]; exact pi_in (by omega)) (pi_z (by omega)) dX12_begin_46 (fun H locs V => ?_)
        have A := A.upA (o := 154) (k := x29_2.toNatClampNeg) (v := v42) (by decide)
        have I := I.up (k := x29_2.toNatClampNeg) (v := v42) (sm_before S).1 (show (0 : Int) ≤ v42.toInt ∧ v42.toInt ≤ (1 : Int) by omega)
        refine lv_aload_n hx hb dX12_begin_47 rfl (lv_at hl 0 rfl) ?_
        refine pg_r M V 12 37 (sm_this S) pC12 fk12_37 (sm_here S).2.2 lkF_X12_60 dX12_begin_48 ?_
        refine lv_iload_n hx hb dX12_begin_51 rfl (lv_at hl 2 rfl) ?_
        refine lv_iconst (v := 0) hx hb dX12_begin_52 (by decide) ?_
        have k_0 : (0 : Int32).toInt = 0 := rfl
        refine ps_z M V (sm_here S).1 (by rw [(sm_here S).2.1]; exact pi_in (by omega)) (pi_z (by omega)) dX12_begin_53 (fun H locs V => ?_)
        have A := A.upA (o := 153) (k := x29_2.toNatClampNeg) (v := (0 : Int32)) (by decide)
        have I := I.up (k := x29_2.toNatClampNeg) (v := (0 : Int32)) (sm_here S).1 (show (0 : Int) ≤ (0 : Int32).toInt ∧ (0 : Int32).toInt ≤ (1 : Int) by omega)
        obtain ⟨v43, ev43⟩ : ∃ y : Int32, y = x29_2 + 1 := ⟨_, rfl⟩
        refine lv_iinc (v := v43) (lv' := [(2, .int v43), (0, .ref (zB Z + 137)), (1, .int x29_1)]) hx hb dX12_begin_54 hl (k := 2) rfl (by rw [ev43]; rfl) (by decide) rfl (fun ls hl => ?_)
        refine lv_goto (tgt := 29) hx hb dX12_begin_57 (by decide) ?_
        have k_1 : (1 : Int32).toInt = 1 := rfl
        have tv43 : v43.toInt = x29_2.toInt + 1 := by rw [ev43]; have z9 := pi_add (x := x29_2) (y := (1 : Int32)); rw [k_1] at z9; exact z9 (by omega)
        exact ih_29 x29_1 v43 _ _ _ _ V I (A.wk (by decide)) (lv_sub hl [1, 2, 0] rfl) (by omega) (by omega) (show (h 137 2).toInt + (-64) ≤ (hJ 137 2).toInt ∧ (hJ 137 2).toInt ≤ (h 137 2).toInt + (0) by omega) (show (h 137 25).toInt + (0) ≤ (hJ 137 25).toInt ∧ (hJ 137 25).toInt ≤ (h 137 25).toInt + (0) by omega) (show (h 137 27).toInt + (0) ≤ (hJ 137 27).toInt ∧ (hJ 137 27).toInt ≤ (h 137 27).toInt + (0) by omega) (show (h 137 82).toInt + (0) ≤ (hJ 137 82).toInt ∧ (hJ 137 82).toInt ≤ (h 137 82).toInt + (0) by omega) (show (h 137 56).toInt + (0) ≤ (hJ 137 56).toInt ∧ (hJ 137 56).toInt ≤ (h 137 56).toInt + (0) by omega) (show (h 137 70).toInt + (0) ≤ (hJ 137 70).toInt ∧ (hJ 137 70).toInt ≤ (h 137 70).toInt + (0) by omega) (show (h 137 58).toInt + (0) ≤ (hJ 137 58).toInt ∧ (hJ 137 58).toInt ≤ (h 137 58).toInt + (0) by omega) (E9.congr rfl rfl) (S9.congr rfl rfl rfl rfl rfl rfl rfl) (K9.congr rfl rfl) (by omega) 
  refine lv_aload_n hx hb dX12_begin_0 rfl (lv_at hl 0 rfl) ?_
  refine lv_iconst (v := 0) hx hb dX12_begin_1 (by decide) ?_
  refine pp_i M V 12 0 (sm_this S) pC12 fk12_0 rfl lkF_X12_175 ⟨rfl, rfl⟩ dX12_begin_2 (fun H locs V => ?_)
  have A := A.wk (l3 := [(137, 0)]) (by decide)
  have A := A.up (o := 137) (k := 0) (v := (0 : Int32)) (by decide)
  have I := I.up (k := 0) (v := (0 : Int32)) (sm_this S) (pi_full _)
  refine lv_aload_n hx hb dX12_begin_5 rfl (lv_at hl 0 rfl) ?_
  refine pg_i M V 12 18 (sm_this S) pC12 fk12_18 lkF_X12_236 dX12_begin_6 ?_
  refine lv_topi (fun v44 ev44 => ?_)
  have tv44 : 0 ≤ v44.toInt ∧ v44.toInt ≤ 1 := by rw [ev44]; exact I.get (sm_this S) 18
  refine lv_if_eq (tgt := 17) hx hb dX12_begin_9 (by decide) (fun c_9 => ?_) (fun c_9 => ?_)
  · skip
    have k_0 : (0 : Int32).toInt = 0 := rfl
    have c_9 := pi_eq.mp c_9
    refine lv_aload_n hx hb dX12_begin_17 rfl (lv_at hl 0 rfl) ?_
    refine pk_i (pr_V M V (m_X12_takeAll l S I  (E9.congr rfl rfl)) km_X12_takeAll (sm_this S) pC12 lkM_X12_243 rfl hl.1 rfl (Nat.le_of_ble_eq_true rfl) ⟨Nat.le_of_ble_eq_true rfl, Nat.le_of_ble_eq_true rfl⟩ ⟨Nat.le_of_ble_eq_true rfl, Nat.le_of_ble_eq_true rfl⟩ dX12_begin_18) V (fun r45 Zr45 hr45 H locs pr45 _ _ V => ?_)
    obtain ⟨rfl, I, pA_r45, fr45_0, fr45_1, fr45_2, fr45_3⟩ := pr45
    have fr45_0 : 0 ≤ r45.toInt ∧ r45.toInt ≤ (h 137 2).toInt := fr45_0
    have fr45_1 : (hr45 137 2).toInt ≤ (h 137 2).toInt ∧ 0 ≤ (hr45 137 2).toInt := fr45_1
    have fr45_3 : (h 137 2).toInt + (-64) ≤ (hr45 137 2).toInt ∧ (hr45 137 2).toInt ≤ (h 137 2).toInt + (0) := fr45_3
    have A := A.wk (l3 := [(137, 0), (137, 3), (137, 4), (137, 9), (137, 13), (137, 14), (137, 7), (137, 8), (137, 15), (137, 16), (139, 1000), (140, 1000), (141, 1000), (142, 1000), (137, 2), (138, 1000)]) (by decide)
    have A := A.tr pA_r45 (by decide)
    have E9 : mE hr45 := fr45_2
    have S9 : mS hr45 := S9.congr (pA_r45.get 137 56 (by decide)) (pA_r45.get 137 70 (by decide)) (pA_r45.get 137 58 (by decide)) (pA_r45.row 162 (by decide)) (pA_r45.row 163 (by decide)) (pA_r45.row 165 (by decide)) (pA_r45.row 166 (by decide))
    have K9 : mK hr45 := K9.congr (pA_r45.row 185 (by decide)) (pA_r45.row 184 (by decide))
    have w_r45_25 : (hr45 137 25).toInt = (h 137 25).toInt := congrArg Int32.toInt (pA_r45.get 137 25 (by decide))
    have w_r45_27 : (hr45 137 27).toInt = (h 137 27).toInt := congrArg Int32.toInt (pA_r45.get 137 27 (by decide))
    have w_r45_82 : (hr45 137 82).toInt = (h 137 82).toInt := congrArg Int32.toInt (pA_r45.get 137 82 (by decide))
    have w_r45_56 : (hr45 137 56).toInt = (h 137 56).toInt := congrArg Int32.toInt (pA_r45.get 137 56 (by decide))
    have w_r45_70 : (hr45 137 70).toInt = (h 137 70).toInt := congrArg Int32.toInt (pA_r45.get 137 70 (by decide))
    have w_r45_58 : (hr45 137 58).toInt = (h 137 58).toInt := congrArg Int32.toInt (pA_r45.get 137 58 (by decide))
    refine lv_istore_n (lv' := [(1, .int r45), (0, .ref (zB Z + 137))]) hx hb dX12_begin_21 rfl hl (by decide) rfl (fun ls hl => ?_)
    refine lv_aload_n hx hb dX12_begin_22 rfl (lv_at hl 1 rfl) ?_
    refine lv_iconst (v := 1) hx hb dX12_begin_23 (by decide) ?_
    have k_1 : (1 : Int32).toInt = 1 := rfl
    have z_24 : (1 : Int32) = 0 ∨ (1 : Int32) = 1 := pi_z (by omega)
    refine pp_i M V 12 18 (sm_this S) pC12 fk12_18 rfl lkF_X12_236 ⟨(pn_z z_24).1, (pn_z z_24).2.1⟩ dX12_begin_24 (fun H locs V => ?_)
    have A := A.wk (l3 := [(137, 0), (137, 3), (137, 4), (137, 9), (137, 13), (137, 14), (137, 7), (137, 8), (137, 15), (137, 16), (139, 1000), (140, 1000), (141, 1000), (142, 1000), (137, 2), (138, 1000), (137, 18)]) (by decide)
    have A := A.up (o := 137) (k := 18) (v := (1 : Int32)) (by decide)
    have I := I.up (k := 18) (v := (1 : Int32)) (sm_this S) (show (0 : Int) ≤ (1 : Int32).toInt ∧ (1 : Int32).toInt ≤ (1 : Int) by omega)
    refine lv_iconst (v := 0) hx hb dX12_begin_27 (by decide) ?_
    refine lv_istore_n (lv' := [(2, .int (0 : Int32)), (1, .int r45), (0, .ref (zB Z + 137))]) hx hb dX12_begin_28 rfl hl (by decide) rfl (fun ls hl => ?_)
    exact J_29 _ r45 (0 : Int32) _ _ _ _ V I (A.wk (by decide)) (lv_sub hl [2, 1, 0] rfl) (by omega) (by omega) (show (h 137 2).toInt + (-64) ≤ (hr45 137 2).toInt ∧ (hr45 137 2).toInt ≤ (h 137 2).toInt + (0) by omega) (show (h 137 25).toInt + (0) ≤ (hr45 137 25).toInt ∧ (hr45 137 25).toInt ≤ (h 137 25).toInt + (0) by omega) (show (h 137 27).toInt + (0) ≤ (hr45 137 27).toInt ∧ (hr45 137 27).toInt ≤ (h 137 27).toInt + (0) by omega) (show (h 137 82).toInt + (0) ≤ (hr45 137 82).toInt ∧ (hr45 137 82).toInt ≤ (h 137 82).toInt + (0) by omega) (show (h 137 56).toInt + (0) ≤ (hr45 137 56).toInt ∧ (hr45 137 56).toInt ≤ (h 137 56).toInt + (0) by omega) (show (h 137 70).toInt + (0) ≤ (hr45 137 70).toInt ∧ (hr45 137 70).toInt ≤ (h 137 70).toInt + (0) by omega) (show (h 137 58).toInt + (0) ≤ (hr45 137 58).toInt ∧ (hr45 137 58).toInt ≤ (h 137 58).toInt + (0) by omega) (E9.congr rfl rfl) (S9.congr rfl rfl rfl rfl rfl rfl rfl) (K9.congr rfl rfl) (Nat.lt_succ_self _) 
  · skip
    have k_0 : (0 : Int32).toInt = 0 := rfl
    have c_9 := pi_ne c_9
    refine lv_aload_n hx hb dX12_begin_12 rfl (lv_at hl 0 rfl) ?_
    refine pk_i (pr_V M V (m_X12_breaks l S I  ) km_X12_breaks (sm_this S) pC12 lkM_X12_239 rfl hl.1 rfl (Nat.le_of_ble_eq_true rfl) ⟨Nat.le_of_ble_eq_true rfl, Nat.le_of_ble_eq_true rfl⟩ ⟨Nat.le_of_ble_eq_true rfl, Nat.le_of_ble_eq_true rfl⟩ dX12_begin_13) V (fun r46 Zr46 hr46 H locs pr46 _ _ V => ?_)
    obtain ⟨rfl, I, pA_r46, fr46_0, fr46_1⟩ := pr46
    have A := A.wk (l3 := [(137, 0), (137, 18), (137, 19), (137, 20), (137, 22), (137, 21), (137, 23), (137, 40), (137, 48), (137, 56), (137, 58), (137, 70), (137, 71), (153, 1000)]) (by decide)
    have A := A.tr pA_r46 (by decide)
    have E9 : mE hr46 := E9.congr (pA_r46.get 137 2 (by decide)) (pA_r46.row 138 (by decide))
    have S9 : mS hr46 := fr46_1 (S9.congr rfl rfl rfl rfl rfl rfl rfl)
    have K9 : mK hr46 := K9.congr (pA_r46.row 185 (by decide)) (pA_r46.row 184 (by decide))
    have w_r46_2 : (hr46 137 2).toInt = (h 137 2).toInt := congrArg Int32.toInt (pA_r46.get 137 2 (by decide))
    have w_r46_25 : (hr46 137 25).toInt = (h 137 25).toInt := congrArg Int32.toInt (pA_r46.get 137 25 (by decide))
    have w_r46_27 : (hr46 137 27).toInt = (h 137 27).toInt := congrArg Int32.toInt (pA_r46.get 137 27 (by decide))
    have w_r46_82 : (hr46 137 82).toInt = (h 137 82).toInt := congrArg Int32.toInt (pA_r46.get 137 82 (by decide))
    exact pe_i M V rfl rfl hr hlk rfl ⟨rfl, I, A.wk (by decide), (E9.congr rfl rfl), (S9.congr rfl rfl rfl rfl rfl rfl rfl), (K9.congr rfl rfl), (show (hr46 137 2).toInt ≤ (h 137 2).toInt by omega), (show (hr46 137 25).toInt ≤ (h 137 25).toInt by omega), (show (hr46 137 27).toInt ≤ (h 137 27).toInt by omega), (show (hr46 137 82).toInt ≤ (h 137 82).toInt by omega)⟩ ⟨Nat.le_refl _, Nat.le_refl _⟩ dX12_begin_16
