theorem dX12_end_0 : decode cX12_end 0 = .ok (.aload_n 0, 1) := by decide +kernel
theorem dX12_end_1 : decode cX12_end 1 = .ok (.iconst 0, 1) := by decide +kernel
theorem dX12_end_2 : decode cX12_end 2 = .ok (.putfield 175, 3) := by decide +kernel
theorem dX12_end_5 : decode cX12_end 5 = .ok (.aload_n 0, 1) := by decide +kernel
theorem dX12_end_6 : decode cX12_end 6 = .ok (.getfield 236, 3) := by decide +kernel
theorem dX12_end_9 : decode cX12_end 9 = .ok (.ifCond .eq 10, 3) := by decide +kernel
theorem dX12_end_12 : decode cX12_end 12 = .ok (.aload_n 0, 1) := by decide +kernel
theorem dX12_end_13 : decode cX12_end 13 = .ok (.getfield 279, 3) := by decide +kernel
theorem dX12_end_16 : decode cX12_end 16 = .ok (.ifCond .le 8, 3) := by decide +kernel
theorem dX12_end_19 : decode cX12_end 19 = .ok (.aload_n 0, 1) := by decide +kernel
theorem dX12_end_20 : decode cX12_end 20 = .ok (.invokevirtual 239, 3) := by decide +kernel
theorem dX12_end_23 : decode cX12_end 23 = .ok (.ireturn, 1) := by decide +kernel
theorem dX12_end_24 : decode cX12_end 24 = .ok (.aload_n 0, 1) := by decide +kernel
theorem dX12_end_25 : decode cX12_end 25 = .ok (.getfield 17, 3) := by decide +kernel
theorem dX12_end_28 : decode cX12_end 28 = .ok (.iconst 0, 1) := by decide +kernel
theorem dX12_end_29 : decode cX12_end 29 = .ok (.baload, 1) := by decide +kernel
theorem dX12_end_30 : decode cX12_end 30 = .ok (.ifCond .eq 31, 3) := by decide +kernel
theorem dX12_end_33 : decode cX12_end 33 = .ok (.aload_n 0, 1) := by decide +kernel
theorem dX12_end_34 : decode cX12_end 34 = .ok (.getfield 273, 3) := by decide +kernel
theorem dX12_end_37 : decode cX12_end 37 = .ok (.ifCond .ne 24, 3) := by decide +kernel
theorem dX12_end_40 : decode cX12_end 40 = .ok (.aload_n 0, 1) := by decide +kernel
theorem dX12_end_41 : decode cX12_end 41 = .ok (.aload_n 0, 1) := by decide +kernel
theorem dX12_end_42 : decode cX12_end 42 = .ok (.getfield 270, 3) := by decide +kernel
theorem dX12_end_45 : decode cX12_end 45 = .ok (.ifCond .le 12, 3) := by decide +kernel
theorem dX12_end_48 : decode cX12_end 48 = .ok (.aload_n 0, 1) := by decide +kernel
theorem dX12_end_49 : decode cX12_end 49 = .ok (.getfield 33, 3) := by decide +kernel
theorem dX12_end_52 : decode cX12_end 52 = .ok (.iconst 0, 1) := by decide +kernel
theorem dX12_end_53 : decode cX12_end 53 = .ok (.iaload, 1) := by decide +kernel
theorem dX12_end_54 : decode cX12_end 54 = .ok (.goto 4, 3) := by decide +kernel
theorem dX12_end_57 : decode cX12_end 57 = .ok (.iconst 0, 1) := by decide +kernel
theorem dX12_end_58 : decode cX12_end 58 = .ok (.invokevirtual 300, 3) := by decide +kernel
theorem dX12_end_61 : decode cX12_end 61 = .ok (.aload_n 0, 1) := by decide +kernel
theorem dX12_end_62 : decode cX12_end 62 = .ok (.getfield 255, 3) := by decide +kernel
theorem dX12_end_65 : decode cX12_end 65 = .ok (.ifCond .eq 19, 3) := by decide +kernel
theorem dX12_end_68 : decode cX12_end 68 = .ok (.aload_n 0, 1) := by decide +kernel
theorem dX12_end_69 : decode cX12_end 69 = .ok (.aload_n 0, 1) := by decide +kernel
theorem dX12_end_70 : decode cX12_end 70 = .ok (.getfield 255, 3) := by decide +kernel
theorem dX12_end_73 : decode cX12_end 73 = .ok (.invokevirtual 304, 3) := by decide +kernel
theorem dX12_end_76 : decode cX12_end 76 = .ok (.ifCond .ne 8, 3) := by decide +kernel
theorem dX12_end_79 : decode cX12_end 79 = .ok (.aload_n 0, 1) := by decide +kernel
theorem dX12_end_80 : decode cX12_end 80 = .ok (.iconst 0, 1) := by decide +kernel
theorem dX12_end_81 : decode cX12_end 81 = .ok (.putfield 255, 3) := by decide +kernel
theorem dX12_end_84 : decode cX12_end 84 = .ok (.aload_n 0, 1) := by decide +kernel
theorem dX12_end_85 : decode cX12_end 85 = .ok (.getfield 294, 3) := by decide +kernel
theorem dX12_end_88 : decode cX12_end 88 = .ok (.ifCond .eq 19, 3) := by decide +kernel
theorem dX12_end_91 : decode cX12_end 91 = .ok (.aload_n 0, 1) := by decide +kernel
theorem dX12_end_92 : decode cX12_end 92 = .ok (.aload_n 0, 1) := by decide +kernel
theorem dX12_end_93 : decode cX12_end 93 = .ok (.getfield 294, 3) := by decide +kernel
theorem dX12_end_96 : decode cX12_end 96 = .ok (.invokevirtual 304, 3) := by decide +kernel
theorem dX12_end_99 : decode cX12_end 99 = .ok (.ifCond .ne 8, 3) := by decide +kernel
theorem dX12_end_102 : decode cX12_end 102 = .ok (.aload_n 0, 1) := by decide +kernel
theorem dX12_end_103 : decode cX12_end 103 = .ok (.iconst 0, 1) := by decide +kernel
theorem dX12_end_104 : decode cX12_end 104 = .ok (.invokevirtual 300, 3) := by decide +kernel
theorem dX12_end_107 : decode cX12_end 107 = .ok (.aload_n 0, 1) := by decide +kernel
theorem dX12_end_108 : decode cX12_end 108 = .ok (.getfield 60, 3) := by decide +kernel
theorem dX12_end_111 : decode cX12_end 111 = .ok (.bipush 8, 2) := by decide +kernel
theorem dX12_end_113 : decode cX12_end 113 = .ok (.baload, 1) := by decide +kernel
theorem dX12_end_114 : decode cX12_end 114 = .ok (.ifCond .ne 15, 3) := by decide +kernel
theorem dX12_end_117 : decode cX12_end 117 = .ok (.aload_n 0, 1) := by decide +kernel
theorem dX12_end_118 : decode cX12_end 118 = .ok (.getfield 276, 3) := by decide +kernel
theorem dX12_end_121 : decode cX12_end 121 = .ok (.ifCond .ne 8, 3) := by decide +kernel
theorem dX12_end_124 : decode cX12_end 124 = .ok (.aload_n 0, 1) := by decide +kernel
theorem dX12_end_125 : decode cX12_end 125 = .ok (.iconst (-1), 1) := by decide +kernel
theorem dX12_end_126 : decode cX12_end 126 = .ok (.putfield 69, 3) := by decide +kernel
theorem dX12_end_129 : decode cX12_end 129 = .ok (.aload_n 0, 1) := by decide +kernel
theorem dX12_end_130 : decode cX12_end 130 = .ok (.iconst 0, 1) := by decide +kernel
theorem dX12_end_131 : decode cX12_end 131 = .ok (.putfield 236, 3) := by decide +kernel
theorem dX12_end_134 : decode cX12_end 134 = .ok (.aload_n 0, 1) := by decide +kernel
theorem dX12_end_135 : decode cX12_end 135 = .ok (.iconst 0, 1) := by decide +kernel
theorem dX12_end_136 : decode cX12_end 136 = .ok (.putfield 307, 3) := by decide +kernel
theorem dX12_end_139 : decode cX12_end 139 = .ok (.iconst 0, 1) := by decide +kernel
theorem dX12_end_140 : decode cX12_end 140 = .ok (.istore_n 1, 1) := by decide +kernel
theorem dX12_end_141 : decode cX12_end 141 = .ok (.iload_n 1, 1) := by decide +kernel
theorem dX12_end_142 : decode cX12_end 142 = .ok (.bipush 9, 2) := by decide +kernel
theorem dX12_end_144 : decode cX12_end 144 = .ok (.if_icmp .ge 58, 3) := by decide +kernel
theorem dX12_end_147 : decode cX12_end 147 = .ok (.iconst 0, 1) := by decide +kernel
theorem dX12_end_148 : decode cX12_end 148 = .ok (.istore_n 2, 1) := by decide +kernel
theorem dX12_end_149 : decode cX12_end 149 = .ok (.iload_n 2, 1) := by decide +kernel
theorem dX12_end_150 : decode cX12_end 150 = .ok (.bipush 9, 2) := by decide +kernel
theorem dX12_end_152 : decode cX12_end 152 = .ok (.if_icmp .ge 44, 3) := by decide +kernel
theorem dX12_end_155 : decode cX12_end 155 = .ok (.aload_n 0, 1) := by decide +kernel
theorem dX12_end_156 : decode cX12_end 156 = .ok (.getfield 60, 3) := by decide +kernel
theorem dX12_end_159 : decode cX12_end 159 = .ok (.iload_n 2, 1) := by decide +kernel
theorem dX12_end_160 : decode cX12_end 160 = .ok (.baload, 1) := by decide +kernel
theorem dX12_end_161 : decode cX12_end 161 = .ok (.ifCond .eq 29, 3) := by decide +kernel
theorem dX12_end_164 : decode cX12_end 164 = .ok (.iload_n 2, 1) := by decide +kernel
theorem dX12_end_165 : decode cX12_end 165 = .ok (.bipush 8, 2) := by decide +kernel
theorem dX12_end_167 : decode cX12_end 167 = .ok (.if_icmp .ne 8, 3) := by decide +kernel
theorem dX12_end_170 : decode cX12_end 170 = .ok (.bipush 8, 2) := by decide +kernel
theorem dX12_end_172 : decode cX12_end 172 = .ok (.goto 9, 3) := by decide +kernel
theorem dX12_end_175 : decode cX12_end 175 = .ok (.aload_n 0, 1) := by decide +kernel
theorem dX12_end_176 : decode cX12_end 176 = .ok (.getfield 54, 3) := by decide +kernel
theorem dX12_end_179 : decode cX12_end 179 = .ok (.iload_n 2, 1) := by decide +kernel
theorem dX12_end_180 : decode cX12_end 180 = .ok (.iaload, 1) := by decide +kernel
theorem dX12_end_181 : decode cX12_end 181 = .ok (.iload_n 1, 1) := by decide +kernel
theorem dX12_end_182 : decode cX12_end 182 = .ok (.if_icmp .ne 8, 3) := by decide +kernel
theorem dX12_end_185 : decode cX12_end 185 = .ok (.aload_n 0, 1) := by decide +kernel
theorem dX12_end_186 : decode cX12_end 186 = .ok (.iload_n 2, 1) := by decide +kernel
theorem dX12_end_187 : decode cX12_end 187 = .ok (.invokevirtual 310, 3) := by decide +kernel
theorem dX12_end_190 : decode cX12_end 190 = .ok (.iinc 2 1, 3) := by decide +kernel
theorem dX12_end_193 : decode cX12_end 193 = .ok (.goto (-44), 3) := by decide +kernel
theorem dX12_end_196 : decode cX12_end 196 = .ok (.iinc 1 1, 3) := by decide +kernel
theorem dX12_end_199 : decode cX12_end 199 = .ok (.goto (-58), 3) := by decide +kernel
theorem dX12_end_202 : decode cX12_end 202 = .ok (.aload_n 0, 1) := by decide +kernel
theorem dX12_end_203 : decode cX12_end 203 = .ok (.iconst 0, 1) := by decide +kernel
theorem dX12_end_204 : decode cX12_end 204 = .ok (.invokevirtual 313, 3) := by decide +kernel
theorem dX12_end_207 : decode cX12_end 207 = .ok (.ireturn, 1) := by decide +kernel
set_option maxHeartbeats 4000000 in
set_option maxRecDepth 100000 in
theorem m_X12_end (l : Launch) {Z : pZ} (S : pSh Z) {h : pH} (I : Iv Z h) (E9 : mE h) (S9 : mS h) (K9 : mK h) : pMet l yX12_end cX12_end 3 (some .int) 2 0 0 47 Z h [.ref (zB Z + 137)] (pQi Z (fun r Z1 h1 => Z = Z1 ∧ Iv Z h1 ∧ agr [(137, 0), (137, 18), (137, 19), (137, 20), (137, 22), (137, 21), (137, 23), (137, 40), (137, 48), (137, 56), (137, 58), (137, 70), (137, 71), (153, 1000), (137, 83), (187, 1000), (137, 84), (137, 85), (137, 86), (137, 87)] h h1 ∧ (mE h1) ∧ (mS h1) ∧ (mK h1) ∧ ((h1 137 83).toInt ≤ (h 137 82).toInt ∨ (h1 137 83).toInt = (h 137 83).toInt))) := by
  refine pOfW (lv := [(0, .ref (zB Z + 137))]) (by decide) (Nat.le_of_ble_eq_true rfl) rfl ?_
  intro p e s m below meth c ls M hr hlk hnm V hl
  have hx := M.1.1
  have hb := M.1.2.1
  have A : agr [] h h := agr.rf
  have i_56 : 0 ≤ (h 137 56).toInt ∧ (h 137 56).toInt ≤ 40 := I.get (sm_this S) 56
  have i_70 : 0 ≤ (h 137 70).toInt ∧ (h 137 70).toInt ≤ 40 := I.get (sm_this S) 70
  have i_58 : 0 ≤ (h 137 58).toInt ∧ (h 137 58).toInt ≤ 40 := I.get (sm_this S) 58
  have i_25 : 0 ≤ (h 137 25).toInt ∧ (h 137 25).toInt ≤ 600 := I.get (sm_this S) 25
  have i_27 : 0 ≤ (h 137 27).toInt ∧ (h 137 27).toInt ≤ 600 := I.get (sm_this S) 27
  have i_82 : 0 ≤ (h 137 82).toInt ∧ (h 137 82).toInt ≤ 7000 := I.get (sm_this S) 82
  have i_83 : 0 ≤ (h 137 83).toInt ∧ (h 137 83).toInt ≤ 7000 := I.get (sm_this S) 83
  have i_2 : 0 ≤ (h 137 2).toInt ∧ (h 137 2).toInt ≤ 64 := I.get (sm_this S) 2
  have n9 := S9.num
  have J_141 : ∀ (n9 : Nat) (x141_1 : Int32) (hJ : pH) (H : Heap) (locs : List Loc) (ls : Array Slot), pV Z hJ s.heap H locs → Iv Z hJ → agr [(137, 0), (137, 18), (137, 19), (137, 21), (137, 22), (137, 40), (137, 83), (187, 1000)] h hJ → lv_has ls 3 [(0, .ref (zB Z + 137)), (1, .int x141_1)] → (0 ≤ x141_1.toInt ∧ x141_1.toInt ≤ 9) → ((h 137 56).toInt + (0) ≤ (hJ 137 56).toInt ∧ (hJ 137 56).toInt ≤ (h 137 56).toInt + (0)) → ((h 137 70).toInt + (0) ≤ (hJ 137 70).toInt ∧ (hJ 137 70).toInt ≤ (h 137 70).toInt + (0)) → ((h 137 58).toInt + (0) ≤ (hJ 137 58).toInt ∧ (hJ 137 58).toInt ≤ (h 137 58).toInt + (0)) → ((h 137 25).toInt + (0) ≤ (hJ 137 25).toInt ∧ (hJ 137 25).toInt ≤ (h 137 25).toInt + (0)) → ((h 137 27).toInt + (0) ≤ (hJ 137 27).toInt ∧ (hJ 137 27).toInt ≤ (h 137 27).toInt + (0)) → ((h 137 82).toInt + (0) ≤ (hJ 137 82).toInt ∧ (hJ 137 82).toInt ≤ (h 137 82).toInt + (0)) → ((h 137 2).toInt + (0) ≤ (hJ 137 2).toInt ∧ (hJ 137 2).toInt ≤ (h 137 2).toInt + (0)) → ((hJ 137 83).toInt ≤ sumE h x141_1.toInt (0 : Int32).toNatClampNeg) → mE hJ → mS hJ → mK hJ → (9 - x141_1.toInt).toNat < n9 → W p l e (pRm 2 0 0 47) s m ([.ref (zB Z + 137)] : List Value).toArray below meth c H locs 0 0 (MQ below (pQi Z (fun r Z1 h1 => Z = Z1 ∧ Iv Z h1 ∧ agr [(137, 0), (137, 18), (137, 19), (137, 20), (137, 22), (137, 21), (137, 23), (137, 40), (137, 48), (137, 56), (137, 58), (137, 70), (137, 71), (153, 1000), (137, 83), (187, 1000), (137, 84), (137, 85), (137, 86), (137, 87)] h h1 ∧ (mE h1) ∧ (mS h1) ∧ (mK h1) ∧ ((h1 137 83).toInt ≤ (h 137 82).toInt ∨ (h1 137 83).toInt = (h 137 83).toInt))) ([.ref (zB Z + 137)] : List Value).toArray s 0 0 (pA (zB Z))) (F0 m 141 ls []) := by
    intro n9
    induction n9 with
    | zero => intro x141_1 hJ H locs ls V I A hl g_141_1 gd_141_56 gd_141_70 gd_141_58 gd_141_25 gd_141_27 gd_141_82 gd_141_2 e141 E9 S9 K9 hm9; exact absurd hm9 (Nat.not_lt_zero _)
    | succ n9 ih_141 =>
      intro x141_1 hJ H locs ls V I A hl g_141_1 gd_141_56 gd_141_70 gd_141_58 gd_141_25 gd_141_27 gd_141_82 gd_141_2 e141 E9 S9 K9 hm9
      have J_149 : ∀ (n9 : Nat) (x149_2 : Int32) (hJ : pH) (H : Heap) (locs : List Loc) (ls : Array Slot), pV Z hJ s.heap H locs → Iv Z hJ → agr [(137, 0), (137, 18), (137, 19), (137, 21), (137, 22), (137, 40), (137, 83), (187, 1000)] h hJ → lv_has ls 3 [(0, .ref (zB Z + 137)), (1, .int x141_1), (2, .int x149_2)] → (0 ≤ x141_1.toInt ∧ x141_1.toInt ≤ 8) → (0 ≤ x149_2.toInt ∧ x149_2.toInt ≤ 9) → ((h 137 56).toInt + (0) ≤ (hJ 137 56).toInt ∧ (hJ 137 56).toInt ≤ (h 137 56).toInt + (0)) → ((h 137 70).toInt + (0) ≤ (hJ 137 70).toInt ∧ (hJ 137 70).toInt ≤ (h 137 70).toInt + (0)) → ((h 137 58).toInt + (0) ≤ (hJ 137 58).toInt ∧ (hJ 137 58).toInt ≤ (h 137 58).toInt + (0)) → ((h 137 25).toInt + (0) ≤ (hJ 137 25).toInt ∧ (hJ 137 25).toInt ≤ (h 137 25).toInt + (0)) → ((h 137 27).toInt + (0) ≤ (hJ 137 27).toInt ∧ (hJ 137 27).toInt ≤ (h 137 27).toInt + (0)) → ((h 137 82).toInt + (0) ≤ (hJ 137 82).toInt ∧ (hJ 137 82).toInt ≤ (h 137 82).toInt + (0)) → ((h 137 2).toInt + (0) ≤ (hJ 137 2).toInt ∧ (hJ 137 2).toInt ≤ (h 137 2).toInt + (0)) → ((hJ 137 83).toInt ≤ sumE h x141_1.toInt x149_2.toNatClampNeg) → mE hJ → mS hJ → mK hJ → (9 - x149_2.toInt).toNat < n9 → W p l e (pRm 2 0 0 47) s m ([.ref (zB Z + 137)] : List Value).toArray below meth c H locs 0 0 (MQ below (pQi Z (fun r Z1 h1 => Z = Z1 ∧ Iv Z h1 ∧ agr [(137, 0), (137, 18), (137, 19), (137, 20), (137, 22), (137, 21), (137, 23), (137, 40), (137, 48), (137, 56), (137, 58), (137, 70), (137, 71), (153, 1000), (137, 83), (187, 1000), (137, 84), (137, 85), (137, 86), (137, 87)] h h1 ∧ (mE h1) ∧ (mS h1) ∧ (mK h1) ∧ ((h1 137 83).toInt ≤ (h 137 82).toInt ∨ (h1 137 83).toInt = (h 137 83).toInt))) ([.ref (zB Z + 137)] : List Value).toArray s 0 0 (pA (zB Z))) (F0 m 149 ls []) := by
        intro n9
        induction n9 with
        | zero => intro x149_2 hJ H locs ls V I A hl g_149_1 g_149_2 gd_149_56 gd_149_70 gd_149_58 gd_149_25 gd_149_27 gd_149_82 gd_149_2 e149 E9 S9 K9 hm9; exact absurd hm9 (Nat.not_lt_zero _)
        | succ n9 ih_149 =>
          intro x149_2 hJ H locs ls V I A hl g_149_1 g_149_2 gd_149_56 gd_149_70 gd_149_58 gd_149_25 gd_149_27 gd_149_82 gd_149_2 e149 E9 S9 K9 hm9
          have J_190 : ∀ (hJ : pH) (H : Heap) (locs : List Loc) (ls : Array Slot), pV Z hJ s.heap H locs → Iv Z hJ → agr [(137, 0), (137, 18), (137, 19), (137, 21), (137, 22), (137, 40), (137, 83), (187, 1000)] h hJ → lv_has ls 3 [(0, .ref (zB Z + 137)), (1, .int x141_1), (2, .int x149_2)] → (0 ≤ x141_1.toInt ∧ x141_1.toInt ≤ 8) → (0 ≤ x149_2.toInt ∧ x149_2.toInt ≤ 8) → ((h 137 56).toInt + (0) ≤ (hJ 137 56).toInt ∧ (hJ 137 56).toInt ≤ (h 137 56).toInt + (0)) → ((h 137 70).toInt + (0) ≤ (hJ 137 70).toInt ∧ (hJ 137 70).toInt ≤ (h 137 70).toInt + (0)) → ((h 137 58).toInt + (0) ≤ (hJ 137 58).toInt ∧ (hJ 137 58).toInt ≤ (h 137 58).toInt + (0)) → ((h 137 25).toInt + (0) ≤ (hJ 137 25).toInt ∧ (hJ 137 25).toInt ≤ (h 137 25).toInt + (0)) → ((h 137 27).toInt + (0) ≤ (hJ 137 27).toInt ∧ (hJ 137 27).toInt ≤ (h 137 27).toInt + (0)) → ((h 137 82).toInt + (0) ≤ (hJ 137 82).toInt ∧ (hJ 137 82).toInt ≤ (h 137 82).toInt + (0)) → ((h 137 2).toInt + (0) ≤ (hJ 137 2).toInt ∧ (hJ 137 2).toInt ≤ (h 137 2).toInt + (0)) → ((hJ 137 83).toInt ≤ sumE h x141_1.toInt (x149_2.toNatClampNeg + 1)) → (x149_2.toInt ≤ 8) → mE hJ → mS hJ → mK hJ → W p l e (pRm 2 0 0 47) s m ([.ref (zB Z + 137)] : List Value).toArray below meth c H locs 0 0 (MQ below (pQi Z (fun r Z1 h1 => Z = Z1 ∧ Iv Z h1 ∧ agr [(137, 0), (137, 18), (137, 19), (137, 20), (137, 22), (137, 21), (137, 23), (137, 40), (137, 48), (137, 56), (137, 58), (137, 70), (137, 71), (153, 1000), (137, 83), (187, 1000), (137, 84), (137, 85), (137, 86), (137, 87)] h h1 ∧ (mE h1) ∧ (mS h1) ∧ (mK h1) ∧ ((h1 137 83).toInt ≤ (h 137 82).toInt ∨ (h1 137 83).toInt = (h 137 83).toInt))) ([.ref (zB Z + 137)] : List Value).toArray s 0 0 (pA (zB Z))) (F0 m 190 ls []) := by
            intro hJ H locs ls V I A hl g_190_1 g_190_2 gd_190_56 gd_190_70 gd_190_58 gd_190_25 gd_190_27 gd_190_82 gd_190_2 e190 b190 E9 S9 K9
            obtain ⟨v1, ev1⟩ : ∃ y : Int32, y = x149_2 + 1 := ⟨_, rfl⟩
            refine lv_iinc (v := v1) (lv' := [(2, .int v1), (0, .ref (zB Z + 137)), (1, .int x141_1)]) hx hb dX12_end_190 hl (k := 2) rfl (by rw [ev1]; rfl) (by decide) rfl (fun ls hl => ?_)
            refine lv_goto (tgt := 149) hx hb dX12_end_193 (by decide) ?_
            have k_1 : (1 : Int32).toInt = 1 := rfl
            have tv1 : v1.toInt = x149_2.toInt + 1 := by rw [ev1]; have z9 := pi_add (x := x149_2) (y := (1 : Int32)); rw [k_1] at z9; exact z9 (by omega)
            exact ih_149 v1 _ _ _ _ V I (A.wk (by decide)) (lv_sub hl [1, 2, 0] rfl) (by omega) (by omega) (show (h 137 56).toInt + (0) ≤ (hJ 137 56).toInt ∧ (hJ 137 56).toInt ≤ (h 137 56).toInt + (0) by omega) (show (h 137 70).toInt + (0) ≤ (hJ 137 70).toInt ∧ (hJ 137 70).toInt ≤ (h 137 70).toInt + (0) by omega) (show (h 137 58).toInt + (0) ≤ (hJ 137 58).toInt ∧ (hJ 137 58).toInt ≤ (h 137 58).toInt + (0) by omega) (show (h 137 25).toInt + (0) ≤ (hJ 137 25).toInt ∧ (hJ 137 25).toInt ≤ (h 137 25).toInt + (0) by omega) (show (h 137 27).toInt + (0) ≤ (hJ 137 27).toInt ∧ (hJ 137 27).toInt ≤ (h 137 27).toInt + (0) by omega) (show (h 137 82).toInt + (0) ≤ (hJ 137 82).toInt ∧ (hJ 137 82).toInt ≤ (h 137 82).toInt + (0) by omega) (show (h 137 2).toInt + (0) ≤ (hJ 137 2).toInt ∧ (hJ 137 2).toInt ≤ (h 137 2).toInt + (0) by omega) (show (hJ 137 83).toInt ≤ sumE h x141_1.toInt v1.toNatClampNeg by rw [clamp_s (q := x149_2) (by omega) (by omega)]; have z9 := e190; omega) (E9.congr rfl rfl) (S9.congr rfl rfl rfl rfl rfl rfl rfl) (K9.congr rfl rfl) (by omega) 
          refine lv_iload_n hx hb dX12_end_149 rfl (lv_at hl 2 rfl) ?_
          refine lv_bipush (v := 9) hx hb dX12_end_150 (by decide) ?_
          refine lv_icmp_ge (tgt := 196) hx hb dX12_end_152 (by decide) (fun c_152 => ?_) (fun c_152 => ?_)
          · skip
            have k_9 : (9 : Int32).toInt = 9 := rfl
            have c_152 := pi_le.mp c_152
            obtain ⟨v2, ev2⟩ : ∃ y : Int32, y = x141_1 + 1 := ⟨_, rfl⟩
            refine lv_iinc (v := v2) (lv' := [(1, .int v2), (0, .ref (zB Z + 137)), (2, .int x149_2)]) hx hb dX12_end_196 hl (k := 1) rfl (by rw [ev2]; rfl) (by decide) rfl (fun ls hl => ?_)
            refine lv_goto (tgt := 141) hx hb dX12_end_199 (by decide) ?_
            have k_1 : (1 : Int32).toInt = 1 := rfl
            have tv2 : v2.toInt = x141_1.toInt + 1 := by rw [ev2]; have z9 := pi_add (x := x141_1) (y := (1 : Int32)); rw [k_1] at z9; exact z9 (by omega)
            exact ih_141 v2 _ _ _ _ V I (A.wk (by decide)) (lv_sub hl [1, 0] rfl) (by omega) (show (h 137 56).toInt + (0) ≤ (hJ 137 56).toInt ∧ (hJ 137 56).toInt ≤ (h 137 56).toInt + (0) by omega) (show (h 137 70).toInt + (0) ≤ (hJ 137 70).toInt ∧ (hJ 137 70).toInt ≤ (h 137 70).toInt + (0) by omega) (show (h 137 58).toInt + (0) ≤ (hJ 137 58).toInt ∧ (hJ 137 58).toInt ≤ (h 137 58).toInt + (0) by omega) (show (h 137 25).toInt + (0) ≤ (hJ 137 25).toInt ∧ (hJ 137 25).toInt ≤ (h 137 25).toInt + (0) by omega) (show (h 137 27).toInt + (0) ≤ (hJ 137 27).toInt ∧ (hJ 137 27).toInt ≤ (h 137 27).toInt + (0) by omega) (show (h 137 82).toInt + (0) ≤ (hJ 137 82).toInt ∧ (hJ 137 82).toInt ≤ (h 137 82).toInt + (0) by omega) (show (h 137 2).toInt + (0) ≤ (hJ 137 2).toInt ∧ (hJ 137 2).toInt ≤ (h 137 2).toInt + (0) by omega) (show (hJ 137 83).toInt ≤ sumE h v2.toInt (0 : Int32).toNatClampNeg by rw [tv2]; refine Int.le_trans ?_ (sumE_k h x141_1.toInt); rw [show (9 : Nat) = x149_2.toNatClampNeg from by have c2 := pi_cl (x := x149_2) (by omega); omega]; have z9 := e149; omega) (E9.congr rfl rfl) (S9.congr rfl rfl rfl rfl rfl rfl rfl) (K9.congr rfl rfl) (by omega) 
          · skip
            have k_9 : (9 : Int32).toInt = 9 := rfl
            have c_152 := pi_le' c_152
            refine lv_aload_n hx hb dX12_end_155 rfl (lv_at hl 0 rfl) ?_
            refine pg_r M V 12 37 (sm_this S) pC12 fk12_37 (sm_here S).2.2 lkF_X12_60 dX12_end_156 ?_
            refine lv_iload_n hx hb dX12_end_159 rfl (lv_at hl 2 rfl) ?_
            refine pa_z M V (sm_here S).1 (by rw [(sm_here S).2.1]; exact pi_in (by omega)) dX12_end_160 ?_
            refine lv_topi (fun v3 ev3 => ?_)
            have tv3 : 0 ≤ v3.toInt ∧ v3.toInt ≤ 1 := by rw [ev3]; exact I.get (sm_here S).1 _
            refine lv_if_eq (tgt := 190) hx hb dX12_end_161 (by decide) (fun c_161 => ?_) (fun c_161 => ?_)
            · skip
              have k_0 : (0 : Int32).toInt = 0 := rfl
              have c_161 := pi_eq.mp c_161
              exact J_190 _ _ _ _ V I (A.wk (by decide)) (lv_sub hl [0, 1, 2] rfl) (by omega) (by omega) (show (h 137 56).toInt + (0) ≤ (hJ 137 56).toInt ∧ (hJ 137 56).toInt ≤ (h 137 56).toInt + (0) by omega) (show (h 137 70).toInt + (0) ≤ (hJ 137 70).toInt ∧ (hJ 137 70).toInt ≤ (h 137 70).toInt + (0) by omega) (show (h 137 58).toInt + (0) ≤ (hJ 137 58).toInt ∧ (hJ 137 58).toInt ≤ (h 137 58).toInt + (0) by omega) (show (h 137 25).toInt + (0) ≤ (hJ 137 25).toInt ∧ (hJ 137 25).toInt ≤ (h 137 25).toInt + (0) by omega) (show (h 137 27).toInt + (0) ≤ (hJ 137 27).toInt ∧ (hJ 137 27).toInt ≤ (h 137 27).toInt + (0) by omega) (show (h 137 82).toInt + (0) ≤ (hJ 137 82).toInt ∧ (hJ 137 82).toInt ≤ (h 137 82).toInt + (0) by omega) (show (h 137 2).toInt + (0) ≤ (hJ 137 2).toInt ∧ (hJ 137 2).toInt ≤ (h 137 2).toInt + (0) by omega) (show (hJ 137 83).toInt ≤ sumE h x141_1.toInt (x149_2.toNatClampNeg + 1) by have z8 := sumE_w h x141_1.toInt x149_2.toNatClampNeg; have z7 := e149; omega) (by omega) (E9.congr rfl rfl) (S9.congr rfl rfl rfl rfl rfl rfl rfl) (K9.congr rfl rfl) 
            · skip
              have k_0 : (0 : Int32).toInt = 0 := rfl
              have c_161 := pi_ne c_161
              refine lv_iload_n hx hb dX12_end_164 rfl (lv_at hl 2 rfl) ?_
              refine lv_bipush (v := 8) hx hb dX12_end_165 (by decide) ?_
              refine lv_icmp_ne (tgt := 175) hx hb dX12_end_167 (by decide) (fun c_167 => ?_) (fun c_167 => ?_)
              · skip
                have k_8 : (8 : Int32).toInt = 8 := rfl
                have c_167 := pi_ne c_167
                refine lv_aload_n hx hb dX12_end_175 rfl (lv_at hl 0 rfl) ?_
                refine pg_r M V 12 35 (sm_this S) pC12 fk12_35 (sm_rank S).2.2 lkF_X12_54 dX12_end_176 ?_
                refine lv_iload_n hx hb dX12_end_179 rfl (lv_at hl 2 rfl) ?_
                refine pa_i M V (sm_rank S).1 (by rw [(sm_rank S).2.1]; exact pi_in (by omega)) dX12_end_180 ?_
                refine lv_topi (fun v4 ev4 => ?_)
                refine lv_iload_n hx hb dX12_end_181 rfl (lv_at hl 1 rfl) ?_
                refine lv_icmp_ne (tgt := 190) hx hb dX12_end_182 (by decide) (fun c_182 => ?_) (fun c_182 => ?_)
                · skip
                  have c_182 := pi_ne c_182
                  exact J_190 _ _ _ _ V I (A.wk (by decide)) (lv_sub hl [0, 1, 2] rfl) (by omega) (by omega) (show (h 137 56).toInt + (0) ≤ (hJ 137 56).toInt ∧ (hJ 137 56).toInt ≤ (h 137 56).toInt + (0) by omega) (show (h 137 70).toInt + (0) ≤ (hJ 137 70).toInt ∧ (hJ 137 70).toInt ≤ (h 137 70).toInt + (0) by omega) (show (h 137 58).toInt + (0) ≤ (hJ 137 58).toInt ∧ (hJ 137 58).toInt ≤ (h 137 58).toInt + (0) by omega) (show (h 137 25).toInt + (0) ≤ (hJ 137 25).toInt ∧ (hJ 137 25).toInt ≤ (h 137 25).toInt + (0) by omega) (show (h 137 27).toInt + (0) ≤ (hJ 137 27).toInt ∧ (hJ 137 27).toInt ≤ (h 137 27).toInt + (0) by omega) (show (h 137 82).toInt + (0) ≤ (hJ 137 82).toInt ∧ (hJ 137 82).toInt ≤ (h 137 82).toInt + (0) by omega) (show (h 137 2).toInt + (0) ≤ (hJ 137 2).toInt ∧ (hJ 137 2).toInt ≤ (h 137 2).toInt + (0) by omega) (show (hJ 137 83).toInt ≤ sumE h x141_1.toInt (x149_2.toNatClampNeg + 1) by have z8 := sumE_w h x141_1.toInt x149_2.toNatClampNeg; have z7 := e149; omega) (by omega) (E9.congr rfl rfl) (S9.congr rfl rfl rfl rfl rfl rfl rfl) (K9.congr rfl rfl) 
                · skip
                  have c_182 := pi_eq.mp c_182
                  have key9 : keyW h x149_2.toNatClampNeg = x141_1.toInt := by have c2 := pi_cl (x := x149_2) (by omega); unfold keyW; rw [if_neg (by omega), ← congrFun (A.row 151 (by decide)) _, ← ev4]; omega
                  have B186 := A.row 186 (by decide)
                  have B82 := A.get 137 82 (by decide)
                  refine lv_aload_n hx hb dX12_end_185 rfl (lv_at hl 0 rfl) ?_
                  refine lv_iload_n hx hb dX12_end_186 rfl (lv_at hl 2 rfl) ?_
                  refine pk_v (pr_V M V (m_X12_copyList l S I x149_2 (by rw [A.row 186 (by decide), A.get 137 82 (by decide)]; have z9 := sumE_y (h := h) (w := x149_2) (by omega) key9; have z8 := sumE_le h x141_1.toInt (x149_2.toNatClampNeg + 1) (by omega); have z7 := e149; omega)) km_X12_copyList (sm_this S) pC12 lkM_X12_310 rfl hl.1 rfl (Nat.le_of_ble_eq_true rfl) ⟨Nat.le_of_ble_eq_true rfl, Nat.le_of_ble_eq_true rfl⟩ ⟨Nat.le_of_ble_eq_true rfl, Nat.le_of_ble_eq_true rfl⟩ dX12_end_187) V (fun Zr5 hr5 H locs pr5 _ _ V => ?_)
                  obtain ⟨rfl, I, pA_r5, fr5_0⟩ := pr5
                  have A := A.tr pA_r5 (by decide)
                  have E9 : mE hr5 := E9.congr (pA_r5.get 137 2 (by decide)) (pA_r5.row 138 (by decide))
                  have S9 : mS hr5 := S9.congr (pA_r5.get 137 56 (by decide)) (pA_r5.get 137 70 (by decide)) (pA_r5.get 137 58 (by decide)) (pA_r5.row 162 (by decide)) (pA_r5.row 163 (by decide)) (pA_r5.row 165 (by decide)) (pA_r5.row 166 (by decide))
                  have K9 : mK hr5 := K9.congr (pA_r5.row 185 (by decide)) (pA_r5.row 184 (by decide))
                  have w_r5_56 : (hr5 137 56).toInt = (hJ 137 56).toInt := congrArg Int32.toInt (pA_r5.get 137 56 (by decide))
                  have w_r5_70 : (hr5 137 70).toInt = (hJ 137 70).toInt := congrArg Int32.toInt (pA_r5.get 137 70 (by decide))
                  have w_r5_58 : (hr5 137 58).toInt = (hJ 137 58).toInt := congrArg Int32.toInt (pA_r5.get 137 58 (by decide))
                  have w_r5_25 : (hr5 137 25).toInt = (hJ 137 25).toInt := congrArg Int32.toInt (pA_r5.get 137 25 (by decide))
                  have w_r5_27 : (hr5 137 27).toInt = (hJ 137 27).toInt := congrArg Int32.toInt (pA_r5.get 137 27 (by decide))
                  have w_r5_82 : (hr5 137 82).toInt = (hJ 137 82).toInt := congrArg Int32.toInt (pA_r5.get 137 82 (by decide))
                  have w_r5_2 : (hr5 137 2).toInt = (hJ 137 2).toInt := congrArg Int32.toInt (pA_r5.get 137 2 (by decide))
                  exact J_190 _ _ _ _ V I (A.wk (by decide)) (lv_sub hl [0, 1, 2] rfl) (by omega) (by omega) (show (h 137 56).toInt + (0) ≤ (hr5 137 56).toInt ∧ (hr5 137 56).toInt ≤ (h 137 56).toInt + (0) by omega) (show (h 137 70).toInt + (0) ≤ (hr5 137 70).toInt ∧ (hr5 137 70).toInt ≤ (h 137 70).toInt + (0) by omega) (show (h 137 58).toInt + (0) ≤ (hr5 137 58).toInt ∧ (hr5 137 58).toInt ≤ (h 137 58).toInt + (0) by omega) (show (h 137 25).toInt + (0) ≤ (hr5 137 25).toInt ∧ (hr5 137 25).toInt ≤ (h 137 25).toInt + (0) by omega) (show (h 137 27).toInt + (0) ≤ (hr5 137 27).toInt ∧ (hr5 137 27).toInt ≤ (h 137 27).toInt + (0) by omega) (show (h 137 82).toInt + (0) ≤ (hr5 137 82).toInt ∧ (hr5 137 82).toInt ≤ (h 137 82).toInt + (0) by omega) (show (h 137 2).toInt + (0) ≤ (hr5 137 2).toInt ∧ (hr5 137 2).toInt ≤ (h 137 2).toInt + (0) by omega) (show (hr5 137 83).toInt ≤ sumE h x141_1.toInt (x149_2.toNatClampNeg + 1) by rw [sumE_y (w := x149_2) (by omega) key9]; have z9 := fr5_0; rw [B186, B82] at z9; have z7 := e149; omega) (by omega) (E9.congr rfl rfl) (S9.congr rfl rfl rfl rfl rfl rfl rfl) (K9.congr rfl rfl) 
              · skip
                have k_8 : (8 : Int32).toInt = 8 := rfl
                have c_167 := pi_eq.mp c_167
                refine lv_bipush (v := 8) hx hb dX12_end_170 (by decide) ?_
                refine lv_goto (tgt := 181) hx hb dX12_end_172 (by decide) ?_
                refine lv_iload_n hx hb dX12_end_181 rfl (lv_at hl 1 rfl) ?_
                refine lv_icmp_ne (tgt := 190) hx hb dX12_end_182 (by decide) (fun c_182 => ?_) (fun c_182 => ?_)
                · skip
                  have c_182 := pi_ne c_182
                  exact J_190 _ _ _ _ V I (A.wk (by decide)) (lv_sub hl [0, 1, 2] rfl) (by omega) (by omega) (show (h 137 56).toInt + (0) ≤ (hJ 137 56).toInt ∧ (hJ 137 56).toInt ≤ (h 137 56).toInt + (0) by omega) (show (h 137 70).toInt + (0) ≤ (hJ 137 70).toInt ∧ (hJ 137 70).toInt ≤ (h 137 70).toInt + (0) by omega) (show (h 137 58).toInt + (0) ≤ (hJ 137 58).toInt ∧ (hJ 137 58).toInt ≤ (h 137 58).toInt + (0) by omega) (show (h 137 25).toInt + (0) ≤ (hJ 137 25).toInt ∧ (hJ 137 25).toInt ≤ (h 137 25).toInt + (0) by omega) (show (h 137 27).toInt + (0) ≤ (hJ 137 27).toInt ∧ (hJ 137 27).toInt ≤ (h 137 27).toInt + (0) by omega) (show (h 137 82).toInt + (0) ≤ (hJ 137 82).toInt ∧ (hJ 137 82).toInt ≤ (h 137 82).toInt + (0) by omega) (show (h 137 2).toInt + (0) ≤ (hJ 137 2).toInt ∧ (hJ 137 2).toInt ≤ (h 137 2).toInt + (0) by omega) (show (hJ 137 83).toInt ≤ sumE h x141_1.toInt (x149_2.toNatClampNeg + 1) by have z8 := sumE_w h x141_1.toInt x149_2.toNatClampNeg; have z7 := e149; omega) (by omega) (E9.congr rfl rfl) (S9.congr rfl rfl rfl rfl rfl rfl rfl) (K9.congr rfl rfl) 
                · skip
                  have c_182 := pi_eq.mp c_182
                  have key9 : keyW h x149_2.toNatClampNeg = x141_1.toInt := by have c2 := pi_cl (x := x149_2) (by omega); unfold keyW; rw [if_pos (by omega)]; omega
                  have B186 := A.row 186 (by decide)
                  have B82 := A.get 137 82 (by decide)
                  refine lv_aload_n hx hb dX12_end_185 rfl (lv_at hl 0 rfl) ?_
                  refine lv_iload_n hx hb dX12_end_186 rfl (lv_at hl 2 rfl) ?_
                  refine pk_v (pr_V M V (m_X12_copyList l S I x149_2 (by rw [A.row 186 (by decide), A.get 137 82 (by decide)]; have z9 := sumE_y (h := h) (w := x149_2) (by omega) key9; have z8 := sumE_le h x141_1.toInt (x149_2.toNatClampNeg + 1) (by omega); have z7 := e149; omega)) km_X12_copyList (sm_this S) pC12 lkM_X12_310 rfl hl.1 rfl (Nat.le_of_ble_eq_true rfl) ⟨Nat.le_of_ble_eq_true rfl, Nat.le_of_ble_eq_true rfl⟩ ⟨Nat.le_of_ble_eq_true rfl, Nat.le_of_ble_eq_true rfl⟩ dX12_end_187) V (fun Zr6 hr6 H locs pr6 _ _ V => ?_)
                  obtain ⟨rfl, I, pA_r6, fr6_0⟩ := pr6
                  have A := A.tr pA_r6 (by decide)
                  have E9 : mE hr6 := E9.congr (pA_r6.get 137 2 (by decide)) (pA_r6.row 138 (by decide))
                  have S9 : mS hr6 := S9.congr (pA_r6.get 137 56 (by decide)) (pA_r6.get 137 70 (by decide)) (pA_r6.get 137 58 (by decide)) (pA_r6.row 162 (by decide)) (pA_r6.row 163 (by decide)) (pA_r6.row 165 (by decide)) (pA_r6.row 166 (by decide))
                  have K9 : mK hr6 := K9.congr (pA_r6.row 185 (by decide)) (pA_r6.row 184 (by decide))
                  have w_r6_56 : (hr6 137 56).toInt = (hJ 137 56).toInt := congrArg Int32.toInt (pA_r6.get 137 56 (by decide))
                  have w_r6_70 : (hr6 137 70).toInt = (hJ 137 70).toInt := congrArg Int32.toInt (pA_r6.get 137 70 (by decide))
                  have w_r6_58 : (hr6 137 58).toInt = (hJ 137 58).toInt := congrArg Int32.toInt (pA_r6.get 137 58 (by decide))
                  have w_r6_25 : (hr6 137 25).toInt = (hJ 137 25).toInt := congrArg Int32.toInt (pA_r6.get 137 25 (by decide))
                  have w_r6_27 : (hr6 137 27).toInt = (hJ 137 27).toInt := congrArg Int32.toInt (pA_r6.get 137 27 (by decide))
                  have w_r6_82 : (hr6 137 82).toInt = (hJ 137 82).toInt := congrArg Int32.toInt (pA_r6.get 137 82 (by decide))
                  have w_r6_2 : (hr6 137 2).toInt = (hJ 137 2).toInt := congrArg Int32.toInt (pA_r6.get 137 2 (by decide))
                  exact J_190 _ _ _ _ V I (A.wk (by decide)) (lv_sub hl [0, 1, 2] rfl) (by omega) (by omega) (show (h 137 56).toInt + (0) ≤ (hr6 137 56).toInt ∧ (hr6 137 56).toInt ≤ (h 137 56).toInt + (0) by omega) (show (h 137 70).toInt + (0) ≤ (hr6 137 70).toInt ∧ (hr6 137 70).toInt ≤ (h 137 70).toInt + (0) by omega) (show (h 137 58).toInt + (0) ≤ (hr6 137 58).toInt ∧ (hr6 137 58).toInt ≤ (h 137 58).toInt + (0) by omega) (show (h 137 25).toInt + (0) ≤ (hr6 137 25).toInt ∧ (hr6 137 25).toInt ≤ (h 137 25).toInt + (0) by omega) (show (h 137 27).toInt + (0) ≤ (hr6 137 27).toInt ∧ (hr6 137 27).toInt ≤ (h 137 27).toInt + (0) by omega) (show (h 137 82).toInt + (0) ≤ (hr6 137 82).toInt ∧ (hr6 137 82).toInt ≤ (h 137 82).toInt + (0) by omega) (show (h 137 2).toInt + (0) ≤ (hr6 137 2).toInt ∧ (hr6 137 2).toInt ≤ (h 137 2).toInt + (0) by omega) (show (hr6 137 83).toInt ≤ sumE h x141_1.toInt (x149_2.toNatClampNeg + 1) by rw [sumE_y (w := x149_2) (by omega) key9]; have z9 := fr6_0; rw [B186, B82] at z9; have z7 := e149; omega) (by omega) (E9.congr rfl rfl) (S9.congr rfl rfl rfl rfl rfl rfl rfl) (K9.congr rfl rfl) 
      refine lv_iload_n hx hb dX12_end_141 rfl (lv_at hl 1 rfl) ?_
      refine lv_bipush (v := 9) hx hb dX12_end_142 (by decide) ?_
      refine lv_icmp_ge (tgt := 202) hx hb dX12_end_144 (by decide) (fun c_144 => ?_) (fun c_144 => ?_)
      · skip
        have k_9 : (9 : Int32).toInt = 9 := rfl
        have c_144 := pi_le.mp c_144
        refine lv_aload_n hx hb dX12_end_202 rfl (lv_at hl 0 rfl) ?_
        refine lv_iconst (v := 0) hx hb dX12_end_203 (by decide) ?_
        refine pk_i (pr_V M V (m_X12_drawnCount l S I (0 : Int32) ) km_X12_drawnCount (sm_this S) pC12 lkM_X12_313 rfl hl.1 rfl (Nat.le_of_ble_eq_true rfl) ⟨Nat.le_of_ble_eq_true rfl, Nat.le_of_ble_eq_true rfl⟩ ⟨Nat.le_of_ble_eq_true rfl, Nat.le_of_ble_eq_true rfl⟩ dX12_end_204) V (fun r7 Zr7 hr7 H locs pr7 _ _ V => ?_)
        obtain ⟨rfl, I, pA_r7⟩ := pr7
        have A := A.wk (l3 := [(137, 0), (137, 18), (137, 19), (137, 21), (137, 22), (137, 40), (137, 83), (187, 1000), (137, 84), (137, 85), (137, 86), (137, 87)]) (by decide)
        have A := A.tr pA_r7 (by decide)
        have E9 : mE hr7 := E9.congr (pA_r7.get 137 2 (by decide)) (pA_r7.row 138 (by decide))
        have S9 : mS hr7 := S9.congr (pA_r7.get 137 56 (by decide)) (pA_r7.get 137 70 (by decide)) (pA_r7.get 137 58 (by decide)) (pA_r7.row 162 (by decide)) (pA_r7.row 163 (by decide)) (pA_r7.row 165 (by decide)) (pA_r7.row 166 (by decide))
        have K9 : mK hr7 := K9.congr (pA_r7.row 185 (by decide)) (pA_r7.row 184 (by decide))
        have w_r7_56 : (hr7 137 56).toInt = (hJ 137 56).toInt := congrArg Int32.toInt (pA_r7.get 137 56 (by decide))
        have w_r7_70 : (hr7 137 70).toInt = (hJ 137 70).toInt := congrArg Int32.toInt (pA_r7.get 137 70 (by decide))
        have w_r7_58 : (hr7 137 58).toInt = (hJ 137 58).toInt := congrArg Int32.toInt (pA_r7.get 137 58 (by decide))
        have w_r7_25 : (hr7 137 25).toInt = (hJ 137 25).toInt := congrArg Int32.toInt (pA_r7.get 137 25 (by decide))
        have w_r7_27 : (hr7 137 27).toInt = (hJ 137 27).toInt := congrArg Int32.toInt (pA_r7.get 137 27 (by decide))
        have w_r7_82 : (hr7 137 82).toInt = (hJ 137 82).toInt := congrArg Int32.toInt (pA_r7.get 137 82 (by decide))
        have w_r7_83 : (hr7 137 83).toInt = (hJ 137 83).toInt := congrArg Int32.toInt (pA_r7.get 137 83 (by decide))
        have w_r7_2 : (hr7 137 2).toInt = (hJ 137 2).toInt := congrArg Int32.toInt (pA_r7.get 137 2 (by decide))
        exact pe_i M V rfl rfl hr hlk rfl ⟨rfl, I, A.wk (by decide), (E9.congr rfl rfl), (S9.congr rfl rfl rfl rfl rfl rfl rfl), (K9.congr rfl rfl), (show (hr7 137 83).toInt ≤ (h 137 82).toInt ∨ (hr7 137 83).toInt = (h 137 83).toInt by first | omega | (have z8 := sumE_le h x141_1.toInt (0 : Int32).toNatClampNeg (by omega); have z7 := e141; omega))⟩ ⟨Nat.le_refl _, Nat.le_refl _⟩ dX12_end_207
      · skip
        have k_9 : (9 : Int32).toInt = 9 := rfl
        have c_144 := pi_le' c_144
        refine lv_iconst (v := 0) hx hb dX12_end_147 (by decide) ?_
        refine lv_istore_n (lv' := [(2, .int (0 : Int32)), (0, .ref (zB Z + 137)), (1, .int x141_1)]) hx hb dX12_end_148 rfl hl (by decide) rfl (fun ls hl => ?_)
        have k_0 : (0 : Int32).toInt = 0 := rfl
        exact J_149 _ (0 : Int32) _ _ _ _ V I (A.wk (by decide)) (lv_sub hl [1, 2, 0] rfl) (by omega) (by omega) (show (h 137 56).toInt + (0) ≤ (hJ 137 56).toInt ∧ (hJ 137 56).toInt ≤ (h 137 56).toInt + (0) by omega) (show (h 137 70).toInt + (0) ≤ (hJ 137 70).toInt ∧ (hJ 137 70).toInt ≤ (h 137 70).toInt + (0) by omega) (show (h 137 58).toInt + (0) ≤ (hJ 137 58).toInt ∧ (hJ 137 58).toInt ≤ (h 137 58).toInt + (0) by omega) (show (h 137 25).toInt + (0) ≤ (hJ 137 25).toInt ∧ (hJ 137 25).toInt ≤ (h 137 25).toInt + (0) by omega) (show (h 137 27).toInt + (0) ≤ (hJ 137 27).toInt ∧ (hJ 137 27).toInt ≤ (h 137 27).toInt + (0) by omega) (show (h 137 82).toInt + (0) ≤ (hJ 137 82).toInt ∧ (hJ 137 82).toInt ≤ (h 137 82).toInt + (0) by omega) (show (h 137 2).toInt + (0) ≤ (hJ 137 2).toInt ∧ (hJ 137 2).toInt ≤ (h 137 2).toInt + (0) by omega) (show (hJ 137 83).toInt ≤ sumE h x141_1.toInt (0 : Int32).toNatClampNeg by have z9 := e141; omega) (E9.congr rfl rfl) (S9.congr rfl rfl rfl rfl rfl rfl rfl) (K9.congr rfl rfl) (Nat.lt_succ_self _) 
  have J_129 : ∀ (hJ : pH) (H : Heap) (locs : List Loc) (ls : Array Slot), pV Z hJ s.heap H locs → Iv Z hJ → agr [(137, 0), (137, 19), (137, 21), (137, 22), (137, 40)] h hJ → lv_has ls 3 [(0, .ref (zB Z + 137))] → ((h 137 56).toInt + (0) ≤ (hJ 137 56).toInt ∧ (hJ 137 56).toInt ≤ (h 137 56).toInt + (0)) → ((h 137 70).toInt + (0) ≤ (hJ 137 70).toInt ∧ (hJ 137 70).toInt ≤ (h 137 70).toInt + (0)) → ((h 137 58).toInt + (0) ≤ (hJ 137 58).toInt ∧ (hJ 137 58).toInt ≤ (h 137 58).toInt + (0)) → ((h 137 25).toInt + (0) ≤ (hJ 137 25).toInt ∧ (hJ 137 25).toInt ≤ (h 137 25).toInt + (0)) → ((h 137 27).toInt + (0) ≤ (hJ 137 27).toInt ∧ (hJ 137 27).toInt ≤ (h 137 27).toInt + (0)) → ((h 137 82).toInt + (0) ≤ (hJ 137 82).toInt ∧ (hJ 137 82).toInt ≤ (h 137 82).toInt + (0)) → ((h 137 83).toInt + (0) ≤ (hJ 137 83).toInt ∧ (hJ 137 83).toInt ≤ (h 137 83).toInt + (0)) → ((h 137 2).toInt + (0) ≤ (hJ 137 2).toInt ∧ (hJ 137 2).toInt ≤ (h 137 2).toInt + (0)) → mE hJ → mS hJ → mK hJ → W p l e (pRm 2 0 0 47) s m ([.ref (zB Z + 137)] : List Value).toArray below meth c H locs 0 0 (MQ below (pQi Z (fun r Z1 h1 => Z = Z1 ∧ Iv Z h1 ∧ agr [(137, 0), (137, 18), (137, 19), (137, 20), (137, 22), (137, 21), (137, 23), (137, 40), (137, 48), (137, 56), (137, 58), (137, 70), (137, 71), (153, 1000), (137, 83), (187, 1000), (137, 84), (137, 85), (137, 86), (137, 87)] h h1 ∧ (mE h1) ∧ (mS h1) ∧ (mK h1) ∧ ((h1 137 83).toInt ≤ (h 137 82).toInt ∨ (h1 137 83).toInt = (h 137 83).toInt))) ([.ref (zB Z + 137)] : List Value).toArray s 0 0 (pA (zB Z))) (F0 m 129 ls []) := by
    intro hJ H locs ls V I A hl gd_129_56 gd_129_70 gd_129_58 gd_129_25 gd_129_27 gd_129_82 gd_129_83 gd_129_2 E9 S9 K9
    refine lv_aload_n hx hb dX12_end_129 rfl (lv_at hl 0 rfl) ?_
    refine lv_iconst (v := 0) hx hb dX12_end_130 (by decide) ?_
    have k_0 : (0 : Int32).toInt = 0 := rfl
    have z_131 : (0 : Int32) = 0 ∨ (0 : Int32) = 1 := pi_z (by omega)
    refine pp_i M V 12 18 (sm_this S) pC12 fk12_18 rfl lkF_X12_236 ⟨(pn_z z_131).1, (pn_z z_131).2.1⟩ dX12_end_131 (fun H locs V => ?_)
    have A := A.wk (l3 := [(137, 0), (137, 19), (137, 21), (137, 22), (137, 40), (137, 18)]) (by decide)
    have A := A.up (o := 137) (k := 18) (v := (0 : Int32)) (by decide)
    have I := I.up (k := 18) (v := (0 : Int32)) (sm_this S) (show (0 : Int) ≤ (0 : Int32).toInt ∧ (0 : Int32).toInt ≤ (1 : Int) by omega)
    refine lv_aload_n hx hb dX12_end_134 rfl (lv_at hl 0 rfl) ?_
    refine lv_iconst (v := 0) hx hb dX12_end_135 (by decide) ?_
    refine pp_i M V 12 83 (sm_this S) pC12 fk12_83 rfl lkF_X12_307 ⟨rfl, rfl⟩ dX12_end_136 (fun H locs V => ?_)
    have A := A.wk (l3 := [(137, 0), (137, 19), (137, 21), (137, 22), (137, 40), (137, 18), (137, 83)]) (by decide)
    have A := A.up (o := 137) (k := 83) (v := (0 : Int32)) (by decide)
    have I := I.up (k := 83) (v := (0 : Int32)) (sm_this S) (show (0 : Int) ≤ (0 : Int32).toInt ∧ (0 : Int32).toInt ≤ (7000 : Int) by omega)
    refine lv_iconst (v := 0) hx hb dX12_end_139 (by decide) ?_
    refine lv_istore_n (lv' := [(1, .int (0 : Int32)), (0, .ref (zB Z + 137))]) hx hb dX12_end_140 rfl hl (by decide) rfl (fun ls hl => ?_)
    exact J_141 _ (0 : Int32) _ _ _ _ V I (A.wk (by decide)) (lv_sub hl [1, 0] rfl) (by omega) (show (h 137 56).toInt + (0) ≤ (hJ 137 56).toInt ∧ (hJ 137 56).toInt ≤ (h 137 56).toInt + (0) by omega) (show (h 137 70).toInt + (0) ≤ (hJ 137 70).toInt ∧ (hJ 137 70).toInt ≤ (h 137 70).toInt + (0) by omega) (show (h 137 58).toInt + (0) ≤ (hJ 137 58).toInt ∧ (hJ 137 58).toInt ≤ (h 137 58).toInt + (0) by omega) (show (h 137 25).toInt + (0) ≤ (hJ 137 25).toInt ∧ (hJ 137 25).toInt ≤ (h 137 25).toInt + (0) by omega) (show (h 137 27).toInt + (0) ≤ (hJ 137 27).toInt ∧ (hJ 137 27).toInt ≤ (h 137 27).toInt + (0) by omega) (show (h 137 82).toInt + (0) ≤ (hJ 137 82).toInt ∧ (hJ 137 82).toInt ≤ (h 137 82).toInt + (0) by omega) (show (h 137 2).toInt + (0) ≤ (hJ 137 2).toInt ∧ (hJ 137 2).toInt ≤ (h 137 2).toInt + (0) by omega) (show (0 : Int32).toInt ≤ sumE h (0 : Int32).toInt (0 : Int32).toNatClampNeg from Int.le_trans (show (0 : Int32).toInt ≤ 0 by omega) (sumE_0 h)) (E9.congr rfl rfl) (S9.congr rfl rfl rfl rfl rfl rfl rfl) (K9.congr rfl rfl) (Nat.lt_succ_self _) 
  have J_107 : ∀ (hJ : pH) (H : Heap) (locs : List Loc) (ls : Array Slot), pV Z hJ s.heap H locs → Iv Z hJ → agr [(137, 0), (137, 19), (137, 21), (137, 22)] h hJ → lv_has ls 3 [(0, .ref (zB Z + 137))] → ((h 137 56).toInt + (0) ≤ (hJ 137 56).toInt ∧ (hJ 137 56).toInt ≤ (h 137 56).toInt + (0)) → ((h 137 70).toInt + (0) ≤ (hJ 137 70).toInt ∧ (hJ 137 70).toInt ≤ (h 137 70).toInt + (0)) → ((h 137 58).toInt + (0) ≤ (hJ 137 58).toInt ∧ (hJ 137 58).toInt ≤ (h 137 58).toInt + (0)) → ((h 137 25).toInt + (0) ≤ (hJ 137 25).toInt ∧ (hJ 137 25).toInt ≤ (h 137 25).toInt + (0)) → ((h 137 27).toInt + (0) ≤ (hJ 137 27).toInt ∧ (hJ 137 27).toInt ≤ (h 137 27).toInt + (0)) → ((h 137 82).toInt + (0) ≤ (hJ 137 82).toInt ∧ (hJ 137 82).toInt ≤ (h 137 82).toInt + (0)) → ((h 137 83).toInt + (0) ≤ (hJ 137 83).toInt ∧ (hJ 137 83).toInt ≤ (h 137 83).toInt + (0)) → ((h 137 2).toInt + (0) ≤ (hJ 137 2).toInt ∧ (hJ 137 2).toInt ≤ (h 137 2).toInt + (0)) → mE hJ → mS hJ → mK hJ → W p l e (pRm 2 0 0 47) s m ([.ref (zB Z + 137)] : List Value).toArray below meth c H locs 0 0 (MQ below (pQi Z (fun r Z1 h1 => Z = Z1 ∧ Iv Z h1 ∧ agr [(137, 0), (137, 18), (137, 19), (137, 20), (137, 22), (137, 21), (137, 23), (137, 40), (137, 48), (137, 56), (137, 58), (137, 70), (137, 71), (153, 1000), (137, 83), (187, 1000), (137, 84), (137, 85), (137, 86), (137, 87)] h h1 ∧ (mE h1) ∧ (mS h1) ∧ (mK h1) ∧ ((h1 137 83).toInt ≤ (h 137 82).toInt ∨ (h1 137 83).toInt = (h 137 83).toInt))) ([.ref (zB Z + 137)] : List Value).toArray s 0 0 (pA (zB Z))) (F0 m 107 ls []) := by
    intro hJ H locs ls V I A hl gd_107_56 gd_107_70 gd_107_58 gd_107_25 gd_107_27 gd_107_82 gd_107_83 gd_107_2 E9 S9 K9
    refine lv_aload_n hx hb dX12_end_107 rfl (lv_at hl 0 rfl) ?_
    refine pg_r M V 12 37 (sm_this S) pC12 fk12_37 (sm_here S).2.2 lkF_X12_60 dX12_end_108 ?_
    refine lv_bipush (v := 8) hx hb dX12_end_111 (by decide) ?_
    have k_8 : (8 : Int32).toInt = 8 := rfl
    refine pa_z M V (sm_here S).1 (by rw [(sm_here S).2.1]; exact pi_in (by omega)) dX12_end_113 ?_
    refine lv_topi (fun v8 ev8 => ?_)
    have tv8 : 0 ≤ v8.toInt ∧ v8.toInt ≤ 1 := by rw [ev8]; exact I.get (sm_here S).1 _
    refine lv_if_ne (tgt := 129) hx hb dX12_end_114 (by decide) (fun c_114 => ?_) (fun c_114 => ?_)
    · skip
      have k_0 : (0 : Int32).toInt = 0 := rfl
      have c_114 := pi_ne c_114
      exact J_129 _ _ _ _ V I (A.wk (by decide)) (lv_sub hl [0] rfl) (show (h 137 56).toInt + (0) ≤ (hJ 137 56).toInt ∧ (hJ 137 56).toInt ≤ (h 137 56).toInt + (0) by omega) (show (h 137 70).toInt + (0) ≤ (hJ 137 70).toInt ∧ (hJ 137 70).toInt ≤ (h 137 70).toInt + (0) by omega) (show (h 137 58).toInt + (0) ≤ (hJ 137 58).toInt ∧ (hJ 137 58).toInt ≤ (h 137 58).toInt + (0) by omega) (show (h 137 25).toInt + (0) ≤ (hJ 137 25).toInt ∧ (hJ 137 25).toInt ≤ (h 137 25).toInt + (0) by omega) (show (h 137 27).toInt + (0) ≤ (hJ 137 27).toInt ∧ (hJ 137 27).toInt ≤ (h 137 27).toInt + (0) by omega) (show (h 137 82).toInt + (0) ≤ (hJ 137 82).toInt ∧ (hJ 137 82).toInt ≤ (h 137 82).toInt + (0) by omega) (show (h 137 83).toInt + (0) ≤ (hJ 137 83).toInt ∧ (hJ 137 83).toInt ≤ (h 137 83).toInt + (0) by omega) (show (h 137 2).toInt + (0) ≤ (hJ 137 2).toInt ∧ (hJ 137 2).toInt ≤ (h 137 2).toInt + (0) by omega) (E9.congr rfl rfl) (S9.congr rfl rfl rfl rfl rfl rfl rfl) (K9.congr rfl rfl) 
    · skip
      have k_0 : (0 : Int32).toInt = 0 := rfl
      have c_114 := pi_eq.mp c_114
      refine lv_aload_n hx hb dX12_end_117 rfl (lv_at hl 0 rfl) ?_
      refine pg_i M V 12 41 (sm_this S) pC12 fk12_41 lkF_X12_276 dX12_end_118 ?_
      refine lv_topi (fun v9 ev9 => ?_)
      have tv9 : 0 ≤ v9.toInt ∧ v9.toInt ≤ 1 := by rw [ev9]; exact I.get (sm_this S) 41
      refine lv_if_ne (tgt := 129) hx hb dX12_end_121 (by decide) (fun c_121 => ?_) (fun c_121 => ?_)
      · skip
        have c_121 := pi_ne c_121
        exact J_129 _ _ _ _ V I (A.wk (by decide)) (lv_sub hl [0] rfl) (show (h 137 56).toInt + (0) ≤ (hJ 137 56).toInt ∧ (hJ 137 56).toInt ≤ (h 137 56).toInt + (0) by omega) (show (h 137 70).toInt + (0) ≤ (hJ 137 70).toInt ∧ (hJ 137 70).toInt ≤ (h 137 70).toInt + (0) by omega) (show (h 137 58).toInt + (0) ≤ (hJ 137 58).toInt ∧ (hJ 137 58).toInt ≤ (h 137 58).toInt + (0) by omega) (show (h 137 25).toInt + (0) ≤ (hJ 137 25).toInt ∧ (hJ 137 25).toInt ≤ (h 137 25).toInt + (0) by omega) (show (h 137 27).toInt + (0) ≤ (hJ 137 27).toInt ∧ (hJ 137 27).toInt ≤ (h 137 27).toInt + (0) by omega) (show (h 137 82).toInt + (0) ≤ (hJ 137 82).toInt ∧ (hJ 137 82).toInt ≤ (h 137 82).toInt + (0) by omega) (show (h 137 83).toInt + (0) ≤ (hJ 137 83).toInt ∧ (hJ 137 83).toInt ≤ (h 137 83).toInt + (0) by omega) (show (h 137 2).toInt + (0) ≤ (hJ 137 2).toInt ∧ (hJ 137 2).toInt ≤ (h 137 2).toInt + (0) by omega) (E9.congr rfl rfl) (S9.congr rfl rfl rfl rfl rfl rfl rfl) (K9.congr rfl rfl) 
      · skip
        have c_121 := pi_eq.mp c_121
        refine lv_aload_n hx hb dX12_end_124 rfl (lv_at hl 0 rfl) ?_
        refine lv_iconst (v := (-1)) hx hb dX12_end_125 (by decide) ?_
        refine pp_i M V 12 40 (sm_this S) pC12 fk12_40 rfl lkF_X12_69 ⟨rfl, rfl⟩ dX12_end_126 (fun H locs V => ?_)
        have A := A.wk (l3 := [(137, 0), (137, 19), (137, 21), (137, 22), (137, 40)]) (by decide)
        have A := A.up (o := 137) (k := 40) (v := (-1 : Int32)) (by decide)
        have I := I.up (k := 40) (v := (-1 : Int32)) (sm_this S) (pi_full _)
        exact J_129 _ _ _ _ V I (A.wk (by decide)) (lv_sub hl [0] rfl) (show (h 137 56).toInt + (0) ≤ (hJ 137 56).toInt ∧ (hJ 137 56).toInt ≤ (h 137 56).toInt + (0) by omega) (show (h 137 70).toInt + (0) ≤ (hJ 137 70).toInt ∧ (hJ 137 70).toInt ≤ (h 137 70).toInt + (0) by omega) (show (h 137 58).toInt + (0) ≤ (hJ 137 58).toInt ∧ (hJ 137 58).toInt ≤ (h 137 58).toInt + (0) by omega) (show (h 137 25).toInt + (0) ≤ (hJ 137 25).toInt ∧ (hJ 137 25).toInt ≤ (h 137 25).toInt + (0) by omega) (show (h 137 27).toInt + (0) ≤ (hJ 137 27).toInt ∧ (hJ 137 27).toInt ≤ (h 137 27).toInt + (0) by omega) (show (h 137 82).toInt + (0) ≤ (hJ 137 82).toInt ∧ (hJ 137 82).toInt ≤ (h 137 82).toInt + (0) by omega) (show (h 137 83).toInt + (0) ≤ (hJ 137 83).toInt ∧ (hJ 137 83).toInt ≤ (h 137 83).toInt + (0) by omega) (show (h 137 2).toInt + (0) ≤ (hJ 137 2).toInt ∧ (hJ 137 2).toInt ≤ (h 137 2).toInt + (0) by omega) (E9.congr rfl rfl) (S9.congr rfl rfl rfl rfl rfl rfl rfl) (K9.congr rfl rfl) 
  have J_84 : ∀ (hJ : pH) (H : Heap) (locs : List Loc) (ls : Array Slot), pV Z hJ s.heap H locs → Iv Z hJ → agr [(137, 0), (137, 19), (137, 21), (137, 22)] h hJ → lv_has ls 3 [(0, .ref (zB Z + 137))] → ((h 137 56).toInt + (0) ≤ (hJ 137 56).toInt ∧ (hJ 137 56).toInt ≤ (h 137 56).toInt + (0)) → ((h 137 70).toInt + (0) ≤ (hJ 137 70).toInt ∧ (hJ 137 70).toInt ≤ (h 137 70).toInt + (0)) → ((h 137 58).toInt + (0) ≤ (hJ 137 58).toInt ∧ (hJ 137 58).toInt ≤ (h 137 58).toInt + (0)) → ((h 137 25).toInt + (0) ≤ (hJ 137 25).toInt ∧ (hJ 137 25).toInt ≤ (h 137 25).toInt + (0)) → ((h 137 27).toInt + (0) ≤ (hJ 137 27).toInt ∧ (hJ 137 27).toInt ≤ (h 137 27).toInt + (0)) → ((h 137 82).toInt + (0) ≤ (hJ 137 82).toInt ∧ (hJ 137 82).toInt ≤ (h 137 82).toInt + (0)) → ((h 137 83).toInt + (0) ≤ (hJ 137 83).toInt ∧ (hJ 137 83).toInt ≤ (h 137 83).toInt + (0)) → ((h 137 2).toInt + (0) ≤ (hJ 137 2).toInt ∧ (hJ 137 2).toInt ≤ (h 137 2).toInt + (0)) → mE hJ → mS hJ → mK hJ → W p l e (pRm 2 0 0 47) s m ([.ref (zB Z + 137)] : List Value).toArray below meth c H locs 0 0 (MQ below (pQi Z (fun r Z1 h1 => Z = Z1 ∧ Iv Z h1 ∧ agr [(137, 0), (137, 18), (137, 19), (137, 20), (137, 22), (137, 21), (137, 23), (137, 40), (137, 48), (137, 56), (137, 58), (137, 70), (137, 71), (153, 1000), (137, 83), (187, 1000), (137, 84), (137, 85), (137, 86), (137, 87)] h h1 ∧ (mE h1) ∧ (mS h1) ∧ (mK h1) ∧ ((h1 137 83).toInt ≤ (h 137 82).toInt ∨ (h1 137 83).toInt = (h 137 83).toInt))) ([.ref (zB Z + 137)] : List Value).toArray s 0 0 (pA (zB Z))) (F0 m 84 ls []) := by
    intro hJ H locs ls V I A hl gd_84_56 gd_84_70 gd_84_58 gd_84_25 gd_84_27 gd_84_82 gd_84_83 gd_84_2 E9 S9 K9
    refine lv_aload_n hx hb dX12_end_84 rfl (lv_at hl 0 rfl) ?_
    refine pg_i M V 12 21 (sm_this S) pC12 fk12_21 lkF_X12_294 dX12_end_85 ?_
    refine lv_topi (fun v10 ev10 => ?_)
    refine lv_if_eq (tgt := 107) hx hb dX12_end_88 (by decide) (fun c_88 => ?_) (fun c_88 => ?_)
    · skip
      have k_0 : (0 : Int32).toInt = 0 := rfl
      have c_88 := pi_eq.mp c_88
      exact J_107 _ _ _ _ V I (A.wk (by decide)) (lv_sub hl [0] rfl) (show (h 137 56).toInt + (0) ≤ (hJ 137 56).toInt ∧ (hJ 137 56).toInt ≤ (h 137 56).toInt + (0) by omega) (show (h 137 70).toInt + (0) ≤ (hJ 137 70).toInt ∧ (hJ 137 70).toInt ≤ (h 137 70).toInt + (0) by omega) (show (h 137 58).toInt + (0) ≤ (hJ 137 58).toInt ∧ (hJ 137 58).toInt ≤ (h 137 58).toInt + (0) by omega) (show (h 137 25).toInt + (0) ≤ (hJ 137 25).toInt ∧ (hJ 137 25).toInt ≤ (h 137 25).toInt + (0) by omega) (show (h 137 27).toInt + (0) ≤ (hJ 137 27).toInt ∧ (hJ 137 27).toInt ≤ (h 137 27).toInt + (0) by omega) (show (h 137 82).toInt + (0) ≤ (hJ 137 82).toInt ∧ (hJ 137 82).toInt ≤ (h 137 82).toInt + (0) by omega) (show (h 137 83).toInt + (0) ≤ (hJ 137 83).toInt ∧ (hJ 137 83).toInt ≤ (h 137 83).toInt + (0) by omega) (show (h 137 2).toInt + (0) ≤ (hJ 137 2).toInt ∧ (hJ 137 2).toInt ≤ (h 137 2).toInt + (0) by omega) (E9.congr rfl rfl) (S9.congr rfl rfl rfl rfl rfl rfl rfl) (K9.congr rfl rfl) 
    · skip
      have k_0 : (0 : Int32).toInt = 0 := rfl
      have c_88 := pi_ne c_88
      refine lv_aload_n hx hb dX12_end_91 rfl (lv_at hl 0 rfl) ?_
      refine lv_aload_n hx hb dX12_end_92 rfl (lv_at hl 0 rfl) ?_
      refine pg_iv M V 12 21 (v := v10) (sm_this S) pC12 fk12_21 ev10.symm lkF_X12_294 dX12_end_93 ?_
      refine pk_i (pr_V M V (m_X12_wasTold l S I v10 ) km_X12_wasTold (sm_this S) pC12 lkM_X12_304 rfl hl.1 rfl (Nat.le_of_ble_eq_true rfl) ⟨Nat.le_of_ble_eq_true rfl, Nat.le_of_ble_eq_true rfl⟩ ⟨Nat.le_of_ble_eq_true rfl, Nat.le_of_ble_eq_true rfl⟩ dX12_end_96) V (fun r11 Zr11 hr11 H locs pr11 _ _ V => ?_)
      obtain ⟨rfl, I, pA_r11, fr11_0⟩ := pr11
      have A := A.tr pA_r11 (by decide)
      have E9 : mE hr11 := E9.congr (pA_r11.get 137 2 (by decide)) (pA_r11.row 138 (by decide))
      have S9 : mS hr11 := S9.congr (pA_r11.get 137 56 (by decide)) (pA_r11.get 137 70 (by decide)) (pA_r11.get 137 58 (by decide)) (pA_r11.row 162 (by decide)) (pA_r11.row 163 (by decide)) (pA_r11.row 165 (by decide)) (pA_r11.row 166 (by decide))
      have K9 : mK hr11 := K9.congr (pA_r11.row 185 (by decide)) (pA_r11.row 184 (by decide))
      have w_r11_56 : (hr11 137 56).toInt = (hJ 137 56).toInt := congrArg Int32.toInt (pA_r11.get 137 56 (by decide))
      have w_r11_70 : (hr11 137 70).toInt = (hJ 137 70).toInt := congrArg Int32.toInt (pA_r11.get 137 70 (by decide))
      have w_r11_58 : (hr11 137 58).toInt = (hJ 137 58).toInt := congrArg Int32.toInt (pA_r11.get 137 58 (by decide))
      have w_r11_25 : (hr11 137 25).toInt = (hJ 137 25).toInt := congrArg Int32.toInt (pA_r11.get 137 25 (by decide))
      have w_r11_27 : (hr11 137 27).toInt = (hJ 137 27).toInt := congrArg Int32.toInt (pA_r11.get 137 27 (by decide))
      have w_r11_82 : (hr11 137 82).toInt = (hJ 137 82).toInt := congrArg Int32.toInt (pA_r11.get 137 82 (by decide))
      have w_r11_83 : (hr11 137 83).toInt = (hJ 137 83).toInt := congrArg Int32.toInt (pA_r11.get 137 83 (by decide))
      have w_r11_2 : (hr11 137 2).toInt = (hJ 137 2).toInt := congrArg Int32.toInt (pA_r11.get 137 2 (by decide))
      refine lv_if_ne (tgt := 107) hx hb dX12_end_99 (by decide) (fun c_99 => ?_) (fun c_99 => ?_)
      · skip
        have c_99 := pi_ne c_99
        exact J_107 _ _ _ _ V I (A.wk (by decide)) (lv_sub hl [0] rfl) (show (h 137 56).toInt + (0) ≤ (hr11 137 56).toInt ∧ (hr11 137 56).toInt ≤ (h 137 56).toInt + (0) by omega) (show (h 137 70).toInt + (0) ≤ (hr11 137 70).toInt ∧ (hr11 137 70).toInt ≤ (h 137 70).toInt + (0) by omega) (show (h 137 58).toInt + (0) ≤ (hr11 137 58).toInt ∧ (hr11 137 58).toInt ≤ (h 137 58).toInt + (0) by omega) (show (h 137 25).toInt + (0) ≤ (hr11 137 25).toInt ∧ (hr11 137 25).toInt ≤ (h 137 25).toInt + (0) by omega) (show (h 137 27).toInt + (0) ≤ (hr11 137 27).toInt ∧ (hr11 137 27).toInt ≤ (h 137 27).toInt + (0) by omega) (show (h 137 82).toInt + (0) ≤ (hr11 137 82).toInt ∧ (hr11 137 82).toInt ≤ (h 137 82).toInt + (0) by omega) (show (h 137 83).toInt + (0) ≤ (hr11 137 83).toInt ∧ (hr11 137 83).toInt ≤ (h 137 83).toInt + (0) by omega) (show (h 137 2).toInt + (0) ≤ (hr11 137 2).toInt ∧ (hr11 137 2).toInt ≤ (h 137 2).toInt + (0) by omega) (E9.congr rfl rfl) (S9.congr rfl rfl rfl rfl rfl rfl rfl) (K9.congr rfl rfl) 
      · skip
        have c_99 := pi_eq.mp c_99
        refine lv_aload_n hx hb dX12_end_102 rfl (lv_at hl 0 rfl) ?_
        refine lv_iconst (v := 0) hx hb dX12_end_103 (by decide) ?_
        refine pk_v (pr_V M V (m_X12_give l S I (0 : Int32) ) km_X12_give (sm_this S) pC12 lkM_X12_300 rfl hl.1 rfl (Nat.le_of_ble_eq_true rfl) ⟨Nat.le_of_ble_eq_true rfl, Nat.le_of_ble_eq_true rfl⟩ ⟨Nat.le_of_ble_eq_true rfl, Nat.le_of_ble_eq_true rfl⟩ dX12_end_104) V (fun Zr12 hr12 H locs pr12 _ _ V => ?_)
        obtain ⟨rfl, I, pA_r12⟩ := pr12
        have A := A.tr pA_r12 (by decide)
        have E9 : mE hr12 := E9.congr (pA_r12.get 137 2 (by decide)) (pA_r12.row 138 (by decide))
        have S9 : mS hr12 := S9.congr (pA_r12.get 137 56 (by decide)) (pA_r12.get 137 70 (by decide)) (pA_r12.get 137 58 (by decide)) (pA_r12.row 162 (by decide)) (pA_r12.row 163 (by decide)) (pA_r12.row 165 (by decide)) (pA_r12.row 166 (by decide))
        have K9 : mK hr12 := K9.congr (pA_r12.row 185 (by decide)) (pA_r12.row 184 (by decide))
        have w_r12_56 : (hr12 137 56).toInt = (hr11 137 56).toInt := congrArg Int32.toInt (pA_r12.get 137 56 (by decide))
        have w_r12_70 : (hr12 137 70).toInt = (hr11 137 70).toInt := congrArg Int32.toInt (pA_r12.get 137 70 (by decide))
        have w_r12_58 : (hr12 137 58).toInt = (hr11 137 58).toInt := congrArg Int32.toInt (pA_r12.get 137 58 (by decide))
        have w_r12_25 : (hr12 137 25).toInt = (hr11 137 25).toInt := congrArg Int32.toInt (pA_r12.get 137 25 (by decide))
        have w_r12_27 : (hr12 137 27).toInt = (hr11 137 27).toInt := congrArg Int32.toInt (pA_r12.get 137 27 (by decide))
        have w_r12_82 : (hr12 137 82).toInt = (hr11 137 82).toInt := congrArg Int32.toInt (pA_r12.get 137 82 (by decide))
        have w_r12_83 : (hr12 137 83).toInt = (hr11 137 83).toInt := congrArg Int32.toInt (pA_r12.get 137 83 (by decide))
        have w_r12_2 : (hr12 137 2).toInt = (hr11 137 2).toInt := congrArg Int32.toInt (pA_r12.get 137 2 (by decide))
        exact J_107 _ _ _ _ V I (A.wk (by decide)) (lv_sub hl [0] rfl) (show (h 137 56).toInt + (0) ≤ (hr12 137 56).toInt ∧ (hr12 137 56).toInt ≤ (h 137 56).toInt + (0) by omega) (show (h 137 70).toInt + (0) ≤ (hr12 137 70).toInt ∧ (hr12 137 70).toInt ≤ (h 137 70).toInt + (0) by omega) (show (h 137 58).toInt + (0) ≤ (hr12 137 58).toInt ∧ (hr12 137 58).toInt ≤ (h 137 58).toInt + (0) by omega) (show (h 137 25).toInt + (0) ≤ (hr12 137 25).toInt ∧ (hr12 137 25).toInt ≤ (h 137 25).toInt + (0) by omega) (show (h 137 27).toInt + (0) ≤ (hr12 137 27).toInt ∧ (hr12 137 27).toInt ≤ (h 137 27).toInt + (0) by omega) (show (h 137 82).toInt + (0) ≤ (hr12 137 82).toInt ∧ (hr12 137 82).toInt ≤ (h 137 82).toInt + (0) by omega) (show (h 137 83).toInt + (0) ≤ (hr12 137 83).toInt ∧ (hr12 137 83).toInt ≤ (h 137 83).toInt + (0) by omega) (show (h 137 2).toInt + (0) ≤ (hr12 137 2).toInt ∧ (hr12 137 2).toInt ≤ (h 137 2).toInt + (0) by omega) (E9.congr rfl rfl) (S9.congr rfl rfl rfl rfl rfl rfl rfl) (K9.congr rfl rfl) 
  have J_61 : ∀ (hJ : pH) (H : Heap) (locs : List Loc) (ls : Array Slot), pV Z hJ s.heap H locs → Iv Z hJ → agr [(137, 0), (137, 21), (137, 22)] h hJ → lv_has ls 3 [(0, .ref (zB Z + 137))] → ((h 137 56).toInt + (0) ≤ (hJ 137 56).toInt ∧ (hJ 137 56).toInt ≤ (h 137 56).toInt + (0)) → ((h 137 70).toInt + (0) ≤ (hJ 137 70).toInt ∧ (hJ 137 70).toInt ≤ (h 137 70).toInt + (0)) → ((h 137 58).toInt + (0) ≤ (hJ 137 58).toInt ∧ (hJ 137 58).toInt ≤ (h 137 58).toInt + (0)) → ((h 137 25).toInt + (0) ≤ (hJ 137 25).toInt ∧ (hJ 137 25).toInt ≤ (h 137 25).toInt + (0)) → ((h 137 27).toInt + (0) ≤ (hJ 137 27).toInt ∧ (hJ 137 27).toInt ≤ (h 137 27).toInt + (0)) → ((h 137 82).toInt + (0) ≤ (hJ 137 82).toInt ∧ (hJ 137 82).toInt ≤ (h 137 82).toInt + (0)) → ((h 137 83).toInt + (0) ≤ (hJ 137 83).toInt ∧ (hJ 137 83).toInt ≤ (h 137 83).toInt + (0)) → ((h 137 2).toInt + (0) ≤ (hJ 137 2).toInt ∧ (hJ 137 2).toInt ≤ (h 137 2).toInt + (0)) → mE hJ → mS hJ → mK hJ → W p l e (pRm 2 0 0 47) s m ([.ref (zB Z + 137)] : List Value).toArray below meth c H locs 0 0 (MQ below (pQi Z (fun r Z1 h1 => Z = Z1 ∧ Iv Z h1 ∧ agr [(137, 0), (137, 18), (137, 19), (137, 20), (137, 22), (137, 21), (137, 23), (137, 40), (137, 48), (137, 56), (137, 58), (137, 70), (137, 71), (153, 1000), (137, 83), (187, 1000), (137, 84), (137, 85), (137, 86), (137, 87)] h h1 ∧ (mE h1) ∧ (mS h1) ∧ (mK h1) ∧ ((h1 137 83).toInt ≤ (h 137 82).toInt ∨ (h1 137 83).toInt = (h 137 83).toInt))) ([.ref (zB Z + 137)] : List Value).toArray s 0 0 (pA (zB Z))) (F0 m 61 ls []) := by
    intro hJ H locs ls V I A hl gd_61_56 gd_61_70 gd_61_58 gd_61_25 gd_61_27 gd_61_82 gd_61_83 gd_61_2 E9 S9 K9
    refine lv_aload_n hx hb dX12_end_61 rfl (lv_at hl 0 rfl) ?_
    refine pg_i M V 12 19 (sm_this S) pC12 fk12_19 lkF_X12_255 dX12_end_62 ?_
    refine lv_topi (fun v13 ev13 => ?_)
    refine lv_if_eq (tgt := 84) hx hb dX12_end_65 (by decide) (fun c_65 => ?_) (fun c_65 => ?_)
    · skip
      have k_0 : (0 : Int32).toInt = 0 := rfl
      have c_65 := pi_eq.mp c_65
      exact J_84 _ _ _ _ V I (A.wk (by decide)) (lv_sub hl [0] rfl) (show (h 137 56).toInt + (0) ≤ (hJ 137 56).toInt ∧ (hJ 137 56).toInt ≤ (h 137 56).toInt + (0) by omega) (show (h 137 70).toInt + (0) ≤ (hJ 137 70).toInt ∧ (hJ 137 70).toInt ≤ (h 137 70).toInt + (0) by omega) (show (h 137 58).toInt + (0) ≤ (hJ 137 58).toInt ∧ (hJ 137 58).toInt ≤ (h 137 58).toInt + (0) by omega) (show (h 137 25).toInt + (0) ≤ (hJ 137 25).toInt ∧ (hJ 137 25).toInt ≤ (h 137 25).toInt + (0) by omega) (show (h 137 27).toInt + (0) ≤ (hJ 137 27).toInt ∧ (hJ 137 27).toInt ≤ (h 137 27).toInt + (0) by omega) (show (h 137 82).toInt + (0) ≤ (hJ 137 82).toInt ∧ (hJ 137 82).toInt ≤ (h 137 82).toInt + (0) by omega) (show (h 137 83).toInt + (0) ≤ (hJ 137 83).toInt ∧ (hJ 137 83).toInt ≤ (h 137 83).toInt + (0) by omega) (show (h 137 2).toInt + (0) ≤ (hJ 137 2).toInt ∧ (hJ 137 2).toInt ≤ (h 137 2).toInt + (0) by omega) (E9.congr rfl rfl) (S9.congr rfl rfl rfl rfl rfl rfl rfl) (K9.congr rfl rfl) 
    · skip
      have k_0 : (0 : Int32).toInt = 0 := rfl
      have c_65 := pi_ne c_65
      refine lv_aload_n hx hb dX12_end_68 rfl (lv_at hl 0 rfl) ?_
      refine lv_aload_n hx hb dX12_end_69 rfl (lv_at hl 0 rfl) ?_
      refine pg_iv M V 12 19 (v := v13) (sm_this S) pC12 fk12_19 ev13.symm lkF_X12_255 dX12_end_70 ?_
      refine pk_i (pr_V M V (m_X12_wasTold l S I v13 ) km_X12_wasTold (sm_this S) pC12 lkM_X12_304 rfl hl.1 rfl (Nat.le_of_ble_eq_true rfl) ⟨Nat.le_of_ble_eq_true rfl, Nat.le_of_ble_eq_true rfl⟩ ⟨Nat.le_of_ble_eq_true rfl, Nat.le_of_ble_eq_true rfl⟩ dX12_end_73) V (fun r14 Zr14 hr14 H locs pr14 _ _ V => ?_)
      obtain ⟨rfl, I, pA_r14, fr14_0⟩ := pr14
      have A := A.tr pA_r14 (by decide)
      have E9 : mE hr14 := E9.congr (pA_r14.get 137 2 (by decide)) (pA_r14.row 138 (by decide))
      have S9 : mS hr14 := S9.congr (pA_r14.get 137 56 (by decide)) (pA_r14.get 137 70 (by decide)) (pA_r14.get 137 58 (by decide)) (pA_r14.row 162 (by decide)) (pA_r14.row 163 (by decide)) (pA_r14.row 165 (by decide)) (pA_r14.row 166 (by decide))
      have K9 : mK hr14 := K9.congr (pA_r14.row 185 (by decide)) (pA_r14.row 184 (by decide))
      have w_r14_56 : (hr14 137 56).toInt = (hJ 137 56).toInt := congrArg Int32.toInt (pA_r14.get 137 56 (by decide))
      have w_r14_70 : (hr14 137 70).toInt = (hJ 137 70).toInt := congrArg Int32.toInt (pA_r14.get 137 70 (by decide))
      have w_r14_58 : (hr14 137 58).toInt = (hJ 137 58).toInt := congrArg Int32.toInt (pA_r14.get 137 58 (by decide))
      have w_r14_25 : (hr14 137 25).toInt = (hJ 137 25).toInt := congrArg Int32.toInt (pA_r14.get 137 25 (by decide))
      have w_r14_27 : (hr14 137 27).toInt = (hJ 137 27).toInt := congrArg Int32.toInt (pA_r14.get 137 27 (by decide))
      have w_r14_82 : (hr14 137 82).toInt = (hJ 137 82).toInt := congrArg Int32.toInt (pA_r14.get 137 82 (by decide))
      have w_r14_83 : (hr14 137 83).toInt = (hJ 137 83).toInt := congrArg Int32.toInt (pA_r14.get 137 83 (by decide))
      have w_r14_2 : (hr14 137 2).toInt = (hJ 137 2).toInt := congrArg Int32.toInt (pA_r14.get 137 2 (by decide))
      refine lv_if_ne (tgt := 84) hx hb dX12_end_76 (by decide) (fun c_76 => ?_) (fun c_76 => ?_)
      · skip
        have c_76 := pi_ne c_76
        exact J_84 _ _ _ _ V I (A.wk (by decide)) (lv_sub hl [0] rfl) (show (h 137 56).toInt + (0) ≤ (hr14 137 56).toInt ∧ (hr14 137 56).toInt ≤ (h 137 56).toInt + (0) by omega) (show (h 137 70).toInt + (0) ≤ (hr14 137 70).toInt ∧ (hr14 137 70).toInt ≤ (h 137 70).toInt + (0) by omega) (show (h 137 58).toInt + (0) ≤ (hr14 137 58).toInt ∧ (hr14 137 58).toInt ≤ (h 137 58).toInt + (0) by omega) (show (h 137 25).toInt + (0) ≤ (hr14 137 25).toInt ∧ (hr14 137 25).toInt ≤ (h 137 25).toInt + (0) by omega) (show (h 137 27).toInt + (0) ≤ (hr14 137 27).toInt ∧ (hr14 137 27).toInt ≤ (h 137 27).toInt + (0) by omega) (show (h 137 82).toInt + (0) ≤ (hr14 137 82).toInt ∧ (hr14 137 82).toInt ≤ (h 137 82).toInt + (0) by omega) (show (h 137 83).toInt + (0) ≤ (hr14 137 83).toInt ∧ (hr14 137 83).toInt ≤ (h 137 83).toInt + (0) by omega) (show (h 137 2).toInt + (0) ≤ (hr14 137 2).toInt ∧ (hr14 137 2).toInt ≤ (h 137 2).toInt + (0) by omega) (E9.congr rfl rfl) (S9.congr rfl rfl rfl rfl rfl rfl rfl) (K9.congr rfl rfl) 
      · skip
        have c_76 := pi_eq.mp c_76
        refine lv_aload_n hx hb dX12_end_79 rfl (lv_at hl 0 rfl) ?_
        refine lv_iconst (v := 0) hx hb dX12_end_80 (by decide) ?_
        refine pp_i M V 12 19 (sm_this S) pC12 fk12_19 rfl lkF_X12_255 ⟨rfl, rfl⟩ dX12_end_81 (fun H locs V => ?_)
        have A := A.wk (l3 := [(137, 0), (137, 21), (137, 22), (137, 19)]) (by decide)
        have A := A.up (o := 137) (k := 19) (v := (0 : Int32)) (by decide)
        have I := I.up (k := 19) (v := (0 : Int32)) (sm_this S) (pi_full _)
        exact J_84 _ _ _ _ V I (A.wk (by decide)) (lv_sub hl [0] rfl) (show (h 137 56).toInt + (0) ≤ (hr14 137 56).toInt ∧ (hr14 137 56).toInt ≤ (h 137 56).toInt + (0) by omega) (show (h 137 70).toInt + (0) ≤ (hr14 137 70).toInt ∧ (hr14 137 70).toInt ≤ (h 137 70).toInt + (0) by omega) (show (h 137 58).toInt + (0) ≤ (hr14 137 58).toInt ∧ (hr14 137 58).toInt ≤ (h 137 58).toInt + (0) by omega) (show (h 137 25).toInt + (0) ≤ (hr14 137 25).toInt ∧ (hr14 137 25).toInt ≤ (h 137 25).toInt + (0) by omega) (show (h 137 27).toInt + (0) ≤ (hr14 137 27).toInt ∧ (hr14 137 27).toInt ≤ (h 137 27).toInt + (0) by omega) (show (h 137 82).toInt + (0) ≤ (hr14 137 82).toInt ∧ (hr14 137 82).toInt ≤ (h 137 82).toInt + (0) by omega) (show (h 137 83).toInt + (0) ≤ (hr14 137 83).toInt ∧ (hr14 137 83).toInt ≤ (h 137 83).toInt + (0) by omega) (show (h 137 2).toInt + (0) ≤ (hr14 137 2).toInt ∧ (hr14 137 2).toInt ≤ (h 137 2).toInt + (0) by omega) (E9.congr rfl rfl) (S9.congr rfl rfl rfl rfl rfl rfl rfl) (K9.congr rfl rfl) 
  have J_58 : ∀ (y58_0 : Int32) (hJ : pH) (H : Heap) (locs : List Loc) (ls : Array Slot), pV Z hJ s.heap H locs → Iv Z hJ → agr [(137, 0)] h hJ → lv_has ls 3 [(0, .ref (zB Z + 137))] → ((h 137 56).toInt + (0) ≤ (hJ 137 56).toInt ∧ (hJ 137 56).toInt ≤ (h 137 56).toInt + (0)) → ((h 137 70).toInt + (0) ≤ (hJ 137 70).toInt ∧ (hJ 137 70).toInt ≤ (h 137 70).toInt + (0)) → ((h 137 58).toInt + (0) ≤ (hJ 137 58).toInt ∧ (hJ 137 58).toInt ≤ (h 137 58).toInt + (0)) → ((h 137 25).toInt + (0) ≤ (hJ 137 25).toInt ∧ (hJ 137 25).toInt ≤ (h 137 25).toInt + (0)) → ((h 137 27).toInt + (0) ≤ (hJ 137 27).toInt ∧ (hJ 137 27).toInt ≤ (h 137 27).toInt + (0)) → ((h 137 82).toInt + (0) ≤ (hJ 137 82).toInt ∧ (hJ 137 82).toInt ≤ (h 137 82).toInt + (0)) → ((h 137 83).toInt + (0) ≤ (hJ 137 83).toInt ∧ (hJ 137 83).toInt ≤ (h 137 83).toInt + (0)) → ((h 137 2).toInt + (0) ≤ (hJ 137 2).toInt ∧ (hJ 137 2).toInt ≤ (h 137 2).toInt + (0)) → mE hJ → mS hJ → mK hJ → W p l e (pRm 2 0 0 47) s m ([.ref (zB Z + 137)] : List Value).toArray below meth c H locs 0 0 (MQ below (pQi Z (fun r Z1 h1 => Z = Z1 ∧ Iv Z h1 ∧ agr [(137, 0), (137, 18), (137, 19), (137, 20), (137, 22), (137, 21), (137, 23), (137, 40), (137, 48), (137, 56), (137, 58), (137, 70), (137, 71), (153, 1000), (137, 83), (187, 1000), (137, 84), (137, 85), (137, 86), (137, 87)] h h1 ∧ (mE h1) ∧ (mS h1) ∧ (mK h1) ∧ ((h1 137 83).toInt ≤ (h 137 82).toInt ∨ (h1 137 83).toInt = (h 137 83).toInt))) ([.ref (zB Z + 137)] : List Value).toArray s 0 0 (pA (zB Z))) (F0 m 58 ls [.int y58_0, .ref (zB Z + 137)]) := by
    intro y58_0 hJ H locs ls V I A hl gd_58_56 gd_58_70 gd_58_58 gd_58_25 gd_58_27 gd_58_82 gd_58_83 gd_58_2 E9 S9 K9
    refine pk_v (pr_V M V (m_X12_give l S I y58_0 ) km_X12_give (sm_this S) pC12 lkM_X12_300 rfl hl.1 rfl (Nat.le_of_ble_eq_true rfl) ⟨Nat.le_of_ble_eq_true rfl, Nat.le_of_ble_eq_true rfl⟩ ⟨Nat.le_of_ble_eq_true rfl, Nat.le_of_ble_eq_true rfl⟩ dX12_end_58) V (fun Zr15 hr15 H locs pr15 _ _ V => ?_)
    obtain ⟨rfl, I, pA_r15⟩ := pr15
    have A := A.wk (l3 := [(137, 0), (137, 21), (137, 22)]) (by decide)
    have A := A.tr pA_r15 (by decide)
    have E9 : mE hr15 := E9.congr (pA_r15.get 137 2 (by decide)) (pA_r15.row 138 (by decide))
    have S9 : mS hr15 := S9.congr (pA_r15.get 137 56 (by decide)) (pA_r15.get 137 70 (by decide)) (pA_r15.get 137 58 (by decide)) (pA_r15.row 162 (by decide)) (pA_r15.row 163 (by decide)) (pA_r15.row 165 (by decide)) (pA_r15.row 166 (by decide))
    have K9 : mK hr15 := K9.congr (pA_r15.row 185 (by decide)) (pA_r15.row 184 (by decide))
    have w_r15_56 : (hr15 137 56).toInt = (hJ 137 56).toInt := congrArg Int32.toInt (pA_r15.get 137 56 (by decide))
    have w_r15_70 : (hr15 137 70).toInt = (hJ 137 70).toInt := congrArg Int32.toInt (pA_r15.get 137 70 (by decide))
    have w_r15_58 : (hr15 137 58).toInt = (hJ 137 58).toInt := congrArg Int32.toInt (pA_r15.get 137 58 (by decide))
    have w_r15_25 : (hr15 137 25).toInt = (hJ 137 25).toInt := congrArg Int32.toInt (pA_r15.get 137 25 (by decide))
    have w_r15_27 : (hr15 137 27).toInt = (hJ 137 27).toInt := congrArg Int32.toInt (pA_r15.get 137 27 (by decide))
    have w_r15_82 : (hr15 137 82).toInt = (hJ 137 82).toInt := congrArg Int32.toInt (pA_r15.get 137 82 (by decide))
    have w_r15_83 : (hr15 137 83).toInt = (hJ 137 83).toInt := congrArg Int32.toInt (pA_r15.get 137 83 (by decide))
    have w_r15_2 : (hr15 137 2).toInt = (hJ 137 2).toInt := congrArg Int32.toInt (pA_r15.get 137 2 (by decide))
    exact J_61 _ _ _ _ V I (A.wk (by decide)) (lv_sub hl [0] rfl) (show (h 137 56).toInt + (0) ≤ (hr15 137 56).toInt ∧ (hr15 137 56).toInt ≤ (h 137 56).toInt + (0) by omega) (show (h 137 70).toInt + (0) ≤ (hr15 137 70).toInt ∧ (hr15 137 70).toInt ≤ (h 137 70).toInt + (0) by omega) (show (h 137 58).toInt + (0) ≤ (hr15 137 58).toInt ∧ (hr15 137 58).toInt ≤ (h 137 58).toInt + (0) by omega) (show (h 137 25).toInt + (0) ≤ (hr15 137 25).toInt ∧ (hr15 137 25).toInt ≤ (h 137 25).toInt + (0) by omega) (show (h 137 27).toInt + (0) ≤ (hr15 137 27).toInt ∧ (hr15 137 27).toInt ≤ (h 137 27).toInt + (0) by omega) (show (h 137 82).toInt + (0) ≤ (hr15 137 82).toInt ∧ (hr15 137 82).toInt ≤ (h 137 82).toInt + (0) by omega) (show (h 137 83).toInt + (0) ≤ (hr15 137 83).toInt ∧ (hr15 137 83).toInt ≤ (h 137 83).toInt + (0) by omega) (show (h 137 2).toInt + (0) ≤ (hr15 137 2).toInt ∧ (hr15 137 2).toInt ≤ (h 137 2).toInt + (0) by omega) (E9.congr rfl rfl) (S9.congr rfl rfl rfl rfl rfl rfl rfl) (K9.congr rfl rfl) 
  have J_19 : ∀ (hJ : pH) (H : Heap) (locs : List Loc) (ls : Array Slot), pV Z hJ s.heap H locs → Iv Z hJ → agr [(137, 0)] h hJ → lv_has ls 3 [(0, .ref (zB Z + 137))] → ((h 137 56).toInt + (0) ≤ (hJ 137 56).toInt ∧ (hJ 137 56).toInt ≤ (h 137 56).toInt + (0)) → ((h 137 70).toInt + (0) ≤ (hJ 137 70).toInt ∧ (hJ 137 70).toInt ≤ (h 137 70).toInt + (0)) → ((h 137 58).toInt + (0) ≤ (hJ 137 58).toInt ∧ (hJ 137 58).toInt ≤ (h 137 58).toInt + (0)) → ((h 137 25).toInt + (0) ≤ (hJ 137 25).toInt ∧ (hJ 137 25).toInt ≤ (h 137 25).toInt + (0)) → ((h 137 27).toInt + (0) ≤ (hJ 137 27).toInt ∧ (hJ 137 27).toInt ≤ (h 137 27).toInt + (0)) → ((h 137 82).toInt + (0) ≤ (hJ 137 82).toInt ∧ (hJ 137 82).toInt ≤ (h 137 82).toInt + (0)) → ((h 137 83).toInt + (0) ≤ (hJ 137 83).toInt ∧ (hJ 137 83).toInt ≤ (h 137 83).toInt + (0)) → ((h 137 2).toInt + (0) ≤ (hJ 137 2).toInt ∧ (hJ 137 2).toInt ≤ (h 137 2).toInt + (0)) → mE hJ → mS hJ → mK hJ → W p l e (pRm 2 0 0 47) s m ([.ref (zB Z + 137)] : List Value).toArray below meth c H locs 0 0 (MQ below (pQi Z (fun r Z1 h1 => Z = Z1 ∧ Iv Z h1 ∧ agr [(137, 0), (137, 18), (137, 19), (137, 20), (137, 22), (137, 21), (137, 23), (137, 40), (137, 48), (137, 56), (137, 58), (137, 70), (137, 71), (153, 1000), (137, 83), (187, 1000), (137, 84), (137, 85), (137, 86), (137, 87)] h h1 ∧ (mE h1) ∧ (mS h1) ∧ (mK h1) ∧ ((h1 137 83).toInt ≤ (h 137 82).toInt ∨ (h1 137 83).toInt = (h 137 83).toInt))) ([.ref (zB Z + 137)] : List Value).toArray s 0 0 (pA (zB Z))) (F0 m 19 ls []) := by
    intro hJ H locs ls V I A hl gd_19_56 gd_19_70 gd_19_58 gd_19_25 gd_19_27 gd_19_82 gd_19_83 gd_19_2 E9 S9 K9
    refine lv_aload_n hx hb dX12_end_19 rfl (lv_at hl 0 rfl) ?_
    refine pk_i (pr_V M V (m_X12_breaks l S I  ) km_X12_breaks (sm_this S) pC12 lkM_X12_239 rfl hl.1 rfl (Nat.le_of_ble_eq_true rfl) ⟨Nat.le_of_ble_eq_true rfl, Nat.le_of_ble_eq_true rfl⟩ ⟨Nat.le_of_ble_eq_true rfl, Nat.le_of_ble_eq_true rfl⟩ dX12_end_20) V (fun r16 Zr16 hr16 H locs pr16 _ _ V => ?_)
    obtain ⟨rfl, I, pA_r16, fr16_0, fr16_1⟩ := pr16
    have A := A.wk (l3 := [(137, 0), (137, 18), (137, 19), (137, 20), (137, 22), (137, 21), (137, 23), (137, 40), (137, 48), (137, 56), (137, 58), (137, 70), (137, 71), (153, 1000)]) (by decide)
    have A := A.tr pA_r16 (by decide)
    have E9 : mE hr16 := E9.congr (pA_r16.get 137 2 (by decide)) (pA_r16.row 138 (by decide))
    have S9 : mS hr16 := fr16_1 (S9.congr rfl rfl rfl rfl rfl rfl rfl)
    have K9 : mK hr16 := K9.congr (pA_r16.row 185 (by decide)) (pA_r16.row 184 (by decide))
    have w_r16_25 : (hr16 137 25).toInt = (hJ 137 25).toInt := congrArg Int32.toInt (pA_r16.get 137 25 (by decide))
    have w_r16_27 : (hr16 137 27).toInt = (hJ 137 27).toInt := congrArg Int32.toInt (pA_r16.get 137 27 (by decide))
    have w_r16_82 : (hr16 137 82).toInt = (hJ 137 82).toInt := congrArg Int32.toInt (pA_r16.get 137 82 (by decide))
    have w_r16_83 : (hr16 137 83).toInt = (hJ 137 83).toInt := congrArg Int32.toInt (pA_r16.get 137 83 (by decide))
    have w_r16_2 : (hr16 137 2).toInt = (hJ 137 2).toInt := congrArg Int32.toInt (pA_r16.get 137 2 (by decide))
    exact pe_i M V rfl rfl hr hlk rfl ⟨rfl, I, A.wk (by decide), (E9.congr rfl rfl), (S9.congr rfl rfl rfl rfl rfl rfl rfl), (K9.congr rfl rfl), (show (hr16 137 83).toInt ≤ (h 137 82).toInt ∨ (hr16 137 83).toInt = (h 137 83).toInt by first | omega | (have z8 := sumE_le h x141_1.toInt (0 : Int32).toNatClampNeg (by omega); have z7 := e141; omega))⟩ ⟨Nat.le_refl _, Nat.le_refl _⟩ dX12_end_23
  refine lv_aload_n hx hb dX12_end_0 rfl (lv_at hl 0 rfl) ?_
  refine lv_iconst (v := 0) hx hb dX12_end_1 (by decide) ?_
  refine pp_i M V 12 0 (sm_this S) pC12 fk12_0 rfl lkF_X12_175 ⟨rfl, rfl⟩ dX12_end_2 (fun H locs V => ?_)
  have A := A.wk (l3 := [(137, 0)]) (by decide)
  have A := A.up (o := 137) (k := 0) (v := (0 : Int32)) (by decide)
  have I := I.up (k := 0) (v := (0 : Int32)) (sm_this S) (pi_full _)
  refine lv_aload_n hx hb dX12_end_5 rfl (lv_at hl 0 rfl) ?_
  refine pg_i M V 12 18 (sm_this S) pC12 fk12_18 lkF_X12_236 dX12_end_6 ?_
  refine lv_topi (fun v17 ev17 => ?_)
  have tv17 : 0 ≤ v17.toInt ∧ v17.toInt ≤ 1 := by rw [ev17]; exact I.get (sm_this S) 18
  refine lv_if_eq (tgt := 19) hx hb dX12_end_9 (by decide) (fun c_9 => ?_) (fun c_9 => ?_)
  · skip
    have k_0 : (0 : Int32).toInt = 0 := rfl
    have c_9 := pi_eq.mp c_9
    exact J_19 _ _ _ _ V I (A.wk (by decide)) (lv_sub hl [0] rfl) (show (h 137 56).toInt + (0) ≤ (h 137 56).toInt ∧ (h 137 56).toInt ≤ (h 137 56).toInt + (0) by omega) (show (h 137 70).toInt + (0) ≤ (h 137 70).toInt ∧ (h 137 70).toInt ≤ (h 137 70).toInt + (0) by omega) (show (h 137 58).toInt + (0) ≤ (h 137 58).toInt ∧ (h 137 58).toInt ≤ (h 137 58).toInt + (0) by omega) (show (h 137 25).toInt + (0) ≤ (h 137 25).toInt ∧ (h 137 25).toInt ≤ (h 137 25).toInt + (0) by omega) (show (h 137 27).toInt + (0) ≤ (h 137 27).toInt ∧ (h 137 27).toInt ≤ (h 137 27).toInt + (0) by omega) (show (h 137 82).toInt + (0) ≤ (h 137 82).toInt ∧ (h 137 82).toInt ≤ (h 137 82).toInt + (0) by omega) (show (h 137 83).toInt + (0) ≤ (h 137 83).toInt ∧ (h 137 83).toInt ≤ (h 137 83).toInt + (0) by omega) (show (h 137 2).toInt + (0) ≤ (h 137 2).toInt ∧ (h 137 2).toInt ≤ (h 137 2).toInt + (0) by omega) (E9.congr rfl rfl) (S9.congr rfl rfl rfl rfl rfl rfl rfl) (K9.congr rfl rfl) 
  · skip
    have k_0 : (0 : Int32).toInt = 0 := rfl
    have c_9 := pi_ne c_9
    refine lv_aload_n hx hb dX12_end_12 rfl (lv_at hl 0 rfl) ?_
    refine pg_i M V 12 56 (sm_this S) pC12 fk12_56 lkF_X12_279 dX12_end_13 ?_
    refine lv_topi (fun v18 ev18 => ?_)
    have tv18 : 0 ≤ v18.toInt ∧ v18.toInt ≤ 40 := by rw [ev18]; exact I.get (sm_this S) 56
    have uv18 : v18.toInt = (h 137 56).toInt := congrArg Int32.toInt ev18
    refine lv_if_le (tgt := 24) hx hb dX12_end_16 (by decide) (fun c_16 => ?_) (fun c_16 => ?_)
    · skip
      have c_16 := pi_le.mp c_16
      refine lv_aload_n hx hb dX12_end_24 rfl (lv_at hl 0 rfl) ?_
      refine pg_r M V 12 11 (sm_this S) pC12 fk12_11 (sm_downHere S).2.2 lkF_X12_17 dX12_end_25 ?_
      refine lv_iconst (v := 0) hx hb dX12_end_28 (by decide) ?_
      refine pa_z M V (sm_downHere S).1 (by rw [(sm_downHere S).2.1]; exact pi_in (by omega)) dX12_end_29 ?_
      refine lv_topi (fun v19 ev19 => ?_)
      have tv19 : 0 ≤ v19.toInt ∧ v19.toInt ≤ 1 := by rw [ev19]; exact I.get (sm_downHere S).1 _
      refine lv_if_eq (tgt := 61) hx hb dX12_end_30 (by decide) (fun c_30 => ?_) (fun c_30 => ?_)
      · skip
        have c_30 := pi_eq.mp c_30
        exact J_61 _ _ _ _ V I (A.wk (by decide)) (lv_sub hl [0] rfl) (show (h 137 56).toInt + (0) ≤ (h 137 56).toInt ∧ (h 137 56).toInt ≤ (h 137 56).toInt + (0) by omega) (show (h 137 70).toInt + (0) ≤ (h 137 70).toInt ∧ (h 137 70).toInt ≤ (h 137 70).toInt + (0) by omega) (show (h 137 58).toInt + (0) ≤ (h 137 58).toInt ∧ (h 137 58).toInt ≤ (h 137 58).toInt + (0) by omega) (show (h 137 25).toInt + (0) ≤ (h 137 25).toInt ∧ (h 137 25).toInt ≤ (h 137 25).toInt + (0) by omega) (show (h 137 27).toInt + (0) ≤ (h 137 27).toInt ∧ (h 137 27).toInt ≤ (h 137 27).toInt + (0) by omega) (show (h 137 82).toInt + (0) ≤ (h 137 82).toInt ∧ (h 137 82).toInt ≤ (h 137 82).toInt + (0) by omega) (show (h 137 83).toInt + (0) ≤ (h 137 83).toInt ∧ (h 137 83).toInt ≤ (h 137 83).toInt + (0) by omega) (show (h 137 2).toInt + (0) ≤ (h 137 2).toInt ∧ (h 137 2).toInt ≤ (h 137 2).toInt + (0) by omega) (E9.congr rfl rfl) (S9.congr rfl rfl rfl rfl rfl rfl rfl) (K9.congr rfl rfl) 
      · skip
        have c_30 := pi_ne c_30
        refine lv_aload_n hx hb dX12_end_33 rfl (lv_at hl 0 rfl) ?_
        refine pg_i M V 12 28 (sm_this S) pC12 fk12_28 lkF_X12_273 dX12_end_34 ?_
        refine lv_topi (fun v20 ev20 => ?_)
        have tv20 : 0 ≤ v20.toInt ∧ v20.toInt ≤ 1 := by rw [ev20]; exact I.get (sm_this S) 28
        refine lv_if_ne (tgt := 61) hx hb dX12_end_37 (by decide) (fun c_37 => ?_) (fun c_37 => ?_)
        · skip
          have c_37 := pi_ne c_37
          exact J_61 _ _ _ _ V I (A.wk (by decide)) (lv_sub hl [0] rfl) (show (h 137 56).toInt + (0) ≤ (h 137 56).toInt ∧ (h 137 56).toInt ≤ (h 137 56).toInt + (0) by omega) (show (h 137 70).toInt + (0) ≤ (h 137 70).toInt ∧ (h 137 70).toInt ≤ (h 137 70).toInt + (0) by omega) (show (h 137 58).toInt + (0) ≤ (h 137 58).toInt ∧ (h 137 58).toInt ≤ (h 137 58).toInt + (0) by omega) (show (h 137 25).toInt + (0) ≤ (h 137 25).toInt ∧ (h 137 25).toInt ≤ (h 137 25).toInt + (0) by omega) (show (h 137 27).toInt + (0) ≤ (h 137 27).toInt ∧ (h 137 27).toInt ≤ (h 137 27).toInt + (0) by omega) (show (h 137 82).toInt + (0) ≤ (h 137 82).toInt ∧ (h 137 82).toInt ≤ (h 137 82).toInt + (0) by omega) (show (h 137 83).toInt + (0) ≤ (h 137 83).toInt ∧ (h 137 83).toInt ≤ (h 137 83).toInt + (0) by omega) (show (h 137 2).toInt + (0) ≤ (h 137 2).toInt ∧ (h 137 2).toInt ≤ (h 137 2).toInt + (0) by omega) (E9.congr rfl rfl) (S9.congr rfl rfl rfl rfl rfl rfl rfl) (K9.congr rfl rfl) 
        · skip
          have c_37 := pi_eq.mp c_37
          refine lv_aload_n hx hb dX12_end_40 rfl (lv_at hl 0 rfl) ?_
          refine lv_aload_n hx hb dX12_end_41 rfl (lv_at hl 0 rfl) ?_
          refine pg_i M V 12 27 (sm_this S) pC12 fk12_27 lkF_X12_270 dX12_end_42 ?_
          refine lv_topi (fun v21 ev21 => ?_)
          have tv21 : 0 ≤ v21.toInt ∧ v21.toInt ≤ 600 := by rw [ev21]; exact I.get (sm_this S) 27
          have uv21 : v21.toInt = (h 137 27).toInt := congrArg Int32.toInt ev21
          refine lv_if_le (tgt := 57) hx hb dX12_end_45 (by decide) (fun c_45 => ?_) (fun c_45 => ?_)
          · skip
            have c_45 := pi_le.mp c_45
            refine lv_iconst (v := 0) hx hb dX12_end_57 (by decide) ?_
            exact J_58 (0 : Int32) _ _ _ _ V I (A.wk (by decide)) (lv_sub hl [0] rfl) (show (h 137 56).toInt + (0) ≤ (h 137 56).toInt ∧ (h 137 56).toInt ≤ (h 137 56).toInt + (0) by omega) (show (h 137 70).toInt + (0) ≤ (h 137 70).toInt ∧ (h 137 70).toInt ≤ (h 137 70).toInt + (0) by omega) (show (h 137 58).toInt + (0) ≤ (h 137 58).toInt ∧ (h 137 58).toInt ≤ (h 137 58).toInt + (0) by omega) (show (h 137 25).toInt + (0) ≤ (h 137 25).toInt ∧ (h 137 25).toInt ≤ (h 137 25).toInt + (0) by omega) (show (h 137 27).toInt + (0) ≤ (h 137 27).toInt ∧ (h 137 27).toInt ≤ (h 137 27).toInt + (0) by omega) (show (h 137 82).toInt + (0) ≤ (h 137 82).toInt ∧ (h 137 82).toInt ≤ (h 137 82).toInt + (0) by omega) (show (h 137 83).toInt + (0) ≤ (h 137 83).toInt ∧ (h 137 83).toInt ≤ (h 137 83).toInt + (0) by omega) (show (h 137 2).toInt + (0) ≤ (h 137 2).toInt ∧ (h 137 2).toInt ≤ (h 137 2).toInt + (0) by omega) (E9.congr rfl rfl) (S9.congr rfl rfl rfl rfl rfl rfl rfl) (K9.congr rfl rfl) 
          · skip
            have c_45 := pi_le' c_45
            refine lv_aload_n hx hb dX12_end_48 rfl (lv_at hl 0 rfl) ?_
            refine pg_r M V 12 26 (sm_this S) pC12 fk12_26 (sm_behaved S).2.2 lkF_X12_33 dX12_end_49 ?_
            refine lv_iconst (v := 0) hx hb dX12_end_52 (by decide) ?_
            refine pa_i M V (sm_behaved S).1 (by rw [(sm_behaved S).2.1]; exact pi_in (by omega)) dX12_end_53 ?_
            refine lv_topi (fun v22 ev22 => ?_)
            refine lv_goto (tgt := 58) hx hb dX12_end_54 (by decide) ?_
            exact J_58 v22 _ _ _ _ V I (A.wk (by decide)) (lv_sub hl [0] rfl) (show (h 137 56).toInt + (0) ≤ (h 137 56).toInt ∧ (h 137 56).toInt ≤ (h 137 56).toInt + (0) by omega) (show (h 137 70).toInt + (0) ≤ (h 137 70).toInt ∧ (h 137 70).toInt ≤ (h 137 70).toInt + (0) by omega) (show (h 137 58).toInt + (0) ≤ (h 137 58).toInt ∧ (h 137 58).toInt ≤ (h 137 58).toInt + (0) by omega) (show (h 137 25).toInt + (0) ≤ (h 137 25).toInt ∧ (h 137 25).toInt ≤ (h 137 25).toInt + (0) by omega) (show (h 137 27).toInt + (0) ≤ (h 137 27).toInt ∧ (h 137 27).toInt ≤ (h 137 27).toInt + (0) by omega) (show (h 137 82).toInt + (0) ≤ (h 137 82).toInt ∧ (h 137 82).toInt ≤ (h 137 82).toInt + (0) by omega) (show (h 137 83).toInt + (0) ≤ (h 137 83).toInt ∧ (h 137 83).toInt ≤ (h 137 83).toInt + (0) by omega) (show (h 137 2).toInt + (0) ≤ (h 137 2).toInt ∧ (h 137 2).toInt ≤ (h 137 2).toInt + (0) by omega) (E9.congr rfl rfl) (S9.congr rfl rfl rfl rfl rfl rfl rfl) (K9.congr rfl rfl) 
    · skip
      have c_16 := pi_le' c_16
      exact J_19 _ _ _ _ V I (A.wk (by decide)) (lv_sub hl [0] rfl) (show (h 137 56).toInt + (0) ≤ (h 137 56).toInt ∧ (h 137 56).toInt ≤ (h 137 56).toInt + (0) by omega) (show (h 137 70).toInt + (0) ≤ (h 137 70).toInt ∧ (h 137 70).toInt ≤ (h 137 70).toInt + (0) by omega) (show (h 137 58).toInt + (0) ≤ (h 137 58).toInt ∧ (h 137 58).toInt ≤ (h 137 58).toInt + (0) by omega) (show (h 137 25).toInt + (0) ≤ (h 137 25).toInt ∧ (h 137 25).toInt ≤ (h 137 25).toInt + (0) by omega) (show (h 137 27).toInt + (0) ≤ (h 137 27).toInt ∧ (h 137 27).toInt ≤ (h 137 27).toInt + (0) by omega) (show (h 137 82).toInt + (0) ≤ (h 137 82).toInt ∧ (h 137 82).toInt ≤ (h 137 82).toInt + (0) by omega) (show (h 137 83).toInt + (0) ≤ (h 137 83).toInt ∧ (h 137 83).toInt ≤ (h 137 83).toInt + (0) by omega) (show (h 137 2).toInt + (0) ≤ (h 137 2).toInt ∧ (h 137 2).toInt ≤ (h 137 2).toInt + (0) by omega) (E9.congr rfl rfl) (S9.congr rfl rfl rfl rfl rfl rfl rfl) (K9.congr rfl rfl) 
