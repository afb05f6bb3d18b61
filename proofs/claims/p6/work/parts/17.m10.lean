theorem dX12_close_0 : decode cX12_close 0 = .ok (.aload_n 0, 1) := by decide +kernel
theorem dX12_close_1 : decode cX12_close 1 = .ok (.iconst 0, 1) := by decide +kernel
theorem dX12_close_2 : decode cX12_close 2 = .ok (.putfield 175, 3) := by decide +kernel
theorem dX12_close_5 : decode cX12_close 5 = .ok (.aload_n 0, 1) := by decide +kernel
theorem dX12_close_6 : decode cX12_close 6 = .ok (.getfield 236, 3) := by decide +kernel
theorem dX12_close_9 : decode cX12_close 9 = .ok (.ifCond .eq 10, 3) := by decide +kernel
theorem dX12_close_12 : decode cX12_close 12 = .ok (.aload_n 0, 1) := by decide +kernel
theorem dX12_close_13 : decode cX12_close 13 = .ok (.getfield 279, 3) := by decide +kernel
theorem dX12_close_16 : decode cX12_close 16 = .ok (.ifCond .ne 8, 3) := by decide +kernel
theorem dX12_close_19 : decode cX12_close 19 = .ok (.aload_n 0, 1) := by decide +kernel
theorem dX12_close_20 : decode cX12_close 20 = .ok (.invokevirtual 239, 3) := by decide +kernel
theorem dX12_close_23 : decode cX12_close 23 = .ok (.ireturn, 1) := by decide +kernel
theorem dX12_close_24 : decode cX12_close 24 = .ok (.aload_n 0, 1) := by decide +kernel
theorem dX12_close_25 : decode cX12_close 25 = .ok (.dup, 1) := by decide +kernel
theorem dX12_close_26 : decode cX12_close 26 = .ok (.getfield 279, 3) := by decide +kernel
theorem dX12_close_29 : decode cX12_close 29 = .ok (.iconst 1, 1) := by decide +kernel
theorem dX12_close_30 : decode cX12_close 30 = .ok (.isub, 1) := by decide +kernel
theorem dX12_close_31 : decode cX12_close 31 = .ok (.putfield 279, 3) := by decide +kernel
theorem dX12_close_34 : decode cX12_close 34 = .ok (.aload_n 0, 1) := by decide +kernel
theorem dX12_close_35 : decode cX12_close 35 = .ok (.getfield 93, 3) := by decide +kernel
theorem dX12_close_38 : decode cX12_close 38 = .ok (.aload_n 0, 1) := by decide +kernel
theorem dX12_close_39 : decode cX12_close 39 = .ok (.getfield 279, 3) := by decide +kernel
theorem dX12_close_42 : decode cX12_close 42 = .ok (.iaload, 1) := by decide +kernel
theorem dX12_close_43 : decode cX12_close 43 = .ok (.istore_n 1, 1) := by decide +kernel
theorem dX12_close_44 : decode cX12_close 44 = .ok (.aload_n 0, 1) := by decide +kernel
theorem dX12_close_45 : decode cX12_close 45 = .ok (.getfield 102, 3) := by decide +kernel
theorem dX12_close_48 : decode cX12_close 48 = .ok (.aload_n 0, 1) := by decide +kernel
theorem dX12_close_49 : decode cX12_close 49 = .ok (.getfield 279, 3) := by decide +kernel
theorem dX12_close_52 : decode cX12_close 52 = .ok (.iaload, 1) := by decide +kernel
theorem dX12_close_53 : decode cX12_close 53 = .ok (.istore_n 2, 1) := by decide +kernel
theorem dX12_close_54 : decode cX12_close 54 = .ok (.aload_n 0, 1) := by decide +kernel
theorem dX12_close_55 : decode cX12_close 55 = .ok (.aload_n 0, 1) := by decide +kernel
theorem dX12_close_56 : decode cX12_close 56 = .ok (.getfield 96, 3) := by decide +kernel
theorem dX12_close_59 : decode cX12_close 59 = .ok (.aload_n 0, 1) := by decide +kernel
theorem dX12_close_60 : decode cX12_close 60 = .ok (.getfield 279, 3) := by decide +kernel
theorem dX12_close_63 : decode cX12_close 63 = .ok (.iaload, 1) := by decide +kernel
theorem dX12_close_64 : decode cX12_close 64 = .ok (.putfield 282, 3) := by decide +kernel
theorem dX12_close_67 : decode cX12_close 67 = .ok (.iconst 0, 1) := by decide +kernel
theorem dX12_close_68 : decode cX12_close 68 = .ok (.istore_n 3, 1) := by decide +kernel
theorem dX12_close_69 : decode cX12_close 69 = .ok (.iload_n 3, 1) := by decide +kernel
theorem dX12_close_70 : decode cX12_close 70 = .ok (.iconst 4, 1) := by decide +kernel
theorem dX12_close_71 : decode cX12_close 71 = .ok (.if_icmp .ge 28, 3) := by decide +kernel
theorem dX12_close_74 : decode cX12_close 74 = .ok (.aload_n 0, 1) := by decide +kernel
theorem dX12_close_75 : decode cX12_close 75 = .ok (.getfield 147, 3) := by decide +kernel
theorem dX12_close_78 : decode cX12_close 78 = .ok (.iload_n 3, 1) := by decide +kernel
theorem dX12_close_79 : decode cX12_close 79 = .ok (.aload_n 0, 1) := by decide +kernel
theorem dX12_close_80 : decode cX12_close 80 = .ok (.getfield 99, 3) := by decide +kernel
theorem dX12_close_83 : decode cX12_close 83 = .ok (.iconst 4, 1) := by decide +kernel
theorem dX12_close_84 : decode cX12_close 84 = .ok (.aload_n 0, 1) := by decide +kernel
theorem dX12_close_85 : decode cX12_close 85 = .ok (.getfield 279, 3) := by decide +kernel
theorem dX12_close_88 : decode cX12_close 88 = .ok (.imul, 1) := by decide +kernel
theorem dX12_close_89 : decode cX12_close 89 = .ok (.iload_n 3, 1) := by decide +kernel
theorem dX12_close_90 : decode cX12_close 90 = .ok (.iadd, 1) := by decide +kernel
theorem dX12_close_91 : decode cX12_close 91 = .ok (.iaload, 1) := by decide +kernel
theorem dX12_close_92 : decode cX12_close 92 = .ok (.iastore, 1) := by decide +kernel
theorem dX12_close_93 : decode cX12_close 93 = .ok (.iinc 3 1, 3) := by decide +kernel
theorem dX12_close_96 : decode cX12_close 96 = .ok (.goto (-27), 3) := by decide +kernel
theorem dX12_close_99 : decode cX12_close 99 = .ok (.iload_n 1, 1) := by decide +kernel
theorem dX12_close_100 : decode cX12_close 100 = .ok (.ifCond .ne 30, 3) := by decide +kernel
theorem dX12_close_103 : decode cX12_close 103 = .ok (.aload_n 0, 1) := by decide +kernel
theorem dX12_close_104 : decode cX12_close 104 = .ok (.getfield 51, 3) := by decide +kernel
theorem dX12_close_107 : decode cX12_close 107 = .ok (.aload_n 0, 1) := by decide +kernel
theorem dX12_close_108 : decode cX12_close 108 = .ok (.getfield 105, 3) := by decide +kernel
theorem dX12_close_111 : decode cX12_close 111 = .ok (.aload_n 0, 1) := by decide +kernel
theorem dX12_close_112 : decode cX12_close 112 = .ok (.getfield 279, 3) := by decide +kernel
theorem dX12_close_115 : decode cX12_close 115 = .ok (.iaload, 1) := by decide +kernel
theorem dX12_close_116 : decode cX12_close 116 = .ok (.aload_n 0, 1) := by decide +kernel
theorem dX12_close_117 : decode cX12_close 117 = .ok (.getfield 132, 3) := by decide +kernel
theorem dX12_close_120 : decode cX12_close 120 = .ok (.iload_n 2, 1) := by decide +kernel
theorem dX12_close_121 : decode cX12_close 121 = .ok (.iaload, 1) := by decide +kernel
theorem dX12_close_122 : decode cX12_close 122 = .ok (.aload_n 0, 1) := by decide +kernel
theorem dX12_close_123 : decode cX12_close 123 = .ok (.getfield 114, 3) := by decide +kernel
theorem dX12_close_126 : decode cX12_close 126 = .ok (.iload_n 2, 1) := by decide +kernel
theorem dX12_close_127 : decode cX12_close 127 = .ok (.iaload, 1) := by decide +kernel
theorem dX12_close_128 : decode cX12_close 128 = .ok (.isub, 1) := by decide +kernel
theorem dX12_close_129 : decode cX12_close 129 = .ok (.iastore, 1) := by decide +kernel
theorem dX12_close_130 : decode cX12_close 130 = .ok (.iload_n 1, 1) := by decide +kernel
theorem dX12_close_131 : decode cX12_close 131 = .ok (.iconst 1, 1) := by decide +kernel
theorem dX12_close_132 : decode cX12_close 132 = .ok (.if_icmp .ne 30, 3) := by decide +kernel
theorem dX12_close_135 : decode cX12_close 135 = .ok (.aload_n 0, 1) := by decide +kernel
theorem dX12_close_136 : decode cX12_close 136 = .ok (.getfield 87, 3) := by decide +kernel
theorem dX12_close_139 : decode cX12_close 139 = .ok (.aload_n 0, 1) := by decide +kernel
theorem dX12_close_140 : decode cX12_close 140 = .ok (.getfield 105, 3) := by decide +kernel
theorem dX12_close_143 : decode cX12_close 143 = .ok (.aload_n 0, 1) := by decide +kernel
theorem dX12_close_144 : decode cX12_close 144 = .ok (.getfield 279, 3) := by decide +kernel
theorem dX12_close_147 : decode cX12_close 147 = .ok (.iaload, 1) := by decide +kernel
theorem dX12_close_148 : decode cX12_close 148 = .ok (.aload_n 0, 1) := by decide +kernel
theorem dX12_close_149 : decode cX12_close 149 = .ok (.getfield 132, 3) := by decide +kernel
theorem dX12_close_152 : decode cX12_close 152 = .ok (.iload_n 2, 1) := by decide +kernel
theorem dX12_close_153 : decode cX12_close 153 = .ok (.iaload, 1) := by decide +kernel
theorem dX12_close_154 : decode cX12_close 154 = .ok (.aload_n 0, 1) := by decide +kernel
theorem dX12_close_155 : decode cX12_close 155 = .ok (.getfield 114, 3) := by decide +kernel
theorem dX12_close_158 : decode cX12_close 158 = .ok (.iload_n 2, 1) := by decide +kernel
theorem dX12_close_159 : decode cX12_close 159 = .ok (.iaload, 1) := by decide +kernel
theorem dX12_close_160 : decode cX12_close 160 = .ok (.isub, 1) := by decide +kernel
theorem dX12_close_161 : decode cX12_close 161 = .ok (.iastore, 1) := by decide +kernel
theorem dX12_close_162 : decode cX12_close 162 = .ok (.iload_n 1, 1) := by decide +kernel
theorem dX12_close_163 : decode cX12_close 163 = .ok (.iconst 2, 1) := by decide +kernel
theorem dX12_close_164 : decode cX12_close 164 = .ok (.if_icmp .ne 14, 3) := by decide +kernel
theorem dX12_close_167 : decode cX12_close 167 = .ok (.aload_n 0, 1) := by decide +kernel
theorem dX12_close_168 : decode cX12_close 168 = .ok (.getfield 117, 3) := by decide +kernel
theorem dX12_close_171 : decode cX12_close 171 = .ok (.iload_n 2, 1) := by decide +kernel
theorem dX12_close_172 : decode cX12_close 172 = .ok (.dup2, 1) := by decide +kernel
theorem dX12_close_173 : decode cX12_close 173 = .ok (.iaload, 1) := by decide +kernel
theorem dX12_close_174 : decode cX12_close 174 = .ok (.bipush 10, 2) := by decide +kernel
theorem dX12_close_176 : decode cX12_close 176 = .ok (.isub, 1) := by decide +kernel
theorem dX12_close_177 : decode cX12_close 177 = .ok (.iastore, 1) := by decide +kernel
theorem dX12_close_178 : decode cX12_close 178 = .ok (.iload_n 1, 1) := by decide +kernel
theorem dX12_close_179 : decode cX12_close 179 = .ok (.iconst 2, 1) := by decide +kernel
theorem dX12_close_180 : decode cX12_close 180 = .ok (.if_icmp .eq 18, 3) := by decide +kernel
theorem dX12_close_183 : decode cX12_close 183 = .ok (.iload_n 1, 1) := by decide +kernel
theorem dX12_close_184 : decode cX12_close 184 = .ok (.iconst 3, 1) := by decide +kernel
theorem dX12_close_185 : decode cX12_close 185 = .ok (.if_icmp .eq 13, 3) := by decide +kernel
theorem dX12_close_188 : decode cX12_close 188 = .ok (.aload_n 0, 1) := by decide +kernel
theorem dX12_close_189 : decode cX12_close 189 = .ok (.dup, 1) := by decide +kernel
theorem dX12_close_190 : decode cX12_close 190 = .ok (.getfield 285, 3) := by decide +kernel
theorem dX12_close_193 : decode cX12_close 193 = .ok (.iconst 1, 1) := by decide +kernel
theorem dX12_close_194 : decode cX12_close 194 = .ok (.isub, 1) := by decide +kernel
theorem dX12_close_195 : decode cX12_close 195 = .ok (.putfield 285, 3) := by decide +kernel
theorem dX12_close_198 : decode cX12_close 198 = .ok (.iload_n 1, 1) := by decide +kernel
theorem dX12_close_199 : decode cX12_close 199 = .ok (.ifCond .ne 8, 3) := by decide +kernel
theorem dX12_close_202 : decode cX12_close 202 = .ok (.aload_n 0, 1) := by decide +kernel
theorem dX12_close_203 : decode cX12_close 203 = .ok (.iconst (-1), 1) := by decide +kernel
theorem dX12_close_204 : decode cX12_close 204 = .ok (.putfield 144, 3) := by decide +kernel
theorem dX12_close_207 : decode cX12_close 207 = .ok (.iload_n 1, 1) := by decide +kernel
theorem dX12_close_208 : decode cX12_close 208 = .ok (.iconst 4, 1) := by decide +kernel
theorem dX12_close_209 : decode cX12_close 209 = .ok (.if_icmp .ne 66, 3) := by decide +kernel
theorem dX12_close_212 : decode cX12_close 212 = .ok (.aload_n 0, 1) := by decide +kernel
theorem dX12_close_213 : decode cX12_close 213 = .ok (.getfield 285, 3) := by decide +kernel
theorem dX12_close_216 : decode cX12_close 216 = .ok (.iconst 1, 1) := by decide +kernel
theorem dX12_close_217 : decode cX12_close 217 = .ok (.isub, 1) := by decide +kernel
theorem dX12_close_218 : decode cX12_close 218 = .ok (.istore_n 3, 1) := by decide +kernel
theorem dX12_close_219 : decode cX12_close 219 = .ok (.aload_n 0, 1) := by decide +kernel
theorem dX12_close_220 : decode cX12_close 220 = .ok (.getfield 138, 3) := by decide +kernel
theorem dX12_close_223 : decode cX12_close 223 = .ok (.iload_n 3, 1) := by decide +kernel
theorem dX12_close_224 : decode cX12_close 224 = .ok (.iconst 0, 1) := by decide +kernel
theorem dX12_close_225 : decode cX12_close 225 = .ok (.bastore, 1) := by decide +kernel
theorem dX12_close_226 : decode cX12_close 226 = .ok (.aload_n 0, 1) := by decide +kernel
theorem dX12_close_227 : decode cX12_close 227 = .ok (.iload_n 3, 1) := by decide +kernel
theorem dX12_close_228 : decode cX12_close 228 = .ok (.aload_n 0, 1) := by decide +kernel
theorem dX12_close_229 : decode cX12_close 229 = .ok (.getfield 141, 3) := by decide +kernel
theorem dX12_close_232 : decode cX12_close 232 = .ok (.iload_n 2, 1) := by decide +kernel
theorem dX12_close_233 : decode cX12_close 233 = .ok (.baload, 1) := by decide +kernel
theorem dX12_close_234 : decode cX12_close 234 = .ok (.aload_n 0, 1) := by decide +kernel
theorem dX12_close_235 : decode cX12_close 235 = .ok (.getfield 111, 3) := by decide +kernel
theorem dX12_close_238 : decode cX12_close 238 = .ok (.iload_n 2, 1) := by decide +kernel
theorem dX12_close_239 : decode cX12_close 239 = .ok (.iaload, 1) := by decide +kernel
theorem dX12_close_240 : decode cX12_close 240 = .ok (.aload_n 0, 1) := by decide +kernel
theorem dX12_close_241 : decode cX12_close 241 = .ok (.getfield 114, 3) := by decide +kernel
theorem dX12_close_244 : decode cX12_close 244 = .ok (.iload_n 2, 1) := by decide +kernel
theorem dX12_close_245 : decode cX12_close 245 = .ok (.iaload, 1) := by decide +kernel
theorem dX12_close_246 : decode cX12_close 246 = .ok (.aload_n 0, 1) := by decide +kernel
theorem dX12_close_247 : decode cX12_close 247 = .ok (.getfield 129, 3) := by decide +kernel
theorem dX12_close_250 : decode cX12_close 250 = .ok (.iload_n 2, 1) := by decide +kernel
theorem dX12_close_251 : decode cX12_close 251 = .ok (.iaload, 1) := by decide +kernel
theorem dX12_close_252 : decode cX12_close 252 = .ok (.aload_n 0, 1) := by decide +kernel
theorem dX12_close_253 : decode cX12_close 253 = .ok (.getfield 111, 3) := by decide +kernel
theorem dX12_close_256 : decode cX12_close 256 = .ok (.iload_n 2, 1) := by decide +kernel
theorem dX12_close_257 : decode cX12_close 257 = .ok (.iaload, 1) := by decide +kernel
theorem dX12_close_258 : decode cX12_close 258 = .ok (.isub, 1) := by decide +kernel
theorem dX12_close_259 : decode cX12_close 259 = .ok (.aload_n 0, 1) := by decide +kernel
theorem dX12_close_260 : decode cX12_close 260 = .ok (.getfield 132, 3) := by decide +kernel
theorem dX12_close_263 : decode cX12_close 263 = .ok (.iload_n 2, 1) := by decide +kernel
theorem dX12_close_264 : decode cX12_close 264 = .ok (.iaload, 1) := by decide +kernel
theorem dX12_close_265 : decode cX12_close 265 = .ok (.aload_n 0, 1) := by decide +kernel
theorem dX12_close_266 : decode cX12_close 266 = .ok (.getfield 114, 3) := by decide +kernel
theorem dX12_close_269 : decode cX12_close 269 = .ok (.iload_n 2, 1) := by decide +kernel
theorem dX12_close_270 : decode cX12_close 270 = .ok (.iaload, 1) := by decide +kernel
theorem dX12_close_271 : decode cX12_close 271 = .ok (.isub, 1) := by decide +kernel
theorem dX12_close_272 : decode cX12_close 272 = .ok (.invokevirtual 346, 3) := by decide +kernel
theorem dX12_close_275 : decode cX12_close 275 = .ok (.iload_n 1, 1) := by decide +kernel
theorem dX12_close_276 : decode cX12_close 276 = .ok (.ireturn, 1) := by decide +kernel
set_option maxHeartbeats 4000000 in
set_option maxRecDepth 100000 in
theorem m_X12_close (l : Launch) {Z : pZ} (S : pSh Z) {h : pH} (I : Iv Z h) (E9 : mE h) (S9 : mS h) (K9 : mK h) : pMet l yX12_close cX12_close 4 (some .int) 2 0 0 47 Z h [.ref (zB Z + 137)] (pQi Z (fun r Z1 h1 => Z = Z1 ∧ Iv Z h1 ∧ agr [(137, 0), (137, 18), (137, 19), (137, 20), (137, 22), (137, 21), (137, 23), (137, 40), (137, 48), (137, 56), (137, 58), (137, 70), (137, 71), (153, 1000), (179, 1000), (150, 1000), (161, 1000), (170, 1000), (177, 1000), (180, 1000), (172, 1000), (173, 1000), (171, 1000), (174, 1000), (175, 1000), (176, 1000)] h h1 ∧ (mE h1) ∧ (mS h1) ∧ (mK h1))) := by
  refine pOfW (lv := [(0, .ref (zB Z + 137))]) (by decide) (Nat.le_of_ble_eq_true rfl) rfl ?_
  intro p e s m below meth c ls M hr hlk hnm V hl
  have hx := M.1.1
  have hb := M.1.2.1
  have A : agr [] h h := agr.rf
  have i_56 : 0 ≤ (h 137 56).toInt ∧ (h 137 56).toInt ≤ 40 := I.get (sm_this S) 56
  have i_70 : 0 ≤ (h 137 70).toInt ∧ (h 137 70).toInt ≤ 40 := I.get (sm_this S) 70
  have i_58 : 0 ≤ (h 137 58).toInt ∧ (h 137 58).toInt ≤ 40 := I.get (sm_this S) 58
  have i_25 : 0 ≤ (h 137 25).toInt ∧ (h 137 25).toInt ≤ 600 := I.get (sm_this S) 25
  have i_27 : 0 ≤ (h 137 27).toInt ∧ (h 137 27).toInt ≤ 600 := I.get (sm_this S) 27
  have i_82 : 0 ≤ (h 137 82).toInt ∧ (h 137 82).toInt ≤ 7000 := I.get (sm_this S) 82
  have i_83 : 0 ≤ (h 137 83).toInt ∧ (h 137 83).toInt ≤ 7000 := I.get (sm_this S) 83
  have i_2 : 0 ≤ (h 137 2).toInt ∧ (h 137 2).toInt ≤ 64 := I.get (sm_this S) 2
  have n9 := S9.num
  have S0 := S9
  have J_275 : ∀ (x275_1 : Int32) (x275_2 : Int32) (x275_3 : Int32) (hJ : pH) (H : Heap) (locs : List Loc) (ls : Array Slot), pV Z hJ s.heap H locs → Iv Z hJ → agr [(137, 0), (137, 56), (137, 58), (137, 70), (137, 71), (150, 1000), (161, 1000), (170, 1000), (171, 1000), (172, 1000), (173, 1000), (174, 1000), (175, 1000), (176, 1000), (177, 1000), (179, 1000), (180, 1000)] h hJ → lv_has ls 4 [(0, .ref (zB Z + 137)), (1, .int x275_1), (2, .int x275_2), (3, .int x275_3)] → (0 ≤ x275_1.toInt ∧ x275_1.toInt ≤ 4) → (-1 ≤ x275_2.toInt ∧ x275_2.toInt ≤ 39) → (-1 ≤ x275_3.toInt ∧ x275_3.toInt ≤ 39) → ((h 137 56).toInt + (-1) ≤ (hJ 137 56).toInt ∧ (hJ 137 56).toInt ≤ (h 137 56).toInt + (-1)) → ((h 137 70).toInt + (-1) ≤ (hJ 137 70).toInt ∧ (hJ 137 70).toInt ≤ (h 137 70).toInt + (0)) → (0 ≤ (hJ 137 58).toInt ∧ (hJ 137 58).toInt ≤ 40) → ((h 137 25).toInt + (0) ≤ (hJ 137 25).toInt ∧ (hJ 137 25).toInt ≤ (h 137 25).toInt + (0)) → ((h 137 27).toInt + (0) ≤ (hJ 137 27).toInt ∧ (hJ 137 27).toInt ≤ (h 137 27).toInt + (0)) → ((h 137 82).toInt + (0) ≤ (hJ 137 82).toInt ∧ (hJ 137 82).toInt ≤ (h 137 82).toInt + (0)) → ((h 137 83).toInt + (0) ≤ (hJ 137 83).toInt ∧ (hJ 137 83).toInt ≤ (h 137 83).toInt + (0)) → ((h 137 2).toInt + (0) ≤ (hJ 137 2).toInt ∧ (hJ 137 2).toInt ≤ (h 137 2).toInt + (0)) → (1 ≤ (h 137 56).toInt) → (x275_1 = h 162 (opn h)) → (x275_2 = h 165 (opn h)) → ((hJ 137 58).toInt = (h 163 (opn h)).toInt) → (((x275_1.toInt = 2 ∨ x275_1.toInt = 3) → (hJ 137 70).toInt = (h 137 70).toInt) ∧ (¬ (x275_1.toInt = 2 ∨ x275_1.toInt = 3) → (hJ 137 70).toInt = (h 137 70).toInt - 1)) → mE hJ → mK hJ → W p l e (pRm 2 0 0 47) s m ([.ref (zB Z + 137)] : List Value).toArray below meth c H locs 0 0 (MQ below (pQi Z (fun r Z1 h1 => Z = Z1 ∧ Iv Z h1 ∧ agr [(137, 0), (137, 18), (137, 19), (137, 20), (137, 22), (137, 21), (137, 23), (137, 40), (137, 48), (137, 56), (137, 58), (137, 70), (137, 71), (153, 1000), (179, 1000), (150, 1000), (161, 1000), (170, 1000), (177, 1000), (180, 1000), (172, 1000), (173, 1000), (171, 1000), (174, 1000), (175, 1000), (176, 1000)] h h1 ∧ (mE h1) ∧ (mS h1) ∧ (mK h1))) ([.ref (zB Z + 137)] : List Value).toArray s 0 0 (pA (zB Z))) (F0 m 275 ls []) := by
    intro x275_1 x275_2 x275_3 hJ H locs ls V I A hl g_275_1 g_275_2 g_275_3 gd_275_56 gd_275_70 gd_275_58 gd_275_25 gd_275_27 gd_275_82 gd_275_83 gd_275_2 hO eK eA eP eF E9 K9
    have t9 := mS.topI S0 hO eK eA
    refine lv_iload_n hx hb dX12_close_275 rfl (lv_at hl 1 rfl) ?_
    exact pe_i M V rfl rfl hr hlk rfl ⟨rfl, I, A.wk (by decide), (E9.congr rfl rfl), (mS.popI S0 hO eK (show (hJ 137 56).toInt = _ by omega) (show ((x275_1.toInt = 2 ∨ x275_1.toInt = 3) → (hJ 137 70).toInt = (h 137 70).toInt) ∧ (¬ (x275_1.toInt = 2 ∨ x275_1.toInt = 3) → (hJ 137 70).toInt = (h 137 70).toInt - 1) by omega) (show (hJ 137 58).toInt = _ by omega) (A.row 162 (by decide)) (A.row 163 (by decide)) (A.row 165 (by decide)) (A.row 166 (by decide))), (K9.congr rfl rfl)⟩ ⟨Nat.le_refl _, Nat.le_refl _⟩ dX12_close_276
  have J_207 : ∀ (x207_1 : Int32) (x207_2 : Int32) (x207_3 : Int32) (hJ : pH) (H : Heap) (locs : List Loc) (ls : Array Slot), pV Z hJ s.heap H locs → Iv Z hJ → agr [(137, 0), (137, 56), (137, 58), (137, 70), (137, 71), (150, 1000), (161, 1000), (170, 1000), (179, 1000)] h hJ → lv_has ls 4 [(0, .ref (zB Z + 137)), (1, .int x207_1), (2, .int x207_2), (3, .int x207_3)] → (0 ≤ x207_1.toInt ∧ x207_1.toInt ≤ 4) → (-1 ≤ x207_2.toInt ∧ x207_2.toInt ≤ 39) → (4 ≤ x207_3.toInt ∧ x207_3.toInt ≤ 4) → ((h 137 56).toInt + (-1) ≤ (hJ 137 56).toInt ∧ (hJ 137 56).toInt ≤ (h 137 56).toInt + (-1)) → ((h 137 70).toInt + (-1) ≤ (hJ 137 70).toInt ∧ (hJ 137 70).toInt ≤ (h 137 70).toInt + (0)) → (0 ≤ (hJ 137 58).toInt ∧ (hJ 137 58).toInt ≤ 40) → ((h 137 25).toInt + (0) ≤ (hJ 137 25).toInt ∧ (hJ 137 25).toInt ≤ (h 137 25).toInt + (0)) → ((h 137 27).toInt + (0) ≤ (hJ 137 27).toInt ∧ (hJ 137 27).toInt ≤ (h 137 27).toInt + (0)) → ((h 137 82).toInt + (0) ≤ (hJ 137 82).toInt ∧ (hJ 137 82).toInt ≤ (h 137 82).toInt + (0)) → ((h 137 83).toInt + (0) ≤ (hJ 137 83).toInt ∧ (hJ 137 83).toInt ≤ (h 137 83).toInt + (0)) → ((h 137 2).toInt + (0) ≤ (hJ 137 2).toInt ∧ (hJ 137 2).toInt ≤ (h 137 2).toInt + (0)) → (1 ≤ (h 137 56).toInt) → (x207_1 = h 162 (opn h)) → (x207_2 = h 165 (opn h)) → ((hJ 137 58).toInt = (h 163 (opn h)).toInt) → (((x207_1.toInt = 2 ∨ x207_1.toInt = 3) → (hJ 137 70).toInt = (h 137 70).toInt) ∧ (¬ (x207_1.toInt = 2 ∨ x207_1.toInt = 3) → (hJ 137 70).toInt = (h 137 70).toInt - 1)) → mE hJ → mK hJ → W p l e (pRm 2 0 0 47) s m ([.ref (zB Z + 137)] : List Value).toArray below meth c H locs 0 0 (MQ below (pQi Z (fun r Z1 h1 => Z = Z1 ∧ Iv Z h1 ∧ agr [(137, 0), (137, 18), (137, 19), (137, 20), (137, 22), (137, 21), (137, 23), (137, 40), (137, 48), (137, 56), (137, 58), (137, 70), (137, 71), (153, 1000), (179, 1000), (150, 1000), (161, 1000), (170, 1000), (177, 1000), (180, 1000), (172, 1000), (173, 1000), (171, 1000), (174, 1000), (175, 1000), (176, 1000)] h h1 ∧ (mE h1) ∧ (mS h1) ∧ (mK h1))) ([.ref (zB Z + 137)] : List Value).toArray s 0 0 (pA (zB Z))) (F0 m 207 ls []) := by
    intro x207_1 x207_2 x207_3 hJ H locs ls V I A hl g_207_1 g_207_2 g_207_3 gd_207_56 gd_207_70 gd_207_58 gd_207_25 gd_207_27 gd_207_82 gd_207_83 gd_207_2 hO eK eA eP eF E9 K9
    have t9 := mS.topI S0 hO eK eA
    refine lv_iload_n hx hb dX12_close_207 rfl (lv_at hl 1 rfl) ?_
    refine lv_iconst (v := 4) hx hb dX12_close_208 (by decide) ?_
    refine lv_icmp_ne (tgt := 275) hx hb dX12_close_209 (by decide) (fun c_209 => ?_) (fun c_209 => ?_)
    · skip
      have k_4 : (4 : Int32).toInt = 4 := rfl
      have c_209 := pi_ne c_209
      exact J_275 x207_1 x207_2 x207_3 _ _ _ _ V I (A.wk (by decide)) (lv_sub hl [0, 1, 2, 3] rfl) (by omega) (by omega) (by omega) (show (h 137 56).toInt + (-1) ≤ (hJ 137 56).toInt ∧ (hJ 137 56).toInt ≤ (h 137 56).toInt + (-1) by omega) (show (h 137 70).toInt + (-1) ≤ (hJ 137 70).toInt ∧ (hJ 137 70).toInt ≤ (h 137 70).toInt + (0) by omega) (show 0 ≤ (hJ 137 58).toInt ∧ (hJ 137 58).toInt ≤ 40 by omega) (show (h 137 25).toInt + (0) ≤ (hJ 137 25).toInt ∧ (hJ 137 25).toInt ≤ (h 137 25).toInt + (0) by omega) (show (h 137 27).toInt + (0) ≤ (hJ 137 27).toInt ∧ (hJ 137 27).toInt ≤ (h 137 27).toInt + (0) by omega) (show (h 137 82).toInt + (0) ≤ (hJ 137 82).toInt ∧ (hJ 137 82).toInt ≤ (h 137 82).toInt + (0) by omega) (show (h 137 83).toInt + (0) ≤ (hJ 137 83).toInt ∧ (hJ 137 83).toInt ≤ (h 137 83).toInt + (0) by omega) (show (h 137 2).toInt + (0) ≤ (hJ 137 2).toInt ∧ (hJ 137 2).toInt ≤ (h 137 2).toInt + (0) by omega) (by omega) eK eA (show (hJ 137 58).toInt = (h 163 (opn h)).toInt by omega) (show ((x207_1.toInt = 2 ∨ x207_1.toInt = 3) → (hJ 137 70).toInt = (h 137 70).toInt) ∧ (¬ (x207_1.toInt = 2 ∨ x207_1.toInt = 3) → (hJ 137 70).toInt = (h 137 70).toInt - 1) by omega) (E9.congr rfl rfl) (K9.congr rfl rfl) 
    · skip
      have k_4 : (4 : Int32).toInt = 4 := rfl
      have c_209 := pi_eq.mp c_209
      refine lv_aload_n hx hb dX12_close_212 rfl (lv_at hl 0 rfl) ?_
      refine pg_i M V 12 70 (sm_this S) pC12 fk12_70 lkF_X12_285 dX12_close_213 ?_
      refine lv_topi (fun v1 ev1 => ?_)
      have tv1 : 0 ≤ v1.toInt ∧ v1.toInt ≤ 40 := by rw [ev1]; exact I.get (sm_this S) 70
      have uv1 : v1.toInt = (hJ 137 70).toInt := congrArg Int32.toInt ev1
      refine lv_iconst (v := 1) hx hb dX12_close_216 (by decide) ?_
      refine lv_isub hx hb dX12_close_217 ?_
      refine lv_topi (fun v2 ev2 => ?_)
      refine lv_istore_n (lv' := [(3, .int v2), (0, .ref (zB Z + 137)), (1, .int x207_1), (2, .int x207_2)]) hx hb dX12_close_218 rfl hl (by decide) rfl (fun ls hl => ?_)
      refine lv_aload_n hx hb dX12_close_219 rfl (lv_at hl 1 rfl) ?_
      refine pg_r M V 12 68 (sm_this S) pC12 fk12_68 (sm_near S).2.2 lkF_X12_138 dX12_close_220 ?_
      refine lv_iload_n hx hb dX12_close_223 rfl (lv_at hl 0 rfl) ?_
      refine lv_iconst (v := 0) hx hb dX12_close_224 (by decide) ?_
      have k_1 : (1 : Int32).toInt = 1 := rfl
      have tv2 : v2.toInt = v1.toInt - 1 := by rw [ev2]; have z9 := pi_sub (x := v1) (y := (1 : Int32)); rw [k_1] at z9; exact z9 (by omega)
      have k_0 : (0 : Int32).toInt = 0 := rfl
      refine ps_z M V (sm_near S).1 (by rw [(sm_near S).2.1]; exact pi_in (by omega)) (pi_z (by omega)) dX12_close_225 (fun H locs V => ?_)
      have A := A.wk (l3 := [(137, 0), (137, 56), (137, 58), (137, 70), (137, 71), (150, 1000), (161, 1000), (170, 1000), (179, 1000), (177, 1000)]) (by decide)
      have A := A.upA (o := 177) (k := v2.toNatClampNeg) (v := (0 : Int32)) (by decide)
      have I := I.up (k := v2.toNatClampNeg) (v := (0 : Int32)) (sm_near S).1 (show (0 : Int) ≤ (0 : Int32).toInt ∧ (0 : Int32).toInt ≤ (1 : Int) by omega)
      refine lv_aload_n hx hb dX12_close_226 rfl (lv_at hl 1 rfl) ?_
      refine lv_iload_n hx hb dX12_close_227 rfl (lv_at hl 0 rfl) ?_
      refine lv_aload_n hx hb dX12_close_228 rfl (lv_at hl 1 rfl) ?_
      refine pg_r M V 12 69 (sm_this S) pC12 fk12_69 (sm_wasNear S).2.2 lkF_X12_141 dX12_close_229 ?_
      refine lv_iload_n hx hb dX12_close_232 rfl (lv_at hl 3 rfl) ?_
      refine pa_z M V (sm_wasNear S).1 (by rw [(sm_wasNear S).2.1]; exact pi_in (by omega)) dX12_close_233 ?_
      refine lv_topi (fun v3 ev3 => ?_)
      have tv3 : 0 ≤ v3.toInt ∧ v3.toInt ≤ 1 := by rw [ev3]; exact I.get (sm_wasNear S).1 _
      refine lv_aload_n hx hb dX12_close_234 rfl (lv_at hl 1 rfl) ?_
      refine pg_r M V 12 59 (sm_this S) pC12 fk12_59 (sm_firstX S).2.2 lkF_X12_111 dX12_close_235 ?_
      refine lv_iload_n hx hb dX12_close_238 rfl (lv_at hl 3 rfl) ?_
      refine pa_i M V (sm_firstX S).1 (by rw [(sm_firstX S).2.1]; exact pi_in (by omega)) dX12_close_239 ?_
      refine lv_topi (fun v4 ev4 => ?_)
      refine lv_aload_n hx hb dX12_close_240 rfl (lv_at hl 1 rfl) ?_
      refine pg_r M V 12 60 (sm_this S) pC12 fk12_60 (sm_firstY S).2.2 lkF_X12_114 dX12_close_241 ?_
      refine lv_iload_n hx hb dX12_close_244 rfl (lv_at hl 3 rfl) ?_
      refine pa_i M V (sm_firstY S).1 (by rw [(sm_firstY S).2.1]; exact pi_in (by omega)) dX12_close_245 ?_
      refine lv_topi (fun v5 ev5 => ?_)
      refine lv_aload_n hx hb dX12_close_246 rfl (lv_at hl 1 rfl) ?_
      refine pg_r M V 12 65 (sm_this S) pC12 fk12_65 (sm_farX S).2.2 lkF_X12_129 dX12_close_247 ?_
      refine lv_iload_n hx hb dX12_close_250 rfl (lv_at hl 3 rfl) ?_
      refine pa_i M V (sm_farX S).1 (by rw [(sm_farX S).2.1]; exact pi_in (by omega)) dX12_close_251 ?_
      refine lv_topi (fun v6 ev6 => ?_)
      refine lv_aload_n hx hb dX12_close_252 rfl (lv_at hl 1 rfl) ?_
      refine pg_r M V 12 59 (sm_this S) pC12 fk12_59 (sm_firstX S).2.2 lkF_X12_111 dX12_close_253 ?_
      refine lv_iload_n hx hb dX12_close_256 rfl (lv_at hl 3 rfl) ?_
      refine pa_iv M V (v := v4) (sm_firstX S).1 (by rw [(sm_firstX S).2.1]; exact pi_in (by omega)) ev4.symm dX12_close_257 ?_
      refine lv_isub hx hb dX12_close_258 ?_
      refine lv_topi (fun v7 ev7 => ?_)
      refine lv_aload_n hx hb dX12_close_259 rfl (lv_at hl 1 rfl) ?_
      refine pg_r M V 12 66 (sm_this S) pC12 fk12_66 (sm_farY S).2.2 lkF_X12_132 dX12_close_260 ?_
      refine lv_iload_n hx hb dX12_close_263 rfl (lv_at hl 3 rfl) ?_
      refine pa_i M V (sm_farY S).1 (by rw [(sm_farY S).2.1]; exact pi_in (by omega)) dX12_close_264 ?_
      refine lv_topi (fun v8 ev8 => ?_)
      refine lv_aload_n hx hb dX12_close_265 rfl (lv_at hl 1 rfl) ?_
      refine pg_r M V 12 60 (sm_this S) pC12 fk12_60 (sm_firstY S).2.2 lkF_X12_114 dX12_close_266 ?_
      refine lv_iload_n hx hb dX12_close_269 rfl (lv_at hl 3 rfl) ?_
      refine pa_iv M V (v := v5) (sm_firstY S).1 (by rw [(sm_firstY S).2.1]; exact pi_in (by omega)) ev5.symm dX12_close_270 ?_
      refine lv_isub hx hb dX12_close_271 ?_
      refine lv_topi (fun v9 ev9 => ?_)
      refine pk_v (pr_V M V (m_X12_put l S I v2 v3 v4 v5 v7 v9 (by omega)) km_X12_put (sm_this S) pC12 lkM_X12_346 rfl hl.1 rfl (Nat.le_of_ble_eq_true rfl) ⟨Nat.le_of_ble_eq_true rfl, Nat.le_of_ble_eq_true rfl⟩ ⟨Nat.le_of_ble_eq_true rfl, Nat.le_of_ble_eq_true rfl⟩ dX12_close_272) V (fun Zr10 hr10 H locs pr10 _ _ V => ?_)
      obtain ⟨rfl, I, pA_r10⟩ := pr10
      have A := A.wk (l3 := [(137, 0), (137, 56), (137, 58), (137, 70), (137, 71), (150, 1000), (161, 1000), (170, 1000), (179, 1000), (177, 1000), (180, 1000), (172, 1000), (173, 1000), (171, 1000), (174, 1000), (175, 1000), (176, 1000)]) (by decide)
      have A := A.tr pA_r10 (by decide)
      have E9 : mE hr10 := E9.congr (pA_r10.get 137 2 (by decide)) (pA_r10.row 138 (by decide))
      have K9 : mK hr10 := K9.congr (pA_r10.row 185 (by decide)) (pA_r10.row 184 (by decide))
      have w_r10_56 : (hr10 137 56).toInt = (hJ 137 56).toInt := congrArg Int32.toInt (pA_r10.get 137 56 (by decide))
      have w_r10_70 : (hr10 137 70).toInt = (hJ 137 70).toInt := congrArg Int32.toInt (pA_r10.get 137 70 (by decide))
      have w_r10_58 : (hr10 137 58).toInt = (hJ 137 58).toInt := congrArg Int32.toInt (pA_r10.get 137 58 (by decide))
      have w_r10_25 : (hr10 137 25).toInt = (hJ 137 25).toInt := congrArg Int32.toInt (pA_r10.get 137 25 (by decide))
      have w_r10_27 : (hr10 137 27).toInt = (hJ 137 27).toInt := congrArg Int32.toInt (pA_r10.get 137 27 (by decide))
      have w_r10_82 : (hr10 137 82).toInt = (hJ 137 82).toInt := congrArg Int32.toInt (pA_r10.get 137 82 (by decide))
      have w_r10_83 : (hr10 137 83).toInt = (hJ 137 83).toInt := congrArg Int32.toInt (pA_r10.get 137 83 (by decide))
      have w_r10_2 : (hr10 137 2).toInt = (hJ 137 2).toInt := congrArg Int32.toInt (pA_r10.get 137 2 (by decide))
      exact J_275 x207_1 x207_2 v2 _ _ _ _ V I (A.wk (by decide)) (lv_sub hl [1, 2, 3, 0] rfl) (by omega) (by omega) (by omega) (show (h 137 56).toInt + (-1) ≤ (hr10 137 56).toInt ∧ (hr10 137 56).toInt ≤ (h 137 56).toInt + (-1) by omega) (show (h 137 70).toInt + (-1) ≤ (hr10 137 70).toInt ∧ (hr10 137 70).toInt ≤ (h 137 70).toInt + (0) by omega) (show 0 ≤ (hr10 137 58).toInt ∧ (hr10 137 58).toInt ≤ 40 by omega) (show (h 137 25).toInt + (0) ≤ (hr10 137 25).toInt ∧ (hr10 137 25).toInt ≤ (h 137 25).toInt + (0) by omega) (show (h 137 27).toInt + (0) ≤ (hr10 137 27).toInt ∧ (hr10 137 27).toInt ≤ (h 137 27).toInt + (0) by omega) (show (h 137 82).toInt + (0) ≤ (hr10 137 82).toInt ∧ (hr10 137 82).toInt ≤ (h 137 82).toInt + (0) by omega) (show (h 137 83).toInt + (0) ≤ (hr10 137 83).toInt ∧ (hr10 137 83).toInt ≤ (h 137 83).toInt + (0) by omega) (show (h 137 2).toInt + (0) ≤ (hr10 137 2).toInt ∧ (hr10 137 2).toInt ≤ (h 137 2).toInt + (0) by omega) (by omega) eK eA (show (hr10 137 58).toInt = (h 163 (opn h)).toInt by omega) (show ((x207_1.toInt = 2 ∨ x207_1.toInt = 3) → (hr10 137 70).toInt = (h 137 70).toInt) ∧ (¬ (x207_1.toInt = 2 ∨ x207_1.toInt = 3) → (hr10 137 70).toInt = (h 137 70).toInt - 1) by omega) (E9.congr rfl rfl) (K9.congr rfl rfl) 
  have J_198 : ∀ (x198_1 : Int32) (x198_2 : Int32) (x198_3 : Int32) (hJ : pH) (H : Heap) (locs : List Loc) (ls : Array Slot), pV Z hJ s.heap H locs → Iv Z hJ → agr [(137, 0), (137, 56), (137, 58), (137, 70), (150, 1000), (161, 1000), (170, 1000), (179, 1000)] h hJ → lv_has ls 4 [(0, .ref (zB Z + 137)), (1, .int x198_1), (2, .int x198_2), (3, .int x198_3)] → (0 ≤ x198_1.toInt ∧ x198_1.toInt ≤ 4) → (-1 ≤ x198_2.toInt ∧ x198_2.toInt ≤ 39) → (4 ≤ x198_3.toInt ∧ x198_3.toInt ≤ 4) → ((h 137 56).toInt + (-1) ≤ (hJ 137 56).toInt ∧ (hJ 137 56).toInt ≤ (h 137 56).toInt + (-1)) → ((h 137 70).toInt + (-1) ≤ (hJ 137 70).toInt ∧ (hJ 137 70).toInt ≤ (h 137 70).toInt + (0)) → (0 ≤ (hJ 137 58).toInt ∧ (hJ 137 58).toInt ≤ 40) → ((h 137 25).toInt + (0) ≤ (hJ 137 25).toInt ∧ (hJ 137 25).toInt ≤ (h 137 25).toInt + (0)) → ((h 137 27).toInt + (0) ≤ (hJ 137 27).toInt ∧ (hJ 137 27).toInt ≤ (h 137 27).toInt + (0)) → ((h 137 82).toInt + (0) ≤ (hJ 137 82).toInt ∧ (hJ 137 82).toInt ≤ (h 137 82).toInt + (0)) → ((h 137 83).toInt + (0) ≤ (hJ 137 83).toInt ∧ (hJ 137 83).toInt ≤ (h 137 83).toInt + (0)) → ((h 137 2).toInt + (0) ≤ (hJ 137 2).toInt ∧ (hJ 137 2).toInt ≤ (h 137 2).toInt + (0)) → (1 ≤ (h 137 56).toInt) → (x198_1 = h 162 (opn h)) → (x198_2 = h 165 (opn h)) → ((hJ 137 58).toInt = (h 163 (opn h)).toInt) → (((x198_1.toInt = 2 ∨ x198_1.toInt = 3) → (hJ 137 70).toInt = (h 137 70).toInt) ∧ (¬ (x198_1.toInt = 2 ∨ x198_1.toInt = 3) → (hJ 137 70).toInt = (h 137 70).toInt - 1)) → mE hJ → mK hJ → W p l e (pRm 2 0 0 47) s m ([.ref (zB Z + 137)] : List Value).toArray below meth c H locs 0 0 (MQ below (pQi Z (fun r Z1 h1 => Z = Z1 ∧ Iv Z h1 ∧ agr [(137, 0), (137, 18), (137, 19), (137, 20), (137, 22), (137, 21), (137, 23), (137, 40), (137, 48), (137, 56), (137, 58), (137, 70), (137, 71), (153, 1000), (179, 1000), (150, 1000), (161, 1000), (170, 1000), (177, 1000), (180, 1000), (172, 1000), (173, 1000), (171, 1000), (174, 1000), (175, 1000), (176, 1000)] h h1 ∧ (mE h1) ∧ (mS h1) ∧ (mK h1))) ([.ref (zB Z + 137)] : List Value).toArray s 0 0 (pA (zB Z))) (F0 m 198 ls []) := by
    intro x198_1 x198_2 x198_3 hJ H locs ls V I A hl g_198_1 g_198_2 g_198_3 gd_198_56 gd_198_70 gd_198_58 gd_198_25 gd_198_27 gd_198_82 gd_198_83 gd_198_2 hO eK eA eP eF E9 K9
    have t9 := mS.topI S0 hO eK eA
    refine lv_iload_n hx hb dX12_close_198 rfl (lv_at hl 1 rfl) ?_
    refine lv_if_ne (tgt := 207) hx hb dX12_close_199 (by decide) (fun c_199 => ?_) (fun c_199 => ?_)
    · skip
      have k_0 : (0 : Int32).toInt = 0 := rfl
      have c_199 := pi_ne c_199
      exact J_207 x198_1 x198_2 x198_3 _ _ _ _ V I (A.wk (by decide)) (lv_sub hl [0, 1, 2, 3] rfl) (by omega) (by omega) (by omega) (show (h 137 56).toInt + (-1) ≤ (hJ 137 56).toInt ∧ (hJ 137 56).toInt ≤ (h 137 56).toInt + (-1) by omega) (show (h 137 70).toInt + (-1) ≤ (hJ 137 70).toInt ∧ (hJ 137 70).toInt ≤ (h 137 70).toInt + (0) by omega) (show 0 ≤ (hJ 137 58).toInt ∧ (hJ 137 58).toInt ≤ 40 by omega) (show (h 137 25).toInt + (0) ≤ (hJ 137 25).toInt ∧ (hJ 137 25).toInt ≤ (h 137 25).toInt + (0) by omega) (show (h 137 27).toInt + (0) ≤ (hJ 137 27).toInt ∧ (hJ 137 27).toInt ≤ (h 137 27).toInt + (0) by omega) (show (h 137 82).toInt + (0) ≤ (hJ 137 82).toInt ∧ (hJ 137 82).toInt ≤ (h 137 82).toInt + (0) by omega) (show (h 137 83).toInt + (0) ≤ (hJ 137 83).toInt ∧ (hJ 137 83).toInt ≤ (h 137 83).toInt + (0) by omega) (show (h 137 2).toInt + (0) ≤ (hJ 137 2).toInt ∧ (hJ 137 2).toInt ≤ (h 137 2).toInt + (0) by omega) (by omega) eK eA (show (hJ 137 58).toInt = (h 163 (opn h)).toInt by omega) (show ((x198_1.toInt = 2 ∨ x198_1.toInt = 3) → (hJ 137 70).toInt = (h 137 70).toInt) ∧ (¬ (x198_1.toInt = 2 ∨ x198_1.toInt = 3) → (hJ 137 70).toInt = (h 137 70).toInt - 1) by omega) (E9.congr rfl rfl) (K9.congr rfl rfl) 
    · skip
      have k_0 : (0 : Int32).toInt = 0 := rfl
      have c_199 := pi_eq.mp c_199
      refine lv_aload_n hx hb dX12_close_202 rfl (lv_at hl 0 rfl) ?_
      refine lv_iconst (v := (-1)) hx hb dX12_close_203 (by decide) ?_
      refine pp_i M V 12 71 (sm_this S) pC12 fk12_71 rfl lkF_X12_144 ⟨rfl, rfl⟩ dX12_close_204 (fun H locs V => ?_)
      have A := A.wk (l3 := [(137, 0), (137, 56), (137, 58), (137, 70), (150, 1000), (161, 1000), (170, 1000), (179, 1000), (137, 71)]) (by decide)
      have A := A.up (o := 137) (k := 71) (v := (-1 : Int32)) (by decide)
      have k_m1 : (-1 : Int32).toInt = -1 := rfl
      have I := I.up (k := 71) (v := (-1 : Int32)) (sm_this S) (show (-1 : Int) ≤ (-1 : Int32).toInt ∧ (-1 : Int32).toInt ≤ (8 : Int) by omega)
      exact J_207 x198_1 x198_2 x198_3 _ _ _ _ V I (A.wk (by decide)) (lv_sub hl [0, 1, 2, 3] rfl) (by omega) (by omega) (by omega) (show (h 137 56).toInt + (-1) ≤ (hJ 137 56).toInt ∧ (hJ 137 56).toInt ≤ (h 137 56).toInt + (-1) by omega) (show (h 137 70).toInt + (-1) ≤ (hJ 137 70).toInt ∧ (hJ 137 70).toInt ≤ (h 137 70).toInt + (0) by omega) (show 0 ≤ (hJ 137 58).toInt ∧ (hJ 137 58).toInt ≤ 40 by omega) (show (h 137 25).toInt + (0) ≤ (hJ 137 25).toInt ∧ (hJ 137 25).toInt ≤ (h 137 25).toInt + (0) by omega) (show (h 137 27).toInt + (0) ≤ (hJ 137 27).toInt ∧ (hJ 137 27).toInt ≤ (h 137 27).toInt + (0) by omega) (show (h 137 82).toInt + (0) ≤ (hJ 137 82).toInt ∧ (hJ 137 82).toInt ≤ (h 137 82).toInt + (0) by omega) (show (h 137 83).toInt + (0) ≤ (hJ 137 83).toInt ∧ (hJ 137 83).toInt ≤ (h 137 83).toInt + (0) by omega) (show (h 137 2).toInt + (0) ≤ (hJ 137 2).toInt ∧ (hJ 137 2).toInt ≤ (h 137 2).toInt + (0) by omega) (by omega) eK eA (show (hJ 137 58).toInt = (h 163 (opn h)).toInt by omega) (show ((x198_1.toInt = 2 ∨ x198_1.toInt = 3) → (hJ 137 70).toInt = (h 137 70).toInt) ∧ (¬ (x198_1.toInt = 2 ∨ x198_1.toInt = 3) → (hJ 137 70).toInt = (h 137 70).toInt - 1) by omega) (E9.congr rfl rfl) (K9.congr rfl rfl) 
  have J_178 : ∀ (x178_1 : Int32) (x178_2 : Int32) (x178_3 : Int32) (hJ : pH) (H : Heap) (locs : List Loc) (ls : Array Slot), pV Z hJ s.heap H locs → Iv Z hJ → agr [(137, 0), (137, 56), (137, 58), (150, 1000), (161, 1000), (170, 1000), (179, 1000)] h hJ → lv_has ls 4 [(0, .ref (zB Z + 137)), (1, .int x178_1), (2, .int x178_2), (3, .int x178_3)] → (0 ≤ x178_1.toInt ∧ x178_1.toInt ≤ 4) → (-1 ≤ x178_2.toInt ∧ x178_2.toInt ≤ 39) → (4 ≤ x178_3.toInt ∧ x178_3.toInt ≤ 4) → ((h 137 56).toInt + (-1) ≤ (hJ 137 56).toInt ∧ (hJ 137 56).toInt ≤ (h 137 56).toInt + (-1)) → ((h 137 70).toInt + (0) ≤ (hJ 137 70).toInt ∧ (hJ 137 70).toInt ≤ (h 137 70).toInt + (0)) → (0 ≤ (hJ 137 58).toInt ∧ (hJ 137 58).toInt ≤ 40) → ((h 137 25).toInt + (0) ≤ (hJ 137 25).toInt ∧ (hJ 137 25).toInt ≤ (h 137 25).toInt + (0)) → ((h 137 27).toInt + (0) ≤ (hJ 137 27).toInt ∧ (hJ 137 27).toInt ≤ (h 137 27).toInt + (0)) → ((h 137 82).toInt + (0) ≤ (hJ 137 82).toInt ∧ (hJ 137 82).toInt ≤ (h 137 82).toInt + (0)) → ((h 137 83).toInt + (0) ≤ (hJ 137 83).toInt ∧ (hJ 137 83).toInt ≤ (h 137 83).toInt + (0)) → ((h 137 2).toInt + (0) ≤ (hJ 137 2).toInt ∧ (hJ 137 2).toInt ≤ (h 137 2).toInt + (0)) → (1 ≤ (h 137 56).toInt) → (x178_1 = h 162 (opn h)) → (x178_2 = h 165 (opn h)) → ((hJ 137 58).toInt = (h 163 (opn h)).toInt) → mE hJ → mK hJ → W p l e (pRm 2 0 0 47) s m ([.ref (zB Z + 137)] : List Value).toArray below meth c H locs 0 0 (MQ below (pQi Z (fun r Z1 h1 => Z = Z1 ∧ Iv Z h1 ∧ agr [(137, 0), (137, 18), (137, 19), (137, 20), (137, 22), (137, 21), (137, 23), (137, 40), (137, 48), (137, 56), (137, 58), (137, 70), (137, 71), (153, 1000), (179, 1000), (150, 1000), (161, 1000), (170, 1000), (177, 1000), (180, 1000), (172, 1000), (173, 1000), (171, 1000), (174, 1000), (175, 1000), (176, 1000)] h h1 ∧ (mE h1) ∧ (mS h1) ∧ (mK h1))) ([.ref (zB Z + 137)] : List Value).toArray s 0 0 (pA (zB Z))) (F0 m 178 ls []) := by
    intro x178_1 x178_2 x178_3 hJ H locs ls V I A hl g_178_1 g_178_2 g_178_3 gd_178_56 gd_178_70 gd_178_58 gd_178_25 gd_178_27 gd_178_82 gd_178_83 gd_178_2 hO eK eA eP E9 K9
    have t9 := mS.topI S0 hO eK eA
    refine lv_iload_n hx hb dX12_close_178 rfl (lv_at hl 1 rfl) ?_
    refine lv_iconst (v := 2) hx hb dX12_close_179 (by decide) ?_
    refine lv_icmp_eq (tgt := 198) hx hb dX12_close_180 (by decide) (fun c_180 => ?_) (fun c_180 => ?_)
    · skip
      have k_2 : (2 : Int32).toInt = 2 := rfl
      have c_180 := pi_eq.mp c_180
      exact J_198 x178_1 x178_2 x178_3 _ _ _ _ V I (A.wk (by decide)) (lv_sub hl [0, 1, 2, 3] rfl) (by omega) (by omega) (by omega) (show (h 137 56).toInt + (-1) ≤ (hJ 137 56).toInt ∧ (hJ 137 56).toInt ≤ (h 137 56).toInt + (-1) by omega) (show (h 137 70).toInt + (-1) ≤ (hJ 137 70).toInt ∧ (hJ 137 70).toInt ≤ (h 137 70).toInt + (0) by omega) (show 0 ≤ (hJ 137 58).toInt ∧ (hJ 137 58).toInt ≤ 40 by omega) (show (h 137 25).toInt + (0) ≤ (hJ 137 25).toInt ∧ (hJ 137 25).toInt ≤ (h 137 25).toInt + (0) by omega) (show (h 137 27).toInt + (0) ≤ (hJ 137 27).toInt ∧ (hJ 137 27).toInt ≤ (h 137 27).toInt + (0) by omega) (show (h 137 82).toInt + (0) ≤ (hJ 137 82).toInt ∧ (hJ 137 82).toInt ≤ (h 137 82).toInt + (0) by omega) (show (h 137 83).toInt + (0) ≤ (hJ 137 83).toInt ∧ (hJ 137 83).toInt ≤ (h 137 83).toInt + (0) by omega) (show (h 137 2).toInt + (0) ≤ (hJ 137 2).toInt ∧ (hJ 137 2).toInt ≤ (h 137 2).toInt + (0) by omega) (by omega) eK eA (show (hJ 137 58).toInt = (h 163 (opn h)).toInt by omega) (show ((x178_1.toInt = 2 ∨ x178_1.toInt = 3) → (hJ 137 70).toInt = (h 137 70).toInt) ∧ (¬ (x178_1.toInt = 2 ∨ x178_1.toInt = 3) → (hJ 137 70).toInt = (h 137 70).toInt - 1) by omega) (E9.congr rfl rfl) (K9.congr rfl rfl) 
    · skip
      have k_2 : (2 : Int32).toInt = 2 := rfl
      have c_180 := pi_ne c_180
      refine lv_iload_n hx hb dX12_close_183 rfl (lv_at hl 1 rfl) ?_
      refine lv_iconst (v := 3) hx hb dX12_close_184 (by decide) ?_
      refine lv_icmp_eq (tgt := 198) hx hb dX12_close_185 (by decide) (fun c_185 => ?_) (fun c_185 => ?_)
      · skip
        have k_3 : (3 : Int32).toInt = 3 := rfl
        have c_185 := pi_eq.mp c_185
        exact J_198 x178_1 x178_2 x178_3 _ _ _ _ V I (A.wk (by decide)) (lv_sub hl [0, 1, 2, 3] rfl) (by omega) (by omega) (by omega) (show (h 137 56).toInt + (-1) ≤ (hJ 137 56).toInt ∧ (hJ 137 56).toInt ≤ (h 137 56).toInt + (-1) by omega) (show (h 137 70).toInt + (-1) ≤ (hJ 137 70).toInt ∧ (hJ 137 70).toInt ≤ (h 137 70).toInt + (0) by omega) (show 0 ≤ (hJ 137 58).toInt ∧ (hJ 137 58).toInt ≤ 40 by omega) (show (h 137 25).toInt + (0) ≤ (hJ 137 25).toInt ∧ (hJ 137 25).toInt ≤ (h 137 25).toInt + (0) by omega) (show (h 137 27).toInt + (0) ≤ (hJ 137 27).toInt ∧ (hJ 137 27).toInt ≤ (h 137 27).toInt + (0) by omega) (show (h 137 82).toInt + (0) ≤ (hJ 137 82).toInt ∧ (hJ 137 82).toInt ≤ (h 137 82).toInt + (0) by omega) (show (h 137 83).toInt + (0) ≤ (hJ 137 83).toInt ∧ (hJ 137 83).toInt ≤ (h 137 83).toInt + (0) by omega) (show (h 137 2).toInt + (0) ≤ (hJ 137 2).toInt ∧ (hJ 137 2).toInt ≤ (h 137 2).toInt + (0) by omega) (by omega) eK eA (show (hJ 137 58).toInt = (h 163 (opn h)).toInt by omega) (show ((x178_1.toInt = 2 ∨ x178_1.toInt = 3) → (hJ 137 70).toInt = (h 137 70).toInt) ∧ (¬ (x178_1.toInt = 2 ∨ x178_1.toInt = 3) → (hJ 137 70).toInt = (h 137 70).toInt - 1) by omega) (E9.congr rfl rfl) (K9.congr rfl rfl) 
      · skip
        have k_3 : (3 : Int32).toInt = 3 := rfl
        have c_185 := pi_ne c_185
        refine lv_aload_n hx hb dX12_close_188 rfl (lv_at hl 0 rfl) ?_
        refine lv_dup hx hb dX12_close_189 rfl ?_
        refine pg_i M V 12 70 (sm_this S) pC12 fk12_70 lkF_X12_285 dX12_close_190 ?_
        refine lv_topi (fun v11 ev11 => ?_)
        have tv11 : 0 ≤ v11.toInt ∧ v11.toInt ≤ 40 := by rw [ev11]; exact I.get (sm_this S) 70
        have uv11 : v11.toInt = (hJ 137 70).toInt := congrArg Int32.toInt ev11
        refine lv_iconst (v := 1) hx hb dX12_close_193 (by decide) ?_
        refine lv_isub hx hb dX12_close_194 ?_
        refine lv_topi (fun v12 ev12 => ?_)
        refine pp_i M V 12 70 (sm_this S) pC12 fk12_70 rfl lkF_X12_285 ⟨rfl, rfl⟩ dX12_close_195 (fun H locs V => ?_)
        have A := A.wk (l3 := [(137, 0), (137, 56), (137, 58), (150, 1000), (161, 1000), (170, 1000), (179, 1000), (137, 70)]) (by decide)
        have A := A.up (o := 137) (k := 70) (v := v12) (by decide)
        have k_1 : (1 : Int32).toInt = 1 := rfl
        have tv12 : v12.toInt = v11.toInt - 1 := by rw [ev12]; have z9 := pi_sub (x := v11) (y := (1 : Int32)); rw [k_1] at z9; exact z9 (by omega)
        have I := I.up (k := 70) (v := v12) (sm_this S) (show (0 : Int) ≤ v12.toInt ∧ v12.toInt ≤ (40 : Int) by omega)
        exact J_198 x178_1 x178_2 x178_3 _ _ _ _ V I (A.wk (by decide)) (lv_sub hl [0, 1, 2, 3] rfl) (by omega) (by omega) (by omega) (show (h 137 56).toInt + (-1) ≤ (hJ 137 56).toInt ∧ (hJ 137 56).toInt ≤ (h 137 56).toInt + (-1) by omega) (show (h 137 70).toInt + (-1) ≤ v12.toInt ∧ v12.toInt ≤ (h 137 70).toInt + (0) by omega) (show 0 ≤ (hJ 137 58).toInt ∧ (hJ 137 58).toInt ≤ 40 by omega) (show (h 137 25).toInt + (0) ≤ (hJ 137 25).toInt ∧ (hJ 137 25).toInt ≤ (h 137 25).toInt + (0) by omega) (show (h 137 27).toInt + (0) ≤ (hJ 137 27).toInt ∧ (hJ 137 27).toInt ≤ (h 137 27).toInt + (0) by omega) (show (h 137 82).toInt + (0) ≤ (hJ 137 82).toInt ∧ (hJ 137 82).toInt ≤ (h 137 82).toInt + (0) by omega) (show (h 137 83).toInt + (0) ≤ (hJ 137 83).toInt ∧ (hJ 137 83).toInt ≤ (h 137 83).toInt + (0) by omega) (show (h 137 2).toInt + (0) ≤ (hJ 137 2).toInt ∧ (hJ 137 2).toInt ≤ (h 137 2).toInt + (0) by omega) (by omega) eK eA (show (hJ 137 58).toInt = (h 163 (opn h)).toInt by omega) (show ((x178_1.toInt = 2 ∨ x178_1.toInt = 3) → v12.toInt = (h 137 70).toInt) ∧ (¬ (x178_1.toInt = 2 ∨ x178_1.toInt = 3) → v12.toInt = (h 137 70).toInt - 1) by omega) (E9.congr rfl rfl) (K9.congr rfl rfl) 
  have J_162 : ∀ (x162_1 : Int32) (x162_2 : Int32) (x162_3 : Int32) (hJ : pH) (H : Heap) (locs : List Loc) (ls : Array Slot), pV Z hJ s.heap H locs → Iv Z hJ → agr [(137, 0), (137, 56), (137, 58), (150, 1000), (161, 1000), (179, 1000)] h hJ → lv_has ls 4 [(0, .ref (zB Z + 137)), (1, .int x162_1), (2, .int x162_2), (3, .int x162_3)] → (0 ≤ x162_1.toInt ∧ x162_1.toInt ≤ 4) → (-1 ≤ x162_2.toInt ∧ x162_2.toInt ≤ 39) → (4 ≤ x162_3.toInt ∧ x162_3.toInt ≤ 4) → ((h 137 56).toInt + (-1) ≤ (hJ 137 56).toInt ∧ (hJ 137 56).toInt ≤ (h 137 56).toInt + (-1)) → ((h 137 70).toInt + (0) ≤ (hJ 137 70).toInt ∧ (hJ 137 70).toInt ≤ (h 137 70).toInt + (0)) → (0 ≤ (hJ 137 58).toInt ∧ (hJ 137 58).toInt ≤ 40) → ((h 137 25).toInt + (0) ≤ (hJ 137 25).toInt ∧ (hJ 137 25).toInt ≤ (h 137 25).toInt + (0)) → ((h 137 27).toInt + (0) ≤ (hJ 137 27).toInt ∧ (hJ 137 27).toInt ≤ (h 137 27).toInt + (0)) → ((h 137 82).toInt + (0) ≤ (hJ 137 82).toInt ∧ (hJ 137 82).toInt ≤ (h 137 82).toInt + (0)) → ((h 137 83).toInt + (0) ≤ (hJ 137 83).toInt ∧ (hJ 137 83).toInt ≤ (h 137 83).toInt + (0)) → ((h 137 2).toInt + (0) ≤ (hJ 137 2).toInt ∧ (hJ 137 2).toInt ≤ (h 137 2).toInt + (0)) → (1 ≤ (h 137 56).toInt) → (x162_1 = h 162 (opn h)) → (x162_2 = h 165 (opn h)) → ((hJ 137 58).toInt = (h 163 (opn h)).toInt) → mE hJ → mK hJ → W p l e (pRm 2 0 0 47) s m ([.ref (zB Z + 137)] : List Value).toArray below meth c H locs 0 0 (MQ below (pQi Z (fun r Z1 h1 => Z = Z1 ∧ Iv Z h1 ∧ agr [(137, 0), (137, 18), (137, 19), (137, 20), (137, 22), (137, 21), (137, 23), (137, 40), (137, 48), (137, 56), (137, 58), (137, 70), (137, 71), (153, 1000), (179, 1000), (150, 1000), (161, 1000), (170, 1000), (177, 1000), (180, 1000), (172, 1000), (173, 1000), (171, 1000), (174, 1000), (175, 1000), (176, 1000)] h h1 ∧ (mE h1) ∧ (mS h1) ∧ (mK h1))) ([.ref (zB Z + 137)] : List Value).toArray s 0 0 (pA (zB Z))) (F0 m 162 ls []) := by
    intro x162_1 x162_2 x162_3 hJ H locs ls V I A hl g_162_1 g_162_2 g_162_3 gd_162_56 gd_162_70 gd_162_58 gd_162_25 gd_162_27 gd_162_82 gd_162_83 gd_162_2 hO eK eA eP E9 K9
    have t9 := mS.topI S0 hO eK eA
    refine lv_iload_n hx hb dX12_close_162 rfl (lv_at hl 1 rfl) ?_
    refine lv_iconst (v := 2) hx hb dX12_close_163 (by decide) ?_
    refine lv_icmp_ne (tgt := 178) hx hb dX12_close_164 (by decide) (fun c_164 => ?_) (fun c_164 => ?_)
    · skip
      have k_2 : (2 : Int32).toInt = 2 := rfl
      have c_164 := pi_ne c_164
      exact J_178 x162_1 x162_2 x162_3 _ _ _ _ V I (A.wk (by decide)) (lv_sub hl [0, 1, 2, 3] rfl) (by omega) (by omega) (by omega) (show (h 137 56).toInt + (-1) ≤ (hJ 137 56).toInt ∧ (hJ 137 56).toInt ≤ (h 137 56).toInt + (-1) by omega) (show (h 137 70).toInt + (0) ≤ (hJ 137 70).toInt ∧ (hJ 137 70).toInt ≤ (h 137 70).toInt + (0) by omega) (show 0 ≤ (hJ 137 58).toInt ∧ (hJ 137 58).toInt ≤ 40 by omega) (show (h 137 25).toInt + (0) ≤ (hJ 137 25).toInt ∧ (hJ 137 25).toInt ≤ (h 137 25).toInt + (0) by omega) (show (h 137 27).toInt + (0) ≤ (hJ 137 27).toInt ∧ (hJ 137 27).toInt ≤ (h 137 27).toInt + (0) by omega) (show (h 137 82).toInt + (0) ≤ (hJ 137 82).toInt ∧ (hJ 137 82).toInt ≤ (h 137 82).toInt + (0) by omega) (show (h 137 83).toInt + (0) ≤ (hJ 137 83).toInt ∧ (hJ 137 83).toInt ≤ (h 137 83).toInt + (0) by omega) (show (h 137 2).toInt + (0) ≤ (hJ 137 2).toInt ∧ (hJ 137 2).toInt ≤ (h 137 2).toInt + (0) by omega) (by omega) eK eA (show (hJ 137 58).toInt = (h 163 (opn h)).toInt by omega) (E9.congr rfl rfl) (K9.congr rfl rfl) 
    · skip
      have k_2 : (2 : Int32).toInt = 2 := rfl
      have c_164 := pi_eq.mp c_164
      refine lv_aload_n hx hb dX12_close_167 rfl (lv_at hl 0 rfl) ?_
      refine pg_r M V 12 61 (sm_this S) pC12 fk12_61 (sm_indent S).2.2 lkF_X12_117 dX12_close_168 ?_
      refine lv_iload_n hx hb dX12_close_171 rfl (lv_at hl 2 rfl) ?_
      refine lv_dup2_11 hx hb dX12_close_172 rfl rfl ?_
      refine pa_i M V (sm_indent S).1 (by rw [(sm_indent S).2.1]; exact pi_in (by omega)) dX12_close_173 ?_
      refine lv_topi (fun v13 ev13 => ?_)
      refine lv_bipush (v := 10) hx hb dX12_close_174 (by decide) ?_
      refine lv_isub hx hb dX12_close_176 ?_
      refine lv_topi (fun v14 ev14 => ?_)
      refine ps_i M V (sm_indent S).1 (by rw [(sm_indent S).2.1]; exact pi_in (by omega)) dX12_close_177 (fun H locs V => ?_)
      have A := A.wk (l3 := [(137, 0), (137, 56), (137, 58), (150, 1000), (161, 1000), (179, 1000), (170, 1000)]) (by decide)
      have A := A.upA (o := 170) (k := x162_2.toNatClampNeg) (v := v14) (by decide)
      have I := I.up (k := x162_2.toNatClampNeg) (v := v14) (sm_indent S).1 (pi_full _)
      exact J_178 x162_1 x162_2 x162_3 _ _ _ _ V I (A.wk (by decide)) (lv_sub hl [0, 1, 2, 3] rfl) (by omega) (by omega) (by omega) (show (h 137 56).toInt + (-1) ≤ (hJ 137 56).toInt ∧ (hJ 137 56).toInt ≤ (h 137 56).toInt + (-1) by omega) (show (h 137 70).toInt + (0) ≤ (hJ 137 70).toInt ∧ (hJ 137 70).toInt ≤ (h 137 70).toInt + (0) by omega) (show 0 ≤ (hJ 137 58).toInt ∧ (hJ 137 58).toInt ≤ 40 by omega) (show (h 137 25).toInt + (0) ≤ (hJ 137 25).toInt ∧ (hJ 137 25).toInt ≤ (h 137 25).toInt + (0) by omega) (show (h 137 27).toInt + (0) ≤ (hJ 137 27).toInt ∧ (hJ 137 27).toInt ≤ (h 137 27).toInt + (0) by omega) (show (h 137 82).toInt + (0) ≤ (hJ 137 82).toInt ∧ (hJ 137 82).toInt ≤ (h 137 82).toInt + (0) by omega) (show (h 137 83).toInt + (0) ≤ (hJ 137 83).toInt ∧ (hJ 137 83).toInt ≤ (h 137 83).toInt + (0) by omega) (show (h 137 2).toInt + (0) ≤ (hJ 137 2).toInt ∧ (hJ 137 2).toInt ≤ (h 137 2).toInt + (0) by omega) (by omega) eK eA (show (hJ 137 58).toInt = (h 163 (opn h)).toInt by omega) (E9.congr rfl rfl) (K9.congr rfl rfl) 
  have J_130 : ∀ (x130_1 : Int32) (x130_2 : Int32) (x130_3 : Int32) (hJ : pH) (H : Heap) (locs : List Loc) (ls : Array Slot), pV Z hJ s.heap H locs → Iv Z hJ → agr [(137, 0), (137, 56), (137, 58), (150, 1000), (179, 1000)] h hJ → lv_has ls 4 [(0, .ref (zB Z + 137)), (1, .int x130_1), (2, .int x130_2), (3, .int x130_3)] → (0 ≤ x130_1.toInt ∧ x130_1.toInt ≤ 4) → (-1 ≤ x130_2.toInt ∧ x130_2.toInt ≤ 39) → (4 ≤ x130_3.toInt ∧ x130_3.toInt ≤ 4) → ((h 137 56).toInt + (-1) ≤ (hJ 137 56).toInt ∧ (hJ 137 56).toInt ≤ (h 137 56).toInt + (-1)) → ((h 137 70).toInt + (0) ≤ (hJ 137 70).toInt ∧ (hJ 137 70).toInt ≤ (h 137 70).toInt + (0)) → (0 ≤ (hJ 137 58).toInt ∧ (hJ 137 58).toInt ≤ 40) → ((h 137 25).toInt + (0) ≤ (hJ 137 25).toInt ∧ (hJ 137 25).toInt ≤ (h 137 25).toInt + (0)) → ((h 137 27).toInt + (0) ≤ (hJ 137 27).toInt ∧ (hJ 137 27).toInt ≤ (h 137 27).toInt + (0)) → ((h 137 82).toInt + (0) ≤ (hJ 137 82).toInt ∧ (hJ 137 82).toInt ≤ (h 137 82).toInt + (0)) → ((h 137 83).toInt + (0) ≤ (hJ 137 83).toInt ∧ (hJ 137 83).toInt ≤ (h 137 83).toInt + (0)) → ((h 137 2).toInt + (0) ≤ (hJ 137 2).toInt ∧ (hJ 137 2).toInt ≤ (h 137 2).toInt + (0)) → (1 ≤ (h 137 56).toInt) → (x130_1 = h 162 (opn h)) → (x130_2 = h 165 (opn h)) → ((hJ 137 58).toInt = (h 163 (opn h)).toInt) → mE hJ → mK hJ → W p l e (pRm 2 0 0 47) s m ([.ref (zB Z + 137)] : List Value).toArray below meth c H locs 0 0 (MQ below (pQi Z (fun r Z1 h1 => Z = Z1 ∧ Iv Z h1 ∧ agr [(137, 0), (137, 18), (137, 19), (137, 20), (137, 22), (137, 21), (137, 23), (137, 40), (137, 48), (137, 56), (137, 58), (137, 70), (137, 71), (153, 1000), (179, 1000), (150, 1000), (161, 1000), (170, 1000), (177, 1000), (180, 1000), (172, 1000), (173, 1000), (171, 1000), (174, 1000), (175, 1000), (176, 1000)] h h1 ∧ (mE h1) ∧ (mS h1) ∧ (mK h1))) ([.ref (zB Z + 137)] : List Value).toArray s 0 0 (pA (zB Z))) (F0 m 130 ls []) := by
    intro x130_1 x130_2 x130_3 hJ H locs ls V I A hl g_130_1 g_130_2 g_130_3 gd_130_56 gd_130_70 gd_130_58 gd_130_25 gd_130_27 gd_130_82 gd_130_83 gd_130_2 hO eK eA eP E9 K9
    have t9 := mS.topI S0 hO eK eA
    refine lv_iload_n hx hb dX12_close_130 rfl (lv_at hl 1 rfl) ?_
    refine lv_iconst (v := 1) hx hb dX12_close_131 (by decide) ?_
    refine lv_icmp_ne (tgt := 162) hx hb dX12_close_132 (by decide) (fun c_132 => ?_) (fun c_132 => ?_)
    · skip
      have k_1 : (1 : Int32).toInt = 1 := rfl
      have c_132 := pi_ne c_132
      exact J_162 x130_1 x130_2 x130_3 _ _ _ _ V I (A.wk (by decide)) (lv_sub hl [0, 1, 2, 3] rfl) (by omega) (by omega) (by omega) (show (h 137 56).toInt + (-1) ≤ (hJ 137 56).toInt ∧ (hJ 137 56).toInt ≤ (h 137 56).toInt + (-1) by omega) (show (h 137 70).toInt + (0) ≤ (hJ 137 70).toInt ∧ (hJ 137 70).toInt ≤ (h 137 70).toInt + (0) by omega) (show 0 ≤ (hJ 137 58).toInt ∧ (hJ 137 58).toInt ≤ 40 by omega) (show (h 137 25).toInt + (0) ≤ (hJ 137 25).toInt ∧ (hJ 137 25).toInt ≤ (h 137 25).toInt + (0) by omega) (show (h 137 27).toInt + (0) ≤ (hJ 137 27).toInt ∧ (hJ 137 27).toInt ≤ (h 137 27).toInt + (0) by omega) (show (h 137 82).toInt + (0) ≤ (hJ 137 82).toInt ∧ (hJ 137 82).toInt ≤ (h 137 82).toInt + (0) by omega) (show (h 137 83).toInt + (0) ≤ (hJ 137 83).toInt ∧ (hJ 137 83).toInt ≤ (h 137 83).toInt + (0) by omega) (show (h 137 2).toInt + (0) ≤ (hJ 137 2).toInt ∧ (hJ 137 2).toInt ≤ (h 137 2).toInt + (0) by omega) (by omega) eK eA (show (hJ 137 58).toInt = (h 163 (opn h)).toInt by omega) (E9.congr rfl rfl) (K9.congr rfl rfl) 
    · skip
      have k_1 : (1 : Int32).toInt = 1 := rfl
      have c_132 := pi_eq.mp c_132
      refine lv_aload_n hx hb dX12_close_135 rfl (lv_at hl 0 rfl) ?_
      refine pg_r M V 12 47 (sm_this S) pC12 fk12_47 (sm_childLowest S).2.2 lkF_X12_87 dX12_close_136 ?_
      refine lv_aload_n hx hb dX12_close_139 rfl (lv_at hl 0 rfl) ?_
      refine pg_r M V 12 55 (sm_this S) pC12 fk12_55 (sm_openNumber S).2.2 lkF_X12_105 dX12_close_140 ?_
      refine lv_aload_n hx hb dX12_close_143 rfl (lv_at hl 0 rfl) ?_
      refine pg_i M V 12 56 (sm_this S) pC12 fk12_56 lkF_X12_279 dX12_close_144 ?_
      refine lv_topi (fun v15 ev15 => ?_)
      have tv15 : 0 ≤ v15.toInt ∧ v15.toInt ≤ 40 := by rw [ev15]; exact I.get (sm_this S) 56
      have uv15 : v15.toInt = (hJ 137 56).toInt := congrArg Int32.toInt ev15
      refine pa_i M V (sm_openNumber S).1 (by rw [(sm_openNumber S).2.1]; exact pi_in (by omega)) dX12_close_147 ?_
      refine lv_topi (fun v16 ev16 => ?_)
      have tv16 : 0 ≤ v16.toInt ∧ v16.toInt ≤ 8 := by rw [ev16]; exact I.get (sm_openNumber S).1 _
      have q166 : v16.toInt ≤ 7 := by have z9 := t9.2.1 (by omega); rw [ev16, congrFun (A.row 166 (by decide)) _, opn_at (v := v15) hO (by omega)]; exact z9
      refine lv_aload_n hx hb dX12_close_148 rfl (lv_at hl 0 rfl) ?_
      refine pg_r M V 12 66 (sm_this S) pC12 fk12_66 (sm_farY S).2.2 lkF_X12_132 dX12_close_149 ?_
      refine lv_iload_n hx hb dX12_close_152 rfl (lv_at hl 2 rfl) ?_
      refine pa_i M V (sm_farY S).1 (by rw [(sm_farY S).2.1]; exact pi_in (by omega)) dX12_close_153 ?_
      refine lv_topi (fun v17 ev17 => ?_)
      refine lv_aload_n hx hb dX12_close_154 rfl (lv_at hl 0 rfl) ?_
      refine pg_r M V 12 60 (sm_this S) pC12 fk12_60 (sm_firstY S).2.2 lkF_X12_114 dX12_close_155 ?_
      refine lv_iload_n hx hb dX12_close_158 rfl (lv_at hl 2 rfl) ?_
      refine pa_i M V (sm_firstY S).1 (by rw [(sm_firstY S).2.1]; exact pi_in (by omega)) dX12_close_159 ?_
      refine lv_topi (fun v18 ev18 => ?_)
      refine lv_isub hx hb dX12_close_160 ?_
      refine lv_topi (fun v19 ev19 => ?_)
      refine ps_i M V (sm_childLowest S).1 (by rw [(sm_childLowest S).2.1]; exact pi_in (by omega)) dX12_close_161 (fun H locs V => ?_)
      have A := A.wk (l3 := [(137, 0), (137, 56), (137, 58), (150, 1000), (179, 1000), (161, 1000)]) (by decide)
      have A := A.upA (o := 161) (k := v16.toNatClampNeg) (v := v19) (by decide)
      have I := I.up (k := v16.toNatClampNeg) (v := v19) (sm_childLowest S).1 (pi_full _)
      exact J_162 x130_1 x130_2 x130_3 _ _ _ _ V I (A.wk (by decide)) (lv_sub hl [0, 1, 2, 3] rfl) (by omega) (by omega) (by omega) (show (h 137 56).toInt + (-1) ≤ (hJ 137 56).toInt ∧ (hJ 137 56).toInt ≤ (h 137 56).toInt + (-1) by omega) (show (h 137 70).toInt + (0) ≤ (hJ 137 70).toInt ∧ (hJ 137 70).toInt ≤ (h 137 70).toInt + (0) by omega) (show 0 ≤ (hJ 137 58).toInt ∧ (hJ 137 58).toInt ≤ 40 by omega) (show (h 137 25).toInt + (0) ≤ (hJ 137 25).toInt ∧ (hJ 137 25).toInt ≤ (h 137 25).toInt + (0) by omega) (show (h 137 27).toInt + (0) ≤ (hJ 137 27).toInt ∧ (hJ 137 27).toInt ≤ (h 137 27).toInt + (0) by omega) (show (h 137 82).toInt + (0) ≤ (hJ 137 82).toInt ∧ (hJ 137 82).toInt ≤ (h 137 82).toInt + (0) by omega) (show (h 137 83).toInt + (0) ≤ (hJ 137 83).toInt ∧ (hJ 137 83).toInt ≤ (h 137 83).toInt + (0) by omega) (show (h 137 2).toInt + (0) ≤ (hJ 137 2).toInt ∧ (hJ 137 2).toInt ≤ (h 137 2).toInt + (0) by omega) (by omega) eK eA (show (hJ 137 58).toInt = (h 163 (opn h)).toInt by omega) (E9.congr rfl rfl) (K9.congr rfl rfl) 
  have J_69 : ∀ (n9 : Nat) (x69_1 : Int32) (x69_2 : Int32) (x69_3 : Int32) (hJ : pH) (H : Heap) (locs : List Loc) (ls : Array Slot), pV Z hJ s.heap H locs → Iv Z hJ → agr [(137, 0), (137, 56), (137, 58), (179, 1000)] h hJ → lv_has ls 4 [(0, .ref (zB Z + 137)), (1, .int x69_1), (2, .int x69_2), (3, .int x69_3)] → (0 ≤ x69_1.toInt ∧ x69_1.toInt ≤ 4) → (-1 ≤ x69_2.toInt ∧ x69_2.toInt ≤ 39) → (0 ≤ x69_3.toInt ∧ x69_3.toInt ≤ 4) → ((h 137 56).toInt + (-1) ≤ (hJ 137 56).toInt ∧ (hJ 137 56).toInt ≤ (h 137 56).toInt + (-1)) → ((h 137 70).toInt + (0) ≤ (hJ 137 70).toInt ∧ (hJ 137 70).toInt ≤ (h 137 70).toInt + (0)) → (0 ≤ (hJ 137 58).toInt ∧ (hJ 137 58).toInt ≤ 40) → ((h 137 25).toInt + (0) ≤ (hJ 137 25).toInt ∧ (hJ 137 25).toInt ≤ (h 137 25).toInt + (0)) → ((h 137 27).toInt + (0) ≤ (hJ 137 27).toInt ∧ (hJ 137 27).toInt ≤ (h 137 27).toInt + (0)) → ((h 137 82).toInt + (0) ≤ (hJ 137 82).toInt ∧ (hJ 137 82).toInt ≤ (h 137 82).toInt + (0)) → ((h 137 83).toInt + (0) ≤ (hJ 137 83).toInt ∧ (hJ 137 83).toInt ≤ (h 137 83).toInt + (0)) → ((h 137 2).toInt + (0) ≤ (hJ 137 2).toInt ∧ (hJ 137 2).toInt ≤ (h 137 2).toInt + (0)) → (1 ≤ (h 137 56).toInt) → (x69_1 = h 162 (opn h)) → (x69_2 = h 165 (opn h)) → ((hJ 137 58).toInt = (h 163 (opn h)).toInt) → mE hJ → mK hJ → (4 - x69_3.toInt).toNat < n9 → W p l e (pRm 2 0 0 47) s m ([.ref (zB Z + 137)] : List Value).toArray below meth c H locs 0 0 (MQ below (pQi Z (fun r Z1 h1 => Z = Z1 ∧ Iv Z h1 ∧ agr [(137, 0), (137, 18), (137, 19), (137, 20), (137, 22), (137, 21), (137, 23), (137, 40), (137, 48), (137, 56), (137, 58), (137, 70), (137, 71), (153, 1000), (179, 1000), (150, 1000), (161, 1000), (170, 1000), (177, 1000), (180, 1000), (172, 1000), (173, 1000), (171, 1000), (174, 1000), (175, 1000), (176, 1000)] h h1 ∧ (mE h1) ∧ (mS h1) ∧ (mK h1))) ([.ref (zB Z + 137)] : List Value).toArray s 0 0 (pA (zB Z))) (F0 m 69 ls []) := by
    intro n9
    induction n9 with
    | zero => intro x69_1 x69_2 x69_3 hJ H locs ls V I A hl g_69_1 g_69_2 g_69_3 gd_69_56 gd_69_70 gd_69_58 gd_69_25 gd_69_27 gd_69_82 gd_69_83 gd_69_2 hO eK eA eP E9 K9 hm9; exact absurd hm9 (Nat.not_lt_zero _)
    | succ n9 ih_69 =>
      intro x69_1 x69_2 x69_3 hJ H locs ls V I A hl g_69_1 g_69_2 g_69_3 gd_69_56 gd_69_70 gd_69_58 gd_69_25 gd_69_27 gd_69_82 gd_69_83 gd_69_2 hO eK eA eP E9 K9 hm9
      have t9 := mS.topI S0 hO eK eA
      refine lv_iload_n hx hb dX12_close_69 rfl (lv_at hl 3 rfl) ?_
      refine lv_iconst (v := 4) hx hb dX12_close_70 (by decide) ?_
      refine lv_icmp_ge (tgt := 99) hx hb dX12_close_71 (by decide) (fun c_71 => ?_) (fun c_71 => ?_)
      · skip
        have k_4 : (4 : Int32).toInt = 4 := rfl
        have c_71 := pi_le.mp c_71
        refine lv_iload_n hx hb dX12_close_99 rfl (lv_at hl 1 rfl) ?_
        refine lv_if_ne (tgt := 130) hx hb dX12_close_100 (by decide) (fun c_100 => ?_) (fun c_100 => ?_)
        · skip
          have k_0 : (0 : Int32).toInt = 0 := rfl
          have c_100 := pi_ne c_100
          exact J_130 x69_1 x69_2 x69_3 _ _ _ _ V I (A.wk (by decide)) (lv_sub hl [0, 1, 2, 3] rfl) (by omega) (by omega) (by omega) (show (h 137 56).toInt + (-1) ≤ (hJ 137 56).toInt ∧ (hJ 137 56).toInt ≤ (h 137 56).toInt + (-1) by omega) (show (h 137 70).toInt + (0) ≤ (hJ 137 70).toInt ∧ (hJ 137 70).toInt ≤ (h 137 70).toInt + (0) by omega) (show 0 ≤ (hJ 137 58).toInt ∧ (hJ 137 58).toInt ≤ 40 by omega) (show (h 137 25).toInt + (0) ≤ (hJ 137 25).toInt ∧ (hJ 137 25).toInt ≤ (h 137 25).toInt + (0) by omega) (show (h 137 27).toInt + (0) ≤ (hJ 137 27).toInt ∧ (hJ 137 27).toInt ≤ (h 137 27).toInt + (0) by omega) (show (h 137 82).toInt + (0) ≤ (hJ 137 82).toInt ∧ (hJ 137 82).toInt ≤ (h 137 82).toInt + (0) by omega) (show (h 137 83).toInt + (0) ≤ (hJ 137 83).toInt ∧ (hJ 137 83).toInt ≤ (h 137 83).toInt + (0) by omega) (show (h 137 2).toInt + (0) ≤ (hJ 137 2).toInt ∧ (hJ 137 2).toInt ≤ (h 137 2).toInt + (0) by omega) (by omega) eK eA (show (hJ 137 58).toInt = (h 163 (opn h)).toInt by omega) (E9.congr rfl rfl) (K9.congr rfl rfl) 
        · skip
          have k_0 : (0 : Int32).toInt = 0 := rfl
          have c_100 := pi_eq.mp c_100
          refine lv_aload_n hx hb dX12_close_103 rfl (lv_at hl 0 rfl) ?_
          refine pg_r M V 12 34 (sm_this S) pC12 fk12_34 (sm_lowest S).2.2 lkF_X12_51 dX12_close_104 ?_
          refine lv_aload_n hx hb dX12_close_107 rfl (lv_at hl 0 rfl) ?_
          refine pg_r M V 12 55 (sm_this S) pC12 fk12_55 (sm_openNumber S).2.2 lkF_X12_105 dX12_close_108 ?_
          refine lv_aload_n hx hb dX12_close_111 rfl (lv_at hl 0 rfl) ?_
          refine pg_i M V 12 56 (sm_this S) pC12 fk12_56 lkF_X12_279 dX12_close_112 ?_
          refine lv_topi (fun v20 ev20 => ?_)
          have tv20 : 0 ≤ v20.toInt ∧ v20.toInt ≤ 40 := by rw [ev20]; exact I.get (sm_this S) 56
          have uv20 : v20.toInt = (hJ 137 56).toInt := congrArg Int32.toInt ev20
          refine pa_i M V (sm_openNumber S).1 (by rw [(sm_openNumber S).2.1]; exact pi_in (by omega)) dX12_close_115 ?_
          refine lv_topi (fun v21 ev21 => ?_)
          have tv21 : 0 ≤ v21.toInt ∧ v21.toInt ≤ 8 := by rw [ev21]; exact I.get (sm_openNumber S).1 _
          refine lv_aload_n hx hb dX12_close_116 rfl (lv_at hl 0 rfl) ?_
          refine pg_r M V 12 66 (sm_this S) pC12 fk12_66 (sm_farY S).2.2 lkF_X12_132 dX12_close_117 ?_
          refine lv_iload_n hx hb dX12_close_120 rfl (lv_at hl 2 rfl) ?_
          refine pa_i M V (sm_farY S).1 (by rw [(sm_farY S).2.1]; exact pi_in (by omega)) dX12_close_121 ?_
          refine lv_topi (fun v22 ev22 => ?_)
          refine lv_aload_n hx hb dX12_close_122 rfl (lv_at hl 0 rfl) ?_
          refine pg_r M V 12 60 (sm_this S) pC12 fk12_60 (sm_firstY S).2.2 lkF_X12_114 dX12_close_123 ?_
          refine lv_iload_n hx hb dX12_close_126 rfl (lv_at hl 2 rfl) ?_
          refine pa_i M V (sm_firstY S).1 (by rw [(sm_firstY S).2.1]; exact pi_in (by omega)) dX12_close_127 ?_
          refine lv_topi (fun v23 ev23 => ?_)
          refine lv_isub hx hb dX12_close_128 ?_
          refine lv_topi (fun v24 ev24 => ?_)
          refine ps_i M V (sm_lowest S).1 (by rw [(sm_lowest S).2.1]; exact pi_in (by omega)) dX12_close_129 (fun H locs V => ?_)
          have A := A.wk (l3 := [(137, 0), (137, 56), (137, 58), (179, 1000), (150, 1000)]) (by decide)
          have A := A.upA (o := 150) (k := v21.toNatClampNeg) (v := v24) (by decide)
          have I := I.up (k := v21.toNatClampNeg) (v := v24) (sm_lowest S).1 (pi_full _)
          exact J_130 x69_1 x69_2 x69_3 _ _ _ _ V I (A.wk (by decide)) (lv_sub hl [0, 1, 2, 3] rfl) (by omega) (by omega) (by omega) (show (h 137 56).toInt + (-1) ≤ (hJ 137 56).toInt ∧ (hJ 137 56).toInt ≤ (h 137 56).toInt + (-1) by omega) (show (h 137 70).toInt + (0) ≤ (hJ 137 70).toInt ∧ (hJ 137 70).toInt ≤ (h 137 70).toInt + (0) by omega) (show 0 ≤ (hJ 137 58).toInt ∧ (hJ 137 58).toInt ≤ 40 by omega) (show (h 137 25).toInt + (0) ≤ (hJ 137 25).toInt ∧ (hJ 137 25).toInt ≤ (h 137 25).toInt + (0) by omega) (show (h 137 27).toInt + (0) ≤ (hJ 137 27).toInt ∧ (hJ 137 27).toInt ≤ (h 137 27).toInt + (0) by omega) (show (h 137 82).toInt + (0) ≤ (hJ 137 82).toInt ∧ (hJ 137 82).toInt ≤ (h 137 82).toInt + (0) by omega) (show (h 137 83).toInt + (0) ≤ (hJ 137 83).toInt ∧ (hJ 137 83).toInt ≤ (h 137 83).toInt + (0) by omega) (show (h 137 2).toInt + (0) ≤ (hJ 137 2).toInt ∧ (hJ 137 2).toInt ≤ (h 137 2).toInt + (0) by omega) (by omega) eK eA (show (hJ 137 58).toInt = (h 163 (opn h)).toInt by omega) (E9.congr rfl rfl) (K9.congr rfl rfl) 
      · skip
        have k_4 : (4 : Int32).toInt = 4 := rfl
        have c_71 := pi_le' c_71
        refine lv_aload_n hx hb dX12_close_74 rfl (lv_at hl 0 rfl) ?_
        refine pg_r M V 12 72 (sm_this S) pC12 fk12_72 (sm_clip S).2.2 lkF_X12_147 dX12_close_75 ?_
        refine lv_iload_n hx hb dX12_close_78 rfl (lv_at hl 3 rfl) ?_
        refine lv_aload_n hx hb dX12_close_79 rfl (lv_at hl 0 rfl) ?_
        refine pg_r M V 12 53 (sm_this S) pC12 fk12_53 (sm_openClip S).2.2 lkF_X12_99 dX12_close_80 ?_
        refine lv_iconst (v := 4) hx hb dX12_close_83 (by decide) ?_
        refine lv_aload_n hx hb dX12_close_84 rfl (lv_at hl 0 rfl) ?_
        refine pg_i M V 12 56 (sm_this S) pC12 fk12_56 lkF_X12_279 dX12_close_85 ?_
        refine lv_topi (fun v25 ev25 => ?_)
        have tv25 : 0 ≤ v25.toInt ∧ v25.toInt ≤ 40 := by rw [ev25]; exact I.get (sm_this S) 56
        have uv25 : v25.toInt = (hJ 137 56).toInt := congrArg Int32.toInt ev25
        refine lv_imul hx hb dX12_close_88 ?_
        refine lv_topi (fun v26 ev26 => ?_)
        refine lv_iload_n hx hb dX12_close_89 rfl (lv_at hl 3 rfl) ?_
        refine lv_iadd hx hb dX12_close_90 ?_
        refine lv_topi (fun v27 ev27 => ?_)
        have tv26 : v26.toInt = 4 * v25.toInt := by rw [ev26]; have z9 := pi_mul (x := (4 : Int32)) (y := v25); rw [k_4] at z9; exact z9 (by omega)
        have tv27 : v27.toInt = v26.toInt + x69_3.toInt := by rw [ev27]; exact pi_add (by omega)
        refine pa_i M V (sm_openClip S).1 (by rw [(sm_openClip S).2.1]; exact pi_in (by omega)) dX12_close_91 ?_
        refine lv_topi (fun v28 ev28 => ?_)
        refine ps_i M V (sm_clip S).1 (by rw [(sm_clip S).2.1]; exact pi_in (by omega)) dX12_close_92 (fun H locs V => ?_)
        have A := A.upA (o := 179) (k := x69_3.toNatClampNeg) (v := v28) (by decide)
        have I := I.up (k := x69_3.toNatClampNeg) (v := v28) (sm_clip S).1 (pi_full _)
        obtain ⟨v29, ev29⟩ : ∃ y : Int32, y = x69_3 + 1 := ⟨_, rfl⟩
        refine lv_iinc (v := v29) (lv' := [(3, .int v29), (0, .ref (zB Z + 137)), (1, .int x69_1), (2, .int x69_2)]) hx hb dX12_close_93 hl (k := 3) rfl (by rw [ev29]; rfl) (by decide) rfl (fun ls hl => ?_)
        refine lv_goto (tgt := 69) hx hb dX12_close_96 (by decide) ?_
        have k_1 : (1 : Int32).toInt = 1 := rfl
        have tv29 : v29.toInt = x69_3.toInt + 1 := by rw [ev29]; have z9 := pi_add (x := x69_3) (y := (1 : Int32)); rw [k_1] at z9; exact z9 (by omega)
        exact ih_69 x69_1 x69_2 v29 _ _ _ _ V I (A.wk (by decide)) (lv_sub hl [1, 2, 3, 0] rfl) (by omega) (by omega) (by omega) (show (h 137 56).toInt + (-1) ≤ (hJ 137 56).toInt ∧ (hJ 137 56).toInt ≤ (h 137 56).toInt + (-1) by omega) (show (h 137 70).toInt + (0) ≤ (hJ 137 70).toInt ∧ (hJ 137 70).toInt ≤ (h 137 70).toInt + (0) by omega) (show 0 ≤ (hJ 137 58).toInt ∧ (hJ 137 58).toInt ≤ 40 by omega) (show (h 137 25).toInt + (0) ≤ (hJ 137 25).toInt ∧ (hJ 137 25).toInt ≤ (h 137 25).toInt + (0) by omega) (show (h 137 27).toInt + (0) ≤ (hJ 137 27).toInt ∧ (hJ 137 27).toInt ≤ (h 137 27).toInt + (0) by omega) (show (h 137 82).toInt + (0) ≤ (hJ 137 82).toInt ∧ (hJ 137 82).toInt ≤ (h 137 82).toInt + (0) by omega) (show (h 137 83).toInt + (0) ≤ (hJ 137 83).toInt ∧ (hJ 137 83).toInt ≤ (h 137 83).toInt + (0) by omega) (show (h 137 2).toInt + (0) ≤ (hJ 137 2).toInt ∧ (hJ 137 2).toInt ≤ (h 137 2).toInt + (0) by omega) (by omega) eK eA (show (hJ 137 58).toInt = (h 163 (opn h)).toInt by omega) (E9.congr rfl rfl) (K9.congr rfl rfl) (by omega) 
  have J_19 : ∀ (hJ : pH) (H : Heap) (locs : List Loc) (ls : Array Slot), pV Z hJ s.heap H locs → Iv Z hJ → agr [(137, 0)] h hJ → lv_has ls 4 [(0, .ref (zB Z + 137))] → ((h 137 56).toInt + (0) ≤ (hJ 137 56).toInt ∧ (hJ 137 56).toInt ≤ (h 137 56).toInt + (0)) → ((h 137 70).toInt + (0) ≤ (hJ 137 70).toInt ∧ (hJ 137 70).toInt ≤ (h 137 70).toInt + (0)) → ((h 137 58).toInt + (0) ≤ (hJ 137 58).toInt ∧ (hJ 137 58).toInt ≤ (h 137 58).toInt + (0)) → ((h 137 25).toInt + (0) ≤ (hJ 137 25).toInt ∧ (hJ 137 25).toInt ≤ (h 137 25).toInt + (0)) → ((h 137 27).toInt + (0) ≤ (hJ 137 27).toInt ∧ (hJ 137 27).toInt ≤ (h 137 27).toInt + (0)) → ((h 137 82).toInt + (0) ≤ (hJ 137 82).toInt ∧ (hJ 137 82).toInt ≤ (h 137 82).toInt + (0)) → ((h 137 83).toInt + (0) ≤ (hJ 137 83).toInt ∧ (hJ 137 83).toInt ≤ (h 137 83).toInt + (0)) → ((h 137 2).toInt + (0) ≤ (hJ 137 2).toInt ∧ (hJ 137 2).toInt ≤ (h 137 2).toInt + (0)) → mE hJ → mS hJ → mK hJ → W p l e (pRm 2 0 0 47) s m ([.ref (zB Z + 137)] : List Value).toArray below meth c H locs 0 0 (MQ below (pQi Z (fun r Z1 h1 => Z = Z1 ∧ Iv Z h1 ∧ agr [(137, 0), (137, 18), (137, 19), (137, 20), (137, 22), (137, 21), (137, 23), (137, 40), (137, 48), (137, 56), (137, 58), (137, 70), (137, 71), (153, 1000), (179, 1000), (150, 1000), (161, 1000), (170, 1000), (177, 1000), (180, 1000), (172, 1000), (173, 1000), (171, 1000), (174, 1000), (175, 1000), (176, 1000)] h h1 ∧ (mE h1) ∧ (mS h1) ∧ (mK h1))) ([.ref (zB Z + 137)] : List Value).toArray s 0 0 (pA (zB Z))) (F0 m 19 ls []) := by
    intro hJ H locs ls V I A hl gd_19_56 gd_19_70 gd_19_58 gd_19_25 gd_19_27 gd_19_82 gd_19_83 gd_19_2 E9 S9 K9
    refine lv_aload_n hx hb dX12_close_19 rfl (lv_at hl 0 rfl) ?_
    refine pk_i (pr_V M V (m_X12_breaks l S I  ) km_X12_breaks (sm_this S) pC12 lkM_X12_239 rfl hl.1 rfl (Nat.le_of_ble_eq_true rfl) ⟨Nat.le_of_ble_eq_true rfl, Nat.le_of_ble_eq_true rfl⟩ ⟨Nat.le_of_ble_eq_true rfl, Nat.le_of_ble_eq_true rfl⟩ dX12_close_20) V (fun r30 Zr30 hr30 H locs pr30 _ _ V => ?_)
    obtain ⟨rfl, I, pA_r30, fr30_0, fr30_1⟩ := pr30
    have A := A.wk (l3 := [(137, 0), (137, 18), (137, 19), (137, 20), (137, 22), (137, 21), (137, 23), (137, 40), (137, 48), (137, 56), (137, 58), (137, 70), (137, 71), (153, 1000)]) (by decide)
    have A := A.tr pA_r30 (by decide)
    have E9 : mE hr30 := E9.congr (pA_r30.get 137 2 (by decide)) (pA_r30.row 138 (by decide))
    have S9 : mS hr30 := fr30_1 (S9.congr rfl rfl rfl rfl rfl rfl rfl)
    have K9 : mK hr30 := K9.congr (pA_r30.row 185 (by decide)) (pA_r30.row 184 (by decide))
    have w_r30_25 : (hr30 137 25).toInt = (hJ 137 25).toInt := congrArg Int32.toInt (pA_r30.get 137 25 (by decide))
    have w_r30_27 : (hr30 137 27).toInt = (hJ 137 27).toInt := congrArg Int32.toInt (pA_r30.get 137 27 (by decide))
    have w_r30_82 : (hr30 137 82).toInt = (hJ 137 82).toInt := congrArg Int32.toInt (pA_r30.get 137 82 (by decide))
    have w_r30_83 : (hr30 137 83).toInt = (hJ 137 83).toInt := congrArg Int32.toInt (pA_r30.get 137 83 (by decide))
    have w_r30_2 : (hr30 137 2).toInt = (hJ 137 2).toInt := congrArg Int32.toInt (pA_r30.get 137 2 (by decide))
    exact pe_i M V rfl rfl hr hlk rfl ⟨rfl, I, A.wk (by decide), (E9.congr rfl rfl), (S9.congr rfl rfl rfl rfl rfl rfl rfl), (K9.congr rfl rfl)⟩ ⟨Nat.le_refl _, Nat.le_refl _⟩ dX12_close_23
  refine lv_aload_n hx hb dX12_close_0 rfl (lv_at hl 0 rfl) ?_
  refine lv_iconst (v := 0) hx hb dX12_close_1 (by decide) ?_
  refine pp_i M V 12 0 (sm_this S) pC12 fk12_0 rfl lkF_X12_175 ⟨rfl, rfl⟩ dX12_close_2 (fun H locs V => ?_)
  have A := A.wk (l3 := [(137, 0)]) (by decide)
  have A := A.up (o := 137) (k := 0) (v := (0 : Int32)) (by decide)
  have I := I.up (k := 0) (v := (0 : Int32)) (sm_this S) (pi_full _)
  refine lv_aload_n hx hb dX12_close_5 rfl (lv_at hl 0 rfl) ?_
  refine pg_i M V 12 18 (sm_this S) pC12 fk12_18 lkF_X12_236 dX12_close_6 ?_
  refine lv_topi (fun v31 ev31 => ?_)
  have tv31 : 0 ≤ v31.toInt ∧ v31.toInt ≤ 1 := by rw [ev31]; exact I.get (sm_this S) 18
  refine lv_if_eq (tgt := 19) hx hb dX12_close_9 (by decide) (fun c_9 => ?_) (fun c_9 => ?_)
  · skip
    have k_0 : (0 : Int32).toInt = 0 := rfl
    have c_9 := pi_eq.mp c_9
    exact J_19 _ _ _ _ V I (A.wk (by decide)) (lv_sub hl [0] rfl) (show (h 137 56).toInt + (0) ≤ (h 137 56).toInt ∧ (h 137 56).toInt ≤ (h 137 56).toInt + (0) by omega) (show (h 137 70).toInt + (0) ≤ (h 137 70).toInt ∧ (h 137 70).toInt ≤ (h 137 70).toInt + (0) by omega) (show (h 137 58).toInt + (0) ≤ (h 137 58).toInt ∧ (h 137 58).toInt ≤ (h 137 58).toInt + (0) by omega) (show (h 137 25).toInt + (0) ≤ (h 137 25).toInt ∧ (h 137 25).toInt ≤ (h 137 25).toInt + (0) by omega) (show (h 137 27).toInt + (0) ≤ (h 137 27).toInt ∧ (h 137 27).toInt ≤ (h 137 27).toInt + (0) by omega) (show (h 137 82).toInt + (0) ≤ (h 137 82).toInt ∧ (h 137 82).toInt ≤ (h 137 82).toInt + (0) by omega) (show (h 137 83).toInt + (0) ≤ (h 137 83).toInt ∧ (h 137 83).toInt ≤ (h 137 83).toInt + (0) by omega) (show (h 137 2).toInt + (0) ≤ (h 137 2).toInt ∧ (h 137 2).toInt ≤ (h 137 2).toInt + (0) by omega) (E9.congr rfl rfl) (S9.congr rfl rfl rfl rfl rfl rfl rfl) (K9.congr rfl rfl) 
  · skip
    have k_0 : (0 : Int32).toInt = 0 := rfl
    have c_9 := pi_ne c_9
    refine lv_aload_n hx hb dX12_close_12 rfl (lv_at hl 0 rfl) ?_
    refine pg_i M V 12 56 (sm_this S) pC12 fk12_56 lkF_X12_279 dX12_close_13 ?_
    refine lv_topi (fun v32 ev32 => ?_)
    have tv32 : 0 ≤ v32.toInt ∧ v32.toInt ≤ 40 := by rw [ev32]; exact I.get (sm_this S) 56
    have uv32 : v32.toInt = (h 137 56).toInt := congrArg Int32.toInt ev32
    refine lv_if_ne (tgt := 24) hx hb dX12_close_16 (by decide) (fun c_16 => ?_) (fun c_16 => ?_)
    · skip
      have c_16 := pi_ne c_16
      refine lv_aload_n hx hb dX12_close_24 rfl (lv_at hl 0 rfl) ?_
      refine lv_dup hx hb dX12_close_25 rfl ?_
      refine pg_iv M V 12 56 (v := v32) (sm_this S) pC12 fk12_56 ev32.symm lkF_X12_279 dX12_close_26 ?_
      refine lv_iconst (v := 1) hx hb dX12_close_29 (by decide) ?_
      refine lv_isub hx hb dX12_close_30 ?_
      refine lv_topi (fun v33 ev33 => ?_)
      refine pp_i M V 12 56 (sm_this S) pC12 fk12_56 rfl lkF_X12_279 ⟨rfl, rfl⟩ dX12_close_31 (fun H locs V => ?_)
      have A := A.wk (l3 := [(137, 0), (137, 56)]) (by decide)
      have A := A.up (o := 137) (k := 56) (v := v33) (by decide)
      have k_1 : (1 : Int32).toInt = 1 := rfl
      have tv33 : v33.toInt = v32.toInt - 1 := by rw [ev33]; have z9 := pi_sub (x := v32) (y := (1 : Int32)); rw [k_1] at z9; exact z9 (by omega)
      have I := I.up (k := 56) (v := v33) (sm_this S) (show (0 : Int) ≤ v33.toInt ∧ v33.toInt ≤ (40 : Int) by omega)
      refine lv_aload_n hx hb dX12_close_34 rfl (lv_at hl 0 rfl) ?_
      refine pg_r M V 12 51 (sm_this S) pC12 fk12_51 (sm_openKind S).2.2 lkF_X12_93 dX12_close_35 ?_
      refine lv_aload_n hx hb dX12_close_38 rfl (lv_at hl 0 rfl) ?_
      refine pg_iv M V 12 56 (v := v33) (sm_this S) pC12 fk12_56 rfl lkF_X12_279 dX12_close_39 ?_
      refine pa_i M V (sm_openKind S).1 (by rw [(sm_openKind S).2.1]; exact pi_in (by omega)) dX12_close_42 ?_
      refine lv_topi (fun v34 ev34 => ?_)
      have tv34 : 0 ≤ v34.toInt ∧ v34.toInt ≤ 4 := by rw [ev34]; exact I.get (sm_openKind S).1 _
      have hO : 1 ≤ (h 137 56).toInt := by omega
      have qK : v34 = h 162 (opn h) := by rw [ev34, congrFun (A.row 162 (by decide)) _, opn_at (v := v33) hO (by omega)]
      refine lv_istore_n (lv' := [(1, .int v34), (0, .ref (zB Z + 137))]) hx hb dX12_close_43 rfl hl (by decide) rfl (fun ls hl => ?_)
      refine lv_aload_n hx hb dX12_close_44 rfl (lv_at hl 1 rfl) ?_
      refine pg_r M V 12 54 (sm_this S) pC12 fk12_54 (sm_openArea S).2.2 lkF_X12_102 dX12_close_45 ?_
      refine lv_aload_n hx hb dX12_close_48 rfl (lv_at hl 1 rfl) ?_
      refine pg_iv M V 12 56 (v := v33) (sm_this S) pC12 fk12_56 rfl lkF_X12_279 dX12_close_49 ?_
      refine pa_i M V (sm_openArea S).1 (by rw [(sm_openArea S).2.1]; exact pi_in (by omega)) dX12_close_52 ?_
      refine lv_topi (fun v35 ev35 => ?_)
      have tv35 : -1 ≤ v35.toInt ∧ v35.toInt ≤ 39 := by rw [ev35]; exact I.get (sm_openArea S).1 _
      have qA : v35 = h 165 (opn h) := by rw [ev35, congrFun (A.row 165 (by decide)) _, opn_at (v := v33) hO (by omega)]
      refine lv_istore_n (lv' := [(2, .int v35), (1, .int v34), (0, .ref (zB Z + 137))]) hx hb dX12_close_53 rfl hl (by decide) rfl (fun ls hl => ?_)
      refine lv_aload_n hx hb dX12_close_54 rfl (lv_at hl 2 rfl) ?_
      refine lv_aload_n hx hb dX12_close_55 rfl (lv_at hl 2 rfl) ?_
      refine pg_r M V 12 52 (sm_this S) pC12 fk12_52 (sm_openPile S).2.2 lkF_X12_96 dX12_close_56 ?_
      refine lv_aload_n hx hb dX12_close_59 rfl (lv_at hl 2 rfl) ?_
      refine pg_iv M V 12 56 (v := v33) (sm_this S) pC12 fk12_56 rfl lkF_X12_279 dX12_close_60 ?_
      refine pa_i M V (sm_openPile S).1 (by rw [(sm_openPile S).2.1]; exact pi_in (by omega)) dX12_close_63 ?_
      refine lv_topi (fun v36 ev36 => ?_)
      have tv36 : 0 ≤ v36.toInt ∧ v36.toInt ≤ 40 := by rw [ev36]; exact I.get (sm_openPile S).1 _
      have qP : v36.toInt = (h 163 (opn h)).toInt := by rw [ev36, congrFun (A.row 163 (by decide)) _, opn_at (v := v33) hO (by omega)]
      refine pp_i M V 12 58 (sm_this S) pC12 fk12_58 rfl lkF_X12_282 ⟨rfl, rfl⟩ dX12_close_64 (fun H locs V => ?_)
      have A := A.wk (l3 := [(137, 0), (137, 56), (137, 58)]) (by decide)
      have A := A.up (o := 137) (k := 58) (v := v36) (by decide)
      have I := I.up (k := 58) (v := v36) (sm_this S) (show (0 : Int) ≤ v36.toInt ∧ v36.toInt ≤ (40 : Int) by omega)
      refine lv_iconst (v := 0) hx hb dX12_close_67 (by decide) ?_
      refine lv_istore_n (lv' := [(3, .int (0 : Int32)), (2, .int v35), (1, .int v34), (0, .ref (zB Z + 137))]) hx hb dX12_close_68 rfl hl (by decide) rfl (fun ls hl => ?_)
      exact J_69 _ v34 v35 (0 : Int32) _ _ _ _ V I (A.wk (by decide)) (lv_sub hl [3, 2, 1, 0] rfl) (by omega) (by omega) (by omega) (show (h 137 56).toInt + (-1) ≤ v33.toInt ∧ v33.toInt ≤ (h 137 56).toInt + (-1) by omega) (show (h 137 70).toInt + (0) ≤ (h 137 70).toInt ∧ (h 137 70).toInt ≤ (h 137 70).toInt + (0) by omega) (show 0 ≤ v36.toInt ∧ v36.toInt ≤ 40 by omega) (show (h 137 25).toInt + (0) ≤ (h 137 25).toInt ∧ (h 137 25).toInt ≤ (h 137 25).toInt + (0) by omega) (show (h 137 27).toInt + (0) ≤ (h 137 27).toInt ∧ (h 137 27).toInt ≤ (h 137 27).toInt + (0) by omega) (show (h 137 82).toInt + (0) ≤ (h 137 82).toInt ∧ (h 137 82).toInt ≤ (h 137 82).toInt + (0) by omega) (show (h 137 83).toInt + (0) ≤ (h 137 83).toInt ∧ (h 137 83).toInt ≤ (h 137 83).toInt + (0) by omega) (show (h 137 2).toInt + (0) ≤ (h 137 2).toInt ∧ (h 137 2).toInt ≤ (h 137 2).toInt + (0) by omega) (by omega) qK qA (show v36.toInt = (h 163 (opn h)).toInt by omega) (E9.congr rfl rfl) (K9.congr rfl rfl) (Nat.lt_succ_self _) 
    · skip
      have c_16 := pi_eq.mp c_16
      exact J_19 _ _ _ _ V I (A.wk (by decide)) (lv_sub hl [0] rfl) (show (h 137 56).toInt + (0) ≤ (h 137 56).toInt ∧ (h 137 56).toInt ≤ (h 137 56).toInt + (0) by omega) (show (h 137 70).toInt + (0) ≤ (h 137 70).toInt ∧ (h 137 70).toInt ≤ (h 137 70).toInt + (0) by omega) (show (h 137 58).toInt + (0) ≤ (h 137 58).toInt ∧ (h 137 58).toInt ≤ (h 137 58).toInt + (0) by omega) (show (h 137 25).toInt + (0) ≤ (h 137 25).toInt ∧ (h 137 25).toInt ≤ (h 137 25).toInt + (0) by omega) (show (h 137 27).toInt + (0) ≤ (h 137 27).toInt ∧ (h 137 27).toInt ≤ (h 137 27).toInt + (0) by omega) (show (h 137 82).toInt + (0) ≤ (h 137 82).toInt ∧ (h 137 82).toInt ≤ (h 137 82).toInt + (0) by omega) (show (h 137 83).toInt + (0) ≤ (h 137 83).toInt ∧ (h 137 83).toInt ≤ (h 137 83).toInt + (0) by omega) (show (h 137 2).toInt + (0) ≤ (h 137 2).toInt ∧ (h 137 2).toInt ≤ (h 137 2).toInt + (0) by omega) (E9.congr rfl rfl) (S9.congr rfl rfl rfl rfl rfl rfl rfl) (K9.congr rfl rfl) 
