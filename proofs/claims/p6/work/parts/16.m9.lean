theorem dX12_edit_0 : decode cX12_edit 0 = .ok (.aload_n 0, 1) := by decide +kernel
theorem dX12_edit_1 : decode cX12_edit 1 = .ok (.getfield 217, 3) := by decide +kernel
theorem dX12_edit_4 : decode cX12_edit 4 = .ok (.ifCond .le 11, 3) := by decide +kernel
theorem dX12_edit_7 : decode cX12_edit 7 = .ok (.aload_n 0, 1) := by decide +kernel
theorem dX12_edit_8 : decode cX12_edit 8 = .ok (.iload_n 1, 1) := by decide +kernel
theorem dX12_edit_9 : decode cX12_edit 9 = .ok (.invokevirtual 368, 3) := by decide +kernel
theorem dX12_edit_12 : decode cX12_edit 12 = .ok (.goto 8, 3) := by decide +kernel
theorem dX12_edit_15 : decode cX12_edit 15 = .ok (.aload_n 0, 1) := by decide +kernel
theorem dX12_edit_16 : decode cX12_edit 16 = .ok (.iload_n 1, 1) := by decide +kernel
theorem dX12_edit_17 : decode cX12_edit 17 = .ok (.invokevirtual 365, 3) := by decide +kernel
theorem dX12_edit_20 : decode cX12_edit 20 = .ok (.istore_n 2, 1) := by decide +kernel
theorem dX12_edit_21 : decode cX12_edit 21 = .ok (.iload_n 2, 1) := by decide +kernel
theorem dX12_edit_22 : decode cX12_edit 22 = .ok (.iconst (-1), 1) := by decide +kernel
theorem dX12_edit_23 : decode cX12_edit 23 = .ok (.if_icmp .ne 4, 3) := by decide +kernel
theorem dX12_edit_26 : decode cX12_edit 26 = .ok (.return_, 1) := by decide +kernel
theorem dX12_edit_27 : decode cX12_edit 27 = .ok (.aload_n 0, 1) := by decide +kernel
theorem dX12_edit_28 : decode cX12_edit 28 = .ok (.getfield 17, 3) := by decide +kernel
theorem dX12_edit_31 : decode cX12_edit 31 = .ok (.iconst 5, 1) := by decide +kernel
theorem dX12_edit_32 : decode cX12_edit 32 = .ok (.baload, 1) := by decide +kernel
theorem dX12_edit_33 : decode cX12_edit 33 = .ok (.ifCond .eq 10, 3) := by decide +kernel
theorem dX12_edit_36 : decode cX12_edit 36 = .ok (.aload_n 0, 1) := by decide +kernel
theorem dX12_edit_37 : decode cX12_edit 37 = .ok (.getfield 165, 3) := by decide +kernel
theorem dX12_edit_40 : decode cX12_edit 40 = .ok (.iload_n 2, 1) := by decide +kernel
theorem dX12_edit_41 : decode cX12_edit 41 = .ok (.iconst 0, 1) := by decide +kernel
theorem dX12_edit_42 : decode cX12_edit 42 = .ok (.iastore, 1) := by decide +kernel
theorem dX12_edit_43 : decode cX12_edit 43 = .ok (.aload_n 0, 1) := by decide +kernel
theorem dX12_edit_44 : decode cX12_edit 44 = .ok (.getfield 17, 3) := by decide +kernel
theorem dX12_edit_47 : decode cX12_edit 47 = .ok (.iconst 2, 1) := by decide +kernel
theorem dX12_edit_48 : decode cX12_edit 48 = .ok (.baload, 1) := by decide +kernel
theorem dX12_edit_49 : decode cX12_edit 49 = .ok (.ifCond .eq 22, 3) := by decide +kernel
theorem dX12_edit_52 : decode cX12_edit 52 = .ok (.aload_n 0, 1) := by decide +kernel
theorem dX12_edit_53 : decode cX12_edit 53 = .ok (.getfield 165, 3) := by decide +kernel
theorem dX12_edit_56 : decode cX12_edit 56 = .ok (.iload_n 2, 1) := by decide +kernel
theorem dX12_edit_57 : decode cX12_edit 57 = .ok (.iaload, 1) := by decide +kernel
theorem dX12_edit_58 : decode cX12_edit 58 = .ok (.ifCond .le 13, 3) := by decide +kernel
theorem dX12_edit_61 : decode cX12_edit 61 = .ok (.aload_n 0, 1) := by decide +kernel
theorem dX12_edit_62 : decode cX12_edit 62 = .ok (.getfield 165, 3) := by decide +kernel
theorem dX12_edit_65 : decode cX12_edit 65 = .ok (.iload_n 2, 1) := by decide +kernel
theorem dX12_edit_66 : decode cX12_edit 66 = .ok (.dup2, 1) := by decide +kernel
theorem dX12_edit_67 : decode cX12_edit 67 = .ok (.iaload, 1) := by decide +kernel
theorem dX12_edit_68 : decode cX12_edit 68 = .ok (.iconst 1, 1) := by decide +kernel
theorem dX12_edit_69 : decode cX12_edit 69 = .ok (.isub, 1) := by decide +kernel
theorem dX12_edit_70 : decode cX12_edit 70 = .ok (.iastore, 1) := by decide +kernel
theorem dX12_edit_71 : decode cX12_edit 71 = .ok (.aload_n 0, 1) := by decide +kernel
theorem dX12_edit_72 : decode cX12_edit 72 = .ok (.getfield 17, 3) := by decide +kernel
theorem dX12_edit_75 : decode cX12_edit 75 = .ok (.iconst 3, 1) := by decide +kernel
theorem dX12_edit_76 : decode cX12_edit 76 = .ok (.baload, 1) := by decide +kernel
theorem dX12_edit_77 : decode cX12_edit 77 = .ok (.ifCond .eq 28, 3) := by decide +kernel
theorem dX12_edit_80 : decode cX12_edit 80 = .ok (.aload_n 0, 1) := by decide +kernel
theorem dX12_edit_81 : decode cX12_edit 81 = .ok (.getfield 165, 3) := by decide +kernel
theorem dX12_edit_84 : decode cX12_edit 84 = .ok (.iload_n 2, 1) := by decide +kernel
theorem dX12_edit_85 : decode cX12_edit 85 = .ok (.iaload, 1) := by decide +kernel
theorem dX12_edit_86 : decode cX12_edit 86 = .ok (.aload_n 0, 1) := by decide +kernel
theorem dX12_edit_87 : decode cX12_edit 87 = .ok (.getfield 162, 3) := by decide +kernel
theorem dX12_edit_90 : decode cX12_edit 90 = .ok (.iload_n 2, 1) := by decide +kernel
theorem dX12_edit_91 : decode cX12_edit 91 = .ok (.iaload, 1) := by decide +kernel
theorem dX12_edit_92 : decode cX12_edit 92 = .ok (.if_icmp .ge 13, 3) := by decide +kernel
theorem dX12_edit_95 : decode cX12_edit 95 = .ok (.aload_n 0, 1) := by decide +kernel
theorem dX12_edit_96 : decode cX12_edit 96 = .ok (.getfield 165, 3) := by decide +kernel
theorem dX12_edit_99 : decode cX12_edit 99 = .ok (.iload_n 2, 1) := by decide +kernel
theorem dX12_edit_100 : decode cX12_edit 100 = .ok (.dup2, 1) := by decide +kernel
theorem dX12_edit_101 : decode cX12_edit 101 = .ok (.iaload, 1) := by decide +kernel
theorem dX12_edit_102 : decode cX12_edit 102 = .ok (.iconst 1, 1) := by decide +kernel
theorem dX12_edit_103 : decode cX12_edit 103 = .ok (.iadd, 1) := by decide +kernel
theorem dX12_edit_104 : decode cX12_edit 104 = .ok (.iastore, 1) := by decide +kernel
theorem dX12_edit_105 : decode cX12_edit 105 = .ok (.aload_n 0, 1) := by decide +kernel
theorem dX12_edit_106 : decode cX12_edit 106 = .ok (.getfield 17, 3) := by decide +kernel
theorem dX12_edit_109 : decode cX12_edit 109 = .ok (.iconst 4, 1) := by decide +kernel
theorem dX12_edit_110 : decode cX12_edit 110 = .ok (.baload, 1) := by decide +kernel
theorem dX12_edit_111 : decode cX12_edit 111 = .ok (.ifCond .eq 79, 3) := by decide +kernel
theorem dX12_edit_114 : decode cX12_edit 114 = .ok (.aload_n 0, 1) := by decide +kernel
theorem dX12_edit_115 : decode cX12_edit 115 = .ok (.getfield 165, 3) := by decide +kernel
theorem dX12_edit_118 : decode cX12_edit 118 = .ok (.iload_n 2, 1) := by decide +kernel
theorem dX12_edit_119 : decode cX12_edit 119 = .ok (.iaload, 1) := by decide +kernel
theorem dX12_edit_120 : decode cX12_edit 120 = .ok (.ifCond .le 70, 3) := by decide +kernel
theorem dX12_edit_123 : decode cX12_edit 123 = .ok (.aload_n 0, 1) := by decide +kernel
theorem dX12_edit_124 : decode cX12_edit 124 = .ok (.getfield 165, 3) := by decide +kernel
theorem dX12_edit_127 : decode cX12_edit 127 = .ok (.iload_n 2, 1) := by decide +kernel
theorem dX12_edit_128 : decode cX12_edit 128 = .ok (.iaload, 1) := by decide +kernel
theorem dX12_edit_129 : decode cX12_edit 129 = .ok (.istore_n 3, 1) := by decide +kernel
theorem dX12_edit_130 : decode cX12_edit 130 = .ok (.iload_n 3, 1) := by decide +kernel
theorem dX12_edit_131 : decode cX12_edit 131 = .ok (.aload_n 0, 1) := by decide +kernel
theorem dX12_edit_132 : decode cX12_edit 132 = .ok (.getfield 162, 3) := by decide +kernel
theorem dX12_edit_135 : decode cX12_edit 135 = .ok (.iload_n 2, 1) := by decide +kernel
theorem dX12_edit_136 : decode cX12_edit 136 = .ok (.iaload, 1) := by decide +kernel
theorem dX12_edit_137 : decode cX12_edit 137 = .ok (.if_icmp .ge 33, 3) := by decide +kernel
theorem dX12_edit_140 : decode cX12_edit 140 = .ok (.aload_n 0, 1) := by decide +kernel
theorem dX12_edit_141 : decode cX12_edit 141 = .ok (.getfield 159, 3) := by decide +kernel
theorem dX12_edit_144 : decode cX12_edit 144 = .ok (.bipush 12, 2) := by decide +kernel
theorem dX12_edit_146 : decode cX12_edit 146 = .ok (.iload_n 2, 1) := by decide +kernel
theorem dX12_edit_147 : decode cX12_edit 147 = .ok (.imul, 1) := by decide +kernel
theorem dX12_edit_148 : decode cX12_edit 148 = .ok (.iload_n 3, 1) := by decide +kernel
theorem dX12_edit_149 : decode cX12_edit 149 = .ok (.iadd, 1) := by decide +kernel
theorem dX12_edit_150 : decode cX12_edit 150 = .ok (.iconst 1, 1) := by decide +kernel
theorem dX12_edit_151 : decode cX12_edit 151 = .ok (.isub, 1) := by decide +kernel
theorem dX12_edit_152 : decode cX12_edit 152 = .ok (.aload_n 0, 1) := by decide +kernel
theorem dX12_edit_153 : decode cX12_edit 153 = .ok (.getfield 159, 3) := by decide +kernel
theorem dX12_edit_156 : decode cX12_edit 156 = .ok (.bipush 12, 2) := by decide +kernel
theorem dX12_edit_158 : decode cX12_edit 158 = .ok (.iload_n 2, 1) := by decide +kernel
theorem dX12_edit_159 : decode cX12_edit 159 = .ok (.imul, 1) := by decide +kernel
theorem dX12_edit_160 : decode cX12_edit 160 = .ok (.iload_n 3, 1) := by decide +kernel
theorem dX12_edit_161 : decode cX12_edit 161 = .ok (.iadd, 1) := by decide +kernel
theorem dX12_edit_162 : decode cX12_edit 162 = .ok (.iaload, 1) := by decide +kernel
theorem dX12_edit_163 : decode cX12_edit 163 = .ok (.iastore, 1) := by decide +kernel
theorem dX12_edit_164 : decode cX12_edit 164 = .ok (.iinc 3 1, 3) := by decide +kernel
theorem dX12_edit_167 : decode cX12_edit 167 = .ok (.goto (-37), 3) := by decide +kernel
theorem dX12_edit_170 : decode cX12_edit 170 = .ok (.aload_n 0, 1) := by decide +kernel
theorem dX12_edit_171 : decode cX12_edit 171 = .ok (.getfield 165, 3) := by decide +kernel
theorem dX12_edit_174 : decode cX12_edit 174 = .ok (.iload_n 2, 1) := by decide +kernel
theorem dX12_edit_175 : decode cX12_edit 175 = .ok (.dup2, 1) := by decide +kernel
theorem dX12_edit_176 : decode cX12_edit 176 = .ok (.iaload, 1) := by decide +kernel
theorem dX12_edit_177 : decode cX12_edit 177 = .ok (.iconst 1, 1) := by decide +kernel
theorem dX12_edit_178 : decode cX12_edit 178 = .ok (.isub, 1) := by decide +kernel
theorem dX12_edit_179 : decode cX12_edit 179 = .ok (.iastore, 1) := by decide +kernel
theorem dX12_edit_180 : decode cX12_edit 180 = .ok (.aload_n 0, 1) := by decide +kernel
theorem dX12_edit_181 : decode cX12_edit 181 = .ok (.getfield 162, 3) := by decide +kernel
theorem dX12_edit_184 : decode cX12_edit 184 = .ok (.iload_n 2, 1) := by decide +kernel
theorem dX12_edit_185 : decode cX12_edit 185 = .ok (.dup2, 1) := by decide +kernel
theorem dX12_edit_186 : decode cX12_edit 186 = .ok (.iaload, 1) := by decide +kernel
theorem dX12_edit_187 : decode cX12_edit 187 = .ok (.iconst 1, 1) := by decide +kernel
theorem dX12_edit_188 : decode cX12_edit 188 = .ok (.isub, 1) := by decide +kernel
theorem dX12_edit_189 : decode cX12_edit 189 = .ok (.iastore, 1) := by decide +kernel
theorem dX12_edit_190 : decode cX12_edit 190 = .ok (.iconst 0, 1) := by decide +kernel
theorem dX12_edit_191 : decode cX12_edit 191 = .ok (.istore_n 3, 1) := by decide +kernel
theorem dX12_edit_192 : decode cX12_edit 192 = .ok (.iload_n 3, 1) := by decide +kernel
theorem dX12_edit_193 : decode cX12_edit 193 = .ok (.aload_n 0, 1) := by decide +kernel
theorem dX12_edit_194 : decode cX12_edit 194 = .ok (.getfield 217, 3) := by decide +kernel
theorem dX12_edit_197 : decode cX12_edit 197 = .ok (.if_icmp .ge 113, 3) := by decide +kernel
theorem dX12_edit_200 : decode cX12_edit 200 = .ok (.aload_n 0, 1) := by decide +kernel
theorem dX12_edit_201 : decode cX12_edit 201 = .ok (.getfield 162, 3) := by decide +kernel
theorem dX12_edit_204 : decode cX12_edit 204 = .ok (.iload_n 2, 1) := by decide +kernel
theorem dX12_edit_205 : decode cX12_edit 205 = .ok (.iaload, 1) := by decide +kernel
theorem dX12_edit_206 : decode cX12_edit 206 = .ok (.bipush 12, 2) := by decide +kernel
theorem dX12_edit_208 : decode cX12_edit 208 = .ok (.if_icmp .ge 102, 3) := by decide +kernel
theorem dX12_edit_211 : decode cX12_edit 211 = .ok (.aload_n 0, 1) := by decide +kernel
theorem dX12_edit_212 : decode cX12_edit 212 = .ok (.getfield 162, 3) := by decide +kernel
theorem dX12_edit_215 : decode cX12_edit 215 = .ok (.iload_n 2, 1) := by decide +kernel
theorem dX12_edit_216 : decode cX12_edit 216 = .ok (.iaload, 1) := by decide +kernel
theorem dX12_edit_217 : decode cX12_edit 217 = .ok (.istore 4, 2) := by decide +kernel
theorem dX12_edit_219 : decode cX12_edit 219 = .ok (.iload 4, 2) := by decide +kernel
theorem dX12_edit_221 : decode cX12_edit 221 = .ok (.aload_n 0, 1) := by decide +kernel
theorem dX12_edit_222 : decode cX12_edit 222 = .ok (.getfield 165, 3) := by decide +kernel
theorem dX12_edit_225 : decode cX12_edit 225 = .ok (.iload_n 2, 1) := by decide +kernel
theorem dX12_edit_226 : decode cX12_edit 226 = .ok (.iaload, 1) := by decide +kernel
theorem dX12_edit_227 : decode cX12_edit 227 = .ok (.if_icmp .le 35, 3) := by decide +kernel
theorem dX12_edit_230 : decode cX12_edit 230 = .ok (.aload_n 0, 1) := by decide +kernel
theorem dX12_edit_231 : decode cX12_edit 231 = .ok (.getfield 159, 3) := by decide +kernel
theorem dX12_edit_234 : decode cX12_edit 234 = .ok (.bipush 12, 2) := by decide +kernel
theorem dX12_edit_236 : decode cX12_edit 236 = .ok (.iload_n 2, 1) := by decide +kernel
theorem dX12_edit_237 : decode cX12_edit 237 = .ok (.imul, 1) := by decide +kernel
theorem dX12_edit_238 : decode cX12_edit 238 = .ok (.iload 4, 2) := by decide +kernel
theorem dX12_edit_240 : decode cX12_edit 240 = .ok (.iadd, 1) := by decide +kernel
theorem dX12_edit_241 : decode cX12_edit 241 = .ok (.aload_n 0, 1) := by decide +kernel
theorem dX12_edit_242 : decode cX12_edit 242 = .ok (.getfield 159, 3) := by decide +kernel
theorem dX12_edit_245 : decode cX12_edit 245 = .ok (.bipush 12, 2) := by decide +kernel
theorem dX12_edit_247 : decode cX12_edit 247 = .ok (.iload_n 2, 1) := by decide +kernel
theorem dX12_edit_248 : decode cX12_edit 248 = .ok (.imul, 1) := by decide +kernel
theorem dX12_edit_249 : decode cX12_edit 249 = .ok (.iload 4, 2) := by decide +kernel
theorem dX12_edit_251 : decode cX12_edit 251 = .ok (.iadd, 1) := by decide +kernel
theorem dX12_edit_252 : decode cX12_edit 252 = .ok (.iconst 1, 1) := by decide +kernel
theorem dX12_edit_253 : decode cX12_edit 253 = .ok (.isub, 1) := by decide +kernel
theorem dX12_edit_254 : decode cX12_edit 254 = .ok (.iaload, 1) := by decide +kernel
theorem dX12_edit_255 : decode cX12_edit 255 = .ok (.iastore, 1) := by decide +kernel
theorem dX12_edit_256 : decode cX12_edit 256 = .ok (.iinc 4 (-1), 3) := by decide +kernel
theorem dX12_edit_259 : decode cX12_edit 259 = .ok (.goto (-40), 3) := by decide +kernel
theorem dX12_edit_262 : decode cX12_edit 262 = .ok (.aload_n 0, 1) := by decide +kernel
theorem dX12_edit_263 : decode cX12_edit 263 = .ok (.getfield 159, 3) := by decide +kernel
theorem dX12_edit_266 : decode cX12_edit 266 = .ok (.bipush 12, 2) := by decide +kernel
theorem dX12_edit_268 : decode cX12_edit 268 = .ok (.iload_n 2, 1) := by decide +kernel
theorem dX12_edit_269 : decode cX12_edit 269 = .ok (.imul, 1) := by decide +kernel
theorem dX12_edit_270 : decode cX12_edit 270 = .ok (.aload_n 0, 1) := by decide +kernel
theorem dX12_edit_271 : decode cX12_edit 271 = .ok (.getfield 165, 3) := by decide +kernel
theorem dX12_edit_274 : decode cX12_edit 274 = .ok (.iload_n 2, 1) := by decide +kernel
theorem dX12_edit_275 : decode cX12_edit 275 = .ok (.iaload, 1) := by decide +kernel
theorem dX12_edit_276 : decode cX12_edit 276 = .ok (.iadd, 1) := by decide +kernel
theorem dX12_edit_277 : decode cX12_edit 277 = .ok (.aload_n 0, 1) := by decide +kernel
theorem dX12_edit_278 : decode cX12_edit 278 = .ok (.getfield 23, 3) := by decide +kernel
theorem dX12_edit_281 : decode cX12_edit 281 = .ok (.iload_n 3, 1) := by decide +kernel
theorem dX12_edit_282 : decode cX12_edit 282 = .ok (.iaload, 1) := by decide +kernel
theorem dX12_edit_283 : decode cX12_edit 283 = .ok (.iastore, 1) := by decide +kernel
theorem dX12_edit_284 : decode cX12_edit 284 = .ok (.aload_n 0, 1) := by decide +kernel
theorem dX12_edit_285 : decode cX12_edit 285 = .ok (.getfield 165, 3) := by decide +kernel
theorem dX12_edit_288 : decode cX12_edit 288 = .ok (.iload_n 2, 1) := by decide +kernel
theorem dX12_edit_289 : decode cX12_edit 289 = .ok (.dup2, 1) := by decide +kernel
theorem dX12_edit_290 : decode cX12_edit 290 = .ok (.iaload, 1) := by decide +kernel
theorem dX12_edit_291 : decode cX12_edit 291 = .ok (.iconst 1, 1) := by decide +kernel
theorem dX12_edit_292 : decode cX12_edit 292 = .ok (.iadd, 1) := by decide +kernel
theorem dX12_edit_293 : decode cX12_edit 293 = .ok (.iastore, 1) := by decide +kernel
theorem dX12_edit_294 : decode cX12_edit 294 = .ok (.aload_n 0, 1) := by decide +kernel
theorem dX12_edit_295 : decode cX12_edit 295 = .ok (.getfield 162, 3) := by decide +kernel
theorem dX12_edit_298 : decode cX12_edit 298 = .ok (.iload_n 2, 1) := by decide +kernel
theorem dX12_edit_299 : decode cX12_edit 299 = .ok (.dup2, 1) := by decide +kernel
theorem dX12_edit_300 : decode cX12_edit 300 = .ok (.iaload, 1) := by decide +kernel
theorem dX12_edit_301 : decode cX12_edit 301 = .ok (.iconst 1, 1) := by decide +kernel
theorem dX12_edit_302 : decode cX12_edit 302 = .ok (.iadd, 1) := by decide +kernel
theorem dX12_edit_303 : decode cX12_edit 303 = .ok (.iastore, 1) := by decide +kernel
theorem dX12_edit_304 : decode cX12_edit 304 = .ok (.iinc 3 1, 3) := by decide +kernel
theorem dX12_edit_307 : decode cX12_edit 307 = .ok (.goto (-115), 3) := by decide +kernel
theorem dX12_edit_310 : decode cX12_edit 310 = .ok (.return_, 1) := by decide +kernel
set_option maxHeartbeats 4000000 in
set_option maxRecDepth 100000 in
theorem m_X12_edit (l : Launch) {Z : pZ} (S : pSh Z) {h : pH} (I : Iv Z h) (id : Int32) (K9 : mK h) : pMet l yX12_edit cX12_edit 5 none 2 0 0 44 Z h [.ref (zB Z + 137), .int id] (pQv Z (fun Z1 h1 => Z = Z1 ∧ Iv Z h1 ∧ agr [(137, 79), (181, 1000), (182, 1000), (184, 1000), (185, 1000), (183, 1000)] h h1 ∧ (mK h1))) := by
  refine pOfW (lv := [(0, .ref (zB Z + 137)), (1, .int id)]) (by decide) (Nat.le_of_ble_eq_true rfl) rfl ?_
  intro p e s m below meth c ls M hr hlk hnm V hl
  have hx := M.1.1
  have hb := M.1.2.1
  have A : agr [] h h := agr.rf
  have J_310 : ∀ (x310_2 : Int32) (x310_3 : Int32) (hJ : pH) (H : Heap) (locs : List Loc) (ls : Array Slot), pV Z hJ s.heap H locs → Iv Z hJ → agr [(137, 79), (181, 1000), (182, 1000), (183, 1000), (184, 1000), (185, 1000)] h hJ → lv_has ls 5 [(0, .ref (zB Z + 137)), (1, .int id), (2, .int x310_2), (3, .int x310_3)] → (0 ≤ x310_2.toInt ∧ x310_2.toInt ≤ 39) → (0 ≤ x310_3.toInt ∧ x310_3.toInt ≤ 16) → mK hJ → W p l e (pRm 2 0 0 44) s m ([.ref (zB Z + 137), .int id] : List Value).toArray below meth c H locs 0 0 (MQ below (pQv Z (fun Z1 h1 => Z = Z1 ∧ Iv Z h1 ∧ agr [(137, 79), (181, 1000), (182, 1000), (184, 1000), (185, 1000), (183, 1000)] h h1 ∧ (mK h1))) ([.ref (zB Z + 137), .int id] : List Value).toArray s 0 0 (pA (zB Z))) (F0 m 310 ls []) := by
    intro x310_2 x310_3 hJ H locs ls V I A hl g_310_2 g_310_3 K9
    exact pe_v M V rfl rfl hr hlk ⟨rfl, I, A.wk (by decide), (K9.congr rfl rfl)⟩ ⟨Nat.le_refl _, Nat.le_refl _⟩ dX12_edit_310
  have J_192 : ∀ (n9 : Nat) (x192_2 : Int32) (x192_3 : Int32) (hJ : pH) (H : Heap) (locs : List Loc) (ls : Array Slot), pV Z hJ s.heap H locs → Iv Z hJ → agr [(137, 79), (181, 1000), (182, 1000), (183, 1000), (184, 1000), (185, 1000)] h hJ → lv_has ls 5 [(0, .ref (zB Z + 137)), (1, .int id), (2, .int x192_2), (3, .int x192_3)] → (0 ≤ x192_2.toInt ∧ x192_2.toInt ≤ 39) → (0 ≤ x192_3.toInt ∧ x192_3.toInt ≤ 16) → mK hJ → (16 - x192_3.toInt).toNat < n9 → W p l e (pRm 2 0 0 44) s m ([.ref (zB Z + 137), .int id] : List Value).toArray below meth c H locs 0 0 (MQ below (pQv Z (fun Z1 h1 => Z = Z1 ∧ Iv Z h1 ∧ agr [(137, 79), (181, 1000), (182, 1000), (184, 1000), (185, 1000), (183, 1000)] h h1 ∧ (mK h1))) ([.ref (zB Z + 137), .int id] : List Value).toArray s 0 0 (pA (zB Z))) (F0 m 192 ls []) := by
    intro n9
    induction n9 with
    | zero => intro x192_2 x192_3 hJ H locs ls V I A hl g_192_2 g_192_3 K9 hm9; exact absurd hm9 (Nat.not_lt_zero _)
    | succ n9 ih_192 =>
      intro x192_2 x192_3 hJ H locs ls V I A hl g_192_2 g_192_3 K9 hm9
      have J_219 : ∀ (n9 : Nat) (x219_4 : Int32) (hJ : pH) (H : Heap) (locs : List Loc) (ls : Array Slot), pV Z hJ s.heap H locs → Iv Z hJ → agr [(137, 79), (181, 1000), (182, 1000), (183, 1000), (184, 1000), (185, 1000)] h hJ → lv_has ls 5 [(0, .ref (zB Z + 137)), (1, .int id), (2, .int x192_2), (3, .int x192_3), (4, .int x219_4)] → (0 ≤ x192_2.toInt ∧ x192_2.toInt ≤ 39) → (0 ≤ x192_3.toInt ∧ x192_3.toInt ≤ 15) → (0 ≤ x219_4.toInt ∧ x219_4.toInt ≤ 11) → ((hJ 184 x192_2.toNatClampNeg).toInt ≤ 11) → mK hJ → x219_4.toInt.toNat < n9 → W p l e (pRm 2 0 0 44) s m ([.ref (zB Z + 137), .int id] : List Value).toArray below meth c H locs 0 0 (MQ below (pQv Z (fun Z1 h1 => Z = Z1 ∧ Iv Z h1 ∧ agr [(137, 79), (181, 1000), (182, 1000), (184, 1000), (185, 1000), (183, 1000)] h h1 ∧ (mK h1))) ([.ref (zB Z + 137), .int id] : List Value).toArray s 0 0 (pA (zB Z))) (F0 m 219 ls []) := by
        intro n9
        induction n9 with
        | zero => intro x219_4 hJ H locs ls V I A hl g_219_2 g_219_3 g_219_4 g219 K9 hm9; exact absurd hm9 (Nat.not_lt_zero _)
        | succ n9 ih_219 =>
          intro x219_4 hJ H locs ls V I A hl g_219_2 g_219_3 g_219_4 g219 K9 hm9
          refine lv_iload hx hb dX12_edit_219 (lv_at hl 4 rfl) ?_
          refine lv_aload_n hx hb dX12_edit_221 rfl (lv_at hl 0 rfl) ?_
          refine pg_r M V 12 78 (sm_this S) pC12 fk12_78 (sm_keptCaret S).2.2 lkF_X12_165 dX12_edit_222 ?_
          refine lv_iload_n hx hb dX12_edit_225 rfl (lv_at hl 2 rfl) ?_
          refine pa_i M V (sm_keptCaret S).1 (by rw [(sm_keptCaret S).2.1]; exact pi_in (by omega)) dX12_edit_226 ?_
          refine lv_topi (fun v1 ev1 => ?_)
          have uv1 : v1.toInt = (hJ 185 x192_2.toNatClampNeg).toInt := congrArg Int32.toInt ev1
          have tv1 : 0 ≤ v1.toInt ∧ v1.toInt ≤ 12 := by rw [ev1]; exact I.get (sm_keptCaret S).1 _
          refine lv_icmp_le (tgt := 262) hx hb dX12_edit_227 (by decide) (fun c_227 => ?_) (fun c_227 => ?_)
          · skip
            have c_227 := pi_le.mp c_227
            refine lv_aload_n hx hb dX12_edit_262 rfl (lv_at hl 0 rfl) ?_
            refine pg_r M V 12 76 (sm_this S) pC12 fk12_76 (sm_keptText S).2.2 lkF_X12_159 dX12_edit_263 ?_
            refine lv_bipush (v := 12) hx hb dX12_edit_266 (by decide) ?_
            refine lv_iload_n hx hb dX12_edit_268 rfl (lv_at hl 2 rfl) ?_
            refine lv_imul hx hb dX12_edit_269 ?_
            refine lv_topi (fun v2 ev2 => ?_)
            refine lv_aload_n hx hb dX12_edit_270 rfl (lv_at hl 0 rfl) ?_
            refine pg_r M V 12 78 (sm_this S) pC12 fk12_78 (sm_keptCaret S).2.2 lkF_X12_165 dX12_edit_271 ?_
            refine lv_iload_n hx hb dX12_edit_274 rfl (lv_at hl 2 rfl) ?_
            refine pa_iv M V (v := v1) (sm_keptCaret S).1 (by rw [(sm_keptCaret S).2.1]; exact pi_in (by omega)) ev1.symm dX12_edit_275 ?_
            have z276 := mK.at K9 (k := x192_2) (c := v1) (s := hJ 184 x192_2.toNatClampNeg) (by omega) (show _ = _ from ev1) rfl
            refine lv_iadd hx hb dX12_edit_276 ?_
            refine lv_topi (fun v3 ev3 => ?_)
            refine lv_aload_n hx hb dX12_edit_277 rfl (lv_at hl 0 rfl) ?_
            refine pg_r M V 12 17 (sm_this S) pC12 fk12_17 (sm_letter S).2.2 lkF_X12_23 dX12_edit_278 ?_
            refine lv_iload_n hx hb dX12_edit_281 rfl (lv_at hl 3 rfl) ?_
            refine pa_i M V (sm_letter S).1 (by rw [(sm_letter S).2.1]; exact pi_in (by omega)) dX12_edit_282 ?_
            refine lv_topi (fun v4 ev4 => ?_)
            have k_12 : (12 : Int32).toInt = 12 := rfl
            have tv2 : v2.toInt = 12 * x192_2.toInt := by rw [ev2]; have z9 := pi_mul (x := (12 : Int32)) (y := x192_2); rw [k_12] at z9; exact z9 (by omega)
            have tv3 : v3.toInt = v2.toInt + v1.toInt := by rw [ev3]; exact pi_add (by omega)
            refine ps_i M V (sm_keptText S).1 (by rw [(sm_keptText S).2.1]; exact pi_in (by omega)) dX12_edit_283 (fun H locs V => ?_)
            have A := A.upA (o := 183) (k := v3.toNatClampNeg) (v := v4) (by decide)
            have I := I.up (k := v3.toNatClampNeg) (v := v4) (sm_keptText S).1 (pi_full _)
            refine lv_aload_n hx hb dX12_edit_284 rfl (lv_at hl 0 rfl) ?_
            refine pg_r M V 12 78 (sm_this S) pC12 fk12_78 (sm_keptCaret S).2.2 lkF_X12_165 dX12_edit_285 ?_
            refine lv_iload_n hx hb dX12_edit_288 rfl (lv_at hl 2 rfl) ?_
            refine lv_dup2_11 hx hb dX12_edit_289 rfl rfl ?_
            refine pa_iv M V (v := v1) (sm_keptCaret S).1 (by rw [(sm_keptCaret S).2.1]; exact pi_in (by omega)) ev1.symm dX12_edit_290 ?_
            refine lv_iconst (v := 1) hx hb dX12_edit_291 (by decide) ?_
            refine lv_iadd hx hb dX12_edit_292 ?_
            refine lv_topi (fun v5 ev5 => ?_)
            refine ps_i M V (sm_keptCaret S).1 (by rw [(sm_keptCaret S).2.1]; exact pi_in (by omega)) dX12_edit_293 (fun H locs V => ?_)
            have A := A.upA (o := 185) (k := x192_2.toNatClampNeg) (v := v5) (by decide)
            have k_1 : (1 : Int32).toInt = 1 := rfl
            have tv5 : v5.toInt = v1.toInt + 1 := by rw [ev5]; have z9 := pi_add (x := v1) (y := (1 : Int32)); rw [k_1] at z9; exact z9 (by omega)
            have I := I.up (k := x192_2.toNatClampNeg) (v := v5) (sm_keptCaret S).1 (show (0 : Int) ≤ v5.toInt ∧ v5.toInt ≤ (12 : Int) by omega)
            refine lv_aload_n hx hb dX12_edit_294 rfl (lv_at hl 0 rfl) ?_
            refine pg_r M V 12 77 (sm_this S) pC12 fk12_77 (sm_keptSize S).2.2 lkF_X12_162 dX12_edit_295 ?_
            refine lv_iload_n hx hb dX12_edit_298 rfl (lv_at hl 2 rfl) ?_
            refine lv_dup2_11 hx hb dX12_edit_299 rfl rfl ?_
            refine pa_i M V (sm_keptSize S).1 (by rw [(sm_keptSize S).2.1]; exact pi_in (by omega)) dX12_edit_300 ?_
            refine lv_topi (fun v6 ev6 => ?_)
            have uv6 : v6.toInt = (hJ 184 x192_2.toNatClampNeg).toInt := congrArg Int32.toInt ev6
            have tv6 : 0 ≤ v6.toInt ∧ v6.toInt ≤ 12 := by rw [ev6]; exact I.get (sm_keptSize S).1 _
            have zz := mK.at K9 (k := x192_2) (c := v1) (s := v6) (by omega) (show _ = _ from ev1) (show _ = _ from ev6)
            refine lv_iconst (v := 1) hx hb dX12_edit_301 (by decide) ?_
            refine lv_iadd hx hb dX12_edit_302 ?_
            refine lv_topi (fun v7 ev7 => ?_)
            refine ps_i M V (sm_keptSize S).1 (by rw [(sm_keptSize S).2.1]; exact pi_in (by omega)) dX12_edit_303 (fun H locs V => ?_)
            have A := A.upA (o := 184) (k := x192_2.toNatClampNeg) (v := v7) (by decide)
            have tv7 : v7.toInt = v6.toInt + 1 := by rw [ev7]; have z9 := pi_add (x := v6) (y := (1 : Int32)); rw [k_1] at z9; exact z9 (by omega)
            have I := I.up (k := x192_2.toNatClampNeg) (v := v7) (sm_keptSize S).1 (show (0 : Int) ≤ v7.toInt ∧ v7.toInt ≤ (12 : Int) by omega)
            have K9 := mK_upV V (cv := v5) (sv := v7) K9 rfl rfl (by omega)
            obtain ⟨v8, ev8⟩ : ∃ y : Int32, y = x192_3 + 1 := ⟨_, rfl⟩
            refine lv_iinc (v := v8) (lv' := [(3, .int v8), (0, .ref (zB Z + 137)), (1, .int id), (2, .int x192_2), (4, .int x219_4)]) hx hb dX12_edit_304 hl (k := 3) rfl (by rw [ev8]; rfl) (by decide) rfl (fun ls hl => ?_)
            refine lv_goto (tgt := 192) hx hb dX12_edit_307 (by decide) ?_
            have tv8 : v8.toInt = x192_3.toInt + 1 := by rw [ev8]; have z9 := pi_add (x := x192_3) (y := (1 : Int32)); rw [k_1] at z9; exact z9 (by omega)
            exact ih_192 x192_2 v8 _ _ _ _ V I (A.wk (by decide)) (lv_sub hl [1, 2, 3, 0] rfl) (by omega) (by omega) (K9.congr rfl rfl) (by omega) 
          · skip
            have c_227 := pi_le' c_227
            refine lv_aload_n hx hb dX12_edit_230 rfl (lv_at hl 0 rfl) ?_
            refine pg_r M V 12 76 (sm_this S) pC12 fk12_76 (sm_keptText S).2.2 lkF_X12_159 dX12_edit_231 ?_
            refine lv_bipush (v := 12) hx hb dX12_edit_234 (by decide) ?_
            refine lv_iload_n hx hb dX12_edit_236 rfl (lv_at hl 2 rfl) ?_
            refine lv_imul hx hb dX12_edit_237 ?_
            refine lv_topi (fun v9 ev9 => ?_)
            refine lv_iload hx hb dX12_edit_238 (lv_at hl 4 rfl) ?_
            refine lv_iadd hx hb dX12_edit_240 ?_
            refine lv_topi (fun v10 ev10 => ?_)
            refine lv_aload_n hx hb dX12_edit_241 rfl (lv_at hl 0 rfl) ?_
            refine pg_r M V 12 76 (sm_this S) pC12 fk12_76 (sm_keptText S).2.2 lkF_X12_159 dX12_edit_242 ?_
            refine lv_bipush (v := 12) hx hb dX12_edit_245 (by decide) ?_
            refine lv_iload_n hx hb dX12_edit_247 rfl (lv_at hl 2 rfl) ?_
            refine lv_imul hx hb dX12_edit_248 ?_
            refine lv_topi (fun v11 ev11 => ?_)
            refine lv_iload hx hb dX12_edit_249 (lv_at hl 4 rfl) ?_
            refine lv_iadd hx hb dX12_edit_251 ?_
            refine lv_topi (fun v12 ev12 => ?_)
            refine lv_iconst (v := 1) hx hb dX12_edit_252 (by decide) ?_
            refine lv_isub hx hb dX12_edit_253 ?_
            refine lv_topi (fun v13 ev13 => ?_)
            have k_12 : (12 : Int32).toInt = 12 := rfl
            have tv11 : v11.toInt = 12 * x192_2.toInt := by rw [ev11]; have z9 := pi_mul (x := (12 : Int32)) (y := x192_2); rw [k_12] at z9; exact z9 (by omega)
            have tv12 : v12.toInt = v11.toInt + x219_4.toInt := by rw [ev12]; exact pi_add (by omega)
            have k_1 : (1 : Int32).toInt = 1 := rfl
            have tv13 : v13.toInt = v12.toInt - 1 := by rw [ev13]; have z9 := pi_sub (x := v12) (y := (1 : Int32)); rw [k_1] at z9; exact z9 (by omega)
            refine pa_i M V (sm_keptText S).1 (by rw [(sm_keptText S).2.1]; exact pi_in (by omega)) dX12_edit_254 ?_
            refine lv_topi (fun v14 ev14 => ?_)
            have tv9 : v9.toInt = 12 * x192_2.toInt := by rw [ev9]; have z9 := pi_mul (x := (12 : Int32)) (y := x192_2); rw [k_12] at z9; exact z9 (by omega)
            have tv10 : v10.toInt = v9.toInt + x219_4.toInt := by rw [ev10]; exact pi_add (by omega)
            refine ps_i M V (sm_keptText S).1 (by rw [(sm_keptText S).2.1]; exact pi_in (by omega)) dX12_edit_255 (fun H locs V => ?_)
            have A := A.upA (o := 183) (k := v10.toNatClampNeg) (v := v14) (by decide)
            have I := I.up (k := v10.toNatClampNeg) (v := v14) (sm_keptText S).1 (pi_full _)
            obtain ⟨v15, ev15⟩ : ∃ y : Int32, y = x219_4 + (-1) := ⟨_, rfl⟩
            refine lv_iinc (v := v15) (lv' := [(4, .int v15), (0, .ref (zB Z + 137)), (1, .int id), (2, .int x192_2), (3, .int x192_3)]) hx hb dX12_edit_256 hl (k := 4) rfl (by rw [ev15]; rfl) (by decide) rfl (fun ls hl => ?_)
            refine lv_goto (tgt := 219) hx hb dX12_edit_259 (by decide) ?_
            have k_m1 : (-1 : Int32).toInt = -1 := rfl
            have tv15 : v15.toInt = x219_4.toInt + -1 := by rw [ev15]; have z9 := pi_add (x := x219_4) (y := (-1 : Int32)); rw [k_m1] at z9; exact z9 (by omega)
            exact ih_219 v15 _ _ _ _ V I (A.wk (by decide)) (lv_sub hl [1, 2, 3, 4, 0] rfl) (by omega) (by omega) (by omega) g219 (K9.congr rfl rfl) (by omega) 
      refine lv_iload_n hx hb dX12_edit_192 rfl (lv_at hl 3 rfl) ?_
      refine lv_aload_n hx hb dX12_edit_193 rfl (lv_at hl 0 rfl) ?_
      refine pg_i M V 12 16 (sm_this S) pC12 fk12_16 lkF_X12_217 dX12_edit_194 ?_
      refine lv_topi (fun v16 ev16 => ?_)
      have tv16 : 0 ≤ v16.toInt ∧ v16.toInt ≤ 16 := by rw [ev16]; exact I.get (sm_this S) 16
      refine lv_icmp_ge (tgt := 310) hx hb dX12_edit_197 (by decide) (fun c_197 => ?_) (fun c_197 => ?_)
      · skip
        have c_197 := pi_le.mp c_197
        exact J_310 x192_2 x192_3 _ _ _ _ V I (A.wk (by decide)) (lv_sub hl [0, 1, 2, 3] rfl) (by omega) (by omega) (K9.congr rfl rfl) 
      · skip
        have c_197 := pi_le' c_197
        refine lv_aload_n hx hb dX12_edit_200 rfl (lv_at hl 0 rfl) ?_
        refine pg_r M V 12 77 (sm_this S) pC12 fk12_77 (sm_keptSize S).2.2 lkF_X12_162 dX12_edit_201 ?_
        refine lv_iload_n hx hb dX12_edit_204 rfl (lv_at hl 2 rfl) ?_
        refine pa_i M V (sm_keptSize S).1 (by rw [(sm_keptSize S).2.1]; exact pi_in (by omega)) dX12_edit_205 ?_
        refine lv_topi (fun v17 ev17 => ?_)
        have uv17 : v17.toInt = (hJ 184 x192_2.toNatClampNeg).toInt := congrArg Int32.toInt ev17
        have tv17 : 0 ≤ v17.toInt ∧ v17.toInt ≤ 12 := by rw [ev17]; exact I.get (sm_keptSize S).1 _
        refine lv_bipush (v := 12) hx hb dX12_edit_206 (by decide) ?_
        refine lv_icmp_ge (tgt := 310) hx hb dX12_edit_208 (by decide) (fun c_208 => ?_) (fun c_208 => ?_)
        · skip
          have k_12 : (12 : Int32).toInt = 12 := rfl
          have c_208 := pi_le.mp c_208
          exact J_310 x192_2 x192_3 _ _ _ _ V I (A.wk (by decide)) (lv_sub hl [0, 1, 2, 3] rfl) (by omega) (by omega) (K9.congr rfl rfl) 
        · skip
          have k_12 : (12 : Int32).toInt = 12 := rfl
          have c_208 := pi_le' c_208
          refine lv_aload_n hx hb dX12_edit_211 rfl (lv_at hl 0 rfl) ?_
          refine pg_r M V 12 77 (sm_this S) pC12 fk12_77 (sm_keptSize S).2.2 lkF_X12_162 dX12_edit_212 ?_
          refine lv_iload_n hx hb dX12_edit_215 rfl (lv_at hl 2 rfl) ?_
          refine pa_iv M V (v := v17) (sm_keptSize S).1 (by rw [(sm_keptSize S).2.1]; exact pi_in (by omega)) ev17.symm dX12_edit_216 ?_
          refine lv_istore (lv' := [(4, .int v17), (0, .ref (zB Z + 137)), (1, .int id), (2, .int x192_2), (3, .int x192_3)]) hx hb dX12_edit_217 hl (by decide) rfl (fun ls hl => ?_)
          exact J_219 _ v17 _ _ _ _ V I (A.wk (by decide)) (lv_sub hl [1, 2, 3, 4, 0] rfl) (by omega) (by omega) (by omega) (by rw [show _ = v17 from ev17.symm]; omega) (K9.congr rfl rfl) (Nat.lt_succ_self _) 
  have J_190 : ∀ (x190_2 : Int32) (hJ : pH) (H : Heap) (locs : List Loc) (ls : Array Slot), pV Z hJ s.heap H locs → Iv Z hJ → agr [(137, 79), (181, 1000), (182, 1000), (183, 1000), (184, 1000), (185, 1000)] h hJ → lv_has ls 5 [(0, .ref (zB Z + 137)), (1, .int id), (2, .int x190_2)] → (0 ≤ x190_2.toInt ∧ x190_2.toInt ≤ 39) → mK hJ → W p l e (pRm 2 0 0 44) s m ([.ref (zB Z + 137), .int id] : List Value).toArray below meth c H locs 0 0 (MQ below (pQv Z (fun Z1 h1 => Z = Z1 ∧ Iv Z h1 ∧ agr [(137, 79), (181, 1000), (182, 1000), (184, 1000), (185, 1000), (183, 1000)] h h1 ∧ (mK h1))) ([.ref (zB Z + 137), .int id] : List Value).toArray s 0 0 (pA (zB Z))) (F0 m 190 ls []) := by
    intro x190_2 hJ H locs ls V I A hl g_190_2 K9
    refine lv_iconst (v := 0) hx hb dX12_edit_190 (by decide) ?_
    refine lv_istore_n (lv' := [(3, .int (0 : Int32)), (0, .ref (zB Z + 137)), (1, .int id), (2, .int x190_2)]) hx hb dX12_edit_191 rfl hl (by decide) rfl (fun ls hl => ?_)
    have k_0 : (0 : Int32).toInt = 0 := rfl
    exact J_192 _ x190_2 (0 : Int32) _ _ _ _ V I (A.wk (by decide)) (lv_sub hl [1, 2, 3, 0] rfl) (by omega) (by omega) (K9.congr rfl rfl) (Nat.lt_succ_self _) 
  have J_130 : ∀ (n9 : Nat) (x130_2 : Int32) (x130_3 : Int32) (hJ : pH) (H : Heap) (locs : List Loc) (ls : Array Slot), pV Z hJ s.heap H locs → Iv Z hJ → agr [(137, 79), (181, 1000), (182, 1000), (183, 1000), (184, 1000), (185, 1000)] h hJ → lv_has ls 5 [(0, .ref (zB Z + 137)), (1, .int id), (2, .int x130_2), (3, .int x130_3)] → (0 ≤ x130_2.toInt ∧ x130_2.toInt ≤ 39) → (1 ≤ x130_3.toInt ∧ x130_3.toInt ≤ 12) → (1 ≤ (hJ 185 x130_2.toNatClampNeg).toInt) → mK hJ → (12 - x130_3.toInt).toNat < n9 → W p l e (pRm 2 0 0 44) s m ([.ref (zB Z + 137), .int id] : List Value).toArray below meth c H locs 0 0 (MQ below (pQv Z (fun Z1 h1 => Z = Z1 ∧ Iv Z h1 ∧ agr [(137, 79), (181, 1000), (182, 1000), (184, 1000), (185, 1000), (183, 1000)] h h1 ∧ (mK h1))) ([.ref (zB Z + 137), .int id] : List Value).toArray s 0 0 (pA (zB Z))) (F0 m 130 ls []) := by
    intro n9
    induction n9 with
    | zero => intro x130_2 x130_3 hJ H locs ls V I A hl g_130_2 g_130_3 g130 K9 hm9; exact absurd hm9 (Nat.not_lt_zero _)
    | succ n9 ih_130 =>
      intro x130_2 x130_3 hJ H locs ls V I A hl g_130_2 g_130_3 g130 K9 hm9
      refine lv_iload_n hx hb dX12_edit_130 rfl (lv_at hl 3 rfl) ?_
      refine lv_aload_n hx hb dX12_edit_131 rfl (lv_at hl 0 rfl) ?_
      refine pg_r M V 12 77 (sm_this S) pC12 fk12_77 (sm_keptSize S).2.2 lkF_X12_162 dX12_edit_132 ?_
      refine lv_iload_n hx hb dX12_edit_135 rfl (lv_at hl 2 rfl) ?_
      refine pa_i M V (sm_keptSize S).1 (by rw [(sm_keptSize S).2.1]; exact pi_in (by omega)) dX12_edit_136 ?_
      refine lv_topi (fun v18 ev18 => ?_)
      have uv18 : v18.toInt = (hJ 184 x130_2.toNatClampNeg).toInt := congrArg Int32.toInt ev18
      have tv18 : 0 ≤ v18.toInt ∧ v18.toInt ≤ 12 := by rw [ev18]; exact I.get (sm_keptSize S).1 _
      refine lv_icmp_ge (tgt := 170) hx hb dX12_edit_137 (by decide) (fun c_137 => ?_) (fun c_137 => ?_)
      · skip
        have c_137 := pi_le.mp c_137
        refine lv_aload_n hx hb dX12_edit_170 rfl (lv_at hl 0 rfl) ?_
        refine pg_r M V 12 78 (sm_this S) pC12 fk12_78 (sm_keptCaret S).2.2 lkF_X12_165 dX12_edit_171 ?_
        refine lv_iload_n hx hb dX12_edit_174 rfl (lv_at hl 2 rfl) ?_
        refine lv_dup2_11 hx hb dX12_edit_175 rfl rfl ?_
        refine pa_i M V (sm_keptCaret S).1 (by rw [(sm_keptCaret S).2.1]; exact pi_in (by omega)) dX12_edit_176 ?_
        refine lv_topi (fun v19 ev19 => ?_)
        have uv19 : v19.toInt = (hJ 185 x130_2.toNatClampNeg).toInt := congrArg Int32.toInt ev19
        have tv19 : 0 ≤ v19.toInt ∧ v19.toInt ≤ 12 := by rw [ev19]; exact I.get (sm_keptCaret S).1 _
        refine lv_iconst (v := 1) hx hb dX12_edit_177 (by decide) ?_
        refine lv_isub hx hb dX12_edit_178 ?_
        refine lv_topi (fun v20 ev20 => ?_)
        refine ps_i M V (sm_keptCaret S).1 (by rw [(sm_keptCaret S).2.1]; exact pi_in (by omega)) dX12_edit_179 (fun H locs V => ?_)
        have A := A.upA (o := 185) (k := x130_2.toNatClampNeg) (v := v20) (by decide)
        have k_1 : (1 : Int32).toInt = 1 := rfl
        have tv20 : v20.toInt = v19.toInt - 1 := by rw [ev20]; have z9 := pi_sub (x := v19) (y := (1 : Int32)); rw [k_1] at z9; exact z9 (by omega)
        have I := I.up (k := x130_2.toNatClampNeg) (v := v20) (sm_keptCaret S).1 (show (0 : Int) ≤ v20.toInt ∧ v20.toInt ≤ (12 : Int) by omega)
        refine lv_aload_n hx hb dX12_edit_180 rfl (lv_at hl 0 rfl) ?_
        refine pg_r M V 12 77 (sm_this S) pC12 fk12_77 (sm_keptSize S).2.2 lkF_X12_162 dX12_edit_181 ?_
        refine lv_iload_n hx hb dX12_edit_184 rfl (lv_at hl 2 rfl) ?_
        refine lv_dup2_11 hx hb dX12_edit_185 rfl rfl ?_
        refine pa_iv M V (v := v18) (sm_keptSize S).1 (by rw [(sm_keptSize S).2.1]; exact pi_in (by omega)) ev18.symm dX12_edit_186 ?_
        have zz := mK.at K9 (k := x130_2) (c := v19) (s := v18) (by omega) (show _ = _ from ev19) (show _ = _ from ev18)
        refine lv_iconst (v := 1) hx hb dX12_edit_187 (by decide) ?_
        refine lv_isub hx hb dX12_edit_188 ?_
        refine lv_topi (fun v21 ev21 => ?_)
        refine ps_i M V (sm_keptSize S).1 (by rw [(sm_keptSize S).2.1]; exact pi_in (by omega)) dX12_edit_189 (fun H locs V => ?_)
        have A := A.upA (o := 184) (k := x130_2.toNatClampNeg) (v := v21) (by decide)
        have tv21 : v21.toInt = v18.toInt - 1 := by rw [ev21]; have z9 := pi_sub (x := v18) (y := (1 : Int32)); rw [k_1] at z9; exact z9 (by omega)
        have I := I.up (k := x130_2.toNatClampNeg) (v := v21) (sm_keptSize S).1 (show (0 : Int) ≤ v21.toInt ∧ v21.toInt ≤ (12 : Int) by omega)
        have K9 := mK_upV V (cv := v20) (sv := v21) K9 rfl rfl (by omega)
        exact J_190 x130_2 _ _ _ _ V I (A.wk (by decide)) (lv_sub hl [0, 1, 2] rfl) (by omega) (K9.congr rfl rfl) 
      · skip
        have c_137 := pi_le' c_137
        refine lv_aload_n hx hb dX12_edit_140 rfl (lv_at hl 0 rfl) ?_
        refine pg_r M V 12 76 (sm_this S) pC12 fk12_76 (sm_keptText S).2.2 lkF_X12_159 dX12_edit_141 ?_
        refine lv_bipush (v := 12) hx hb dX12_edit_144 (by decide) ?_
        refine lv_iload_n hx hb dX12_edit_146 rfl (lv_at hl 2 rfl) ?_
        refine lv_imul hx hb dX12_edit_147 ?_
        refine lv_topi (fun v22 ev22 => ?_)
        refine lv_iload_n hx hb dX12_edit_148 rfl (lv_at hl 3 rfl) ?_
        refine lv_iadd hx hb dX12_edit_149 ?_
        refine lv_topi (fun v23 ev23 => ?_)
        refine lv_iconst (v := 1) hx hb dX12_edit_150 (by decide) ?_
        refine lv_isub hx hb dX12_edit_151 ?_
        refine lv_topi (fun v24 ev24 => ?_)
        refine lv_aload_n hx hb dX12_edit_152 rfl (lv_at hl 0 rfl) ?_
        refine pg_r M V 12 76 (sm_this S) pC12 fk12_76 (sm_keptText S).2.2 lkF_X12_159 dX12_edit_153 ?_
        refine lv_bipush (v := 12) hx hb dX12_edit_156 (by decide) ?_
        refine lv_iload_n hx hb dX12_edit_158 rfl (lv_at hl 2 rfl) ?_
        refine lv_imul hx hb dX12_edit_159 ?_
        refine lv_topi (fun v25 ev25 => ?_)
        refine lv_iload_n hx hb dX12_edit_160 rfl (lv_at hl 3 rfl) ?_
        refine lv_iadd hx hb dX12_edit_161 ?_
        refine lv_topi (fun v26 ev26 => ?_)
        have k_12 : (12 : Int32).toInt = 12 := rfl
        have tv25 : v25.toInt = 12 * x130_2.toInt := by rw [ev25]; have z9 := pi_mul (x := (12 : Int32)) (y := x130_2); rw [k_12] at z9; exact z9 (by omega)
        have tv26 : v26.toInt = v25.toInt + x130_3.toInt := by rw [ev26]; exact pi_add (by omega)
        refine pa_i M V (sm_keptText S).1 (by rw [(sm_keptText S).2.1]; exact pi_in (by omega)) dX12_edit_162 ?_
        refine lv_topi (fun v27 ev27 => ?_)
        have tv22 : v22.toInt = 12 * x130_2.toInt := by rw [ev22]; have z9 := pi_mul (x := (12 : Int32)) (y := x130_2); rw [k_12] at z9; exact z9 (by omega)
        have tv23 : v23.toInt = v22.toInt + x130_3.toInt := by rw [ev23]; exact pi_add (by omega)
        have k_1 : (1 : Int32).toInt = 1 := rfl
        have tv24 : v24.toInt = v23.toInt - 1 := by rw [ev24]; have z9 := pi_sub (x := v23) (y := (1 : Int32)); rw [k_1] at z9; exact z9 (by omega)
        refine ps_i M V (sm_keptText S).1 (by rw [(sm_keptText S).2.1]; exact pi_in (by omega)) dX12_edit_163 (fun H locs V => ?_)
        have A := A.upA (o := 183) (k := v24.toNatClampNeg) (v := v27) (by decide)
        have I := I.up (k := v24.toNatClampNeg) (v := v27) (sm_keptText S).1 (pi_full _)
        obtain ⟨v28, ev28⟩ : ∃ y : Int32, y = x130_3 + 1 := ⟨_, rfl⟩
        refine lv_iinc (v := v28) (lv' := [(3, .int v28), (0, .ref (zB Z + 137)), (1, .int id), (2, .int x130_2)]) hx hb dX12_edit_164 hl (k := 3) rfl (by rw [ev28]; rfl) (by decide) rfl (fun ls hl => ?_)
        refine lv_goto (tgt := 130) hx hb dX12_edit_167 (by decide) ?_
        have tv28 : v28.toInt = x130_3.toInt + 1 := by rw [ev28]; have z9 := pi_add (x := x130_3) (y := (1 : Int32)); rw [k_1] at z9; exact z9 (by omega)
        exact ih_130 x130_2 v28 _ _ _ _ V I (A.wk (by decide)) (lv_sub hl [1, 2, 3, 0] rfl) (by omega) (by omega) g130 (K9.congr rfl rfl) (by omega) 
  have J_105 : ∀ (x105_2 : Int32) (hJ : pH) (H : Heap) (locs : List Loc) (ls : Array Slot), pV Z hJ s.heap H locs → Iv Z hJ → agr [(137, 79), (181, 1000), (182, 1000), (184, 1000), (185, 1000)] h hJ → lv_has ls 5 [(0, .ref (zB Z + 137)), (1, .int id), (2, .int x105_2)] → (0 ≤ x105_2.toInt ∧ x105_2.toInt ≤ 39) → mK hJ → W p l e (pRm 2 0 0 44) s m ([.ref (zB Z + 137), .int id] : List Value).toArray below meth c H locs 0 0 (MQ below (pQv Z (fun Z1 h1 => Z = Z1 ∧ Iv Z h1 ∧ agr [(137, 79), (181, 1000), (182, 1000), (184, 1000), (185, 1000), (183, 1000)] h h1 ∧ (mK h1))) ([.ref (zB Z + 137), .int id] : List Value).toArray s 0 0 (pA (zB Z))) (F0 m 105 ls []) := by
    intro x105_2 hJ H locs ls V I A hl g_105_2 K9
    refine lv_aload_n hx hb dX12_edit_105 rfl (lv_at hl 0 rfl) ?_
    refine pg_r M V 12 11 (sm_this S) pC12 fk12_11 (sm_downHere S).2.2 lkF_X12_17 dX12_edit_106 ?_
    refine lv_iconst (v := 4) hx hb dX12_edit_109 (by decide) ?_
    have k_4 : (4 : Int32).toInt = 4 := rfl
    refine pa_z M V (sm_downHere S).1 (by rw [(sm_downHere S).2.1]; exact pi_in (by omega)) dX12_edit_110 ?_
    refine lv_topi (fun v29 ev29 => ?_)
    have tv29 : 0 ≤ v29.toInt ∧ v29.toInt ≤ 1 := by rw [ev29]; exact I.get (sm_downHere S).1 _
    refine lv_if_eq (tgt := 190) hx hb dX12_edit_111 (by decide) (fun c_111 => ?_) (fun c_111 => ?_)
    · skip
      have k_0 : (0 : Int32).toInt = 0 := rfl
      have c_111 := pi_eq.mp c_111
      exact J_190 x105_2 _ _ _ _ V I (A.wk (by decide)) (lv_sub hl [0, 1, 2] rfl) (by omega) (K9.congr rfl rfl) 
    · skip
      have k_0 : (0 : Int32).toInt = 0 := rfl
      have c_111 := pi_ne c_111
      refine lv_aload_n hx hb dX12_edit_114 rfl (lv_at hl 0 rfl) ?_
      refine pg_r M V 12 78 (sm_this S) pC12 fk12_78 (sm_keptCaret S).2.2 lkF_X12_165 dX12_edit_115 ?_
      refine lv_iload_n hx hb dX12_edit_118 rfl (lv_at hl 2 rfl) ?_
      refine pa_i M V (sm_keptCaret S).1 (by rw [(sm_keptCaret S).2.1]; exact pi_in (by omega)) dX12_edit_119 ?_
      refine lv_topi (fun v30 ev30 => ?_)
      have uv30 : v30.toInt = (hJ 185 x105_2.toNatClampNeg).toInt := congrArg Int32.toInt ev30
      have tv30 : 0 ≤ v30.toInt ∧ v30.toInt ≤ 12 := by rw [ev30]; exact I.get (sm_keptCaret S).1 _
      refine lv_if_le (tgt := 190) hx hb dX12_edit_120 (by decide) (fun c_120 => ?_) (fun c_120 => ?_)
      · skip
        have c_120 := pi_le.mp c_120
        exact J_190 x105_2 _ _ _ _ V I (A.wk (by decide)) (lv_sub hl [0, 1, 2] rfl) (by omega) (K9.congr rfl rfl) 
      · skip
        have c_120 := pi_le' c_120
        refine lv_aload_n hx hb dX12_edit_123 rfl (lv_at hl 0 rfl) ?_
        refine pg_r M V 12 78 (sm_this S) pC12 fk12_78 (sm_keptCaret S).2.2 lkF_X12_165 dX12_edit_124 ?_
        refine lv_iload_n hx hb dX12_edit_127 rfl (lv_at hl 2 rfl) ?_
        refine pa_iv M V (v := v30) (sm_keptCaret S).1 (by rw [(sm_keptCaret S).2.1]; exact pi_in (by omega)) ev30.symm dX12_edit_128 ?_
        refine lv_istore_n (lv' := [(3, .int v30), (0, .ref (zB Z + 137)), (1, .int id), (2, .int x105_2)]) hx hb dX12_edit_129 rfl hl (by decide) rfl (fun ls hl => ?_)
        exact J_130 _ x105_2 v30 _ _ _ _ V I (A.wk (by decide)) (lv_sub hl [1, 2, 3, 0] rfl) (by omega) (by omega) (by rw [show _ = v30 from ev30.symm]; omega) (K9.congr rfl rfl) (Nat.lt_succ_self _) 
  have J_71 : ∀ (x71_2 : Int32) (hJ : pH) (H : Heap) (locs : List Loc) (ls : Array Slot), pV Z hJ s.heap H locs → Iv Z hJ → agr [(137, 79), (181, 1000), (182, 1000), (184, 1000), (185, 1000)] h hJ → lv_has ls 5 [(0, .ref (zB Z + 137)), (1, .int id), (2, .int x71_2)] → (0 ≤ x71_2.toInt ∧ x71_2.toInt ≤ 39) → mK hJ → W p l e (pRm 2 0 0 44) s m ([.ref (zB Z + 137), .int id] : List Value).toArray below meth c H locs 0 0 (MQ below (pQv Z (fun Z1 h1 => Z = Z1 ∧ Iv Z h1 ∧ agr [(137, 79), (181, 1000), (182, 1000), (184, 1000), (185, 1000), (183, 1000)] h h1 ∧ (mK h1))) ([.ref (zB Z + 137), .int id] : List Value).toArray s 0 0 (pA (zB Z))) (F0 m 71 ls []) := by
    intro x71_2 hJ H locs ls V I A hl g_71_2 K9
    refine lv_aload_n hx hb dX12_edit_71 rfl (lv_at hl 0 rfl) ?_
    refine pg_r M V 12 11 (sm_this S) pC12 fk12_11 (sm_downHere S).2.2 lkF_X12_17 dX12_edit_72 ?_
    refine lv_iconst (v := 3) hx hb dX12_edit_75 (by decide) ?_
    have k_3 : (3 : Int32).toInt = 3 := rfl
    refine pa_z M V (sm_downHere S).1 (by rw [(sm_downHere S).2.1]; exact pi_in (by omega)) dX12_edit_76 ?_
    refine lv_topi (fun v31 ev31 => ?_)
    have tv31 : 0 ≤ v31.toInt ∧ v31.toInt ≤ 1 := by rw [ev31]; exact I.get (sm_downHere S).1 _
    refine lv_if_eq (tgt := 105) hx hb dX12_edit_77 (by decide) (fun c_77 => ?_) (fun c_77 => ?_)
    · skip
      have k_0 : (0 : Int32).toInt = 0 := rfl
      have c_77 := pi_eq.mp c_77
      exact J_105 x71_2 _ _ _ _ V I (A.wk (by decide)) (lv_sub hl [0, 1, 2] rfl) (by omega) (K9.congr rfl rfl) 
    · skip
      have k_0 : (0 : Int32).toInt = 0 := rfl
      have c_77 := pi_ne c_77
      refine lv_aload_n hx hb dX12_edit_80 rfl (lv_at hl 0 rfl) ?_
      refine pg_r M V 12 78 (sm_this S) pC12 fk12_78 (sm_keptCaret S).2.2 lkF_X12_165 dX12_edit_81 ?_
      refine lv_iload_n hx hb dX12_edit_84 rfl (lv_at hl 2 rfl) ?_
      refine pa_i M V (sm_keptCaret S).1 (by rw [(sm_keptCaret S).2.1]; exact pi_in (by omega)) dX12_edit_85 ?_
      refine lv_topi (fun v32 ev32 => ?_)
      have uv32 : v32.toInt = (hJ 185 x71_2.toNatClampNeg).toInt := congrArg Int32.toInt ev32
      have tv32 : 0 ≤ v32.toInt ∧ v32.toInt ≤ 12 := by rw [ev32]; exact I.get (sm_keptCaret S).1 _
      refine lv_aload_n hx hb dX12_edit_86 rfl (lv_at hl 0 rfl) ?_
      refine pg_r M V 12 77 (sm_this S) pC12 fk12_77 (sm_keptSize S).2.2 lkF_X12_162 dX12_edit_87 ?_
      refine lv_iload_n hx hb dX12_edit_90 rfl (lv_at hl 2 rfl) ?_
      refine pa_i M V (sm_keptSize S).1 (by rw [(sm_keptSize S).2.1]; exact pi_in (by omega)) dX12_edit_91 ?_
      refine lv_topi (fun v33 ev33 => ?_)
      have uv33 : v33.toInt = (hJ 184 x71_2.toNatClampNeg).toInt := congrArg Int32.toInt ev33
      have tv33 : 0 ≤ v33.toInt ∧ v33.toInt ≤ 12 := by rw [ev33]; exact I.get (sm_keptSize S).1 _
      refine lv_icmp_ge (tgt := 105) hx hb dX12_edit_92 (by decide) (fun c_92 => ?_) (fun c_92 => ?_)
      · skip
        have c_92 := pi_le.mp c_92
        exact J_105 x71_2 _ _ _ _ V I (A.wk (by decide)) (lv_sub hl [0, 1, 2] rfl) (by omega) (K9.congr rfl rfl) 
      · skip
        have c_92 := pi_le' c_92
        refine lv_aload_n hx hb dX12_edit_95 rfl (lv_at hl 0 rfl) ?_
        refine pg_r M V 12 78 (sm_this S) pC12 fk12_78 (sm_keptCaret S).2.2 lkF_X12_165 dX12_edit_96 ?_
        refine lv_iload_n hx hb dX12_edit_99 rfl (lv_at hl 2 rfl) ?_
        refine lv_dup2_11 hx hb dX12_edit_100 rfl rfl ?_
        refine pa_iv M V (v := v32) (sm_keptCaret S).1 (by rw [(sm_keptCaret S).2.1]; exact pi_in (by omega)) ev32.symm dX12_edit_101 ?_
        refine lv_iconst (v := 1) hx hb dX12_edit_102 (by decide) ?_
        refine lv_iadd hx hb dX12_edit_103 ?_
        refine lv_topi (fun v34 ev34 => ?_)
        refine ps_i M V (sm_keptCaret S).1 (by rw [(sm_keptCaret S).2.1]; exact pi_in (by omega)) dX12_edit_104 (fun H locs V => ?_)
        have A := A.upA (o := 185) (k := x71_2.toNatClampNeg) (v := v34) (by decide)
        have k_1 : (1 : Int32).toInt = 1 := rfl
        have tv34 : v34.toInt = v32.toInt + 1 := by rw [ev34]; have z9 := pi_add (x := v32) (y := (1 : Int32)); rw [k_1] at z9; exact z9 (by omega)
        have I := I.up (k := x71_2.toNatClampNeg) (v := v34) (sm_keptCaret S).1 (show (0 : Int) ≤ v34.toInt ∧ v34.toInt ≤ (12 : Int) by omega)
        have K9 := mK_inc (x := v34) K9 (show v33 = _ from ev33) (by omega)
        exact J_105 x71_2 _ _ _ _ V I (A.wk (by decide)) (lv_sub hl [0, 1, 2] rfl) (by omega) (K9.congr rfl rfl) 
  have J_43 : ∀ (x43_2 : Int32) (hJ : pH) (H : Heap) (locs : List Loc) (ls : Array Slot), pV Z hJ s.heap H locs → Iv Z hJ → agr [(137, 79), (181, 1000), (182, 1000), (184, 1000), (185, 1000)] h hJ → lv_has ls 5 [(0, .ref (zB Z + 137)), (1, .int id), (2, .int x43_2)] → (0 ≤ x43_2.toInt ∧ x43_2.toInt ≤ 39) → mK hJ → W p l e (pRm 2 0 0 44) s m ([.ref (zB Z + 137), .int id] : List Value).toArray below meth c H locs 0 0 (MQ below (pQv Z (fun Z1 h1 => Z = Z1 ∧ Iv Z h1 ∧ agr [(137, 79), (181, 1000), (182, 1000), (184, 1000), (185, 1000), (183, 1000)] h h1 ∧ (mK h1))) ([.ref (zB Z + 137), .int id] : List Value).toArray s 0 0 (pA (zB Z))) (F0 m 43 ls []) := by
    intro x43_2 hJ H locs ls V I A hl g_43_2 K9
    refine lv_aload_n hx hb dX12_edit_43 rfl (lv_at hl 0 rfl) ?_
    refine pg_r M V 12 11 (sm_this S) pC12 fk12_11 (sm_downHere S).2.2 lkF_X12_17 dX12_edit_44 ?_
    refine lv_iconst (v := 2) hx hb dX12_edit_47 (by decide) ?_
    have k_2 : (2 : Int32).toInt = 2 := rfl
    refine pa_z M V (sm_downHere S).1 (by rw [(sm_downHere S).2.1]; exact pi_in (by omega)) dX12_edit_48 ?_
    refine lv_topi (fun v35 ev35 => ?_)
    have tv35 : 0 ≤ v35.toInt ∧ v35.toInt ≤ 1 := by rw [ev35]; exact I.get (sm_downHere S).1 _
    refine lv_if_eq (tgt := 71) hx hb dX12_edit_49 (by decide) (fun c_49 => ?_) (fun c_49 => ?_)
    · skip
      have k_0 : (0 : Int32).toInt = 0 := rfl
      have c_49 := pi_eq.mp c_49
      exact J_71 x43_2 _ _ _ _ V I (A.wk (by decide)) (lv_sub hl [0, 1, 2] rfl) (by omega) (K9.congr rfl rfl) 
    · skip
      have k_0 : (0 : Int32).toInt = 0 := rfl
      have c_49 := pi_ne c_49
      refine lv_aload_n hx hb dX12_edit_52 rfl (lv_at hl 0 rfl) ?_
      refine pg_r M V 12 78 (sm_this S) pC12 fk12_78 (sm_keptCaret S).2.2 lkF_X12_165 dX12_edit_53 ?_
      refine lv_iload_n hx hb dX12_edit_56 rfl (lv_at hl 2 rfl) ?_
      refine pa_i M V (sm_keptCaret S).1 (by rw [(sm_keptCaret S).2.1]; exact pi_in (by omega)) dX12_edit_57 ?_
      refine lv_topi (fun v36 ev36 => ?_)
      have uv36 : v36.toInt = (hJ 185 x43_2.toNatClampNeg).toInt := congrArg Int32.toInt ev36
      have tv36 : 0 ≤ v36.toInt ∧ v36.toInt ≤ 12 := by rw [ev36]; exact I.get (sm_keptCaret S).1 _
      refine lv_if_le (tgt := 71) hx hb dX12_edit_58 (by decide) (fun c_58 => ?_) (fun c_58 => ?_)
      · skip
        have c_58 := pi_le.mp c_58
        exact J_71 x43_2 _ _ _ _ V I (A.wk (by decide)) (lv_sub hl [0, 1, 2] rfl) (by omega) (K9.congr rfl rfl) 
      · skip
        have c_58 := pi_le' c_58
        refine lv_aload_n hx hb dX12_edit_61 rfl (lv_at hl 0 rfl) ?_
        refine pg_r M V 12 78 (sm_this S) pC12 fk12_78 (sm_keptCaret S).2.2 lkF_X12_165 dX12_edit_62 ?_
        refine lv_iload_n hx hb dX12_edit_65 rfl (lv_at hl 2 rfl) ?_
        refine lv_dup2_11 hx hb dX12_edit_66 rfl rfl ?_
        refine pa_iv M V (v := v36) (sm_keptCaret S).1 (by rw [(sm_keptCaret S).2.1]; exact pi_in (by omega)) ev36.symm dX12_edit_67 ?_
        refine lv_iconst (v := 1) hx hb dX12_edit_68 (by decide) ?_
        refine lv_isub hx hb dX12_edit_69 ?_
        refine lv_topi (fun v37 ev37 => ?_)
        refine ps_i M V (sm_keptCaret S).1 (by rw [(sm_keptCaret S).2.1]; exact pi_in (by omega)) dX12_edit_70 (fun H locs V => ?_)
        have A := A.upA (o := 185) (k := x43_2.toNatClampNeg) (v := v37) (by decide)
        have k_1 : (1 : Int32).toInt = 1 := rfl
        have tv37 : v37.toInt = v36.toInt - 1 := by rw [ev37]; have z9 := pi_sub (x := v36) (y := (1 : Int32)); rw [k_1] at z9; exact z9 (by omega)
        have I := I.up (k := x43_2.toNatClampNeg) (v := v37) (sm_keptCaret S).1 (show (0 : Int) ≤ v37.toInt ∧ v37.toInt ≤ (12 : Int) by omega)
        have K9 := mK_dec (x := v37) K9 (by omega) (show v36 = _ from ev36) (by omega)
        exact J_71 x43_2 _ _ _ _ V I (A.wk (by decide)) (lv_sub hl [0, 1, 2] rfl) (by omega) (K9.congr rfl rfl) 
  have J_20 : ∀ (y20_0 : Int32) (hJ : pH) (H : Heap) (locs : List Loc) (ls : Array Slot), pV Z hJ s.heap H locs → Iv Z hJ → agr [(137, 79), (181, 1000), (182, 1000), (184, 1000), (185, 1000)] h hJ → lv_has ls 5 [(0, .ref (zB Z + 137)), (1, .int id)] → (-1 ≤ y20_0.toInt ∧ y20_0.toInt ≤ 39) → mK hJ → W p l e (pRm 2 0 0 44) s m ([.ref (zB Z + 137), .int id] : List Value).toArray below meth c H locs 0 0 (MQ below (pQv Z (fun Z1 h1 => Z = Z1 ∧ Iv Z h1 ∧ agr [(137, 79), (181, 1000), (182, 1000), (184, 1000), (185, 1000), (183, 1000)] h h1 ∧ (mK h1))) ([.ref (zB Z + 137), .int id] : List Value).toArray s 0 0 (pA (zB Z))) (F0 m 20 ls [.int y20_0]) := by
    intro y20_0 hJ H locs ls V I A hl gs_20_0 K9
    refine lv_istore_n (lv' := [(2, .int y20_0), (0, .ref (zB Z + 137)), (1, .int id)]) hx hb dX12_edit_20 rfl hl (by decide) rfl (fun ls hl => ?_)
    refine lv_iload_n hx hb dX12_edit_21 rfl (lv_at hl 0 rfl) ?_
    refine lv_iconst (v := (-1)) hx hb dX12_edit_22 (by decide) ?_
    refine lv_icmp_ne (tgt := 27) hx hb dX12_edit_23 (by decide) (fun c_23 => ?_) (fun c_23 => ?_)
    · skip
      have k_m1 : (-1 : Int32).toInt = -1 := rfl
      have c_23 := pi_ne c_23
      refine lv_aload_n hx hb dX12_edit_27 rfl (lv_at hl 1 rfl) ?_
      refine pg_r M V 12 11 (sm_this S) pC12 fk12_11 (sm_downHere S).2.2 lkF_X12_17 dX12_edit_28 ?_
      refine lv_iconst (v := 5) hx hb dX12_edit_31 (by decide) ?_
      have k_5 : (5 : Int32).toInt = 5 := rfl
      refine pa_z M V (sm_downHere S).1 (by rw [(sm_downHere S).2.1]; exact pi_in (by omega)) dX12_edit_32 ?_
      refine lv_topi (fun v38 ev38 => ?_)
      have tv38 : 0 ≤ v38.toInt ∧ v38.toInt ≤ 1 := by rw [ev38]; exact I.get (sm_downHere S).1 _
      refine lv_if_eq (tgt := 43) hx hb dX12_edit_33 (by decide) (fun c_33 => ?_) (fun c_33 => ?_)
      · skip
        have k_0 : (0 : Int32).toInt = 0 := rfl
        have c_33 := pi_eq.mp c_33
        exact J_43 y20_0 _ _ _ _ V I (A.wk (by decide)) (lv_sub hl [1, 2, 0] rfl) (by omega) (K9.congr rfl rfl) 
      · skip
        have k_0 : (0 : Int32).toInt = 0 := rfl
        have c_33 := pi_ne c_33
        refine lv_aload_n hx hb dX12_edit_36 rfl (lv_at hl 1 rfl) ?_
        refine pg_r M V 12 78 (sm_this S) pC12 fk12_78 (sm_keptCaret S).2.2 lkF_X12_165 dX12_edit_37 ?_
        refine lv_iload_n hx hb dX12_edit_40 rfl (lv_at hl 0 rfl) ?_
        refine lv_iconst (v := 0) hx hb dX12_edit_41 (by decide) ?_
        refine ps_i M V (sm_keptCaret S).1 (by rw [(sm_keptCaret S).2.1]; exact pi_in (by omega)) dX12_edit_42 (fun H locs V => ?_)
        have A := A.upA (o := 185) (k := y20_0.toNatClampNeg) (v := (0 : Int32)) (by decide)
        have I := I.up (k := y20_0.toNatClampNeg) (v := (0 : Int32)) (sm_keptCaret S).1 (show (0 : Int) ≤ (0 : Int32).toInt ∧ (0 : Int32).toInt ≤ (12 : Int) by omega)
        have K9 := mK_c (cv := (0 : Int32)) K9 (Int.le_trans (show ((0 : Int32) : Int32).toInt ≤ 0 by omega) (show (0 : Int) ≤ _ from (I.get (sm_keptSize S).1 y20_0.toNatClampNeg).1))
        exact J_43 y20_0 _ _ _ _ V I (A.wk (by decide)) (lv_sub hl [1, 2, 0] rfl) (by omega) (K9.congr rfl rfl) 
    · skip
      have k_m1 : (-1 : Int32).toInt = -1 := rfl
      have c_23 := pi_eq.mp c_23
      exact pe_v M V rfl rfl hr hlk ⟨rfl, I, A.wk (by decide), (K9.congr rfl rfl)⟩ ⟨Nat.le_refl _, Nat.le_refl _⟩ dX12_edit_26
  refine lv_aload_n hx hb dX12_edit_0 rfl (lv_at hl 0 rfl) ?_
  refine pg_i M V 12 16 (sm_this S) pC12 fk12_16 lkF_X12_217 dX12_edit_1 ?_
  refine lv_topi (fun v39 ev39 => ?_)
  have tv39 : 0 ≤ v39.toInt ∧ v39.toInt ≤ 16 := by rw [ev39]; exact I.get (sm_this S) 16
  refine lv_if_le (tgt := 15) hx hb dX12_edit_4 (by decide) (fun c_4 => ?_) (fun c_4 => ?_)
  · skip
    have k_0 : (0 : Int32).toInt = 0 := rfl
    have c_4 := pi_le.mp c_4
    refine lv_aload_n hx hb dX12_edit_15 rfl (lv_at hl 0 rfl) ?_
    refine lv_iload_n hx hb dX12_edit_16 rfl (lv_at hl 1 rfl) ?_
    refine pk_i (pr_V M V (m_X12_find l S I id ) km_X12_find (sm_this S) pC12 lkM_X12_365 rfl hl.1 rfl (Nat.le_of_ble_eq_true rfl) ⟨Nat.le_of_ble_eq_true rfl, Nat.le_of_ble_eq_true rfl⟩ ⟨Nat.le_of_ble_eq_true rfl, Nat.le_of_ble_eq_true rfl⟩ dX12_edit_17) V (fun r40 Zr40 hr40 H locs pr40 _ _ V => ?_)
    obtain ⟨rfl, I, pA_r40, fr40_0, fr40_1⟩ := pr40
    have A := A.tr pA_r40 (by decide)
    have K9 : mK hr40 := K9.congr (pA_r40.row 185 (by decide)) (pA_r40.row 184 (by decide))
    exact J_20 r40 _ _ _ _ V I (A.wk (by decide)) (lv_sub hl [0, 1] rfl) (by omega) (K9.congr rfl rfl) 
  · skip
    have k_0 : (0 : Int32).toInt = 0 := rfl
    have c_4 := pi_le' c_4
    refine lv_aload_n hx hb dX12_edit_7 rfl (lv_at hl 0 rfl) ?_
    refine lv_iload_n hx hb dX12_edit_8 rfl (lv_at hl 1 rfl) ?_
    refine pk_i (pr_V M V (m_X12_made l S I id (K9.congr rfl rfl)) km_X12_made (sm_this S) pC12 lkM_X12_368 rfl hl.1 rfl (Nat.le_of_ble_eq_true rfl) ⟨Nat.le_of_ble_eq_true rfl, Nat.le_of_ble_eq_true rfl⟩ ⟨Nat.le_of_ble_eq_true rfl, Nat.le_of_ble_eq_true rfl⟩ dX12_edit_9) V (fun r41 Zr41 hr41 H locs pr41 _ _ V => ?_)
    obtain ⟨rfl, I, pA_r41, fr41_0, fr41_1⟩ := pr41
    have A := A.wk (l3 := [(137, 79), (181, 1000), (182, 1000), (184, 1000), (185, 1000)]) (by decide)
    have A := A.tr pA_r41 (by decide)
    have K9 : mK hr41 := fr41_1
    refine lv_goto (tgt := 20) hx hb dX12_edit_12 (by decide) ?_
    exact J_20 r41 _ _ _ _ V I (A.wk (by decide)) (lv_sub hl [0, 1] rfl) (by omega) (K9.congr rfl rfl) 
theorem dX12_field_0 : decode cX12_field 0 = .ok (.aload_n 0, 1) := by decide +kernel
theorem dX12_field_1 : decode cX12_field 1 = .ok (.aload_n 0, 1) := by decide +kernel
theorem dX12_field_2 : decode cX12_field 2 = .ok (.iload_n 1, 1) := by decide +kernel
theorem dX12_field_3 : decode cX12_field 3 = .ok (.invokevirtual 343, 3) := by decide +kernel
theorem dX12_field_6 : decode cX12_field 6 = .ok (.ifCond .eq 19, 3) := by decide +kernel
theorem dX12_field_9 : decode cX12_field 9 = .ok (.iload_n 2, 1) := by decide +kernel
theorem dX12_field_10 : decode cX12_field 10 = .ok (.iconst 1, 1) := by decide +kernel
theorem dX12_field_11 : decode cX12_field 11 = .ok (.if_icmp .lt 14, 3) := by decide +kernel
theorem dX12_field_14 : decode cX12_field 14 = .ok (.iload_n 2, 1) := by decide +kernel
theorem dX12_field_15 : decode cX12_field 15 = .ok (.sipush 200, 3) := by decide +kernel
theorem dX12_field_18 : decode cX12_field 18 = .ok (.if_icmp .gt 7, 3) := by decide +kernel
theorem dX12_field_21 : decode cX12_field 21 = .ok (.iconst 1, 1) := by decide +kernel
theorem dX12_field_22 : decode cX12_field 22 = .ok (.goto 4, 3) := by decide +kernel
theorem dX12_field_25 : decode cX12_field 25 = .ok (.iconst 0, 1) := by decide +kernel
theorem dX12_field_26 : decode cX12_field 26 = .ok (.invokevirtual 371, 3) := by decide +kernel
theorem dX12_field_29 : decode cX12_field 29 = .ok (.ifCond .eq 5, 3) := by decide +kernel
theorem dX12_field_32 : decode cX12_field 32 = .ok (.iconst 0, 1) := by decide +kernel
theorem dX12_field_33 : decode cX12_field 33 = .ok (.ireturn, 1) := by decide +kernel
theorem dX12_field_34 : decode cX12_field 34 = .ok (.aload_n 0, 1) := by decide +kernel
theorem dX12_field_35 : decode cX12_field 35 = .ok (.iload_n 1, 1) := by decide +kernel
theorem dX12_field_36 : decode cX12_field 36 = .ok (.iload_n 2, 1) := by decide +kernel
theorem dX12_field_37 : decode cX12_field 37 = .ok (.bipush 12, 2) := by decide +kernel
theorem dX12_field_39 : decode cX12_field 39 = .ok (.invokevirtual 375, 3) := by decide +kernel
theorem dX12_field_42 : decode cX12_field 42 = .ok (.istore_n 3, 1) := by decide +kernel
theorem dX12_field_43 : decode cX12_field 43 = .ok (.aload_n 0, 1) := by decide +kernel
theorem dX12_field_44 : decode cX12_field 44 = .ok (.iload_n 3, 1) := by decide +kernel
theorem dX12_field_45 : decode cX12_field 45 = .ok (.invokevirtual 378, 3) := by decide +kernel
theorem dX12_field_48 : decode cX12_field 48 = .ok (.pop, 1) := by decide +kernel
theorem dX12_field_49 : decode cX12_field 49 = .ok (.aload_n 0, 1) := by decide +kernel
theorem dX12_field_50 : decode cX12_field 50 = .ok (.getfield 294, 3) := by decide +kernel
theorem dX12_field_53 : decode cX12_field 53 = .ok (.iload_n 3, 1) := by decide +kernel
theorem dX12_field_54 : decode cX12_field 54 = .ok (.if_icmp .ne 8, 3) := by decide +kernel
theorem dX12_field_57 : decode cX12_field 57 = .ok (.aload_n 0, 1) := by decide +kernel
theorem dX12_field_58 : decode cX12_field 58 = .ok (.iload_n 3, 1) := by decide +kernel
theorem dX12_field_59 : decode cX12_field 59 = .ok (.invokevirtual 394, 3) := by decide +kernel
theorem dX12_field_62 : decode cX12_field 62 = .ok (.aload_n 0, 1) := by decide +kernel
theorem dX12_field_63 : decode cX12_field 63 = .ok (.iload_n 3, 1) := by decide +kernel
theorem dX12_field_64 : decode cX12_field 64 = .ok (.invokevirtual 381, 3) := by decide +kernel
theorem dX12_field_67 : decode cX12_field 67 = .ok (.aload_n 0, 1) := by decide +kernel
theorem dX12_field_68 : decode cX12_field 68 = .ok (.iload_n 3, 1) := by decide +kernel
theorem dX12_field_69 : decode cX12_field 69 = .ok (.invokevirtual 365, 3) := by decide +kernel
theorem dX12_field_72 : decode cX12_field 72 = .ok (.istore 4, 2) := by decide +kernel
theorem dX12_field_74 : decode cX12_field 74 = .ok (.iload 4, 2) := by decide +kernel
theorem dX12_field_76 : decode cX12_field 76 = .ok (.iconst (-1), 1) := by decide +kernel
theorem dX12_field_77 : decode cX12_field 77 = .ok (.if_icmp .ne 7, 3) := by decide +kernel
theorem dX12_field_80 : decode cX12_field 80 = .ok (.iconst 0, 1) := by decide +kernel
theorem dX12_field_81 : decode cX12_field 81 = .ok (.goto 10, 3) := by decide +kernel
theorem dX12_field_84 : decode cX12_field 84 = .ok (.aload_n 0, 1) := by decide +kernel
theorem dX12_field_85 : decode cX12_field 85 = .ok (.getfield 162, 3) := by decide +kernel
theorem dX12_field_88 : decode cX12_field 88 = .ok (.iload 4, 2) := by decide +kernel
theorem dX12_field_90 : decode cX12_field 90 = .ok (.iaload, 1) := by decide +kernel
theorem dX12_field_91 : decode cX12_field 91 = .ok (.istore 5, 2) := by decide +kernel
theorem dX12_field_93 : decode cX12_field 93 = .ok (.iconst 0, 1) := by decide +kernel
theorem dX12_field_94 : decode cX12_field 94 = .ok (.istore 6, 2) := by decide +kernel
theorem dX12_field_96 : decode cX12_field 96 = .ok (.iload 6, 2) := by decide +kernel
theorem dX12_field_98 : decode cX12_field 98 = .ok (.iload 5, 2) := by decide +kernel
theorem dX12_field_100 : decode cX12_field 100 = .ok (.if_icmp .ge 74, 3) := by decide +kernel
theorem dX12_field_103 : decode cX12_field 103 = .ok (.aload_n 0, 1) := by decide +kernel
theorem dX12_field_104 : decode cX12_field 104 = .ok (.aload_n 0, 1) := by decide +kernel
theorem dX12_field_105 : decode cX12_field 105 = .ok (.getfield 150, 3) := by decide +kernel
theorem dX12_field_108 : decode cX12_field 108 = .ok (.iconst 0, 1) := by decide +kernel
theorem dX12_field_109 : decode cX12_field 109 = .ok (.iaload, 1) := by decide +kernel
theorem dX12_field_110 : decode cX12_field 110 = .ok (.iconst 2, 1) := by decide +kernel
theorem dX12_field_111 : decode cX12_field 111 = .ok (.iadd, 1) := by decide +kernel
theorem dX12_field_112 : decode cX12_field 112 = .ok (.bipush 6, 2) := by decide +kernel
theorem dX12_field_114 : decode cX12_field 114 = .ok (.iload 6, 2) := by decide +kernel
theorem dX12_field_116 : decode cX12_field 116 = .ok (.imul, 1) := by decide +kernel
theorem dX12_field_117 : decode cX12_field 117 = .ok (.iadd, 1) := by decide +kernel
theorem dX12_field_118 : decode cX12_field 118 = .ok (.aload_n 0, 1) := by decide +kernel
theorem dX12_field_119 : decode cX12_field 119 = .ok (.getfield 150, 3) := by decide +kernel
theorem dX12_field_122 : decode cX12_field 122 = .ok (.iconst 1, 1) := by decide +kernel
theorem dX12_field_123 : decode cX12_field 123 = .ok (.iaload, 1) := by decide +kernel
theorem dX12_field_124 : decode cX12_field 124 = .ok (.iconst 2, 1) := by decide +kernel
theorem dX12_field_125 : decode cX12_field 125 = .ok (.iadd, 1) := by decide +kernel
theorem dX12_field_126 : decode cX12_field 126 = .ok (.aload_n 0, 1) := by decide +kernel
theorem dX12_field_127 : decode cX12_field 127 = .ok (.getfield 150, 3) := by decide +kernel
theorem dX12_field_130 : decode cX12_field 130 = .ok (.iconst 0, 1) := by decide +kernel
theorem dX12_field_131 : decode cX12_field 131 = .ok (.iaload, 1) := by decide +kernel
theorem dX12_field_132 : decode cX12_field 132 = .ok (.bipush 8, 2) := by decide +kernel
theorem dX12_field_134 : decode cX12_field 134 = .ok (.iadd, 1) := by decide +kernel
theorem dX12_field_135 : decode cX12_field 135 = .ok (.bipush 6, 2) := by decide +kernel
theorem dX12_field_137 : decode cX12_field 137 = .ok (.iload 6, 2) := by decide +kernel
theorem dX12_field_139 : decode cX12_field 139 = .ok (.imul, 1) := by decide +kernel
theorem dX12_field_140 : decode cX12_field 140 = .ok (.iadd, 1) := by decide +kernel
theorem dX12_field_141 : decode cX12_field 141 = .ok (.aload_n 0, 1) := by decide +kernel
theorem dX12_field_142 : decode cX12_field 142 = .ok (.getfield 150, 3) := by decide +kernel
theorem dX12_field_145 : decode cX12_field 145 = .ok (.iconst 1, 1) := by decide +kernel
theorem dX12_field_146 : decode cX12_field 146 = .ok (.iaload, 1) := by decide +kernel
theorem dX12_field_147 : decode cX12_field 147 = .ok (.bipush 10, 2) := by decide +kernel
theorem dX12_field_149 : decode cX12_field 149 = .ok (.iadd, 1) := by decide +kernel
theorem dX12_field_150 : decode cX12_field 150 = .ok (.bipush 6, 2) := by decide +kernel
theorem dX12_field_152 : decode cX12_field 152 = .ok (.aload_n 0, 1) := by decide +kernel
theorem dX12_field_153 : decode cX12_field 153 = .ok (.getfield 159, 3) := by decide +kernel
theorem dX12_field_156 : decode cX12_field 156 = .ok (.bipush 12, 2) := by decide +kernel
theorem dX12_field_158 : decode cX12_field 158 = .ok (.iload 4, 2) := by decide +kernel
theorem dX12_field_160 : decode cX12_field 160 = .ok (.imul, 1) := by decide +kernel
theorem dX12_field_161 : decode cX12_field 161 = .ok (.iload 6, 2) := by decide +kernel
theorem dX12_field_163 : decode cX12_field 163 = .ok (.iadd, 1) := by decide +kernel
theorem dX12_field_164 : decode cX12_field 164 = .ok (.iaload, 1) := by decide +kernel
theorem dX12_field_165 : decode cX12_field 165 = .ok (.invokevirtual 320, 3) := by decide +kernel
theorem dX12_field_168 : decode cX12_field 168 = .ok (.iinc 6 1, 3) := by decide +kernel
theorem dX12_field_171 : decode cX12_field 171 = .ok (.goto (-75), 3) := by decide +kernel
theorem dX12_field_174 : decode cX12_field 174 = .ok (.iload 5, 2) := by decide +kernel
theorem dX12_field_176 : decode cX12_field 176 = .ok (.ireturn, 1) := by decide +kernel
set_option maxHeartbeats 4000000 in
set_option maxRecDepth 100000 in
theorem m_X12_field (l : Launch) {Z : pZ} (S : pSh Z) {h : pH} (I : Iv Z h) (label : Int32) (width : Int32) (E9 : mE h) (S9 : mS h) (K9 : mK h) (ht : (h 137 25).toInt ≤ 599) (hb9 : (h 137 27).toInt ≤ 599) (hq : (h 137 82).toInt ≤ 6980) : pMet l yX12_field cX12_field 7 (some .int) 4 0 0 99 Z h [.ref (zB Z + 137), .int label, .int width] (pQi Z (fun r Z1 h1 => Z = Z1 ∧ Iv Z h1 ∧ agr [(137, 0), (137, 18), (137, 19), (137, 20), (137, 22), (137, 21), (137, 23), (137, 40), (137, 48), (137, 56), (137, 58), (137, 70), (137, 71), (153, 1000), (180, 1000), (172, 1000), (173, 1000), (171, 1000), (174, 1000), (175, 1000), (176, 1000), (177, 1000), (137, 25), (143, 1000), (137, 28), (137, 27), (144, 1000), (137, 82), (186, 1000), (137, 79), (181, 1000), (182, 1000), (184, 1000), (185, 1000), (183, 1000)] h h1 ∧ (mE h1) ∧ (mS h1) ∧ (mK h1) ∧ ((h 137 25).toInt + (0) ≤ (h1 137 25).toInt ∧ (h1 137 25).toInt ≤ (h 137 25).toInt + (1)) ∧ ((h 137 27).toInt + (0) ≤ (h1 137 27).toInt ∧ (h1 137 27).toInt ≤ (h 137 27).toInt + (1)) ∧ ((h 137 82).toInt + (0) ≤ (h1 137 82).toInt ∧ (h1 137 82).toInt ≤ (h 137 82).toInt + (13)))) := by
  refine pOfW (lv := [(0, .ref (zB Z + 137)), (1, .int label), (2, .int width)]) (by decide) (Nat.le_of_ble_eq_true rfl) rfl ?_
  intro p e s m below meth c ls M hr hlk hnm V hl
  have hx := M.1.1
  have hb := M.1.2.1
  have A : agr [] h h := agr.rf
  have i_56 : 0 ≤ (h 137 56).toInt ∧ (h 137 56).toInt ≤ 40 := I.get (sm_this S) 56
  have i_70 : 0 ≤ (h 137 70).toInt ∧ (h 137 70).toInt ≤ 40 := I.get (sm_this S) 70
  have i_58 : 0 ≤ (h 137 58).toInt ∧ (h 137 58).toInt ≤ 40 := I.get (sm_this S) 58
  have i_25 : 0 ≤ (h 137 25).toInt ∧ (h 137 25).toInt ≤ 600 := I.get (sm_this S) 25
  have i_27 : 0 ≤ (h 137 27).toInt ∧ (h 137 27).toInt ≤ 600 := I.get (sm_this S) 27
  have i_82 : 0 ≤ (h 137 82).toInt ∧ (h 137 82).toInt ≤ 7000 := I.get (sm_this S) 82
  have i_83 : 0 ≤ (h 137 83).toInt ∧ (h 137 83).toInt ≤ 7000 := I.get (sm_this S) 83
  have i_2 : 0 ≤ (h 137 2).toInt ∧ (h 137 2).toInt ≤ 64 := I.get (sm_this S) 2
  have n9 := S9.num
  have J_96 : ∀ (n9 : Nat) (x96_3 : Int32) (x96_4 : Int32) (x96_5 : Int32) (x96_6 : Int32) (hJ : pH) (H : Heap) (locs : List Loc) (ls : Array Slot), pV Z hJ s.heap H locs → Iv Z hJ → agr [(137, 0), (137, 19), (137, 20), (137, 21), (137, 22), (137, 25), (137, 27), (137, 28), (137, 79), (137, 82), (143, 1000), (144, 1000), (171, 1000), (172, 1000), (173, 1000), (174, 1000), (175, 1000), (176, 1000), (177, 1000), (180, 1000), (181, 1000), (182, 1000), (183, 1000), (184, 1000), (185, 1000), (186, 1000)] h hJ → lv_has ls 7 [(0, .ref (zB Z + 137)), (1, .int label), (2, .int width), (3, .int x96_3), (4, .int x96_4), (5, .int x96_5), (6, .int x96_6)] → (-1 ≤ x96_4.toInt ∧ x96_4.toInt ≤ 39) → (0 ≤ x96_5.toInt ∧ x96_5.toInt ≤ 12) → (0 ≤ x96_6.toInt ∧ x96_6.toInt ≤ 12) → ((h 137 56).toInt + (0) ≤ (hJ 137 56).toInt ∧ (hJ 137 56).toInt ≤ (h 137 56).toInt + (0)) → ((h 137 70).toInt + (0) ≤ (hJ 137 70).toInt ∧ (hJ 137 70).toInt ≤ (h 137 70).toInt + (0)) → ((h 137 58).toInt + (0) ≤ (hJ 137 58).toInt ∧ (hJ 137 58).toInt ≤ (h 137 58).toInt + (0)) → ((h 137 25).toInt + (1) ≤ (hJ 137 25).toInt ∧ (hJ 137 25).toInt ≤ (h 137 25).toInt + (1)) → ((h 137 27).toInt + (1) ≤ (hJ 137 27).toInt ∧ (hJ 137 27).toInt ≤ (h 137 27).toInt + (1)) → ((h 137 83).toInt + (0) ≤ (hJ 137 83).toInt ∧ (hJ 137 83).toInt ≤ (h 137 83).toInt + (0)) → ((h 137 2).toInt + (0) ≤ (hJ 137 2).toInt ∧ (hJ 137 2).toInt ≤ (h 137 2).toInt + (0)) → (1 ≤ x96_5.toInt → 0 ≤ x96_4.toInt) → ((h 137 82).toInt ≤ (hJ 137 82).toInt ∧ (hJ 137 82).toInt ≤ (h 137 82).toInt + 1 + x96_6.toInt) → mE hJ → mS hJ → mK hJ → (12 - x96_6.toInt).toNat < n9 → W p l e (pRm 4 0 0 99) s m ([.ref (zB Z + 137), .int label, .int width] : List Value).toArray below meth c H locs 0 0 (MQ below (pQi Z (fun r Z1 h1 => Z = Z1 ∧ Iv Z h1 ∧ agr [(137, 0), (137, 18), (137, 19), (137, 20), (137, 22), (137, 21), (137, 23), (137, 40), (137, 48), (137, 56), (137, 58), (137, 70), (137, 71), (153, 1000), (180, 1000), (172, 1000), (173, 1000), (171, 1000), (174, 1000), (175, 1000), (176, 1000), (177, 1000), (137, 25), (143, 1000), (137, 28), (137, 27), (144, 1000), (137, 82), (186, 1000), (137, 79), (181, 1000), (182, 1000), (184, 1000), (185, 1000), (183, 1000)] h h1 ∧ (mE h1) ∧ (mS h1) ∧ (mK h1) ∧ ((h 137 25).toInt + (0) ≤ (h1 137 25).toInt ∧ (h1 137 25).toInt ≤ (h 137 25).toInt + (1)) ∧ ((h 137 27).toInt + (0) ≤ (h1 137 27).toInt ∧ (h1 137 27).toInt ≤ (h 137 27).toInt + (1)) ∧ ((h 137 82).toInt + (0) ≤ (h1 137 82).toInt ∧ (h1 137 82).toInt ≤ (h 137 82).toInt + (13)))) ([.ref (zB Z + 137), .int label, .int width] : List Value).toArray s 0 0 (pA (zB Z))) (F0 m 96 ls []) := by
    intro n9
    induction n9 with
    | zero => intro x96_3 x96_4 x96_5 x96_6 hJ H locs ls V I A hl g_96_4 g_96_5 g_96_6 gd_96_56 gd_96_70 gd_96_58 gd_96_25 gd_96_27 gd_96_83 gd_96_2 e96a e96 E9 S9 K9 hm9; exact absurd hm9 (Nat.not_lt_zero _)
    | succ n9 ih_96 =>
      intro x96_3 x96_4 x96_5 x96_6 hJ H locs ls V I A hl g_96_4 g_96_5 g_96_6 gd_96_56 gd_96_70 gd_96_58 gd_96_25 gd_96_27 gd_96_83 gd_96_2 e96a e96 E9 S9 K9 hm9
      refine lv_iload hx hb dX12_field_96 (lv_at hl 6 rfl) ?_
      refine lv_iload hx hb dX12_field_98 (lv_at hl 5 rfl) ?_
      refine lv_icmp_ge (tgt := 174) hx hb dX12_field_100 (by decide) (fun c_100 => ?_) (fun c_100 => ?_)
      · skip
        have c_100 := pi_le.mp c_100
        refine lv_iload hx hb dX12_field_174 (lv_at hl 5 rfl) ?_
        exact pe_i M V rfl rfl hr hlk rfl ⟨rfl, I, A.wk (by decide), (E9.congr rfl rfl), (S9.congr rfl rfl rfl rfl rfl rfl rfl), (K9.congr rfl rfl), (show (h 137 25).toInt + (0) ≤ (hJ 137 25).toInt ∧ (hJ 137 25).toInt ≤ (h 137 25).toInt + (1) by omega), (show (h 137 27).toInt + (0) ≤ (hJ 137 27).toInt ∧ (hJ 137 27).toInt ≤ (h 137 27).toInt + (1) by omega), (show (h 137 82).toInt + (0) ≤ (hJ 137 82).toInt ∧ (hJ 137 82).toInt ≤ (h 137 82).toInt + (13) by omega)⟩ ⟨Nat.le_refl _, Nat.le_refl _⟩ dX12_field_176
      · skip
        have c_100 := pi_le' c_100
        refine lv_aload_n hx hb dX12_field_103 rfl (lv_at hl 0 rfl) ?_
        refine lv_aload_n hx hb dX12_field_104 rfl (lv_at hl 0 rfl) ?_
        refine pg_r M V 12 73 (sm_this S) pC12 fk12_73 (sm_item S).2.2 lkF_X12_150 dX12_field_105 ?_
        refine lv_iconst (v := 0) hx hb dX12_field_108 (by decide) ?_
        have k_0 : (0 : Int32).toInt = 0 := rfl
        refine pa_i M V (sm_item S).1 (by rw [(sm_item S).2.1]; exact pi_in (by omega)) dX12_field_109 ?_
        refine lv_topi (fun v1 ev1 => ?_)
        refine lv_iconst (v := 2) hx hb dX12_field_110 (by decide) ?_
        refine lv_iadd hx hb dX12_field_111 ?_
        refine lv_topi (fun v2 ev2 => ?_)
        refine lv_bipush (v := 6) hx hb dX12_field_112 (by decide) ?_
        refine lv_iload hx hb dX12_field_114 (lv_at hl 6 rfl) ?_
        refine lv_imul hx hb dX12_field_116 ?_
        refine lv_topi (fun v3 ev3 => ?_)
        refine lv_iadd hx hb dX12_field_117 ?_
        refine lv_topi (fun v4 ev4 => ?_)
        refine lv_aload_n hx hb dX12_field_118 rfl (lv_at hl 0 rfl) ?_
        refine pg_r M V 12 73 (sm_this S) pC12 fk12_73 (sm_item S).2.2 lkF_X12_150 dX12_field_119 ?_
        refine lv_iconst (v := 1) hx hb dX12_field_122 (by decide) ?_
        have k_1 : (1 : Int32).toInt = 1 := rfl
        refine pa_i M V (sm_item S).1 (by rw [(sm_item S).2.1]; exact pi_in (by omega)) dX12_field_123 ?_
        refine lv_topi (fun v5 ev5 => ?_)
        refine lv_iconst (v := 2) hx hb dX12_field_124 (by decide) ?_
        refine lv_iadd hx hb dX12_field_125 ?_
        refine lv_topi (fun v6 ev6 => ?_)
        refine lv_aload_n hx hb dX12_field_126 rfl (lv_at hl 0 rfl) ?_
        refine pg_r M V 12 73 (sm_this S) pC12 fk12_73 (sm_item S).2.2 lkF_X12_150 dX12_field_127 ?_
        refine lv_iconst (v := 0) hx hb dX12_field_130 (by decide) ?_
        refine pa_iv M V (v := v1) (sm_item S).1 (by rw [(sm_item S).2.1]; exact pi_in (by omega)) ev1.symm dX12_field_131 ?_
        refine lv_bipush (v := 8) hx hb dX12_field_132 (by decide) ?_
        refine lv_iadd hx hb dX12_field_134 ?_
        refine lv_topi (fun v7 ev7 => ?_)
        refine lv_bipush (v := 6) hx hb dX12_field_135 (by decide) ?_
        refine lv_iload hx hb dX12_field_137 (lv_at hl 6 rfl) ?_
        refine lv_imul hx hb dX12_field_139 ?_
        refine lv_topi (fun v8 ev8 => ?_)
        refine lv_iadd hx hb dX12_field_140 ?_
        refine lv_topi (fun v9 ev9 => ?_)
        refine lv_aload_n hx hb dX12_field_141 rfl (lv_at hl 0 rfl) ?_
        refine pg_r M V 12 73 (sm_this S) pC12 fk12_73 (sm_item S).2.2 lkF_X12_150 dX12_field_142 ?_
        refine lv_iconst (v := 1) hx hb dX12_field_145 (by decide) ?_
        refine pa_iv M V (v := v5) (sm_item S).1 (by rw [(sm_item S).2.1]; exact pi_in (by omega)) ev5.symm dX12_field_146 ?_
        refine lv_bipush (v := 10) hx hb dX12_field_147 (by decide) ?_
        refine lv_iadd hx hb dX12_field_149 ?_
        refine lv_topi (fun v10 ev10 => ?_)
        refine lv_bipush (v := 6) hx hb dX12_field_150 (by decide) ?_
        refine lv_aload_n hx hb dX12_field_152 rfl (lv_at hl 0 rfl) ?_
        refine pg_r M V 12 76 (sm_this S) pC12 fk12_76 (sm_keptText S).2.2 lkF_X12_159 dX12_field_153 ?_
        refine lv_bipush (v := 12) hx hb dX12_field_156 (by decide) ?_
        refine lv_iload hx hb dX12_field_158 (lv_at hl 4 rfl) ?_
        refine lv_imul hx hb dX12_field_160 ?_
        refine lv_topi (fun v11 ev11 => ?_)
        refine lv_iload hx hb dX12_field_161 (lv_at hl 6 rfl) ?_
        refine lv_iadd hx hb dX12_field_163 ?_
        refine lv_topi (fun v12 ev12 => ?_)
        have k_12 : (12 : Int32).toInt = 12 := rfl
        have tv11 : v11.toInt = 12 * x96_4.toInt := by rw [ev11]; have z9 := pi_mul (x := (12 : Int32)) (y := x96_4); rw [k_12] at z9; exact z9 (by omega)
        have tv12 : v12.toInt = v11.toInt + x96_6.toInt := by rw [ev12]; exact pi_add (by omega)
        refine pa_i M V (sm_keptText S).1 (by rw [(sm_keptText S).2.1]; exact pi_in (by omega)) dX12_field_164 ?_
        refine lv_topi (fun v13 ev13 => ?_)
        refine pk_v (pr_V M V (m_X12_quadClipped l S I v4 v6 v9 v10 (6 : Int32) v13 (show (hJ 137 82).toInt ≤ 6999 by omega)) km_X12_quadClipped (sm_this S) pC12 lkM_X12_320 rfl hl.1 rfl (Nat.le_of_ble_eq_true rfl) ⟨Nat.le_of_ble_eq_true rfl, Nat.le_of_ble_eq_true rfl⟩ ⟨Nat.le_of_ble_eq_true rfl, Nat.le_of_ble_eq_true rfl⟩ dX12_field_165) V (fun Zr14 hr14 H locs pr14 _ _ V => ?_)
        obtain ⟨rfl, I, pA_r14, fr14_0⟩ := pr14
        have fr14_0 : (hJ 137 82).toInt + (0) ≤ (hr14 137 82).toInt ∧ (hr14 137 82).toInt ≤ (hJ 137 82).toInt + (1) := fr14_0
        have A := A.tr pA_r14 (by decide)
        have E9 : mE hr14 := E9.congr (pA_r14.get 137 2 (by decide)) (pA_r14.row 138 (by decide))
        have S9 : mS hr14 := S9.congr (pA_r14.get 137 56 (by decide)) (pA_r14.get 137 70 (by decide)) (pA_r14.get 137 58 (by decide)) (pA_r14.row 162 (by decide)) (pA_r14.row 163 (by decide)) (pA_r14.row 165 (by decide)) (pA_r14.row 166 (by decide))
        have K9 : mK hr14 := K9.congr (pA_r14.row 185 (by decide)) (pA_r14.row 184 (by decide))
        have w_r14_56 : (hr14 137 56).toInt = (hJ 137 56).toInt := congrArg Int32.toInt (pA_r14.get 137 56 (by decide))
        have w_r14_70 : (hr14 137 70).toInt = (hJ 137 70).toInt := congrArg Int32.toInt (pA_r14.get 137 70 (by decide))
        have w_r14_58 : (hr14 137 58).toInt = (hJ 137 58).toInt := congrArg Int32.toInt (pA_r14.get 137 58 (by decide))
        have w_r14_25 : (hr14 137 25).toInt = (hJ 137 25).toInt := congrArg Int32.toInt (pA_r14.get 137 25 (by decide))
        have w_r14_27 : (hr14 137 27).toInt = (hJ 137 27).toInt := congrArg Int32.toInt (pA_r14.get 137 27 (by decide))
        have w_r14_83 : (hr14 137 83).toInt = (hJ 137 83).toInt := congrArg Int32.toInt (pA_r14.get 137 83 (by decide))
        have w_r14_2 : (hr14 137 2).toInt = (hJ 137 2).toInt := congrArg Int32.toInt (pA_r14.get 137 2 (by decide))
        obtain ⟨v15, ev15⟩ : ∃ y : Int32, y = x96_6 + 1 := ⟨_, rfl⟩
        refine lv_iinc (v := v15) (lv' := [(6, .int v15), (0, .ref (zB Z + 137)), (1, .int label), (2, .int width), (3, .int x96_3), (4, .int x96_4), (5, .int x96_5)]) hx hb dX12_field_168 hl (k := 6) rfl (by rw [ev15]; rfl) (by decide) rfl (fun ls hl => ?_)
        refine lv_goto (tgt := 96) hx hb dX12_field_171 (by decide) ?_
        have tv15 : v15.toInt = x96_6.toInt + 1 := by rw [ev15]; have z9 := pi_add (x := x96_6) (y := (1 : Int32)); rw [k_1] at z9; exact z9 (by omega)
        exact ih_96 x96_3 x96_4 x96_5 v15 _ _ _ _ V I (A.wk (by decide)) (lv_sub hl [1, 2, 3, 4, 5, 6, 0] rfl) (by omega) (by omega) (by omega) (show (h 137 56).toInt + (0) ≤ (hr14 137 56).toInt ∧ (hr14 137 56).toInt ≤ (h 137 56).toInt + (0) by omega) (show (h 137 70).toInt + (0) ≤ (hr14 137 70).toInt ∧ (hr14 137 70).toInt ≤ (h 137 70).toInt + (0) by omega) (show (h 137 58).toInt + (0) ≤ (hr14 137 58).toInt ∧ (hr14 137 58).toInt ≤ (h 137 58).toInt + (0) by omega) (show (h 137 25).toInt + (1) ≤ (hr14 137 25).toInt ∧ (hr14 137 25).toInt ≤ (h 137 25).toInt + (1) by omega) (show (h 137 27).toInt + (1) ≤ (hr14 137 27).toInt ∧ (hr14 137 27).toInt ≤ (h 137 27).toInt + (1) by omega) (show (h 137 83).toInt + (0) ≤ (hr14 137 83).toInt ∧ (hr14 137 83).toInt ≤ (h 137 83).toInt + (0) by omega) (show (h 137 2).toInt + (0) ≤ (hr14 137 2).toInt ∧ (hr14 137 2).toInt ≤ (h 137 2).toInt + (0) by omega) (by omega) (show (h 137 82).toInt ≤ (hr14 137 82).toInt ∧ (hr14 137 82).toInt ≤ (h 137 82).toInt + 1 + v15.toInt by omega) (E9.congr rfl rfl) (S9.congr rfl rfl rfl rfl rfl rfl rfl) (K9.congr rfl rfl) (by omega) 
  have J_91 : ∀ (x91_3 : Int32) (x91_4 : Int32) (y91_0 : Int32) (hJ : pH) (H : Heap) (locs : List Loc) (ls : Array Slot), pV Z hJ s.heap H locs → Iv Z hJ → agr [(137, 0), (137, 19), (137, 20), (137, 21), (137, 22), (137, 25), (137, 27), (137, 28), (137, 79), (137, 82), (143, 1000), (144, 1000), (171, 1000), (172, 1000), (173, 1000), (174, 1000), (175, 1000), (176, 1000), (177, 1000), (180, 1000), (181, 1000), (182, 1000), (183, 1000), (184, 1000), (185, 1000), (186, 1000)] h hJ → lv_has ls 7 [(0, .ref (zB Z + 137)), (1, .int label), (2, .int width), (3, .int x91_3), (4, .int x91_4)] → (-1 ≤ x91_4.toInt ∧ x91_4.toInt ≤ 39) → (0 ≤ y91_0.toInt ∧ y91_0.toInt ≤ 12) → ((h 137 56).toInt + (0) ≤ (hJ 137 56).toInt ∧ (hJ 137 56).toInt ≤ (h 137 56).toInt + (0)) → ((h 137 70).toInt + (0) ≤ (hJ 137 70).toInt ∧ (hJ 137 70).toInt ≤ (h 137 70).toInt + (0)) → ((h 137 58).toInt + (0) ≤ (hJ 137 58).toInt ∧ (hJ 137 58).toInt ≤ (h 137 58).toInt + (0)) → ((h 137 25).toInt + (1) ≤ (hJ 137 25).toInt ∧ (hJ 137 25).toInt ≤ (h 137 25).toInt + (1)) → ((h 137 27).toInt + (1) ≤ (hJ 137 27).toInt ∧ (hJ 137 27).toInt ≤ (h 137 27).toInt + (1)) → ((h 137 82).toInt + (0) ≤ (hJ 137 82).toInt ∧ (hJ 137 82).toInt ≤ (h 137 82).toInt + (1)) → ((h 137 83).toInt + (0) ≤ (hJ 137 83).toInt ∧ (hJ 137 83).toInt ≤ (h 137 83).toInt + (0)) → ((h 137 2).toInt + (0) ≤ (hJ 137 2).toInt ∧ (hJ 137 2).toInt ≤ (h 137 2).toInt + (0)) → (1 ≤ y91_0.toInt → 0 ≤ x91_4.toInt) → mE hJ → mS hJ → mK hJ → W p l e (pRm 4 0 0 99) s m ([.ref (zB Z + 137), .int label, .int width] : List Value).toArray below meth c H locs 0 0 (MQ below (pQi Z (fun r Z1 h1 => Z = Z1 ∧ Iv Z h1 ∧ agr [(137, 0), (137, 18), (137, 19), (137, 20), (137, 22), (137, 21), (137, 23), (137, 40), (137, 48), (137, 56), (137, 58), (137, 70), (137, 71), (153, 1000), (180, 1000), (172, 1000), (173, 1000), (171, 1000), (174, 1000), (175, 1000), (176, 1000), (177, 1000), (137, 25), (143, 1000), (137, 28), (137, 27), (144, 1000), (137, 82), (186, 1000), (137, 79), (181, 1000), (182, 1000), (184, 1000), (185, 1000), (183, 1000)] h h1 ∧ (mE h1) ∧ (mS h1) ∧ (mK h1) ∧ ((h 137 25).toInt + (0) ≤ (h1 137 25).toInt ∧ (h1 137 25).toInt ≤ (h 137 25).toInt + (1)) ∧ ((h 137 27).toInt + (0) ≤ (h1 137 27).toInt ∧ (h1 137 27).toInt ≤ (h 137 27).toInt + (1)) ∧ ((h 137 82).toInt + (0) ≤ (h1 137 82).toInt ∧ (h1 137 82).toInt ≤ (h 137 82).toInt + (13)))) ([.ref (zB Z + 137), .int label, .int width] : List Value).toArray s 0 0 (pA (zB Z))) (F0 m 91 ls [.int y91_0]) := by
    intro x91_3 x91_4 y91_0 hJ H locs ls V I A hl g_91_4 gs_91_0 gd_91_56 gd_91_70 gd_91_58 gd_91_25 gd_91_27 gd_91_82 gd_91_83 gd_91_2 e91 E9 S9 K9
    refine lv_istore (lv' := [(5, .int y91_0), (0, .ref (zB Z + 137)), (1, .int label), (2, .int width), (3, .int x91_3), (4, .int x91_4)]) hx hb dX12_field_91 hl (by decide) rfl (fun ls hl => ?_)
    refine lv_iconst (v := 0) hx hb dX12_field_93 (by decide) ?_
    refine lv_istore (lv' := [(6, .int (0 : Int32)), (5, .int y91_0), (0, .ref (zB Z + 137)), (1, .int label), (2, .int width), (3, .int x91_3), (4, .int x91_4)]) hx hb dX12_field_94 hl (by decide) rfl (fun ls hl => ?_)
    have k_0 : (0 : Int32).toInt = 0 := rfl
    exact J_96 _ x91_3 x91_4 y91_0 (0 : Int32) _ _ _ _ V I (A.wk (by decide)) (lv_sub hl [2, 3, 4, 5, 6, 1, 0] rfl) (by omega) (by omega) (by omega) (show (h 137 56).toInt + (0) ≤ (hJ 137 56).toInt ∧ (hJ 137 56).toInt ≤ (h 137 56).toInt + (0) by omega) (show (h 137 70).toInt + (0) ≤ (hJ 137 70).toInt ∧ (hJ 137 70).toInt ≤ (h 137 70).toInt + (0) by omega) (show (h 137 58).toInt + (0) ≤ (hJ 137 58).toInt ∧ (hJ 137 58).toInt ≤ (h 137 58).toInt + (0) by omega) (show (h 137 25).toInt + (1) ≤ (hJ 137 25).toInt ∧ (hJ 137 25).toInt ≤ (h 137 25).toInt + (1) by omega) (show (h 137 27).toInt + (1) ≤ (hJ 137 27).toInt ∧ (hJ 137 27).toInt ≤ (h 137 27).toInt + (1) by omega) (show (h 137 83).toInt + (0) ≤ (hJ 137 83).toInt ∧ (hJ 137 83).toInt ≤ (h 137 83).toInt + (0) by omega) (show (h 137 2).toInt + (0) ≤ (hJ 137 2).toInt ∧ (hJ 137 2).toInt ≤ (h 137 2).toInt + (0) by omega) (by omega) (show (h 137 82).toInt ≤ (hJ 137 82).toInt ∧ (hJ 137 82).toInt ≤ (h 137 82).toInt + 1 + (0 : Int32).toInt by omega) (E9.congr rfl rfl) (S9.congr rfl rfl rfl rfl rfl rfl rfl) (K9.congr rfl rfl) (Nat.lt_succ_self _) 
  have J_62 : ∀ (x62_3 : Int32) (hJ : pH) (H : Heap) (locs : List Loc) (ls : Array Slot), pV Z hJ s.heap H locs → Iv Z hJ → agr [(137, 0), (137, 19), (137, 20), (137, 21), (137, 22), (137, 25), (137, 27), (137, 28), (137, 79), (143, 1000), (144, 1000), (171, 1000), (172, 1000), (173, 1000), (174, 1000), (175, 1000), (176, 1000), (177, 1000), (180, 1000), (181, 1000), (182, 1000), (183, 1000), (184, 1000), (185, 1000)] h hJ → lv_has ls 7 [(0, .ref (zB Z + 137)), (1, .int label), (2, .int width), (3, .int x62_3)] → ((h 137 56).toInt + (0) ≤ (hJ 137 56).toInt ∧ (hJ 137 56).toInt ≤ (h 137 56).toInt + (0)) → ((h 137 70).toInt + (0) ≤ (hJ 137 70).toInt ∧ (hJ 137 70).toInt ≤ (h 137 70).toInt + (0)) → ((h 137 58).toInt + (0) ≤ (hJ 137 58).toInt ∧ (hJ 137 58).toInt ≤ (h 137 58).toInt + (0)) → ((h 137 25).toInt + (1) ≤ (hJ 137 25).toInt ∧ (hJ 137 25).toInt ≤ (h 137 25).toInt + (1)) → ((h 137 27).toInt + (1) ≤ (hJ 137 27).toInt ∧ (hJ 137 27).toInt ≤ (h 137 27).toInt + (1)) → ((h 137 82).toInt + (0) ≤ (hJ 137 82).toInt ∧ (hJ 137 82).toInt ≤ (h 137 82).toInt + (0)) → ((h 137 83).toInt + (0) ≤ (hJ 137 83).toInt ∧ (hJ 137 83).toInt ≤ (h 137 83).toInt + (0)) → ((h 137 2).toInt + (0) ≤ (hJ 137 2).toInt ∧ (hJ 137 2).toInt ≤ (h 137 2).toInt + (0)) → mE hJ → mS hJ → mK hJ → W p l e (pRm 4 0 0 99) s m ([.ref (zB Z + 137), .int label, .int width] : List Value).toArray below meth c H locs 0 0 (MQ below (pQi Z (fun r Z1 h1 => Z = Z1 ∧ Iv Z h1 ∧ agr [(137, 0), (137, 18), (137, 19), (137, 20), (137, 22), (137, 21), (137, 23), (137, 40), (137, 48), (137, 56), (137, 58), (137, 70), (137, 71), (153, 1000), (180, 1000), (172, 1000), (173, 1000), (171, 1000), (174, 1000), (175, 1000), (176, 1000), (177, 1000), (137, 25), (143, 1000), (137, 28), (137, 27), (144, 1000), (137, 82), (186, 1000), (137, 79), (181, 1000), (182, 1000), (184, 1000), (185, 1000), (183, 1000)] h h1 ∧ (mE h1) ∧ (mS h1) ∧ (mK h1) ∧ ((h 137 25).toInt + (0) ≤ (h1 137 25).toInt ∧ (h1 137 25).toInt ≤ (h 137 25).toInt + (1)) ∧ ((h 137 27).toInt + (0) ≤ (h1 137 27).toInt ∧ (h1 137 27).toInt ≤ (h 137 27).toInt + (1)) ∧ ((h 137 82).toInt + (0) ≤ (h1 137 82).toInt ∧ (h1 137 82).toInt ≤ (h 137 82).toInt + (13)))) ([.ref (zB Z + 137), .int label, .int width] : List Value).toArray s 0 0 (pA (zB Z))) (F0 m 62 ls []) := by
    intro x62_3 hJ H locs ls V I A hl gd_62_56 gd_62_70 gd_62_58 gd_62_25 gd_62_27 gd_62_82 gd_62_83 gd_62_2 E9 S9 K9
    refine lv_aload_n hx hb dX12_field_62 rfl (lv_at hl 0 rfl) ?_
    refine lv_iload_n hx hb dX12_field_63 rfl (lv_at hl 3 rfl) ?_
    refine pk_v (pr_V M V (m_X12_shape l S I x62_3 (show (hJ 137 82).toInt ≤ 6999 by omega)) km_X12_shape (sm_this S) pC12 lkM_X12_381 rfl hl.1 rfl (Nat.le_of_ble_eq_true rfl) ⟨Nat.le_of_ble_eq_true rfl, Nat.le_of_ble_eq_true rfl⟩ ⟨Nat.le_of_ble_eq_true rfl, Nat.le_of_ble_eq_true rfl⟩ dX12_field_64) V (fun Zr16 hr16 H locs pr16 _ _ V => ?_)
    obtain ⟨rfl, I, pA_r16, fr16_0⟩ := pr16
    have fr16_0 : (hJ 137 82).toInt + (0) ≤ (hr16 137 82).toInt ∧ (hr16 137 82).toInt ≤ (hJ 137 82).toInt + (1) := fr16_0
    have A := A.wk (l3 := [(137, 0), (137, 19), (137, 20), (137, 21), (137, 22), (137, 25), (137, 27), (137, 28), (137, 79), (143, 1000), (144, 1000), (171, 1000), (172, 1000), (173, 1000), (174, 1000), (175, 1000), (176, 1000), (177, 1000), (180, 1000), (181, 1000), (182, 1000), (183, 1000), (184, 1000), (185, 1000), (137, 82), (186, 1000)]) (by decide)
    have A := A.tr pA_r16 (by decide)
    have E9 : mE hr16 := E9.congr (pA_r16.get 137 2 (by decide)) (pA_r16.row 138 (by decide))
    have S9 : mS hr16 := S9.congr (pA_r16.get 137 56 (by decide)) (pA_r16.get 137 70 (by decide)) (pA_r16.get 137 58 (by decide)) (pA_r16.row 162 (by decide)) (pA_r16.row 163 (by decide)) (pA_r16.row 165 (by decide)) (pA_r16.row 166 (by decide))
    have K9 : mK hr16 := K9.congr (pA_r16.row 185 (by decide)) (pA_r16.row 184 (by decide))
    have w_r16_56 : (hr16 137 56).toInt = (hJ 137 56).toInt := congrArg Int32.toInt (pA_r16.get 137 56 (by decide))
    have w_r16_70 : (hr16 137 70).toInt = (hJ 137 70).toInt := congrArg Int32.toInt (pA_r16.get 137 70 (by decide))
    have w_r16_58 : (hr16 137 58).toInt = (hJ 137 58).toInt := congrArg Int32.toInt (pA_r16.get 137 58 (by decide))
    have w_r16_25 : (hr16 137 25).toInt = (hJ 137 25).toInt := congrArg Int32.toInt (pA_r16.get 137 25 (by decide))
    have w_r16_27 : (hr16 137 27).toInt = (hJ 137 27).toInt := congrArg Int32.toInt (pA_r16.get 137 27 (by decide))
    have w_r16_83 : (hr16 137 83).toInt = (hJ 137 83).toInt := congrArg Int32.toInt (pA_r16.get 137 83 (by decide))
    have w_r16_2 : (hr16 137 2).toInt = (hJ 137 2).toInt := congrArg Int32.toInt (pA_r16.get 137 2 (by decide))
    refine lv_aload_n hx hb dX12_field_67 rfl (lv_at hl 0 rfl) ?_
    refine lv_iload_n hx hb dX12_field_68 rfl (lv_at hl 3 rfl) ?_
    refine pk_i (pr_V M V (m_X12_find l S I x62_3 ) km_X12_find (sm_this S) pC12 lkM_X12_365 rfl hl.1 rfl (Nat.le_of_ble_eq_true rfl) ⟨Nat.le_of_ble_eq_true rfl, Nat.le_of_ble_eq_true rfl⟩ ⟨Nat.le_of_ble_eq_true rfl, Nat.le_of_ble_eq_true rfl⟩ dX12_field_69) V (fun r17 Zr17 hr17 H locs pr17 _ _ V => ?_)
    obtain ⟨rfl, I, pA_r17, fr17_0, fr17_1⟩ := pr17
    have A := A.tr pA_r17 (by decide)
    have E9 : mE hr17 := E9.congr (pA_r17.get 137 2 (by decide)) (pA_r17.row 138 (by decide))
    have S9 : mS hr17 := S9.congr (pA_r17.get 137 56 (by decide)) (pA_r17.get 137 70 (by decide)) (pA_r17.get 137 58 (by decide)) (pA_r17.row 162 (by decide)) (pA_r17.row 163 (by decide)) (pA_r17.row 165 (by decide)) (pA_r17.row 166 (by decide))
    have K9 : mK hr17 := K9.congr (pA_r17.row 185 (by decide)) (pA_r17.row 184 (by decide))
    have w_r17_56 : (hr17 137 56).toInt = (hr16 137 56).toInt := congrArg Int32.toInt (pA_r17.get 137 56 (by decide))
    have w_r17_70 : (hr17 137 70).toInt = (hr16 137 70).toInt := congrArg Int32.toInt (pA_r17.get 137 70 (by decide))
    have w_r17_58 : (hr17 137 58).toInt = (hr16 137 58).toInt := congrArg Int32.toInt (pA_r17.get 137 58 (by decide))
    have w_r17_25 : (hr17 137 25).toInt = (hr16 137 25).toInt := congrArg Int32.toInt (pA_r17.get 137 25 (by decide))
    have w_r17_27 : (hr17 137 27).toInt = (hr16 137 27).toInt := congrArg Int32.toInt (pA_r17.get 137 27 (by decide))
    have w_r17_82 : (hr17 137 82).toInt = (hr16 137 82).toInt := congrArg Int32.toInt (pA_r17.get 137 82 (by decide))
    have w_r17_83 : (hr17 137 83).toInt = (hr16 137 83).toInt := congrArg Int32.toInt (pA_r17.get 137 83 (by decide))
    have w_r17_2 : (hr17 137 2).toInt = (hr16 137 2).toInt := congrArg Int32.toInt (pA_r17.get 137 2 (by decide))
    refine lv_istore (lv' := [(4, .int r17), (0, .ref (zB Z + 137)), (1, .int label), (2, .int width), (3, .int x62_3)]) hx hb dX12_field_72 hl (by decide) rfl (fun ls hl => ?_)
    refine lv_iload hx hb dX12_field_74 (lv_at hl 0 rfl) ?_
    refine lv_iconst (v := (-1)) hx hb dX12_field_76 (by decide) ?_
    refine lv_icmp_ne (tgt := 84) hx hb dX12_field_77 (by decide) (fun c_77 => ?_) (fun c_77 => ?_)
    · skip
      have k_m1 : (-1 : Int32).toInt = -1 := rfl
      have c_77 := pi_ne c_77
      refine lv_aload_n hx hb dX12_field_84 rfl (lv_at hl 1 rfl) ?_
      refine pg_r M V 12 77 (sm_this S) pC12 fk12_77 (sm_keptSize S).2.2 lkF_X12_162 dX12_field_85 ?_
      refine lv_iload hx hb dX12_field_88 (lv_at hl 0 rfl) ?_
      refine pa_i M V (sm_keptSize S).1 (by rw [(sm_keptSize S).2.1]; exact pi_in (by omega)) dX12_field_90 ?_
      refine lv_topi (fun v18 ev18 => ?_)
      have tv18 : 0 ≤ v18.toInt ∧ v18.toInt ≤ 12 := by rw [ev18]; exact I.get (sm_keptSize S).1 _
      exact J_91 x62_3 r17 v18 _ _ _ _ V I (A.wk (by decide)) (lv_sub hl [1, 2, 3, 4, 0] rfl) (by omega) (by omega) (show (h 137 56).toInt + (0) ≤ (hr17 137 56).toInt ∧ (hr17 137 56).toInt ≤ (h 137 56).toInt + (0) by omega) (show (h 137 70).toInt + (0) ≤ (hr17 137 70).toInt ∧ (hr17 137 70).toInt ≤ (h 137 70).toInt + (0) by omega) (show (h 137 58).toInt + (0) ≤ (hr17 137 58).toInt ∧ (hr17 137 58).toInt ≤ (h 137 58).toInt + (0) by omega) (show (h 137 25).toInt + (1) ≤ (hr17 137 25).toInt ∧ (hr17 137 25).toInt ≤ (h 137 25).toInt + (1) by omega) (show (h 137 27).toInt + (1) ≤ (hr17 137 27).toInt ∧ (hr17 137 27).toInt ≤ (h 137 27).toInt + (1) by omega) (show (h 137 82).toInt + (0) ≤ (hr17 137 82).toInt ∧ (hr17 137 82).toInt ≤ (h 137 82).toInt + (1) by omega) (show (h 137 83).toInt + (0) ≤ (hr17 137 83).toInt ∧ (hr17 137 83).toInt ≤ (h 137 83).toInt + (0) by omega) (show (h 137 2).toInt + (0) ≤ (hr17 137 2).toInt ∧ (hr17 137 2).toInt ≤ (h 137 2).toInt + (0) by omega) (by omega) (E9.congr rfl rfl) (S9.congr rfl rfl rfl rfl rfl rfl rfl) (K9.congr rfl rfl) 
    · skip
      have k_m1 : (-1 : Int32).toInt = -1 := rfl
      have c_77 := pi_eq.mp c_77
      refine lv_iconst (v := 0) hx hb dX12_field_80 (by decide) ?_
      refine lv_goto (tgt := 91) hx hb dX12_field_81 (by decide) ?_
      have k_0 : (0 : Int32).toInt = 0 := rfl
      exact J_91 x62_3 r17 (0 : Int32) _ _ _ _ V I (A.wk (by decide)) (lv_sub hl [1, 2, 3, 4, 0] rfl) (by omega) (by omega) (show (h 137 56).toInt + (0) ≤ (hr17 137 56).toInt ∧ (hr17 137 56).toInt ≤ (h 137 56).toInt + (0) by omega) (show (h 137 70).toInt + (0) ≤ (hr17 137 70).toInt ∧ (hr17 137 70).toInt ≤ (h 137 70).toInt + (0) by omega) (show (h 137 58).toInt + (0) ≤ (hr17 137 58).toInt ∧ (hr17 137 58).toInt ≤ (h 137 58).toInt + (0) by omega) (show (h 137 25).toInt + (1) ≤ (hr17 137 25).toInt ∧ (hr17 137 25).toInt ≤ (h 137 25).toInt + (1) by omega) (show (h 137 27).toInt + (1) ≤ (hr17 137 27).toInt ∧ (hr17 137 27).toInt ≤ (h 137 27).toInt + (1) by omega) (show (h 137 82).toInt + (0) ≤ (hr17 137 82).toInt ∧ (hr17 137 82).toInt ≤ (h 137 82).toInt + (1) by omega) (show (h 137 83).toInt + (0) ≤ (hr17 137 83).toInt ∧ (hr17 137 83).toInt ≤ (h 137 83).toInt + (0) by omega) (show (h 137 2).toInt + (0) ≤ (hr17 137 2).toInt ∧ (hr17 137 2).toInt ≤ (h 137 2).toInt + (0) by omega) (by omega) (E9.congr rfl rfl) (S9.congr rfl rfl rfl rfl rfl rfl rfl) (K9.congr rfl rfl) 
  have J_26 : ∀ (y26_0 : Int32) (hJ : pH) (H : Heap) (locs : List Loc) (ls : Array Slot), pV Z hJ s.heap H locs → Iv Z hJ → agr [] h hJ → lv_has ls 7 [(0, .ref (zB Z + 137)), (1, .int label), (2, .int width)] → (0 ≤ y26_0.toInt ∧ y26_0.toInt ≤ 1) → ((h 137 56).toInt + (0) ≤ (hJ 137 56).toInt ∧ (hJ 137 56).toInt ≤ (h 137 56).toInt + (0)) → ((h 137 70).toInt + (0) ≤ (hJ 137 70).toInt ∧ (hJ 137 70).toInt ≤ (h 137 70).toInt + (0)) → ((h 137 58).toInt + (0) ≤ (hJ 137 58).toInt ∧ (hJ 137 58).toInt ≤ (h 137 58).toInt + (0)) → ((h 137 25).toInt + (0) ≤ (hJ 137 25).toInt ∧ (hJ 137 25).toInt ≤ (h 137 25).toInt + (0)) → ((h 137 27).toInt + (0) ≤ (hJ 137 27).toInt ∧ (hJ 137 27).toInt ≤ (h 137 27).toInt + (0)) → ((h 137 82).toInt + (0) ≤ (hJ 137 82).toInt ∧ (hJ 137 82).toInt ≤ (h 137 82).toInt + (0)) → ((h 137 83).toInt + (0) ≤ (hJ 137 83).toInt ∧ (hJ 137 83).toInt ≤ (h 137 83).toInt + (0)) → ((h 137 2).toInt + (0) ≤ (hJ 137 2).toInt ∧ (hJ 137 2).toInt ≤ (h 137 2).toInt + (0)) → (y26_0.toInt = 1 → 0 ≤ label.toInt ∧ label.toInt ≤ 999 ∧ 1 ≤ width.toInt ∧ width.toInt ≤ 200) → mE hJ → mS hJ → mK hJ → W p l e (pRm 4 0 0 99) s m ([.ref (zB Z + 137), .int label, .int width] : List Value).toArray below meth c H locs 0 0 (MQ below (pQi Z (fun r Z1 h1 => Z = Z1 ∧ Iv Z h1 ∧ agr [(137, 0), (137, 18), (137, 19), (137, 20), (137, 22), (137, 21), (137, 23), (137, 40), (137, 48), (137, 56), (137, 58), (137, 70), (137, 71), (153, 1000), (180, 1000), (172, 1000), (173, 1000), (171, 1000), (174, 1000), (175, 1000), (176, 1000), (177, 1000), (137, 25), (143, 1000), (137, 28), (137, 27), (144, 1000), (137, 82), (186, 1000), (137, 79), (181, 1000), (182, 1000), (184, 1000), (185, 1000), (183, 1000)] h h1 ∧ (mE h1) ∧ (mS h1) ∧ (mK h1) ∧ ((h 137 25).toInt + (0) ≤ (h1 137 25).toInt ∧ (h1 137 25).toInt ≤ (h 137 25).toInt + (1)) ∧ ((h 137 27).toInt + (0) ≤ (h1 137 27).toInt ∧ (h1 137 27).toInt ≤ (h 137 27).toInt + (1)) ∧ ((h 137 82).toInt + (0) ≤ (h1 137 82).toInt ∧ (h1 137 82).toInt ≤ (h 137 82).toInt + (13)))) ([.ref (zB Z + 137), .int label, .int width] : List Value).toArray s 0 0 (pA (zB Z))) (F0 m 26 ls [.int y26_0, .ref (zB Z + 137)]) := by
    intro y26_0 hJ H locs ls V I A hl gs_26_0 gd_26_56 gd_26_70 gd_26_58 gd_26_25 gd_26_27 gd_26_82 gd_26_83 gd_26_2 eb E9 S9 K9
    refine pk_i (pr_V M V (m_X12_bars l S I y26_0 (by omega)) km_X12_bars (sm_this S) pC12 lkM_X12_371 rfl hl.1 rfl (Nat.le_of_ble_eq_true rfl) ⟨Nat.le_of_ble_eq_true rfl, Nat.le_of_ble_eq_true rfl⟩ ⟨Nat.le_of_ble_eq_true rfl, Nat.le_of_ble_eq_true rfl⟩ dX12_field_26) V (fun r19 Zr19 hr19 H locs pr19 _ _ V => ?_)
    obtain ⟨rfl, I, pA_r19, fr19_0, fr19_1, fr19_2⟩ := pr19
    refine lv_if_eq (tgt := 34) hx hb dX12_field_29 (by decide) (fun c_29 => ?_) (fun c_29 => ?_)
    · skip
      have k_0 : (0 : Int32).toInt = 0 := rfl
      have c_29 := pi_eq.mp c_29
      have b_r19 := fr19_1 (by omega)
      have pB_r19 := b_r19.2.2
      have g_r19 := b_r19.1
      have a_r19 : 1 ≤ (hJ 137 70).toInt := b_r19.2.1
      have A := A.wk (l3 := [(137, 0)]) (by decide)
      have A := A.tr pB_r19 (by decide)
      have E9 : mE hr19 := E9.congr (pB_r19.get 137 2 (by decide)) (pB_r19.row 138 (by decide))
      have S9 : mS hr19 := S9.congr (pB_r19.get 137 56 (by decide)) (pB_r19.get 137 70 (by decide)) (pB_r19.get 137 58 (by decide)) (pB_r19.row 162 (by decide)) (pB_r19.row 163 (by decide)) (pB_r19.row 165 (by decide)) (pB_r19.row 166 (by decide))
      have K9 : mK hr19 := K9.congr (pB_r19.row 185 (by decide)) (pB_r19.row 184 (by decide))
      have w_r19_56 : (hr19 137 56).toInt = (hJ 137 56).toInt := congrArg Int32.toInt (pB_r19.get 137 56 (by decide))
      have w_r19_70 : (hr19 137 70).toInt = (hJ 137 70).toInt := congrArg Int32.toInt (pB_r19.get 137 70 (by decide))
      have w_r19_58 : (hr19 137 58).toInt = (hJ 137 58).toInt := congrArg Int32.toInt (pB_r19.get 137 58 (by decide))
      have w_r19_25 : (hr19 137 25).toInt = (hJ 137 25).toInt := congrArg Int32.toInt (pB_r19.get 137 25 (by decide))
      have w_r19_27 : (hr19 137 27).toInt = (hJ 137 27).toInt := congrArg Int32.toInt (pB_r19.get 137 27 (by decide))
      have w_r19_82 : (hr19 137 82).toInt = (hJ 137 82).toInt := congrArg Int32.toInt (pB_r19.get 137 82 (by decide))
      have w_r19_83 : (hr19 137 83).toInt = (hJ 137 83).toInt := congrArg Int32.toInt (pB_r19.get 137 83 (by decide))
      have w_r19_2 : (hr19 137 2).toInt = (hJ 137 2).toInt := congrArg Int32.toInt (pB_r19.get 137 2 (by decide))
      refine lv_aload_n hx hb dX12_field_34 rfl (lv_at hl 0 rfl) ?_
      refine lv_iload_n hx hb dX12_field_35 rfl (lv_at hl 1 rfl) ?_
      refine lv_iload_n hx hb dX12_field_36 rfl (lv_at hl 2 rfl) ?_
      refine lv_bipush (v := 12) hx hb dX12_field_37 (by decide) ?_
      refine pk_i (pr_V M V (m_X12_lay l S I label width (12 : Int32) (show 1 ≤ (hr19 137 58).toInt by omega) (show 1 ≤ (hr19 137 70).toInt by omega) (show (hr19 137 25).toInt ≤ 599 by omega)) km_X12_lay (sm_this S) pC12 lkM_X12_375 rfl hl.1 rfl (Nat.le_of_ble_eq_true rfl) ⟨Nat.le_of_ble_eq_true rfl, Nat.le_of_ble_eq_true rfl⟩ ⟨Nat.le_of_ble_eq_true rfl, Nat.le_of_ble_eq_true rfl⟩ dX12_field_39) V (fun r20 Zr20 hr20 H locs pr20 _ _ V => ?_)
      obtain ⟨rfl, I, pA_r20, fr20_0⟩ := pr20
      have fr20_0 : (hr19 137 25).toInt + (1) ≤ (hr20 137 25).toInt ∧ (hr20 137 25).toInt ≤ (hr19 137 25).toInt + (1) := fr20_0
      have A := A.wk (l3 := [(137, 0), (180, 1000), (172, 1000), (173, 1000), (171, 1000), (174, 1000), (175, 1000), (176, 1000), (177, 1000), (137, 25), (143, 1000)]) (by decide)
      have A := A.tr pA_r20 (by decide)
      have E9 : mE hr20 := E9.congr (pA_r20.get 137 2 (by decide)) (pA_r20.row 138 (by decide))
      have S9 : mS hr20 := S9.congr (pA_r20.get 137 56 (by decide)) (pA_r20.get 137 70 (by decide)) (pA_r20.get 137 58 (by decide)) (pA_r20.row 162 (by decide)) (pA_r20.row 163 (by decide)) (pA_r20.row 165 (by decide)) (pA_r20.row 166 (by decide))
      have K9 : mK hr20 := K9.congr (pA_r20.row 185 (by decide)) (pA_r20.row 184 (by decide))
      have w_r20_56 : (hr20 137 56).toInt = (hr19 137 56).toInt := congrArg Int32.toInt (pA_r20.get 137 56 (by decide))
      have w_r20_70 : (hr20 137 70).toInt = (hr19 137 70).toInt := congrArg Int32.toInt (pA_r20.get 137 70 (by decide))
      have w_r20_58 : (hr20 137 58).toInt = (hr19 137 58).toInt := congrArg Int32.toInt (pA_r20.get 137 58 (by decide))
      have w_r20_27 : (hr20 137 27).toInt = (hr19 137 27).toInt := congrArg Int32.toInt (pA_r20.get 137 27 (by decide))
      have w_r20_82 : (hr20 137 82).toInt = (hr19 137 82).toInt := congrArg Int32.toInt (pA_r20.get 137 82 (by decide))
      have w_r20_83 : (hr20 137 83).toInt = (hr19 137 83).toInt := congrArg Int32.toInt (pA_r20.get 137 83 (by decide))
      have w_r20_2 : (hr20 137 2).toInt = (hr19 137 2).toInt := congrArg Int32.toInt (pA_r20.get 137 2 (by decide))
      refine lv_istore_n (lv' := [(3, .int r20), (0, .ref (zB Z + 137)), (1, .int label), (2, .int width)]) hx hb dX12_field_42 rfl hl (by decide) rfl (fun ls hl => ?_)
      refine lv_aload_n hx hb dX12_field_43 rfl (lv_at hl 1 rfl) ?_
      refine lv_iload_n hx hb dX12_field_44 rfl (lv_at hl 0 rfl) ?_
      refine pk_i (pr_V M V (m_X12_behaves l S I r20 (show (hr20 137 27).toInt ≤ 599 by omega)) km_X12_behaves (sm_this S) pC12 lkM_X12_378 rfl hl.1 rfl (Nat.le_of_ble_eq_true rfl) ⟨Nat.le_of_ble_eq_true rfl, Nat.le_of_ble_eq_true rfl⟩ ⟨Nat.le_of_ble_eq_true rfl, Nat.le_of_ble_eq_true rfl⟩ dX12_field_45) V (fun r21 Zr21 hr21 H locs pr21 _ _ V => ?_)
      obtain ⟨rfl, I, pA_r21, fr21_0, fr21_1⟩ := pr21
      have fr21_1 : (hr20 137 27).toInt + (1) ≤ (hr21 137 27).toInt ∧ (hr21 137 27).toInt ≤ (hr20 137 27).toInt + (1) := fr21_1
      have A := A.wk (l3 := [(137, 0), (180, 1000), (172, 1000), (173, 1000), (171, 1000), (174, 1000), (175, 1000), (176, 1000), (177, 1000), (137, 25), (143, 1000), (137, 20), (137, 21), (137, 22), (137, 28), (137, 27), (144, 1000), (137, 19)]) (by decide)
      have A := A.tr pA_r21 (by decide)
      have E9 : mE hr21 := E9.congr (pA_r21.get 137 2 (by decide)) (pA_r21.row 138 (by decide))
      have S9 : mS hr21 := S9.congr (pA_r21.get 137 56 (by decide)) (pA_r21.get 137 70 (by decide)) (pA_r21.get 137 58 (by decide)) (pA_r21.row 162 (by decide)) (pA_r21.row 163 (by decide)) (pA_r21.row 165 (by decide)) (pA_r21.row 166 (by decide))
      have K9 : mK hr21 := K9.congr (pA_r21.row 185 (by decide)) (pA_r21.row 184 (by decide))
      have w_r21_56 : (hr21 137 56).toInt = (hr20 137 56).toInt := congrArg Int32.toInt (pA_r21.get 137 56 (by decide))
      have w_r21_70 : (hr21 137 70).toInt = (hr20 137 70).toInt := congrArg Int32.toInt (pA_r21.get 137 70 (by decide))
      have w_r21_58 : (hr21 137 58).toInt = (hr20 137 58).toInt := congrArg Int32.toInt (pA_r21.get 137 58 (by decide))
      have w_r21_25 : (hr21 137 25).toInt = (hr20 137 25).toInt := congrArg Int32.toInt (pA_r21.get 137 25 (by decide))
      have w_r21_82 : (hr21 137 82).toInt = (hr20 137 82).toInt := congrArg Int32.toInt (pA_r21.get 137 82 (by decide))
      have w_r21_83 : (hr21 137 83).toInt = (hr20 137 83).toInt := congrArg Int32.toInt (pA_r21.get 137 83 (by decide))
      have w_r21_2 : (hr21 137 2).toInt = (hr20 137 2).toInt := congrArg Int32.toInt (pA_r21.get 137 2 (by decide))
      refine lv_pop hx hb dX12_field_48 rfl ?_
      refine lv_aload_n hx hb dX12_field_49 rfl (lv_at hl 1 rfl) ?_
      refine pg_i M V 12 21 (sm_this S) pC12 fk12_21 lkF_X12_294 dX12_field_50 ?_
      refine lv_topi (fun v22 ev22 => ?_)
      refine lv_iload_n hx hb dX12_field_53 rfl (lv_at hl 0 rfl) ?_
      refine lv_icmp_ne (tgt := 62) hx hb dX12_field_54 (by decide) (fun c_54 => ?_) (fun c_54 => ?_)
      · skip
        have c_54 := pi_ne c_54
        exact J_62 r20 _ _ _ _ V I (A.wk (by decide)) (lv_sub hl [1, 2, 3, 0] rfl) (show (h 137 56).toInt + (0) ≤ (hr21 137 56).toInt ∧ (hr21 137 56).toInt ≤ (h 137 56).toInt + (0) by omega) (show (h 137 70).toInt + (0) ≤ (hr21 137 70).toInt ∧ (hr21 137 70).toInt ≤ (h 137 70).toInt + (0) by omega) (show (h 137 58).toInt + (0) ≤ (hr21 137 58).toInt ∧ (hr21 137 58).toInt ≤ (h 137 58).toInt + (0) by omega) (show (h 137 25).toInt + (1) ≤ (hr21 137 25).toInt ∧ (hr21 137 25).toInt ≤ (h 137 25).toInt + (1) by omega) (show (h 137 27).toInt + (1) ≤ (hr21 137 27).toInt ∧ (hr21 137 27).toInt ≤ (h 137 27).toInt + (1) by omega) (show (h 137 82).toInt + (0) ≤ (hr21 137 82).toInt ∧ (hr21 137 82).toInt ≤ (h 137 82).toInt + (0) by omega) (show (h 137 83).toInt + (0) ≤ (hr21 137 83).toInt ∧ (hr21 137 83).toInt ≤ (h 137 83).toInt + (0) by omega) (show (h 137 2).toInt + (0) ≤ (hr21 137 2).toInt ∧ (hr21 137 2).toInt ≤ (h 137 2).toInt + (0) by omega) (E9.congr rfl rfl) (S9.congr rfl rfl rfl rfl rfl rfl rfl) (K9.congr rfl rfl) 
      · skip
        have c_54 := pi_eq.mp c_54
        refine lv_aload_n hx hb dX12_field_57 rfl (lv_at hl 1 rfl) ?_
        refine lv_iload_n hx hb dX12_field_58 rfl (lv_at hl 0 rfl) ?_
        refine pk_v (pr_V M V (m_X12_edit l S I r20 (K9.congr rfl rfl)) km_X12_edit (sm_this S) pC12 lkM_X12_394 rfl hl.1 rfl (Nat.le_of_ble_eq_true rfl) ⟨Nat.le_of_ble_eq_true rfl, Nat.le_of_ble_eq_true rfl⟩ ⟨Nat.le_of_ble_eq_true rfl, Nat.le_of_ble_eq_true rfl⟩ dX12_field_59) V (fun Zr23 hr23 H locs pr23 _ _ V => ?_)
        obtain ⟨rfl, I, pA_r23, fr23_0⟩ := pr23
        have A := A.wk (l3 := [(137, 0), (180, 1000), (172, 1000), (173, 1000), (171, 1000), (174, 1000), (175, 1000), (176, 1000), (177, 1000), (137, 25), (143, 1000), (137, 20), (137, 21), (137, 22), (137, 28), (137, 27), (144, 1000), (137, 19), (137, 79), (181, 1000), (182, 1000), (184, 1000), (185, 1000), (183, 1000)]) (by decide)
        have A := A.tr pA_r23 (by decide)
        have E9 : mE hr23 := E9.congr (pA_r23.get 137 2 (by decide)) (pA_r23.row 138 (by decide))
        have S9 : mS hr23 := S9.congr (pA_r23.get 137 56 (by decide)) (pA_r23.get 137 70 (by decide)) (pA_r23.get 137 58 (by decide)) (pA_r23.row 162 (by decide)) (pA_r23.row 163 (by decide)) (pA_r23.row 165 (by decide)) (pA_r23.row 166 (by decide))
        have K9 : mK hr23 := fr23_0
        have w_r23_56 : (hr23 137 56).toInt = (hr21 137 56).toInt := congrArg Int32.toInt (pA_r23.get 137 56 (by decide))
        have w_r23_70 : (hr23 137 70).toInt = (hr21 137 70).toInt := congrArg Int32.toInt (pA_r23.get 137 70 (by decide))
        have w_r23_58 : (hr23 137 58).toInt = (hr21 137 58).toInt := congrArg Int32.toInt (pA_r23.get 137 58 (by decide))
        have w_r23_25 : (hr23 137 25).toInt = (hr21 137 25).toInt := congrArg Int32.toInt (pA_r23.get 137 25 (by decide))
        have w_r23_27 : (hr23 137 27).toInt = (hr21 137 27).toInt := congrArg Int32.toInt (pA_r23.get 137 27 (by decide))
        have w_r23_82 : (hr23 137 82).toInt = (hr21 137 82).toInt := congrArg Int32.toInt (pA_r23.get 137 82 (by decide))
        have w_r23_83 : (hr23 137 83).toInt = (hr21 137 83).toInt := congrArg Int32.toInt (pA_r23.get 137 83 (by decide))
        have w_r23_2 : (hr23 137 2).toInt = (hr21 137 2).toInt := congrArg Int32.toInt (pA_r23.get 137 2 (by decide))
        exact J_62 r20 _ _ _ _ V I (A.wk (by decide)) (lv_sub hl [1, 2, 3, 0] rfl) (show (h 137 56).toInt + (0) ≤ (hr23 137 56).toInt ∧ (hr23 137 56).toInt ≤ (h 137 56).toInt + (0) by omega) (show (h 137 70).toInt + (0) ≤ (hr23 137 70).toInt ∧ (hr23 137 70).toInt ≤ (h 137 70).toInt + (0) by omega) (show (h 137 58).toInt + (0) ≤ (hr23 137 58).toInt ∧ (hr23 137 58).toInt ≤ (h 137 58).toInt + (0) by omega) (show (h 137 25).toInt + (1) ≤ (hr23 137 25).toInt ∧ (hr23 137 25).toInt ≤ (h 137 25).toInt + (1) by omega) (show (h 137 27).toInt + (1) ≤ (hr23 137 27).toInt ∧ (hr23 137 27).toInt ≤ (h 137 27).toInt + (1) by omega) (show (h 137 82).toInt + (0) ≤ (hr23 137 82).toInt ∧ (hr23 137 82).toInt ≤ (h 137 82).toInt + (0) by omega) (show (h 137 83).toInt + (0) ≤ (hr23 137 83).toInt ∧ (hr23 137 83).toInt ≤ (h 137 83).toInt + (0) by omega) (show (h 137 2).toInt + (0) ≤ (hr23 137 2).toInt ∧ (hr23 137 2).toInt ≤ (h 137 2).toInt + (0) by omega) (E9.congr rfl rfl) (S9.congr rfl rfl rfl rfl rfl rfl rfl) (K9.congr rfl rfl) 
    · skip
      have k_0 : (0 : Int32).toInt = 0 := rfl
      have c_29 := pi_ne c_29
      have A := A.wk (l3 := [(137, 0), (137, 18), (137, 19), (137, 20), (137, 22), (137, 21), (137, 23), (137, 40), (137, 48), (137, 56), (137, 58), (137, 70), (137, 71), (153, 1000)]) (by decide)
      have A := A.tr pA_r19 (by decide)
      have E9 : mE hr19 := E9.congr (pA_r19.get 137 2 (by decide)) (pA_r19.row 138 (by decide))
      have S9 : mS hr19 := fr19_2 (S9.congr rfl rfl rfl rfl rfl rfl rfl)
      have K9 : mK hr19 := K9.congr (pA_r19.row 185 (by decide)) (pA_r19.row 184 (by decide))
      have w_r19_25 : (hr19 137 25).toInt = (hJ 137 25).toInt := congrArg Int32.toInt (pA_r19.get 137 25 (by decide))
      have w_r19_27 : (hr19 137 27).toInt = (hJ 137 27).toInt := congrArg Int32.toInt (pA_r19.get 137 27 (by decide))
      have w_r19_82 : (hr19 137 82).toInt = (hJ 137 82).toInt := congrArg Int32.toInt (pA_r19.get 137 82 (by decide))
      have w_r19_83 : (hr19 137 83).toInt = (hJ 137 83).toInt := congrArg Int32.toInt (pA_r19.get 137 83 (by decide))
      have w_r19_2 : (hr19 137 2).toInt = (hJ 137 2).toInt := congrArg Int32.toInt (pA_r19.get 137 2 (by decide))
      refine lv_iconst (v := 0) hx hb dX12_field_32 (by decide) ?_
      exact pe_i M V rfl rfl hr hlk rfl ⟨rfl, I, A.wk (by decide), (E9.congr rfl rfl), (S9.congr rfl rfl rfl rfl rfl rfl rfl), (K9.congr rfl rfl), (show (h 137 25).toInt + (0) ≤ (hr19 137 25).toInt ∧ (hr19 137 25).toInt ≤ (h 137 25).toInt + (1) by omega), (show (h 137 27).toInt + (0) ≤ (hr19 137 27).toInt ∧ (hr19 137 27).toInt ≤ (h 137 27).toInt + (1) by omega), (show (h 137 82).toInt + (0) ≤ (hr19 137 82).toInt ∧ (hr19 137 82).toInt ≤ (h 137 82).toInt + (13) by omega)⟩ ⟨Nat.le_refl _, Nat.le_refl _⟩ dX12_field_33
  have J_25 : ∀ (hJ : pH) (H : Heap) (locs : List Loc) (ls : Array Slot), pV Z hJ s.heap H locs → Iv Z hJ → agr [] h hJ → lv_has ls 7 [(0, .ref (zB Z + 137)), (1, .int label), (2, .int width)] → ((h 137 56).toInt + (0) ≤ (hJ 137 56).toInt ∧ (hJ 137 56).toInt ≤ (h 137 56).toInt + (0)) → ((h 137 70).toInt + (0) ≤ (hJ 137 70).toInt ∧ (hJ 137 70).toInt ≤ (h 137 70).toInt + (0)) → ((h 137 58).toInt + (0) ≤ (hJ 137 58).toInt ∧ (hJ 137 58).toInt ≤ (h 137 58).toInt + (0)) → ((h 137 25).toInt + (0) ≤ (hJ 137 25).toInt ∧ (hJ 137 25).toInt ≤ (h 137 25).toInt + (0)) → ((h 137 27).toInt + (0) ≤ (hJ 137 27).toInt ∧ (hJ 137 27).toInt ≤ (h 137 27).toInt + (0)) → ((h 137 82).toInt + (0) ≤ (hJ 137 82).toInt ∧ (hJ 137 82).toInt ≤ (h 137 82).toInt + (0)) → ((h 137 83).toInt + (0) ≤ (hJ 137 83).toInt ∧ (hJ 137 83).toInt ≤ (h 137 83).toInt + (0)) → ((h 137 2).toInt + (0) ≤ (hJ 137 2).toInt ∧ (hJ 137 2).toInt ≤ (h 137 2).toInt + (0)) → mE hJ → mS hJ → mK hJ → W p l e (pRm 4 0 0 99) s m ([.ref (zB Z + 137), .int label, .int width] : List Value).toArray below meth c H locs 0 0 (MQ below (pQi Z (fun r Z1 h1 => Z = Z1 ∧ Iv Z h1 ∧ agr [(137, 0), (137, 18), (137, 19), (137, 20), (137, 22), (137, 21), (137, 23), (137, 40), (137, 48), (137, 56), (137, 58), (137, 70), (137, 71), (153, 1000), (180, 1000), (172, 1000), (173, 1000), (171, 1000), (174, 1000), (175, 1000), (176, 1000), (177, 1000), (137, 25), (143, 1000), (137, 28), (137, 27), (144, 1000), (137, 82), (186, 1000), (137, 79), (181, 1000), (182, 1000), (184, 1000), (185, 1000), (183, 1000)] h h1 ∧ (mE h1) ∧ (mS h1) ∧ (mK h1) ∧ ((h 137 25).toInt + (0) ≤ (h1 137 25).toInt ∧ (h1 137 25).toInt ≤ (h 137 25).toInt + (1)) ∧ ((h 137 27).toInt + (0) ≤ (h1 137 27).toInt ∧ (h1 137 27).toInt ≤ (h 137 27).toInt + (1)) ∧ ((h 137 82).toInt + (0) ≤ (h1 137 82).toInt ∧ (h1 137 82).toInt ≤ (h 137 82).toInt + (13)))) ([.ref (zB Z + 137), .int label, .int width] : List Value).toArray s 0 0 (pA (zB Z))) (F0 m 25 ls [.ref (zB Z + 137)]) := by
    intro hJ H locs ls V I A hl gd_25_56 gd_25_70 gd_25_58 gd_25_25 gd_25_27 gd_25_82 gd_25_83 gd_25_2 E9 S9 K9
    refine lv_iconst (v := 0) hx hb dX12_field_25 (by decide) ?_
    have k_0 : (0 : Int32).toInt = 0 := rfl
    exact J_26 (0 : Int32) _ _ _ _ V I (A.wk (by decide)) (lv_sub hl [0, 1, 2] rfl) (by omega) (show (h 137 56).toInt + (0) ≤ (hJ 137 56).toInt ∧ (hJ 137 56).toInt ≤ (h 137 56).toInt + (0) by omega) (show (h 137 70).toInt + (0) ≤ (hJ 137 70).toInt ∧ (hJ 137 70).toInt ≤ (h 137 70).toInt + (0) by omega) (show (h 137 58).toInt + (0) ≤ (hJ 137 58).toInt ∧ (hJ 137 58).toInt ≤ (h 137 58).toInt + (0) by omega) (show (h 137 25).toInt + (0) ≤ (hJ 137 25).toInt ∧ (hJ 137 25).toInt ≤ (h 137 25).toInt + (0) by omega) (show (h 137 27).toInt + (0) ≤ (hJ 137 27).toInt ∧ (hJ 137 27).toInt ≤ (h 137 27).toInt + (0) by omega) (show (h 137 82).toInt + (0) ≤ (hJ 137 82).toInt ∧ (hJ 137 82).toInt ≤ (h 137 82).toInt + (0) by omega) (show (h 137 83).toInt + (0) ≤ (hJ 137 83).toInt ∧ (hJ 137 83).toInt ≤ (h 137 83).toInt + (0) by omega) (show (h 137 2).toInt + (0) ≤ (hJ 137 2).toInt ∧ (hJ 137 2).toInt ≤ (h 137 2).toInt + (0) by omega) (by omega) (E9.congr rfl rfl) (S9.congr rfl rfl rfl rfl rfl rfl rfl) (K9.congr rfl rfl) 
  refine lv_aload_n hx hb dX12_field_0 rfl (lv_at hl 0 rfl) ?_
  refine lv_aload_n hx hb dX12_field_1 rfl (lv_at hl 0 rfl) ?_
  refine lv_iload_n hx hb dX12_field_2 rfl (lv_at hl 1 rfl) ?_
  refine pk_i (pr_V M V (m_X12_isLabel l S I label) km_X12_isLabel (sm_this S) pC12 lkM_X12_343 rfl hl.1 rfl (Nat.le_of_ble_eq_true rfl) ⟨Nat.le_of_ble_eq_true rfl, Nat.le_of_ble_eq_true rfl⟩ ⟨Nat.le_of_ble_eq_true rfl, Nat.le_of_ble_eq_true rfl⟩ dX12_field_3) V (fun r24 Zr24 hr24 H locs pr24 _ _ V => ?_)
  obtain ⟨rfl, rfl, fr24_0⟩ := pr24
  refine lv_if_eq (tgt := 25) hx hb dX12_field_6 (by decide) (fun c_6 => ?_) (fun c_6 => ?_)
  · skip
    have k_0 : (0 : Int32).toInt = 0 := rfl
    have c_6 := pi_eq.mp c_6
    exact J_25 _ _ _ _ V I (A.wk (by decide)) (lv_sub hl [0, 1, 2] rfl) (show (h 137 56).toInt + (0) ≤ (h 137 56).toInt ∧ (h 137 56).toInt ≤ (h 137 56).toInt + (0) by omega) (show (h 137 70).toInt + (0) ≤ (h 137 70).toInt ∧ (h 137 70).toInt ≤ (h 137 70).toInt + (0) by omega) (show (h 137 58).toInt + (0) ≤ (h 137 58).toInt ∧ (h 137 58).toInt ≤ (h 137 58).toInt + (0) by omega) (show (h 137 25).toInt + (0) ≤ (h 137 25).toInt ∧ (h 137 25).toInt ≤ (h 137 25).toInt + (0) by omega) (show (h 137 27).toInt + (0) ≤ (h 137 27).toInt ∧ (h 137 27).toInt ≤ (h 137 27).toInt + (0) by omega) (show (h 137 82).toInt + (0) ≤ (h 137 82).toInt ∧ (h 137 82).toInt ≤ (h 137 82).toInt + (0) by omega) (show (h 137 83).toInt + (0) ≤ (h 137 83).toInt ∧ (h 137 83).toInt ≤ (h 137 83).toInt + (0) by omega) (show (h 137 2).toInt + (0) ≤ (h 137 2).toInt ∧ (h 137 2).toInt ≤ (h 137 2).toInt + (0) by omega) (E9.congr rfl rfl) (S9.congr rfl rfl rfl rfl rfl rfl rfl) (K9.congr rfl rfl) 
  · skip
    have k_0 : (0 : Int32).toInt = 0 := rfl
    have c_6 := pi_ne c_6
    refine lv_iload_n hx hb dX12_field_9 rfl (lv_at hl 2 rfl) ?_
    refine lv_iconst (v := 1) hx hb dX12_field_10 (by decide) ?_
    refine lv_icmp_lt (tgt := 25) hx hb dX12_field_11 (by decide) (fun c_11 => ?_) (fun c_11 => ?_)
    · skip
      have k_1 : (1 : Int32).toInt = 1 := rfl
      have c_11 := pi_lt.mp c_11
      exact J_25 _ _ _ _ V I (A.wk (by decide)) (lv_sub hl [0, 1, 2] rfl) (show (h 137 56).toInt + (0) ≤ (h 137 56).toInt ∧ (h 137 56).toInt ≤ (h 137 56).toInt + (0) by omega) (show (h 137 70).toInt + (0) ≤ (h 137 70).toInt ∧ (h 137 70).toInt ≤ (h 137 70).toInt + (0) by omega) (show (h 137 58).toInt + (0) ≤ (h 137 58).toInt ∧ (h 137 58).toInt ≤ (h 137 58).toInt + (0) by omega) (show (h 137 25).toInt + (0) ≤ (h 137 25).toInt ∧ (h 137 25).toInt ≤ (h 137 25).toInt + (0) by omega) (show (h 137 27).toInt + (0) ≤ (h 137 27).toInt ∧ (h 137 27).toInt ≤ (h 137 27).toInt + (0) by omega) (show (h 137 82).toInt + (0) ≤ (h 137 82).toInt ∧ (h 137 82).toInt ≤ (h 137 82).toInt + (0) by omega) (show (h 137 83).toInt + (0) ≤ (h 137 83).toInt ∧ (h 137 83).toInt ≤ (h 137 83).toInt + (0) by omega) (show (h 137 2).toInt + (0) ≤ (h 137 2).toInt ∧ (h 137 2).toInt ≤ (h 137 2).toInt + (0) by omega) (E9.congr rfl rfl) (S9.congr rfl rfl rfl rfl rfl rfl rfl) (K9.congr rfl rfl) 
    · skip
      have k_1 : (1 : Int32).toInt = 1 := rfl
      have c_11 := pi_lt' c_11
      refine lv_iload_n hx hb dX12_field_14 rfl (lv_at hl 2 rfl) ?_
      refine lv_sipush (v := 200) hx hb dX12_field_15 (by decide) ?_
      refine lv_icmp_gt (tgt := 25) hx hb dX12_field_18 (by decide) (fun c_18 => ?_) (fun c_18 => ?_)
      · skip
        have k_200 : (200 : Int32).toInt = 200 := rfl
        have c_18 := pi_lt.mp c_18
        exact J_25 _ _ _ _ V I (A.wk (by decide)) (lv_sub hl [0, 1, 2] rfl) (show (h 137 56).toInt + (0) ≤ (h 137 56).toInt ∧ (h 137 56).toInt ≤ (h 137 56).toInt + (0) by omega) (show (h 137 70).toInt + (0) ≤ (h 137 70).toInt ∧ (h 137 70).toInt ≤ (h 137 70).toInt + (0) by omega) (show (h 137 58).toInt + (0) ≤ (h 137 58).toInt ∧ (h 137 58).toInt ≤ (h 137 58).toInt + (0) by omega) (show (h 137 25).toInt + (0) ≤ (h 137 25).toInt ∧ (h 137 25).toInt ≤ (h 137 25).toInt + (0) by omega) (show (h 137 27).toInt + (0) ≤ (h 137 27).toInt ∧ (h 137 27).toInt ≤ (h 137 27).toInt + (0) by omega) (show (h 137 82).toInt + (0) ≤ (h 137 82).toInt ∧ (h 137 82).toInt ≤ (h 137 82).toInt + (0) by omega) (show (h 137 83).toInt + (0) ≤ (h 137 83).toInt ∧ (h 137 83).toInt ≤ (h 137 83).toInt + (0) by omega) (show (h 137 2).toInt + (0) ≤ (h 137 2).toInt ∧ (h 137 2).toInt ≤ (h 137 2).toInt + (0) by omega) (E9.congr rfl rfl) (S9.congr rfl rfl rfl rfl rfl rfl rfl) (K9.congr rfl rfl) 
      · skip
        have k_200 : (200 : Int32).toInt = 200 := rfl
        have c_18 := pi_lt' c_18
        refine lv_iconst (v := 1) hx hb dX12_field_21 (by decide) ?_
        refine lv_goto (tgt := 26) hx hb dX12_field_22 (by decide) ?_
        exact J_26 (1 : Int32) _ _ _ _ V I (A.wk (by decide)) (lv_sub hl [0, 1, 2] rfl) (by omega) (show (h 137 56).toInt + (0) ≤ (h 137 56).toInt ∧ (h 137 56).toInt ≤ (h 137 56).toInt + (0) by omega) (show (h 137 70).toInt + (0) ≤ (h 137 70).toInt ∧ (h 137 70).toInt ≤ (h 137 70).toInt + (0) by omega) (show (h 137 58).toInt + (0) ≤ (h 137 58).toInt ∧ (h 137 58).toInt ≤ (h 137 58).toInt + (0) by omega) (show (h 137 25).toInt + (0) ≤ (h 137 25).toInt ∧ (h 137 25).toInt ≤ (h 137 25).toInt + (0) by omega) (show (h 137 27).toInt + (0) ≤ (h 137 27).toInt ∧ (h 137 27).toInt ≤ (h 137 27).toInt + (0) by omega) (show (h 137 82).toInt + (0) ≤ (h 137 82).toInt ∧ (h 137 82).toInt ≤ (h 137 82).toInt + (0) by omega) (show (h 137 83).toInt + (0) ≤ (h 137 83).toInt ∧ (h 137 83).toInt ≤ (h 137 83).toInt + (0) by omega) (show (h 137 2).toInt + (0) ≤ (h 137 2).toInt ∧ (h 137 2).toInt ≤ (h 137 2).toInt + (0) by omega) (by omega) (E9.congr rfl rfl) (S9.congr rfl rfl rfl rfl rfl rfl rfl) (K9.congr rfl rfl) 
