/-! the law's own methods, one by one -/
def cW : List (Nat × Nat) := [(0, 1000), (1, 1000), (3, 1000), (4, 1000), (5, 1000), (6, 1000), (7, 1000), (8, 1000), (9, 1000), (10, 1000), (11, 1000), (13, 1000), (22, 1000), (23, 1000), (24, 1000), (25, 1000), (26, 1000), (36, 1000), (37, 1000), (38, 1000), (39, 1000), (122, 1000), (123, 1000), (124, 1000), (125, 1000), (126, 1000), (127, 1000), (128, 1000), (129, 1000), (132, 1000), (2, 3), (2, 4)]
def eW : List (Nat × Nat) := [(0, 1000), (1, 1000), (3, 1000), (4, 1000), (5, 1000), (6, 1000), (7, 1000), (8, 1000), (9, 1000), (10, 1000), (11, 1000), (13, 1000), (22, 1000), (23, 1000), (24, 1000), (25, 1000), (26, 1000), (36, 1000), (37, 1000), (38, 1000), (39, 1000), (122, 1000), (123, 1000), (124, 1000), (125, 1000), (126, 1000), (127, 1000), (128, 1000), (129, 1000), (132, 1000), (2, 3)]
theorem xk_LS : Cond.classLink RL 13 xIS ∈ pT := pT_3 146 (by decide +kernel) rfl
theorem xk_LA : Cond.classLink RL 22 xIA ∈ pT := pT_4 172 (by decide +kernel) rfl
theorem dL_begin_0 : decode cL_begin 0 = .ok (.aload_n 1, 1) := by decide +kernel
theorem dL_begin_1 : decode cL_begin 1 = .ok (.iconst 0, 1) := by decide +kernel
theorem dL_begin_2 : decode cL_begin 2 = .ok (.aload_n 0, 1) := by decide +kernel
theorem dL_begin_3 : decode cL_begin 3 = .ok (.invokevirtual 7, 3) := by decide +kernel
theorem dL_begin_6 : decode cL_begin 6 = .ok (.i2l, 1) := by decide +kernel
theorem dL_begin_7 : decode cL_begin 7 = .ok (.lastore, 1) := by decide +kernel
theorem dL_begin_8 : decode cL_begin 8 = .ok (.goto 6, 3) := by decide +kernel
theorem dL_begin_11 : decode cL_begin 11 = .ok (.astore_n 2, 1) := by decide +kernel
theorem dL_begin_12 : decode cL_begin 12 = .ok (.iconst 1, 1) := by decide +kernel
theorem dL_begin_13 : decode cL_begin 13 = .ok (.ireturn, 1) := by decide +kernel
theorem dL_begin_14 : decode cL_begin 14 = .ok (.iconst 0, 1) := by decide +kernel
theorem dL_begin_15 : decode cL_begin 15 = .ok (.ireturn, 1) := by decide +kernel
theorem km_L_begin : pLW yL_begin cL_begin 3 (some .int) [(0, 8, 11, 13)] 2 := ⟨pT_3 145 rfl rfl, pT_1 0 (by decide +kernel) rfl, ⟨by decide +kernel, by decide +kernel, by decide +kernel⟩, pT_3 144 (by decide +kernel) rfl⟩
set_option maxHeartbeats 4000000 in
set_option maxRecDepth 100000 in
theorem m_L_begin (l : Launch) (hl9 : l.stackTraces = false) {Z : pZ} (S : pSh Z) {h : pH} (I : Iv Z h)  (K : pSk Z) (L : pLk Z h)  : wMet l yL_begin cL_begin 3 (some .int) [(0, 8, 11, 13)] 8 (gmc Z) (gms Z) 147 Z h [.ref (zB Z + 0), .ref (zB Z + 188)] (gQi Z (fun r Z1 h1 k n => pGr Z Z1 ∧ pSk Z1 ∧ Iv Z1 h1 ∧ agrD cW h h1 ∧ (k ≤ pPh Z1 - pPh Z + 1 ∧ n ≤ 2 * (pPh Z1 - pPh Z) + 6 ∧ pPh Z ≤ pPh Z1) ∧ pLk Z1 h1 ∧ ((h1 129 2).toInt ≤ (h 129 2).toInt + 0 ∧ (h1 129 3).toInt ≤ (h 129 3).toInt + 0 ∧ (h1 2 4).toInt ≤ (h 2 4).toInt))) := by
  refine wOfW (lv := [(0, .ref (zB Z + 0)), (1, .ref (zB Z + 188))]) (by decide) (Nat.le_of_ble_eq_true rfl) rfl ?_
  intro p e s m below meth c ls M hr hlk hnm V hl htab X
  have hx := M.1.1
  have hb := M.1.2.1
  have hPm := K.ph
  have h188 : pIs Z 188 18 := S.is 188 (by decide)
  have n188 : zN Z 188 = 1 := S.n 188 (by decide) (by decide) (by decide)
  refine lv_aload_n hx hb dL_begin_0 rfl (lv_at hl 1 rfl) ?_
  refine lv_iconst (v := 0) hx hb dL_begin_1 (by decide) ?_
  refine lv_aload_n hx hb dL_begin_2 rfl (lv_at hl 0 rfl) ?_
  refine xg_i Z rfl rfl (xr_V M V X (m_X11_begin l hl9 S I  K L ) km_X11_begin (c_is_0 S) pC11 lkM_L_7 rfl hl.1 rfl (Nat.le_of_ble_eq_true rfl) ⟨Nat.le_of_ble_eq_true rfl, Nat.le_of_ble_eq_true rfl⟩ ⟨Nat.le_of_eq (Nat.zero_add _), Nat.le_of_eq (Nat.zero_add _)⟩ dL_begin_3) V (fun E ce q9 y1 h1 k1 n1 H locs px V w1 w2 w3 => ?_) (fun r1 y1 h1 k1 n1 H locs p1 V => ?_)
  · obtain ⟨hE, g1, K1, I1, A1, b1, L1, f0, f1, f2⟩ := px
    subst hE
    refine xh_first (own := RL) (nm := xIS) M.1.2.2.2.1 (htab.trans rfl) rfl (by decide) (pWords M xk_LS) (X.2.2.1 _ (by decide)) w1 w2 w3 ?_
    refine lv_astore_n (lv' := [(2, .ref q9), (0, .ref (zB Z + 0)), (1, .ref (zB Z + 188))]) hx hb dL_begin_11 rfl hl (by decide) rfl (fun ls hl => ?_)
    refine lv_iconst (v := 1) hx hb dL_begin_12 (by decide) ?_
    exact vx_ret (ge_i (Z := Z) (Z' := (gW Z y1)) (pM.to (gW Z y1) rfl M) V rfl rfl hr hlk rfl ⟨g1, K1, I1, (A1.wk (by decide)), ⟨by omega, by omega, by omega⟩, L1, ⟨f0, f1, f2⟩⟩ (g_rx (by omega) (by omega) K1.ph) dL_begin_13)
  · obtain ⟨g1, K1, I1, A1, b1, L1, f0, f1, f2⟩ := p1
    refine lv_i2l hx hb dL_begin_6 rfl ?_
    refine gl_l (Z := (gW Z y1)) Z rfl rfl (pM.to (gW Z y1) rfl M) V I1 K1 L1 (g1.is h188) (by rw [(g1 188 h188.1).2.2.1, n188]; exact pi_in (by decide)) dL_begin_7 (fun y2 H locs g2 K2 I2 L2 e2 V => ?_)
    refine lv_goto (tgt := 14) hx hb dL_begin_8 (by decide) ?_
    refine lv_iconst (v := 0) hx hb dL_begin_14 (by decide) ?_
    exact vx_ret (ge_i (Z := Z) (Z' := (gW Z y2)) (pM.to (gW Z y2) rfl M) V rfl rfl hr hlk rfl ⟨(g1.tr g2), K2, I2, (A1.wk (by decide)), ⟨by omega, by omega, by omega⟩, L2, ⟨f0, f1, f2⟩⟩ (g_rx (by omega) (by omega) K2.ph) dL_begin_15)
theorem dL_end_0 : decode cL_end 0 = .ok (.aload_n 1, 1) := by decide +kernel
theorem dL_end_1 : decode cL_end 1 = .ok (.iconst 0, 1) := by decide +kernel
theorem dL_end_2 : decode cL_end 2 = .ok (.aload_n 0, 1) := by decide +kernel
theorem dL_end_3 : decode cL_end 3 = .ok (.invokevirtual 15, 3) := by decide +kernel
theorem dL_end_6 : decode cL_end 6 = .ok (.i2l, 1) := by decide +kernel
theorem dL_end_7 : decode cL_end 7 = .ok (.lastore, 1) := by decide +kernel
theorem dL_end_8 : decode cL_end 8 = .ok (.goto 6, 3) := by decide +kernel
theorem dL_end_11 : decode cL_end 11 = .ok (.astore_n 2, 1) := by decide +kernel
theorem dL_end_12 : decode cL_end 12 = .ok (.iconst 1, 1) := by decide +kernel
theorem dL_end_13 : decode cL_end 13 = .ok (.ireturn, 1) := by decide +kernel
theorem dL_end_14 : decode cL_end 14 = .ok (.iconst 0, 1) := by decide +kernel
theorem dL_end_15 : decode cL_end 15 = .ok (.ireturn, 1) := by decide +kernel
theorem km_L_end : pLW yL_end cL_end 3 (some .int) [(0, 8, 11, 13)] 2 := ⟨pT_4 107 rfl rfl, pT_1 0 (by decide +kernel) rfl, ⟨by decide +kernel, by decide +kernel, by decide +kernel⟩, pT_4 106 (by decide +kernel) rfl⟩
set_option maxHeartbeats 4000000 in
set_option maxRecDepth 100000 in
theorem m_L_end (l : Launch) (hl9 : l.stackTraces = false) {Z : pZ} (S : pSh Z) {h : pH} (I : Iv Z h)  (K : pSk Z) (L : pLk Z h) (hq : (h 129 2).toInt ≤ 990 ∧ (h 129 3).toInt ≤ 990) : wMet l yL_end cL_end 3 (some .int) [(0, 8, 11, 13)] 8 (gmc Z) (gms Z) 155 Z h [.ref (zB Z + 0), .ref (zB Z + 188)] (gQi Z (fun r Z1 h1 k n => pGr Z Z1 ∧ pSk Z1 ∧ Iv Z1 h1 ∧ agrD eW h h1 ∧ (k ≤ pPh Z1 - pPh Z + 1 ∧ n ≤ 2 * (pPh Z1 - pPh Z) + 6 ∧ pPh Z ≤ pPh Z1) ∧ pLk Z1 h1 ∧ ((h1 129 2).toInt ≤ (h 129 2).toInt + 0 ∧ (h1 129 3).toInt ≤ (h 129 3).toInt + 0 ∧ (h1 2 4).toInt ≤ (h 2 4).toInt))) := by
  refine wOfW (lv := [(0, .ref (zB Z + 0)), (1, .ref (zB Z + 188))]) (by decide) (Nat.le_of_ble_eq_true rfl) rfl ?_
  intro p e s m below meth c ls M hr hlk hnm V hl htab X
  have hx := M.1.1
  have hb := M.1.2.1
  have hPm := K.ph
  have h188 : pIs Z 188 18 := S.is 188 (by decide)
  have n188 : zN Z 188 = 1 := S.n 188 (by decide) (by decide) (by decide)
  refine lv_aload_n hx hb dL_end_0 rfl (lv_at hl 1 rfl) ?_
  refine lv_iconst (v := 0) hx hb dL_end_1 (by decide) ?_
  refine lv_aload_n hx hb dL_end_2 rfl (lv_at hl 0 rfl) ?_
  refine xg_i Z rfl rfl (xr_V M V X (m_X11_end l hl9 S I  K L hq) km_X11_end (c_is_0 S) pC11 lkM_L_15 rfl hl.1 rfl (Nat.le_of_ble_eq_true rfl) ⟨Nat.le_of_ble_eq_true rfl, Nat.le_of_ble_eq_true rfl⟩ ⟨Nat.le_of_eq (Nat.zero_add _), Nat.le_of_eq (Nat.zero_add _)⟩ dL_end_3) V (fun E ce q9 y1 h1 k1 n1 H locs px V w1 w2 w3 => ?_) (fun r1 y1 h1 k1 n1 H locs p1 V => ?_)
  · obtain ⟨hE, g1, K1, I1, A1, b1, L1, f0, f1⟩ := px
    subst hE
    refine xh_first (own := RL) (nm := xIS) M.1.2.2.2.1 (htab.trans rfl) rfl (by decide) (pWords M xk_LS) (X.2.2.1 _ (by decide)) w1 w2 w3 ?_
    refine lv_astore_n (lv' := [(2, .ref q9), (0, .ref (zB Z + 0)), (1, .ref (zB Z + 188))]) hx hb dL_end_11 rfl hl (by decide) rfl (fun ls hl => ?_)
    refine lv_iconst (v := 1) hx hb dL_end_12 (by decide) ?_
    exact vx_ret (ge_i (Z := Z) (Z' := (gW Z y1)) (pM.to (gW Z y1) rfl M) V rfl rfl hr hlk rfl ⟨g1, K1, I1, (A1.wk (by decide)), ⟨by omega, by omega, by omega⟩, L1, ⟨f0, f1, (by rw [A1.get 2 4 (by decide)]; exact Int.le_refl _)⟩⟩ (g_rx (by omega) (by omega) K1.ph) dL_end_13)
  · obtain ⟨g1, K1, I1, A1, b1, L1, f0, f1⟩ := p1
    refine lv_i2l hx hb dL_end_6 rfl ?_
    refine gl_l (Z := (gW Z y1)) Z rfl rfl (pM.to (gW Z y1) rfl M) V I1 K1 L1 (g1.is h188) (by rw [(g1 188 h188.1).2.2.1, n188]; exact pi_in (by decide)) dL_end_7 (fun y2 H locs g2 K2 I2 L2 e2 V => ?_)
    refine lv_goto (tgt := 14) hx hb dL_end_8 (by decide) ?_
    refine lv_iconst (v := 0) hx hb dL_end_14 (by decide) ?_
    exact vx_ret (ge_i (Z := Z) (Z' := (gW Z y2)) (pM.to (gW Z y2) rfl M) V rfl rfl hr hlk rfl ⟨(g1.tr g2), K2, I2, (A1.wk (by decide)), ⟨by omega, by omega, by omega⟩, L2, ⟨f0, f1, (by rw [A1.get 2 4 (by decide)]; exact Int.le_refl _)⟩⟩ (g_rx (by omega) (by omega) K2.ph) dL_end_15)
theorem dL_window_0 : decode cL_window 0 = .ok (.aload 6, 2) := by decide +kernel
theorem dL_window_2 : decode cL_window 2 = .ok (.iconst 0, 1) := by decide +kernel
theorem dL_window_3 : decode cL_window 3 = .ok (.aload_n 0, 1) := by decide +kernel
theorem dL_window_4 : decode cL_window 4 = .ok (.iload_n 1, 1) := by decide +kernel
theorem dL_window_5 : decode cL_window 5 = .ok (.iload_n 2, 1) := by decide +kernel
theorem dL_window_6 : decode cL_window 6 = .ok (.iload_n 3, 1) := by decide +kernel
theorem dL_window_7 : decode cL_window 7 = .ok (.iload 4, 2) := by decide +kernel
theorem dL_window_9 : decode cL_window 9 = .ok (.iload 5, 2) := by decide +kernel
theorem dL_window_11 : decode cL_window 11 = .ok (.invokevirtual 18, 3) := by decide +kernel
theorem dL_window_14 : decode cL_window 14 = .ok (.ifCond .eq 7, 3) := by decide +kernel
theorem dL_window_17 : decode cL_window 17 = .ok (.lconst 1, 1) := by decide +kernel
theorem dL_window_18 : decode cL_window 18 = .ok (.goto 4, 3) := by decide +kernel
theorem dL_window_21 : decode cL_window 21 = .ok (.lconst 0, 1) := by decide +kernel
theorem dL_window_22 : decode cL_window 22 = .ok (.lastore, 1) := by decide +kernel
theorem dL_window_23 : decode cL_window 23 = .ok (.goto 11, 3) := by decide +kernel
theorem dL_window_26 : decode cL_window 26 = .ok (.astore 7, 2) := by decide +kernel
theorem dL_window_28 : decode cL_window 28 = .ok (.iconst 1, 1) := by decide +kernel
theorem dL_window_29 : decode cL_window 29 = .ok (.ireturn, 1) := by decide +kernel
theorem dL_window_30 : decode cL_window 30 = .ok (.astore 7, 2) := by decide +kernel
theorem dL_window_32 : decode cL_window 32 = .ok (.iconst 2, 1) := by decide +kernel
theorem dL_window_33 : decode cL_window 33 = .ok (.ireturn, 1) := by decide +kernel
theorem dL_window_34 : decode cL_window 34 = .ok (.iconst 0, 1) := by decide +kernel
theorem dL_window_35 : decode cL_window 35 = .ok (.ireturn, 1) := by decide +kernel
theorem km_L_window : pLW yL_window cL_window 8 (some .int) [(0, 23, 26, 22), (0, 23, 30, 13)] 7 := ⟨pT_4 171 rfl rfl, pT_1 0 (by decide +kernel) rfl, ⟨by decide +kernel, by decide +kernel, by decide +kernel⟩, pT_4 170 (by decide +kernel) rfl⟩
set_option maxHeartbeats 4000000 in
set_option maxRecDepth 100000 in
theorem m_L_window (l : Launch) (hl9 : l.stackTraces = false) {Z : pZ} (S : pSh Z) {h : pH} (I : Iv Z h) (a1 : Int32) (a2 : Int32) (a3 : Int32) (a4 : Int32) (a5 : Int32) (K : pSk Z) (L : pLk Z h) (hq3 : (h 129 3).toInt ≤ 8900) : wMet l yL_window cL_window 8 (some .int) [(0, 23, 26, 22), (0, 23, 30, 13)] 8 (gmc Z) (gms Z) 194 Z h [.ref (zB Z + 0), .int a1, .int a2, .int a3, .int a4, .int a5, .ref (zB Z + 188)] (gQi Z (fun r Z1 h1 k n => pGr Z Z1 ∧ pSk Z1 ∧ Iv Z1 h1 ∧ agrD eW h h1 ∧ (k ≤ pPh Z1 - pPh Z + 1 ∧ n ≤ 2 * (pPh Z1 - pPh Z) + 6 ∧ pPh Z ≤ pPh Z1) ∧ pLk Z1 h1 ∧ ((h1 129 2).toInt ≤ (h 129 2).toInt + 2 ∧ (h1 129 3).toInt ≤ (h 129 3).toInt + 2 ∧ (h1 2 4).toInt ≤ (h 2 4).toInt))) := by
  refine wOfW (lv := [(0, .ref (zB Z + 0)), (1, .int a1), (2, .int a2), (3, .int a3), (4, .int a4), (5, .int a5), (6, .ref (zB Z + 188))]) (by decide) (Nat.le_of_ble_eq_true rfl) rfl ?_
  intro p e s m below meth c ls M hr hlk hnm V hl htab X
  have hx := M.1.1
  have hb := M.1.2.1
  have hPm := K.ph
  have h188 : pIs Z 188 18 := S.is 188 (by decide)
  have n188 : zN Z 188 = 1 := S.n 188 (by decide) (by decide) (by decide)
  refine lv_aload hx hb dL_window_0 (lv_at hl 6 rfl) ?_
  refine lv_iconst (v := 0) hx hb dL_window_2 (by decide) ?_
  refine lv_aload_n hx hb dL_window_3 rfl (lv_at hl 0 rfl) ?_
  refine lv_iload_n hx hb dL_window_4 rfl (lv_at hl 1 rfl) ?_
  refine lv_iload_n hx hb dL_window_5 rfl (lv_at hl 2 rfl) ?_
  refine lv_iload_n hx hb dL_window_6 rfl (lv_at hl 3 rfl) ?_
  refine lv_iload hx hb dL_window_7 (lv_at hl 4 rfl) ?_
  refine lv_iload hx hb dL_window_9 (lv_at hl 5 rfl) ?_
  refine xg_i Z rfl rfl (xr_V M V X (m_X11_window l hl9 S I a1 a2 a3 a4 a5 K L hq3) km_X11_window (c_is_0 S) pC11 lkM_L_18 rfl hl.1 rfl (Nat.le_of_ble_eq_true rfl) ⟨Nat.le_of_ble_eq_true rfl, Nat.le_of_ble_eq_true rfl⟩ ⟨Nat.le_of_eq (Nat.zero_add _), Nat.le_of_eq (Nat.zero_add _)⟩ dL_window_11) V (fun E ce q9 y1 h1 k1 n1 H locs px V w1 w2 w3 => ?_) (fun r1 y1 h1 k1 n1 H locs p1 V => ?_)
  · obtain ⟨hE, g1, K1, I1, A1, b1, L1, f0, f1⟩ := px
    rcases hE with hE | hE
    · subst hE
      refine xh_first (own := RL) (nm := xIA) M.1.2.2.2.1 (htab.trans rfl) rfl (by decide) (pWords M xk_LA) (X.2.2.1 _ (by decide)) w1 w2 w3 ?_
      refine lv_astore (lv' := [(7, .ref q9), (0, .ref (zB Z + 0)), (1, .int a1), (2, .int a2), (3, .int a3), (4, .int a4), (5, .int a5), (6, .ref (zB Z + 188))]) hx hb dL_window_26 hl (by decide) rfl (fun ls hl => ?_)
      refine lv_iconst (v := 1) hx hb dL_window_28 (by decide) ?_
      exact vx_ret (ge_i (Z := Z) (Z' := (gW Z y1)) (pM.to (gW Z y1) rfl M) V rfl rfl hr hlk rfl ⟨g1, K1, I1, (A1.wk (by decide)), ⟨by omega, by omega, by omega⟩, L1, ⟨f0, f1, (by rw [A1.get 2 4 (by decide)]; exact Int.le_refl _)⟩⟩ (g_rx (by omega) (by omega) K1.ph) dL_window_29)
    · subst hE
      refine xh_second (own := RL) (nm := xIA) (nm1 := xIS) M.1.2.2.2.1 (htab.trans rfl) rfl (by decide) (pWords M xk_LA) X.2.2.2.2.2.2 rfl (by decide) (pWords M xk_LS) (X.2.2.1 _ (by decide)) w1 w2 w3 ?_
      refine lv_astore (lv' := [(7, .ref q9), (0, .ref (zB Z + 0)), (1, .int a1), (2, .int a2), (3, .int a3), (4, .int a4), (5, .int a5), (6, .ref (zB Z + 188))]) hx hb dL_window_30 hl (by decide) rfl (fun ls hl => ?_)
      refine lv_iconst (v := 2) hx hb dL_window_32 (by decide) ?_
      exact vx_ret (ge_i (Z := Z) (Z' := (gW Z y1)) (pM.to (gW Z y1) rfl M) V rfl rfl hr hlk rfl ⟨g1, K1, I1, (A1.wk (by decide)), ⟨by omega, by omega, by omega⟩, L1, ⟨f0, f1, (by rw [A1.get 2 4 (by decide)]; exact Int.le_refl _)⟩⟩ (g_rx (by omega) (by omega) K1.ph) dL_window_33)
  · obtain ⟨g1, K1, I1, A1, b1, L1, fz, f0, f1⟩ := p1
    refine lv_if_eq (tgt := 21) hx hb dL_window_14 (by decide) (fun _ => ?_) (fun _ => ?_)
    · skip
      refine lv_lconst hx hb dL_window_21 rfl ?_
      refine gl_l (Z := (gW Z y1)) Z rfl rfl (pM.to (gW Z y1) rfl M) V I1 K1 L1 (g1.is h188) (by rw [(g1 188 h188.1).2.2.1, n188]; exact pi_in (by decide)) dL_window_22 (fun y2 H locs g2 K2 I2 L2 e2 V => ?_)
      refine lv_goto (tgt := 34) hx hb dL_window_23 (by decide) ?_
      refine lv_iconst (v := 0) hx hb dL_window_34 (by decide) ?_
      exact vx_ret (ge_i (Z := Z) (Z' := (gW Z y2)) (pM.to (gW Z y2) rfl M) V rfl rfl hr hlk rfl ⟨(g1.tr g2), K2, I2, (A1.wk (by decide)), ⟨by omega, by omega, by omega⟩, L2, ⟨f0, f1, (by rw [A1.get 2 4 (by decide)]; exact Int.le_refl _)⟩⟩ (g_rx (by omega) (by omega) K2.ph) dL_window_35)
    · skip
      refine lv_lconst hx hb dL_window_17 rfl ?_
      refine lv_goto (tgt := 22) hx hb dL_window_18 (by decide) ?_
      refine gl_l (Z := (gW Z y1)) Z rfl rfl (pM.to (gW Z y1) rfl M) V I1 K1 L1 (g1.is h188) (by rw [(g1 188 h188.1).2.2.1, n188]; exact pi_in (by decide)) dL_window_22 (fun y2 H locs g2 K2 I2 L2 e2 V => ?_)
      refine lv_goto (tgt := 34) hx hb dL_window_23 (by decide) ?_
      refine lv_iconst (v := 0) hx hb dL_window_34 (by decide) ?_
      exact vx_ret (ge_i (Z := Z) (Z' := (gW Z y2)) (pM.to (gW Z y2) rfl M) V rfl rfl hr hlk rfl ⟨(g1.tr g2), K2, I2, (A1.wk (by decide)), ⟨by omega, by omega, by omega⟩, L2, ⟨f0, f1, (by rw [A1.get 2 4 (by decide)]; exact Int.le_refl _)⟩⟩ (g_rx (by omega) (by omega) K2.ph) dL_window_35)
theorem dL_open_0 : decode cL_open 0 = .ok (.aload_n 2, 1) := by decide +kernel
theorem dL_open_1 : decode cL_open 1 = .ok (.iconst 0, 1) := by decide +kernel
theorem dL_open_2 : decode cL_open 2 = .ok (.aload_n 0, 1) := by decide +kernel
theorem dL_open_3 : decode cL_open 3 = .ok (.iload_n 1, 1) := by decide +kernel
theorem dL_open_4 : decode cL_open 4 = .ok (.invokevirtual 24, 3) := by decide +kernel
theorem dL_open_7 : decode cL_open 7 = .ok (.ifCond .eq 7, 3) := by decide +kernel
theorem dL_open_10 : decode cL_open 10 = .ok (.lconst 1, 1) := by decide +kernel
theorem dL_open_11 : decode cL_open 11 = .ok (.goto 4, 3) := by decide +kernel
theorem dL_open_14 : decode cL_open 14 = .ok (.lconst 0, 1) := by decide +kernel
theorem dL_open_15 : decode cL_open 15 = .ok (.lastore, 1) := by decide +kernel
theorem dL_open_16 : decode cL_open 16 = .ok (.goto 9, 3) := by decide +kernel
theorem dL_open_19 : decode cL_open 19 = .ok (.astore_n 3, 1) := by decide +kernel
theorem dL_open_20 : decode cL_open 20 = .ok (.iconst 1, 1) := by decide +kernel
theorem dL_open_21 : decode cL_open 21 = .ok (.ireturn, 1) := by decide +kernel
theorem dL_open_22 : decode cL_open 22 = .ok (.astore_n 3, 1) := by decide +kernel
theorem dL_open_23 : decode cL_open 23 = .ok (.iconst 2, 1) := by decide +kernel
theorem dL_open_24 : decode cL_open 24 = .ok (.ireturn, 1) := by decide +kernel
theorem dL_open_25 : decode cL_open 25 = .ok (.iconst 0, 1) := by decide +kernel
theorem dL_open_26 : decode cL_open 26 = .ok (.ireturn, 1) := by decide +kernel
theorem km_L_open : pLW yL_open cL_open 4 (some .int) [(0, 16, 19, 22), (0, 16, 22, 13)] 3 := ⟨pT_5 63 rfl rfl, pT_1 0 (by decide +kernel) rfl, ⟨by decide +kernel, by decide +kernel, by decide +kernel⟩, pT_5 62 (by decide +kernel) rfl⟩
set_option maxHeartbeats 4000000 in
set_option maxRecDepth 100000 in
theorem m_L_open (l : Launch) (hl9 : l.stackTraces = false) {Z : pZ} (S : pSh Z) {h : pH} (I : Iv Z h) (a1 : Int32) (K : pSk Z) (L : pLk Z h)  : wMet l yL_open cL_open 4 (some .int) [(0, 16, 19, 22), (0, 16, 22, 13)] 8 (gmc Z) (gms Z) 147 Z h [.ref (zB Z + 0), .int a1, .ref (zB Z + 188)] (gQi Z (fun r Z1 h1 k n => pGr Z Z1 ∧ pSk Z1 ∧ Iv Z1 h1 ∧ agrD eW h h1 ∧ (k ≤ pPh Z1 - pPh Z + 1 ∧ n ≤ 2 * (pPh Z1 - pPh Z) + 6 ∧ pPh Z ≤ pPh Z1) ∧ pLk Z1 h1 ∧ ((h1 129 2).toInt ≤ (h 129 2).toInt + 0 ∧ (h1 129 3).toInt ≤ (h 129 3).toInt + 0 ∧ (h1 2 4).toInt ≤ (h 2 4).toInt))) := by
  refine wOfW (lv := [(0, .ref (zB Z + 0)), (1, .int a1), (2, .ref (zB Z + 188))]) (by decide) (Nat.le_of_ble_eq_true rfl) rfl ?_
  intro p e s m below meth c ls M hr hlk hnm V hl htab X
  have hx := M.1.1
  have hb := M.1.2.1
  have hPm := K.ph
  have h188 : pIs Z 188 18 := S.is 188 (by decide)
  have n188 : zN Z 188 = 1 := S.n 188 (by decide) (by decide) (by decide)
  refine lv_aload_n hx hb dL_open_0 rfl (lv_at hl 2 rfl) ?_
  refine lv_iconst (v := 0) hx hb dL_open_1 (by decide) ?_
  refine lv_aload_n hx hb dL_open_2 rfl (lv_at hl 0 rfl) ?_
  refine lv_iload_n hx hb dL_open_3 rfl (lv_at hl 1 rfl) ?_
  refine xg_i Z rfl rfl (xr_V M V X (m_X11_open l hl9 S I a1 K L ) km_X11_open (c_is_0 S) pC11 lkM_L_24 rfl hl.1 rfl (Nat.le_of_ble_eq_true rfl) ⟨Nat.le_of_ble_eq_true rfl, Nat.le_of_ble_eq_true rfl⟩ ⟨Nat.le_of_eq (Nat.zero_add _), Nat.le_of_eq (Nat.zero_add _)⟩ dL_open_4) V (fun E ce q9 y1 h1 k1 n1 H locs px V w1 w2 w3 => ?_) (fun r1 y1 h1 k1 n1 H locs p1 V => ?_)
  · obtain ⟨hE, g1, K1, I1, A1, b1, L1, f0, f1⟩ := px
    rcases hE with hE | hE
    · subst hE
      refine xh_first (own := RL) (nm := xIA) M.1.2.2.2.1 (htab.trans rfl) rfl (by decide) (pWords M xk_LA) (X.2.2.1 _ (by decide)) w1 w2 w3 ?_
      refine lv_astore_n (lv' := [(3, .ref q9), (0, .ref (zB Z + 0)), (1, .int a1), (2, .ref (zB Z + 188))]) hx hb dL_open_19 rfl hl (by decide) rfl (fun ls hl => ?_)
      refine lv_iconst (v := 1) hx hb dL_open_20 (by decide) ?_
      exact vx_ret (ge_i (Z := Z) (Z' := (gW Z y1)) (pM.to (gW Z y1) rfl M) V rfl rfl hr hlk rfl ⟨g1, K1, I1, (A1.wk (by decide)), ⟨by omega, by omega, by omega⟩, L1, ⟨f0, f1, (by rw [A1.get 2 4 (by decide)]; exact Int.le_refl _)⟩⟩ (g_rx (by omega) (by omega) K1.ph) dL_open_21)
    · subst hE
      refine xh_second (own := RL) (nm := xIA) (nm1 := xIS) M.1.2.2.2.1 (htab.trans rfl) rfl (by decide) (pWords M xk_LA) X.2.2.2.2.2.2 rfl (by decide) (pWords M xk_LS) (X.2.2.1 _ (by decide)) w1 w2 w3 ?_
      refine lv_astore_n (lv' := [(3, .ref q9), (0, .ref (zB Z + 0)), (1, .int a1), (2, .ref (zB Z + 188))]) hx hb dL_open_22 rfl hl (by decide) rfl (fun ls hl => ?_)
      refine lv_iconst (v := 2) hx hb dL_open_23 (by decide) ?_
      exact vx_ret (ge_i (Z := Z) (Z' := (gW Z y1)) (pM.to (gW Z y1) rfl M) V rfl rfl hr hlk rfl ⟨g1, K1, I1, (A1.wk (by decide)), ⟨by omega, by omega, by omega⟩, L1, ⟨f0, f1, (by rw [A1.get 2 4 (by decide)]; exact Int.le_refl _)⟩⟩ (g_rx (by omega) (by omega) K1.ph) dL_open_24)
  · obtain ⟨g1, K1, I1, A1, b1, L1, fz, f0, f1⟩ := p1
    refine lv_if_eq (tgt := 14) hx hb dL_open_7 (by decide) (fun _ => ?_) (fun _ => ?_)
    · skip
      refine lv_lconst hx hb dL_open_14 rfl ?_
      refine gl_l (Z := (gW Z y1)) Z rfl rfl (pM.to (gW Z y1) rfl M) V I1 K1 L1 (g1.is h188) (by rw [(g1 188 h188.1).2.2.1, n188]; exact pi_in (by decide)) dL_open_15 (fun y2 H locs g2 K2 I2 L2 e2 V => ?_)
      refine lv_goto (tgt := 25) hx hb dL_open_16 (by decide) ?_
      refine lv_iconst (v := 0) hx hb dL_open_25 (by decide) ?_
      exact vx_ret (ge_i (Z := Z) (Z' := (gW Z y2)) (pM.to (gW Z y2) rfl M) V rfl rfl hr hlk rfl ⟨(g1.tr g2), K2, I2, (A1.wk (by decide)), ⟨by omega, by omega, by omega⟩, L2, ⟨f0, f1, (by rw [A1.get 2 4 (by decide)]; exact Int.le_refl _)⟩⟩ (g_rx (by omega) (by omega) K2.ph) dL_open_26)
    · skip
      refine lv_lconst hx hb dL_open_10 rfl ?_
      refine lv_goto (tgt := 15) hx hb dL_open_11 (by decide) ?_
      refine gl_l (Z := (gW Z y1)) Z rfl rfl (pM.to (gW Z y1) rfl M) V I1 K1 L1 (g1.is h188) (by rw [(g1 188 h188.1).2.2.1, n188]; exact pi_in (by decide)) dL_open_15 (fun y2 H locs g2 K2 I2 L2 e2 V => ?_)
      refine lv_goto (tgt := 25) hx hb dL_open_16 (by decide) ?_
      refine lv_iconst (v := 0) hx hb dL_open_25 (by decide) ?_
      exact vx_ret (ge_i (Z := Z) (Z' := (gW Z y2)) (pM.to (gW Z y2) rfl M) V rfl rfl hr hlk rfl ⟨(g1.tr g2), K2, I2, (A1.wk (by decide)), ⟨by omega, by omega, by omega⟩, L2, ⟨f0, f1, (by rw [A1.get 2 4 (by decide)]; exact Int.le_refl _)⟩⟩ (g_rx (by omega) (by omega) K2.ph) dL_open_26)
theorem dL_popup_0 : decode cL_popup 0 = .ok (.aload 4, 2) := by decide +kernel
theorem dL_popup_2 : decode cL_popup 2 = .ok (.iconst 0, 1) := by decide +kernel
theorem dL_popup_3 : decode cL_popup 3 = .ok (.aload_n 0, 1) := by decide +kernel
theorem dL_popup_4 : decode cL_popup 4 = .ok (.iload_n 1, 1) := by decide +kernel
theorem dL_popup_5 : decode cL_popup 5 = .ok (.iload_n 2, 1) := by decide +kernel
theorem dL_popup_6 : decode cL_popup 6 = .ok (.iload_n 3, 1) := by decide +kernel
theorem dL_popup_7 : decode cL_popup 7 = .ok (.invokevirtual 28, 3) := by decide +kernel
theorem dL_popup_10 : decode cL_popup 10 = .ok (.ifCond .eq 7, 3) := by decide +kernel
theorem dL_popup_13 : decode cL_popup 13 = .ok (.lconst 1, 1) := by decide +kernel
theorem dL_popup_14 : decode cL_popup 14 = .ok (.goto 4, 3) := by decide +kernel
theorem dL_popup_17 : decode cL_popup 17 = .ok (.lconst 0, 1) := by decide +kernel
theorem dL_popup_18 : decode cL_popup 18 = .ok (.lastore, 1) := by decide +kernel
theorem dL_popup_19 : decode cL_popup 19 = .ok (.goto 11, 3) := by decide +kernel
theorem dL_popup_22 : decode cL_popup 22 = .ok (.astore 5, 2) := by decide +kernel
theorem dL_popup_24 : decode cL_popup 24 = .ok (.iconst 1, 1) := by decide +kernel
theorem dL_popup_25 : decode cL_popup 25 = .ok (.ireturn, 1) := by decide +kernel
theorem dL_popup_26 : decode cL_popup 26 = .ok (.astore 5, 2) := by decide +kernel
theorem dL_popup_28 : decode cL_popup 28 = .ok (.iconst 2, 1) := by decide +kernel
theorem dL_popup_29 : decode cL_popup 29 = .ok (.ireturn, 1) := by decide +kernel
theorem dL_popup_30 : decode cL_popup 30 = .ok (.iconst 0, 1) := by decide +kernel
theorem dL_popup_31 : decode cL_popup 31 = .ok (.ireturn, 1) := by decide +kernel
theorem km_L_popup : pLW yL_popup cL_popup 6 (some .int) [(0, 19, 22, 22), (0, 19, 26, 13)] 5 := ⟨pT_5 78 rfl rfl, pT_1 0 (by decide +kernel) rfl, ⟨by decide +kernel, by decide +kernel, by decide +kernel⟩, pT_5 77 (by decide +kernel) rfl⟩
set_option maxHeartbeats 4000000 in
set_option maxRecDepth 100000 in
theorem m_L_popup (l : Launch) (hl9 : l.stackTraces = false) {Z : pZ} (S : pSh Z) {h : pH} (I : Iv Z h) (a1 : Int32) (a2 : Int32) (a3 : Int32) (K : pSk Z) (L : pLk Z h) (hq3 : (h 129 3).toInt ≤ 8900) : wMet l yL_popup cL_popup 6 (some .int) [(0, 19, 22, 22), (0, 19, 26, 13)] 8 (gmc Z) (gms Z) 192 Z h [.ref (zB Z + 0), .int a1, .int a2, .int a3, .ref (zB Z + 188)] (gQi Z (fun r Z1 h1 k n => pGr Z Z1 ∧ pSk Z1 ∧ Iv Z1 h1 ∧ agrD eW h h1 ∧ (k ≤ pPh Z1 - pPh Z + 1 ∧ n ≤ 2 * (pPh Z1 - pPh Z) + 6 ∧ pPh Z ≤ pPh Z1) ∧ pLk Z1 h1 ∧ ((h1 129 2).toInt ≤ (h 129 2).toInt + 2 ∧ (h1 129 3).toInt ≤ (h 129 3).toInt + 2 ∧ (h1 2 4).toInt ≤ (h 2 4).toInt))) := by
  refine wOfW (lv := [(0, .ref (zB Z + 0)), (1, .int a1), (2, .int a2), (3, .int a3), (4, .ref (zB Z + 188))]) (by decide) (Nat.le_of_ble_eq_true rfl) rfl ?_
  intro p e s m below meth c ls M hr hlk hnm V hl htab X
  have hx := M.1.1
  have hb := M.1.2.1
  have hPm := K.ph
  have h188 : pIs Z 188 18 := S.is 188 (by decide)
  have n188 : zN Z 188 = 1 := S.n 188 (by decide) (by decide) (by decide)
  refine lv_aload hx hb dL_popup_0 (lv_at hl 4 rfl) ?_
  refine lv_iconst (v := 0) hx hb dL_popup_2 (by decide) ?_
  refine lv_aload_n hx hb dL_popup_3 rfl (lv_at hl 0 rfl) ?_
  refine lv_iload_n hx hb dL_popup_4 rfl (lv_at hl 1 rfl) ?_
  refine lv_iload_n hx hb dL_popup_5 rfl (lv_at hl 2 rfl) ?_
  refine lv_iload_n hx hb dL_popup_6 rfl (lv_at hl 3 rfl) ?_
  refine xg_i Z rfl rfl (xr_V M V X (m_X11_popup l hl9 S I a1 a2 a3 K L hq3) km_X11_popup (c_is_0 S) pC11 lkM_L_28 rfl hl.1 rfl (Nat.le_of_ble_eq_true rfl) ⟨Nat.le_of_ble_eq_true rfl, Nat.le_of_ble_eq_true rfl⟩ ⟨Nat.le_of_eq (Nat.zero_add _), Nat.le_of_eq (Nat.zero_add _)⟩ dL_popup_7) V (fun E ce q9 y1 h1 k1 n1 H locs px V w1 w2 w3 => ?_) (fun r1 y1 h1 k1 n1 H locs p1 V => ?_)
  · obtain ⟨hE, g1, K1, I1, A1, b1, L1, f0, f1⟩ := px
    rcases hE with hE | hE
    · subst hE
      refine xh_first (own := RL) (nm := xIA) M.1.2.2.2.1 (htab.trans rfl) rfl (by decide) (pWords M xk_LA) (X.2.2.1 _ (by decide)) w1 w2 w3 ?_
      refine lv_astore (lv' := [(5, .ref q9), (0, .ref (zB Z + 0)), (1, .int a1), (2, .int a2), (3, .int a3), (4, .ref (zB Z + 188))]) hx hb dL_popup_22 hl (by decide) rfl (fun ls hl => ?_)
      refine lv_iconst (v := 1) hx hb dL_popup_24 (by decide) ?_
      exact vx_ret (ge_i (Z := Z) (Z' := (gW Z y1)) (pM.to (gW Z y1) rfl M) V rfl rfl hr hlk rfl ⟨g1, K1, I1, (A1.wk (by decide)), ⟨by omega, by omega, by omega⟩, L1, ⟨f0, f1, (by rw [A1.get 2 4 (by decide)]; exact Int.le_refl _)⟩⟩ (g_rx (by omega) (by omega) K1.ph) dL_popup_25)
    · subst hE
      refine xh_second (own := RL) (nm := xIA) (nm1 := xIS) M.1.2.2.2.1 (htab.trans rfl) rfl (by decide) (pWords M xk_LA) X.2.2.2.2.2.2 rfl (by decide) (pWords M xk_LS) (X.2.2.1 _ (by decide)) w1 w2 w3 ?_
      refine lv_astore (lv' := [(5, .ref q9), (0, .ref (zB Z + 0)), (1, .int a1), (2, .int a2), (3, .int a3), (4, .ref (zB Z + 188))]) hx hb dL_popup_26 hl (by decide) rfl (fun ls hl => ?_)
      refine lv_iconst (v := 2) hx hb dL_popup_28 (by decide) ?_
      exact vx_ret (ge_i (Z := Z) (Z' := (gW Z y1)) (pM.to (gW Z y1) rfl M) V rfl rfl hr hlk rfl ⟨g1, K1, I1, (A1.wk (by decide)), ⟨by omega, by omega, by omega⟩, L1, ⟨f0, f1, (by rw [A1.get 2 4 (by decide)]; exact Int.le_refl _)⟩⟩ (g_rx (by omega) (by omega) K1.ph) dL_popup_29)
  · obtain ⟨g1, K1, I1, A1, b1, L1, fz, f0, f1⟩ := p1
    refine lv_if_eq (tgt := 17) hx hb dL_popup_10 (by decide) (fun _ => ?_) (fun _ => ?_)
    · skip
      refine lv_lconst hx hb dL_popup_17 rfl ?_
      refine gl_l (Z := (gW Z y1)) Z rfl rfl (pM.to (gW Z y1) rfl M) V I1 K1 L1 (g1.is h188) (by rw [(g1 188 h188.1).2.2.1, n188]; exact pi_in (by decide)) dL_popup_18 (fun y2 H locs g2 K2 I2 L2 e2 V => ?_)
      refine lv_goto (tgt := 30) hx hb dL_popup_19 (by decide) ?_
      refine lv_iconst (v := 0) hx hb dL_popup_30 (by decide) ?_
      exact vx_ret (ge_i (Z := Z) (Z' := (gW Z y2)) (pM.to (gW Z y2) rfl M) V rfl rfl hr hlk rfl ⟨(g1.tr g2), K2, I2, (A1.wk (by decide)), ⟨by omega, by omega, by omega⟩, L2, ⟨f0, f1, (by rw [A1.get 2 4 (by decide)]; exact Int.le_refl _)⟩⟩ (g_rx (by omega) (by omega) K2.ph) dL_popup_31)
    · skip
      refine lv_lconst hx hb dL_popup_13 rfl ?_
      refine lv_goto (tgt := 18) hx hb dL_popup_14 (by decide) ?_
      refine gl_l (Z := (gW Z y1)) Z rfl rfl (pM.to (gW Z y1) rfl M) V I1 K1 L1 (g1.is h188) (by rw [(g1 188 h188.1).2.2.1, n188]; exact pi_in (by decide)) dL_popup_18 (fun y2 H locs g2 K2 I2 L2 e2 V => ?_)
      refine lv_goto (tgt := 30) hx hb dL_popup_19 (by decide) ?_
      refine lv_iconst (v := 0) hx hb dL_popup_30 (by decide) ?_
      exact vx_ret (ge_i (Z := Z) (Z' := (gW Z y2)) (pM.to (gW Z y2) rfl M) V rfl rfl hr hlk rfl ⟨(g1.tr g2), K2, I2, (A1.wk (by decide)), ⟨by omega, by omega, by omega⟩, L2, ⟨f0, f1, (by rw [A1.get 2 4 (by decide)]; exact Int.le_refl _)⟩⟩ (g_rx (by omega) (by omega) K2.ph) dL_popup_31)
theorem dL_close_0 : decode cL_close 0 = .ok (.aload_n 1, 1) := by decide +kernel
theorem dL_close_1 : decode cL_close 1 = .ok (.iconst 0, 1) := by decide +kernel
theorem dL_close_2 : decode cL_close 2 = .ok (.aload_n 0, 1) := by decide +kernel
theorem dL_close_3 : decode cL_close 3 = .ok (.invokevirtual 32, 3) := by decide +kernel
theorem dL_close_6 : decode cL_close 6 = .ok (.i2l, 1) := by decide +kernel
theorem dL_close_7 : decode cL_close 7 = .ok (.lastore, 1) := by decide +kernel
theorem dL_close_8 : decode cL_close 8 = .ok (.goto 6, 3) := by decide +kernel
theorem dL_close_11 : decode cL_close 11 = .ok (.astore_n 2, 1) := by decide +kernel
theorem dL_close_12 : decode cL_close 12 = .ok (.iconst 1, 1) := by decide +kernel
theorem dL_close_13 : decode cL_close 13 = .ok (.ireturn, 1) := by decide +kernel
theorem dL_close_14 : decode cL_close 14 = .ok (.iconst 0, 1) := by decide +kernel
theorem dL_close_15 : decode cL_close 15 = .ok (.ireturn, 1) := by decide +kernel
theorem km_L_close : pLW yL_close cL_close 3 (some .int) [(0, 8, 11, 13)] 2 := ⟨pT_5 85 rfl rfl, pT_1 0 (by decide +kernel) rfl, ⟨by decide +kernel, by decide +kernel, by decide +kernel⟩, pT_5 84 (by decide +kernel) rfl⟩
set_option maxHeartbeats 4000000 in
set_option maxRecDepth 100000 in
theorem m_L_close (l : Launch) (hl9 : l.stackTraces = false) {Z : pZ} (S : pSh Z) {h : pH} (I : Iv Z h)  (K : pSk Z) (L : pLk Z h)  : wMet l yL_close cL_close 3 (some .int) [(0, 8, 11, 13)] 8 (gmc Z) (gms Z) 148 Z h [.ref (zB Z + 0), .ref (zB Z + 188)] (gQi Z (fun r Z1 h1 k n => pGr Z Z1 ∧ pSk Z1 ∧ Iv Z1 h1 ∧ agrD eW h h1 ∧ (k ≤ pPh Z1 - pPh Z + 1 ∧ n ≤ 2 * (pPh Z1 - pPh Z) + 6 ∧ pPh Z ≤ pPh Z1) ∧ pLk Z1 h1 ∧ ((h1 129 2).toInt ≤ (h 129 2).toInt + 0 ∧ (h1 129 3).toInt ≤ (h 129 3).toInt + 0 ∧ (h1 2 4).toInt ≤ (h 2 4).toInt))) := by
  refine wOfW (lv := [(0, .ref (zB Z + 0)), (1, .ref (zB Z + 188))]) (by decide) (Nat.le_of_ble_eq_true rfl) rfl ?_
  intro p e s m below meth c ls M hr hlk hnm V hl htab X
  have hx := M.1.1
  have hb := M.1.2.1
  have hPm := K.ph
  have h188 : pIs Z 188 18 := S.is 188 (by decide)
  have n188 : zN Z 188 = 1 := S.n 188 (by decide) (by decide) (by decide)
  refine lv_aload_n hx hb dL_close_0 rfl (lv_at hl 1 rfl) ?_
  refine lv_iconst (v := 0) hx hb dL_close_1 (by decide) ?_
  refine lv_aload_n hx hb dL_close_2 rfl (lv_at hl 0 rfl) ?_
  refine xg_i Z rfl rfl (xr_V M V X (m_X11_close l hl9 S I  K L ) km_X11_close (c_is_0 S) pC11 lkM_L_32 rfl hl.1 rfl (Nat.le_of_ble_eq_true rfl) ⟨Nat.le_of_ble_eq_true rfl, Nat.le_of_ble_eq_true rfl⟩ ⟨Nat.le_of_eq (Nat.zero_add _), Nat.le_of_eq (Nat.zero_add _)⟩ dL_close_3) V (fun E ce q9 y1 h1 k1 n1 H locs px V w1 w2 w3 => ?_) (fun r1 y1 h1 k1 n1 H locs p1 V => ?_)
  · obtain ⟨hE, g1, K1, I1, A1, b1, L1, f0, f1⟩ := px
    subst hE
    refine xh_first (own := RL) (nm := xIS) M.1.2.2.2.1 (htab.trans rfl) rfl (by decide) (pWords M xk_LS) (X.2.2.1 _ (by decide)) w1 w2 w3 ?_
    refine lv_astore_n (lv' := [(2, .ref q9), (0, .ref (zB Z + 0)), (1, .ref (zB Z + 188))]) hx hb dL_close_11 rfl hl (by decide) rfl (fun ls hl => ?_)
    refine lv_iconst (v := 1) hx hb dL_close_12 (by decide) ?_
    exact vx_ret (ge_i (Z := Z) (Z' := (gW Z y1)) (pM.to (gW Z y1) rfl M) V rfl rfl hr hlk rfl ⟨g1, K1, I1, (A1.wk (by decide)), ⟨by omega, by omega, by omega⟩, L1, ⟨f0, f1, (by rw [A1.get 2 4 (by decide)]; exact Int.le_refl _)⟩⟩ (g_rx (by omega) (by omega) K1.ph) dL_close_13)
  · obtain ⟨g1, K1, I1, A1, b1, L1, f0, f1⟩ := p1
    refine lv_i2l hx hb dL_close_6 rfl ?_
    refine gl_l (Z := (gW Z y1)) Z rfl rfl (pM.to (gW Z y1) rfl M) V I1 K1 L1 (g1.is h188) (by rw [(g1 188 h188.1).2.2.1, n188]; exact pi_in (by decide)) dL_close_7 (fun y2 H locs g2 K2 I2 L2 e2 V => ?_)
    refine lv_goto (tgt := 14) hx hb dL_close_8 (by decide) ?_
    refine lv_iconst (v := 0) hx hb dL_close_14 (by decide) ?_
    exact vx_ret (ge_i (Z := Z) (Z' := (gW Z y2)) (pM.to (gW Z y2) rfl M) V rfl rfl hr hlk rfl ⟨(g1.tr g2), K2, I2, (A1.wk (by decide)), ⟨by omega, by omega, by omega⟩, L2, ⟨f0, f1, (by rw [A1.get 2 4 (by decide)]; exact Int.le_refl _)⟩⟩ (g_rx (by omega) (by omega) K2.ph) dL_close_15)
theorem dL_button_0 : decode cL_button 0 = .ok (.aload_n 3, 1) := by decide +kernel
theorem dL_button_1 : decode cL_button 1 = .ok (.iconst 0, 1) := by decide +kernel
theorem dL_button_2 : decode cL_button 2 = .ok (.aload_n 0, 1) := by decide +kernel
theorem dL_button_3 : decode cL_button 3 = .ok (.iload_n 1, 1) := by decide +kernel
theorem dL_button_4 : decode cL_button 4 = .ok (.iload_n 2, 1) := by decide +kernel
theorem dL_button_5 : decode cL_button 5 = .ok (.invokevirtual 35, 3) := by decide +kernel
theorem dL_button_8 : decode cL_button 8 = .ok (.ifCond .eq 7, 3) := by decide +kernel
theorem dL_button_11 : decode cL_button 11 = .ok (.lconst 1, 1) := by decide +kernel
theorem dL_button_12 : decode cL_button 12 = .ok (.goto 4, 3) := by decide +kernel
theorem dL_button_15 : decode cL_button 15 = .ok (.lconst 0, 1) := by decide +kernel
theorem dL_button_16 : decode cL_button 16 = .ok (.lastore, 1) := by decide +kernel
theorem dL_button_17 : decode cL_button 17 = .ok (.goto 11, 3) := by decide +kernel
theorem dL_button_20 : decode cL_button 20 = .ok (.astore 4, 2) := by decide +kernel
theorem dL_button_22 : decode cL_button 22 = .ok (.iconst 1, 1) := by decide +kernel
theorem dL_button_23 : decode cL_button 23 = .ok (.ireturn, 1) := by decide +kernel
theorem dL_button_24 : decode cL_button 24 = .ok (.astore 4, 2) := by decide +kernel
theorem dL_button_26 : decode cL_button 26 = .ok (.iconst 2, 1) := by decide +kernel
theorem dL_button_27 : decode cL_button 27 = .ok (.ireturn, 1) := by decide +kernel
theorem dL_button_28 : decode cL_button 28 = .ok (.iconst 0, 1) := by decide +kernel
theorem dL_button_29 : decode cL_button 29 = .ok (.ireturn, 1) := by decide +kernel
theorem km_L_button : pLW yL_button cL_button 5 (some .int) [(0, 17, 20, 22), (0, 17, 24, 13)] 4 := ⟨pT_5 117 rfl rfl, pT_1 0 (by decide +kernel) rfl, ⟨by decide +kernel, by decide +kernel, by decide +kernel⟩, pT_5 116 (by decide +kernel) rfl⟩
set_option maxHeartbeats 4000000 in
set_option maxRecDepth 100000 in
theorem m_L_button (l : Launch) (hl9 : l.stackTraces = false) {Z : pZ} (S : pSh Z) {h : pH} (I : Iv Z h) (a1 : Int32) (a2 : Int32) (K : pSk Z) (L : pLk Z h) (hq3 : (h 129 3).toInt ≤ 8900) : wMet l yL_button cL_button 5 (some .int) [(0, 17, 20, 22), (0, 17, 24, 13)] 9 (gmc Z) (gms Z) 189 Z h [.ref (zB Z + 0), .int a1, .int a2, .ref (zB Z + 188)] (gQi Z (fun r Z1 h1 k n => pGr Z Z1 ∧ pSk Z1 ∧ Iv Z1 h1 ∧ agrD eW h h1 ∧ (k ≤ pPh Z1 - pPh Z + 1 ∧ n ≤ 2 * (pPh Z1 - pPh Z) + 6 ∧ pPh Z ≤ pPh Z1) ∧ pLk Z1 h1 ∧ ((h1 129 2).toInt ≤ (h 129 2).toInt + 4 ∧ (h1 129 3).toInt ≤ (h 129 3).toInt + 4 ∧ (h1 2 4).toInt ≤ (h 2 4).toInt))) := by
  refine wOfW (lv := [(0, .ref (zB Z + 0)), (1, .int a1), (2, .int a2), (3, .ref (zB Z + 188))]) (by decide) (Nat.le_of_ble_eq_true rfl) rfl ?_
  intro p e s m below meth c ls M hr hlk hnm V hl htab X
  have hx := M.1.1
  have hb := M.1.2.1
  have hPm := K.ph
  have h188 : pIs Z 188 18 := S.is 188 (by decide)
  have n188 : zN Z 188 = 1 := S.n 188 (by decide) (by decide) (by decide)
  refine lv_aload_n hx hb dL_button_0 rfl (lv_at hl 3 rfl) ?_
  refine lv_iconst (v := 0) hx hb dL_button_1 (by decide) ?_
  refine lv_aload_n hx hb dL_button_2 rfl (lv_at hl 0 rfl) ?_
  refine lv_iload_n hx hb dL_button_3 rfl (lv_at hl 1 rfl) ?_
  refine lv_iload_n hx hb dL_button_4 rfl (lv_at hl 2 rfl) ?_
  refine xg_i Z rfl rfl (xr_V M V X (m_X11_button l hl9 S I a1 a2 K L hq3) km_X11_button (c_is_0 S) pC11 lkM_L_35 rfl hl.1 rfl (Nat.le_of_ble_eq_true rfl) ⟨Nat.le_of_ble_eq_true rfl, Nat.le_of_ble_eq_true rfl⟩ ⟨Nat.le_of_eq (Nat.zero_add _), Nat.le_of_eq (Nat.zero_add _)⟩ dL_button_5) V (fun E ce q9 y1 h1 k1 n1 H locs px V w1 w2 w3 => ?_) (fun r1 y1 h1 k1 n1 H locs p1 V => ?_)
  · obtain ⟨hE, g1, K1, I1, A1, b1, L1, f0, f1⟩ := px
    rcases hE with hE | hE
    · subst hE
      refine xh_first (own := RL) (nm := xIA) M.1.2.2.2.1 (htab.trans rfl) rfl (by decide) (pWords M xk_LA) (X.2.2.1 _ (by decide)) w1 w2 w3 ?_
      refine lv_astore (lv' := [(4, .ref q9), (0, .ref (zB Z + 0)), (1, .int a1), (2, .int a2), (3, .ref (zB Z + 188))]) hx hb dL_button_20 hl (by decide) rfl (fun ls hl => ?_)
      refine lv_iconst (v := 1) hx hb dL_button_22 (by decide) ?_
      exact vx_ret (ge_i (Z := Z) (Z' := (gW Z y1)) (pM.to (gW Z y1) rfl M) V rfl rfl hr hlk rfl ⟨g1, K1, I1, (A1.wk (by decide)), ⟨by omega, by omega, by omega⟩, L1, ⟨f0, f1, (by rw [A1.get 2 4 (by decide)]; exact Int.le_refl _)⟩⟩ (g_rx (by omega) (by omega) K1.ph) dL_button_23)
    · subst hE
      refine xh_second (own := RL) (nm := xIA) (nm1 := xIS) M.1.2.2.2.1 (htab.trans rfl) rfl (by decide) (pWords M xk_LA) X.2.2.2.2.2.2 rfl (by decide) (pWords M xk_LS) (X.2.2.1 _ (by decide)) w1 w2 w3 ?_
      refine lv_astore (lv' := [(4, .ref q9), (0, .ref (zB Z + 0)), (1, .int a1), (2, .int a2), (3, .ref (zB Z + 188))]) hx hb dL_button_24 hl (by decide) rfl (fun ls hl => ?_)
      refine lv_iconst (v := 2) hx hb dL_button_26 (by decide) ?_
      exact vx_ret (ge_i (Z := Z) (Z' := (gW Z y1)) (pM.to (gW Z y1) rfl M) V rfl rfl hr hlk rfl ⟨g1, K1, I1, (A1.wk (by decide)), ⟨by omega, by omega, by omega⟩, L1, ⟨f0, f1, (by rw [A1.get 2 4 (by decide)]; exact Int.le_refl _)⟩⟩ (g_rx (by omega) (by omega) K1.ph) dL_button_27)
  · obtain ⟨g1, K1, I1, A1, b1, L1, fz, f0, f1⟩ := p1
    refine lv_if_eq (tgt := 15) hx hb dL_button_8 (by decide) (fun _ => ?_) (fun _ => ?_)
    · skip
      refine lv_lconst hx hb dL_button_15 rfl ?_
      refine gl_l (Z := (gW Z y1)) Z rfl rfl (pM.to (gW Z y1) rfl M) V I1 K1 L1 (g1.is h188) (by rw [(g1 188 h188.1).2.2.1, n188]; exact pi_in (by decide)) dL_button_16 (fun y2 H locs g2 K2 I2 L2 e2 V => ?_)
      refine lv_goto (tgt := 28) hx hb dL_button_17 (by decide) ?_
      refine lv_iconst (v := 0) hx hb dL_button_28 (by decide) ?_
      exact vx_ret (ge_i (Z := Z) (Z' := (gW Z y2)) (pM.to (gW Z y2) rfl M) V rfl rfl hr hlk rfl ⟨(g1.tr g2), K2, I2, (A1.wk (by decide)), ⟨by omega, by omega, by omega⟩, L2, ⟨f0, f1, (by rw [A1.get 2 4 (by decide)]; exact Int.le_refl _)⟩⟩ (g_rx (by omega) (by omega) K2.ph) dL_button_29)
    · skip
      refine lv_lconst hx hb dL_button_11 rfl ?_
      refine lv_goto (tgt := 16) hx hb dL_button_12 (by decide) ?_
      refine gl_l (Z := (gW Z y1)) Z rfl rfl (pM.to (gW Z y1) rfl M) V I1 K1 L1 (g1.is h188) (by rw [(g1 188 h188.1).2.2.1, n188]; exact pi_in (by decide)) dL_button_16 (fun y2 H locs g2 K2 I2 L2 e2 V => ?_)
      refine lv_goto (tgt := 28) hx hb dL_button_17 (by decide) ?_
      refine lv_iconst (v := 0) hx hb dL_button_28 (by decide) ?_
      exact vx_ret (ge_i (Z := Z) (Z' := (gW Z y2)) (pM.to (gW Z y2) rfl M) V rfl rfl hr hlk rfl ⟨(g1.tr g2), K2, I2, (A1.wk (by decide)), ⟨by omega, by omega, by omega⟩, L2, ⟨f0, f1, (by rw [A1.get 2 4 (by decide)]; exact Int.le_refl _)⟩⟩ (g_rx (by omega) (by omega) K2.ph) dL_button_29)
theorem dL_check_0 : decode cL_check 0 = .ok (.aload_n 2, 1) := by decide +kernel
theorem dL_check_1 : decode cL_check 1 = .ok (.iconst 0, 1) := by decide +kernel
theorem dL_check_2 : decode cL_check 2 = .ok (.aload_n 0, 1) := by decide +kernel
theorem dL_check_3 : decode cL_check 3 = .ok (.iload_n 1, 1) := by decide +kernel
theorem dL_check_4 : decode cL_check 4 = .ok (.invokevirtual 39, 3) := by decide +kernel
theorem dL_check_7 : decode cL_check 7 = .ok (.i2l, 1) := by decide +kernel
theorem dL_check_8 : decode cL_check 8 = .ok (.lastore, 1) := by decide +kernel
theorem dL_check_9 : decode cL_check 9 = .ok (.goto 9, 3) := by decide +kernel
theorem dL_check_12 : decode cL_check 12 = .ok (.astore_n 3, 1) := by decide +kernel
theorem dL_check_13 : decode cL_check 13 = .ok (.iconst 1, 1) := by decide +kernel
theorem dL_check_14 : decode cL_check 14 = .ok (.ireturn, 1) := by decide +kernel
theorem dL_check_15 : decode cL_check 15 = .ok (.astore_n 3, 1) := by decide +kernel
theorem dL_check_16 : decode cL_check 16 = .ok (.iconst 2, 1) := by decide +kernel
theorem dL_check_17 : decode cL_check 17 = .ok (.ireturn, 1) := by decide +kernel
theorem dL_check_18 : decode cL_check 18 = .ok (.iconst 0, 1) := by decide +kernel
theorem dL_check_19 : decode cL_check 19 = .ok (.ireturn, 1) := by decide +kernel
theorem km_L_check : pLW yL_check cL_check 4 (some .int) [(0, 9, 12, 22), (0, 9, 15, 13)] 3 := ⟨pT_5 182 rfl rfl, pT_1 0 (by decide +kernel) rfl, ⟨by decide +kernel, by decide +kernel, by decide +kernel⟩, pT_5 181 (by decide +kernel) rfl⟩
set_option maxHeartbeats 4000000 in
set_option maxRecDepth 100000 in
theorem m_L_check (l : Launch) (hl9 : l.stackTraces = false) {Z : pZ} (S : pSh Z) {h : pH} (I : Iv Z h) (a1 : Int32) (K : pSk Z) (L : pLk Z h) (hq3 : (h 129 3).toInt ≤ 8900) : wMet l yL_check cL_check 4 (some .int) [(0, 9, 12, 22), (0, 9, 15, 13)] 9 (gmc Z) (gms Z) 169 Z h [.ref (zB Z + 0), .int a1, .ref (zB Z + 188)] (gQi Z (fun r Z1 h1 k n => pGr Z Z1 ∧ pSk Z1 ∧ Iv Z1 h1 ∧ agrD eW h h1 ∧ (k ≤ pPh Z1 - pPh Z + 1 ∧ n ≤ 2 * (pPh Z1 - pPh Z) + 6 ∧ pPh Z ≤ pPh Z1) ∧ pLk Z1 h1 ∧ ((h1 129 2).toInt ≤ (h 129 2).toInt + 1 ∧ (h1 129 3).toInt ≤ (h 129 3).toInt + 1 ∧ (h1 2 4).toInt ≤ (h 2 4).toInt))) := by
  refine wOfW (lv := [(0, .ref (zB Z + 0)), (1, .int a1), (2, .ref (zB Z + 188))]) (by decide) (Nat.le_of_ble_eq_true rfl) rfl ?_
  intro p e s m below meth c ls M hr hlk hnm V hl htab X
  have hx := M.1.1
  have hb := M.1.2.1
  have hPm := K.ph
  have h188 : pIs Z 188 18 := S.is 188 (by decide)
  have n188 : zN Z 188 = 1 := S.n 188 (by decide) (by decide) (by decide)
  refine lv_aload_n hx hb dL_check_0 rfl (lv_at hl 2 rfl) ?_
  refine lv_iconst (v := 0) hx hb dL_check_1 (by decide) ?_
  refine lv_aload_n hx hb dL_check_2 rfl (lv_at hl 0 rfl) ?_
  refine lv_iload_n hx hb dL_check_3 rfl (lv_at hl 1 rfl) ?_
  refine xg_i Z rfl rfl (xr_V M V X (m_X11_check l hl9 S I a1 K L hq3) km_X11_check (c_is_0 S) pC11 lkM_L_39 rfl hl.1 rfl (Nat.le_of_ble_eq_true rfl) ⟨Nat.le_of_ble_eq_true rfl, Nat.le_of_ble_eq_true rfl⟩ ⟨Nat.le_of_eq (Nat.zero_add _), Nat.le_of_eq (Nat.zero_add _)⟩ dL_check_4) V (fun E ce q9 y1 h1 k1 n1 H locs px V w1 w2 w3 => ?_) (fun r1 y1 h1 k1 n1 H locs p1 V => ?_)
  · obtain ⟨hE, g1, K1, I1, A1, b1, L1, f0, f1⟩ := px
    rcases hE with hE | hE
    · subst hE
      refine xh_first (own := RL) (nm := xIA) M.1.2.2.2.1 (htab.trans rfl) rfl (by decide) (pWords M xk_LA) (X.2.2.1 _ (by decide)) w1 w2 w3 ?_
      refine lv_astore_n (lv' := [(3, .ref q9), (0, .ref (zB Z + 0)), (1, .int a1), (2, .ref (zB Z + 188))]) hx hb dL_check_12 rfl hl (by decide) rfl (fun ls hl => ?_)
      refine lv_iconst (v := 1) hx hb dL_check_13 (by decide) ?_
      exact vx_ret (ge_i (Z := Z) (Z' := (gW Z y1)) (pM.to (gW Z y1) rfl M) V rfl rfl hr hlk rfl ⟨g1, K1, I1, (A1.wk (by decide)), ⟨by omega, by omega, by omega⟩, L1, ⟨f0, f1, (by rw [A1.get 2 4 (by decide)]; exact Int.le_refl _)⟩⟩ (g_rx (by omega) (by omega) K1.ph) dL_check_14)
    · subst hE
      refine xh_second (own := RL) (nm := xIA) (nm1 := xIS) M.1.2.2.2.1 (htab.trans rfl) rfl (by decide) (pWords M xk_LA) X.2.2.2.2.2.2 rfl (by decide) (pWords M xk_LS) (X.2.2.1 _ (by decide)) w1 w2 w3 ?_
      refine lv_astore_n (lv' := [(3, .ref q9), (0, .ref (zB Z + 0)), (1, .int a1), (2, .ref (zB Z + 188))]) hx hb dL_check_15 rfl hl (by decide) rfl (fun ls hl => ?_)
      refine lv_iconst (v := 2) hx hb dL_check_16 (by decide) ?_
      exact vx_ret (ge_i (Z := Z) (Z' := (gW Z y1)) (pM.to (gW Z y1) rfl M) V rfl rfl hr hlk rfl ⟨g1, K1, I1, (A1.wk (by decide)), ⟨by omega, by omega, by omega⟩, L1, ⟨f0, f1, (by rw [A1.get 2 4 (by decide)]; exact Int.le_refl _)⟩⟩ (g_rx (by omega) (by omega) K1.ph) dL_check_17)
  · obtain ⟨g1, K1, I1, A1, b1, L1, f0, f1⟩ := p1
    refine lv_i2l hx hb dL_check_7 rfl ?_
    refine gl_l (Z := (gW Z y1)) Z rfl rfl (pM.to (gW Z y1) rfl M) V I1 K1 L1 (g1.is h188) (by rw [(g1 188 h188.1).2.2.1, n188]; exact pi_in (by decide)) dL_check_8 (fun y2 H locs g2 K2 I2 L2 e2 V => ?_)
    refine lv_goto (tgt := 18) hx hb dL_check_9 (by decide) ?_
    refine lv_iconst (v := 0) hx hb dL_check_18 (by decide) ?_
    exact vx_ret (ge_i (Z := Z) (Z' := (gW Z y2)) (pM.to (gW Z y2) rfl M) V rfl rfl hr hlk rfl ⟨(g1.tr g2), K2, I2, (A1.wk (by decide)), ⟨by omega, by omega, by omega⟩, L2, ⟨f0, f1, (by rw [A1.get 2 4 (by decide)]; exact Int.le_refl _)⟩⟩ (g_rx (by omega) (by omega) K2.ph) dL_check_19)
theorem dL_slider_0 : decode cL_slider 0 = .ok (.aload 5, 2) := by decide +kernel
theorem dL_slider_2 : decode cL_slider 2 = .ok (.iconst 0, 1) := by decide +kernel
theorem dL_slider_3 : decode cL_slider 3 = .ok (.aload_n 0, 1) := by decide +kernel
theorem dL_slider_4 : decode cL_slider 4 = .ok (.iload_n 1, 1) := by decide +kernel
theorem dL_slider_5 : decode cL_slider 5 = .ok (.iload_n 2, 1) := by decide +kernel
theorem dL_slider_6 : decode cL_slider 6 = .ok (.iload_n 3, 1) := by decide +kernel
theorem dL_slider_7 : decode cL_slider 7 = .ok (.iload 4, 2) := by decide +kernel
theorem dL_slider_9 : decode cL_slider 9 = .ok (.invokevirtual 43, 3) := by decide +kernel
theorem dL_slider_12 : decode cL_slider 12 = .ok (.i2l, 1) := by decide +kernel
theorem dL_slider_13 : decode cL_slider 13 = .ok (.lastore, 1) := by decide +kernel
theorem dL_slider_14 : decode cL_slider 14 = .ok (.goto 11, 3) := by decide +kernel
theorem dL_slider_17 : decode cL_slider 17 = .ok (.astore 6, 2) := by decide +kernel
theorem dL_slider_19 : decode cL_slider 19 = .ok (.iconst 1, 1) := by decide +kernel
theorem dL_slider_20 : decode cL_slider 20 = .ok (.ireturn, 1) := by decide +kernel
theorem dL_slider_21 : decode cL_slider 21 = .ok (.astore 6, 2) := by decide +kernel
theorem dL_slider_23 : decode cL_slider 23 = .ok (.iconst 2, 1) := by decide +kernel
theorem dL_slider_24 : decode cL_slider 24 = .ok (.ireturn, 1) := by decide +kernel
theorem dL_slider_25 : decode cL_slider 25 = .ok (.iconst 0, 1) := by decide +kernel
theorem dL_slider_26 : decode cL_slider 26 = .ok (.ireturn, 1) := by decide +kernel
theorem km_L_slider : pLW yL_slider cL_slider 7 (some .int) [(0, 14, 17, 22), (0, 14, 21, 13)] 6 := ⟨pT_5 202 rfl rfl, pT_1 0 (by decide +kernel) rfl, ⟨by decide +kernel, by decide +kernel, by decide +kernel⟩, pT_5 201 (by decide +kernel) rfl⟩
set_option maxHeartbeats 4000000 in
set_option maxRecDepth 100000 in
theorem m_L_slider (l : Launch) (hl9 : l.stackTraces = false) {Z : pZ} (S : pSh Z) {h : pH} (I : Iv Z h) (a1 : Int32) (a2 : Int32) (a3 : Int32) (a4 : Int32) (K : pSk Z) (L : pLk Z h) (hq3 : (h 129 3).toInt ≤ 8900) : wMet l yL_slider cL_slider 7 (some .int) [(0, 14, 17, 22), (0, 14, 21, 13)] 9 (gmc Z) (gms Z) 191 Z h [.ref (zB Z + 0), .int a1, .int a2, .int a3, .int a4, .ref (zB Z + 188)] (gQi Z (fun r Z1 h1 k n => pGr Z Z1 ∧ pSk Z1 ∧ Iv Z1 h1 ∧ agrD eW h h1 ∧ (k ≤ pPh Z1 - pPh Z + 1 ∧ n ≤ 2 * (pPh Z1 - pPh Z) + 6 ∧ pPh Z ≤ pPh Z1) ∧ pLk Z1 h1 ∧ ((h1 129 2).toInt ≤ (h 129 2).toInt + 4 ∧ (h1 129 3).toInt ≤ (h 129 3).toInt + 4 ∧ (h1 2 4).toInt ≤ (h 2 4).toInt))) := by
  refine wOfW (lv := [(0, .ref (zB Z + 0)), (1, .int a1), (2, .int a2), (3, .int a3), (4, .int a4), (5, .ref (zB Z + 188))]) (by decide) (Nat.le_of_ble_eq_true rfl) rfl ?_
  intro p e s m below meth c ls M hr hlk hnm V hl htab X
  have hx := M.1.1
  have hb := M.1.2.1
  have hPm := K.ph
  have h188 : pIs Z 188 18 := S.is 188 (by decide)
  have n188 : zN Z 188 = 1 := S.n 188 (by decide) (by decide) (by decide)
  refine lv_aload hx hb dL_slider_0 (lv_at hl 5 rfl) ?_
  refine lv_iconst (v := 0) hx hb dL_slider_2 (by decide) ?_
  refine lv_aload_n hx hb dL_slider_3 rfl (lv_at hl 0 rfl) ?_
  refine lv_iload_n hx hb dL_slider_4 rfl (lv_at hl 1 rfl) ?_
  refine lv_iload_n hx hb dL_slider_5 rfl (lv_at hl 2 rfl) ?_
  refine lv_iload_n hx hb dL_slider_6 rfl (lv_at hl 3 rfl) ?_
  refine lv_iload hx hb dL_slider_7 (lv_at hl 4 rfl) ?_
  refine xg_i Z rfl rfl (xr_V M V X (m_X11_slider l hl9 S I a1 a2 a3 a4 K L hq3) km_X11_slider (c_is_0 S) pC11 lkM_L_43 rfl hl.1 rfl (Nat.le_of_ble_eq_true rfl) ⟨Nat.le_of_ble_eq_true rfl, Nat.le_of_ble_eq_true rfl⟩ ⟨Nat.le_of_eq (Nat.zero_add _), Nat.le_of_eq (Nat.zero_add _)⟩ dL_slider_9) V (fun E ce q9 y1 h1 k1 n1 H locs px V w1 w2 w3 => ?_) (fun r1 y1 h1 k1 n1 H locs p1 V => ?_)
  · obtain ⟨hE, g1, K1, I1, A1, b1, L1, f0, f1⟩ := px
    rcases hE with hE | hE
    · subst hE
      refine xh_first (own := RL) (nm := xIA) M.1.2.2.2.1 (htab.trans rfl) rfl (by decide) (pWords M xk_LA) (X.2.2.1 _ (by decide)) w1 w2 w3 ?_
      refine lv_astore (lv' := [(6, .ref q9), (0, .ref (zB Z + 0)), (1, .int a1), (2, .int a2), (3, .int a3), (4, .int a4), (5, .ref (zB Z + 188))]) hx hb dL_slider_17 hl (by decide) rfl (fun ls hl => ?_)
      refine lv_iconst (v := 1) hx hb dL_slider_19 (by decide) ?_
      exact vx_ret (ge_i (Z := Z) (Z' := (gW Z y1)) (pM.to (gW Z y1) rfl M) V rfl rfl hr hlk rfl ⟨g1, K1, I1, (A1.wk (by decide)), ⟨by omega, by omega, by omega⟩, L1, ⟨f0, f1, (by rw [A1.get 2 4 (by decide)]; exact Int.le_refl _)⟩⟩ (g_rx (by omega) (by omega) K1.ph) dL_slider_20)
    · subst hE
      refine xh_second (own := RL) (nm := xIA) (nm1 := xIS) M.1.2.2.2.1 (htab.trans rfl) rfl (by decide) (pWords M xk_LA) X.2.2.2.2.2.2 rfl (by decide) (pWords M xk_LS) (X.2.2.1 _ (by decide)) w1 w2 w3 ?_
      refine lv_astore (lv' := [(6, .ref q9), (0, .ref (zB Z + 0)), (1, .int a1), (2, .int a2), (3, .int a3), (4, .int a4), (5, .ref (zB Z + 188))]) hx hb dL_slider_21 hl (by decide) rfl (fun ls hl => ?_)
      refine lv_iconst (v := 2) hx hb dL_slider_23 (by decide) ?_
      exact vx_ret (ge_i (Z := Z) (Z' := (gW Z y1)) (pM.to (gW Z y1) rfl M) V rfl rfl hr hlk rfl ⟨g1, K1, I1, (A1.wk (by decide)), ⟨by omega, by omega, by omega⟩, L1, ⟨f0, f1, (by rw [A1.get 2 4 (by decide)]; exact Int.le_refl _)⟩⟩ (g_rx (by omega) (by omega) K1.ph) dL_slider_24)
  · obtain ⟨g1, K1, I1, A1, b1, L1, f0, f1⟩ := p1
    refine lv_i2l hx hb dL_slider_12 rfl ?_
    refine gl_l (Z := (gW Z y1)) Z rfl rfl (pM.to (gW Z y1) rfl M) V I1 K1 L1 (g1.is h188) (by rw [(g1 188 h188.1).2.2.1, n188]; exact pi_in (by decide)) dL_slider_13 (fun y2 H locs g2 K2 I2 L2 e2 V => ?_)
    refine lv_goto (tgt := 25) hx hb dL_slider_14 (by decide) ?_
    refine lv_iconst (v := 0) hx hb dL_slider_25 (by decide) ?_
    exact vx_ret (ge_i (Z := Z) (Z' := (gW Z y2)) (pM.to (gW Z y2) rfl M) V rfl rfl hr hlk rfl ⟨(g1.tr g2), K2, I2, (A1.wk (by decide)), ⟨by omega, by omega, by omega⟩, L2, ⟨f0, f1, (by rw [A1.get 2 4 (by decide)]; exact Int.le_refl _)⟩⟩ (g_rx (by omega) (by omega) K2.ph) dL_slider_26)
theorem dL_field_0 : decode cL_field 0 = .ok (.aload_n 3, 1) := by decide +kernel
theorem dL_field_1 : decode cL_field 1 = .ok (.iconst 0, 1) := by decide +kernel
theorem dL_field_2 : decode cL_field 2 = .ok (.aload_n 0, 1) := by decide +kernel
theorem dL_field_3 : decode cL_field 3 = .ok (.iload_n 1, 1) := by decide +kernel
theorem dL_field_4 : decode cL_field 4 = .ok (.iload_n 2, 1) := by decide +kernel
theorem dL_field_5 : decode cL_field 5 = .ok (.invokevirtual 47, 3) := by decide +kernel
theorem dL_field_8 : decode cL_field 8 = .ok (.i2l, 1) := by decide +kernel
theorem dL_field_9 : decode cL_field 9 = .ok (.lastore, 1) := by decide +kernel
theorem dL_field_10 : decode cL_field 10 = .ok (.goto 11, 3) := by decide +kernel
theorem dL_field_13 : decode cL_field 13 = .ok (.astore 4, 2) := by decide +kernel
theorem dL_field_15 : decode cL_field 15 = .ok (.iconst 1, 1) := by decide +kernel
theorem dL_field_16 : decode cL_field 16 = .ok (.ireturn, 1) := by decide +kernel
theorem dL_field_17 : decode cL_field 17 = .ok (.astore 4, 2) := by decide +kernel
theorem dL_field_19 : decode cL_field 19 = .ok (.iconst 2, 1) := by decide +kernel
theorem dL_field_20 : decode cL_field 20 = .ok (.ireturn, 1) := by decide +kernel
theorem dL_field_21 : decode cL_field 21 = .ok (.iconst 0, 1) := by decide +kernel
theorem dL_field_22 : decode cL_field 22 = .ok (.ireturn, 1) := by decide +kernel
theorem km_L_field : pLW yL_field cL_field 5 (some .int) [(0, 10, 13, 22), (0, 10, 17, 13)] 4 := ⟨pT_5 216 rfl rfl, pT_1 0 (by decide +kernel) rfl, ⟨by decide +kernel, by decide +kernel, by decide +kernel⟩, pT_5 215 (by decide +kernel) rfl⟩
set_option maxHeartbeats 4000000 in
set_option maxRecDepth 100000 in
theorem m_L_field (l : Launch) (hl9 : l.stackTraces = false) {Z : pZ} (S : pSh Z) {h : pH} (I : Iv Z h) (a1 : Int32) (a2 : Int32) (K : pSk Z) (L : pLk Z h) (hq3 : (h 129 3).toInt ≤ 8900) : wMet l yL_field cL_field 5 (some .int) [(0, 10, 13, 22), (0, 10, 17, 13)] 9 (gmc Z) (gms Z) 172 Z h [.ref (zB Z + 0), .int a1, .int a2, .ref (zB Z + 188)] (gQi Z (fun r Z1 h1 k n => pGr Z Z1 ∧ pSk Z1 ∧ Iv Z1 h1 ∧ agrD eW h h1 ∧ (k ≤ pPh Z1 - pPh Z + 1 ∧ n ≤ 2 * (pPh Z1 - pPh Z) + 6 ∧ pPh Z ≤ pPh Z1) ∧ pLk Z1 h1 ∧ ((h1 129 2).toInt ≤ (h 129 2).toInt + 13 ∧ (h1 129 3).toInt ≤ (h 129 3).toInt + 13 ∧ (h1 2 4).toInt ≤ (h 2 4).toInt))) := by
  refine wOfW (lv := [(0, .ref (zB Z + 0)), (1, .int a1), (2, .int a2), (3, .ref (zB Z + 188))]) (by decide) (Nat.le_of_ble_eq_true rfl) rfl ?_
  intro p e s m below meth c ls M hr hlk hnm V hl htab X
  have hx := M.1.1
  have hb := M.1.2.1
  have hPm := K.ph
  have h188 : pIs Z 188 18 := S.is 188 (by decide)
  have n188 : zN Z 188 = 1 := S.n 188 (by decide) (by decide) (by decide)
  refine lv_aload_n hx hb dL_field_0 rfl (lv_at hl 3 rfl) ?_
  refine lv_iconst (v := 0) hx hb dL_field_1 (by decide) ?_
  refine lv_aload_n hx hb dL_field_2 rfl (lv_at hl 0 rfl) ?_
  refine lv_iload_n hx hb dL_field_3 rfl (lv_at hl 1 rfl) ?_
  refine lv_iload_n hx hb dL_field_4 rfl (lv_at hl 2 rfl) ?_
  refine xg_i Z rfl rfl (xr_V M V X (m_X11_field l hl9 S I a1 a2 K L hq3) km_X11_field (c_is_0 S) pC11 lkM_L_47 rfl hl.1 rfl (Nat.le_of_ble_eq_true rfl) ⟨Nat.le_of_ble_eq_true rfl, Nat.le_of_ble_eq_true rfl⟩ ⟨Nat.le_of_eq (Nat.zero_add _), Nat.le_of_eq (Nat.zero_add _)⟩ dL_field_5) V (fun E ce q9 y1 h1 k1 n1 H locs px V w1 w2 w3 => ?_) (fun r1 y1 h1 k1 n1 H locs p1 V => ?_)
  · obtain ⟨hE, g1, K1, I1, A1, b1, L1, f0, f1⟩ := px
    rcases hE with hE | hE
    · subst hE
      refine xh_first (own := RL) (nm := xIA) M.1.2.2.2.1 (htab.trans rfl) rfl (by decide) (pWords M xk_LA) (X.2.2.1 _ (by decide)) w1 w2 w3 ?_
      refine lv_astore (lv' := [(4, .ref q9), (0, .ref (zB Z + 0)), (1, .int a1), (2, .int a2), (3, .ref (zB Z + 188))]) hx hb dL_field_13 hl (by decide) rfl (fun ls hl => ?_)
      refine lv_iconst (v := 1) hx hb dL_field_15 (by decide) ?_
      exact vx_ret (ge_i (Z := Z) (Z' := (gW Z y1)) (pM.to (gW Z y1) rfl M) V rfl rfl hr hlk rfl ⟨g1, K1, I1, (A1.wk (by decide)), ⟨by omega, by omega, by omega⟩, L1, ⟨f0, f1, (by rw [A1.get 2 4 (by decide)]; exact Int.le_refl _)⟩⟩ (g_rx (by omega) (by omega) K1.ph) dL_field_16)
    · subst hE
      refine xh_second (own := RL) (nm := xIA) (nm1 := xIS) M.1.2.2.2.1 (htab.trans rfl) rfl (by decide) (pWords M xk_LA) X.2.2.2.2.2.2 rfl (by decide) (pWords M xk_LS) (X.2.2.1 _ (by decide)) w1 w2 w3 ?_
      refine lv_astore (lv' := [(4, .ref q9), (0, .ref (zB Z + 0)), (1, .int a1), (2, .int a2), (3, .ref (zB Z + 188))]) hx hb dL_field_17 hl (by decide) rfl (fun ls hl => ?_)
      refine lv_iconst (v := 2) hx hb dL_field_19 (by decide) ?_
      exact vx_ret (ge_i (Z := Z) (Z' := (gW Z y1)) (pM.to (gW Z y1) rfl M) V rfl rfl hr hlk rfl ⟨g1, K1, I1, (A1.wk (by decide)), ⟨by omega, by omega, by omega⟩, L1, ⟨f0, f1, (by rw [A1.get 2 4 (by decide)]; exact Int.le_refl _)⟩⟩ (g_rx (by omega) (by omega) K1.ph) dL_field_20)
  · obtain ⟨g1, K1, I1, A1, b1, L1, f0, f1⟩ := p1
    refine lv_i2l hx hb dL_field_8 rfl ?_
    refine gl_l (Z := (gW Z y1)) Z rfl rfl (pM.to (gW Z y1) rfl M) V I1 K1 L1 (g1.is h188) (by rw [(g1 188 h188.1).2.2.1, n188]; exact pi_in (by decide)) dL_field_9 (fun y2 H locs g2 K2 I2 L2 e2 V => ?_)
    refine lv_goto (tgt := 21) hx hb dL_field_10 (by decide) ?_
    refine lv_iconst (v := 0) hx hb dL_field_21 (by decide) ?_
    exact vx_ret (ge_i (Z := Z) (Z' := (gW Z y2)) (pM.to (gW Z y2) rfl M) V rfl rfl hr hlk rfl ⟨(g1.tr g2), K2, I2, (A1.wk (by decide)), ⟨by omega, by omega, by omega⟩, L2, ⟨f0, f1, (by rw [A1.get 2 4 (by decide)]; exact Int.le_refl _)⟩⟩ (g_rx (by omega) (by omega) K2.ph) dL_field_22)
theorem dL_tree_0 : decode cL_tree 0 = .ok (.aload_n 3, 1) := by decide +kernel
theorem dL_tree_1 : decode cL_tree 1 = .ok (.iconst 0, 1) := by decide +kernel
theorem dL_tree_2 : decode cL_tree 2 = .ok (.aload_n 0, 1) := by decide +kernel
theorem dL_tree_3 : decode cL_tree 3 = .ok (.iload_n 1, 1) := by decide +kernel
theorem dL_tree_4 : decode cL_tree 4 = .ok (.iload_n 2, 1) := by decide +kernel
theorem dL_tree_5 : decode cL_tree 5 = .ok (.invokevirtual 51, 3) := by decide +kernel
theorem dL_tree_8 : decode cL_tree 8 = .ok (.ifCond .eq 7, 3) := by decide +kernel
theorem dL_tree_11 : decode cL_tree 11 = .ok (.lconst 1, 1) := by decide +kernel
theorem dL_tree_12 : decode cL_tree 12 = .ok (.goto 4, 3) := by decide +kernel
theorem dL_tree_15 : decode cL_tree 15 = .ok (.lconst 0, 1) := by decide +kernel
theorem dL_tree_16 : decode cL_tree 16 = .ok (.lastore, 1) := by decide +kernel
theorem dL_tree_17 : decode cL_tree 17 = .ok (.goto 11, 3) := by decide +kernel
theorem dL_tree_20 : decode cL_tree 20 = .ok (.astore 4, 2) := by decide +kernel
theorem dL_tree_22 : decode cL_tree 22 = .ok (.iconst 1, 1) := by decide +kernel
theorem dL_tree_23 : decode cL_tree 23 = .ok (.ireturn, 1) := by decide +kernel
theorem dL_tree_24 : decode cL_tree 24 = .ok (.astore 4, 2) := by decide +kernel
theorem dL_tree_26 : decode cL_tree 26 = .ok (.iconst 2, 1) := by decide +kernel
theorem dL_tree_27 : decode cL_tree 27 = .ok (.ireturn, 1) := by decide +kernel
theorem dL_tree_28 : decode cL_tree 28 = .ok (.iconst 0, 1) := by decide +kernel
theorem dL_tree_29 : decode cL_tree 29 = .ok (.ireturn, 1) := by decide +kernel
theorem km_L_tree : pLW yL_tree cL_tree 5 (some .int) [(0, 17, 20, 22), (0, 17, 24, 13)] 4 := ⟨pT_6 5 rfl rfl, pT_1 0 (by decide +kernel) rfl, ⟨by decide +kernel, by decide +kernel, by decide +kernel⟩, pT_6 4 (by decide +kernel) rfl⟩
set_option maxHeartbeats 4000000 in
set_option maxRecDepth 100000 in
theorem m_L_tree (l : Launch) (hl9 : l.stackTraces = false) {Z : pZ} (S : pSh Z) {h : pH} (I : Iv Z h) (a1 : Int32) (a2 : Int32) (K : pSk Z) (L : pLk Z h) (hq3 : (h 129 3).toInt ≤ 8900) : wMet l yL_tree cL_tree 5 (some .int) [(0, 17, 20, 22), (0, 17, 24, 13)] 9 (gmc Z) (gms Z) 188 Z h [.ref (zB Z + 0), .int a1, .int a2, .ref (zB Z + 188)] (gQi Z (fun r Z1 h1 k n => pGr Z Z1 ∧ pSk Z1 ∧ Iv Z1 h1 ∧ agrD eW h h1 ∧ (k ≤ pPh Z1 - pPh Z + 1 ∧ n ≤ 2 * (pPh Z1 - pPh Z) + 6 ∧ pPh Z ≤ pPh Z1) ∧ pLk Z1 h1 ∧ ((h1 129 2).toInt ≤ (h 129 2).toInt + 4 ∧ (h1 129 3).toInt ≤ (h 129 3).toInt + 4 ∧ (h1 2 4).toInt ≤ (h 2 4).toInt))) := by
  refine wOfW (lv := [(0, .ref (zB Z + 0)), (1, .int a1), (2, .int a2), (3, .ref (zB Z + 188))]) (by decide) (Nat.le_of_ble_eq_true rfl) rfl ?_
  intro p e s m below meth c ls M hr hlk hnm V hl htab X
  have hx := M.1.1
  have hb := M.1.2.1
  have hPm := K.ph
  have h188 : pIs Z 188 18 := S.is 188 (by decide)
  have n188 : zN Z 188 = 1 := S.n 188 (by decide) (by decide) (by decide)
  refine lv_aload_n hx hb dL_tree_0 rfl (lv_at hl 3 rfl) ?_
  refine lv_iconst (v := 0) hx hb dL_tree_1 (by decide) ?_
  refine lv_aload_n hx hb dL_tree_2 rfl (lv_at hl 0 rfl) ?_
  refine lv_iload_n hx hb dL_tree_3 rfl (lv_at hl 1 rfl) ?_
  refine lv_iload_n hx hb dL_tree_4 rfl (lv_at hl 2 rfl) ?_
  refine xg_i Z rfl rfl (xr_V M V X (m_X11_tree l hl9 S I a1 a2 K L hq3) km_X11_tree (c_is_0 S) pC11 lkM_L_51 rfl hl.1 rfl (Nat.le_of_ble_eq_true rfl) ⟨Nat.le_of_ble_eq_true rfl, Nat.le_of_ble_eq_true rfl⟩ ⟨Nat.le_of_eq (Nat.zero_add _), Nat.le_of_eq (Nat.zero_add _)⟩ dL_tree_5) V (fun E ce q9 y1 h1 k1 n1 H locs px V w1 w2 w3 => ?_) (fun r1 y1 h1 k1 n1 H locs p1 V => ?_)
  · obtain ⟨hE, g1, K1, I1, A1, b1, L1, f0, f1⟩ := px
    rcases hE with hE | hE
    · subst hE
      refine xh_first (own := RL) (nm := xIA) M.1.2.2.2.1 (htab.trans rfl) rfl (by decide) (pWords M xk_LA) (X.2.2.1 _ (by decide)) w1 w2 w3 ?_
      refine lv_astore (lv' := [(4, .ref q9), (0, .ref (zB Z + 0)), (1, .int a1), (2, .int a2), (3, .ref (zB Z + 188))]) hx hb dL_tree_20 hl (by decide) rfl (fun ls hl => ?_)
      refine lv_iconst (v := 1) hx hb dL_tree_22 (by decide) ?_
      exact vx_ret (ge_i (Z := Z) (Z' := (gW Z y1)) (pM.to (gW Z y1) rfl M) V rfl rfl hr hlk rfl ⟨g1, K1, I1, (A1.wk (by decide)), ⟨by omega, by omega, by omega⟩, L1, ⟨f0, f1, (by rw [A1.get 2 4 (by decide)]; exact Int.le_refl _)⟩⟩ (g_rx (by omega) (by omega) K1.ph) dL_tree_23)
    · subst hE
      refine xh_second (own := RL) (nm := xIA) (nm1 := xIS) M.1.2.2.2.1 (htab.trans rfl) rfl (by decide) (pWords M xk_LA) X.2.2.2.2.2.2 rfl (by decide) (pWords M xk_LS) (X.2.2.1 _ (by decide)) w1 w2 w3 ?_
      refine lv_astore (lv' := [(4, .ref q9), (0, .ref (zB Z + 0)), (1, .int a1), (2, .int a2), (3, .ref (zB Z + 188))]) hx hb dL_tree_24 hl (by decide) rfl (fun ls hl => ?_)
      refine lv_iconst (v := 2) hx hb dL_tree_26 (by decide) ?_
      exact vx_ret (ge_i (Z := Z) (Z' := (gW Z y1)) (pM.to (gW Z y1) rfl M) V rfl rfl hr hlk rfl ⟨g1, K1, I1, (A1.wk (by decide)), ⟨by omega, by omega, by omega⟩, L1, ⟨f0, f1, (by rw [A1.get 2 4 (by decide)]; exact Int.le_refl _)⟩⟩ (g_rx (by omega) (by omega) K1.ph) dL_tree_27)
  · obtain ⟨g1, K1, I1, A1, b1, L1, fz, f0, f1⟩ := p1
    refine lv_if_eq (tgt := 15) hx hb dL_tree_8 (by decide) (fun _ => ?_) (fun _ => ?_)
    · skip
      refine lv_lconst hx hb dL_tree_15 rfl ?_
      refine gl_l (Z := (gW Z y1)) Z rfl rfl (pM.to (gW Z y1) rfl M) V I1 K1 L1 (g1.is h188) (by rw [(g1 188 h188.1).2.2.1, n188]; exact pi_in (by decide)) dL_tree_16 (fun y2 H locs g2 K2 I2 L2 e2 V => ?_)
      refine lv_goto (tgt := 28) hx hb dL_tree_17 (by decide) ?_
      refine lv_iconst (v := 0) hx hb dL_tree_28 (by decide) ?_
      exact vx_ret (ge_i (Z := Z) (Z' := (gW Z y2)) (pM.to (gW Z y2) rfl M) V rfl rfl hr hlk rfl ⟨(g1.tr g2), K2, I2, (A1.wk (by decide)), ⟨by omega, by omega, by omega⟩, L2, ⟨f0, f1, (by rw [A1.get 2 4 (by decide)]; exact Int.le_refl _)⟩⟩ (g_rx (by omega) (by omega) K2.ph) dL_tree_29)
    · skip
      refine lv_lconst hx hb dL_tree_11 rfl ?_
      refine lv_goto (tgt := 16) hx hb dL_tree_12 (by decide) ?_
      refine gl_l (Z := (gW Z y1)) Z rfl rfl (pM.to (gW Z y1) rfl M) V I1 K1 L1 (g1.is h188) (by rw [(g1 188 h188.1).2.2.1, n188]; exact pi_in (by decide)) dL_tree_16 (fun y2 H locs g2 K2 I2 L2 e2 V => ?_)
      refine lv_goto (tgt := 28) hx hb dL_tree_17 (by decide) ?_
      refine lv_iconst (v := 0) hx hb dL_tree_28 (by decide) ?_
      exact vx_ret (ge_i (Z := Z) (Z' := (gW Z y2)) (pM.to (gW Z y2) rfl M) V rfl rfl hr hlk rfl ⟨(g1.tr g2), K2, I2, (A1.wk (by decide)), ⟨by omega, by omega, by omega⟩, L2, ⟨f0, f1, (by rw [A1.get 2 4 (by decide)]; exact Int.le_refl _)⟩⟩ (g_rx (by omega) (by omega) K2.ph) dL_tree_29)
theorem dL_child_0 : decode cL_child 0 = .ok (.aload_n 0, 1) := by decide +kernel
theorem dL_child_1 : decode cL_child 1 = .ok (.iload_n 1, 1) := by decide +kernel
theorem dL_child_2 : decode cL_child 2 = .ok (.iload_n 2, 1) := by decide +kernel
theorem dL_child_3 : decode cL_child 3 = .ok (.iload_n 3, 1) := by decide +kernel
theorem dL_child_4 : decode cL_child 4 = .ok (.invokevirtual 54, 3) := by decide +kernel
theorem dL_child_7 : decode cL_child 7 = .ok (.goto 11, 3) := by decide +kernel
theorem dL_child_10 : decode cL_child 10 = .ok (.astore 4, 2) := by decide +kernel
theorem dL_child_12 : decode cL_child 12 = .ok (.iconst 1, 1) := by decide +kernel
theorem dL_child_13 : decode cL_child 13 = .ok (.ireturn, 1) := by decide +kernel
theorem dL_child_14 : decode cL_child 14 = .ok (.astore 4, 2) := by decide +kernel
theorem dL_child_16 : decode cL_child 16 = .ok (.iconst 2, 1) := by decide +kernel
theorem dL_child_17 : decode cL_child 17 = .ok (.ireturn, 1) := by decide +kernel
theorem dL_child_18 : decode cL_child 18 = .ok (.iconst 0, 1) := by decide +kernel
theorem dL_child_19 : decode cL_child 19 = .ok (.ireturn, 1) := by decide +kernel
theorem km_L_child : pLW yL_child cL_child 5 (some .int) [(0, 7, 10, 22), (0, 7, 14, 13)] 4 := ⟨pT_6 16 rfl rfl, pT_1 0 (by decide +kernel) rfl, ⟨by decide +kernel, by decide +kernel, by decide +kernel⟩, pT_6 15 (by decide +kernel) rfl⟩
set_option maxHeartbeats 4000000 in
set_option maxRecDepth 100000 in
theorem m_L_child (l : Launch) (hl9 : l.stackTraces = false) {Z : pZ} (S : pSh Z) {h : pH} (I : Iv Z h) (a1 : Int32) (a2 : Int32) (a3 : Int32) (K : pSk Z) (L : pLk Z h) (hq3 : (h 129 3).toInt ≤ 8900) : wMet l yL_child cL_child 5 (some .int) [(0, 7, 10, 22), (0, 7, 14, 13)] 9 (gmc Z) (gms Z) 174 Z h [.ref (zB Z + 0), .int a1, .int a2, .int a3] (gQi Z (fun r Z1 h1 k n => pGr Z Z1 ∧ pSk Z1 ∧ Iv Z1 h1 ∧ agrD eW h h1 ∧ (k ≤ pPh Z1 - pPh Z + 1 ∧ n ≤ 2 * (pPh Z1 - pPh Z) + 6 ∧ pPh Z ≤ pPh Z1) ∧ pLk Z1 h1 ∧ ((h1 129 2).toInt ≤ (h 129 2).toInt + 1 ∧ (h1 129 3).toInt ≤ (h 129 3).toInt + 1 ∧ (h1 2 4).toInt ≤ (h 2 4).toInt))) := by
  refine wOfW (lv := [(0, .ref (zB Z + 0)), (1, .int a1), (2, .int a2), (3, .int a3)]) (by decide) (Nat.le_of_ble_eq_true rfl) rfl ?_
  intro p e s m below meth c ls M hr hlk hnm V hl htab X
  have hx := M.1.1
  have hb := M.1.2.1
  have hPm := K.ph
  refine lv_aload_n hx hb dL_child_0 rfl (lv_at hl 0 rfl) ?_
  refine lv_iload_n hx hb dL_child_1 rfl (lv_at hl 1 rfl) ?_
  refine lv_iload_n hx hb dL_child_2 rfl (lv_at hl 2 rfl) ?_
  refine lv_iload_n hx hb dL_child_3 rfl (lv_at hl 3 rfl) ?_
  refine xg_v Z rfl rfl (xr_V M V X (m_X11_child l hl9 S I a1 a2 a3 K L hq3) km_X11_child (c_is_0 S) pC11 lkM_L_54 rfl hl.1 rfl (Nat.le_of_ble_eq_true rfl) ⟨Nat.le_of_ble_eq_true rfl, Nat.le_of_ble_eq_true rfl⟩ ⟨Nat.le_of_eq (Nat.zero_add _), Nat.le_of_eq (Nat.zero_add _)⟩ dL_child_4) V (fun E ce q9 y1 h1 k1 n1 H locs px V w1 w2 w3 => ?_) (fun y1 h1 k1 n1 H locs p1 V => ?_)
  · obtain ⟨hE, g1, K1, I1, A1, b1, L1, f0, f1⟩ := px
    rcases hE with hE | hE
    · subst hE
      refine xh_first (own := RL) (nm := xIA) M.1.2.2.2.1 (htab.trans rfl) rfl (by decide) (pWords M xk_LA) (X.2.2.1 _ (by decide)) w1 w2 w3 ?_
      refine lv_astore (lv' := [(4, .ref q9), (0, .ref (zB Z + 0)), (1, .int a1), (2, .int a2), (3, .int a3)]) hx hb dL_child_10 hl (by decide) rfl (fun ls hl => ?_)
      refine lv_iconst (v := 1) hx hb dL_child_12 (by decide) ?_
      exact vx_ret (ge_i (Z := Z) (Z' := (gW Z y1)) (pM.to (gW Z y1) rfl M) V rfl rfl hr hlk rfl ⟨g1, K1, I1, (A1.wk (by decide)), ⟨by omega, by omega, by omega⟩, L1, ⟨f0, f1, (by rw [A1.get 2 4 (by decide)]; exact Int.le_refl _)⟩⟩ (g_rx (by omega) (by omega) K1.ph) dL_child_13)
    · subst hE
      refine xh_second (own := RL) (nm := xIA) (nm1 := xIS) M.1.2.2.2.1 (htab.trans rfl) rfl (by decide) (pWords M xk_LA) X.2.2.2.2.2.2 rfl (by decide) (pWords M xk_LS) (X.2.2.1 _ (by decide)) w1 w2 w3 ?_
      refine lv_astore (lv' := [(4, .ref q9), (0, .ref (zB Z + 0)), (1, .int a1), (2, .int a2), (3, .int a3)]) hx hb dL_child_14 hl (by decide) rfl (fun ls hl => ?_)
      refine lv_iconst (v := 2) hx hb dL_child_16 (by decide) ?_
      exact vx_ret (ge_i (Z := Z) (Z' := (gW Z y1)) (pM.to (gW Z y1) rfl M) V rfl rfl hr hlk rfl ⟨g1, K1, I1, (A1.wk (by decide)), ⟨by omega, by omega, by omega⟩, L1, ⟨f0, f1, (by rw [A1.get 2 4 (by decide)]; exact Int.le_refl _)⟩⟩ (g_rx (by omega) (by omega) K1.ph) dL_child_17)
  · obtain ⟨g1, K1, I1, A1, b1, L1, f0, f1⟩ := p1
    refine lv_goto (tgt := 18) hx hb dL_child_7 (by decide) ?_
    refine lv_iconst (v := 0) hx hb dL_child_18 (by decide) ?_
    exact vx_ret (ge_i (Z := Z) (Z' := (gW Z y1)) (pM.to (gW Z y1) rfl M) V rfl rfl hr hlk rfl ⟨g1, K1, I1, (A1.wk (by decide)), ⟨by omega, by omega, by omega⟩, L1, ⟨f0, f1, (by rw [A1.get 2 4 (by decide)]; exact Int.le_refl _)⟩⟩ (g_rx (by omega) (by omega) K1.ph) dL_child_19)
theorem dL_scope_0 : decode cL_scope 0 = .ok (.aload_n 0, 1) := by decide +kernel
theorem dL_scope_1 : decode cL_scope 1 = .ok (.iload_n 1, 1) := by decide +kernel
theorem dL_scope_2 : decode cL_scope 2 = .ok (.invokevirtual 58, 3) := by decide +kernel
theorem dL_scope_5 : decode cL_scope 5 = .ok (.goto 9, 3) := by decide +kernel
theorem dL_scope_8 : decode cL_scope 8 = .ok (.astore_n 2, 1) := by decide +kernel
theorem dL_scope_9 : decode cL_scope 9 = .ok (.iconst 1, 1) := by decide +kernel
theorem dL_scope_10 : decode cL_scope 10 = .ok (.ireturn, 1) := by decide +kernel
theorem dL_scope_11 : decode cL_scope 11 = .ok (.astore_n 2, 1) := by decide +kernel
theorem dL_scope_12 : decode cL_scope 12 = .ok (.iconst 2, 1) := by decide +kernel
theorem dL_scope_13 : decode cL_scope 13 = .ok (.ireturn, 1) := by decide +kernel
theorem dL_scope_14 : decode cL_scope 14 = .ok (.iconst 0, 1) := by decide +kernel
theorem dL_scope_15 : decode cL_scope 15 = .ok (.ireturn, 1) := by decide +kernel
theorem km_L_scope : pLW yL_scope cL_scope 3 (some .int) [(0, 5, 8, 22), (0, 5, 11, 13)] 2 := ⟨pT_6 46 rfl rfl, pT_1 0 (by decide +kernel) rfl, ⟨by decide +kernel, by decide +kernel, by decide +kernel⟩, pT_6 45 (by decide +kernel) rfl⟩
set_option maxHeartbeats 4000000 in
set_option maxRecDepth 100000 in
theorem m_L_scope (l : Launch) (hl9 : l.stackTraces = false) {Z : pZ} (S : pSh Z) {h : pH} (I : Iv Z h) (a1 : Int32) (K : pSk Z) (L : pLk Z h)  : wMet l yL_scope cL_scope 3 (some .int) [(0, 5, 8, 22), (0, 5, 11, 13)] 9 (gmc Z) (gms Z) 168 Z h [.ref (zB Z + 0), .int a1] (gQi Z (fun r Z1 h1 k n => pGr Z Z1 ∧ pSk Z1 ∧ Iv Z1 h1 ∧ agrD eW h h1 ∧ (k ≤ pPh Z1 - pPh Z + 1 ∧ n ≤ 2 * (pPh Z1 - pPh Z) + 6 ∧ pPh Z ≤ pPh Z1) ∧ pLk Z1 h1 ∧ ((h1 129 2).toInt ≤ (h 129 2).toInt + 0 ∧ (h1 129 3).toInt ≤ (h 129 3).toInt + 0 ∧ (h1 2 4).toInt ≤ (h 2 4).toInt))) := by
  refine wOfW (lv := [(0, .ref (zB Z + 0)), (1, .int a1)]) (by decide) (Nat.le_of_ble_eq_true rfl) rfl ?_
  intro p e s m below meth c ls M hr hlk hnm V hl htab X
  have hx := M.1.1
  have hb := M.1.2.1
  have hPm := K.ph
  refine lv_aload_n hx hb dL_scope_0 rfl (lv_at hl 0 rfl) ?_
  refine lv_iload_n hx hb dL_scope_1 rfl (lv_at hl 1 rfl) ?_
  refine xg_v Z rfl rfl (xr_V M V X (m_X11_scope l hl9 S I a1 K L ) km_X11_scope (c_is_0 S) pC11 lkM_L_58 rfl hl.1 rfl (Nat.le_of_ble_eq_true rfl) ⟨Nat.le_of_ble_eq_true rfl, Nat.le_of_ble_eq_true rfl⟩ ⟨Nat.le_of_eq (Nat.zero_add _), Nat.le_of_eq (Nat.zero_add _)⟩ dL_scope_2) V (fun E ce q9 y1 h1 k1 n1 H locs px V w1 w2 w3 => ?_) (fun y1 h1 k1 n1 H locs p1 V => ?_)
  · obtain ⟨hE, g1, K1, I1, A1, b1, L1, f0, f1⟩ := px
    rcases hE with hE | hE
    · subst hE
      refine xh_first (own := RL) (nm := xIA) M.1.2.2.2.1 (htab.trans rfl) rfl (by decide) (pWords M xk_LA) (X.2.2.1 _ (by decide)) w1 w2 w3 ?_
      refine lv_astore_n (lv' := [(2, .ref q9), (0, .ref (zB Z + 0)), (1, .int a1)]) hx hb dL_scope_8 rfl hl (by decide) rfl (fun ls hl => ?_)
      refine lv_iconst (v := 1) hx hb dL_scope_9 (by decide) ?_
      exact vx_ret (ge_i (Z := Z) (Z' := (gW Z y1)) (pM.to (gW Z y1) rfl M) V rfl rfl hr hlk rfl ⟨g1, K1, I1, (A1.wk (by decide)), ⟨by omega, by omega, by omega⟩, L1, ⟨f0, f1, (by rw [A1.get 2 4 (by decide)]; exact Int.le_refl _)⟩⟩ (g_rx (by omega) (by omega) K1.ph) dL_scope_10)
    · subst hE
      refine xh_second (own := RL) (nm := xIA) (nm1 := xIS) M.1.2.2.2.1 (htab.trans rfl) rfl (by decide) (pWords M xk_LA) X.2.2.2.2.2.2 rfl (by decide) (pWords M xk_LS) (X.2.2.1 _ (by decide)) w1 w2 w3 ?_
      refine lv_astore_n (lv' := [(2, .ref q9), (0, .ref (zB Z + 0)), (1, .int a1)]) hx hb dL_scope_11 rfl hl (by decide) rfl (fun ls hl => ?_)
      refine lv_iconst (v := 2) hx hb dL_scope_12 (by decide) ?_
      exact vx_ret (ge_i (Z := Z) (Z' := (gW Z y1)) (pM.to (gW Z y1) rfl M) V rfl rfl hr hlk rfl ⟨g1, K1, I1, (A1.wk (by decide)), ⟨by omega, by omega, by omega⟩, L1, ⟨f0, f1, (by rw [A1.get 2 4 (by decide)]; exact Int.le_refl _)⟩⟩ (g_rx (by omega) (by omega) K1.ph) dL_scope_13)
  · obtain ⟨g1, K1, I1, A1, b1, L1, f0, f1⟩ := p1
    refine lv_goto (tgt := 14) hx hb dL_scope_5 (by decide) ?_
    refine lv_iconst (v := 0) hx hb dL_scope_14 (by decide) ?_
    exact vx_ret (ge_i (Z := Z) (Z' := (gW Z y1)) (pM.to (gW Z y1) rfl M) V rfl rfl hr hlk rfl ⟨g1, K1, I1, (A1.wk (by decide)), ⟨by omega, by omega, by omega⟩, L1, ⟨f0, f1, (by rw [A1.get 2 4 (by decide)]; exact Int.le_refl _)⟩⟩ (g_rx (by omega) (by omega) K1.ph) dL_scope_15)
theorem dL_group_0 : decode cL_group 0 = .ok (.aload_n 0, 1) := by decide +kernel
theorem dL_group_1 : decode cL_group 1 = .ok (.invokevirtual 62, 3) := by decide +kernel
theorem dL_group_4 : decode cL_group 4 = .ok (.goto 6, 3) := by decide +kernel
theorem dL_group_7 : decode cL_group 7 = .ok (.astore_n 1, 1) := by decide +kernel
theorem dL_group_8 : decode cL_group 8 = .ok (.iconst 1, 1) := by decide +kernel
theorem dL_group_9 : decode cL_group 9 = .ok (.ireturn, 1) := by decide +kernel
theorem dL_group_10 : decode cL_group 10 = .ok (.iconst 0, 1) := by decide +kernel
theorem dL_group_11 : decode cL_group 11 = .ok (.ireturn, 1) := by decide +kernel
theorem km_L_group : pLW yL_group cL_group 2 (some .int) [(0, 4, 7, 13)] 1 := ⟨pT_6 53 rfl rfl, pT_1 0 (by decide +kernel) rfl, ⟨by decide +kernel, by decide +kernel, by decide +kernel⟩, pT_6 52 (by decide +kernel) rfl⟩
set_option maxHeartbeats 4000000 in
set_option maxRecDepth 100000 in
theorem m_L_group (l : Launch) (hl9 : l.stackTraces = false) {Z : pZ} (S : pSh Z) {h : pH} (I : Iv Z h)  (K : pSk Z) (L : pLk Z h)  : wMet l yL_group cL_group 2 (some .int) [(0, 4, 7, 13)] 8 (gmc Z) (gms Z) 148 Z h [.ref (zB Z + 0)] (gQi Z (fun r Z1 h1 k n => pGr Z Z1 ∧ pSk Z1 ∧ Iv Z1 h1 ∧ agrD eW h h1 ∧ (k ≤ pPh Z1 - pPh Z + 1 ∧ n ≤ 2 * (pPh Z1 - pPh Z) + 6 ∧ pPh Z ≤ pPh Z1) ∧ pLk Z1 h1 ∧ ((h1 129 2).toInt ≤ (h 129 2).toInt + 0 ∧ (h1 129 3).toInt ≤ (h 129 3).toInt + 0 ∧ (h1 2 4).toInt ≤ (h 2 4).toInt))) := by
  refine wOfW (lv := [(0, .ref (zB Z + 0))]) (by decide) (Nat.le_of_ble_eq_true rfl) rfl ?_
  intro p e s m below meth c ls M hr hlk hnm V hl htab X
  have hx := M.1.1
  have hb := M.1.2.1
  have hPm := K.ph
  refine lv_aload_n hx hb dL_group_0 rfl (lv_at hl 0 rfl) ?_
  refine xg_v Z rfl rfl (xr_V M V X (m_X11_group l hl9 S I  K L ) km_X11_group (c_is_0 S) pC11 lkM_L_62 rfl hl.1 rfl (Nat.le_of_ble_eq_true rfl) ⟨Nat.le_of_ble_eq_true rfl, Nat.le_of_ble_eq_true rfl⟩ ⟨Nat.le_of_eq (Nat.zero_add _), Nat.le_of_eq (Nat.zero_add _)⟩ dL_group_1) V (fun E ce q9 y1 h1 k1 n1 H locs px V w1 w2 w3 => ?_) (fun y1 h1 k1 n1 H locs p1 V => ?_)
  · obtain ⟨hE, g1, K1, I1, A1, b1, L1, f0, f1⟩ := px
    subst hE
    refine xh_first (own := RL) (nm := xIS) M.1.2.2.2.1 (htab.trans rfl) rfl (by decide) (pWords M xk_LS) (X.2.2.1 _ (by decide)) w1 w2 w3 ?_
    refine lv_astore_n (lv' := [(1, .ref q9), (0, .ref (zB Z + 0))]) hx hb dL_group_7 rfl hl (by decide) rfl (fun ls hl => ?_)
    refine lv_iconst (v := 1) hx hb dL_group_8 (by decide) ?_
    exact vx_ret (ge_i (Z := Z) (Z' := (gW Z y1)) (pM.to (gW Z y1) rfl M) V rfl rfl hr hlk rfl ⟨g1, K1, I1, (A1.wk (by decide)), ⟨by omega, by omega, by omega⟩, L1, ⟨f0, f1, (by rw [A1.get 2 4 (by decide)]; exact Int.le_refl _)⟩⟩ (g_rx (by omega) (by omega) K1.ph) dL_group_9)
  · obtain ⟨g1, K1, I1, A1, b1, L1, f0, f1⟩ := p1
    refine lv_goto (tgt := 10) hx hb dL_group_4 (by decide) ?_
    refine lv_iconst (v := 0) hx hb dL_group_10 (by decide) ?_
    exact vx_ret (ge_i (Z := Z) (Z' := (gW Z y1)) (pM.to (gW Z y1) rfl M) V rfl rfl hr hlk rfl ⟨g1, K1, I1, (A1.wk (by decide)), ⟨by omega, by omega, by omega⟩, L1, ⟨f0, f1, (by rw [A1.get 2 4 (by decide)]; exact Int.le_refl _)⟩⟩ (g_rx (by omega) (by omega) K1.ph) dL_group_11)
theorem dL_near_0 : decode cL_near 0 = .ok (.aload_n 0, 1) := by decide +kernel
theorem dL_near_1 : decode cL_near 1 = .ok (.invokevirtual 65, 3) := by decide +kernel
theorem dL_near_4 : decode cL_near 4 = .ok (.goto 6, 3) := by decide +kernel
theorem dL_near_7 : decode cL_near 7 = .ok (.astore_n 1, 1) := by decide +kernel
theorem dL_near_8 : decode cL_near 8 = .ok (.iconst 1, 1) := by decide +kernel
theorem dL_near_9 : decode cL_near 9 = .ok (.ireturn, 1) := by decide +kernel
theorem dL_near_10 : decode cL_near 10 = .ok (.iconst 0, 1) := by decide +kernel
theorem dL_near_11 : decode cL_near 11 = .ok (.ireturn, 1) := by decide +kernel
theorem km_L_near : pLW yL_near cL_near 2 (some .int) [(0, 4, 7, 13)] 1 := ⟨pT_6 61 rfl rfl, pT_1 0 (by decide +kernel) rfl, ⟨by decide +kernel, by decide +kernel, by decide +kernel⟩, pT_6 60 (by decide +kernel) rfl⟩
set_option maxHeartbeats 4000000 in
set_option maxRecDepth 100000 in
theorem m_L_near (l : Launch) (hl9 : l.stackTraces = false) {Z : pZ} (S : pSh Z) {h : pH} (I : Iv Z h)  (K : pSk Z) (L : pLk Z h)  : wMet l yL_near cL_near 2 (some .int) [(0, 4, 7, 13)] 8 (gmc Z) (gms Z) 146 Z h [.ref (zB Z + 0)] (gQi Z (fun r Z1 h1 k n => pGr Z Z1 ∧ pSk Z1 ∧ Iv Z1 h1 ∧ agrD eW h h1 ∧ (k ≤ pPh Z1 - pPh Z + 1 ∧ n ≤ 2 * (pPh Z1 - pPh Z) + 6 ∧ pPh Z ≤ pPh Z1) ∧ pLk Z1 h1 ∧ ((h1 129 2).toInt ≤ (h 129 2).toInt + 0 ∧ (h1 129 3).toInt ≤ (h 129 3).toInt + 0 ∧ (h1 2 4).toInt ≤ (h 2 4).toInt))) := by
  refine wOfW (lv := [(0, .ref (zB Z + 0))]) (by decide) (Nat.le_of_ble_eq_true rfl) rfl ?_
  intro p e s m below meth c ls M hr hlk hnm V hl htab X
  have hx := M.1.1
  have hb := M.1.2.1
  have hPm := K.ph
  refine lv_aload_n hx hb dL_near_0 rfl (lv_at hl 0 rfl) ?_
  refine xg_v Z rfl rfl (xr_V M V X (m_X11_near l hl9 S I  K L ) km_X11_near (c_is_0 S) pC11 lkM_L_65 rfl hl.1 rfl (Nat.le_of_ble_eq_true rfl) ⟨Nat.le_of_ble_eq_true rfl, Nat.le_of_ble_eq_true rfl⟩ ⟨Nat.le_of_eq (Nat.zero_add _), Nat.le_of_eq (Nat.zero_add _)⟩ dL_near_1) V (fun E ce q9 y1 h1 k1 n1 H locs px V w1 w2 w3 => ?_) (fun y1 h1 k1 n1 H locs p1 V => ?_)
  · obtain ⟨hE, g1, K1, I1, A1, b1, L1, f0, f1⟩ := px
    subst hE
    refine xh_first (own := RL) (nm := xIS) M.1.2.2.2.1 (htab.trans rfl) rfl (by decide) (pWords M xk_LS) (X.2.2.1 _ (by decide)) w1 w2 w3 ?_
    refine lv_astore_n (lv' := [(1, .ref q9), (0, .ref (zB Z + 0))]) hx hb dL_near_7 rfl hl (by decide) rfl (fun ls hl => ?_)
    refine lv_iconst (v := 1) hx hb dL_near_8 (by decide) ?_
    exact vx_ret (ge_i (Z := Z) (Z' := (gW Z y1)) (pM.to (gW Z y1) rfl M) V rfl rfl hr hlk rfl ⟨g1, K1, I1, (A1.wk (by decide)), ⟨by omega, by omega, by omega⟩, L1, ⟨f0, f1, (by rw [A1.get 2 4 (by decide)]; exact Int.le_refl _)⟩⟩ (g_rx (by omega) (by omega) K1.ph) dL_near_9)
  · obtain ⟨g1, K1, I1, A1, b1, L1, f0, f1⟩ := p1
    refine lv_goto (tgt := 10) hx hb dL_near_4 (by decide) ?_
    refine lv_iconst (v := 0) hx hb dL_near_10 (by decide) ?_
    exact vx_ret (ge_i (Z := Z) (Z' := (gW Z y1)) (pM.to (gW Z y1) rfl M) V rfl rfl hr hlk rfl ⟨g1, K1, I1, (A1.wk (by decide)), ⟨by omega, by omega, by omega⟩, L1, ⟨f0, f1, (by rw [A1.get 2 4 (by decide)]; exact Int.le_refl _)⟩⟩ (g_rx (by omega) (by omega) K1.ph) dL_near_11)
