/-! requireArgument, requireState, requireItem -/
theorem dX11_requireArgument_0 : decode cX11_requireArgument 0 = .ok (.iload_n 1, 1) := by decide +kernel
theorem dX11_requireArgument_1 : decode cX11_requireArgument 1 = .ok (.ifCond .ne 14, 3) := by decide +kernel
theorem dX11_requireArgument_4 : decode cX11_requireArgument 4 = .ok (.new 394, 3) := by decide +kernel
theorem dX11_requireArgument_7 : decode cX11_requireArgument 7 = .ok (.dup, 1) := by decide +kernel
theorem dX11_requireArgument_8 : decode cX11_requireArgument 8 = .ok (.ldc_w 396, 3) := by decide +kernel
theorem dX11_requireArgument_11 : decode cX11_requireArgument 11 = .ok (.invokespecial 398, 3) := by decide +kernel
theorem dX11_requireArgument_14 : decode cX11_requireArgument 14 = .ok (.athrow, 1) := by decide +kernel
theorem dX11_requireArgument_15 : decode cX11_requireArgument 15 = .ok (.return_, 1) := by decide +kernel
theorem dX11_requireState_0 : decode cX11_requireState 0 = .ok (.iload_n 1, 1) := by decide +kernel
theorem dX11_requireState_1 : decode cX11_requireState 1 = .ok (.ifCond .ne 18, 3) := by decide +kernel
theorem dX11_requireState_4 : decode cX11_requireState 4 = .ok (.aload_n 0, 1) := by decide +kernel
theorem dX11_requireState_5 : decode cX11_requireState 5 = .ok (.invokevirtual 401, 3) := by decide +kernel
theorem dX11_requireState_8 : decode cX11_requireState 8 = .ok (.new 404, 3) := by decide +kernel
theorem dX11_requireState_11 : decode cX11_requireState 11 = .ok (.dup, 1) := by decide +kernel
theorem dX11_requireState_12 : decode cX11_requireState 12 = .ok (.ldc_w 406, 3) := by decide +kernel
theorem dX11_requireState_15 : decode cX11_requireState 15 = .ok (.invokespecial 408, 3) := by decide +kernel
theorem dX11_requireState_18 : decode cX11_requireState 18 = .ok (.athrow, 1) := by decide +kernel
theorem dX11_requireState_19 : decode cX11_requireState 19 = .ok (.return_, 1) := by decide +kernel
theorem dX11_requireItem_0 : decode cX11_requireItem 0 = .ok (.aload_n 0, 1) := by decide +kernel
theorem dX11_requireItem_1 : decode cX11_requireItem 1 = .ok (.iload_n 1, 1) := by decide +kernel
theorem dX11_requireItem_2 : decode cX11_requireItem 2 = .ok (.invokevirtual 146, 3) := by decide +kernel
theorem dX11_requireItem_5 : decode cX11_requireItem 5 = .ok (.aload_n 0, 1) := by decide +kernel
theorem dX11_requireItem_6 : decode cX11_requireItem 6 = .ok (.aload_n 0, 1) := by decide +kernel
theorem dX11_requireItem_7 : decode cX11_requireItem 7 = .ok (.invokevirtual 326, 3) := by decide +kernel
theorem dX11_requireItem_10 : decode cX11_requireItem 10 = .ok (.invokevirtual 88, 3) := by decide +kernel
theorem dX11_requireItem_13 : decode cX11_requireItem 13 = .ok (.return_, 1) := by decide +kernel
theorem pW0.ext {Z : pZ} {h : pH} {H H1 : Heap} (W0 : pW0 Z h H) (hz : H.size ≤ H1.size) (hq : ∀ q : Nat, q < H.size → H1[q]? = H[q]?) : pW0 Z h H1 := ⟨W0.1.kept (fun k x hx => hq x.1 ((W0.1 k x hx).lt)), W0.2.1, Nat.le_trans W0.2.2 hz⟩
theorem xk_A : Cond.classLink RX11 394 xIA ∈ pT := pT_4 184 (by decide +kernel) rfl
theorem xi_A : Cond.initialized xIA ∈ pT := pT_1 21 (by decide +kernel) rfl
theorem xk_S : Cond.classLink RX11 404 xIS ∈ pT := pT_3 184 (by decide +kernel) rfl
theorem xi_S : Cond.initialized xIS ∈ pT := pT_1 17 (by decide +kernel) rfl
set_option maxRecDepth 100000 in
theorem xg_A : ((vx_atS RX11 398 xIA xNs).filter goodWord).all (fun w => decide (w ∈ lw_tbl)) = true := by decide +kernel
set_option maxRecDepth 100000 in
theorem xb_A : ((vx_atS RX11 398 xIA xNs).filter (fun w => !goodWord w)).all (fun w => decide (w ∈ xBad)) = true := by decide +kernel
set_option maxRecDepth 100000 in
theorem xo_A : (Cond.classLink RX11 394 xIA :: Cond.initialized xIA :: vx_atS RX11 398 xIA xNs).all vx_ot = true := by decide +kernel
theorem xh_A {args : Array Value} {s : State} (h : ∀ w ∈ pT, w.before args s = true) (hb : ∀ w ∈ xBad, va_Nw w s) : ∀ w ∈ vx_atS RX11 398 xIA xNs, w.before args s = true := by
  refine vx_hat (B := xBad) (fun w hw => ?_) (fun w hw => ?_) (fun w hw => ?_)
  · have h1 := List.all_eq_true.mp xg_A w hw
    exact h w (List.mem_filter.mpr ⟨of_decide_eq_true h1, (List.mem_filter.mp hw).2⟩)
  · exact of_decide_eq_true (List.all_eq_true.mp xb_A w hw)
  · have h1 := hb w hw
    simp only [xBad, List.mem_cons, List.not_mem_nil, or_false] at hw
    rcases hw with rfl | rfl | rfl | rfl | rfl <;> exact va_tabs rfl rfl h1
set_option maxRecDepth 100000 in
theorem xg_S : ((vx_atS RX11 408 xIS xNs).filter goodWord).all (fun w => decide (w ∈ lw_tbl)) = true := by decide +kernel
set_option maxRecDepth 100000 in
theorem xb_S : ((vx_atS RX11 408 xIS xNs).filter (fun w => !goodWord w)).all (fun w => decide (w ∈ xBad)) = true := by decide +kernel
set_option maxRecDepth 100000 in
theorem xo_S : (Cond.classLink RX11 404 xIS :: Cond.initialized xIS :: vx_atS RX11 408 xIS xNs).all vx_ot = true := by decide +kernel
theorem xh_S {args : Array Value} {s : State} (h : ∀ w ∈ pT, w.before args s = true) (hb : ∀ w ∈ xBad, va_Nw w s) : ∀ w ∈ vx_atS RX11 408 xIS xNs, w.before args s = true := by
  refine vx_hat (B := xBad) (fun w hw => ?_) (fun w hw => ?_) (fun w hw => ?_)
  · have h1 := List.all_eq_true.mp xg_S w hw
    exact h w (List.mem_filter.mpr ⟨of_decide_eq_true h1, (List.mem_filter.mp hw).2⟩)
  · exact of_decide_eq_true (List.all_eq_true.mp xb_S w hw)
  · have h1 := hb w hw
    simp only [xBad, List.mem_cons, List.not_mem_nil, or_false] at hw
    rcases hw with rfl | rfl | rfl | rfl | rfl <;> exact va_tabs rfl rfl h1
set_option maxHeartbeats 4000000 in
set_option maxRecDepth 100000 in
theorem m_X11_requireArgument (l : Launch) (hl9 : l.stackTraces = false) {Z : pZ} (S : pSh Z) {h : pH} (I : Iv Z h) (fits : Int32) : xMet l yX11_requireArgument cX11_requireArgument 2 none 6 1 6 82 Z h [.ref (zB Z + 0), .int fits] (gQv Z (fun Z1 h1 k n => Z = Z1 ∧ h = h1 ∧ k = 0 ∧ n = 0 ∧ fits.toInt ≠ 0)) (gX0 Z (fun E Z1 h1 => E = xIA ∧ Z = Z1 ∧ Iv Z h1 ∧ agrD [(0, 10), (22, 5), (36, 4), (36, 5), (122, 1000), (10, 3), (10, 4), (10, 5), (10, 6)] h h1)) := by
  refine xOfW (lv := [(0, .ref (zB Z + 0)), (1, .int fits)]) (by decide) (Nat.le_of_ble_eq_true rfl) rfl ?_
  intro p e s m below meth c ls M hr hlk hnm V hl hct X
  have hx := M.1.1
  have hb := M.1.2.1
  refine lv_iload_n hx hb dX11_requireArgument_0 rfl (lv_at hl 1 rfl) ?_
  refine lv_if_ne (tgt := 15) hx hb dX11_requireArgument_1 (by decide) (fun c_1 => ?_) (fun c_1 => ?_)
  · have c_1 := pi_ne c_1
    exact vx_ret (ge_v M V rfl rfl hr hlk ⟨rfl, rfl, rfl, rfl, c_1⟩ ⟨Nat.zero_le _, Nat.zero_le _⟩ dX11_requireArgument_15)
  · obtain ⟨x1, x2, x3, x4, ⟨sa, x5⟩, x6, x7⟩ := X
    refine vx_throwSW (A := pA (zB Z)) (names := xNs) hx hb hl9 M.1.2.2.2.1 (by decide +kernel) (by decide +kernel) (pWords M xk_A) (pWords M xi_A) x5 (xh_A M.1.2.2.2.2 x3) (fun w hw => List.all_eq_true.mp xo_A w hw) x1 x2 V.2.1 (hl.1.trans M.1.2.2.1.symm) dX11_requireArgument_4 dX11_requireArgument_7 dX11_requireArgument_8 dX11_requireArgument_11 dX11_requireArgument_14 (fun x hx9 => (hct x hx9).elim) (Nat.le_of_ble_eq_true rfl) (Nat.le_of_ble_eq_true rfl) (Nat.le_of_ble_eq_true rfl) (Nat.le_of_ble_eq_true rfl) hlk (fun t _ hz hq => ?_) V.2.1.2.2 (Nat.le_of_ble_eq_true rfl) (Nat.le_of_ble_eq_true rfl)
    exact ⟨(Z, h), ⟨rfl, rfl, I, agrD.rf⟩, ⟨rfl, rfl, V.1.ext hz hq⟩, hz, fun q h1 h2 => hq q h1⟩
set_option maxHeartbeats 4000000 in
set_option maxRecDepth 100000 in
theorem m_X11_requireState (l : Launch) (hl9 : l.stackTraces = false) {Z : pZ} (S : pSh Z) {h : pH} (I : Iv Z h) (fits : Int32) : xMet l yX11_requireState cX11_requireState 2 none 6 1 6 105 Z h [.ref (zB Z + 0), .int fits] (gQv Z (fun Z1 h1 k n => Z = Z1 ∧ h = h1 ∧ k = 0 ∧ n = 0 ∧ fits.toInt ≠ 0)) (gX0 Z (fun E Z1 h1 => E = xIS ∧ Z = Z1 ∧ Iv Z h1 ∧ agrD [(0, 10), (22, 5), (36, 4), (36, 5), (122, 1000), (10, 3), (10, 4), (10, 5), (10, 6)] h h1)) := by
  refine xOfW (lv := [(0, .ref (zB Z + 0)), (1, .int fits)]) (by decide) (Nat.le_of_ble_eq_true rfl) rfl ?_
  intro p e s m below meth c ls M hr hlk hnm V hl hct X
  have hx := M.1.1
  have hb := M.1.2.1
  refine lv_iload_n hx hb dX11_requireState_0 rfl (lv_at hl 1 rfl) ?_
  refine lv_if_ne (tgt := 19) hx hb dX11_requireState_1 (by decide) (fun c_1 => ?_) (fun c_1 => ?_)
  · have c_1 := pi_ne c_1
    exact vx_ret (ge_v M V rfl rfl hr hlk ⟨rfl, rfl, rfl, rfl, c_1⟩ ⟨Nat.zero_le _, Nat.zero_le _⟩ dX11_requireState_19)
  · refine lv_aload_n hx hb dX11_requireState_4 rfl (lv_at hl 0 rfl) ?_
    refine pk_v (pr_V M V (m_X11_breakFrame l S I  ) km_X11_breakFrame (c_is_0 S) pC11 lkM_X11_401 rfl hl.1 rfl (Nat.le_of_ble_eq_true rfl) ⟨Nat.le_of_ble_eq_true rfl, Nat.le_of_ble_eq_true rfl⟩ ⟨Nat.le_of_ble_eq_true rfl, Nat.le_of_ble_eq_true rfl⟩ dX11_requireState_5) V (fun Zr1 hr1 H locs pr1 _ _ V => ?_)
    obtain ⟨rfl, I, pA_r1⟩ := pr1
    obtain ⟨x1, x2, x3, ⟨sa, x4⟩, x5, x6, x7⟩ := X
    refine vx_throwSW (A := pA (zB Z)) (names := xNs) hx hb hl9 M.1.2.2.2.1 (by decide +kernel) (by decide +kernel) (pWords M xk_S) (pWords M xi_S) x4 (xh_S M.1.2.2.2.2 x3) (fun w hw => List.all_eq_true.mp xo_S w hw) x1 x2 V.2.1 (hl.1.trans M.1.2.2.1.symm) dX11_requireState_8 dX11_requireState_11 dX11_requireState_12 dX11_requireState_15 dX11_requireState_18 (fun x hx9 => (hct x hx9).elim) (Nat.le_of_ble_eq_true rfl) (Nat.le_of_ble_eq_true rfl) (Nat.le_of_ble_eq_true rfl) (Nat.le_of_ble_eq_true rfl) hlk (fun t _ hz hq => ?_) V.2.1.2.2 (Nat.le_of_ble_eq_true rfl) (Nat.le_of_ble_eq_true rfl)
    exact ⟨(Z, hr1), ⟨rfl, rfl, I, pA_r1⟩, ⟨rfl, rfl, V.1.ext hz hq⟩, Nat.le_trans V.2.1.1 hz, fun q h1 h2 => (hq q (Nat.lt_of_lt_of_le h1 V.2.1.1)).trans (V.2.1.2.1 q h1 h2)⟩
set_option maxHeartbeats 4000000 in
set_option maxRecDepth 100000 in
theorem m_X11_requireItem (l : Launch) (hl9 : l.stackTraces = false) {Z : pZ} (S : pSh Z) {h : pH} (I : Iv Z h) (fits : Int32) : xMet l yX11_requireItem cX11_requireItem 2 none 7 1 6 126 Z h [.ref (zB Z + 0), .int fits] (gQv Z (fun Z1 h1 k n => Z = Z1 ∧ h = h1 ∧ k = 0 ∧ n = 0 ∧ fits.toInt ≠ 0)) (gX0 Z (fun E Z1 h1 => (E = xIA ∨ E = xIS) ∧ Z = Z1 ∧ Iv Z h1 ∧ agrD [(0, 10), (22, 5), (36, 4), (36, 5), (122, 1000), (10, 3), (10, 4), (10, 5), (10, 6)] h h1)) := by
  refine xOfW (lv := [(0, .ref (zB Z + 0)), (1, .int fits)]) (by decide) (Nat.le_of_ble_eq_true rfl) rfl ?_
  intro p e s m below meth c ls M hr hlk hnm V hl hct X
  have hx := M.1.1
  have hb := M.1.2.1
  refine lv_aload_n hx hb dX11_requireItem_0 rfl (lv_at hl 0 rfl) ?_
  refine lv_iload_n hx hb dX11_requireItem_1 rfl (lv_at hl 1 rfl) ?_
  refine xz_v Z rfl rfl (xr_V M V X (m_X11_requireArgument l hl9 S I fits) km_X11_requireArgument (c_is_0 S) pC11 lkM_X11_146 rfl hl.1 rfl (Nat.le_of_ble_eq_true rfl) ⟨Nat.le_of_ble_eq_true rfl, Nat.le_of_ble_eq_true rfl⟩ ⟨Nat.le_of_ble_eq_true rfl, Nat.le_of_ble_eq_true rfl⟩ dX11_requireItem_2) V (fun E ce q9 y1 h1 H locs px V1 w1 w2 w3 => ?_) (fun y1 h1 k1 n1 H locs p1 V1 => ?_)
  · obtain ⟨e1, e2, e3, e4⟩ := px
    exact xe_out0 V1 rfl rfl hct hlk w1 w2 w3 ⟨Or.inl e1, e2, e3, e4⟩ ⟨Nat.le_of_ble_eq_true rfl, Nat.le_of_ble_eq_true rfl⟩
  · obtain ⟨e2, rfl, rfl, rfl, hfit⟩ := p1
    rw [← e2] at V1
    refine lv_aload_n hx hb dX11_requireItem_5 rfl (lv_at hl 0 rfl) ?_
    refine lv_aload_n hx hb dX11_requireItem_6 rfl (lv_at hl 0 rfl) ?_
    refine pk_i (pr_V M V1 (m_X11_isWindowOpen l S I  ) km_X11_isWindowOpen (c_is_0 S) pC11 lkM_X11_326 rfl hl.1 rfl (Nat.le_of_ble_eq_true rfl) ⟨Nat.le_of_ble_eq_true rfl, Nat.le_of_ble_eq_true rfl⟩ ⟨Nat.le_of_ble_eq_true rfl, Nat.le_of_ble_eq_true rfl⟩ dX11_requireItem_7) V1 (fun r2 Zr2 hr2 H locs pr2 _ _ V2 => ?_)
    obtain ⟨rfl, rfl, fr2⟩ := pr2
    refine xz_v Z rfl rfl (xr_V M V2 X (m_X11_requireState l hl9 S I r2) km_X11_requireState (c_is_0 S) pC11 lkM_X11_88 rfl hl.1 rfl (Nat.le_of_ble_eq_true rfl) ⟨Nat.le_of_ble_eq_true rfl, Nat.le_of_ble_eq_true rfl⟩ ⟨Nat.le_of_ble_eq_true rfl, Nat.le_of_ble_eq_true rfl⟩ dX11_requireItem_10) V2 (fun E ce q9 y1 h1 H locs px V1 w1 w2 w3 => ?_) (fun y1 h1 k1 n1 H locs p1 V1 => ?_)
    · obtain ⟨e1, e2, e3, e4⟩ := px
      exact xe_out0 V1 rfl rfl hct hlk w1 w2 w3 ⟨Or.inr e1, e2, e3, e4⟩ ⟨Nat.le_of_ble_eq_true rfl, Nat.le_of_ble_eq_true rfl⟩
    · obtain ⟨e2, e3, rfl, rfl, hf2⟩ := p1
      rw [← e2] at V1
      exact vx_ret (ge_v M V1 rfl rfl hr hlk ⟨rfl, e3, rfl, rfl, hfit⟩ ⟨Nat.zero_le _, Nat.zero_le _⟩ dX11_requireItem_13)
theorem g_rx {Z Z1 : pZ} {k n : Nat} (hk : k ≤ pPh Z1 - pPh Z + 1) (hn : n ≤ 2 * (pPh Z1 - pPh Z) + 6) (h2 : pPh Z1 ≤ 560000) : k ≤ gmc Z ∧ n ≤ gms Z := by
  show k ≤ 560000 - pPh Z + 10 ∧ n ≤ 2 * (560000 - pPh Z) + 200000
  omega
