theorem dX2_init_0 : decode cX2_init 0 = .ok (.aload_n 0, 1) := by decide +kernel
theorem dX2_init_1 : decode cX2_init 1 = .ok (.invokespecial 3, 3) := by decide +kernel
theorem dX2_init_4 : decode cX2_init 4 = .ok (.return_, 1) := by decide +kernel
set_option maxHeartbeats 4000000 in
set_option maxRecDepth 100000 in
theorem m_X2_init (l : Launch) {Z : pZ} {h : pH} {n r x : Nat} (o : Nat) (P : pMk n r x Z h)  : nMet l yX2_init cX2_init 1 1 0 0 20 n Z h [.ref (zB Z + o)] (pQv Z (fun Z1 h1 => pMk (n) (r) (x) Z1 h1)) := by
  refine nOfW (lv := [(0, .ref (zB Z + o))]) (by decide) (Nat.le_of_ble_eq_true rfl) rfl ?_
  intro p e s m below meth c ls M hr hlk hnm V hl hs hao
  have hx := M.1.1
  have hb := M.1.2.1
  refine lv_aload_n hx hb dX2_init_0 rfl (lv_at hl 0 rfl) ?_
  refine ko_I (Z := Z) M hl.1 lkO_X2 kO_init ⟨Nat.le_of_ble_eq_true rfl, Nat.le_of_ble_eq_true rfl⟩ dX2_init_1 ?_
  exact pe_v (Z := Z) (Z' := Z) M V rfl rfl hr hlk P ⟨Nat.le_of_ble_eq_true rfl, Nat.le_of_ble_eq_true rfl⟩ dX2_init_4
theorem dX1_init_0 : decode cX1_init 0 = .ok (.aload_n 0, 1) := by decide +kernel
theorem dX1_init_1 : decode cX1_init 1 = .ok (.invokespecial 3, 3) := by decide +kernel
theorem dX1_init_4 : decode cX1_init 4 = .ok (.return_, 1) := by decide +kernel
set_option maxHeartbeats 4000000 in
set_option maxRecDepth 100000 in
theorem m_X1_init (l : Launch) {Z : pZ} {h : pH} {n r x : Nat} (o : Nat) (P : pMk n r x Z h)  : nMet l yX1_init cX1_init 1 1 0 0 20 n Z h [.ref (zB Z + o)] (pQv Z (fun Z1 h1 => pMk (n) (r) (x) Z1 h1)) := by
  refine nOfW (lv := [(0, .ref (zB Z + o))]) (by decide) (Nat.le_of_ble_eq_true rfl) rfl ?_
  intro p e s m below meth c ls M hr hlk hnm V hl hs hao
  have hx := M.1.1
  have hb := M.1.2.1
  refine lv_aload_n hx hb dX1_init_0 rfl (lv_at hl 0 rfl) ?_
  refine ko_I (Z := Z) M hl.1 lkO_X1 kO_init ⟨Nat.le_of_ble_eq_true rfl, Nat.le_of_ble_eq_true rfl⟩ dX1_init_1 ?_
  exact pe_v (Z := Z) (Z' := Z) M V rfl rfl hr hlk P ⟨Nat.le_of_ble_eq_true rfl, Nat.le_of_ble_eq_true rfl⟩ dX1_init_4
theorem dX7_init_0 : decode cX7_init 0 = .ok (.aload_n 0, 1) := by decide +kernel
theorem dX7_init_1 : decode cX7_init 1 = .ok (.invokespecial 3, 3) := by decide +kernel
theorem dX7_init_4 : decode cX7_init 4 = .ok (.aload_n 0, 1) := by decide +kernel
theorem dX7_init_5 : decode cX7_init 5 = .ok (.iload_n 1, 1) := by decide +kernel
theorem dX7_init_6 : decode cX7_init 6 = .ok (.putfield 9, 3) := by decide +kernel
theorem dX7_init_9 : decode cX7_init 9 = .ok (.return_, 1) := by decide +kernel
set_option maxHeartbeats 4000000 in
set_option maxRecDepth 100000 in
theorem m_X7_init (l : Launch) {Z : pZ} {h : pH} {n r x : Nat} (o : Nat) (P : pMk n r x Z h) (title : Int32) (ho : o < n) (hko : pKT.getD o 99 = 7) (k1 : okI x o 0 title = true) : nMet l yX7_init cX7_init 2 1 0 0 20 n Z h [.ref (zB Z + o), .int title] (pQv Z (fun Z1 h1 => pMk (n) (r) (x + 1) Z1 h1)) := by
  refine nOfW (lv := [(0, .ref (zB Z + o)), (1, .int title)]) (by decide) (Nat.le_of_ble_eq_true rfl) rfl ?_
  intro p e s m below meth c ls M hr hlk hnm V hl hs hao
  have hx := M.1.1
  have hb := M.1.2.1
  refine lv_aload_n hx hb dX7_init_0 rfl (lv_at hl 0 rfl) ?_
  refine ko_I (Z := Z) M hl.1 lkO_X7 kO_init ⟨Nat.le_of_ble_eq_true rfl, Nat.le_of_ble_eq_true rfl⟩ dX7_init_1 ?_
  refine lv_aload_n hx hb dX7_init_4 rfl (lv_at hl 0 rfl) ?_
  refine lv_iload_n hx hb dX7_init_5 rfl (lv_at hl 1 rfl) ?_
  refine kp_i (Z := Z) (o := o) Z rfl rfl M V P 7 0 ho hko pC7 fk7_0 k1 (Or.inr ⟨hnm, rfl, rfl⟩) lkF_X7_9 ⟨rfl, rfl⟩ dX7_init_6 (fun y1 h1 H locs P V => ?_)
  have M := pM.to (gW Z y1) rfl M
  exact pe_v (Z := Z) (Z' := (gW Z y1)) M V rfl rfl hr hlk P ⟨Nat.le_of_ble_eq_true rfl, Nat.le_of_ble_eq_true rfl⟩ dX7_init_9
theorem dX0_init_0 : decode cX0_init 0 = .ok (.aload_n 0, 1) := by decide +kernel
theorem dX0_init_1 : decode cX0_init 1 = .ok (.invokespecial 3, 3) := by decide +kernel
theorem dX0_init_4 : decode cX0_init 4 = .ok (.aload_n 0, 1) := by decide +kernel
theorem dX0_init_5 : decode cX0_init 5 = .ok (.new 9, 3) := by decide +kernel
theorem dX0_init_8 : decode cX0_init 8 = .ok (.dup, 1) := by decide +kernel
theorem dX0_init_9 : decode cX0_init 9 = .ok (.invokespecial 11, 3) := by decide +kernel
theorem dX0_init_12 : decode cX0_init 12 = .ok (.putfield 12, 3) := by decide +kernel
theorem dX0_init_15 : decode cX0_init 15 = .ok (.return_, 1) := by decide +kernel
set_option maxHeartbeats 4000000 in
set_option maxRecDepth 100000 in
theorem m_X0_init (l : Launch) {Z : pZ} {h : pH} {n r x : Nat} (o : Nat) (P : pMk n r x Z h) (ho : o < n) (hko : pKT.getD o 99 = 0) (k1 : okN n r x 2 0 = true) (k2 : okR r o 0 n = true) : nMet l yX0_init cX0_init 1 2 1 4 40 n Z h [.ref (zB Z + o)] (pQv Z (fun Z1 h1 => pMk (n + 1) (r + 1) (x) Z1 h1)) := by
  refine nOfW (lv := [(0, .ref (zB Z + o))]) (by decide) (Nat.le_of_ble_eq_true rfl) rfl ?_
  intro p e s m below meth c ls M hr hlk hnm V hl hs hao
  have hx := M.1.1
  have hb := M.1.2.1
  refine lv_aload_n hx hb dX0_init_0 rfl (lv_at hl 0 rfl) ?_
  refine ko_I (Z := Z) M hl.1 lkO_X0 kO_init ⟨Nat.le_of_ble_eq_true rfl, Nat.le_of_ble_eq_true rfl⟩ dX0_init_1 ?_
  refine lv_aload_n hx hb dX0_init_4 rfl (lv_at hl 0 rfl) ?_
  refine kn_o (Z := Z) Z rfl rfl M V P hs (by omega) pC2 fd2 k1 lkC_X0_9 kI_2 ki_2 ⟨Nat.le_of_ble_eq_true rfl, Nat.le_of_ble_eq_true rfl⟩ dX0_init_5 (fun y1 h1 H P V => ?_)
  have M := pM.to (gW Z y1) rfl M
  refine lv_dup hx hb dX0_init_8 rfl ?_
  refine g_know (fun g0 => ?_)
  have z9 := mk_size V P hs g0 (by omega)
  refine kz_v (Z := (gW Z y1)) Z rfl rfl (nr_IN (Z := (gW Z y1)) M V hao z9 (m_X2_init l n P ) km_X2_init lkN_X0_11 rfl hl.1 rfl (Nat.le_of_ble_eq_true rfl) ⟨Nat.le_of_ble_eq_true rfl, Nat.le_of_ble_eq_true rfl⟩ ⟨Nat.le_of_ble_eq_true rfl, Nat.le_of_ble_eq_true rfl⟩ dX0_init_9) V (fun y2 h2 H locs P V => ?_)
  have M := pM.to (gW Z y2) rfl M
  refine kp_r (Z := (gW Z y2)) (o := o) (t := n) Z rfl rfl M V P 0 0 (by omega) hko pC0 fk0_0 k2 (Or.inr ⟨hnm, rfl, rfl⟩) lkF_X0_12 (fun a => ⟨rfl, rfl⟩) dX0_init_12 (fun y3 h3 H locs P V => ?_)
  have M := pM.to (gW Z y3) rfl M
  exact pe_v (Z := Z) (Z' := (gW Z y3)) M V rfl rfl hr hlk P ⟨Nat.le_of_ble_eq_true rfl, Nat.le_of_ble_eq_true rfl⟩ dX0_init_15
theorem dX9_init_0 : decode cX9_init 0 = .ok (.aload_n 0, 1) := by decide +kernel
theorem dX9_init_1 : decode cX9_init 1 = .ok (.invokespecial 3, 3) := by decide +kernel
theorem dX9_init_4 : decode cX9_init 4 = .ok (.aload_n 0, 1) := by decide +kernel
theorem dX9_init_5 : decode cX9_init 5 = .ok (.sipush 192, 3) := by decide +kernel
theorem dX9_init_8 : decode cX9_init 8 = .ok (.newarray .int, 2) := by decide +kernel
theorem dX9_init_10 : decode cX9_init 10 = .ok (.putfield 11, 3) := by decide +kernel
theorem dX9_init_13 : decode cX9_init 13 = .ok (.aload_n 0, 1) := by decide +kernel
theorem dX9_init_14 : decode cX9_init 14 = .ok (.sipush 256, 3) := by decide +kernel
theorem dX9_init_17 : decode cX9_init 17 = .ok (.newarray .int, 2) := by decide +kernel
theorem dX9_init_19 : decode cX9_init 19 = .ok (.putfield 15, 3) := by decide +kernel
theorem dX9_init_22 : decode cX9_init 22 = .ok (.return_, 1) := by decide +kernel
set_option maxHeartbeats 4000000 in
set_option maxRecDepth 100000 in
theorem m_X9_init (l : Launch) {Z : pZ} {h : pH} {n r x : Nat} (o : Nat) (P : pMk n r x Z h) (ho : o < n) (hko : pKT.getD o 99 = 9) (k1 : okN n r x 13 192 = true) (k2 : okR r o 0 n = true) (k3 : okN (n + 1) (r + 1) x 13 256 = true) (k4 : okR (r + 1) o 1 (n + 1) = true) : nMet l yX9_init cX9_init 1 1 2 448 20 n Z h [.ref (zB Z + o)] (pQv Z (fun Z1 h1 => pMk (n + 2) (r + 2) (x) Z1 h1)) := by
  refine nOfW (lv := [(0, .ref (zB Z + o))]) (by decide) (Nat.le_of_ble_eq_true rfl) rfl ?_
  intro p e s m below meth c ls M hr hlk hnm V hl hs hao
  have hx := M.1.1
  have hb := M.1.2.1
  refine lv_aload_n hx hb dX9_init_0 rfl (lv_at hl 0 rfl) ?_
  refine ko_I (Z := Z) M hl.1 lkO_X9 kO_init ⟨Nat.le_of_ble_eq_true rfl, Nat.le_of_ble_eq_true rfl⟩ dX9_init_1 ?_
  refine lv_aload_n hx hb dX9_init_4 rfl (lv_at hl 0 rfl) ?_
  refine lv_sipush (v := 192) hx hb dX9_init_5 (by decide) ?_
  refine kn_a (Z := Z) Z rfl rfl M V P hs (by omega) (ci := 13) (N := 192) (Or.inl ⟨rfl, rfl⟩) kA_int k1 (by decide) (by decide) (by decide) ⟨Nat.le_of_ble_eq_true rfl, Nat.le_of_ble_eq_true rfl⟩ dX9_init_8 (fun y1 h1 H P V => ?_)
  have M := pM.to (gW Z y1) rfl M
  refine kp_r (Z := (gW Z y1)) (o := o) (t := n) Z rfl rfl M V P 9 0 (by omega) hko pC9 fk9_0 k2 (Or.inl rfl) lkF_X9_11 (fun a => ⟨rfl, rfl⟩) dX9_init_10 (fun y2 h2 H locs P V => ?_)
  have M := pM.to (gW Z y2) rfl M
  refine lv_aload_n hx hb dX9_init_13 rfl (lv_at hl 0 rfl) ?_
  refine lv_sipush (v := 256) hx hb dX9_init_14 (by decide) ?_
  refine kn_a (Z := (gW Z y2)) Z rfl rfl M V P hs (by omega) (ci := 13) (N := 256) (Or.inl ⟨rfl, rfl⟩) kA_int k3 (by decide) (by decide) (by decide) ⟨Nat.le_of_ble_eq_true rfl, Nat.le_of_ble_eq_true rfl⟩ dX9_init_17 (fun y3 h3 H P V => ?_)
  have M := pM.to (gW Z y3) rfl M
  refine kp_r (Z := (gW Z y3)) (o := o) (t := n + 1) Z rfl rfl M V P 9 1 (by omega) hko pC9 fk9_1 k4 (Or.inl rfl) lkF_X9_15 (fun a => ⟨rfl, rfl⟩) dX9_init_19 (fun y4 h4 H locs P V => ?_)
  have M := pM.to (gW Z y4) rfl M
  exact pe_v (Z := Z) (Z' := (gW Z y4)) M V rfl rfl hr hlk P ⟨Nat.le_of_ble_eq_true rfl, Nat.le_of_ble_eq_true rfl⟩ dX9_init_22
theorem dX4_init_0 : decode cX4_init 0 = .ok (.aload_n 0, 1) := by decide +kernel
theorem dX4_init_1 : decode cX4_init 1 = .ok (.invokespecial 1, 3) := by decide +kernel
theorem dX4_init_4 : decode cX4_init 4 = .ok (.aload_n 0, 1) := by decide +kernel
theorem dX4_init_5 : decode cX4_init 5 = .ok (.bipush 64, 2) := by decide +kernel
theorem dX4_init_7 : decode cX4_init 7 = .ok (.newarray .int, 2) := by decide +kernel
theorem dX4_init_9 : decode cX4_init 9 = .ok (.putfield 9, 3) := by decide +kernel
theorem dX4_init_12 : decode cX4_init 12 = .ok (.aload_n 0, 1) := by decide +kernel
theorem dX4_init_13 : decode cX4_init 13 = .ok (.bipush 64, 2) := by decide +kernel
theorem dX4_init_15 : decode cX4_init 15 = .ok (.newarray .int, 2) := by decide +kernel
theorem dX4_init_17 : decode cX4_init 17 = .ok (.putfield 13, 3) := by decide +kernel
theorem dX4_init_20 : decode cX4_init 20 = .ok (.aload_n 0, 1) := by decide +kernel
theorem dX4_init_21 : decode cX4_init 21 = .ok (.bipush 64, 2) := by decide +kernel
theorem dX4_init_23 : decode cX4_init 23 = .ok (.newarray .int, 2) := by decide +kernel
theorem dX4_init_25 : decode cX4_init 25 = .ok (.putfield 16, 3) := by decide +kernel
theorem dX4_init_28 : decode cX4_init 28 = .ok (.return_, 1) := by decide +kernel
set_option maxHeartbeats 4000000 in
set_option maxRecDepth 100000 in
theorem m_X4_init (l : Launch) {Z : pZ} {h : pH} (P : pMk 3 0 0 Z h) : nMet l yX4_init cX4_init 1 1 3 192 20 3 Z h [.ref (zB Z + 2)] (pQv Z (fun Z1 h1 => pMk (6) (3) (0) Z1 h1)) := by
  refine nOfW (lv := [(0, .ref (zB Z + 2))]) (by decide) (Nat.le_of_ble_eq_true rfl) rfl ?_
  intro p e s m below meth c ls M hr hlk hnm V hl hs hao
  have hx := M.1.1
  have hb := M.1.2.1
  refine lv_aload_n hx hb dX4_init_0 rfl (lv_at hl 0 rfl) ?_
  refine ko_I (Z := Z) M hl.1 lkO_X4 kO_init ⟨Nat.le_of_ble_eq_true rfl, Nat.le_of_ble_eq_true rfl⟩ dX4_init_1 ?_
  refine lv_aload_n hx hb dX4_init_4 rfl (lv_at hl 0 rfl) ?_
  refine lv_bipush (v := 64) hx hb dX4_init_5 (by decide) ?_
  refine kn_a (Z := Z) Z rfl rfl M V P hs (by omega) (ci := 13) (N := 64) (Or.inl ⟨rfl, rfl⟩) kA_int (by decide +kernel) (by decide) (by decide) (by decide) ⟨Nat.le_of_ble_eq_true rfl, Nat.le_of_ble_eq_true rfl⟩ dX4_init_7 (fun y1 h1 H P V => ?_)
  have M := pM.to (gW Z y1) rfl M
  refine kp_r (Z := (gW Z y1)) (o := 2) (t := 3) Z rfl rfl M V P 4 0 (by decide) rfl pC4 fk4_0 (by decide +kernel) (Or.inr ⟨hnm, rfl, rfl⟩) lkF_X4_9 (fun a => ⟨rfl, rfl⟩) dX4_init_9 (fun y2 h2 H locs P V => ?_)
  have M := pM.to (gW Z y2) rfl M
  refine lv_aload_n hx hb dX4_init_12 rfl (lv_at hl 0 rfl) ?_
  refine lv_bipush (v := 64) hx hb dX4_init_13 (by decide) ?_
  refine kn_a (Z := (gW Z y2)) Z rfl rfl M V P hs (by omega) (ci := 13) (N := 64) (Or.inl ⟨rfl, rfl⟩) kA_int (by decide +kernel) (by decide) (by decide) (by decide) ⟨Nat.le_of_ble_eq_true rfl, Nat.le_of_ble_eq_true rfl⟩ dX4_init_15 (fun y3 h3 H P V => ?_)
  have M := pM.to (gW Z y3) rfl M
  refine kp_r (Z := (gW Z y3)) (o := 2) (t := 4) Z rfl rfl M V P 4 1 (by decide) rfl pC4 fk4_1 (by decide +kernel) (Or.inr ⟨hnm, rfl, rfl⟩) lkF_X4_13 (fun a => ⟨rfl, rfl⟩) dX4_init_17 (fun y4 h4 H locs P V => ?_)
  have M := pM.to (gW Z y4) rfl M
  refine lv_aload_n hx hb dX4_init_20 rfl (lv_at hl 0 rfl) ?_
  refine lv_bipush (v := 64) hx hb dX4_init_21 (by decide) ?_
  refine kn_a (Z := (gW Z y4)) Z rfl rfl M V P hs (by omega) (ci := 13) (N := 64) (Or.inl ⟨rfl, rfl⟩) kA_int (by decide +kernel) (by decide) (by decide) (by decide) ⟨Nat.le_of_ble_eq_true rfl, Nat.le_of_ble_eq_true rfl⟩ dX4_init_23 (fun y5 h5 H P V => ?_)
  have M := pM.to (gW Z y5) rfl M
  refine kp_r (Z := (gW Z y5)) (o := 2) (t := 5) Z rfl rfl M V P 4 2 (by decide) rfl pC4 fk4_2 (by decide +kernel) (Or.inr ⟨hnm, rfl, rfl⟩) lkF_X4_16 (fun a => ⟨rfl, rfl⟩) dX4_init_25 (fun y6 h6 H locs P V => ?_)
  have M := pM.to (gW Z y6) rfl M
  exact pe_v (Z := Z) (Z' := (gW Z y6)) M V rfl rfl hr hlk P ⟨Nat.le_of_ble_eq_true rfl, Nat.le_of_ble_eq_true rfl⟩ dX4_init_28
theorem dX5_init_0 : decode cX5_init 0 = .ok (.aload_n 0, 1) := by decide +kernel
theorem dX5_init_1 : decode cX5_init 1 = .ok (.invokespecial 3, 3) := by decide +kernel
theorem dX5_init_4 : decode cX5_init 4 = .ok (.aload_n 0, 1) := by decide +kernel
theorem dX5_init_5 : decode cX5_init 5 = .ok (.new 9, 3) := by decide +kernel
theorem dX5_init_8 : decode cX5_init 8 = .ok (.dup, 1) := by decide +kernel
theorem dX5_init_9 : decode cX5_init 9 = .ok (.invokespecial 11, 3) := by decide +kernel
theorem dX5_init_12 : decode cX5_init 12 = .ok (.putfield 12, 3) := by decide +kernel
theorem dX5_init_15 : decode cX5_init 15 = .ok (.aload_n 0, 1) := by decide +kernel
theorem dX5_init_16 : decode cX5_init 16 = .ok (.bipush 6, 2) := by decide +kernel
theorem dX5_init_18 : decode cX5_init 18 = .ok (.newarray .boolean, 2) := by decide +kernel
theorem dX5_init_20 : decode cX5_init 20 = .ok (.putfield 18, 3) := by decide +kernel
theorem dX5_init_23 : decode cX5_init 23 = .ok (.aload_n 0, 1) := by decide +kernel
theorem dX5_init_24 : decode cX5_init 24 = .ok (.bipush 6, 2) := by decide +kernel
theorem dX5_init_26 : decode cX5_init 26 = .ok (.newarray .boolean, 2) := by decide +kernel
theorem dX5_init_28 : decode cX5_init 28 = .ok (.putfield 22, 3) := by decide +kernel
theorem dX5_init_31 : decode cX5_init 31 = .ok (.aload_n 0, 1) := by decide +kernel
theorem dX5_init_32 : decode cX5_init 32 = .ok (.bipush 6, 2) := by decide +kernel
theorem dX5_init_34 : decode cX5_init 34 = .ok (.newarray .boolean, 2) := by decide +kernel
theorem dX5_init_36 : decode cX5_init 36 = .ok (.putfield 25, 3) := by decide +kernel
theorem dX5_init_39 : decode cX5_init 39 = .ok (.aload_n 0, 1) := by decide +kernel
theorem dX5_init_40 : decode cX5_init 40 = .ok (.bipush 16, 2) := by decide +kernel
theorem dX5_init_42 : decode cX5_init 42 = .ok (.newarray .int, 2) := by decide +kernel
theorem dX5_init_44 : decode cX5_init 44 = .ok (.putfield 28, 3) := by decide +kernel
theorem dX5_init_47 : decode cX5_init 47 = .ok (.return_, 1) := by decide +kernel
set_option maxHeartbeats 4000000 in
set_option maxRecDepth 100000 in
theorem m_X5_init (l : Launch) {Z : pZ} {h : pH} (P : pMk 2 0 0 Z h) : nMet l yX5_init cX5_init 1 2 8 231 40 2 Z h [.ref (zB Z + 1)] (pQv Z (fun Z1 h1 => pMk (10) (8) (0) Z1 h1)) := by
  refine nOfW (lv := [(0, .ref (zB Z + 1))]) (by decide) (Nat.le_of_ble_eq_true rfl) rfl ?_
  intro p e s m below meth c ls M hr hlk hnm V hl hs hao
  have hx := M.1.1
  have hb := M.1.2.1
  refine lv_aload_n hx hb dX5_init_0 rfl (lv_at hl 0 rfl) ?_
  refine ko_I (Z := Z) M hl.1 lkO_X5 kO_init ⟨Nat.le_of_ble_eq_true rfl, Nat.le_of_ble_eq_true rfl⟩ dX5_init_1 ?_
  refine lv_aload_n hx hb dX5_init_4 rfl (lv_at hl 0 rfl) ?_
  refine kn_o (Z := Z) Z rfl rfl M V P hs (by omega) pC4 fd4 (by decide +kernel) lkC_X5_9 kI_4 ki_4 ⟨Nat.le_of_ble_eq_true rfl, Nat.le_of_ble_eq_true rfl⟩ dX5_init_5 (fun y1 h1 H P V => ?_)
  have M := pM.to (gW Z y1) rfl M
  refine lv_dup hx hb dX5_init_8 rfl ?_
  refine g_know (fun g0 => ?_)
  have z9 := mk_size V P hs g0 (by omega)
  refine kz_v (Z := (gW Z y1)) Z rfl rfl (nr_IN (Z := (gW Z y1)) M V hao z9 (m_X4_init l P) km_X4_init lkN_X5_11 rfl hl.1 rfl (Nat.le_of_ble_eq_true rfl) ⟨Nat.le_of_ble_eq_true rfl, Nat.le_of_ble_eq_true rfl⟩ ⟨Nat.le_of_ble_eq_true rfl, Nat.le_of_ble_eq_true rfl⟩ dX5_init_9) V (fun y2 h2 H locs P V => ?_)
  have M := pM.to (gW Z y2) rfl M
  refine kp_r (Z := (gW Z y2)) (o := 1) (t := 2) Z rfl rfl M V P 5 0 (by decide) rfl pC5 fk5_0 (by decide +kernel) (Or.inr ⟨hnm, rfl, rfl⟩) lkF_X5_12 (fun a => ⟨rfl, rfl⟩) dX5_init_12 (fun y3 h3 H locs P V => ?_)
  have M := pM.to (gW Z y3) rfl M
  refine lv_aload_n hx hb dX5_init_15 rfl (lv_at hl 0 rfl) ?_
  refine lv_bipush (v := 6) hx hb dX5_init_16 (by decide) ?_
  refine kn_a (Z := (gW Z y3)) Z rfl rfl M V P hs (by omega) (ci := 14) (N := 6) (Or.inr (Or.inl ⟨rfl, rfl⟩)) kA_bool (by decide +kernel) (by decide) (by decide) (by decide) ⟨Nat.le_of_ble_eq_true rfl, Nat.le_of_ble_eq_true rfl⟩ dX5_init_18 (fun y4 h4 H P V => ?_)
  have M := pM.to (gW Z y4) rfl M
  refine kp_r (Z := (gW Z y4)) (o := 1) (t := 6) Z rfl rfl M V P 5 1 (by decide) rfl pC5 fk5_1 (by decide +kernel) (Or.inr ⟨hnm, rfl, rfl⟩) lkF_X5_18 (fun a => ⟨rfl, rfl⟩) dX5_init_20 (fun y5 h5 H locs P V => ?_)
  have M := pM.to (gW Z y5) rfl M
  refine lv_aload_n hx hb dX5_init_23 rfl (lv_at hl 0 rfl) ?_
  refine lv_bipush (v := 6) hx hb dX5_init_24 (by decide) ?_
  refine kn_a (Z := (gW Z y5)) Z rfl rfl M V P hs (by omega) (ci := 14) (N := 6) (Or.inr (Or.inl ⟨rfl, rfl⟩)) kA_bool (by decide +kernel) (by decide) (by decide) (by decide) ⟨Nat.le_of_ble_eq_true rfl, Nat.le_of_ble_eq_true rfl⟩ dX5_init_26 (fun y6 h6 H P V => ?_)
  have M := pM.to (gW Z y6) rfl M
  refine kp_r (Z := (gW Z y6)) (o := 1) (t := 7) Z rfl rfl M V P 5 2 (by decide) rfl pC5 fk5_2 (by decide +kernel) (Or.inr ⟨hnm, rfl, rfl⟩) lkF_X5_22 (fun a => ⟨rfl, rfl⟩) dX5_init_28 (fun y7 h7 H locs P V => ?_)
  have M := pM.to (gW Z y7) rfl M
  refine lv_aload_n hx hb dX5_init_31 rfl (lv_at hl 0 rfl) ?_
  refine lv_bipush (v := 6) hx hb dX5_init_32 (by decide) ?_
  refine kn_a (Z := (gW Z y7)) Z rfl rfl M V P hs (by omega) (ci := 14) (N := 6) (Or.inr (Or.inl ⟨rfl, rfl⟩)) kA_bool (by decide +kernel) (by decide) (by decide) (by decide) ⟨Nat.le_of_ble_eq_true rfl, Nat.le_of_ble_eq_true rfl⟩ dX5_init_34 (fun y8 h8 H P V => ?_)
  have M := pM.to (gW Z y8) rfl M
  refine kp_r (Z := (gW Z y8)) (o := 1) (t := 8) Z rfl rfl M V P 5 3 (by decide) rfl pC5 fk5_3 (by decide +kernel) (Or.inr ⟨hnm, rfl, rfl⟩) lkF_X5_25 (fun a => ⟨rfl, rfl⟩) dX5_init_36 (fun y9 h9 H locs P V => ?_)
  have M := pM.to (gW Z y9) rfl M
  refine lv_aload_n hx hb dX5_init_39 rfl (lv_at hl 0 rfl) ?_
  refine lv_bipush (v := 16) hx hb dX5_init_40 (by decide) ?_
  refine kn_a (Z := (gW Z y9)) Z rfl rfl M V P hs (by omega) (ci := 13) (N := 16) (Or.inl ⟨rfl, rfl⟩) kA_int (by decide +kernel) (by decide) (by decide) (by decide) ⟨Nat.le_of_ble_eq_true rfl, Nat.le_of_ble_eq_true rfl⟩ dX5_init_42 (fun y10 h10 H P V => ?_)
  have M := pM.to (gW Z y10) rfl M
  refine kp_r (Z := (gW Z y10)) (o := 1) (t := 9) Z rfl rfl M V P 5 4 (by decide) rfl pC5 fk5_4 (by decide +kernel) (Or.inr ⟨hnm, rfl, rfl⟩) lkF_X5_28 (fun a => ⟨rfl, rfl⟩) dX5_init_44 (fun y11 h11 H locs P V => ?_)
  have M := pM.to (gW Z y11) rfl M
  exact pe_v (Z := Z) (Z' := (gW Z y11)) M V rfl rfl hr hlk P ⟨Nat.le_of_ble_eq_true rfl, Nat.le_of_ble_eq_true rfl⟩ dX5_init_47
theorem dX3_init_0 : decode cX3_init 0 = .ok (.aload_n 0, 1) := by decide +kernel
theorem dX3_init_1 : decode cX3_init 1 = .ok (.invokespecial 3, 3) := by decide +kernel
theorem dX3_init_4 : decode cX3_init 4 = .ok (.aload_n 0, 1) := by decide +kernel
theorem dX3_init_5 : decode cX3_init 5 = .ok (.bipush 8, 2) := by decide +kernel
theorem dX3_init_7 : decode cX3_init 7 = .ok (.anewarray 9, 3) := by decide +kernel
theorem dX3_init_10 : decode cX3_init 10 = .ok (.putfield 11, 3) := by decide +kernel
theorem dX3_init_13 : decode cX3_init 13 = .ok (.aload_n 0, 1) := by decide +kernel
theorem dX3_init_14 : decode cX3_init 14 = .ok (.new 9, 3) := by decide +kernel
theorem dX3_init_17 : decode cX3_init 17 = .ok (.dup, 1) := by decide +kernel
theorem dX3_init_18 : decode cX3_init 18 = .ok (.iconst 0, 1) := by decide +kernel
theorem dX3_init_19 : decode cX3_init 19 = .ok (.invokespecial 17, 3) := by decide +kernel
theorem dX3_init_22 : decode cX3_init 22 = .ok (.putfield 20, 3) := by decide +kernel
theorem dX3_init_25 : decode cX3_init 25 = .ok (.aload_n 0, 1) := by decide +kernel
theorem dX3_init_26 : decode cX3_init 26 = .ok (.bipush 8, 2) := by decide +kernel
theorem dX3_init_28 : decode cX3_init 28 = .ok (.newarray .int, 2) := by decide +kernel
theorem dX3_init_30 : decode cX3_init 30 = .ok (.putfield 24, 3) := by decide +kernel
theorem dX3_init_33 : decode cX3_init 33 = .ok (.aload_n 0, 1) := by decide +kernel
theorem dX3_init_34 : decode cX3_init 34 = .ok (.iconst (-1), 1) := by decide +kernel
theorem dX3_init_35 : decode cX3_init 35 = .ok (.putfield 28, 3) := by decide +kernel
theorem dX3_init_38 : decode cX3_init 38 = .ok (.aload_n 0, 1) := by decide +kernel
theorem dX3_init_39 : decode cX3_init 39 = .ok (.iconst (-1), 1) := by decide +kernel
theorem dX3_init_40 : decode cX3_init 40 = .ok (.putfield 32, 3) := by decide +kernel
theorem dX3_init_43 : decode cX3_init 43 = .ok (.aload_n 0, 1) := by decide +kernel
theorem dX3_init_44 : decode cX3_init 44 = .ok (.iconst (-1), 1) := by decide +kernel
theorem dX3_init_45 : decode cX3_init 45 = .ok (.putfield 35, 3) := by decide +kernel
theorem dX3_init_48 : decode cX3_init 48 = .ok (.iconst 0, 1) := by decide +kernel
theorem dX3_init_49 : decode cX3_init 49 = .ok (.istore_n 1, 1) := by decide +kernel
theorem dX3_init_50 : decode cX3_init 50 = .ok (.iload_n 1, 1) := by decide +kernel
theorem dX3_init_51 : decode cX3_init 51 = .ok (.bipush 8, 2) := by decide +kernel
theorem dX3_init_53 : decode cX3_init 53 = .ok (.if_icmp .ge 31, 3) := by decide +kernel
theorem dX3_init_56 : decode cX3_init 56 = .ok (.aload_n 0, 1) := by decide +kernel
theorem dX3_init_57 : decode cX3_init 57 = .ok (.getfield 11, 3) := by decide +kernel
theorem dX3_init_60 : decode cX3_init 60 = .ok (.iload_n 1, 1) := by decide +kernel
theorem dX3_init_61 : decode cX3_init 61 = .ok (.new 9, 3) := by decide +kernel
theorem dX3_init_64 : decode cX3_init 64 = .ok (.dup, 1) := by decide +kernel
theorem dX3_init_65 : decode cX3_init 65 = .ok (.bipush 12, 2) := by decide +kernel
theorem dX3_init_67 : decode cX3_init 67 = .ok (.invokespecial 17, 3) := by decide +kernel
theorem dX3_init_70 : decode cX3_init 70 = .ok (.aastore, 1) := by decide +kernel
theorem dX3_init_71 : decode cX3_init 71 = .ok (.aload_n 0, 1) := by decide +kernel
theorem dX3_init_72 : decode cX3_init 72 = .ok (.getfield 24, 3) := by decide +kernel
theorem dX3_init_75 : decode cX3_init 75 = .ok (.iload_n 1, 1) := by decide +kernel
theorem dX3_init_76 : decode cX3_init 76 = .ok (.iload_n 1, 1) := by decide +kernel
theorem dX3_init_77 : decode cX3_init 77 = .ok (.iastore, 1) := by decide +kernel
theorem dX3_init_78 : decode cX3_init 78 = .ok (.iinc 1 1, 3) := by decide +kernel
theorem dX3_init_81 : decode cX3_init 81 = .ok (.goto (-31), 3) := by decide +kernel
theorem dX3_init_84 : decode cX3_init 84 = .ok (.return_, 1) := by decide +kernel
set_option maxHeartbeats 4000000 in
set_option maxRecDepth 100000 in
theorem m_X3_init (l : Launch) {Z : pZ} {h : pH} (P : pMk 11 9 0 Z h) : nMet l yX3_init cX3_init 2 2 11 142 41 11 Z h [.ref (zB Z + 10)] (pQv Z (fun Z1 h1 => pMk (22) (20) (20) Z1 h1)) := by
  refine nOfW (lv := [(0, .ref (zB Z + 10))]) (by decide) (Nat.le_of_ble_eq_true rfl) rfl ?_
  intro p e s m below meth c ls M hr hlk hnm V hl hs hao
  have hx := M.1.1
  have hb := M.1.2.1
  refine lv_aload_n hx hb dX3_init_0 rfl (lv_at hl 0 rfl) ?_
  refine ko_I (Z := Z) M hl.1 lkO_X3 kO_init ⟨Nat.le_of_ble_eq_true rfl, Nat.le_of_ble_eq_true rfl⟩ dX3_init_1 ?_
  refine lv_aload_n hx hb dX3_init_4 rfl (lv_at hl 0 rfl) ?_
  refine lv_bipush (v := 8) hx hb dX3_init_5 (by decide) ?_
  refine kn_q (Z := Z) Z rfl rfl (C := RX7) M V P hs (by omega) (ca := 17) (N := 8) (by decide) rfl lkC_X3_9 hao.2.2 (by decide +kernel) (by decide) (by decide) (by decide) ⟨Nat.le_of_ble_eq_true rfl, Nat.le_of_ble_eq_true rfl⟩ dX3_init_7 (fun y1 h1 H P V => ?_)
  have M := pM.to (gW Z y1) rfl M
  refine kp_r (Z := (gW Z y1)) (o := 10) (t := 11) Z rfl rfl M V P 3 0 (by decide) rfl pC3 fk3_0 (by decide +kernel) (Or.inr ⟨hnm, rfl, rfl⟩) lkF_X3_11 (fun a => ⟨rfl, rfl⟩) dX3_init_10 (fun y2 h2 H locs P V => ?_)
  have M := pM.to (gW Z y2) rfl M
  refine lv_aload_n hx hb dX3_init_13 rfl (lv_at hl 0 rfl) ?_
  refine kn_o (Z := (gW Z y2)) Z rfl rfl M V P hs (by omega) pC7 fd7 (by decide +kernel) lkC_X3_9 kI_7 ki_7 ⟨Nat.le_of_ble_eq_true rfl, Nat.le_of_ble_eq_true rfl⟩ dX3_init_14 (fun y3 h3 H P V => ?_)
  have M := pM.to (gW Z y3) rfl M
  refine lv_dup hx hb dX3_init_17 rfl ?_
  refine lv_iconst (v := 0) hx hb dX3_init_18 (by decide) ?_
  refine g_know (fun g0 => ?_)
  have z9 := mk_size V P hs g0 (by omega)
  refine kz_v (Z := (gW Z y3)) Z rfl rfl (nr_I (Z := (gW Z y3)) M V hao z9 (m_X7_init l 12 P (0 : Int32) (by decide) rfl (by decide +kernel)) km_X7_init lkM_X3_17 rfl hl.1 rfl (Nat.le_of_ble_eq_true rfl) ⟨Nat.le_of_ble_eq_true rfl, Nat.le_of_ble_eq_true rfl⟩ ⟨Nat.le_of_ble_eq_true rfl, Nat.le_of_ble_eq_true rfl⟩ dX3_init_19) V (fun y4 h4 H locs P V => ?_)
  have M := pM.to (gW Z y4) rfl M
  refine kp_r (Z := (gW Z y4)) (o := 10) (t := 12) Z rfl rfl M V P 3 1 (by decide) rfl pC3 fk3_1 (by decide +kernel) (Or.inr ⟨hnm, rfl, rfl⟩) lkF_X3_20 (fun a => ⟨rfl, rfl⟩) dX3_init_22 (fun y5 h5 H locs P V => ?_)
  have M := pM.to (gW Z y5) rfl M
  refine lv_aload_n hx hb dX3_init_25 rfl (lv_at hl 0 rfl) ?_
  refine lv_bipush (v := 8) hx hb dX3_init_26 (by decide) ?_
  refine kn_a (Z := (gW Z y5)) Z rfl rfl M V P hs (by omega) (ci := 13) (N := 8) (Or.inl ⟨rfl, rfl⟩) kA_int (by decide +kernel) (by decide) (by decide) (by decide) ⟨Nat.le_of_ble_eq_true rfl, Nat.le_of_ble_eq_true rfl⟩ dX3_init_28 (fun y6 h6 H P V => ?_)
  have M := pM.to (gW Z y6) rfl M
  refine kp_r (Z := (gW Z y6)) (o := 10) (t := 13) Z rfl rfl M V P 3 2 (by decide) rfl pC3 fk3_2 (by decide +kernel) (Or.inr ⟨hnm, rfl, rfl⟩) lkF_X3_24 (fun a => ⟨rfl, rfl⟩) dX3_init_30 (fun y7 h7 H locs P V => ?_)
  have M := pM.to (gW Z y7) rfl M
  refine lv_aload_n hx hb dX3_init_33 rfl (lv_at hl 0 rfl) ?_
  refine lv_iconst (v := (-1)) hx hb dX3_init_34 (by decide) ?_
  refine kp_i (Z := (gW Z y7)) (o := 10) Z rfl rfl M V P 3 3 (by decide) rfl pC3 fk3_3 (by decide +kernel) (Or.inl rfl) lkF_X3_28 ⟨rfl, rfl⟩ dX3_init_35 (fun y8 h8 H locs P V => ?_)
  have M := pM.to (gW Z y8) rfl M
  refine lv_aload_n hx hb dX3_init_38 rfl (lv_at hl 0 rfl) ?_
  refine lv_iconst (v := (-1)) hx hb dX3_init_39 (by decide) ?_
  refine kp_i (Z := (gW Z y8)) (o := 10) Z rfl rfl M V P 3 4 (by decide) rfl pC3 fk3_4 (by decide +kernel) (Or.inl rfl) lkF_X3_32 ⟨rfl, rfl⟩ dX3_init_40 (fun y9 h9 H locs P V => ?_)
  have M := pM.to (gW Z y9) rfl M
  refine lv_aload_n hx hb dX3_init_43 rfl (lv_at hl 0 rfl) ?_
  refine lv_iconst (v := (-1)) hx hb dX3_init_44 (by decide) ?_
  refine kp_i (Z := (gW Z y9)) (o := 10) Z rfl rfl M V P 3 5 (by decide) rfl pC3 fk3_5 (by decide +kernel) (Or.inl rfl) lkF_X3_35 ⟨rfl, rfl⟩ dX3_init_45 (fun y10 h10 H locs P V => ?_)
  have M := pM.to (gW Z y10) rfl M
  refine lv_iconst (v := 0) hx hb dX3_init_48 (by decide) ?_
  refine lv_istore_n (lv' := [(1, .int (0 : Int32)), (0, .ref (zB Z + 10))]) hx hb dX3_init_49 rfl hl (by decide) rfl (fun ls hl => ?_)
  refine lv_iload_n hx hb dX3_init_50 rfl (lv_at hl 0 rfl) ?_
  refine lv_bipush (v := 8) hx hb dX3_init_51 (by decide) ?_
  refine lv_icmp_ge (tgt := 84) hx hb dX3_init_53 (by decide) (fun c9 => absurd c9 (by decide)) (fun _ => ?_)
  refine lv_aload_n hx hb dX3_init_56 rfl (lv_at hl 1 rfl) ?_
  refine pg_r (Z := (gW Z y10)) M V 3 0 (P.is (by decide) rfl) pC3 fk3_0 (P.ref (o := 10) (k := 0) (t := 11) (by decide +kernel)) lkF_X3_11 dX3_init_57 ?_
  refine lv_iload_n hx hb dX3_init_60 rfl (lv_at hl 0 rfl) ?_
  refine kn_o (Z := (gW Z y10)) Z rfl rfl M V P hs (by omega) pC7 fd7 (by decide +kernel) lkC_X3_9 kI_7 ki_7 ⟨Nat.le_of_ble_eq_true rfl, Nat.le_of_ble_eq_true rfl⟩ dX3_init_61 (fun y11 h11 H P V => ?_)
  have M := pM.to (gW Z y11) rfl M
  refine lv_dup hx hb dX3_init_64 rfl ?_
  refine lv_bipush (v := 12) hx hb dX3_init_65 (by decide) ?_
  refine g_know (fun g0 => ?_)
  have z9 := mk_size V P hs g0 (by omega)
  refine kz_v (Z := (gW Z y11)) Z rfl rfl (nr_I (Z := (gW Z y11)) M V hao z9 (m_X7_init l 14 P (12 : Int32) (by decide) rfl (by decide +kernel)) km_X7_init lkM_X3_17 rfl hl.1 rfl (Nat.le_of_ble_eq_true rfl) ⟨Nat.le_of_ble_eq_true rfl, Nat.le_of_ble_eq_true rfl⟩ ⟨Nat.le_of_ble_eq_true rfl, Nat.le_of_ble_eq_true rfl⟩ dX3_init_67) V (fun y12 h12 H locs P V => ?_)
  have M := pM.to (gW Z y12) rfl M
  refine ka_r (Z := (gW Z y12)) (o := 11) (t := 14) (ca := 17) Z rfl rfl (C := RX7) M V P (by decide) rfl (by decide) rfl (by decide) rfl pC7 (by decide +kernel) (pi_in (by decide)) dX3_init_70 (fun y13 h13 H locs P V => ?_)
  have M := pM.to (gW Z y13) rfl M
  refine lv_aload_n hx hb dX3_init_71 rfl (lv_at hl 1 rfl) ?_
  refine pg_r (Z := (gW Z y13)) M V 3 2 (P.is (by decide) rfl) pC3 fk3_2 (P.ref (o := 10) (k := 2) (t := 13) (by decide +kernel)) lkF_X3_24 dX3_init_72 ?_
  refine lv_iload_n hx hb dX3_init_75 rfl (lv_at hl 0 rfl) ?_
  refine lv_iload_n hx hb dX3_init_76 rfl (lv_at hl 0 rfl) ?_
  refine ks_i (Z := (gW Z y13)) (o := 13) Z rfl rfl M V P (by decide) rfl (by decide +kernel) (pi_in (by decide)) dX3_init_77 (fun y14 h14 H locs P V => ?_)
  have M := pM.to (gW Z y14) rfl M
  refine lv_iinc (v := (1 : Int32)) (lv' := [(1, .int (1 : Int32)), (0, .ref (zB Z + 10))]) hx hb dX3_init_78 hl (k := 0) rfl (by decide) (by decide) rfl (fun ls hl => ?_)
  refine lv_goto (tgt := 50) hx hb dX3_init_81 (by decide) ?_
  refine lv_iload_n hx hb dX3_init_50 rfl (lv_at hl 0 rfl) ?_
  refine lv_bipush (v := 8) hx hb dX3_init_51 (by decide) ?_
  refine lv_icmp_ge (tgt := 84) hx hb dX3_init_53 (by decide) (fun c9 => absurd c9 (by decide)) (fun _ => ?_)
  refine lv_aload_n hx hb dX3_init_56 rfl (lv_at hl 1 rfl) ?_
  refine pg_r (Z := (gW Z y14)) M V 3 0 (P.is (by decide) rfl) pC3 fk3_0 (P.ref (o := 10) (k := 0) (t := 11) (by decide +kernel)) lkF_X3_11 dX3_init_57 ?_
  refine lv_iload_n hx hb dX3_init_60 rfl (lv_at hl 0 rfl) ?_
  refine kn_o (Z := (gW Z y14)) Z rfl rfl M V P hs (by omega) pC7 fd7 (by decide +kernel) lkC_X3_9 kI_7 ki_7 ⟨Nat.le_of_ble_eq_true rfl, Nat.le_of_ble_eq_true rfl⟩ dX3_init_61 (fun y15 h15 H P V => ?_)
  have M := pM.to (gW Z y15) rfl M
  refine lv_dup hx hb dX3_init_64 rfl ?_
  refine lv_bipush (v := 12) hx hb dX3_init_65 (by decide) ?_
  refine g_know (fun g0 => ?_)
  have z9 := mk_size V P hs g0 (by omega)
  refine kz_v (Z := (gW Z y15)) Z rfl rfl (nr_I (Z := (gW Z y15)) M V hao z9 (m_X7_init l 15 P (12 : Int32) (by decide) rfl (by decide +kernel)) km_X7_init lkM_X3_17 rfl hl.1 rfl (Nat.le_of_ble_eq_true rfl) ⟨Nat.le_of_ble_eq_true rfl, Nat.le_of_ble_eq_true rfl⟩ ⟨Nat.le_of_ble_eq_true rfl, Nat.le_of_ble_eq_true rfl⟩ dX3_init_67) V (fun y16 h16 H locs P V => ?_)
  have M := pM.to (gW Z y16) rfl M
  refine ka_r (Z := (gW Z y16)) (o := 11) (t := 15) (ca := 17) Z rfl rfl (C := RX7) M V P (by decide) rfl (by decide) rfl (by decide) rfl pC7 (by decide +kernel) (pi_in (by decide)) dX3_init_70 (fun y17 h17 H locs P V => ?_)
  have M := pM.to (gW Z y17) rfl M
  refine lv_aload_n hx hb dX3_init_71 rfl (lv_at hl 1 rfl) ?_
  refine pg_r (Z := (gW Z y17)) M V 3 2 (P.is (by decide) rfl) pC3 fk3_2 (P.ref (o := 10) (k := 2) (t := 13) (by decide +kernel)) lkF_X3_24 dX3_init_72 ?_
  refine lv_iload_n hx hb dX3_init_75 rfl (lv_at hl 0 rfl) ?_
  refine lv_iload_n hx hb dX3_init_76 rfl (lv_at hl 0 rfl) ?_
  refine ks_i (Z := (gW Z y17)) (o := 13) Z rfl rfl M V P (by decide) rfl (by decide +kernel) (pi_in (by decide)) dX3_init_77 (fun y18 h18 H locs P V => ?_)
  have M := pM.to (gW Z y18) rfl M
  refine lv_iinc (v := (2 : Int32)) (lv' := [(1, .int (2 : Int32)), (0, .ref (zB Z + 10))]) hx hb dX3_init_78 hl (k := 0) rfl (by decide) (by decide) rfl (fun ls hl => ?_)
  refine lv_goto (tgt := 50) hx hb dX3_init_81 (by decide) ?_
  refine lv_iload_n hx hb dX3_init_50 rfl (lv_at hl 0 rfl) ?_
  refine lv_bipush (v := 8) hx hb dX3_init_51 (by decide) ?_
  refine lv_icmp_ge (tgt := 84) hx hb dX3_init_53 (by decide) (fun c9 => absurd c9 (by decide)) (fun _ => ?_)
  refine lv_aload_n hx hb dX3_init_56 rfl (lv_at hl 1 rfl) ?_
  refine pg_r (Z := (gW Z y18)) M V 3 0 (P.is (by decide) rfl) pC3 fk3_0 (P.ref (o := 10) (k := 0) (t := 11) (by decide +kernel)) lkF_X3_11 dX3_init_57 ?_
  refine lv_iload_n hx hb dX3_init_60 rfl (lv_at hl 0 rfl) ?_
  refine kn_o (Z := (gW Z y18)) Z rfl rfl M V P hs (by omega) pC7 fd7 (by decide +kernel) lkC_X3_9 kI_7 ki_7 ⟨Nat.le_of_ble_eq_true rfl, Nat.le_of_ble_eq_true rfl⟩ dX3_init_61 (fun y19 h19 H P V => ?_)
  have M := pM.to (gW Z y19) rfl M
  refine lv_dup hx hb dX3_init_64 rfl ?_
  refine lv_bipush (v := 12) hx hb dX3_init_65 (by decide) ?_
  refine g_know (fun g0 => ?_)
  have z9 := mk_size V P hs g0 (by omega)
  refine kz_v (Z := (gW Z y19)) Z rfl rfl (nr_I (Z := (gW Z y19)) M V hao z9 (m_X7_init l 16 P (12 : Int32) (by decide) rfl (by decide +kernel)) km_X7_init lkM_X3_17 rfl hl.1 rfl (Nat.le_of_ble_eq_true rfl) ⟨Nat.le_of_ble_eq_true rfl, Nat.le_of_ble_eq_true rfl⟩ ⟨Nat.le_of_ble_eq_true rfl, Nat.le_of_ble_eq_true rfl⟩ dX3_init_67) V (fun y20 h20 H locs P V => ?_)
  have M := pM.to (gW Z y20) rfl M
  refine ka_r (Z := (gW Z y20)) (o := 11) (t := 16) (ca := 17) Z rfl rfl (C := RX7) M V P (by decide) rfl (by decide) rfl (by decide) rfl pC7 (by decide +kernel) (pi_in (by decide)) dX3_init_70 (fun y21 h21 H locs P V => ?_)
  have M := pM.to (gW Z y21) rfl M
  refine lv_aload_n hx hb dX3_init_71 rfl (lv_at hl 1 rfl) ?_
  refine pg_r (Z := (gW Z y21)) M V 3 2 (P.is (by decide) rfl) pC3 fk3_2 (P.ref (o := 10) (k := 2) (t := 13) (by decide +kernel)) lkF_X3_24 dX3_init_72 ?_
  refine lv_iload_n hx hb dX3_init_75 rfl (lv_at hl 0 rfl) ?_
  refine lv_iload_n hx hb dX3_init_76 rfl (lv_at hl 0 rfl) ?_
  refine ks_i (Z := (gW Z y21)) (o := 13) Z rfl rfl M V P (by decide) rfl (by decide +kernel) (pi_in (by decide)) dX3_init_77 (fun y22 h22 H locs P V => ?_)
  have M := pM.to (gW Z y22) rfl M
  refine lv_iinc (v := (3 : Int32)) (lv' := [(1, .int (3 : Int32)), (0, .ref (zB Z + 10))]) hx hb dX3_init_78 hl (k := 0) rfl (by decide) (by decide) rfl (fun ls hl => ?_)
  refine lv_goto (tgt := 50) hx hb dX3_init_81 (by decide) ?_
  refine lv_iload_n hx hb dX3_init_50 rfl (lv_at hl 0 rfl) ?_
  refine lv_bipush (v := 8) hx hb dX3_init_51 (by decide) ?_
  refine lv_icmp_ge (tgt := 84) hx hb dX3_init_53 (by decide) (fun c9 => absurd c9 (by decide)) (fun _ => ?_)
  refine lv_aload_n hx hb dX3_init_56 rfl (lv_at hl 1 rfl) ?_
  refine pg_r (Z := (gW Z y22)) M V 3 0 (P.is (by decide) rfl) pC3 fk3_0 (P.ref (o := 10) (k := 0) (t := 11) (by decide +kernel)) lkF_X3_11 dX3_init_57 ?_
  refine lv_iload_n hx hb dX3_init_60 rfl (lv_at hl 0 rfl) ?_
  refine kn_o (Z := (gW Z y22)) Z rfl rfl M V P hs (by omega) pC7 fd7 (by decide +kernel) lkC_X3_9 kI_7 ki_7 ⟨Nat.le_of_ble_eq_true rfl, Nat.le_of_ble_eq_true rfl⟩ dX3_init_61 (fun y23 h23 H P V => ?_)
  have M := pM.to (gW Z y23) rfl M
  refine lv_dup hx hb dX3_init_64 rfl ?_
  refine lv_bipush (v := 12) hx hb dX3_init_65 (by decide) ?_
  refine g_know (fun g0 => ?_)
  have z9 := mk_size V P hs g0 (by omega)
  refine kz_v (Z := (gW Z y23)) Z rfl rfl (nr_I (Z := (gW Z y23)) M V hao z9 (m_X7_init l 17 P (12 : Int32) (by decide) rfl (by decide +kernel)) km_X7_init lkM_X3_17 rfl hl.1 rfl (Nat.le_of_ble_eq_true rfl) ⟨Nat.le_of_ble_eq_true rfl, Nat.le_of_ble_eq_true rfl⟩ ⟨Nat.le_of_ble_eq_true rfl, Nat.le_of_ble_eq_true rfl⟩ dX3_init_67) V (fun y24 h24 H locs P V => ?_)
  have M := pM.to (gW Z y24) rfl M
  refine ka_r (Z := (gW Z y24)) (o := 11) (t := 17) (ca := 17) Z rfl rfl (C := RX7) M V P (by decide) rfl (by decide) rfl (by decide) rfl pC7 (by decide +kernel) (pi_in (by decide)) dX3_init_70 (fun y25 h25 H locs P V => ?_)
  have M := pM.to (gW Z y25) rfl M
  refine lv_aload_n hx hb dX3_init_71 rfl (lv_at hl 1 rfl) ?_
  refine pg_r (Z := (gW Z y25)) M V 3 2 (P.is (by decide) rfl) pC3 fk3_2 (P.ref (o := 10) (k := 2) (t := 13) (by decide +kernel)) lkF_X3_24 dX3_init_72 ?_
  refine lv_iload_n hx hb dX3_init_75 rfl (lv_at hl 0 rfl) ?_
  refine lv_iload_n hx hb dX3_init_76 rfl (lv_at hl 0 rfl) ?_
  refine ks_i (Z := (gW Z y25)) (o := 13) Z rfl rfl M V P (by decide) rfl (by decide +kernel) (pi_in (by decide)) dX3_init_77 (fun y26 h26 H locs P V => ?_)
  have M := pM.to (gW Z y26) rfl M
  refine lv_iinc (v := (4 : Int32)) (lv' := [(1, .int (4 : Int32)), (0, .ref (zB Z + 10))]) hx hb dX3_init_78 hl (k := 0) rfl (by decide) (by decide) rfl (fun ls hl => ?_)
  refine lv_goto (tgt := 50) hx hb dX3_init_81 (by decide) ?_
  refine lv_iload_n hx hb dX3_init_50 rfl (lv_at hl 0 rfl) ?_
  refine lv_bipush (v := 8) hx hb dX3_init_51 (by decide) ?_
  refine lv_icmp_ge (tgt := 84) hx hb dX3_init_53 (by decide) (fun c9 => absurd c9 (by decide)) (fun _ => ?_)
  refine lv_aload_n hx hb dX3_init_56 rfl (lv_at hl 1 rfl) ?_
  refine pg_r (Z := (gW Z y26)) M V 3 0 (P.is (by decide) rfl) pC3 fk3_0 (P.ref (o := 10) (k := 0) (t := 11) (by decide +kernel)) lkF_X3_11 dX3_init_57 ?_
  refine lv_iload_n hx hb dX3_init_60 rfl (lv_at hl 0 rfl) ?_
  refine kn_o (Z := (gW Z y26)) Z rfl rfl M V P hs (by omega) pC7 fd7 (by decide +kernel) lkC_X3_9 kI_7 ki_7 ⟨Nat.le_of_ble_eq_true rfl, Nat.le_of_ble_eq_true rfl⟩ dX3_init_61 (fun y27 h27 H P V => ?_)
  have M := pM.to (gW Z y27) rfl M
  refine lv_dup hx hb dX3_init_64 rfl ?_
  refine lv_bipush (v := 12) hx hb dX3_init_65 (by decide) ?_
  refine g_know (fun g0 => ?_)
  have z9 := mk_size V P hs g0 (by omega)
  refine kz_v (Z := (gW Z y27)) Z rfl rfl (nr_I (Z := (gW Z y27)) M V hao z9 (m_X7_init l 18 P (12 : Int32) (by decide) rfl (by decide +kernel)) km_X7_init lkM_X3_17 rfl hl.1 rfl (Nat.le_of_ble_eq_true rfl) ⟨Nat.le_of_ble_eq_true rfl, Nat.le_of_ble_eq_true rfl⟩ ⟨Nat.le_of_ble_eq_true rfl, Nat.le_of_ble_eq_true rfl⟩ dX3_init_67) V (fun y28 h28 H locs P V => ?_)
  have M := pM.to (gW Z y28) rfl M
  refine ka_r (Z := (gW Z y28)) (o := 11) (t := 18) (ca := 17) Z rfl rfl (C := RX7) M V P (by decide) rfl (by decide) rfl (by decide) rfl pC7 (by decide +kernel) (pi_in (by decide)) dX3_init_70 (fun y29 h29 H locs P V => ?_)
  have M := pM.to (gW Z y29) rfl M
  refine lv_aload_n hx hb dX3_init_71 rfl (lv_at hl 1 rfl) ?_
  refine pg_r (Z := (gW Z y29)) M V 3 2 (P.is (by decide) rfl) pC3 fk3_2 (P.ref (o := 10) (k := 2) (t := 13) (by decide +kernel)) lkF_X3_24 dX3_init_72 ?_
  refine lv_iload_n hx hb dX3_init_75 rfl (lv_at hl 0 rfl) ?_
  refine lv_iload_n hx hb dX3_init_76 rfl (lv_at hl 0 rfl) ?_
  refine ks_i (Z := (gW Z y29)) (o := 13) Z rfl rfl M V P (by decide) rfl (by decide +kernel) (pi_in (by decide)) dX3_init_77 (fun y30 h30 H locs P V => ?_)
  have M := pM.to (gW Z y30) rfl M
  refine lv_iinc (v := (5 : Int32)) (lv' := [(1, .int (5 : Int32)), (0, .ref (zB Z + 10))]) hx hb dX3_init_78 hl (k := 0) rfl (by decide) (by decide) rfl (fun ls hl => ?_)
  refine lv_goto (tgt := 50) hx hb dX3_init_81 (by decide) ?_
  refine lv_iload_n hx hb dX3_init_50 rfl (lv_at hl 0 rfl) ?_
  refine lv_bipush (v := 8) hx hb dX3_init_51 (by decide) ?_
  refine lv_icmp_ge (tgt := 84) hx hb dX3_init_53 (by decide) (fun c9 => absurd c9 (by decide)) (fun _ => ?_)
  refine lv_aload_n hx hb dX3_init_56 rfl (lv_at hl 1 rfl) ?_
  refine pg_r (Z := (gW Z y30)) M V 3 0 (P.is (by decide) rfl) pC3 fk3_0 (P.ref (o := 10) (k := 0) (t := 11) (by decide +kernel)) lkF_X3_11 dX3_init_57 ?_
  refine lv_iload_n hx hb dX3_init_60 rfl (lv_at hl 0 rfl) ?_
  refine kn_o (Z := (gW Z y30)) Z rfl rfl M V P hs (by omega) pC7 fd7 (by decide +kernel) lkC_X3_9 kI_7 ki_7 ⟨Nat.le_of_ble_eq_true rfl, Nat.le_of_ble_eq_true rfl⟩ dX3_init_61 (fun y31 h31 H P V => ?_)
  have M := pM.to (gW Z y31) rfl M
  refine lv_dup hx hb dX3_init_64 rfl ?_
  refine lv_bipush (v := 12) hx hb dX3_init_65 (by decide) ?_
  refine g_know (fun g0 => ?_)
  have z9 := mk_size V P hs g0 (by omega)
  refine kz_v (Z := (gW Z y31)) Z rfl rfl (nr_I (Z := (gW Z y31)) M V hao z9 (m_X7_init l 19 P (12 : Int32) (by decide) rfl (by decide +kernel)) km_X7_init lkM_X3_17 rfl hl.1 rfl (Nat.le_of_ble_eq_true rfl) ⟨Nat.le_of_ble_eq_true rfl, Nat.le_of_ble_eq_true rfl⟩ ⟨Nat.le_of_ble_eq_true rfl, Nat.le_of_ble_eq_true rfl⟩ dX3_init_67) V (fun y32 h32 H locs P V => ?_)
  have M := pM.to (gW Z y32) rfl M
  refine ka_r (Z := (gW Z y32)) (o := 11) (t := 19) (ca := 17) Z rfl rfl (C := RX7) M V P (by decide) rfl (by decide) rfl (by decide) rfl pC7 (by decide +kernel) (pi_in (by decide)) dX3_init_70 (fun y33 h33 H locs P V => ?_)
  have M := pM.to (gW Z y33) rfl M
  refine lv_aload_n hx hb dX3_init_71 rfl (lv_at hl 1 rfl) ?_
  refine pg_r (Z := (gW Z y33)) M V 3 2 (P.is (by decide) rfl) pC3 fk3_2 (P.ref (o := 10) (k := 2) (t := 13) (by decide +kernel)) lkF_X3_24 dX3_init_72 ?_
  refine lv_iload_n hx hb dX3_init_75 rfl (lv_at hl 0 rfl) ?_
  refine lv_iload_n hx hb dX3_init_76 rfl (lv_at hl 0 rfl) ?_
  refine ks_i (Z := (gW Z y33)) (o := 13) Z rfl rfl M V P (by decide) rfl (by decide +kernel) (pi_in (by decide)) dX3_init_77 (fun y34 h34 H locs P V => ?_)
  have M := pM.to (gW Z y34) rfl M
  refine lv_iinc (v := (6 : Int32)) (lv' := [(1, .int (6 : Int32)), (0, .ref (zB Z + 10))]) hx hb dX3_init_78 hl (k := 0) rfl (by decide) (by decide) rfl (fun ls hl => ?_)
  refine lv_goto (tgt := 50) hx hb dX3_init_81 (by decide) ?_
  refine lv_iload_n hx hb dX3_init_50 rfl (lv_at hl 0 rfl) ?_
  refine lv_bipush (v := 8) hx hb dX3_init_51 (by decide) ?_
  refine lv_icmp_ge (tgt := 84) hx hb dX3_init_53 (by decide) (fun c9 => absurd c9 (by decide)) (fun _ => ?_)
  refine lv_aload_n hx hb dX3_init_56 rfl (lv_at hl 1 rfl) ?_
  refine pg_r (Z := (gW Z y34)) M V 3 0 (P.is (by decide) rfl) pC3 fk3_0 (P.ref (o := 10) (k := 0) (t := 11) (by decide +kernel)) lkF_X3_11 dX3_init_57 ?_
  refine lv_iload_n hx hb dX3_init_60 rfl (lv_at hl 0 rfl) ?_
  refine kn_o (Z := (gW Z y34)) Z rfl rfl M V P hs (by omega) pC7 fd7 (by decide +kernel) lkC_X3_9 kI_7 ki_7 ⟨Nat.le_of_ble_eq_true rfl, Nat.le_of_ble_eq_true rfl⟩ dX3_init_61 (fun y35 h35 H P V => ?_)
  have M := pM.to (gW Z y35) rfl M
  refine lv_dup hx hb dX3_init_64 rfl ?_
  refine lv_bipush (v := 12) hx hb dX3_init_65 (by decide) ?_
  refine g_know (fun g0 => ?_)
  have z9 := mk_size V P hs g0 (by omega)
  refine kz_v (Z := (gW Z y35)) Z rfl rfl (nr_I (Z := (gW Z y35)) M V hao z9 (m_X7_init l 20 P (12 : Int32) (by decide) rfl (by decide +kernel)) km_X7_init lkM_X3_17 rfl hl.1 rfl (Nat.le_of_ble_eq_true rfl) ⟨Nat.le_of_ble_eq_true rfl, Nat.le_of_ble_eq_true rfl⟩ ⟨Nat.le_of_ble_eq_true rfl, Nat.le_of_ble_eq_true rfl⟩ dX3_init_67) V (fun y36 h36 H locs P V => ?_)
  have M := pM.to (gW Z y36) rfl M
  refine ka_r (Z := (gW Z y36)) (o := 11) (t := 20) (ca := 17) Z rfl rfl (C := RX7) M V P (by decide) rfl (by decide) rfl (by decide) rfl pC7 (by decide +kernel) (pi_in (by decide)) dX3_init_70 (fun y37 h37 H locs P V => ?_)
  have M := pM.to (gW Z y37) rfl M
  refine lv_aload_n hx hb dX3_init_71 rfl (lv_at hl 1 rfl) ?_
  refine pg_r (Z := (gW Z y37)) M V 3 2 (P.is (by decide) rfl) pC3 fk3_2 (P.ref (o := 10) (k := 2) (t := 13) (by decide +kernel)) lkF_X3_24 dX3_init_72 ?_
  refine lv_iload_n hx hb dX3_init_75 rfl (lv_at hl 0 rfl) ?_
  refine lv_iload_n hx hb dX3_init_76 rfl (lv_at hl 0 rfl) ?_
  refine ks_i (Z := (gW Z y37)) (o := 13) Z rfl rfl M V P (by decide) rfl (by decide +kernel) (pi_in (by decide)) dX3_init_77 (fun y38 h38 H locs P V => ?_)
  have M := pM.to (gW Z y38) rfl M
  refine lv_iinc (v := (7 : Int32)) (lv' := [(1, .int (7 : Int32)), (0, .ref (zB Z + 10))]) hx hb dX3_init_78 hl (k := 0) rfl (by decide) (by decide) rfl (fun ls hl => ?_)
  refine lv_goto (tgt := 50) hx hb dX3_init_81 (by decide) ?_
  refine lv_iload_n hx hb dX3_init_50 rfl (lv_at hl 0 rfl) ?_
  refine lv_bipush (v := 8) hx hb dX3_init_51 (by decide) ?_
  refine lv_icmp_ge (tgt := 84) hx hb dX3_init_53 (by decide) (fun c9 => absurd c9 (by decide)) (fun _ => ?_)
  refine lv_aload_n hx hb dX3_init_56 rfl (lv_at hl 1 rfl) ?_
  refine pg_r (Z := (gW Z y38)) M V 3 0 (P.is (by decide) rfl) pC3 fk3_0 (P.ref (o := 10) (k := 0) (t := 11) (by decide +kernel)) lkF_X3_11 dX3_init_57 ?_
  refine lv_iload_n hx hb dX3_init_60 rfl (lv_at hl 0 rfl) ?_
  refine kn_o (Z := (gW Z y38)) Z rfl rfl M V P hs (by omega) pC7 fd7 (by decide +kernel) lkC_X3_9 kI_7 ki_7 ⟨Nat.le_of_ble_eq_true rfl, Nat.le_of_ble_eq_true rfl⟩ dX3_init_61 (fun y39 h39 H P V => ?_)
  have M := pM.to (gW Z y39) rfl M
  refine lv_dup hx hb dX3_init_64 rfl ?_
  refine lv_bipush (v := 12) hx hb dX3_init_65 (by decide) ?_
  refine g_know (fun g0 => ?_)
  have z9 := mk_size V P hs g0 (by omega)
  refine kz_v (Z := (gW Z y39)) Z rfl rfl (nr_I (Z := (gW Z y39)) M V hao z9 (m_X7_init l 21 P (12 : Int32) (by decide) rfl (by decide +kernel)) km_X7_init lkM_X3_17 rfl hl.1 rfl (Nat.le_of_ble_eq_true rfl) ⟨Nat.le_of_ble_eq_true rfl, Nat.le_of_ble_eq_true rfl⟩ ⟨Nat.le_of_ble_eq_true rfl, Nat.le_of_ble_eq_true rfl⟩ dX3_init_67) V (fun y40 h40 H locs P V => ?_)
  have M := pM.to (gW Z y40) rfl M
  refine ka_r (Z := (gW Z y40)) (o := 11) (t := 21) (ca := 17) Z rfl rfl (C := RX7) M V P (by decide) rfl (by decide) rfl (by decide) rfl pC7 (by decide +kernel) (pi_in (by decide)) dX3_init_70 (fun y41 h41 H locs P V => ?_)
  have M := pM.to (gW Z y41) rfl M
  refine lv_aload_n hx hb dX3_init_71 rfl (lv_at hl 1 rfl) ?_
  refine pg_r (Z := (gW Z y41)) M V 3 2 (P.is (by decide) rfl) pC3 fk3_2 (P.ref (o := 10) (k := 2) (t := 13) (by decide +kernel)) lkF_X3_24 dX3_init_72 ?_
  refine lv_iload_n hx hb dX3_init_75 rfl (lv_at hl 0 rfl) ?_
  refine lv_iload_n hx hb dX3_init_76 rfl (lv_at hl 0 rfl) ?_
  refine ks_i (Z := (gW Z y41)) (o := 13) Z rfl rfl M V P (by decide) rfl (by decide +kernel) (pi_in (by decide)) dX3_init_77 (fun y42 h42 H locs P V => ?_)
  have M := pM.to (gW Z y42) rfl M
  refine lv_iinc (v := (8 : Int32)) (lv' := [(1, .int (8 : Int32)), (0, .ref (zB Z + 10))]) hx hb dX3_init_78 hl (k := 0) rfl (by decide) (by decide) rfl (fun ls hl => ?_)
  refine lv_goto (tgt := 50) hx hb dX3_init_81 (by decide) ?_
  refine lv_iload_n hx hb dX3_init_50 rfl (lv_at hl 0 rfl) ?_
  refine lv_bipush (v := 8) hx hb dX3_init_51 (by decide) ?_
  refine lv_icmp_ge (tgt := 84) hx hb dX3_init_53 (by decide) (fun _ => ?_) (fun c9 => absurd (show _ from by decide) c9)
  exact pe_v (Z := Z) (Z' := (gW Z y42)) M V rfl rfl hr hlk P ⟨Nat.le_of_ble_eq_true rfl, Nat.le_of_ble_eq_true rfl⟩ dX3_init_84
theorem dX6_init_0 : decode cX6_init 0 = .ok (.aload_n 0, 1) := by decide +kernel
theorem dX6_init_1 : decode cX6_init 1 = .ok (.invokespecial 3, 3) := by decide +kernel
theorem dX6_init_4 : decode cX6_init 4 = .ok (.aload_n 0, 1) := by decide +kernel
theorem dX6_init_5 : decode cX6_init 5 = .ok (.bipush 8, 2) := by decide +kernel
theorem dX6_init_7 : decode cX6_init 7 = .ok (.newarray .int, 2) := by decide +kernel
theorem dX6_init_9 : decode cX6_init 9 = .ok (.putfield 11, 3) := by decide +kernel
theorem dX6_init_12 : decode cX6_init 12 = .ok (.aload_n 0, 1) := by decide +kernel
theorem dX6_init_13 : decode cX6_init 13 = .ok (.bipush 8, 2) := by decide +kernel
theorem dX6_init_15 : decode cX6_init 15 = .ok (.newarray .int, 2) := by decide +kernel
theorem dX6_init_17 : decode cX6_init 17 = .ok (.putfield 15, 3) := by decide +kernel
theorem dX6_init_20 : decode cX6_init 20 = .ok (.aload_n 0, 1) := by decide +kernel
theorem dX6_init_21 : decode cX6_init 21 = .ok (.bipush 8, 2) := by decide +kernel
theorem dX6_init_23 : decode cX6_init 23 = .ok (.newarray .int, 2) := by decide +kernel
theorem dX6_init_25 : decode cX6_init 25 = .ok (.putfield 18, 3) := by decide +kernel
theorem dX6_init_28 : decode cX6_init 28 = .ok (.aload_n 0, 1) := by decide +kernel
theorem dX6_init_29 : decode cX6_init 29 = .ok (.bipush 8, 2) := by decide +kernel
theorem dX6_init_31 : decode cX6_init 31 = .ok (.anewarray 21, 3) := by decide +kernel
theorem dX6_init_34 : decode cX6_init 34 = .ok (.putfield 23, 3) := by decide +kernel
theorem dX6_init_37 : decode cX6_init 37 = .ok (.aload_n 0, 1) := by decide +kernel
theorem dX6_init_38 : decode cX6_init 38 = .ok (.new 21, 3) := by decide +kernel
theorem dX6_init_41 : decode cX6_init 41 = .ok (.dup, 1) := by decide +kernel
theorem dX6_init_42 : decode cX6_init 42 = .ok (.invokespecial 27, 3) := by decide +kernel
theorem dX6_init_45 : decode cX6_init 45 = .ok (.putfield 28, 3) := by decide +kernel
theorem dX6_init_48 : decode cX6_init 48 = .ok (.aload_n 0, 1) := by decide +kernel
theorem dX6_init_49 : decode cX6_init 49 = .ok (.iconst (-1), 1) := by decide +kernel
theorem dX6_init_50 : decode cX6_init 50 = .ok (.putfield 32, 3) := by decide +kernel
theorem dX6_init_53 : decode cX6_init 53 = .ok (.iconst 0, 1) := by decide +kernel
theorem dX6_init_54 : decode cX6_init 54 = .ok (.istore_n 1, 1) := by decide +kernel
theorem dX6_init_55 : decode cX6_init 55 = .ok (.iload_n 1, 1) := by decide +kernel
theorem dX6_init_56 : decode cX6_init 56 = .ok (.bipush 8, 2) := by decide +kernel
theorem dX6_init_58 : decode cX6_init 58 = .ok (.if_icmp .ge 22, 3) := by decide +kernel
theorem dX6_init_61 : decode cX6_init 61 = .ok (.aload_n 0, 1) := by decide +kernel
theorem dX6_init_62 : decode cX6_init 62 = .ok (.getfield 23, 3) := by decide +kernel
theorem dX6_init_65 : decode cX6_init 65 = .ok (.iload_n 1, 1) := by decide +kernel
theorem dX6_init_66 : decode cX6_init 66 = .ok (.new 21, 3) := by decide +kernel
theorem dX6_init_69 : decode cX6_init 69 = .ok (.dup, 1) := by decide +kernel
theorem dX6_init_70 : decode cX6_init 70 = .ok (.invokespecial 27, 3) := by decide +kernel
theorem dX6_init_73 : decode cX6_init 73 = .ok (.aastore, 1) := by decide +kernel
theorem dX6_init_74 : decode cX6_init 74 = .ok (.iinc 1 1, 3) := by decide +kernel
theorem dX6_init_77 : decode cX6_init 77 = .ok (.goto (-22), 3) := by decide +kernel
theorem dX6_init_80 : decode cX6_init 80 = .ok (.return_, 1) := by decide +kernel
set_option maxHeartbeats 4000000 in
set_option maxRecDepth 100000 in
theorem m_X6_init (l : Launch) {Z : pZ} {h : pH} (P : pMk 23 21 20 Z h) : nMet l yX6_init cX6_init 2 2 13 68 40 23 Z h [.ref (zB Z + 22)] (pQv Z (fun Z1 h1 => pMk (36) (34) (21) Z1 h1)) := by
  refine nOfW (lv := [(0, .ref (zB Z + 22))]) (by decide) (Nat.le_of_ble_eq_true rfl) rfl ?_
  intro p e s m below meth c ls M hr hlk hnm V hl hs hao
  have hx := M.1.1
  have hb := M.1.2.1
  refine lv_aload_n hx hb dX6_init_0 rfl (lv_at hl 0 rfl) ?_
  refine ko_I (Z := Z) M hl.1 lkO_X6 kO_init ⟨Nat.le_of_ble_eq_true rfl, Nat.le_of_ble_eq_true rfl⟩ dX6_init_1 ?_
  refine lv_aload_n hx hb dX6_init_4 rfl (lv_at hl 0 rfl) ?_
  refine lv_bipush (v := 8) hx hb dX6_init_5 (by decide) ?_
  refine kn_a (Z := Z) Z rfl rfl M V P hs (by omega) (ci := 13) (N := 8) (Or.inl ⟨rfl, rfl⟩) kA_int (by decide +kernel) (by decide) (by decide) (by decide) ⟨Nat.le_of_ble_eq_true rfl, Nat.le_of_ble_eq_true rfl⟩ dX6_init_7 (fun y1 h1 H P V => ?_)
  have M := pM.to (gW Z y1) rfl M
  refine kp_r (Z := (gW Z y1)) (o := 22) (t := 23) Z rfl rfl M V P 6 0 (by decide) rfl pC6 fk6_0 (by decide +kernel) (Or.inr ⟨hnm, rfl, rfl⟩) lkF_X6_11 (fun a => ⟨rfl, rfl⟩) dX6_init_9 (fun y2 h2 H locs P V => ?_)
  have M := pM.to (gW Z y2) rfl M
  refine lv_aload_n hx hb dX6_init_12 rfl (lv_at hl 0 rfl) ?_
  refine lv_bipush (v := 8) hx hb dX6_init_13 (by decide) ?_
  refine kn_a (Z := (gW Z y2)) Z rfl rfl M V P hs (by omega) (ci := 13) (N := 8) (Or.inl ⟨rfl, rfl⟩) kA_int (by decide +kernel) (by decide) (by decide) (by decide) ⟨Nat.le_of_ble_eq_true rfl, Nat.le_of_ble_eq_true rfl⟩ dX6_init_15 (fun y3 h3 H P V => ?_)
  have M := pM.to (gW Z y3) rfl M
  refine kp_r (Z := (gW Z y3)) (o := 22) (t := 24) Z rfl rfl M V P 6 1 (by decide) rfl pC6 fk6_1 (by decide +kernel) (Or.inr ⟨hnm, rfl, rfl⟩) lkF_X6_15 (fun a => ⟨rfl, rfl⟩) dX6_init_17 (fun y4 h4 H locs P V => ?_)
  have M := pM.to (gW Z y4) rfl M
  refine lv_aload_n hx hb dX6_init_20 rfl (lv_at hl 0 rfl) ?_
  refine lv_bipush (v := 8) hx hb dX6_init_21 (by decide) ?_
  refine kn_a (Z := (gW Z y4)) Z rfl rfl M V P hs (by omega) (ci := 13) (N := 8) (Or.inl ⟨rfl, rfl⟩) kA_int (by decide +kernel) (by decide) (by decide) (by decide) ⟨Nat.le_of_ble_eq_true rfl, Nat.le_of_ble_eq_true rfl⟩ dX6_init_23 (fun y5 h5 H P V => ?_)
  have M := pM.to (gW Z y5) rfl M
  refine kp_r (Z := (gW Z y5)) (o := 22) (t := 25) Z rfl rfl M V P 6 2 (by decide) rfl pC6 fk6_2 (by decide +kernel) (Or.inr ⟨hnm, rfl, rfl⟩) lkF_X6_18 (fun a => ⟨rfl, rfl⟩) dX6_init_25 (fun y6 h6 H locs P V => ?_)
  have M := pM.to (gW Z y6) rfl M
  refine lv_aload_n hx hb dX6_init_28 rfl (lv_at hl 0 rfl) ?_
  refine lv_bipush (v := 8) hx hb dX6_init_29 (by decide) ?_
  refine kn_q (Z := (gW Z y6)) Z rfl rfl (C := RX2) M V P hs (by omega) (ca := 16) (N := 8) (by decide) rfl lkC_X6_21 hao.2.1 (by decide +kernel) (by decide) (by decide) (by decide) ⟨Nat.le_of_ble_eq_true rfl, Nat.le_of_ble_eq_true rfl⟩ dX6_init_31 (fun y7 h7 H P V => ?_)
  have M := pM.to (gW Z y7) rfl M
  refine kp_r (Z := (gW Z y7)) (o := 22) (t := 26) Z rfl rfl M V P 6 3 (by decide) rfl pC6 fk6_3 (by decide +kernel) (Or.inr ⟨hnm, rfl, rfl⟩) lkF_X6_23 (fun a => ⟨rfl, rfl⟩) dX6_init_34 (fun y8 h8 H locs P V => ?_)
  have M := pM.to (gW Z y8) rfl M
  refine lv_aload_n hx hb dX6_init_37 rfl (lv_at hl 0 rfl) ?_
  refine kn_o (Z := (gW Z y8)) Z rfl rfl M V P hs (by omega) pC2 fd2 (by decide +kernel) lkC_X6_21 kI_2 ki_2 ⟨Nat.le_of_ble_eq_true rfl, Nat.le_of_ble_eq_true rfl⟩ dX6_init_38 (fun y9 h9 H P V => ?_)
  have M := pM.to (gW Z y9) rfl M
  refine lv_dup hx hb dX6_init_41 rfl ?_
  refine g_know (fun g0 => ?_)
  have z9 := mk_size V P hs g0 (by omega)
  refine kz_v (Z := (gW Z y9)) Z rfl rfl (nr_IN (Z := (gW Z y9)) M V hao z9 (m_X2_init l 27 P ) km_X2_init lkN_X6_27 rfl hl.1 rfl (Nat.le_of_ble_eq_true rfl) ⟨Nat.le_of_ble_eq_true rfl, Nat.le_of_ble_eq_true rfl⟩ ⟨Nat.le_of_ble_eq_true rfl, Nat.le_of_ble_eq_true rfl⟩ dX6_init_42) V (fun y10 h10 H locs P V => ?_)
  have M := pM.to (gW Z y10) rfl M
  refine kp_r (Z := (gW Z y10)) (o := 22) (t := 27) Z rfl rfl M V P 6 4 (by decide) rfl pC6 fk6_4 (by decide +kernel) (Or.inr ⟨hnm, rfl, rfl⟩) lkF_X6_28 (fun a => ⟨rfl, rfl⟩) dX6_init_45 (fun y11 h11 H locs P V => ?_)
  have M := pM.to (gW Z y11) rfl M
  refine lv_aload_n hx hb dX6_init_48 rfl (lv_at hl 0 rfl) ?_
  refine lv_iconst (v := (-1)) hx hb dX6_init_49 (by decide) ?_
  refine kp_i (Z := (gW Z y11)) (o := 22) Z rfl rfl M V P 6 6 (by decide) rfl pC6 fk6_6 (by decide +kernel) (Or.inl rfl) lkF_X6_32 ⟨rfl, rfl⟩ dX6_init_50 (fun y12 h12 H locs P V => ?_)
  have M := pM.to (gW Z y12) rfl M
  refine lv_iconst (v := 0) hx hb dX6_init_53 (by decide) ?_
  refine lv_istore_n (lv' := [(1, .int (0 : Int32)), (0, .ref (zB Z + 22))]) hx hb dX6_init_54 rfl hl (by decide) rfl (fun ls hl => ?_)
  refine lv_iload_n hx hb dX6_init_55 rfl (lv_at hl 0 rfl) ?_
  refine lv_bipush (v := 8) hx hb dX6_init_56 (by decide) ?_
  refine lv_icmp_ge (tgt := 80) hx hb dX6_init_58 (by decide) (fun c9 => absurd c9 (by decide)) (fun _ => ?_)
  refine lv_aload_n hx hb dX6_init_61 rfl (lv_at hl 1 rfl) ?_
  refine pg_r (Z := (gW Z y12)) M V 6 3 (P.is (by decide) rfl) pC6 fk6_3 (P.ref (o := 22) (k := 3) (t := 26) (by decide +kernel)) lkF_X6_23 dX6_init_62 ?_
  refine lv_iload_n hx hb dX6_init_65 rfl (lv_at hl 0 rfl) ?_
  refine kn_o (Z := (gW Z y12)) Z rfl rfl M V P hs (by omega) pC2 fd2 (by decide +kernel) lkC_X6_21 kI_2 ki_2 ⟨Nat.le_of_ble_eq_true rfl, Nat.le_of_ble_eq_true rfl⟩ dX6_init_66 (fun y13 h13 H P V => ?_)
  have M := pM.to (gW Z y13) rfl M
  refine lv_dup hx hb dX6_init_69 rfl ?_
  refine g_know (fun g0 => ?_)
  have z9 := mk_size V P hs g0 (by omega)
  refine kz_v (Z := (gW Z y13)) Z rfl rfl (nr_IN (Z := (gW Z y13)) M V hao z9 (m_X2_init l 28 P ) km_X2_init lkN_X6_27 rfl hl.1 rfl (Nat.le_of_ble_eq_true rfl) ⟨Nat.le_of_ble_eq_true rfl, Nat.le_of_ble_eq_true rfl⟩ ⟨Nat.le_of_ble_eq_true rfl, Nat.le_of_ble_eq_true rfl⟩ dX6_init_70) V (fun y14 h14 H locs P V => ?_)
  have M := pM.to (gW Z y14) rfl M
  refine ka_r (Z := (gW Z y14)) (o := 26) (t := 28) (ca := 16) Z rfl rfl (C := RX2) M V P (by decide) rfl (by decide) rfl (by decide) rfl pC2 (by decide +kernel) (pi_in (by decide)) dX6_init_73 (fun y15 h15 H locs P V => ?_)
  have M := pM.to (gW Z y15) rfl M
  refine lv_iinc (v := (1 : Int32)) (lv' := [(1, .int (1 : Int32)), (0, .ref (zB Z + 22))]) hx hb dX6_init_74 hl (k := 0) rfl (by decide) (by decide) rfl (fun ls hl => ?_)
  refine lv_goto (tgt := 55) hx hb dX6_init_77 (by decide) ?_
  refine lv_iload_n hx hb dX6_init_55 rfl (lv_at hl 0 rfl) ?_
  refine lv_bipush (v := 8) hx hb dX6_init_56 (by decide) ?_
  refine lv_icmp_ge (tgt := 80) hx hb dX6_init_58 (by decide) (fun c9 => absurd c9 (by decide)) (fun _ => ?_)
  refine lv_aload_n hx hb dX6_init_61 rfl (lv_at hl 1 rfl) ?_
  refine pg_r (Z := (gW Z y15)) M V 6 3 (P.is (by decide) rfl) pC6 fk6_3 (P.ref (o := 22) (k := 3) (t := 26) (by decide +kernel)) lkF_X6_23 dX6_init_62 ?_
  refine lv_iload_n hx hb dX6_init_65 rfl (lv_at hl 0 rfl) ?_
  refine kn_o (Z := (gW Z y15)) Z rfl rfl M V P hs (by omega) pC2 fd2 (by decide +kernel) lkC_X6_21 kI_2 ki_2 ⟨Nat.le_of_ble_eq_true rfl, Nat.le_of_ble_eq_true rfl⟩ dX6_init_66 (fun y16 h16 H P V => ?_)
  have M := pM.to (gW Z y16) rfl M
  refine lv_dup hx hb dX6_init_69 rfl ?_
  refine g_know (fun g0 => ?_)
  have z9 := mk_size V P hs g0 (by omega)
  refine kz_v (Z := (gW Z y16)) Z rfl rfl (nr_IN (Z := (gW Z y16)) M V hao z9 (m_X2_init l 29 P ) km_X2_init lkN_X6_27 rfl hl.1 rfl (Nat.le_of_ble_eq_true rfl) ⟨Nat.le_of_ble_eq_true rfl, Nat.le_of_ble_eq_true rfl⟩ ⟨Nat.le_of_ble_eq_true rfl, Nat.le_of_ble_eq_true rfl⟩ dX6_init_70) V (fun y17 h17 H locs P V => ?_)
  have M := pM.to (gW Z y17) rfl M
  refine ka_r (Z := (gW Z y17)) (o := 26) (t := 29) (ca := 16) Z rfl rfl (C := RX2) M V P (by decide) rfl (by decide) rfl (by decide) rfl pC2 (by decide +kernel) (pi_in (by decide)) dX6_init_73 (fun y18 h18 H locs P V => ?_)
  have M := pM.to (gW Z y18) rfl M
  refine lv_iinc (v := (2 : Int32)) (lv' := [(1, .int (2 : Int32)), (0, .ref (zB Z + 22))]) hx hb dX6_init_74 hl (k := 0) rfl (by decide) (by decide) rfl (fun ls hl => ?_)
  refine lv_goto (tgt := 55) hx hb dX6_init_77 (by decide) ?_
  refine lv_iload_n hx hb dX6_init_55 rfl (lv_at hl 0 rfl) ?_
  refine lv_bipush (v := 8) hx hb dX6_init_56 (by decide) ?_
  refine lv_icmp_ge (tgt := 80) hx hb dX6_init_58 (by decide) (fun c9 => absurd c9 (by decide)) (fun _ => ?_)
  refine lv_aload_n hx hb dX6_init_61 rfl (lv_at hl 1 rfl) ?_
  refine pg_r (Z := (gW Z y18)) M V 6 3 (P.is (by decide) rfl) pC6 fk6_3 (P.ref (o := 22) (k := 3) (t := 26) (by decide +kernel)) lkF_X6_23 dX6_init_62 ?_
  refine lv_iload_n hx hb dX6_init_65 rfl (lv_at hl 0 rfl) ?_
  refine kn_o (Z := (gW Z y18)) Z rfl rfl M V P hs (by omega) pC2 fd2 (by decide +kernel) lkC_X6_21 kI_2 ki_2 ⟨Nat.le_of_ble_eq_true rfl, Nat.le_of_ble_eq_true rfl⟩ dX6_init_66 (fun y19 h19 H P V => ?_)
  have M := pM.to (gW Z y19) rfl M
  refine lv_dup hx hb dX6_init_69 rfl ?_
  refine g_know (fun g0 => ?_)
  have z9 := mk_size V P hs g0 (by omega)
  refine kz_v (Z := (gW Z y19)) Z rfl rfl (nr_IN (Z := (gW Z y19)) M V hao z9 (m_X2_init l 30 P ) km_X2_init lkN_X6_27 rfl hl.1 rfl (Nat.le_of_ble_eq_true rfl) ⟨Nat.le_of_ble_eq_true rfl, Nat.le_of_ble_eq_true rfl⟩ ⟨Nat.le_of_ble_eq_true rfl, Nat.le_of_ble_eq_true rfl⟩ dX6_init_70) V (fun y20 h20 H locs P V => ?_)
  have M := pM.to (gW Z y20) rfl M
  refine ka_r (Z := (gW Z y20)) (o := 26) (t := 30) (ca := 16) Z rfl rfl (C := RX2) M V P (by decide) rfl (by decide) rfl (by decide) rfl pC2 (by decide +kernel) (pi_in (by decide)) dX6_init_73 (fun y21 h21 H locs P V => ?_)
  have M := pM.to (gW Z y21) rfl M
  refine lv_iinc (v := (3 : Int32)) (lv' := [(1, .int (3 : Int32)), (0, .ref (zB Z + 22))]) hx hb dX6_init_74 hl (k := 0) rfl (by decide) (by decide) rfl (fun ls hl => ?_)
  refine lv_goto (tgt := 55) hx hb dX6_init_77 (by decide) ?_
  refine lv_iload_n hx hb dX6_init_55 rfl (lv_at hl 0 rfl) ?_
  refine lv_bipush (v := 8) hx hb dX6_init_56 (by decide) ?_
  refine lv_icmp_ge (tgt := 80) hx hb dX6_init_58 (by decide) (fun c9 => absurd c9 (by decide)) (fun _ => ?_)
  refine lv_aload_n hx hb dX6_init_61 rfl (lv_at hl 1 rfl) ?_
  refine pg_r (Z := (gW Z y21)) M V 6 3 (P.is (by decide) rfl) pC6 fk6_3 (P.ref (o := 22) (k := 3) (t := 26) (by decide +kernel)) lkF_X6_23 dX6_init_62 ?_
  refine lv_iload_n hx hb dX6_init_65 rfl (lv_at hl 0 rfl) ?_
  refine kn_o (Z := (gW Z y21)) Z rfl rfl M V P hs (by omega) pC2 fd2 (by decide +kernel) lkC_X6_21 kI_2 ki_2 ⟨Nat.le_of_ble_eq_true rfl, Nat.le_of_ble_eq_true rfl⟩ dX6_init_66 (fun y22 h22 H P V => ?_)
  have M := pM.to (gW Z y22) rfl M
  refine lv_dup hx hb dX6_init_69 rfl ?_
  refine g_know (fun g0 => ?_)
  have z9 := mk_size V P hs g0 (by omega)
  refine kz_v (Z := (gW Z y22)) Z rfl rfl (nr_IN (Z := (gW Z y22)) M V hao z9 (m_X2_init l 31 P ) km_X2_init lkN_X6_27 rfl hl.1 rfl (Nat.le_of_ble_eq_true rfl) ⟨Nat.le_of_ble_eq_true rfl, Nat.le_of_ble_eq_true rfl⟩ ⟨Nat.le_of_ble_eq_true rfl, Nat.le_of_ble_eq_true rfl⟩ dX6_init_70) V (fun y23 h23 H locs P V => ?_)
  have M := pM.to (gW Z y23) rfl M
  refine ka_r (Z := (gW Z y23)) (o := 26) (t := 31) (ca := 16) Z rfl rfl (C := RX2) M V P (by decide) rfl (by decide) rfl (by decide) rfl pC2 (by decide +kernel) (pi_in (by decide)) dX6_init_73 (fun y24 h24 H locs P V => ?_)
  have M := pM.to (gW Z y24) rfl M
  refine lv_iinc (v := (4 : Int32)) (lv' := [(1, .int (4 : Int32)), (0, .ref (zB Z + 22))]) hx hb dX6_init_74 hl (k := 0) rfl (by decide) (by decide) rfl (fun ls hl => ?_)
  refine lv_goto (tgt := 55) hx hb dX6_init_77 (by decide) ?_
  refine lv_iload_n hx hb dX6_init_55 rfl (lv_at hl 0 rfl) ?_
  refine lv_bipush (v := 8) hx hb dX6_init_56 (by decide) ?_
  refine lv_icmp_ge (tgt := 80) hx hb dX6_init_58 (by decide) (fun c9 => absurd c9 (by decide)) (fun _ => ?_)
  refine lv_aload_n hx hb dX6_init_61 rfl (lv_at hl 1 rfl) ?_
  refine pg_r (Z := (gW Z y24)) M V 6 3 (P.is (by decide) rfl) pC6 fk6_3 (P.ref (o := 22) (k := 3) (t := 26) (by decide +kernel)) lkF_X6_23 dX6_init_62 ?_
  refine lv_iload_n hx hb dX6_init_65 rfl (lv_at hl 0 rfl) ?_
  refine kn_o (Z := (gW Z y24)) Z rfl rfl M V P hs (by omega) pC2 fd2 (by decide +kernel) lkC_X6_21 kI_2 ki_2 ⟨Nat.le_of_ble_eq_true rfl, Nat.le_of_ble_eq_true rfl⟩ dX6_init_66 (fun y25 h25 H P V => ?_)
  have M := pM.to (gW Z y25) rfl M
  refine lv_dup hx hb dX6_init_69 rfl ?_
  refine g_know (fun g0 => ?_)
  have z9 := mk_size V P hs g0 (by omega)
  refine kz_v (Z := (gW Z y25)) Z rfl rfl (nr_IN (Z := (gW Z y25)) M V hao z9 (m_X2_init l 32 P ) km_X2_init lkN_X6_27 rfl hl.1 rfl (Nat.le_of_ble_eq_true rfl) ⟨Nat.le_of_ble_eq_true rfl, Nat.le_of_ble_eq_true rfl⟩ ⟨Nat.le_of_ble_eq_true rfl, Nat.le_of_ble_eq_true rfl⟩ dX6_init_70) V (fun y26 h26 H locs P V => ?_)
  have M := pM.to (gW Z y26) rfl M
  refine ka_r (Z := (gW Z y26)) (o := 26) (t := 32) (ca := 16) Z rfl rfl (C := RX2) M V P (by decide) rfl (by decide) rfl (by decide) rfl pC2 (by decide +kernel) (pi_in (by decide)) dX6_init_73 (fun y27 h27 H locs P V => ?_)
  have M := pM.to (gW Z y27) rfl M
  refine lv_iinc (v := (5 : Int32)) (lv' := [(1, .int (5 : Int32)), (0, .ref (zB Z + 22))]) hx hb dX6_init_74 hl (k := 0) rfl (by decide) (by decide) rfl (fun ls hl => ?_)
  refine lv_goto (tgt := 55) hx hb dX6_init_77 (by decide) ?_
  refine lv_iload_n hx hb dX6_init_55 rfl (lv_at hl 0 rfl) ?_
  refine lv_bipush (v := 8) hx hb dX6_init_56 (by decide) ?_
  refine lv_icmp_ge (tgt := 80) hx hb dX6_init_58 (by decide) (fun c9 => absurd c9 (by decide)) (fun _ => ?_)
  refine lv_aload_n hx hb dX6_init_61 rfl (lv_at hl 1 rfl) ?_
  refine pg_r (Z := (gW Z y27)) M V 6 3 (P.is (by decide) rfl) pC6 fk6_3 (P.ref (o := 22) (k := 3) (t := 26) (by decide +kernel)) lkF_X6_23 dX6_init_62 ?_
  refine lv_iload_n hx hb dX6_init_65 rfl (lv_at hl 0 rfl) ?_
  refine kn_o (Z := (gW Z y27)) Z rfl rfl M V P hs (by omega) pC2 fd2 (by decide +kernel) lkC_X6_21 kI_2 ki_2 ⟨Nat.le_of_ble_eq_true rfl, Nat.le_of_ble_eq_true rfl⟩ dX6_init_66 (fun y28 h28 H P V => ?_)
  have M := pM.to (gW Z y28) rfl M
  refine lv_dup hx hb dX6_init_69 rfl ?_
  refine g_know (fun g0 => ?_)
  have z9 := mk_size V P hs g0 (by omega)
  refine kz_v (Z := (gW Z y28)) Z rfl rfl (nr_IN (Z := (gW Z y28)) M V hao z9 (m_X2_init l 33 P ) km_X2_init lkN_X6_27 rfl hl.1 rfl (Nat.le_of_ble_eq_true rfl) ⟨Nat.le_of_ble_eq_true rfl, Nat.le_of_ble_eq_true rfl⟩ ⟨Nat.le_of_ble_eq_true rfl, Nat.le_of_ble_eq_true rfl⟩ dX6_init_70) V (fun y29 h29 H locs P V => ?_)
  have M := pM.to (gW Z y29) rfl M
  refine ka_r (Z := (gW Z y29)) (o := 26) (t := 33) (ca := 16) Z rfl rfl (C := RX2) M V P (by decide) rfl (by decide) rfl (by decide) rfl pC2 (by decide +kernel) (pi_in (by decide)) dX6_init_73 (fun y30 h30 H locs P V => ?_)
  have M := pM.to (gW Z y30) rfl M
  refine lv_iinc (v := (6 : Int32)) (lv' := [(1, .int (6 : Int32)), (0, .ref (zB Z + 22))]) hx hb dX6_init_74 hl (k := 0) rfl (by decide) (by decide) rfl (fun ls hl => ?_)
  refine lv_goto (tgt := 55) hx hb dX6_init_77 (by decide) ?_
  refine lv_iload_n hx hb dX6_init_55 rfl (lv_at hl 0 rfl) ?_
  refine lv_bipush (v := 8) hx hb dX6_init_56 (by decide) ?_
  refine lv_icmp_ge (tgt := 80) hx hb dX6_init_58 (by decide) (fun c9 => absurd c9 (by decide)) (fun _ => ?_)
  refine lv_aload_n hx hb dX6_init_61 rfl (lv_at hl 1 rfl) ?_
  refine pg_r (Z := (gW Z y30)) M V 6 3 (P.is (by decide) rfl) pC6 fk6_3 (P.ref (o := 22) (k := 3) (t := 26) (by decide +kernel)) lkF_X6_23 dX6_init_62 ?_
  refine lv_iload_n hx hb dX6_init_65 rfl (lv_at hl 0 rfl) ?_
  refine kn_o (Z := (gW Z y30)) Z rfl rfl M V P hs (by omega) pC2 fd2 (by decide +kernel) lkC_X6_21 kI_2 ki_2 ⟨Nat.le_of_ble_eq_true rfl, Nat.le_of_ble_eq_true rfl⟩ dX6_init_66 (fun y31 h31 H P V => ?_)
  have M := pM.to (gW Z y31) rfl M
  refine lv_dup hx hb dX6_init_69 rfl ?_
  refine g_know (fun g0 => ?_)
  have z9 := mk_size V P hs g0 (by omega)
  refine kz_v (Z := (gW Z y31)) Z rfl rfl (nr_IN (Z := (gW Z y31)) M V hao z9 (m_X2_init l 34 P ) km_X2_init lkN_X6_27 rfl hl.1 rfl (Nat.le_of_ble_eq_true rfl) ⟨Nat.le_of_ble_eq_true rfl, Nat.le_of_ble_eq_true rfl⟩ ⟨Nat.le_of_ble_eq_true rfl, Nat.le_of_ble_eq_true rfl⟩ dX6_init_70) V (fun y32 h32 H locs P V => ?_)
  have M := pM.to (gW Z y32) rfl M
  refine ka_r (Z := (gW Z y32)) (o := 26) (t := 34) (ca := 16) Z rfl rfl (C := RX2) M V P (by decide) rfl (by decide) rfl (by decide) rfl pC2 (by decide +kernel) (pi_in (by decide)) dX6_init_73 (fun y33 h33 H locs P V => ?_)
  have M := pM.to (gW Z y33) rfl M
  refine lv_iinc (v := (7 : Int32)) (lv' := [(1, .int (7 : Int32)), (0, .ref (zB Z + 22))]) hx hb dX6_init_74 hl (k := 0) rfl (by decide) (by decide) rfl (fun ls hl => ?_)
  refine lv_goto (tgt := 55) hx hb dX6_init_77 (by decide) ?_
  refine lv_iload_n hx hb dX6_init_55 rfl (lv_at hl 0 rfl) ?_
  refine lv_bipush (v := 8) hx hb dX6_init_56 (by decide) ?_
  refine lv_icmp_ge (tgt := 80) hx hb dX6_init_58 (by decide) (fun c9 => absurd c9 (by decide)) (fun _ => ?_)
  refine lv_aload_n hx hb dX6_init_61 rfl (lv_at hl 1 rfl) ?_
  refine pg_r (Z := (gW Z y33)) M V 6 3 (P.is (by decide) rfl) pC6 fk6_3 (P.ref (o := 22) (k := 3) (t := 26) (by decide +kernel)) lkF_X6_23 dX6_init_62 ?_
  refine lv_iload_n hx hb dX6_init_65 rfl (lv_at hl 0 rfl) ?_
  refine kn_o (Z := (gW Z y33)) Z rfl rfl M V P hs (by omega) pC2 fd2 (by decide +kernel) lkC_X6_21 kI_2 ki_2 ⟨Nat.le_of_ble_eq_true rfl, Nat.le_of_ble_eq_true rfl⟩ dX6_init_66 (fun y34 h34 H P V => ?_)
  have M := pM.to (gW Z y34) rfl M
  refine lv_dup hx hb dX6_init_69 rfl ?_
  refine g_know (fun g0 => ?_)
  have z9 := mk_size V P hs g0 (by omega)
  refine kz_v (Z := (gW Z y34)) Z rfl rfl (nr_IN (Z := (gW Z y34)) M V hao z9 (m_X2_init l 35 P ) km_X2_init lkN_X6_27 rfl hl.1 rfl (Nat.le_of_ble_eq_true rfl) ⟨Nat.le_of_ble_eq_true rfl, Nat.le_of_ble_eq_true rfl⟩ ⟨Nat.le_of_ble_eq_true rfl, Nat.le_of_ble_eq_true rfl⟩ dX6_init_70) V (fun y35 h35 H locs P V => ?_)
  have M := pM.to (gW Z y35) rfl M
  refine ka_r (Z := (gW Z y35)) (o := 26) (t := 35) (ca := 16) Z rfl rfl (C := RX2) M V P (by decide) rfl (by decide) rfl (by decide) rfl pC2 (by decide +kernel) (pi_in (by decide)) dX6_init_73 (fun y36 h36 H locs P V => ?_)
  have M := pM.to (gW Z y36) rfl M
  refine lv_iinc (v := (8 : Int32)) (lv' := [(1, .int (8 : Int32)), (0, .ref (zB Z + 22))]) hx hb dX6_init_74 hl (k := 0) rfl (by decide) (by decide) rfl (fun ls hl => ?_)
  refine lv_goto (tgt := 55) hx hb dX6_init_77 (by decide) ?_
  refine lv_iload_n hx hb dX6_init_55 rfl (lv_at hl 0 rfl) ?_
  refine lv_bipush (v := 8) hx hb dX6_init_56 (by decide) ?_
  refine lv_icmp_ge (tgt := 80) hx hb dX6_init_58 (by decide) (fun _ => ?_) (fun c9 => absurd (show _ from by decide) c9)
  exact pe_v (Z := Z) (Z' := (gW Z y36)) M V rfl rfl hr hlk P ⟨Nat.le_of_ble_eq_true rfl, Nat.le_of_ble_eq_true rfl⟩ dX6_init_80
theorem dX8_init_0 : decode cX8_init 0 = .ok (.aload_n 0, 1) := by decide +kernel
theorem dX8_init_1 : decode cX8_init 1 = .ok (.invokespecial 3, 3) := by decide +kernel
theorem dX8_init_4 : decode cX8_init 4 = .ok (.aload_n 0, 1) := by decide +kernel
theorem dX8_init_5 : decode cX8_init 5 = .ok (.bipush 40, 2) := by decide +kernel
theorem dX8_init_7 : decode cX8_init 7 = .ok (.newarray .int, 2) := by decide +kernel
theorem dX8_init_9 : decode cX8_init 9 = .ok (.putfield 11, 3) := by decide +kernel
theorem dX8_init_12 : decode cX8_init 12 = .ok (.aload_n 0, 1) := by decide +kernel
theorem dX8_init_13 : decode cX8_init 13 = .ok (.bipush 40, 2) := by decide +kernel
theorem dX8_init_15 : decode cX8_init 15 = .ok (.newarray .int, 2) := by decide +kernel
theorem dX8_init_17 : decode cX8_init 17 = .ok (.putfield 15, 3) := by decide +kernel
theorem dX8_init_20 : decode cX8_init 20 = .ok (.aload_n 0, 1) := by decide +kernel
theorem dX8_init_21 : decode cX8_init 21 = .ok (.bipush 40, 2) := by decide +kernel
theorem dX8_init_23 : decode cX8_init 23 = .ok (.anewarray 18, 3) := by decide +kernel
theorem dX8_init_26 : decode cX8_init 26 = .ok (.putfield 20, 3) := by decide +kernel
theorem dX8_init_29 : decode cX8_init 29 = .ok (.aload_n 0, 1) := by decide +kernel
theorem dX8_init_30 : decode cX8_init 30 = .ok (.new 18, 3) := by decide +kernel
theorem dX8_init_33 : decode cX8_init 33 = .ok (.dup, 1) := by decide +kernel
theorem dX8_init_34 : decode cX8_init 34 = .ok (.invokespecial 24, 3) := by decide +kernel
theorem dX8_init_37 : decode cX8_init 37 = .ok (.putfield 25, 3) := by decide +kernel
theorem dX8_init_40 : decode cX8_init 40 = .ok (.iconst 0, 1) := by decide +kernel
theorem dX8_init_41 : decode cX8_init 41 = .ok (.istore_n 1, 1) := by decide +kernel
theorem dX8_init_42 : decode cX8_init 42 = .ok (.iload_n 1, 1) := by decide +kernel
theorem dX8_init_43 : decode cX8_init 43 = .ok (.bipush 40, 2) := by decide +kernel
theorem dX8_init_45 : decode cX8_init 45 = .ok (.if_icmp .ge 22, 3) := by decide +kernel
theorem dX8_init_48 : decode cX8_init 48 = .ok (.aload_n 0, 1) := by decide +kernel
theorem dX8_init_49 : decode cX8_init 49 = .ok (.getfield 20, 3) := by decide +kernel
theorem dX8_init_52 : decode cX8_init 52 = .ok (.iload_n 1, 1) := by decide +kernel
theorem dX8_init_53 : decode cX8_init 53 = .ok (.new 18, 3) := by decide +kernel
theorem dX8_init_56 : decode cX8_init 56 = .ok (.dup, 1) := by decide +kernel
theorem dX8_init_57 : decode cX8_init 57 = .ok (.invokespecial 24, 3) := by decide +kernel
theorem dX8_init_60 : decode cX8_init 60 = .ok (.aastore, 1) := by decide +kernel
theorem dX8_init_61 : decode cX8_init 61 = .ok (.iinc 1 1, 3) := by decide +kernel
theorem dX8_init_64 : decode cX8_init 64 = .ok (.goto (-22), 3) := by decide +kernel
theorem dX8_init_67 : decode cX8_init 67 = .ok (.return_, 1) := by decide +kernel
set_option maxHeartbeats 4000000 in
set_option maxRecDepth 100000 in
theorem m_X8_init (l : Launch) {Z : pZ} {h : pH} (P : pMk 37 35 21 Z h) : nMet l yX8_init cX8_init 2 3 85 776 60 37 Z h [.ref (zB Z + 36)] (pQv Z (fun Z1 h1 => pMk (122) (120) (21) Z1 h1)) := by
  refine nOfW (lv := [(0, .ref (zB Z + 36))]) (by decide) (Nat.le_of_ble_eq_true rfl) rfl ?_
  intro p e s m below meth c ls M hr hlk hnm V hl hs hao
  have hx := M.1.1
  have hb := M.1.2.1
  refine lv_aload_n hx hb dX8_init_0 rfl (lv_at hl 0 rfl) ?_
  refine ko_I (Z := Z) M hl.1 lkO_X8 kO_init ⟨Nat.le_of_ble_eq_true rfl, Nat.le_of_ble_eq_true rfl⟩ dX8_init_1 ?_
  refine lv_aload_n hx hb dX8_init_4 rfl (lv_at hl 0 rfl) ?_
  refine lv_bipush (v := 40) hx hb dX8_init_5 (by decide) ?_
  refine kn_a (Z := Z) Z rfl rfl M V P hs (by omega) (ci := 13) (N := 40) (Or.inl ⟨rfl, rfl⟩) kA_int (by decide +kernel) (by decide) (by decide) (by decide) ⟨Nat.le_of_ble_eq_true rfl, Nat.le_of_ble_eq_true rfl⟩ dX8_init_7 (fun y1 h1 H P V => ?_)
  have M := pM.to (gW Z y1) rfl M
  refine kp_r (Z := (gW Z y1)) (o := 36) (t := 37) Z rfl rfl M V P 8 0 (by decide) rfl pC8 fk8_0 (by decide +kernel) (Or.inr ⟨hnm, rfl, rfl⟩) lkF_X8_11 (fun a => ⟨rfl, rfl⟩) dX8_init_9 (fun y2 h2 H locs P V => ?_)
  have M := pM.to (gW Z y2) rfl M
  refine lv_aload_n hx hb dX8_init_12 rfl (lv_at hl 0 rfl) ?_
  refine lv_bipush (v := 40) hx hb dX8_init_13 (by decide) ?_
  refine kn_a (Z := (gW Z y2)) Z rfl rfl M V P hs (by omega) (ci := 13) (N := 40) (Or.inl ⟨rfl, rfl⟩) kA_int (by decide +kernel) (by decide) (by decide) (by decide) ⟨Nat.le_of_ble_eq_true rfl, Nat.le_of_ble_eq_true rfl⟩ dX8_init_15 (fun y3 h3 H P V => ?_)
  have M := pM.to (gW Z y3) rfl M
  refine kp_r (Z := (gW Z y3)) (o := 36) (t := 38) Z rfl rfl M V P 8 1 (by decide) rfl pC8 fk8_1 (by decide +kernel) (Or.inr ⟨hnm, rfl, rfl⟩) lkF_X8_15 (fun a => ⟨rfl, rfl⟩) dX8_init_17 (fun y4 h4 H locs P V => ?_)
  have M := pM.to (gW Z y4) rfl M
  refine lv_aload_n hx hb dX8_init_20 rfl (lv_at hl 0 rfl) ?_
  refine lv_bipush (v := 40) hx hb dX8_init_21 (by decide) ?_
  refine kn_q (Z := (gW Z y4)) Z rfl rfl (C := RX0) M V P hs (by omega) (ca := 15) (N := 40) (by decide) rfl lkC_X8_18 hao.1 (by decide +kernel) (by decide) (by decide) (by decide) ⟨Nat.le_of_ble_eq_true rfl, Nat.le_of_ble_eq_true rfl⟩ dX8_init_23 (fun y5 h5 H P V => ?_)
  have M := pM.to (gW Z y5) rfl M
  refine kp_r (Z := (gW Z y5)) (o := 36) (t := 39) Z rfl rfl M V P 8 2 (by decide) rfl pC8 fk8_2 (by decide +kernel) (Or.inr ⟨hnm, rfl, rfl⟩) lkF_X8_20 (fun a => ⟨rfl, rfl⟩) dX8_init_26 (fun y6 h6 H locs P V => ?_)
  have M := pM.to (gW Z y6) rfl M
  refine lv_aload_n hx hb dX8_init_29 rfl (lv_at hl 0 rfl) ?_
  refine kn_o (Z := (gW Z y6)) Z rfl rfl M V P hs (by omega) pC0 fd0 (by decide +kernel) lkC_X8_18 kI_0 ki_0 ⟨Nat.le_of_ble_eq_true rfl, Nat.le_of_ble_eq_true rfl⟩ dX8_init_30 (fun y7 h7 H P V => ?_)
  have M := pM.to (gW Z y7) rfl M
  refine lv_dup hx hb dX8_init_33 rfl ?_
  refine g_know (fun g0 => ?_)
  have z9 := mk_size V P hs g0 (by omega)
  refine kz_v (Z := (gW Z y7)) Z rfl rfl (nr_IN (Z := (gW Z y7)) M V hao z9 (m_X0_init l 40 P  (by decide) rfl (by decide +kernel) (by decide +kernel)) km_X0_init lkN_X8_24 rfl hl.1 rfl (Nat.le_of_ble_eq_true rfl) ⟨Nat.le_of_ble_eq_true rfl, Nat.le_of_ble_eq_true rfl⟩ ⟨Nat.le_of_ble_eq_true rfl, Nat.le_of_ble_eq_true rfl⟩ dX8_init_34) V (fun y8 h8 H locs P V => ?_)
  have M := pM.to (gW Z y8) rfl M
  refine kp_r (Z := (gW Z y8)) (o := 36) (t := 40) Z rfl rfl M V P 8 3 (by decide) rfl pC8 fk8_3 (by decide +kernel) (Or.inr ⟨hnm, rfl, rfl⟩) lkF_X8_25 (fun a => ⟨rfl, rfl⟩) dX8_init_37 (fun y9 h9 H locs P V => ?_)
  have M := pM.to (gW Z y9) rfl M
  refine lv_iconst (v := 0) hx hb dX8_init_40 (by decide) ?_
  refine lv_istore_n (lv' := [(1, .int (0 : Int32)), (0, .ref (zB Z + 36))]) hx hb dX8_init_41 rfl hl (by decide) rfl (fun ls hl => ?_)
  refine lv_iload_n hx hb dX8_init_42 rfl (lv_at hl 0 rfl) ?_
  refine lv_bipush (v := 40) hx hb dX8_init_43 (by decide) ?_
  refine lv_icmp_ge (tgt := 67) hx hb dX8_init_45 (by decide) (fun c9 => absurd c9 (by decide)) (fun _ => ?_)
  refine lv_aload_n hx hb dX8_init_48 rfl (lv_at hl 1 rfl) ?_
  refine pg_r (Z := (gW Z y9)) M V 8 2 (P.is (by decide) rfl) pC8 fk8_2 (P.ref (o := 36) (k := 2) (t := 39) (by decide +kernel)) lkF_X8_20 dX8_init_49 ?_
  refine lv_iload_n hx hb dX8_init_52 rfl (lv_at hl 0 rfl) ?_
  refine kn_o (Z := (gW Z y9)) Z rfl rfl M V P hs (by omega) pC0 fd0 (by decide +kernel) lkC_X8_18 kI_0 ki_0 ⟨Nat.le_of_ble_eq_true rfl, Nat.le_of_ble_eq_true rfl⟩ dX8_init_53 (fun y10 h10 H P V => ?_)
  have M := pM.to (gW Z y10) rfl M
  refine lv_dup hx hb dX8_init_56 rfl ?_
  refine g_know (fun g0 => ?_)
  have z9 := mk_size V P hs g0 (by omega)
  refine kz_v (Z := (gW Z y10)) Z rfl rfl (nr_IN (Z := (gW Z y10)) M V hao z9 (m_X0_init l 42 P  (by decide) rfl (by decide +kernel) (by decide +kernel)) km_X0_init lkN_X8_24 rfl hl.1 rfl (Nat.le_of_ble_eq_true rfl) ⟨Nat.le_of_ble_eq_true rfl, Nat.le_of_ble_eq_true rfl⟩ ⟨Nat.le_of_ble_eq_true rfl, Nat.le_of_ble_eq_true rfl⟩ dX8_init_57) V (fun y11 h11 H locs P V => ?_)
  have M := pM.to (gW Z y11) rfl M
  refine ka_r (Z := (gW Z y11)) (o := 39) (t := 42) (ca := 15) Z rfl rfl (C := RX0) M V P (by decide) rfl (by decide) rfl (by decide) rfl pC0 (by decide +kernel) (pi_in (by decide)) dX8_init_60 (fun y12 h12 H locs P V => ?_)
  have M := pM.to (gW Z y12) rfl M
  refine lv_iinc (v := (1 : Int32)) (lv' := [(1, .int (1 : Int32)), (0, .ref (zB Z + 36))]) hx hb dX8_init_61 hl (k := 0) rfl (by decide) (by decide) rfl (fun ls hl => ?_)
  refine lv_goto (tgt := 42) hx hb dX8_init_64 (by decide) ?_
  refine lv_iload_n hx hb dX8_init_42 rfl (lv_at hl 0 rfl) ?_
  refine lv_bipush (v := 40) hx hb dX8_init_43 (by decide) ?_
  refine lv_icmp_ge (tgt := 67) hx hb dX8_init_45 (by decide) (fun c9 => absurd c9 (by decide)) (fun _ => ?_)
  refine lv_aload_n hx hb dX8_init_48 rfl (lv_at hl 1 rfl) ?_
  refine pg_r (Z := (gW Z y12)) M V 8 2 (P.is (by decide) rfl) pC8 fk8_2 (P.ref (o := 36) (k := 2) (t := 39) (by decide +kernel)) lkF_X8_20 dX8_init_49 ?_
  refine lv_iload_n hx hb dX8_init_52 rfl (lv_at hl 0 rfl) ?_
  refine kn_o (Z := (gW Z y12)) Z rfl rfl M V P hs (by omega) pC0 fd0 (by decide +kernel) lkC_X8_18 kI_0 ki_0 ⟨Nat.le_of_ble_eq_true rfl, Nat.le_of_ble_eq_true rfl⟩ dX8_init_53 (fun y13 h13 H P V => ?_)
  have M := pM.to (gW Z y13) rfl M
  refine lv_dup hx hb dX8_init_56 rfl ?_
  refine g_know (fun g0 => ?_)
  have z9 := mk_size V P hs g0 (by omega)
  refine kz_v (Z := (gW Z y13)) Z rfl rfl (nr_IN (Z := (gW Z y13)) M V hao z9 (m_X0_init l 44 P  (by decide) rfl (by decide +kernel) (by decide +kernel)) km_X0_init lkN_X8_24 rfl hl.1 rfl (Nat.le_of_ble_eq_true rfl) ⟨Nat.le_of_ble_eq_true rfl, Nat.le_of_ble_eq_true rfl⟩ ⟨Nat.le_of_ble_eq_true rfl, Nat.le_of_ble_eq_true rfl⟩ dX8_init_57) V (fun y14 h14 H locs P V => ?_)
  have M := pM.to (gW Z y14) rfl M
  refine ka_r (Z := (gW Z y14)) (o := 39) (t := 44) (ca := 15) Z rfl rfl (C := RX0) M V P (by decide) rfl (by decide) rfl (by decide) rfl pC0 (by decide +kernel) (pi_in (by decide)) dX8_init_60 (fun y15 h15 H locs P V => ?_)
  have M := pM.to (gW Z y15) rfl M
  refine lv_iinc (v := (2 : Int32)) (lv' := [(1, .int (2 : Int32)), (0, .ref (zB Z + 36))]) hx hb dX8_init_61 hl (k := 0) rfl (by decide) (by decide) rfl (fun ls hl => ?_)
  refine lv_goto (tgt := 42) hx hb dX8_init_64 (by decide) ?_
  refine lv_iload_n hx hb dX8_init_42 rfl (lv_at hl 0 rfl) ?_
  refine lv_bipush (v := 40) hx hb dX8_init_43 (by decide) ?_
  refine lv_icmp_ge (tgt := 67) hx hb dX8_init_45 (by decide) (fun c9 => absurd c9 (by decide)) (fun _ => ?_)
  refine lv_aload_n hx hb dX8_init_48 rfl (lv_at hl 1 rfl) ?_
  refine pg_r (Z := (gW Z y15)) M V 8 2 (P.is (by decide) rfl) pC8 fk8_2 (P.ref (o := 36) (k := 2) (t := 39) (by decide +kernel)) lkF_X8_20 dX8_init_49 ?_
  refine lv_iload_n hx hb dX8_init_52 rfl (lv_at hl 0 rfl) ?_
  refine kn_o (Z := (gW Z y15)) Z rfl rfl M V P hs (by omega) pC0 fd0 (by decide +kernel) lkC_X8_18 kI_0 ki_0 ⟨Nat.le_of_ble_eq_true rfl, Nat.le_of_ble_eq_true rfl⟩ dX8_init_53 (fun y16 h16 H P V => ?_)
  have M := pM.to (gW Z y16) rfl M
  refine lv_dup hx hb dX8_init_56 rfl ?_
  refine g_know (fun g0 => ?_)
  have z9 := mk_size V P hs g0 (by omega)
  refine kz_v (Z := (gW Z y16)) Z rfl rfl (nr_IN (Z := (gW Z y16)) M V hao z9 (m_X0_init l 46 P  (by decide) rfl (by decide +kernel) (by decide +kernel)) km_X0_init lkN_X8_24 rfl hl.1 rfl (Nat.le_of_ble_eq_true rfl) ⟨Nat.le_of_ble_eq_true rfl, Nat.le_of_ble_eq_true rfl⟩ ⟨Nat.le_of_ble_eq_true rfl, Nat.le_of_ble_eq_true rfl⟩ dX8_init_57) V (fun y17 h17 H locs P V => ?_)
  have M := pM.to (gW Z y17) rfl M
  refine ka_r (Z := (gW Z y17)) (o := 39) (t := 46) (ca := 15) Z rfl rfl (C := RX0) M V P (by decide) rfl (by decide) rfl (by decide) rfl pC0 (by decide +kernel) (pi_in (by decide)) dX8_init_60 (fun y18 h18 H locs P V => ?_)
  have M := pM.to (gW Z y18) rfl M
  refine lv_iinc (v := (3 : Int32)) (lv' := [(1, .int (3 : Int32)), (0, .ref (zB Z + 36))]) hx hb dX8_init_61 hl (k := 0) rfl (by decide) (by decide) rfl (fun ls hl => ?_)
  refine lv_goto (tgt := 42) hx hb dX8_init_64 (by decide) ?_
  refine lv_iload_n hx hb dX8_init_42 rfl (lv_at hl 0 rfl) ?_
  refine lv_bipush (v := 40) hx hb dX8_init_43 (by decide) ?_
  refine lv_icmp_ge (tgt := 67) hx hb dX8_init_45 (by decide) (fun c9 => absurd c9 (by decide)) (fun _ => ?_)
  refine lv_aload_n hx hb dX8_init_48 rfl (lv_at hl 1 rfl) ?_
  refine pg_r (Z := (gW Z y18)) M V 8 2 (P.is (by decide) rfl) pC8 fk8_2 (P.ref (o := 36) (k := 2) (t := 39) (by decide +kernel)) lkF_X8_20 dX8_init_49 ?_
  refine lv_iload_n hx hb dX8_init_52 rfl (lv_at hl 0 rfl) ?_
  refine kn_o (Z := (gW Z y18)) Z rfl rfl M V P hs (by omega) pC0 fd0 (by decide +kernel) lkC_X8_18 kI_0 ki_0 ⟨Nat.le_of_ble_eq_true rfl, Nat.le_of_ble_eq_true rfl⟩ dX8_init_53 (fun y19 h19 H P V => ?_)
  have M := pM.to (gW Z y19) rfl M
  refine lv_dup hx hb dX8_init_56 rfl ?_
  refine g_know (fun g0 => ?_)
  have z9 := mk_size V P hs g0 (by omega)
  refine kz_v (Z := (gW Z y19)) Z rfl rfl (nr_IN (Z := (gW Z y19)) M V hao z9 (m_X0_init l 48 P  (by decide) rfl (by decide +kernel) (by decide +kernel)) km_X0_init lkN_X8_24 rfl hl.1 rfl (Nat.le_of_ble_eq_true rfl) ⟨Nat.le_of_ble_eq_true rfl, Nat.le_of_ble_eq_true rfl⟩ ⟨Nat.le_of_ble_eq_true rfl, Nat.le_of_ble_eq_true rfl⟩ dX8_init_57) V (fun y20 h20 H locs P V => ?_)
  have M := pM.to (gW Z y20) rfl M
  refine ka_r (Z := (gW Z y20)) (o := 39) (t := 48) (ca := 15) Z rfl rfl (C := RX0) M V P (by decide) rfl (by decide) rfl (by decide) rfl pC0 (by decide +kernel) (pi_in (by decide)) dX8_init_60 (fun y21 h21 H locs P V => ?_)
  have M := pM.to (gW Z y21) rfl M
  refine lv_iinc (v := (4 : Int32)) (lv' := [(1, .int (4 : Int32)), (0, .ref (zB Z + 36))]) hx hb dX8_init_61 hl (k := 0) rfl (by decide) (by decide) rfl (fun ls hl => ?_)
  refine lv_goto (tgt := 42) hx hb dX8_init_64 (by decide) ?_
  refine lv_iload_n hx hb dX8_init_42 rfl (lv_at hl 0 rfl) ?_
  refine lv_bipush (v := 40) hx hb dX8_init_43 (by decide) ?_
  refine lv_icmp_ge (tgt := 67) hx hb dX8_init_45 (by decide) (fun c9 => absurd c9 (by decide)) (fun _ => ?_)
  refine lv_aload_n hx hb dX8_init_48 rfl (lv_at hl 1 rfl) ?_
  refine pg_r (Z := (gW Z y21)) M V 8 2 (P.is (by decide) rfl) pC8 fk8_2 (P.ref (o := 36) (k := 2) (t := 39) (by decide +kernel)) lkF_X8_20 dX8_init_49 ?_
  refine lv_iload_n hx hb dX8_init_52 rfl (lv_at hl 0 rfl) ?_
  refine kn_o (Z := (gW Z y21)) Z rfl rfl M V P hs (by omega) pC0 fd0 (by decide +kernel) lkC_X8_18 kI_0 ki_0 ⟨Nat.le_of_ble_eq_true rfl, Nat.le_of_ble_eq_true rfl⟩ dX8_init_53 (fun y22 h22 H P V => ?_)
  have M := pM.to (gW Z y22) rfl M
  refine lv_dup hx hb dX8_init_56 rfl ?_
  refine g_know (fun g0 => ?_)
  have z9 := mk_size V P hs g0 (by omega)
  refine kz_v (Z := (gW Z y22)) Z rfl rfl (nr_IN (Z := (gW Z y22)) M V hao z9 (m_X0_init l 50 P  (by decide) rfl (by decide +kernel) (by decide +kernel)) km_X0_init lkN_X8_24 rfl hl.1 rfl (Nat.le_of_ble_eq_true rfl) ⟨Nat.le_of_ble_eq_true rfl, Nat.le_of_ble_eq_true rfl⟩ ⟨Nat.le_of_ble_eq_true rfl, Nat.le_of_ble_eq_true rfl⟩ dX8_init_57) V (fun y23 h23 H locs P V => ?_)
  have M := pM.to (gW Z y23) rfl M
  refine ka_r (Z := (gW Z y23)) (o := 39) (t := 50) (ca := 15) Z rfl rfl (C := RX0) M V P (by decide) rfl (by decide) rfl (by decide) rfl pC0 (by decide +kernel) (pi_in (by decide)) dX8_init_60 (fun y24 h24 H locs P V => ?_)
  have M := pM.to (gW Z y24) rfl M
  refine lv_iinc (v := (5 : Int32)) (lv' := [(1, .int (5 : Int32)), (0, .ref (zB Z + 36))]) hx hb dX8_init_61 hl (k := 0) rfl (by decide) (by decide) rfl (fun ls hl => ?_)
  refine lv_goto (tgt := 42) hx hb dX8_init_64 (by decide) ?_
  refine lv_iload_n hx hb dX8_init_42 rfl (lv_at hl 0 rfl) ?_
  refine lv_bipush (v := 40) hx hb dX8_init_43 (by decide) ?_
  refine lv_icmp_ge (tgt := 67) hx hb dX8_init_45 (by decide) (fun c9 => absurd c9 (by decide)) (fun _ => ?_)
  refine lv_aload_n hx hb dX8_init_48 rfl (lv_at hl 1 rfl) ?_
  refine pg_r (Z := (gW Z y24)) M V 8 2 (P.is (by decide) rfl) pC8 fk8_2 (P.ref (o := 36) (k := 2) (t := 39) (by decide +kernel)) lkF_X8_20 dX8_init_49 ?_
  refine lv_iload_n hx hb dX8_init_52 rfl (lv_at hl 0 rfl) ?_
  refine kn_o (Z := (gW Z y24)) Z rfl rfl M V P hs (by omega) pC0 fd0 (by decide +kernel) lkC_X8_18 kI_0 ki_0 ⟨Nat.le_of_ble_eq_true rfl, Nat.le_of_ble_eq_true rfl⟩ dX8_init_53 (fun y25 h25 H P V => ?_)
  have M := pM.to (gW Z y25) rfl M
  refine lv_dup hx hb dX8_init_56 rfl ?_
  refine g_know (fun g0 => ?_)
  have z9 := mk_size V P hs g0 (by omega)
  refine kz_v (Z := (gW Z y25)) Z rfl rfl (nr_IN (Z := (gW Z y25)) M V hao z9 (m_X0_init l 52 P  (by decide) rfl (by decide +kernel) (by decide +kernel)) km_X0_init lkN_X8_24 rfl hl.1 rfl (Nat.le_of_ble_eq_true rfl) ⟨Nat.le_of_ble_eq_true rfl, Nat.le_of_ble_eq_true rfl⟩ ⟨Nat.le_of_ble_eq_true rfl, Nat.le_of_ble_eq_true rfl⟩ dX8_init_57) V (fun y26 h26 H locs P V => ?_)
  have M := pM.to (gW Z y26) rfl M
  refine ka_r (Z := (gW Z y26)) (o := 39) (t := 52) (ca := 15) Z rfl rfl (C := RX0) M V P (by decide) rfl (by decide) rfl (by decide) rfl pC0 (by decide +kernel) (pi_in (by decide)) dX8_init_60 (fun y27 h27 H locs P V => ?_)
  have M := pM.to (gW Z y27) rfl M
  refine lv_iinc (v := (6 : Int32)) (lv' := [(1, .int (6 : Int32)), (0, .ref (zB Z + 36))]) hx hb dX8_init_61 hl (k := 0) rfl (by decide) (by decide) rfl (fun ls hl => ?_)
  refine lv_goto (tgt := 42) hx hb dX8_init_64 (by decide) ?_
  refine lv_iload_n hx hb dX8_init_42 rfl (lv_at hl 0 rfl) ?_
  refine lv_bipush (v := 40) hx hb dX8_init_43 (by decide) ?_
  refine lv_icmp_ge (tgt := 67) hx hb dX8_init_45 (by decide) (fun c9 => absurd c9 (by decide)) (fun _ => ?_)
  refine lv_aload_n hx hb dX8_init_48 rfl (lv_at hl 1 rfl) ?_
  refine pg_r (Z := (gW Z y27)) M V 8 2 (P.is (by decide) rfl) pC8 fk8_2 (P.ref (o := 36) (k := 2) (t := 39) (by decide +kernel)) lkF_X8_20 dX8_init_49 ?_
  refine lv_iload_n hx hb dX8_init_52 rfl (lv_at hl 0 rfl) ?_
  refine kn_o (Z := (gW Z y27)) Z rfl rfl M V P hs (by omega) pC0 fd0 (by decide +kernel) lkC_X8_18 kI_0 ki_0 ⟨Nat.le_of_ble_eq_true rfl, Nat.le_of_ble_eq_true rfl⟩ dX8_init_53 (fun y28 h28 H P V => ?_)
  have M := pM.to (gW Z y28) rfl M
  refine lv_dup hx hb dX8_init_56 rfl ?_
  refine g_know (fun g0 => ?_)
  have z9 := mk_size V P hs g0 (by omega)
  refine kz_v (Z := (gW Z y28)) Z rfl rfl (nr_IN (Z := (gW Z y28)) M V hao z9 (m_X0_init l 54 P  (by decide) rfl (by decide +kernel) (by decide +kernel)) km_X0_init lkN_X8_24 rfl hl.1 rfl (Nat.le_of_ble_eq_true rfl) ⟨Nat.le_of_ble_eq_true rfl, Nat.le_of_ble_eq_true rfl⟩ ⟨Nat.le_of_ble_eq_true rfl, Nat.le_of_ble_eq_true rfl⟩ dX8_init_57) V (fun y29 h29 H locs P V => ?_)
  have M := pM.to (gW Z y29) rfl M
  refine ka_r (Z := (gW Z y29)) (o := 39) (t := 54) (ca := 15) Z rfl rfl (C := RX0) M V P (by decide) rfl (by decide) rfl (by decide) rfl pC0 (by decide +kernel) (pi_in (by decide)) dX8_init_60 (fun y30 h30 H locs P V => ?_)
  have M := pM.to (gW Z y30) rfl M
  refine lv_iinc (v := (7 : Int32)) (lv' := [(1, .int (7 : Int32)), (0, .ref (zB Z + 36))]) hx hb dX8_init_61 hl (k := 0) rfl (by decide) (by decide) rfl (fun ls hl => ?_)
  refine lv_goto (tgt := 42) hx hb dX8_init_64 (by decide) ?_
  refine lv_iload_n hx hb dX8_init_42 rfl (lv_at hl 0 rfl) ?_
  refine lv_bipush (v := 40) hx hb dX8_init_43 (by decide) ?_
  refine lv_icmp_ge (tgt := 67) hx hb dX8_init_45 (by decide) (fun c9 => absurd c9 (by decide)) (fun _ => ?_)
  refine lv_aload_n hx hb dX8_init_48 rfl (lv_at hl 1 rfl) ?_
  refine pg_r (Z := (gW Z y30)) M V 8 2 (P.is (by decide) rfl) pC8 fk8_2 (P.ref (o := 36) (k := 2) (t := 39) (by decide +kernel)) lkF_X8_20 dX8_init_49 ?_
  refine lv_iload_n hx hb dX8_init_52 rfl (lv_at hl 0 rfl) ?_
  refine kn_o (Z := (gW Z y30)) Z rfl rfl M V P hs (by omega) pC0 fd0 (by decide +kernel) lkC_X8_18 kI_0 ki_0 ⟨Nat.le_of_ble_eq_true rfl, Nat.le_of_ble_eq_true rfl⟩ dX8_init_53 (fun y31 h31 H P V => ?_)
  have M := pM.to (gW Z y31) rfl M
  refine lv_dup hx hb dX8_init_56 rfl ?_
  refine g_know (fun g0 => ?_)
  have z9 := mk_size V P hs g0 (by omega)
  refine kz_v (Z := (gW Z y31)) Z rfl rfl (nr_IN (Z := (gW Z y31)) M V hao z9 (m_X0_init l 56 P  (by decide) rfl (by decide +kernel) (by decide +kernel)) km_X0_init lkN_X8_24 rfl hl.1 rfl (Nat.le_of_ble_eq_true rfl) ⟨Nat.le_of_ble_eq_true rfl, Nat.le_of_ble_eq_true rfl⟩ ⟨Nat.le_of_ble_eq_true rfl, Nat.le_of_ble_eq_true rfl⟩ dX8_init_57) V (fun y32 h32 H locs P V => ?_)
  have M := pM.to (gW Z y32) rfl M
  refine ka_r (Z := (gW Z y32)) (o := 39) (t := 56) (ca := 15) Z rfl rfl (C := RX0) M V P (by decide) rfl (by decide) rfl (by decide) rfl pC0 (by decide +kernel) (pi_in (by decide)) dX8_init_60 (fun y33 h33 H locs P V => ?_)
  have M := pM.to (gW Z y33) rfl M
  refine lv_iinc (v := (8 : Int32)) (lv' := [(1, .int (8 : Int32)), (0, .ref (zB Z + 36))]) hx hb dX8_init_61 hl (k := 0) rfl (by decide) (by decide) rfl (fun ls hl => ?_)
  refine lv_goto (tgt := 42) hx hb dX8_init_64 (by decide) ?_
  refine lv_iload_n hx hb dX8_init_42 rfl (lv_at hl 0 rfl) ?_
  refine lv_bipush (v := 40) hx hb dX8_init_43 (by decide) ?_
  refine lv_icmp_ge (tgt := 67) hx hb dX8_init_45 (by decide) (fun c9 => absurd c9 (by decide)) (fun _ => ?_)
  refine lv_aload_n hx hb dX8_init_48 rfl (lv_at hl 1 rfl) ?_
  refine pg_r (Z := (gW Z y33)) M V 8 2 (P.is (by decide) rfl) pC8 fk8_2 (P.ref (o := 36) (k := 2) (t := 39) (by decide +kernel)) lkF_X8_20 dX8_init_49 ?_
  refine lv_iload_n hx hb dX8_init_52 rfl (lv_at hl 0 rfl) ?_
  refine kn_o (Z := (gW Z y33)) Z rfl rfl M V P hs (by omega) pC0 fd0 (by decide +kernel) lkC_X8_18 kI_0 ki_0 ⟨Nat.le_of_ble_eq_true rfl, Nat.le_of_ble_eq_true rfl⟩ dX8_init_53 (fun y34 h34 H P V => ?_)
  have M := pM.to (gW Z y34) rfl M
  refine lv_dup hx hb dX8_init_56 rfl ?_
  refine g_know (fun g0 => ?_)
  have z9 := mk_size V P hs g0 (by omega)
  refine kz_v (Z := (gW Z y34)) Z rfl rfl (nr_IN (Z := (gW Z y34)) M V hao z9 (m_X0_init l 58 P  (by decide) rfl (by decide +kernel) (by decide +kernel)) km_X0_init lkN_X8_24 rfl hl.1 rfl (Nat.le_of_ble_eq_true rfl) ⟨Nat.le_of_ble_eq_true rfl, Nat.le_of_ble_eq_true rfl⟩ ⟨Nat.le_of_ble_eq_true rfl, Nat.le_of_ble_eq_true rfl⟩ dX8_init_57) V (fun y35 h35 H locs P V => ?_)
  have M := pM.to (gW Z y35) rfl M
  refine ka_r (Z := (gW Z y35)) (o := 39) (t := 58) (ca := 15) Z rfl rfl (C := RX0) M V P (by decide) rfl (by decide) rfl (by decide) rfl pC0 (by decide +kernel) (pi_in (by decide)) dX8_init_60 (fun y36 h36 H locs P V => ?_)
  have M := pM.to (gW Z y36) rfl M
  refine lv_iinc (v := (9 : Int32)) (lv' := [(1, .int (9 : Int32)), (0, .ref (zB Z + 36))]) hx hb dX8_init_61 hl (k := 0) rfl (by decide) (by decide) rfl (fun ls hl => ?_)
  refine lv_goto (tgt := 42) hx hb dX8_init_64 (by decide) ?_
  refine lv_iload_n hx hb dX8_init_42 rfl (lv_at hl 0 rfl) ?_
  refine lv_bipush (v := 40) hx hb dX8_init_43 (by decide) ?_
  refine lv_icmp_ge (tgt := 67) hx hb dX8_init_45 (by decide) (fun c9 => absurd c9 (by decide)) (fun _ => ?_)
  refine lv_aload_n hx hb dX8_init_48 rfl (lv_at hl 1 rfl) ?_
  refine pg_r (Z := (gW Z y36)) M V 8 2 (P.is (by decide) rfl) pC8 fk8_2 (P.ref (o := 36) (k := 2) (t := 39) (by decide +kernel)) lkF_X8_20 dX8_init_49 ?_
  refine lv_iload_n hx hb dX8_init_52 rfl (lv_at hl 0 rfl) ?_
  refine kn_o (Z := (gW Z y36)) Z rfl rfl M V P hs (by omega) pC0 fd0 (by decide +kernel) lkC_X8_18 kI_0 ki_0 ⟨Nat.le_of_ble_eq_true rfl, Nat.le_of_ble_eq_true rfl⟩ dX8_init_53 (fun y37 h37 H P V => ?_)
  have M := pM.to (gW Z y37) rfl M
  refine lv_dup hx hb dX8_init_56 rfl ?_
  refine g_know (fun g0 => ?_)
  have z9 := mk_size V P hs g0 (by omega)
  refine kz_v (Z := (gW Z y37)) Z rfl rfl (nr_IN (Z := (gW Z y37)) M V hao z9 (m_X0_init l 60 P  (by decide) rfl (by decide +kernel) (by decide +kernel)) km_X0_init lkN_X8_24 rfl hl.1 rfl (Nat.le_of_ble_eq_true rfl) ⟨Nat.le_of_ble_eq_true rfl, Nat.le_of_ble_eq_true rfl⟩ ⟨Nat.le_of_ble_eq_true rfl, Nat.le_of_ble_eq_true rfl⟩ dX8_init_57) V (fun y38 h38 H locs P V => ?_)
  have M := pM.to (gW Z y38) rfl M
  refine ka_r (Z := (gW Z y38)) (o := 39) (t := 60) (ca := 15) Z rfl rfl (C := RX0) M V P (by decide) rfl (by decide) rfl (by decide) rfl pC0 (by decide +kernel) (pi_in (by decide)) dX8_init_60 (fun y39 h39 H locs P V => ?_)
  have M := pM.to (gW Z y39) rfl M
  refine lv_iinc (v := (10 : Int32)) (lv' := [(1, .int (10 : Int32)), (0, .ref (zB Z + 36))]) hx hb dX8_init_61 hl (k := 0) rfl (by decide) (by decide) rfl (fun ls hl => ?_)
  refine lv_goto (tgt := 42) hx hb dX8_init_64 (by decide) ?_
  refine lv_iload_n hx hb dX8_init_42 rfl (lv_at hl 0 rfl) ?_
  refine lv_bipush (v := 40) hx hb dX8_init_43 (by decide) ?_
  refine lv_icmp_ge (tgt := 67) hx hb dX8_init_45 (by decide) (fun c9 => absurd c9 (by decide)) (fun _ => ?_)
  refine lv_aload_n hx hb dX8_init_48 rfl (lv_at hl 1 rfl) ?_
  refine pg_r (Z := (gW Z y39)) M V 8 2 (P.is (by decide) rfl) pC8 fk8_2 (P.ref (o := 36) (k := 2) (t := 39) (by decide +kernel)) lkF_X8_20 dX8_init_49 ?_
  refine lv_iload_n hx hb dX8_init_52 rfl (lv_at hl 0 rfl) ?_
  refine kn_o (Z := (gW Z y39)) Z rfl rfl M V P hs (by omega) pC0 fd0 (by decide +kernel) lkC_X8_18 kI_0 ki_0 ⟨Nat.le_of_ble_eq_true rfl, Nat.le_of_ble_eq_true rfl⟩ dX8_init_53 (fun y40 h40 H P V => ?_)
  have M := pM.to (gW Z y40) rfl M
  refine lv_dup hx hb dX8_init_56 rfl ?_
  refine g_know (fun g0 => ?_)
  have z9 := mk_size V P hs g0 (by omega)
  refine kz_v (Z := (gW Z y40)) Z rfl rfl (nr_IN (Z := (gW Z y40)) M V hao z9 (m_X0_init l 62 P  (by decide) rfl (by decide +kernel) (by decide +kernel)) km_X0_init lkN_X8_24 rfl hl.1 rfl (Nat.le_of_ble_eq_true rfl) ⟨Nat.le_of_ble_eq_true rfl, Nat.le_of_ble_eq_true rfl⟩ ⟨Nat.le_of_ble_eq_true rfl, Nat.le_of_ble_eq_true rfl⟩ dX8_init_57) V (fun y41 h41 H locs P V => ?_)
  have M := pM.to (gW Z y41) rfl M
  refine ka_r (Z := (gW Z y41)) (o := 39) (t := 62) (ca := 15) Z rfl rfl (C := RX0) M V P (by decide) rfl (by decide) rfl (by decide) rfl pC0 (by decide +kernel) (pi_in (by decide)) dX8_init_60 (fun y42 h42 H locs P V => ?_)
  have M := pM.to (gW Z y42) rfl M
  refine lv_iinc (v := (11 : Int32)) (lv' := [(1, .int (11 : Int32)), (0, .ref (zB Z + 36))]) hx hb dX8_init_61 hl (k := 0) rfl (by decide) (by decide) rfl (fun ls hl => ?_)
  refine lv_goto (tgt := 42) hx hb dX8_init_64 (by decide) ?_
  refine lv_iload_n hx hb dX8_init_42 rfl (lv_at hl 0 rfl) ?_
  refine lv_bipush (v := 40) hx hb dX8_init_43 (by decide) ?_
  refine lv_icmp_ge (tgt := 67) hx hb dX8_init_45 (by decide) (fun c9 => absurd c9 (by decide)) (fun _ => ?_)
  refine lv_aload_n hx hb dX8_init_48 rfl (lv_at hl 1 rfl) ?_
  refine pg_r (Z := (gW Z y42)) M V 8 2 (P.is (by decide) rfl) pC8 fk8_2 (P.ref (o := 36) (k := 2) (t := 39) (by decide +kernel)) lkF_X8_20 dX8_init_49 ?_
  refine lv_iload_n hx hb dX8_init_52 rfl (lv_at hl 0 rfl) ?_
  refine kn_o (Z := (gW Z y42)) Z rfl rfl M V P hs (by omega) pC0 fd0 (by decide +kernel) lkC_X8_18 kI_0 ki_0 ⟨Nat.le_of_ble_eq_true rfl, Nat.le_of_ble_eq_true rfl⟩ dX8_init_53 (fun y43 h43 H P V => ?_)
  have M := pM.to (gW Z y43) rfl M
  refine lv_dup hx hb dX8_init_56 rfl ?_
  refine g_know (fun g0 => ?_)
  have z9 := mk_size V P hs g0 (by omega)
  refine kz_v (Z := (gW Z y43)) Z rfl rfl (nr_IN (Z := (gW Z y43)) M V hao z9 (m_X0_init l 64 P  (by decide) rfl (by decide +kernel) (by decide +kernel)) km_X0_init lkN_X8_24 rfl hl.1 rfl (Nat.le_of_ble_eq_true rfl) ⟨Nat.le_of_ble_eq_true rfl, Nat.le_of_ble_eq_true rfl⟩ ⟨Nat.le_of_ble_eq_true rfl, Nat.le_of_ble_eq_true rfl⟩ dX8_init_57) V (fun y44 h44 H locs P V => ?_)
  have M := pM.to (gW Z y44) rfl M
  refine ka_r (Z := (gW Z y44)) (o := 39) (t := 64) (ca := 15) Z rfl rfl (C := RX0) M V P (by decide) rfl (by decide) rfl (by decide) rfl pC0 (by decide +kernel) (pi_in (by decide)) dX8_init_60 (fun y45 h45 H locs P V => ?_)
  have M := pM.to (gW Z y45) rfl M
  refine lv_iinc (v := (12 : Int32)) (lv' := [(1, .int (12 : Int32)), (0, .ref (zB Z + 36))]) hx hb dX8_init_61 hl (k := 0) rfl (by decide) (by decide) rfl (fun ls hl => ?_)
  refine lv_goto (tgt := 42) hx hb dX8_init_64 (by decide) ?_
  refine lv_iload_n hx hb dX8_init_42 rfl (lv_at hl 0 rfl) ?_
  refine lv_bipush (v := 40) hx hb dX8_init_43 (by decide) ?_
  refine lv_icmp_ge (tgt := 67) hx hb dX8_init_45 (by decide) (fun c9 => absurd c9 (by decide)) (fun _ => ?_)
  refine lv_aload_n hx hb dX8_init_48 rfl (lv_at hl 1 rfl) ?_
  refine pg_r (Z := (gW Z y45)) M V 8 2 (P.is (by decide) rfl) pC8 fk8_2 (P.ref (o := 36) (k := 2) (t := 39) (by decide +kernel)) lkF_X8_20 dX8_init_49 ?_
  refine lv_iload_n hx hb dX8_init_52 rfl (lv_at hl 0 rfl) ?_
  refine kn_o (Z := (gW Z y45)) Z rfl rfl M V P hs (by omega) pC0 fd0 (by decide +kernel) lkC_X8_18 kI_0 ki_0 ⟨Nat.le_of_ble_eq_true rfl, Nat.le_of_ble_eq_true rfl⟩ dX8_init_53 (fun y46 h46 H P V => ?_)
  have M := pM.to (gW Z y46) rfl M
  refine lv_dup hx hb dX8_init_56 rfl ?_
  refine g_know (fun g0 => ?_)
  have z9 := mk_size V P hs g0 (by omega)
  refine kz_v (Z := (gW Z y46)) Z rfl rfl (nr_IN (Z := (gW Z y46)) M V hao z9 (m_X0_init l 66 P  (by decide) rfl (by decide +kernel) (by decide +kernel)) km_X0_init lkN_X8_24 rfl hl.1 rfl (Nat.le_of_ble_eq_true rfl) ⟨Nat.le_of_ble_eq_true rfl, Nat.le_of_ble_eq_true rfl⟩ ⟨Nat.le_of_ble_eq_true rfl, Nat.le_of_ble_eq_true rfl⟩ dX8_init_57) V (fun y47 h47 H locs P V => ?_)
  have M := pM.to (gW Z y47) rfl M
  refine ka_r (Z := (gW Z y47)) (o := 39) (t := 66) (ca := 15) Z rfl rfl (C := RX0) M V P (by decide) rfl (by decide) rfl (by decide) rfl pC0 (by decide +kernel) (pi_in (by decide)) dX8_init_60 (fun y48 h48 H locs P V => ?_)
  have M := pM.to (gW Z y48) rfl M
  refine lv_iinc (v := (13 : Int32)) (lv' := [(1, .int (13 : Int32)), (0, .ref (zB Z + 36))]) hx hb dX8_init_61 hl (k := 0) rfl (by decide) (by decide) rfl (fun ls hl => ?_)
  refine lv_goto (tgt := 42) hx hb dX8_init_64 (by decide) ?_
  refine lv_iload_n hx hb dX8_init_42 rfl (lv_at hl 0 rfl) ?_
  refine lv_bipush (v := 40) hx hb dX8_init_43 (by decide) ?_
  refine lv_icmp_ge (tgt := 67) hx hb dX8_init_45 (by decide) (fun c9 => absurd c9 (by decide)) (fun _ => ?_)
  refine lv_aload_n hx hb dX8_init_48 rfl (lv_at hl 1 rfl) ?_
  refine pg_r (Z := (gW Z y48)) M V 8 2 (P.is (by decide) rfl) pC8 fk8_2 (P.ref (o := 36) (k := 2) (t := 39) (by decide +kernel)) lkF_X8_20 dX8_init_49 ?_
  refine lv_iload_n hx hb dX8_init_52 rfl (lv_at hl 0 rfl) ?_
  refine kn_o (Z := (gW Z y48)) Z rfl rfl M V P hs (by omega) pC0 fd0 (by decide +kernel) lkC_X8_18 kI_0 ki_0 ⟨Nat.le_of_ble_eq_true rfl, Nat.le_of_ble_eq_true rfl⟩ dX8_init_53 (fun y49 h49 H P V => ?_)
  have M := pM.to (gW Z y49) rfl M
  refine lv_dup hx hb dX8_init_56 rfl ?_
  refine g_know (fun g0 => ?_)
  have z9 := mk_size V P hs g0 (by omega)
  refine kz_v (Z := (gW Z y49)) Z rfl rfl (nr_IN (Z := (gW Z y49)) M V hao z9 (m_X0_init l 68 P  (by decide) rfl (by decide +kernel) (by decide +kernel)) km_X0_init lkN_X8_24 rfl hl.1 rfl (Nat.le_of_ble_eq_true rfl) ⟨Nat.le_of_ble_eq_true rfl, Nat.le_of_ble_eq_true rfl⟩ ⟨Nat.le_of_ble_eq_true rfl, Nat.le_of_ble_eq_true rfl⟩ dX8_init_57) V (fun y50 h50 H locs P V => ?_)
  have M := pM.to (gW Z y50) rfl M
  refine ka_r (Z := (gW Z y50)) (o := 39) (t := 68) (ca := 15) Z rfl rfl (C := RX0) M V P (by decide) rfl (by decide) rfl (by decide) rfl pC0 (by decide +kernel) (pi_in (by decide)) dX8_init_60 (fun y51 h51 H locs P V => ?_)
  have M := pM.to (gW Z y51) rfl M
  refine lv_iinc (v := (14 : Int32)) (lv' := [(1, .int (14 : Int32)), (0, .ref (zB Z + 36))]) hx hb dX8_init_61 hl (k := 0) rfl (by decide) (by decide) rfl (fun ls hl => ?_)
  refine lv_goto (tgt := 42) hx hb dX8_init_64 (by decide) ?_
  refine lv_iload_n hx hb dX8_init_42 rfl (lv_at hl 0 rfl) ?_
  refine lv_bipush (v := 40) hx hb dX8_init_43 (by decide) ?_
  refine lv_icmp_ge (tgt := 67) hx hb dX8_init_45 (by decide) (fun c9 => absurd c9 (by decide)) (fun _ => ?_)
  refine lv_aload_n hx hb dX8_init_48 rfl (lv_at hl 1 rfl) ?_
  refine pg_r (Z := (gW Z y51)) M V 8 2 (P.is (by decide) rfl) pC8 fk8_2 (P.ref (o := 36) (k := 2) (t := 39) (by decide +kernel)) lkF_X8_20 dX8_init_49 ?_
  refine lv_iload_n hx hb dX8_init_52 rfl (lv_at hl 0 rfl) ?_
  refine kn_o (Z := (gW Z y51)) Z rfl rfl M V P hs (by omega) pC0 fd0 (by decide +kernel) lkC_X8_18 kI_0 ki_0 ⟨Nat.le_of_ble_eq_true rfl, Nat.le_of_ble_eq_true rfl⟩ dX8_init_53 (fun y52 h52 H P V => ?_)
  have M := pM.to (gW Z y52) rfl M
  refine lv_dup hx hb dX8_init_56 rfl ?_
  refine g_know (fun g0 => ?_)
  have z9 := mk_size V P hs g0 (by omega)
  refine kz_v (Z := (gW Z y52)) Z rfl rfl (nr_IN (Z := (gW Z y52)) M V hao z9 (m_X0_init l 70 P  (by decide) rfl (by decide +kernel) (by decide +kernel)) km_X0_init lkN_X8_24 rfl hl.1 rfl (Nat.le_of_ble_eq_true rfl) ⟨Nat.le_of_ble_eq_true rfl, Nat.le_of_ble_eq_true rfl⟩ ⟨Nat.le_of_ble_eq_true rfl, Nat.le_of_ble_eq_true rfl⟩ dX8_init_57) V (fun y53 h53 H locs P V => ?_)
  have M := pM.to (gW Z y53) rfl M
  refine ka_r (Z := (gW Z y53)) (o := 39) (t := 70) (ca := 15) Z rfl rfl (C := RX0) M V P (by decide) rfl (by decide) rfl (by decide) rfl pC0 (by decide +kernel) (pi_in (by decide)) dX8_init_60 (fun y54 h54 H locs P V => ?_)
  have M := pM.to (gW Z y54) rfl M
  refine lv_iinc (v := (15 : Int32)) (lv' := [(1, .int (15 : Int32)), (0, .ref (zB Z + 36))]) hx hb dX8_init_61 hl (k := 0) rfl (by decide) (by decide) rfl (fun ls hl => ?_)
  refine lv_goto (tgt := 42) hx hb dX8_init_64 (by decide) ?_
  refine lv_iload_n hx hb dX8_init_42 rfl (lv_at hl 0 rfl) ?_
  refine lv_bipush (v := 40) hx hb dX8_init_43 (by decide) ?_
  refine lv_icmp_ge (tgt := 67) hx hb dX8_init_45 (by decide) (fun c9 => absurd c9 (by decide)) (fun _ => ?_)
  refine lv_aload_n hx hb dX8_init_48 rfl (lv_at hl 1 rfl) ?_
  refine pg_r (Z := (gW Z y54)) M V 8 2 (P.is (by decide) rfl) pC8 fk8_2 (P.ref (o := 36) (k := 2) (t := 39) (by decide +kernel)) lkF_X8_20 dX8_init_49 ?_
  refine lv_iload_n hx hb dX8_init_52 rfl (lv_at hl 0 rfl) ?_
  refine kn_o (Z := (gW Z y54)) Z rfl rfl M V P hs (by omega) pC0 fd0 (by decide +kernel) lkC_X8_18 kI_0 ki_0 ⟨Nat.le_of_ble_eq_true rfl, Nat.le_of_ble_eq_true rfl⟩ dX8_init_53 (fun y55 h55 H P V => ?_)
  have M := pM.to (gW Z y55) rfl M
  refine lv_dup hx hb dX8_init_56 rfl ?_
  refine g_know (fun g0 => ?_)
  have z9 := mk_size V P hs g0 (by omega)
  refine kz_v (Z := (gW Z y55)) Z rfl rfl (nr_IN (Z := (gW Z y55)) M V hao z9 (m_X0_init l 72 P  (by decide) rfl (by decide +kernel) (by decide +kernel)) km_X0_init lkN_X8_24 rfl hl.1 rfl (Nat.le_of_ble_eq_true rfl) ⟨Nat.le_of_ble_eq_true rfl, Nat.le_of_ble_eq_true rfl⟩ ⟨Nat.le_of_ble_eq_true rfl, Nat.le_of_ble_eq_true rfl⟩ dX8_init_57) V (fun y56 h56 H locs P V => ?_)
  have M := pM.to (gW Z y56) rfl M
  refine ka_r (Z := (gW Z y56)) (o := 39) (t := 72) (ca := 15) Z rfl rfl (C := RX0) M V P (by decide) rfl (by decide) rfl (by decide) rfl pC0 (by decide +kernel) (pi_in (by decide)) dX8_init_60 (fun y57 h57 H locs P V => ?_)
  have M := pM.to (gW Z y57) rfl M
  refine lv_iinc (v := (16 : Int32)) (lv' := [(1, .int (16 : Int32)), (0, .ref (zB Z + 36))]) hx hb dX8_init_61 hl (k := 0) rfl (by decide) (by decide) rfl (fun ls hl => ?_)
  refine lv_goto (tgt := 42) hx hb dX8_init_64 (by decide) ?_
  refine lv_iload_n hx hb dX8_init_42 rfl (lv_at hl 0 rfl) ?_
  refine lv_bipush (v := 40) hx hb dX8_init_43 (by decide) ?_
  refine lv_icmp_ge (tgt := 67) hx hb dX8_init_45 (by decide) (fun c9 => absurd c9 (by decide)) (fun _ => ?_)
  refine lv_aload_n hx hb dX8_init_48 rfl (lv_at hl 1 rfl) ?_
  refine pg_r (Z := (gW Z y57)) M V 8 2 (P.is (by decide) rfl) pC8 fk8_2 (P.ref (o := 36) (k := 2) (t := 39) (by decide +kernel)) lkF_X8_20 dX8_init_49 ?_
  refine lv_iload_n hx hb dX8_init_52 rfl (lv_at hl 0 rfl) ?_
  refine kn_o (Z := (gW Z y57)) Z rfl rfl M V P hs (by omega) pC0 fd0 (by decide +kernel) lkC_X8_18 kI_0 ki_0 ⟨Nat.le_of_ble_eq_true rfl, Nat.le_of_ble_eq_true rfl⟩ dX8_init_53 (fun y58 h58 H P V => ?_)
  have M := pM.to (gW Z y58) rfl M
  refine lv_dup hx hb dX8_init_56 rfl ?_
  refine g_know (fun g0 => ?_)
  have z9 := mk_size V P hs g0 (by omega)
  refine kz_v (Z := (gW Z y58)) Z rfl rfl (nr_IN (Z := (gW Z y58)) M V hao z9 (m_X0_init l 74 P  (by decide) rfl (by decide +kernel) (by decide +kernel)) km_X0_init lkN_X8_24 rfl hl.1 rfl (Nat.le_of_ble_eq_true rfl) ⟨Nat.le_of_ble_eq_true rfl, Nat.le_of_ble_eq_true rfl⟩ ⟨Nat.le_of_ble_eq_true rfl, Nat.le_of_ble_eq_true rfl⟩ dX8_init_57) V (fun y59 h59 H locs P V => ?_)
  have M := pM.to (gW Z y59) rfl M
  refine ka_r (Z := (gW Z y59)) (o := 39) (t := 74) (ca := 15) Z rfl rfl (C := RX0) M V P (by decide) rfl (by decide) rfl (by decide) rfl pC0 (by decide +kernel) (pi_in (by decide)) dX8_init_60 (fun y60 h60 H locs P V => ?_)
  have M := pM.to (gW Z y60) rfl M
  refine lv_iinc (v := (17 : Int32)) (lv' := [(1, .int (17 : Int32)), (0, .ref (zB Z + 36))]) hx hb dX8_init_61 hl (k := 0) rfl (by decide) (by decide) rfl (fun ls hl => ?_)
  refine lv_goto (tgt := 42) hx hb dX8_init_64 (by decide) ?_
  refine lv_iload_n hx hb dX8_init_42 rfl (lv_at hl 0 rfl) ?_
  refine lv_bipush (v := 40) hx hb dX8_init_43 (by decide) ?_
  refine lv_icmp_ge (tgt := 67) hx hb dX8_init_45 (by decide) (fun c9 => absurd c9 (by decide)) (fun _ => ?_)
  refine lv_aload_n hx hb dX8_init_48 rfl (lv_at hl 1 rfl) ?_
  refine pg_r (Z := (gW Z y60)) M V 8 2 (P.is (by decide) rfl) pC8 fk8_2 (P.ref (o := 36) (k := 2) (t := 39) (by decide +kernel)) lkF_X8_20 dX8_init_49 ?_
  refine lv_iload_n hx hb dX8_init_52 rfl (lv_at hl 0 rfl) ?_
  refine kn_o (Z := (gW Z y60)) Z rfl rfl M V P hs (by omega) pC0 fd0 (by decide +kernel) lkC_X8_18 kI_0 ki_0 ⟨Nat.le_of_ble_eq_true rfl, Nat.le_of_ble_eq_true rfl⟩ dX8_init_53 (fun y61 h61 H P V => ?_)
  have M := pM.to (gW Z y61) rfl M
  refine lv_dup hx hb dX8_init_56 rfl ?_
  refine g_know (fun g0 => ?_)
  have z9 := mk_size V P hs g0 (by omega)
  refine kz_v (Z := (gW Z y61)) Z rfl rfl (nr_IN (Z := (gW Z y61)) M V hao z9 (m_X0_init l 76 P  (by decide) rfl (by decide +kernel) (by decide +kernel)) km_X0_init lkN_X8_24 rfl hl.1 rfl (Nat.le_of_ble_eq_true rfl) ⟨Nat.le_of_ble_eq_true rfl, Nat.le_of_ble_eq_true rfl⟩ ⟨Nat.le_of_ble_eq_true rfl, Nat.le_of_ble_eq_true rfl⟩ dX8_init_57) V (fun y62 h62 H locs P V => ?_)
  have M := pM.to (gW Z y62) rfl M
  refine ka_r (Z := (gW Z y62)) (o := 39) (t := 76) (ca := 15) Z rfl rfl (C := RX0) M V P (by decide) rfl (by decide) rfl (by decide) rfl pC0 (by decide +kernel) (pi_in (by decide)) dX8_init_60 (fun y63 h63 H locs P V => ?_)
  have M := pM.to (gW Z y63) rfl M
  refine lv_iinc (v := (18 : Int32)) (lv' := [(1, .int (18 : Int32)), (0, .ref (zB Z + 36))]) hx hb dX8_init_61 hl (k := 0) rfl (by decide) (by decide) rfl (fun ls hl => ?_)
  refine lv_goto (tgt := 42) hx hb dX8_init_64 (by decide) ?_
  refine lv_iload_n hx hb dX8_init_42 rfl (lv_at hl 0 rfl) ?_
  refine lv_bipush (v := 40) hx hb dX8_init_43 (by decide) ?_
  refine lv_icmp_ge (tgt := 67) hx hb dX8_init_45 (by decide) (fun c9 => absurd c9 (by decide)) (fun _ => ?_)
  refine lv_aload_n hx hb dX8_init_48 rfl (lv_at hl 1 rfl) ?_
  refine pg_r (Z := (gW Z y63)) M V 8 2 (P.is (by decide) rfl) pC8 fk8_2 (P.ref (o := 36) (k := 2) (t := 39) (by decide +kernel)) lkF_X8_20 dX8_init_49 ?_
  refine lv_iload_n hx hb dX8_init_52 rfl (lv_at hl 0 rfl) ?_
  refine kn_o (Z := (gW Z y63)) Z rfl rfl M V P hs (by omega) pC0 fd0 (by decide +kernel) lkC_X8_18 kI_0 ki_0 ⟨Nat.le_of_ble_eq_true rfl, Nat.le_of_ble_eq_true rfl⟩ dX8_init_53 (fun y64 h64 H P V => ?_)
  have M := pM.to (gW Z y64) rfl M
  refine lv_dup hx hb dX8_init_56 rfl ?_
  refine g_know (fun g0 => ?_)
  have z9 := mk_size V P hs g0 (by omega)
  refine kz_v (Z := (gW Z y64)) Z rfl rfl (nr_IN (Z := (gW Z y64)) M V hao z9 (m_X0_init l 78 P  (by decide) rfl (by decide +kernel) (by decide +kernel)) km_X0_init lkN_X8_24 rfl hl.1 rfl (Nat.le_of_ble_eq_true rfl) ⟨Nat.le_of_ble_eq_true rfl, Nat.le_of_ble_eq_true rfl⟩ ⟨Nat.le_of_ble_eq_true rfl, Nat.le_of_ble_eq_true rfl⟩ dX8_init_57) V (fun y65 h65 H locs P V => ?_)
  have M := pM.to (gW Z y65) rfl M
  refine ka_r (Z := (gW Z y65)) (o := 39) (t := 78) (ca := 15) Z rfl rfl (C := RX0) M V P (by decide) rfl (by decide) rfl (by decide) rfl pC0 (by decide +kernel) (pi_in (by decide)) dX8_init_60 (fun y66 h66 H locs P V => ?_)
  have M := pM.to (gW Z y66) rfl M
  refine lv_iinc (v := (19 : Int32)) (lv' := [(1, .int (19 : Int32)), (0, .ref (zB Z + 36))]) hx hb dX8_init_61 hl (k := 0) rfl (by decide) (by decide) rfl (fun ls hl => ?_)
  refine lv_goto (tgt := 42) hx hb dX8_init_64 (by decide) ?_
  refine lv_iload_n hx hb dX8_init_42 rfl (lv_at hl 0 rfl) ?_
  refine lv_bipush (v := 40) hx hb dX8_init_43 (by decide) ?_
  refine lv_icmp_ge (tgt := 67) hx hb dX8_init_45 (by decide) (fun c9 => absurd c9 (by decide)) (fun _ => ?_)
  refine lv_aload_n hx hb dX8_init_48 rfl (lv_at hl 1 rfl) ?_
  refine pg_r (Z := (gW Z y66)) M V 8 2 (P.is (by decide) rfl) pC8 fk8_2 (P.ref (o := 36) (k := 2) (t := 39) (by decide +kernel)) lkF_X8_20 dX8_init_49 ?_
  refine lv_iload_n hx hb dX8_init_52 rfl (lv_at hl 0 rfl) ?_
  refine kn_o (Z := (gW Z y66)) Z rfl rfl M V P hs (by omega) pC0 fd0 (by decide +kernel) lkC_X8_18 kI_0 ki_0 ⟨Nat.le_of_ble_eq_true rfl, Nat.le_of_ble_eq_true rfl⟩ dX8_init_53 (fun y67 h67 H P V => ?_)
  have M := pM.to (gW Z y67) rfl M
  refine lv_dup hx hb dX8_init_56 rfl ?_
  refine g_know (fun g0 => ?_)
  have z9 := mk_size V P hs g0 (by omega)
  refine kz_v (Z := (gW Z y67)) Z rfl rfl (nr_IN (Z := (gW Z y67)) M V hao z9 (m_X0_init l 80 P  (by decide) rfl (by decide +kernel) (by decide +kernel)) km_X0_init lkN_X8_24 rfl hl.1 rfl (Nat.le_of_ble_eq_true rfl) ⟨Nat.le_of_ble_eq_true rfl, Nat.le_of_ble_eq_true rfl⟩ ⟨Nat.le_of_ble_eq_true rfl, Nat.le_of_ble_eq_true rfl⟩ dX8_init_57) V (fun y68 h68 H locs P V => ?_)
  have M := pM.to (gW Z y68) rfl M
  refine ka_r (Z := (gW Z y68)) (o := 39) (t := 80) (ca := 15) Z rfl rfl (C := RX0) M V P (by decide) rfl (by decide) rfl (by decide) rfl pC0 (by decide +kernel) (pi_in (by decide)) dX8_init_60 (fun y69 h69 H locs P V => ?_)
  have M := pM.to (gW Z y69) rfl M
  refine lv_iinc (v := (20 : Int32)) (lv' := [(1, .int (20 : Int32)), (0, .ref (zB Z + 36))]) hx hb dX8_init_61 hl (k := 0) rfl (by decide) (by decide) rfl (fun ls hl => ?_)
  refine lv_goto (tgt := 42) hx hb dX8_init_64 (by decide) ?_
  refine lv_iload_n hx hb dX8_init_42 rfl (lv_at hl 0 rfl) ?_
  refine lv_bipush (v := 40) hx hb dX8_init_43 (by decide) ?_
  refine lv_icmp_ge (tgt := 67) hx hb dX8_init_45 (by decide) (fun c9 => absurd c9 (by decide)) (fun _ => ?_)
  refine lv_aload_n hx hb dX8_init_48 rfl (lv_at hl 1 rfl) ?_
  refine pg_r (Z := (gW Z y69)) M V 8 2 (P.is (by decide) rfl) pC8 fk8_2 (P.ref (o := 36) (k := 2) (t := 39) (by decide +kernel)) lkF_X8_20 dX8_init_49 ?_
  refine lv_iload_n hx hb dX8_init_52 rfl (lv_at hl 0 rfl) ?_
  refine kn_o (Z := (gW Z y69)) Z rfl rfl M V P hs (by omega) pC0 fd0 (by decide +kernel) lkC_X8_18 kI_0 ki_0 ⟨Nat.le_of_ble_eq_true rfl, Nat.le_of_ble_eq_true rfl⟩ dX8_init_53 (fun y70 h70 H P V => ?_)
  have M := pM.to (gW Z y70) rfl M
  refine lv_dup hx hb dX8_init_56 rfl ?_
  refine g_know (fun g0 => ?_)
  have z9 := mk_size V P hs g0 (by omega)
  refine kz_v (Z := (gW Z y70)) Z rfl rfl (nr_IN (Z := (gW Z y70)) M V hao z9 (m_X0_init l 82 P  (by decide) rfl (by decide +kernel) (by decide +kernel)) km_X0_init lkN_X8_24 rfl hl.1 rfl (Nat.le_of_ble_eq_true rfl) ⟨Nat.le_of_ble_eq_true rfl, Nat.le_of_ble_eq_true rfl⟩ ⟨Nat.le_of_ble_eq_true rfl, Nat.le_of_ble_eq_true rfl⟩ dX8_init_57) V (fun y71 h71 H locs P V => ?_)
  have M := pM.to (gW Z y71) rfl M
  refine ka_r (Z := (gW Z y71)) (o := 39) (t := 82) (ca := 15) Z rfl rfl (C := RX0) M V P (by decide) rfl (by decide) rfl (by decide) rfl pC0 (by decide +kernel) (pi_in (by decide)) dX8_init_60 (fun y72 h72 H locs P V => ?_)
  have M := pM.to (gW Z y72) rfl M
  refine lv_iinc (v := (21 : Int32)) (lv' := [(1, .int (21 : Int32)), (0, .ref (zB Z + 36))]) hx hb dX8_init_61 hl (k := 0) rfl (by decide) (by decide) rfl (fun ls hl => ?_)
  refine lv_goto (tgt := 42) hx hb dX8_init_64 (by decide) ?_
  refine lv_iload_n hx hb dX8_init_42 rfl (lv_at hl 0 rfl) ?_
  refine lv_bipush (v := 40) hx hb dX8_init_43 (by decide) ?_
  refine lv_icmp_ge (tgt := 67) hx hb dX8_init_45 (by decide) (fun c9 => absurd c9 (by decide)) (fun _ => ?_)
  refine lv_aload_n hx hb dX8_init_48 rfl (lv_at hl 1 rfl) ?_
  refine pg_r (Z := (gW Z y72)) M V 8 2 (P.is (by decide) rfl) pC8 fk8_2 (P.ref (o := 36) (k := 2) (t := 39) (by decide +kernel)) lkF_X8_20 dX8_init_49 ?_
  refine lv_iload_n hx hb dX8_init_52 rfl (lv_at hl 0 rfl) ?_
  refine kn_o (Z := (gW Z y72)) Z rfl rfl M V P hs (by omega) pC0 fd0 (by decide +kernel) lkC_X8_18 kI_0 ki_0 ⟨Nat.le_of_ble_eq_true rfl, Nat.le_of_ble_eq_true rfl⟩ dX8_init_53 (fun y73 h73 H P V => ?_)
  have M := pM.to (gW Z y73) rfl M
  refine lv_dup hx hb dX8_init_56 rfl ?_
  refine g_know (fun g0 => ?_)
  have z9 := mk_size V P hs g0 (by omega)
  refine kz_v (Z := (gW Z y73)) Z rfl rfl (nr_IN (Z := (gW Z y73)) M V hao z9 (m_X0_init l 84 P  (by decide) rfl (by decide +kernel) (by decide +kernel)) km_X0_init lkN_X8_24 rfl hl.1 rfl (Nat.le_of_ble_eq_true rfl) ⟨Nat.le_of_ble_eq_true rfl, Nat.le_of_ble_eq_true rfl⟩ ⟨Nat.le_of_ble_eq_true rfl, Nat.le_of_ble_eq_true rfl⟩ dX8_init_57) V (fun y74 h74 H locs P V => ?_)
  have M := pM.to (gW Z y74) rfl M
  refine ka_r (Z := (gW Z y74)) (o := 39) (t := 84) (ca := 15) Z rfl rfl (C := RX0) M V P (by decide) rfl (by decide) rfl (by decide) rfl pC0 (by decide +kernel) (pi_in (by decide)) dX8_init_60 (fun y75 h75 H locs P V => ?_)
  have M := pM.to (gW Z y75) rfl M
  refine lv_iinc (v := (22 : Int32)) (lv' := [(1, .int (22 : Int32)), (0, .ref (zB Z + 36))]) hx hb dX8_init_61 hl (k := 0) rfl (by decide) (by decide) rfl (fun ls hl => ?_)
  refine lv_goto (tgt := 42) hx hb dX8_init_64 (by decide) ?_
  refine lv_iload_n hx hb dX8_init_42 rfl (lv_at hl 0 rfl) ?_
  refine lv_bipush (v := 40) hx hb dX8_init_43 (by decide) ?_
  refine lv_icmp_ge (tgt := 67) hx hb dX8_init_45 (by decide) (fun c9 => absurd c9 (by decide)) (fun _ => ?_)
  refine lv_aload_n hx hb dX8_init_48 rfl (lv_at hl 1 rfl) ?_
  refine pg_r (Z := (gW Z y75)) M V 8 2 (P.is (by decide) rfl) pC8 fk8_2 (P.ref (o := 36) (k := 2) (t := 39) (by decide +kernel)) lkF_X8_20 dX8_init_49 ?_
  refine lv_iload_n hx hb dX8_init_52 rfl (lv_at hl 0 rfl) ?_
  refine kn_o (Z := (gW Z y75)) Z rfl rfl M V P hs (by omega) pC0 fd0 (by decide +kernel) lkC_X8_18 kI_0 ki_0 ⟨Nat.le_of_ble_eq_true rfl, Nat.le_of_ble_eq_true rfl⟩ dX8_init_53 (fun y76 h76 H P V => ?_)
  have M := pM.to (gW Z y76) rfl M
  refine lv_dup hx hb dX8_init_56 rfl ?_
  refine g_know (fun g0 => ?_)
  have z9 := mk_size V P hs g0 (by omega)
  refine kz_v (Z := (gW Z y76)) Z rfl rfl (nr_IN (Z := (gW Z y76)) M V hao z9 (m_X0_init l 86 P  (by decide) rfl (by decide +kernel) (by decide +kernel)) km_X0_init lkN_X8_24 rfl hl.1 rfl (Nat.le_of_ble_eq_true rfl) ⟨Nat.le_of_ble_eq_true rfl, Nat.le_of_ble_eq_true rfl⟩ ⟨Nat.le_of_ble_eq_true rfl, Nat.le_of_ble_eq_true rfl⟩ dX8_init_57) V (fun y77 h77 H locs P V => ?_)
  have M := pM.to (gW Z y77) rfl M
  refine ka_r (Z := (gW Z y77)) (o := 39) (t := 86) (ca := 15) Z rfl rfl (C := RX0) M V P (by decide) rfl (by decide) rfl (by decide) rfl pC0 (by decide +kernel) (pi_in (by decide)) dX8_init_60 (fun y78 h78 H locs P V => ?_)
  have M := pM.to (gW Z y78) rfl M
  refine lv_iinc (v := (23 : Int32)) (lv' := [(1, .int (23 : Int32)), (0, .ref (zB Z + 36))]) hx hb dX8_init_61 hl (k := 0) rfl (by decide) (by decide) rfl (fun ls hl => ?_)
  refine lv_goto (tgt := 42) hx hb dX8_init_64 (by decide) ?_
  refine lv_iload_n hx hb dX8_init_42 rfl (lv_at hl 0 rfl) ?_
  refine lv_bipush (v := 40) hx hb dX8_init_43 (by decide) ?_
  refine lv_icmp_ge (tgt := 67) hx hb dX8_init_45 (by decide) (fun c9 => absurd c9 (by decide)) (fun _ => ?_)
  refine lv_aload_n hx hb dX8_init_48 rfl (lv_at hl 1 rfl) ?_
  refine pg_r (Z := (gW Z y78)) M V 8 2 (P.is (by decide) rfl) pC8 fk8_2 (P.ref (o := 36) (k := 2) (t := 39) (by decide +kernel)) lkF_X8_20 dX8_init_49 ?_
  refine lv_iload_n hx hb dX8_init_52 rfl (lv_at hl 0 rfl) ?_
  refine kn_o (Z := (gW Z y78)) Z rfl rfl M V P hs (by omega) pC0 fd0 (by decide +kernel) lkC_X8_18 kI_0 ki_0 ⟨Nat.le_of_ble_eq_true rfl, Nat.le_of_ble_eq_true rfl⟩ dX8_init_53 (fun y79 h79 H P V => ?_)
  have M := pM.to (gW Z y79) rfl M
  refine lv_dup hx hb dX8_init_56 rfl ?_
  refine g_know (fun g0 => ?_)
  have z9 := mk_size V P hs g0 (by omega)
  refine kz_v (Z := (gW Z y79)) Z rfl rfl (nr_IN (Z := (gW Z y79)) M V hao z9 (m_X0_init l 88 P  (by decide) rfl (by decide +kernel) (by decide +kernel)) km_X0_init lkN_X8_24 rfl hl.1 rfl (Nat.le_of_ble_eq_true rfl) ⟨Nat.le_of_ble_eq_true rfl, Nat.le_of_ble_eq_true rfl⟩ ⟨Nat.le_of_ble_eq_true rfl, Nat.le_of_ble_eq_true rfl⟩ dX8_init_57) V (fun y80 h80 H locs P V => ?_)
  have M := pM.to (gW Z y80) rfl M
  refine ka_r (Z := (gW Z y80)) (o := 39) (t := 88) (ca := 15) Z rfl rfl (C := RX0) M V P (by decide) rfl (by decide) rfl (by decide) rfl pC0 (by decide +kernel) (pi_in (by decide)) dX8_init_60 (fun y81 h81 H locs P V => ?_)
  have M := pM.to (gW Z y81) rfl M
  refine lv_iinc (v := (24 : Int32)) (lv' := [(1, .int (24 : Int32)), (0, .ref (zB Z + 36))]) hx hb dX8_init_61 hl (k := 0) rfl (by decide) (by decide) rfl (fun ls hl => ?_)
  refine lv_goto (tgt := 42) hx hb dX8_init_64 (by decide) ?_
  refine lv_iload_n hx hb dX8_init_42 rfl (lv_at hl 0 rfl) ?_
  refine lv_bipush (v := 40) hx hb dX8_init_43 (by decide) ?_
  refine lv_icmp_ge (tgt := 67) hx hb dX8_init_45 (by decide) (fun c9 => absurd c9 (by decide)) (fun _ => ?_)
  refine lv_aload_n hx hb dX8_init_48 rfl (lv_at hl 1 rfl) ?_
  refine pg_r (Z := (gW Z y81)) M V 8 2 (P.is (by decide) rfl) pC8 fk8_2 (P.ref (o := 36) (k := 2) (t := 39) (by decide +kernel)) lkF_X8_20 dX8_init_49 ?_
  refine lv_iload_n hx hb dX8_init_52 rfl (lv_at hl 0 rfl) ?_
  refine kn_o (Z := (gW Z y81)) Z rfl rfl M V P hs (by omega) pC0 fd0 (by decide +kernel) lkC_X8_18 kI_0 ki_0 ⟨Nat.le_of_ble_eq_true rfl, Nat.le_of_ble_eq_true rfl⟩ dX8_init_53 (fun y82 h82 H P V => ?_)
  have M := pM.to (gW Z y82) rfl M
  refine lv_dup hx hb dX8_init_56 rfl ?_
  refine g_know (fun g0 => ?_)
  have z9 := mk_size V P hs g0 (by omega)
  refine kz_v (Z := (gW Z y82)) Z rfl rfl (nr_IN (Z := (gW Z y82)) M V hao z9 (m_X0_init l 90 P  (by decide) rfl (by decide +kernel) (by decide +kernel)) km_X0_init lkN_X8_24 rfl hl.1 rfl (Nat.le_of_ble_eq_true rfl) ⟨Nat.le_of_ble_eq_true rfl, Nat.le_of_ble_eq_true rfl⟩ ⟨Nat.le_of_ble_eq_true rfl, Nat.le_of_ble_eq_true rfl⟩ dX8_init_57) V (fun y83 h83 H locs P V => ?_)
  have M := pM.to (gW Z y83) rfl M
  refine ka_r (Z := (gW Z y83)) (o := 39) (t := 90) (ca := 15) Z rfl rfl (C := RX0) M V P (by decide) rfl (by decide) rfl (by decide) rfl pC0 (by decide +kernel) (pi_in (by decide)) dX8_init_60 (fun y84 h84 H locs P V => ?_)
  have M := pM.to (gW Z y84) rfl M
  refine lv_iinc (v := (25 : Int32)) (lv' := [(1, .int (25 : Int32)), (0, .ref (zB Z + 36))]) hx hb dX8_init_61 hl (k := 0) rfl (by decide) (by decide) rfl (fun ls hl => ?_)
  refine lv_goto (tgt := 42) hx hb dX8_init_64 (by decide) ?_
  refine lv_iload_n hx hb dX8_init_42 rfl (lv_at hl 0 rfl) ?_
  refine lv_bipush (v := 40) hx hb dX8_init_43 (by decide) ?_
  refine lv_icmp_ge (tgt := 67) hx hb dX8_init_45 (by decide) (fun c9 => absurd c9 (by decide)) (fun _ => ?_)
  refine lv_aload_n hx hb dX8_init_48 rfl (lv_at hl 1 rfl) ?_
  refine pg_r (Z := (gW Z y84)) M V 8 2 (P.is (by decide) rfl) pC8 fk8_2 (P.ref (o := 36) (k := 2) (t := 39) (by decide +kernel)) lkF_X8_20 dX8_init_49 ?_
  refine lv_iload_n hx hb dX8_init_52 rfl (lv_at hl 0 rfl) ?_
  refine kn_o (Z := (gW Z y84)) Z rfl rfl M V P hs (by omega) pC0 fd0 (by decide +kernel) lkC_X8_18 kI_0 ki_0 ⟨Nat.le_of_ble_eq_true rfl, Nat.le_of_ble_eq_true rfl⟩ dX8_init_53 (fun y85 h85 H P V => ?_)
  have M := pM.to (gW Z y85) rfl M
  refine lv_dup hx hb dX8_init_56 rfl ?_
  refine g_know (fun g0 => ?_)
  have z9 := mk_size V P hs g0 (by omega)
  refine kz_v (Z := (gW Z y85)) Z rfl rfl (nr_IN (Z := (gW Z y85)) M V hao z9 (m_X0_init l 92 P  (by decide) rfl (by decide +kernel) (by decide +kernel)) km_X0_init lkN_X8_24 rfl hl.1 rfl (Nat.le_of_ble_eq_true rfl) ⟨Nat.le_of_ble_eq_true rfl, Nat.le_of_ble_eq_true rfl⟩ ⟨Nat.le_of_ble_eq_true rfl, Nat.le_of_ble_eq_true rfl⟩ dX8_init_57) V (fun y86 h86 H locs P V => ?_)
  have M := pM.to (gW Z y86) rfl M
  refine ka_r (Z := (gW Z y86)) (o := 39) (t := 92) (ca := 15) Z rfl rfl (C := RX0) M V P (by decide) rfl (by decide) rfl (by decide) rfl pC0 (by decide +kernel) (pi_in (by decide)) dX8_init_60 (fun y87 h87 H locs P V => ?_)
  have M := pM.to (gW Z y87) rfl M
  refine lv_iinc (v := (26 : Int32)) (lv' := [(1, .int (26 : Int32)), (0, .ref (zB Z + 36))]) hx hb dX8_init_61 hl (k := 0) rfl (by decide) (by decide) rfl (fun ls hl => ?_)
  refine lv_goto (tgt := 42) hx hb dX8_init_64 (by decide) ?_
  refine lv_iload_n hx hb dX8_init_42 rfl (lv_at hl 0 rfl) ?_
  refine lv_bipush (v := 40) hx hb dX8_init_43 (by decide) ?_
  refine lv_icmp_ge (tgt := 67) hx hb dX8_init_45 (by decide) (fun c9 => absurd c9 (by decide)) (fun _ => ?_)
  refine lv_aload_n hx hb dX8_init_48 rfl (lv_at hl 1 rfl) ?_
  refine pg_r (Z := (gW Z y87)) M V 8 2 (P.is (by decide) rfl) pC8 fk8_2 (P.ref (o := 36) (k := 2) (t := 39) (by decide +kernel)) lkF_X8_20 dX8_init_49 ?_
  refine lv_iload_n hx hb dX8_init_52 rfl (lv_at hl 0 rfl) ?_
  refine kn_o (Z := (gW Z y87)) Z rfl rfl M V P hs (by omega) pC0 fd0 (by decide +kernel) lkC_X8_18 kI_0 ki_0 ⟨Nat.le_of_ble_eq_true rfl, Nat.le_of_ble_eq_true rfl⟩ dX8_init_53 (fun y88 h88 H P V => ?_)
  have M := pM.to (gW Z y88) rfl M
  refine lv_dup hx hb dX8_init_56 rfl ?_
  refine g_know (fun g0 => ?_)
  have z9 := mk_size V P hs g0 (by omega)
  refine kz_v (Z := (gW Z y88)) Z rfl rfl (nr_IN (Z := (gW Z y88)) M V hao z9 (m_X0_init l 94 P  (by decide) rfl (by decide +kernel) (by decide +kernel)) km_X0_init lkN_X8_24 rfl hl.1 rfl (Nat.le_of_ble_eq_true rfl) ⟨Nat.le_of_ble_eq_true rfl, Nat.le_of_ble_eq_true rfl⟩ ⟨Nat.le_of_ble_eq_true rfl, Nat.le_of_ble_eq_true rfl⟩ dX8_init_57) V (fun y89 h89 H locs P V => ?_)
  have M := pM.to (gW Z y89) rfl M
  refine ka_r (Z := (gW Z y89)) (o := 39) (t := 94) (ca := 15) Z rfl rfl (C := RX0) M V P (by decide) rfl (by decide) rfl (by decide) rfl pC0 (by decide +kernel) (pi_in (by decide)) dX8_init_60 (fun y90 h90 H locs P V => ?_)
  have M := pM.to (gW Z y90) rfl M
  refine lv_iinc (v := (27 : Int32)) (lv' := [(1, .int (27 : Int32)), (0, .ref (zB Z + 36))]) hx hb dX8_init_61 hl (k := 0) rfl (by decide) (by decide) rfl (fun ls hl => ?_)
  refine lv_goto (tgt := 42) hx hb dX8_init_64 (by decide) ?_
  refine lv_iload_n hx hb dX8_init_42 rfl (lv_at hl 0 rfl) ?_
  refine lv_bipush (v := 40) hx hb dX8_init_43 (by decide) ?_
  refine lv_icmp_ge (tgt := 67) hx hb dX8_init_45 (by decide) (fun c9 => absurd c9 (by decide)) (fun _ => ?_)
  refine lv_aload_n hx hb dX8_init_48 rfl (lv_at hl 1 rfl) ?_
  refine pg_r (Z := (gW Z y90)) M V 8 2 (P.is (by decide) rfl) pC8 fk8_2 (P.ref (o := 36) (k := 2) (t := 39) (by decide +kernel)) lkF_X8_20 dX8_init_49 ?_
  refine lv_iload_n hx hb dX8_init_52 rfl (lv_at hl 0 rfl) ?_
  refine kn_o (Z := (gW Z y90)) Z rfl rfl M V P hs (by omega) pC0 fd0 (by decide +kernel) lkC_X8_18 kI_0 ki_0 ⟨Nat.le_of_ble_eq_true rfl, Nat.le_of_ble_eq_true rfl⟩ dX8_init_53 (fun y91 h91 H P V => ?_)
  have M := pM.to (gW Z y91) rfl M
  refine lv_dup hx hb dX8_init_56 rfl ?_
  refine g_know (fun g0 => ?_)
  have z9 := mk_size V P hs g0 (by omega)
  refine kz_v (Z := (gW Z y91)) Z rfl rfl (nr_IN (Z := (gW Z y91)) M V hao z9 (m_X0_init l 96 P  (by decide) rfl (by decide +kernel) (by decide +kernel)) km_X0_init lkN_X8_24 rfl hl.1 rfl (Nat.le_of_ble_eq_true rfl) ⟨Nat.le_of_ble_eq_true rfl, Nat.le_of_ble_eq_true rfl⟩ ⟨Nat.le_of_ble_eq_true rfl, Nat.le_of_ble_eq_true rfl⟩ dX8_init_57) V (fun y92 h92 H locs P V => ?_)
  have M := pM.to (gW Z y92) rfl M
  refine ka_r (Z := (gW Z y92)) (o := 39) (t := 96) (ca := 15) Z rfl rfl (C := RX0) M V P (by decide) rfl (by decide) rfl (by decide) rfl pC0 (by decide +kernel) (pi_in (by decide)) dX8_init_60 (fun y93 h93 H locs P V => ?_)
  have M := pM.to (gW Z y93) rfl M
  refine lv_iinc (v := (28 : Int32)) (lv' := [(1, .int (28 : Int32)), (0, .ref (zB Z + 36))]) hx hb dX8_init_61 hl (k := 0) rfl (by decide) (by decide) rfl (fun ls hl => ?_)
  refine lv_goto (tgt := 42) hx hb dX8_init_64 (by decide) ?_
  refine lv_iload_n hx hb dX8_init_42 rfl (lv_at hl 0 rfl) ?_
  refine lv_bipush (v := 40) hx hb dX8_init_43 (by decide) ?_
  refine lv_icmp_ge (tgt := 67) hx hb dX8_init_45 (by decide) (fun c9 => absurd c9 (by decide)) (fun _ => ?_)
  refine lv_aload_n hx hb dX8_init_48 rfl (lv_at hl 1 rfl) ?_
  refine pg_r (Z := (gW Z y93)) M V 8 2 (P.is (by decide) rfl) pC8 fk8_2 (P.ref (o := 36) (k := 2) (t := 39) (by decide +kernel)) lkF_X8_20 dX8_init_49 ?_
  refine lv_iload_n hx hb dX8_init_52 rfl (lv_at hl 0 rfl) ?_
  refine kn_o (Z := (gW Z y93)) Z rfl rfl M V P hs (by omega) pC0 fd0 (by decide +kernel) lkC_X8_18 kI_0 ki_0 ⟨Nat.le_of_ble_eq_true rfl, Nat.le_of_ble_eq_true rfl⟩ dX8_init_53 (fun y94 h94 H P V => ?_)
  have M := pM.to (gW Z y94) rfl M
  refine lv_dup hx hb dX8_init_56 rfl ?_
  refine g_know (fun g0 => ?_)
  have z9 := mk_size V P hs g0 (by omega)
  refine kz_v (Z := (gW Z y94)) Z rfl rfl (nr_IN (Z := (gW Z y94)) M V hao z9 (m_X0_init l 98 P  (by decide) rfl (by decide +kernel) (by decide +kernel)) km_X0_init lkN_X8_24 rfl hl.1 rfl (Nat.le_of_ble_eq_true rfl) ⟨Nat.le_of_ble_eq_true rfl, Nat.le_of_ble_eq_true rfl⟩ ⟨Nat.le_of_ble_eq_true rfl, Nat.le_of_ble_eq_true rfl⟩ dX8_init_57) V (fun y95 h95 H locs P V => ?_)
  have M := pM.to (gW Z y95) rfl M
  refine ka_r (Z := (gW Z y95)) (o := 39) (t := 98) (ca := 15) Z rfl rfl (C := RX0) M V P (by decide) rfl (by decide) rfl (by decide) rfl pC0 (by decide +kernel) (pi_in (by decide)) dX8_init_60 (fun y96 h96 H locs P V => ?_)
  have M := pM.to (gW Z y96) rfl M
  refine lv_iinc (v := (29 : Int32)) (lv' := [(1, .int (29 : Int32)), (0, .ref (zB Z + 36))]) hx hb dX8_init_61 hl (k := 0) rfl (by decide) (by decide) rfl (fun ls hl => ?_)
  refine lv_goto (tgt := 42) hx hb dX8_init_64 (by decide) ?_
  refine lv_iload_n hx hb dX8_init_42 rfl (lv_at hl 0 rfl) ?_
  refine lv_bipush (v := 40) hx hb dX8_init_43 (by decide) ?_
  refine lv_icmp_ge (tgt := 67) hx hb dX8_init_45 (by decide) (fun c9 => absurd c9 (by decide)) (fun _ => ?_)
  refine lv_aload_n hx hb dX8_init_48 rfl (lv_at hl 1 rfl) ?_
  refine pg_r (Z := (gW Z y96)) M V 8 2 (P.is (by decide) rfl) pC8 fk8_2 (P.ref (o := 36) (k := 2) (t := 39) (by decide +kernel)) lkF_X8_20 dX8_init_49 ?_
  refine lv_iload_n hx hb dX8_init_52 rfl (lv_at hl 0 rfl) ?_
  refine kn_o (Z := (gW Z y96)) Z rfl rfl M V P hs (by omega) pC0 fd0 (by decide +kernel) lkC_X8_18 kI_0 ki_0 ⟨Nat.le_of_ble_eq_true rfl, Nat.le_of_ble_eq_true rfl⟩ dX8_init_53 (fun y97 h97 H P V => ?_)
  have M := pM.to (gW Z y97) rfl M
  refine lv_dup hx hb dX8_init_56 rfl ?_
  refine g_know (fun g0 => ?_)
  have z9 := mk_size V P hs g0 (by omega)
  refine kz_v (Z := (gW Z y97)) Z rfl rfl (nr_IN (Z := (gW Z y97)) M V hao z9 (m_X0_init l 100 P  (by decide) rfl (by decide +kernel) (by decide +kernel)) km_X0_init lkN_X8_24 rfl hl.1 rfl (Nat.le_of_ble_eq_true rfl) ⟨Nat.le_of_ble_eq_true rfl, Nat.le_of_ble_eq_true rfl⟩ ⟨Nat.le_of_ble_eq_true rfl, Nat.le_of_ble_eq_true rfl⟩ dX8_init_57) V (fun y98 h98 H locs P V => ?_)
  have M := pM.to (gW Z y98) rfl M
  refine ka_r (Z := (gW Z y98)) (o := 39) (t := 100) (ca := 15) Z rfl rfl (C := RX0) M V P (by decide) rfl (by decide) rfl (by decide) rfl pC0 (by decide +kernel) (pi_in (by decide)) dX8_init_60 (fun y99 h99 H locs P V => ?_)
  have M := pM.to (gW Z y99) rfl M
  refine lv_iinc (v := (30 : Int32)) (lv' := [(1, .int (30 : Int32)), (0, .ref (zB Z + 36))]) hx hb dX8_init_61 hl (k := 0) rfl (by decide) (by decide) rfl (fun ls hl => ?_)
  refine lv_goto (tgt := 42) hx hb dX8_init_64 (by decide) ?_
  refine lv_iload_n hx hb dX8_init_42 rfl (lv_at hl 0 rfl) ?_
  refine lv_bipush (v := 40) hx hb dX8_init_43 (by decide) ?_
  refine lv_icmp_ge (tgt := 67) hx hb dX8_init_45 (by decide) (fun c9 => absurd c9 (by decide)) (fun _ => ?_)
  refine lv_aload_n hx hb dX8_init_48 rfl (lv_at hl 1 rfl) ?_
  refine pg_r (Z := (gW Z y99)) M V 8 2 (P.is (by decide) rfl) pC8 fk8_2 (P.ref (o := 36) (k := 2) (t := 39) (by decide +kernel)) lkF_X8_20 dX8_init_49 ?_
  refine lv_iload_n hx hb dX8_init_52 rfl (lv_at hl 0 rfl) ?_
  refine kn_o (Z := (gW Z y99)) Z rfl rfl M V P hs (by omega) pC0 fd0 (by decide +kernel) lkC_X8_18 kI_0 ki_0 ⟨Nat.le_of_ble_eq_true rfl, Nat.le_of_ble_eq_true rfl⟩ dX8_init_53 (fun y100 h100 H P V => ?_)
  have M := pM.to (gW Z y100) rfl M
  refine lv_dup hx hb dX8_init_56 rfl ?_
  refine g_know (fun g0 => ?_)
  have z9 := mk_size V P hs g0 (by omega)
  refine kz_v (Z := (gW Z y100)) Z rfl rfl (nr_IN (Z := (gW Z y100)) M V hao z9 (m_X0_init l 102 P  (by decide) rfl (by decide +kernel) (by decide +kernel)) km_X0_init lkN_X8_24 rfl hl.1 rfl (Nat.le_of_ble_eq_true rfl) ⟨Nat.le_of_ble_eq_true rfl, Nat.le_of_ble_eq_true rfl⟩ ⟨Nat.le_of_ble_eq_true rfl, Nat.le_of_ble_eq_true rfl⟩ dX8_init_57) V (fun y101 h101 H locs P V => ?_)
  have M := pM.to (gW Z y101) rfl M
  refine ka_r (Z := (gW Z y101)) (o := 39) (t := 102) (ca := 15) Z rfl rfl (C := RX0) M V P (by decide) rfl (by decide) rfl (by decide) rfl pC0 (by decide +kernel) (pi_in (by decide)) dX8_init_60 (fun y102 h102 H locs P V => ?_)
  have M := pM.to (gW Z y102) rfl M
  refine lv_iinc (v := (31 : Int32)) (lv' := [(1, .int (31 : Int32)), (0, .ref (zB Z + 36))]) hx hb dX8_init_61 hl (k := 0) rfl (by decide) (by decide) rfl (fun ls hl => ?_)
  refine lv_goto (tgt := 42) hx hb dX8_init_64 (by decide) ?_
  refine lv_iload_n hx hb dX8_init_42 rfl (lv_at hl 0 rfl) ?_
  refine lv_bipush (v := 40) hx hb dX8_init_43 (by decide) ?_
  refine lv_icmp_ge (tgt := 67) hx hb dX8_init_45 (by decide) (fun c9 => absurd c9 (by decide)) (fun _ => ?_)
  refine lv_aload_n hx hb dX8_init_48 rfl (lv_at hl 1 rfl) ?_
  refine pg_r (Z := (gW Z y102)) M V 8 2 (P.is (by decide) rfl) pC8 fk8_2 (P.ref (o := 36) (k := 2) (t := 39) (by decide +kernel)) lkF_X8_20 dX8_init_49 ?_
  refine lv_iload_n hx hb dX8_init_52 rfl (lv_at hl 0 rfl) ?_
  refine kn_o (Z := (gW Z y102)) Z rfl rfl M V P hs (by omega) pC0 fd0 (by decide +kernel) lkC_X8_18 kI_0 ki_0 ⟨Nat.le_of_ble_eq_true rfl, Nat.le_of_ble_eq_true rfl⟩ dX8_init_53 (fun y103 h103 H P V => ?_)
  have M := pM.to (gW Z y103) rfl M
  refine lv_dup hx hb dX8_init_56 rfl ?_
  refine g_know (fun g0 => ?_)
  have z9 := mk_size V P hs g0 (by omega)
  refine kz_v (Z := (gW Z y103)) Z rfl rfl (nr_IN (Z := (gW Z y103)) M V hao z9 (m_X0_init l 104 P  (by decide) rfl (by decide +kernel) (by decide +kernel)) km_X0_init lkN_X8_24 rfl hl.1 rfl (Nat.le_of_ble_eq_true rfl) ⟨Nat.le_of_ble_eq_true rfl, Nat.le_of_ble_eq_true rfl⟩ ⟨Nat.le_of_ble_eq_true rfl, Nat.le_of_ble_eq_true rfl⟩ dX8_init_57) V (fun y104 h104 H locs P V => ?_)
  have M := pM.to (gW Z y104) rfl M
  refine ka_r (Z := (gW Z y104)) (o := 39) (t := 104) (ca := 15) Z rfl rfl (C := RX0) M V P (by decide) rfl (by decide) rfl (by decide) rfl pC0 (by decide +kernel) (pi_in (by decide)) dX8_init_60 (fun y105 h105 H locs P V => ?_)
  have M := pM.to (gW Z y105) rfl M
  refine lv_iinc (v := (32 : Int32)) (lv' := [(1, .int (32 : Int32)), (0, .ref (zB Z + 36))]) hx hb dX8_init_61 hl (k := 0) rfl (by decide) (by decide) rfl (fun ls hl => ?_)
  refine lv_goto (tgt := 42) hx hb dX8_init_64 (by decide) ?_
  refine lv_iload_n hx hb dX8_init_42 rfl (lv_at hl 0 rfl) ?_
  refine lv_bipush (v := 40) hx hb dX8_init_43 (by decide) ?_
  refine lv_icmp_ge (tgt := 67) hx hb dX8_init_45 (by decide) (fun c9 => absurd c9 (by decide)) (fun _ => ?_)
  refine lv_aload_n hx hb dX8_init_48 rfl (lv_at hl 1 rfl) ?_
  refine pg_r (Z := (gW Z y105)) M V 8 2 (P.is (by decide) rfl) pC8 fk8_2 (P.ref (o := 36) (k := 2) (t := 39) (by decide +kernel)) lkF_X8_20 dX8_init_49 ?_
  refine lv_iload_n hx hb dX8_init_52 rfl (lv_at hl 0 rfl) ?_
  refine kn_o (Z := (gW Z y105)) Z rfl rfl M V P hs (by omega) pC0 fd0 (by decide +kernel) lkC_X8_18 kI_0 ki_0 ⟨Nat.le_of_ble_eq_true rfl, Nat.le_of_ble_eq_true rfl⟩ dX8_init_53 (fun y106 h106 H P V => ?_)
  have M := pM.to (gW Z y106) rfl M
  refine lv_dup hx hb dX8_init_56 rfl ?_
  refine g_know (fun g0 => ?_)
  have z9 := mk_size V P hs g0 (by omega)
  refine kz_v (Z := (gW Z y106)) Z rfl rfl (nr_IN (Z := (gW Z y106)) M V hao z9 (m_X0_init l 106 P  (by decide) rfl (by decide +kernel) (by decide +kernel)) km_X0_init lkN_X8_24 rfl hl.1 rfl (Nat.le_of_ble_eq_true rfl) ⟨Nat.le_of_ble_eq_true rfl, Nat.le_of_ble_eq_true rfl⟩ ⟨Nat.le_of_ble_eq_true rfl, Nat.le_of_ble_eq_true rfl⟩ dX8_init_57) V (fun y107 h107 H locs P V => ?_)
  have M := pM.to (gW Z y107) rfl M
  refine ka_r (Z := (gW Z y107)) (o := 39) (t := 106) (ca := 15) Z rfl rfl (C := RX0) M V P (by decide) rfl (by decide) rfl (by decide) rfl pC0 (by decide +kernel) (pi_in (by decide)) dX8_init_60 (fun y108 h108 H locs P V => ?_)
  have M := pM.to (gW Z y108) rfl M
  refine lv_iinc (v := (33 : Int32)) (lv' := [(1, .int (33 : Int32)), (0, .ref (zB Z + 36))]) hx hb dX8_init_61 hl (k := 0) rfl (by decide) (by decide) rfl (fun ls hl => ?_)
  refine lv_goto (tgt := 42) hx hb dX8_init_64 (by decide) ?_
  refine lv_iload_n hx hb dX8_init_42 rfl (lv_at hl 0 rfl) ?_
  refine lv_bipush (v := 40) hx hb dX8_init_43 (by decide) ?_
  refine lv_icmp_ge (tgt := 67) hx hb dX8_init_45 (by decide) (fun c9 => absurd c9 (by decide)) (fun _ => ?_)
  refine lv_aload_n hx hb dX8_init_48 rfl (lv_at hl 1 rfl) ?_
  refine pg_r (Z := (gW Z y108)) M V 8 2 (P.is (by decide) rfl) pC8 fk8_2 (P.ref (o := 36) (k := 2) (t := 39) (by decide +kernel)) lkF_X8_20 dX8_init_49 ?_
  refine lv_iload_n hx hb dX8_init_52 rfl (lv_at hl 0 rfl) ?_
  refine kn_o (Z := (gW Z y108)) Z rfl rfl M V P hs (by omega) pC0 fd0 (by decide +kernel) lkC_X8_18 kI_0 ki_0 ⟨Nat.le_of_ble_eq_true rfl, Nat.le_of_ble_eq_true rfl⟩ dX8_init_53 (fun y109 h109 H P V => ?_)
  have M := pM.to (gW Z y109) rfl M
  refine lv_dup hx hb dX8_init_56 rfl ?_
  refine g_know (fun g0 => ?_)
  have z9 := mk_size V P hs g0 (by omega)
  refine kz_v (Z := (gW Z y109)) Z rfl rfl (nr_IN (Z := (gW Z y109)) M V hao z9 (m_X0_init l 108 P  (by decide) rfl (by decide +kernel) (by decide +kernel)) km_X0_init lkN_X8_24 rfl hl.1 rfl (Nat.le_of_ble_eq_true rfl) ⟨Nat.le_of_ble_eq_true rfl, Nat.le_of_ble_eq_true rfl⟩ ⟨Nat.le_of_ble_eq_true rfl, Nat.le_of_ble_eq_true rfl⟩ dX8_init_57) V (fun y110 h110 H locs P V => ?_)
  have M := pM.to (gW Z y110) rfl M
  refine ka_r (Z := (gW Z y110)) (o := 39) (t := 108) (ca := 15) Z rfl rfl (C := RX0) M V P (by decide) rfl (by decide) rfl (by decide) rfl pC0 (by decide +kernel) (pi_in (by decide)) dX8_init_60 (fun y111 h111 H locs P V => ?_)
  have M := pM.to (gW Z y111) rfl M
  refine lv_iinc (v := (34 : Int32)) (lv' := [(1, .int (34 : Int32)), (0, .ref (zB Z + 36))]) hx hb dX8_init_61 hl (k := 0) rfl (by decide) (by decide) rfl (fun ls hl => ?_)
  refine lv_goto (tgt := 42) hx hb dX8_init_64 (by decide) ?_
  refine lv_iload_n hx hb dX8_init_42 rfl (lv_at hl 0 rfl) ?_
  refine lv_bipush (v := 40) hx hb dX8_init_43 (by decide) ?_
  refine lv_icmp_ge (tgt := 67) hx hb dX8_init_45 (by decide) (fun c9 => absurd c9 (by decide)) (fun _ => ?_)
  refine lv_aload_n hx hb dX8_init_48 rfl (lv_at hl 1 rfl) ?_
  refine pg_r (Z := (gW Z y111)) M V 8 2 (P.is (by decide) rfl) pC8 fk8_2 (P.ref (o := 36) (k := 2) (t := 39) (by decide +kernel)) lkF_X8_20 dX8_init_49 ?_
  refine lv_iload_n hx hb dX8_init_52 rfl (lv_at hl 0 rfl) ?_
  refine kn_o (Z := (gW Z y111)) Z rfl rfl M V P hs (by omega) pC0 fd0 (by decide +kernel) lkC_X8_18 kI_0 ki_0 ⟨Nat.le_of_ble_eq_true rfl, Nat.le_of_ble_eq_true rfl⟩ dX8_init_53 (fun y112 h112 H P V => ?_)
  have M := pM.to (gW Z y112) rfl M
  refine lv_dup hx hb dX8_init_56 rfl ?_
  refine g_know (fun g0 => ?_)
  have z9 := mk_size V P hs g0 (by omega)
  refine kz_v (Z := (gW Z y112)) Z rfl rfl (nr_IN (Z := (gW Z y112)) M V hao z9 (m_X0_init l 110 P  (by decide) rfl (by decide +kernel) (by decide +kernel)) km_X0_init lkN_X8_24 rfl hl.1 rfl (Nat.le_of_ble_eq_true rfl) ⟨Nat.le_of_ble_eq_true rfl, Nat.le_of_ble_eq_true rfl⟩ ⟨Nat.le_of_ble_eq_true rfl, Nat.le_of_ble_eq_true rfl⟩ dX8_init_57) V (fun y113 h113 H locs P V => ?_)
  have M := pM.to (gW Z y113) rfl M
  refine ka_r (Z := (gW Z y113)) (o := 39) (t := 110) (ca := 15) Z rfl rfl (C := RX0) M V P (by decide) rfl (by decide) rfl (by decide) rfl pC0 (by decide +kernel) (pi_in (by decide)) dX8_init_60 (fun y114 h114 H locs P V => ?_)
  have M := pM.to (gW Z y114) rfl M
  refine lv_iinc (v := (35 : Int32)) (lv' := [(1, .int (35 : Int32)), (0, .ref (zB Z + 36))]) hx hb dX8_init_61 hl (k := 0) rfl (by decide) (by decide) rfl (fun ls hl => ?_)
  refine lv_goto (tgt := 42) hx hb dX8_init_64 (by decide) ?_
  refine lv_iload_n hx hb dX8_init_42 rfl (lv_at hl 0 rfl) ?_
  refine lv_bipush (v := 40) hx hb dX8_init_43 (by decide) ?_
  refine lv_icmp_ge (tgt := 67) hx hb dX8_init_45 (by decide) (fun c9 => absurd c9 (by decide)) (fun _ => ?_)
  refine lv_aload_n hx hb dX8_init_48 rfl (lv_at hl 1 rfl) ?_
  refine pg_r (Z := (gW Z y114)) M V 8 2 (P.is (by decide) rfl) pC8 fk8_2 (P.ref (o := 36) (k := 2) (t := 39) (by decide +kernel)) lkF_X8_20 dX8_init_49 ?_
  refine lv_iload_n hx hb dX8_init_52 rfl (lv_at hl 0 rfl) ?_
  refine kn_o (Z := (gW Z y114)) Z rfl rfl M V P hs (by omega) pC0 fd0 (by decide +kernel) lkC_X8_18 kI_0 ki_0 ⟨Nat.le_of_ble_eq_true rfl, Nat.le_of_ble_eq_true rfl⟩ dX8_init_53 (fun y115 h115 H P V => ?_)
  have M := pM.to (gW Z y115) rfl M
  refine lv_dup hx hb dX8_init_56 rfl ?_
  refine g_know (fun g0 => ?_)
  have z9 := mk_size V P hs g0 (by omega)
  refine kz_v (Z := (gW Z y115)) Z rfl rfl (nr_IN (Z := (gW Z y115)) M V hao z9 (m_X0_init l 112 P  (by decide) rfl (by decide +kernel) (by decide +kernel)) km_X0_init lkN_X8_24 rfl hl.1 rfl (Nat.le_of_ble_eq_true rfl) ⟨Nat.le_of_ble_eq_true rfl, Nat.le_of_ble_eq_true rfl⟩ ⟨Nat.le_of_ble_eq_true rfl, Nat.le_of_ble_eq_true rfl⟩ dX8_init_57) V (fun y116 h116 H locs P V => ?_)
  have M := pM.to (gW Z y116) rfl M
  refine ka_r (Z := (gW Z y116)) (o := 39) (t := 112) (ca := 15) Z rfl rfl (C := RX0) M V P (by decide) rfl (by decide) rfl (by decide) rfl pC0 (by decide +kernel) (pi_in (by decide)) dX8_init_60 (fun y117 h117 H locs P V => ?_)
  have M := pM.to (gW Z y117) rfl M
  refine lv_iinc (v := (36 : Int32)) (lv' := [(1, .int (36 : Int32)), (0, .ref (zB Z + 36))]) hx hb dX8_init_61 hl (k := 0) rfl (by decide) (by decide) rfl (fun ls hl => ?_)
  refine lv_goto (tgt := 42) hx hb dX8_init_64 (by decide) ?_
  refine lv_iload_n hx hb dX8_init_42 rfl (lv_at hl 0 rfl) ?_
  refine lv_bipush (v := 40) hx hb dX8_init_43 (by decide) ?_
  refine lv_icmp_ge (tgt := 67) hx hb dX8_init_45 (by decide) (fun c9 => absurd c9 (by decide)) (fun _ => ?_)
  refine lv_aload_n hx hb dX8_init_48 rfl (lv_at hl 1 rfl) ?_
  refine pg_r (Z := (gW Z y117)) M V 8 2 (P.is (by decide) rfl) pC8 fk8_2 (P.ref (o := 36) (k := 2) (t := 39) (by decide +kernel)) lkF_X8_20 dX8_init_49 ?_
  refine lv_iload_n hx hb dX8_init_52 rfl (lv_at hl 0 rfl) ?_
  refine kn_o (Z := (gW Z y117)) Z rfl rfl M V P hs (by omega) pC0 fd0 (by decide +kernel) lkC_X8_18 kI_0 ki_0 ⟨Nat.le_of_ble_eq_true rfl, Nat.le_of_ble_eq_true rfl⟩ dX8_init_53 (fun y118 h118 H P V => ?_)
  have M := pM.to (gW Z y118) rfl M
  refine lv_dup hx hb dX8_init_56 rfl ?_
  refine g_know (fun g0 => ?_)
  have z9 := mk_size V P hs g0 (by omega)
  refine kz_v (Z := (gW Z y118)) Z rfl rfl (nr_IN (Z := (gW Z y118)) M V hao z9 (m_X0_init l 114 P  (by decide) rfl (by decide +kernel) (by decide +kernel)) km_X0_init lkN_X8_24 rfl hl.1 rfl (Nat.le_of_ble_eq_true rfl) ⟨Nat.le_of_ble_eq_true rfl, Nat.le_of_ble_eq_true rfl⟩ ⟨Nat.le_of_ble_eq_true rfl, Nat.le_of_ble_eq_true rfl⟩ dX8_init_57) V (fun y119 h119 H locs P V => ?_)
  have M := pM.to (gW Z y119) rfl M
  refine ka_r (Z := (gW Z y119)) (o := 39) (t := 114) (ca := 15) Z rfl rfl (C := RX0) M V P (by decide) rfl (by decide) rfl (by decide) rfl pC0 (by decide +kernel) (pi_in (by decide)) dX8_init_60 (fun y120 h120 H locs P V => ?_)
  have M := pM.to (gW Z y120) rfl M
  refine lv_iinc (v := (37 : Int32)) (lv' := [(1, .int (37 : Int32)), (0, .ref (zB Z + 36))]) hx hb dX8_init_61 hl (k := 0) rfl (by decide) (by decide) rfl (fun ls hl => ?_)
  refine lv_goto (tgt := 42) hx hb dX8_init_64 (by decide) ?_
  refine lv_iload_n hx hb dX8_init_42 rfl (lv_at hl 0 rfl) ?_
  refine lv_bipush (v := 40) hx hb dX8_init_43 (by decide) ?_
  refine lv_icmp_ge (tgt := 67) hx hb dX8_init_45 (by decide) (fun c9 => absurd c9 (by decide)) (fun _ => ?_)
  refine lv_aload_n hx hb dX8_init_48 rfl (lv_at hl 1 rfl) ?_
  refine pg_r (Z := (gW Z y120)) M V 8 2 (P.is (by decide) rfl) pC8 fk8_2 (P.ref (o := 36) (k := 2) (t := 39) (by decide +kernel)) lkF_X8_20 dX8_init_49 ?_
  refine lv_iload_n hx hb dX8_init_52 rfl (lv_at hl 0 rfl) ?_
  refine kn_o (Z := (gW Z y120)) Z rfl rfl M V P hs (by omega) pC0 fd0 (by decide +kernel) lkC_X8_18 kI_0 ki_0 ⟨Nat.le_of_ble_eq_true rfl, Nat.le_of_ble_eq_true rfl⟩ dX8_init_53 (fun y121 h121 H P V => ?_)
  have M := pM.to (gW Z y121) rfl M
  refine lv_dup hx hb dX8_init_56 rfl ?_
  refine g_know (fun g0 => ?_)
  have z9 := mk_size V P hs g0 (by omega)
  refine kz_v (Z := (gW Z y121)) Z rfl rfl (nr_IN (Z := (gW Z y121)) M V hao z9 (m_X0_init l 116 P  (by decide) rfl (by decide +kernel) (by decide +kernel)) km_X0_init lkN_X8_24 rfl hl.1 rfl (Nat.le_of_ble_eq_true rfl) ⟨Nat.le_of_ble_eq_true rfl, Nat.le_of_ble_eq_true rfl⟩ ⟨Nat.le_of_ble_eq_true rfl, Nat.le_of_ble_eq_true rfl⟩ dX8_init_57) V (fun y122 h122 H locs P V => ?_)
  have M := pM.to (gW Z y122) rfl M
  refine ka_r (Z := (gW Z y122)) (o := 39) (t := 116) (ca := 15) Z rfl rfl (C := RX0) M V P (by decide) rfl (by decide) rfl (by decide) rfl pC0 (by decide +kernel) (pi_in (by decide)) dX8_init_60 (fun y123 h123 H locs P V => ?_)
  have M := pM.to (gW Z y123) rfl M
  refine lv_iinc (v := (38 : Int32)) (lv' := [(1, .int (38 : Int32)), (0, .ref (zB Z + 36))]) hx hb dX8_init_61 hl (k := 0) rfl (by decide) (by decide) rfl (fun ls hl => ?_)
  refine lv_goto (tgt := 42) hx hb dX8_init_64 (by decide) ?_
  refine lv_iload_n hx hb dX8_init_42 rfl (lv_at hl 0 rfl) ?_
  refine lv_bipush (v := 40) hx hb dX8_init_43 (by decide) ?_
  refine lv_icmp_ge (tgt := 67) hx hb dX8_init_45 (by decide) (fun c9 => absurd c9 (by decide)) (fun _ => ?_)
  refine lv_aload_n hx hb dX8_init_48 rfl (lv_at hl 1 rfl) ?_
  refine pg_r (Z := (gW Z y123)) M V 8 2 (P.is (by decide) rfl) pC8 fk8_2 (P.ref (o := 36) (k := 2) (t := 39) (by decide +kernel)) lkF_X8_20 dX8_init_49 ?_
  refine lv_iload_n hx hb dX8_init_52 rfl (lv_at hl 0 rfl) ?_
  refine kn_o (Z := (gW Z y123)) Z rfl rfl M V P hs (by omega) pC0 fd0 (by decide +kernel) lkC_X8_18 kI_0 ki_0 ⟨Nat.le_of_ble_eq_true rfl, Nat.le_of_ble_eq_true rfl⟩ dX8_init_53 (fun y124 h124 H P V => ?_)
  have M := pM.to (gW Z y124) rfl M
  refine lv_dup hx hb dX8_init_56 rfl ?_
  refine g_know (fun g0 => ?_)
  have z9 := mk_size V P hs g0 (by omega)
  refine kz_v (Z := (gW Z y124)) Z rfl rfl (nr_IN (Z := (gW Z y124)) M V hao z9 (m_X0_init l 118 P  (by decide) rfl (by decide +kernel) (by decide +kernel)) km_X0_init lkN_X8_24 rfl hl.1 rfl (Nat.le_of_ble_eq_true rfl) ⟨Nat.le_of_ble_eq_true rfl, Nat.le_of_ble_eq_true rfl⟩ ⟨Nat.le_of_ble_eq_true rfl, Nat.le_of_ble_eq_true rfl⟩ dX8_init_57) V (fun y125 h125 H locs P V => ?_)
  have M := pM.to (gW Z y125) rfl M
  refine ka_r (Z := (gW Z y125)) (o := 39) (t := 118) (ca := 15) Z rfl rfl (C := RX0) M V P (by decide) rfl (by decide) rfl (by decide) rfl pC0 (by decide +kernel) (pi_in (by decide)) dX8_init_60 (fun y126 h126 H locs P V => ?_)
  have M := pM.to (gW Z y126) rfl M
  refine lv_iinc (v := (39 : Int32)) (lv' := [(1, .int (39 : Int32)), (0, .ref (zB Z + 36))]) hx hb dX8_init_61 hl (k := 0) rfl (by decide) (by decide) rfl (fun ls hl => ?_)
  refine lv_goto (tgt := 42) hx hb dX8_init_64 (by decide) ?_
  refine lv_iload_n hx hb dX8_init_42 rfl (lv_at hl 0 rfl) ?_
  refine lv_bipush (v := 40) hx hb dX8_init_43 (by decide) ?_
  refine lv_icmp_ge (tgt := 67) hx hb dX8_init_45 (by decide) (fun c9 => absurd c9 (by decide)) (fun _ => ?_)
  refine lv_aload_n hx hb dX8_init_48 rfl (lv_at hl 1 rfl) ?_
  refine pg_r (Z := (gW Z y126)) M V 8 2 (P.is (by decide) rfl) pC8 fk8_2 (P.ref (o := 36) (k := 2) (t := 39) (by decide +kernel)) lkF_X8_20 dX8_init_49 ?_
  refine lv_iload_n hx hb dX8_init_52 rfl (lv_at hl 0 rfl) ?_
  refine kn_o (Z := (gW Z y126)) Z rfl rfl M V P hs (by omega) pC0 fd0 (by decide +kernel) lkC_X8_18 kI_0 ki_0 ⟨Nat.le_of_ble_eq_true rfl, Nat.le_of_ble_eq_true rfl⟩ dX8_init_53 (fun y127 h127 H P V => ?_)
  have M := pM.to (gW Z y127) rfl M
  refine lv_dup hx hb dX8_init_56 rfl ?_
  refine g_know (fun g0 => ?_)
  have z9 := mk_size V P hs g0 (by omega)
  refine kz_v (Z := (gW Z y127)) Z rfl rfl (nr_IN (Z := (gW Z y127)) M V hao z9 (m_X0_init l 120 P  (by decide) rfl (by decide +kernel) (by decide +kernel)) km_X0_init lkN_X8_24 rfl hl.1 rfl (Nat.le_of_ble_eq_true rfl) ⟨Nat.le_of_ble_eq_true rfl, Nat.le_of_ble_eq_true rfl⟩ ⟨Nat.le_of_ble_eq_true rfl, Nat.le_of_ble_eq_true rfl⟩ dX8_init_57) V (fun y128 h128 H locs P V => ?_)
  have M := pM.to (gW Z y128) rfl M
  refine ka_r (Z := (gW Z y128)) (o := 39) (t := 120) (ca := 15) Z rfl rfl (C := RX0) M V P (by decide) rfl (by decide) rfl (by decide) rfl pC0 (by decide +kernel) (pi_in (by decide)) dX8_init_60 (fun y129 h129 H locs P V => ?_)
  have M := pM.to (gW Z y129) rfl M
  refine lv_iinc (v := (40 : Int32)) (lv' := [(1, .int (40 : Int32)), (0, .ref (zB Z + 36))]) hx hb dX8_init_61 hl (k := 0) rfl (by decide) (by decide) rfl (fun ls hl => ?_)
  refine lv_goto (tgt := 42) hx hb dX8_init_64 (by decide) ?_
  refine lv_iload_n hx hb dX8_init_42 rfl (lv_at hl 0 rfl) ?_
  refine lv_bipush (v := 40) hx hb dX8_init_43 (by decide) ?_
  refine lv_icmp_ge (tgt := 67) hx hb dX8_init_45 (by decide) (fun _ => ?_) (fun c9 => absurd (show _ from by decide) c9)
  exact pe_v (Z := Z) (Z' := (gW Z y129)) M V rfl rfl hr hlk P ⟨Nat.le_of_ble_eq_true rfl, Nat.le_of_ble_eq_true rfl⟩ dX8_init_67
theorem dX10_init_0 : decode cX10_init 0 = .ok (.aload_n 0, 1) := by decide +kernel
theorem dX10_init_1 : decode cX10_init 1 = .ok (.invokespecial 3, 3) := by decide +kernel
theorem dX10_init_4 : decode cX10_init 4 = .ok (.aload_n 0, 1) := by decide +kernel
theorem dX10_init_5 : decode cX10_init 5 = .ok (.bipush 40, 2) := by decide +kernel
theorem dX10_init_7 : decode cX10_init 7 = .ok (.newarray .int, 2) := by decide +kernel
theorem dX10_init_9 : decode cX10_init 9 = .ok (.putfield 11, 3) := by decide +kernel
theorem dX10_init_12 : decode cX10_init 12 = .ok (.aload_n 0, 1) := by decide +kernel
theorem dX10_init_13 : decode cX10_init 13 = .ok (.bipush 40, 2) := by decide +kernel
theorem dX10_init_15 : decode cX10_init 15 = .ok (.newarray .int, 2) := by decide +kernel
theorem dX10_init_17 : decode cX10_init 17 = .ok (.putfield 15, 3) := by decide +kernel
theorem dX10_init_20 : decode cX10_init 20 = .ok (.aload_n 0, 1) := by decide +kernel
theorem dX10_init_21 : decode cX10_init 21 = .ok (.bipush 40, 2) := by decide +kernel
theorem dX10_init_23 : decode cX10_init 23 = .ok (.newarray .int, 2) := by decide +kernel
theorem dX10_init_25 : decode cX10_init 25 = .ok (.putfield 18, 3) := by decide +kernel
theorem dX10_init_28 : decode cX10_init 28 = .ok (.aload_n 0, 1) := by decide +kernel
theorem dX10_init_29 : decode cX10_init 29 = .ok (.bipush 40, 2) := by decide +kernel
theorem dX10_init_31 : decode cX10_init 31 = .ok (.newarray .int, 2) := by decide +kernel
theorem dX10_init_33 : decode cX10_init 33 = .ok (.putfield 21, 3) := by decide +kernel
theorem dX10_init_36 : decode cX10_init 36 = .ok (.aload_n 0, 1) := by decide +kernel
theorem dX10_init_37 : decode cX10_init 37 = .ok (.sipush 480, 3) := by decide +kernel
theorem dX10_init_40 : decode cX10_init 40 = .ok (.newarray .int, 2) := by decide +kernel
theorem dX10_init_42 : decode cX10_init 42 = .ok (.putfield 24, 3) := by decide +kernel
theorem dX10_init_45 : decode cX10_init 45 = .ok (.return_, 1) := by decide +kernel
set_option maxHeartbeats 4000000 in
set_option maxRecDepth 100000 in
theorem m_X10_init (l : Launch) {Z : pZ} {h : pH} (P : pMk 124 122 21 Z h) : nMet l yX10_init cX10_init 1 1 5 640 20 124 Z h [.ref (zB Z + 123)] (pQv Z (fun Z1 h1 => pMk (129) (127) (21) Z1 h1)) := by
  refine nOfW (lv := [(0, .ref (zB Z + 123))]) (by decide) (Nat.le_of_ble_eq_true rfl) rfl ?_
  intro p e s m below meth c ls M hr hlk hnm V hl hs hao
  have hx := M.1.1
  have hb := M.1.2.1
  refine lv_aload_n hx hb dX10_init_0 rfl (lv_at hl 0 rfl) ?_
  refine ko_I (Z := Z) M hl.1 lkO_X10 kO_init ⟨Nat.le_of_ble_eq_true rfl, Nat.le_of_ble_eq_true rfl⟩ dX10_init_1 ?_
  refine lv_aload_n hx hb dX10_init_4 rfl (lv_at hl 0 rfl) ?_
  refine lv_bipush (v := 40) hx hb dX10_init_5 (by decide) ?_
  refine kn_a (Z := Z) Z rfl rfl M V P hs (by omega) (ci := 13) (N := 40) (Or.inl ⟨rfl, rfl⟩) kA_int (by decide +kernel) (by decide) (by decide) (by decide) ⟨Nat.le_of_ble_eq_true rfl, Nat.le_of_ble_eq_true rfl⟩ dX10_init_7 (fun y1 h1 H P V => ?_)
  have M := pM.to (gW Z y1) rfl M
  refine kp_r (Z := (gW Z y1)) (o := 123) (t := 124) Z rfl rfl M V P 10 0 (by decide) rfl pC10 fk10_0 (by decide +kernel) (Or.inr ⟨hnm, rfl, rfl⟩) lkF_X10_11 (fun a => ⟨rfl, rfl⟩) dX10_init_9 (fun y2 h2 H locs P V => ?_)
  have M := pM.to (gW Z y2) rfl M
  refine lv_aload_n hx hb dX10_init_12 rfl (lv_at hl 0 rfl) ?_
  refine lv_bipush (v := 40) hx hb dX10_init_13 (by decide) ?_
  refine kn_a (Z := (gW Z y2)) Z rfl rfl M V P hs (by omega) (ci := 13) (N := 40) (Or.inl ⟨rfl, rfl⟩) kA_int (by decide +kernel) (by decide) (by decide) (by decide) ⟨Nat.le_of_ble_eq_true rfl, Nat.le_of_ble_eq_true rfl⟩ dX10_init_15 (fun y3 h3 H P V => ?_)
  have M := pM.to (gW Z y3) rfl M
  refine kp_r (Z := (gW Z y3)) (o := 123) (t := 125) Z rfl rfl M V P 10 1 (by decide) rfl pC10 fk10_1 (by decide +kernel) (Or.inr ⟨hnm, rfl, rfl⟩) lkF_X10_15 (fun a => ⟨rfl, rfl⟩) dX10_init_17 (fun y4 h4 H locs P V => ?_)
  have M := pM.to (gW Z y4) rfl M
  refine lv_aload_n hx hb dX10_init_20 rfl (lv_at hl 0 rfl) ?_
  refine lv_bipush (v := 40) hx hb dX10_init_21 (by decide) ?_
  refine kn_a (Z := (gW Z y4)) Z rfl rfl M V P hs (by omega) (ci := 13) (N := 40) (Or.inl ⟨rfl, rfl⟩) kA_int (by decide +kernel) (by decide) (by decide) (by decide) ⟨Nat.le_of_ble_eq_true rfl, Nat.le_of_ble_eq_true rfl⟩ dX10_init_23 (fun y5 h5 H P V => ?_)
  have M := pM.to (gW Z y5) rfl M
  refine kp_r (Z := (gW Z y5)) (o := 123) (t := 126) Z rfl rfl M V P 10 2 (by decide) rfl pC10 fk10_2 (by decide +kernel) (Or.inr ⟨hnm, rfl, rfl⟩) lkF_X10_18 (fun a => ⟨rfl, rfl⟩) dX10_init_25 (fun y6 h6 H locs P V => ?_)
  have M := pM.to (gW Z y6) rfl M
  refine lv_aload_n hx hb dX10_init_28 rfl (lv_at hl 0 rfl) ?_
  refine lv_bipush (v := 40) hx hb dX10_init_29 (by decide) ?_
  refine kn_a (Z := (gW Z y6)) Z rfl rfl M V P hs (by omega) (ci := 13) (N := 40) (Or.inl ⟨rfl, rfl⟩) kA_int (by decide +kernel) (by decide) (by decide) (by decide) ⟨Nat.le_of_ble_eq_true rfl, Nat.le_of_ble_eq_true rfl⟩ dX10_init_31 (fun y7 h7 H P V => ?_)
  have M := pM.to (gW Z y7) rfl M
  refine kp_r (Z := (gW Z y7)) (o := 123) (t := 127) Z rfl rfl M V P 10 3 (by decide) rfl pC10 fk10_3 (by decide +kernel) (Or.inr ⟨hnm, rfl, rfl⟩) lkF_X10_21 (fun a => ⟨rfl, rfl⟩) dX10_init_33 (fun y8 h8 H locs P V => ?_)
  have M := pM.to (gW Z y8) rfl M
  refine lv_aload_n hx hb dX10_init_36 rfl (lv_at hl 0 rfl) ?_
  refine lv_sipush (v := 480) hx hb dX10_init_37 (by decide) ?_
  refine kn_a (Z := (gW Z y8)) Z rfl rfl M V P hs (by omega) (ci := 13) (N := 480) (Or.inl ⟨rfl, rfl⟩) kA_int (by decide +kernel) (by decide) (by decide) (by decide) ⟨Nat.le_of_ble_eq_true rfl, Nat.le_of_ble_eq_true rfl⟩ dX10_init_40 (fun y9 h9 H P V => ?_)
  have M := pM.to (gW Z y9) rfl M
  refine kp_r (Z := (gW Z y9)) (o := 123) (t := 128) Z rfl rfl M V P 10 4 (by decide) rfl pC10 fk10_4 (by decide +kernel) (Or.inr ⟨hnm, rfl, rfl⟩) lkF_X10_24 (fun a => ⟨rfl, rfl⟩) dX10_init_42 (fun y10 h10 H locs P V => ?_)
  have M := pM.to (gW Z y10) rfl M
  exact pe_v (Z := Z) (Z' := (gW Z y10)) M V rfl rfl hr hlk P ⟨Nat.le_of_ble_eq_true rfl, Nat.le_of_ble_eq_true rfl⟩ dX10_init_45
theorem dX11_init_0 : decode cX11_init 0 = .ok (.aload_n 0, 1) := by decide +kernel
theorem dX11_init_1 : decode cX11_init 1 = .ok (.invokespecial 1, 3) := by decide +kernel
theorem dX11_init_4 : decode cX11_init 4 = .ok (.aload_n 0, 1) := by decide +kernel
theorem dX11_init_5 : decode cX11_init 5 = .ok (.new 7, 3) := by decide +kernel
theorem dX11_init_8 : decode cX11_init 8 = .ok (.dup, 1) := by decide +kernel
theorem dX11_init_9 : decode cX11_init 9 = .ok (.invokespecial 9, 3) := by decide +kernel
theorem dX11_init_12 : decode cX11_init 12 = .ok (.putfield 10, 3) := by decide +kernel
theorem dX11_init_15 : decode cX11_init 15 = .ok (.aload_n 0, 1) := by decide +kernel
theorem dX11_init_16 : decode cX11_init 16 = .ok (.new 16, 3) := by decide +kernel
theorem dX11_init_19 : decode cX11_init 19 = .ok (.dup, 1) := by decide +kernel
theorem dX11_init_20 : decode cX11_init 20 = .ok (.invokespecial 18, 3) := by decide +kernel
theorem dX11_init_23 : decode cX11_init 23 = .ok (.putfield 19, 3) := by decide +kernel
theorem dX11_init_26 : decode cX11_init 26 = .ok (.aload_n 0, 1) := by decide +kernel
theorem dX11_init_27 : decode cX11_init 27 = .ok (.new 23, 3) := by decide +kernel
theorem dX11_init_30 : decode cX11_init 30 = .ok (.dup, 1) := by decide +kernel
theorem dX11_init_31 : decode cX11_init 31 = .ok (.invokespecial 25, 3) := by decide +kernel
theorem dX11_init_34 : decode cX11_init 34 = .ok (.putfield 26, 3) := by decide +kernel
theorem dX11_init_37 : decode cX11_init 37 = .ok (.aload_n 0, 1) := by decide +kernel
theorem dX11_init_38 : decode cX11_init 38 = .ok (.new 30, 3) := by decide +kernel
theorem dX11_init_41 : decode cX11_init 41 = .ok (.dup, 1) := by decide +kernel
theorem dX11_init_42 : decode cX11_init 42 = .ok (.invokespecial 32, 3) := by decide +kernel
theorem dX11_init_45 : decode cX11_init 45 = .ok (.putfield 33, 3) := by decide +kernel
theorem dX11_init_48 : decode cX11_init 48 = .ok (.aload_n 0, 1) := by decide +kernel
theorem dX11_init_49 : decode cX11_init 49 = .ok (.new 37, 3) := by decide +kernel
theorem dX11_init_52 : decode cX11_init 52 = .ok (.dup, 1) := by decide +kernel
theorem dX11_init_53 : decode cX11_init 53 = .ok (.invokespecial 39, 3) := by decide +kernel
theorem dX11_init_56 : decode cX11_init 56 = .ok (.putfield 40, 3) := by decide +kernel
theorem dX11_init_59 : decode cX11_init 59 = .ok (.aload_n 0, 1) := by decide +kernel
theorem dX11_init_60 : decode cX11_init 60 = .ok (.new 44, 3) := by decide +kernel
theorem dX11_init_63 : decode cX11_init 63 = .ok (.dup, 1) := by decide +kernel
theorem dX11_init_64 : decode cX11_init 64 = .ok (.invokespecial 46, 3) := by decide +kernel
theorem dX11_init_67 : decode cX11_init 67 = .ok (.putfield 47, 3) := by decide +kernel
theorem dX11_init_70 : decode cX11_init 70 = .ok (.aload_n 0, 1) := by decide +kernel
theorem dX11_init_71 : decode cX11_init 71 = .ok (.new 51, 3) := by decide +kernel
theorem dX11_init_74 : decode cX11_init 74 = .ok (.dup, 1) := by decide +kernel
theorem dX11_init_75 : decode cX11_init 75 = .ok (.invokespecial 53, 3) := by decide +kernel
theorem dX11_init_78 : decode cX11_init 78 = .ok (.putfield 54, 3) := by decide +kernel
theorem dX11_init_81 : decode cX11_init 81 = .ok (.aload_n 0, 1) := by decide +kernel
theorem dX11_init_82 : decode cX11_init 82 = .ok (.new 51, 3) := by decide +kernel
theorem dX11_init_85 : decode cX11_init 85 = .ok (.dup, 1) := by decide +kernel
theorem dX11_init_86 : decode cX11_init 86 = .ok (.invokespecial 53, 3) := by decide +kernel
theorem dX11_init_89 : decode cX11_init 89 = .ok (.putfield 58, 3) := by decide +kernel
theorem dX11_init_92 : decode cX11_init 92 = .ok (.aload_n 0, 1) := by decide +kernel
theorem dX11_init_93 : decode cX11_init 93 = .ok (.new 61, 3) := by decide +kernel
theorem dX11_init_96 : decode cX11_init 96 = .ok (.dup, 1) := by decide +kernel
theorem dX11_init_97 : decode cX11_init 97 = .ok (.invokespecial 63, 3) := by decide +kernel
theorem dX11_init_100 : decode cX11_init 100 = .ok (.putfield 64, 3) := by decide +kernel
theorem dX11_init_103 : decode cX11_init 103 = .ok (.aload_n 0, 1) := by decide +kernel
theorem dX11_init_104 : decode cX11_init 104 = .ok (.new 61, 3) := by decide +kernel
theorem dX11_init_107 : decode cX11_init 107 = .ok (.dup, 1) := by decide +kernel
theorem dX11_init_108 : decode cX11_init 108 = .ok (.invokespecial 63, 3) := by decide +kernel
theorem dX11_init_111 : decode cX11_init 111 = .ok (.putfield 68, 3) := by decide +kernel
theorem dX11_init_114 : decode cX11_init 114 = .ok (.return_, 1) := by decide +kernel
set_option maxHeartbeats 4000000 in
set_option maxRecDepth 100000 in
theorem m_X11_init (l : Launch) {Z : pZ} {h : pH} (P : pMk 1 0 0 Z h) : nMet l yX11_init cX11_init 1 4 136 2824 81 1 Z h [.ref (zB Z + 0)] (pQv Z (fun Z1 h1 => pMk (137) (136) (21) Z1 h1)) := by
  refine nOfW (lv := [(0, .ref (zB Z + 0))]) (by decide) (Nat.le_of_ble_eq_true rfl) rfl ?_
  intro p e s m below meth c ls M hr hlk hnm V hl hs hao
  have hx := M.1.1
  have hb := M.1.2.1
  refine lv_aload_n hx hb dX11_init_0 rfl (lv_at hl 0 rfl) ?_
  refine ko_I (Z := Z) M hl.1 lkO_X11 kO_init ⟨Nat.le_of_ble_eq_true rfl, Nat.le_of_ble_eq_true rfl⟩ dX11_init_1 ?_
  refine lv_aload_n hx hb dX11_init_4 rfl (lv_at hl 0 rfl) ?_
  refine kn_o (Z := Z) Z rfl rfl M V P hs (by omega) pC5 fd5 (by decide +kernel) lkC_X11_7 kI_5 ki_5 ⟨Nat.le_of_ble_eq_true rfl, Nat.le_of_ble_eq_true rfl⟩ dX11_init_5 (fun y1 h1 H P V => ?_)
  have M := pM.to (gW Z y1) rfl M
  refine lv_dup hx hb dX11_init_8 rfl ?_
  refine g_know (fun g0 => ?_)
  have z9 := mk_size V P hs g0 (by omega)
  refine kz_v (Z := (gW Z y1)) Z rfl rfl (nr_IN (Z := (gW Z y1)) M V hao z9 (m_X5_init l P) km_X5_init lkN_X11_9 rfl hl.1 rfl (Nat.le_of_ble_eq_true rfl) ⟨Nat.le_of_ble_eq_true rfl, Nat.le_of_ble_eq_true rfl⟩ ⟨Nat.le_of_ble_eq_true rfl, Nat.le_of_ble_eq_true rfl⟩ dX11_init_9) V (fun y2 h2 H locs P V => ?_)
  have M := pM.to (gW Z y2) rfl M
  refine kp_r (Z := (gW Z y2)) (o := 0) (t := 1) Z rfl rfl M V P 11 0 (by decide) rfl pC11 fk11_0 (by decide +kernel) (Or.inr ⟨hnm, rfl, rfl⟩) lkF_X11_10 (fun a => ⟨rfl, rfl⟩) dX11_init_12 (fun y3 h3 H locs P V => ?_)
  have M := pM.to (gW Z y3) rfl M
  refine lv_aload_n hx hb dX11_init_15 rfl (lv_at hl 0 rfl) ?_
  refine kn_o (Z := (gW Z y3)) Z rfl rfl M V P hs (by omega) pC3 fd3 (by decide +kernel) lkC_X11_16 kI_3 ki_3 ⟨Nat.le_of_ble_eq_true rfl, Nat.le_of_ble_eq_true rfl⟩ dX11_init_16 (fun y4 h4 H P V => ?_)
  have M := pM.to (gW Z y4) rfl M
  refine lv_dup hx hb dX11_init_19 rfl ?_
  refine g_know (fun g0 => ?_)
  have z9 := mk_size V P hs g0 (by omega)
  refine kz_v (Z := (gW Z y4)) Z rfl rfl (nr_I (Z := (gW Z y4)) M V hao z9 (m_X3_init l P) km_X3_init lkM_X11_18 rfl hl.1 rfl (Nat.le_of_ble_eq_true rfl) ⟨Nat.le_of_ble_eq_true rfl, Nat.le_of_ble_eq_true rfl⟩ ⟨Nat.le_of_ble_eq_true rfl, Nat.le_of_ble_eq_true rfl⟩ dX11_init_20) V (fun y5 h5 H locs P V => ?_)
  have M := pM.to (gW Z y5) rfl M
  refine kp_r (Z := (gW Z y5)) (o := 0) (t := 10) Z rfl rfl M V P 11 1 (by decide) rfl pC11 fk11_1 (by decide +kernel) (Or.inr ⟨hnm, rfl, rfl⟩) lkF_X11_19 (fun a => ⟨rfl, rfl⟩) dX11_init_23 (fun y6 h6 H locs P V => ?_)
  have M := pM.to (gW Z y6) rfl M
  refine lv_aload_n hx hb dX11_init_26 rfl (lv_at hl 0 rfl) ?_
  refine kn_o (Z := (gW Z y6)) Z rfl rfl M V P hs (by omega) pC6 fd6 (by decide +kernel) lkC_X11_23 kI_6 ki_6 ⟨Nat.le_of_ble_eq_true rfl, Nat.le_of_ble_eq_true rfl⟩ dX11_init_27 (fun y7 h7 H P V => ?_)
  have M := pM.to (gW Z y7) rfl M
  refine lv_dup hx hb dX11_init_30 rfl ?_
  refine g_know (fun g0 => ?_)
  have z9 := mk_size V P hs g0 (by omega)
  refine kz_v (Z := (gW Z y7)) Z rfl rfl (nr_I (Z := (gW Z y7)) M V hao z9 (m_X6_init l P) km_X6_init lkM_X11_25 rfl hl.1 rfl (Nat.le_of_ble_eq_true rfl) ⟨Nat.le_of_ble_eq_true rfl, Nat.le_of_ble_eq_true rfl⟩ ⟨Nat.le_of_ble_eq_true rfl, Nat.le_of_ble_eq_true rfl⟩ dX11_init_31) V (fun y8 h8 H locs P V => ?_)
  have M := pM.to (gW Z y8) rfl M
  refine kp_r (Z := (gW Z y8)) (o := 0) (t := 22) Z rfl rfl M V P 11 2 (by decide) rfl pC11 fk11_2 (by decide +kernel) (Or.inr ⟨hnm, rfl, rfl⟩) lkF_X11_26 (fun a => ⟨rfl, rfl⟩) dX11_init_34 (fun y9 h9 H locs P V => ?_)
  have M := pM.to (gW Z y9) rfl M
  refine lv_aload_n hx hb dX11_init_37 rfl (lv_at hl 0 rfl) ?_
  refine kn_o (Z := (gW Z y9)) Z rfl rfl M V P hs (by omega) pC8 fd8 (by decide +kernel) lkC_X11_30 kI_8 ki_8 ⟨Nat.le_of_ble_eq_true rfl, Nat.le_of_ble_eq_true rfl⟩ dX11_init_38 (fun y10 h10 H P V => ?_)
  have M := pM.to (gW Z y10) rfl M
  refine lv_dup hx hb dX11_init_41 rfl ?_
  refine g_know (fun g0 => ?_)
  have z9 := mk_size V P hs g0 (by omega)
  refine kz_v (Z := (gW Z y10)) Z rfl rfl (nr_I (Z := (gW Z y10)) M V hao z9 (m_X8_init l P) km_X8_init lkM_X11_32 rfl hl.1 rfl (Nat.le_of_ble_eq_true rfl) ⟨Nat.le_of_ble_eq_true rfl, Nat.le_of_ble_eq_true rfl⟩ ⟨Nat.le_of_ble_eq_true rfl, Nat.le_of_ble_eq_true rfl⟩ dX11_init_42) V (fun y11 h11 H locs P V => ?_)
  have M := pM.to (gW Z y11) rfl M
  refine kp_r (Z := (gW Z y11)) (o := 0) (t := 36) Z rfl rfl M V P 11 3 (by decide) rfl pC11 fk11_3 (by decide +kernel) (Or.inr ⟨hnm, rfl, rfl⟩) lkF_X11_33 (fun a => ⟨rfl, rfl⟩) dX11_init_45 (fun y12 h12 H locs P V => ?_)
  have M := pM.to (gW Z y12) rfl M
  refine lv_aload_n hx hb dX11_init_48 rfl (lv_at hl 0 rfl) ?_
  refine kn_o (Z := (gW Z y12)) Z rfl rfl M V P hs (by omega) pC1 fd1 (by decide +kernel) lkC_X11_37 kI_1 ki_1 ⟨Nat.le_of_ble_eq_true rfl, Nat.le_of_ble_eq_true rfl⟩ dX11_init_49 (fun y13 h13 H P V => ?_)
  have M := pM.to (gW Z y13) rfl M
  refine lv_dup hx hb dX11_init_52 rfl ?_
  refine g_know (fun g0 => ?_)
  have z9 := mk_size V P hs g0 (by omega)
  refine kz_v (Z := (gW Z y13)) Z rfl rfl (nr_IN (Z := (gW Z y13)) M V hao z9 (m_X1_init l 122 P ) km_X1_init lkN_X11_39 rfl hl.1 rfl (Nat.le_of_ble_eq_true rfl) ⟨Nat.le_of_ble_eq_true rfl, Nat.le_of_ble_eq_true rfl⟩ ⟨Nat.le_of_ble_eq_true rfl, Nat.le_of_ble_eq_true rfl⟩ dX11_init_53) V (fun y14 h14 H locs P V => ?_)
  have M := pM.to (gW Z y14) rfl M
  refine kp_r (Z := (gW Z y14)) (o := 0) (t := 122) Z rfl rfl M V P 11 4 (by decide) rfl pC11 fk11_4 (by decide +kernel) (Or.inr ⟨hnm, rfl, rfl⟩) lkF_X11_40 (fun a => ⟨rfl, rfl⟩) dX11_init_56 (fun y15 h15 H locs P V => ?_)
  have M := pM.to (gW Z y15) rfl M
  refine lv_aload_n hx hb dX11_init_59 rfl (lv_at hl 0 rfl) ?_
  refine kn_o (Z := (gW Z y15)) Z rfl rfl M V P hs (by omega) pC10 fd10 (by decide +kernel) lkC_X11_44 kI_10 ki_10 ⟨Nat.le_of_ble_eq_true rfl, Nat.le_of_ble_eq_true rfl⟩ dX11_init_60 (fun y16 h16 H P V => ?_)
  have M := pM.to (gW Z y16) rfl M
  refine lv_dup hx hb dX11_init_63 rfl ?_
  refine g_know (fun g0 => ?_)
  have z9 := mk_size V P hs g0 (by omega)
  refine kz_v (Z := (gW Z y16)) Z rfl rfl (nr_IN (Z := (gW Z y16)) M V hao z9 (m_X10_init l P) km_X10_init lkN_X11_46 rfl hl.1 rfl (Nat.le_of_ble_eq_true rfl) ⟨Nat.le_of_ble_eq_true rfl, Nat.le_of_ble_eq_true rfl⟩ ⟨Nat.le_of_ble_eq_true rfl, Nat.le_of_ble_eq_true rfl⟩ dX11_init_64) V (fun y17 h17 H locs P V => ?_)
  have M := pM.to (gW Z y17) rfl M
  refine kp_r (Z := (gW Z y17)) (o := 0) (t := 123) Z rfl rfl M V P 11 5 (by decide) rfl pC11 fk11_5 (by decide +kernel) (Or.inr ⟨hnm, rfl, rfl⟩) lkF_X11_47 (fun a => ⟨rfl, rfl⟩) dX11_init_67 (fun y18 h18 H locs P V => ?_)
  have M := pM.to (gW Z y18) rfl M
  refine lv_aload_n hx hb dX11_init_70 rfl (lv_at hl 0 rfl) ?_
  refine kn_o (Z := (gW Z y18)) Z rfl rfl M V P hs (by omega) pC9 fd9 (by decide +kernel) lkC_X11_51 kI_9 ki_9 ⟨Nat.le_of_ble_eq_true rfl, Nat.le_of_ble_eq_true rfl⟩ dX11_init_71 (fun y19 h19 H P V => ?_)
  have M := pM.to (gW Z y19) rfl M
  refine lv_dup hx hb dX11_init_74 rfl ?_
  refine g_know (fun g0 => ?_)
  have z9 := mk_size V P hs g0 (by omega)
  refine kz_v (Z := (gW Z y19)) Z rfl rfl (nr_IN (Z := (gW Z y19)) M V hao z9 (m_X9_init l 129 P  (by decide) rfl (by decide +kernel) (by decide +kernel) (by decide +kernel) (by decide +kernel)) km_X9_init lkN_X11_53 rfl hl.1 rfl (Nat.le_of_ble_eq_true rfl) ⟨Nat.le_of_ble_eq_true rfl, Nat.le_of_ble_eq_true rfl⟩ ⟨Nat.le_of_ble_eq_true rfl, Nat.le_of_ble_eq_true rfl⟩ dX11_init_75) V (fun y20 h20 H locs P V => ?_)
  have M := pM.to (gW Z y20) rfl M
  refine kp_r (Z := (gW Z y20)) (o := 0) (t := 129) Z rfl rfl M V P 11 6 (by decide) rfl pC11 fk11_6 (by decide +kernel) (Or.inr ⟨hnm, rfl, rfl⟩) lkF_X11_54 (fun a => ⟨rfl, rfl⟩) dX11_init_78 (fun y21 h21 H locs P V => ?_)
  have M := pM.to (gW Z y21) rfl M
  refine lv_aload_n hx hb dX11_init_81 rfl (lv_at hl 0 rfl) ?_
  refine kn_o (Z := (gW Z y21)) Z rfl rfl M V P hs (by omega) pC9 fd9 (by decide +kernel) lkC_X11_51 kI_9 ki_9 ⟨Nat.le_of_ble_eq_true rfl, Nat.le_of_ble_eq_true rfl⟩ dX11_init_82 (fun y22 h22 H P V => ?_)
  have M := pM.to (gW Z y22) rfl M
  refine lv_dup hx hb dX11_init_85 rfl ?_
  refine g_know (fun g0 => ?_)
  have z9 := mk_size V P hs g0 (by omega)
  refine kz_v (Z := (gW Z y22)) Z rfl rfl (nr_IN (Z := (gW Z y22)) M V hao z9 (m_X9_init l 132 P  (by decide) rfl (by decide +kernel) (by decide +kernel) (by decide +kernel) (by decide +kernel)) km_X9_init lkN_X11_53 rfl hl.1 rfl (Nat.le_of_ble_eq_true rfl) ⟨Nat.le_of_ble_eq_true rfl, Nat.le_of_ble_eq_true rfl⟩ ⟨Nat.le_of_ble_eq_true rfl, Nat.le_of_ble_eq_true rfl⟩ dX11_init_86) V (fun y23 h23 H locs P V => ?_)
  have M := pM.to (gW Z y23) rfl M
  refine kp_r (Z := (gW Z y23)) (o := 0) (t := 132) Z rfl rfl M V P 11 7 (by decide) rfl pC11 fk11_7 (by decide +kernel) (Or.inr ⟨hnm, rfl, rfl⟩) lkF_X11_58 (fun a => ⟨rfl, rfl⟩) dX11_init_89 (fun y24 h24 H locs P V => ?_)
  have M := pM.to (gW Z y24) rfl M
  refine lv_aload_n hx hb dX11_init_92 rfl (lv_at hl 0 rfl) ?_
  refine kn_o (Z := (gW Z y24)) Z rfl rfl M V P hs (by omega) pC2 fd2 (by decide +kernel) lkC_X11_61 kI_2 ki_2 ⟨Nat.le_of_ble_eq_true rfl, Nat.le_of_ble_eq_true rfl⟩ dX11_init_93 (fun y25 h25 H P V => ?_)
  have M := pM.to (gW Z y25) rfl M
  refine lv_dup hx hb dX11_init_96 rfl ?_
  refine g_know (fun g0 => ?_)
  have z9 := mk_size V P hs g0 (by omega)
  refine kz_v (Z := (gW Z y25)) Z rfl rfl (nr_IN (Z := (gW Z y25)) M V hao z9 (m_X2_init l 135 P ) km_X2_init lkN_X11_63 rfl hl.1 rfl (Nat.le_of_ble_eq_true rfl) ⟨Nat.le_of_ble_eq_true rfl, Nat.le_of_ble_eq_true rfl⟩ ⟨Nat.le_of_ble_eq_true rfl, Nat.le_of_ble_eq_true rfl⟩ dX11_init_97) V (fun y26 h26 H locs P V => ?_)
  have M := pM.to (gW Z y26) rfl M
  refine kp_r (Z := (gW Z y26)) (o := 0) (t := 135) Z rfl rfl M V P 11 8 (by decide) rfl pC11 fk11_8 (by decide +kernel) (Or.inr ⟨hnm, rfl, rfl⟩) lkF_X11_64 (fun a => ⟨rfl, rfl⟩) dX11_init_100 (fun y27 h27 H locs P V => ?_)
  have M := pM.to (gW Z y27) rfl M
  refine lv_aload_n hx hb dX11_init_103 rfl (lv_at hl 0 rfl) ?_
  refine kn_o (Z := (gW Z y27)) Z rfl rfl M V P hs (by omega) pC2 fd2 (by decide +kernel) lkC_X11_61 kI_2 ki_2 ⟨Nat.le_of_ble_eq_true rfl, Nat.le_of_ble_eq_true rfl⟩ dX11_init_104 (fun y28 h28 H P V => ?_)
  have M := pM.to (gW Z y28) rfl M
  refine lv_dup hx hb dX11_init_107 rfl ?_
  refine g_know (fun g0 => ?_)
  have z9 := mk_size V P hs g0 (by omega)
  refine kz_v (Z := (gW Z y28)) Z rfl rfl (nr_IN (Z := (gW Z y28)) M V hao z9 (m_X2_init l 136 P ) km_X2_init lkN_X11_63 rfl hl.1 rfl (Nat.le_of_ble_eq_true rfl) ⟨Nat.le_of_ble_eq_true rfl, Nat.le_of_ble_eq_true rfl⟩ ⟨Nat.le_of_ble_eq_true rfl, Nat.le_of_ble_eq_true rfl⟩ dX11_init_108) V (fun y29 h29 H locs P V => ?_)
  have M := pM.to (gW Z y29) rfl M
  refine kp_r (Z := (gW Z y29)) (o := 0) (t := 136) Z rfl rfl M V P 11 9 (by decide) rfl pC11 fk11_9 (by decide +kernel) (Or.inr ⟨hnm, rfl, rfl⟩) lkF_X11_68 (fun a => ⟨rfl, rfl⟩) dX11_init_111 (fun y30 h30 H locs P V => ?_)
  have M := pM.to (gW Z y30) rfl M
  exact pe_v (Z := Z) (Z' := (gW Z y30)) M V rfl rfl hr hlk P ⟨Nat.le_of_ble_eq_true rfl, Nat.le_of_ble_eq_true rfl⟩ dX11_init_114
