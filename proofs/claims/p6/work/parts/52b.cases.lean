set_option maxHeartbeats 4000000 in
set_option maxRecDepth 100000 in
theorem lc_15 {p : Program} {l : Launch} {e : Env} {s : State} {m : MethodId} {below : List Frame} {meth : Method} {c : Code} {b L : Nat} {xs : Nat → Int32} {Z : pZ} {Q : State → Prop} (hl9 : l.stackTraces = false) (M : pM Z.1 p s m #[Value.ref b] c cL_law 7 RL) (X : pXS (zB Z) s) (hX : va_X b L xs s s.heap) (hbl : b < s.heap.size) (hbA : ¬ pA (zB Z) b) (hL : L ≤ 384) {t : Nat} (ht : t < 64) {y : pY} {h : pH} {H : Heap} {locs : List Loc} {ls : Array Slot} {i : Int32} (hi : i.toInt = 6 * (t : Int)) (hiL : i.toInt + 6 ≤ (L : Int)) (J : lI t (gW Z y) h) (V : pV (gW Z y) h s.heap H locs) (hl : lv_has ls 7 [(4, .int i), (3, .ref (zB Z + 188)), (2, .ref (zB Z + 137)), (1, .ref (zB Z + 0)), (0, .ref b)]) (hph : 896 ≤ pPh (gW Z y)) (N : ∀ (y1 : pY) (h1 : pH) (H1 : Heap) (locs1 : List Loc) (ls1 : Array Slot), lI (t + 1) (gW Z y1) h1 → pV (gW Z y1) h1 s.heap H1 locs1 → lv_has ls1 7 [(4, .int i), (3, .ref (zB Z + 188)), (2, .ref (zB Z + 137)), (1, .ref (zB Z + 0)), (0, .ref b)] → 896 ≤ pPh (gW Z y1) → W p l e room_1 s m #[Value.ref b] below meth c H1 locs1 (189 + (t + 1) + (pPh (gW Z y1) - 896)) (160018 + 6 * (t + 1) + 2 * (pPh (gW Z y1) - 896)) Q (F0 m 1130 ls1 [])) : W p l e room_1 s m #[Value.ref b] below meth c H locs (189 + t + (pPh (gW Z y) - 896)) (160018 + 6 * t + 2 * (pPh (gW Z y) - 896)) Q (F0 m 702 ls []) := by
  have hx := M.1.1
  have hb := M.1.2.1
  have M := pM.to (gW Z y) rfl M
  obtain ⟨S, I, K, Lk, ⟨c1, c2, c3⟩, B0⟩ := J
  have hPm := K.ph
  refine lv_aload_n hx hb dL_law_702 rfl (lv_at hl 3 rfl) ?_
  refine lv_aload_n hx hb dL_law_703 rfl (lv_at hl 4 rfl) ?_
  refine lv_iload hx hb dL_law_704 (lv_at hl 0 rfl) ?_
  refine lv_iconst (v := 1) hx hb dL_law_706 (by decide) ?_
  refine lv_iadd hx hb dL_law_707 ?_
  refine lv_topi (fun v1 ev1 => ?_)
  have tv1 : v1.toInt = i.toInt + 1 := by rw [ev1]; have z9 := pi_add (x := i) (y := 1); rw [show (1 : Int32).toInt = 1 from rfl] at z9; exact z9 (by omega)
  refine va_sld hx hb hX hbl hbA V.2.1 (pi_in (by omega)) dL_law_708 ?_
  refine lv_topi (fun a2 ea2 => ?_)
  refine lv_aload_n hx hb dL_law_709 rfl (lv_at hl 4 rfl) ?_
  refine lv_iload hx hb dL_law_710 (lv_at hl 0 rfl) ?_
  refine lv_iconst (v := 2) hx hb dL_law_712 (by decide) ?_
  refine lv_iadd hx hb dL_law_713 ?_
  refine lv_topi (fun v3 ev3 => ?_)
  have tv3 : v3.toInt = i.toInt + 2 := by rw [ev3]; have z9 := pi_add (x := i) (y := 2); rw [show (2 : Int32).toInt = 2 from rfl] at z9; exact z9 (by omega)
  refine va_sld hx hb hX hbl hbA V.2.1 (pi_in (by omega)) dL_law_714 ?_
  refine lv_topi (fun a4 ea4 => ?_)
  refine lv_aload_n hx hb dL_law_715 rfl (lv_at hl 1 rfl) ?_
  refine gz_i (Z := (gW Z y)) Z rfl rfl (wr_S (Z := (gW Z y)) M V X (m_L_field l hl9 S I a2 a4 K Lk (by omega)) km_L_field lkM_L_134 rfl hl.1 rfl (Nat.le_of_ble_eq_true rfl) ⟨Nat.le_of_ble_eq_true rfl, Nat.le_of_ble_eq_true rfl⟩ ⟨show 189 + t + (pPh (gW Z y) - 896) + (560000 - pPh (gW Z y) + 10) ≤ 600128 from by omega, show 160018 + 6 * t + 2 * (pPh (gW Z y) - 896) + (2 * (560000 - pPh (gW Z y)) + 200000) ≤ 7301098 from by omega⟩ dL_law_716) V (fun r5 y5 h5 k5 n5 H locs p5 V => ?_)
  obtain ⟨g5, K, I, A5, b5, Lk, f5, f5_2, f5_3⟩ := p5
  have S := S.gr (Z1 := (gW Z y5)) rfl g5
  have M := pM.to (gW Z y5) rfl M
  have hPm := K.ph
  have hph : 896 ≤ pPh (gW Z y5) := by omega
  have B1 := B0.cls (A5.wk (by decide))
  obtain ⟨E9, S9, K9, w2, w25, w27, w82⟩ := B1
  refine W.widen (k := 189 + (t + 1) + (pPh (gW Z y5) - 896)) (n := 160018 + 6 * (t + 1) + 2 * (pPh (gW Z y5) - 896)) (by omega) (by omega) ?_
  have c1 : (h5 2 4).toInt ≤ ((t : Int) + 1) := by omega
  have c2 : (h5 129 2).toInt ≤ 13 * ((t : Int) + 1) := by omega
  have c3 : (h5 129 3).toInt ≤ 13 * ((t : Int) + 1) := by omega
  refine lv_istore (lv' := [(5, .int r5), (4, .int i), (3, .ref (zB Z + 188)), (2, .ref (zB Z + 137)), (1, .ref (zB Z + 0)), (0, .ref b)]) hx hb dL_law_719 hl (by decide) rfl (fun ls hl => ?_)
  refine lv_aload_n hx hb dL_law_721 rfl (lv_at hl 3 rfl) ?_
  refine lv_aload_n hx hb dL_law_722 rfl (lv_at hl 5 rfl) ?_
  refine lv_iload hx hb dL_law_723 (lv_at hl 1 rfl) ?_
  refine lv_iconst (v := 1) hx hb dL_law_725 (by decide) ?_
  refine lv_iadd hx hb dL_law_726 ?_
  refine lv_topi (fun v6 ev6 => ?_)
  have tv6 : v6.toInt = i.toInt + 1 := by rw [ev6]; have z9 := pi_add (x := i) (y := 1); rw [show (1 : Int32).toInt = 1 from rfl] at z9; exact z9 (by omega)
  refine va_sld hx hb hX hbl hbA V.2.1 (pi_in (by omega)) dL_law_727 ?_
  refine lv_topi (fun a7 ea7 => ?_)
  refine lv_aload_n hx hb dL_law_728 rfl (lv_at hl 5 rfl) ?_
  refine lv_iload hx hb dL_law_729 (lv_at hl 1 rfl) ?_
  refine lv_iconst (v := 2) hx hb dL_law_731 (by decide) ?_
  refine lv_iadd hx hb dL_law_732 ?_
  refine lv_topi (fun v8 ev8 => ?_)
  have tv8 : v8.toInt = i.toInt + 2 := by rw [ev8]; have z9 := pi_add (x := i) (y := 2); rw [show (2 : Int32).toInt = 2 from rfl] at z9; exact z9 (by omega)
  refine va_sld hx hb hX hbl hbA V.2.1 (pi_in (by omega)) dL_law_733 ?_
  refine lv_topi (fun a9 ea9 => ?_)
  refine pk_i (pr_V (Z := (gW Z y5)) M V (m_X12_field l S I a7 a9 E9 S9 K9 (by omega) (by omega) (by omega)) km_X12_field (sm_this S) pC12 lkM_L_136 rfl hl.1 rfl (Nat.le_of_ble_eq_true rfl) ⟨Nat.le_of_ble_eq_true rfl, Nat.le_of_ble_eq_true rfl⟩ ⟨show 189 + (t + 1) + (pPh (gW Z y5) - 896) + 0 ≤ 600128 from by omega, show 160018 + 6 * (t + 1) + 2 * (pPh (gW Z y5) - 896) + 0 ≤ 7301098 from by omega⟩ dL_law_734) V (fun r10 Zr10 h10 H locs p10 _ _ V => ?_)
  obtain ⟨rfl, I, A10, x10_0, x10_1, x10_2, x10_3, x10_4, x10_5⟩ := p10
  have Lk := Lk.congr (A10.get 129 2 (by decide)) (A10.get 129 3 (by decide))
  have c1 : (h10 2 4).toInt ≤ ((t : Int) + 1) := by have z9 := congrArg Int32.toInt (A10.get 2 4 (by decide)); omega
  have c2 : (h10 129 2).toInt ≤ 13 * ((t : Int) + 1) := by have z9 := congrArg Int32.toInt (A10.get 129 2 (by decide)); omega
  have c3 : (h10 129 3).toInt ≤ 13 * ((t : Int) + 1) := by have z9 := congrArg Int32.toInt (A10.get 129 3 (by decide)); omega
  have e10_2 := congrArg Int32.toInt (A10.get 137 2 (by decide))
  have E9 := x10_0
  have S9 := x10_1
  have K9 := x10_2
  refine lv_istore (lv' := [(6, .int r10), (5, .int r5), (4, .int i), (3, .ref (zB Z + 188)), (2, .ref (zB Z + 137)), (1, .ref (zB Z + 0)), (0, .ref b)]) hx hb dL_law_737 hl (by decide) rfl (fun ls hl => ?_)
  refine lv_goto (tgt := 1130) hx hb dL_law_739 (by decide) ?_
  exact N _ h10 _ _ ls ⟨S, I, K, Lk, ⟨by omega, by omega, by omega⟩, E9, S9, K9, by omega, by omega, by omega, by omega⟩ V (lv_sub hl [2, 3, 4, 5, 6] rfl) (by omega)
set_option maxHeartbeats 4000000 in
set_option maxRecDepth 100000 in
theorem lc_16 {p : Program} {l : Launch} {e : Env} {s : State} {m : MethodId} {below : List Frame} {meth : Method} {c : Code} {b L : Nat} {xs : Nat → Int32} {Z : pZ} {Q : State → Prop} (hl9 : l.stackTraces = false) (M : pM Z.1 p s m #[Value.ref b] c cL_law 7 RL) (X : pXS (zB Z) s) (hX : va_X b L xs s s.heap) (hbl : b < s.heap.size) (hbA : ¬ pA (zB Z) b) (hL : L ≤ 384) {t : Nat} (ht : t < 64) {y : pY} {h : pH} {H : Heap} {locs : List Loc} {ls : Array Slot} {i : Int32} (hi : i.toInt = 6 * (t : Int)) (hiL : i.toInt + 6 ≤ (L : Int)) (J : lI t (gW Z y) h) (V : pV (gW Z y) h s.heap H locs) (hl : lv_has ls 7 [(4, .int i), (3, .ref (zB Z + 188)), (2, .ref (zB Z + 137)), (1, .ref (zB Z + 0)), (0, .ref b)]) (hph : 896 ≤ pPh (gW Z y)) (N : ∀ (y1 : pY) (h1 : pH) (H1 : Heap) (locs1 : List Loc) (ls1 : Array Slot), lI (t + 1) (gW Z y1) h1 → pV (gW Z y1) h1 s.heap H1 locs1 → lv_has ls1 7 [(4, .int i), (3, .ref (zB Z + 188)), (2, .ref (zB Z + 137)), (1, .ref (zB Z + 0)), (0, .ref b)] → 896 ≤ pPh (gW Z y1) → W p l e room_1 s m #[Value.ref b] below meth c H1 locs1 (189 + (t + 1) + (pPh (gW Z y1) - 896)) (160018 + 6 * (t + 1) + 2 * (pPh (gW Z y1) - 896)) Q (F0 m 1130 ls1 [])) : W p l e room_1 s m #[Value.ref b] below meth c H locs (189 + t + (pPh (gW Z y) - 896)) (160018 + 6 * t + 2 * (pPh (gW Z y) - 896)) Q (F0 m 742 ls []) := by
  have hx := M.1.1
  have hb := M.1.2.1
  have M := pM.to (gW Z y) rfl M
  obtain ⟨S, I, K, Lk, ⟨c1, c2, c3⟩, B0⟩ := J
  have hPm := K.ph
  refine lv_aload_n hx hb dL_law_742 rfl (lv_at hl 3 rfl) ?_
  refine lv_aload_n hx hb dL_law_743 rfl (lv_at hl 4 rfl) ?_
  refine lv_iload hx hb dL_law_744 (lv_at hl 0 rfl) ?_
  refine lv_iconst (v := 1) hx hb dL_law_746 (by decide) ?_
  refine lv_iadd hx hb dL_law_747 ?_
  refine lv_topi (fun v1 ev1 => ?_)
  have tv1 : v1.toInt = i.toInt + 1 := by rw [ev1]; have z9 := pi_add (x := i) (y := 1); rw [show (1 : Int32).toInt = 1 from rfl] at z9; exact z9 (by omega)
  refine va_sld hx hb hX hbl hbA V.2.1 (pi_in (by omega)) dL_law_748 ?_
  refine lv_topi (fun a2 ea2 => ?_)
  refine lv_aload_n hx hb dL_law_749 rfl (lv_at hl 4 rfl) ?_
  refine lv_iload hx hb dL_law_750 (lv_at hl 0 rfl) ?_
  refine lv_iconst (v := 2) hx hb dL_law_752 (by decide) ?_
  refine lv_iadd hx hb dL_law_753 ?_
  refine lv_topi (fun v3 ev3 => ?_)
  have tv3 : v3.toInt = i.toInt + 2 := by rw [ev3]; have z9 := pi_add (x := i) (y := 2); rw [show (2 : Int32).toInt = 2 from rfl] at z9; exact z9 (by omega)
  refine va_sld hx hb hX hbl hbA V.2.1 (pi_in (by omega)) dL_law_754 ?_
  refine lv_topi (fun a4 ea4 => ?_)
  refine lv_aload_n hx hb dL_law_755 rfl (lv_at hl 1 rfl) ?_
  refine gz_i (Z := (gW Z y)) Z rfl rfl (wr_S (Z := (gW Z y)) M V X (m_L_tree l hl9 S I a2 a4 K Lk (by omega)) km_L_tree lkM_L_137 rfl hl.1 rfl (Nat.le_of_ble_eq_true rfl) ⟨Nat.le_of_ble_eq_true rfl, Nat.le_of_ble_eq_true rfl⟩ ⟨show 189 + t + (pPh (gW Z y) - 896) + (560000 - pPh (gW Z y) + 10) ≤ 600128 from by omega, show 160018 + 6 * t + 2 * (pPh (gW Z y) - 896) + (2 * (560000 - pPh (gW Z y)) + 200000) ≤ 7301098 from by omega⟩ dL_law_756) V (fun r5 y5 h5 k5 n5 H locs p5 V => ?_)
  obtain ⟨g5, K, I, A5, b5, Lk, f5, f5_2, f5_3⟩ := p5
  have S := S.gr (Z1 := (gW Z y5)) rfl g5
  have M := pM.to (gW Z y5) rfl M
  have hPm := K.ph
  have hph : 896 ≤ pPh (gW Z y5) := by omega
  have B1 := B0.cls (A5.wk (by decide))
  obtain ⟨E9, S9, K9, w2, w25, w27, w82⟩ := B1
  refine W.widen (k := 189 + (t + 1) + (pPh (gW Z y5) - 896)) (n := 160018 + 6 * (t + 1) + 2 * (pPh (gW Z y5) - 896)) (by omega) (by omega) ?_
  have c1 : (h5 2 4).toInt ≤ ((t : Int) + 1) := by omega
  have c2 : (h5 129 2).toInt ≤ 13 * ((t : Int) + 1) := by omega
  have c3 : (h5 129 3).toInt ≤ 13 * ((t : Int) + 1) := by omega
  refine lv_istore (lv' := [(5, .int r5), (4, .int i), (3, .ref (zB Z + 188)), (2, .ref (zB Z + 137)), (1, .ref (zB Z + 0)), (0, .ref b)]) hx hb dL_law_759 hl (by decide) rfl (fun ls hl => ?_)
  refine lv_aload_n hx hb dL_law_761 rfl (lv_at hl 3 rfl) ?_
  refine lv_aload_n hx hb dL_law_762 rfl (lv_at hl 5 rfl) ?_
  refine lv_iload hx hb dL_law_763 (lv_at hl 1 rfl) ?_
  refine lv_iconst (v := 1) hx hb dL_law_765 (by decide) ?_
  refine lv_iadd hx hb dL_law_766 ?_
  refine lv_topi (fun v6 ev6 => ?_)
  have tv6 : v6.toInt = i.toInt + 1 := by rw [ev6]; have z9 := pi_add (x := i) (y := 1); rw [show (1 : Int32).toInt = 1 from rfl] at z9; exact z9 (by omega)
  refine va_sld hx hb hX hbl hbA V.2.1 (pi_in (by omega)) dL_law_767 ?_
  refine lv_topi (fun a7 ea7 => ?_)
  refine lv_aload_n hx hb dL_law_768 rfl (lv_at hl 5 rfl) ?_
  refine lv_iload hx hb dL_law_769 (lv_at hl 1 rfl) ?_
  refine lv_iconst (v := 2) hx hb dL_law_771 (by decide) ?_
  refine lv_iadd hx hb dL_law_772 ?_
  refine lv_topi (fun v8 ev8 => ?_)
  have tv8 : v8.toInt = i.toInt + 2 := by rw [ev8]; have z9 := pi_add (x := i) (y := 2); rw [show (2 : Int32).toInt = 2 from rfl] at z9; exact z9 (by omega)
  refine va_sld hx hb hX hbl hbA V.2.1 (pi_in (by omega)) dL_law_773 ?_
  refine lv_topi (fun a9 ea9 => ?_)
  refine pk_i (pr_V (Z := (gW Z y5)) M V (m_X12_tree l S I a7 a9 E9 S9 K9 (by omega) (by omega) (by omega)) km_X12_tree (sm_this S) pC12 lkM_L_139 rfl hl.1 rfl (Nat.le_of_ble_eq_true rfl) ⟨Nat.le_of_ble_eq_true rfl, Nat.le_of_ble_eq_true rfl⟩ ⟨show 189 + (t + 1) + (pPh (gW Z y5) - 896) + 0 ≤ 600128 from by omega, show 160018 + 6 * (t + 1) + 2 * (pPh (gW Z y5) - 896) + 0 ≤ 7301098 from by omega⟩ dL_law_774) V (fun r10 Zr10 h10 H locs p10 _ _ V => ?_)
  obtain ⟨rfl, I, A10, x10_0, x10_1, x10_2, x10_3, x10_4, x10_5, x10_6⟩ := p10
  have Lk := Lk.congr (A10.get 129 2 (by decide)) (A10.get 129 3 (by decide))
  have c1 : (h10 2 4).toInt ≤ ((t : Int) + 1) := by have z9 := congrArg Int32.toInt (A10.get 2 4 (by decide)); omega
  have c2 : (h10 129 2).toInt ≤ 13 * ((t : Int) + 1) := by have z9 := congrArg Int32.toInt (A10.get 129 2 (by decide)); omega
  have c3 : (h10 129 3).toInt ≤ 13 * ((t : Int) + 1) := by have z9 := congrArg Int32.toInt (A10.get 129 3 (by decide)); omega
  have e10_2 := congrArg Int32.toInt (A10.get 137 2 (by decide))
  have E9 := x10_1
  have S9 := x10_2
  have K9 := x10_3
  refine lv_istore (lv' := [(6, .int r10), (5, .int r5), (4, .int i), (3, .ref (zB Z + 188)), (2, .ref (zB Z + 137)), (1, .ref (zB Z + 0)), (0, .ref b)]) hx hb dL_law_777 hl (by decide) rfl (fun ls hl => ?_)
  refine lv_goto (tgt := 1130) hx hb dL_law_779 (by decide) ?_
  exact N _ h10 _ _ ls ⟨S, I, K, Lk, ⟨by omega, by omega, by omega⟩, E9, S9, K9, by omega, by omega, by omega, by omega⟩ V (lv_sub hl [2, 3, 4, 5, 6] rfl) (by omega)
set_option maxHeartbeats 4000000 in
set_option maxRecDepth 100000 in
theorem lc_17 {p : Program} {l : Launch} {e : Env} {s : State} {m : MethodId} {below : List Frame} {meth : Method} {c : Code} {b L : Nat} {xs : Nat → Int32} {Z : pZ} {Q : State → Prop} (hl9 : l.stackTraces = false) (M : pM Z.1 p s m #[Value.ref b] c cL_law 7 RL) (X : pXS (zB Z) s) (hX : va_X b L xs s s.heap) (hbl : b < s.heap.size) (hbA : ¬ pA (zB Z) b) (hL : L ≤ 384) {t : Nat} (ht : t < 64) {y : pY} {h : pH} {H : Heap} {locs : List Loc} {ls : Array Slot} {i : Int32} (hi : i.toInt = 6 * (t : Int)) (hiL : i.toInt + 6 ≤ (L : Int)) (J : lI t (gW Z y) h) (V : pV (gW Z y) h s.heap H locs) (hl : lv_has ls 7 [(4, .int i), (3, .ref (zB Z + 188)), (2, .ref (zB Z + 137)), (1, .ref (zB Z + 0)), (0, .ref b)]) (hph : 896 ≤ pPh (gW Z y)) (N : ∀ (y1 : pY) (h1 : pH) (H1 : Heap) (locs1 : List Loc) (ls1 : Array Slot), lI (t + 1) (gW Z y1) h1 → pV (gW Z y1) h1 s.heap H1 locs1 → lv_has ls1 7 [(4, .int i), (3, .ref (zB Z + 188)), (2, .ref (zB Z + 137)), (1, .ref (zB Z + 0)), (0, .ref b)] → 896 ≤ pPh (gW Z y1) → W p l e room_1 s m #[Value.ref b] below meth c H1 locs1 (189 + (t + 1) + (pPh (gW Z y1) - 896)) (160018 + 6 * (t + 1) + 2 * (pPh (gW Z y1) - 896)) Q (F0 m 1130 ls1 [])) : W p l e room_1 s m #[Value.ref b] below meth c H locs (189 + t + (pPh (gW Z y) - 896)) (160018 + 6 * t + 2 * (pPh (gW Z y) - 896)) Q (F0 m 782 ls []) := by
  have hx := M.1.1
  have hb := M.1.2.1
  have M := pM.to (gW Z y) rfl M
  obtain ⟨S, I, K, Lk, ⟨c1, c2, c3⟩, B0⟩ := J
  have hPm := K.ph
  refine lv_aload_n hx hb dL_law_782 rfl (lv_at hl 3 rfl) ?_
  refine lv_aload_n hx hb dL_law_783 rfl (lv_at hl 4 rfl) ?_
  refine lv_iload hx hb dL_law_784 (lv_at hl 0 rfl) ?_
  refine lv_iconst (v := 1) hx hb dL_law_786 (by decide) ?_
  refine lv_iadd hx hb dL_law_787 ?_
  refine lv_topi (fun v1 ev1 => ?_)
  have tv1 : v1.toInt = i.toInt + 1 := by rw [ev1]; have z9 := pi_add (x := i) (y := 1); rw [show (1 : Int32).toInt = 1 from rfl] at z9; exact z9 (by omega)
  refine va_sld hx hb hX hbl hbA V.2.1 (pi_in (by omega)) dL_law_788 ?_
  refine lv_topi (fun a2 ea2 => ?_)
  refine lv_aload_n hx hb dL_law_789 rfl (lv_at hl 4 rfl) ?_
  refine lv_iload hx hb dL_law_790 (lv_at hl 0 rfl) ?_
  refine lv_iconst (v := 2) hx hb dL_law_792 (by decide) ?_
  refine lv_iadd hx hb dL_law_793 ?_
  refine lv_topi (fun v3 ev3 => ?_)
  have tv3 : v3.toInt = i.toInt + 2 := by rw [ev3]; have z9 := pi_add (x := i) (y := 2); rw [show (2 : Int32).toInt = 2 from rfl] at z9; exact z9 (by omega)
  refine va_sld hx hb hX hbl hbA V.2.1 (pi_in (by omega)) dL_law_794 ?_
  refine lv_topi (fun a4 ea4 => ?_)
  refine lv_aload_n hx hb dL_law_795 rfl (lv_at hl 4 rfl) ?_
  refine lv_iload hx hb dL_law_796 (lv_at hl 0 rfl) ?_
  refine lv_iconst (v := 3) hx hb dL_law_798 (by decide) ?_
  refine lv_iadd hx hb dL_law_799 ?_
  refine lv_topi (fun v5 ev5 => ?_)
  have tv5 : v5.toInt = i.toInt + 3 := by rw [ev5]; have z9 := pi_add (x := i) (y := 3); rw [show (3 : Int32).toInt = 3 from rfl] at z9; exact z9 (by omega)
  refine va_sld hx hb hX hbl hbA V.2.1 (pi_in (by omega)) dL_law_800 ?_
  refine lv_topi (fun a6 ea6 => ?_)
  refine gz_i (Z := (gW Z y)) Z rfl rfl (wr_S (Z := (gW Z y)) M V X (m_L_child l hl9 S I a2 a4 a6 K Lk (by omega)) km_L_child lkM_L_140 rfl hl.1 rfl (Nat.le_of_ble_eq_true rfl) ⟨Nat.le_of_ble_eq_true rfl, Nat.le_of_ble_eq_true rfl⟩ ⟨show 189 + t + (pPh (gW Z y) - 896) + (560000 - pPh (gW Z y) + 10) ≤ 600128 from by omega, show 160018 + 6 * t + 2 * (pPh (gW Z y) - 896) + (2 * (560000 - pPh (gW Z y)) + 200000) ≤ 7301098 from by omega⟩ dL_law_801) V (fun r7 y7 h7 k7 n7 H locs p7 V => ?_)
  obtain ⟨g7, K, I, A7, b7, Lk, f7, f7_2, f7_3⟩ := p7
  have S := S.gr (Z1 := (gW Z y7)) rfl g7
  have M := pM.to (gW Z y7) rfl M
  have hPm := K.ph
  have hph : 896 ≤ pPh (gW Z y7) := by omega
  have B1 := B0.cls (A7.wk (by decide))
  obtain ⟨E9, S9, K9, w2, w25, w27, w82⟩ := B1
  refine W.widen (k := 189 + (t + 1) + (pPh (gW Z y7) - 896)) (n := 160018 + 6 * (t + 1) + 2 * (pPh (gW Z y7) - 896)) (by omega) (by omega) ?_
  have c1 : (h7 2 4).toInt ≤ ((t : Int) + 1) := by omega
  have c2 : (h7 129 2).toInt ≤ 13 * ((t : Int) + 1) := by omega
  have c3 : (h7 129 3).toInt ≤ 13 * ((t : Int) + 1) := by omega
  refine lv_istore (lv' := [(5, .int r7), (4, .int i), (3, .ref (zB Z + 188)), (2, .ref (zB Z + 137)), (1, .ref (zB Z + 0)), (0, .ref b)]) hx hb dL_law_804 hl (by decide) rfl (fun ls hl => ?_)
  refine lv_aload_n hx hb dL_law_806 rfl (lv_at hl 3 rfl) ?_
  refine lv_aload_n hx hb dL_law_807 rfl (lv_at hl 5 rfl) ?_
  refine lv_iload hx hb dL_law_808 (lv_at hl 1 rfl) ?_
  refine lv_iconst (v := 1) hx hb dL_law_810 (by decide) ?_
  refine lv_iadd hx hb dL_law_811 ?_
  refine lv_topi (fun v8 ev8 => ?_)
  have tv8 : v8.toInt = i.toInt + 1 := by rw [ev8]; have z9 := pi_add (x := i) (y := 1); rw [show (1 : Int32).toInt = 1 from rfl] at z9; exact z9 (by omega)
  refine va_sld hx hb hX hbl hbA V.2.1 (pi_in (by omega)) dL_law_812 ?_
  refine lv_topi (fun a9 ea9 => ?_)
  refine lv_aload_n hx hb dL_law_813 rfl (lv_at hl 5 rfl) ?_
  refine lv_iload hx hb dL_law_814 (lv_at hl 1 rfl) ?_
  refine lv_iconst (v := 2) hx hb dL_law_816 (by decide) ?_
  refine lv_iadd hx hb dL_law_817 ?_
  refine lv_topi (fun v10 ev10 => ?_)
  have tv10 : v10.toInt = i.toInt + 2 := by rw [ev10]; have z9 := pi_add (x := i) (y := 2); rw [show (2 : Int32).toInt = 2 from rfl] at z9; exact z9 (by omega)
  refine va_sld hx hb hX hbl hbA V.2.1 (pi_in (by omega)) dL_law_818 ?_
  refine lv_topi (fun a11 ea11 => ?_)
  refine lv_aload_n hx hb dL_law_819 rfl (lv_at hl 5 rfl) ?_
  refine lv_iload hx hb dL_law_820 (lv_at hl 1 rfl) ?_
  refine lv_iconst (v := 3) hx hb dL_law_822 (by decide) ?_
  refine lv_iadd hx hb dL_law_823 ?_
  refine lv_topi (fun v12 ev12 => ?_)
  have tv12 : v12.toInt = i.toInt + 3 := by rw [ev12]; have z9 := pi_add (x := i) (y := 3); rw [show (3 : Int32).toInt = 3 from rfl] at z9; exact z9 (by omega)
  refine va_sld hx hb hX hbl hbA V.2.1 (pi_in (by omega)) dL_law_824 ?_
  refine lv_topi (fun a13 ea13 => ?_)
  refine pk_v (pr_V (Z := (gW Z y7)) M V (m_X12_child l S I a9 a11 a13 E9 S9 K9 (by omega) (by omega) (by omega)) km_X12_child (sm_this S) pC12 lkM_L_143 rfl hl.1 rfl (Nat.le_of_ble_eq_true rfl) ⟨Nat.le_of_ble_eq_true rfl, Nat.le_of_ble_eq_true rfl⟩ ⟨show 189 + (t + 1) + (pPh (gW Z y7) - 896) + 0 ≤ 600128 from by omega, show 160018 + 6 * (t + 1) + 2 * (pPh (gW Z y7) - 896) + 0 ≤ 7301098 from by omega⟩ dL_law_825) V (fun Zr14 h14 H locs p14 _ _ V => ?_)
  obtain ⟨rfl, I, A14, x14_0, x14_1, x14_2, x14_3, x14_4⟩ := p14
  have Lk := Lk.congr (A14.get 129 2 (by decide)) (A14.get 129 3 (by decide))
  have c1 : (h14 2 4).toInt ≤ ((t : Int) + 1) := by have z9 := congrArg Int32.toInt (A14.get 2 4 (by decide)); omega
  have c2 : (h14 129 2).toInt ≤ 13 * ((t : Int) + 1) := by have z9 := congrArg Int32.toInt (A14.get 129 2 (by decide)); omega
  have c3 : (h14 129 3).toInt ≤ 13 * ((t : Int) + 1) := by have z9 := congrArg Int32.toInt (A14.get 129 3 (by decide)); omega
  have e14_2 := congrArg Int32.toInt (A14.get 137 2 (by decide))
  have e14_27 := congrArg Int32.toInt (A14.get 137 27 (by decide))
  have E9 := x14_0
  have S9 := x14_1
  have K9 := x14_2
  refine lv_goto (tgt := 1130) hx hb dL_law_828 (by decide) ?_
  exact N _ h14 _ _ ls ⟨S, I, K, Lk, ⟨by omega, by omega, by omega⟩, E9, S9, K9, by omega, by omega, by omega, by omega⟩ V (lv_sub hl [1, 2, 3, 4, 5] rfl) (by omega)
set_option maxHeartbeats 4000000 in
set_option maxRecDepth 100000 in
theorem lc_18 {p : Program} {l : Launch} {e : Env} {s : State} {m : MethodId} {below : List Frame} {meth : Method} {c : Code} {b L : Nat} {xs : Nat → Int32} {Z : pZ} {Q : State → Prop} (hl9 : l.stackTraces = false) (M : pM Z.1 p s m #[Value.ref b] c cL_law 7 RL) (X : pXS (zB Z) s) (hX : va_X b L xs s s.heap) (hbl : b < s.heap.size) (hbA : ¬ pA (zB Z) b) (hL : L ≤ 384) {t : Nat} (ht : t < 64) {y : pY} {h : pH} {H : Heap} {locs : List Loc} {ls : Array Slot} {i : Int32} (hi : i.toInt = 6 * (t : Int)) (hiL : i.toInt + 6 ≤ (L : Int)) (J : lI t (gW Z y) h) (V : pV (gW Z y) h s.heap H locs) (hl : lv_has ls 7 [(4, .int i), (3, .ref (zB Z + 188)), (2, .ref (zB Z + 137)), (1, .ref (zB Z + 0)), (0, .ref b)]) (hph : 896 ≤ pPh (gW Z y)) (N : ∀ (y1 : pY) (h1 : pH) (H1 : Heap) (locs1 : List Loc) (ls1 : Array Slot), lI (t + 1) (gW Z y1) h1 → pV (gW Z y1) h1 s.heap H1 locs1 → lv_has ls1 7 [(4, .int i), (3, .ref (zB Z + 188)), (2, .ref (zB Z + 137)), (1, .ref (zB Z + 0)), (0, .ref b)] → 896 ≤ pPh (gW Z y1) → W p l e room_1 s m #[Value.ref b] below meth c H1 locs1 (189 + (t + 1) + (pPh (gW Z y1) - 896)) (160018 + 6 * (t + 1) + 2 * (pPh (gW Z y1) - 896)) Q (F0 m 1130 ls1 [])) : W p l e room_1 s m #[Value.ref b] below meth c H locs (189 + t + (pPh (gW Z y) - 896)) (160018 + 6 * t + 2 * (pPh (gW Z y) - 896)) Q (F0 m 831 ls []) := by
  have hx := M.1.1
  have hb := M.1.2.1
  have M := pM.to (gW Z y) rfl M
  obtain ⟨S, I, K, Lk, ⟨c1, c2, c3⟩, B0⟩ := J
  have hPm := K.ph
  refine lv_aload_n hx hb dL_law_831 rfl (lv_at hl 3 rfl) ?_
  refine lv_aload_n hx hb dL_law_832 rfl (lv_at hl 4 rfl) ?_
  refine lv_iload hx hb dL_law_833 (lv_at hl 0 rfl) ?_
  refine lv_iconst (v := 1) hx hb dL_law_835 (by decide) ?_
  refine lv_iadd hx hb dL_law_836 ?_
  refine lv_topi (fun v1 ev1 => ?_)
  have tv1 : v1.toInt = i.toInt + 1 := by rw [ev1]; have z9 := pi_add (x := i) (y := 1); rw [show (1 : Int32).toInt = 1 from rfl] at z9; exact z9 (by omega)
  refine va_sld hx hb hX hbl hbA V.2.1 (pi_in (by omega)) dL_law_837 ?_
  refine lv_topi (fun a2 ea2 => ?_)
  refine gz_i (Z := (gW Z y)) Z rfl rfl (wr_S (Z := (gW Z y)) M V X (m_L_scope l hl9 S I a2 K Lk ) km_L_scope lkM_L_144 rfl hl.1 rfl (Nat.le_of_ble_eq_true rfl) ⟨Nat.le_of_ble_eq_true rfl, Nat.le_of_ble_eq_true rfl⟩ ⟨show 189 + t + (pPh (gW Z y) - 896) + (560000 - pPh (gW Z y) + 10) ≤ 600128 from by omega, show 160018 + 6 * t + 2 * (pPh (gW Z y) - 896) + (2 * (560000 - pPh (gW Z y)) + 200000) ≤ 7301098 from by omega⟩ dL_law_838) V (fun r3 y3 h3 k3 n3 H locs p3 V => ?_)
  obtain ⟨g3, K, I, A3, b3, Lk, f3, f3_2, f3_3⟩ := p3
  have S := S.gr (Z1 := (gW Z y3)) rfl g3
  have M := pM.to (gW Z y3) rfl M
  have hPm := K.ph
  have hph : 896 ≤ pPh (gW Z y3) := by omega
  have B1 := B0.cls (A3.wk (by decide))
  obtain ⟨E9, S9, K9, w2, w25, w27, w82⟩ := B1
  refine W.widen (k := 189 + (t + 1) + (pPh (gW Z y3) - 896)) (n := 160018 + 6 * (t + 1) + 2 * (pPh (gW Z y3) - 896)) (by omega) (by omega) ?_
  have c1 : (h3 2 4).toInt ≤ ((t : Int) + 1) := by omega
  have c2 : (h3 129 2).toInt ≤ 13 * ((t : Int) + 1) := by omega
  have c3 : (h3 129 3).toInt ≤ 13 * ((t : Int) + 1) := by omega
  refine lv_istore (lv' := [(5, .int r3), (4, .int i), (3, .ref (zB Z + 188)), (2, .ref (zB Z + 137)), (1, .ref (zB Z + 0)), (0, .ref b)]) hx hb dL_law_841 hl (by decide) rfl (fun ls hl => ?_)
  refine lv_aload_n hx hb dL_law_843 rfl (lv_at hl 3 rfl) ?_
  refine lv_aload_n hx hb dL_law_844 rfl (lv_at hl 5 rfl) ?_
  refine lv_iload hx hb dL_law_845 (lv_at hl 1 rfl) ?_
  refine lv_iconst (v := 1) hx hb dL_law_847 (by decide) ?_
  refine lv_iadd hx hb dL_law_848 ?_
  refine lv_topi (fun v4 ev4 => ?_)
  have tv4 : v4.toInt = i.toInt + 1 := by rw [ev4]; have z9 := pi_add (x := i) (y := 1); rw [show (1 : Int32).toInt = 1 from rfl] at z9; exact z9 (by omega)
  refine va_sld hx hb hX hbl hbA V.2.1 (pi_in (by omega)) dL_law_849 ?_
  refine lv_topi (fun a5 ea5 => ?_)
  refine pk_v (pr_V (Z := (gW Z y3)) M V (m_X12_scope l S I a5 E9 S9 K9 (by omega) (by omega) (by omega)) km_X12_scope (sm_this S) pC12 lkM_L_147 rfl hl.1 rfl (Nat.le_of_ble_eq_true rfl) ⟨Nat.le_of_ble_eq_true rfl, Nat.le_of_ble_eq_true rfl⟩ ⟨show 189 + (t + 1) + (pPh (gW Z y3) - 896) + 0 ≤ 600128 from by omega, show 160018 + 6 * (t + 1) + 2 * (pPh (gW Z y3) - 896) + 0 ≤ 7301098 from by omega⟩ dL_law_850) V (fun Zr6 h6 H locs p6 _ _ V => ?_)
  obtain ⟨rfl, I, A6, x6_0, x6_1, x6_2⟩ := p6
  have Lk := Lk.congr (A6.get 129 2 (by decide)) (A6.get 129 3 (by decide))
  have c1 : (h6 2 4).toInt ≤ ((t : Int) + 1) := by have z9 := congrArg Int32.toInt (A6.get 2 4 (by decide)); omega
  have c2 : (h6 129 2).toInt ≤ 13 * ((t : Int) + 1) := by have z9 := congrArg Int32.toInt (A6.get 129 2 (by decide)); omega
  have c3 : (h6 129 3).toInt ≤ 13 * ((t : Int) + 1) := by have z9 := congrArg Int32.toInt (A6.get 129 3 (by decide)); omega
  have e6_2 := congrArg Int32.toInt (A6.get 137 2 (by decide))
  have e6_25 := congrArg Int32.toInt (A6.get 137 25 (by decide))
  have e6_27 := congrArg Int32.toInt (A6.get 137 27 (by decide))
  have e6_82 := congrArg Int32.toInt (A6.get 137 82 (by decide))
  have E9 := x6_0
  have S9 := x6_1
  have K9 := x6_2
  refine lv_goto (tgt := 1130) hx hb dL_law_853 (by decide) ?_
  exact N _ h6 _ _ ls ⟨S, I, K, Lk, ⟨by omega, by omega, by omega⟩, E9, S9, K9, by omega, by omega, by omega, by omega⟩ V (lv_sub hl [1, 2, 3, 4, 5] rfl) (by omega)
set_option maxHeartbeats 4000000 in
set_option maxRecDepth 100000 in
theorem lc_19 {p : Program} {l : Launch} {e : Env} {s : State} {m : MethodId} {below : List Frame} {meth : Method} {c : Code} {b L : Nat} {xs : Nat → Int32} {Z : pZ} {Q : State → Prop} (hl9 : l.stackTraces = false) (M : pM Z.1 p s m #[Value.ref b] c cL_law 7 RL) (X : pXS (zB Z) s) (hX : va_X b L xs s s.heap) (hbl : b < s.heap.size) (hbA : ¬ pA (zB Z) b) (hL : L ≤ 384) {t : Nat} (ht : t < 64) {y : pY} {h : pH} {H : Heap} {locs : List Loc} {ls : Array Slot} {i : Int32} (hi : i.toInt = 6 * (t : Int)) (hiL : i.toInt + 6 ≤ (L : Int)) (J : lI t (gW Z y) h) (V : pV (gW Z y) h s.heap H locs) (hl : lv_has ls 7 [(4, .int i), (3, .ref (zB Z + 188)), (2, .ref (zB Z + 137)), (1, .ref (zB Z + 0)), (0, .ref b)]) (hph : 896 ≤ pPh (gW Z y)) (N : ∀ (y1 : pY) (h1 : pH) (H1 : Heap) (locs1 : List Loc) (ls1 : Array Slot), lI (t + 1) (gW Z y1) h1 → pV (gW Z y1) h1 s.heap H1 locs1 → lv_has ls1 7 [(4, .int i), (3, .ref (zB Z + 188)), (2, .ref (zB Z + 137)), (1, .ref (zB Z + 0)), (0, .ref b)] → 896 ≤ pPh (gW Z y1) → W p l e room_1 s m #[Value.ref b] below meth c H1 locs1 (189 + (t + 1) + (pPh (gW Z y1) - 896)) (160018 + 6 * (t + 1) + 2 * (pPh (gW Z y1) - 896)) Q (F0 m 1130 ls1 [])) : W p l e room_1 s m #[Value.ref b] below meth c H locs (189 + t + (pPh (gW Z y) - 896)) (160018 + 6 * t + 2 * (pPh (gW Z y) - 896)) Q (F0 m 856 ls []) := by
  have hx := M.1.1
  have hb := M.1.2.1
  have M := pM.to (gW Z y) rfl M
  obtain ⟨S, I, K, Lk, ⟨c1, c2, c3⟩, B0⟩ := J
  have hPm := K.ph
  refine lv_aload_n hx hb dL_law_856 rfl (lv_at hl 3 rfl) ?_
  refine gz_i (Z := (gW Z y)) Z rfl rfl (wr_S (Z := (gW Z y)) M V X (m_L_group l hl9 S I  K Lk ) km_L_group lkM_L_148 rfl hl.1 rfl (Nat.le_of_ble_eq_true rfl) ⟨Nat.le_of_ble_eq_true rfl, Nat.le_of_ble_eq_true rfl⟩ ⟨show 189 + t + (pPh (gW Z y) - 896) + (560000 - pPh (gW Z y) + 10) ≤ 600128 from by omega, show 160018 + 6 * t + 2 * (pPh (gW Z y) - 896) + (2 * (560000 - pPh (gW Z y)) + 200000) ≤ 7301098 from by omega⟩ dL_law_857) V (fun r1 y1 h1 k1 n1 H locs p1 V => ?_)
  obtain ⟨g1, K, I, A1, b1, Lk, f1, f1_2, f1_3⟩ := p1
  have S := S.gr (Z1 := (gW Z y1)) rfl g1
  have M := pM.to (gW Z y1) rfl M
  have hPm := K.ph
  have hph : 896 ≤ pPh (gW Z y1) := by omega
  have B1 := B0.cls (A1.wk (by decide))
  obtain ⟨E9, S9, K9, w2, w25, w27, w82⟩ := B1
  refine W.widen (k := 189 + (t + 1) + (pPh (gW Z y1) - 896)) (n := 160018 + 6 * (t + 1) + 2 * (pPh (gW Z y1) - 896)) (by omega) (by omega) ?_
  have c1 : (h1 2 4).toInt ≤ ((t : Int) + 1) := by omega
  have c2 : (h1 129 2).toInt ≤ 13 * ((t : Int) + 1) := by omega
  have c3 : (h1 129 3).toInt ≤ 13 * ((t : Int) + 1) := by omega
  refine lv_istore (lv' := [(5, .int r1), (4, .int i), (3, .ref (zB Z + 188)), (2, .ref (zB Z + 137)), (1, .ref (zB Z + 0)), (0, .ref b)]) hx hb dL_law_860 hl (by decide) rfl (fun ls hl => ?_)
  refine lv_aload_n hx hb dL_law_862 rfl (lv_at hl 3 rfl) ?_
  refine pk_v (pr_V (Z := (gW Z y1)) M V (m_X12_group l S I  E9 S9 K9 (by omega) (by omega) (by omega)) km_X12_group (sm_this S) pC12 lkM_L_151 rfl hl.1 rfl (Nat.le_of_ble_eq_true rfl) ⟨Nat.le_of_ble_eq_true rfl, Nat.le_of_ble_eq_true rfl⟩ ⟨show 189 + (t + 1) + (pPh (gW Z y1) - 896) + 0 ≤ 600128 from by omega, show 160018 + 6 * (t + 1) + 2 * (pPh (gW Z y1) - 896) + 0 ≤ 7301098 from by omega⟩ dL_law_863) V (fun Zr2 h2 H locs p2 _ _ V => ?_)
  obtain ⟨rfl, I, A2, x2_0, x2_1, x2_2⟩ := p2
  have Lk := Lk.congr (A2.get 129 2 (by decide)) (A2.get 129 3 (by decide))
  have c1 : (h2 2 4).toInt ≤ ((t : Int) + 1) := by have z9 := congrArg Int32.toInt (A2.get 2 4 (by decide)); omega
  have c2 : (h2 129 2).toInt ≤ 13 * ((t : Int) + 1) := by have z9 := congrArg Int32.toInt (A2.get 129 2 (by decide)); omega
  have c3 : (h2 129 3).toInt ≤ 13 * ((t : Int) + 1) := by have z9 := congrArg Int32.toInt (A2.get 129 3 (by decide)); omega
  have e2_2 := congrArg Int32.toInt (A2.get 137 2 (by decide))
  have e2_25 := congrArg Int32.toInt (A2.get 137 25 (by decide))
  have e2_27 := congrArg Int32.toInt (A2.get 137 27 (by decide))
  have e2_82 := congrArg Int32.toInt (A2.get 137 82 (by decide))
  have E9 := x2_0
  have S9 := x2_1
  have K9 := x2_2
  refine lv_goto (tgt := 1130) hx hb dL_law_866 (by decide) ?_
  exact N _ h2 _ _ ls ⟨S, I, K, Lk, ⟨by omega, by omega, by omega⟩, E9, S9, K9, by omega, by omega, by omega, by omega⟩ V (lv_sub hl [1, 2, 3, 4, 5] rfl) (by omega)
set_option maxHeartbeats 4000000 in
set_option maxRecDepth 100000 in
theorem lc_20 {p : Program} {l : Launch} {e : Env} {s : State} {m : MethodId} {below : List Frame} {meth : Method} {c : Code} {b L : Nat} {xs : Nat → Int32} {Z : pZ} {Q : State → Prop} (hl9 : l.stackTraces = false) (M : pM Z.1 p s m #[Value.ref b] c cL_law 7 RL) (X : pXS (zB Z) s) (hX : va_X b L xs s s.heap) (hbl : b < s.heap.size) (hbA : ¬ pA (zB Z) b) (hL : L ≤ 384) {t : Nat} (ht : t < 64) {y : pY} {h : pH} {H : Heap} {locs : List Loc} {ls : Array Slot} {i : Int32} (hi : i.toInt = 6 * (t : Int)) (hiL : i.toInt + 6 ≤ (L : Int)) (J : lI t (gW Z y) h) (V : pV (gW Z y) h s.heap H locs) (hl : lv_has ls 7 [(4, .int i), (3, .ref (zB Z + 188)), (2, .ref (zB Z + 137)), (1, .ref (zB Z + 0)), (0, .ref b)]) (hph : 896 ≤ pPh (gW Z y)) (N : ∀ (y1 : pY) (h1 : pH) (H1 : Heap) (locs1 : List Loc) (ls1 : Array Slot), lI (t + 1) (gW Z y1) h1 → pV (gW Z y1) h1 s.heap H1 locs1 → lv_has ls1 7 [(4, .int i), (3, .ref (zB Z + 188)), (2, .ref (zB Z + 137)), (1, .ref (zB Z + 0)), (0, .ref b)] → 896 ≤ pPh (gW Z y1) → W p l e room_1 s m #[Value.ref b] below meth c H1 locs1 (189 + (t + 1) + (pPh (gW Z y1) - 896)) (160018 + 6 * (t + 1) + 2 * (pPh (gW Z y1) - 896)) Q (F0 m 1130 ls1 [])) : W p l e room_1 s m #[Value.ref b] below meth c H locs (189 + t + (pPh (gW Z y) - 896)) (160018 + 6 * t + 2 * (pPh (gW Z y) - 896)) Q (F0 m 869 ls []) := by
  have hx := M.1.1
  have hb := M.1.2.1
  have M := pM.to (gW Z y) rfl M
  obtain ⟨S, I, K, Lk, ⟨c1, c2, c3⟩, B0⟩ := J
  have hPm := K.ph
  refine lv_aload_n hx hb dL_law_869 rfl (lv_at hl 3 rfl) ?_
  refine gz_i (Z := (gW Z y)) Z rfl rfl (wr_S (Z := (gW Z y)) M V X (m_L_near l hl9 S I  K Lk ) km_L_near lkM_L_152 rfl hl.1 rfl (Nat.le_of_ble_eq_true rfl) ⟨Nat.le_of_ble_eq_true rfl, Nat.le_of_ble_eq_true rfl⟩ ⟨show 189 + t + (pPh (gW Z y) - 896) + (560000 - pPh (gW Z y) + 10) ≤ 600128 from by omega, show 160018 + 6 * t + 2 * (pPh (gW Z y) - 896) + (2 * (560000 - pPh (gW Z y)) + 200000) ≤ 7301098 from by omega⟩ dL_law_870) V (fun r1 y1 h1 k1 n1 H locs p1 V => ?_)
  obtain ⟨g1, K, I, A1, b1, Lk, f1, f1_2, f1_3⟩ := p1
  have S := S.gr (Z1 := (gW Z y1)) rfl g1
  have M := pM.to (gW Z y1) rfl M
  have hPm := K.ph
  have hph : 896 ≤ pPh (gW Z y1) := by omega
  have B1 := B0.cls (A1.wk (by decide))
  obtain ⟨E9, S9, K9, w2, w25, w27, w82⟩ := B1
  refine W.widen (k := 189 + (t + 1) + (pPh (gW Z y1) - 896)) (n := 160018 + 6 * (t + 1) + 2 * (pPh (gW Z y1) - 896)) (by omega) (by omega) ?_
  have c1 : (h1 2 4).toInt ≤ ((t : Int) + 1) := by omega
  have c2 : (h1 129 2).toInt ≤ 13 * ((t : Int) + 1) := by omega
  have c3 : (h1 129 3).toInt ≤ 13 * ((t : Int) + 1) := by omega
  refine lv_istore (lv' := [(5, .int r1), (4, .int i), (3, .ref (zB Z + 188)), (2, .ref (zB Z + 137)), (1, .ref (zB Z + 0)), (0, .ref b)]) hx hb dL_law_873 hl (by decide) rfl (fun ls hl => ?_)
  refine lv_aload_n hx hb dL_law_875 rfl (lv_at hl 3 rfl) ?_
  refine pk_v (pr_V (Z := (gW Z y1)) M V (m_X12_near l S I  E9 S9 K9) km_X12_near (sm_this S) pC12 lkM_L_154 rfl hl.1 rfl (Nat.le_of_ble_eq_true rfl) ⟨Nat.le_of_ble_eq_true rfl, Nat.le_of_ble_eq_true rfl⟩ ⟨show 189 + (t + 1) + (pPh (gW Z y1) - 896) + 0 ≤ 600128 from by omega, show 160018 + 6 * (t + 1) + 2 * (pPh (gW Z y1) - 896) + 0 ≤ 7301098 from by omega⟩ dL_law_876) V (fun Zr2 h2 H locs p2 _ _ V => ?_)
  obtain ⟨rfl, I, A2, x2_0, x2_1, x2_2⟩ := p2
  have Lk := Lk.congr (A2.get 129 2 (by decide)) (A2.get 129 3 (by decide))
  have c1 : (h2 2 4).toInt ≤ ((t : Int) + 1) := by have z9 := congrArg Int32.toInt (A2.get 2 4 (by decide)); omega
  have c2 : (h2 129 2).toInt ≤ 13 * ((t : Int) + 1) := by have z9 := congrArg Int32.toInt (A2.get 129 2 (by decide)); omega
  have c3 : (h2 129 3).toInt ≤ 13 * ((t : Int) + 1) := by have z9 := congrArg Int32.toInt (A2.get 129 3 (by decide)); omega
  have e2_2 := congrArg Int32.toInt (A2.get 137 2 (by decide))
  have e2_25 := congrArg Int32.toInt (A2.get 137 25 (by decide))
  have e2_27 := congrArg Int32.toInt (A2.get 137 27 (by decide))
  have e2_82 := congrArg Int32.toInt (A2.get 137 82 (by decide))
  have E9 := x2_0
  have S9 := x2_1
  have K9 := x2_2
  refine lv_goto (tgt := 1130) hx hb dL_law_879 (by decide) ?_
  exact N _ h2 _ _ ls ⟨S, I, K, Lk, ⟨by omega, by omega, by omega⟩, E9, S9, K9, by omega, by omega, by omega, by omega⟩ V (lv_sub hl [1, 2, 3, 4, 5] rfl) (by omega)
set_option maxHeartbeats 4000000 in
set_option maxRecDepth 100000 in
theorem lc_21 {p : Program} {l : Launch} {e : Env} {s : State} {m : MethodId} {below : List Frame} {meth : Method} {c : Code} {b L : Nat} {xs : Nat → Int32} {Z : pZ} {Q : State → Prop} (hl9 : l.stackTraces = false) (M : pM Z.1 p s m #[Value.ref b] c cL_law 7 RL) (X : pXS (zB Z) s) (hX : va_X b L xs s s.heap) (hbl : b < s.heap.size) (hbA : ¬ pA (zB Z) b) (hL : L ≤ 384) {t : Nat} (ht : t < 64) {y : pY} {h : pH} {H : Heap} {locs : List Loc} {ls : Array Slot} {i : Int32} (hi : i.toInt = 6 * (t : Int)) (hiL : i.toInt + 6 ≤ (L : Int)) (J : lI t (gW Z y) h) (V : pV (gW Z y) h s.heap H locs) (hl : lv_has ls 7 [(4, .int i), (3, .ref (zB Z + 188)), (2, .ref (zB Z + 137)), (1, .ref (zB Z + 0)), (0, .ref b)]) (hph : 896 ≤ pPh (gW Z y)) (N : ∀ (y1 : pY) (h1 : pH) (H1 : Heap) (locs1 : List Loc) (ls1 : Array Slot), lI (t + 1) (gW Z y1) h1 → pV (gW Z y1) h1 s.heap H1 locs1 → lv_has ls1 7 [(4, .int i), (3, .ref (zB Z + 188)), (2, .ref (zB Z + 137)), (1, .ref (zB Z + 0)), (0, .ref b)] → 896 ≤ pPh (gW Z y1) → W p l e room_1 s m #[Value.ref b] below meth c H1 locs1 (189 + (t + 1) + (pPh (gW Z y1) - 896)) (160018 + 6 * (t + 1) + 2 * (pPh (gW Z y1) - 896)) Q (F0 m 1130 ls1 [])) : W p l e room_1 s m #[Value.ref b] below meth c H locs (189 + t + (pPh (gW Z y) - 896)) (160018 + 6 * t + 2 * (pPh (gW Z y) - 896)) Q (F0 m 882 ls []) := by
  have hx := M.1.1
  have hb := M.1.2.1
  have M := pM.to (gW Z y) rfl M
  obtain ⟨S, I, K, Lk, ⟨c1, c2, c3⟩, B0⟩ := J
  have hPm := K.ph
  refine lv_aload_n hx hb dL_law_882 rfl (lv_at hl 3 rfl) ?_
  refine lv_aload_n hx hb dL_law_883 rfl (lv_at hl 4 rfl) ?_
  refine lv_iload hx hb dL_law_884 (lv_at hl 0 rfl) ?_
  refine lv_iconst (v := 1) hx hb dL_law_886 (by decide) ?_
  refine lv_iadd hx hb dL_law_887 ?_
  refine lv_topi (fun v1 ev1 => ?_)
  have tv1 : v1.toInt = i.toInt + 1 := by rw [ev1]; have z9 := pi_add (x := i) (y := 1); rw [show (1 : Int32).toInt = 1 from rfl] at z9; exact z9 (by omega)
  refine va_sld hx hb hX hbl hbA V.2.1 (pi_in (by omega)) dL_law_888 ?_
  refine lv_topi (fun a2 ea2 => ?_)
  refine pk_i (pr_V (Z := (gW Z y)) M V (m_X11_look l S I a2) km_X11_look (c_is_0 S) pC11 lkM_L_155 rfl hl.1 rfl (Nat.le_of_ble_eq_true rfl) ⟨Nat.le_of_ble_eq_true rfl, Nat.le_of_ble_eq_true rfl⟩ ⟨show 189 + t + (pPh (gW Z y) - 896) + 0 ≤ 600128 from by omega, show 160018 + 6 * t + 2 * (pPh (gW Z y) - 896) + 0 ≤ 7301098 from by omega⟩ dL_law_889) V (fun r3 Zr3 h3 H locs p3 _ _ V => ?_)
  obtain ⟨rfl, I, A3⟩ := p3
  have Lk := Lk.congr (A3.get 129 2 (by decide)) (A3.get 129 3 (by decide))
  have B1 := B0.cls (A3.wk (by decide))
  obtain ⟨E9, S9, K9, w2, w25, w27, w82⟩ := B1
  have c1 : (h3 2 4).toInt ≤ ((t : Int) + 1) := by have z9 := congrArg Int32.toInt (A3.get 2 4 (by decide)); omega
  have c2 : (h3 129 2).toInt ≤ 13 * ((t : Int) + 1) := by have z9 := congrArg Int32.toInt (A3.get 129 2 (by decide)); omega
  have c3 : (h3 129 3).toInt ≤ 13 * ((t : Int) + 1) := by have z9 := congrArg Int32.toInt (A3.get 129 3 (by decide)); omega
  refine W.widen (k := 189 + (t + 1) + (pPh (gW Z y) - 896)) (n := 160018 + 6 * (t + 1) + 2 * (pPh (gW Z y) - 896)) (by omega) (by omega) ?_
  refine lv_pop hx hb dL_law_892 rfl ?_
  refine lv_aload_n hx hb dL_law_893 rfl (lv_at hl 2 rfl) ?_
  refine lv_aload_n hx hb dL_law_894 rfl (lv_at hl 4 rfl) ?_
  refine lv_iload hx hb dL_law_895 (lv_at hl 0 rfl) ?_
  refine lv_iconst (v := 1) hx hb dL_law_897 (by decide) ?_
  refine lv_iadd hx hb dL_law_898 ?_
  refine lv_topi (fun v4 ev4 => ?_)
  have tv4 : v4.toInt = i.toInt + 1 := by rw [ev4]; have z9 := pi_add (x := i) (y := 1); rw [show (1 : Int32).toInt = 1 from rfl] at z9; exact z9 (by omega)
  refine va_sld hx hb hX hbl hbA V.2.1 (pi_in (by omega)) dL_law_899 ?_
  refine lv_topi (fun a5 ea5 => ?_)
  refine pk_i (pr_V (Z := (gW Z y)) M V (m_X12_look l S I a5 E9 S9 K9) km_X12_look (sm_this S) pC12 lkM_L_158 rfl hl.1 rfl (Nat.le_of_ble_eq_true rfl) ⟨Nat.le_of_ble_eq_true rfl, Nat.le_of_ble_eq_true rfl⟩ ⟨show 189 + (t + 1) + (pPh (gW Z y) - 896) + 0 ≤ 600128 from by omega, show 160018 + 6 * (t + 1) + 2 * (pPh (gW Z y) - 896) + 0 ≤ 7301098 from by omega⟩ dL_law_900) V (fun r6 Zr6 h6 H locs p6 _ _ V => ?_)
  obtain ⟨rfl, I, A6, x6_0, x6_1, x6_2⟩ := p6
  have Lk := Lk.congr (A6.get 129 2 (by decide)) (A6.get 129 3 (by decide))
  have c1 : (h6 2 4).toInt ≤ ((t : Int) + 1) := by have z9 := congrArg Int32.toInt (A6.get 2 4 (by decide)); omega
  have c2 : (h6 129 2).toInt ≤ 13 * ((t : Int) + 1) := by have z9 := congrArg Int32.toInt (A6.get 129 2 (by decide)); omega
  have c3 : (h6 129 3).toInt ≤ 13 * ((t : Int) + 1) := by have z9 := congrArg Int32.toInt (A6.get 129 3 (by decide)); omega
  have e6_2 := congrArg Int32.toInt (A6.get 137 2 (by decide))
  have e6_25 := congrArg Int32.toInt (A6.get 137 25 (by decide))
  have e6_27 := congrArg Int32.toInt (A6.get 137 27 (by decide))
  have e6_82 := congrArg Int32.toInt (A6.get 137 82 (by decide))
  have E9 := x6_0
  have S9 := x6_1
  have K9 := x6_2
  refine lv_pop hx hb dL_law_903 rfl ?_
  refine lv_goto (tgt := 1130) hx hb dL_law_904 (by decide) ?_
  exact N _ h6 _ _ ls ⟨S, I, K, Lk, ⟨by omega, by omega, by omega⟩, E9, S9, K9, by omega, by omega, by omega, by omega⟩ V (lv_sub hl [0, 1, 2, 3, 4] rfl) (by omega)
set_option maxHeartbeats 4000000 in
set_option maxRecDepth 100000 in
theorem lc_22 {p : Program} {l : Launch} {e : Env} {s : State} {m : MethodId} {below : List Frame} {meth : Method} {c : Code} {b L : Nat} {xs : Nat → Int32} {Z : pZ} {Q : State → Prop} (hl9 : l.stackTraces = false) (M : pM Z.1 p s m #[Value.ref b] c cL_law 7 RL) (X : pXS (zB Z) s) (hX : va_X b L xs s s.heap) (hbl : b < s.heap.size) (hbA : ¬ pA (zB Z) b) (hL : L ≤ 384) {t : Nat} (ht : t < 64) {y : pY} {h : pH} {H : Heap} {locs : List Loc} {ls : Array Slot} {i : Int32} (hi : i.toInt = 6 * (t : Int)) (hiL : i.toInt + 6 ≤ (L : Int)) (J : lI t (gW Z y) h) (V : pV (gW Z y) h s.heap H locs) (hl : lv_has ls 7 [(4, .int i), (3, .ref (zB Z + 188)), (2, .ref (zB Z + 137)), (1, .ref (zB Z + 0)), (0, .ref b)]) (hph : 896 ≤ pPh (gW Z y)) (N : ∀ (y1 : pY) (h1 : pH) (H1 : Heap) (locs1 : List Loc) (ls1 : Array Slot), lI (t + 1) (gW Z y1) h1 → pV (gW Z y1) h1 s.heap H1 locs1 → lv_has ls1 7 [(4, .int i), (3, .ref (zB Z + 188)), (2, .ref (zB Z + 137)), (1, .ref (zB Z + 0)), (0, .ref b)] → 896 ≤ pPh (gW Z y1) → W p l e room_1 s m #[Value.ref b] below meth c H1 locs1 (189 + (t + 1) + (pPh (gW Z y1) - 896)) (160018 + 6 * (t + 1) + 2 * (pPh (gW Z y1) - 896)) Q (F0 m 1130 ls1 [])) : W p l e room_1 s m #[Value.ref b] below meth c H locs (189 + t + (pPh (gW Z y) - 896)) (160018 + 6 * t + 2 * (pPh (gW Z y) - 896)) Q (F0 m 907 ls []) := by
  have hx := M.1.1
  have hb := M.1.2.1
  have M := pM.to (gW Z y) rfl M
  obtain ⟨S, I, K, Lk, ⟨c1, c2, c3⟩, B0⟩ := J
  have hPm := K.ph
  refine lv_aload_n hx hb dL_law_907 rfl (lv_at hl 3 rfl) ?_
  refine lv_aload_n hx hb dL_law_908 rfl (lv_at hl 4 rfl) ?_
  refine lv_iload hx hb dL_law_909 (lv_at hl 0 rfl) ?_
  refine lv_iconst (v := 1) hx hb dL_law_911 (by decide) ?_
  refine lv_iadd hx hb dL_law_912 ?_
  refine lv_topi (fun v1 ev1 => ?_)
  have tv1 : v1.toInt = i.toInt + 1 := by rw [ev1]; have z9 := pi_add (x := i) (y := 1); rw [show (1 : Int32).toInt = 1 from rfl] at z9; exact z9 (by omega)
  refine va_sld hx hb hX hbl hbA V.2.1 (pi_in (by omega)) dL_law_913 ?_
  refine lv_topi (fun a2 ea2 => ?_)
  refine lv_aload_n hx hb dL_law_914 rfl (lv_at hl 4 rfl) ?_
  refine lv_iload hx hb dL_law_915 (lv_at hl 0 rfl) ?_
  refine lv_iconst (v := 2) hx hb dL_law_917 (by decide) ?_
  refine lv_iadd hx hb dL_law_918 ?_
  refine lv_topi (fun v3 ev3 => ?_)
  have tv3 : v3.toInt = i.toInt + 2 := by rw [ev3]; have z9 := pi_add (x := i) (y := 2); rw [show (2 : Int32).toInt = 2 from rfl] at z9; exact z9 (by omega)
  refine va_sld hx hb hX hbl hbA V.2.1 (pi_in (by omega)) dL_law_919 ?_
  refine lv_topi (fun a4 ea4 => ?_)
  refine pk_i (pr_V (Z := (gW Z y)) M V (m_X11_place l S I a2 a4) km_X11_place (c_is_0 S) pC11 lkM_L_159 rfl hl.1 rfl (Nat.le_of_ble_eq_true rfl) ⟨Nat.le_of_ble_eq_true rfl, Nat.le_of_ble_eq_true rfl⟩ ⟨show 189 + t + (pPh (gW Z y) - 896) + 0 ≤ 600128 from by omega, show 160018 + 6 * t + 2 * (pPh (gW Z y) - 896) + 0 ≤ 7301098 from by omega⟩ dL_law_920) V (fun r5 Zr5 h5 H locs p5 _ _ V => ?_)
  obtain ⟨rfl, I, A5⟩ := p5
  have Lk := Lk.congr (A5.get 129 2 (by decide)) (A5.get 129 3 (by decide))
  have B1 := B0.cls (A5.wk (by decide))
  obtain ⟨E9, S9, K9, w2, w25, w27, w82⟩ := B1
  have c1 : (h5 2 4).toInt ≤ ((t : Int) + 1) := by have z9 := congrArg Int32.toInt (A5.get 2 4 (by decide)); omega
  have c2 : (h5 129 2).toInt ≤ 13 * ((t : Int) + 1) := by have z9 := congrArg Int32.toInt (A5.get 129 2 (by decide)); omega
  have c3 : (h5 129 3).toInt ≤ 13 * ((t : Int) + 1) := by have z9 := congrArg Int32.toInt (A5.get 129 3 (by decide)); omega
  refine W.widen (k := 189 + (t + 1) + (pPh (gW Z y) - 896)) (n := 160018 + 6 * (t + 1) + 2 * (pPh (gW Z y) - 896)) (by omega) (by omega) ?_
  refine lv_pop hx hb dL_law_923 rfl ?_
  refine lv_aload_n hx hb dL_law_924 rfl (lv_at hl 2 rfl) ?_
  refine lv_aload_n hx hb dL_law_925 rfl (lv_at hl 4 rfl) ?_
  refine lv_iload hx hb dL_law_926 (lv_at hl 0 rfl) ?_
  refine lv_iconst (v := 1) hx hb dL_law_928 (by decide) ?_
  refine lv_iadd hx hb dL_law_929 ?_
  refine lv_topi (fun v6 ev6 => ?_)
  have tv6 : v6.toInt = i.toInt + 1 := by rw [ev6]; have z9 := pi_add (x := i) (y := 1); rw [show (1 : Int32).toInt = 1 from rfl] at z9; exact z9 (by omega)
  refine va_sld hx hb hX hbl hbA V.2.1 (pi_in (by omega)) dL_law_930 ?_
  refine lv_topi (fun a7 ea7 => ?_)
  refine lv_aload_n hx hb dL_law_931 rfl (lv_at hl 4 rfl) ?_
  refine lv_iload hx hb dL_law_932 (lv_at hl 0 rfl) ?_
  refine lv_iconst (v := 2) hx hb dL_law_934 (by decide) ?_
  refine lv_iadd hx hb dL_law_935 ?_
  refine lv_topi (fun v8 ev8 => ?_)
  have tv8 : v8.toInt = i.toInt + 2 := by rw [ev8]; have z9 := pi_add (x := i) (y := 2); rw [show (2 : Int32).toInt = 2 from rfl] at z9; exact z9 (by omega)
  refine va_sld hx hb hX hbl hbA V.2.1 (pi_in (by omega)) dL_law_936 ?_
  refine lv_topi (fun a9 ea9 => ?_)
  refine pk_i (pr_V (Z := (gW Z y)) M V (m_X12_place l S I a7 a9 E9 S9 K9) km_X12_place (sm_this S) pC12 lkM_L_162 rfl hl.1 rfl (Nat.le_of_ble_eq_true rfl) ⟨Nat.le_of_ble_eq_true rfl, Nat.le_of_ble_eq_true rfl⟩ ⟨show 189 + (t + 1) + (pPh (gW Z y) - 896) + 0 ≤ 600128 from by omega, show 160018 + 6 * (t + 1) + 2 * (pPh (gW Z y) - 896) + 0 ≤ 7301098 from by omega⟩ dL_law_937) V (fun r10 Zr10 h10 H locs p10 _ _ V => ?_)
  obtain ⟨rfl, I, A10, x10_0, x10_1, x10_2⟩ := p10
  have Lk := Lk.congr (A10.get 129 2 (by decide)) (A10.get 129 3 (by decide))
  have c1 : (h10 2 4).toInt ≤ ((t : Int) + 1) := by have z9 := congrArg Int32.toInt (A10.get 2 4 (by decide)); omega
  have c2 : (h10 129 2).toInt ≤ 13 * ((t : Int) + 1) := by have z9 := congrArg Int32.toInt (A10.get 129 2 (by decide)); omega
  have c3 : (h10 129 3).toInt ≤ 13 * ((t : Int) + 1) := by have z9 := congrArg Int32.toInt (A10.get 129 3 (by decide)); omega
  have e10_2 := congrArg Int32.toInt (A10.get 137 2 (by decide))
  have e10_25 := congrArg Int32.toInt (A10.get 137 25 (by decide))
  have e10_27 := congrArg Int32.toInt (A10.get 137 27 (by decide))
  have e10_82 := congrArg Int32.toInt (A10.get 137 82 (by decide))
  have E9 := x10_0
  have S9 := x10_1
  have K9 := x10_2
  refine lv_pop hx hb dL_law_940 rfl ?_
  refine lv_goto (tgt := 1130) hx hb dL_law_941 (by decide) ?_
  exact N _ h10 _ _ ls ⟨S, I, K, Lk, ⟨by omega, by omega, by omega⟩, E9, S9, K9, by omega, by omega, by omega, by omega⟩ V (lv_sub hl [0, 1, 2, 3, 4] rfl) (by omega)
set_option maxHeartbeats 4000000 in
set_option maxRecDepth 100000 in
theorem lc_23 {p : Program} {l : Launch} {e : Env} {s : State} {m : MethodId} {below : List Frame} {meth : Method} {c : Code} {b L : Nat} {xs : Nat → Int32} {Z : pZ} {Q : State → Prop} (hl9 : l.stackTraces = false) (M : pM Z.1 p s m #[Value.ref b] c cL_law 7 RL) (X : pXS (zB Z) s) (hX : va_X b L xs s s.heap) (hbl : b < s.heap.size) (hbA : ¬ pA (zB Z) b) (hL : L ≤ 384) {t : Nat} (ht : t < 64) {y : pY} {h : pH} {H : Heap} {locs : List Loc} {ls : Array Slot} {i : Int32} (hi : i.toInt = 6 * (t : Int)) (hiL : i.toInt + 6 ≤ (L : Int)) (J : lI t (gW Z y) h) (V : pV (gW Z y) h s.heap H locs) (hl : lv_has ls 7 [(4, .int i), (3, .ref (zB Z + 188)), (2, .ref (zB Z + 137)), (1, .ref (zB Z + 0)), (0, .ref b)]) (hph : 896 ≤ pPh (gW Z y)) (N : ∀ (y1 : pY) (h1 : pH) (H1 : Heap) (locs1 : List Loc) (ls1 : Array Slot), lI (t + 1) (gW Z y1) h1 → pV (gW Z y1) h1 s.heap H1 locs1 → lv_has ls1 7 [(4, .int i), (3, .ref (zB Z + 188)), (2, .ref (zB Z + 137)), (1, .ref (zB Z + 0)), (0, .ref b)] → 896 ≤ pPh (gW Z y1) → W p l e room_1 s m #[Value.ref b] below meth c H1 locs1 (189 + (t + 1) + (pPh (gW Z y1) - 896)) (160018 + 6 * (t + 1) + 2 * (pPh (gW Z y1) - 896)) Q (F0 m 1130 ls1 [])) : W p l e room_1 s m #[Value.ref b] below meth c H locs (189 + t + (pPh (gW Z y) - 896)) (160018 + 6 * t + 2 * (pPh (gW Z y) - 896)) Q (F0 m 944 ls []) := by
  have hx := M.1.1
  have hb := M.1.2.1
  have M := pM.to (gW Z y) rfl M
  obtain ⟨S, I, K, Lk, ⟨c1, c2, c3⟩, B0⟩ := J
  have hPm := K.ph
  refine lv_aload_n hx hb dL_law_944 rfl (lv_at hl 3 rfl) ?_
  refine lv_aload_n hx hb dL_law_945 rfl (lv_at hl 4 rfl) ?_
  refine lv_iload hx hb dL_law_946 (lv_at hl 0 rfl) ?_
  refine lv_iconst (v := 1) hx hb dL_law_948 (by decide) ?_
  refine lv_iadd hx hb dL_law_949 ?_
  refine lv_topi (fun v1 ev1 => ?_)
  have tv1 : v1.toInt = i.toInt + 1 := by rw [ev1]; have z9 := pi_add (x := i) (y := 1); rw [show (1 : Int32).toInt = 1 from rfl] at z9; exact z9 (by omega)
  refine va_sld hx hb hX hbl hbA V.2.1 (pi_in (by omega)) dL_law_950 ?_
  refine lv_topi (fun a2 ea2 => ?_)
  refine pk_i (pr_V (Z := (gW Z y)) M V (m_X11_kept l S I a2) km_X11_kept (c_is_0 S) pC11 lkM_L_163 rfl hl.1 rfl (Nat.le_of_ble_eq_true rfl) ⟨Nat.le_of_ble_eq_true rfl, Nat.le_of_ble_eq_true rfl⟩ ⟨show 189 + t + (pPh (gW Z y) - 896) + 0 ≤ 600128 from by omega, show 160018 + 6 * t + 2 * (pPh (gW Z y) - 896) + 0 ≤ 7301098 from by omega⟩ dL_law_951) V (fun r3 Zr3 h3 H locs p3 _ _ V => ?_)
  obtain ⟨rfl, I, A3⟩ := p3
  have Lk := Lk.congr (A3.get 129 2 (by decide)) (A3.get 129 3 (by decide))
  have B1 := B0.cls (A3.wk (by decide))
  obtain ⟨E9, S9, K9, w2, w25, w27, w82⟩ := B1
  have c1 : (h3 2 4).toInt ≤ ((t : Int) + 1) := by have z9 := congrArg Int32.toInt (A3.get 2 4 (by decide)); omega
  have c2 : (h3 129 2).toInt ≤ 13 * ((t : Int) + 1) := by have z9 := congrArg Int32.toInt (A3.get 129 2 (by decide)); omega
  have c3 : (h3 129 3).toInt ≤ 13 * ((t : Int) + 1) := by have z9 := congrArg Int32.toInt (A3.get 129 3 (by decide)); omega
  refine W.widen (k := 189 + (t + 1) + (pPh (gW Z y) - 896)) (n := 160018 + 6 * (t + 1) + 2 * (pPh (gW Z y) - 896)) (by omega) (by omega) ?_
  refine lv_pop hx hb dL_law_954 rfl ?_
  refine lv_aload_n hx hb dL_law_955 rfl (lv_at hl 2 rfl) ?_
  refine lv_aload_n hx hb dL_law_956 rfl (lv_at hl 4 rfl) ?_
  refine lv_iload hx hb dL_law_957 (lv_at hl 0 rfl) ?_
  refine lv_iconst (v := 1) hx hb dL_law_959 (by decide) ?_
  refine lv_iadd hx hb dL_law_960 ?_
  refine lv_topi (fun v4 ev4 => ?_)
  have tv4 : v4.toInt = i.toInt + 1 := by rw [ev4]; have z9 := pi_add (x := i) (y := 1); rw [show (1 : Int32).toInt = 1 from rfl] at z9; exact z9 (by omega)
  refine va_sld hx hb hX hbl hbA V.2.1 (pi_in (by omega)) dL_law_961 ?_
  refine lv_topi (fun a5 ea5 => ?_)
  refine pk_i (pr_V (Z := (gW Z y)) M V (m_X12_kept l S I a5 E9 S9 K9) km_X12_kept (sm_this S) pC12 lkM_L_166 rfl hl.1 rfl (Nat.le_of_ble_eq_true rfl) ⟨Nat.le_of_ble_eq_true rfl, Nat.le_of_ble_eq_true rfl⟩ ⟨show 189 + (t + 1) + (pPh (gW Z y) - 896) + 0 ≤ 600128 from by omega, show 160018 + 6 * (t + 1) + 2 * (pPh (gW Z y) - 896) + 0 ≤ 7301098 from by omega⟩ dL_law_962) V (fun r6 Zr6 h6 H locs p6 _ _ V => ?_)
  obtain ⟨rfl, I, A6, x6_0, x6_1, x6_2⟩ := p6
  have Lk := Lk.congr (A6.get 129 2 (by decide)) (A6.get 129 3 (by decide))
  have c1 : (h6 2 4).toInt ≤ ((t : Int) + 1) := by have z9 := congrArg Int32.toInt (A6.get 2 4 (by decide)); omega
  have c2 : (h6 129 2).toInt ≤ 13 * ((t : Int) + 1) := by have z9 := congrArg Int32.toInt (A6.get 129 2 (by decide)); omega
  have c3 : (h6 129 3).toInt ≤ 13 * ((t : Int) + 1) := by have z9 := congrArg Int32.toInt (A6.get 129 3 (by decide)); omega
  have e6_2 := congrArg Int32.toInt (A6.get 137 2 (by decide))
  have e6_25 := congrArg Int32.toInt (A6.get 137 25 (by decide))
  have e6_27 := congrArg Int32.toInt (A6.get 137 27 (by decide))
  have e6_82 := congrArg Int32.toInt (A6.get 137 82 (by decide))
  have E9 := x6_0
  have S9 := x6_1
  have K9 := x6_2
  refine lv_pop hx hb dL_law_965 rfl ?_
  refine lv_goto (tgt := 1130) hx hb dL_law_966 (by decide) ?_
  exact N _ h6 _ _ ls ⟨S, I, K, Lk, ⟨by omega, by omega, by omega⟩, E9, S9, K9, by omega, by omega, by omega, by omega⟩ V (lv_sub hl [0, 1, 2, 3, 4] rfl) (by omega)
set_option maxHeartbeats 4000000 in
set_option maxRecDepth 100000 in
theorem lc_24 {p : Program} {l : Launch} {e : Env} {s : State} {m : MethodId} {below : List Frame} {meth : Method} {c : Code} {b L : Nat} {xs : Nat → Int32} {Z : pZ} {Q : State → Prop} (hl9 : l.stackTraces = false) (M : pM Z.1 p s m #[Value.ref b] c cL_law 7 RL) (X : pXS (zB Z) s) (hX : va_X b L xs s s.heap) (hbl : b < s.heap.size) (hbA : ¬ pA (zB Z) b) (hL : L ≤ 384) {t : Nat} (ht : t < 64) {y : pY} {h : pH} {H : Heap} {locs : List Loc} {ls : Array Slot} {i : Int32} (hi : i.toInt = 6 * (t : Int)) (hiL : i.toInt + 6 ≤ (L : Int)) (J : lI t (gW Z y) h) (V : pV (gW Z y) h s.heap H locs) (hl : lv_has ls 7 [(4, .int i), (3, .ref (zB Z + 188)), (2, .ref (zB Z + 137)), (1, .ref (zB Z + 0)), (0, .ref b)]) (hph : 896 ≤ pPh (gW Z y)) (N : ∀ (y1 : pY) (h1 : pH) (H1 : Heap) (locs1 : List Loc) (ls1 : Array Slot), lI (t + 1) (gW Z y1) h1 → pV (gW Z y1) h1 s.heap H1 locs1 → lv_has ls1 7 [(4, .int i), (3, .ref (zB Z + 188)), (2, .ref (zB Z + 137)), (1, .ref (zB Z + 0)), (0, .ref b)] → 896 ≤ pPh (gW Z y1) → W p l e room_1 s m #[Value.ref b] below meth c H1 locs1 (189 + (t + 1) + (pPh (gW Z y1) - 896)) (160018 + 6 * (t + 1) + 2 * (pPh (gW Z y1) - 896)) Q (F0 m 1130 ls1 [])) : W p l e room_1 s m #[Value.ref b] below meth c H locs (189 + t + (pPh (gW Z y) - 896)) (160018 + 6 * t + 2 * (pPh (gW Z y) - 896)) Q (F0 m 969 ls []) := by
  have hx := M.1.1
  have hb := M.1.2.1
  have M := pM.to (gW Z y) rfl M
  obtain ⟨S, I, K, Lk, ⟨c1, c2, c3⟩, B0⟩ := J
  have hPm := K.ph
  refine lv_aload_n hx hb dL_law_969 rfl (lv_at hl 3 rfl) ?_
  refine lv_aload_n hx hb dL_law_970 rfl (lv_at hl 4 rfl) ?_
  refine lv_iload hx hb dL_law_971 (lv_at hl 0 rfl) ?_
  refine lv_iconst (v := 1) hx hb dL_law_973 (by decide) ?_
  refine lv_iadd hx hb dL_law_974 ?_
  refine lv_topi (fun v1 ev1 => ?_)
  have tv1 : v1.toInt = i.toInt + 1 := by rw [ev1]; have z9 := pi_add (x := i) (y := 1); rw [show (1 : Int32).toInt = 1 from rfl] at z9; exact z9 (by omega)
  refine va_sld hx hb hX hbl hbA V.2.1 (pi_in (by omega)) dL_law_975 ?_
  refine lv_topi (fun a2 ea2 => ?_)
  refine lv_aload_n hx hb dL_law_976 rfl (lv_at hl 4 rfl) ?_
  refine lv_iload hx hb dL_law_977 (lv_at hl 0 rfl) ?_
  refine lv_iconst (v := 2) hx hb dL_law_979 (by decide) ?_
  refine lv_iadd hx hb dL_law_980 ?_
  refine lv_topi (fun v3 ev3 => ?_)
  have tv3 : v3.toInt = i.toInt + 2 := by rw [ev3]; have z9 := pi_add (x := i) (y := 2); rw [show (2 : Int32).toInt = 2 from rfl] at z9; exact z9 (by omega)
  refine va_sld hx hb hX hbl hbA V.2.1 (pi_in (by omega)) dL_law_981 ?_
  refine lv_topi (fun a4 ea4 => ?_)
  refine pk_i (pr_V (Z := (gW Z y)) M V (m_X11_text l S I a2 a4) km_X11_text (c_is_0 S) pC11 lkM_L_167 rfl hl.1 rfl (Nat.le_of_ble_eq_true rfl) ⟨Nat.le_of_ble_eq_true rfl, Nat.le_of_ble_eq_true rfl⟩ ⟨show 189 + t + (pPh (gW Z y) - 896) + 0 ≤ 600128 from by omega, show 160018 + 6 * t + 2 * (pPh (gW Z y) - 896) + 0 ≤ 7301098 from by omega⟩ dL_law_982) V (fun r5 Zr5 h5 H locs p5 _ _ V => ?_)
  obtain ⟨rfl, I, A5⟩ := p5
  have Lk := Lk.congr (A5.get 129 2 (by decide)) (A5.get 129 3 (by decide))
  have B1 := B0.cls (A5.wk (by decide))
  obtain ⟨E9, S9, K9, w2, w25, w27, w82⟩ := B1
  have c1 : (h5 2 4).toInt ≤ ((t : Int) + 1) := by have z9 := congrArg Int32.toInt (A5.get 2 4 (by decide)); omega
  have c2 : (h5 129 2).toInt ≤ 13 * ((t : Int) + 1) := by have z9 := congrArg Int32.toInt (A5.get 129 2 (by decide)); omega
  have c3 : (h5 129 3).toInt ≤ 13 * ((t : Int) + 1) := by have z9 := congrArg Int32.toInt (A5.get 129 3 (by decide)); omega
  refine W.widen (k := 189 + (t + 1) + (pPh (gW Z y) - 896)) (n := 160018 + 6 * (t + 1) + 2 * (pPh (gW Z y) - 896)) (by omega) (by omega) ?_
  refine lv_pop hx hb dL_law_985 rfl ?_
  refine lv_aload_n hx hb dL_law_986 rfl (lv_at hl 2 rfl) ?_
  refine lv_aload_n hx hb dL_law_987 rfl (lv_at hl 4 rfl) ?_
  refine lv_iload hx hb dL_law_988 (lv_at hl 0 rfl) ?_
  refine lv_iconst (v := 1) hx hb dL_law_990 (by decide) ?_
  refine lv_iadd hx hb dL_law_991 ?_
  refine lv_topi (fun v6 ev6 => ?_)
  have tv6 : v6.toInt = i.toInt + 1 := by rw [ev6]; have z9 := pi_add (x := i) (y := 1); rw [show (1 : Int32).toInt = 1 from rfl] at z9; exact z9 (by omega)
  refine va_sld hx hb hX hbl hbA V.2.1 (pi_in (by omega)) dL_law_992 ?_
  refine lv_topi (fun a7 ea7 => ?_)
  refine lv_aload_n hx hb dL_law_993 rfl (lv_at hl 4 rfl) ?_
  refine lv_iload hx hb dL_law_994 (lv_at hl 0 rfl) ?_
  refine lv_iconst (v := 2) hx hb dL_law_996 (by decide) ?_
  refine lv_iadd hx hb dL_law_997 ?_
  refine lv_topi (fun v8 ev8 => ?_)
  have tv8 : v8.toInt = i.toInt + 2 := by rw [ev8]; have z9 := pi_add (x := i) (y := 2); rw [show (2 : Int32).toInt = 2 from rfl] at z9; exact z9 (by omega)
  refine va_sld hx hb hX hbl hbA V.2.1 (pi_in (by omega)) dL_law_998 ?_
  refine lv_topi (fun a9 ea9 => ?_)
  refine pk_i (pr_V (Z := (gW Z y)) M V (m_X12_text l S I a7 a9 E9 S9 K9) km_X12_text (sm_this S) pC12 lkM_L_170 rfl hl.1 rfl (Nat.le_of_ble_eq_true rfl) ⟨Nat.le_of_ble_eq_true rfl, Nat.le_of_ble_eq_true rfl⟩ ⟨show 189 + (t + 1) + (pPh (gW Z y) - 896) + 0 ≤ 600128 from by omega, show 160018 + 6 * (t + 1) + 2 * (pPh (gW Z y) - 896) + 0 ≤ 7301098 from by omega⟩ dL_law_999) V (fun r10 Zr10 h10 H locs p10 _ _ V => ?_)
  obtain ⟨rfl, I, A10, x10_0, x10_1, x10_2⟩ := p10
  have Lk := Lk.congr (A10.get 129 2 (by decide)) (A10.get 129 3 (by decide))
  have c1 : (h10 2 4).toInt ≤ ((t : Int) + 1) := by have z9 := congrArg Int32.toInt (A10.get 2 4 (by decide)); omega
  have c2 : (h10 129 2).toInt ≤ 13 * ((t : Int) + 1) := by have z9 := congrArg Int32.toInt (A10.get 129 2 (by decide)); omega
  have c3 : (h10 129 3).toInt ≤ 13 * ((t : Int) + 1) := by have z9 := congrArg Int32.toInt (A10.get 129 3 (by decide)); omega
  have e10_2 := congrArg Int32.toInt (A10.get 137 2 (by decide))
  have e10_25 := congrArg Int32.toInt (A10.get 137 25 (by decide))
  have e10_27 := congrArg Int32.toInt (A10.get 137 27 (by decide))
  have e10_82 := congrArg Int32.toInt (A10.get 137 82 (by decide))
  have E9 := x10_0
  have S9 := x10_1
  have K9 := x10_2
  refine lv_pop hx hb dL_law_1002 rfl ?_
  refine lv_goto (tgt := 1130) hx hb dL_law_1003 (by decide) ?_
  exact N _ h10 _ _ ls ⟨S, I, K, Lk, ⟨by omega, by omega, by omega⟩, E9, S9, K9, by omega, by omega, by omega, by omega⟩ V (lv_sub hl [0, 1, 2, 3, 4] rfl) (by omega)
set_option maxHeartbeats 4000000 in
set_option maxRecDepth 100000 in
theorem lc_25 {p : Program} {l : Launch} {e : Env} {s : State} {m : MethodId} {below : List Frame} {meth : Method} {c : Code} {b L : Nat} {xs : Nat → Int32} {Z : pZ} {Q : State → Prop} (hl9 : l.stackTraces = false) (M : pM Z.1 p s m #[Value.ref b] c cL_law 7 RL) (X : pXS (zB Z) s) (hX : va_X b L xs s s.heap) (hbl : b < s.heap.size) (hbA : ¬ pA (zB Z) b) (hL : L ≤ 384) {t : Nat} (ht : t < 64) {y : pY} {h : pH} {H : Heap} {locs : List Loc} {ls : Array Slot} {i : Int32} (hi : i.toInt = 6 * (t : Int)) (hiL : i.toInt + 6 ≤ (L : Int)) (J : lI t (gW Z y) h) (V : pV (gW Z y) h s.heap H locs) (hl : lv_has ls 7 [(4, .int i), (3, .ref (zB Z + 188)), (2, .ref (zB Z + 137)), (1, .ref (zB Z + 0)), (0, .ref b)]) (hph : 896 ≤ pPh (gW Z y)) (N : ∀ (y1 : pY) (h1 : pH) (H1 : Heap) (locs1 : List Loc) (ls1 : Array Slot), lI (t + 1) (gW Z y1) h1 → pV (gW Z y1) h1 s.heap H1 locs1 → lv_has ls1 7 [(4, .int i), (3, .ref (zB Z + 188)), (2, .ref (zB Z + 137)), (1, .ref (zB Z + 0)), (0, .ref b)] → 896 ≤ pPh (gW Z y1) → W p l e room_1 s m #[Value.ref b] below meth c H1 locs1 (189 + (t + 1) + (pPh (gW Z y1) - 896)) (160018 + 6 * (t + 1) + 2 * (pPh (gW Z y1) - 896)) Q (F0 m 1130 ls1 [])) : W p l e room_1 s m #[Value.ref b] below meth c H locs (189 + t + (pPh (gW Z y) - 896)) (160018 + 6 * t + 2 * (pPh (gW Z y) - 896)) Q (F0 m 1006 ls []) := by
  have hx := M.1.1
  have hb := M.1.2.1
  have M := pM.to (gW Z y) rfl M
  obtain ⟨S, I, K, Lk, ⟨c1, c2, c3⟩, B0⟩ := J
  have hPm := K.ph
  refine lv_aload_n hx hb dL_law_1006 rfl (lv_at hl 3 rfl) ?_
  refine lv_aload_n hx hb dL_law_1007 rfl (lv_at hl 4 rfl) ?_
  refine lv_iload hx hb dL_law_1008 (lv_at hl 0 rfl) ?_
  refine lv_iconst (v := 1) hx hb dL_law_1010 (by decide) ?_
  refine lv_iadd hx hb dL_law_1011 ?_
  refine lv_topi (fun v1 ev1 => ?_)
  have tv1 : v1.toInt = i.toInt + 1 := by rw [ev1]; have z9 := pi_add (x := i) (y := 1); rw [show (1 : Int32).toInt = 1 from rfl] at z9; exact z9 (by omega)
  refine va_sld hx hb hX hbl hbA V.2.1 (pi_in (by omega)) dL_law_1012 ?_
  refine lv_topi (fun a2 ea2 => ?_)
  refine pk_i (pr_V (Z := (gW Z y)) M V (m_X11_drawn l S I a2) km_X11_drawn (c_is_0 S) pC11 lkM_L_171 rfl hl.1 rfl (Nat.le_of_ble_eq_true rfl) ⟨Nat.le_of_ble_eq_true rfl, Nat.le_of_ble_eq_true rfl⟩ ⟨show 189 + t + (pPh (gW Z y) - 896) + 0 ≤ 600128 from by omega, show 160018 + 6 * t + 2 * (pPh (gW Z y) - 896) + 0 ≤ 7301098 from by omega⟩ dL_law_1013) V (fun r3 Zr3 h3 H locs p3 _ _ V => ?_)
  obtain ⟨rfl, I, A3⟩ := p3
  have Lk := Lk.congr (A3.get 129 2 (by decide)) (A3.get 129 3 (by decide))
  have B1 := B0.cls (A3.wk (by decide))
  obtain ⟨E9, S9, K9, w2, w25, w27, w82⟩ := B1
  have c1 : (h3 2 4).toInt ≤ ((t : Int) + 1) := by have z9 := congrArg Int32.toInt (A3.get 2 4 (by decide)); omega
  have c2 : (h3 129 2).toInt ≤ 13 * ((t : Int) + 1) := by have z9 := congrArg Int32.toInt (A3.get 129 2 (by decide)); omega
  have c3 : (h3 129 3).toInt ≤ 13 * ((t : Int) + 1) := by have z9 := congrArg Int32.toInt (A3.get 129 3 (by decide)); omega
  refine W.widen (k := 189 + (t + 1) + (pPh (gW Z y) - 896)) (n := 160018 + 6 * (t + 1) + 2 * (pPh (gW Z y) - 896)) (by omega) (by omega) ?_
  refine lv_pop hx hb dL_law_1016 rfl ?_
  refine lv_aload_n hx hb dL_law_1017 rfl (lv_at hl 2 rfl) ?_
  refine lv_aload_n hx hb dL_law_1018 rfl (lv_at hl 4 rfl) ?_
  refine lv_iload hx hb dL_law_1019 (lv_at hl 0 rfl) ?_
  refine lv_iconst (v := 1) hx hb dL_law_1021 (by decide) ?_
  refine lv_iadd hx hb dL_law_1022 ?_
  refine lv_topi (fun v4 ev4 => ?_)
  have tv4 : v4.toInt = i.toInt + 1 := by rw [ev4]; have z9 := pi_add (x := i) (y := 1); rw [show (1 : Int32).toInt = 1 from rfl] at z9; exact z9 (by omega)
  refine va_sld hx hb hX hbl hbA V.2.1 (pi_in (by omega)) dL_law_1023 ?_
  refine lv_topi (fun a5 ea5 => ?_)
  refine pk_i (pr_V (Z := (gW Z y)) M V (m_X12_drawn l S I a5) km_X12_drawn (sm_this S) pC12 lkM_L_174 rfl hl.1 rfl (Nat.le_of_ble_eq_true rfl) ⟨Nat.le_of_ble_eq_true rfl, Nat.le_of_ble_eq_true rfl⟩ ⟨show 189 + (t + 1) + (pPh (gW Z y) - 896) + 0 ≤ 600128 from by omega, show 160018 + 6 * (t + 1) + 2 * (pPh (gW Z y) - 896) + 0 ≤ 7301098 from by omega⟩ dL_law_1024) V (fun r6 Zr6 h6 H locs p6 _ _ V => ?_)
  obtain ⟨rfl, I, A6⟩ := p6
  have Lk := Lk.congr (A6.get 129 2 (by decide)) (A6.get 129 3 (by decide))
  have c1 : (h6 2 4).toInt ≤ ((t : Int) + 1) := by have z9 := congrArg Int32.toInt (A6.get 2 4 (by decide)); omega
  have c2 : (h6 129 2).toInt ≤ 13 * ((t : Int) + 1) := by have z9 := congrArg Int32.toInt (A6.get 129 2 (by decide)); omega
  have c3 : (h6 129 3).toInt ≤ 13 * ((t : Int) + 1) := by have z9 := congrArg Int32.toInt (A6.get 129 3 (by decide)); omega
  have e6_2 := congrArg Int32.toInt (A6.get 137 2 (by decide))
  have e6_25 := congrArg Int32.toInt (A6.get 137 25 (by decide))
  have e6_27 := congrArg Int32.toInt (A6.get 137 27 (by decide))
  have e6_82 := congrArg Int32.toInt (A6.get 137 82 (by decide))
  have E9 := E9.agr A6 (by decide)
  have S9 := S9.agr A6 (by decide)
  have K9 := K9.agr A6 (by decide)
  refine lv_pop hx hb dL_law_1027 rfl ?_
  refine lv_goto (tgt := 1130) hx hb dL_law_1028 (by decide) ?_
  exact N _ h6 _ _ ls ⟨S, I, K, Lk, ⟨by omega, by omega, by omega⟩, E9, S9, K9, by omega, by omega, by omega, by omega⟩ V (lv_sub hl [0, 1, 2, 3, 4] rfl) (by omega)
set_option maxHeartbeats 4000000 in
set_option maxRecDepth 100000 in
theorem lc_26 {p : Program} {l : Launch} {e : Env} {s : State} {m : MethodId} {below : List Frame} {meth : Method} {c : Code} {b L : Nat} {xs : Nat → Int32} {Z : pZ} {Q : State → Prop} (hl9 : l.stackTraces = false) (M : pM Z.1 p s m #[Value.ref b] c cL_law 7 RL) (X : pXS (zB Z) s) (hX : va_X b L xs s s.heap) (hbl : b < s.heap.size) (hbA : ¬ pA (zB Z) b) (hL : L ≤ 384) {t : Nat} (ht : t < 64) {y : pY} {h : pH} {H : Heap} {locs : List Loc} {ls : Array Slot} {i : Int32} (hi : i.toInt = 6 * (t : Int)) (hiL : i.toInt + 6 ≤ (L : Int)) (J : lI t (gW Z y) h) (V : pV (gW Z y) h s.heap H locs) (hl : lv_has ls 7 [(4, .int i), (3, .ref (zB Z + 188)), (2, .ref (zB Z + 137)), (1, .ref (zB Z + 0)), (0, .ref b)]) (hph : 896 ≤ pPh (gW Z y)) (N : ∀ (y1 : pY) (h1 : pH) (H1 : Heap) (locs1 : List Loc) (ls1 : Array Slot), lI (t + 1) (gW Z y1) h1 → pV (gW Z y1) h1 s.heap H1 locs1 → lv_has ls1 7 [(4, .int i), (3, .ref (zB Z + 188)), (2, .ref (zB Z + 137)), (1, .ref (zB Z + 0)), (0, .ref b)] → 896 ≤ pPh (gW Z y1) → W p l e room_1 s m #[Value.ref b] below meth c H1 locs1 (189 + (t + 1) + (pPh (gW Z y1) - 896)) (160018 + 6 * (t + 1) + 2 * (pPh (gW Z y1) - 896)) Q (F0 m 1130 ls1 [])) : W p l e room_1 s m #[Value.ref b] below meth c H locs (189 + t + (pPh (gW Z y) - 896)) (160018 + 6 * t + 2 * (pPh (gW Z y) - 896)) Q (F0 m 1031 ls []) := by
  have hx := M.1.1
  have hb := M.1.2.1
  have M := pM.to (gW Z y) rfl M
  obtain ⟨S, I, K, Lk, ⟨c1, c2, c3⟩, B0⟩ := J
  have hPm := K.ph
  refine lv_aload_n hx hb dL_law_1031 rfl (lv_at hl 3 rfl) ?_
  refine lv_aload_n hx hb dL_law_1032 rfl (lv_at hl 4 rfl) ?_
  refine lv_iload hx hb dL_law_1033 (lv_at hl 0 rfl) ?_
  refine lv_iconst (v := 1) hx hb dL_law_1035 (by decide) ?_
  refine lv_iadd hx hb dL_law_1036 ?_
  refine lv_topi (fun v1 ev1 => ?_)
  have tv1 : v1.toInt = i.toInt + 1 := by rw [ev1]; have z9 := pi_add (x := i) (y := 1); rw [show (1 : Int32).toInt = 1 from rfl] at z9; exact z9 (by omega)
  refine va_sld hx hb hX hbl hbA V.2.1 (pi_in (by omega)) dL_law_1037 ?_
  refine lv_topi (fun a2 ea2 => ?_)
  refine lv_aload_n hx hb dL_law_1038 rfl (lv_at hl 4 rfl) ?_
  refine lv_iload hx hb dL_law_1039 (lv_at hl 0 rfl) ?_
  refine lv_iconst (v := 2) hx hb dL_law_1041 (by decide) ?_
  refine lv_iadd hx hb dL_law_1042 ?_
  refine lv_topi (fun v3 ev3 => ?_)
  have tv3 : v3.toInt = i.toInt + 2 := by rw [ev3]; have z9 := pi_add (x := i) (y := 2); rw [show (2 : Int32).toInt = 2 from rfl] at z9; exact z9 (by omega)
  refine va_sld hx hb hX hbl hbA V.2.1 (pi_in (by omega)) dL_law_1043 ?_
  refine lv_topi (fun a4 ea4 => ?_)
  refine pk_i (pr_V (Z := (gW Z y)) M V (m_X11_command l S I a2 a4 K) km_X11_command (c_is_0 S) pC11 lkM_L_175 rfl hl.1 rfl (Nat.le_of_ble_eq_true rfl) ⟨Nat.le_of_ble_eq_true rfl, Nat.le_of_ble_eq_true rfl⟩ ⟨show 189 + t + (pPh (gW Z y) - 896) + 0 ≤ 600128 from by omega, show 160018 + 6 * t + 2 * (pPh (gW Z y) - 896) + 0 ≤ 7301098 from by omega⟩ dL_law_1044) V (fun r5 Zr5 h5 H locs p5 _ _ V => ?_)
  obtain ⟨rfl, I, A5⟩ := p5
  have Lk := Lk.congr (A5.get 129 2 (by decide)) (A5.get 129 3 (by decide))
  have B1 := B0.cls (A5.wk (by decide))
  obtain ⟨E9, S9, K9, w2, w25, w27, w82⟩ := B1
  have c1 : (h5 2 4).toInt ≤ ((t : Int) + 1) := by have z9 := congrArg Int32.toInt (A5.get 2 4 (by decide)); omega
  have c2 : (h5 129 2).toInt ≤ 13 * ((t : Int) + 1) := by have z9 := congrArg Int32.toInt (A5.get 129 2 (by decide)); omega
  have c3 : (h5 129 3).toInt ≤ 13 * ((t : Int) + 1) := by have z9 := congrArg Int32.toInt (A5.get 129 3 (by decide)); omega
  refine W.widen (k := 189 + (t + 1) + (pPh (gW Z y) - 896)) (n := 160018 + 6 * (t + 1) + 2 * (pPh (gW Z y) - 896)) (by omega) (by omega) ?_
  refine lv_pop hx hb dL_law_1047 rfl ?_
  refine lv_aload_n hx hb dL_law_1048 rfl (lv_at hl 2 rfl) ?_
  refine lv_aload_n hx hb dL_law_1049 rfl (lv_at hl 4 rfl) ?_
  refine lv_iload hx hb dL_law_1050 (lv_at hl 0 rfl) ?_
  refine lv_iconst (v := 1) hx hb dL_law_1052 (by decide) ?_
  refine lv_iadd hx hb dL_law_1053 ?_
  refine lv_topi (fun v6 ev6 => ?_)
  have tv6 : v6.toInt = i.toInt + 1 := by rw [ev6]; have z9 := pi_add (x := i) (y := 1); rw [show (1 : Int32).toInt = 1 from rfl] at z9; exact z9 (by omega)
  refine va_sld hx hb hX hbl hbA V.2.1 (pi_in (by omega)) dL_law_1054 ?_
  refine lv_topi (fun a7 ea7 => ?_)
  refine lv_aload_n hx hb dL_law_1055 rfl (lv_at hl 4 rfl) ?_
  refine lv_iload hx hb dL_law_1056 (lv_at hl 0 rfl) ?_
  refine lv_iconst (v := 2) hx hb dL_law_1058 (by decide) ?_
  refine lv_iadd hx hb dL_law_1059 ?_
  refine lv_topi (fun v8 ev8 => ?_)
  have tv8 : v8.toInt = i.toInt + 2 := by rw [ev8]; have z9 := pi_add (x := i) (y := 2); rw [show (2 : Int32).toInt = 2 from rfl] at z9; exact z9 (by omega)
  refine va_sld hx hb hX hbl hbA V.2.1 (pi_in (by omega)) dL_law_1060 ?_
  refine lv_topi (fun a9 ea9 => ?_)
  refine pk_i (pr_V (Z := (gW Z y)) M V (m_X12_command l S I a7 a9) km_X12_command (sm_this S) pC12 lkM_L_178 rfl hl.1 rfl (Nat.le_of_ble_eq_true rfl) ⟨Nat.le_of_ble_eq_true rfl, Nat.le_of_ble_eq_true rfl⟩ ⟨show 189 + (t + 1) + (pPh (gW Z y) - 896) + 0 ≤ 600128 from by omega, show 160018 + 6 * (t + 1) + 2 * (pPh (gW Z y) - 896) + 0 ≤ 7301098 from by omega⟩ dL_law_1061) V (fun r10 Zr10 h10 H locs p10 _ _ V => ?_)
  obtain ⟨rfl, I, A10⟩ := p10
  have Lk := Lk.congr (A10.get 129 2 (by decide)) (A10.get 129 3 (by decide))
  have c1 : (h10 2 4).toInt ≤ ((t : Int) + 1) := by have z9 := congrArg Int32.toInt (A10.get 2 4 (by decide)); omega
  have c2 : (h10 129 2).toInt ≤ 13 * ((t : Int) + 1) := by have z9 := congrArg Int32.toInt (A10.get 129 2 (by decide)); omega
  have c3 : (h10 129 3).toInt ≤ 13 * ((t : Int) + 1) := by have z9 := congrArg Int32.toInt (A10.get 129 3 (by decide)); omega
  have e10_2 := congrArg Int32.toInt (A10.get 137 2 (by decide))
  have e10_25 := congrArg Int32.toInt (A10.get 137 25 (by decide))
  have e10_27 := congrArg Int32.toInt (A10.get 137 27 (by decide))
  have e10_82 := congrArg Int32.toInt (A10.get 137 82 (by decide))
  have E9 := E9.agr A10 (by decide)
  have S9 := S9.agr A10 (by decide)
  have K9 := K9.agr A10 (by decide)
  refine lv_pop hx hb dL_law_1064 rfl ?_
  refine lv_goto (tgt := 1130) hx hb dL_law_1065 (by decide) ?_
  exact N _ h10 _ _ ls ⟨S, I, K, Lk, ⟨by omega, by omega, by omega⟩, E9, S9, K9, by omega, by omega, by omega, by omega⟩ V (lv_sub hl [0, 1, 2, 3, 4] rfl) (by omega)
set_option maxHeartbeats 4000000 in
set_option maxRecDepth 100000 in
theorem lc_27 {p : Program} {l : Launch} {e : Env} {s : State} {m : MethodId} {below : List Frame} {meth : Method} {c : Code} {b L : Nat} {xs : Nat → Int32} {Z : pZ} {Q : State → Prop} (hl9 : l.stackTraces = false) (M : pM Z.1 p s m #[Value.ref b] c cL_law 7 RL) (X : pXS (zB Z) s) (hX : va_X b L xs s s.heap) (hbl : b < s.heap.size) (hbA : ¬ pA (zB Z) b) (hL : L ≤ 384) {t : Nat} (ht : t < 64) {y : pY} {h : pH} {H : Heap} {locs : List Loc} {ls : Array Slot} {i : Int32} (hi : i.toInt = 6 * (t : Int)) (hiL : i.toInt + 6 ≤ (L : Int)) (J : lI t (gW Z y) h) (V : pV (gW Z y) h s.heap H locs) (hl : lv_has ls 7 [(4, .int i), (3, .ref (zB Z + 188)), (2, .ref (zB Z + 137)), (1, .ref (zB Z + 0)), (0, .ref b)]) (hph : 896 ≤ pPh (gW Z y)) (N : ∀ (y1 : pY) (h1 : pH) (H1 : Heap) (locs1 : List Loc) (ls1 : Array Slot), lI (t + 1) (gW Z y1) h1 → pV (gW Z y1) h1 s.heap H1 locs1 → lv_has ls1 7 [(4, .int i), (3, .ref (zB Z + 188)), (2, .ref (zB Z + 137)), (1, .ref (zB Z + 0)), (0, .ref b)] → 896 ≤ pPh (gW Z y1) → W p l e room_1 s m #[Value.ref b] below meth c H1 locs1 (189 + (t + 1) + (pPh (gW Z y1) - 896)) (160018 + 6 * (t + 1) + 2 * (pPh (gW Z y1) - 896)) Q (F0 m 1130 ls1 [])) : W p l e room_1 s m #[Value.ref b] below meth c H locs (189 + t + (pPh (gW Z y) - 896)) (160018 + 6 * t + 2 * (pPh (gW Z y) - 896)) Q (F0 m 1068 ls []) := by
  have hx := M.1.1
  have hb := M.1.2.1
  have M := pM.to (gW Z y) rfl M
  obtain ⟨S, I, K, Lk, ⟨c1, c2, c3⟩, B0⟩ := J
  have hPm := K.ph
  refine lv_aload_n hx hb dL_law_1068 rfl (lv_at hl 3 rfl) ?_
  refine lv_aload_n hx hb dL_law_1069 rfl (lv_at hl 4 rfl) ?_
  refine lv_iload hx hb dL_law_1070 (lv_at hl 0 rfl) ?_
  refine lv_iconst (v := 1) hx hb dL_law_1072 (by decide) ?_
  refine lv_iadd hx hb dL_law_1073 ?_
  refine lv_topi (fun v1 ev1 => ?_)
  have tv1 : v1.toInt = i.toInt + 1 := by rw [ev1]; have z9 := pi_add (x := i) (y := 1); rw [show (1 : Int32).toInt = 1 from rfl] at z9; exact z9 (by omega)
  refine va_sld hx hb hX hbl hbA V.2.1 (pi_in (by omega)) dL_law_1074 ?_
  refine lv_topi (fun a2 ea2 => ?_)
  refine pk_i (sr_V (Z := (gW Z y)) M V X (m_X11_index l S I a2 K) km_X11_index (c_is_0 S) pC11 lkM_L_179 rfl hl.1 rfl (Nat.le_of_ble_eq_true rfl) ⟨Nat.le_of_ble_eq_true rfl, Nat.le_of_ble_eq_true rfl⟩ ⟨show 189 + t + (pPh (gW Z y) - 896) + 0 ≤ 600128 from by omega, show 160018 + 6 * t + 2 * (pPh (gW Z y) - 896) + 0 ≤ 7301098 from by omega⟩ dL_law_1075) V (fun r3 Zr3 h3 H locs p3 _ _ V => ?_)
  obtain ⟨rfl, I, A3⟩ := p3
  have Lk := Lk.congr (A3.get 129 2 (by decide)) (A3.get 129 3 (by decide))
  have B1 := B0.cls (A3.wk (by decide))
  obtain ⟨E9, S9, K9, w2, w25, w27, w82⟩ := B1
  have c1 : (h3 2 4).toInt ≤ ((t : Int) + 1) := by have z9 := congrArg Int32.toInt (A3.get 2 4 (by decide)); omega
  have c2 : (h3 129 2).toInt ≤ 13 * ((t : Int) + 1) := by have z9 := congrArg Int32.toInt (A3.get 129 2 (by decide)); omega
  have c3 : (h3 129 3).toInt ≤ 13 * ((t : Int) + 1) := by have z9 := congrArg Int32.toInt (A3.get 129 3 (by decide)); omega
  refine W.widen (k := 189 + (t + 1) + (pPh (gW Z y) - 896)) (n := 160018 + 6 * (t + 1) + 2 * (pPh (gW Z y) - 896)) (by omega) (by omega) ?_
  refine lv_pop hx hb dL_law_1078 rfl ?_
  refine lv_aload_n hx hb dL_law_1079 rfl (lv_at hl 2 rfl) ?_
  refine lv_aload_n hx hb dL_law_1080 rfl (lv_at hl 4 rfl) ?_
  refine lv_iload hx hb dL_law_1081 (lv_at hl 0 rfl) ?_
  refine lv_iconst (v := 1) hx hb dL_law_1083 (by decide) ?_
  refine lv_iadd hx hb dL_law_1084 ?_
  refine lv_topi (fun v4 ev4 => ?_)
  have tv4 : v4.toInt = i.toInt + 1 := by rw [ev4]; have z9 := pi_add (x := i) (y := 1); rw [show (1 : Int32).toInt = 1 from rfl] at z9; exact z9 (by omega)
  refine va_sld hx hb hX hbl hbA V.2.1 (pi_in (by omega)) dL_law_1085 ?_
  refine lv_topi (fun a5 ea5 => ?_)
  refine pk_i (pr_V (Z := (gW Z y)) M V (m_X12_index l S I a5) km_X12_index (sm_this S) pC12 lkM_L_182 rfl hl.1 rfl (Nat.le_of_ble_eq_true rfl) ⟨Nat.le_of_ble_eq_true rfl, Nat.le_of_ble_eq_true rfl⟩ ⟨show 189 + (t + 1) + (pPh (gW Z y) - 896) + 0 ≤ 600128 from by omega, show 160018 + 6 * (t + 1) + 2 * (pPh (gW Z y) - 896) + 0 ≤ 7301098 from by omega⟩ dL_law_1086) V (fun r6 Zr6 h6 H locs p6 _ _ V => ?_)
  obtain ⟨rfl, I, A6⟩ := p6
  have Lk := Lk.congr (A6.get 129 2 (by decide)) (A6.get 129 3 (by decide))
  have c1 : (h6 2 4).toInt ≤ ((t : Int) + 1) := by have z9 := congrArg Int32.toInt (A6.get 2 4 (by decide)); omega
  have c2 : (h6 129 2).toInt ≤ 13 * ((t : Int) + 1) := by have z9 := congrArg Int32.toInt (A6.get 129 2 (by decide)); omega
  have c3 : (h6 129 3).toInt ≤ 13 * ((t : Int) + 1) := by have z9 := congrArg Int32.toInt (A6.get 129 3 (by decide)); omega
  have e6_2 := congrArg Int32.toInt (A6.get 137 2 (by decide))
  have e6_25 := congrArg Int32.toInt (A6.get 137 25 (by decide))
  have e6_27 := congrArg Int32.toInt (A6.get 137 27 (by decide))
  have e6_82 := congrArg Int32.toInt (A6.get 137 82 (by decide))
  have E9 := E9.agr A6 (by decide)
  have S9 := S9.agr A6 (by decide)
  have K9 := K9.agr A6 (by decide)
  refine lv_pop hx hb dL_law_1089 rfl ?_
  refine lv_goto (tgt := 1130) hx hb dL_law_1090 (by decide) ?_
  exact N _ h6 _ _ ls ⟨S, I, K, Lk, ⟨by omega, by omega, by omega⟩, E9, S9, K9, by omega, by omega, by omega, by omega⟩ V (lv_sub hl [0, 1, 2, 3, 4] rfl) (by omega)
set_option maxHeartbeats 4000000 in
set_option maxRecDepth 100000 in
theorem lc_28 {p : Program} {l : Launch} {e : Env} {s : State} {m : MethodId} {below : List Frame} {meth : Method} {c : Code} {b L : Nat} {xs : Nat → Int32} {Z : pZ} {Q : State → Prop} (hl9 : l.stackTraces = false) (M : pM Z.1 p s m #[Value.ref b] c cL_law 7 RL) (X : pXS (zB Z) s) (hX : va_X b L xs s s.heap) (hbl : b < s.heap.size) (hbA : ¬ pA (zB Z) b) (hL : L ≤ 384) {t : Nat} (ht : t < 64) {y : pY} {h : pH} {H : Heap} {locs : List Loc} {ls : Array Slot} {i : Int32} (hi : i.toInt = 6 * (t : Int)) (hiL : i.toInt + 6 ≤ (L : Int)) (J : lI t (gW Z y) h) (V : pV (gW Z y) h s.heap H locs) (hl : lv_has ls 7 [(4, .int i), (3, .ref (zB Z + 188)), (2, .ref (zB Z + 137)), (1, .ref (zB Z + 0)), (0, .ref b)]) (hph : 896 ≤ pPh (gW Z y)) (N : ∀ (y1 : pY) (h1 : pH) (H1 : Heap) (locs1 : List Loc) (ls1 : Array Slot), lI (t + 1) (gW Z y1) h1 → pV (gW Z y1) h1 s.heap H1 locs1 → lv_has ls1 7 [(4, .int i), (3, .ref (zB Z + 188)), (2, .ref (zB Z + 137)), (1, .ref (zB Z + 0)), (0, .ref b)] → 896 ≤ pPh (gW Z y1) → W p l e room_1 s m #[Value.ref b] below meth c H1 locs1 (189 + (t + 1) + (pPh (gW Z y1) - 896)) (160018 + 6 * (t + 1) + 2 * (pPh (gW Z y1) - 896)) Q (F0 m 1130 ls1 [])) : W p l e room_1 s m #[Value.ref b] below meth c H locs (189 + t + (pPh (gW Z y) - 896)) (160018 + 6 * t + 2 * (pPh (gW Z y) - 896)) Q (F0 m 1093 ls []) := by
  have hx := M.1.1
  have hb := M.1.2.1
  have M := pM.to (gW Z y) rfl M
  obtain ⟨S, I, K, Lk, ⟨c1, c2, c3⟩, B0⟩ := J
  have hPm := K.ph
  refine lv_aload_n hx hb dL_law_1093 rfl (lv_at hl 3 rfl) ?_
  refine lv_aload_n hx hb dL_law_1094 rfl (lv_at hl 4 rfl) ?_
  refine lv_iload hx hb dL_law_1095 (lv_at hl 0 rfl) ?_
  refine lv_iconst (v := 1) hx hb dL_law_1097 (by decide) ?_
  refine lv_iadd hx hb dL_law_1098 ?_
  refine lv_topi (fun v1 ev1 => ?_)
  have tv1 : v1.toInt = i.toInt + 1 := by rw [ev1]; have z9 := pi_add (x := i) (y := 1); rw [show (1 : Int32).toInt = 1 from rfl] at z9; exact z9 (by omega)
  refine va_sld hx hb hX hbl hbA V.2.1 (pi_in (by omega)) dL_law_1099 ?_
  refine lv_topi (fun a2 ea2 => ?_)
  refine lv_aload_n hx hb dL_law_1100 rfl (lv_at hl 4 rfl) ?_
  refine lv_iload hx hb dL_law_1101 (lv_at hl 0 rfl) ?_
  refine lv_iconst (v := 2) hx hb dL_law_1103 (by decide) ?_
  refine lv_iadd hx hb dL_law_1104 ?_
  refine lv_topi (fun v3 ev3 => ?_)
  have tv3 : v3.toInt = i.toInt + 2 := by rw [ev3]; have z9 := pi_add (x := i) (y := 2); rw [show (2 : Int32).toInt = 2 from rfl] at z9; exact z9 (by omega)
  refine va_sld hx hb hX hbl hbA V.2.1 (pi_in (by omega)) dL_law_1105 ?_
  refine lv_topi (fun a4 ea4 => ?_)
  refine pk_i (pr_V (Z := (gW Z y)) M V (m_X11_vertex l S I a2 a4 K) km_X11_vertex (c_is_0 S) pC11 lkM_L_183 rfl hl.1 rfl (Nat.le_of_ble_eq_true rfl) ⟨Nat.le_of_ble_eq_true rfl, Nat.le_of_ble_eq_true rfl⟩ ⟨show 189 + t + (pPh (gW Z y) - 896) + 0 ≤ 600128 from by omega, show 160018 + 6 * t + 2 * (pPh (gW Z y) - 896) + 0 ≤ 7301098 from by omega⟩ dL_law_1106) V (fun r5 Zr5 h5 H locs p5 _ _ V => ?_)
  obtain ⟨rfl, I, A5⟩ := p5
  have Lk := Lk.congr (A5.get 129 2 (by decide)) (A5.get 129 3 (by decide))
  have B1 := B0.cls (A5.wk (by decide))
  obtain ⟨E9, S9, K9, w2, w25, w27, w82⟩ := B1
  have c1 : (h5 2 4).toInt ≤ ((t : Int) + 1) := by have z9 := congrArg Int32.toInt (A5.get 2 4 (by decide)); omega
  have c2 : (h5 129 2).toInt ≤ 13 * ((t : Int) + 1) := by have z9 := congrArg Int32.toInt (A5.get 129 2 (by decide)); omega
  have c3 : (h5 129 3).toInt ≤ 13 * ((t : Int) + 1) := by have z9 := congrArg Int32.toInt (A5.get 129 3 (by decide)); omega
  refine W.widen (k := 189 + (t + 1) + (pPh (gW Z y) - 896)) (n := 160018 + 6 * (t + 1) + 2 * (pPh (gW Z y) - 896)) (by omega) (by omega) ?_
  refine lv_pop hx hb dL_law_1109 rfl ?_
  refine lv_aload_n hx hb dL_law_1110 rfl (lv_at hl 2 rfl) ?_
  refine lv_aload_n hx hb dL_law_1111 rfl (lv_at hl 4 rfl) ?_
  refine lv_iload hx hb dL_law_1112 (lv_at hl 0 rfl) ?_
  refine lv_iconst (v := 1) hx hb dL_law_1114 (by decide) ?_
  refine lv_iadd hx hb dL_law_1115 ?_
  refine lv_topi (fun v6 ev6 => ?_)
  have tv6 : v6.toInt = i.toInt + 1 := by rw [ev6]; have z9 := pi_add (x := i) (y := 1); rw [show (1 : Int32).toInt = 1 from rfl] at z9; exact z9 (by omega)
  refine va_sld hx hb hX hbl hbA V.2.1 (pi_in (by omega)) dL_law_1116 ?_
  refine lv_topi (fun a7 ea7 => ?_)
  refine lv_aload_n hx hb dL_law_1117 rfl (lv_at hl 4 rfl) ?_
  refine lv_iload hx hb dL_law_1118 (lv_at hl 0 rfl) ?_
  refine lv_iconst (v := 2) hx hb dL_law_1120 (by decide) ?_
  refine lv_iadd hx hb dL_law_1121 ?_
  refine lv_topi (fun v8 ev8 => ?_)
  have tv8 : v8.toInt = i.toInt + 2 := by rw [ev8]; have z9 := pi_add (x := i) (y := 2); rw [show (2 : Int32).toInt = 2 from rfl] at z9; exact z9 (by omega)
  refine va_sld hx hb hX hbl hbA V.2.1 (pi_in (by omega)) dL_law_1122 ?_
  refine lv_topi (fun a9 ea9 => ?_)
  refine pk_i (pr_V (Z := (gW Z y)) M V (m_X12_vertex l S I a7 a9 E9 S9 K9) km_X12_vertex (sm_this S) pC12 lkM_L_186 rfl hl.1 rfl (Nat.le_of_ble_eq_true rfl) ⟨Nat.le_of_ble_eq_true rfl, Nat.le_of_ble_eq_true rfl⟩ ⟨show 189 + (t + 1) + (pPh (gW Z y) - 896) + 0 ≤ 600128 from by omega, show 160018 + 6 * (t + 1) + 2 * (pPh (gW Z y) - 896) + 0 ≤ 7301098 from by omega⟩ dL_law_1123) V (fun r10 Zr10 h10 H locs p10 _ _ V => ?_)
  obtain ⟨rfl, I, A10, x10_0, x10_1, x10_2⟩ := p10
  have Lk := Lk.congr (A10.get 129 2 (by decide)) (A10.get 129 3 (by decide))
  have c1 : (h10 2 4).toInt ≤ ((t : Int) + 1) := by have z9 := congrArg Int32.toInt (A10.get 2 4 (by decide)); omega
  have c2 : (h10 129 2).toInt ≤ 13 * ((t : Int) + 1) := by have z9 := congrArg Int32.toInt (A10.get 129 2 (by decide)); omega
  have c3 : (h10 129 3).toInt ≤ 13 * ((t : Int) + 1) := by have z9 := congrArg Int32.toInt (A10.get 129 3 (by decide)); omega
  have e10_2 := congrArg Int32.toInt (A10.get 137 2 (by decide))
  have e10_25 := congrArg Int32.toInt (A10.get 137 25 (by decide))
  have e10_27 := congrArg Int32.toInt (A10.get 137 27 (by decide))
  have e10_82 := congrArg Int32.toInt (A10.get 137 82 (by decide))
  have E9 := x10_0
  have S9 := x10_1
  have K9 := x10_2
  refine lv_pop hx hb dL_law_1126 rfl ?_
  refine lv_goto (tgt := 1130) hx hb dL_law_1127 (by decide) ?_
  exact N _ h10 _ _ ls ⟨S, I, K, Lk, ⟨by omega, by omega, by omega⟩, E9, S9, K9, by omega, by omega, by omega, by omega⟩ V (lv_sub hl [0, 1, 2, 3, 4] rfl) (by omega)
