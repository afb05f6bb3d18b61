/-! the law's calls, one by one -/
set_option maxHeartbeats 4000000 in
set_option maxRecDepth 100000 in
theorem lc_0 {p : Program} {l : Launch} {e : Env} {s : State} {m : MethodId} {below : List Frame} {meth : Method} {c : Code} {b L : Nat} {xs : Nat → Int32} {Z : pZ} {Q : State → Prop} (hl9 : l.stackTraces = false) (M : pM Z.1 p s m #[Value.ref b] c cL_law 7 RL) (X : pXS (zB Z) s) (hX : va_X b L xs s s.heap) (hbl : b < s.heap.size) (hbA : ¬ pA (zB Z) b) (hL : L ≤ 384) {t : Nat} (ht : t < 64) {y : pY} {h : pH} {H : Heap} {locs : List Loc} {ls : Array Slot} {i : Int32} (hi : i.toInt = 6 * (t : Int)) (hiL : i.toInt + 6 ≤ (L : Int)) (J : lI t (gW Z y) h) (V : pV (gW Z y) h s.heap H locs) (hl : lv_has ls 7 [(4, .int i), (3, .ref (zB Z + 188)), (2, .ref (zB Z + 137)), (1, .ref (zB Z + 0)), (0, .ref b)]) (hph : 896 ≤ pPh (gW Z y)) (N : ∀ (y1 : pY) (h1 : pH) (H1 : Heap) (locs1 : List Loc) (ls1 : Array Slot), lI (t + 1) (gW Z y1) h1 → pV (gW Z y1) h1 s.heap H1 locs1 → lv_has ls1 7 [(4, .int i), (3, .ref (zB Z + 188)), (2, .ref (zB Z + 137)), (1, .ref (zB Z + 0)), (0, .ref b)] → 896 ≤ pPh (gW Z y1) → W p l e room_1 s m #[Value.ref b] below meth c H1 locs1 (189 + (t + 1) + (pPh (gW Z y1) - 896)) (160018 + 6 * (t + 1) + 2 * (pPh (gW Z y1) - 896)) Q (F0 m 1130 ls1 [])) : W p l e room_1 s m #[Value.ref b] below meth c H locs (189 + t + (pPh (gW Z y) - 896)) (160018 + 6 * t + 2 * (pPh (gW Z y) - 896)) Q (F0 m 172 ls []) := by
  have hx := M.1.1
  have hb := M.1.2.1
  have M := pM.to (gW Z y) rfl M
  obtain ⟨S, I, K, Lk, ⟨c1, c2, c3⟩, B0⟩ := J
  have hPm := K.ph
  refine lv_aload_n hx hb dL_law_172 rfl (lv_at hl 3 rfl) ?_
  refine lv_aload_n hx hb dL_law_173 rfl (lv_at hl 4 rfl) ?_
  refine lv_iload hx hb dL_law_174 (lv_at hl 0 rfl) ?_
  refine lv_iconst (v := 1) hx hb dL_law_176 (by decide) ?_
  refine lv_iadd hx hb dL_law_177 ?_
  refine lv_topi (fun v1 ev1 => ?_)
  have tv1 : v1.toInt = i.toInt + 1 := by rw [ev1]; have z9 := pi_add (x := i) (y := 1); rw [show (1 : Int32).toInt = 1 from rfl] at z9; exact z9 (by omega)
  refine va_sld hx hb hX hbl hbA V.2.1 (pi_in (by omega)) dL_law_178 ?_
  refine lv_topi (fun a2 ea2 => ?_)
  refine lv_aload_n hx hb dL_law_179 rfl (lv_at hl 4 rfl) ?_
  refine lv_iload hx hb dL_law_180 (lv_at hl 0 rfl) ?_
  refine lv_iconst (v := 2) hx hb dL_law_182 (by decide) ?_
  refine lv_iadd hx hb dL_law_183 ?_
  refine lv_topi (fun v3 ev3 => ?_)
  have tv3 : v3.toInt = i.toInt + 2 := by rw [ev3]; have z9 := pi_add (x := i) (y := 2); rw [show (2 : Int32).toInt = 2 from rfl] at z9; exact z9 (by omega)
  refine va_sld hx hb hX hbl hbA V.2.1 (pi_in (by omega)) dL_law_184 ?_
  refine lv_topi (fun a4 ea4 => ?_)
  refine pk_i (pr_V (Z := (gW Z y)) M V (m_X11_point l S I a2 a4) km_X11_point (c_is_0 S) pC11 lkM_L_72 rfl hl.1 rfl (Nat.le_of_ble_eq_true rfl) ⟨Nat.le_of_ble_eq_true rfl, Nat.le_of_ble_eq_true rfl⟩ ⟨show 189 + t + (pPh (gW Z y) - 896) + 0 ≤ 600128 from by omega, show 160018 + 6 * t + 2 * (pPh (gW Z y) - 896) + 0 ≤ 7301098 from by omega⟩ dL_law_185) V (fun r5 Zr5 h5 H locs p5 _ _ V => ?_)
  obtain ⟨rfl, I, A5, f5_0, f5_1, f5_2⟩ := p5
  have Lk := Lk.congr (A5.get 129 2 (by decide)) (A5.get 129 3 (by decide))
  have B1 := B0.cls (A5.wk (by decide))
  obtain ⟨E9, S9, K9, w2, w25, w27, w82⟩ := B1
  have c1 : (h5 2 4).toInt ≤ ((t : Int) + 1) := by omega
  have c2 : (h5 129 2).toInt ≤ 13 * ((t : Int) + 1) := by have z9 := congrArg Int32.toInt (A5.get 129 2 (by decide)); omega
  have c3 : (h5 129 3).toInt ≤ 13 * ((t : Int) + 1) := by have z9 := congrArg Int32.toInt (A5.get 129 3 (by decide)); omega
  refine W.widen (k := 189 + (t + 1) + (pPh (gW Z y) - 896)) (n := 160018 + 6 * (t + 1) + 2 * (pPh (gW Z y) - 896)) (by omega) (by omega) ?_
  refine lv_pop hx hb dL_law_188 rfl ?_
  refine lv_aload_n hx hb dL_law_189 rfl (lv_at hl 2 rfl) ?_
  refine lv_aload_n hx hb dL_law_190 rfl (lv_at hl 4 rfl) ?_
  refine lv_iload hx hb dL_law_191 (lv_at hl 0 rfl) ?_
  refine lv_iconst (v := 1) hx hb dL_law_193 (by decide) ?_
  refine lv_iadd hx hb dL_law_194 ?_
  refine lv_topi (fun v6 ev6 => ?_)
  have tv6 : v6.toInt = i.toInt + 1 := by rw [ev6]; have z9 := pi_add (x := i) (y := 1); rw [show (1 : Int32).toInt = 1 from rfl] at z9; exact z9 (by omega)
  refine va_sld hx hb hX hbl hbA V.2.1 (pi_in (by omega)) dL_law_195 ?_
  refine lv_topi (fun a7 ea7 => ?_)
  refine lv_aload_n hx hb dL_law_196 rfl (lv_at hl 4 rfl) ?_
  refine lv_iload hx hb dL_law_197 (lv_at hl 0 rfl) ?_
  refine lv_iconst (v := 2) hx hb dL_law_199 (by decide) ?_
  refine lv_iadd hx hb dL_law_200 ?_
  refine lv_topi (fun v8 ev8 => ?_)
  have tv8 : v8.toInt = i.toInt + 2 := by rw [ev8]; have z9 := pi_add (x := i) (y := 2); rw [show (2 : Int32).toInt = 2 from rfl] at z9; exact z9 (by omega)
  refine va_sld hx hb hX hbl hbA V.2.1 (pi_in (by omega)) dL_law_201 ?_
  refine lv_topi (fun a9 ea9 => ?_)
  refine pk_i (pr_V (Z := (gW Z y)) M V (m_X12_point l S I a7 a9) km_X12_point (sm_this S) pC12 lkM_L_75 rfl hl.1 rfl (Nat.le_of_ble_eq_true rfl) ⟨Nat.le_of_ble_eq_true rfl, Nat.le_of_ble_eq_true rfl⟩ ⟨show 189 + (t + 1) + (pPh (gW Z y) - 896) + 0 ≤ 600128 from by omega, show 160018 + 6 * (t + 1) + 2 * (pPh (gW Z y) - 896) + 0 ≤ 7301098 from by omega⟩ dL_law_202) V (fun r10 Zr10 h10 H locs p10 _ _ V => ?_)
  obtain ⟨rfl, I, A10, x10_0, x10_1, x10_2, x10_3⟩ := p10
  have Lk := Lk.congr (A10.get 129 2 (by decide)) (A10.get 129 3 (by decide))
  have c1 : (h10 2 4).toInt ≤ ((t : Int) + 1) := by have z9 := congrArg Int32.toInt (A10.get 2 4 (by decide)); omega
  have c2 : (h10 129 2).toInt ≤ 13 * ((t : Int) + 1) := by have z9 := congrArg Int32.toInt (A10.get 129 2 (by decide)); omega
  have c3 : (h10 129 3).toInt ≤ 13 * ((t : Int) + 1) := by have z9 := congrArg Int32.toInt (A10.get 129 3 (by decide)); omega
  have e10_25 := congrArg Int32.toInt (A10.get 137 25 (by decide))
  have e10_27 := congrArg Int32.toInt (A10.get 137 27 (by decide))
  have e10_82 := congrArg Int32.toInt (A10.get 137 82 (by decide))
  have E9 := x10_2 E9
  have S9 := S9.agr A10 (by decide)
  have K9 := K9.agr A10 (by decide)
  refine lv_pop hx hb dL_law_205 rfl ?_
  refine lv_goto (tgt := 1130) hx hb dL_law_206 (by decide) ?_
  exact N _ h10 _ _ ls ⟨S, I, K, Lk, ⟨by omega, by omega, by omega⟩, E9, S9, K9, by omega, by omega, by omega, by omega⟩ V (lv_sub hl [0, 1, 2, 3, 4] rfl) (by omega)
set_option maxHeartbeats 4000000 in
set_option maxRecDepth 100000 in
theorem lc_1 {p : Program} {l : Launch} {e : Env} {s : State} {m : MethodId} {below : List Frame} {meth : Method} {c : Code} {b L : Nat} {xs : Nat → Int32} {Z : pZ} {Q : State → Prop} (hl9 : l.stackTraces = false) (M : pM Z.1 p s m #[Value.ref b] c cL_law 7 RL) (X : pXS (zB Z) s) (hX : va_X b L xs s s.heap) (hbl : b < s.heap.size) (hbA : ¬ pA (zB Z) b) (hL : L ≤ 384) {t : Nat} (ht : t < 64) {y : pY} {h : pH} {H : Heap} {locs : List Loc} {ls : Array Slot} {i : Int32} (hi : i.toInt = 6 * (t : Int)) (hiL : i.toInt + 6 ≤ (L : Int)) (J : lI t (gW Z y) h) (V : pV (gW Z y) h s.heap H locs) (hl : lv_has ls 7 [(4, .int i), (3, .ref (zB Z + 188)), (2, .ref (zB Z + 137)), (1, .ref (zB Z + 0)), (0, .ref b)]) (hph : 896 ≤ pPh (gW Z y)) (N : ∀ (y1 : pY) (h1 : pH) (H1 : Heap) (locs1 : List Loc) (ls1 : Array Slot), lI (t + 1) (gW Z y1) h1 → pV (gW Z y1) h1 s.heap H1 locs1 → lv_has ls1 7 [(4, .int i), (3, .ref (zB Z + 188)), (2, .ref (zB Z + 137)), (1, .ref (zB Z + 0)), (0, .ref b)] → 896 ≤ pPh (gW Z y1) → W p l e room_1 s m #[Value.ref b] below meth c H1 locs1 (189 + (t + 1) + (pPh (gW Z y1) - 896)) (160018 + 6 * (t + 1) + 2 * (pPh (gW Z y1) - 896)) Q (F0 m 1130 ls1 [])) : W p l e room_1 s m #[Value.ref b] below meth c H locs (189 + t + (pPh (gW Z y) - 896)) (160018 + 6 * t + 2 * (pPh (gW Z y) - 896)) Q (F0 m 209 ls []) := by
  have hx := M.1.1
  have hb := M.1.2.1
  have M := pM.to (gW Z y) rfl M
  obtain ⟨S, I, K, Lk, ⟨c1, c2, c3⟩, B0⟩ := J
  have hPm := K.ph
  refine lv_aload_n hx hb dL_law_209 rfl (lv_at hl 3 rfl) ?_
  refine lv_aload_n hx hb dL_law_210 rfl (lv_at hl 4 rfl) ?_
  refine lv_iload hx hb dL_law_211 (lv_at hl 0 rfl) ?_
  refine lv_iconst (v := 1) hx hb dL_law_213 (by decide) ?_
  refine lv_iadd hx hb dL_law_214 ?_
  refine lv_topi (fun v1 ev1 => ?_)
  have tv1 : v1.toInt = i.toInt + 1 := by rw [ev1]; have z9 := pi_add (x := i) (y := 1); rw [show (1 : Int32).toInt = 1 from rfl] at z9; exact z9 (by omega)
  refine va_sld hx hb hX hbl hbA V.2.1 (pi_in (by omega)) dL_law_215 ?_
  refine lv_topi (fun a2 ea2 => ?_)
  refine lv_if_eq (tgt := 223) hx hb dL_law_216 (by decide) (fun _ => ?_) (fun _ => ?_)
  · skip
    refine lv_iconst (v := 0) hx hb dL_law_223 (by decide) ?_
    refine pk_i (pr_V (Z := (gW Z y)) M V (m_X11_press l S I (0 : Int32)) km_X11_press (c_is_0 S) pC11 lkM_L_76 rfl hl.1 rfl (Nat.le_of_ble_eq_true rfl) ⟨Nat.le_of_ble_eq_true rfl, Nat.le_of_ble_eq_true rfl⟩ ⟨show 189 + t + (pPh (gW Z y) - 896) + 0 ≤ 600128 from by omega, show 160018 + 6 * t + 2 * (pPh (gW Z y) - 896) + 0 ≤ 7301098 from by omega⟩ dL_law_224) V (fun r3 Zr3 h3 H locs p3 _ _ V => ?_)
    obtain ⟨rfl, I, A3, f3_0, f3_1, f3_2⟩ := p3
    have Lk := Lk.congr (A3.get 129 2 (by decide)) (A3.get 129 3 (by decide))
    have B1 := B0.cls (A3.wk (by decide))
    obtain ⟨E9, S9, K9, w2, w25, w27, w82⟩ := B1
    have c1 : (h3 2 4).toInt ≤ ((t : Int) + 1) := by omega
    have c2 : (h3 129 2).toInt ≤ 13 * ((t : Int) + 1) := by have z9 := congrArg Int32.toInt (A3.get 129 2 (by decide)); omega
    have c3 : (h3 129 3).toInt ≤ 13 * ((t : Int) + 1) := by have z9 := congrArg Int32.toInt (A3.get 129 3 (by decide)); omega
    refine W.widen (k := 189 + (t + 1) + (pPh (gW Z y) - 896)) (n := 160018 + 6 * (t + 1) + 2 * (pPh (gW Z y) - 896)) (by omega) (by omega) ?_
    refine lv_pop hx hb dL_law_227 rfl ?_
    refine lv_aload_n hx hb dL_law_228 rfl (lv_at hl 2 rfl) ?_
    refine lv_aload_n hx hb dL_law_229 rfl (lv_at hl 4 rfl) ?_
    refine lv_iload hx hb dL_law_230 (lv_at hl 0 rfl) ?_
    refine lv_iconst (v := 1) hx hb dL_law_232 (by decide) ?_
    refine lv_iadd hx hb dL_law_233 ?_
    refine lv_topi (fun v4 ev4 => ?_)
    have tv4 : v4.toInt = i.toInt + 1 := by rw [ev4]; have z9 := pi_add (x := i) (y := 1); rw [show (1 : Int32).toInt = 1 from rfl] at z9; exact z9 (by omega)
    refine va_sld hx hb hX hbl hbA V.2.1 (pi_in (by omega)) dL_law_234 ?_
    refine lv_topi (fun a5 ea5 => ?_)
    refine lv_if_eq (tgt := 242) hx hb dL_law_235 (by decide) (fun _ => ?_) (fun _ => ?_)
    · skip
      refine lv_iconst (v := 0) hx hb dL_law_242 (by decide) ?_
      refine pk_i (pr_V (Z := (gW Z y)) M V (m_X12_press l S I (0 : Int32)) km_X12_press (sm_this S) pC12 lkM_L_80 rfl hl.1 rfl (Nat.le_of_ble_eq_true rfl) ⟨Nat.le_of_ble_eq_true rfl, Nat.le_of_ble_eq_true rfl⟩ ⟨show 189 + (t + 1) + (pPh (gW Z y) - 896) + 0 ≤ 600128 from by omega, show 160018 + 6 * (t + 1) + 2 * (pPh (gW Z y) - 896) + 0 ≤ 7301098 from by omega⟩ dL_law_243) V (fun r6 Zr6 h6 H locs p6 _ _ V => ?_)
      obtain ⟨rfl, I, A6, x6_0, x6_1, x6_2, x6_3⟩ := p6
      have Lk := Lk.congr (A6.get 129 2 (by decide)) (A6.get 129 3 (by decide))
      have c1 : (h6 2 4).toInt ≤ ((t : Int) + 1) := by have z9 := congrArg Int32.toInt (A6.get 2 4 (by decide)); omega
      have c2 : (h6 129 2).toInt ≤ 13 * ((t : Int) + 1) := by have z9 := congrArg Int32.toInt (A6.get 129 2 (by decide)); omega
      have c3 : (h6 129 3).toInt ≤ 13 * ((t : Int) + 1) := by have z9 := congrArg Int32.toInt (A6.get 129 3 (by decide)); omega
      have e6_25 := congrArg Int32.toInt (A6.get 137 25 (by decide))
      have e6_27 := congrArg Int32.toInt (A6.get 137 27 (by decide))
      have e6_82 := congrArg Int32.toInt (A6.get 137 82 (by decide))
      have E9 := x6_2 E9
      have S9 := S9.agr A6 (by decide)
      have K9 := K9.agr A6 (by decide)
      refine lv_pop hx hb dL_law_246 rfl ?_
      refine lv_goto (tgt := 1130) hx hb dL_law_247 (by decide) ?_
      exact N _ h6 _ _ ls ⟨S, I, K, Lk, ⟨by omega, by omega, by omega⟩, E9, S9, K9, by omega, by omega, by omega, by omega⟩ V (lv_sub hl [0, 1, 2, 3, 4] rfl) (by omega)
    · skip
      refine lv_iconst (v := 1) hx hb dL_law_238 (by decide) ?_
      refine lv_goto (tgt := 243) hx hb dL_law_239 (by decide) ?_
      refine pk_i (pr_V (Z := (gW Z y)) M V (m_X12_press l S I (1 : Int32)) km_X12_press (sm_this S) pC12 lkM_L_80 rfl hl.1 rfl (Nat.le_of_ble_eq_true rfl) ⟨Nat.le_of_ble_eq_true rfl, Nat.le_of_ble_eq_true rfl⟩ ⟨show 189 + (t + 1) + (pPh (gW Z y) - 896) + 0 ≤ 600128 from by omega, show 160018 + 6 * (t + 1) + 2 * (pPh (gW Z y) - 896) + 0 ≤ 7301098 from by omega⟩ dL_law_243) V (fun r7 Zr7 h7 H locs p7 _ _ V => ?_)
      obtain ⟨rfl, I, A7, x7_0, x7_1, x7_2, x7_3⟩ := p7
      have Lk := Lk.congr (A7.get 129 2 (by decide)) (A7.get 129 3 (by decide))
      have c1 : (h7 2 4).toInt ≤ ((t : Int) + 1) := by have z9 := congrArg Int32.toInt (A7.get 2 4 (by decide)); omega
      have c2 : (h7 129 2).toInt ≤ 13 * ((t : Int) + 1) := by have z9 := congrArg Int32.toInt (A7.get 129 2 (by decide)); omega
      have c3 : (h7 129 3).toInt ≤ 13 * ((t : Int) + 1) := by have z9 := congrArg Int32.toInt (A7.get 129 3 (by decide)); omega
      have e7_25 := congrArg Int32.toInt (A7.get 137 25 (by decide))
      have e7_27 := congrArg Int32.toInt (A7.get 137 27 (by decide))
      have e7_82 := congrArg Int32.toInt (A7.get 137 82 (by decide))
      have E9 := x7_2 E9
      have S9 := S9.agr A7 (by decide)
      have K9 := K9.agr A7 (by decide)
      refine lv_pop hx hb dL_law_246 rfl ?_
      refine lv_goto (tgt := 1130) hx hb dL_law_247 (by decide) ?_
      exact N _ h7 _ _ ls ⟨S, I, K, Lk, ⟨by omega, by omega, by omega⟩, E9, S9, K9, by omega, by omega, by omega, by omega⟩ V (lv_sub hl [0, 1, 2, 3, 4] rfl) (by omega)
  · skip
    refine lv_iconst (v := 1) hx hb dL_law_219 (by decide) ?_
    refine lv_goto (tgt := 224) hx hb dL_law_220 (by decide) ?_
    refine pk_i (pr_V (Z := (gW Z y)) M V (m_X11_press l S I (1 : Int32)) km_X11_press (c_is_0 S) pC11 lkM_L_76 rfl hl.1 rfl (Nat.le_of_ble_eq_true rfl) ⟨Nat.le_of_ble_eq_true rfl, Nat.le_of_ble_eq_true rfl⟩ ⟨show 189 + t + (pPh (gW Z y) - 896) + 0 ≤ 600128 from by omega, show 160018 + 6 * t + 2 * (pPh (gW Z y) - 896) + 0 ≤ 7301098 from by omega⟩ dL_law_224) V (fun r8 Zr8 h8 H locs p8 _ _ V => ?_)
    obtain ⟨rfl, I, A8, f8_0, f8_1, f8_2⟩ := p8
    have Lk := Lk.congr (A8.get 129 2 (by decide)) (A8.get 129 3 (by decide))
    have B1 := B0.cls (A8.wk (by decide))
    obtain ⟨E9, S9, K9, w2, w25, w27, w82⟩ := B1
    have c1 : (h8 2 4).toInt ≤ ((t : Int) + 1) := by omega
    have c2 : (h8 129 2).toInt ≤ 13 * ((t : Int) + 1) := by have z9 := congrArg Int32.toInt (A8.get 129 2 (by decide)); omega
    have c3 : (h8 129 3).toInt ≤ 13 * ((t : Int) + 1) := by have z9 := congrArg Int32.toInt (A8.get 129 3 (by decide)); omega
    refine W.widen (k := 189 + (t + 1) + (pPh (gW Z y) - 896)) (n := 160018 + 6 * (t + 1) + 2 * (pPh (gW Z y) - 896)) (by omega) (by omega) ?_
    refine lv_pop hx hb dL_law_227 rfl ?_
    refine lv_aload_n hx hb dL_law_228 rfl (lv_at hl 2 rfl) ?_
    refine lv_aload_n hx hb dL_law_229 rfl (lv_at hl 4 rfl) ?_
    refine lv_iload hx hb dL_law_230 (lv_at hl 0 rfl) ?_
    refine lv_iconst (v := 1) hx hb dL_law_232 (by decide) ?_
    refine lv_iadd hx hb dL_law_233 ?_
    refine lv_topi (fun v9 ev9 => ?_)
    have tv9 : v9.toInt = i.toInt + 1 := by rw [ev9]; have z9 := pi_add (x := i) (y := 1); rw [show (1 : Int32).toInt = 1 from rfl] at z9; exact z9 (by omega)
    refine va_sld hx hb hX hbl hbA V.2.1 (pi_in (by omega)) dL_law_234 ?_
    refine lv_topi (fun a10 ea10 => ?_)
    refine lv_if_eq (tgt := 242) hx hb dL_law_235 (by decide) (fun _ => ?_) (fun _ => ?_)
    · skip
      refine lv_iconst (v := 0) hx hb dL_law_242 (by decide) ?_
      refine pk_i (pr_V (Z := (gW Z y)) M V (m_X12_press l S I (0 : Int32)) km_X12_press (sm_this S) pC12 lkM_L_80 rfl hl.1 rfl (Nat.le_of_ble_eq_true rfl) ⟨Nat.le_of_ble_eq_true rfl, Nat.le_of_ble_eq_true rfl⟩ ⟨show 189 + (t + 1) + (pPh (gW Z y) - 896) + 0 ≤ 600128 from by omega, show 160018 + 6 * (t + 1) + 2 * (pPh (gW Z y) - 896) + 0 ≤ 7301098 from by omega⟩ dL_law_243) V (fun r11 Zr11 h11 H locs p11 _ _ V => ?_)
      obtain ⟨rfl, I, A11, x11_0, x11_1, x11_2, x11_3⟩ := p11
      have Lk := Lk.congr (A11.get 129 2 (by decide)) (A11.get 129 3 (by decide))
      have c1 : (h11 2 4).toInt ≤ ((t : Int) + 1) := by have z9 := congrArg Int32.toInt (A11.get 2 4 (by decide)); omega
      have c2 : (h11 129 2).toInt ≤ 13 * ((t : Int) + 1) := by have z9 := congrArg Int32.toInt (A11.get 129 2 (by decide)); omega
      have c3 : (h11 129 3).toInt ≤ 13 * ((t : Int) + 1) := by have z9 := congrArg Int32.toInt (A11.get 129 3 (by decide)); omega
      have e11_25 := congrArg Int32.toInt (A11.get 137 25 (by decide))
      have e11_27 := congrArg Int32.toInt (A11.get 137 27 (by decide))
      have e11_82 := congrArg Int32.toInt (A11.get 137 82 (by decide))
      have E9 := x11_2 E9
      have S9 := S9.agr A11 (by decide)
      have K9 := K9.agr A11 (by decide)
      refine lv_pop hx hb dL_law_246 rfl ?_
      refine lv_goto (tgt := 1130) hx hb dL_law_247 (by decide) ?_
      exact N _ h11 _ _ ls ⟨S, I, K, Lk, ⟨by omega, by omega, by omega⟩, E9, S9, K9, by omega, by omega, by omega, by omega⟩ V (lv_sub hl [0, 1, 2, 3, 4] rfl) (by omega)
    · skip
      refine lv_iconst (v := 1) hx hb dL_law_238 (by decide) ?_
      refine lv_goto (tgt := 243) hx hb dL_law_239 (by decide) ?_
      refine pk_i (pr_V (Z := (gW Z y)) M V (m_X12_press l S I (1 : Int32)) km_X12_press (sm_this S) pC12 lkM_L_80 rfl hl.1 rfl (Nat.le_of_ble_eq_true rfl) ⟨Nat.le_of_ble_eq_true rfl, Nat.le_of_ble_eq_true rfl⟩ ⟨show 189 + (t + 1) + (pPh (gW Z y) - 896) + 0 ≤ 600128 from by omega, show 160018 + 6 * (t + 1) + 2 * (pPh (gW Z y) - 896) + 0 ≤ 7301098 from by omega⟩ dL_law_243) V (fun r12 Zr12 h12 H locs p12 _ _ V => ?_)
      obtain ⟨rfl, I, A12, x12_0, x12_1, x12_2, x12_3⟩ := p12
      have Lk := Lk.congr (A12.get 129 2 (by decide)) (A12.get 129 3 (by decide))
      have c1 : (h12 2 4).toInt ≤ ((t : Int) + 1) := by have z9 := congrArg Int32.toInt (A12.get 2 4 (by decide)); omega
      have c2 : (h12 129 2).toInt ≤ 13 * ((t : Int) + 1) := by have z9 := congrArg Int32.toInt (A12.get 129 2 (by decide)); omega
      have c3 : (h12 129 3).toInt ≤ 13 * ((t : Int) + 1) := by have z9 := congrArg Int32.toInt (A12.get 129 3 (by decide)); omega
      have e12_25 := congrArg Int32.toInt (A12.get 137 25 (by decide))
      have e12_27 := congrArg Int32.toInt (A12.get 137 27 (by decide))
      have e12_82 := congrArg Int32.toInt (A12.get 137 82 (by decide))
      have E9 := x12_2 E9
      have S9 := S9.agr A12 (by decide)
      have K9 := K9.agr A12 (by decide)
      refine lv_pop hx hb dL_law_246 rfl ?_
      refine lv_goto (tgt := 1130) hx hb dL_law_247 (by decide) ?_
      exact N _ h12 _ _ ls ⟨S, I, K, Lk, ⟨by omega, by omega, by omega⟩, E9, S9, K9, by omega, by omega, by omega, by omega⟩ V (lv_sub hl [0, 1, 2, 3, 4] rfl) (by omega)
set_option maxHeartbeats 4000000 in
set_option maxRecDepth 100000 in
theorem lc_2 {p : Program} {l : Launch} {e : Env} {s : State} {m : MethodId} {below : List Frame} {meth : Method} {c : Code} {b L : Nat} {xs : Nat → Int32} {Z : pZ} {Q : State → Prop} (hl9 : l.stackTraces = false) (M : pM Z.1 p s m #[Value.ref b] c cL_law 7 RL) (X : pXS (zB Z) s) (hX : va_X b L xs s s.heap) (hbl : b < s.heap.size) (hbA : ¬ pA (zB Z) b) (hL : L ≤ 384) {t : Nat} (ht : t < 64) {y : pY} {h : pH} {H : Heap} {locs : List Loc} {ls : Array Slot} {i : Int32} (hi : i.toInt = 6 * (t : Int)) (hiL : i.toInt + 6 ≤ (L : Int)) (J : lI t (gW Z y) h) (V : pV (gW Z y) h s.heap H locs) (hl : lv_has ls 7 [(4, .int i), (3, .ref (zB Z + 188)), (2, .ref (zB Z + 137)), (1, .ref (zB Z + 0)), (0, .ref b)]) (hph : 896 ≤ pPh (gW Z y)) (N : ∀ (y1 : pY) (h1 : pH) (H1 : Heap) (locs1 : List Loc) (ls1 : Array Slot), lI (t + 1) (gW Z y1) h1 → pV (gW Z y1) h1 s.heap H1 locs1 → lv_has ls1 7 [(4, .int i), (3, .ref (zB Z + 188)), (2, .ref (zB Z + 137)), (1, .ref (zB Z + 0)), (0, .ref b)] → 896 ≤ pPh (gW Z y1) → W p l e room_1 s m #[Value.ref b] below meth c H1 locs1 (189 + (t + 1) + (pPh (gW Z y1) - 896)) (160018 + 6 * (t + 1) + 2 * (pPh (gW Z y1) - 896)) Q (F0 m 1130 ls1 [])) : W p l e room_1 s m #[Value.ref b] below meth c H locs (189 + t + (pPh (gW Z y) - 896)) (160018 + 6 * t + 2 * (pPh (gW Z y) - 896)) Q (F0 m 250 ls []) := by
  have hx := M.1.1
  have hb := M.1.2.1
  have M := pM.to (gW Z y) rfl M
  obtain ⟨S, I, K, Lk, ⟨c1, c2, c3⟩, B0⟩ := J
  have hPm := K.ph
  refine lv_aload_n hx hb dL_law_250 rfl (lv_at hl 3 rfl) ?_
  refine lv_aload_n hx hb dL_law_251 rfl (lv_at hl 4 rfl) ?_
  refine lv_iload hx hb dL_law_252 (lv_at hl 0 rfl) ?_
  refine lv_iconst (v := 1) hx hb dL_law_254 (by decide) ?_
  refine lv_iadd hx hb dL_law_255 ?_
  refine lv_topi (fun v1 ev1 => ?_)
  have tv1 : v1.toInt = i.toInt + 1 := by rw [ev1]; have z9 := pi_add (x := i) (y := 1); rw [show (1 : Int32).toInt = 1 from rfl] at z9; exact z9 (by omega)
  refine va_sld hx hb hX hbl hbA V.2.1 (pi_in (by omega)) dL_law_256 ?_
  refine lv_topi (fun a2 ea2 => ?_)
  refine pk_i (pr_V (Z := (gW Z y)) M V (m_X11_wheel l S I a2) km_X11_wheel (c_is_0 S) pC11 lkM_L_81 rfl hl.1 rfl (Nat.le_of_ble_eq_true rfl) ⟨Nat.le_of_ble_eq_true rfl, Nat.le_of_ble_eq_true rfl⟩ ⟨show 189 + t + (pPh (gW Z y) - 896) + 0 ≤ 600128 from by omega, show 160018 + 6 * t + 2 * (pPh (gW Z y) - 896) + 0 ≤ 7301098 from by omega⟩ dL_law_257) V (fun r3 Zr3 h3 H locs p3 _ _ V => ?_)
  obtain ⟨rfl, I, A3, f3_0, f3_1, f3_2⟩ := p3
  have Lk := Lk.congr (A3.get 129 2 (by decide)) (A3.get 129 3 (by decide))
  have B1 := B0.cls (A3.wk (by decide))
  obtain ⟨E9, S9, K9, w2, w25, w27, w82⟩ := B1
  have c1 : (h3 2 4).toInt ≤ ((t : Int) + 1) := by omega
  have c2 : (h3 129 2).toInt ≤ 13 * ((t : Int) + 1) := by have z9 := congrArg Int32.toInt (A3.get 129 2 (by decide)); omega
  have c3 : (h3 129 3).toInt ≤ 13 * ((t : Int) + 1) := by have z9 := congrArg Int32.toInt (A3.get 129 3 (by decide)); omega
  refine W.widen (k := 189 + (t + 1) + (pPh (gW Z y) - 896)) (n := 160018 + 6 * (t + 1) + 2 * (pPh (gW Z y) - 896)) (by omega) (by omega) ?_
  refine lv_pop hx hb dL_law_260 rfl ?_
  refine lv_aload_n hx hb dL_law_261 rfl (lv_at hl 2 rfl) ?_
  refine lv_aload_n hx hb dL_law_262 rfl (lv_at hl 4 rfl) ?_
  refine lv_iload hx hb dL_law_263 (lv_at hl 0 rfl) ?_
  refine lv_iconst (v := 1) hx hb dL_law_265 (by decide) ?_
  refine lv_iadd hx hb dL_law_266 ?_
  refine lv_topi (fun v4 ev4 => ?_)
  have tv4 : v4.toInt = i.toInt + 1 := by rw [ev4]; have z9 := pi_add (x := i) (y := 1); rw [show (1 : Int32).toInt = 1 from rfl] at z9; exact z9 (by omega)
  refine va_sld hx hb hX hbl hbA V.2.1 (pi_in (by omega)) dL_law_267 ?_
  refine lv_topi (fun a5 ea5 => ?_)
  refine pk_i (pr_V (Z := (gW Z y)) M V (m_X12_wheel l S I a5) km_X12_wheel (sm_this S) pC12 lkM_L_84 rfl hl.1 rfl (Nat.le_of_ble_eq_true rfl) ⟨Nat.le_of_ble_eq_true rfl, Nat.le_of_ble_eq_true rfl⟩ ⟨show 189 + (t + 1) + (pPh (gW Z y) - 896) + 0 ≤ 600128 from by omega, show 160018 + 6 * (t + 1) + 2 * (pPh (gW Z y) - 896) + 0 ≤ 7301098 from by omega⟩ dL_law_268) V (fun r6 Zr6 h6 H locs p6 _ _ V => ?_)
  obtain ⟨rfl, I, A6, x6_0, x6_1, x6_2, x6_3⟩ := p6
  have Lk := Lk.congr (A6.get 129 2 (by decide)) (A6.get 129 3 (by decide))
  have c1 : (h6 2 4).toInt ≤ ((t : Int) + 1) := by have z9 := congrArg Int32.toInt (A6.get 2 4 (by decide)); omega
  have c2 : (h6 129 2).toInt ≤ 13 * ((t : Int) + 1) := by have z9 := congrArg Int32.toInt (A6.get 129 2 (by decide)); omega
  have c3 : (h6 129 3).toInt ≤ 13 * ((t : Int) + 1) := by have z9 := congrArg Int32.toInt (A6.get 129 3 (by decide)); omega
  have e6_25 := congrArg Int32.toInt (A6.get 137 25 (by decide))
  have e6_27 := congrArg Int32.toInt (A6.get 137 27 (by decide))
  have e6_82 := congrArg Int32.toInt (A6.get 137 82 (by decide))
  have E9 := x6_2 E9
  have S9 := S9.agr A6 (by decide)
  have K9 := K9.agr A6 (by decide)
  refine lv_pop hx hb dL_law_271 rfl ?_
  refine lv_goto (tgt := 1130) hx hb dL_law_272 (by decide) ?_
  exact N _ h6 _ _ ls ⟨S, I, K, Lk, ⟨by omega, by omega, by omega⟩, E9, S9, K9, by omega, by omega, by omega, by omega⟩ V (lv_sub hl [0, 1, 2, 3, 4] rfl) (by omega)
set_option maxHeartbeats 4000000 in
set_option maxRecDepth 100000 in
theorem lc_3 {p : Program} {l : Launch} {e : Env} {s : State} {m : MethodId} {below : List Frame} {meth : Method} {c : Code} {b L : Nat} {xs : Nat → Int32} {Z : pZ} {Q : State → Prop} (hl9 : l.stackTraces = false) (M : pM Z.1 p s m #[Value.ref b] c cL_law 7 RL) (X : pXS (zB Z) s) (hX : va_X b L xs s s.heap) (hbl : b < s.heap.size) (hbA : ¬ pA (zB Z) b) (hL : L ≤ 384) {t : Nat} (ht : t < 64) {y : pY} {h : pH} {H : Heap} {locs : List Loc} {ls : Array Slot} {i : Int32} (hi : i.toInt = 6 * (t : Int)) (hiL : i.toInt + 6 ≤ (L : Int)) (J : lI t (gW Z y) h) (V : pV (gW Z y) h s.heap H locs) (hl : lv_has ls 7 [(4, .int i), (3, .ref (zB Z + 188)), (2, .ref (zB Z + 137)), (1, .ref (zB Z + 0)), (0, .ref b)]) (hph : 896 ≤ pPh (gW Z y)) (N : ∀ (y1 : pY) (h1 : pH) (H1 : Heap) (locs1 : List Loc) (ls1 : Array Slot), lI (t + 1) (gW Z y1) h1 → pV (gW Z y1) h1 s.heap H1 locs1 → lv_has ls1 7 [(4, .int i), (3, .ref (zB Z + 188)), (2, .ref (zB Z + 137)), (1, .ref (zB Z + 0)), (0, .ref b)] → 896 ≤ pPh (gW Z y1) → W p l e room_1 s m #[Value.ref b] below meth c H1 locs1 (189 + (t + 1) + (pPh (gW Z y1) - 896)) (160018 + 6 * (t + 1) + 2 * (pPh (gW Z y1) - 896)) Q (F0 m 1130 ls1 [])) : W p l e room_1 s m #[Value.ref b] below meth c H locs (189 + t + (pPh (gW Z y) - 896)) (160018 + 6 * t + 2 * (pPh (gW Z y) - 896)) Q (F0 m 275 ls []) := by
  have hx := M.1.1
  have hb := M.1.2.1
  have M := pM.to (gW Z y) rfl M
  obtain ⟨S, I, K, Lk, ⟨c1, c2, c3⟩, B0⟩ := J
  have hPm := K.ph
  refine lv_aload_n hx hb dL_law_275 rfl (lv_at hl 3 rfl) ?_
  refine lv_aload_n hx hb dL_law_276 rfl (lv_at hl 4 rfl) ?_
  refine lv_iload hx hb dL_law_277 (lv_at hl 0 rfl) ?_
  refine lv_iconst (v := 1) hx hb dL_law_279 (by decide) ?_
  refine lv_iadd hx hb dL_law_280 ?_
  refine lv_topi (fun v1 ev1 => ?_)
  have tv1 : v1.toInt = i.toInt + 1 := by rw [ev1]; have z9 := pi_add (x := i) (y := 1); rw [show (1 : Int32).toInt = 1 from rfl] at z9; exact z9 (by omega)
  refine va_sld hx hb hX hbl hbA V.2.1 (pi_in (by omega)) dL_law_281 ?_
  refine lv_topi (fun a2 ea2 => ?_)
  refine lv_aload_n hx hb dL_law_282 rfl (lv_at hl 4 rfl) ?_
  refine lv_iload hx hb dL_law_283 (lv_at hl 0 rfl) ?_
  refine lv_iconst (v := 2) hx hb dL_law_285 (by decide) ?_
  refine lv_iadd hx hb dL_law_286 ?_
  refine lv_topi (fun v3 ev3 => ?_)
  have tv3 : v3.toInt = i.toInt + 2 := by rw [ev3]; have z9 := pi_add (x := i) (y := 2); rw [show (2 : Int32).toInt = 2 from rfl] at z9; exact z9 (by omega)
  refine va_sld hx hb hX hbl hbA V.2.1 (pi_in (by omega)) dL_law_287 ?_
  refine lv_topi (fun a4 ea4 => ?_)
  refine lv_if_eq (tgt := 295) hx hb dL_law_288 (by decide) (fun _ => ?_) (fun _ => ?_)
  · skip
    refine lv_iconst (v := 0) hx hb dL_law_295 (by decide) ?_
    refine pk_i (pr_V (Z := (gW Z y)) M V (m_X11_key l S I a2 (0 : Int32)) km_X11_key (c_is_0 S) pC11 lkM_L_85 rfl hl.1 rfl (Nat.le_of_ble_eq_true rfl) ⟨Nat.le_of_ble_eq_true rfl, Nat.le_of_ble_eq_true rfl⟩ ⟨show 189 + t + (pPh (gW Z y) - 896) + 0 ≤ 600128 from by omega, show 160018 + 6 * t + 2 * (pPh (gW Z y) - 896) + 0 ≤ 7301098 from by omega⟩ dL_law_296) V (fun r5 Zr5 h5 H locs p5 _ _ V => ?_)
    obtain ⟨rfl, I, A5, f5_0, f5_1, f5_2⟩ := p5
    have Lk := Lk.congr (A5.get 129 2 (by decide)) (A5.get 129 3 (by decide))
    have B1 := B0.cls (A5.wk (by decide))
    obtain ⟨E9, S9, K9, w2, w25, w27, w82⟩ := B1
    have c1 : (h5 2 4).toInt ≤ ((t : Int) + 1) := by omega
    have c2 : (h5 129 2).toInt ≤ 13 * ((t : Int) + 1) := by have z9 := congrArg Int32.toInt (A5.get 129 2 (by decide)); omega
    have c3 : (h5 129 3).toInt ≤ 13 * ((t : Int) + 1) := by have z9 := congrArg Int32.toInt (A5.get 129 3 (by decide)); omega
    refine W.widen (k := 189 + (t + 1) + (pPh (gW Z y) - 896)) (n := 160018 + 6 * (t + 1) + 2 * (pPh (gW Z y) - 896)) (by omega) (by omega) ?_
    refine lv_pop hx hb dL_law_299 rfl ?_
    refine lv_aload_n hx hb dL_law_300 rfl (lv_at hl 2 rfl) ?_
    refine lv_aload_n hx hb dL_law_301 rfl (lv_at hl 4 rfl) ?_
    refine lv_iload hx hb dL_law_302 (lv_at hl 0 rfl) ?_
    refine lv_iconst (v := 1) hx hb dL_law_304 (by decide) ?_
    refine lv_iadd hx hb dL_law_305 ?_
    refine lv_topi (fun v6 ev6 => ?_)
    have tv6 : v6.toInt = i.toInt + 1 := by rw [ev6]; have z9 := pi_add (x := i) (y := 1); rw [show (1 : Int32).toInt = 1 from rfl] at z9; exact z9 (by omega)
    refine va_sld hx hb hX hbl hbA V.2.1 (pi_in (by omega)) dL_law_306 ?_
    refine lv_topi (fun a7 ea7 => ?_)
    refine lv_aload_n hx hb dL_law_307 rfl (lv_at hl 4 rfl) ?_
    refine lv_iload hx hb dL_law_308 (lv_at hl 0 rfl) ?_
    refine lv_iconst (v := 2) hx hb dL_law_310 (by decide) ?_
    refine lv_iadd hx hb dL_law_311 ?_
    refine lv_topi (fun v8 ev8 => ?_)
    have tv8 : v8.toInt = i.toInt + 2 := by rw [ev8]; have z9 := pi_add (x := i) (y := 2); rw [show (2 : Int32).toInt = 2 from rfl] at z9; exact z9 (by omega)
    refine va_sld hx hb hX hbl hbA V.2.1 (pi_in (by omega)) dL_law_312 ?_
    refine lv_topi (fun a9 ea9 => ?_)
    refine lv_if_eq (tgt := 320) hx hb dL_law_313 (by decide) (fun _ => ?_) (fun _ => ?_)
    · skip
      refine lv_iconst (v := 0) hx hb dL_law_320 (by decide) ?_
      refine pk_i (pr_V (Z := (gW Z y)) M V (m_X12_key l S I a7 (0 : Int32)) km_X12_key (sm_this S) pC12 lkM_L_89 rfl hl.1 rfl (Nat.le_of_ble_eq_true rfl) ⟨Nat.le_of_ble_eq_true rfl, Nat.le_of_ble_eq_true rfl⟩ ⟨show 189 + (t + 1) + (pPh (gW Z y) - 896) + 0 ≤ 600128 from by omega, show 160018 + 6 * (t + 1) + 2 * (pPh (gW Z y) - 896) + 0 ≤ 7301098 from by omega⟩ dL_law_321) V (fun r10 Zr10 h10 H locs p10 _ _ V => ?_)
      obtain ⟨rfl, I, A10, x10_0, x10_1, x10_2, x10_3⟩ := p10
      have Lk := Lk.congr (A10.get 129 2 (by decide)) (A10.get 129 3 (by decide))
      have c1 : (h10 2 4).toInt ≤ ((t : Int) + 1) := by have z9 := congrArg Int32.toInt (A10.get 2 4 (by decide)); omega
      have c2 : (h10 129 2).toInt ≤ 13 * ((t : Int) + 1) := by have z9 := congrArg Int32.toInt (A10.get 129 2 (by decide)); omega
      have c3 : (h10 129 3).toInt ≤ 13 * ((t : Int) + 1) := by have z9 := congrArg Int32.toInt (A10.get 129 3 (by decide)); omega
      have e10_25 := congrArg Int32.toInt (A10.get 137 25 (by decide))
      have e10_27 := congrArg Int32.toInt (A10.get 137 27 (by decide))
      have e10_82 := congrArg Int32.toInt (A10.get 137 82 (by decide))
      have E9 := x10_2 E9
      have S9 := S9.agr A10 (by decide)
      have K9 := K9.agr A10 (by decide)
      refine lv_pop hx hb dL_law_324 rfl ?_
      refine lv_goto (tgt := 1130) hx hb dL_law_325 (by decide) ?_
      exact N _ h10 _ _ ls ⟨S, I, K, Lk, ⟨by omega, by omega, by omega⟩, E9, S9, K9, by omega, by omega, by omega, by omega⟩ V (lv_sub hl [0, 1, 2, 3, 4] rfl) (by omega)
    · skip
      refine lv_iconst (v := 1) hx hb dL_law_316 (by decide) ?_
      refine lv_goto (tgt := 321) hx hb dL_law_317 (by decide) ?_
      refine pk_i (pr_V (Z := (gW Z y)) M V (m_X12_key l S I a7 (1 : Int32)) km_X12_key (sm_this S) pC12 lkM_L_89 rfl hl.1 rfl (Nat.le_of_ble_eq_true rfl) ⟨Nat.le_of_ble_eq_true rfl, Nat.le_of_ble_eq_true rfl⟩ ⟨show 189 + (t + 1) + (pPh (gW Z y) - 896) + 0 ≤ 600128 from by omega, show 160018 + 6 * (t + 1) + 2 * (pPh (gW Z y) - 896) + 0 ≤ 7301098 from by omega⟩ dL_law_321) V (fun r11 Zr11 h11 H locs p11 _ _ V => ?_)
      obtain ⟨rfl, I, A11, x11_0, x11_1, x11_2, x11_3⟩ := p11
      have Lk := Lk.congr (A11.get 129 2 (by decide)) (A11.get 129 3 (by decide))
      have c1 : (h11 2 4).toInt ≤ ((t : Int) + 1) := by have z9 := congrArg Int32.toInt (A11.get 2 4 (by decide)); omega
      have c2 : (h11 129 2).toInt ≤ 13 * ((t : Int) + 1) := by have z9 := congrArg Int32.toInt (A11.get 129 2 (by decide)); omega
      have c3 : (h11 129 3).toInt ≤ 13 * ((t : Int) + 1) := by have z9 := congrArg Int32.toInt (A11.get 129 3 (by decide)); omega
      have e11_25 := congrArg Int32.toInt (A11.get 137 25 (by decide))
      have e11_27 := congrArg Int32.toInt (A11.get 137 27 (by decide))
      have e11_82 := congrArg Int32.toInt (A11.get 137 82 (by decide))
      have E9 := x11_2 E9
      have S9 := S9.agr A11 (by decide)
      have K9 := K9.agr A11 (by decide)
      refine lv_pop hx hb dL_law_324 rfl ?_
      refine lv_goto (tgt := 1130) hx hb dL_law_325 (by decide) ?_
      exact N _ h11 _ _ ls ⟨S, I, K, Lk, ⟨by omega, by omega, by omega⟩, E9, S9, K9, by omega, by omega, by omega, by omega⟩ V (lv_sub hl [0, 1, 2, 3, 4] rfl) (by omega)
  · skip
    refine lv_iconst (v := 1) hx hb dL_law_291 (by decide) ?_
    refine lv_goto (tgt := 296) hx hb dL_law_292 (by decide) ?_
    refine pk_i (pr_V (Z := (gW Z y)) M V (m_X11_key l S I a2 (1 : Int32)) km_X11_key (c_is_0 S) pC11 lkM_L_85 rfl hl.1 rfl (Nat.le_of_ble_eq_true rfl) ⟨Nat.le_of_ble_eq_true rfl, Nat.le_of_ble_eq_true rfl⟩ ⟨show 189 + t + (pPh (gW Z y) - 896) + 0 ≤ 600128 from by omega, show 160018 + 6 * t + 2 * (pPh (gW Z y) - 896) + 0 ≤ 7301098 from by omega⟩ dL_law_296) V (fun r12 Zr12 h12 H locs p12 _ _ V => ?_)
    obtain ⟨rfl, I, A12, f12_0, f12_1, f12_2⟩ := p12
    have Lk := Lk.congr (A12.get 129 2 (by decide)) (A12.get 129 3 (by decide))
    have B1 := B0.cls (A12.wk (by decide))
    obtain ⟨E9, S9, K9, w2, w25, w27, w82⟩ := B1
    have c1 : (h12 2 4).toInt ≤ ((t : Int) + 1) := by omega
    have c2 : (h12 129 2).toInt ≤ 13 * ((t : Int) + 1) := by have z9 := congrArg Int32.toInt (A12.get 129 2 (by decide)); omega
    have c3 : (h12 129 3).toInt ≤ 13 * ((t : Int) + 1) := by have z9 := congrArg Int32.toInt (A12.get 129 3 (by decide)); omega
    refine W.widen (k := 189 + (t + 1) + (pPh (gW Z y) - 896)) (n := 160018 + 6 * (t + 1) + 2 * (pPh (gW Z y) - 896)) (by omega) (by omega) ?_
    refine lv_pop hx hb dL_law_299 rfl ?_
    refine lv_aload_n hx hb dL_law_300 rfl (lv_at hl 2 rfl) ?_
    refine lv_aload_n hx hb dL_law_301 rfl (lv_at hl 4 rfl) ?_
    refine lv_iload hx hb dL_law_302 (lv_at hl 0 rfl) ?_
    refine lv_iconst (v := 1) hx hb dL_law_304 (by decide) ?_
    refine lv_iadd hx hb dL_law_305 ?_
    refine lv_topi (fun v13 ev13 => ?_)
    have tv13 : v13.toInt = i.toInt + 1 := by rw [ev13]; have z9 := pi_add (x := i) (y := 1); rw [show (1 : Int32).toInt = 1 from rfl] at z9; exact z9 (by omega)
    refine va_sld hx hb hX hbl hbA V.2.1 (pi_in (by omega)) dL_law_306 ?_
    refine lv_topi (fun a14 ea14 => ?_)
    refine lv_aload_n hx hb dL_law_307 rfl (lv_at hl 4 rfl) ?_
    refine lv_iload hx hb dL_law_308 (lv_at hl 0 rfl) ?_
    refine lv_iconst (v := 2) hx hb dL_law_310 (by decide) ?_
    refine lv_iadd hx hb dL_law_311 ?_
    refine lv_topi (fun v15 ev15 => ?_)
    have tv15 : v15.toInt = i.toInt + 2 := by rw [ev15]; have z9 := pi_add (x := i) (y := 2); rw [show (2 : Int32).toInt = 2 from rfl] at z9; exact z9 (by omega)
    refine va_sld hx hb hX hbl hbA V.2.1 (pi_in (by omega)) dL_law_312 ?_
    refine lv_topi (fun a16 ea16 => ?_)
    refine lv_if_eq (tgt := 320) hx hb dL_law_313 (by decide) (fun _ => ?_) (fun _ => ?_)
    · skip
      refine lv_iconst (v := 0) hx hb dL_law_320 (by decide) ?_
      refine pk_i (pr_V (Z := (gW Z y)) M V (m_X12_key l S I a14 (0 : Int32)) km_X12_key (sm_this S) pC12 lkM_L_89 rfl hl.1 rfl (Nat.le_of_ble_eq_true rfl) ⟨Nat.le_of_ble_eq_true rfl, Nat.le_of_ble_eq_true rfl⟩ ⟨show 189 + (t + 1) + (pPh (gW Z y) - 896) + 0 ≤ 600128 from by omega, show 160018 + 6 * (t + 1) + 2 * (pPh (gW Z y) - 896) + 0 ≤ 7301098 from by omega⟩ dL_law_321) V (fun r17 Zr17 h17 H locs p17 _ _ V => ?_)
      obtain ⟨rfl, I, A17, x17_0, x17_1, x17_2, x17_3⟩ := p17
      have Lk := Lk.congr (A17.get 129 2 (by decide)) (A17.get 129 3 (by decide))
      have c1 : (h17 2 4).toInt ≤ ((t : Int) + 1) := by have z9 := congrArg Int32.toInt (A17.get 2 4 (by decide)); omega
      have c2 : (h17 129 2).toInt ≤ 13 * ((t : Int) + 1) := by have z9 := congrArg Int32.toInt (A17.get 129 2 (by decide)); omega
      have c3 : (h17 129 3).toInt ≤ 13 * ((t : Int) + 1) := by have z9 := congrArg Int32.toInt (A17.get 129 3 (by decide)); omega
      have e17_25 := congrArg Int32.toInt (A17.get 137 25 (by decide))
      have e17_27 := congrArg Int32.toInt (A17.get 137 27 (by decide))
      have e17_82 := congrArg Int32.toInt (A17.get 137 82 (by decide))
      have E9 := x17_2 E9
      have S9 := S9.agr A17 (by decide)
      have K9 := K9.agr A17 (by decide)
      refine lv_pop hx hb dL_law_324 rfl ?_
      refine lv_goto (tgt := 1130) hx hb dL_law_325 (by decide) ?_
      exact N _ h17 _ _ ls ⟨S, I, K, Lk, ⟨by omega, by omega, by omega⟩, E9, S9, K9, by omega, by omega, by omega, by omega⟩ V (lv_sub hl [0, 1, 2, 3, 4] rfl) (by omega)
    · skip
      refine lv_iconst (v := 1) hx hb dL_law_316 (by decide) ?_
      refine lv_goto (tgt := 321) hx hb dL_law_317 (by decide) ?_
      refine pk_i (pr_V (Z := (gW Z y)) M V (m_X12_key l S I a14 (1 : Int32)) km_X12_key (sm_this S) pC12 lkM_L_89 rfl hl.1 rfl (Nat.le_of_ble_eq_true rfl) ⟨Nat.le_of_ble_eq_true rfl, Nat.le_of_ble_eq_true rfl⟩ ⟨show 189 + (t + 1) + (pPh (gW Z y) - 896) + 0 ≤ 600128 from by omega, show 160018 + 6 * (t + 1) + 2 * (pPh (gW Z y) - 896) + 0 ≤ 7301098 from by omega⟩ dL_law_321) V (fun r18 Zr18 h18 H locs p18 _ _ V => ?_)
      obtain ⟨rfl, I, A18, x18_0, x18_1, x18_2, x18_3⟩ := p18
      have Lk := Lk.congr (A18.get 129 2 (by decide)) (A18.get 129 3 (by decide))
      have c1 : (h18 2 4).toInt ≤ ((t : Int) + 1) := by have z9 := congrArg Int32.toInt (A18.get 2 4 (by decide)); omega
      have c2 : (h18 129 2).toInt ≤ 13 * ((t : Int) + 1) := by have z9 := congrArg Int32.toInt (A18.get 129 2 (by decide)); omega
      have c3 : (h18 129 3).toInt ≤ 13 * ((t : Int) + 1) := by have z9 := congrArg Int32.toInt (A18.get 129 3 (by decide)); omega
      have e18_25 := congrArg Int32.toInt (A18.get 137 25 (by decide))
      have e18_27 := congrArg Int32.toInt (A18.get 137 27 (by decide))
      have e18_82 := congrArg Int32.toInt (A18.get 137 82 (by decide))
      have E9 := x18_2 E9
      have S9 := S9.agr A18 (by decide)
      have K9 := K9.agr A18 (by decide)
      refine lv_pop hx hb dL_law_324 rfl ?_
      refine lv_goto (tgt := 1130) hx hb dL_law_325 (by decide) ?_
      exact N _ h18 _ _ ls ⟨S, I, K, Lk, ⟨by omega, by omega, by omega⟩, E9, S9, K9, by omega, by omega, by omega, by omega⟩ V (lv_sub hl [0, 1, 2, 3, 4] rfl) (by omega)
set_option maxHeartbeats 4000000 in
set_option maxRecDepth 100000 in
theorem lc_4 {p : Program} {l : Launch} {e : Env} {s : State} {m : MethodId} {below : List Frame} {meth : Method} {c : Code} {b L : Nat} {xs : Nat → Int32} {Z : pZ} {Q : State → Prop} (hl9 : l.stackTraces = false) (M : pM Z.1 p s m #[Value.ref b] c cL_law 7 RL) (X : pXS (zB Z) s) (hX : va_X b L xs s s.heap) (hbl : b < s.heap.size) (hbA : ¬ pA (zB Z) b) (hL : L ≤ 384) {t : Nat} (ht : t < 64) {y : pY} {h : pH} {H : Heap} {locs : List Loc} {ls : Array Slot} {i : Int32} (hi : i.toInt = 6 * (t : Int)) (hiL : i.toInt + 6 ≤ (L : Int)) (J : lI t (gW Z y) h) (V : pV (gW Z y) h s.heap H locs) (hl : lv_has ls 7 [(4, .int i), (3, .ref (zB Z + 188)), (2, .ref (zB Z + 137)), (1, .ref (zB Z + 0)), (0, .ref b)]) (hph : 896 ≤ pPh (gW Z y)) (N : ∀ (y1 : pY) (h1 : pH) (H1 : Heap) (locs1 : List Loc) (ls1 : Array Slot), lI (t + 1) (gW Z y1) h1 → pV (gW Z y1) h1 s.heap H1 locs1 → lv_has ls1 7 [(4, .int i), (3, .ref (zB Z + 188)), (2, .ref (zB Z + 137)), (1, .ref (zB Z + 0)), (0, .ref b)] → 896 ≤ pPh (gW Z y1) → W p l e room_1 s m #[Value.ref b] below meth c H1 locs1 (189 + (t + 1) + (pPh (gW Z y1) - 896)) (160018 + 6 * (t + 1) + 2 * (pPh (gW Z y1) - 896)) Q (F0 m 1130 ls1 [])) : W p l e room_1 s m #[Value.ref b] below meth c H locs (189 + t + (pPh (gW Z y) - 896)) (160018 + 6 * t + 2 * (pPh (gW Z y) - 896)) Q (F0 m 328 ls []) := by
  have hx := M.1.1
  have hb := M.1.2.1
  have M := pM.to (gW Z y) rfl M
  obtain ⟨S, I, K, Lk, ⟨c1, c2, c3⟩, B0⟩ := J
  have hPm := K.ph
  refine lv_aload_n hx hb dL_law_328 rfl (lv_at hl 3 rfl) ?_
  refine lv_aload_n hx hb dL_law_329 rfl (lv_at hl 4 rfl) ?_
  refine lv_iload hx hb dL_law_330 (lv_at hl 0 rfl) ?_
  refine lv_iconst (v := 1) hx hb dL_law_332 (by decide) ?_
  refine lv_iadd hx hb dL_law_333 ?_
  refine lv_topi (fun v1 ev1 => ?_)
  have tv1 : v1.toInt = i.toInt + 1 := by rw [ev1]; have z9 := pi_add (x := i) (y := 1); rw [show (1 : Int32).toInt = 1 from rfl] at z9; exact z9 (by omega)
  refine va_sld hx hb hX hbl hbA V.2.1 (pi_in (by omega)) dL_law_334 ?_
  refine lv_topi (fun a2 ea2 => ?_)
  refine pk_i (pr_V (Z := (gW Z y)) M V (m_X11_letter l S I a2) km_X11_letter (c_is_0 S) pC11 lkM_L_90 rfl hl.1 rfl (Nat.le_of_ble_eq_true rfl) ⟨Nat.le_of_ble_eq_true rfl, Nat.le_of_ble_eq_true rfl⟩ ⟨show 189 + t + (pPh (gW Z y) - 896) + 0 ≤ 600128 from by omega, show 160018 + 6 * t + 2 * (pPh (gW Z y) - 896) + 0 ≤ 7301098 from by omega⟩ dL_law_335) V (fun r3 Zr3 h3 H locs p3 _ _ V => ?_)
  obtain ⟨rfl, I, A3, f3_0, f3_1, f3_2⟩ := p3
  have Lk := Lk.congr (A3.get 129 2 (by decide)) (A3.get 129 3 (by decide))
  have B1 := B0.cls (A3.wk (by decide))
  obtain ⟨E9, S9, K9, w2, w25, w27, w82⟩ := B1
  have c1 : (h3 2 4).toInt ≤ ((t : Int) + 1) := by omega
  have c2 : (h3 129 2).toInt ≤ 13 * ((t : Int) + 1) := by have z9 := congrArg Int32.toInt (A3.get 129 2 (by decide)); omega
  have c3 : (h3 129 3).toInt ≤ 13 * ((t : Int) + 1) := by have z9 := congrArg Int32.toInt (A3.get 129 3 (by decide)); omega
  refine W.widen (k := 189 + (t + 1) + (pPh (gW Z y) - 896)) (n := 160018 + 6 * (t + 1) + 2 * (pPh (gW Z y) - 896)) (by omega) (by omega) ?_
  refine lv_aload_n hx hb dL_law_338 rfl (lv_at hl 2 rfl) ?_
  refine lv_aload_n hx hb dL_law_339 rfl (lv_at hl 4 rfl) ?_
  refine lv_iload hx hb dL_law_340 (lv_at hl 0 rfl) ?_
  refine lv_iconst (v := 1) hx hb dL_law_342 (by decide) ?_
  refine lv_iadd hx hb dL_law_343 ?_
  refine lv_topi (fun v4 ev4 => ?_)
  have tv4 : v4.toInt = i.toInt + 1 := by rw [ev4]; have z9 := pi_add (x := i) (y := 1); rw [show (1 : Int32).toInt = 1 from rfl] at z9; exact z9 (by omega)
  refine va_sld hx hb hX hbl hbA V.2.1 (pi_in (by omega)) dL_law_344 ?_
  refine lv_topi (fun a5 ea5 => ?_)
  refine pk_i (pr_V (Z := (gW Z y)) M V (m_X12_letter l S I a5) km_X12_letter (sm_this S) pC12 lkM_L_93 rfl hl.1 rfl (Nat.le_of_ble_eq_true rfl) ⟨Nat.le_of_ble_eq_true rfl, Nat.le_of_ble_eq_true rfl⟩ ⟨show 189 + (t + 1) + (pPh (gW Z y) - 896) + 0 ≤ 600128 from by omega, show 160018 + 6 * (t + 1) + 2 * (pPh (gW Z y) - 896) + 0 ≤ 7301098 from by omega⟩ dL_law_345) V (fun r6 Zr6 h6 H locs p6 _ _ V => ?_)
  obtain ⟨rfl, I, A6, x6_0, x6_1, x6_2, x6_3⟩ := p6
  have Lk := Lk.congr (A6.get 129 2 (by decide)) (A6.get 129 3 (by decide))
  have c1 : (h6 2 4).toInt ≤ ((t : Int) + 1) := by have z9 := congrArg Int32.toInt (A6.get 2 4 (by decide)); omega
  have c2 : (h6 129 2).toInt ≤ 13 * ((t : Int) + 1) := by have z9 := congrArg Int32.toInt (A6.get 129 2 (by decide)); omega
  have c3 : (h6 129 3).toInt ≤ 13 * ((t : Int) + 1) := by have z9 := congrArg Int32.toInt (A6.get 129 3 (by decide)); omega
  have e6_25 := congrArg Int32.toInt (A6.get 137 25 (by decide))
  have e6_27 := congrArg Int32.toInt (A6.get 137 27 (by decide))
  have e6_82 := congrArg Int32.toInt (A6.get 137 82 (by decide))
  have E9 := x6_2 E9
  have S9 := S9.agr A6 (by decide)
  have K9 := K9.agr A6 (by decide)
  have q_a5 : a5.toInt = a2.toInt := by rw [ea5, ea2, ev4, ev1]
  refine lv_icmp_eq (tgt := 1130) hx hb dL_law_348 (by decide) (fun _ => ?_) (fun c9 => ?_)
  · skip
    exact N _ h6 _ _ ls ⟨S, I, K, Lk, ⟨by omega, by omega, by omega⟩, E9, S9, K9, by omega, by omega, by omega, by omega⟩ V (lv_sub hl [0, 1, 2, 3, 4] rfl) (by omega)
  · exact absurd (pi_eq.mpr (by omega)) c9
set_option maxHeartbeats 4000000 in
set_option maxRecDepth 100000 in
theorem lc_5 {p : Program} {l : Launch} {e : Env} {s : State} {m : MethodId} {below : List Frame} {meth : Method} {c : Code} {b L : Nat} {xs : Nat → Int32} {Z : pZ} {Q : State → Prop} (hl9 : l.stackTraces = false) (M : pM Z.1 p s m #[Value.ref b] c cL_law 7 RL) (X : pXS (zB Z) s) (hX : va_X b L xs s s.heap) (hbl : b < s.heap.size) (hbA : ¬ pA (zB Z) b) (hL : L ≤ 384) {t : Nat} (ht : t < 64) {y : pY} {h : pH} {H : Heap} {locs : List Loc} {ls : Array Slot} {i : Int32} (hi : i.toInt = 6 * (t : Int)) (hiL : i.toInt + 6 ≤ (L : Int)) (J : lI t (gW Z y) h) (V : pV (gW Z y) h s.heap H locs) (hl : lv_has ls 7 [(4, .int i), (3, .ref (zB Z + 188)), (2, .ref (zB Z + 137)), (1, .ref (zB Z + 0)), (0, .ref b)]) (hph : 896 ≤ pPh (gW Z y)) (N : ∀ (y1 : pY) (h1 : pH) (H1 : Heap) (locs1 : List Loc) (ls1 : Array Slot), lI (t + 1) (gW Z y1) h1 → pV (gW Z y1) h1 s.heap H1 locs1 → lv_has ls1 7 [(4, .int i), (3, .ref (zB Z + 188)), (2, .ref (zB Z + 137)), (1, .ref (zB Z + 0)), (0, .ref b)] → 896 ≤ pPh (gW Z y1) → W p l e room_1 s m #[Value.ref b] below meth c H1 locs1 (189 + (t + 1) + (pPh (gW Z y1) - 896)) (160018 + 6 * (t + 1) + 2 * (pPh (gW Z y1) - 896)) Q (F0 m 1130 ls1 [])) : W p l e room_1 s m #[Value.ref b] below meth c H locs (189 + t + (pPh (gW Z y) - 896)) (160018 + 6 * t + 2 * (pPh (gW Z y) - 896)) Q (F0 m 353 ls []) := by
  have hx := M.1.1
  have hb := M.1.2.1
  have M := pM.to (gW Z y) rfl M
  obtain ⟨S, I, K, Lk, ⟨c1, c2, c3⟩, B0⟩ := J
  have hPm := K.ph
  refine lv_aload_n hx hb dL_law_353 rfl (lv_at hl 3 rfl) ?_
  refine lv_aload_n hx hb dL_law_354 rfl (lv_at hl 1 rfl) ?_
  refine gz_i (Z := (gW Z y)) Z rfl rfl (wr_S (Z := (gW Z y)) M V X (m_L_begin l hl9 S I  K Lk ) km_L_begin lkM_L_94 rfl hl.1 rfl (Nat.le_of_ble_eq_true rfl) ⟨Nat.le_of_ble_eq_true rfl, Nat.le_of_ble_eq_true rfl⟩ ⟨show 189 + t + (pPh (gW Z y) - 896) + (560000 - pPh (gW Z y) + 10) ≤ 600128 from by omega, show 160018 + 6 * t + 2 * (pPh (gW Z y) - 896) + (2 * (560000 - pPh (gW Z y)) + 200000) ≤ 7301098 from by omega⟩ dL_law_355) V (fun r1 y1 h1 k1 n1 H locs p1 V => ?_)
  obtain ⟨g1, K, I, A1, b1, Lk, f1, f1_2, f1_3⟩ := p1
  have S := S.gr (Z1 := (gW Z y1)) rfl g1
  have M := pM.to (gW Z y1) rfl M
  have hPm := K.ph
  have hph : 896 ≤ pPh (gW Z y1) := by omega
  have B1 := B0.cls (A1.wk (by decide))
  obtain ⟨E9, S9, K9, w2, w25, w27, w82⟩ := B1
  refine W.widen (k := 189 + (t + 1) + (pPh (gW Z y1) - 896)) (n := 160018 + 6 * (t + 1) + 2 * (pPh (gW Z y1) - 896)) (by omega) (by omega) ?_
  have c1 : (h1 2 4).toInt ≤ ((t : Int) + 1) := by omega
  have c2 : (h1 129 2).toInt ≤ 13 * ((t : Int) + 1) := by omega
  have c3 : (h1 129 3).toInt ≤ 13 * ((t : Int) + 1) := by omega
  refine lv_istore (lv' := [(5, .int r1), (4, .int i), (3, .ref (zB Z + 188)), (2, .ref (zB Z + 137)), (1, .ref (zB Z + 0)), (0, .ref b)]) hx hb dL_law_358 hl (by decide) rfl (fun ls hl => ?_)
  refine lv_aload_n hx hb dL_law_360 rfl (lv_at hl 3 rfl) ?_
  refine pk_i (pr_V (Z := (gW Z y1)) M V (m_X12_begin l S I  E9 S9 K9) km_X12_begin (sm_this S) pC12 lkM_L_99 rfl hl.1 rfl (Nat.le_of_ble_eq_true rfl) ⟨Nat.le_of_ble_eq_true rfl, Nat.le_of_ble_eq_true rfl⟩ ⟨show 189 + (t + 1) + (pPh (gW Z y1) - 896) + 0 ≤ 600128 from by omega, show 160018 + 6 * (t + 1) + 2 * (pPh (gW Z y1) - 896) + 0 ≤ 7301098 from by omega⟩ dL_law_361) V (fun r2 Zr2 h2 H locs p2 _ _ V => ?_)
  obtain ⟨rfl, I, A2, x2_0, x2_1, x2_2, x2_3, x2_4, x2_5, x2_6⟩ := p2
  have Lk := Lk.congr (A2.get 129 2 (by decide)) (A2.get 129 3 (by decide))
  have c1 : (h2 2 4).toInt ≤ ((t : Int) + 1) := by have z9 := congrArg Int32.toInt (A2.get 2 4 (by decide)); omega
  have c2 : (h2 129 2).toInt ≤ 13 * ((t : Int) + 1) := by have z9 := congrArg Int32.toInt (A2.get 129 2 (by decide)); omega
  have c3 : (h2 129 3).toInt ≤ 13 * ((t : Int) + 1) := by have z9 := congrArg Int32.toInt (A2.get 129 3 (by decide)); omega
  have E9 := x2_0
  have S9 := x2_1
  have K9 := x2_2
  refine lv_istore (lv' := [(6, .int r2), (5, .int r1), (4, .int i), (3, .ref (zB Z + 188)), (2, .ref (zB Z + 137)), (1, .ref (zB Z + 0)), (0, .ref b)]) hx hb dL_law_364 hl (by decide) rfl (fun ls hl => ?_)
  refine lv_goto (tgt := 1130) hx hb dL_law_366 (by decide) ?_
  exact N _ h2 _ _ ls ⟨S, I, K, Lk, ⟨by omega, by omega, by omega⟩, E9, S9, K9, by omega, by omega, by omega, by omega⟩ V (lv_sub hl [2, 3, 4, 5, 6] rfl) (by omega)
set_option maxHeartbeats 4000000 in
set_option maxRecDepth 100000 in
theorem lc_6 {p : Program} {l : Launch} {e : Env} {s : State} {m : MethodId} {below : List Frame} {meth : Method} {c : Code} {b L : Nat} {xs : Nat → Int32} {Z : pZ} {Q : State → Prop} (hl9 : l.stackTraces = false) (M : pM Z.1 p s m #[Value.ref b] c cL_law 7 RL) (X : pXS (zB Z) s) (hX : va_X b L xs s s.heap) (hbl : b < s.heap.size) (hbA : ¬ pA (zB Z) b) (hL : L ≤ 384) {t : Nat} (ht : t < 64) {y : pY} {h : pH} {H : Heap} {locs : List Loc} {ls : Array Slot} {i : Int32} (hi : i.toInt = 6 * (t : Int)) (hiL : i.toInt + 6 ≤ (L : Int)) (J : lI t (gW Z y) h) (V : pV (gW Z y) h s.heap H locs) (hl : lv_has ls 7 [(4, .int i), (3, .ref (zB Z + 188)), (2, .ref (zB Z + 137)), (1, .ref (zB Z + 0)), (0, .ref b)]) (hph : 896 ≤ pPh (gW Z y)) (N : ∀ (y1 : pY) (h1 : pH) (H1 : Heap) (locs1 : List Loc) (ls1 : Array Slot), lI (t + 1) (gW Z y1) h1 → pV (gW Z y1) h1 s.heap H1 locs1 → lv_has ls1 7 [(4, .int i), (3, .ref (zB Z + 188)), (2, .ref (zB Z + 137)), (1, .ref (zB Z + 0)), (0, .ref b)] → 896 ≤ pPh (gW Z y1) → W p l e room_1 s m #[Value.ref b] below meth c H1 locs1 (189 + (t + 1) + (pPh (gW Z y1) - 896)) (160018 + 6 * (t + 1) + 2 * (pPh (gW Z y1) - 896)) Q (F0 m 1130 ls1 [])) : W p l e room_1 s m #[Value.ref b] below meth c H locs (189 + t + (pPh (gW Z y) - 896)) (160018 + 6 * t + 2 * (pPh (gW Z y) - 896)) Q (F0 m 369 ls []) := by
  have hx := M.1.1
  have hb := M.1.2.1
  have M := pM.to (gW Z y) rfl M
  obtain ⟨S, I, K, Lk, ⟨c1, c2, c3⟩, B0⟩ := J
  have hPm := K.ph
  refine lv_aload_n hx hb dL_law_369 rfl (lv_at hl 3 rfl) ?_
  refine lv_aload_n hx hb dL_law_370 rfl (lv_at hl 1 rfl) ?_
  refine gz_i (Z := (gW Z y)) Z rfl rfl (wr_S (Z := (gW Z y)) M V X (m_L_end l hl9 S I  K Lk (by omega)) km_L_end lkM_L_100 rfl hl.1 rfl (Nat.le_of_ble_eq_true rfl) ⟨Nat.le_of_ble_eq_true rfl, Nat.le_of_ble_eq_true rfl⟩ ⟨show 189 + t + (pPh (gW Z y) - 896) + (560000 - pPh (gW Z y) + 10) ≤ 600128 from by omega, show 160018 + 6 * t + 2 * (pPh (gW Z y) - 896) + (2 * (560000 - pPh (gW Z y)) + 200000) ≤ 7301098 from by omega⟩ dL_law_371) V (fun r1 y1 h1 k1 n1 H locs p1 V => ?_)
  obtain ⟨g1, K, I, A1, b1, Lk, f1, f1_2, f1_3⟩ := p1
  have S := S.gr (Z1 := (gW Z y1)) rfl g1
  have M := pM.to (gW Z y1) rfl M
  have hPm := K.ph
  have hph : 896 ≤ pPh (gW Z y1) := by omega
  have B1 := B0.cls (A1.wk (by decide))
  obtain ⟨E9, S9, K9, w2, w25, w27, w82⟩ := B1
  refine W.widen (k := 189 + (t + 1) + (pPh (gW Z y1) - 896)) (n := 160018 + 6 * (t + 1) + 2 * (pPh (gW Z y1) - 896)) (by omega) (by omega) ?_
  have c1 : (h1 2 4).toInt ≤ ((t : Int) + 1) := by omega
  have c2 : (h1 129 2).toInt ≤ 13 * ((t : Int) + 1) := by omega
  have c3 : (h1 129 3).toInt ≤ 13 * ((t : Int) + 1) := by omega
  refine lv_istore (lv' := [(5, .int r1), (4, .int i), (3, .ref (zB Z + 188)), (2, .ref (zB Z + 137)), (1, .ref (zB Z + 0)), (0, .ref b)]) hx hb dL_law_374 hl (by decide) rfl (fun ls hl => ?_)
  refine lv_aload_n hx hb dL_law_376 rfl (lv_at hl 3 rfl) ?_
  refine pk_i (pr_V (Z := (gW Z y1)) M V (m_X12_end l S I  E9 S9 K9) km_X12_end (sm_this S) pC12 lkM_L_102 rfl hl.1 rfl (Nat.le_of_ble_eq_true rfl) ⟨Nat.le_of_ble_eq_true rfl, Nat.le_of_ble_eq_true rfl⟩ ⟨show 189 + (t + 1) + (pPh (gW Z y1) - 896) + 0 ≤ 600128 from by omega, show 160018 + 6 * (t + 1) + 2 * (pPh (gW Z y1) - 896) + 0 ≤ 7301098 from by omega⟩ dL_law_377) V (fun r2 Zr2 h2 H locs p2 _ _ V => ?_)
  obtain ⟨rfl, I, A2, x2_0, x2_1, x2_2, x2_3⟩ := p2
  have Lk := Lk.congr (A2.get 129 2 (by decide)) (A2.get 129 3 (by decide))
  have c1 : (h2 2 4).toInt ≤ ((t : Int) + 1) := by have z9 := congrArg Int32.toInt (A2.get 2 4 (by decide)); omega
  have c2 : (h2 129 2).toInt ≤ 13 * ((t : Int) + 1) := by have z9 := congrArg Int32.toInt (A2.get 129 2 (by decide)); omega
  have c3 : (h2 129 3).toInt ≤ 13 * ((t : Int) + 1) := by have z9 := congrArg Int32.toInt (A2.get 129 3 (by decide)); omega
  have e2_2 := congrArg Int32.toInt (A2.get 137 2 (by decide))
  have e2_25 := congrArg Int32.toInt (A2.get 137 25 (by decide))
  have e2_27 := congrArg Int32.toInt (A2.get 137 27 (by decide))
  have e2_82 := congrArg Int32.toInt (A2.get 137 82 (by decide))
  have E9 := x2_0
  have S9 := x2_1
  have K9 := x2_2
  refine lv_istore (lv' := [(6, .int r2), (5, .int r1), (4, .int i), (3, .ref (zB Z + 188)), (2, .ref (zB Z + 137)), (1, .ref (zB Z + 0)), (0, .ref b)]) hx hb dL_law_380 hl (by decide) rfl (fun ls hl => ?_)
  refine lv_goto (tgt := 1130) hx hb dL_law_382 (by decide) ?_
  exact N _ h2 _ _ ls ⟨S, I, K, Lk, ⟨by omega, by omega, by omega⟩, E9, S9, K9, by omega, by omega, by omega, by omega⟩ V (lv_sub hl [2, 3, 4, 5, 6] rfl) (by omega)
set_option maxHeartbeats 4000000 in
set_option maxRecDepth 100000 in
theorem lc_7 {p : Program} {l : Launch} {e : Env} {s : State} {m : MethodId} {below : List Frame} {meth : Method} {c : Code} {b L : Nat} {xs : Nat → Int32} {Z : pZ} {Q : State → Prop} (hl9 : l.stackTraces = false) (M : pM Z.1 p s m #[Value.ref b] c cL_law 7 RL) (X : pXS (zB Z) s) (hX : va_X b L xs s s.heap) (hbl : b < s.heap.size) (hbA : ¬ pA (zB Z) b) (hL : L ≤ 384) {t : Nat} (ht : t < 64) {y : pY} {h : pH} {H : Heap} {locs : List Loc} {ls : Array Slot} {i : Int32} (hi : i.toInt = 6 * (t : Int)) (hiL : i.toInt + 6 ≤ (L : Int)) (J : lI t (gW Z y) h) (V : pV (gW Z y) h s.heap H locs) (hl : lv_has ls 7 [(4, .int i), (3, .ref (zB Z + 188)), (2, .ref (zB Z + 137)), (1, .ref (zB Z + 0)), (0, .ref b)]) (hph : 896 ≤ pPh (gW Z y)) (N : ∀ (y1 : pY) (h1 : pH) (H1 : Heap) (locs1 : List Loc) (ls1 : Array Slot), lI (t + 1) (gW Z y1) h1 → pV (gW Z y1) h1 s.heap H1 locs1 → lv_has ls1 7 [(4, .int i), (3, .ref (zB Z + 188)), (2, .ref (zB Z + 137)), (1, .ref (zB Z + 0)), (0, .ref b)] → 896 ≤ pPh (gW Z y1) → W p l e room_1 s m #[Value.ref b] below meth c H1 locs1 (189 + (t + 1) + (pPh (gW Z y1) - 896)) (160018 + 6 * (t + 1) + 2 * (pPh (gW Z y1) - 896)) Q (F0 m 1130 ls1 [])) : W p l e room_1 s m #[Value.ref b] below meth c H locs (189 + t + (pPh (gW Z y) - 896)) (160018 + 6 * t + 2 * (pPh (gW Z y) - 896)) Q (F0 m 385 ls []) := by
  have hx := M.1.1
  have hb := M.1.2.1
  have M := pM.to (gW Z y) rfl M
  obtain ⟨S, I, K, Lk, ⟨c1, c2, c3⟩, B0⟩ := J
  have hPm := K.ph
  refine lv_aload_n hx hb dL_law_385 rfl (lv_at hl 3 rfl) ?_
  refine lv_aload_n hx hb dL_law_386 rfl (lv_at hl 4 rfl) ?_
  refine lv_iload hx hb dL_law_387 (lv_at hl 0 rfl) ?_
  refine lv_iconst (v := 1) hx hb dL_law_389 (by decide) ?_
  refine lv_iadd hx hb dL_law_390 ?_
  refine lv_topi (fun v1 ev1 => ?_)
  have tv1 : v1.toInt = i.toInt + 1 := by rw [ev1]; have z9 := pi_add (x := i) (y := 1); rw [show (1 : Int32).toInt = 1 from rfl] at z9; exact z9 (by omega)
  refine va_sld hx hb hX hbl hbA V.2.1 (pi_in (by omega)) dL_law_391 ?_
  refine lv_topi (fun a2 ea2 => ?_)
  refine lv_aload_n hx hb dL_law_392 rfl (lv_at hl 4 rfl) ?_
  refine lv_iload hx hb dL_law_393 (lv_at hl 0 rfl) ?_
  refine lv_iconst (v := 2) hx hb dL_law_395 (by decide) ?_
  refine lv_iadd hx hb dL_law_396 ?_
  refine lv_topi (fun v3 ev3 => ?_)
  have tv3 : v3.toInt = i.toInt + 2 := by rw [ev3]; have z9 := pi_add (x := i) (y := 2); rw [show (2 : Int32).toInt = 2 from rfl] at z9; exact z9 (by omega)
  refine va_sld hx hb hX hbl hbA V.2.1 (pi_in (by omega)) dL_law_397 ?_
  refine lv_topi (fun a4 ea4 => ?_)
  refine lv_aload_n hx hb dL_law_398 rfl (lv_at hl 4 rfl) ?_
  refine lv_iload hx hb dL_law_399 (lv_at hl 0 rfl) ?_
  refine lv_iconst (v := 3) hx hb dL_law_401 (by decide) ?_
  refine lv_iadd hx hb dL_law_402 ?_
  refine lv_topi (fun v5 ev5 => ?_)
  have tv5 : v5.toInt = i.toInt + 3 := by rw [ev5]; have z9 := pi_add (x := i) (y := 3); rw [show (3 : Int32).toInt = 3 from rfl] at z9; exact z9 (by omega)
  refine va_sld hx hb hX hbl hbA V.2.1 (pi_in (by omega)) dL_law_403 ?_
  refine lv_topi (fun a6 ea6 => ?_)
  refine lv_aload_n hx hb dL_law_404 rfl (lv_at hl 4 rfl) ?_
  refine lv_iload hx hb dL_law_405 (lv_at hl 0 rfl) ?_
  refine lv_iconst (v := 4) hx hb dL_law_407 (by decide) ?_
  refine lv_iadd hx hb dL_law_408 ?_
  refine lv_topi (fun v7 ev7 => ?_)
  have tv7 : v7.toInt = i.toInt + 4 := by rw [ev7]; have z9 := pi_add (x := i) (y := 4); rw [show (4 : Int32).toInt = 4 from rfl] at z9; exact z9 (by omega)
  refine va_sld hx hb hX hbl hbA V.2.1 (pi_in (by omega)) dL_law_409 ?_
  refine lv_topi (fun a8 ea8 => ?_)
  refine lv_aload_n hx hb dL_law_410 rfl (lv_at hl 4 rfl) ?_
  refine lv_iload hx hb dL_law_411 (lv_at hl 0 rfl) ?_
  refine lv_iconst (v := 5) hx hb dL_law_413 (by decide) ?_
  refine lv_iadd hx hb dL_law_414 ?_
  refine lv_topi (fun v9 ev9 => ?_)
  have tv9 : v9.toInt = i.toInt + 5 := by rw [ev9]; have z9 := pi_add (x := i) (y := 5); rw [show (5 : Int32).toInt = 5 from rfl] at z9; exact z9 (by omega)
  refine va_sld hx hb hX hbl hbA V.2.1 (pi_in (by omega)) dL_law_415 ?_
  refine lv_topi (fun a10 ea10 => ?_)
  refine lv_aload_n hx hb dL_law_416 rfl (lv_at hl 1 rfl) ?_
  refine gz_i (Z := (gW Z y)) Z rfl rfl (wr_S (Z := (gW Z y)) M V X (m_L_window l hl9 S I a2 a4 a6 a8 a10 K Lk (by omega)) km_L_window lkM_L_103 rfl hl.1 rfl (Nat.le_of_ble_eq_true rfl) ⟨Nat.le_of_ble_eq_true rfl, Nat.le_of_ble_eq_true rfl⟩ ⟨show 189 + t + (pPh (gW Z y) - 896) + (560000 - pPh (gW Z y) + 10) ≤ 600128 from by omega, show 160018 + 6 * t + 2 * (pPh (gW Z y) - 896) + (2 * (560000 - pPh (gW Z y)) + 200000) ≤ 7301098 from by omega⟩ dL_law_417) V (fun r11 y11 h11 k11 n11 H locs p11 V => ?_)
  obtain ⟨g11, K, I, A11, b11, Lk, f11, f11_2, f11_3⟩ := p11
  have S := S.gr (Z1 := (gW Z y11)) rfl g11
  have M := pM.to (gW Z y11) rfl M
  have hPm := K.ph
  have hph : 896 ≤ pPh (gW Z y11) := by omega
  have B1 := B0.cls (A11.wk (by decide))
  obtain ⟨E9, S9, K9, w2, w25, w27, w82⟩ := B1
  refine W.widen (k := 189 + (t + 1) + (pPh (gW Z y11) - 896)) (n := 160018 + 6 * (t + 1) + 2 * (pPh (gW Z y11) - 896)) (by omega) (by omega) ?_
  have c1 : (h11 2 4).toInt ≤ ((t : Int) + 1) := by omega
  have c2 : (h11 129 2).toInt ≤ 13 * ((t : Int) + 1) := by omega
  have c3 : (h11 129 3).toInt ≤ 13 * ((t : Int) + 1) := by omega
  refine lv_istore (lv' := [(5, .int r11), (4, .int i), (3, .ref (zB Z + 188)), (2, .ref (zB Z + 137)), (1, .ref (zB Z + 0)), (0, .ref b)]) hx hb dL_law_420 hl (by decide) rfl (fun ls hl => ?_)
  refine lv_aload_n hx hb dL_law_422 rfl (lv_at hl 3 rfl) ?_
  refine lv_aload_n hx hb dL_law_423 rfl (lv_at hl 5 rfl) ?_
  refine lv_iload hx hb dL_law_424 (lv_at hl 1 rfl) ?_
  refine lv_iconst (v := 1) hx hb dL_law_426 (by decide) ?_
  refine lv_iadd hx hb dL_law_427 ?_
  refine lv_topi (fun v12 ev12 => ?_)
  have tv12 : v12.toInt = i.toInt + 1 := by rw [ev12]; have z9 := pi_add (x := i) (y := 1); rw [show (1 : Int32).toInt = 1 from rfl] at z9; exact z9 (by omega)
  refine va_sld hx hb hX hbl hbA V.2.1 (pi_in (by omega)) dL_law_428 ?_
  refine lv_topi (fun a13 ea13 => ?_)
  refine lv_aload_n hx hb dL_law_429 rfl (lv_at hl 5 rfl) ?_
  refine lv_iload hx hb dL_law_430 (lv_at hl 1 rfl) ?_
  refine lv_iconst (v := 2) hx hb dL_law_432 (by decide) ?_
  refine lv_iadd hx hb dL_law_433 ?_
  refine lv_topi (fun v14 ev14 => ?_)
  have tv14 : v14.toInt = i.toInt + 2 := by rw [ev14]; have z9 := pi_add (x := i) (y := 2); rw [show (2 : Int32).toInt = 2 from rfl] at z9; exact z9 (by omega)
  refine va_sld hx hb hX hbl hbA V.2.1 (pi_in (by omega)) dL_law_434 ?_
  refine lv_topi (fun a15 ea15 => ?_)
  refine lv_aload_n hx hb dL_law_435 rfl (lv_at hl 5 rfl) ?_
  refine lv_iload hx hb dL_law_436 (lv_at hl 1 rfl) ?_
  refine lv_iconst (v := 3) hx hb dL_law_438 (by decide) ?_
  refine lv_iadd hx hb dL_law_439 ?_
  refine lv_topi (fun v16 ev16 => ?_)
  have tv16 : v16.toInt = i.toInt + 3 := by rw [ev16]; have z9 := pi_add (x := i) (y := 3); rw [show (3 : Int32).toInt = 3 from rfl] at z9; exact z9 (by omega)
  refine va_sld hx hb hX hbl hbA V.2.1 (pi_in (by omega)) dL_law_440 ?_
  refine lv_topi (fun a17 ea17 => ?_)
  refine lv_aload_n hx hb dL_law_441 rfl (lv_at hl 5 rfl) ?_
  refine lv_iload hx hb dL_law_442 (lv_at hl 1 rfl) ?_
  refine lv_iconst (v := 4) hx hb dL_law_444 (by decide) ?_
  refine lv_iadd hx hb dL_law_445 ?_
  refine lv_topi (fun v18 ev18 => ?_)
  have tv18 : v18.toInt = i.toInt + 4 := by rw [ev18]; have z9 := pi_add (x := i) (y := 4); rw [show (4 : Int32).toInt = 4 from rfl] at z9; exact z9 (by omega)
  refine va_sld hx hb hX hbl hbA V.2.1 (pi_in (by omega)) dL_law_446 ?_
  refine lv_topi (fun a19 ea19 => ?_)
  refine lv_aload_n hx hb dL_law_447 rfl (lv_at hl 5 rfl) ?_
  refine lv_iload hx hb dL_law_448 (lv_at hl 1 rfl) ?_
  refine lv_iconst (v := 5) hx hb dL_law_450 (by decide) ?_
  refine lv_iadd hx hb dL_law_451 ?_
  refine lv_topi (fun v20 ev20 => ?_)
  have tv20 : v20.toInt = i.toInt + 5 := by rw [ev20]; have z9 := pi_add (x := i) (y := 5); rw [show (5 : Int32).toInt = 5 from rfl] at z9; exact z9 (by omega)
  refine va_sld hx hb hX hbl hbA V.2.1 (pi_in (by omega)) dL_law_452 ?_
  refine lv_topi (fun a21 ea21 => ?_)
  refine pk_i (pr_V (Z := (gW Z y11)) M V (m_X12_window l S I a13 a15 a17 a19 a21 E9 S9 K9 (by omega) (by omega) (by omega)) km_X12_window (sm_this S) pC12 lkM_L_106 rfl hl.1 rfl (Nat.le_of_ble_eq_true rfl) ⟨Nat.le_of_ble_eq_true rfl, Nat.le_of_ble_eq_true rfl⟩ ⟨show 189 + (t + 1) + (pPh (gW Z y11) - 896) + 0 ≤ 600128 from by omega, show 160018 + 6 * (t + 1) + 2 * (pPh (gW Z y11) - 896) + 0 ≤ 7301098 from by omega⟩ dL_law_453) V (fun r22 Zr22 h22 H locs p22 _ _ V => ?_)
  obtain ⟨rfl, I, A22, x22_0, x22_1, x22_2, x22_3, x22_4, x22_5⟩ := p22
  have Lk := Lk.congr (A22.get 129 2 (by decide)) (A22.get 129 3 (by decide))
  have c1 : (h22 2 4).toInt ≤ ((t : Int) + 1) := by have z9 := congrArg Int32.toInt (A22.get 2 4 (by decide)); omega
  have c2 : (h22 129 2).toInt ≤ 13 * ((t : Int) + 1) := by have z9 := congrArg Int32.toInt (A22.get 129 2 (by decide)); omega
  have c3 : (h22 129 3).toInt ≤ 13 * ((t : Int) + 1) := by have z9 := congrArg Int32.toInt (A22.get 129 3 (by decide)); omega
  have e22_2 := congrArg Int32.toInt (A22.get 137 2 (by decide))
  have e22_27 := congrArg Int32.toInt (A22.get 137 27 (by decide))
  have E9 := x22_1
  have S9 := x22_2
  have K9 := x22_3
  refine lv_istore (lv' := [(6, .int r22), (5, .int r11), (4, .int i), (3, .ref (zB Z + 188)), (2, .ref (zB Z + 137)), (1, .ref (zB Z + 0)), (0, .ref b)]) hx hb dL_law_456 hl (by decide) rfl (fun ls hl => ?_)
  refine lv_goto (tgt := 1130) hx hb dL_law_458 (by decide) ?_
  exact N _ h22 _ _ ls ⟨S, I, K, Lk, ⟨by omega, by omega, by omega⟩, E9, S9, K9, by omega, by omega, by omega, by omega⟩ V (lv_sub hl [2, 3, 4, 5, 6] rfl) (by omega)
set_option maxHeartbeats 4000000 in
set_option maxRecDepth 100000 in
theorem lc_8 {p : Program} {l : Launch} {e : Env} {s : State} {m : MethodId} {below : List Frame} {meth : Method} {c : Code} {b L : Nat} {xs : Nat → Int32} {Z : pZ} {Q : State → Prop} (hl9 : l.stackTraces = false) (M : pM Z.1 p s m #[Value.ref b] c cL_law 7 RL) (X : pXS (zB Z) s) (hX : va_X b L xs s s.heap) (hbl : b < s.heap.size) (hbA : ¬ pA (zB Z) b) (hL : L ≤ 384) {t : Nat} (ht : t < 64) {y : pY} {h : pH} {H : Heap} {locs : List Loc} {ls : Array Slot} {i : Int32} (hi : i.toInt = 6 * (t : Int)) (hiL : i.toInt + 6 ≤ (L : Int)) (J : lI t (gW Z y) h) (V : pV (gW Z y) h s.heap H locs) (hl : lv_has ls 7 [(4, .int i), (3, .ref (zB Z + 188)), (2, .ref (zB Z + 137)), (1, .ref (zB Z + 0)), (0, .ref b)]) (hph : 896 ≤ pPh (gW Z y)) (N : ∀ (y1 : pY) (h1 : pH) (H1 : Heap) (locs1 : List Loc) (ls1 : Array Slot), lI (t + 1) (gW Z y1) h1 → pV (gW Z y1) h1 s.heap H1 locs1 → lv_has ls1 7 [(4, .int i), (3, .ref (zB Z + 188)), (2, .ref (zB Z + 137)), (1, .ref (zB Z + 0)), (0, .ref b)] → 896 ≤ pPh (gW Z y1) → W p l e room_1 s m #[Value.ref b] below meth c H1 locs1 (189 + (t + 1) + (pPh (gW Z y1) - 896)) (160018 + 6 * (t + 1) + 2 * (pPh (gW Z y1) - 896)) Q (F0 m 1130 ls1 [])) : W p l e room_1 s m #[Value.ref b] below meth c H locs (189 + t + (pPh (gW Z y) - 896)) (160018 + 6 * t + 2 * (pPh (gW Z y) - 896)) Q (F0 m 461 ls []) := by
  have hx := M.1.1
  have hb := M.1.2.1
  have M := pM.to (gW Z y) rfl M
  obtain ⟨S, I, K, Lk, ⟨c1, c2, c3⟩, B0⟩ := J
  have hPm := K.ph
  refine lv_aload_n hx hb dL_law_461 rfl (lv_at hl 3 rfl) ?_
  refine lv_aload_n hx hb dL_law_462 rfl (lv_at hl 4 rfl) ?_
  refine lv_iload hx hb dL_law_463 (lv_at hl 0 rfl) ?_
  refine lv_iconst (v := 1) hx hb dL_law_465 (by decide) ?_
  refine lv_iadd hx hb dL_law_466 ?_
  refine lv_topi (fun v1 ev1 => ?_)
  have tv1 : v1.toInt = i.toInt + 1 := by rw [ev1]; have z9 := pi_add (x := i) (y := 1); rw [show (1 : Int32).toInt = 1 from rfl] at z9; exact z9 (by omega)
  refine va_sld hx hb hX hbl hbA V.2.1 (pi_in (by omega)) dL_law_467 ?_
  refine lv_topi (fun a2 ea2 => ?_)
  refine lv_aload_n hx hb dL_law_468 rfl (lv_at hl 1 rfl) ?_
  refine gz_i (Z := (gW Z y)) Z rfl rfl (wr_S (Z := (gW Z y)) M V X (m_L_open l hl9 S I a2 K Lk ) km_L_open lkM_L_107 rfl hl.1 rfl (Nat.le_of_ble_eq_true rfl) ⟨Nat.le_of_ble_eq_true rfl, Nat.le_of_ble_eq_true rfl⟩ ⟨show 189 + t + (pPh (gW Z y) - 896) + (560000 - pPh (gW Z y) + 10) ≤ 600128 from by omega, show 160018 + 6 * t + 2 * (pPh (gW Z y) - 896) + (2 * (560000 - pPh (gW Z y)) + 200000) ≤ 7301098 from by omega⟩ dL_law_469) V (fun r3 y3 h3 k3 n3 H locs p3 V => ?_)
  obtain ⟨g3, K, I, A3, b3, Lk, f3, f3_2, f3_3⟩ := p3
  have S := S.gr (Z1 := (gW Z y3)) rfl g3
  have M := pM.to (gW Z y3) rfl M
  have hPm := K.ph
  have hph : 896 ≤ pPh (gW Z y3) := by omega
  have B1 := B0.cls (A3.wk (by decide))
  obtain ⟨E9, S9, K9, w2, w25, w27, w82⟩ := B1
  refine W.widen (k := 189 + (t + 1) + (pPh (gW Z y3) - 896)) (n := 160018 + 6 * (t + 1) + 2 * (pPh (gW Z y3) - 896)) (by omega) (by omega) ?_
  have c1 : (h3 2 4).toInt ≤ ((t : Int) + 1) := by omega
  have c2 : (h3 129 2).toInt ≤ 13 * ((t : Int) + 1) := by omega
  have c3 : (h3 129 3).toInt ≤ 13 * ((t : Int) + 1) := by omega
  refine lv_istore (lv' := [(5, .int r3), (4, .int i), (3, .ref (zB Z + 188)), (2, .ref (zB Z + 137)), (1, .ref (zB Z + 0)), (0, .ref b)]) hx hb dL_law_472 hl (by decide) rfl (fun ls hl => ?_)
  refine lv_aload_n hx hb dL_law_474 rfl (lv_at hl 3 rfl) ?_
  refine lv_aload_n hx hb dL_law_475 rfl (lv_at hl 5 rfl) ?_
  refine lv_iload hx hb dL_law_476 (lv_at hl 1 rfl) ?_
  refine lv_iconst (v := 1) hx hb dL_law_478 (by decide) ?_
  refine lv_iadd hx hb dL_law_479 ?_
  refine lv_topi (fun v4 ev4 => ?_)
  have tv4 : v4.toInt = i.toInt + 1 := by rw [ev4]; have z9 := pi_add (x := i) (y := 1); rw [show (1 : Int32).toInt = 1 from rfl] at z9; exact z9 (by omega)
  refine va_sld hx hb hX hbl hbA V.2.1 (pi_in (by omega)) dL_law_480 ?_
  refine lv_topi (fun a5 ea5 => ?_)
  refine pk_i (pr_V (Z := (gW Z y3)) M V (m_X12_open l S I a5 E9 S9 K9) km_X12_open (sm_this S) pC12 lkM_L_110 rfl hl.1 rfl (Nat.le_of_ble_eq_true rfl) ⟨Nat.le_of_ble_eq_true rfl, Nat.le_of_ble_eq_true rfl⟩ ⟨show 189 + (t + 1) + (pPh (gW Z y3) - 896) + 0 ≤ 600128 from by omega, show 160018 + 6 * (t + 1) + 2 * (pPh (gW Z y3) - 896) + 0 ≤ 7301098 from by omega⟩ dL_law_481) V (fun r6 Zr6 h6 H locs p6 _ _ V => ?_)
  obtain ⟨rfl, I, A6, x6_0, x6_1, x6_2, x6_3⟩ := p6
  have Lk := Lk.congr (A6.get 129 2 (by decide)) (A6.get 129 3 (by decide))
  have c1 : (h6 2 4).toInt ≤ ((t : Int) + 1) := by have z9 := congrArg Int32.toInt (A6.get 2 4 (by decide)); omega
  have c2 : (h6 129 2).toInt ≤ 13 * ((t : Int) + 1) := by have z9 := congrArg Int32.toInt (A6.get 129 2 (by decide)); omega
  have c3 : (h6 129 3).toInt ≤ 13 * ((t : Int) + 1) := by have z9 := congrArg Int32.toInt (A6.get 129 3 (by decide)); omega
  have e6_2 := congrArg Int32.toInt (A6.get 137 2 (by decide))
  have e6_25 := congrArg Int32.toInt (A6.get 137 25 (by decide))
  have e6_27 := congrArg Int32.toInt (A6.get 137 27 (by decide))
  have e6_82 := congrArg Int32.toInt (A6.get 137 82 (by decide))
  have E9 := x6_1
  have S9 := x6_2
  have K9 := x6_3
  refine lv_istore (lv' := [(6, .int r6), (5, .int r3), (4, .int i), (3, .ref (zB Z + 188)), (2, .ref (zB Z + 137)), (1, .ref (zB Z + 0)), (0, .ref b)]) hx hb dL_law_484 hl (by decide) rfl (fun ls hl => ?_)
  refine lv_goto (tgt := 1130) hx hb dL_law_486 (by decide) ?_
  exact N _ h6 _ _ ls ⟨S, I, K, Lk, ⟨by omega, by omega, by omega⟩, E9, S9, K9, by omega, by omega, by omega, by omega⟩ V (lv_sub hl [2, 3, 4, 5, 6] rfl) (by omega)
set_option maxHeartbeats 4000000 in
set_option maxRecDepth 100000 in
theorem lc_9 {p : Program} {l : Launch} {e : Env} {s : State} {m : MethodId} {below : List Frame} {meth : Method} {c : Code} {b L : Nat} {xs : Nat → Int32} {Z : pZ} {Q : State → Prop} (hl9 : l.stackTraces = false) (M : pM Z.1 p s m #[Value.ref b] c cL_law 7 RL) (X : pXS (zB Z) s) (hX : va_X b L xs s s.heap) (hbl : b < s.heap.size) (hbA : ¬ pA (zB Z) b) (hL : L ≤ 384) {t : Nat} (ht : t < 64) {y : pY} {h : pH} {H : Heap} {locs : List Loc} {ls : Array Slot} {i : Int32} (hi : i.toInt = 6 * (t : Int)) (hiL : i.toInt + 6 ≤ (L : Int)) (J : lI t (gW Z y) h) (V : pV (gW Z y) h s.heap H locs) (hl : lv_has ls 7 [(4, .int i), (3, .ref (zB Z + 188)), (2, .ref (zB Z + 137)), (1, .ref (zB Z + 0)), (0, .ref b)]) (hph : 896 ≤ pPh (gW Z y)) (N : ∀ (y1 : pY) (h1 : pH) (H1 : Heap) (locs1 : List Loc) (ls1 : Array Slot), lI (t + 1) (gW Z y1) h1 → pV (gW Z y1) h1 s.heap H1 locs1 → lv_has ls1 7 [(4, .int i), (3, .ref (zB Z + 188)), (2, .ref (zB Z + 137)), (1, .ref (zB Z + 0)), (0, .ref b)] → 896 ≤ pPh (gW Z y1) → W p l e room_1 s m #[Value.ref b] below meth c H1 locs1 (189 + (t + 1) + (pPh (gW Z y1) - 896)) (160018 + 6 * (t + 1) + 2 * (pPh (gW Z y1) - 896)) Q (F0 m 1130 ls1 [])) : W p l e room_1 s m #[Value.ref b] below meth c H locs (189 + t + (pPh (gW Z y) - 896)) (160018 + 6 * t + 2 * (pPh (gW Z y) - 896)) Q (F0 m 489 ls []) := by
  have hx := M.1.1
  have hb := M.1.2.1
  have M := pM.to (gW Z y) rfl M
  obtain ⟨S, I, K, Lk, ⟨c1, c2, c3⟩, B0⟩ := J
  have hPm := K.ph
  refine lv_aload_n hx hb dL_law_489 rfl (lv_at hl 3 rfl) ?_
  refine lv_aload_n hx hb dL_law_490 rfl (lv_at hl 4 rfl) ?_
  refine lv_iload hx hb dL_law_491 (lv_at hl 0 rfl) ?_
  refine lv_iconst (v := 1) hx hb dL_law_493 (by decide) ?_
  refine lv_iadd hx hb dL_law_494 ?_
  refine lv_topi (fun v1 ev1 => ?_)
  have tv1 : v1.toInt = i.toInt + 1 := by rw [ev1]; have z9 := pi_add (x := i) (y := 1); rw [show (1 : Int32).toInt = 1 from rfl] at z9; exact z9 (by omega)
  refine va_sld hx hb hX hbl hbA V.2.1 (pi_in (by omega)) dL_law_495 ?_
  refine lv_topi (fun a2 ea2 => ?_)
  refine lv_aload_n hx hb dL_law_496 rfl (lv_at hl 4 rfl) ?_
  refine lv_iload hx hb dL_law_497 (lv_at hl 0 rfl) ?_
  refine lv_iconst (v := 2) hx hb dL_law_499 (by decide) ?_
  refine lv_iadd hx hb dL_law_500 ?_
  refine lv_topi (fun v3 ev3 => ?_)
  have tv3 : v3.toInt = i.toInt + 2 := by rw [ev3]; have z9 := pi_add (x := i) (y := 2); rw [show (2 : Int32).toInt = 2 from rfl] at z9; exact z9 (by omega)
  refine va_sld hx hb hX hbl hbA V.2.1 (pi_in (by omega)) dL_law_501 ?_
  refine lv_topi (fun a4 ea4 => ?_)
  refine lv_aload_n hx hb dL_law_502 rfl (lv_at hl 4 rfl) ?_
  refine lv_iload hx hb dL_law_503 (lv_at hl 0 rfl) ?_
  refine lv_iconst (v := 3) hx hb dL_law_505 (by decide) ?_
  refine lv_iadd hx hb dL_law_506 ?_
  refine lv_topi (fun v5 ev5 => ?_)
  have tv5 : v5.toInt = i.toInt + 3 := by rw [ev5]; have z9 := pi_add (x := i) (y := 3); rw [show (3 : Int32).toInt = 3 from rfl] at z9; exact z9 (by omega)
  refine va_sld hx hb hX hbl hbA V.2.1 (pi_in (by omega)) dL_law_507 ?_
  refine lv_topi (fun a6 ea6 => ?_)
  refine lv_aload_n hx hb dL_law_508 rfl (lv_at hl 1 rfl) ?_
  refine gz_i (Z := (gW Z y)) Z rfl rfl (wr_S (Z := (gW Z y)) M V X (m_L_popup l hl9 S I a2 a4 a6 K Lk (by omega)) km_L_popup lkM_L_111 rfl hl.1 rfl (Nat.le_of_ble_eq_true rfl) ⟨Nat.le_of_ble_eq_true rfl, Nat.le_of_ble_eq_true rfl⟩ ⟨show 189 + t + (pPh (gW Z y) - 896) + (560000 - pPh (gW Z y) + 10) ≤ 600128 from by omega, show 160018 + 6 * t + 2 * (pPh (gW Z y) - 896) + (2 * (560000 - pPh (gW Z y)) + 200000) ≤ 7301098 from by omega⟩ dL_law_509) V (fun r7 y7 h7 k7 n7 H locs p7 V => ?_)
  obtain ⟨g7, K, I, A7, b7, Lk, f7, f7_2, f7_3⟩ := p7
  have S := S.gr (Z1 := (gW Z y7)) rfl g7
  have M := pM.to (gW Z y7) rfl M
  have hPm := K.ph
  have hph : 896 ≤ pPh (gW Z y7) := by omega
  have B1 := B0.cls (A7.wk (by decide))
  obtain ⟨E9, S9, K9, w2, w25, w27, w82⟩ := B1
  refine W.widen (k := 189 + (t + 1) + (pPh (gW Z y7) - 896)) (n := 160018 + 6 * (t + 1) + 2 * (pPh (gW Z y7) - 896)) (by omega) (by omega) ?_
  have c1 : (h7 2 4).toInt ≤ ((t : Int) + 1) := by omega
  have c2 : (h7 129 2).toInt ≤ 13 * ((t : Int) + 1) := by omega
  have c3 : (h7 129 3).toInt ≤ 13 * ((t : Int) + 1) := by omega
  refine lv_istore (lv' := [(5, .int r7), (4, .int i), (3, .ref (zB Z + 188)), (2, .ref (zB Z + 137)), (1, .ref (zB Z + 0)), (0, .ref b)]) hx hb dL_law_512 hl (by decide) rfl (fun ls hl => ?_)
  refine lv_aload_n hx hb dL_law_514 rfl (lv_at hl 3 rfl) ?_
  refine lv_aload_n hx hb dL_law_515 rfl (lv_at hl 5 rfl) ?_
  refine lv_iload hx hb dL_law_516 (lv_at hl 1 rfl) ?_
  refine lv_iconst (v := 1) hx hb dL_law_518 (by decide) ?_
  refine lv_iadd hx hb dL_law_519 ?_
  refine lv_topi (fun v8 ev8 => ?_)
  have tv8 : v8.toInt = i.toInt + 1 := by rw [ev8]; have z9 := pi_add (x := i) (y := 1); rw [show (1 : Int32).toInt = 1 from rfl] at z9; exact z9 (by omega)
  refine va_sld hx hb hX hbl hbA V.2.1 (pi_in (by omega)) dL_law_520 ?_
  refine lv_topi (fun a9 ea9 => ?_)
  refine lv_aload_n hx hb dL_law_521 rfl (lv_at hl 5 rfl) ?_
  refine lv_iload hx hb dL_law_522 (lv_at hl 1 rfl) ?_
  refine lv_iconst (v := 2) hx hb dL_law_524 (by decide) ?_
  refine lv_iadd hx hb dL_law_525 ?_
  refine lv_topi (fun v10 ev10 => ?_)
  have tv10 : v10.toInt = i.toInt + 2 := by rw [ev10]; have z9 := pi_add (x := i) (y := 2); rw [show (2 : Int32).toInt = 2 from rfl] at z9; exact z9 (by omega)
  refine va_sld hx hb hX hbl hbA V.2.1 (pi_in (by omega)) dL_law_526 ?_
  refine lv_topi (fun a11 ea11 => ?_)
  refine lv_aload_n hx hb dL_law_527 rfl (lv_at hl 5 rfl) ?_
  refine lv_iload hx hb dL_law_528 (lv_at hl 1 rfl) ?_
  refine lv_iconst (v := 3) hx hb dL_law_530 (by decide) ?_
  refine lv_iadd hx hb dL_law_531 ?_
  refine lv_topi (fun v12 ev12 => ?_)
  have tv12 : v12.toInt = i.toInt + 3 := by rw [ev12]; have z9 := pi_add (x := i) (y := 3); rw [show (3 : Int32).toInt = 3 from rfl] at z9; exact z9 (by omega)
  refine va_sld hx hb hX hbl hbA V.2.1 (pi_in (by omega)) dL_law_532 ?_
  refine lv_topi (fun a13 ea13 => ?_)
  refine pk_i (pr_V (Z := (gW Z y7)) M V (m_X12_popup l S I a9 a11 a13 E9 S9 K9 (by omega) (by omega) (by omega)) km_X12_popup (sm_this S) pC12 lkM_L_114 rfl hl.1 rfl (Nat.le_of_ble_eq_true rfl) ⟨Nat.le_of_ble_eq_true rfl, Nat.le_of_ble_eq_true rfl⟩ ⟨show 189 + (t + 1) + (pPh (gW Z y7) - 896) + 0 ≤ 600128 from by omega, show 160018 + 6 * (t + 1) + 2 * (pPh (gW Z y7) - 896) + 0 ≤ 7301098 from by omega⟩ dL_law_533) V (fun r14 Zr14 h14 H locs p14 _ _ V => ?_)
  obtain ⟨rfl, I, A14, x14_0, x14_1, x14_2, x14_3, x14_4, x14_5⟩ := p14
  have Lk := Lk.congr (A14.get 129 2 (by decide)) (A14.get 129 3 (by decide))
  have c1 : (h14 2 4).toInt ≤ ((t : Int) + 1) := by have z9 := congrArg Int32.toInt (A14.get 2 4 (by decide)); omega
  have c2 : (h14 129 2).toInt ≤ 13 * ((t : Int) + 1) := by have z9 := congrArg Int32.toInt (A14.get 129 2 (by decide)); omega
  have c3 : (h14 129 3).toInt ≤ 13 * ((t : Int) + 1) := by have z9 := congrArg Int32.toInt (A14.get 129 3 (by decide)); omega
  have e14_2 := congrArg Int32.toInt (A14.get 137 2 (by decide))
  have e14_27 := congrArg Int32.toInt (A14.get 137 27 (by decide))
  have E9 := x14_1
  have S9 := x14_2
  have K9 := x14_3
  refine lv_istore (lv' := [(6, .int r14), (5, .int r7), (4, .int i), (3, .ref (zB Z + 188)), (2, .ref (zB Z + 137)), (1, .ref (zB Z + 0)), (0, .ref b)]) hx hb dL_law_536 hl (by decide) rfl (fun ls hl => ?_)
  refine lv_goto (tgt := 1130) hx hb dL_law_538 (by decide) ?_
  exact N _ h14 _ _ ls ⟨S, I, K, Lk, ⟨by omega, by omega, by omega⟩, E9, S9, K9, by omega, by omega, by omega, by omega⟩ V (lv_sub hl [2, 3, 4, 5, 6] rfl) (by omega)
set_option maxHeartbeats 4000000 in
set_option maxRecDepth 100000 in
theorem lc_10 {p : Program} {l : Launch} {e : Env} {s : State} {m : MethodId} {below : List Frame} {meth : Method} {c : Code} {b L : Nat} {xs : Nat → Int32} {Z : pZ} {Q : State → Prop} (hl9 : l.stackTraces = false) (M : pM Z.1 p s m #[Value.ref b] c cL_law 7 RL) (X : pXS (zB Z) s) (hX : va_X b L xs s s.heap) (hbl : b < s.heap.size) (hbA : ¬ pA (zB Z) b) (hL : L ≤ 384) {t : Nat} (ht : t < 64) {y : pY} {h : pH} {H : Heap} {locs : List Loc} {ls : Array Slot} {i : Int32} (hi : i.toInt = 6 * (t : Int)) (hiL : i.toInt + 6 ≤ (L : Int)) (J : lI t (gW Z y) h) (V : pV (gW Z y) h s.heap H locs) (hl : lv_has ls 7 [(4, .int i), (3, .ref (zB Z + 188)), (2, .ref (zB Z + 137)), (1, .ref (zB Z + 0)), (0, .ref b)]) (hph : 896 ≤ pPh (gW Z y)) (N : ∀ (y1 : pY) (h1 : pH) (H1 : Heap) (locs1 : List Loc) (ls1 : Array Slot), lI (t + 1) (gW Z y1) h1 → pV (gW Z y1) h1 s.heap H1 locs1 → lv_has ls1 7 [(4, .int i), (3, .ref (zB Z + 188)), (2, .ref (zB Z + 137)), (1, .ref (zB Z + 0)), (0, .ref b)] → 896 ≤ pPh (gW Z y1) → W p l e room_1 s m #[Value.ref b] below meth c H1 locs1 (189 + (t + 1) + (pPh (gW Z y1) - 896)) (160018 + 6 * (t + 1) + 2 * (pPh (gW Z y1) - 896)) Q (F0 m 1130 ls1 [])) : W p l e room_1 s m #[Value.ref b] below meth c H locs (189 + t + (pPh (gW Z y) - 896)) (160018 + 6 * t + 2 * (pPh (gW Z y) - 896)) Q (F0 m 541 ls []) := by
  have hx := M.1.1
  have hb := M.1.2.1
  have M := pM.to (gW Z y) rfl M
  obtain ⟨S, I, K, Lk, ⟨c1, c2, c3⟩, B0⟩ := J
  have hPm := K.ph
  refine lv_aload_n hx hb dL_law_541 rfl (lv_at hl 3 rfl) ?_
  refine pk_i (pr_V (Z := (gW Z y)) M V (m_X11_dismiss l S I ) km_X11_dismiss (c_is_0 S) pC11 lkM_L_115 rfl hl.1 rfl (Nat.le_of_ble_eq_true rfl) ⟨Nat.le_of_ble_eq_true rfl, Nat.le_of_ble_eq_true rfl⟩ ⟨show 189 + t + (pPh (gW Z y) - 896) + 0 ≤ 600128 from by omega, show 160018 + 6 * t + 2 * (pPh (gW Z y) - 896) + 0 ≤ 7301098 from by omega⟩ dL_law_542) V (fun r1 Zr1 h1 H locs p1 _ _ V => ?_)
  obtain ⟨rfl, I, A1, f1_0⟩ := p1
  have Lk := Lk.congr (A1.get 129 2 (by decide)) (A1.get 129 3 (by decide))
  have B1 := B0.cls (A1.wk (by decide))
  obtain ⟨E9, S9, K9, w2, w25, w27, w82⟩ := B1
  have c1 : (h1 2 4).toInt ≤ ((t : Int) + 1) := by have z9 := congrArg Int32.toInt (A1.get 2 4 (by decide)); omega
  have c2 : (h1 129 2).toInt ≤ 13 * ((t : Int) + 1) := by have z9 := congrArg Int32.toInt (A1.get 129 2 (by decide)); omega
  have c3 : (h1 129 3).toInt ≤ 13 * ((t : Int) + 1) := by have z9 := congrArg Int32.toInt (A1.get 129 3 (by decide)); omega
  refine W.widen (k := 189 + (t + 1) + (pPh (gW Z y) - 896)) (n := 160018 + 6 * (t + 1) + 2 * (pPh (gW Z y) - 896)) (by omega) (by omega) ?_
  refine lv_pop hx hb dL_law_545 rfl ?_
  refine lv_aload_n hx hb dL_law_546 rfl (lv_at hl 2 rfl) ?_
  refine pk_i (pr_V (Z := (gW Z y)) M V (m_X12_dismiss l S I  E9 S9 K9) km_X12_dismiss (sm_this S) pC12 lkM_L_119 rfl hl.1 rfl (Nat.le_of_ble_eq_true rfl) ⟨Nat.le_of_ble_eq_true rfl, Nat.le_of_ble_eq_true rfl⟩ ⟨show 189 + (t + 1) + (pPh (gW Z y) - 896) + 0 ≤ 600128 from by omega, show 160018 + 6 * (t + 1) + 2 * (pPh (gW Z y) - 896) + 0 ≤ 7301098 from by omega⟩ dL_law_547) V (fun r2 Zr2 h2 H locs p2 _ _ V => ?_)
  obtain ⟨rfl, I, A2, x2_0, x2_1, x2_2, x2_3⟩ := p2
  have Lk := Lk.congr (A2.get 129 2 (by decide)) (A2.get 129 3 (by decide))
  have c1 : (h2 2 4).toInt ≤ ((t : Int) + 1) := by have z9 := congrArg Int32.toInt (A2.get 2 4 (by decide)); omega
  have c2 : (h2 129 2).toInt ≤ 13 * ((t : Int) + 1) := by have z9 := congrArg Int32.toInt (A2.get 129 2 (by decide)); omega
  have c3 : (h2 129 3).toInt ≤ 13 * ((t : Int) + 1) := by have z9 := congrArg Int32.toInt (A2.get 129 3 (by decide)); omega
  have e2_2 := congrArg Int32.toInt (A2.get 137 2 (by decide))
  have e2_25 := congrArg Int32.toInt (A2.get 137 25 (by decide))
  have e2_27 := congrArg Int32.toInt (A2.get 137 27 (by decide))
  have e2_82 := congrArg Int32.toInt (A2.get 137 82 (by decide))
  have E9 := x2_1
  have S9 := x2_2
  have K9 := x2_3
  refine lv_pop hx hb dL_law_550 rfl ?_
  refine lv_goto (tgt := 1130) hx hb dL_law_551 (by decide) ?_
  exact N _ h2 _ _ ls ⟨S, I, K, Lk, ⟨by omega, by omega, by omega⟩, E9, S9, K9, by omega, by omega, by omega, by omega⟩ V (lv_sub hl [0, 1, 2, 3, 4] rfl) (by omega)
set_option maxHeartbeats 4000000 in
set_option maxRecDepth 100000 in
theorem lc_11 {p : Program} {l : Launch} {e : Env} {s : State} {m : MethodId} {below : List Frame} {meth : Method} {c : Code} {b L : Nat} {xs : Nat → Int32} {Z : pZ} {Q : State → Prop} (hl9 : l.stackTraces = false) (M : pM Z.1 p s m #[Value.ref b] c cL_law 7 RL) (X : pXS (zB Z) s) (hX : va_X b L xs s s.heap) (hbl : b < s.heap.size) (hbA : ¬ pA (zB Z) b) (hL : L ≤ 384) {t : Nat} (ht : t < 64) {y : pY} {h : pH} {H : Heap} {locs : List Loc} {ls : Array Slot} {i : Int32} (hi : i.toInt = 6 * (t : Int)) (hiL : i.toInt + 6 ≤ (L : Int)) (J : lI t (gW Z y) h) (V : pV (gW Z y) h s.heap H locs) (hl : lv_has ls 7 [(4, .int i), (3, .ref (zB Z + 188)), (2, .ref (zB Z + 137)), (1, .ref (zB Z + 0)), (0, .ref b)]) (hph : 896 ≤ pPh (gW Z y)) (N : ∀ (y1 : pY) (h1 : pH) (H1 : Heap) (locs1 : List Loc) (ls1 : Array Slot), lI (t + 1) (gW Z y1) h1 → pV (gW Z y1) h1 s.heap H1 locs1 → lv_has ls1 7 [(4, .int i), (3, .ref (zB Z + 188)), (2, .ref (zB Z + 137)), (1, .ref (zB Z + 0)), (0, .ref b)] → 896 ≤ pPh (gW Z y1) → W p l e room_1 s m #[Value.ref b] below meth c H1 locs1 (189 + (t + 1) + (pPh (gW Z y1) - 896)) (160018 + 6 * (t + 1) + 2 * (pPh (gW Z y1) - 896)) Q (F0 m 1130 ls1 [])) : W p l e room_1 s m #[Value.ref b] below meth c H locs (189 + t + (pPh (gW Z y) - 896)) (160018 + 6 * t + 2 * (pPh (gW Z y) - 896)) Q (F0 m 554 ls []) := by
  have hx := M.1.1
  have hb := M.1.2.1
  have M := pM.to (gW Z y) rfl M
  obtain ⟨S, I, K, Lk, ⟨c1, c2, c3⟩, B0⟩ := J
  have hPm := K.ph
  refine lv_aload_n hx hb dL_law_554 rfl (lv_at hl 3 rfl) ?_
  refine lv_aload_n hx hb dL_law_555 rfl (lv_at hl 1 rfl) ?_
  refine gz_i (Z := (gW Z y)) Z rfl rfl (wr_S (Z := (gW Z y)) M V X (m_L_close l hl9 S I  K Lk ) km_L_close lkM_L_120 rfl hl.1 rfl (Nat.le_of_ble_eq_true rfl) ⟨Nat.le_of_ble_eq_true rfl, Nat.le_of_ble_eq_true rfl⟩ ⟨show 189 + t + (pPh (gW Z y) - 896) + (560000 - pPh (gW Z y) + 10) ≤ 600128 from by omega, show 160018 + 6 * t + 2 * (pPh (gW Z y) - 896) + (2 * (560000 - pPh (gW Z y)) + 200000) ≤ 7301098 from by omega⟩ dL_law_556) V (fun r1 y1 h1 k1 n1 H locs p1 V => ?_)
  obtain ⟨g1, K, I, A1, b1, Lk, f1, f1_2, f1_3⟩ := p1
  have S := S.gr (Z1 := (gW Z y1)) rfl g1
  have M := pM.to (gW Z y1) rfl M
  have hPm := K.ph
  have hph : 896 ≤ pPh (gW Z y1) := by omega
  have B1 := B0.cls (A1.wk (by decide))
  obtain ⟨E9, S9, K9, w2, w25, w27, w82⟩ := B1
  refine W.widen (k := 189 + (t + 1) + (pPh (gW Z y1) - 896)) (n := 160018 + 6 * (t + 1) + 2 * (pPh (gW Z y1) - 896)) (by omega) (by omega) ?_
  have c1 : (h1 2 4).toInt ≤ ((t : Int) + 1) := by omega
  have c2 : (h1 129 2).toInt ≤ 13 * ((t : Int) + 1) := by omega
  have c3 : (h1 129 3).toInt ≤ 13 * ((t : Int) + 1) := by omega
  refine lv_istore (lv' := [(5, .int r1), (4, .int i), (3, .ref (zB Z + 188)), (2, .ref (zB Z + 137)), (1, .ref (zB Z + 0)), (0, .ref b)]) hx hb dL_law_559 hl (by decide) rfl (fun ls hl => ?_)
  refine lv_aload_n hx hb dL_law_561 rfl (lv_at hl 3 rfl) ?_
  refine pk_i (pr_V (Z := (gW Z y1)) M V (m_X12_close l S I  E9 S9 K9) km_X12_close (sm_this S) pC12 lkM_L_122 rfl hl.1 rfl (Nat.le_of_ble_eq_true rfl) ⟨Nat.le_of_ble_eq_true rfl, Nat.le_of_ble_eq_true rfl⟩ ⟨show 189 + (t + 1) + (pPh (gW Z y1) - 896) + 0 ≤ 600128 from by omega, show 160018 + 6 * (t + 1) + 2 * (pPh (gW Z y1) - 896) + 0 ≤ 7301098 from by omega⟩ dL_law_562) V (fun r2 Zr2 h2 H locs p2 _ _ V => ?_)
  obtain ⟨rfl, I, A2, x2_0, x2_1, x2_2⟩ := p2
  have Lk := Lk.congr (A2.get 129 2 (by decide)) (A2.get 129 3 (by decide))
  have c1 : (h2 2 4).toInt ≤ ((t : Int) + 1) := by have z9 := congrArg Int32.toInt (A2.get 2 4 (by decide)); omega
  have c2 : (h2 129 2).toInt ≤ 13 * ((t : Int) + 1) := by have z9 := congrArg Int32.toInt (A2.get 129 2 (by decide)); omega
  have c3 : (h2 129 3).toInt ≤ 13 * ((t : Int) + 1) := by have z9 := congrArg Int32.toInt (A2.get 129 3 (by decide)); omega
  have e2_2 := congrArg Int32.toInt (A2.get 137 2 (by decide))
  have e2_25 := congrArg Int32.toInt (A2.get 137 25 (by decide))
  have e2_27 := congrArg Int32.toInt (A2.get 137 27 (by decide))
  have e2_82 := congrArg Int32.toInt (A2.get 137 82 (by decide))
  have E9 := x2_0
  have S9 := x2_1
  have K9 := x2_2
  refine lv_istore (lv' := [(6, .int r2), (5, .int r1), (4, .int i), (3, .ref (zB Z + 188)), (2, .ref (zB Z + 137)), (1, .ref (zB Z + 0)), (0, .ref b)]) hx hb dL_law_565 hl (by decide) rfl (fun ls hl => ?_)
  refine lv_goto (tgt := 1130) hx hb dL_law_567 (by decide) ?_
  exact N _ h2 _ _ ls ⟨S, I, K, Lk, ⟨by omega, by omega, by omega⟩, E9, S9, K9, by omega, by omega, by omega, by omega⟩ V (lv_sub hl [2, 3, 4, 5, 6] rfl) (by omega)
set_option maxHeartbeats 4000000 in
set_option maxRecDepth 100000 in
theorem lc_12 {p : Program} {l : Launch} {e : Env} {s : State} {m : MethodId} {below : List Frame} {meth : Method} {c : Code} {b L : Nat} {xs : Nat → Int32} {Z : pZ} {Q : State → Prop} (hl9 : l.stackTraces = false) (M : pM Z.1 p s m #[Value.ref b] c cL_law 7 RL) (X : pXS (zB Z) s) (hX : va_X b L xs s s.heap) (hbl : b < s.heap.size) (hbA : ¬ pA (zB Z) b) (hL : L ≤ 384) {t : Nat} (ht : t < 64) {y : pY} {h : pH} {H : Heap} {locs : List Loc} {ls : Array Slot} {i : Int32} (hi : i.toInt = 6 * (t : Int)) (hiL : i.toInt + 6 ≤ (L : Int)) (J : lI t (gW Z y) h) (V : pV (gW Z y) h s.heap H locs) (hl : lv_has ls 7 [(4, .int i), (3, .ref (zB Z + 188)), (2, .ref (zB Z + 137)), (1, .ref (zB Z + 0)), (0, .ref b)]) (hph : 896 ≤ pPh (gW Z y)) (N : ∀ (y1 : pY) (h1 : pH) (H1 : Heap) (locs1 : List Loc) (ls1 : Array Slot), lI (t + 1) (gW Z y1) h1 → pV (gW Z y1) h1 s.heap H1 locs1 → lv_has ls1 7 [(4, .int i), (3, .ref (zB Z + 188)), (2, .ref (zB Z + 137)), (1, .ref (zB Z + 0)), (0, .ref b)] → 896 ≤ pPh (gW Z y1) → W p l e room_1 s m #[Value.ref b] below meth c H1 locs1 (189 + (t + 1) + (pPh (gW Z y1) - 896)) (160018 + 6 * (t + 1) + 2 * (pPh (gW Z y1) - 896)) Q (F0 m 1130 ls1 [])) : W p l e room_1 s m #[Value.ref b] below meth c H locs (189 + t + (pPh (gW Z y) - 896)) (160018 + 6 * t + 2 * (pPh (gW Z y) - 896)) Q (F0 m 570 ls []) := by
  have hx := M.1.1
  have hb := M.1.2.1
  have M := pM.to (gW Z y) rfl M
  obtain ⟨S, I, K, Lk, ⟨c1, c2, c3⟩, B0⟩ := J
  have hPm := K.ph
  refine lv_aload_n hx hb dL_law_570 rfl (lv_at hl 3 rfl) ?_
  refine lv_aload_n hx hb dL_law_571 rfl (lv_at hl 4 rfl) ?_
  refine lv_iload hx hb dL_law_572 (lv_at hl 0 rfl) ?_
  refine lv_iconst (v := 1) hx hb dL_law_574 (by decide) ?_
  refine lv_iadd hx hb dL_law_575 ?_
  refine lv_topi (fun v1 ev1 => ?_)
  have tv1 : v1.toInt = i.toInt + 1 := by rw [ev1]; have z9 := pi_add (x := i) (y := 1); rw [show (1 : Int32).toInt = 1 from rfl] at z9; exact z9 (by omega)
  refine va_sld hx hb hX hbl hbA V.2.1 (pi_in (by omega)) dL_law_576 ?_
  refine lv_topi (fun a2 ea2 => ?_)
  refine lv_aload_n hx hb dL_law_577 rfl (lv_at hl 4 rfl) ?_
  refine lv_iload hx hb dL_law_578 (lv_at hl 0 rfl) ?_
  refine lv_iconst (v := 2) hx hb dL_law_580 (by decide) ?_
  refine lv_iadd hx hb dL_law_581 ?_
  refine lv_topi (fun v3 ev3 => ?_)
  have tv3 : v3.toInt = i.toInt + 2 := by rw [ev3]; have z9 := pi_add (x := i) (y := 2); rw [show (2 : Int32).toInt = 2 from rfl] at z9; exact z9 (by omega)
  refine va_sld hx hb hX hbl hbA V.2.1 (pi_in (by omega)) dL_law_582 ?_
  refine lv_topi (fun a4 ea4 => ?_)
  refine lv_aload_n hx hb dL_law_583 rfl (lv_at hl 1 rfl) ?_
  refine gz_i (Z := (gW Z y)) Z rfl rfl (wr_S (Z := (gW Z y)) M V X (m_L_button l hl9 S I a2 a4 K Lk (by omega)) km_L_button lkM_L_123 rfl hl.1 rfl (Nat.le_of_ble_eq_true rfl) ⟨Nat.le_of_ble_eq_true rfl, Nat.le_of_ble_eq_true rfl⟩ ⟨show 189 + t + (pPh (gW Z y) - 896) + (560000 - pPh (gW Z y) + 10) ≤ 600128 from by omega, show 160018 + 6 * t + 2 * (pPh (gW Z y) - 896) + (2 * (560000 - pPh (gW Z y)) + 200000) ≤ 7301098 from by omega⟩ dL_law_584) V (fun r5 y5 h5 k5 n5 H locs p5 V => ?_)
  obtain ⟨g5, K, I, A5, b5, Lk, f5, f5_2, f5_3⟩ := p5
  have S := S.gr (Z1 := (gW Z y5)) rfl g5
  have M := pM.to (gW Z y5) rfl M
  have hPm := K.ph
  have hph : 896 ≤ pPh (gW Z y5) := by omega
  have B1 := B0.cls (A5.wk (by decide))
  obtain ⟨E9, S9, K9, w2, w25, w27, w82⟩ := B1
  refine W.widen (k := 189 + (t + 1) + (pPh (gW Z y5) - 896)) (n := 160018 + 6 * (t + 1) + 2 * (pPh (gW Z y5) - 896)) (by omega) (by omega) ?_
  have c1 : (h5 2 4).toInt ≤ ((t : Int) + 1) := by omega
  have c2 : (h5 129 2).toInt ≤ 13 * ((t : Int) + 1) := by omega
  have c3 : (h5 129 3).toInt ≤ 13 * ((t : Int) + 1) := by omega
  refine lv_istore (lv' := [(5, .int r5), (4, .int i), (3, .ref (zB Z + 188)), (2, .ref (zB Z + 137)), (1, .ref (zB Z + 0)), (0, .ref b)]) hx hb dL_law_587 hl (by decide) rfl (fun ls hl => ?_)
  refine lv_aload_n hx hb dL_law_589 rfl (lv_at hl 3 rfl) ?_
  refine lv_aload_n hx hb dL_law_590 rfl (lv_at hl 5 rfl) ?_
  refine lv_iload hx hb dL_law_591 (lv_at hl 1 rfl) ?_
  refine lv_iconst (v := 1) hx hb dL_law_593 (by decide) ?_
  refine lv_iadd hx hb dL_law_594 ?_
  refine lv_topi (fun v6 ev6 => ?_)
  have tv6 : v6.toInt = i.toInt + 1 := by rw [ev6]; have z9 := pi_add (x := i) (y := 1); rw [show (1 : Int32).toInt = 1 from rfl] at z9; exact z9 (by omega)
  refine va_sld hx hb hX hbl hbA V.2.1 (pi_in (by omega)) dL_law_595 ?_
  refine lv_topi (fun a7 ea7 => ?_)
  refine lv_aload_n hx hb dL_law_596 rfl (lv_at hl 5 rfl) ?_
  refine lv_iload hx hb dL_law_597 (lv_at hl 1 rfl) ?_
  refine lv_iconst (v := 2) hx hb dL_law_599 (by decide) ?_
  refine lv_iadd hx hb dL_law_600 ?_
  refine lv_topi (fun v8 ev8 => ?_)
  have tv8 : v8.toInt = i.toInt + 2 := by rw [ev8]; have z9 := pi_add (x := i) (y := 2); rw [show (2 : Int32).toInt = 2 from rfl] at z9; exact z9 (by omega)
  refine va_sld hx hb hX hbl hbA V.2.1 (pi_in (by omega)) dL_law_601 ?_
  refine lv_topi (fun a9 ea9 => ?_)
  refine pk_i (pr_V (Z := (gW Z y5)) M V (m_X12_button l S I a7 a9 E9 S9 K9 (by omega) (by omega) (by omega)) km_X12_button (sm_this S) pC12 lkM_L_126 rfl hl.1 rfl (Nat.le_of_ble_eq_true rfl) ⟨Nat.le_of_ble_eq_true rfl, Nat.le_of_ble_eq_true rfl⟩ ⟨show 189 + (t + 1) + (pPh (gW Z y5) - 896) + 0 ≤ 600128 from by omega, show 160018 + 6 * (t + 1) + 2 * (pPh (gW Z y5) - 896) + 0 ≤ 7301098 from by omega⟩ dL_law_602) V (fun r10 Zr10 h10 H locs p10 _ _ V => ?_)
  obtain ⟨rfl, I, A10, x10_0, x10_1, x10_2, x10_3, x10_4, x10_5, x10_6⟩ := p10
  have Lk := Lk.congr (A10.get 129 2 (by decide)) (A10.get 129 3 (by decide))
  have c1 : (h10 2 4).toInt ≤ ((t : Int) + 1) := by have z9 := congrArg Int32.toInt (A10.get 2 4 (by decide)); omega
  have c2 : (h10 129 2).toInt ≤ 13 * ((t : Int) + 1) := by have z9 := congrArg Int32.toInt (A10.get 129 2 (by decide)); omega
  have c3 : (h10 129 3).toInt ≤ 13 * ((t : Int) + 1) := by have z9 := congrArg Int32.toInt (A10.get 129 3 (by decide)); omega
  have e10_2 := congrArg Int32.toInt (A10.get 137 2 (by decide))
  have E9 := x10_1
  have S9 := x10_2
  have K9 := x10_3
  refine lv_istore (lv' := [(6, .int r10), (5, .int r5), (4, .int i), (3, .ref (zB Z + 188)), (2, .ref (zB Z + 137)), (1, .ref (zB Z + 0)), (0, .ref b)]) hx hb dL_law_605 hl (by decide) rfl (fun ls hl => ?_)
  refine lv_goto (tgt := 1130) hx hb dL_law_607 (by decide) ?_
  exact N _ h10 _ _ ls ⟨S, I, K, Lk, ⟨by omega, by omega, by omega⟩, E9, S9, K9, by omega, by omega, by omega, by omega⟩ V (lv_sub hl [2, 3, 4, 5, 6] rfl) (by omega)
set_option maxHeartbeats 4000000 in
set_option maxRecDepth 100000 in
theorem lc_13 {p : Program} {l : Launch} {e : Env} {s : State} {m : MethodId} {below : List Frame} {meth : Method} {c : Code} {b L : Nat} {xs : Nat → Int32} {Z : pZ} {Q : State → Prop} (hl9 : l.stackTraces = false) (M : pM Z.1 p s m #[Value.ref b] c cL_law 7 RL) (X : pXS (zB Z) s) (hX : va_X b L xs s s.heap) (hbl : b < s.heap.size) (hbA : ¬ pA (zB Z) b) (hL : L ≤ 384) {t : Nat} (ht : t < 64) {y : pY} {h : pH} {H : Heap} {locs : List Loc} {ls : Array Slot} {i : Int32} (hi : i.toInt = 6 * (t : Int)) (hiL : i.toInt + 6 ≤ (L : Int)) (J : lI t (gW Z y) h) (V : pV (gW Z y) h s.heap H locs) (hl : lv_has ls 7 [(4, .int i), (3, .ref (zB Z + 188)), (2, .ref (zB Z + 137)), (1, .ref (zB Z + 0)), (0, .ref b)]) (hph : 896 ≤ pPh (gW Z y)) (N : ∀ (y1 : pY) (h1 : pH) (H1 : Heap) (locs1 : List Loc) (ls1 : Array Slot), lI (t + 1) (gW Z y1) h1 → pV (gW Z y1) h1 s.heap H1 locs1 → lv_has ls1 7 [(4, .int i), (3, .ref (zB Z + 188)), (2, .ref (zB Z + 137)), (1, .ref (zB Z + 0)), (0, .ref b)] → 896 ≤ pPh (gW Z y1) → W p l e room_1 s m #[Value.ref b] below meth c H1 locs1 (189 + (t + 1) + (pPh (gW Z y1) - 896)) (160018 + 6 * (t + 1) + 2 * (pPh (gW Z y1) - 896)) Q (F0 m 1130 ls1 [])) : W p l e room_1 s m #[Value.ref b] below meth c H locs (189 + t + (pPh (gW Z y) - 896)) (160018 + 6 * t + 2 * (pPh (gW Z y) - 896)) Q (F0 m 610 ls []) := by
  have hx := M.1.1
  have hb := M.1.2.1
  have M := pM.to (gW Z y) rfl M
  obtain ⟨S, I, K, Lk, ⟨c1, c2, c3⟩, B0⟩ := J
  have hPm := K.ph
  refine lv_aload_n hx hb dL_law_610 rfl (lv_at hl 3 rfl) ?_
  refine lv_aload_n hx hb dL_law_611 rfl (lv_at hl 4 rfl) ?_
  refine lv_iload hx hb dL_law_612 (lv_at hl 0 rfl) ?_
  refine lv_iconst (v := 1) hx hb dL_law_614 (by decide) ?_
  refine lv_iadd hx hb dL_law_615 ?_
  refine lv_topi (fun v1 ev1 => ?_)
  have tv1 : v1.toInt = i.toInt + 1 := by rw [ev1]; have z9 := pi_add (x := i) (y := 1); rw [show (1 : Int32).toInt = 1 from rfl] at z9; exact z9 (by omega)
  refine va_sld hx hb hX hbl hbA V.2.1 (pi_in (by omega)) dL_law_616 ?_
  refine lv_topi (fun a2 ea2 => ?_)
  refine lv_aload_n hx hb dL_law_617 rfl (lv_at hl 1 rfl) ?_
  refine gz_i (Z := (gW Z y)) Z rfl rfl (wr_S (Z := (gW Z y)) M V X (m_L_check l hl9 S I a2 K Lk (by omega)) km_L_check lkM_L_127 rfl hl.1 rfl (Nat.le_of_ble_eq_true rfl) ⟨Nat.le_of_ble_eq_true rfl, Nat.le_of_ble_eq_true rfl⟩ ⟨show 189 + t + (pPh (gW Z y) - 896) + (560000 - pPh (gW Z y) + 10) ≤ 600128 from by omega, show 160018 + 6 * t + 2 * (pPh (gW Z y) - 896) + (2 * (560000 - pPh (gW Z y)) + 200000) ≤ 7301098 from by omega⟩ dL_law_618) V (fun r3 y3 h3 k3 n3 H locs p3 V => ?_)
  obtain ⟨g3, K, I, A3, b3, Lk, f3, f3_2, f3_3⟩ := p3
  have S := S.gr (Z1 := (gW Z y3)) rfl g3
  have M := pM.to (gW Z y3) rfl M
  have hPm := K.ph
  have hph : 896 ≤ pPh (gW Z y3) := by omega
  have B1 := B0.cls (A3.wk (by decide))
  obtain ⟨E9, S9, K9, w2, w25, w27, w82⟩ := B1
  refine W.widen (k := 189 + (t + 1) + (pPh (gW Z y3) - 896)) (n := 160018 + 6 * (t + 1) + 2 * (pPh (gW Z y3) - 896)) (by omega) (by omega) ?_
  have c1 : (h3 2 4).toInt ≤ ((t : Int) + 1) := by omega
  have c2 : (h3 129 2).toInt ≤ 13 * ((t : Int) + 1) := by omega
  have c3 : (h3 129 3).toInt ≤ 13 * ((t : Int) + 1) := by omega
  refine lv_istore (lv' := [(5, .int r3), (4, .int i), (3, .ref (zB Z + 188)), (2, .ref (zB Z + 137)), (1, .ref (zB Z + 0)), (0, .ref b)]) hx hb dL_law_621 hl (by decide) rfl (fun ls hl => ?_)
  refine lv_aload_n hx hb dL_law_623 rfl (lv_at hl 3 rfl) ?_
  refine lv_aload_n hx hb dL_law_624 rfl (lv_at hl 5 rfl) ?_
  refine lv_iload hx hb dL_law_625 (lv_at hl 1 rfl) ?_
  refine lv_iconst (v := 1) hx hb dL_law_627 (by decide) ?_
  refine lv_iadd hx hb dL_law_628 ?_
  refine lv_topi (fun v4 ev4 => ?_)
  have tv4 : v4.toInt = i.toInt + 1 := by rw [ev4]; have z9 := pi_add (x := i) (y := 1); rw [show (1 : Int32).toInt = 1 from rfl] at z9; exact z9 (by omega)
  refine va_sld hx hb hX hbl hbA V.2.1 (pi_in (by omega)) dL_law_629 ?_
  refine lv_topi (fun a5 ea5 => ?_)
  refine pk_i (pr_V (Z := (gW Z y3)) M V (m_X12_check l S I a5 E9 S9 K9 (by omega) (by omega) (by omega)) km_X12_check (sm_this S) pC12 lkM_L_129 rfl hl.1 rfl (Nat.le_of_ble_eq_true rfl) ⟨Nat.le_of_ble_eq_true rfl, Nat.le_of_ble_eq_true rfl⟩ ⟨show 189 + (t + 1) + (pPh (gW Z y3) - 896) + 0 ≤ 600128 from by omega, show 160018 + 6 * (t + 1) + 2 * (pPh (gW Z y3) - 896) + 0 ≤ 7301098 from by omega⟩ dL_law_630) V (fun r6 Zr6 h6 H locs p6 _ _ V => ?_)
  obtain ⟨rfl, I, A6, x6_0, x6_1, x6_2, x6_3, x6_4, x6_5⟩ := p6
  have Lk := Lk.congr (A6.get 129 2 (by decide)) (A6.get 129 3 (by decide))
  have c1 : (h6 2 4).toInt ≤ ((t : Int) + 1) := by have z9 := congrArg Int32.toInt (A6.get 2 4 (by decide)); omega
  have c2 : (h6 129 2).toInt ≤ 13 * ((t : Int) + 1) := by have z9 := congrArg Int32.toInt (A6.get 129 2 (by decide)); omega
  have c3 : (h6 129 3).toInt ≤ 13 * ((t : Int) + 1) := by have z9 := congrArg Int32.toInt (A6.get 129 3 (by decide)); omega
  have e6_2 := congrArg Int32.toInt (A6.get 137 2 (by decide))
  have E9 := x6_0
  have S9 := x6_1
  have K9 := x6_2
  refine lv_istore (lv' := [(6, .int r6), (5, .int r3), (4, .int i), (3, .ref (zB Z + 188)), (2, .ref (zB Z + 137)), (1, .ref (zB Z + 0)), (0, .ref b)]) hx hb dL_law_633 hl (by decide) rfl (fun ls hl => ?_)
  refine lv_goto (tgt := 1130) hx hb dL_law_635 (by decide) ?_
  exact N _ h6 _ _ ls ⟨S, I, K, Lk, ⟨by omega, by omega, by omega⟩, E9, S9, K9, by omega, by omega, by omega, by omega⟩ V (lv_sub hl [2, 3, 4, 5, 6] rfl) (by omega)
set_option maxHeartbeats 4000000 in
set_option maxRecDepth 100000 in
theorem lc_14 {p : Program} {l : Launch} {e : Env} {s : State} {m : MethodId} {below : List Frame} {meth : Method} {c : Code} {b L : Nat} {xs : Nat → Int32} {Z : pZ} {Q : State → Prop} (hl9 : l.stackTraces = false) (M : pM Z.1 p s m #[Value.ref b] c cL_law 7 RL) (X : pXS (zB Z) s) (hX : va_X b L xs s s.heap) (hbl : b < s.heap.size) (hbA : ¬ pA (zB Z) b) (hL : L ≤ 384) {t : Nat} (ht : t < 64) {y : pY} {h : pH} {H : Heap} {locs : List Loc} {ls : Array Slot} {i : Int32} (hi : i.toInt = 6 * (t : Int)) (hiL : i.toInt + 6 ≤ (L : Int)) (J : lI t (gW Z y) h) (V : pV (gW Z y) h s.heap H locs) (hl : lv_has ls 7 [(4, .int i), (3, .ref (zB Z + 188)), (2, .ref (zB Z + 137)), (1, .ref (zB Z + 0)), (0, .ref b)]) (hph : 896 ≤ pPh (gW Z y)) (N : ∀ (y1 : pY) (h1 : pH) (H1 : Heap) (locs1 : List Loc) (ls1 : Array Slot), lI (t + 1) (gW Z y1) h1 → pV (gW Z y1) h1 s.heap H1 locs1 → lv_has ls1 7 [(4, .int i), (3, .ref (zB Z + 188)), (2, .ref (zB Z + 137)), (1, .ref (zB Z + 0)), (0, .ref b)] → 896 ≤ pPh (gW Z y1) → W p l e room_1 s m #[Value.ref b] below meth c H1 locs1 (189 + (t + 1) + (pPh (gW Z y1) - 896)) (160018 + 6 * (t + 1) + 2 * (pPh (gW Z y1) - 896)) Q (F0 m 1130 ls1 [])) : W p l e room_1 s m #[Value.ref b] below meth c H locs (189 + t + (pPh (gW Z y) - 896)) (160018 + 6 * t + 2 * (pPh (gW Z y) - 896)) Q (F0 m 638 ls []) := by
  have hx := M.1.1
  have hb := M.1.2.1
  have M := pM.to (gW Z y) rfl M
  obtain ⟨S, I, K, Lk, ⟨c1, c2, c3⟩, B0⟩ := J
  have hPm := K.ph
  refine lv_aload_n hx hb dL_law_638 rfl (lv_at hl 3 rfl) ?_
  refine lv_aload_n hx hb dL_law_639 rfl (lv_at hl 4 rfl) ?_
  refine lv_iload hx hb dL_law_640 (lv_at hl 0 rfl) ?_
  refine lv_iconst (v := 1) hx hb dL_law_642 (by decide) ?_
  refine lv_iadd hx hb dL_law_643 ?_
  refine lv_topi (fun v1 ev1 => ?_)
  have tv1 : v1.toInt = i.toInt + 1 := by rw [ev1]; have z9 := pi_add (x := i) (y := 1); rw [show (1 : Int32).toInt = 1 from rfl] at z9; exact z9 (by omega)
  refine va_sld hx hb hX hbl hbA V.2.1 (pi_in (by omega)) dL_law_644 ?_
  refine lv_topi (fun a2 ea2 => ?_)
  refine lv_aload_n hx hb dL_law_645 rfl (lv_at hl 4 rfl) ?_
  refine lv_iload hx hb dL_law_646 (lv_at hl 0 rfl) ?_
  refine lv_iconst (v := 2) hx hb dL_law_648 (by decide) ?_
  refine lv_iadd hx hb dL_law_649 ?_
  refine lv_topi (fun v3 ev3 => ?_)
  have tv3 : v3.toInt = i.toInt + 2 := by rw [ev3]; have z9 := pi_add (x := i) (y := 2); rw [show (2 : Int32).toInt = 2 from rfl] at z9; exact z9 (by omega)
  refine va_sld hx hb hX hbl hbA V.2.1 (pi_in (by omega)) dL_law_650 ?_
  refine lv_topi (fun a4 ea4 => ?_)
  refine lv_aload_n hx hb dL_law_651 rfl (lv_at hl 4 rfl) ?_
  refine lv_iload hx hb dL_law_652 (lv_at hl 0 rfl) ?_
  refine lv_iconst (v := 3) hx hb dL_law_654 (by decide) ?_
  refine lv_iadd hx hb dL_law_655 ?_
  refine lv_topi (fun v5 ev5 => ?_)
  have tv5 : v5.toInt = i.toInt + 3 := by rw [ev5]; have z9 := pi_add (x := i) (y := 3); rw [show (3 : Int32).toInt = 3 from rfl] at z9; exact z9 (by omega)
  refine va_sld hx hb hX hbl hbA V.2.1 (pi_in (by omega)) dL_law_656 ?_
  refine lv_topi (fun a6 ea6 => ?_)
  refine lv_aload_n hx hb dL_law_657 rfl (lv_at hl 4 rfl) ?_
  refine lv_iload hx hb dL_law_658 (lv_at hl 0 rfl) ?_
  refine lv_iconst (v := 4) hx hb dL_law_660 (by decide) ?_
  refine lv_iadd hx hb dL_law_661 ?_
  refine lv_topi (fun v7 ev7 => ?_)
  have tv7 : v7.toInt = i.toInt + 4 := by rw [ev7]; have z9 := pi_add (x := i) (y := 4); rw [show (4 : Int32).toInt = 4 from rfl] at z9; exact z9 (by omega)
  refine va_sld hx hb hX hbl hbA V.2.1 (pi_in (by omega)) dL_law_662 ?_
  refine lv_topi (fun a8 ea8 => ?_)
  refine lv_aload_n hx hb dL_law_663 rfl (lv_at hl 1 rfl) ?_
  refine gz_i (Z := (gW Z y)) Z rfl rfl (wr_S (Z := (gW Z y)) M V X (m_L_slider l hl9 S I a2 a4 a6 a8 K Lk (by omega)) km_L_slider lkM_L_130 rfl hl.1 rfl (Nat.le_of_ble_eq_true rfl) ⟨Nat.le_of_ble_eq_true rfl, Nat.le_of_ble_eq_true rfl⟩ ⟨show 189 + t + (pPh (gW Z y) - 896) + (560000 - pPh (gW Z y) + 10) ≤ 600128 from by omega, show 160018 + 6 * t + 2 * (pPh (gW Z y) - 896) + (2 * (560000 - pPh (gW Z y)) + 200000) ≤ 7301098 from by omega⟩ dL_law_664) V (fun r9 y9 h9 k9 n9 H locs p9 V => ?_)
  obtain ⟨g9, K, I, A9, b9, Lk, f9, f9_2, f9_3⟩ := p9
  have S := S.gr (Z1 := (gW Z y9)) rfl g9
  have M := pM.to (gW Z y9) rfl M
  have hPm := K.ph
  have hph : 896 ≤ pPh (gW Z y9) := by omega
  have B1 := B0.cls (A9.wk (by decide))
  obtain ⟨E9, S9, K9, w2, w25, w27, w82⟩ := B1
  refine W.widen (k := 189 + (t + 1) + (pPh (gW Z y9) - 896)) (n := 160018 + 6 * (t + 1) + 2 * (pPh (gW Z y9) - 896)) (by omega) (by omega) ?_
  have c1 : (h9 2 4).toInt ≤ ((t : Int) + 1) := by omega
  have c2 : (h9 129 2).toInt ≤ 13 * ((t : Int) + 1) := by omega
  have c3 : (h9 129 3).toInt ≤ 13 * ((t : Int) + 1) := by omega
  refine lv_istore (lv' := [(5, .int r9), (4, .int i), (3, .ref (zB Z + 188)), (2, .ref (zB Z + 137)), (1, .ref (zB Z + 0)), (0, .ref b)]) hx hb dL_law_667 hl (by decide) rfl (fun ls hl => ?_)
  refine lv_aload_n hx hb dL_law_669 rfl (lv_at hl 3 rfl) ?_
  refine lv_aload_n hx hb dL_law_670 rfl (lv_at hl 5 rfl) ?_
  refine lv_iload hx hb dL_law_671 (lv_at hl 1 rfl) ?_
  refine lv_iconst (v := 1) hx hb dL_law_673 (by decide) ?_
  refine lv_iadd hx hb dL_law_674 ?_
  refine lv_topi (fun v10 ev10 => ?_)
  have tv10 : v10.toInt = i.toInt + 1 := by rw [ev10]; have z9 := pi_add (x := i) (y := 1); rw [show (1 : Int32).toInt = 1 from rfl] at z9; exact z9 (by omega)
  refine va_sld hx hb hX hbl hbA V.2.1 (pi_in (by omega)) dL_law_675 ?_
  refine lv_topi (fun a11 ea11 => ?_)
  refine lv_aload_n hx hb dL_law_676 rfl (lv_at hl 5 rfl) ?_
  refine lv_iload hx hb dL_law_677 (lv_at hl 1 rfl) ?_
  refine lv_iconst (v := 2) hx hb dL_law_679 (by decide) ?_
  refine lv_iadd hx hb dL_law_680 ?_
  refine lv_topi (fun v12 ev12 => ?_)
  have tv12 : v12.toInt = i.toInt + 2 := by rw [ev12]; have z9 := pi_add (x := i) (y := 2); rw [show (2 : Int32).toInt = 2 from rfl] at z9; exact z9 (by omega)
  refine va_sld hx hb hX hbl hbA V.2.1 (pi_in (by omega)) dL_law_681 ?_
  refine lv_topi (fun a13 ea13 => ?_)
  refine lv_aload_n hx hb dL_law_682 rfl (lv_at hl 5 rfl) ?_
  refine lv_iload hx hb dL_law_683 (lv_at hl 1 rfl) ?_
  refine lv_iconst (v := 3) hx hb dL_law_685 (by decide) ?_
  refine lv_iadd hx hb dL_law_686 ?_
  refine lv_topi (fun v14 ev14 => ?_)
  have tv14 : v14.toInt = i.toInt + 3 := by rw [ev14]; have z9 := pi_add (x := i) (y := 3); rw [show (3 : Int32).toInt = 3 from rfl] at z9; exact z9 (by omega)
  refine va_sld hx hb hX hbl hbA V.2.1 (pi_in (by omega)) dL_law_687 ?_
  refine lv_topi (fun a15 ea15 => ?_)
  refine lv_aload_n hx hb dL_law_688 rfl (lv_at hl 5 rfl) ?_
  refine lv_iload hx hb dL_law_689 (lv_at hl 1 rfl) ?_
  refine lv_iconst (v := 4) hx hb dL_law_691 (by decide) ?_
  refine lv_iadd hx hb dL_law_692 ?_
  refine lv_topi (fun v16 ev16 => ?_)
  have tv16 : v16.toInt = i.toInt + 4 := by rw [ev16]; have z9 := pi_add (x := i) (y := 4); rw [show (4 : Int32).toInt = 4 from rfl] at z9; exact z9 (by omega)
  refine va_sld hx hb hX hbl hbA V.2.1 (pi_in (by omega)) dL_law_693 ?_
  refine lv_topi (fun a17 ea17 => ?_)
  refine pk_i (pr_V (Z := (gW Z y9)) M V (m_X12_slider l S I a11 a13 a15 a17 E9 S9 K9 (by omega) (by omega) (by omega)) km_X12_slider (sm_this S) pC12 lkM_L_133 rfl hl.1 rfl (Nat.le_of_ble_eq_true rfl) ⟨Nat.le_of_ble_eq_true rfl, Nat.le_of_ble_eq_true rfl⟩ ⟨show 189 + (t + 1) + (pPh (gW Z y9) - 896) + 0 ≤ 600128 from by omega, show 160018 + 6 * (t + 1) + 2 * (pPh (gW Z y9) - 896) + 0 ≤ 7301098 from by omega⟩ dL_law_694) V (fun r18 Zr18 h18 H locs p18 _ _ V => ?_)
  obtain ⟨rfl, I, A18, x18_0, x18_1, x18_2, x18_3, x18_4, x18_5⟩ := p18
  have Lk := Lk.congr (A18.get 129 2 (by decide)) (A18.get 129 3 (by decide))
  have c1 : (h18 2 4).toInt ≤ ((t : Int) + 1) := by have z9 := congrArg Int32.toInt (A18.get 2 4 (by decide)); omega
  have c2 : (h18 129 2).toInt ≤ 13 * ((t : Int) + 1) := by have z9 := congrArg Int32.toInt (A18.get 129 2 (by decide)); omega
  have c3 : (h18 129 3).toInt ≤ 13 * ((t : Int) + 1) := by have z9 := congrArg Int32.toInt (A18.get 129 3 (by decide)); omega
  have e18_2 := congrArg Int32.toInt (A18.get 137 2 (by decide))
  have E9 := x18_0
  have S9 := x18_1
  have K9 := x18_2
  refine lv_istore (lv' := [(6, .int r18), (5, .int r9), (4, .int i), (3, .ref (zB Z + 188)), (2, .ref (zB Z + 137)), (1, .ref (zB Z + 0)), (0, .ref b)]) hx hb dL_law_697 hl (by decide) rfl (fun ls hl => ?_)
  refine lv_goto (tgt := 1130) hx hb dL_law_699 (by decide) ?_
  exact N _ h18 _ _ ls ⟨S, I, K, Lk, ⟨by omega, by omega, by omega⟩, E9, S9, K9, by omega, by omega, by omega, by omega⟩ V (lv_sub hl [2, 3, 4, 5, 6] rfl) (by omega)
