/-! the loop of the law, its start, the claim -/
set_option maxHeartbeats 4000000 in
set_option maxRecDepth 100000 in
theorem ll_loop {p : Program} {l : Launch} {e : Env} {s : State} {m : MethodId} {below : List Frame} {meth : Method} {c : Code} {b L : Nat} {xs : Nat → Int32} {Z : pZ} (hl9 : l.stackTraces = false) (M : pM Z.1 p s m #[Value.ref b] c cL_law 7 RL) (X : pXS (zB Z) s) (hX : va_X b L xs s s.heap) (hbl : b < s.heap.size) (hB : zB Z = s.heap.size) (hL : L ≤ 384) (hr : meth.sig.returnType = ret) (hlocks : meth.locks = false) : ∀ (n t : Nat), t + n = 64 → ∀ (y : pY) (h : pH) (H : Heap) (locs : List Loc) (ls : Array Slot) (i : Int32), i.toInt = 6 * (t : Int) → lI t (gW Z y) h → pV (gW Z y) h s.heap H locs → lv_has ls 7 [(4, .int i), (3, .ref (zB Z + 188)), (2, .ref (zB Z + 137)), (1, .ref (zB Z + 0)), (0, .ref b)] → 896 ≤ pPh (gW Z y) → W p l e room_1 s m #[Value.ref b] below meth c H locs (189 + t + (pPh (gW Z y) - 896)) (160018 + 6 * t + 2 * (pPh (gW Z y) - 896)) (lw_Z below #[Value.ref b] s) (F0 m 23 ls []) := by
  have hx := M.1.1
  have hb := M.1.2.1
  have hbA : ¬ pA (zB Z) b := fun z => by have z1 : zB Z ≤ b := z; omega
  have k6 : (6 : Int32).toInt = 6 := rfl
  have e6 : (Int32.ofNat L).toInt = (L : Int) := pi_len (by omega)
  intro n
  induction n with
  | zero =>
    intro t htn y h H locs ls i hi J V hl hph
    have hPm := J.2.2.1.ph
    refine lv_iload hx hb dL_law_23 (lv_at hl 0 rfl) ?_
    refine lv_aload_n hx hb dL_law_25 rfl (lv_at hl 4 rfl) ?_
    refine va_slen hx hb hX hbl hbA V.2.1 dL_law_26 ?_
    refine lv_bipush (v := 6) hx hb dL_law_27 (by decide) ?_
    refine lv_isub hx hb dL_law_29 ?_
    refine lv_topi (fun v1 ev1 => ?_)
    have tv1 : v1.toInt = (L : Int) - 6 := by rw [ev1, pi_sub (by omega), e6, k6]
    refine lv_icmp_gt (tgt := 1136) hx hb dL_law_30 (by decide) (fun _ => ?_) (fun c9 => ?_)
    · refine lv_iconst (v := 1) hx hb dL_law_1136 (by decide) ?_
      refine va_forget (fun q hq => by have z9 : zB Z ≤ q.base := V.2.1.2.2 q hq; omega) ?_
      refine W.widen (k := 600128) (n := 7301098) (by omega) (by omega) ?_
      exact lw_ret hx hb hr hlocks dL_law_1137
    · exfalso; rw [pi_lt] at c9; omega
  | succ n ih =>
    intro t htn y h H locs ls i hi J V hl hph
    have hPm := J.2.2.1.ph
    refine lv_iload hx hb dL_law_23 (lv_at hl 0 rfl) ?_
    refine lv_aload_n hx hb dL_law_25 rfl (lv_at hl 4 rfl) ?_
    refine va_slen hx hb hX hbl hbA V.2.1 dL_law_26 ?_
    refine lv_bipush (v := 6) hx hb dL_law_27 (by decide) ?_
    refine lv_isub hx hb dL_law_29 ?_
    refine lv_topi (fun v1 ev1 => ?_)
    have tv1 : v1.toInt = (L : Int) - 6 := by rw [ev1, pi_sub (by omega), e6, k6]
    refine lv_icmp_gt (tgt := 1136) hx hb dL_law_30 (by decide) (fun _ => ?_) (fun c9 => ?_)
    · refine lv_iconst (v := 1) hx hb dL_law_1136 (by decide) ?_
      refine va_forget (fun q hq => by have z9 : zB Z ≤ q.base := V.2.1.2.2 q hq; omega) ?_
      refine W.widen (k := 600128) (n := 7301098) (by omega) (by omega) ?_
      exact lw_ret hx hb hr hlocks dL_law_1137
    · have hiL : i.toInt + 6 ≤ (L : Int) := by rw [pi_lt] at c9; omega
      have ht : t < 64 := by omega
      have N : ∀ (y1 : pY) (h1 : pH) (H1 : Heap) (locs1 : List Loc) (ls1 : Array Slot), lI (t + 1) (gW Z y1) h1 → pV (gW Z y1) h1 s.heap H1 locs1 → lv_has ls1 7 [(4, .int i), (3, .ref (zB Z + 188)), (2, .ref (zB Z + 137)), (1, .ref (zB Z + 0)), (0, .ref b)] → 896 ≤ pPh (gW Z y1) → W p l e room_1 s m #[Value.ref b] below meth c H1 locs1 (189 + (t + 1) + (pPh (gW Z y1) - 896)) (160018 + 6 * (t + 1) + 2 * (pPh (gW Z y1) - 896)) (lw_Z below #[Value.ref b] s) (F0 m 1130 ls1 []) := by
        intro y1 h1 H1 locs1 ls1 J1 V1 hl1 hp1
        refine lv_iinc (v := i + 6) (lv' := [(4, .int (i + 6)), (3, .ref (zB Z + 188)), (2, .ref (zB Z + 137)), (1, .ref (zB Z + 0)), (0, .ref b)]) hx hb dL_law_1130 hl1 (k := 0) rfl rfl (by decide) rfl (fun ls2 hl2 => ?_)
        refine lv_goto (tgt := 23) hx hb dL_law_1133 (by decide) ?_
        exact ih (t + 1) (by omega) y1 h1 H1 locs1 ls2 (i + 6) (by rw [pi_add (by omega), k6]; omega) J1 V1 hl2 hp1
      refine lv_aload_n hx hb dL_law_33 rfl (lv_at hl 4 rfl) ?_
      refine lv_iload hx hb dL_law_34 (lv_at hl 0 rfl) ?_
      refine va_sld hx hb hX hbl hbA V.2.1 (pi_in (by omega)) dL_law_36 ?_
      refine lv_bipush (v := 31) hx hb dL_law_37 (by decide) ?_
      refine lv_iand hx hb dL_law_39 ?_
      refine lv_topi (fun v2 ev2 => ?_)
      by_cases w_40 : v2.toInt < 0 ∨ 28 < v2.toInt
      · refine lv_tableOut (tgt := 1130) hx hb dL_law_40 w_40 (by decide) ?_
        refine W.widen (k := 189 + (t + 1) + (pPh (gW Z y) - 896)) (n := 160018 + 6 * (t + 1) + 2 * (pPh (gW Z y) - 896)) (by omega) (by omega) ?_
        exact N y h H locs ls J.mono V hl hph
      · obtain w_40 | w_40 | w_40 | w_40 | w_40 | w_40 | w_40 | w_40 | w_40 | w_40 | w_40 | w_40 | w_40 | w_40 | w_40 | w_40 | w_40 | w_40 | w_40 | w_40 | w_40 | w_40 | w_40 | w_40 | w_40 | w_40 | w_40 | w_40 | w_40 : v2.toInt = 0 ∨ v2.toInt = 1 ∨ v2.toInt = 2 ∨ v2.toInt = 3 ∨ v2.toInt = 4 ∨ v2.toInt = 5 ∨ v2.toInt = 6 ∨ v2.toInt = 7 ∨ v2.toInt = 8 ∨ v2.toInt = 9 ∨ v2.toInt = 10 ∨ v2.toInt = 11 ∨ v2.toInt = 12 ∨ v2.toInt = 13 ∨ v2.toInt = 14 ∨ v2.toInt = 15 ∨ v2.toInt = 16 ∨ v2.toInt = 17 ∨ v2.toInt = 18 ∨ v2.toInt = 19 ∨ v2.toInt = 20 ∨ v2.toInt = 21 ∨ v2.toInt = 22 ∨ v2.toInt = 23 ∨ v2.toInt = 24 ∨ v2.toInt = 25 ∨ v2.toInt = 26 ∨ v2.toInt = 27 ∨ v2.toInt = 28 := by omega
        · refine lv_tableIn (tgt := 172) (off := 132) hx hb dL_law_40 (by omega) (by omega) (by rw [w_40]; rfl) (by decide) ?_
          exact lc_0 hl9 M X hX hbl hbA hL ht hi hiL J V hl hph N
        · refine lv_tableIn (tgt := 209) (off := 169) hx hb dL_law_40 (by omega) (by omega) (by rw [w_40]; rfl) (by decide) ?_
          exact lc_1 hl9 M X hX hbl hbA hL ht hi hiL J V hl hph N
        · refine lv_tableIn (tgt := 250) (off := 210) hx hb dL_law_40 (by omega) (by omega) (by rw [w_40]; rfl) (by decide) ?_
          exact lc_2 hl9 M X hX hbl hbA hL ht hi hiL J V hl hph N
        · refine lv_tableIn (tgt := 275) (off := 235) hx hb dL_law_40 (by omega) (by omega) (by rw [w_40]; rfl) (by decide) ?_
          exact lc_3 hl9 M X hX hbl hbA hL ht hi hiL J V hl hph N
        · refine lv_tableIn (tgt := 328) (off := 288) hx hb dL_law_40 (by omega) (by omega) (by rw [w_40]; rfl) (by decide) ?_
          exact lc_4 hl9 M X hX hbl hbA hL ht hi hiL J V hl hph N
        · refine lv_tableIn (tgt := 353) (off := 313) hx hb dL_law_40 (by omega) (by omega) (by rw [w_40]; rfl) (by decide) ?_
          exact lc_5 hl9 M X hX hbl hbA hL ht hi hiL J V hl hph N
        · refine lv_tableIn (tgt := 369) (off := 329) hx hb dL_law_40 (by omega) (by omega) (by rw [w_40]; rfl) (by decide) ?_
          exact lc_6 hl9 M X hX hbl hbA hL ht hi hiL J V hl hph N
        · refine lv_tableIn (tgt := 385) (off := 345) hx hb dL_law_40 (by omega) (by omega) (by rw [w_40]; rfl) (by decide) ?_
          exact lc_7 hl9 M X hX hbl hbA hL ht hi hiL J V hl hph N
        · refine lv_tableIn (tgt := 461) (off := 421) hx hb dL_law_40 (by omega) (by omega) (by rw [w_40]; rfl) (by decide) ?_
          exact lc_8 hl9 M X hX hbl hbA hL ht hi hiL J V hl hph N
        · refine lv_tableIn (tgt := 489) (off := 449) hx hb dL_law_40 (by omega) (by omega) (by rw [w_40]; rfl) (by decide) ?_
          exact lc_9 hl9 M X hX hbl hbA hL ht hi hiL J V hl hph N
        · refine lv_tableIn (tgt := 541) (off := 501) hx hb dL_law_40 (by omega) (by omega) (by rw [w_40]; rfl) (by decide) ?_
          exact lc_10 hl9 M X hX hbl hbA hL ht hi hiL J V hl hph N
        · refine lv_tableIn (tgt := 554) (off := 514) hx hb dL_law_40 (by omega) (by omega) (by rw [w_40]; rfl) (by decide) ?_
          exact lc_11 hl9 M X hX hbl hbA hL ht hi hiL J V hl hph N
        · refine lv_tableIn (tgt := 570) (off := 530) hx hb dL_law_40 (by omega) (by omega) (by rw [w_40]; rfl) (by decide) ?_
          exact lc_12 hl9 M X hX hbl hbA hL ht hi hiL J V hl hph N
        · refine lv_tableIn (tgt := 610) (off := 570) hx hb dL_law_40 (by omega) (by omega) (by rw [w_40]; rfl) (by decide) ?_
          exact lc_13 hl9 M X hX hbl hbA hL ht hi hiL J V hl hph N
        · refine lv_tableIn (tgt := 638) (off := 598) hx hb dL_law_40 (by omega) (by omega) (by rw [w_40]; rfl) (by decide) ?_
          exact lc_14 hl9 M X hX hbl hbA hL ht hi hiL J V hl hph N
        · refine lv_tableIn (tgt := 702) (off := 662) hx hb dL_law_40 (by omega) (by omega) (by rw [w_40]; rfl) (by decide) ?_
          exact lc_15 hl9 M X hX hbl hbA hL ht hi hiL J V hl hph N
        · refine lv_tableIn (tgt := 742) (off := 702) hx hb dL_law_40 (by omega) (by omega) (by rw [w_40]; rfl) (by decide) ?_
          exact lc_16 hl9 M X hX hbl hbA hL ht hi hiL J V hl hph N
        · refine lv_tableIn (tgt := 782) (off := 742) hx hb dL_law_40 (by omega) (by omega) (by rw [w_40]; rfl) (by decide) ?_
          exact lc_17 hl9 M X hX hbl hbA hL ht hi hiL J V hl hph N
        · refine lv_tableIn (tgt := 831) (off := 791) hx hb dL_law_40 (by omega) (by omega) (by rw [w_40]; rfl) (by decide) ?_
          exact lc_18 hl9 M X hX hbl hbA hL ht hi hiL J V hl hph N
        · refine lv_tableIn (tgt := 856) (off := 816) hx hb dL_law_40 (by omega) (by omega) (by rw [w_40]; rfl) (by decide) ?_
          exact lc_19 hl9 M X hX hbl hbA hL ht hi hiL J V hl hph N
        · refine lv_tableIn (tgt := 869) (off := 829) hx hb dL_law_40 (by omega) (by omega) (by rw [w_40]; rfl) (by decide) ?_
          exact lc_20 hl9 M X hX hbl hbA hL ht hi hiL J V hl hph N
        · refine lv_tableIn (tgt := 882) (off := 842) hx hb dL_law_40 (by omega) (by omega) (by rw [w_40]; rfl) (by decide) ?_
          exact lc_21 hl9 M X hX hbl hbA hL ht hi hiL J V hl hph N
        · refine lv_tableIn (tgt := 907) (off := 867) hx hb dL_law_40 (by omega) (by omega) (by rw [w_40]; rfl) (by decide) ?_
          exact lc_22 hl9 M X hX hbl hbA hL ht hi hiL J V hl hph N
        · refine lv_tableIn (tgt := 944) (off := 904) hx hb dL_law_40 (by omega) (by omega) (by rw [w_40]; rfl) (by decide) ?_
          exact lc_23 hl9 M X hX hbl hbA hL ht hi hiL J V hl hph N
        · refine lv_tableIn (tgt := 969) (off := 929) hx hb dL_law_40 (by omega) (by omega) (by rw [w_40]; rfl) (by decide) ?_
          exact lc_24 hl9 M X hX hbl hbA hL ht hi hiL J V hl hph N
        · refine lv_tableIn (tgt := 1006) (off := 966) hx hb dL_law_40 (by omega) (by omega) (by rw [w_40]; rfl) (by decide) ?_
          exact lc_25 hl9 M X hX hbl hbA hL ht hi hiL J V hl hph N
        · refine lv_tableIn (tgt := 1031) (off := 991) hx hb dL_law_40 (by omega) (by omega) (by rw [w_40]; rfl) (by decide) ?_
          exact lc_26 hl9 M X hX hbl hbA hL ht hi hiL J V hl hph N
        · refine lv_tableIn (tgt := 1068) (off := 1028) hx hb dL_law_40 (by omega) (by omega) (by rw [w_40]; rfl) (by decide) ?_
          exact lc_27 hl9 M X hX hbl hbA hL ht hi hiL J V hl hph N
        · refine lv_tableIn (tgt := 1093) (off := 1053) hx hb dL_law_40 (by omega) (by omega) (by rw [w_40]; rfl) (by decide) ?_
          exact lc_28 hl9 M X hX hbl hbA hL ht hi hiL J V hl hph N
set_option maxHeartbeats 4000000 in
set_option maxRecDepth 100000 in
theorem whole_start {p : Program} {e : Env} {s : State} {m : MethodId} {below : List Frame} {meth : Method} {c : Code} (l : Launch) (hl9 : l.stackTraces = false) {b L : Nat} {xs : Nat → Int32} (hL : L ≤ 384) (C0 : lw_At p s m meth c b L xs) : W p l e room_1 s m #[Value.ref b] below meth c s.heap [] 0 0 (lw_Z below #[Value.ref b] s) (entryFrame m ([Value.ref b] : List Value).toArray 7) := by
  have X0 := le_xs C0
  have hao := le_ao C0
  obtain ⟨G, hG⟩ := le_kn C0
  have hw9 : ∀ w ∈ pT, w.before #[Value.ref b] s = true := fun w hw => le_w C0 hw
  obtain ⟨hx, hb, hr, hml, hown, -, hX, hbl, hlocks, -⟩ := C0
  obtain ⟨Z, hZ, hG1, hB⟩ : ∃ Z : pZ, Z = (G, s.heap.size, [], (fun _ => 99), (fun _ => 0), (fun _ _ => none), (fun _ _ => 0)) ∧ Z.1 = G ∧ zB Z = s.heap.size := ⟨_, rfl, rfl, rfl⟩
  have M : pM Z.1 p s m #[Value.ref b] c cL_law 7 RL := by rw [hG1]; exact ⟨⟨hx, hb, hml, hown, hw9⟩, hG⟩
  have P : pMk 0 0 0 Z (fun _ _ => 0) := by
    subst hZ
    exact ⟨rfl, fun o ho => absurd ho (Nat.not_lt_zero _), fun o k => rfl, fun o k => rfl⟩
  have V : pV Z (fun _ _ => 0) s.heap s.heap [] := by
    subst hZ
    exact ⟨⟨fun k q hq => (by cases hq), ⟨fun i j q1 q2 h1 => (by cases h1), fun k q hq => (by cases hq)⟩, Nat.le_refl _⟩, va_S.rf, Nat.le_refl _⟩
  have hs : s.heap.size = zB Z + 0 := by omega
  have X : pXS (zB Z) s := by rw [hB]; exact X0
  have hl := lv_entry [Value.ref b] (n := 7) (Nat.le_of_ble_eq_true rfl)
  rw [show lv_args 0 [Value.ref b] = [(0, Value.ref b)] from rfl] at hl
  rw [lg_entry_eq]
  generalize (lg_sl [Value.ref b] ++ List.replicate (7 - (lg_sl [Value.ref b]).length) Slot.unset).toArray = ls at hl ⊢
  refine kn_o (Z := Z) Z rfl rfl M V P hs (by omega) pC11 fd11 (by decide +kernel) lkC_L_8 kI_11 ki_11 ⟨Nat.le_of_ble_eq_true rfl, Nat.le_of_ble_eq_true rfl⟩ dL_law_0 (fun y1 h1 H P V => ?_)
  have M := pM.to (gW Z y1) rfl M
  refine lv_dup hx hb dL_law_3 rfl ?_
  refine g_know (fun g0 => ?_)
  have z9 := mk_size V P hs g0 (by omega)
  refine kz_v (Z := (gW Z y1)) Z rfl rfl (nr_I (Z := (gW Z y1)) (o := 0) M V hao z9 (m_X11_init l P) km_X11_init lkM_L_68 rfl hl.1 rfl (Nat.le_of_ble_eq_true rfl) ⟨Nat.le_of_ble_eq_true rfl, Nat.le_of_ble_eq_true rfl⟩ ⟨Nat.le_of_ble_eq_true rfl, Nat.le_of_ble_eq_true rfl⟩ dL_law_4) V (fun y2 h2 H locs P V => ?_)
  have M := pM.to (gW Z y2) rfl M
  refine lv_astore_n (lv' := [(1, .ref (zB Z + 0)), (0, .ref b)]) hx hb dL_law_7 rfl hl (by decide) rfl (fun ls hl => ?_)
  refine kn_o (Z := (gW Z y2)) Z rfl rfl M V P hs (by omega) pC12 fd12 (by decide +kernel) lkC_L_69 kI_12 ki_12 ⟨Nat.le_of_ble_eq_true rfl, Nat.le_of_ble_eq_true rfl⟩ dL_law_8 (fun y3 h3 H P V => ?_)
  have M := pM.to (gW Z y3) rfl M
  refine lv_dup hx hb dL_law_11 rfl ?_
  refine g_know (fun g0 => ?_)
  have z9 := mk_size V P hs g0 (by omega)
  refine kz_v (Z := (gW Z y3)) Z rfl rfl (nr_I (Z := (gW Z y3)) (o := 137) M V hao z9 (m_X12_init l P) km_X12_init lkM_L_71 rfl hl.1 rfl (Nat.le_of_ble_eq_true rfl) ⟨Nat.le_of_ble_eq_true rfl, Nat.le_of_ble_eq_true rfl⟩ ⟨Nat.le_of_ble_eq_true rfl, Nat.le_of_ble_eq_true rfl⟩ dL_law_12) V (fun y4 h4 H locs P V => ?_)
  have M := pM.to (gW Z y4) rfl M
  refine lv_astore_n (lv' := [(2, .ref (zB Z + 137)), (1, .ref (zB Z + 0)), (0, .ref b)]) hx hb dL_law_15 rfl hl (by decide) rfl (fun ls hl => ?_)
  refine lv_iconst (v := 1) hx hb dL_law_16 (by decide) ?_
  refine kn_a (Z := (gW Z y4)) Z rfl rfl M V P hs (by omega) (ci := 18) (N := 1) (Or.inr (Or.inr ⟨rfl, rfl⟩)) kA_long (by decide +kernel) (by decide) (by decide) (by decide) ⟨Nat.le_of_ble_eq_true rfl, Nat.le_of_ble_eq_true rfl⟩ dL_law_17 (fun y5 h5 H P V => ?_)
  refine lv_astore_n (lv' := [(3, .ref (zB Z + 188)), (2, .ref (zB Z + 137)), (1, .ref (zB Z + 0)), (0, .ref b)]) hx hb dL_law_19 rfl hl (by decide) rfl (fun ls hl => ?_)
  refine lv_iconst (v := 0) hx hb dL_law_20 (by decide) ?_
  refine lv_istore (lv' := [(4, .int 0), (3, .ref (zB Z + 188)), (2, .ref (zB Z + 137)), (1, .ref (zB Z + 0)), (0, .ref b)]) hx hb dL_law_21 hl (by decide) rfl (fun ls hl => ?_)
  have J := mk_lI P
  have e9 := (mk_sk P).2
  have M := pM.to Z rfl M
  refine W.widen (k := 189 + 0 + (pPh (gW Z y5) - 896)) (n := 160018 + 6 * 0 + 2 * (pPh (gW Z y5) - 896)) (by rw [e9]; decide) (by rw [e9]; decide) ?_
  exact ll_loop hl9 M X hX hbl hB hL hr hlocks 64 0 rfl y5 h5 H locs ls 0 rfl J V hl (by omega)
set_option maxHeartbeats 4000000 in
theorem lw_walk (l : Launch) (hl9 : l.stackTraces = false) (b : Addr) (xs : List Int32) : MetFree l x (headSpec (Jvm.Cond.code x code maxLocals ret :: tables_1) room_1) (lw_P b xs) (fun _ _ _ _ _ => True) lw_Q := by
  refine MetFree.of_bodyS (code := code) (maxLocals := maxLocals) (ret := ret) (by decide) ?_ ?_
  · intro args s m h hn
    obtain ⟨meth, c, h1, h2, h3, h4, h5, h6, -, -⟩ := Cond.code_spec hn (atoms_spec (ws := Jvm.Cond.code x code maxLocals ret :: tables_1) h _ List.mem_cons_self)
    exact ⟨meth, c, h1, h2, h3, h4, h5, h6⟩
  · intro p e s m args below meth c s₁ B hml0 hP _
    obtain ⟨rfl, hx, hbd, hgv⟩ := hP
    obtain ⟨scr, harrAt, hlist, hof, hsmall⟩ := hx
    obtain ⟨hcb, hkn, -, -⟩ := State.arrayAt?_spec harrAt
    have hown : s.vm.findClass R_law = some m.cls := findClass_of_methodNamed B.named
    have hts0 : ∀ c ∈ (Jvm.Cond.code x code maxLocals ret :: tables_1), c.before #[Value.ref b] s = true := atoms_spec (ws := Jvm.Cond.code x code maxLocals ret :: tables_1) B.pre
    have hts : ∀ w ∈ lw_tbl, w.before #[Value.ref b] s = true := k2_hts_sels lw_privs (fun w hw => hts0 w (List.mem_cons_of_mem _ hw)) lw_privs_ok
    have hml : c.maxLocals = 7 := B.maxLocals_eq (hts0 _ List.mem_cons_self)
    have X₀ : Stand p l e room_1 s m #[Value.ref b] below meth c s₁ [] 0 0 := Stand.of_body B
    have hh0 : s₁.heap = s.heap := by rw [B.state]; rfl
    have hsz : scr.slots.size = xs.length := by rw [← Array.length_toList, hlist, List.length_map]
    have hval : ∀ j : Nat, j < xs.length → scr.slots[j]? = some (.int (xs.getD j 0)) := fun j hj => by
      rw [← Array.getElem?_toList, hlist]
      simp [hj]
    have hbl : b < s.heap.size := (Array.getElem?_eq_some_iff.mp hcb).1
    have hX : va_X b xs.length (fun j => xs.getD j 0) s s.heap := ⟨scr, hcb, hof, hkn, hsz, hval⟩
    have K : W p l e room_1 s m #[Value.ref b] below meth c s₁.heap [] 0 0 (lw_Z below #[Value.ref b] s) (entryFrame m ([Value.ref b] : List Value).toArray 7) := by
      rw [hh0]
      exact whole_start l hl9 hbd ⟨B.exec, B.bytes, B.returns, hml, hown, hts, hX, hbl, B.notSynchronized, hgv⟩
    obtain ⟨t, a1, o, b1, b2, b3⟩ := K s₁ rfl X₀
    exact ⟨t, o, a1, b1, b2, b3⟩
theorem lw_pre_spec {args : Array Value} {s : State} (h : (Jvm.Cond.and given_1 narrow_1).before args s = true) (hr : rest_1_c.before args s = true) : ∃ (b : Addr) (xs : List Int32), lw_P b xs args s := by
  have hs := flat_of_before _ h
  have hq := flat_of_before _ hr
  have hc : (Cond.count 1).before args s = true := hs _ (by decide +kernel)
  have harr : (Cond.arrayOf (.arg 0) .int).before args s = true := hs _ (by decide +kernel)
  have hle : (Cond.le (.length (.arg 0)) (.int 384)).before args s = true := hs _ (by decide +kernel)
  have hlen : (Cond.isInt (.length (.arg 0))).before args s = true := hq _ (by decide +kernel)
  have hall : (Cond.all (.arg 0) (.isInt (.elem (.arg 0) (.index 0)))).before args s = true := hq _ (by decide +kernel)
  obtain ⟨b, xs, hb, hx⟩ := State.ints_of_pre rfl harr hlen hall
  have hsm : xs.length < 2 ^ 31 := hx.choose_spec.2.2.2
  have hev : (Term.length (.arg 0)).eval args s none [] s = some (.int xs.length.toInt32) := hx.length_eval hb
  have hv := Cond.le_ints hev (show (Term.int 384).eval args s none [] s = some (.int 384) from rfl)
  have hd : xs.length.toInt32 ≤ 384 := by
    simpa [Cond.before, Cond.holds, hv] using hle
  have hN : xs.length ≤ 384 := (Int32.ofNat_le_ofNat hsm (by decide)).mp (show Int32.ofNat xs.length ≤ Int32.ofNat 384 from hd)
  exact ⟨b, xs, Cond.one_arg hc (show args[0]? = some (.ref b) from hb), hx, hN, h⟩
theorem lw_comes (l : Launch) (hl9 : l.stackTraces = false) : Comes l x (Jvm.Cond.code x code maxLocals ret :: tables_1) room_1 (fun tb e args s => Calls_1 tb e args s ∧ rest_1 tb e args s ∧ Pre_1 tb e args s)
    (fun _ _ args s o t => lw_Q args s o t) := by
  intro p e ha hc hk s m args below hf hfit hheap happ hpre
  obtain ⟨b, xs, hP⟩ := lw_pre_spec hpre.2.2 hpre.2.1
  obtain ⟨k, o, h1, h2, h3, hQ⟩ := lw_walk l hl9 b xs p e ha hc hk s m args below hf ((Spec.applies_iff_loose hf).mp happ).1 hP trivial
  exact ⟨k, o, h1, h2, h3, hQ⟩
theorem lw_frame {s t : State} {o : Outcome} {args : Array Value} (h : Framed s o t [] 600128 7301098) :
    Framed s o t (fieldLocs frame_1_writes args s ++ arrayLocs frame_1_arrays args s ++ staticLocs frame_1_statics s) 600128 7301098 := h
theorem lw_limb (L : Cond) (hL : ∀ (args : Array Value) (s t : State), L.after args s (.returned (some (.int 1))) t = true) :
    ArmFor flags0 classFile x code maxLocals ret World_1 tables_1 room_1 Calls_1 rest_1 Pre_1
      (fun tb e a s o t => postC L tb e a s o t ∧ Framed s o t (fieldLocs frame_1_writes a s ++ arrayLocs frame_1_arrays a s ++ staticLocs frame_1_statics s) 600128 7301098) := by
  intro l hfl _ _ p e ha hc hk s m args below hf hfit hheap happ hpre
  have hl9 : l.stackTraces = false := by unfold Launch.stackTraces; rw [hfl]; decide +kernel
  obtain ⟨k, o, h1, h2, h3, rfl, hF⟩ := lw_comes l hl9 p e ha hc hk s m args below hf hfit hheap happ hpre
  exact ⟨k, _, h1, h2, h3, hL args s _, lw_frame hF⟩
theorem i_vc : Claimed_1_1 ∧ Claimed_1_2 := ⟨lw_limb limb_1_1 (fun args s t => by simp [limb_1_1, Cond.after, Cond.holds, Cond.value]), lw_limb limb_1_2 (fun args s t => Cond.after_iff.mpr (by
  first | (rw [show limb_1_2 = Cond.eq .result (.int 1) from rfl, Cond.eq_ints (x := 1) (y := 1) rfl rfl]; simp; done) | (simp [limb_1_2, Cond.value, Term.eval]; done)))⟩
