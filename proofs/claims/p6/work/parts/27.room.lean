/-! Arrays.copyOf, Sketch.withRoom; a row of a sketch made longer -/
theorem dJ7_0 : decode cJ7_copyOf_59c91 0 = .ok (.iload_n 1, 1) := by decide +kernel
theorem dJ7_1 : decode cJ7_copyOf_59c91 1 = .ok (.aload_n 0, 1) := by decide +kernel
theorem dJ7_2 : decode cJ7_copyOf_59c91 2 = .ok (.arraylength, 1) := by decide +kernel
theorem dJ7_3 : decode cJ7_copyOf_59c91 3 = .ok (.if_icmp .ne 11, 3) := by decide +kernel
theorem dJ7_14 : decode cJ7_copyOf_59c91 14 = .ok (.iload_n 1, 1) := by decide +kernel
theorem dJ7_15 : decode cJ7_copyOf_59c91 15 = .ok (.newarray .int, 2) := by decide +kernel
theorem dJ7_17 : decode cJ7_copyOf_59c91 17 = .ok (.astore_n 2, 1) := by decide +kernel
theorem dJ7_18 : decode cJ7_copyOf_59c91 18 = .ok (.aload_n 0, 1) := by decide +kernel
theorem dJ7_19 : decode cJ7_copyOf_59c91 19 = .ok (.iconst 0, 1) := by decide +kernel
theorem dJ7_20 : decode cJ7_copyOf_59c91 20 = .ok (.aload_n 2, 1) := by decide +kernel
theorem dJ7_21 : decode cJ7_copyOf_59c91 21 = .ok (.iconst 0, 1) := by decide +kernel
theorem dJ7_22 : decode cJ7_copyOf_59c91 22 = .ok (.aload_n 0, 1) := by decide +kernel
theorem dJ7_23 : decode cJ7_copyOf_59c91 23 = .ok (.arraylength, 1) := by decide +kernel
theorem dJ7_24 : decode cJ7_copyOf_59c91 24 = .ok (.iload_n 1, 1) := by decide +kernel
theorem dJ7_25 : decode cJ7_copyOf_59c91 25 = .ok (.invokestatic 304, 3) := by decide +kernel
theorem dJ7_28 : decode cJ7_copyOf_59c91 28 = .ok (.invokestatic 150, 3) := by decide +kernel
theorem dJ7_31 : decode cJ7_copyOf_59c91 31 = .ok (.aload_n 2, 1) := by decide +kernel
theorem dJ7_32 : decode cJ7_copyOf_59c91 32 = .ok (.areturn, 1) := by decide +kernel
theorem lkJ_J7_304 : Cond.methodLink RJ7 304 Lib.Math.min.name ∈ pT := pT_4 160 (by decide +kernel) rfl
theorem lkJ_J7_150 : Cond.methodLink RJ7 150 arraycopyName ∈ pT := pT_4 161 (by decide +kernel) rfl
theorem kA_int : Cond.arrayClass (newarray.typeOf .int) ∈ pT := pT_1 60 (by decide +kernel) rfl
theorem km_J7_copyOf : pLS yJ7_copyOf_59c91 cJ7_copyOf_59c91 3 (some (.array .int)) 2 := ⟨pT_4 152 rfl rfl, pT_1 19 (by decide +kernel) rfl, ⟨by decide +kernel, by decide +kernel, by decide +kernel⟩, pT_4 151 (by decide +kernel) rfl⟩
theorem lkM_X9_91 : Cond.methodLink RX9 91 yJ7_copyOf_59c91 ∈ pT := pT_4 150 (by decide +kernel) rfl
/-- a longer copy: a new row -/
def pNew (Z : pZ) (h : pH) (N : Nat) (o1 : Nat) (Z1 : pZ) (h1 : pH) : Prop := o1 ∉ zL Z ∧ Z1 = pAdd Z o1 13 N ∧ ∃ f, h1 = u1 (u1 h o1 (fun _ => 0)) o1 f
set_option maxHeartbeats 4000000 in
set_option maxRecDepth 100000 in
theorem m_J7_copyOf (l : Launch) {Z : pZ} {h : pH} (o0 : Nat) (h0 : pIs Z o0 13) (k : Int32) (N : Nat) (hk : (zN Z o0 : Int) < k.toInt ∧ k.toInt = (N : Int) ∧ N ≤ 160000) : pMet l yJ7_copyOf_59c91 cJ7_copyOf_59c91 3 (some (.array .int)) 1 1 N 26 Z h [.ref (zB Z + o0), .int k] (gQr Z (fun o1 Z1 h1 kc n => pNew Z h N o1 Z1 h1 ∧ kc = 1 ∧ n = N)) := by
  refine pOfW (lv := [(0, .ref (zB Z + o0)), (1, .int k)]) (by decide) (Nat.le_of_ble_eq_true rfl) rfl ?_
  intro p e s m below meth c ls M hr hlk hnm V hl
  have hx := M.1.1
  have hb := M.1.2.1
  refine lv_iload_n hx hb dJ7_0 rfl (lv_at hl 1 rfl) ?_
  refine lv_aload_n hx hb dJ7_1 rfl (lv_at hl 0 rfl) ?_
  refine pa_len M V h0 dJ7_2 ?_
  refine lv_topi (fun v1 ev1 => ?_)
  have tv1 : v1.toInt = (zN Z o0 : Int) := by rw [ev1]; exact pi_len (by omega)
  refine lv_icmp_ne (tgt := 14) hx hb dJ7_3 (by decide) (fun c_3 => ?_) (fun c_3 => ?_)
  · refine lv_iload_n hx hb dJ7_14 rfl (lv_at hl 1 rfl) ?_
    have hkN : k.toNatClampNeg = N := by have := pi_cl (x := k) (by omega); omega
    refine pn_a M V (ci := 13) (N := N) (Or.inl ⟨rfl, rfl⟩) kA_int (by omega) hkN (by omega) ⟨Nat.le_of_eq (Nat.zero_add 1), Nat.le_of_eq (Nat.zero_add N)⟩ dJ7_15 (fun o1 H1 ho hz hnew V => ?_)
    have M2 : pM (pAdd Z o1 13 N).1 p s m [Value.ref (zB Z + o0), Value.int k].toArray c cJ7_copyOf_59c91 3 yJ7_copyOf_59c91.cls := M
    have hgr := pAdd_gr (c := 13) (n := N) hnew
    have h0' := hgr.is h0
    have hn0 : zN (pAdd Z o1 13 N) o0 = zN Z o0 := (hgr o0 h0.1).2.2.1
    have hn1 : zN (pAdd Z o1 13 N) o1 = N := pAdd_N
    have h1' : pIs (pAdd Z o1 13 N) o1 13 := pAdd_is
    refine lv_astore_n (lv' := [(2, .ref (zB Z + o1)), (0, .ref (zB Z + o0)), (1, .int k)]) hx hb dJ7_17 rfl hl (by decide) rfl (fun ls hl => ?_)
    refine lv_aload_n hx hb dJ7_18 rfl (lv_at hl 1 rfl) ?_
    refine lv_iconst (v := 0) hx hb dJ7_19 (by decide) ?_
    refine lv_aload_n hx hb dJ7_20 rfl (lv_at hl 0 rfl) ?_
    refine lv_iconst (v := 0) hx hb dJ7_21 (by decide) ?_
    refine lv_aload_n hx hb dJ7_22 rfl (lv_at hl 1 rfl) ?_
    refine pa_len (Z := pAdd Z o1 13 N) M2 V h0' dJ7_23 ?_
    refine lv_topi (fun v2 ev2 => ?_)
    have tv2 : v2.toInt = (zN Z o0 : Int) := by rw [ev2, hn0]; exact pi_len (by omega)
    refine lv_iload_n hx hb dJ7_24 rfl (lv_at hl 2 rfl) ?_
    refine pm_min (Z := Z) M hl.1 lkJ_J7_304 ⟨Nat.le_of_ble_eq_true rfl, Nat.le_of_ble_eq_true rfl⟩ ⟨Nat.le_of_eq (Nat.zero_add 1), Nat.le_of_eq (Nat.zero_add N)⟩ dJ7_25 (fun r1 fr1 => ?_)
    have z0 : (0 : Int32).toInt = 0 := rfl
    refine pa_copy (Z := pAdd Z o1 13 N) M2 V h0' h1' hl.1 lkJ_J7_150 kM_copy (by rw [hn0, hn1]; omega) ⟨Nat.le_of_ble_eq_true rfl, Nat.le_of_ble_eq_true rfl⟩ dJ7_28 (fun H locs f V => ?_)
    refine lv_aload_n hx hb dJ7_31 rfl (lv_at hl 0 rfl) ?_
    exact ge_r (Z' := pAdd Z o1 13 N) M2 V rfl rfl hr (Or.inr ⟨_, rfl⟩) hlk ⟨⟨hnew, rfl, f, rfl⟩, Nat.zero_add 1, Nat.zero_add N⟩ ⟨Nat.le_of_eq (Nat.zero_add 1), Nat.le_of_eq (Nat.zero_add N)⟩ dJ7_32
  · exfalso
    rw [c_3] at hk
    omega
theorem dX9_withRoom_0 : decode cX9_withRoom 0 = .ok (.iload_n 1, 1) := by decide +kernel
theorem dX9_withRoom_1 : decode cX9_withRoom 1 = .ok (.aload_n 0, 1) := by decide +kernel
theorem dX9_withRoom_2 : decode cX9_withRoom 2 = .ok (.arraylength, 1) := by decide +kernel
theorem dX9_withRoom_3 : decode cX9_withRoom 3 = .ok (.if_icmp .gt 7, 3) := by decide +kernel
theorem dX9_withRoom_6 : decode cX9_withRoom 6 = .ok (.aload_n 0, 1) := by decide +kernel
theorem dX9_withRoom_7 : decode cX9_withRoom 7 = .ok (.goto 15, 3) := by decide +kernel
theorem dX9_withRoom_10 : decode cX9_withRoom 10 = .ok (.aload_n 0, 1) := by decide +kernel
theorem dX9_withRoom_11 : decode cX9_withRoom 11 = .ok (.iload_n 1, 1) := by decide +kernel
theorem dX9_withRoom_12 : decode cX9_withRoom 12 = .ok (.iconst 2, 1) := by decide +kernel
theorem dX9_withRoom_13 : decode cX9_withRoom 13 = .ok (.aload_n 0, 1) := by decide +kernel
theorem dX9_withRoom_14 : decode cX9_withRoom 14 = .ok (.arraylength, 1) := by decide +kernel
theorem dX9_withRoom_15 : decode cX9_withRoom 15 = .ok (.imul, 1) := by decide +kernel
theorem dX9_withRoom_16 : decode cX9_withRoom 16 = .ok (.invokestatic 85, 3) := by decide +kernel
theorem dX9_withRoom_19 : decode cX9_withRoom 19 = .ok (.invokestatic 91, 3) := by decide +kernel
theorem dX9_withRoom_22 : decode cX9_withRoom 22 = .ok (.areturn, 1) := by decide +kernel
set_option maxHeartbeats 4000000 in
set_option maxRecDepth 100000 in
theorem m_X9_withRoom (l : Launch) {Z : pZ} {h : pH} (row : Nat) (h0 : pIs Z row 13) (k : Int32) (hk : k.toInt ≤ 80000) (hN : zN Z row ≤ 160000) : pMet l yX9_withRoom cX9_withRoom 2 (some (.array .int)) 2 1 160000 48 Z h [.ref (zB Z + row), .int k] (gQr Z (fun o1 Z1 h1 kc n => (Z1 = Z ∧ h1 = h ∧ o1 = row ∧ k.toInt ≤ (zN Z row : Int) ∧ kc = 0 ∧ n = 0) ∨ (∃ N : Nat, pNew Z h N o1 Z1 h1 ∧ kc = 1 ∧ n = N ∧ (zN Z row : Int) < k.toInt ∧ k.toInt ≤ (N : Int) ∧ 2 * zN Z row ≤ N ∧ (N : Int) ≤ 2 * k.toInt))) := by
  refine pOfW (lv := [(0, .ref (zB Z + row)), (1, .int k)]) (by decide) (Nat.le_of_ble_eq_true rfl) rfl ?_
  intro p e s m below meth c ls M hr hlk hnm V hl
  have hx := M.1.1
  have hb := M.1.2.1
  refine lv_iload_n hx hb dX9_withRoom_0 rfl (lv_at hl 1 rfl) ?_
  refine lv_aload_n hx hb dX9_withRoom_1 rfl (lv_at hl 0 rfl) ?_
  refine pa_len M V h0 dX9_withRoom_2 ?_
  refine lv_topi (fun v1 ev1 => ?_)
  have tv1 : v1.toInt = (zN Z row : Int) := by rw [ev1]; exact pi_len (by omega)
  refine lv_icmp_gt (tgt := 10) hx hb dX9_withRoom_3 (by decide) (fun c_3 => ?_) (fun c_3 => ?_)
  · have c_3 := pi_lt.mp c_3
    refine lv_aload_n hx hb dX9_withRoom_10 rfl (lv_at hl 0 rfl) ?_
    refine lv_iload_n hx hb dX9_withRoom_11 rfl (lv_at hl 1 rfl) ?_
    refine lv_iconst (v := 2) hx hb dX9_withRoom_12 (by decide) ?_
    refine lv_aload_n hx hb dX9_withRoom_13 rfl (lv_at hl 0 rfl) ?_
    refine pa_len M V h0 dX9_withRoom_14 ?_
    refine lv_topi (fun v2 ev2 => ?_)
    have tv2 : v2.toInt = (zN Z row : Int) := by rw [ev2]; exact pi_len (by omega)
    refine lv_imul hx hb dX9_withRoom_15 ?_
    refine lv_topi (fun v3 ev3 => ?_)
    have k_2 : (2 : Int32).toInt = 2 := rfl
    have tv3 : v3.toInt = 2 * v2.toInt := by rw [ev3]; have z9 := pi_mul (x := 2) (y := v2); rw [k_2] at z9; exact z9 (by omega)
    refine pm_max (Z := Z) M hl.1 lkJ_X9_85 ⟨Nat.le_of_ble_eq_true rfl, Nat.le_of_ble_eq_true rfl⟩ ⟨Nat.zero_le _, Nat.zero_le _⟩ dX9_withRoom_16 (fun r1 fr1 => ?_)
    obtain ⟨N, hN1⟩ : ∃ N : Nat, r1.toInt = (N : Int) := ⟨r1.toInt.toNat, by omega⟩
    have hN2 : N ≤ 160000 := by omega
    refine gk_r (pr_S M V (m_J7_copyOf l row h0 r1 N ⟨by omega, hN1, hN2⟩) km_J7_copyOf lkM_X9_91 rfl hl.1 rfl (Nat.le_of_ble_eq_true rfl) ⟨Nat.le_of_ble_eq_true rfl, Nat.le_of_ble_eq_true rfl⟩ ⟨Nat.le_of_ble_eq_true rfl, by rw [Nat.zero_add]; exact hN2⟩ dX9_withRoom_19) V (fun o1 Z1 h1 kc n H1 locs1 hp hB hG V => ?_)
    obtain ⟨hp, rfl, rfl⟩ := hp
    have hp2 := hp
    obtain ⟨hnew, rfl, f, rfl⟩ := hp
    exact ge_r (Z' := pAdd Z o1 13 n) M V rfl rfl hr (Or.inr ⟨_, rfl⟩) hlk (Or.inr ⟨n, hp2, rfl, Nat.zero_add _, by omega, by omega, by omega, by omega⟩) ⟨by omega, by omega⟩ dX9_withRoom_22
  · have c_3 := pi_lt' c_3
    refine lv_aload_n hx hb dX9_withRoom_6 rfl (lv_at hl 0 rfl) ?_
    refine lv_goto (tgt := 22) hx hb dX9_withRoom_7 (by decide) ?_
    exact ge_r M V rfl rfl hr (Or.inr ⟨_, rfl⟩) hlk (Or.inl ⟨rfl, rfl, rfl, by omega, rfl, rfl⟩) ⟨by omega, by omega⟩ dX9_withRoom_22
theorem pRe_self {Z : pZ} {o k : Nat} {a : Option Nat} (h : zR Z o k = a) : pRe Z o k a = Z := by
  have e : (fun x => if x = o then (fun j => if j = k then a else zR Z o j) else zR Z x) = zR Z := by
    funext x
    by_cases hx : x = o
    · subst hx
      rw [if_pos rfl]
      funext j
      by_cases hj : j = k
      · subst hj
        rw [if_pos rfl, h]
      · rw [if_neg hj]
    · rw [if_neg hx]
  unfold pRe
  rw [e]
/-- row kf of sketch sk is now the new row o1 -/
theorem pSk.grow {Z : pZ} (S : pSh Z) (K : pSk Z) {o1 N sk kf M0 : Nat} (hn : o1 ∉ zL Z) (hsk : sk = 129 ∨ sk = 132) (hkf : (kf = 0 ∧ M0 = 120000) ∨ (kf = 1 ∧ M0 = 160000)) (hN : N ≤ M0) (Z2 : pZ) (hZ : Z2 = pRe (pAdd Z o1 13 N) sk kf (some (zB Z + o1))) :
    zB Z2 = zB Z ∧ Z2.1 = Z.1 ∧ pGr Z Z2 ∧ pSk Z2 ∧ zN Z2 (qA Z2 sk kf) = N ∧ ∀ s' k', (s' = 129 ∨ s' = 132) → (k' = 0 ∨ k' = 1) → ¬ (s' = sk ∧ k' = kf) → zN Z2 (qA Z2 s' k') = zN Z (qA Z s' k') := by
  subst hZ
  obtain ⟨Z2, hZ⟩ : ∃ Z2, Z2 = pRe (pAdd Z o1 13 N) sk kf (some (zB Z + o1)) := ⟨_, rfl⟩
  rw [← hZ]
  have hB : zB Z2 = zB Z := by rw [hZ]; rfl
  have h189 : 189 ≤ o1 := by
    by_cases h : o1 < 189
    · exact absurd (S.1 o1 h).1 hn
    · omega
  have hg0 := pAdd_gr (c := 13) (n := N) hn
  have hso : sk ≠ o1 := by rcases hsk with e | e <;> omega
  have hR1 : ∀ x, x ≠ o1 → x ≠ sk → zR Z2 x = zR Z x := fun x h1 h2 => by rw [hZ, pRe_R' h2, pAdd_R' h1]
  have hR2 : zR Z2 sk = fun j => if j = kf then some (zB Z + o1) else zR Z sk j := by rw [hZ, pRe_R, pAdd_R' hso]
  have hR3 : zR Z2 sk kf = some (zB Z + o1) := by rw [hR2]; exact if_pos rfl
  have hR4 : ∀ j, j ≠ kf → zR Z2 sk j = zR Z sk j := fun j hj => by rw [hR2]; exact if_neg hj
  have hK2 : zK Z2 = zK (pAdd Z o1 13 N) := by rw [hZ]; rfl
  have hN2 : zN Z2 = zN (pAdd Z o1 13 N) := by rw [hZ]; rfl
  have hL2 : zL Z2 = zL (pAdd Z o1 13 N) := by rw [hZ]; rfl
  have hgr : pGr Z Z2 := fun x hx => by
    obtain ⟨a1, a2, a3, a4⟩ := hg0 x hx
    have hxo : x ≠ o1 := fun e => hn (e ▸ hx)
    exact ⟨by rw [hL2]; exact a1, by rw [hK2]; exact a2, by rw [hN2]; exact a3, fun h1 h2 => hR1 x hxo (by rcases hsk with e | e <;> omega)⟩
  have hq : qA Z2 sk kf = o1 := by
    unfold qA
    rw [hR3, hB]
    exact Nat.add_sub_cancel_left _ _
  have old : ∀ s' k' M', (s' = 129 ∨ s' = 132) → ¬ (s' = sk ∧ k' = kf) → pRow Z s' k' M' → pRow Z2 s' k' M' ∧ zN Z2 (qA Z2 s' k') = zN Z (qA Z s' k') := by
    intro s' k' M' hs hne hrow
    have hr : zR Z2 s' k' = zR Z s' k' := by
      by_cases e : s' = sk
      · subst e
        exact hR4 k' (fun e2 => hne ⟨rfl, e2⟩)
      · rw [hR1 s' (by rcases hs with e | e <;> omega) e]
    have hq' : qA Z2 s' k' = qA Z s' k' := by unfold qA; rw [hr, hB]
    have hzn : zN Z2 (qA Z s' k') = zN Z (qA Z s' k') := (hgr _ hrow.2.1.1).2.2.1
    refine ⟨⟨?_, ?_, ?_, ?_⟩, ?_⟩
    · rw [hr, hq', hB]; exact hrow.1
    · rw [hq']; exact hgr.is hrow.2.1
    · rw [hq']; exact hrow.2.2.1
    · rw [hq', hzn]; exact hrow.2.2.2
    · rw [hq', hzn]
  have new : pRow Z2 sk kf M0 ∧ zN Z2 (qA Z2 sk kf) = N := by
    have hzn : zN Z2 o1 = N := by rw [hN2]; exact pAdd_N
    refine ⟨⟨?_, ?_, ?_, ?_⟩, ?_⟩
    · rw [hR3, hq, hB]
    · rw [hq]; exact ⟨by rw [hL2]; exact pAdd_is.1, by rw [hK2]; exact pAdd_K⟩
    · rw [hq]; exact dFr_ge h189
    · rw [hq, hzn]; exact hN
    · rw [hq, hzn]
  refine ⟨hB, by rw [hZ]; rfl, hgr, ?_, new.2, fun s' k' hs hk hne => ?_⟩
  · rcases hsk with rfl | rfl <;> rcases hkf with ⟨rfl, rfl⟩ | ⟨rfl, rfl⟩
    · exact ⟨new.1, (old 129 1 _ (by decide) (by decide) K.2.1).1, (old 132 0 _ (by decide) (by decide) K.2.2.1).1, (old 132 1 _ (by decide) (by decide) K.2.2.2).1⟩
    · exact ⟨(old 129 0 _ (by decide) (by decide) K.1).1, new.1, (old 132 0 _ (by decide) (by decide) K.2.2.1).1, (old 132 1 _ (by decide) (by decide) K.2.2.2).1⟩
    · exact ⟨(old 129 0 _ (by decide) (by decide) K.1).1, (old 129 1 _ (by decide) (by decide) K.2.1).1, new.1, (old 132 1 _ (by decide) (by decide) K.2.2.2).1⟩
    · exact ⟨(old 129 0 _ (by decide) (by decide) K.1).1, (old 129 1 _ (by decide) (by decide) K.2.1).1, (old 132 0 _ (by decide) (by decide) K.2.2.1).1, new.1⟩
  · rcases hs with rfl | rfl <;> rcases hk with rfl | rfl
    · exact (old 129 0 _ (by decide) hne K.1).2
    · exact (old 129 1 _ (by decide) hne K.2.1).2
    · exact (old 132 0 _ (by decide) hne K.2.2.1).2
    · exact (old 132 1 _ (by decide) hne K.2.2.2).2
/-- 'row = withRoom(row, k)' of a sketch: the call, and the store behind it -/
theorem g_room {p : Program} {l : Launch} {e : Env} {R : Room} {s : State} {m : MethodId} {args : Array Value} {below : List Frame} {meth : Method} {c : Code} {H : Heap} {locs : List Loc} {cells slots : Nat} {Q : State → Prop} {cc : ByteArray} {nL pc index : Nat} {ls : Array Slot} {rest : List Value} {Z : pZ} {h : pH} {H0 : Heap}
    (M : pM Z.1 p s m args c cc nL RX9) (V : pV Z h H0 H locs) (S : pSh Z) (I : Iv Z h) (K : pSk Z) (sk kf M0 : Nat) (hsk : sk = 129 ∨ sk = 132) (hkf : (kf = 0 ∧ M0 = 120000) ∨ (kf = 1 ∧ M0 = 160000)) {k : Int32} (hk : k.toInt ≤ 80000 ∧ 2 * k.toInt ≤ (M0 : Int)) (hsz : ls.size = nL)
    (hl1 : Cond.methodLink RX9 81 yX9_withRoom ∈ pT) (hl2 : Cond.fieldLink RX9 index (TX9 kf).1 (TX9 kf).2.1 (TX9 kf).2.2.1 ∈ pT) (hcat : ((Value.ref (zB Z + sk) :: rest).map fun v => v.category).sum ≤ 8) (hR : 2 + 1 ≤ R.frames ∧ 8 + (2 + 11) + 48 ≤ R.locals) (hf : cells + 1 ≤ R.cells ∧ slots + 160000 ≤ R.slots) (d1 : decode cc pc = .ok (.invokestatic 81, 3)) (d2 : decode cc (pc + 3) = .ok (.putfield index, 3))
    (kk : ∀ (Z2 : pZ) (h2 : pH) (k9 n9 : Nat) (H1 : Heap) (locs1 : List Loc), zB Z2 = zB Z → Z2.1 = Z.1 → pGr Z Z2 → pSk Z2 → Iv Z2 h2 → agrD [] h h2 → k.toInt ≤ (zN Z2 (qA Z2 sk kf) : Int) ∧ zN Z (qA Z sk kf) ≤ zN Z2 (qA Z2 sk kf) → (∀ s' k', (s' = 129 ∨ s' = 132) → (k' = 0 ∨ k' = 1) → ¬ (s' = sk ∧ k' = kf) → zN Z2 (qA Z2 s' k') = zN Z (qA Z s' k')) → k9 ≤ pPh Z2 - pPh Z ∧ n9 ≤ 2 * (pPh Z2 - pPh Z) ∧ pPh Z ≤ pPh Z2 → (∀ x, x ∈ zL Z → h2 x = h x) → pV Z2 h2 H0 H1 locs1 → W p l e R s m args below meth c H1 locs1 (cells + k9) (slots + n9) Q (F0 m (pc + 3 + 3) ls rest)) :
    W p l e R s m args below meth c H locs cells slots Q (F0 m pc ls (.int k :: .ref (zB Z + qA Z sk kf) :: .ref (zB Z + sk) :: rest)) := by
  have hrow : pRow Z sk kf M0 := by
    rcases hsk with rfl | rfl <;> rcases hkf with ⟨rfl, rfl⟩ | ⟨rfl, rfl⟩
    · exact K.1
    · exact K.2.1
    · exact K.2.2.1
    · exact K.2.2.2
  have hM0 : M0 ≤ 160000 := by rcases hkf with ⟨-, e9⟩ | ⟨-, e9⟩ <;> omega
  have hs9 : pIs Z sk 9 := by rcases hsk with rfl | rfl; exact c_is_129 S; exact c_is_132 S
  have hkN : kf < 6 ∧ pRf 9 kf = true ∧ (TX9 kf).2.2.2 = false ∧ ∀ a : Nat, narrow (tyX9 kf) (.ref a) = .ref a ∧ fits (tyX9 kf) (.ref a) = true := by
    rcases hkf with ⟨rfl, -⟩ | ⟨rfl, -⟩ <;> exact ⟨by decide, by decide, rfl, fun a => ⟨rfl, rfl⟩⟩
  refine gk_r (pr_S M V (m_X9_withRoom l (qA Z sk kf) hrow.2.1 k hk.1 (Nat.le_trans hrow.2.2.2 hM0)) km_X9_withRoom hl1 rfl hsz rfl hcat hR hf d1) V (fun o1 Z1 h1 kc n H1 locs1 hp hB hG V1 => ?_)
  rcases hp with ⟨rfl, rfl, rfl, hle, rfl, rfl⟩ | ⟨N, ⟨hnew, rfl, f, rfl⟩, rfl, rfl, hlt, hN1, hN2, hN3⟩
  · refine pp_r M V1 9 kf hs9 pC9 ⟨hkN.1, hkN.2.1⟩ hkN.2.2.1 hl2 (hkN.2.2.2 _) d2 (fun H locs V => ?_)
    rw [pRe_self hrow.1] at V
    exact kk _ _ 0 0 H locs rfl rfl pGr.rf K I agrD.rf ⟨hle, Nat.le_refl _⟩ (fun _ _ _ _ _ => rfl) ⟨Nat.zero_le _, Nat.zero_le _, Nat.le_refl _⟩ (fun _ _ => rfl) V
  · have hgr := pAdd_gr (c := 13) (n := n) hnew
    refine pp_r (Z := pAdd Z o1 13 n) M V1 9 kf (hgr.is hs9) pC9 ⟨hkN.1, hkN.2.1⟩ hkN.2.2.1 hl2 (hkN.2.2.2 _) d2 (fun H locs V => ?_)
    obtain ⟨g1, g2, g3, g4, g5, g6⟩ := pSk.grow (N := n) (M0 := M0) S K hnew hsk hkf (by omega) _ rfl
    have h189 : 189 ≤ o1 := by
      by_cases h : o1 < 189
      · exact absurd (S.1 o1 h).1 hnew
      · omega
    have I2 : Iv (pRe (pAdd Z o1 13 n) sk kf (some (zB Z + o1))) (u1 (u1 h o1 (fun _ => 0)) o1 f) := by
      have I1 : Iv (pAdd Z o1 13 n) (u1 h o1 (fun _ => 0)) := I.add (fun k => by rw [(dFr_ge h189).2]; exact ⟨by decide, by decide⟩)
      exact (I1.up1 (f := f) pAdd_is (dFr_ge h189).2)
    have A2 : agrD [] h (u1 (u1 h o1 (fun _ => 0)) o1 f) := (agrD.rf.up1N (dFr_ge h189).1).up1N (dFr_ge h189).1
    have hph : pPh (pRe (pAdd Z o1 13 n) sk kf (some (zB Z + o1))) + zN Z (qA Z sk kf) = pPh Z + n := by
      generalize pRe (pAdd Z o1 13 n) sk kf (some (zB Z + o1)) = Z2 at g5 g6
      unfold pPh
      rcases hsk with rfl | rfl <;> rcases hkf with ⟨rfl, rfl⟩ | ⟨rfl, rfl⟩
      · rw [g5, g6 129 1 (by decide) (by decide) (by decide), g6 132 0 (by decide) (by decide) (by decide), g6 132 1 (by decide) (by decide) (by decide)]; omega
      · rw [g5, g6 129 0 (by decide) (by decide) (by decide), g6 132 0 (by decide) (by decide) (by decide), g6 132 1 (by decide) (by decide) (by decide)]; omega
      · rw [g5, g6 129 0 (by decide) (by decide) (by decide), g6 129 1 (by decide) (by decide) (by decide), g6 132 1 (by decide) (by decide) (by decide)]; omega
      · rw [g5, g6 129 0 (by decide) (by decide) (by decide), g6 129 1 (by decide) (by decide) (by decide), g6 132 0 (by decide) (by decide) (by decide)]; omega
    exact kk _ _ 1 n H locs g1 g2 g3 g4 I2 A2 ⟨by rw [g5]; exact hN1, by rw [g5]; omega⟩ g6 ⟨by omega, by omega, by omega⟩ (fun x hx => by have hxo : x ≠ o1 := fun e9 => hnew (e9 ▸ hx); rw [u1_ne hxo, u1_ne hxo]) V
def gmc (Z : pZ) : Nat := 560000 - pPh Z + 10
def gms (Z : pZ) : Nat := 2 * (560000 - pPh Z) + 200000
theorem g_r0 {Z : pZ} {fr lo k n : Nat} (hk : k ≤ 560000 - pPh Z + 10) (hn : n ≤ 2 * (560000 - pPh Z) + 200000) : k + 0 ≤ (pRm fr (gmc Z) (gms Z) lo).cells ∧ n + 0 ≤ (pRm fr (gmc Z) (gms Z) lo).slots := ⟨hk, hn⟩
theorem g_rk {Z : pZ} {fr lo k n a b : Nat} (hk : k + a ≤ 560000 - pPh Z + 10) (hn : n + b ≤ 2 * (560000 - pPh Z) + 200000) : k + a ≤ (pRm fr (gmc Z) (gms Z) lo).cells ∧ n + b ≤ (pRm fr (gmc Z) (gms Z) lo).slots := ⟨hk, hn⟩
theorem g_rg {Z Z1 : pZ} {fr lo k n : Nat} (hk : k ≤ pPh Z1 - pPh Z) (hn : n ≤ 2 * (pPh Z1 - pPh Z)) (h1 : pPh Z ≤ pPh Z1) (h2 : pPh Z1 ≤ 560000) : k + gmc Z1 ≤ (pRm fr (gmc Z) (gms Z) lo).cells ∧ n + gms Z1 ≤ (pRm fr (gmc Z) (gms Z) lo).slots := by
  show k + (560000 - pPh Z1 + 10) ≤ 560000 - pPh Z + 10 ∧ n + (2 * (560000 - pPh Z1) + 200000) ≤ 2 * (560000 - pPh Z) + 200000
  omega
theorem g_re {Z Z1 : pZ} {k n : Nat} (hk : k ≤ pPh Z1 - pPh Z) (hn : n ≤ 2 * (pPh Z1 - pPh Z)) (h2 : pPh Z1 ≤ 560000) : k ≤ gmc Z ∧ n ≤ gms Z := by
  show k ≤ 560000 - pPh Z + 10 ∧ n ≤ 2 * (560000 - pPh Z) + 200000
  omega
