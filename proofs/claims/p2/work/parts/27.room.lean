/-! Arrays.copyOf, Sketch.withRoom; a row of a sketch made longer -/
theorem dJ7_0 : decode cJ7_copyOf_59c91 0 = .ok (.iload_n 1, 1) := by decide +kernel
theorem dJ7_1 : decode cJ7_copyOf_59c91 1 = .ok (.aload_n 0, 1) := by decide +kernel
theorem dJ7_2 : decode cJ7_copyOf_59c91 2 = .ok (.arraylength, 1) := by decide +kernel
theorem dJ7_3 : decode cJ7_copyOf_59c91 3 = .ok (.if_icmp .ne 11, 3) := by decide +kernel
theorem dJ7_14 : decode cJ7_copyOf_59c91 14 = .ok (.iload_n 1, 1) := by decide +kernel
theorem dJ7_15 : decode cJ7_copyOf_59c91 15 = .ok (.newarray .int, 2) := by decide +kernel
theorem dJ7_17 : decode cJ7_copyOf_59c91 17 = .ok (.astore_n 2, 1) := by decide +kernel
theorem dJ7_18 : decode cJ7_copyOf_59c91 18 = .ok (.aload_n 0, 1) := by decide +kernel
theorem dJ7_19 : decode cJ7_copyOf_59c91 19 = .ok (.iconst 0, 1) := by decide +kernel
theorem dJ7_20 : decode cJ7_copyOf_59c91 20 = .ok (.aload_n 2, 1) := by decide +kernel
theorem dJ7_21 : decode cJ7_copyOf_59c91 21 = .ok (.iconst 0, 1) := by decide +kernel
theorem dJ7_22 : decode cJ7_copyOf_59c91 22 = .ok (.aload_n 0, 1) := by decide +kernel
theorem dJ7_23 : decode cJ7_copyOf_59c91 23 = .ok (.arraylength, 1) := by decide +kernel
theorem dJ7_24 : decode cJ7_copyOf_59c91 24 = .ok (.iload_n 1, 1) := by decide +kernel
theorem dJ7_25 : decode cJ7_copyOf_59c91 25 = .ok (.invokestatic 304, 3) := by decide +kernel
theorem dJ7_28 : decode cJ7_copyOf_59c91 28 = .ok (.invokestatic 150, 3) := by decide +kernel
theorem dJ7_31 : decode cJ7_copyOf_59c91 31 = .ok (.aload_n 2, 1) := by decide +kernel
theorem dJ7_32 : decode cJ7_copyOf_59c91 32 = .ok (.areturn, 1) := by decide +kernel
theorem lkJ_J7_304 : Cond.methodLink RJ7 304 Lib.Math.min.name ∈ pT := pT_4 160 (by decide +kernel) rfl
theorem lkJ_J7_150 : Cond.methodLink RJ7 150 arraycopyName ∈ pT := pT_4 161 (by decide +kernel) rfl
theorem kA_int : Cond.arrayClass (newarray.typeOf .int) ∈ pT := pT_1 60 (by decide +kernel) rfl
theorem km_J7_copyOf : pLS yJ7_copyOf_59c91 cJ7_copyOf_59c91 3 (some (.array .int)) 2 := ⟨pT_4 152 rfl rfl, pT_1 19 (by decide +kernel) rfl, ⟨by decide +kernel, by decide +kernel, by decide +kernel⟩, pT_4 151 (by decide +kernel) rfl⟩
theorem lkM_X9_91 : Cond.methodLink RX9 91 yJ7_copyOf_59c91 ∈ pT := pT_4 150 (by decide +kernel) rfl
/-- a longer copy: a new row -/
def pNew (Z : pZ) (h : pH) (N : Nat) (o1 : Nat) (Z1 : pZ) (h1 : pH) : Prop := o1 ∉ zL Z ∧ Z1 = pAdd Z o1 13 N ∧ ∃ f, h1 = u1 (u1 h o1 (fun _ => 0)) o1 f
set_option maxHeartbeats 4000000 in
set_option maxRecDepth 100000 in
theorem m_J7_copyOf (l : Launch) {Z : pZ} {h : pH} (o0 : Nat) (h0 : pIs Z o0 13) (k : Int32) (N : Nat) (hk : (zN Z o0 : Int) < k.toInt ∧ k.toInt = (N : Int) ∧ N ≤ 160000) : pMet l yJ7_copyOf_59c91 cJ7_copyOf_59c91 3 (some (.array .int)) 1 1 N 26 Z h [.ref (zB Z + o0), .int k] (gQr Z (fun o1 Z1 h1 kc n => pNew Z h N o1 Z1 h1 ∧ kc = 1 ∧ n = N)) := by
  refine pOfW (lv := [(0, .ref (zB Z + o0)), (1, .int k)]) (by decide) (Nat.le_of_ble_eq_true rfl) rfl ?_
  intro p e s m below meth c ls M hr hlk hnm V hl
  have hx := M.1.1
  have hb := M.1.2.1
  refine lv_iload_n hx hb dJ7_0 rfl (lv_at hl 1 rfl) ?_
  refine lv_aload_n hx hb dJ7_1 rfl (lv_at hl 0 rfl) ?_
  refine pa_len M V h0 dJ7_2 ?_
  refine lv_topi (fun v1 ev1 => ?_)
  have tv1 : v1.toInt = (zN Z o0 : Int) := by rw [ev1]; exact pi_len (by omega)
  refine lv_icmp_ne (tgt := 14) hx hb dJ7_3 (by decide) (fun c_3 => ?_) (fun c_3 => ?_)
  · refine lv_iload_n hx hb dJ7_14 rfl (lv_at hl 1 rfl) ?_
    have hkN : k.toNatClampNeg = N := by have := pi_cl (x := k) (by omega); omega
    refine pn_a M V (ci := 13) (N := N) (Or.inl ⟨rfl, rfl⟩) kA_int (by omega) hkN (by omega) ⟨Nat.le_of_eq (Nat.zero_add 1), Nat.le_of_eq (Nat.zero_add N)⟩ dJ7_15 (fun o1 H1 ho hz hnew V => ?_)
    have M2 : pM (pAdd Z o1 13 N).1 p s m [Value.ref (zB Z + o0), Value.int k].toArray c cJ7_copyOf_59c91 3 yJ7_copyOf_59c91.cls := M
    have hgr := pAdd_gr (c := 13) (n := N) hnew
    have h0' := hgr.is h0
    have hn0 : zN (pAdd Z o1 13 N) o0 = zN Z o0 := (hgr o0 h0.1).2.2.1
    have hn1 : zN (pAdd Z o1 13 N) o1 = N := pAdd_N
    have h1' : pIs (pAdd Z o1 13 N) o1 13 := pAdd_is
    refine lv_astore_n (lv' := [(2, .ref (zB Z + o1)), (0, .ref (zB Z + o0)), (1, .int k)]) hx hb dJ7_17 rfl hl (by decide) rfl (fun ls hl => ?_)
    refine lv_aload_n hx hb dJ7_18 rfl (lv_at hl 1 rfl) ?_
    refine lv_iconst (v := 0) hx hb dJ7_19 (by decide) ?_
    refine lv_aload_n hx hb dJ7_20 rfl (lv_at hl 0 rfl) ?_
    refine lv_iconst (v := 0) hx hb dJ7_21 (by decide) ?_
    refine lv_aload_n hx hb dJ7_22 rfl (lv_at hl 1 rfl) ?_
    refine pa_len (Z := pAdd Z o1 13 N) M2 V h0' dJ7_23 ?_
    refine lv_topi (fun v2 ev2 => ?_)
    have tv2 : v2.toInt = (zN Z o0 : Int) := by rw [ev2, hn0]; exact pi_len (by omega)
    refine lv_iload_n hx hb dJ7_24 rfl (lv_at hl 2 rfl) ?_
    refine pm_min (Z := Z) M hl.1 lkJ_J7_304 ⟨Nat.le_of_ble_eq_true rfl, Nat.le_of_ble_eq_true rfl⟩ ⟨Nat.le_of_eq (Nat.zero_add 1), Nat.le_of_eq (Nat.zero_add N)⟩ dJ7_25 (fun r1 fr1 => ?_)
    have z0 : (0 : Int32).toInt = 0 := rfl
    refine pa_copy (Z := pAdd Z o1 13 N) M2 V h0' h1' hl.1 lkJ_J7_150 kM_copy (by rw [hn0, hn1]; omega) ⟨Nat.le_of_ble_eq_true rfl, Nat.le_of_ble_eq_true rfl⟩ dJ7_28 (fun H locs f V => ?_)
    refine lv_aload_n hx hb dJ7_31 rfl (lv_at hl 0 rfl) ?_
    exact ge_r (Z' := pAdd Z o1 13 N) M2 V rfl rfl hr (Or.inr ⟨_, rfl⟩) hlk ⟨⟨hnew, rfl, f, rfl⟩, Nat.zero_add 1, Nat.zero_add N⟩ ⟨Nat.le_of_eq (Nat.zero_add 1), Nat.le_of_eq (Nat.zero_add N)⟩ dJ7_32
  · exfalso
    refine c_3 (fun e9 => ?_)
    rw [e9] at hk
    omega
