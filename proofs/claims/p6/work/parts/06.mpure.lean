/-! a field's number by a name that is known -/
theorem pg_iv {p : Program} {l : Launch} {e : Env} {R : Room} {s : State} {m : MethodId} {args : Array Value} {below : List Frame} {meth : Method} {c : Code} {H : Heap} {locs : List Loc} {cells slots : Nat} {Q : State → Prop} {cc : ByteArray} {nL pc : Nat} {own : String} {ls : Array Slot} {rest : List Value} {Z : pZ} {h : pH} {H0 : Heap} {C : String} {T : u_T} {N : Nat} {ty : Nat → FieldType} {index o : Nat} (M : pM Z.1 p s m args c cc nL own) (V : pV Z h H0 H locs) (ci k : Nat) {v : Int32} (ho : pIs Z o ci) (hC : pCl ci C T N ty) (hk : k < N ∧ pRf ci k = false) (hv : h o k = v) (hlink : Cond.fieldLink own index (T k).1 (T k).2.1 (T k).2.2.1 ∈ pT) (hdg : decode cc pc = .ok (.getfield index, 3))
    (kk : W p l e R s m args below meth c H locs cells slots Q (F0 m (pc + 3) ls (.int v :: rest))) : W p l e R s m args below meth c H locs cells slots Q (F0 m pc ls (.ref (zB Z + o) :: rest)) := pg_i M V ci k ho hC hk hlink hdg (by rw [hv]; exact kk)
theorem u2_at {h : pH} {o k : Nat} {v : Int32} : u2 h o k v o k = v := by rw [u2_eq]; exact if_pos rfl
theorem pa_iv {p : Program} {l : Launch} {e : Env} {R : Room} {s : State} {m : MethodId} {args : Array Value} {below : List Frame} {meth : Method} {c : Code} {H : Heap} {locs : List Loc} {cells slots : Nat} {Q : State → Prop} {cc : ByteArray} {nL pc : Nat} {own : String} {ls : Array Slot} {rest : List Value} {Z : pZ} {h : pH} {H0 : Heap} {o : Nat} (M : pM Z.1 p s m args c cc nL own) (V : pV Z h H0 H locs) {i v : Int32} (ho : pIs Z o 13) (hin : vp_in i (zN Z o)) (hv : h o i.toNatClampNeg = v) (hdg : decode cc pc = .ok (.iaload, 1))
    (kk : W p l e R s m args below meth c H locs cells slots Q (F0 m (pc + 1) ls (.int v :: rest))) : W p l e R s m args below meth c H locs cells slots Q (F0 m pc ls (.int i :: .ref (zB Z + o) :: rest)) := pa_i M V ho hin hdg (by rw [hv]; exact kk)
theorem pa_zv {p : Program} {l : Launch} {e : Env} {R : Room} {s : State} {m : MethodId} {args : Array Value} {below : List Frame} {meth : Method} {c : Code} {H : Heap} {locs : List Loc} {cells slots : Nat} {Q : State → Prop} {cc : ByteArray} {nL pc : Nat} {own : String} {ls : Array Slot} {rest : List Value} {Z : pZ} {h : pH} {H0 : Heap} {o : Nat} (M : pM Z.1 p s m args c cc nL own) (V : pV Z h H0 H locs) {i v : Int32} (ho : pIs Z o 14) (hin : vp_in i (zN Z o)) (hv : h o i.toNatClampNeg = v) (hdg : decode cc pc = .ok (.baload, 1))
    (kk : W p l e R s m args below meth c H locs cells slots Q (F0 m (pc + 1) ls (.int v :: rest))) : W p l e R s m args below meth c H locs cells slots Q (F0 m pc ls (.int i :: .ref (zB Z + o) :: rest)) := pa_z M V ho hin hdg (by rw [hv]; exact kk)

theorem dX12_min_0 : decode cX12_min 0 = .ok (.iload_n 0, 1) := by decide +kernel
theorem dX12_min_1 : decode cX12_min 1 = .ok (.iload_n 1, 1) := by decide +kernel
theorem dX12_min_2 : decode cX12_min 2 = .ok (.if_icmp .ge 7, 3) := by decide +kernel
theorem dX12_min_5 : decode cX12_min 5 = .ok (.iload_n 0, 1) := by decide +kernel
theorem dX12_min_6 : decode cX12_min 6 = .ok (.goto 4, 3) := by decide +kernel
theorem dX12_min_9 : decode cX12_min 9 = .ok (.iload_n 1, 1) := by decide +kernel
theorem dX12_min_10 : decode cX12_min 10 = .ok (.ireturn, 1) := by decide +kernel
set_option maxHeartbeats 4000000 in
set_option maxRecDepth 100000 in
theorem m_X12_min (l : Launch) {Z : pZ} {h : pH} (a : Int32) (b : Int32)  : pMet l yX12_min cX12_min 2 (some .int) 0 0 0 0 Z h [.int a, .int b] (pQi Z (fun r Z1 h1 => Z = Z1 ∧ h = h1 ∧ r.toInt ≤ a.toInt ∧ r.toInt ≤ b.toInt ∧ (r.toInt = a.toInt ∨ r.toInt = b.toInt))) := by
  refine pOfW (lv := [(0, .int a), (1, .int b)]) (by decide) (Nat.le_of_ble_eq_true rfl) rfl ?_
  intro p e s m below meth c ls M hr hlk hnm V hl
  have hx := M.1.1
  have hb := M.1.2.1
  refine lv_iload_n hx hb dX12_min_0 rfl (lv_at hl 0 rfl) ?_
  refine lv_iload_n hx hb dX12_min_1 rfl (lv_at hl 1 rfl) ?_
  refine lv_icmp_ge (tgt := 9) hx hb dX12_min_2 (by decide) (fun c_2 => ?_) (fun c_2 => ?_)
  · skip
    have c_2 := pi_le.mp c_2
    refine lv_iload_n hx hb dX12_min_9 rfl (lv_at hl 1 rfl) ?_
    exact pe_i M V rfl rfl hr hlk rfl ⟨rfl, rfl, by omega, by omega, by omega⟩ ⟨Nat.le_refl _, Nat.le_refl _⟩ dX12_min_10
  · skip
    have c_2 := pi_le' c_2
    refine lv_iload_n hx hb dX12_min_5 rfl (lv_at hl 0 rfl) ?_
    refine lv_goto (tgt := 10) hx hb dX12_min_6 (by decide) ?_
    exact pe_i M V rfl rfl hr hlk rfl ⟨rfl, rfl, by omega, by omega, by omega⟩ ⟨Nat.le_refl _, Nat.le_refl _⟩ dX12_min_10
theorem dX12_max_0 : decode cX12_max 0 = .ok (.iload_n 0, 1) := by decide +kernel
theorem dX12_max_1 : decode cX12_max 1 = .ok (.iload_n 1, 1) := by decide +kernel
theorem dX12_max_2 : decode cX12_max 2 = .ok (.if_icmp .le 7, 3) := by decide +kernel
theorem dX12_max_5 : decode cX12_max 5 = .ok (.iload_n 0, 1) := by decide +kernel
theorem dX12_max_6 : decode cX12_max 6 = .ok (.goto 4, 3) := by decide +kernel
theorem dX12_max_9 : decode cX12_max 9 = .ok (.iload_n 1, 1) := by decide +kernel
theorem dX12_max_10 : decode cX12_max 10 = .ok (.ireturn, 1) := by decide +kernel
set_option maxHeartbeats 4000000 in
set_option maxRecDepth 100000 in
theorem m_X12_max (l : Launch) {Z : pZ} {h : pH} (a : Int32) (b : Int32)  : pMet l yX12_max cX12_max 2 (some .int) 0 0 0 0 Z h [.int a, .int b] (pQi Z (fun r Z1 h1 => Z = Z1 ∧ h = h1 ∧ a.toInt ≤ r.toInt ∧ b.toInt ≤ r.toInt ∧ (r.toInt = a.toInt ∨ r.toInt = b.toInt))) := by
  refine pOfW (lv := [(0, .int a), (1, .int b)]) (by decide) (Nat.le_of_ble_eq_true rfl) rfl ?_
  intro p e s m below meth c ls M hr hlk hnm V hl
  have hx := M.1.1
  have hb := M.1.2.1
  refine lv_iload_n hx hb dX12_max_0 rfl (lv_at hl 0 rfl) ?_
  refine lv_iload_n hx hb dX12_max_1 rfl (lv_at hl 1 rfl) ?_
  refine lv_icmp_le (tgt := 9) hx hb dX12_max_2 (by decide) (fun c_2 => ?_) (fun c_2 => ?_)
  · skip
    have c_2 := pi_le.mp c_2
    refine lv_iload_n hx hb dX12_max_9 rfl (lv_at hl 1 rfl) ?_
    exact pe_i M V rfl rfl hr hlk rfl ⟨rfl, rfl, by omega, by omega, by omega⟩ ⟨Nat.le_refl _, Nat.le_refl _⟩ dX12_max_10
  · skip
    have c_2 := pi_le' c_2
    refine lv_iload_n hx hb dX12_max_5 rfl (lv_at hl 0 rfl) ?_
    refine lv_goto (tgt := 10) hx hb dX12_max_6 (by decide) ?_
    exact pe_i M V rfl rfl hr hlk rfl ⟨rfl, rfl, by omega, by omega, by omega⟩ ⟨Nat.le_refl _, Nat.le_refl _⟩ dX12_max_10
theorem dX12_between_0 : decode cX12_between 0 = .ok (.iload_n 1, 1) := by decide +kernel
theorem dX12_between_1 : decode cX12_between 1 = .ok (.iload_n 0, 1) := by decide +kernel
theorem dX12_between_2 : decode cX12_between 2 = .ok (.iload_n 2, 1) := by decide +kernel
theorem dX12_between_3 : decode cX12_between 3 = .ok (.invokestatic 178, 3) := by decide +kernel
theorem dX12_between_6 : decode cX12_between 6 = .ok (.invokestatic 182, 3) := by decide +kernel
theorem dX12_between_9 : decode cX12_between 9 = .ok (.ireturn, 1) := by decide +kernel
set_option maxHeartbeats 4000000 in
set_option maxRecDepth 100000 in
theorem m_X12_between (l : Launch) {Z : pZ} {h : pH} (v : Int32) (lo : Int32) (hi : Int32)  : pMet l yX12_between cX12_between 3 (some .int) 1 0 0 21 Z h [.int v, .int lo, .int hi] (pQi Z (fun r Z1 h1 => Z = Z1 ∧ h = h1 ∧ lo.toInt ≤ r.toInt ∧ (lo.toInt ≤ hi.toInt → r.toInt ≤ hi.toInt))) := by
  refine pOfW (lv := [(0, .int v), (1, .int lo), (2, .int hi)]) (by decide) (Nat.le_of_ble_eq_true rfl) rfl ?_
  intro p e s m below meth c ls M hr hlk hnm V hl
  have hx := M.1.1
  have hb := M.1.2.1
  refine lv_iload_n hx hb dX12_between_0 rfl (lv_at hl 1 rfl) ?_
  refine lv_iload_n hx hb dX12_between_1 rfl (lv_at hl 0 rfl) ?_
  refine lv_iload_n hx hb dX12_between_2 rfl (lv_at hl 2 rfl) ?_
  refine pk_i (pr_S M V (m_X12_min l (Z := Z) (h := _) v hi) km_X12_min lkM_X12_178 rfl hl.1 rfl (Nat.le_of_ble_eq_true rfl) ⟨Nat.le_of_ble_eq_true rfl, Nat.le_of_ble_eq_true rfl⟩ ⟨Nat.le_of_ble_eq_true rfl, Nat.le_of_ble_eq_true rfl⟩ dX12_between_3) V (fun r1 Zr1 hr1 H locs pr1 _ _ V => ?_)
  obtain ⟨rfl, rfl, fr1_0, fr1_1, fr1_2⟩ := pr1
  refine pk_i (pr_S M V (m_X12_max l (Z := Z) (h := _) lo r1) km_X12_max lkM_X12_182 rfl hl.1 rfl (Nat.le_of_ble_eq_true rfl) ⟨Nat.le_of_ble_eq_true rfl, Nat.le_of_ble_eq_true rfl⟩ ⟨Nat.le_of_ble_eq_true rfl, Nat.le_of_ble_eq_true rfl⟩ dX12_between_6) V (fun r2 Zr2 hr2 H locs pr2 _ _ V => ?_)
  obtain ⟨rfl, rfl, fr2_0, fr2_1, fr2_2⟩ := pr2
  exact pe_i M V rfl rfl hr hlk rfl ⟨rfl, rfl, by omega, by omega⟩ ⟨Nat.le_refl _, Nat.le_refl _⟩ dX12_between_9
theorem dX12_isLabel_0 : decode cX12_isLabel 0 = .ok (.iload_n 1, 1) := by decide +kernel
theorem dX12_isLabel_1 : decode cX12_isLabel 1 = .ok (.ifCond .lt 14, 3) := by decide +kernel
theorem dX12_isLabel_4 : decode cX12_isLabel 4 = .ok (.iload_n 1, 1) := by decide +kernel
theorem dX12_isLabel_5 : decode cX12_isLabel 5 = .ok (.sipush 1000, 3) := by decide +kernel
theorem dX12_isLabel_8 : decode cX12_isLabel 8 = .ok (.if_icmp .ge 7, 3) := by decide +kernel
theorem dX12_isLabel_11 : decode cX12_isLabel 11 = .ok (.iconst 1, 1) := by decide +kernel
theorem dX12_isLabel_12 : decode cX12_isLabel 12 = .ok (.goto 4, 3) := by decide +kernel
theorem dX12_isLabel_15 : decode cX12_isLabel 15 = .ok (.iconst 0, 1) := by decide +kernel
theorem dX12_isLabel_16 : decode cX12_isLabel 16 = .ok (.ireturn, 1) := by decide +kernel
set_option maxHeartbeats 4000000 in
set_option maxRecDepth 100000 in
theorem m_X12_isLabel (l : Launch) {Z : pZ} (S : pSh Z) {h : pH} (I : Iv Z h) (a : Int32)  : pMet l yX12_isLabel cX12_isLabel 2 (some .boolean) 0 0 0 0 Z h [.ref (zB Z + 137), .int a] (pQi Z (fun r Z1 h1 => Z = Z1 ∧ h = h1 ∧ ((r.toInt = 1 ∧ 0 ≤ a.toInt ∧ a.toInt < 1000) ∨ (r.toInt = 0 ∧ (a.toInt < 0 ∨ 1000 ≤ a.toInt))))) := by
  refine pOfW (lv := [(0, .ref (zB Z + 137)), (1, .int a)]) (by decide) (Nat.le_of_ble_eq_true rfl) rfl ?_
  intro p e s m below meth c ls M hr hlk hnm V hl
  have hx := M.1.1
  have hb := M.1.2.1
  refine lv_iload_n hx hb dX12_isLabel_0 rfl (lv_at hl 1 rfl) ?_
  refine lv_if_lt (tgt := 15) hx hb dX12_isLabel_1 (by decide) (fun c_1 => ?_) (fun c_1 => ?_)
  · skip
    have k_0 : (0 : Int32).toInt = 0 := rfl
    have c_1 := pi_lt.mp c_1
    refine lv_iconst (v := 0) hx hb dX12_isLabel_15 (by decide) ?_
    exact pe_i M V rfl rfl hr hlk (pn_z (pi_z (by omega))).1 ⟨rfl, rfl, by omega⟩ ⟨Nat.le_refl _, Nat.le_refl _⟩ dX12_isLabel_16
  · skip
    have k_0 : (0 : Int32).toInt = 0 := rfl
    have c_1 := pi_lt' c_1
    refine lv_iload_n hx hb dX12_isLabel_4 rfl (lv_at hl 1 rfl) ?_
    refine lv_sipush (v := 1000) hx hb dX12_isLabel_5 (by decide) ?_
    refine lv_icmp_ge (tgt := 15) hx hb dX12_isLabel_8 (by decide) (fun c_8 => ?_) (fun c_8 => ?_)
    · skip
      have k_1000 : (1000 : Int32).toInt = 1000 := rfl
      have c_8 := pi_le.mp c_8
      refine lv_iconst (v := 0) hx hb dX12_isLabel_15 (by decide) ?_
      exact pe_i M V rfl rfl hr hlk (pn_z (pi_z (by omega))).1 ⟨rfl, rfl, by omega⟩ ⟨Nat.le_refl _, Nat.le_refl _⟩ dX12_isLabel_16
    · skip
      have k_1000 : (1000 : Int32).toInt = 1000 := rfl
      have c_8 := pi_le' c_8
      refine lv_iconst (v := 1) hx hb dX12_isLabel_11 (by decide) ?_
      refine lv_goto (tgt := 16) hx hb dX12_isLabel_12 (by decide) ?_
      have k_1 : (1 : Int32).toInt = 1 := rfl
      exact pe_i M V rfl rfl hr hlk (pn_z (pi_z (by omega))).1 ⟨rfl, rfl, by omega⟩ ⟨Nat.le_refl _, Nat.le_refl _⟩ dX12_isLabel_16
theorem dX12_isIn_0 : decode cX12_isIn 0 = .ok (.iload_n 1, 1) := by decide +kernel
theorem dX12_isIn_1 : decode cX12_isIn 1 = .ok (.iload_n 3, 1) := by decide +kernel
theorem dX12_isIn_2 : decode cX12_isIn 2 = .ok (.if_icmp .lt 25, 3) := by decide +kernel
theorem dX12_isIn_5 : decode cX12_isIn 5 = .ok (.iload_n 1, 1) := by decide +kernel
theorem dX12_isIn_6 : decode cX12_isIn 6 = .ok (.iload 5, 2) := by decide +kernel
theorem dX12_isIn_8 : decode cX12_isIn 8 = .ok (.if_icmp .ge 19, 3) := by decide +kernel
theorem dX12_isIn_11 : decode cX12_isIn 11 = .ok (.iload_n 2, 1) := by decide +kernel
theorem dX12_isIn_12 : decode cX12_isIn 12 = .ok (.iload 4, 2) := by decide +kernel
theorem dX12_isIn_14 : decode cX12_isIn 14 = .ok (.if_icmp .lt 13, 3) := by decide +kernel
theorem dX12_isIn_17 : decode cX12_isIn 17 = .ok (.iload_n 2, 1) := by decide +kernel
theorem dX12_isIn_18 : decode cX12_isIn 18 = .ok (.iload 6, 2) := by decide +kernel
theorem dX12_isIn_20 : decode cX12_isIn 20 = .ok (.if_icmp .ge 7, 3) := by decide +kernel
theorem dX12_isIn_23 : decode cX12_isIn 23 = .ok (.iconst 1, 1) := by decide +kernel
theorem dX12_isIn_24 : decode cX12_isIn 24 = .ok (.goto 4, 3) := by decide +kernel
theorem dX12_isIn_27 : decode cX12_isIn 27 = .ok (.iconst 0, 1) := by decide +kernel
theorem dX12_isIn_28 : decode cX12_isIn 28 = .ok (.ireturn, 1) := by decide +kernel
set_option maxHeartbeats 4000000 in
set_option maxRecDepth 100000 in
theorem m_X12_isIn (l : Launch) {Z : pZ} (S : pSh Z) {h : pH} (I : Iv Z h) (px : Int32) (py : Int32) (left : Int32) (top : Int32) (right : Int32) (bottom : Int32)  : pMet l yX12_isIn cX12_isIn 7 (some .boolean) 0 0 0 0 Z h [.ref (zB Z + 137), .int px, .int py, .int left, .int top, .int right, .int bottom] (pQi Z (fun r Z1 h1 => Z = Z1 ∧ h = h1 ∧ (r.toInt = 0 ∨ r.toInt = 1))) := by
  refine pOfW (lv := [(0, .ref (zB Z + 137)), (1, .int px), (2, .int py), (3, .int left), (4, .int top), (5, .int right), (6, .int bottom)]) (by decide) (Nat.le_of_ble_eq_true rfl) rfl ?_
  intro p e s m below meth c ls M hr hlk hnm V hl
  have hx := M.1.1
  have hb := M.1.2.1
  refine lv_iload_n hx hb dX12_isIn_0 rfl (lv_at hl 1 rfl) ?_
  refine lv_iload_n hx hb dX12_isIn_1 rfl (lv_at hl 3 rfl) ?_
  refine lv_icmp_lt (tgt := 27) hx hb dX12_isIn_2 (by decide) (fun c_2 => ?_) (fun c_2 => ?_)
  · skip
    have c_2 := pi_lt.mp c_2
    refine lv_iconst (v := 0) hx hb dX12_isIn_27 (by decide) ?_
    have k_0 : (0 : Int32).toInt = 0 := rfl
    exact pe_i M V rfl rfl hr hlk (pn_z (pi_z (by omega))).1 ⟨rfl, rfl, by omega⟩ ⟨Nat.le_refl _, Nat.le_refl _⟩ dX12_isIn_28
  · skip
    have c_2 := pi_lt' c_2
    refine lv_iload_n hx hb dX12_isIn_5 rfl (lv_at hl 1 rfl) ?_
    refine lv_iload hx hb dX12_isIn_6 (lv_at hl 5 rfl) ?_
    refine lv_icmp_ge (tgt := 27) hx hb dX12_isIn_8 (by decide) (fun c_8 => ?_) (fun c_8 => ?_)
    · skip
      have c_8 := pi_le.mp c_8
      refine lv_iconst (v := 0) hx hb dX12_isIn_27 (by decide) ?_
      have k_0 : (0 : Int32).toInt = 0 := rfl
      exact pe_i M V rfl rfl hr hlk (pn_z (pi_z (by omega))).1 ⟨rfl, rfl, by omega⟩ ⟨Nat.le_refl _, Nat.le_refl _⟩ dX12_isIn_28
    · skip
      have c_8 := pi_le' c_8
      refine lv_iload_n hx hb dX12_isIn_11 rfl (lv_at hl 2 rfl) ?_
      refine lv_iload hx hb dX12_isIn_12 (lv_at hl 4 rfl) ?_
      refine lv_icmp_lt (tgt := 27) hx hb dX12_isIn_14 (by decide) (fun c_14 => ?_) (fun c_14 => ?_)
      · skip
        have c_14 := pi_lt.mp c_14
        refine lv_iconst (v := 0) hx hb dX12_isIn_27 (by decide) ?_
        have k_0 : (0 : Int32).toInt = 0 := rfl
        exact pe_i M V rfl rfl hr hlk (pn_z (pi_z (by omega))).1 ⟨rfl, rfl, by omega⟩ ⟨Nat.le_refl _, Nat.le_refl _⟩ dX12_isIn_28
      · skip
        have c_14 := pi_lt' c_14
        refine lv_iload_n hx hb dX12_isIn_17 rfl (lv_at hl 2 rfl) ?_
        refine lv_iload hx hb dX12_isIn_18 (lv_at hl 6 rfl) ?_
        refine lv_icmp_ge (tgt := 27) hx hb dX12_isIn_20 (by decide) (fun c_20 => ?_) (fun c_20 => ?_)
        · skip
          have c_20 := pi_le.mp c_20
          refine lv_iconst (v := 0) hx hb dX12_isIn_27 (by decide) ?_
          have k_0 : (0 : Int32).toInt = 0 := rfl
          exact pe_i M V rfl rfl hr hlk (pn_z (pi_z (by omega))).1 ⟨rfl, rfl, by omega⟩ ⟨Nat.le_refl _, Nat.le_refl _⟩ dX12_isIn_28
        · skip
          have c_20 := pi_le' c_20
          refine lv_iconst (v := 1) hx hb dX12_isIn_23 (by decide) ?_
          refine lv_goto (tgt := 28) hx hb dX12_isIn_24 (by decide) ?_
          have k_1 : (1 : Int32).toInt = 1 := rfl
          exact pe_i M V rfl rfl hr hlk (pn_z (pi_z (by omega))).1 ⟨rfl, rfl, by omega⟩ ⟨Nat.le_refl _, Nat.le_refl _⟩ dX12_isIn_28
theorem dX12_height_0 : decode cX12_height 0 = .ok (.aload_n 0, 1) := by decide +kernel
theorem dX12_height_1 : decode cX12_height 1 = .ok (.getfield 57, 3) := by decide +kernel
theorem dX12_height_4 : decode cX12_height 4 = .ok (.iload_n 1, 1) := by decide +kernel
theorem dX12_height_5 : decode cX12_height 5 = .ok (.baload, 1) := by decide +kernel
theorem dX12_height_6 : decode cX12_height 6 = .ok (.ifCond .eq 8, 3) := by decide +kernel
theorem dX12_height_9 : decode cX12_height 9 = .ok (.bipush 12, 2) := by decide +kernel
theorem dX12_height_11 : decode cX12_height 11 = .ok (.goto 9, 3) := by decide +kernel
theorem dX12_height_14 : decode cX12_height 14 = .ok (.aload_n 0, 1) := by decide +kernel
theorem dX12_height_15 : decode cX12_height 15 = .ok (.getfield 45, 3) := by decide +kernel
theorem dX12_height_18 : decode cX12_height 18 = .ok (.iload_n 1, 1) := by decide +kernel
theorem dX12_height_19 : decode cX12_height 19 = .ok (.iaload, 1) := by decide +kernel
theorem dX12_height_20 : decode cX12_height 20 = .ok (.ireturn, 1) := by decide +kernel
set_option maxHeartbeats 4000000 in
set_option maxRecDepth 100000 in
theorem m_X12_height (l : Launch) {Z : pZ} (S : pSh Z) {h : pH} (I : Iv Z h) (w : Int32) (hw : 0 ≤ w.toInt ∧ w.toInt ≤ 8) : pMet l yX12_height cX12_height 2 (some .int) 0 0 0 0 Z h [.ref (zB Z + 137), .int w] (pQi Z (fun r Z1 h1 => Z = Z1 ∧ h = h1)) := by
  refine pOfW (lv := [(0, .ref (zB Z + 137)), (1, .int w)]) (by decide) (Nat.le_of_ble_eq_true rfl) rfl ?_
  intro p e s m below meth c ls M hr hlk hnm V hl
  have hx := M.1.1
  have hb := M.1.2.1
  refine lv_aload_n hx hb dX12_height_0 rfl (lv_at hl 0 rfl) ?_
  refine pg_r M V 12 36 (sm_this S) pC12 fk12_36 (sm_collapsed S).2.2 lkF_X12_57 dX12_height_1 ?_
  refine lv_iload_n hx hb dX12_height_4 rfl (lv_at hl 1 rfl) ?_
  refine pa_z M V (sm_collapsed S).1 (by rw [(sm_collapsed S).2.1]; exact pi_in (by omega)) dX12_height_5 ?_
  refine lv_topi (fun v1 ev1 => ?_)
  have tv1 : 0 ≤ v1.toInt ∧ v1.toInt ≤ 1 := by rw [ev1]; exact I.get (sm_collapsed S).1 _
  refine lv_if_eq (tgt := 14) hx hb dX12_height_6 (by decide) (fun c_6 => ?_) (fun c_6 => ?_)
  · skip
    have k_0 : (0 : Int32).toInt = 0 := rfl
    have c_6 := pi_eq.mp c_6
    refine lv_aload_n hx hb dX12_height_14 rfl (lv_at hl 0 rfl) ?_
    refine pg_r M V 12 32 (sm_this S) pC12 fk12_32 (sm_high S).2.2 lkF_X12_45 dX12_height_15 ?_
    refine lv_iload_n hx hb dX12_height_18 rfl (lv_at hl 1 rfl) ?_
    refine pa_i M V (sm_high S).1 (by rw [(sm_high S).2.1]; exact pi_in (by omega)) dX12_height_19 ?_
    refine lv_topi (fun v2 ev2 => ?_)
    exact pe_i M V rfl rfl hr hlk rfl ⟨rfl, rfl⟩ ⟨Nat.le_refl _, Nat.le_refl _⟩ dX12_height_20
  · skip
    have k_0 : (0 : Int32).toInt = 0 := rfl
    have c_6 := pi_ne c_6
    refine lv_bipush (v := 12) hx hb dX12_height_9 (by decide) ?_
    refine lv_goto (tgt := 20) hx hb dX12_height_11 (by decide) ?_
    have k_12 : (12 : Int32).toInt = 12 := rfl
    exact pe_i M V rfl rfl hr hlk rfl ⟨rfl, rfl⟩ ⟨Nat.le_refl _, Nat.le_refl _⟩ dX12_height_20
theorem dX12_hasMouse_0 : decode cX12_hasMouse 0 = .ok (.aload_n 0, 1) := by decide +kernel
theorem dX12_hasMouse_1 : decode cX12_hasMouse 1 = .ok (.aload_n 0, 1) := by decide +kernel
theorem dX12_hasMouse_2 : decode cX12_hasMouse 2 = .ok (.getfield 192, 3) := by decide +kernel
theorem dX12_hasMouse_5 : decode cX12_hasMouse 5 = .ok (.aload_n 0, 1) := by decide +kernel
theorem dX12_hasMouse_6 : decode cX12_hasMouse 6 = .ok (.getfield 195, 3) := by decide +kernel
theorem dX12_hasMouse_9 : decode cX12_hasMouse 9 = .ok (.aload_n 0, 1) := by decide +kernel
theorem dX12_hasMouse_10 : decode cX12_hasMouse 10 = .ok (.getfield 36, 3) := by decide +kernel
theorem dX12_hasMouse_13 : decode cX12_hasMouse 13 = .ok (.iload_n 1, 1) := by decide +kernel
theorem dX12_hasMouse_14 : decode cX12_hasMouse 14 = .ok (.iaload, 1) := by decide +kernel
theorem dX12_hasMouse_15 : decode cX12_hasMouse 15 = .ok (.aload_n 0, 1) := by decide +kernel
theorem dX12_hasMouse_16 : decode cX12_hasMouse 16 = .ok (.getfield 39, 3) := by decide +kernel
theorem dX12_hasMouse_19 : decode cX12_hasMouse 19 = .ok (.iload_n 1, 1) := by decide +kernel
theorem dX12_hasMouse_20 : decode cX12_hasMouse 20 = .ok (.iaload, 1) := by decide +kernel
theorem dX12_hasMouse_21 : decode cX12_hasMouse 21 = .ok (.aload_n 0, 1) := by decide +kernel
theorem dX12_hasMouse_22 : decode cX12_hasMouse 22 = .ok (.getfield 36, 3) := by decide +kernel
theorem dX12_hasMouse_25 : decode cX12_hasMouse 25 = .ok (.iload_n 1, 1) := by decide +kernel
theorem dX12_hasMouse_26 : decode cX12_hasMouse 26 = .ok (.iaload, 1) := by decide +kernel
theorem dX12_hasMouse_27 : decode cX12_hasMouse 27 = .ok (.aload_n 0, 1) := by decide +kernel
theorem dX12_hasMouse_28 : decode cX12_hasMouse 28 = .ok (.getfield 42, 3) := by decide +kernel
theorem dX12_hasMouse_31 : decode cX12_hasMouse 31 = .ok (.iload_n 1, 1) := by decide +kernel
theorem dX12_hasMouse_32 : decode cX12_hasMouse 32 = .ok (.iaload, 1) := by decide +kernel
theorem dX12_hasMouse_33 : decode cX12_hasMouse 33 = .ok (.iadd, 1) := by decide +kernel
theorem dX12_hasMouse_34 : decode cX12_hasMouse 34 = .ok (.aload_n 0, 1) := by decide +kernel
theorem dX12_hasMouse_35 : decode cX12_hasMouse 35 = .ok (.getfield 39, 3) := by decide +kernel
theorem dX12_hasMouse_38 : decode cX12_hasMouse 38 = .ok (.iload_n 1, 1) := by decide +kernel
theorem dX12_hasMouse_39 : decode cX12_hasMouse 39 = .ok (.iaload, 1) := by decide +kernel
theorem dX12_hasMouse_40 : decode cX12_hasMouse 40 = .ok (.aload_n 0, 1) := by decide +kernel
theorem dX12_hasMouse_41 : decode cX12_hasMouse 41 = .ok (.iload_n 1, 1) := by decide +kernel
theorem dX12_hasMouse_42 : decode cX12_hasMouse 42 = .ok (.invokevirtual 224, 3) := by decide +kernel
theorem dX12_hasMouse_45 : decode cX12_hasMouse 45 = .ok (.iadd, 1) := by decide +kernel
theorem dX12_hasMouse_46 : decode cX12_hasMouse 46 = .ok (.invokevirtual 228, 3) := by decide +kernel
theorem dX12_hasMouse_49 : decode cX12_hasMouse 49 = .ok (.ireturn, 1) := by decide +kernel
set_option maxHeartbeats 4000000 in
set_option maxRecDepth 100000 in
theorem m_X12_hasMouse (l : Launch) {Z : pZ} (S : pSh Z) {h : pH} (I : Iv Z h) (w : Int32) (hw : 0 ≤ w.toInt ∧ w.toInt ≤ 8) : pMet l yX12_hasMouse cX12_hasMouse 2 (some .boolean) 1 0 0 26 Z h [.ref (zB Z + 137), .int w] (pQi Z (fun r Z1 h1 => Z = Z1 ∧ h = h1 ∧ (r.toInt = 0 ∨ r.toInt = 1))) := by
  refine pOfW (lv := [(0, .ref (zB Z + 137)), (1, .int w)]) (by decide) (Nat.le_of_ble_eq_true rfl) rfl ?_
  intro p e s m below meth c ls M hr hlk hnm V hl
  have hx := M.1.1
  have hb := M.1.2.1
  refine lv_aload_n hx hb dX12_hasMouse_0 rfl (lv_at hl 0 rfl) ?_
  refine lv_aload_n hx hb dX12_hasMouse_1 rfl (lv_at hl 0 rfl) ?_
  refine pg_i M V 12 3 (sm_this S) pC12 fk12_3 lkF_X12_192 dX12_hasMouse_2 ?_
  refine lv_topi (fun v1 ev1 => ?_)
  refine lv_aload_n hx hb dX12_hasMouse_5 rfl (lv_at hl 0 rfl) ?_
  refine pg_i M V 12 4 (sm_this S) pC12 fk12_4 lkF_X12_195 dX12_hasMouse_6 ?_
  refine lv_topi (fun v2 ev2 => ?_)
  refine lv_aload_n hx hb dX12_hasMouse_9 rfl (lv_at hl 0 rfl) ?_
  refine pg_r M V 12 29 (sm_this S) pC12 fk12_29 (sm_x S).2.2 lkF_X12_36 dX12_hasMouse_10 ?_
  refine lv_iload_n hx hb dX12_hasMouse_13 rfl (lv_at hl 1 rfl) ?_
  refine pa_i M V (sm_x S).1 (by rw [(sm_x S).2.1]; exact pi_in (by omega)) dX12_hasMouse_14 ?_
  refine lv_topi (fun v3 ev3 => ?_)
  refine lv_aload_n hx hb dX12_hasMouse_15 rfl (lv_at hl 0 rfl) ?_
  refine pg_r M V 12 30 (sm_this S) pC12 fk12_30 (sm_y S).2.2 lkF_X12_39 dX12_hasMouse_16 ?_
  refine lv_iload_n hx hb dX12_hasMouse_19 rfl (lv_at hl 1 rfl) ?_
  refine pa_i M V (sm_y S).1 (by rw [(sm_y S).2.1]; exact pi_in (by omega)) dX12_hasMouse_20 ?_
  refine lv_topi (fun v4 ev4 => ?_)
  refine lv_aload_n hx hb dX12_hasMouse_21 rfl (lv_at hl 0 rfl) ?_
  refine pg_r M V 12 29 (sm_this S) pC12 fk12_29 (sm_x S).2.2 lkF_X12_36 dX12_hasMouse_22 ?_
  refine lv_iload_n hx hb dX12_hasMouse_25 rfl (lv_at hl 1 rfl) ?_
  refine pa_iv M V (v := v3) (sm_x S).1 (by rw [(sm_x S).2.1]; exact pi_in (by omega)) ev3.symm dX12_hasMouse_26 ?_
  refine lv_aload_n hx hb dX12_hasMouse_27 rfl (lv_at hl 0 rfl) ?_
  refine pg_r M V 12 31 (sm_this S) pC12 fk12_31 (sm_wide S).2.2 lkF_X12_42 dX12_hasMouse_28 ?_
  refine lv_iload_n hx hb dX12_hasMouse_31 rfl (lv_at hl 1 rfl) ?_
  refine pa_i M V (sm_wide S).1 (by rw [(sm_wide S).2.1]; exact pi_in (by omega)) dX12_hasMouse_32 ?_
  refine lv_topi (fun v5 ev5 => ?_)
  refine lv_iadd hx hb dX12_hasMouse_33 ?_
  refine lv_topi (fun v6 ev6 => ?_)
  refine lv_aload_n hx hb dX12_hasMouse_34 rfl (lv_at hl 0 rfl) ?_
  refine pg_r M V 12 30 (sm_this S) pC12 fk12_30 (sm_y S).2.2 lkF_X12_39 dX12_hasMouse_35 ?_
  refine lv_iload_n hx hb dX12_hasMouse_38 rfl (lv_at hl 1 rfl) ?_
  refine pa_iv M V (v := v4) (sm_y S).1 (by rw [(sm_y S).2.1]; exact pi_in (by omega)) ev4.symm dX12_hasMouse_39 ?_
  refine lv_aload_n hx hb dX12_hasMouse_40 rfl (lv_at hl 0 rfl) ?_
  refine lv_iload_n hx hb dX12_hasMouse_41 rfl (lv_at hl 1 rfl) ?_
  refine pk_i (pr_V M V (m_X12_height l S I w (by omega)) km_X12_height (sm_this S) pC12 lkM_X12_224 rfl hl.1 rfl (Nat.le_of_ble_eq_true rfl) ⟨Nat.le_of_ble_eq_true rfl, Nat.le_of_ble_eq_true rfl⟩ ⟨Nat.le_of_ble_eq_true rfl, Nat.le_of_ble_eq_true rfl⟩ dX12_hasMouse_42) V (fun r7 Zr7 hr7 H locs pr7 _ _ V => ?_)
  obtain ⟨rfl, rfl⟩ := pr7
  refine lv_iadd hx hb dX12_hasMouse_45 ?_
  refine lv_topi (fun v8 ev8 => ?_)
  refine pk_i (pr_V M V (m_X12_isIn l S I v1 v2 v3 v4 v6 v8) km_X12_isIn (sm_this S) pC12 lkM_X12_228 rfl hl.1 rfl (Nat.le_of_ble_eq_true rfl) ⟨Nat.le_of_ble_eq_true rfl, Nat.le_of_ble_eq_true rfl⟩ ⟨Nat.le_of_ble_eq_true rfl, Nat.le_of_ble_eq_true rfl⟩ dX12_hasMouse_46) V (fun r9 Zr9 hr9 H locs pr9 _ _ V => ?_)
  obtain ⟨rfl, rfl, fr9_0⟩ := pr9
  exact pe_i M V rfl rfl hr hlk (pn_z (pi_z (by omega))).1 ⟨rfl, rfl, by omega⟩ ⟨Nat.le_refl _, Nat.le_refl _⟩ dX12_hasMouse_49
