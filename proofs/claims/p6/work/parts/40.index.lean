/-! index: it stands on a static row -/
theorem dX9_indexAt_0 : decode cX9_indexAt 0 = .ok (.aload_n 0, 1) := by decide +kernel
theorem dX9_indexAt_1 : decode cX9_indexAt 1 = .ok (.iload_n 1, 1) := by decide +kernel
theorem dX9_indexAt_2 : decode cX9_indexAt 2 = .ok (.iconst 5, 1) := by decide +kernel
theorem dX9_indexAt_3 : decode cX9_indexAt 3 = .ok (.iconst (-1), 1) := by decide +kernel
theorem dX9_indexAt_4 : decode cX9_indexAt 4 = .ok (.invokevirtual 124, 3) := by decide +kernel
theorem dX9_indexAt_7 : decode cX9_indexAt 7 = .ok (.istore_n 3, 1) := by decide +kernel
theorem dX9_indexAt_8 : decode cX9_indexAt 8 = .ok (.iload_n 3, 1) := by decide +kernel
theorem dX9_indexAt_9 : decode cX9_indexAt 9 = .ok (.iconst (-1), 1) := by decide +kernel
theorem dX9_indexAt_10 : decode cX9_indexAt 10 = .ok (.if_icmp .eq 17, 3) := by decide +kernel
theorem dX9_indexAt_13 : decode cX9_indexAt 13 = .ok (.iload_n 2, 1) := by decide +kernel
theorem dX9_indexAt_14 : decode cX9_indexAt 14 = .ok (.iconst 0, 1) := by decide +kernel
theorem dX9_indexAt_15 : decode cX9_indexAt 15 = .ok (.getstatic 128, 3) := by decide +kernel
theorem dX9_indexAt_18 : decode cX9_indexAt 18 = .ok (.arraylength, 1) := by decide +kernel
theorem dX9_indexAt_19 : decode cX9_indexAt 19 = .ok (.iconst 1, 1) := by decide +kernel
theorem dX9_indexAt_20 : decode cX9_indexAt 20 = .ok (.isub, 1) := by decide +kernel
theorem dX9_indexAt_21 : decode cX9_indexAt 21 = .ok (.invokestatic 62, 3) := by decide +kernel
theorem dX9_indexAt_24 : decode cX9_indexAt 24 = .ok (.ifCond .ne 7, 3) := by decide +kernel
theorem dX9_indexAt_27 : decode cX9_indexAt 27 = .ok (.iconst (-1), 1) := by decide +kernel
theorem dX9_indexAt_28 : decode cX9_indexAt 28 = .ok (.goto 10, 3) := by decide +kernel
theorem dX9_indexAt_31 : decode cX9_indexAt 31 = .ok (.iload_n 3, 1) := by decide +kernel
theorem dX9_indexAt_32 : decode cX9_indexAt 32 = .ok (.getstatic 128, 3) := by decide +kernel
theorem dX9_indexAt_35 : decode cX9_indexAt 35 = .ok (.iload_n 2, 1) := by decide +kernel
theorem dX9_indexAt_36 : decode cX9_indexAt 36 = .ok (.iaload, 1) := by decide +kernel
theorem dX9_indexAt_37 : decode cX9_indexAt 37 = .ok (.iadd, 1) := by decide +kernel
theorem dX9_indexAt_38 : decode cX9_indexAt 38 = .ok (.ireturn, 1) := by decide +kernel
theorem dX11_index_0 : decode cX11_index 0 = .ok (.iload_n 1, 1) := by decide +kernel
theorem dX11_index_1 : decode cX11_index 1 = .ok (.ifCond .ge 7, 3) := by decide +kernel
theorem dX11_index_4 : decode cX11_index 4 = .ok (.iconst (-1), 1) := by decide +kernel
theorem dX11_index_5 : decode cX11_index 5 = .ok (.goto 18, 3) := by decide +kernel
theorem dX11_index_8 : decode cX11_index 8 = .ok (.aload_n 0, 1) := by decide +kernel
theorem dX11_index_9 : decode cX11_index 9 = .ok (.getfield 58, 3) := by decide +kernel
theorem dX11_index_12 : decode cX11_index 12 = .ok (.iload_n 1, 1) := by decide +kernel
theorem dX11_index_13 : decode cX11_index 13 = .ok (.bipush 6, 2) := by decide +kernel
theorem dX11_index_15 : decode cX11_index 15 = .ok (.idiv, 1) := by decide +kernel
theorem dX11_index_16 : decode cX11_index 16 = .ok (.iload_n 1, 1) := by decide +kernel
theorem dX11_index_17 : decode cX11_index 17 = .ok (.bipush 6, 2) := by decide +kernel
theorem dX11_index_19 : decode cX11_index 19 = .ok (.irem, 1) := by decide +kernel
theorem dX11_index_20 : decode cX11_index 20 = .ok (.invokevirtual 380, 3) := by decide +kernel
theorem dX11_index_23 : decode cX11_index 23 = .ok (.ireturn, 1) := by decide +kernel
abbrev sMet (l : Launch) (y : MethodName) (cc : ByteArray) (maxL : Nat) (ret : Option FieldType) (fr mc ms lo : Nat) (Z : pZ) (h : pH) (av : List Value) (Qc : Array Value → State → Outcome → State → Prop) : Prop :=
  Met l y (Cond.code y cc maxL ret :: pT) (pRm fr mc ms lo) (pPcX Z h av) Qc mc ms (pA (zB Z))
theorem sOfW {l : Launch} {y : MethodName} {cc : ByteArray} {maxL : Nat} {ret : Option FieldType} {fr mc ms lo : Nat} {Z : pZ} {h : pH} {av : List Value} {Qc : Array Value → State → Outcome → State → Prop} {lv : List (Nat × Value)} (hy : plainName y.cls = true) (hn : (lg_sl av).length ≤ maxL) (hlv : lv_args 0 av = lv)
    (body : ∀ (p : Program) (e : Env) (s : State) (m : MethodId) (below : List Frame) (meth : Method) (c : Code) (ls : Array Slot), pM Z.1 p s m av.toArray c cc maxL y.cls → meth.sig.returnType = ret → meth.locks = false → meth.name = y.name → pV Z h s.heap s.heap [] → lv_has ls maxL lv → pXS (zB Z) s →
      W p l e (pRm fr mc ms lo) s m av.toArray below meth c s.heap [] 0 0 (MQ below Qc av.toArray s mc ms (pA (zB Z))) (F0 m 0 ls [])) : sMet l y cc maxL ret fr mc ms lo Z h av Qc := by
  refine Met.ofW (cc := cc) (maxL := maxL) (ret := ret) hy rfl ?_
  intro p e s m args below meth c s₁ B hml hv
  obtain ⟨rfl, hk, hw, hxs⟩ := hv
  have hts := atoms_spec (ws := Cond.code y cc maxL ret :: pT) B.pre
  have hl := lv_entry av (n := maxL) hn
  rw [hlv] at hl
  have hin : meth.name = y.name := (name_of_methodNamed B.named B.method).1
  rw [lg_entry_eq]
  generalize (lg_sl av ++ List.replicate (maxL - (lg_sl av).length) Slot.unset).toArray = ls at hl ⊢
  exact body p e s m below meth c ls ⟨⟨B.exec, B.bytes, hml, findClass_of_methodNamed B.named, fun w hw9 => hts w (List.mem_cons_of_mem _ hw9)⟩, hk⟩ B.returns B.notSynchronized hin ⟨hw, va_S.rf, hw.2.2⟩ hl hxs
theorem sr_V {p : Program} {l : Launch} {e : Env} {R : Room} {s : State} {m : MethodId} {args : Array Value} {below : List Frame} {meth : Method} {c : Code} {H : Heap} {locs : List Loc} {cells slots : Nat} {cc bytes : ByteArray} {nL pc maxL n fr mc ms lo index o ci : Nat} {own : String} {ls : Array Slot} {As rest st : List Value} {Z : pZ} {h : pH} {T : u_T} {N : Nat} {ty : Nat → FieldType} {y : MethodName} {ret : Option FieldType} {Qc : Array Value → State → Outcome → State → Prop} (M : pM Z.1 p s m args c cc nL own) (V : pV Z h s.heap H locs) (X : pXS (zB Z) s) (hM : sMet l y bytes maxL ret fr mc ms lo Z h (.ref (zB Z + o) :: As) Qc) (hL : pLV y bytes maxL ret n) (ho : pIs Z o ci) (hC : pCl ci y.cls T N ty) (hl : Cond.methodLink own index y ∈ pT)
    (hn : As.length = n) (hsz : ls.size = nL) (hst : st = As.reverse ++ .ref (zB Z + o) :: rest) (hcat : (rest.map fun v => v.category).sum ≤ 8) (hR : fr + 1 ≤ R.frames ∧ 8 + (maxL + 11) + lo ≤ R.locals) (hf : cells + mc ≤ R.cells ∧ slots + ms ≤ R.slots) (hdg : decode cc pc = .ok (.invokevirtual index, 3)) :
    va_Run p l e R s m args below meth c H locs cells slots mc ms (F0 m pc ls st) rest (Qc (Value.ref (zB Z + o) :: As).toArray) (pA (zB Z)) := by
  obtain ⟨q0, hq⟩ := pWs_get (h := h) ho.1
  rw [pE_obj ho.2 hC.2.2.2.2.1] at hq
  exact va_runV M.1 hM ⟨callB_of n M.1.2.2.2.2 (pSub hL.1) rfl rfl rfl (pWords M hL.2.1) (pWords M hl) hL.2.2.1 hR, pWords M hL.2.2.2.1, pWords M hL.2.2.2.2⟩ ⟨pPcX_blind, va_recv M.2.1 V.1.1 hC.1 hq, fun U hU hW => xPre M V X U hU hW⟩ rfl hn hsz hst (lv_room hcat) hdg hf
theorem lkFN_X9_128 : Cond.fieldLinkNest RX9 128 RX11 "CORNERS" "[I" RX11 ∈ pNs := pNs_at 613 (by decide +kernel) rfl
set_option maxHeartbeats 4000000 in
set_option maxRecDepth 100000 in
theorem m_X9_indexAt (l : Launch) {Z : pZ} (S : pSh Z) {h : pH} (I : Iv Z h) (quad : Int32) (k : Int32) (K : pSk Z) : sMet l yX9_indexAt cX9_indexAt 4 (some .int) 2 0 0 47 Z h [.ref (zB Z + 132), .int quad, .int k] (pQi Z (fun r Z1 h1 => Z = Z1 ∧ Iv Z h1 ∧ agrD [] h h1)) := by
  refine sOfW (lv := [(0, .ref (zB Z + 132)), (1, .int quad), (2, .int k)]) (by decide) (Nat.le_of_ble_eq_true rfl) rfl ?_
  intro p e s m below meth c ls M hr hlk hnm V hl X
  have hx := M.1.1
  have hb := M.1.2.1
  obtain ⟨-, -, -, -, -, ⟨ca, xs, x6, x7⟩, -⟩ := X
  refine lv_aload_n hx hb dX9_indexAt_0 rfl (lv_at hl 0 rfl) ?_
  refine lv_iload_n hx hb dX9_indexAt_1 rfl (lv_at hl 1 rfl) ?_
  refine lv_iconst (v := 5) hx hb dX9_indexAt_2 (by decide) ?_
  refine lv_iconst (v := (-1)) hx hb dX9_indexAt_3 (by decide) ?_
  refine pk_i (pr_V M V (m_X9_quadPart l S I quad 5 (-1) K) km_X9_quadPart (c_is_132 S) pC9 lkM_X9_124 rfl hl.1 rfl (Nat.le_of_ble_eq_true rfl) ⟨Nat.le_of_ble_eq_true rfl, Nat.le_of_ble_eq_true rfl⟩ ⟨Nat.le_of_ble_eq_true rfl, Nat.le_of_ble_eq_true rfl⟩ dX9_indexAt_4) V (fun r1 Zr1 hr1 H locs pr1 _ _ V => ?_)
  obtain ⟨rfl, I, pA_r1⟩ := pr1
  refine lv_istore_n (lv' := [(3, .int r1), (0, .ref (zB Z + 132)), (1, .int quad), (2, .int k)]) hx hb dX9_indexAt_7 rfl hl (by decide) rfl (fun ls hl => ?_)
  refine lv_iload_n hx hb dX9_indexAt_8 rfl (lv_at hl 0 rfl) ?_
  refine lv_iconst (v := (-1)) hx hb dX9_indexAt_9 (by decide) ?_
  have J : ∀ (H : Heap) (locs : List Loc) (ls : Array Slot), pV Z hr1 s.heap H locs → W p l e (pRm 2 0 0 47) s m ([.ref (zB Z + 132), .int quad, .int k] : List Value).toArray below meth c H locs 0 0 (MQ below (pQi Z (fun r Z1 h1 => Z = Z1 ∧ Iv Z h1 ∧ agrD [] h h1)) ([.ref (zB Z + 132), .int quad, .int k] : List Value).toArray s 0 0 (pA (zB Z))) (F0 m 27 ls []) := by
    intro H locs ls V
    refine lv_iconst (v := (-1)) hx hb dX9_indexAt_27 (by decide) ?_
    refine lv_goto (tgt := 38) hx hb dX9_indexAt_28 (by decide) ?_
    exact pe_i M V rfl rfl hr hlk rfl ⟨rfl, I, pA_r1⟩ ⟨Nat.le_refl _, Nat.le_refl _⟩ dX9_indexAt_38
  refine lv_icmp_eq (tgt := 27) hx hb dX9_indexAt_10 (by decide) (fun c_10 => ?_) (fun c_10 => ?_)
  · exact J H locs ls V
  · refine lv_iload_n hx hb dX9_indexAt_13 rfl (lv_at hl 3 rfl) ?_
    refine lv_iconst (v := 0) hx hb dX9_indexAt_14 (by decide) ?_
    refine va_getsN hx hb x6 V.2.1 M.1.2.2.2.1 (va_tabs rfl rfl (M.2.2 _ lkFN_X9_128)) (fun _ h9 => h9) dX9_indexAt_15 ?_
    refine va_tlen hx hb x7 V.2.1 (v := 6) rfl dX9_indexAt_18 ?_
    refine lv_iconst (v := 1) hx hb dX9_indexAt_19 (by decide) ?_
    refine lv_isub hx hb dX9_indexAt_20 ?_
    refine lv_topi (fun v2 ev2 => ?_)
    have tv2 : v2.toInt = 5 := by rw [ev2]; rfl
    refine pk_i (pr_SN M V (m_X11_isWithin l (Z := Z) (h := _) k (0 : Int32) v2) km_X11_isWithin lkN_X9_62 rfl hl.1 rfl (Nat.le_of_ble_eq_true rfl) ⟨Nat.le_of_ble_eq_true rfl, Nat.le_of_ble_eq_true rfl⟩ ⟨Nat.le_of_ble_eq_true rfl, Nat.le_of_ble_eq_true rfl⟩ dX9_indexAt_21) V (fun r3 Zr3 hr3 H locs pr3 _ _ V => ?_)
    obtain ⟨rfl, rfl, fr3_0⟩ := pr3
    have k_0 : (0 : Int32).toInt = 0 := rfl
    refine lv_if_ne (tgt := 31) hx hb dX9_indexAt_24 (by decide) (fun c_24 => ?_) (fun c_24 => ?_)
    · have c_24 := pi_ne c_24
      refine lv_iload_n hx hb dX9_indexAt_31 rfl (lv_at hl 0 rfl) ?_
      refine va_getsN hx hb x6 V.2.1 M.1.2.2.2.1 (va_tabs rfl rfl (M.2.2 _ lkFN_X9_128)) (fun _ h9 => h9) dX9_indexAt_32 ?_
      refine lv_iload_n hx hb dX9_indexAt_35 rfl (lv_at hl 3 rfl) ?_
      refine va_ti hx hb x7 V.2.1 (pi_in (by omega)) rfl dX9_indexAt_36 ?_
      refine lv_iadd hx hb dX9_indexAt_37 ?_
      exact pe_i M V rfl rfl hr hlk rfl ⟨rfl, I, pA_r1⟩ ⟨Nat.le_refl _, Nat.le_refl _⟩ dX9_indexAt_38
    · exact J H locs ls V

set_option maxHeartbeats 4000000 in
set_option maxRecDepth 100000 in
theorem m_X11_index (l : Launch) {Z : pZ} (S : pSh Z) {h : pH} (I : Iv Z h) (k : Int32) (K : pSk Z) : sMet l yX11_index cX11_index 2 (some .int) 3 0 0 70 Z h [.ref (zB Z + 0), .int k] (pQi Z (fun r Z1 h1 => Z = Z1 ∧ Iv Z h1 ∧ agrD [] h h1)) := by
  refine sOfW (lv := [(0, .ref (zB Z + 0)), (1, .int k)]) (by decide) (Nat.le_of_ble_eq_true rfl) rfl ?_
  intro p e s m below meth c ls M hr hlk hnm V hl X
  have hx := M.1.1
  have hb := M.1.2.1
  refine lv_iload_n hx hb dX11_index_0 rfl (lv_at hl 1 rfl) ?_
  refine lv_if_ge (tgt := 8) hx hb dX11_index_1 (by decide) (fun c_1 => ?_) (fun c_1 => ?_)
  · refine lv_aload_n hx hb dX11_index_8 rfl (lv_at hl 0 rfl) ?_
    refine pg_r M V 11 7 (c_is_0 S) pC11 fk11_7 (c_r_0_7 S) lkF_X11_58 dX11_index_9 ?_
    refine lv_iload_n hx hb dX11_index_12 rfl (lv_at hl 1 rfl) ?_
    refine lv_bipush (v := 6) hx hb dX11_index_13 (by decide) ?_
    refine lv_idiv hx hb dX11_index_15 (by decide) ?_
    refine lv_topi (fun v1 ev1 => ?_)
    refine lv_iload_n hx hb dX11_index_16 rfl (lv_at hl 1 rfl) ?_
    refine lv_bipush (v := 6) hx hb dX11_index_17 (by decide) ?_
    refine lv_irem hx hb dX11_index_19 (by decide) ?_
    refine lv_topi (fun v2 ev2 => ?_)
    refine pk_i (sr_V M V X (m_X9_indexAt l S I v1 v2 K) km_X9_indexAt (c_is_132 S) pC9 lkM_X11_380 rfl hl.1 rfl (Nat.le_of_ble_eq_true rfl) ⟨Nat.le_of_ble_eq_true rfl, Nat.le_of_ble_eq_true rfl⟩ ⟨Nat.le_of_ble_eq_true rfl, Nat.le_of_ble_eq_true rfl⟩ dX11_index_20) V (fun r3 Zr3 hr3 H locs pr3 _ _ V => ?_)
    obtain ⟨rfl, I, pA_r3⟩ := pr3
    exact pe_i M V rfl rfl hr hlk rfl ⟨rfl, I, pA_r3⟩ ⟨Nat.le_refl _, Nat.le_refl _⟩ dX11_index_23
  · refine lv_iconst (v := (-1)) hx hb dX11_index_4 (by decide) ?_
    refine lv_goto (tgt := 23) hx hb dX11_index_5 (by decide) ?_
    exact pe_i M V rfl rfl hr hlk rfl ⟨rfl, I, agrD.rf⟩ ⟨Nat.le_refl _, Nat.le_refl _⟩ dX11_index_23

