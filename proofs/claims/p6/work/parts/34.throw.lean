/-! what a throw stands on; contracts of methods that may throw -/
def xIA : String := "java/lang/IllegalArgumentException"
def xIS : String := "java/lang/IllegalStateException"
def xNs : List String := ["java/lang/RuntimeException", "java/lang/Exception"]
def xT1 : String := "this call is not allowed here; a frame that was on is broken"
def xT2 : String := "an argument is outside what the document allows"
def xBad : List Cond := [.declares (Bundle.initS "java/lang/RuntimeException"), .declares (Bundle.initS "java/lang/Exception"), .declares (Bundle.initS Bundle.tN), .castable xIA xIA, .castable xIS xIS]
def pXS (B : Nat) (U : State) : Prop := vx_Zq Bundle.tN "UNASSIGNED_STACK" Bundle.steD (pA B) U U.heap ∧ vx_Zq Bundle.tN "SUPPRESSED_SENTINEL" Bundle.listD (pA B) U U.heap ∧ (∀ w ∈ xBad, va_Nw w U) ∧ (∃ a, vk_R RX11 406 xT1 a U) ∧ (∃ a, vk_R RX11 396 xT2 a U) ∧ (∃ (ca : Nat) (xs : Nat → Int32), va_Z RX11 "CORNERS" "[I" (.ref ca) (pA B) U U.heap ∧ va_T .int ca 6 (fun j => .int (xs j)) (pA B) U U.heap) ∧ va_Nc xIS xIA U
theorem xNw_alike {w : Cond} (hw : w ∈ xBad) {s U : State} (hvm : s.vm.Alike U.vm) (h : va_Nw w s) : va_Nw w U := by
  simp only [xBad, List.mem_cons, List.not_mem_nil, or_false] at hw
  rcases hw with rfl | rfl | rfl | rfl | rfl
  · exact va_tabs rfl (rfl : (s.setVm U.vm).vm = U.vm) (by rw [Cond.declares_setVm hvm]; exact h)
  · exact va_tabs rfl (rfl : (s.setVm U.vm).vm = U.vm) (by rw [Cond.declares_setVm hvm]; exact h)
  · exact va_tabs rfl (rfl : (s.setVm U.vm).vm = U.vm) (by rw [Cond.declares_setVm hvm]; exact h)
  · exact va_tabs rfl (rfl : (s.setVm U.vm).vm = U.vm) (by rw [Cond.castable_setVm hvm]; exact h)
  · exact va_tabs rfl (rfl : (s.setVm U.vm).vm = U.vm) (by rw [Cond.castable_setVm hvm]; exact h)
theorem pXS.at {B : Nat} {s U : State} {H : Heap} {locs : List Loc} (hx : pXS B s) (hS : va_S (pA B) s.heap H locs) (hU : U.heap = H) (hW : s.WarmedH U.vm) : pXS B U := by
  obtain ⟨h1, h2, h3, ⟨a4, h4⟩, ⟨a5, h5⟩, ⟨ca, xs, h6, h7⟩, h10⟩ := hx
  have hal := hW.alike
  refine ⟨?_, ?_, fun w hw => xNw_alike hw hal (h3 w hw), ⟨a4, vk_R.warm hW h4⟩, ⟨a5, vk_R.warm hW h5⟩, ⟨ca, xs, ?_, ?_⟩, h10.moved hal⟩
  · rw [hU]; exact vx_Zq.moved hal (h1.kept hS.2.1)
  · rw [hU]; exact vx_Zq.moved hal (h2.kept hS.2.1)
  · rw [hU]; exact va_Z.moved hal (h6.kept hS.2.1)
  · rw [hU]; exact va_T.moved hal (h7.kept hS.2.1)
theorem pXS.call {B : Nat} {U : State} (g : JFrame) (mk : MethodId) (a : Array Value) (hx : pXS B U) : pXS B (U.calling g mk a) :=
  hx.at (H := U.heap) (locs := []) va_S.rf rfl (by show U.WarmedH U.vm; exact State.WarmedH.refl U)
def pPcX (Z : pZ) (h : pH) (av : List Value) : Array Value → State → Prop := va_Pc av (fun U => pKn Z.1 U ∧ pW0 Z h U.heap ∧ pXS (zB Z) U)
theorem pPcX_blind {Z : pZ} {h : pH} {av : List Value} : FrameBlind (pPcX Z h av) := fun a U g mk q => by
  obtain ⟨q0, q1, q2, q3⟩ := q
  exact ⟨q0, pKn.same (u := U) (U := U.calling g mk a) rfl q1, q2, q3.call g mk a⟩
/-- how a method throws: without, and with the books -/
def gX0 (Z : pZ) (px : String → pZ → pH → Prop) : String → State → State → Prop := fun E st t => ∃ u : pZ × pH, px E u.1 u.2 ∧ pB Z u t ∧ va_F (pA (zB Z)) st t
def gX (Z : pZ) (px : String → pZ → pH → Nat → Nat → Prop) : String → State → State → Prop := fun E st t => ∃ (u : pZ × pH) (k n : Nat), px E u.1 u.2 k n ∧ pB Z u t ∧ gH st.heap t.heap k n ∧ va_F (pA (zB Z)) st t
abbrev xMet (l : Launch) (y : MethodName) (cc : ByteArray) (maxL : Nat) (ret : Option FieldType) (fr mc ms lo : Nat) (Z : pZ) (h : pH) (av : List Value) (Qc : Array Value → State → Outcome → State → Prop) (XC : String → State → State → Prop) : Prop :=
  vx_Met l y (Cond.code y cc maxL ret :: pT) (pRm fr mc ms lo) (pPcX Z h av) Qc XC mc ms (pA (zB Z))
theorem xOfW {l : Launch} {y : MethodName} {cc : ByteArray} {maxL : Nat} {ret : Option FieldType} {fr mc ms lo : Nat} {Z : pZ} {h : pH} {av : List Value} {Qc : Array Value → State → Outcome → State → Prop} {XC : String → State → State → Prop} {lv : List (Nat × Value)} (hy : plainName y.cls = true) (hn : (lg_sl av).length ≤ maxL) (hlv : lv_args 0 av = lv)
    (body : ∀ (p : Program) (e : Env) (s : State) (m : MethodId) (below : List Frame) (meth : Method) (c : Code) (ls : Array Slot), pM Z.1 p s m av.toArray c cc maxL y.cls → meth.sig.returnType = ret → meth.locks = false → meth.name = y.name → pV Z h s.heap s.heap [] → lv_has ls maxL lv → (∀ x ∈ c.exceptionTable.toList, False) → pXS (zB Z) s →
      W p l e (pRm fr mc ms lo) s m av.toArray below meth c s.heap [] 0 0 (vx_MQ below Qc XC av.toArray s mc ms (pA (zB Z))) (F0 m 0 ls [])) : xMet l y cc maxL ret fr mc ms lo Z h av Qc XC := by
  refine vx_ofW (cc := cc) (maxL := maxL) (ret := ret) hy rfl ?_
  intro p e s m args below meth c s₁ B hml hct hv
  obtain ⟨rfl, hk, hw, hxs⟩ := hv
  have hts := atoms_spec (ws := Cond.code y cc maxL ret :: pT) B.pre
  have hl := lv_entry av (n := maxL) hn
  rw [hlv] at hl
  have hin : meth.name = y.name := (name_of_methodNamed B.named B.method).1
  rw [lg_entry_eq]
  generalize (lg_sl av ++ List.replicate (maxL - (lg_sl av).length) Slot.unset).toArray = ls at hl ⊢
  exact body p e s m below meth c ls ⟨⟨B.exec, B.bytes, hml, findClass_of_methodNamed B.named, fun w hw9 => hts w (List.mem_cons_of_mem _ hw9)⟩, hk⟩ B.returns B.notSynchronized hin ⟨hw, va_S.rf, hw.2.2⟩ hl hct hxs
section XC
variable {p : Program} {l : Launch} {e : Env} {R : Room} {s : State} {m : MethodId} {args : Array Value} {below : List Frame} {meth : Method} {c : Code} {H : Heap} {locs : List Loc} {cells slots : Nat} {Q : State → Prop}
variable {cc bytes : ByteArray} {nL pc maxL n fr mc ms lo index o ci : Nat} {own : String} {ls : Array Slot} {As rest st : List Value} {Z : pZ} {h : pH} {H0 : Heap} {T : u_T} {N : Nat} {ty : Nat → FieldType} {y : MethodName} {ret : Option FieldType} {Qc : Array Value → State → Outcome → State → Prop} {XC : String → State → State → Prop}
theorem xPre (M : pM Z.1 p s m args c cc nL own) (V : pV Z h s.heap H locs) (X : pXS (zB Z) s) {av : List Value} (U : State) (hU : U.heap = H) (hW : s.WarmedH U.vm) : pPcX Z h av av.toArray U := ⟨rfl, M.2.warm hW, by rw [hU]; exact V.1, X.at V.2.1 hU hW⟩
/-- invokevirtual of a method that may throw -/
theorem xr_V (M : pM Z.1 p s m args c cc nL own) (V : pV Z h s.heap H locs) (X : pXS (zB Z) s) (hM : xMet l y bytes maxL ret fr mc ms lo Z h (.ref (zB Z + o) :: As) Qc XC) (hL : pLV y bytes maxL ret n) (ho : pIs Z o ci) (hC : pCl ci y.cls T N ty) (hl : Cond.methodLink own index y ∈ pT)
    (hn : As.length = n) (hsz : ls.size = nL) (hst : st = As.reverse ++ .ref (zB Z + o) :: rest) (hcat : (rest.map fun v => v.category).sum ≤ 8) (hR : fr + 1 ≤ R.frames ∧ 8 + (maxL + 11) + lo ≤ R.locals) (hf : cells + mc ≤ R.cells ∧ slots + ms ≤ R.slots) (hdg : decode cc pc = .ok (.invokevirtual index, 3)) :
    vx_Run p l e R s m args below meth c H locs cells slots mc ms (F0 m pc ls st) rest (Qc (Value.ref (zB Z + o) :: As).toArray) XC (pA (zB Z)) := by
  obtain ⟨q0, hq⟩ := pWs_get (h := h) ho.1
  rw [pE_obj ho.2 hC.2.2.2.2.1] at hq
  exact vx_runV M.1 hM ⟨callB_of n M.1.2.2.2.2 (pSub hL.1) rfl rfl rfl (pWords M hL.2.1) (pWords M hl) hL.2.2.1 hR, pWords M hL.2.2.2.1, pWords M hL.2.2.2.2⟩ ⟨pPcX_blind, va_recv M.2.1 V.1.1 hC.1 hq, fun U hU hW => xPre M V X U hU hW⟩ rfl hn hsz hst (lv_room hcat) hdg hf
/-- .. of one that doesn't throw, but stands on a static row -/
theorem x_after {T' t st₀ : State} {L : List Loc} {u : pZ × pH} (V : pV Z h H0 H locs) (h0 : st₀.heap = H) (hL : ∀ q ∈ L, pA (zB Z) q.base) (e1 : T'.heap = t.heap) (hB : pB Z u t) (hF : va_F (pA (zB Z)) st₀ t) : pV u.1 u.2 H0 T'.heap (locs ++ L) := by
  obtain ⟨hz, hk⟩ := hF
  rw [h0] at hz hk
  exact pV_call V e1.symm hB ⟨Nat.le_trans V.2.1.1 (by rw [e1]; exact hz), fun q h1 h2 => by rw [e1, hk q (Nat.lt_of_lt_of_le h1 V.2.1.1) h2]; exact V.2.1.2.1 q h1 h2, fun q hq => by
      rcases List.mem_append.mp hq with h | h
      · exact V.2.1.2.2 q h
      · exact hL q h⟩
/-- behind a call of requireState and its like: it goes on, or has thrown -/
theorem xz_v (Z0 : pZ) {post : pZ → pH → Nat → Nat → Prop} {px : String → pZ → pH → Prop} {a : Array Value} (hB : zB Z = zB Z0) (hG : Z.1 = Z0.1) (hr : vx_Run p l e R s m args below meth c H locs cells slots mc ms (F0 m pc ls st) rest (gQv Z post a) (gX0 Z px) (pA (zB Z))) (V : pV Z h H0 H locs)
    (kx : ∀ (E : String) (ce : Cell) (q9 : Addr) (r : pY) (h' : pH) (H1 : Heap) (locs1 : List Loc), px E (gW Z0 r) h' → pV (gW Z0 r) h' H0 H1 locs1 → H1[q9]? = some ce → ce.vm = .none → s.vm.findClass E = some ce.cls → vx_W p l e R s m args below meth c H1 locs1 (cells + mc) (slots + ms) Q (F0 m pc ls rest) q9)
    (kk : ∀ (r : pY) (h' : pH) (k n : Nat) (H1 : Heap) (locs1 : List Loc), post (gW Z0 r) h' k n → pV (gW Z0 r) h' H0 H1 locs1 → W p l e R s m args below meth c H1 locs1 (cells + k) (slots + n) Q (F0 m (pc + 3) ls rest)) : W p l e R s m args below meth c H locs cells slots Q (F0 m pc ls st) := by
  intro T hT X
  rcases hr T hT X with ⟨v, st₀, t, T', L, h0, X', hL, e1, e2, ⟨u, k, n, hv, hp, hb, hg, hF⟩, sg⟩ | ⟨q, st₀, t, T', L, E, ce, h0, X', hL, e1, e2, ⟨u, hp, hb, hF⟩, hce, hcv, hcl, sg⟩
  · cases hv
    obtain ⟨V1, X1⟩ := g_after X hT V h0 X' hL e1 hb hg hF
    have hw := gW_of (hb.1.trans hB) (hb.2.1.trans hG)
    rw [hw] at hp V1
    obtain ⟨t2, a1, b1⟩ := kk _ u.2 k n T'.heap (locs ++ L) hp V1 T' rfl X1
    exact ⟨t2, sg t2 a1, b1⟩
  · have V1 := x_after V h0 hL e1 hb hF
    have hw := gW_of (hb.1.trans hB) (hb.2.1.trans hG)
    rw [hw] at hp V1
    obtain ⟨t2, a1, b1⟩ := kx E ce q _ u.2 T'.heap (locs ++ L) hp V1 (by rw [e1]; exact hce) hcv hcl T' rfl X'
    exact ⟨t2, sg.trans a1, b1⟩
/-- what was thrown goes on to the caller -/
theorem xe_out {px : String → pZ → pH → Nat → Nat → Prop} {Z' : pZ} {h' : pH} {E : String} {ce : Cell} {q9 : Addr} (V : pV Z' h' s.heap H locs) (hB : zB Z' = zB Z) (hG : Z'.1 = Z.1) (hct : ∀ x ∈ c.exceptionTable.toList, False) (hlk : meth.locks = false) (hcell : H[q9]? = some ce) (hv : ce.vm = .none) (hcl : s.vm.findClass E = some ce.cls) (hp : px E Z' h' cells slots) (hc : cells ≤ mc ∧ slots ≤ ms) :
    vx_W p l e R s m args below meth c H locs cells slots (vx_MQ below Qc (gX Z px) args s mc ms (pA (zB Z))) (F0 m pc ls rest) q9 := by
  refine g_knowX fun g0 => ?_
  have hS : va_S (pA (zB Z)) s.heap H locs := by rw [← hB]; exact V.2.1
  exact vx_out (fun x hx => (hct x hx).elim) hlk hcell hv hcl (fun t ht _ => ⟨(Z', h'), cells, slots, hp, ⟨hB, hG, by rw [ht]; exact V.1⟩, by rw [ht]; exact g0, hS.F ht⟩) hS.2.2 hc.1 hc.2
theorem xe_out0 {px : String → pZ → pH → Prop} {Z' : pZ} {h' : pH} {E : String} {ce : Cell} {q9 : Addr} (V : pV Z' h' s.heap H locs) (hB : zB Z' = zB Z) (hG : Z'.1 = Z.1) (hct : ∀ x ∈ c.exceptionTable.toList, False) (hlk : meth.locks = false) (hcell : H[q9]? = some ce) (hv : ce.vm = .none) (hcl : s.vm.findClass E = some ce.cls) (hp : px E Z' h') (hc : cells ≤ mc ∧ slots ≤ ms) :
    vx_W p l e R s m args below meth c H locs cells slots (vx_MQ below Qc (gX0 Z px) args s mc ms (pA (zB Z))) (F0 m pc ls rest) q9 := by
  have hS : va_S (pA (zB Z)) s.heap H locs := by rw [← hB]; exact V.2.1
  exact vx_out (fun x hx => (hct x hx).elim) hlk hcell hv hcl (fun t ht _ => ⟨(Z', h'), hp, ⟨hB, hG, by rw [ht]; exact V.1⟩, hS.F ht⟩) hS.2.2 hc.1 hc.2
end XC
