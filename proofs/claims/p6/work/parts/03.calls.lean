/-! CONTRACTS AND CALLS over the world of part 02 -/
theorem pGood {ws : List Cond} (h : ∀ w ∈ ws, w ∈ pT) : GoodIn pT ws := fun w hw => ⟨h w hw, good_of_word (List.mem_filter.mp (h w hw)).2⟩
def pRm (fr mc ms lo : Nat) : Room := { frames := fr, cells := mc, slots := ms, locals := lo }
def pPc (Z : pZ) (h : pH) (av : List Value) : Array Value → State → Prop := va_Pc av (fun U => pKn Z.1 U ∧ pW0 Z h U.heap)
theorem pPc_blind {Z : pZ} {h : pH} {av : List Value} : FrameBlind (pPc Z h av) := fun a U g mk q => by
  obtain ⟨q0, q1, q2⟩ := q
  exact ⟨q0, pKn.same (u := U) (U := U.calling g mk a) rfl q1, q2⟩
/-- the ends: a number, nothing, a cell (its number), over the new world -/
def pB (Z : pZ) (u : pZ × pH) (t : State) : Prop := zB u.1 = zB Z ∧ u.1.1 = Z.1 ∧ pW0 u.1 u.2 t.heap
def pQi (Z : pZ) (post : Int32 → pZ → pH → Prop) : Array Value → State → Outcome → State → Prop := va_Qi (fun (r : Int32) (u : pZ × pH) => post r u.1 u.2) (pB Z) (pA (zB Z))
def pQv (Z : pZ) (post : pZ → pH → Prop) : Array Value → State → Outcome → State → Prop := va_Qv (fun (u : pZ × pH) => post u.1 u.2) (pB Z) (pA (zB Z))
def pQr (Z : pZ) (post : Nat → pZ → pH → Prop) : Array Value → State → Outcome → State → Prop := va_Qr (fun (_ : pZ × pH) => True) (fun u a t => pB Z u t ∧ ∃ o, a = zB Z + o ∧ post o u.1 u.2) (pA (zB Z))
abbrev pMet (l : Launch) (y : MethodName) (cc : ByteArray) (maxL : Nat) (ret : Option FieldType) (fr mc ms lo : Nat) (Z : pZ) (h : pH) (av : List Value) (Qc : Array Value → State → Outcome → State → Prop) : Prop :=
  Met l y (Cond.code y cc maxL ret :: pT) (pRm fr mc ms lo) (pPc Z h av) Qc mc ms (pA (zB Z))
/-- a contract's proof: the walk of the body -/
theorem pOfW {l : Launch} {y : MethodName} {cc : ByteArray} {maxL : Nat} {ret : Option FieldType} {fr mc ms lo : Nat} {Z : pZ} {h : pH} {av : List Value} {Qc : Array Value → State → Outcome → State → Prop} {lv : List (Nat × Value)} (hy : plainName y.cls = true) (hn : (lg_sl av).length ≤ maxL) (hlv : lv_args 0 av = lv)
    (body : ∀ (p : Program) (e : Env) (s : State) (m : MethodId) (below : List Frame) (meth : Method) (c : Code) (ls : Array Slot), pM Z.1 p s m av.toArray c cc maxL y.cls → meth.sig.returnType = ret → meth.locks = false → meth.name = y.name → pV Z h s.heap s.heap [] → lv_has ls maxL lv →
      W p l e (pRm fr mc ms lo) s m av.toArray below meth c s.heap [] 0 0 (MQ below Qc av.toArray s mc ms (pA (zB Z))) (F0 m 0 ls [])) : pMet l y cc maxL ret fr mc ms lo Z h av Qc := by
  refine Met.ofW (cc := cc) (maxL := maxL) (ret := ret) hy rfl ?_
  intro p e s m args below meth c s₁ B hml hv
  obtain ⟨rfl, hk, hw⟩ := hv
  have hts := atoms_spec (ws := Cond.code y cc maxL ret :: pT) B.pre
  have hl := lv_entry av (n := maxL) hn
  rw [hlv] at hl
  have hin : meth.name = y.name := (name_of_methodNamed B.named B.method).1
  rw [lg_entry_eq]
  generalize (lg_sl av ++ List.replicate (maxL - (lg_sl av).length) Slot.unset).toArray = ls at hl ⊢
  exact body p e s m below meth c ls ⟨⟨B.exec, B.bytes, hml, findClass_of_methodNamed B.named, fun w hw9 => hts w (List.mem_cons_of_mem _ hw9)⟩, hk⟩ B.returns B.notSynchronized hin ⟨hw, va_S.rf, hw.2.2⟩ hl
def pNm (y : MethodName) (n : Nat) : Prop := y.cls ≠ "java/lang/invoke/MethodHandle" ∧ y.cls ≠ "java/lang/invoke/VarHandle" ∧ (parseMethodDescriptor y.desc).map (fun d => d.parameters.length) = some n
/-- what the tables say of a method: of one that is called on an object, of a static one, of a constructor -/
def pLV (y : MethodName) (cc : ByteArray) (maxL : Nat) (ret : Option FieldType) (n : Nat) : Prop := Cond.code y cc maxL ret ∈ pT ∧ Cond.initialized y.cls ∈ pT ∧ pNm y n ∧ Cond.instanceMethod y ∈ pT ∧ Cond.selects y.cls y y ∈ pT
def pLS (y : MethodName) (cc : ByteArray) (maxL : Nat) (ret : Option FieldType) (n : Nat) : Prop := Cond.code y cc maxL ret ∈ pT ∧ Cond.initialized y.cls ∈ pT ∧ pNm y n ∧ Cond.static y ∈ pT
def pLI (y : MethodName) (cc : ByteArray) (maxL n : Nat) : Prop := Cond.code y cc maxL none ∈ pT ∧ Cond.initialized y.cls ∈ pT ∧ pNm y n ∧ Cond.instanceMethod y ∈ pT ∧ y.name = "<init>"
section PC
variable {p : Program} {l : Launch} {e : Env} {R : Room} {s : State} {m : MethodId} {args : Array Value} {below : List Frame} {meth : Method} {c : Code} {H : Heap} {locs : List Loc} {cells slots : Nat} {Q : State → Prop}
variable {cc bytes : ByteArray} {nL pc maxL n fr mc ms lo index o ci : Nat} {own : String} {ls : Array Slot} {As rest st : List Value} {Z : pZ} {h : pH} {H0 : Heap} {T : u_T} {N : Nat} {ty : Nat → FieldType} {y : MethodName} {ret : Option FieldType} {Qc : Array Value → State → Outcome → State → Prop}
theorem pWords {w : Cond} (M : pM Z.1 p s m args c cc nL own) (hw : w ∈ pT) : w.before args s = true := M.1.2.2.2.2 w hw
theorem pSub {ret : Option FieldType} (hc : Cond.code y bytes maxL ret ∈ pT) : GoodIn pT (Cond.code y bytes maxL ret :: pT) := pGood (fun w hw => (List.mem_cons.mp hw).elim (fun e9 => e9 ▸ hc) id)
theorem pPre (M : pM Z.1 p s m args c cc nL own) (V : pV Z h H0 H locs) {av : List Value} (U : State) (hU : U.heap = H) (hW : s.WarmedH U.vm) : pPc Z h av av.toArray U := ⟨rfl, M.2.warm hW, by rw [hU]; exact V.1⟩
/-- invokevirtual -/
theorem pr_V (M : pM Z.1 p s m args c cc nL own) (V : pV Z h H0 H locs) (hM : pMet l y bytes maxL ret fr mc ms lo Z h (.ref (zB Z + o) :: As) Qc) (hL : pLV y bytes maxL ret n) (ho : pIs Z o ci) (hC : pCl ci y.cls T N ty) (hl : Cond.methodLink own index y ∈ pT)
    (hn : As.length = n) (hsz : ls.size = nL) (hst : st = As.reverse ++ .ref (zB Z + o) :: rest) (hcat : (rest.map fun v => v.category).sum ≤ 8) (hR : fr + 1 ≤ R.frames ∧ 8 + (maxL + 11) + lo ≤ R.locals) (hf : cells + mc ≤ R.cells ∧ slots + ms ≤ R.slots) (hdg : decode cc pc = .ok (.invokevirtual index, 3)) :
    va_Run p l e R s m args below meth c H locs cells slots mc ms (F0 m pc ls st) rest (Qc (Value.ref (zB Z + o) :: As).toArray) (pA (zB Z)) := by
  obtain ⟨q0, hq⟩ := pWs_get (h := h) ho.1
  rw [pE_obj ho.2 hC.2.2.2.2.1] at hq
  refine va_runV M.1 hM ⟨callB_of n M.1.2.2.2.2 (pSub hL.1) rfl rfl rfl (pWords M hL.2.1) (pWords M hl) hL.2.2.1 hR, pWords M hL.2.2.2.1, pWords M hL.2.2.2.2⟩ ⟨pPc_blind, va_recv M.2.1 V.1.1 hC.1 hq, fun U hU hW => pPre M V U hU hW⟩ rfl hn hsz hst (lv_room hcat) hdg hf
/-- invokestatic -/
theorem pr_S (M : pM Z.1 p s m args c cc nL own) (V : pV Z h H0 H locs) (hM : pMet l y bytes maxL ret fr mc ms lo Z h As Qc) (hL : pLS y bytes maxL ret n) (hl : Cond.methodLink own index y ∈ pT)
    (hn : As.length = n) (hsz : ls.size = nL) (hst : st = As.reverse ++ rest) (hcat : (rest.map fun v => v.category).sum ≤ 8) (hR : fr + 1 ≤ R.frames ∧ 8 + (maxL + 11) + lo ≤ R.locals) (hf : cells + mc ≤ R.cells ∧ slots + ms ≤ R.slots) (hdg : decode cc pc = .ok (.invokestatic index, 3)) :
    va_Run p l e R s m args below meth c H locs cells slots mc ms (F0 m pc ls st) rest (Qc As.toArray) (pA (zB Z)) :=
  va_runS M.1 hM ⟨callB_of n M.1.2.2.2.2 (pSub hL.1) rfl rfl rfl (pWords M hL.2.1) (pWords M hl) hL.2.2.1 hR, pWords M hL.2.2.2⟩ ⟨pPc_blind, fun U hU hW => pPre M V U hU hW⟩ rfl hn hsz hst (lv_room hcat) hdg hf
/-- invokestatic of a nest mate's private method -/
theorem pr_SN (M : pM Z.1 p s m args c cc nL own) (V : pV Z h H0 H locs) {host : String} (hM : pMet l y bytes maxL ret fr mc ms lo Z h As Qc) (hL : pLS y bytes maxL ret n) (hl : Cond.methodLinkNest own index y host ∈ pNs)
    (hn : As.length = n) (hsz : ls.size = nL) (hst : st = As.reverse ++ rest) (hcat : (rest.map fun v => v.category).sum ≤ 8) (hR : fr + 1 ≤ R.frames ∧ 8 + (maxL + 11) + lo ≤ R.locals) (hf : cells + mc ≤ R.cells ∧ slots + ms ≤ R.slots) (hdg : decode cc pc = .ok (.invokestatic index, 3)) :
    va_Run p l e R s m args below meth c H locs cells slots mc ms (F0 m pc ls st) rest (Qc As.toArray) (pA (zB Z)) :=
  va_runSN M.1 hM ⟨va_cnB n M.1.2.2.2.2 (pSub hL.1) rfl rfl rfl (M.2.2 _ hl) (pWords M hL.2.1) hL.2.2.1 hR, pWords M hL.2.2.2, trivial⟩ ⟨pPc_blind, fun U hU hW => pPre M V U hU hW⟩ rfl hn hsz hst (lv_room hcat) hdg hf
/-- invokespecial of a constructor -/
theorem pr_I (M : pM Z.1 p s m args c cc nL own) (V : pV Z h H0 H locs) (hM : pMet l y bytes maxL none fr mc ms lo Z h (.ref (zB Z + o) :: As) Qc) (hL : pLI y bytes maxL n) (hl : Cond.methodLink own index y ∈ pT)
    (hn : As.length = n) (hsz : ls.size = nL) (hst : st = As.reverse ++ .ref (zB Z + o) :: rest) (hcat : (rest.map fun v => v.category).sum ≤ 8) (hR : fr + 1 ≤ R.frames ∧ 8 + (maxL + 11) + lo ≤ R.locals) (hf : cells + mc ≤ R.cells ∧ slots + ms ≤ R.slots) (hdg : decode cc pc = .ok (.invokespecial index, 3)) :
    va_Run p l e R s m args below meth c H locs cells slots mc ms (F0 m pc ls st) rest (Qc (Value.ref (zB Z + o) :: As).toArray) (pA (zB Z)) :=
  va_runI M.1 hM ⟨callB_of n M.1.2.2.2.2 (pSub hL.1) rfl rfl rfl (pWords M hL.2.1) (pWords M hl) hL.2.2.1 hR, hL.2.2.2.2, pWords M hL.2.2.2.1⟩ ⟨pPc_blind, fun U hU hW => pPre M V U hU hW⟩ rfl hn hsz hst (lv_room hcat) hdg hf
theorem pr_IN (M : pM Z.1 p s m args c cc nL own) (V : pV Z h H0 H locs) {host : String} (hM : pMet l y bytes maxL none fr mc ms lo Z h (.ref (zB Z + o) :: As) Qc) (hL : pLI y bytes maxL n) (hl : Cond.methodLinkNest own index y host ∈ pNs)
    (hn : As.length = n) (hsz : ls.size = nL) (hst : st = As.reverse ++ .ref (zB Z + o) :: rest) (hcat : (rest.map fun v => v.category).sum ≤ 8) (hR : fr + 1 ≤ R.frames ∧ 8 + (maxL + 11) + lo ≤ R.locals) (hf : cells + mc ≤ R.cells ∧ slots + ms ≤ R.slots) (hdg : decode cc pc = .ok (.invokespecial index, 3)) :
    va_Run p l e R s m args below meth c H locs cells slots mc ms (F0 m pc ls st) rest (Qc (Value.ref (zB Z + o) :: As).toArray) (pA (zB Z)) :=
  va_runIN M.1 hM ⟨va_cnB n M.1.2.2.2.2 (pSub hL.1) rfl rfl rfl (M.2.2 _ hl) (pWords M hL.2.1) hL.2.2.1 hR, hL.2.2.2.2, pWords M hL.2.2.2.1⟩ ⟨pPc_blind, fun U hU hW => pPre M V U hU hW⟩ rfl hn hsz hst (lv_room hcat) hdg hf
theorem pV_call {Z' : pZ} {h' : pH} {H1 : Heap} {locs1 : List Loc} {t : State} (V : pV Z h H0 H locs) (ht : t.heap = H1) (hB : pB Z (Z', h') t) (hS : va_S (pA (zB Z)) H0 H1 locs1) : pV Z' h' H0 H1 locs1 := by
  obtain ⟨hb, hG, hw⟩ := hB
  have hb : zB Z' = zB Z := hb
  refine ⟨by rw [← ht]; exact hw, ?_, ?_⟩
  · rw [hb]; exact hS
  · rw [hb]; exact V.2.2
/-- behind a call: a number, nothing, a cell -/
theorem pk_i {post : Int32 → pZ → pH → Prop} {a : Array Value} (hr : va_Run p l e R s m args below meth c H locs cells slots mc ms (F0 m pc ls st) rest (pQi Z post a) (pA (zB Z))) (V : pV Z h H0 H locs)
    (kk : ∀ (r : Int32) (Z' : pZ) (h' : pH) (H1 : Heap) (locs1 : List Loc), post r Z' h' → zB Z' = zB Z → Z'.1 = Z.1 → pV Z' h' H0 H1 locs1 → W p l e R s m args below meth c H1 locs1 (cells + mc) (slots + ms) Q (F0 m (pc + 3) ls (.int r :: rest))) : W p l e R s m args below meth c H locs cells slots Q (F0 m pc ls st) :=
  va_calli hr V.2.1 (fun _ _ h9 => h9) (fun _ h9 => h9) (fun r u t H1 locs1 ht _ hw hB _ _ hS => kk r u.1 u.2 H1 locs1 hw hB.1 hB.2.1 (pV_call V ht hB hS))
theorem pk_v {post : pZ → pH → Prop} {a : Array Value} (hr : va_Run p l e R s m args below meth c H locs cells slots mc ms (F0 m pc ls st) rest (pQv Z post a) (pA (zB Z))) (V : pV Z h H0 H locs)
    (kk : ∀ (Z' : pZ) (h' : pH) (H1 : Heap) (locs1 : List Loc), post Z' h' → zB Z' = zB Z → Z'.1 = Z.1 → pV Z' h' H0 H1 locs1 → W p l e R s m args below meth c H1 locs1 (cells + mc) (slots + ms) Q (F0 m (pc + 3) ls rest)) : W p l e R s m args below meth c H locs cells slots Q (F0 m pc ls st) :=
  va_callv hr V.2.1 (fun _ _ h9 => h9) (fun _ h9 => h9) (fun u t H1 locs1 ht _ hw hB _ _ hS => kk u.1 u.2 H1 locs1 hw hB.1 hB.2.1 (pV_call V ht hB hS))
theorem pk_r {post : Nat → pZ → pH → Prop} {a : Array Value} (hr : va_Run p l e R s m args below meth c H locs cells slots mc ms (F0 m pc ls st) rest (pQr Z post a) (pA (zB Z))) (V : pV Z h H0 H locs)
    (kk : ∀ (o1 : Nat) (Z' : pZ) (h' : pH) (H1 : Heap) (locs1 : List Loc), post o1 Z' h' → zB Z' = zB Z → Z'.1 = Z.1 → pV Z' h' H0 H1 locs1 → W p l e R s m args below meth c H1 locs1 (cells + mc) (slots + ms) Q (F0 m (pc + 3) ls (.ref (zB Z' + o1) :: rest))) : W p l e R s m args below meth c H locs cells slots Q (F0 m pc ls st) := by
  refine va_callr hr V.2.1 (fun _ _ h9 => h9) (fun _ h9 => h9) (fun u a1 t H1 locs1 ht _ _ hB _ _ hS => ?_)
  obtain ⟨hB, o1, rfl, hp⟩ := hB
  have := kk o1 u.1 u.2 H1 locs1 hp hB.1 hB.2.1 (pV_call V ht hB hS)
  rw [hB.1] at this
  exact this
/-- the returns -/
theorem pe_i {post : Int32 → pZ → pH → Prop} {Z' : pZ} {h' : pH} {v : Int32} {rt : FieldType} (M : pM Z.1 p s m args c cc nL own) (V : pV Z' h' s.heap H locs) (hB : zB Z' = zB Z) (hG : Z'.1 = Z.1) (hr : meth.sig.returnType = some rt) (hlk : meth.locks = false) (hn : narrow rt (.int v) = .int v) (hp : post v Z' h') (hc : cells ≤ mc ∧ slots ≤ ms) (hdg : decode cc pc = .ok (.ireturn, 1)) :
    W p l e R s m args below meth c H locs cells slots (MQ below (pQi Z post) args s mc ms (pA (zB Z))) (F0 m pc ls [.int v]) := by
  refine W.widen (k := mc) (n := ms) hc.1 hc.2 ?_
  have hS : va_S (pA (zB Z)) s.heap H locs := by rw [← hB]; exact V.2.1
  exact W.zret M.1.1 M.1.2.1 hr hn (fun t ht hW => ⟨⟨v, (Z', h'), rfl, hp, hB, hG, by rw [ht]; exact V.1⟩, hS.F ht⟩) hS.2.2 hdg hlk
theorem pe_v {post : pZ → pH → Prop} {Z' : pZ} {h' : pH} (M : pM Z.1 p s m args c cc nL own) (V : pV Z' h' s.heap H locs) (hB : zB Z' = zB Z) (hG : Z'.1 = Z.1) (hr : meth.sig.returnType = none) (hlk : meth.locks = false) (hp : post Z' h') (hc : cells ≤ mc ∧ slots ≤ ms) (hdg : decode cc pc = .ok (.return_, 1)) :
    W p l e R s m args below meth c H locs cells slots (MQ below (pQv Z post) args s mc ms (pA (zB Z))) (F0 m pc ls []) := by
  refine W.widen (k := mc) (n := ms) hc.1 hc.2 ?_
  have hS : va_S (pA (zB Z)) s.heap H locs := by rw [← hB]; exact V.2.1
  exact W.vret M.1.1 M.1.2.1 hr (fun t ht hW => ⟨⟨(Z', h'), rfl, hp, hB, hG, by rw [ht]; exact V.1⟩, hS.F ht⟩) hS.2.2 hdg hlk
theorem pe_r {post : Nat → pZ → pH → Prop} {Z' : pZ} {h' : pH} {o1 : Nat} {rt : FieldType} (M : pM Z.1 p s m args c cc nL own) (V : pV Z' h' s.heap H locs) (hB : zB Z' = zB Z) (hG : Z'.1 = Z.1) (hr : meth.sig.returnType = some rt) (hrt : (∃ n, rt = .object n) ∨ ∃ t, rt = .array t) (hlk : meth.locks = false) (hp : post o1 Z' h') (hc : cells ≤ mc ∧ slots ≤ ms) (hdg : decode cc pc = .ok (.areturn, 1)) :
    W p l e R s m args below meth c H locs cells slots (MQ below (pQr Z post) args s mc ms (pA (zB Z))) (F0 m pc ls [.ref (zB Z + o1)]) := by
  refine W.widen (k := mc) (n := ms) hc.1 hc.2 ?_
  have hS : va_S (pA (zB Z)) s.heap H locs := by rw [← hB]; exact V.2.1
  exact W.aret M.1.1 M.1.2.1 hr hrt (Or.inr ⟨_, rfl⟩) (fun t ht hW => ⟨⟨(Z', h'), zB Z + o1, rfl, trivial, ⟨hB, hG, by rw [ht]; exact V.1⟩, o1, rfl, hp⟩, hS.F ht⟩) hS.2.2 hdg hlk
end PC
