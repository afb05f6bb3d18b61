/-! the law's own methods: they catch what the class throws -/
abbrev wMet (l : Launch) (y : MethodName) (cc : ByteArray) (maxL : Nat) (ret : Option FieldType) (hh : List (Nat × Nat × Nat × Nat)) (fr mc ms lo : Nat) (Z : pZ) (h : pH) (av : List Value) (Qc : Array Value → State → Outcome → State → Prop) : Prop :=
  vx_Met l y (Cond.codeWith y cc maxL ret hh :: pT) (pRm fr mc ms lo) (pPcX Z h av) Qc (fun _ _ _ => False) mc ms (pA (zB Z))
theorem wOfW {l : Launch} {y : MethodName} {cc : ByteArray} {maxL : Nat} {ret : Option FieldType} {hh : List (Nat × Nat × Nat × Nat)} {fr mc ms lo : Nat} {Z : pZ} {h : pH} {av : List Value} {Qc : Array Value → State → Outcome → State → Prop} {lv : List (Nat × Value)} (hy : plainName y.cls = true) (hn : (lg_sl av).length ≤ maxL) (hlv : lv_args 0 av = lv)
    (body : ∀ (p : Program) (e : Env) (s : State) (m : MethodId) (below : List Frame) (meth : Method) (c : Code) (ls : Array Slot), pM Z.1 p s m av.toArray c cc maxL y.cls → meth.sig.returnType = ret → meth.locks = false → meth.name = y.name → pV Z h s.heap s.heap [] → lv_has ls maxL lv → c.exceptionTable.toList = tableOf hh → pXS (zB Z) s →
      W p l e (pRm fr mc ms lo) s m av.toArray below meth c s.heap [] 0 0 (vx_MQ below Qc (fun _ _ _ => False) av.toArray s mc ms (pA (zB Z))) (F0 m 0 ls [])) : wMet l y cc maxL ret hh fr mc ms lo Z h av Qc := by
  refine vx_ofWH (cc := cc) (maxL := maxL) (ret := ret) (hh := hh) hy rfl ?_
  intro p e s m args below meth c s₁ B hml hv
  obtain ⟨rfl, hk, hw, hxs⟩ := hv
  have hts := atoms_spec (ws := Cond.codeWith y cc maxL ret hh :: pT) B.pre
  have htab := vx_table (x := y) B (hts _ List.mem_cons_self)
  have hl := lv_entry av (n := maxL) hn
  rw [hlv] at hl
  have hin : meth.name = y.name := (name_of_methodNamed B.named B.method).1
  rw [lg_entry_eq]
  generalize (lg_sl av ++ List.replicate (maxL - (lg_sl av).length) Slot.unset).toArray = ls at hl ⊢
  exact body p e s m below meth c ls ⟨⟨B.exec, B.bytes, hml, findClass_of_methodNamed B.named, fun w hw9 => hts w (List.mem_cons_of_mem _ hw9)⟩, hk⟩ B.returns B.notSynchronized hin ⟨hw, va_S.rf, hw.2.2⟩ hl htab hxs
/-- a long is stored -/
def pLq (Z : pZ) (o k : Nat) (v : Int64) : pZ := (Z.1, zB Z, zL Z, zK Z, zN Z, zR Z, fun x => if x = o then vp_updL (zQ Z o) k v else zQ Z x)
theorem pE_lq {Z : pZ} {h : pH} {o k : Nat} {v : Int64} (x : Nat) (hn : x ≠ o) : pE (pLq Z o k v) h x = pE Z h x := by
  have e1 : zQ (pLq Z o k v) x = zQ Z x := if_neg hn
  unfold pE pFs
  rw [e1]
  rfl
theorem pE_l {Z : pZ} {h : pH} {o : Nat} (hk : zK Z o = 18) : pE Z h o = .inl (zC Z 18, zN Z o, .inr (.inl (zQ Z o))) := by
  unfold pE
  rw [hk]
  rfl
section WR
variable {p : Program} {l : Launch} {e : Env} {R : Room} {s : State} {m : MethodId} {args : Array Value} {below : List Frame} {meth : Method} {c : Code} {H : Heap} {locs : List Loc} {cells slots : Nat} {Q : State → Prop}
variable {cc bytes : ByteArray} {nL pc maxL n fr mc ms lo index o ci : Nat} {own : String} {ls : Array Slot} {As rest st : List Value} {Z : pZ} {h : pH} {H0 : Heap} {y : MethodName} {ret : Option FieldType}
theorem gl_l (Z0 : pZ) (hB : zB Z = zB Z0) (hG : Z.1 = Z0.1) (M : pM Z.1 p s m args c cc nL own) (V : pV Z h H0 H locs) (I : Iv Z h) (K : pSk Z) (L : pLk Z h) {i : Int32} {x : Int64} (ho : pIs Z o 18) (hin : vp_in i (zN Z o)) (hdg : decode cc pc = .ok (.lastore, 1))
    (kk : ∀ (r : pY) (H1 : Heap) (locs1 : List Loc), pGr Z (gW Z0 r) → pSk (gW Z0 r) → Iv (gW Z0 r) h → pLk (gW Z0 r) h → pPh (gW Z0 r) = pPh Z → pV (gW Z0 r) h H0 H1 locs1 → W p l e R s m args below meth c H1 locs1 cells slots Q (F0 m (pc + 1) ls rest)) : W p l e R s m args below meth c H locs cells slots Q (F0 m pc ls (.long x :: .int i :: .ref (zB Z + o) :: rest)) := by
  obtain ⟨q0, hq⟩ := pWs_get (h := h) ho.1
  have hq1 := hq
  rw [pE_l ho.2] at hq
  refine va_last (D := zD Z) (cl := vwCl) M.1.1 M.1.2.1 M.2.1 V.1.1 V.1.2.1 V.2.1 q0 5 hq rfl hin hdg (fun H1 locs1 hP hD hS => ?_)
  have V1 : pV (pLq Z o i.toNatClampNeg x) h H0 H1 locs1 := pV_set V ho.1 hq1 rfl rfl rfl (by rw [pE_l (Z := pLq Z o i.toNatClampNeg x) ho.2, show zQ (pLq Z o i.toNatClampNeg x) o = vp_updL (zQ Z o) i.toNatClampNeg x from if_pos rfl]; rfl) (fun x hn => pE_lq x hn) hP hD hS
  have hw : pLq Z o i.toNatClampNeg x = gW Z0 (pLq Z o i.toNatClampNeg x).2.2 := gW_of hB hG
  have g1 : pGr Z (pLq Z o i.toNatClampNeg x) := fun z hz => ⟨hz, rfl, rfl, fun _ _ => rfl⟩
  have g2 : pSk (pLq Z o i.toNatClampNeg x) := K
  have g3 : Iv (pLq Z o i.toNatClampNeg x) h := I
  have g4 : pLk (pLq Z o i.toNatClampNeg x) h := L
  have g5 : pPh (pLq Z o i.toNatClampNeg x) = pPh Z := rfl
  rw [hw] at V1 g1 g2 g3 g4 g5
  exact kk _ H1 locs1 g1 g2 g3 g4 g5 V1
/-- behind a call of a method of the class: it answers, or has thrown -/
theorem xg_i (Z0 : pZ) {post : Int32 → pZ → pH → Nat → Nat → Prop} {px : String → pZ → pH → Nat → Nat → Prop} {a : Array Value} (hB : zB Z = zB Z0) (hG : Z.1 = Z0.1) (hr : vx_Run p l e R s m args below meth c H locs cells slots mc ms (F0 m pc ls st) rest (gQi Z post a) (gX Z px) (pA (zB Z))) (V : pV Z h H0 H locs)
    (kx : ∀ (E : String) (ce : Cell) (q9 : Addr) (r : pY) (h' : pH) (k n : Nat) (H1 : Heap) (locs1 : List Loc), px E (gW Z0 r) h' k n → pV (gW Z0 r) h' H0 H1 locs1 → H1[q9]? = some ce → ce.vm = .none → s.vm.findClass E = some ce.cls → vx_W p l e R s m args below meth c H1 locs1 (cells + k) (slots + n) Q (F0 m pc ls rest) q9)
    (kk : ∀ (v : Int32) (r : pY) (h' : pH) (k n : Nat) (H1 : Heap) (locs1 : List Loc), post v (gW Z0 r) h' k n → pV (gW Z0 r) h' H0 H1 locs1 → W p l e R s m args below meth c H1 locs1 (cells + k) (slots + n) Q (F0 m (pc + 3) ls (.int v :: rest))) : W p l e R s m args below meth c H locs cells slots Q (F0 m pc ls st) := by
  intro T hT X
  rcases hr T hT X with ⟨v, st₀, t, T', L, h0, X', hL, e1, e2, ⟨r, u, k, n, hv, hp, hb, hg, hF⟩, sg⟩ | ⟨q, st₀, t, T', L, E, ce, h0, X', hL, e1, e2, ⟨u, k, n, hp, hb, hg, hF⟩, hce, hcv, hcl, sg⟩
  · cases hv
    obtain ⟨V1, X1⟩ := g_after X hT V h0 X' hL e1 hb hg hF
    have hw := gW_of (hb.1.trans hB) (hb.2.1.trans hG)
    rw [hw] at hp V1
    obtain ⟨t2, a1, b1⟩ := kk r _ u.2 k n T'.heap (locs ++ L) hp V1 T' rfl X1
    exact ⟨t2, sg t2 a1, b1⟩
  · obtain ⟨V1, X1⟩ := g_after X hT V h0 X' hL e1 hb hg hF
    have hw := gW_of (hb.1.trans hB) (hb.2.1.trans hG)
    rw [hw] at hp V1
    obtain ⟨t2, a1, b1⟩ := kx E ce q _ u.2 k n T'.heap (locs ++ L) hp V1 (by rw [e1]; exact hce) hcv hcl T' rfl X1
    exact ⟨t2, sg.trans a1, b1⟩
theorem xg_v (Z0 : pZ) {post : pZ → pH → Nat → Nat → Prop} {px : String → pZ → pH → Nat → Nat → Prop} {a : Array Value} (hB : zB Z = zB Z0) (hG : Z.1 = Z0.1) (hr : vx_Run p l e R s m args below meth c H locs cells slots mc ms (F0 m pc ls st) rest (gQv Z post a) (gX Z px) (pA (zB Z))) (V : pV Z h H0 H locs)
    (kx : ∀ (E : String) (ce : Cell) (q9 : Addr) (r : pY) (h' : pH) (k n : Nat) (H1 : Heap) (locs1 : List Loc), px E (gW Z0 r) h' k n → pV (gW Z0 r) h' H0 H1 locs1 → H1[q9]? = some ce → ce.vm = .none → s.vm.findClass E = some ce.cls → vx_W p l e R s m args below meth c H1 locs1 (cells + k) (slots + n) Q (F0 m pc ls rest) q9)
    (kk : ∀ (r : pY) (h' : pH) (k n : Nat) (H1 : Heap) (locs1 : List Loc), post (gW Z0 r) h' k n → pV (gW Z0 r) h' H0 H1 locs1 → W p l e R s m args below meth c H1 locs1 (cells + k) (slots + n) Q (F0 m (pc + 3) ls rest)) : W p l e R s m args below meth c H locs cells slots Q (F0 m pc ls st) := by
  intro T hT X
  rcases hr T hT X with ⟨v, st₀, t, T', L, h0, X', hL, e1, e2, ⟨u, k, n, hv, hp, hb, hg, hF⟩, sg⟩ | ⟨q, st₀, t, T', L, E, ce, h0, X', hL, e1, e2, ⟨u, k, n, hp, hb, hg, hF⟩, hce, hcv, hcl, sg⟩
  · cases hv
    obtain ⟨V1, X1⟩ := g_after X hT V h0 X' hL e1 hb hg hF
    have hw := gW_of (hb.1.trans hB) (hb.2.1.trans hG)
    rw [hw] at hp V1
    obtain ⟨t2, a1, b1⟩ := kk _ u.2 k n T'.heap (locs ++ L) hp V1 T' rfl X1
    exact ⟨t2, sg t2 a1, b1⟩
  · obtain ⟨V1, X1⟩ := g_after X hT V h0 X' hL e1 hb hg hF
    have hw := gW_of (hb.1.trans hB) (hb.2.1.trans hG)
    rw [hw] at hp V1
    obtain ⟨t2, a1, b1⟩ := kx E ce q _ u.2 k n T'.heap (locs ++ L) hp V1 (by rw [e1]; exact hce) hcv hcl T' rfl X1
    exact ⟨t2, sg.trans a1, b1⟩
/-- a static call of such a method, which itself throws nothing -/
def pLW (y : MethodName) (cc : ByteArray) (maxL : Nat) (ret : Option FieldType) (hh : List (Nat × Nat × Nat × Nat)) (n : Nat) : Prop := Cond.codeWith y cc maxL ret hh ∈ pT ∧ Cond.initialized y.cls ∈ pT ∧ pNm y n ∧ Cond.static y ∈ pT
theorem wr_S {hh : List (Nat × Nat × Nat × Nat)} {Qc : Array Value → State → Outcome → State → Prop} (M : pM Z.1 p s m args c cc nL own) (V : pV Z h s.heap H locs) (X : pXS (zB Z) s) (hM : wMet l y bytes maxL ret hh fr mc ms lo Z h As Qc) (hL : pLW y bytes maxL ret hh n) (hl : Cond.methodLink own index y ∈ pT)
    (hn : As.length = n) (hsz : ls.size = nL) (hst : st = As.reverse ++ rest) (hcat : (rest.map fun v => v.category).sum ≤ 8) (hR : fr + 1 ≤ R.frames ∧ 8 + (maxL + 11) + lo ≤ R.locals) (hf : cells + mc ≤ R.cells ∧ slots + ms ≤ R.slots) (hdg : decode cc pc = .ok (.invokestatic index, 3)) :
    va_Run p l e R s m args below meth c H locs cells slots mc ms (F0 m pc ls st) rest (Qc As.toArray) (pA (zB Z)) := by
  have hg : GoodIn pT (va_wsS own index y (Cond.codeWith y bytes maxL ret hh :: pT)) := pGood (fun w hw => by
    simp only [va_wsS, List.mem_append, List.mem_cons, List.not_mem_nil, or_false] at hw
    rcases hw with (rfl | rfl | rfl) | rfl | hw
    · exact hl
    · exact hL.2.2.2
    · exact hL.2.1
    · exact hL.1
    · exact hw)
  have hrun : vx_Run p l e R s m args below meth c H locs cells slots mc ms (F0 m pc ls st) rest (Qc As.toArray) (fun _ _ _ => False) (pA (zB Z)) := vx_runSX (hh := hh) M.1 hM (vx_cwSW n M.1.2.2.2.2 hg rfl rfl rfl hL.2.2.1 hR) ⟨pPcX_blind, fun U hU hW => xPre M V X U hU hW⟩ (g := F0 m pc ls st) rfl hn hsz hst (lv_room hcat) hdg hf
  intro T hT X2
  rcases hrun T hT X2 with hA | ⟨q, st₀, t, T', L, E, ce, h0, X', hL2, e1, e2, hF, -⟩
  · exact hA
  · exact hF.elim
end WR
