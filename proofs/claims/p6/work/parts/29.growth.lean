/-! growth, step by step: the base stays, the rest of the world may be another -/
abbrev pY : Type := List Nat × (Nat → Nat) × (Nat → Nat) × (Nat → Nat → Option Nat) × (Nat → Nat → Int64)
abbrev gW (Z : pZ) (r : pY) : pZ := (Z.1, zB Z, r)
theorem gW_of {Z Z1 : pZ} (hB : zB Z1 = zB Z) (hG : Z1.1 = Z.1) : Z1 = gW Z Z1.2.2 := by
  obtain ⟨a, b, c⟩ := Z1
  have hB : b = zB Z := hB
  have hG : a = Z.1 := hG
  rw [hB, hG]
section GZ
variable {p : Program} {l : Launch} {e : Env} {R : Room} {s : State} {m : MethodId} {args : Array Value} {below : List Frame} {meth : Method} {c : Code} {H : Heap} {locs : List Loc} {cells slots : Nat} {Q : State → Prop}
variable {cc bytes : ByteArray} {nL pc maxL n fr mc ms lo index o ci : Nat} {own : String} {ls : Array Slot} {As rest st : List Value} {Z : pZ} {h : pH} {H0 : Heap} {y : MethodName} {ret : Option FieldType}
theorem pM.to (Z2 : pZ) (hG : Z2.1 = Z.1) (M : pM Z.1 p s m args c cc nL own) : pM Z2.1 p s m args c cc nL own := by rw [hG]; exact M
theorem gz_v (Z0 : pZ) {post : pZ → pH → Nat → Nat → Prop} {a : Array Value} (hB : zB Z = zB Z0) (hG : Z.1 = Z0.1) (hr : va_Run p l e R s m args below meth c H locs cells slots mc ms (F0 m pc ls st) rest (gQv Z post a) (pA (zB Z))) (V : pV Z h H0 H locs)
    (kk : ∀ (r : pY) (h' : pH) (k n : Nat) (H1 : Heap) (locs1 : List Loc), post (gW Z0 r) h' k n → pV (gW Z0 r) h' H0 H1 locs1 → W p l e R s m args below meth c H1 locs1 (cells + k) (slots + n) Q (F0 m (pc + 3) ls rest)) : W p l e R s m args below meth c H locs cells slots Q (F0 m pc ls st) := by
  refine gk_v hr V (fun Z' h' k n H1 locs1 hp b1 b2 V1 => ?_)
  rw [gW_of (b1.trans hB) (b2.trans hG)] at hp V1
  exact kk _ h' k n H1 locs1 hp V1
theorem gz_i (Z0 : pZ) {post : Int32 → pZ → pH → Nat → Nat → Prop} {a : Array Value} (hB : zB Z = zB Z0) (hG : Z.1 = Z0.1) (hr : va_Run p l e R s m args below meth c H locs cells slots mc ms (F0 m pc ls st) rest (gQi Z post a) (pA (zB Z))) (V : pV Z h H0 H locs)
    (kk : ∀ (v : Int32) (r : pY) (h' : pH) (k n : Nat) (H1 : Heap) (locs1 : List Loc), post v (gW Z0 r) h' k n → pV (gW Z0 r) h' H0 H1 locs1 → W p l e R s m args below meth c H1 locs1 (cells + k) (slots + n) Q (F0 m (pc + 3) ls (.int v :: rest))) : W p l e R s m args below meth c H locs cells slots Q (F0 m pc ls st) := by
  refine gk_i hr V (fun v Z' h' k n H1 locs1 hp b1 b2 V1 => ?_)
  rw [gW_of (b1.trans hB) (b2.trans hG)] at hp V1
  exact kk v _ h' k n H1 locs1 hp V1
theorem gz_room (Z0 : pZ) (hB : zB Z = zB Z0) (hG : Z.1 = Z0.1) (M : pM Z.1 p s m args c cc nL RX9) (V : pV Z h H0 H locs) (S : pSh Z) (I : Iv Z h) (K : pSk Z) (sk kf M0 : Nat) (hsk : sk = 129 ∨ sk = 132) (hkf : (kf = 0 ∧ M0 = 120000) ∨ (kf = 1 ∧ M0 = 160000)) {k : Int32} (hk : k.toInt ≤ 80000 ∧ 2 * k.toInt ≤ (M0 : Int)) (hsz : ls.size = nL)
    (hl1 : Cond.methodLink RX9 81 yX9_withRoom ∈ pT) (hl2 : Cond.fieldLink RX9 index (TX9 kf).1 (TX9 kf).2.1 (TX9 kf).2.2.1 ∈ pT) (hcat : ((Value.ref (zB Z + sk) :: rest).map fun v => v.category).sum ≤ 8) (hR : 2 + 1 ≤ R.frames ∧ 8 + (2 + 11) + 48 ≤ R.locals) (hf : cells + 1 ≤ R.cells ∧ slots + 160000 ≤ R.slots) (d1 : decode cc pc = .ok (.invokestatic 81, 3)) (d2 : decode cc (pc + 3) = .ok (.putfield index, 3))
    (kk : ∀ (r : pY) (h2 : pH) (k9 n9 : Nat) (H1 : Heap) (locs1 : List Loc), pGr Z (gW Z0 r) → pSk (gW Z0 r) → Iv (gW Z0 r) h2 → agrD [] h h2 → k.toInt ≤ (zN (gW Z0 r) (qA (gW Z0 r) sk kf) : Int) ∧ zN Z (qA Z sk kf) ≤ zN (gW Z0 r) (qA (gW Z0 r) sk kf) → (∀ s' k', (s' = 129 ∨ s' = 132) → (k' = 0 ∨ k' = 1) → ¬ (s' = sk ∧ k' = kf) → zN (gW Z0 r) (qA (gW Z0 r) s' k') = zN Z (qA Z s' k')) → k9 ≤ pPh (gW Z0 r) - pPh Z ∧ n9 ≤ 2 * (pPh (gW Z0 r) - pPh Z) ∧ pPh Z ≤ pPh (gW Z0 r) → (∀ x, x ∈ zL Z → h2 x = h x) → pV (gW Z0 r) h2 H0 H1 locs1 → W p l e R s m args below meth c H1 locs1 (cells + k9) (slots + n9) Q (F0 m (pc + 3 + 3) ls rest)) :
    W p l e R s m args below meth c H locs cells slots Q (F0 m pc ls (.int k :: .ref (zB Z + qA Z sk kf) :: .ref (zB Z + sk) :: rest)) := by
  refine g_room M V S I K sk kf M0 hsk hkf hk hsz hl1 hl2 hcat hR hf d1 d2 (fun Z2 h2 k9 n9 H1 locs1 b1 b2 g1 g2 g3 g4 g5 g6 g7 g8 V1 => ?_)
  rw [gW_of (b1.trans hB) (b2.trans hG)] at g1 g2 g3 g5 g6 g7 V1
  exact kk _ h2 k9 n9 H1 locs1 g1 g2 g3 g4 g5 g6 g7 g8 V1
/-- a field of a box, an area or a window is written: as a call that writes nothing that is told -/
theorem gp_i {C : String} {T : u_T} {N : Nat} {ty : Nat → FieldType} (M : pM Z.1 p s m args c cc nL own) (V : pV Z h H0 H locs) (I : Iv Z h) (S : pSh Z) (ci k : Nat) {v : Int32} (ho : pIs Z o ci) (hc : [0, 2, 7].contains ci = true) (hC : pCl ci C T N ty) (hk : k < N ∧ pRf ci k = false) (hfin : (T k).2.2.2 = false) (hlink : Cond.fieldLink own index (T k).1 (T k).2.1 (T k).2.2.1 ∈ pT) (hn : narrow (ty k) (.int v) = .int v ∧ fits (ty k) (.int v) = true) (hv : (ivF ci o k).1 ≤ v.toInt ∧ v.toInt ≤ (ivF ci o k).2) (hdg : decode cc pc = .ok (.putfield index, 3))
    (kk : ∀ (H1 : Heap) (locs1 : List Loc) (h1 : pH), Iv Z h1 → agrD [] h h1 → pV Z h1 H0 H1 locs1 → W p l e R s m args below meth c H1 locs1 cells slots Q (F0 m (pc + 3) ls rest)) : W p l e R s m args below meth c H locs cells slots Q (F0 m pc ls (.int v :: .ref (zB Z + o) :: rest)) :=
  pp_i M V ci k ho hC hk hfin hlink hn hdg (fun H1 locs1 V1 => kk H1 locs1 _ (I.up ho hv) (agrD.rf.upS S ho hc) V1)
/-- a place of a row of a sketch is written -/
theorem gs_i (M : pM Z.1 p s m args c cc nL own) (V : pV Z h H0 H locs) (I : Iv Z h) {i x : Int32} (ho : pIs Z o 13) (hd : dFr o) (hin : vp_in i (zN Z o)) (hdg : decode cc pc = .ok (.iastore, 1))
    (kk : ∀ (H1 : Heap) (locs1 : List Loc) (h1 : pH), Iv Z h1 → agrD [] h h1 → pV Z h1 H0 H1 locs1 → W p l e R s m args below meth c H1 locs1 cells slots Q (F0 m (pc + 1) ls rest)) : W p l e R s m args below meth c H locs cells slots Q (F0 m pc ls (.int x :: .int i :: .ref (zB Z + o) :: rest)) :=
  ps_i M V ho hin hdg (fun H1 locs1 V1 => kk H1 locs1 _ (I.upN ho hd) (agrD.rf.upN hd.1) V1)
/-- a row of a sketch is copied into -/
theorem gc_i {o0 o1 : Nat} {sp dp n : Int32} (M : pM Z.1 p s m args c cc nL own) (V : pV Z h H0 H locs) (I : Iv Z h) (h0 : pIs Z o0 13) (h1 : pIs Z o1 13) (hd : dFr o1) (hsz : ls.size = nL)
    (hl : Cond.methodLink own index arraycopyName ∈ pT) (hk : Cond.native arraycopyName ∈ pT ∧ Cond.static arraycopyName ∈ pT ∧ Cond.initialized "java/lang/System" ∈ pT) (hs : 0 ≤ sp.toInt ∧ 0 ≤ dp.toInt ∧ 0 ≤ n.toInt ∧ sp.toInt + n.toInt ≤ (zN Z o0 : Int) ∧ dp.toInt + n.toInt ≤ (zN Z o1 : Int))
    (hR : 1 ≤ R.frames ∧ (rest.map fun v => v.category).sum + (nativeFrameWords "java/lang/System" "arraycopy" 5 + 11) ≤ R.locals) (hdg : decode cc pc = .ok (.invokestatic index, 3))
    (kk : ∀ (H1 : Heap) (locs1 : List Loc) (h1 : pH), Iv Z h1 → agrD [] h h1 → (∀ x, x ≠ o1 → h1 x = h x) → pV Z h1 H0 H1 locs1 → W p l e R s m args below meth c H1 locs1 cells slots Q (F0 m (pc + 3) ls rest)) : W p l e R s m args below meth c H locs cells slots Q (F0 m pc ls (.int n :: .int dp :: .ref (zB Z + o1) :: .int sp :: .ref (zB Z + o0) :: rest)) :=
  pa_copy M V h0 h1 hsz hl hk hs hR hdg (fun H1 locs1 f V1 => kk H1 locs1 _ (I.up1 h1 hd.2) (agrD.rf.up1N hd.1) (fun x hx => u1_ne hx) V1)
end GZ
theorem pLk.gr {Z Z1 : pZ} {h h1 : pH} (L : pLk Z h) (a : agrD [] h h1) (e1 : zN Z (qA Z 129 0) ≤ zN Z1 (qA Z1 129 0)) (e2 : zN Z (qA Z 129 1) ≤ zN Z1 (qA Z1 129 1)) : pLk Z1 h1 := by
  unfold pLk
  rw [a.get 129 2 (by decide), a.get 129 3 (by decide)]
  have := L.1
  have := L.2
  omega
theorem pIs.ne {Z : pZ} {a b x y : Nat} (ha : pIs Z a x) (hb : pIs Z b y) (h : x ≠ y) : a ≠ b := by
  intro e
  subst e
  exact h (ha.2.symm.trans hb.2)
