/-! THE WORLD GROWS: rows of the sketches made anew, and what they cost -/
/-- the slots of all cells from number b on -/
def wS (b : Nat) (H : Heap) : Nat := ((H.toList.drop b).map (·.slots.size)).sum
/-- at most k cells and n slots are new -/
def gH (H0 H1 : Heap) (k n : Nat) : Prop := H0.size ≤ H1.size ∧ H1.size ≤ H0.size + k ∧ ∀ b, b ≤ H0.size → wS b H1 ≤ wS b H0 + n
theorem gH.rf {H : Heap} (k n : Nat) : gH H H k n := ⟨Nat.le_refl _, Nat.le_add_right _ _, fun _ _ => Nat.le_add_right _ _⟩
theorem gH.tr {H0 H1 H2 : Heap} {k n k' n' : Nat} (a : gH H0 H1 k n) (b : gH H1 H2 k' n') : gH H0 H2 (k + k') (n + n') := by
  refine ⟨Nat.le_trans a.1 b.1, by have := a.2.1; have := b.2.1; omega, fun q hq => ?_⟩
  have h1 := a.2.2 q hq
  have h2 := b.2.2 q (Nat.le_trans hq a.1)
  omega
theorem gH.mono {H0 H1 : Heap} {k n k' n' : Nat} (a : gH H0 H1 k n) (h1 : k ≤ k') (h2 : n ≤ n') : gH H0 H1 k' n' := ⟨a.1, by have := a.2.1; omega, fun q hq => by have := a.2.2 q hq; omega⟩
theorem wS_split {b n : Nat} {H : Heap} (h : b ≤ n) : wS b H = (((H.toList.drop b).take (n - b)).map (·.slots.size)).sum + wS n H := by
  unfold wS
  have e : H.toList.drop b = (H.toList.drop b).take (n - b) ++ H.toList.drop n := by
    conv => lhs; rw [← List.take_append_drop (n - b) (H.toList.drop b)]
    rw [List.drop_drop, show b + (n - b) = n by omega]
  conv => lhs; rw [e]
  rw [List.map_append, List.sum_append]
theorem wS_end {H : Heap} : wS H.size H = 0 := by
  unfold wS
  rw [List.drop_eq_nil_of_le (by rw [Array.length_toList]; exact Nat.le_refl _)]
  rfl
theorem gH.of {s s' : State} {locs : List Loc} {k n : Nat} (h : s.sameButNew s' locs k n) : gH s.heap s'.heap k n := by
  obtain ⟨-, h1, h2, -, h4, h5⟩ := h
  refine ⟨h1, h2, fun b hb => ?_⟩
  rw [wS_split (H := s'.heap) hb, wS_split (H := s.heap) hb, wS_end]
  have e : ((s'.heap.toList.drop b).take (s.heap.size - b)).map (·.slots.size) = ((s.heap.toList.drop b).take (s.heap.size - b)).map (·.slots.size) := by
    apply List.ext_getElem?
    intro i
    rw [List.getElem?_map, List.getElem?_map]
    by_cases hi : i < s.heap.size - b
    · rw [List.getElem?_take_of_lt hi, List.getElem?_take_of_lt hi, List.getElem?_drop, List.getElem?_drop, Array.getElem?_toList, Array.getElem?_toList]
      have hl : b + i < s.heap.size := by omega
      obtain ⟨c', q1, -, q3, -⟩ := h5 (b + i) (s.heap[b + i]) (Array.getElem?_eq_getElem hl)
      rw [q1, Array.getElem?_eq_getElem hl]
      show some c'.slots.size = some _
      rw [q3]
    · rw [List.getElem?_eq_none (by rw [List.length_take]; omega), List.getElem?_eq_none (by rw [List.length_take]; omega)]
  rw [e]
  have h6 : wS s.heap.size s'.heap ≤ n := h4
  omega
section GW
variable {p : Program} {l : Launch} {e : Env} {R : Room} {s : State} {m : MethodId} {args : Array Value} {below : List Frame} {meth : Method} {c : Code} {H : Heap} {locs : List Loc} {cells slots : Nat} {Q : State → Prop}
theorem g_stand {T : State} {k n : Nat} (X : Stand p l e R s m args below meth c T locs cells slots) (hg : gH s.heap T.heap k n) : Stand p l e R s m args below meth c T locs k n := by
  have h := X.same
  obtain ⟨h0, h1, h2, h3, h4, h5⟩ := h
  have h6 : wS s.heap.size T.heap ≤ n := by
    have := hg.2.2 s.heap.size (Nat.le_refl _)
    rw [wS_end] at this
    omega
  exact { X with same := ⟨h0, h1, hg.2.1, h3, h6, h5⟩ }
/-- the books, by what the heap holds -/
theorem g_tight {g : JFrame} {k n : Nat} (hg : gH s.heap H k n) (kk : W p l e R s m args below meth c H locs k n Q g) : W p l e R s m args below meth c H locs cells slots Q g := fun T hT X => kk T hT (g_stand X (by rw [hT]; exact hg))
theorem g_tightX {g : JFrame} {q : Addr} {k n : Nat} (hg : gH s.heap H k n) (kk : vx_W p l e R s m args below meth c H locs k n Q g q) : vx_W p l e R s m args below meth c H locs cells slots Q g q := fun T hT X => kk T hT (g_stand X (by rw [hT]; exact hg))
/-- what the books say of the heap -/
theorem g_know {g : JFrame} (kk : gH s.heap H cells slots → W p l e R s m args below meth c H locs cells slots Q g) : W p l e R s m args below meth c H locs cells slots Q g := fun T hT X => kk (by have h9 := gH.of X.same; rw [← hT]; exact h9) T hT X
theorem g_knowX {g : JFrame} {q : Addr} (kk : gH s.heap H cells slots → vx_W p l e R s m args below meth c H locs cells slots Q g q) : vx_W p l e R s m args below meth c H locs cells slots Q g q := fun T hT X => kk (by have h9 := gH.of X.same; rw [← hT]; exact h9) T hT X
end GW
/-- the world Z, grown to Z1 -/
def pGr (Z Z1 : pZ) : Prop := ∀ o, o ∈ zL Z → o ∈ zL Z1 ∧ zK Z1 o = zK Z o ∧ zN Z1 o = zN Z o ∧ (o ≠ 129 → o ≠ 132 → zR Z1 o = zR Z o)
theorem pGr.rf {Z : pZ} : pGr Z Z := fun _ h => ⟨h, rfl, rfl, fun _ _ => rfl⟩
theorem pGr.tr {Z Z1 Z2 : pZ} (a : pGr Z Z1) (b : pGr Z1 Z2) : pGr Z Z2 := fun o h => by
  obtain ⟨a1, a2, a3, a4⟩ := a o h
  obtain ⟨b1, b2, b3, b4⟩ := b o a1
  exact ⟨b1, b2.trans a2, b3.trans a3, fun h1 h2 => (b4 h1 h2).trans (a4 h1 h2)⟩
theorem pGr.is {Z Z1 : pZ} (a : pGr Z Z1) {o c : Nat} (h : pIs Z o c) : pIs Z1 o c := ⟨(a o h.1).1, (a o h.1).2.1.trans h.2⟩
set_option maxRecDepth 100000 in
theorem pRT_ne : ∀ o k t, (k, t) ∈ pRT o → o < 189 ∧ o ≠ 129 ∧ o ≠ 132 := by
  intro o k t h
  have key : ∀ (L : List (Nat × List (Nat × Nat))), (∀ q ∈ L, q.1 < 189 ∧ q.1 ≠ 129 ∧ q.1 ≠ 132) → (k, t) ∈ (L.find? (fun q => q.1 == o)).elim [] (fun q => q.2) → o < 189 ∧ o ≠ 129 ∧ o ≠ 132 := by
    intro L hL hm
    cases hf : L.find? (fun q => q.1 == o) with
    | none => rw [hf] at hm; cases hm
    | some q =>
      have h1 := hL q (List.mem_of_find?_eq_some hf)
      have h2 := List.find?_some hf
      simp only [beq_iff_eq] at h2
      rw [h2] at h1
      exact h1
  exact key _ (by decide) h
theorem pSh.gr {Z Z1 : pZ} (S : pSh Z) (hB : zB Z1 = zB Z) (a : pGr Z Z1) : pSh Z1 := by
  refine ⟨fun o ho => a.is (S.1 o ho), fun o ho h1 h2 => ((a o (S.1 o ho).1).2.2.1).trans (S.2.1 o ho h1 h2), fun o k t h => ?_⟩
  obtain ⟨h1, h2, h3⟩ := pRT_ne o k t h
  rw [(a o (S.1 o h1).1).2.2.2 h2 h3, hB]
  exact S.2.2 o k t h
theorem pGr.clip {Z Z1 : pZ} (a : pGr Z Z1) (S : pSh Z) (hB : zB Z1 = zB Z) {o : Nat} (h : pIs Z o 0 ∧ zR Z o 0 = some (zB Z + (o + 1)) ∧ pIs Z (o + 1) 2) : pIs Z1 o 0 ∧ zR Z1 o 0 = some (zB Z1 + (o + 1)) ∧ pIs Z1 (o + 1) 2 := by
  refine ⟨a.is h.1, ?_, a.is h.2.2⟩
  have n1 : o ≠ 129 := by intro e; subst e; have h1 := (S.is 129 (by decide)).2; rw [h.1.2] at h1; exact absurd h1 (by decide)
  have n2 : o ≠ 132 := by intro e; subst e; have h1 := (S.is 132 (by decide)).2; rw [h.1.2] at h1; exact absurd h1 (by decide)
  rw [(a o h.1.1).2.2.2 n1 n2, hB]
  exact h.2.1
/-- the rows of the two sketches: where they lie, how long they are -/
def qA (Z : pZ) (sk k : Nat) : Nat := (zR Z sk k).getD 0 - zB Z
def dFr (o : Nat) : Prop := dOk o = false ∧ ∀ k, ivF 13 o k = ivFu
def pRow (Z : pZ) (sk k M : Nat) : Prop := zR Z sk k = some (zB Z + qA Z sk k) ∧ pIs Z (qA Z sk k) 13 ∧ dFr (qA Z sk k) ∧ zN Z (qA Z sk k) ≤ M
def pSk (Z : pZ) : Prop := pRow Z 129 0 120000 ∧ pRow Z 129 1 160000 ∧ pRow Z 132 0 120000 ∧ pRow Z 132 1 160000
def pPh (Z : pZ) : Nat := zN Z (qA Z 129 0) + zN Z (qA Z 129 1) + zN Z (qA Z 132 0) + zN Z (qA Z 132 1)
def pLk (Z : pZ) (h : pH) : Prop := 6 * (h 129 2).toInt ≤ (zN Z (qA Z 129 0) : Int) ∧ 8 * (h 129 3).toInt ≤ (zN Z (qA Z 129 1) : Int)
theorem pSk.ph {Z : pZ} (K : pSk Z) : pPh Z ≤ 560000 := by
  have h1 := K.1.2.2.2
  have h2 := K.2.1.2.2.2
  have h3 := K.2.2.1.2.2.2
  have h4 := K.2.2.2.2.2.2
  unfold pPh
  omega
theorem pLk.congr {Z : pZ} {h h1 : pH} (L : pLk Z h) (e1 : h1 129 2 = h 129 2) (e2 : h1 129 3 = h 129 3) : pLk Z h1 := by
  unfold pLk
  rw [e1, e2]
  exact L
set_option maxRecDepth 100000 in
theorem dFr_ge {o : Nat} (h : 189 ≤ o) : dFr o := by
  refine ⟨?_, fun k => ?_⟩
  · unfold dOk
    rw [decide_eq_false (by omega)]
    rfl
  · unfold ivF
    rw [if_neg (by decide)]
    unfold ivAr
    rw [List.getD_eq_getElem?_getD, List.getElem?_eq_none (by exact Nat.le_trans (by decide) h)]
    rfl
theorem Iv.upN {Z : pZ} {h : pH} (I : Iv Z h) {o k : Nat} {v : Int32} (ho : pIs Z o 13) (hf : dFr o) : Iv Z (u2 h o k v) := I.up ho (by rw [hf.2]; exact pi_full _)
/-- a new cell -/
def pAdd (Z : pZ) (o c n : Nat) : pZ := (Z.1, zB Z, zL Z ++ [o], fun x => if x = o then c else zK Z x, fun x => if x = o then n else zN Z x, fun x => if x = o then fun _ => none else zR Z x, fun x => if x = o then fun _ => 0 else zQ Z x)
theorem pAdd_K {Z : pZ} {o c n : Nat} : zK (pAdd Z o c n) o = c := if_pos rfl
theorem pAdd_N {Z : pZ} {o c n : Nat} : zN (pAdd Z o c n) o = n := if_pos rfl
theorem pAdd_K' {Z : pZ} {o c n x : Nat} (h : x ≠ o) : zK (pAdd Z o c n) x = zK Z x := if_neg h
theorem pAdd_N' {Z : pZ} {o c n x : Nat} (h : x ≠ o) : zN (pAdd Z o c n) x = zN Z x := if_neg h
theorem pAdd_R' {Z : pZ} {o c n x : Nat} (h : x ≠ o) : zR (pAdd Z o c n) x = zR Z x := if_neg h
theorem pAdd_Q' {Z : pZ} {o c n x : Nat} (h : x ≠ o) : zQ (pAdd Z o c n) x = zQ Z x := if_neg h
theorem pAdd_is {Z : pZ} {o c n : Nat} : pIs (pAdd Z o c n) o c := ⟨List.mem_append_right _ (List.mem_singleton.mpr rfl), pAdd_K⟩
theorem pAdd_gr {Z : pZ} {o c n : Nat} (h : o ∉ zL Z) : pGr Z (pAdd Z o c n) := fun x hx => by
  have hn : x ≠ o := fun e => h (e ▸ hx)
  exact ⟨List.mem_append_left _ hx, pAdd_K' hn, pAdd_N' hn, fun _ _ => pAdd_R' hn⟩
theorem pE_add {Z : pZ} {h : pH} {o c n : Nat} {f : Nat → Int32} (x : Nat) (hn : x ≠ o) : pE (pAdd Z o c n) (u1 h o f) x = pE Z h x := by
  unfold pE pFs
  rw [pAdd_K' hn, pAdd_N' hn, pAdd_R' hn, pAdd_Q' hn, u1_ne hn]
  rfl
theorem pWs_add {Z : pZ} {h : pH} {o c n : Nat} {f : Nat → Int32} (hn : o ∉ zL Z) : pWs (pAdd Z o c n) (u1 h o f) = pWs Z h ++ [(zB Z + o, pE (pAdd Z o c n) (u1 h o f) o)] := by
  have hL : zL (pAdd Z o c n) = zL Z ++ [o] := rfl
  have hB : zB (pAdd Z o c n) = zB Z := rfl
  unfold pWs va_pl
  rw [hL, List.map_append, List.map_append]
  congr 1
  · rw [hB]
    apply List.map_congr_left
    intro a ha
    obtain ⟨x, hx, rfl⟩ := List.mem_map.mp ha
    have hxo : x ≠ o := fun e => hn (e ▸ hx)
    congr 1
    unfold pF
    rw [hB, Nat.add_sub_cancel_left]
    exact pE_add x hxo
  · show [(zB Z + o, pF _ _ (zB Z + o))] = _
    unfold pF
    rw [hB, Nat.add_sub_cancel_left]
theorem Iv.add {Z : pZ} {h : pH} (I : Iv Z h) {o c n : Nat} (hv : ∀ k, (ivF c o k).1 ≤ 0 ∧ 0 ≤ (ivF c o k).2) : Iv (pAdd Z o c n) (u1 h o (fun _ => 0)) := by
  intro x k
  by_cases hx : x = o
  · subst hx
    rw [pAdd_K, u1_eq]
    exact hv k
  · rw [pAdd_K' hx, u1_ne hx]
    exact I x k
section GN
variable {p : Program} {l : Launch} {e : Env} {R : Room} {s : State} {m : MethodId} {args : Array Value} {below : List Frame} {meth : Method} {c : Code} {H : Heap} {locs : List Loc} {cells slots : Nat} {Q : State → Prop}
variable {cc bytes : ByteArray} {nL pc maxL n fr mc ms lo index o ci : Nat} {own : String} {ls : Array Slot} {As rest st : List Value} {Z : pZ} {h : pH} {H0 : Heap} {y : MethodName} {ret : Option FieldType}
/-- newarray -/
theorem pn_a (M : pM Z.1 p s m args c cc nL own) (V : pV Z h H0 H locs) {atype : ArrayType} {ci N : Nat} {k : Int32} (hk : (ci = 13 ∧ newarray.typeOf atype = .int) ∨ (ci = 14 ∧ newarray.typeOf atype = .boolean) ∨ (ci = 18 ∧ newarray.typeOf atype = .long)) (hw : Cond.arrayClass (newarray.typeOf atype) ∈ pT)
    (hn : 0 ≤ k.toInt) (hN : k.toNatClampNeg = N) (hbytes : N ≤ 1000000) (hc : cells + 1 ≤ R.cells ∧ slots + N ≤ R.slots) (hdg : decode cc pc = .ok (.newarray atype, 2))
    (kk : ∀ (o1 : Nat) (H1 : Heap), zB Z + o1 = H.size → H1.size = H.size + 1 → o1 ∉ zL Z → pV (pAdd Z o1 ci N) (u1 h o1 (fun _ => 0)) H0 H1 locs → W p l e R s m args below meth c H1 locs (cells + 1) (slots + N) Q (F0 m (pc + 2) ls (.ref (zB Z + o1) :: rest))) : W p l e R s m args below meth c H locs cells slots Q (F0 m pc ls (.int k :: rest)) := by
  have z0 : (0 : Int32).toInt = 0 := rfl
  refine va_newaK M.1.1 M.1.2.1 (pWords M hw) rfl hdg rfl (by rw [pi_lt, z0]; omega) hN (by rcases hk with ⟨-, e9⟩ | ⟨-, e9⟩ | ⟨-, e9⟩ <;> rw [e9] <;> simp only [componentBytes] <;> omega) hc.1 hc.2 rfl fun H1 cA e1 z1 o1 hAr hNm => ?_
  have hB : zB Z ≤ H.size := V.1.2.2
  obtain ⟨o, ho⟩ : ∃ o, zB Z + o = H.size := ⟨H.size - zB Z, by omega⟩
  have hnew : o ∉ zL Z := by
    intro hm
    obtain ⟨q0, hq⟩ := pWs_get (h := h) hm
    have h9 := (V.1.1 q0 _ hq).lt
    have h8 : zB Z + o < H.size := h9
    omega
  have hcA : cA = zC Z ci := by
    have hK := M.2.1.2
    rcases hk with ⟨e8, e9⟩ | ⟨e8, e9⟩ | ⟨e8, e9⟩ <;> subst e8 <;> rw [e9] at hNm
    · have h7 := (hK 0 (zC Z 13, .int) rfl).2
      exact Option.some.inj (hNm.symm.trans h7)
    · have h7 := (hK 1 (zC Z 14, .boolean) rfl).2
      exact Option.some.inj (hNm.symm.trans h7)
    · have h7 := (hK 5 (zC Z 18, .long) rfl).2
      exact Option.some.inj (hNm.symm.trans h7)
  have hE : ∃ a0 : vp_A, pE (pAdd Z o ci N) (u1 h o (fun _ => 0)) o = .inl (cA, a0) ∧ vp_cell cA a0 = arrV cA N (fun _ => defaultValue (newarray.typeOf atype)) := by
    rcases hk with ⟨e8, e9⟩ | ⟨e8, e9⟩ | ⟨e8, e9⟩ <;> subst e8 <;> rw [e9] <;> subst hcA
    · exact ⟨(N, .inl (fun _ => 0)), by rw [pE_arr pAdd_K (Or.inl rfl), pAdd_N, u1_eq]; rfl, rfl⟩
    · exact ⟨(N, .inl (fun _ => 0)), by rw [pE_arr pAdd_K (Or.inr rfl), pAdd_N, u1_eq]; rfl, rfl⟩
    · refine ⟨(N, .inr (.inl (fun _ => 0))), ?_, rfl⟩
      unfold pE
      rw [pAdd_K, if_neg (by decide), if_neg (by decide), if_neg (by decide), pAdd_N, show zQ (pAdd Z o 18 N) o = (fun _ => 0) from if_pos rfl]
      rfl
  obtain ⟨a0, hE1, hE2⟩ := hE
  have hkp : ∀ (k : Nat) (x : Nat × va_E), (pWs Z h)[k]? = some x → H1[x.1]? = H[x.1]? := fun k x hx => o1 x.1 ((V.1.1 k x hx).lt)
  have hw1 := pWs_add (h := h) (c := ci) (n := N) (f := fun _ => 0) hnew
  rw [hE1] at hw1
  have hP : va_P (zD Z) vwCl (pWs (pAdd Z o ci N) (u1 h o (fun _ => 0))) H1 := by
    rw [hw1]
    refine (V.1.1.kept hkp).app (fun k x hx => ?_)
    have hz : k < 1 := (List.getElem?_eq_some_iff.mp hx).1
    rw [show k = 0 by omega] at hx
    cases hx
    show H1[zB Z + o]? = some (vp_cell _ _)
    rw [hE2, ho]
    exact e1
  have hD : va_D (pA (zB Z)) (pWs (pAdd Z o ci N) (u1 h o (fun _ => 0))) := by
    rw [hw1, ho]
    exact V.1.2.1.push V.1.1 rfl hB
  have hS : va_S (pA (zB Z)) H0 H1 locs := ⟨Nat.le_trans V.2.1.1 (by omega), fun x h1 h2 => (o1 x (Nat.lt_of_lt_of_le h1 V.2.1.1)).trans (V.2.1.2.1 x h1 h2), V.2.1.2.2⟩
  have := kk o H1 ho z1 hnew ⟨⟨hP, hD, by show zB Z ≤ H1.size; omega⟩, hS, V.2.2⟩
  rw [ho] at this
  exact this
/-- the ends of methods that may grow the world: how much they made -/
def gQv (Z : pZ) (post : pZ → pH → Nat → Nat → Prop) : Array Value → State → Outcome → State → Prop := fun _ st oc t => ∃ (u : pZ × pH) (k n : Nat), oc = .returned none ∧ post u.1 u.2 k n ∧ pB Z u t ∧ gH st.heap t.heap k n ∧ va_F (pA (zB Z)) st t
def gQi (Z : pZ) (post : Int32 → pZ → pH → Nat → Nat → Prop) : Array Value → State → Outcome → State → Prop := fun _ st oc t => ∃ (r : Int32) (u : pZ × pH) (k n : Nat), oc = .returned (some (.int r)) ∧ post r u.1 u.2 k n ∧ pB Z u t ∧ gH st.heap t.heap k n ∧ va_F (pA (zB Z)) st t
def gQr (Z : pZ) (post : Nat → pZ → pH → Nat → Nat → Prop) : Array Value → State → Outcome → State → Prop := fun _ st oc t => ∃ (o1 : Nat) (u : pZ × pH) (k n : Nat), oc = .returned (some (.ref (zB Z + o1))) ∧ post o1 u.1 u.2 k n ∧ pB Z u t ∧ gH st.heap t.heap k n ∧ va_F (pA (zB Z)) st t
theorem g_after {T T' t st₀ : State} {L : List Loc} {u : pZ × pH} {k n mc ms : Nat} (X : Stand p l e R s m args below meth c T locs cells slots) (hT : T.heap = H) (V : pV Z h H0 H locs) (h0 : st₀.heap = H) (X' : Stand p l e R s m args below meth c T' (locs ++ L) (cells + mc) (slots + ms)) (hL : ∀ q ∈ L, pA (zB Z) q.base) (e1 : T'.heap = t.heap) (hB : pB Z u t) (hg : gH st₀.heap t.heap k n) (hF : va_F (pA (zB Z)) st₀ t) :
    pV u.1 u.2 H0 T'.heap (locs ++ L) ∧ Stand p l e R s m args below meth c T' (locs ++ L) (cells + k) (slots + n) := by
  obtain ⟨hz, hk⟩ := hF
  rw [h0] at hz hk hg
  have g1 : gH s.heap H cells slots := by
    have := gH.of X.same
    rw [← hT]
    exact this
  refine ⟨pV_call V e1.symm hB ⟨Nat.le_trans V.2.1.1 (by rw [e1]; exact hz), fun q h1 h2 => by rw [e1, hk q (Nat.lt_of_lt_of_le h1 V.2.1.1) h2]; exact V.2.1.2.1 q h1 h2, fun q hq => by
      rcases List.mem_append.mp hq with h | h
      · exact V.2.1.2.2 q h
      · exact hL q h⟩, g_stand X' (by rw [e1]; exact g1.tr hg)⟩
theorem gk_v {post : pZ → pH → Nat → Nat → Prop} {a : Array Value} (hr : va_Run p l e R s m args below meth c H locs cells slots mc ms (F0 m pc ls st) rest (gQv Z post a) (pA (zB Z))) (V : pV Z h H0 H locs)
    (kk : ∀ (Z' : pZ) (h' : pH) (k n : Nat) (H1 : Heap) (locs1 : List Loc), post Z' h' k n → zB Z' = zB Z → Z'.1 = Z.1 → pV Z' h' H0 H1 locs1 → W p l e R s m args below meth c H1 locs1 (cells + k) (slots + n) Q (F0 m (pc + 3) ls rest)) : W p l e R s m args below meth c H locs cells slots Q (F0 m pc ls st) := by
  intro T hT X
  obtain ⟨v, st₀, t, T', L, h0, X', hL, e1, e2, ⟨u, k, n, hv, hp, hb, hg, hF⟩, sg⟩ := hr T hT X
  cases hv
  obtain ⟨V1, X1⟩ := g_after X hT V h0 X' hL e1 hb hg hF
  obtain ⟨t2, a1, b1⟩ := kk u.1 u.2 k n T'.heap (locs ++ L) hp hb.1 hb.2.1 V1 T' rfl X1
  exact ⟨t2, sg t2 a1, b1⟩
theorem gk_i {post : Int32 → pZ → pH → Nat → Nat → Prop} {a : Array Value} (hr : va_Run p l e R s m args below meth c H locs cells slots mc ms (F0 m pc ls st) rest (gQi Z post a) (pA (zB Z))) (V : pV Z h H0 H locs)
    (kk : ∀ (r : Int32) (Z' : pZ) (h' : pH) (k n : Nat) (H1 : Heap) (locs1 : List Loc), post r Z' h' k n → zB Z' = zB Z → Z'.1 = Z.1 → pV Z' h' H0 H1 locs1 → W p l e R s m args below meth c H1 locs1 (cells + k) (slots + n) Q (F0 m (pc + 3) ls (.int r :: rest))) : W p l e R s m args below meth c H locs cells slots Q (F0 m pc ls st) := by
  intro T hT X
  obtain ⟨v, st₀, t, T', L, h0, X', hL, e1, e2, ⟨r, u, k, n, hv, hp, hb, hg, hF⟩, sg⟩ := hr T hT X
  cases hv
  obtain ⟨V1, X1⟩ := g_after X hT V h0 X' hL e1 hb hg hF
  obtain ⟨t2, a1, b1⟩ := kk r u.1 u.2 k n T'.heap (locs ++ L) hp hb.1 hb.2.1 V1 T' rfl X1
  exact ⟨t2, sg t2 a1, b1⟩
theorem gk_r {post : Nat → pZ → pH → Nat → Nat → Prop} {a : Array Value} (hr : va_Run p l e R s m args below meth c H locs cells slots mc ms (F0 m pc ls st) rest (gQr Z post a) (pA (zB Z))) (V : pV Z h H0 H locs)
    (kk : ∀ (o1 : Nat) (Z' : pZ) (h' : pH) (k n : Nat) (H1 : Heap) (locs1 : List Loc), post o1 Z' h' k n → zB Z' = zB Z → Z'.1 = Z.1 → pV Z' h' H0 H1 locs1 → W p l e R s m args below meth c H1 locs1 (cells + k) (slots + n) Q (F0 m (pc + 3) ls (.ref (zB Z + o1) :: rest))) : W p l e R s m args below meth c H locs cells slots Q (F0 m pc ls st) := by
  intro T hT X
  obtain ⟨v, st₀, t, T', L, h0, X', hL, e1, e2, ⟨o1, u, k, n, hv, hp, hb, hg, hF⟩, sg⟩ := hr T hT X
  cases hv
  obtain ⟨V1, X1⟩ := g_after X hT V h0 X' hL e1 hb hg hF
  obtain ⟨t2, a1, b1⟩ := kk o1 u.1 u.2 k n T'.heap (locs ++ L) hp hb.1 hb.2.1 V1 T' rfl X1
  exact ⟨t2, sg t2 a1, b1⟩
/-- the returns -/
theorem ge_v {post : pZ → pH → Nat → Nat → Prop} {Z' : pZ} {h' : pH} (M : pM Z'.1 p s m args c cc nL own) (V : pV Z' h' s.heap H locs) (hB : zB Z' = zB Z) (hG : Z'.1 = Z.1) (hr : meth.sig.returnType = none) (hlk : meth.locks = false) (hp : post Z' h' cells slots) (hc : cells ≤ mc ∧ slots ≤ ms) (hdg : decode cc pc = .ok (.return_, 1)) :
    W p l e R s m args below meth c H locs cells slots (MQ below (gQv Z post) args s mc ms (pA (zB Z))) (F0 m pc ls []) := by
  refine g_know fun g0 => W.widen (k := mc) (n := ms) hc.1 hc.2 ?_
  have hS : va_S (pA (zB Z)) s.heap H locs := by rw [← hB]; exact V.2.1
  exact W.vret M.1.1 M.1.2.1 hr (fun t ht hW => ⟨(Z', h'), cells, slots, rfl, hp, ⟨hB, hG, by rw [ht]; exact V.1⟩, by rw [ht]; exact g0, hS.F ht⟩) hS.2.2 hdg hlk
theorem ge_i {post : Int32 → pZ → pH → Nat → Nat → Prop} {Z' : pZ} {h' : pH} {v : Int32} {rt : FieldType} (M : pM Z'.1 p s m args c cc nL own) (V : pV Z' h' s.heap H locs) (hB : zB Z' = zB Z) (hG : Z'.1 = Z.1) (hr : meth.sig.returnType = some rt) (hlk : meth.locks = false) (hn : narrow rt (.int v) = .int v) (hp : post v Z' h' cells slots) (hc : cells ≤ mc ∧ slots ≤ ms) (hdg : decode cc pc = .ok (.ireturn, 1)) :
    W p l e R s m args below meth c H locs cells slots (MQ below (gQi Z post) args s mc ms (pA (zB Z))) (F0 m pc ls [.int v]) := by
  refine g_know fun g0 => W.widen (k := mc) (n := ms) hc.1 hc.2 ?_
  have hS : va_S (pA (zB Z)) s.heap H locs := by rw [← hB]; exact V.2.1
  exact W.zret M.1.1 M.1.2.1 hr hn (fun t ht hW => ⟨v, (Z', h'), cells, slots, rfl, hp, ⟨hB, hG, by rw [ht]; exact V.1⟩, by rw [ht]; exact g0, hS.F ht⟩) hS.2.2 hdg hlk
theorem ge_r {post : Nat → pZ → pH → Nat → Nat → Prop} {Z' : pZ} {h' : pH} {o1 : Nat} {rt : FieldType} (M : pM Z'.1 p s m args c cc nL own) (V : pV Z' h' s.heap H locs) (hB : zB Z' = zB Z) (hG : Z'.1 = Z.1) (hr : meth.sig.returnType = some rt) (hrt : (∃ n, rt = .object n) ∨ ∃ t, rt = .array t) (hlk : meth.locks = false) (hp : post o1 Z' h' cells slots) (hc : cells ≤ mc ∧ slots ≤ ms) (hdg : decode cc pc = .ok (.areturn, 1)) :
    W p l e R s m args below meth c H locs cells slots (MQ below (gQr Z post) args s mc ms (pA (zB Z))) (F0 m pc ls [.ref (zB Z + o1)]) := by
  refine g_know fun g0 => W.widen (k := mc) (n := ms) hc.1 hc.2 ?_
  have hS : va_S (pA (zB Z)) s.heap H locs := by rw [← hB]; exact V.2.1
  exact W.aret M.1.1 M.1.2.1 hr hrt (Or.inr ⟨_, rfl⟩) (fun t ht hW => ⟨o1, (Z', h'), cells, slots, rfl, hp, ⟨hB, hG, by rw [ht]; exact V.1⟩, by rw [ht]; exact g0, hS.F ht⟩) hS.2.2 hdg hlk
/-- putfield of a reference into a field that isn't final -/
def pRe (Z : pZ) (o k : Nat) (a : Option Nat) : pZ := (Z.1, zB Z, zL Z, zK Z, zN Z, fun x => if x = o then (fun j => if j = k then a else zR Z o j) else zR Z x, zQ Z)
theorem pRe_R' {o k x : Nat} {a : Option Nat} (h : x ≠ o) : zR (pRe Z o k a) x = zR Z x := if_neg h
theorem pRe_R {o k : Nat} {a : Option Nat} : zR (pRe Z o k a) o = fun j => if j = k then a else zR Z o j := if_pos rfl
theorem pE_re {o k : Nat} {a : Option Nat} (x : Nat) (hn : x ≠ o) : pE (pRe Z o k a) h x = pE Z h x := by
  unfold pE pFs
  rw [show zK (pRe Z o k a) = zK Z from rfl, show zN (pRe Z o k a) = zN Z from rfl, pRe_R' hn]
  rfl
theorem pFs_re {o ci k : Nat} {a : Option Nat} (hk : zK Z o = ci) (hr : pRf ci k = true) : pFs (pRe Z o k a) h o = (pFs Z h o).set k (va_rf a) := by
  unfold pFs
  rw [show zK (pRe Z o k a) = zK Z from rfl, hk, pRe_R]
  apply List.ext_getElem?
  intro j
  rw [List.getElem?_set]
  by_cases hj : k = j
  · subst hj
    by_cases hl : k < pNf ci
    · rw [List.getElem?_map, List.getElem?_range hl]
      simp [hr, hl]
    · rw [List.getElem?_eq_none (by rw [List.length_map, List.length_range]; omega)]
      simp [hl]
  · rw [if_neg hj, List.getElem?_map, List.getElem?_map]
    by_cases hl : j < pNf ci
    · rw [List.getElem?_range hl]
      simp [Ne.symm hj]
    · rw [List.getElem?_eq_none (by rw [List.length_range]; omega)]
      rfl
theorem pp_r {C : String} {T : u_T} {N : Nat} {ty : Nat → FieldType} (M : pM Z.1 p s m args c cc nL own) (V : pV Z h H0 H locs) (ci k : Nat) {a : Nat} (ho : pIs Z o ci) (hC : pCl ci C T N ty) (hk : k < N ∧ pRf ci k = true) (hfin : (T k).2.2.2 = false) (hlink : Cond.fieldLink own index (T k).1 (T k).2.1 (T k).2.2.1 ∈ pT) (hn : narrow (ty k) (.ref a) = .ref a ∧ fits (ty k) (.ref a) = true) (hdg : decode cc pc = .ok (.putfield index, 3))
    (kk : ∀ (H1 : Heap) (locs1 : List Loc), pV (pRe Z o k (some a)) h H0 H1 locs1 → W p l e R s m args below meth c H1 locs1 cells slots Q (F0 m (pc + 3) ls rest)) : W p l e R s m args below meth c H locs cells slots Q (F0 m pc ls (.ref a :: .ref (zB Z + o) :: rest)) := by
  obtain ⟨q0, hq⟩ := pWs_get (h := h) ho.1
  have hq1 := hq
  rw [pE_obj ho.2 hC.2.2.2.2.1] at hq
  refine va_put (D := zD Z) (cl := vwCl) (ci := ci) (ref := (T k).1) M.1.1 M.1.2.1 M.1.2.2.2.2 hC.2.1 ty hC.2.2.1 hC.2.2.2.1 M.1.2.2.2.1 M.2.1 V.1.1 V.1.2.1 V.2.1 q0 hq hC.1 k hk.1 (M.1.2.2.2.2 _ hlink) (fun _ h9 => h9) hfin (hC.2.2.1 k hk.1) hn.1 hn.2 (by rw [pFs_len ho.2, hC.2.2.2.2.2]; exact hk.1) hdg (fun H1 locs1 hP hD hS => ?_)
  have hk9 : zK (pRe Z o k (some a)) o = ci := ho.2
  exact kk H1 locs1 (pV_set V ho.1 hq1 rfl rfl rfl (by rw [pE_obj hk9 hC.2.2.2.2.1, pFs_re ho.2 hk.2]; rfl) (fun o' hn => pE_re o' hn) hP hD hS)
end GN
