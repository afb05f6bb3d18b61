/-! THE MAKING OF THE WORLD: cell by cell, reference by reference, number by number, in the order in which the constructors do it -/
def kRL : List (Nat × Nat × Nat) := [(2, 0, 3), (2, 1, 4), (2, 2, 5), (1, 0, 2), (1, 1, 6), (1, 2, 7), (1, 3, 8), (1, 4, 9), (0, 0, 1), (10, 0, 11), (10, 1, 12), (10, 2, 13), (11, 0, 14), (11, 1, 15), (11, 2, 16), (11, 3, 17), (11, 4, 18), (11, 5, 19), (11, 6, 20), (11, 7, 21), (0, 1, 10), (22, 0, 23), (22, 1, 24), (22, 2, 25), (22, 3, 26), (22, 4, 27), (26, 0, 28), (26, 1, 29), (26, 2, 30), (26, 3, 31), (26, 4, 32), (26, 5, 33), (26, 6, 34), (26, 7, 35), (0, 2, 22), (36, 0, 37), (36, 1, 38), (36, 2, 39), (40, 0, 41), (36, 3, 40), (42, 0, 43), (39, 0, 42), (44, 0, 45), (39, 1, 44), (46, 0, 47), (39, 2, 46), (48, 0, 49), (39, 3, 48), (50, 0, 51), (39, 4, 50), (52, 0, 53), (39, 5, 52), (54, 0, 55), (39, 6, 54), (56, 0, 57), (39, 7, 56), (58, 0, 59), (39, 8, 58), (60, 0, 61), (39, 9, 60), (62, 0, 63), (39, 10, 62), (64, 0, 65), (39, 11, 64), (66, 0, 67), (39, 12, 66), (68, 0, 69), (39, 13, 68), (70, 0, 71), (39, 14, 70), (72, 0, 73), (39, 15, 72), (74, 0, 75), (39, 16, 74), (76, 0, 77), (39, 17, 76), (78, 0, 79), (39, 18, 78), (80, 0, 81), (39, 19, 80), (82, 0, 83), (39, 20, 82), (84, 0, 85), (39, 21, 84), (86, 0, 87), (39, 22, 86), (88, 0, 89), (39, 23, 88), (90, 0, 91), (39, 24, 90), (92, 0, 93), (39, 25, 92), (94, 0, 95), (39, 26, 94), (96, 0, 97), (39, 27, 96), (98, 0, 99), (39, 28, 98), (100, 0, 101), (39, 29, 100), (102, 0, 103), (39, 30, 102), (104, 0, 105), (39, 31, 104), (106, 0, 107), (39, 32, 106), (108, 0, 109), (39, 33, 108), (110, 0, 111), (39, 34, 110), (112, 0, 113), (39, 35, 112), (114, 0, 115), (39, 36, 114), (116, 0, 117), (39, 37, 116), (118, 0, 119), (39, 38, 118), (120, 0, 121), (39, 39, 120), (0, 3, 36), (0, 4, 122), (123, 0, 124), (123, 1, 125), (123, 2, 126), (123, 3, 127), (123, 4, 128), (0, 5, 123), (129, 0, 130), (129, 1, 131), (0, 6, 129), (132, 0, 133), (132, 1, 134), (0, 7, 132), (0, 8, 135), (0, 9, 136), (137, 1, 138), (137, 10, 139), (137, 11, 140), (137, 12, 141), (137, 17, 142), (137, 24, 143), (137, 26, 144), (137, 29, 145), (137, 30, 146), (137, 31, 147), (137, 32, 148), (137, 33, 149), (137, 34, 150), (137, 35, 151), (137, 36, 152), (137, 37, 153), (137, 38, 154), (137, 39, 155), (137, 42, 156), (137, 43, 157), (137, 44, 158), (137, 45, 159), (137, 46, 160), (137, 47, 161), (137, 51, 162), (137, 52, 163), (137, 53, 164), (137, 54, 165), (137, 55, 166), (137, 57, 167), (137, 59, 168), (137, 60, 169), (137, 61, 170), (137, 62, 171), (137, 63, 172), (137, 64, 173), (137, 65, 174), (137, 66, 175), (137, 67, 176), (137, 68, 177), (137, 69, 178), (137, 72, 179), (137, 73, 180), (137, 74, 181), (137, 75, 182), (137, 76, 183), (137, 77, 184), (137, 78, 185), (137, 80, 186), (137, 81, 187)]
def kXL : List (Nat × Nat × Int32) := [(12, 0, 0), (10, 3, (-1)), (10, 4, (-1)), (10, 5, (-1)), (14, 0, 12), (13, 0, 0), (15, 0, 12), (13, 1, 1), (16, 0, 12), (13, 2, 2), (17, 0, 12), (13, 3, 3), (18, 0, 12), (13, 4, 4), (19, 0, 12), (13, 5, 5), (20, 0, 12), (13, 6, 6), (21, 0, 12), (13, 7, 7), (22, 6, (-1)), (137, 23, (-1)), (137, 40, (-1)), (137, 50, (-1)), (137, 71, (-1)), (151, 0, 0), (151, 1, 1), (151, 2, 2), (151, 3, 3), (151, 4, 4), (151, 5, 5), (151, 6, 6), (151, 7, 7), (151, 8, 8)]
def lk {α : Type} (L : List (Nat × Nat × α)) (o k : Nat) : Option α := (L.find? (fun q => q.1 == o && q.2.1 == k)).map (fun q => q.2.2)
theorem lk_none {α : Type} {L : List (Nat × Nat × α)} {o : Nat} (h : L.all (fun q => q.1 != o) = true) (k : Nat) : lk L o k = none := by
  unfold lk
  rw [List.find?_eq_none.mpr ?_]
  · rfl
  · intro q hq
    have h1 := List.all_eq_true.mp h q hq
    simp only [bne_iff_ne, ne_eq] at h1
    simp [h1]
theorem lk_snoc {α : Type} {L : List (Nat × Nat × α)} {o k : Nat} {v : α} (h : lk L o k = none) (o1 k1 : Nat) : lk (L ++ [(o, k, v)]) o1 k1 = if o1 = o ∧ k1 = k then some v else lk L o1 k1 := by
  unfold lk
  rw [List.find?_append]
  by_cases e : o1 = o ∧ k1 = k
  · obtain ⟨rfl, rfl⟩ := e
    unfold lk at h
    rw [Option.map_eq_none_iff] at h
    rw [if_pos ⟨rfl, rfl⟩, h]
    simp
  · rw [if_neg e]
    have h1 : List.find? (fun q : Nat × Nat × α => q.1 == o1 && q.2.1 == k1) [(o, k, v)] = none := by
      rw [List.find?_eq_none]
      intro q hq
      rw [List.mem_singleton.mp hq]
      simp only [Bool.and_eq_true, beq_iff_eq]
      exact fun z => e ⟨z.1.symm, z.2.symm⟩
    rw [h1, Option.or_none]
theorem lk_take {α : Type} {L : List (Nat × Nat × α)} {r : Nat} {q : Nat × Nat × α} (h : L[r]? = some q) : L.take (r + 1) = L.take r ++ [q] := by
  rw [List.take_succ, h]
  rfl
def lkR (r B o k : Nat) : Option Nat := (lk (kRL.take r) o k).map (fun t => B + t)
def lkI (x o k : Nat) : Int32 := (lk (kXL.take x) o k).getD 0
/-- n cells, r references, x numbers are there -/
def pMk (n r x : Nat) (Z : pZ) (h : pH) : Prop := zL Z = List.range n ∧ (∀ o, o < n → zK Z o = pKT.getD o 99 ∧ zN Z o = pNT.getD o 0) ∧ (∀ o k, zR Z o k = lkR r (zB Z) o k) ∧ ∀ o k, h o k = lkI x o k
def okN (n r x c N : Nat) : Bool := pKT.getD n 99 == c && pNT.getD n 0 == N && (kRL.take r).all (fun q => q.1 != n) && (kXL.take x).all (fun q => q.1 != n)
def okR (r o k t : Nat) : Bool := kRL[r]? == some (o, k, t) && (lk (kRL.take r) o k).isNone
def okI (x o k : Nat) (v : Int32) : Bool := kXL[x]? == some (o, k, v) && (lk (kXL.take x) o k).isNone
theorem mk_new {n r x c N : Nat} {Z : pZ} {h : pH} (P : pMk n r x Z h) (ok : okN n r x c N = true) : pMk (n + 1) r x (pAdd Z n c N) (u1 h n (fun _ => 0)) := by
  obtain ⟨p1, p2, p3, p4⟩ := P
  simp only [okN, Bool.and_eq_true, beq_iff_eq] at ok
  obtain ⟨⟨⟨k1, k2⟩, k3⟩, k4⟩ := ok
  refine ⟨?_, fun o ho => ?_, fun o k => ?_, fun o k => ?_⟩
  · show zL Z ++ [n] = _
    rw [p1, List.range_succ]
  · by_cases e : o = n
    · subst e
      rw [pAdd_K, pAdd_N, k1, k2]
      exact ⟨rfl, rfl⟩
    · rw [pAdd_K' e, pAdd_N' e]
      exact p2 o (by omega)
  · by_cases e : o = n
    · subst e
      rw [show zR (pAdd Z o c N) o = (fun _ => none) from if_pos rfl]
      unfold lkR
      rw [lk_none k3 k]
      rfl
    · rw [pAdd_R' e]
      exact p3 o k
  · by_cases e : o = n
    · subst e
      rw [u1_eq]
      unfold lkI
      rw [lk_none k4 k]
      rfl
    · rw [u1_ne e]
      exact p4 o k
theorem mk_ref {n r x o k t : Nat} {Z : pZ} {h : pH} (P : pMk n r x Z h) (ok : okR r o k t = true) : pMk n (r + 1) x (pRe Z o k (some (zB Z + t))) h := by
  obtain ⟨p1, p2, p3, p4⟩ := P
  simp only [okR, Bool.and_eq_true, beq_iff_eq, Option.isNone_iff_eq_none] at ok
  refine ⟨p1, p2, fun o1 k1 => ?_, p4⟩
  show _ = lkR (r + 1) (zB Z) o1 k1
  unfold lkR
  rw [lk_take ok.1, lk_snoc ok.2]
  by_cases e1 : o1 = o
  · subst e1
    rw [pRe_R]
    by_cases e2 : k1 = k
    · rw [if_pos ⟨rfl, e2⟩]
      exact if_pos e2
    · rw [if_neg (fun z => e2 z.2)]
      exact (if_neg e2).trans (p3 o1 k1)
  · rw [pRe_R' e1, if_neg (fun z => e1 z.1)]
    exact p3 o1 k1
theorem mk_int {n r x o k : Nat} {v : Int32} {Z : pZ} {h : pH} (P : pMk n r x Z h) (ok : okI x o k v = true) : pMk n r (x + 1) Z (u2 h o k v) := by
  obtain ⟨p1, p2, p3, p4⟩ := P
  simp only [okI, Bool.and_eq_true, beq_iff_eq, Option.isNone_iff_eq_none] at ok
  refine ⟨p1, p2, p3, fun o1 k1 => ?_⟩
  unfold lkI
  rw [lk_take ok.1, lk_snoc ok.2]
  by_cases e1 : o1 = o
  · subst e1
    rw [u2_eq]
    by_cases e2 : k1 = k
    · subst e2
      rw [if_pos ⟨rfl, rfl⟩]
      exact if_pos rfl
    · rw [if_neg (fun z => e2 z.2), show upd (h o1) k v k1 = h o1 k1 from if_neg e2]
      exact p4 o1 k1
  · rw [u2_ne e1, if_neg (fun z => e1 z.1)]
    exact p4 o1 k1
theorem pMk.is {n r x : Nat} {Z : pZ} {h : pH} (P : pMk n r x Z h) {o c : Nat} (ho : o < n) (hc : pKT.getD o 99 = c) : pIs Z o c := ⟨by rw [P.1]; exact List.mem_range.mpr ho, by rw [(P.2.1 o ho).1]; exact hc⟩
theorem pMk.ref {n r x : Nat} {Z : pZ} {h : pH} (P : pMk n r x Z h) {o k t : Nat} (hr : lk (kRL.take r) o k = some t) : zR Z o k = some (zB Z + t) := by
  rw [P.2.2.1]
  unfold lkR
  rw [hr]
  rfl
theorem pMk.len {n r x : Nat} {Z : pZ} {h : pH} (P : pMk n r x Z h) {o N : Nat} (ho : o < n) (hc : pNT.getD o 0 = N) : zN Z o = N := by rw [(P.2.1 o ho).2]; exact hc
theorem mk_size {n r x n0 cells slots : Nat} {Z : pZ} {h : pH} {s : State} {H : Heap} {locs : List Loc} (V : pV Z h s.heap H locs) (P : pMk n r x Z h) (hs : s.heap.size = zB Z + n0) (g0 : gH s.heap H cells slots) (hc : n0 + cells = n) : H.size = zB Z + n := by
  have h1 := g0.2.1
  have h2 := g0.1
  by_cases hn : n = 0
  · omega
  · have hm : n - 1 ∈ zL Z := by rw [P.1]; exact List.mem_range.mpr (by omega)
    obtain ⟨q0, hq⟩ := pWs_get (h := h) hm
    have h9 : zB Z + (n - 1) < H.size := (V.1.1 q0 _ hq).lt
    omega
/-- what a constructor stands on -/
def pAO (U : State) : Prop := va_AO RX0 U ∧ va_AO RX2 U ∧ va_AO RX7 U
def pPcN (n : Nat) (Z : pZ) (h : pH) (av : List Value) : Array Value → State → Prop := va_Pc av (fun U => pKn Z.1 U ∧ pW0 Z h U.heap ∧ U.heap.size = zB Z + n ∧ pAO U)
theorem pAO.alike {u U : State} (hvm : u.vm.Alike U.vm) (h : pAO u) : pAO U := ⟨h.1.moved hvm, h.2.1.moved hvm, h.2.2.moved hvm⟩
theorem pPcN_blind {n : Nat} {Z : pZ} {h : pH} {av : List Value} : FrameBlind (pPcN n Z h av) := fun a U g mk q => by
  obtain ⟨q0, q1, q2, q3, q4⟩ := q
  exact ⟨q0, pKn.same (u := U) (U := U.calling g mk a) rfl q1, q2, q3, pAO.alike (u := U) (U := U.calling g mk a) (Vm.Alike.refl _) q4⟩
abbrev nMet (l : Launch) (y : MethodName) (cc : ByteArray) (maxL : Nat) (fr mc ms lo n : Nat) (Z : pZ) (h : pH) (av : List Value) (Qc : Array Value → State → Outcome → State → Prop) : Prop :=
  Met l y (Cond.code y cc maxL none :: pT) (pRm fr mc ms lo) (pPcN n Z h av) Qc mc ms (pA (zB Z))
theorem nOfW {l : Launch} {y : MethodName} {cc : ByteArray} {maxL : Nat} {fr mc ms lo n : Nat} {Z : pZ} {h : pH} {av : List Value} {Qc : Array Value → State → Outcome → State → Prop} {lv : List (Nat × Value)} (hy : plainName y.cls = true) (hn : (lg_sl av).length ≤ maxL) (hlv : lv_args 0 av = lv)
    (body : ∀ (p : Program) (e : Env) (s : State) (m : MethodId) (below : List Frame) (meth : Method) (c : Code) (ls : Array Slot), pM Z.1 p s m av.toArray c cc maxL y.cls → meth.sig.returnType = none → meth.locks = false → meth.name = y.name → pV Z h s.heap s.heap [] → lv_has ls maxL lv → s.heap.size = zB Z + n → pAO s →
      W p l e (pRm fr mc ms lo) s m av.toArray below meth c s.heap [] 0 0 (MQ below Qc av.toArray s mc ms (pA (zB Z))) (F0 m 0 ls [])) : nMet l y cc maxL fr mc ms lo n Z h av Qc := by
  refine Met.ofW (cc := cc) (maxL := maxL) (ret := none) hy rfl ?_
  intro p e s m args below meth c s₁ B hml hv
  obtain ⟨rfl, hk, hw, hsz, hao⟩ := hv
  have hts := atoms_spec (ws := Cond.code y cc maxL none :: pT) B.pre
  have hl := lv_entry av (n := maxL) hn
  rw [hlv] at hl
  have hin : meth.name = y.name := (name_of_methodNamed B.named B.method).1
  rw [lg_entry_eq]
  generalize (lg_sl av ++ List.replicate (maxL - (lg_sl av).length) Slot.unset).toArray = ls at hl ⊢
  exact body p e s m below meth c ls ⟨⟨B.exec, B.bytes, hml, findClass_of_methodNamed B.named, fun w hw9 => hts w (List.mem_cons_of_mem _ hw9)⟩, hk⟩ B.returns B.notSynchronized hin ⟨hw, va_S.rf, hw.2.2⟩ hl hsz hao
/-- a new object's fields -/
def pD (ci : Nat) : List Value := (List.range (pNf ci)).map (fun k => if pRf ci k = true then va_rf none else .int 0)
theorem pFs_new {Z : pZ} {h : pH} {n ci : Nat} : pFs (pAdd Z n ci 0) (u1 h n (fun _ => 0)) n = pD ci := by
  unfold pFs pD
  rw [pAdd_K, show zR (pAdd Z n ci 0) n = (fun _ => none) from if_pos rfl, u1_eq]
