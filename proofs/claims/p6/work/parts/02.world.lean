/-! THE WORLD: all cells that the law makes, by numbers from the base on. A cell's kind: 0 .. 12 the objects of the classes X0 .. X12, 13 int[], 14 boolean[], 15 Area[], 16 Box[], 17 Pane[], 18 long[]. -/
abbrev pG : Type := va_G × (Nat → ClassId)
abbrev pZ : Type := pG × Nat × List Nat × (Nat → Nat) × (Nat → Nat) × (Nat → Nat → Option Nat) × (Nat → Nat → Int64)
abbrev pH : Type := Nat → Nat → Int32
abbrev zD (Z : pZ) : va_G := Z.1.1
abbrev zC (Z : pZ) : Nat → ClassId := Z.1.2
abbrev zB (Z : pZ) : Nat := Z.2.1
abbrev zL (Z : pZ) : List Nat := Z.2.2.1
abbrev zK (Z : pZ) : Nat → Nat := Z.2.2.2.1
abbrev zN (Z : pZ) : Nat → Nat := Z.2.2.2.2.1
abbrev zR (Z : pZ) : Nat → Nat → Option Nat := Z.2.2.2.2.2.1
abbrev zQ (Z : pZ) : Nat → Nat → Int64 := Z.2.2.2.2.2.2
def pNf (c : Nat) : Nat := [12, 9, 4, 7, 5, 16, 7, 14, 6, 6, 6, 12, 88].getD c 0
def pRl : List (List Nat) := [[0], [], [], [0, 1, 2], [0, 1, 2], [0, 1, 2, 3, 4], [0, 1, 2, 3, 4], [], [0, 1, 2, 3], [0, 1], [0, 1, 2, 3, 4], [0, 1, 2, 3, 4, 5, 6, 7, 8, 9], [1, 10, 11, 12, 17, 24, 26, 29, 30, 31, 32, 33, 34, 35, 36, 37, 38, 39, 42, 43, 44, 45, 46, 47, 51, 52, 53, 54, 55, 57, 59, 60, 61, 62, 63, 64, 65, 66, 67, 68, 69, 72, 73, 74, 75, 76, 77, 78, 80, 81]]
/-- is this field of that kind a reference? -/
def pRf (c k : Nat) : Bool := (pRl.getD c []).contains k
def pFs (Z : pZ) (h : pH) (o : Nat) : List Value := (List.range (pNf (zK Z o))).map (fun k => if pRf (zK Z o) k = true then va_rf (zR Z o k) else .int (h o k))
/-- what the cell of number o is -/
def pE (Z : pZ) (h : pH) (o : Nat) : va_E :=
  if zK Z o < 13 then .inr (zK Z o, pFs Z h o)
  else if zK Z o < 15 then .inl (zC Z (zK Z o), zN Z o, .inl (h o))
  else if zK Z o < 18 then .inl (zC Z (zK Z o), zN Z o, .inr (.inr (.inr (.inr (zR Z o)))))
  else .inl (zC Z 18, zN Z o, .inr (.inl (zQ Z o)))
def pF (Z : pZ) (h : pH) (a : Nat) : va_E := pE Z h (a - zB Z)
def pWs (Z : pZ) (h : pH) : va_W := va_pl ((zL Z).map (fun o => zB Z + o)) (pF Z h)
theorem pWs_get {Z : pZ} {h : pH} {o : Nat} (ho : o ∈ zL Z) : ∃ k : Nat, (pWs Z h)[k]? = some (zB Z + o, pE Z h o) := by
  have h1 : zB Z + o ∈ (zL Z).map (fun o => zB Z + o) := List.mem_map.mpr ⟨o, ho, rfl⟩
  obtain ⟨k, hk⟩ := va_pl_get (X := []) (f := pF Z h) h1
  refine ⟨k, ?_⟩
  have e : pF Z h (zB Z + o) = pE Z h o := by unfold pF; rw [Nat.add_sub_cancel_left]
  rw [← e]
  exact hk
theorem pWs_set {A : Nat → Prop} {Z Z' : pZ} {h h' : pH} {o k : Nat} {e : va_E} (hD : va_D A (pWs Z h)) (ho : o ∈ zL Z) (hk : (pWs Z h)[k]? = some (zB Z + o, pE Z h o)) (hB : zB Z' = zB Z) (hL : zL Z' = zL Z) (he : pE Z' h' o = e) (hne : ∀ o', o' ≠ o → pE Z' h' o' = pE Z h o') : (pWs Z h).set k (zB Z + o, e) = pWs Z' h' := by
  have h1 : zB Z + o ∈ (zL Z).map (fun o => zB Z + o) := List.mem_map.mpr ⟨o, ho, rfl⟩
  have e0 : pF Z h (zB Z + o) = pE Z h o := by unfold pF; rw [Nat.add_sub_cancel_left]
  have h2 := va_pl_set (X := []) (e := e) (L := (zL Z).map (fun o => zB Z + o)) (f := pF Z h) (A := A) (k := k) (a := zB Z + o) hD h1 (by rw [e0]; exact hk)
  have h3 : (pWs Z h).set k (zB Z + o, e) = va_pl ((zL Z).map (fun o => zB Z + o)) (va_up (pF Z h) (zB Z + o) e) := h2
  rw [h3]
  unfold pWs va_pl
  rw [show (fun o => zB Z' + o) = (fun o => zB Z + o) from by rw [hB], hL]
  apply List.map_congr_left
  intro a ha
  obtain ⟨o', ho', rfl⟩ := List.mem_map.mp ha
  have e1 : pF Z' h' (zB Z + o') = pE Z' h' o' := by unfold pF; rw [show zB Z + o' - zB Z' = o' by rw [hB]; exact Nat.add_sub_cancel_left _ _]
  rw [e1]
  by_cases hq : o' = o
  · subst hq
    rw [va_up_self, he]
  · rw [va_up_ne _ _ (fun z => hq (Nat.add_left_cancel z)), hne o' hq]
    congr 1
    unfold pF; rw [Nat.add_sub_cancel_left]
/-- the words that every contract takes along, and those of the nest, which go another way -/
def pT : List Cond := lw_tbl.filter goodWord
def pIsN : Cond → Bool
  | .methodLinkNest .. => true
  | .fieldLinkNest .. => true
  | _ => false
def pNs : List Cond := tables_1.filter pIsN
theorem pT_at {w : Cond} (i : Nat) (h : lw_tbl[i]? = some w) (hg : goodWord w = true) : w ∈ pT := List.mem_filter.mpr ⟨List.mem_of_getElem? h, hg⟩
theorem pNs_at {w : Cond} (i : Nat) (h : tables_1[i]? = some w) (hg : pIsN w = true) : w ∈ pNs := List.mem_filter.mpr ⟨List.mem_of_getElem? h, hg⟩
def pTys (G : pG) : List (ClassId × FieldType) := [(G.2 13, .int), (G.2 14, .boolean), (G.2 15, .object RX0), (G.2 16, .object RX2), (G.2 17, .object RX7), (G.2 18, .long)]
def pKn (G : pG) (U : State) : Prop := va_K G.1 vwCl (pTys G) U ∧ ∀ w ∈ pNs, va_Nw w U
theorem pKn.warm {G : pG} {s U : State} (hW : s.WarmedH U.vm) (h : pKn G s) : pKn G U := by
  refine ⟨va_K.moved hW.alike h.1, fun w hw => ?_⟩
  have h1 := h.2 w hw
  have h2 := (List.mem_filter.mp hw).2
  cases w <;> first | exact va_Nw.warmM hW h1 | exact va_Nw.warmF hW h1 | (simp [pIsN] at h2)
theorem pKn.same {G : pG} {u U : State} (hvm : u.vm = U.vm) (h : pKn G u) : pKn G U := by
  refine ⟨va_K.moved (by rw [hvm]; exact Vm.Alike.refl _) h.1, fun w hw => ?_⟩
  have h1 := h.2 w hw
  have h2 := (List.mem_filter.mp hw).2
  cases w <;> first | exact va_Nw.same rfl hvm h1 | (simp [pIsN] at h2)
/-- the places that may be written: those that the law made -/
def pA (B : Nat) : Nat → Prop := fun q => B ≤ q
def pW0 (Z : pZ) (h : pH) (H : Heap) : Prop := va_P (zD Z) vwCl (pWs Z h) H ∧ va_D (pA (zB Z)) (pWs Z h) ∧ zB Z ≤ H.size
def pV (Z : pZ) (h : pH) (H0 H : Heap) (locs : List Loc) : Prop := pW0 Z h H ∧ va_S (pA (zB Z)) H0 H locs ∧ zB Z ≤ H0.size
def pM (G : pG) (p : Program) (s : State) (m : MethodId) (args : Array Value) (c : Code) (cc : ByteArray) (nL : Nat) (own : String) : Prop := CallFix p m c cc nL s args pT own ∧ pKn G s
def pIs (Z : pZ) (o c : Nat) : Prop := o ∈ zL Z ∧ zK Z o = c
def u2 (h : pH) (o k : Nat) (v : Int32) : pH := fun o' => if o' = o then upd (h o) k v else h o'
theorem u2_ne {h : pH} {o o' k : Nat} {v : Int32} (hn : o' ≠ o) : u2 h o k v o' = h o' := if_neg hn
theorem u2_eq {h : pH} {o k : Nat} {v : Int32} : u2 h o k v o = upd (h o) k v := if_pos rfl
def pCl (ci : Nat) (C : String) (T : u_T) (N : Nat) (ty : Nat → FieldType) : Prop := vwCl[ci]? = some (C, T, N) ∧ (∀ w ∈ u_ws C T N, w ∈ pT) ∧ (∀ k, k < N → parseFieldDescriptor (T k).2.2.1 = some (ty k)) ∧ (∀ a, a < N → ∀ b, b < N → a ≠ b → (T a).2.1 ≠ (T b).2.1) ∧ ci < 13 ∧ pNf ci = N
theorem pE_obj {Z : pZ} {h : pH} {o ci : Nat} (hk : zK Z o = ci) (hc : ci < 13) : pE Z h o = .inr (ci, pFs Z h o) := by
  unfold pE
  rw [if_pos (by rw [hk]; exact hc), hk]
theorem pFs_int {Z : pZ} {h : pH} {o ci k : Nat} (hk : zK Z o = ci) (hn : k < pNf ci) (hr : pRf ci k = false) : (pFs Z h o)[k]? = some (.int (h o k)) := by
  unfold pFs
  rw [hk, List.getElem?_map, List.getElem?_range hn]
  simp [hr]
theorem pFs_ref {Z : pZ} {h : pH} {o ci k : Nat} (hk : zK Z o = ci) (hn : k < pNf ci) (hr : pRf ci k = true) : (pFs Z h o)[k]? = some (va_rf (zR Z o k)) := by
  unfold pFs
  rw [hk, List.getElem?_map, List.getElem?_range hn]
  simp [hr]
theorem pFs_len {Z : pZ} {h : pH} {o ci : Nat} (hk : zK Z o = ci) : (pFs Z h o).length = pNf ci := by
  unfold pFs
  rw [hk, List.length_map, List.length_range]
theorem pFs_set {Z : pZ} {h : pH} {o ci k : Nat} {v : Int32} (hk : zK Z o = ci) (hr : pRf ci k = false) : pFs Z (u2 h o k v) o = (pFs Z h o).set k (.int v) := by
  unfold pFs
  rw [hk]
  apply List.ext_getElem?
  intro j
  rw [List.getElem?_set]
  by_cases hj : k = j
  · subst hj
    by_cases hl : k < pNf ci
    · rw [List.getElem?_map, List.getElem?_range hl]
      simp [hr, hl, u2, upd]
    · rw [List.getElem?_eq_none (by rw [List.length_map, List.length_range]; omega)]
      simp [hl]
  · rw [if_neg hj, List.getElem?_map, List.getElem?_map]
    by_cases hl : j < pNf ci
    · rw [List.getElem?_range hl]
      simp [u2, upd, Ne.symm hj]
    · rw [List.getElem?_eq_none (by rw [List.length_range]; omega)]
      rfl
theorem pE_u2 {Z : pZ} {h : pH} {o k : Nat} {v : Int32} (o' : Nat) (hn : o' ≠ o) : pE Z (u2 h o k v) o' = pE Z h o' := by
  unfold pE pFs
  simp only [u2_ne hn]
theorem pE_arr {Z : pZ} {h : pH} {o c : Nat} (hk : zK Z o = c) (h1 : c = 13 ∨ c = 14) : pE Z h o = .inl (zC Z c, zN Z o, .inl (h o)) := by
  unfold pE
  rw [if_neg (by rw [hk]; omega), if_pos (by rw [hk]; omega), hk]
theorem pE_rarr {Z : pZ} {h : pH} {o c : Nat} (hk : zK Z o = c) (h1 : 15 ≤ c ∧ c < 18) : pE Z h o = .inl (zC Z c, zN Z o, .inr (.inr (.inr (.inr (zR Z o))))) := by
  unfold pE
  rw [if_neg (by rw [hk]; omega), if_neg (by rw [hk]; omega), if_pos (by rw [hk]; omega), hk]
section PV
variable {p : Program} {l : Launch} {e : Env} {R : Room} {s : State} {m : MethodId} {args : Array Value} {below : List Frame} {meth : Method} {c : Code} {H : Heap} {locs : List Loc} {cells slots : Nat} {Q : State → Prop}
variable {cc : ByteArray} {nL pc : Nat} {own : String} {ls : Array Slot} {rest : List Value} {Z : pZ} {h : pH} {H0 : Heap} {C : String} {T : u_T} {N : Nat} {ty : Nat → FieldType} {index o : Nat}
/-- behind a write: the world again -/
theorem pV_set {Z' : pZ} {h' : pH} {H1 : Heap} {locs1 : List Loc} {q0 : Nat} {e9 : va_E} (V : pV Z h H0 H locs) (ho : o ∈ zL Z) (hq : (pWs Z h)[q0]? = some (zB Z + o, pE Z h o)) (hG : zD Z' = zD Z) (hB : zB Z' = zB Z) (hL : zL Z' = zL Z) (he : pE Z' h' o = e9) (hne : ∀ o', o' ≠ o → pE Z' h' o' = pE Z h o')
    (hP : va_P (zD Z) vwCl ((pWs Z h).set q0 (zB Z + o, e9)) H1) (hD : va_D (pA (zB Z)) ((pWs Z h).set q0 (zB Z + o, e9))) (hS : va_S (pA (zB Z)) H0 H1 locs1) : pV Z' h' H0 H1 locs1 := by
  have hw := pWs_set V.1.2.1 ho hq hB hL he hne
  rw [hw] at hP hD
  unfold pV pW0
  rw [hG, hB]
  exact ⟨⟨hP, hD, Nat.le_trans V.2.2 hS.1⟩, hS, V.2.2⟩
/-- getfield of a number -/
theorem pg_i (M : pM Z.1 p s m args c cc nL own) (V : pV Z h H0 H locs) (ci k : Nat) (ho : pIs Z o ci) (hC : pCl ci C T N ty) (hk : k < N ∧ pRf ci k = false) (hlink : Cond.fieldLink own index (T k).1 (T k).2.1 (T k).2.2.1 ∈ pT) (hdg : decode cc pc = .ok (.getfield index, 3))
    (kk : W p l e R s m args below meth c H locs cells slots Q (F0 m (pc + 3) ls (.int (h o k) :: rest))) : W p l e R s m args below meth c H locs cells slots Q (F0 m pc ls (.ref (zB Z + o) :: rest)) := by
  obtain ⟨q0, hq⟩ := pWs_get (h := h) ho.1
  rw [pE_obj ho.2 hC.2.2.2.2.1] at hq
  exact va_get (D := zD Z) (cl := vwCl) (ci := ci) (v := .int (h o k)) (ref := (T k).1) M.1.1 M.1.2.1 M.1.2.2.2.2 hC.2.1 M.1.2.2.2.1 M.2.1 V.1.1 q0 hq hC.1 k hk.1 (M.1.2.2.2.2 _ hlink) (fun _ h9 => h9) (pFs_int ho.2 (by rw [hC.2.2.2.2.2]; exact hk.1) hk.2) hdg kk
/-- getfield of a reference, to the cell o1 -/
theorem pg_r (M : pM Z.1 p s m args c cc nL own) (V : pV Z h H0 H locs) (ci k : Nat) {a1 : Nat} (ho : pIs Z o ci) (hC : pCl ci C T N ty) (hk : k < N ∧ pRf ci k = true) (h1 : zR Z o k = some a1) (hlink : Cond.fieldLink own index (T k).1 (T k).2.1 (T k).2.2.1 ∈ pT) (hdg : decode cc pc = .ok (.getfield index, 3))
    (kk : W p l e R s m args below meth c H locs cells slots Q (F0 m (pc + 3) ls (.ref a1 :: rest))) : W p l e R s m args below meth c H locs cells slots Q (F0 m pc ls (.ref (zB Z + o) :: rest)) := by
  obtain ⟨q0, hq⟩ := pWs_get (h := h) ho.1
  rw [pE_obj ho.2 hC.2.2.2.2.1] at hq
  exact va_get (D := zD Z) (cl := vwCl) (ci := ci) (v := .ref a1) (ref := (T k).1) M.1.1 M.1.2.1 M.1.2.2.2.2 hC.2.1 M.1.2.2.2.1 M.2.1 V.1.1 q0 hq hC.1 k hk.1 (M.1.2.2.2.2 _ hlink) (fun _ h9 => h9) (by rw [pFs_ref ho.2 (by rw [hC.2.2.2.2.2]; exact hk.1) hk.2, h1]; rfl) hdg kk
/-- putfield of a number -/
theorem pp_i (M : pM Z.1 p s m args c cc nL own) (V : pV Z h H0 H locs) (ci k : Nat) {v : Int32} (ho : pIs Z o ci) (hC : pCl ci C T N ty) (hk : k < N ∧ pRf ci k = false) (hfin : (T k).2.2.2 = false) (hlink : Cond.fieldLink own index (T k).1 (T k).2.1 (T k).2.2.1 ∈ pT) (hn : narrow (ty k) (.int v) = .int v ∧ fits (ty k) (.int v) = true) (hdg : decode cc pc = .ok (.putfield index, 3))
    (kk : ∀ (H1 : Heap) (locs1 : List Loc), pV Z (u2 h o k v) H0 H1 locs1 → W p l e R s m args below meth c H1 locs1 cells slots Q (F0 m (pc + 3) ls rest)) : W p l e R s m args below meth c H locs cells slots Q (F0 m pc ls (.int v :: .ref (zB Z + o) :: rest)) := by
  obtain ⟨q0, hq⟩ := pWs_get (h := h) ho.1
  have hq1 := hq
  rw [pE_obj ho.2 hC.2.2.2.2.1] at hq
  refine va_put (D := zD Z) (cl := vwCl) (ci := ci) (ref := (T k).1) M.1.1 M.1.2.1 M.1.2.2.2.2 hC.2.1 ty hC.2.2.1 hC.2.2.2.1 M.1.2.2.2.1 M.2.1 V.1.1 V.1.2.1 V.2.1 q0 hq hC.1 k hk.1 (M.1.2.2.2.2 _ hlink) (fun _ h9 => h9) hfin (hC.2.2.1 k hk.1) hn.1 hn.2 (by rw [pFs_len ho.2, hC.2.2.2.2.2]; exact hk.1) hdg (fun H1 locs1 hP hD hS => ?_)
  exact kk H1 locs1 (pV_set V ho.1 hq1 rfl rfl rfl (by rw [pE_obj ho.2 hC.2.2.2.2.1, pFs_set ho.2 hk.2]) (fun o' hn => pE_u2 o' hn) hP hD hS)
/-- iaload, baload -/
theorem pa_i (M : pM Z.1 p s m args c cc nL own) (V : pV Z h H0 H locs) {i : Int32} (ho : pIs Z o 13) (hin : vp_in i (zN Z o)) (hdg : decode cc pc = .ok (.iaload, 1))
    (kk : W p l e R s m args below meth c H locs cells slots Q (F0 m (pc + 1) ls (.int (h o i.toNatClampNeg) :: rest))) : W p l e R s m args below meth c H locs cells slots Q (F0 m pc ls (.int i :: .ref (zB Z + o) :: rest)) := by
  obtain ⟨q0, hq⟩ := pWs_get (h := h) ho.1
  rw [pE_arr ho.2 (Or.inl rfl)] at hq
  exact va_iald (D := zD Z) (cl := vwCl) M.1.1 M.1.2.1 M.2.1 V.1.1 q0 0 hq rfl hin hdg kk
theorem pa_z (M : pM Z.1 p s m args c cc nL own) (V : pV Z h H0 H locs) {i : Int32} (ho : pIs Z o 14) (hin : vp_in i (zN Z o)) (hdg : decode cc pc = .ok (.baload, 1))
    (kk : W p l e R s m args below meth c H locs cells slots Q (F0 m (pc + 1) ls (.int (h o i.toNatClampNeg) :: rest))) : W p l e R s m args below meth c H locs cells slots Q (F0 m pc ls (.int i :: .ref (zB Z + o) :: rest)) := by
  obtain ⟨q0, hq⟩ := pWs_get (h := h) ho.1
  rw [pE_arr ho.2 (Or.inr rfl)] at hq
  exact va_zald (D := zD Z) (cl := vwCl) M.1.1 M.1.2.1 M.2.1 V.1.1 q0 1 hq rfl hin hdg kk
theorem pE_up {Z : pZ} {h : pH} {o k c : Nat} {v : Int32} (hk : zK Z o = c) (h1 : c = 13 ∨ c = 14) : pE Z (u2 h o k v) o = .inl (zC Z c, zN Z o, .inl (upd (h o) k v)) := by
  rw [pE_arr hk h1, u2_eq]
/-- iastore, bastore -/
theorem ps_i (M : pM Z.1 p s m args c cc nL own) (V : pV Z h H0 H locs) {i x : Int32} (ho : pIs Z o 13) (hin : vp_in i (zN Z o)) (hdg : decode cc pc = .ok (.iastore, 1))
    (kk : ∀ (H1 : Heap) (locs1 : List Loc), pV Z (u2 h o i.toNatClampNeg x) H0 H1 locs1 → W p l e R s m args below meth c H1 locs1 cells slots Q (F0 m (pc + 1) ls rest)) : W p l e R s m args below meth c H locs cells slots Q (F0 m pc ls (.int x :: .int i :: .ref (zB Z + o) :: rest)) := by
  obtain ⟨q0, hq⟩ := pWs_get (h := h) ho.1
  have hq1 := hq
  rw [pE_arr ho.2 (Or.inl rfl)] at hq
  refine va_iast (D := zD Z) (cl := vwCl) M.1.1 M.1.2.1 M.2.1 V.1.1 V.1.2.1 V.2.1 q0 0 hq rfl hin hdg (fun H1 locs1 hP hD hS => ?_)
  exact kk H1 locs1 (pV_set V ho.1 hq1 rfl rfl rfl (pE_up ho.2 (Or.inl rfl)) (fun o' hn => pE_u2 o' hn) hP hD hS)
theorem pn_z {x : Int32} (h : x = 0 ∨ x = 1) : narrow .boolean (.int x) = .int x ∧ fits .boolean (.int x) = true ∧ vp_nar .boolean x = x := by
  rcases h with rfl | rfl <;> decide +kernel
theorem ps_z (M : pM Z.1 p s m args c cc nL own) (V : pV Z h H0 H locs) {i x : Int32} (ho : pIs Z o 14) (hin : vp_in i (zN Z o)) (hz : x = 0 ∨ x = 1) (hdg : decode cc pc = .ok (.bastore, 1))
    (kk : ∀ (H1 : Heap) (locs1 : List Loc), pV Z (u2 h o i.toNatClampNeg x) H0 H1 locs1 → W p l e R s m args below meth c H1 locs1 cells slots Q (F0 m (pc + 1) ls rest)) : W p l e R s m args below meth c H locs cells slots Q (F0 m pc ls (.int x :: .int i :: .ref (zB Z + o) :: rest)) := by
  obtain ⟨q0, hq⟩ := pWs_get (h := h) ho.1
  have hq1 := hq
  rw [pE_arr ho.2 (Or.inr rfl)] at hq
  refine va_zast (D := zD Z) (cl := vwCl) M.1.1 M.1.2.1 M.2.1 V.1.1 V.1.2.1 V.2.1 q0 1 hq rfl hin hdg (fun H1 locs1 hP hD hS => ?_)
  rw [(pn_z hz).2.2] at hP hD
  exact kk H1 locs1 (pV_set V ho.1 hq1 rfl rfl rfl (pE_up ho.2 (Or.inr rfl)) (fun o' hn => pE_u2 o' hn) hP hD hS)
/-- aaload -/
theorem pa_r (M : pM Z.1 p s m args c cc nL own) (V : pV Z h H0 H locs) {i : Int32} {ca a1 : Nat} {CN : String} (ho : pIs Z o ca) (hca : 15 ≤ ca ∧ ca < 18) (hty : (pTys Z.1)[ca - 13]? = some (zC Z ca, .object CN)) (hin : vp_in i (zN Z o)) (h1 : zR Z o i.toNatClampNeg = some a1) (hdg : decode cc pc = .ok (.aaload, 1))
    (kk : W p l e R s m args below meth c H locs cells slots Q (F0 m (pc + 1) ls (.ref a1 :: rest))) : W p l e R s m args below meth c H locs cells slots Q (F0 m pc ls (.int i :: .ref (zB Z + o) :: rest)) := by
  obtain ⟨q0, hq⟩ := pWs_get (h := h) ho.1
  rw [pE_rarr ho.2 hca] at hq
  refine va_aldq (D := zD Z) (cl := vwCl) M.1.1 M.1.2.1 M.2.1 V.1.1 q0 (ca - 13) hq hty hin hdg ?_
  rw [h1]
  exact kk
/-- arraylength of an int array -/
theorem pa_len (M : pM Z.1 p s m args c cc nL own) (V : pV Z h H0 H locs) (ho : pIs Z o 13) (hdg : decode cc pc = .ok (.arraylength, 1))
    (kk : W p l e R s m args below meth c H locs cells slots Q (F0 m (pc + 1) ls (.int (nI (zN Z o)) :: rest))) : W p l e R s m args below meth c H locs cells slots Q (F0 m pc ls (.ref (zB Z + o) :: rest)) := by
  obtain ⟨q0, hq⟩ := pWs_get (h := h) ho.1
  rw [pE_arr ho.2 (Or.inl rfl)] at hq
  exact va_alen (D := zD Z) (cl := vwCl) M.1.1 M.1.2.1 M.2.1 V.1.1 q0 0 hq (ty := .int) rfl (v := nI (zN Z o)) rfl hdg kk
end PV
