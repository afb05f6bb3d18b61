/-! rows of the constructors -/
theorem gW_self (Z : pZ) (r : pY) : zB (gW Z r) = zB Z := rfl
section KN
variable {p : Program} {l : Launch} {e : Env} {R : Room} {s : State} {m : MethodId} {args : Array Value} {below : List Frame} {meth : Method} {c : Code} {H : Heap} {locs : List Loc} {cells slots : Nat} {Q : State → Prop}
variable {cc bytes : ByteArray} {nL pc maxL fr mc ms lo index o ci n n0 r x : Nat} {own : String} {ls : Array Slot} {As rest st : List Value} {Z : pZ} {h : pH} {y : MethodName}
/-- a cell comes behind the others -/
theorem kn_add {H1 : Heap} {c9 N : Nat} {e9 : va_E} (V : pV Z h s.heap H locs) (P : pMk n r x Z h) (hsz : H.size = zB Z + n) (z1 : H1.size = H.size + 1) (o1 : ∀ q, q < H.size → H1[q]? = H[q]?) (hE : pE (pAdd Z n c9 N) (u1 h n (fun _ => 0)) n = e9) (hat : va_at (zD Z) vwCl (zB Z + n, e9) H1) : pV (pAdd Z n c9 N) (u1 h n (fun _ => 0)) s.heap H1 locs := by
  have hnew : n ∉ zL Z := by rw [P.1]; exact fun z => Nat.lt_irrefl _ (List.mem_range.mp z)
  have hkp : ∀ (k : Nat) (q : Nat × va_E), (pWs Z h)[k]? = some q → H1[q.1]? = H[q.1]? := fun k q hq => o1 q.1 ((V.1.1 k q hq).lt)
  have hw1 := pWs_add (h := h) (c := c9) (n := N) (f := fun _ => 0) hnew
  rw [hE] at hw1
  have hB : zB Z ≤ H.size := by omega
  have hP : va_P (zD Z) vwCl (pWs (pAdd Z n c9 N) (u1 h n (fun _ => 0))) H1 := by
    rw [hw1]
    refine (V.1.1.kept hkp).app (fun k q hq => ?_)
    have hz : k < 1 := (List.getElem?_eq_some_iff.mp hq).1
    rw [show k = 0 by omega] at hq
    cases hq
    exact hat
  have hD : va_D (pA (zB Z)) (pWs (pAdd Z n c9 N) (u1 h n (fun _ => 0))) := by
    rw [hw1, ← hsz]
    exact V.1.2.1.push V.1.1 rfl hB
  have hS : va_S (pA (zB Z)) s.heap H1 locs := ⟨Nat.le_trans V.2.1.1 (by omega), fun q h1 h2 => (o1 q (Nat.lt_of_lt_of_le h1 V.2.1.1)).trans (V.2.1.2.1 q h1 h2), V.2.1.2.2⟩
  exact ⟨⟨hP, hD, by show zB Z ≤ H1.size; omega⟩, hS, V.2.2⟩
/-- new -/
theorem kn_o (Z0 : pZ) (hB : zB Z = zB Z0) (hG : Z.1 = Z0.1) {C : String} {T : u_T} {N : Nat} {ty : Nat → FieldType} (M : pM Z.1 p s m args c cc nL own) (V : pV Z h s.heap H locs) (P : pMk n r x Z h) (hs : s.heap.size = zB Z + n0) (hc : n0 + cells = n) (hC : pCl ci C T N ty) (hd : ∀ j, j < N → defaultValue (ty j) = vp_V (pD ci) j) (ok : okN n r x ci 0 = true) (hcl : Cond.classLink own index C ∈ pT) (hins : Cond.instantiable C N ∈ pT) (hini : Cond.initialized C ∈ pT) (hf : cells + 1 ≤ R.cells ∧ slots + N ≤ R.slots) (hdg : decode cc pc = .ok (.new index, 3))
    (kk : ∀ (y : pY) (h1 : pH) (H1 : Heap), pMk (n + 1) r x (gW Z0 y) h1 → pV (gW Z0 y) h1 s.heap H1 locs → W p l e R s m args below meth c H1 locs (cells + 1) (slots + N) Q (F0 m (pc + 3) ls (.ref (zB Z0 + n) :: rest))) : W p l e R s m args below meth c H locs cells slots Q (F0 m pc ls rest) := by
  refine g_know fun g0 => ?_
  have hsz := mk_size V P hs g0 hc
  have hKn := M.2.1.1 ci _ hC.1
  refine W.newcK M.1.1 M.1.2.1 M.1.2.2.2.1 (pWords M hcl) (pWords M hins) (pWords M hini) rfl hdg hf.1 hf.2 hKn.2.1 hsz fun H1 kC hkC e1 z1 o1 => ?_
  have V1 := kn_add (c9 := ci) (N := 0) V P hsz (by omega) (fun q hq => o1 q (by omega)) (pE_obj pAdd_K hC.2.2.2.2.1) ⟨_, hC.1, by rw [pFs_new]; exact (u_born ty M.1.2.2.2.2 hC.2.1 hKn hkC e1 hC.2.2.1).to hd⟩
  have P1 := mk_new P ok
  rw [gW_of (Z := Z0) (Z1 := pAdd Z n ci 0) hB hG] at V1 P1
  have := kk _ _ H1 P1 V1
  rw [← hB] at this
  exact this
/-- newarray -/
theorem kn_a (Z0 : pZ) (hB : zB Z = zB Z0) (hG : Z.1 = Z0.1) (M : pM Z.1 p s m args c cc nL own) (V : pV Z h s.heap H locs) (P : pMk n r x Z h) (hs : s.heap.size = zB Z + n0) (hc : n0 + cells = n) {atype : ArrayType} {ci N : Nat} {k : Int32} (hk : (ci = 13 ∧ newarray.typeOf atype = .int) ∨ (ci = 14 ∧ newarray.typeOf atype = .boolean) ∨ (ci = 18 ∧ newarray.typeOf atype = .long)) (hw : Cond.arrayClass (newarray.typeOf atype) ∈ pT) (ok : okN n r x ci N = true) (hn : 0 ≤ k.toInt) (hN : k.toNatClampNeg = N) (hbytes : N ≤ 1000000) (hf : cells + 1 ≤ R.cells ∧ slots + N ≤ R.slots) (hdg : decode cc pc = .ok (.newarray atype, 2))
    (kk : ∀ (y : pY) (h1 : pH) (H1 : Heap), pMk (n + 1) r x (gW Z0 y) h1 → pV (gW Z0 y) h1 s.heap H1 locs → W p l e R s m args below meth c H1 locs (cells + 1) (slots + N) Q (F0 m (pc + 2) ls (.ref (zB Z0 + n) :: rest))) : W p l e R s m args below meth c H locs cells slots Q (F0 m pc ls (.int k :: rest)) := by
  refine g_know fun g0 => ?_
  have hsz := mk_size V P hs g0 hc
  refine pn_a M V hk hw hn hN hbytes hf hdg (fun o1 H1 ho z1 hnew V1 => ?_)
  have e1 : o1 = n := by omega
  subst e1
  have P1 := mk_new P ok
  rw [gW_of (Z := Z0) (Z1 := pAdd Z o1 ci N) hB hG] at V1 P1
  have := kk _ _ H1 P1 V1
  rw [← hB] at this
  exact this
/-- anewarray -/
theorem kn_q (Z0 : pZ) (hB : zB Z = zB Z0) (hG : Z.1 = Z0.1) {C : String} (M : pM Z.1 p s m args c cc nL own) (V : pV Z h s.heap H locs) (P : pMk n r x Z h) (hs : s.heap.size = zB Z + n0) (hc : n0 + cells = n) {ca N : Nat} {k : Int32} (hca : 15 ≤ ca ∧ ca < 18) (hty : (pTys Z.1)[ca - 13]? = some (zC Z ca, .object C)) (hcl : Cond.classLink own index C ∈ pT) (hao : va_AO C s) (ok : okN n r x ca N = true) (hn : 0 ≤ k.toInt) (hN : k.toNatClampNeg = N) (hbytes : N ≤ 1000000) (hf : cells + 1 ≤ R.cells ∧ slots + N ≤ R.slots) (hdg : decode cc pc = .ok (.anewarray index, 3))
    (kk : ∀ (y : pY) (h1 : pH) (H1 : Heap), pMk (n + 1) r x (gW Z0 y) h1 → pV (gW Z0 y) h1 s.heap H1 locs → W p l e R s m args below meth c H1 locs (cells + 1) (slots + N) Q (F0 m (pc + 3) ls (.ref (zB Z0 + n) :: rest))) : W p l e R s m args below meth c H locs cells slots Q (F0 m pc ls (.int k :: rest)) := by
  refine g_know fun g0 => ?_
  have hsz := mk_size V P hs g0 hc
  have z0 : (0 : Int32).toInt = 0 := rfl
  subst hN
  refine W.anew M.1.1 M.1.2.1 M.1.2.2.2.1 (pWords M hcl) hao.use rfl hdg rfl (by rw [pi_lt, z0]; omega) (by omega) hf.1 hf.2 fun cA kA comp f1 f2 f3 f4 => ?_
  generalize hH1 : H.push ({ cls := cA, slots := Array.replicate k.toNatClampNeg .null, vm := .none } : Cell) = H1
  have z1 : H1.size = H.size + 1 := by rw [← hH1, Array.size_push]
  have e1 : H1[H.size]? = some (arrV cA k.toNatClampNeg (fun _ => .null)) := by rw [← hH1, Array.getElem?_push_size, ← arrV_new]
  have o1 : ∀ q : Nat, q < H.size → H1[q]? = H[q]? := fun q hq => by rw [← hH1, Array.getElem?_push, if_neg (Nat.ne_of_lt hq)]
  have hcA : cA = zC Z ca := by
    obtain ⟨k9, c9, -, -, -, h4⟩ := (M.2.1.2 (ca - 13) _ hty).2
    exact Option.some.inj (f1.symm.trans h4)
  have V1 := kn_add (c9 := ca) (N := k.toNatClampNeg) (e9 := .inl (zC Z ca, k.toNatClampNeg, .inr (.inr (.inr (.inr (fun _ => none)))))) V P hsz z1 o1 (by rw [pE_rarr pAdd_K hca, pAdd_N, show zR (pAdd Z n ca k.toNatClampNeg) n = (fun _ => none) from if_pos rfl]; rfl) (show H1[zB Z + n]? = some (vp_cell _ _) by
    rw [vp_cell_q, ← hsz, e1, hcA]
    rfl)
  have P1 := mk_new P ok
  rw [gW_of (Z := Z0) (Z1 := pAdd Z n ca k.toNatClampNeg) hB hG] at V1 P1
  have := kk _ _ H1 P1 V1
  rw [← hB, ← hsz] at this
  exact this
/-- putfield of a reference, the field final or not -/
theorem kp_r (Z0 : pZ) (hB : zB Z = zB Z0) (hG : Z.1 = Z0.1) {C : String} {T : u_T} {N : Nat} {ty : Nat → FieldType} {t : Nat} (M : pM Z.1 p s m args c cc nL own) (V : pV Z h s.heap H locs) (P : pMk n r x Z h) (ci k : Nat) (ho : o < n) (hko : pKT.getD o 99 = ci) (hC : pCl ci C T N ty) (hk : k < N ∧ pRf ci k = true) (ok : okR r o k t = true) (hin2 : (T k).2.2.2 = false ∨ (meth.name = "<init>" ∧ (T k).2.2.2 = true ∧ (T k).1 = own)) (hlink : Cond.fieldLink own index (T k).1 (T k).2.1 (T k).2.2.1 ∈ pT) (hn : ∀ a : Nat, narrow (ty k) (.ref a) = .ref a ∧ fits (ty k) (.ref a) = true) (hdg : decode cc pc = .ok (.putfield index, 3))
    (kk : ∀ (y : pY) (h1 : pH) (H1 : Heap) (locs1 : List Loc), pMk n (r + 1) x (gW Z0 y) h1 → pV (gW Z0 y) h1 s.heap H1 locs1 → W p l e R s m args below meth c H1 locs1 cells slots Q (F0 m (pc + 3) ls rest)) : W p l e R s m args below meth c H locs cells slots Q (F0 m pc ls (.ref (zB Z + t) :: .ref (zB Z + o) :: rest)) := by
  have ho2 := P.is ho hko
  have P1 := mk_ref P ok
  obtain ⟨q0, hq⟩ := pWs_get (h := h) ho2.1
  have hq1 := hq
  rw [pE_obj ho2.2 hC.2.2.2.2.1] at hq
  have hk9 : zK (pRe Z o k (some (zB Z + t))) o = ci := ho2.2
  have fin : ∀ (H1 : Heap) (locs1 : List Loc), va_P (zD Z) vwCl ((pWs Z h).set q0 (zB Z + o, .inr (ci, (pFs Z h o).set k (.ref (zB Z + t))))) H1 → va_D (pA (zB Z)) ((pWs Z h).set q0 (zB Z + o, .inr (ci, (pFs Z h o).set k (.ref (zB Z + t))))) → va_S (pA (zB Z)) s.heap H1 locs1 → W p l e R s m args below meth c H1 locs1 cells slots Q (F0 m (pc + 3) ls rest) := by
    intro H1 locs1 hP hD hS
    have V1 : pV (pRe Z o k (some (zB Z + t))) h s.heap H1 locs1 := pV_set V ho2.1 hq1 rfl rfl rfl (by rw [pE_obj hk9 hC.2.2.2.2.1, pFs_re ho2.2 hk.2]; rfl) (fun o' hn => pE_re o' hn) hP hD hS
    rw [gW_of (Z := Z0) (Z1 := pRe Z o k (some (zB Z + t))) hB hG] at V1 P1
    exact kk _ _ H1 locs1 P1 V1
  rcases hin2 with hfin | ⟨hm, hfin, hdecl⟩
  · exact va_put (D := zD Z) (cl := vwCl) (ci := ci) (ref := (T k).1) M.1.1 M.1.2.1 M.1.2.2.2.2 hC.2.1 ty hC.2.2.1 hC.2.2.2.1 M.1.2.2.2.1 M.2.1 V.1.1 V.1.2.1 V.2.1 q0 hq hC.1 k hk.1 (M.1.2.2.2.2 _ hlink) (fun _ h9 => h9) hfin (hC.2.2.1 k hk.1) (hn _).1 (hn _).2 (by rw [pFs_len ho2.2, hC.2.2.2.2.2]; exact hk.1) hdg fin
  · exact va_putF (D := zD Z) (cl := vwCl) (ci := ci) (ref := (T k).1) M.1.1 M.1.2.1 M.1.2.2.2.2 hC.2.1 ty hC.2.2.1 hC.2.2.2.1 M.1.2.2.2.1 M.2.1 V.1.1 V.1.2.1 V.2.1 q0 hq hC.1 k hk.1 (M.1.2.2.2.2 _ hlink) (fun _ h9 => h9) hfin hm hdecl (hC.2.2.1 k hk.1) (hn _).1 (hn _).2 (by rw [pFs_len ho2.2, hC.2.2.2.2.2]; exact hk.1) hdg fin
/-- putfield of a number -/
theorem kp_i (Z0 : pZ) (hB : zB Z = zB Z0) (hG : Z.1 = Z0.1) {C : String} {T : u_T} {N : Nat} {ty : Nat → FieldType} {v : Int32} (M : pM Z.1 p s m args c cc nL own) (V : pV Z h s.heap H locs) (P : pMk n r x Z h) (ci k : Nat) (ho : o < n) (hko : pKT.getD o 99 = ci) (hC : pCl ci C T N ty) (hk : k < N ∧ pRf ci k = false) (ok : okI x o k v = true) (hin2 : (T k).2.2.2 = false ∨ (meth.name = "<init>" ∧ (T k).2.2.2 = true ∧ (T k).1 = own)) (hlink : Cond.fieldLink own index (T k).1 (T k).2.1 (T k).2.2.1 ∈ pT) (hn : narrow (ty k) (.int v) = .int v ∧ fits (ty k) (.int v) = true) (hdg : decode cc pc = .ok (.putfield index, 3))
    (kk : ∀ (y : pY) (h1 : pH) (H1 : Heap) (locs1 : List Loc), pMk n r (x + 1) (gW Z0 y) h1 → pV (gW Z0 y) h1 s.heap H1 locs1 → W p l e R s m args below meth c H1 locs1 cells slots Q (F0 m (pc + 3) ls rest)) : W p l e R s m args below meth c H locs cells slots Q (F0 m pc ls (.int v :: .ref (zB Z + o) :: rest)) := by
  have ho2 := P.is ho hko
  have P1 := mk_int P ok
  obtain ⟨q0, hq⟩ := pWs_get (h := h) ho2.1
  have hq1 := hq
  rw [pE_obj ho2.2 hC.2.2.2.2.1] at hq
  have fin : ∀ (H1 : Heap) (locs1 : List Loc), va_P (zD Z) vwCl ((pWs Z h).set q0 (zB Z + o, .inr (ci, (pFs Z h o).set k (.int v)))) H1 → va_D (pA (zB Z)) ((pWs Z h).set q0 (zB Z + o, .inr (ci, (pFs Z h o).set k (.int v)))) → va_S (pA (zB Z)) s.heap H1 locs1 → W p l e R s m args below meth c H1 locs1 cells slots Q (F0 m (pc + 3) ls rest) := by
    intro H1 locs1 hP hD hS
    have V1 : pV Z (u2 h o k v) s.heap H1 locs1 := pV_set V ho2.1 hq1 rfl rfl rfl (by rw [pE_obj ho2.2 hC.2.2.2.2.1, pFs_set ho2.2 hk.2]) (fun o' hn => pE_u2 o' hn) hP hD hS
    rw [gW_of (Z := Z0) (Z1 := Z) hB hG] at V1 P1
    exact kk _ _ H1 locs1 P1 V1
  rcases hin2 with hfin | ⟨hm, hfin, hdecl⟩
  · exact va_put (D := zD Z) (cl := vwCl) (ci := ci) (ref := (T k).1) M.1.1 M.1.2.1 M.1.2.2.2.2 hC.2.1 ty hC.2.2.1 hC.2.2.2.1 M.1.2.2.2.1 M.2.1 V.1.1 V.1.2.1 V.2.1 q0 hq hC.1 k hk.1 (M.1.2.2.2.2 _ hlink) (fun _ h9 => h9) hfin (hC.2.2.1 k hk.1) hn.1 hn.2 (by rw [pFs_len ho2.2, hC.2.2.2.2.2]; exact hk.1) hdg fin
  · exact va_putF (D := zD Z) (cl := vwCl) (ci := ci) (ref := (T k).1) M.1.1 M.1.2.1 M.1.2.2.2.2 hC.2.1 ty hC.2.2.1 hC.2.2.2.1 M.1.2.2.2.1 M.2.1 V.1.1 V.1.2.1 V.2.1 q0 hq hC.1 k hk.1 (M.1.2.2.2.2 _ hlink) (fun _ h9 => h9) hfin hm hdecl (hC.2.2.1 k hk.1) hn.1 hn.2 (by rw [pFs_len ho2.2, hC.2.2.2.2.2]; exact hk.1) hdg fin
/-- aastore -/
theorem pE_req {ca k : Nat} {a : Option Nat} (hk : zK Z o = ca) (h1 : 15 ≤ ca ∧ ca < 18) : pE (pRe Z o k a) h o = .inl (zC Z ca, zN Z o, .inr (.inr (.inr (.inr (va_up (zR Z o) k a))))) := by
  rw [pE_rarr (Z := pRe Z o k a) hk h1, pRe_R]
  have e1 : (fun j => if j = k then a else zR Z o j) = va_up (zR Z o) k a := by
    funext j
    by_cases hj : j = k
    · subst hj; rw [va_up_self, if_pos rfl]
    · rw [va_up_ne _ _ hj, if_neg hj]
  rw [e1]
  rfl
theorem ka_r (Z0 : pZ) (hB : zB Z = zB Z0) (hG : Z.1 = Z0.1) {C : String} {T : u_T} {N : Nat} {ty : Nat → FieldType} {t ca : Nat} {i : Int32} (M : pM Z.1 p s m args c cc nL own) (V : pV Z h s.heap H locs) (P : pMk n r x Z h) (ho : o < n) (hko : pKT.getD o 99 = ca) (hca : 15 ≤ ca ∧ ca < 18) (hty : (pTys Z.1)[ca - 13]? = some (zC Z ca, .object C)) (ht : t < n) (hkt : pKT.getD t 99 = ci) (hC : pCl ci C T N ty) (ok : okR r o i.toNatClampNeg t = true) (hin : vp_in i (pNT.getD o 0)) (hdg : decode cc pc = .ok (.aastore, 1))
    (kk : ∀ (y : pY) (h1 : pH) (H1 : Heap) (locs1 : List Loc), pMk n (r + 1) x (gW Z0 y) h1 → pV (gW Z0 y) h1 s.heap H1 locs1 → W p l e R s m args below meth c H1 locs1 cells slots Q (F0 m (pc + 1) ls rest)) : W p l e R s m args below meth c H locs cells slots Q (F0 m pc ls (.ref (zB Z + t) :: .int i :: .ref (zB Z + o) :: rest)) := by
  have ho2 := P.is ho hko
  have ht2 := P.is ht hkt
  have P1 := mk_ref P ok
  obtain ⟨q0, hq⟩ := pWs_get (h := h) ho2.1
  obtain ⟨q1, hq1⟩ := pWs_get (h := h) ht2.1
  have hq2 := hq
  rw [pE_rarr ho2.2 hca] at hq
  rw [pE_obj ht2.2 hC.2.2.2.2.1] at hq1
  refine va_astq (D := zD Z) (cl := vwCl) (r := (C, T, N)) M.1.1 M.1.2.1 M.2.1 V.1.1 V.1.2.1 V.2.1 q0 (ca - 13) q1 ci hq hty hq1 hC.1 (by rw [P.len ho rfl]; exact hin) hdg (fun H1 locs1 hP hD hS => ?_)
  have V1 : pV (pRe Z o i.toNatClampNeg (some (zB Z + t))) h s.heap H1 locs1 := pV_set V ho2.1 hq2 rfl rfl rfl (pE_req ho2.2 hca) (fun o' hn => pE_re o' hn) hP hD hS
  rw [gW_of (Z := Z0) (Z1 := pRe Z o i.toNatClampNeg (some (zB Z + t))) hB hG] at V1 P1
  exact kk _ _ H1 locs1 P1 V1
/-- iastore -/
theorem ks_i (Z0 : pZ) (hB : zB Z = zB Z0) (hG : Z.1 = Z0.1) {i v : Int32} (M : pM Z.1 p s m args c cc nL own) (V : pV Z h s.heap H locs) (P : pMk n r x Z h) (ho : o < n) (hko : pKT.getD o 99 = 13) (ok : okI x o i.toNatClampNeg v = true) (hin : vp_in i (pNT.getD o 0)) (hdg : decode cc pc = .ok (.iastore, 1))
    (kk : ∀ (y : pY) (h1 : pH) (H1 : Heap) (locs1 : List Loc), pMk n r (x + 1) (gW Z0 y) h1 → pV (gW Z0 y) h1 s.heap H1 locs1 → W p l e R s m args below meth c H1 locs1 cells slots Q (F0 m (pc + 1) ls rest)) : W p l e R s m args below meth c H locs cells slots Q (F0 m pc ls (.int v :: .int i :: .ref (zB Z + o) :: rest)) := by
  refine ps_i M V (P.is ho hko) (by rw [P.len ho rfl]; exact hin) hdg (fun H1 locs1 V1 => ?_)
  have P1 := mk_int P ok
  rw [gW_of (Z := Z0) (Z1 := Z) hB hG] at V1 P1
  exact kk _ _ H1 locs1 P1 V1
/-- a constructor's call -/
theorem nr_I (M : pM Z.1 p s m args c cc nL own) (V : pV Z h s.heap H locs) (hao : pAO s) (hsz9 : H.size = zB Z + n) {k9 : Nat} {Qc : Array Value → State → Outcome → State → Prop} (hM : nMet l y bytes maxL fr mc ms lo n Z h (.ref (zB Z + o) :: As) Qc) (hL : pLI y bytes maxL k9) (hl : Cond.methodLink own index y ∈ pT)
    (hn : As.length = k9) (hsz : ls.size = nL) (hst : st = As.reverse ++ .ref (zB Z + o) :: rest) (hcat : (rest.map fun v => v.category).sum ≤ 8) (hR : fr + 1 ≤ R.frames ∧ 8 + (maxL + 11) + lo ≤ R.locals) (hf : cells + mc ≤ R.cells ∧ slots + ms ≤ R.slots) (hdg : decode cc pc = .ok (.invokespecial index, 3)) :
    va_Run p l e R s m args below meth c H locs cells slots mc ms (F0 m pc ls st) rest (Qc (Value.ref (zB Z + o) :: As).toArray) (pA (zB Z)) :=
  va_runI M.1 hM ⟨callB_of k9 M.1.2.2.2.2 (pSub hL.1) rfl rfl rfl (pWords M hL.2.1) (pWords M hl) hL.2.2.1 hR, hL.2.2.2.2, pWords M hL.2.2.2.1⟩ ⟨pPcN_blind, fun U hU hW => ⟨rfl, M.2.warm hW, by rw [hU]; exact V.1, by rw [hU]; exact hsz9, hao.alike hW.alike⟩⟩ rfl hn hsz hst (lv_room hcat) hdg hf
theorem nr_IN (M : pM Z.1 p s m args c cc nL own) (V : pV Z h s.heap H locs) (hao : pAO s) (hsz9 : H.size = zB Z + n) {host : String} {k9 : Nat} {Qc : Array Value → State → Outcome → State → Prop} (hM : nMet l y bytes maxL fr mc ms lo n Z h (.ref (zB Z + o) :: As) Qc) (hL : pLI y bytes maxL k9) (hl : Cond.methodLinkNest own index y host ∈ pNs)
    (hn : As.length = k9) (hsz : ls.size = nL) (hst : st = As.reverse ++ .ref (zB Z + o) :: rest) (hcat : (rest.map fun v => v.category).sum ≤ 8) (hR : fr + 1 ≤ R.frames ∧ 8 + (maxL + 11) + lo ≤ R.locals) (hf : cells + mc ≤ R.cells ∧ slots + ms ≤ R.slots) (hdg : decode cc pc = .ok (.invokespecial index, 3)) :
    va_Run p l e R s m args below meth c H locs cells slots mc ms (F0 m pc ls st) rest (Qc (Value.ref (zB Z + o) :: As).toArray) (pA (zB Z)) :=
  va_runIN M.1 hM ⟨va_cnB k9 M.1.2.2.2.2 (pSub hL.1) rfl rfl rfl (M.2.2 _ hl) (pWords M hL.2.1) hL.2.2.1 hR, hL.2.2.2.2, pWords M hL.2.2.2.1⟩ ⟨pPcN_blind, fun U hU hW => ⟨rfl, M.2.warm hW, by rw [hU]; exact V.1, by rw [hU]; exact hsz9, hao.alike hW.alike⟩⟩ rfl hn hsz hst (lv_room hcat) hdg hf
theorem kz_v (Z0 : pZ) (hB : zB Z = zB Z0) (hG : Z.1 = Z0.1) {post : pZ → pH → Prop} {a : Array Value} {H0 : Heap} (hr : va_Run p l e R s m args below meth c H locs cells slots mc ms (F0 m pc ls st) rest (pQv Z post a) (pA (zB Z))) (V : pV Z h H0 H locs)
    (kk : ∀ (y : pY) (h' : pH) (H1 : Heap) (locs1 : List Loc), post (gW Z0 y) h' → pV (gW Z0 y) h' H0 H1 locs1 → W p l e R s m args below meth c H1 locs1 (cells + mc) (slots + ms) Q (F0 m (pc + 3) ls rest)) : W p l e R s m args below meth c H locs cells slots Q (F0 m pc ls st) := by
  refine pk_v hr V (fun Z' h' H1 locs1 hp b1 b2 V1 => ?_)
  rw [gW_of (b1.trans hB) (b2.trans hG)] at hp V1
  exact kk _ h' H1 locs1 hp V1
/-- Object's constructor -/
theorem ko_I {a : Nat} (M : pM Z.1 p s m args c cc nL own) (hsz : ls.size = nL) (hl : Cond.methodLink own index Lib.objectInit ∈ pT) (hi : Cond.instanceMethod Lib.objectInit ∈ pT ∧ Cond.code Lib.objectInit ⟨#[0xb1]⟩ 1 none ∈ pT) (hR : 1 ≤ R.frames ∧ 2 * (F0 m pc ls (.ref a :: rest)).monitorRoom + (rest.map fun v => v.category).sum + 12 ≤ R.locals) (hdg : decode cc pc = .ok (.invokespecial index, 3))
    (kk : W p l e R s m args below meth c H locs cells slots Q (F0 m (pc + 3) ls rest)) : W p l e R s m args below meth c H locs cells slots Q (F0 m pc ls (.ref a :: rest)) :=
  W.objInit M.1.1 M.1.2.1 M.1.2.2.2.1 (pWords M hl) (pWords M hi.1) (pWords M hi.2) rfl (hsz.trans M.1.2.2.1.symm) rfl hdg hR.1 hR.2 kk
end KN
