/-! windows, boxes and areas by their number; arraycopy; lengths -/
theorem pane_r {Z : pZ} (S : pSh Z) {k : Nat} (hk : k < 8) : zR Z 11 k = some (zB Z + (14 + k)) := S.r 11 k (14 + k) (by revert hk; revert k; decide)
theorem pane_is {Z : pZ} (S : pSh Z) {k : Nat} (hk : k < 8) : pIs Z (14 + k) 7 := by
  have h1 : 14 + k < 189 ∧ pKT.getD (14 + k) 99 = 7 := by revert hk; revert k; decide
  have h2 := S.is (14 + k) h1.1
  rw [h1.2] at h2
  exact h2
theorem box_r {Z : pZ} (S : pSh Z) {k : Nat} (hk : k < 8) : zR Z 26 k = some (zB Z + (28 + k)) := S.r 26 k (28 + k) (by revert hk; revert k; decide)
theorem box_is {Z : pZ} (S : pSh Z) {k : Nat} (hk : k < 8) : pIs Z (28 + k) 2 := by
  have h1 : 28 + k < 189 ∧ pKT.getD (28 + k) 99 = 2 := by revert hk; revert k; decide
  have h2 := S.is (28 + k) h1.1
  rw [h1.2] at h2
  exact h2
theorem area_r {Z : pZ} (S : pSh Z) {k : Nat} (hk : k < 40) : zR Z 39 k = some (zB Z + (42 + 2 * k)) := S.r 39 k (42 + 2 * k) (by revert hk; revert k; decide)
theorem area_is {Z : pZ} (S : pSh Z) {k : Nat} (hk : k < 40) : pIs Z (42 + 2 * k) 0 ∧ zR Z (42 + 2 * k) 0 = some (zB Z + (42 + 2 * k + 1)) ∧ pIs Z (42 + 2 * k + 1) 2 := by
  have h1 : 42 + 2 * k < 189 ∧ pKT.getD (42 + 2 * k) 99 = 0 ∧ 42 + 2 * k + 1 < 189 ∧ pKT.getD (42 + 2 * k + 1) 99 = 2 ∧ (0, 42 + 2 * k + 1) ∈ pRT (42 + 2 * k) := by revert hk; revert k; decide
  have h2 := S.is (42 + 2 * k) h1.1
  rw [h1.2.1] at h2
  have h3 := S.is (42 + 2 * k + 1) h1.2.2.1
  rw [h1.2.2.2.1] at h3
  exact ⟨h2, S.r _ _ _ h1.2.2.2.2, h3⟩
theorem pi_clt {i : Int32} {n : Nat} (h : 0 ≤ i.toInt ∧ i.toInt < n) : i.toNatClampNeg < n := by
  have := pi_cl h.1
  omega
theorem pane_ri {Z : pZ} (S : pSh Z) {i : Int32} (h : 0 ≤ i.toInt ∧ i.toInt < 8) : zR Z 11 i.toNatClampNeg = some (zB Z + (14 + i.toNatClampNeg)) := pane_r S (pi_clt (n := 8) h)
theorem pane_ii {Z : pZ} (S : pSh Z) {i : Int32} (h : 0 ≤ i.toInt ∧ i.toInt < 8) : pIs Z (14 + i.toNatClampNeg) 7 := pane_is S (pi_clt (n := 8) h)
theorem box_ri {Z : pZ} (S : pSh Z) {i : Int32} (h : 0 ≤ i.toInt ∧ i.toInt < 8) : zR Z 26 i.toNatClampNeg = some (zB Z + (28 + i.toNatClampNeg)) := box_r S (pi_clt (n := 8) h)
theorem box_ii {Z : pZ} (S : pSh Z) {i : Int32} (h : 0 ≤ i.toInt ∧ i.toInt < 8) : pIs Z (28 + i.toNatClampNeg) 2 := box_is S (pi_clt (n := 8) h)
theorem area_ri {Z : pZ} (S : pSh Z) {i : Int32} (h : 0 ≤ i.toInt ∧ i.toInt < 40) : zR Z 39 i.toNatClampNeg = some (zB Z + (42 + 2 * i.toNatClampNeg)) := area_r S (pi_clt (n := 40) h)
theorem area_ii {Z : pZ} (S : pSh Z) {i : Int32} (h : 0 ≤ i.toInt ∧ i.toInt < 40) : pIs Z (42 + 2 * i.toNatClampNeg) 0 ∧ zR Z (42 + 2 * i.toNatClampNeg) 0 = some (zB Z + (42 + 2 * i.toNatClampNeg + 1)) ∧ pIs Z (42 + 2 * i.toNatClampNeg + 1) 2 := area_is S (pi_clt (n := 40) h)
theorem area_40 {Z : pZ} (S : pSh Z) : pIs Z 40 0 ∧ zR Z 40 0 = some (zB Z + (40 + 1)) ∧ pIs Z (40 + 1) 2 := ⟨c_is_40 S, c_r_40_0 S, c_is_41 S⟩
/-- a whole row written anew -/
def u1 (h : pH) (o : Nat) (f : Nat → Int32) : pH := fun o' => if o' = o then f else h o'
theorem u1_ne {h : pH} {o o' : Nat} {f : Nat → Int32} (hn : o' ≠ o) : u1 h o f o' = h o' := if_neg hn
theorem u1_eq {h : pH} {o : Nat} {f : Nat → Int32} : u1 h o f o = f := if_pos rfl
theorem pE_u1 {Z : pZ} {h : pH} {o : Nat} {f : Nat → Int32} (o' : Nat) (hn : o' ≠ o) : pE Z (u1 h o f) o' = pE Z h o' := by
  unfold pE pFs
  simp only [u1_ne hn]
theorem Iv.up1 {Z : pZ} {h : pH} (I : Iv Z h) {o c : Nat} {f : Nat → Int32} (ho : pIs Z o c) (hc : ∀ k, ivF c o k = ivFu) : Iv Z (u1 h o f) := by
  intro o' k'
  by_cases h1 : o' = o
  · subst h1
    rw [u1_eq, ho.2, hc]
    exact pi_full _
  · rw [u1_ne h1]
    exact I o' k'
theorem agrD.up1 {l : List (Nat × Nat)} {h h1 : pH} (A : agrD l h h1) {o : Nat} {f : Nat → Int32} (hw : wsl l o 1000 = true) : agrD l h (u1 h1 o f) := by
  intro o' k' hd h9
  by_cases e1 : o' = o
  · subst e1
    rw [wsl_all hw k'] at h9
    cases h9
  · rw [u1_ne e1]
    exact A o' k' hd h9
/-- a write into a row that isn't told -/
theorem agrD.upN {l : List (Nat × Nat)} {h h1 : pH} (A : agrD l h h1) {o k : Nat} {v : Int32} (hd0 : dOk o = false) : agrD l h (u2 h1 o k v) := by
  intro o' k' hd h9
  have e1 : o' ≠ o := fun e => by rw [e, hd0] at hd; cases hd
  rw [u2_ne e1]
  exact A o' k' hd h9
theorem agrD.up1N {l : List (Nat × Nat)} {h h1 : pH} (A : agrD l h h1) {o : Nat} {f : Nat → Int32} (hd0 : dOk o = false) : agrD l h (u1 h1 o f) := by
  intro o' k' hd h9
  have e1 : o' ≠ o := fun e => by rw [e, hd0] at hd; cases hd
  rw [u1_ne e1]
  exact A o' k' hd h9
theorem pa_copy {p : Program} {l : Launch} {e : Env} {R : Room} {s : State} {m : MethodId} {args : Array Value} {below : List Frame} {meth : Method} {c : Code} {H : Heap} {locs : List Loc} {cells slots : Nat} {Q : State → Prop} {cc : ByteArray} {nL pc : Nat} {own : String} {ls : Array Slot} {rest : List Value} {Z : pZ} {h : pH} {H0 : Heap} {index o0 o1 : Nat} {sp dp n : Int32} (M : pM Z.1 p s m args c cc nL own) (V : pV Z h H0 H locs) (h0 : pIs Z o0 13) (h1 : pIs Z o1 13) (hsz : ls.size = nL)
    (hl : Cond.methodLink own index arraycopyName ∈ pT) (hk : Cond.native arraycopyName ∈ pT ∧ Cond.static arraycopyName ∈ pT ∧ Cond.initialized "java/lang/System" ∈ pT) (hs : 0 ≤ sp.toInt ∧ 0 ≤ dp.toInt ∧ 0 ≤ n.toInt ∧ sp.toInt + n.toInt ≤ (zN Z o0 : Int) ∧ dp.toInt + n.toInt ≤ (zN Z o1 : Int))
    (hR : 1 ≤ R.frames ∧ (rest.map fun v => v.category).sum + (nativeFrameWords "java/lang/System" "arraycopy" 5 + 11) ≤ R.locals) (hdg : decode cc pc = .ok (.invokestatic index, 3))
    (kk : ∀ (H1 : Heap) (locs1 : List Loc) (f : Nat → Int32), pV Z (u1 h o1 f) H0 H1 locs1 → W p l e R s m args below meth c H1 locs1 cells slots Q (F0 m (pc + 3) ls rest)) : W p l e R s m args below meth c H locs cells slots Q (F0 m pc ls (.int n :: .int dp :: .ref (zB Z + o1) :: .int sp :: .ref (zB Z + o0) :: rest)) := by
  obtain ⟨q0, hq0⟩ := pWs_get (h := h) h0.1
  obtain ⟨q1, hq1⟩ := pWs_get (h := h) h1.1
  have hq2 := hq1
  rw [pE_arr h0.2 (Or.inl rfl)] at hq0
  rw [pE_arr h1.2 (Or.inl rfl)] at hq1
  have z0 : (0 : Int32).toInt = 0 := rfl
  have c1 := pi_cl hs.1
  have c2 := pi_cl hs.2.1
  have c3 := pi_cl hs.2.2.1
  refine va_copyi (D := zD Z) (cl := vwCl) M.1.1 M.1.2.1 (M.1.2.2.1.trans hsz.symm) M.1.2.2.2.1 (M.1.2.2.2.2 _ hl) (M.1.2.2.2.2 _ hk.1) (M.1.2.2.2.2 _ hk.2.1) (M.1.2.2.2.2 _ hk.2.2) M.2.1 V.1.1 V.1.2.1 V.2.1 q0 q1 0 0 hq0 hq1 rfl rfl (ty := .int) rfl (by rw [pi_lt, z0]; omega) (by rw [pi_lt, z0]; omega) (by rw [pi_lt, z0]; omega) (by omega) (by omega) (fun _ _ => rfl) hR.1 hR.2 hdg (fun H1 locs1 hP hD hS => ?_)
  exact kk H1 locs1 _ (pV_set V h1.1 hq2 rfl rfl rfl (by rw [pE_arr h1.2 (Or.inl rfl), u1_eq]) (fun o' hn => pE_u1 o' hn) hP hD hS)
theorem pi_len {n : Nat} (h : n < 2147483648) : (nI n).toInt = (n : Int) := nI_toInt h
theorem kM_copy : Cond.native arraycopyName ∈ pT ∧ Cond.static arraycopyName ∈ pT ∧ Cond.initialized "java/lang/System" ∈ pT := ⟨pT_4 163 (by decide +kernel) rfl, pT_4 162 (by decide +kernel) rfl, pT_1 20 (by decide +kernel) rfl⟩
theorem lkJ_X9_114 : Cond.methodLink RX9 114 arraycopyName ∈ pT := pT_4 164 (by decide +kernel) rfl
theorem lkJ_X10_79 : Cond.methodLink RX10 79 arraycopyName ∈ pT := pT_5 234 (by decide +kernel) rfl
