/-! the class's cells by name; what a method of the class may write; max and min -/
theorem c_is_0 {Z : pZ} (S : pSh Z) : pIs Z 0 11 := S.is 0 (by decide)
theorem c_is_1 {Z : pZ} (S : pSh Z) : pIs Z 1 5 := S.is 1 (by decide)
theorem c_is_2 {Z : pZ} (S : pSh Z) : pIs Z 2 4 := S.is 2 (by decide)
theorem c_is_3 {Z : pZ} (S : pSh Z) : pIs Z 3 13 := S.is 3 (by decide)
theorem c_n_3 {Z : pZ} (S : pSh Z) : zN Z 3 = 64 := S.n 3 (by decide) (by decide) (by decide)
theorem c_is_4 {Z : pZ} (S : pSh Z) : pIs Z 4 13 := S.is 4 (by decide)
theorem c_n_4 {Z : pZ} (S : pSh Z) : zN Z 4 = 64 := S.n 4 (by decide) (by decide) (by decide)
theorem c_is_5 {Z : pZ} (S : pSh Z) : pIs Z 5 13 := S.is 5 (by decide)
theorem c_n_5 {Z : pZ} (S : pSh Z) : zN Z 5 = 64 := S.n 5 (by decide) (by decide) (by decide)
theorem c_is_6 {Z : pZ} (S : pSh Z) : pIs Z 6 14 := S.is 6 (by decide)
theorem c_n_6 {Z : pZ} (S : pSh Z) : zN Z 6 = 6 := S.n 6 (by decide) (by decide) (by decide)
theorem c_is_7 {Z : pZ} (S : pSh Z) : pIs Z 7 14 := S.is 7 (by decide)
theorem c_n_7 {Z : pZ} (S : pSh Z) : zN Z 7 = 6 := S.n 7 (by decide) (by decide) (by decide)
theorem c_is_8 {Z : pZ} (S : pSh Z) : pIs Z 8 14 := S.is 8 (by decide)
theorem c_n_8 {Z : pZ} (S : pSh Z) : zN Z 8 = 6 := S.n 8 (by decide) (by decide) (by decide)
theorem c_is_9 {Z : pZ} (S : pSh Z) : pIs Z 9 13 := S.is 9 (by decide)
theorem c_n_9 {Z : pZ} (S : pSh Z) : zN Z 9 = 16 := S.n 9 (by decide) (by decide) (by decide)
theorem c_is_10 {Z : pZ} (S : pSh Z) : pIs Z 10 3 := S.is 10 (by decide)
theorem c_is_11 {Z : pZ} (S : pSh Z) : pIs Z 11 17 := S.is 11 (by decide)
theorem c_n_11 {Z : pZ} (S : pSh Z) : zN Z 11 = 8 := S.n 11 (by decide) (by decide) (by decide)
theorem c_is_12 {Z : pZ} (S : pSh Z) : pIs Z 12 7 := S.is 12 (by decide)
theorem c_is_13 {Z : pZ} (S : pSh Z) : pIs Z 13 13 := S.is 13 (by decide)
theorem c_n_13 {Z : pZ} (S : pSh Z) : zN Z 13 = 8 := S.n 13 (by decide) (by decide) (by decide)
theorem c_is_22 {Z : pZ} (S : pSh Z) : pIs Z 22 6 := S.is 22 (by decide)
theorem c_is_23 {Z : pZ} (S : pSh Z) : pIs Z 23 13 := S.is 23 (by decide)
theorem c_n_23 {Z : pZ} (S : pSh Z) : zN Z 23 = 8 := S.n 23 (by decide) (by decide) (by decide)
theorem c_is_24 {Z : pZ} (S : pSh Z) : pIs Z 24 13 := S.is 24 (by decide)
theorem c_n_24 {Z : pZ} (S : pSh Z) : zN Z 24 = 8 := S.n 24 (by decide) (by decide) (by decide)
theorem c_is_25 {Z : pZ} (S : pSh Z) : pIs Z 25 13 := S.is 25 (by decide)
theorem c_n_25 {Z : pZ} (S : pSh Z) : zN Z 25 = 8 := S.n 25 (by decide) (by decide) (by decide)
theorem c_is_26 {Z : pZ} (S : pSh Z) : pIs Z 26 16 := S.is 26 (by decide)
theorem c_n_26 {Z : pZ} (S : pSh Z) : zN Z 26 = 8 := S.n 26 (by decide) (by decide) (by decide)
theorem c_is_27 {Z : pZ} (S : pSh Z) : pIs Z 27 2 := S.is 27 (by decide)
theorem c_is_36 {Z : pZ} (S : pSh Z) : pIs Z 36 8 := S.is 36 (by decide)
theorem c_is_37 {Z : pZ} (S : pSh Z) : pIs Z 37 13 := S.is 37 (by decide)
theorem c_n_37 {Z : pZ} (S : pSh Z) : zN Z 37 = 40 := S.n 37 (by decide) (by decide) (by decide)
theorem c_is_38 {Z : pZ} (S : pSh Z) : pIs Z 38 13 := S.is 38 (by decide)
theorem c_n_38 {Z : pZ} (S : pSh Z) : zN Z 38 = 40 := S.n 38 (by decide) (by decide) (by decide)
theorem c_is_39 {Z : pZ} (S : pSh Z) : pIs Z 39 15 := S.is 39 (by decide)
theorem c_n_39 {Z : pZ} (S : pSh Z) : zN Z 39 = 40 := S.n 39 (by decide) (by decide) (by decide)
theorem c_is_40 {Z : pZ} (S : pSh Z) : pIs Z 40 0 := S.is 40 (by decide)
theorem c_is_41 {Z : pZ} (S : pSh Z) : pIs Z 41 2 := S.is 41 (by decide)
theorem c_is_122 {Z : pZ} (S : pSh Z) : pIs Z 122 1 := S.is 122 (by decide)
theorem c_is_123 {Z : pZ} (S : pSh Z) : pIs Z 123 10 := S.is 123 (by decide)
theorem c_is_124 {Z : pZ} (S : pSh Z) : pIs Z 124 13 := S.is 124 (by decide)
theorem c_n_124 {Z : pZ} (S : pSh Z) : zN Z 124 = 40 := S.n 124 (by decide) (by decide) (by decide)
theorem c_is_125 {Z : pZ} (S : pSh Z) : pIs Z 125 13 := S.is 125 (by decide)
theorem c_n_125 {Z : pZ} (S : pSh Z) : zN Z 125 = 40 := S.n 125 (by decide) (by decide) (by decide)
theorem c_is_126 {Z : pZ} (S : pSh Z) : pIs Z 126 13 := S.is 126 (by decide)
theorem c_n_126 {Z : pZ} (S : pSh Z) : zN Z 126 = 40 := S.n 126 (by decide) (by decide) (by decide)
theorem c_is_127 {Z : pZ} (S : pSh Z) : pIs Z 127 13 := S.is 127 (by decide)
theorem c_n_127 {Z : pZ} (S : pSh Z) : zN Z 127 = 40 := S.n 127 (by decide) (by decide) (by decide)
theorem c_is_128 {Z : pZ} (S : pSh Z) : pIs Z 128 13 := S.is 128 (by decide)
theorem c_n_128 {Z : pZ} (S : pSh Z) : zN Z 128 = 480 := S.n 128 (by decide) (by decide) (by decide)
theorem c_is_129 {Z : pZ} (S : pSh Z) : pIs Z 129 9 := S.is 129 (by decide)
theorem c_is_132 {Z : pZ} (S : pSh Z) : pIs Z 132 9 := S.is 132 (by decide)
theorem c_is_135 {Z : pZ} (S : pSh Z) : pIs Z 135 2 := S.is 135 (by decide)
theorem c_is_136 {Z : pZ} (S : pSh Z) : pIs Z 136 2 := S.is 136 (by decide)
theorem c_r_0_0 {Z : pZ} (S : pSh Z) : zR Z 0 0 = some (zB Z + 1) := S.r 0 0 1 (by decide)
theorem c_r_0_1 {Z : pZ} (S : pSh Z) : zR Z 0 1 = some (zB Z + 10) := S.r 0 1 10 (by decide)
theorem c_r_0_2 {Z : pZ} (S : pSh Z) : zR Z 0 2 = some (zB Z + 22) := S.r 0 2 22 (by decide)
theorem c_r_0_3 {Z : pZ} (S : pSh Z) : zR Z 0 3 = some (zB Z + 36) := S.r 0 3 36 (by decide)
theorem c_r_0_4 {Z : pZ} (S : pSh Z) : zR Z 0 4 = some (zB Z + 122) := S.r 0 4 122 (by decide)
theorem c_r_0_5 {Z : pZ} (S : pSh Z) : zR Z 0 5 = some (zB Z + 123) := S.r 0 5 123 (by decide)
theorem c_r_0_6 {Z : pZ} (S : pSh Z) : zR Z 0 6 = some (zB Z + 129) := S.r 0 6 129 (by decide)
theorem c_r_0_7 {Z : pZ} (S : pSh Z) : zR Z 0 7 = some (zB Z + 132) := S.r 0 7 132 (by decide)
theorem c_r_0_8 {Z : pZ} (S : pSh Z) : zR Z 0 8 = some (zB Z + 135) := S.r 0 8 135 (by decide)
theorem c_r_0_9 {Z : pZ} (S : pSh Z) : zR Z 0 9 = some (zB Z + 136) := S.r 0 9 136 (by decide)
theorem c_r_1_0 {Z : pZ} (S : pSh Z) : zR Z 1 0 = some (zB Z + 2) := S.r 1 0 2 (by decide)
theorem c_r_1_1 {Z : pZ} (S : pSh Z) : zR Z 1 1 = some (zB Z + 6) := S.r 1 1 6 (by decide)
theorem c_r_1_2 {Z : pZ} (S : pSh Z) : zR Z 1 2 = some (zB Z + 7) := S.r 1 2 7 (by decide)
theorem c_r_1_3 {Z : pZ} (S : pSh Z) : zR Z 1 3 = some (zB Z + 8) := S.r 1 3 8 (by decide)
theorem c_r_1_4 {Z : pZ} (S : pSh Z) : zR Z 1 4 = some (zB Z + 9) := S.r 1 4 9 (by decide)
theorem c_r_2_0 {Z : pZ} (S : pSh Z) : zR Z 2 0 = some (zB Z + 3) := S.r 2 0 3 (by decide)
theorem c_r_2_1 {Z : pZ} (S : pSh Z) : zR Z 2 1 = some (zB Z + 4) := S.r 2 1 4 (by decide)
theorem c_r_2_2 {Z : pZ} (S : pSh Z) : zR Z 2 2 = some (zB Z + 5) := S.r 2 2 5 (by decide)
theorem c_r_10_0 {Z : pZ} (S : pSh Z) : zR Z 10 0 = some (zB Z + 11) := S.r 10 0 11 (by decide)
theorem c_r_10_1 {Z : pZ} (S : pSh Z) : zR Z 10 1 = some (zB Z + 12) := S.r 10 1 12 (by decide)
theorem c_r_10_2 {Z : pZ} (S : pSh Z) : zR Z 10 2 = some (zB Z + 13) := S.r 10 2 13 (by decide)
theorem c_r_22_0 {Z : pZ} (S : pSh Z) : zR Z 22 0 = some (zB Z + 23) := S.r 22 0 23 (by decide)
theorem c_r_22_1 {Z : pZ} (S : pSh Z) : zR Z 22 1 = some (zB Z + 24) := S.r 22 1 24 (by decide)
theorem c_r_22_2 {Z : pZ} (S : pSh Z) : zR Z 22 2 = some (zB Z + 25) := S.r 22 2 25 (by decide)
theorem c_r_22_3 {Z : pZ} (S : pSh Z) : zR Z 22 3 = some (zB Z + 26) := S.r 22 3 26 (by decide)
theorem c_r_22_4 {Z : pZ} (S : pSh Z) : zR Z 22 4 = some (zB Z + 27) := S.r 22 4 27 (by decide)
theorem c_r_36_0 {Z : pZ} (S : pSh Z) : zR Z 36 0 = some (zB Z + 37) := S.r 36 0 37 (by decide)
theorem c_r_36_1 {Z : pZ} (S : pSh Z) : zR Z 36 1 = some (zB Z + 38) := S.r 36 1 38 (by decide)
theorem c_r_36_2 {Z : pZ} (S : pSh Z) : zR Z 36 2 = some (zB Z + 39) := S.r 36 2 39 (by decide)
theorem c_r_36_3 {Z : pZ} (S : pSh Z) : zR Z 36 3 = some (zB Z + 40) := S.r 36 3 40 (by decide)
theorem c_r_40_0 {Z : pZ} (S : pSh Z) : zR Z 40 0 = some (zB Z + 41) := S.r 40 0 41 (by decide)
theorem c_r_123_0 {Z : pZ} (S : pSh Z) : zR Z 123 0 = some (zB Z + 124) := S.r 123 0 124 (by decide)
theorem c_r_123_1 {Z : pZ} (S : pSh Z) : zR Z 123 1 = some (zB Z + 125) := S.r 123 1 125 (by decide)
theorem c_r_123_2 {Z : pZ} (S : pSh Z) : zR Z 123 2 = some (zB Z + 126) := S.r 123 2 126 (by decide)
theorem c_r_123_3 {Z : pZ} (S : pSh Z) : zR Z 123 3 = some (zB Z + 127) := S.r 123 3 127 (by decide)
theorem c_r_123_4 {Z : pZ} (S : pSh Z) : zR Z 123 4 = some (zB Z + 128) := S.r 123 4 128 (by decide)
/-- the cells of which a method's writings are told: all but the boxes, areas, windows and sketches -/
def dOk (o : Nat) : Bool := decide (o < 189) && !([0, 2, 7].contains (pKT.getD o 99)) && !([130, 131, 133, 134].contains o)
def agrD (l : List (Nat × Nat)) (h h1 : pH) : Prop := ∀ o k, dOk o = true → wsl l o k = false → h1 o k = h o k
theorem agrD.rf {l : List (Nat × Nat)} {h : pH} : agrD l h h := fun _ _ _ _ => rfl
theorem agrD.up {l : List (Nat × Nat)} {h h1 : pH} (A : agrD l h h1) {o k : Nat} {v : Int32} (hw : wsl l o k = true) : agrD l h (u2 h1 o k v) := by
  intro o' k' hd h9
  by_cases e1 : o' = o
  · subst e1
    by_cases e2 : k' = k
    · subst e2
      rw [hw] at h9
      cases h9
    · rw [u2_eq, show upd (h1 o') k v k' = h1 o' k' from if_neg e2]
      exact A o' k' hd h9
  · rw [u2_ne e1]
    exact A o' k' hd h9
theorem agrD.upA {l : List (Nat × Nat)} {h h1 : pH} (A : agrD l h h1) {o k : Nat} {v : Int32} (hm : wsl l o 1000 = true) : agrD l h (u2 h1 o k v) := A.up (wsl_all hm k)
/-- a write into a box, an area, a window or a sketch -/
theorem agrD.upS {Z : pZ} (S : pSh Z) {l : List (Nat × Nat)} {h h1 : pH} (A : agrD l h h1) {o c k : Nat} {v : Int32} (ho : pIs Z o c) (hc : [0, 2, 7].contains c = true) : agrD l h (u2 h1 o k v) := by
  intro o' k' hd h9
  have e1 : o' ≠ o := by
    intro e
    subst e
    simp only [dOk, Bool.and_eq_true, decide_eq_true_eq, Bool.not_eq_true'] at hd
    have h1 := (S.is o' hd.1.1).2
    rw [ho.2] at h1
    rw [← h1, hc] at hd
    exact absurd hd.1.2 (by decide)
  rw [u2_ne e1]
  exact A o' k' hd h9
theorem agrD.tr {l l2 : List (Nat × Nat)} {h h1 h2 : pH} (A : agrD l h h1) (B : agrD l2 h1 h2) (hs : l2.all (fun q => wsl l q.1 q.2) = true) : agrD l h h2 := by
  intro o k hd h9
  have h8 : wsl l2 o k = false := by
    cases hq : wsl l2 o k with
    | false => rfl
    | true =>
      unfold wsl at hq
      rw [List.any_eq_true] at hq
      obtain ⟨q, q1, q2⟩ := hq
      have h7 := List.all_eq_true.mp hs q q1
      simp only [Bool.and_eq_true, Bool.or_eq_true, beq_iff_eq] at q2
      obtain ⟨q3, q4 | q4⟩ := q2
      · rw [q3, q4, h9] at h7; cases h7
      · rw [q3, q4] at h7
        rw [wsl_all h7 k] at h9; cases h9
  rw [B o k hd h8, A o k hd h9]
theorem agrD.wk {l l3 : List (Nat × Nat)} {h h1 : pH} (A : agrD l h h1) (hs : l.all (fun q => wsl l3 q.1 q.2) = true) : agrD l3 h h1 := (agrD.rf : agrD l3 h h).tr A hs
theorem agrD.get {l : List (Nat × Nat)} {h h1 : pH} (A : agrD l h h1) (o k : Nat) (hw : dOk o = true ∧ wsl l o k = false) : h1 o k = h o k := A o k hw.1 hw.2
theorem agrD.row {l : List (Nat × Nat)} {h h1 : pH} (A : agrD l h h1) (o : Nat) (hw : dOk o = true ∧ l.all (fun q => q.1 != o) = true) : h1 o = h o := by
  funext k
  refine A o k hw.1 ?_
  unfold wsl
  rw [List.any_eq_false]
  intro q hq
  have h7 := List.all_eq_true.mp hw.2 q hq
  simp only [bne_iff_ne, ne_eq] at h7
  simp [h7]
theorem pi_and63 (x : Int32) : 0 ≤ (x &&& 63).toInt ∧ (x &&& 63).toInt ≤ 63 := by
  have h1 := vp_in_iff.mp (pk_andIn x (m := 63) 6 (by decide) (by decide))
  have h2 : ((2 ^ 6 : Nat) : Int) = 64 := by decide
  rw [h2] at h1
  omega
theorem pi_or01 {x y : Int32} (hx : 0 ≤ x.toInt ∧ x.toInt ≤ 1) (hy : 0 ≤ y.toInt ∧ y.toInt ≤ 1) : 0 ≤ (x ||| y).toInt ∧ (x ||| y).toInt ≤ 1 := by
  rcases pi_z hx with rfl | rfl <;> rcases pi_z hy with rfl | rfl <;> decide
theorem kM_max : Cond.static Lib.Math.max.name ∈ pT ∧ Cond.initialized "java/lang/Math" ∈ pT ∧ Cond.code Lib.Math.max.name Lib.Math.max.code 2 (some .int) ∈ pT := ⟨pT_4 148 (by decide +kernel) rfl, pT_1 18 (by decide +kernel) rfl, pT_4 149 (by decide +kernel) rfl⟩
theorem lkJ_X11_391 : Cond.methodLink RX11 391 Lib.Math.max.name ∈ pT := pT_4 213 (by decide +kernel) rfl
theorem lkJ_X0_59 : Cond.methodLink RX0 59 Lib.Math.max.name ∈ pT := pT_5 114 (by decide +kernel) rfl
theorem lkJ_X2_28 : Cond.methodLink RX2 28 Lib.Math.max.name ∈ pT := pT_5 20 (by decide +kernel) rfl
theorem lkJ_X6_59 : Cond.methodLink RX6 59 Lib.Math.max.name ∈ pT := pT_6 30 (by decide +kernel) rfl
theorem lkJ_X7_40 : Cond.methodLink RX7 40 Lib.Math.max.name ∈ pT := pT_4 208 (by decide +kernel) rfl
theorem lkJ_X9_85 : Cond.methodLink RX9 85 Lib.Math.max.name ∈ pT := pT_4 147 (by decide +kernel) rfl
theorem pm_max {p : Program} {l : Launch} {e : Env} {R : Room} {s : State} {m : MethodId} {args : Array Value} {below : List Frame} {meth : Method} {c : Code} {H : Heap} {locs : List Loc} {cells slots : Nat} {Q : State → Prop} {cc : ByteArray} {nL pc : Nat} {own : String} {ls : Array Slot} {rest : List Value} {Z : pZ} {index : Nat} {x y : Int32} (M : pM Z.1 p s m args c cc nL own) (hsz : ls.size = nL) (hl : Cond.methodLink own index Lib.Math.max.name ∈ pT) (hR : 1 ≤ R.frames ∧ (rest.map fun v => v.category).sum + 13 ≤ R.locals) (hf : cells ≤ R.cells ∧ slots ≤ R.slots) (hdg : decode cc pc = .ok (.invokestatic index, 3))
    (kk : ∀ r : Int32, (x.toInt ≤ r.toInt ∧ y.toInt ≤ r.toInt ∧ (r.toInt = x.toInt ∨ r.toInt = y.toInt)) → W p l e R s m args below meth c H locs cells slots Q (F0 m (pc + 3) ls (.int r :: rest))) : W p l e R s m args below meth c H locs cells slots Q (F0 m pc ls (.int y :: .int x :: rest)) := by
  refine va_mmax M.1.1 M.1.2.1 (M.1.2.2.1.trans hsz.symm) M.1.2.2.2.1 (pWords M hl) (pWords M kM_max.1) (pWords M kM_max.2.1) (pWords M kM_max.2.2) hR.1 hR.2 hf.1 hf.2 hdg (kk _ ?_)
  by_cases z : x < y
  · rw [if_pos z]; rw [pi_lt] at z; omega
  · rw [if_neg z]; rw [pi_lt] at z; omega
theorem kM_min : Cond.static Lib.Math.min.name ∈ pT ∧ Cond.initialized "java/lang/Math" ∈ pT ∧ Cond.code Lib.Math.min.name Lib.Math.min.code 2 (some .int) ∈ pT := ⟨pT_3 102 (by decide +kernel) rfl, pT_1 18 (by decide +kernel) rfl, pT_3 103 (by decide +kernel) rfl⟩
theorem lkJ_X11_386 : Cond.methodLink RX11 386 Lib.Math.min.name ∈ pT := pT_4 212 (by decide +kernel) rfl
theorem lkJ_X2_34 : Cond.methodLink RX2 34 Lib.Math.min.name ∈ pT := pT_5 21 (by decide +kernel) rfl
theorem lkJ_X10_53 : Cond.methodLink RX10 53 Lib.Math.min.name ∈ pT := pT_3 101 (by decide +kernel) rfl
theorem pm_min {p : Program} {l : Launch} {e : Env} {R : Room} {s : State} {m : MethodId} {args : Array Value} {below : List Frame} {meth : Method} {c : Code} {H : Heap} {locs : List Loc} {cells slots : Nat} {Q : State → Prop} {cc : ByteArray} {nL pc : Nat} {own : String} {ls : Array Slot} {rest : List Value} {Z : pZ} {index : Nat} {x y : Int32} (M : pM Z.1 p s m args c cc nL own) (hsz : ls.size = nL) (hl : Cond.methodLink own index Lib.Math.min.name ∈ pT) (hR : 1 ≤ R.frames ∧ (rest.map fun v => v.category).sum + 13 ≤ R.locals) (hf : cells ≤ R.cells ∧ slots ≤ R.slots) (hdg : decode cc pc = .ok (.invokestatic index, 3))
    (kk : ∀ r : Int32, (r.toInt ≤ x.toInt ∧ r.toInt ≤ y.toInt ∧ (r.toInt = x.toInt ∨ r.toInt = y.toInt)) → W p l e R s m args below meth c H locs cells slots Q (F0 m (pc + 3) ls (.int r :: rest))) : W p l e R s m args below meth c H locs cells slots Q (F0 m pc ls (.int y :: .int x :: rest)) := by
  refine va_mmin M.1.1 M.1.2.1 (M.1.2.2.1.trans hsz.symm) M.1.2.2.2.1 (pWords M hl) (pWords M kM_min.1) (pWords M kM_min.2.1) (pWords M kM_min.2.2) hR.1 hR.2 hf.1 hf.2 hdg (kk _ ?_)
  by_cases z : y < x
  · rw [if_pos z]; rw [pi_lt] at z; omega
  · rw [if_neg z]; rw [pi_lt] at z; omega
