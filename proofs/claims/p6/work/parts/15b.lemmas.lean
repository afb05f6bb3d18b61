theorem mK_upV {Z : pZ} {H0 H : Heap} {locs : List Loc} {h h1 : pH} (V : pV Z h1 H0 H locs) {i : Nat} {cv sv : Int32} (a : mK h) (e1 : h1 185 = upd (h 185) i cv) (e2 : h1 184 = upd (h 184) i sv) (hc : cv.toInt ≤ sv.toInt) : mK h1 := mK_up a e1 e2 hc
/-- the number of the top open thing -/
def opn (h : pH) : Nat := (h 137 56).toNatClampNeg - 1
theorem opn_at {h : pH} {v : Int32} (h1 : 1 ≤ (h 137 56).toInt) (hv : v.toInt = (h 137 56).toInt - 1) : v.toNatClampNeg = opn h := by
  have c1 : ((h 137 56).toNatClampNeg : Int) = (h 137 56).toInt := pi_cl (by omega)
  have c2 : (v.toNatClampNeg : Int) = v.toInt := pi_cl (by omega)
  unfold opn
  omega
theorem opn_1 {h : pH} (h1 : 1 ≤ (h 137 56).toInt) : (opn h : Int) + 1 = (h 137 56).toInt := by
  have c1 : ((h 137 56).toNatClampNeg : Int) = (h 137 56).toInt := pi_cl (by omega)
  unfold opn
  omega
/-- how many of the first n quads are the window w's -/
def cntW (qd : Nat → Int32) (w : Int32) : Nat → Int
  | 0 => 0
  | n + 1 => cntW qd w n + (if qd (11 * n) = w then 1 else 0)
theorem cntW_b (qd : Nat → Int32) (w : Int32) : ∀ n : Nat, 0 ≤ cntW qd w n ∧ cntW qd w n ≤ n
  | 0 => ⟨Int.le_refl _, Int.le_refl _⟩
  | n + 1 => by
    have := cntW_b qd w n
    unfold cntW
    split <;> omega
theorem cntW_mono (qd : Nat → Int32) (w : Int32) (n : Nat) : ∀ d : Nat, cntW qd w n ≤ cntW qd w (n + d)
  | 0 => Int.le_refl _
  | d + 1 => by
    have := cntW_mono qd w n d
    show _ ≤ cntW qd w (n + d) + _
    split <;> omega
/-- the quads of the first k windows together -/
def sumW (qd : Nat → Int32) (n : Nat) (on : Nat → Bool) : Nat → Int
  | 0 => 0
  | k + 1 => sumW qd n on k + (if on k = true then cntW qd (nI k) n else 0)
theorem sumW_0 (qd : Nat → Int32) (on : Nat → Bool) : ∀ k : Nat, sumW qd 0 on k = 0
  | 0 => rfl
  | k + 1 => by
    unfold sumW
    rw [sumW_0 qd on k]
    show (0 : Int) + (if on k = true then 0 else 0) = 0
    split <;> rfl
theorem sumW_s (qd : Nat → Int32) (n : Nat) (on : Nat → Bool) : ∀ k : Nat, k ≤ 9 → sumW qd (n + 1) on k ≤ sumW qd n on k + 1 ∧ ((∀ j, j < k → ¬ qd (11 * n) = nI j) → sumW qd (n + 1) on k = sumW qd n on k)
  | 0, _ => ⟨by show (0 : Int) ≤ 0 + 1; omega, fun _ => rfl⟩
  | k + 1, hk => by
    have ih := sumW_s qd n on k (by omega)
    have hc : cntW qd (nI k) (n + 1) = cntW qd (nI k) n + (if qd (11 * n) = nI k then 1 else 0) := rfl
    have e1 : sumW qd (n + 1) on (k + 1) = sumW qd (n + 1) on k + (if on k = true then cntW qd (nI k) (n + 1) else 0) := rfl
    have e2 : sumW qd n on (k + 1) = sumW qd n on k + (if on k = true then cntW qd (nI k) n else 0) := rfl
    rw [e1, e2, hc]
    by_cases e : qd (11 * n) = nI k
    · have h1 : ∀ j, j < k → ¬ qd (11 * n) = nI j := by
        intro j hj ej
        have := (nI_eq (by omega) (by omega)).mp (ej.symm.trans e)
        omega
      have h2 := ih.2 h1
      rw [if_pos e]
      exact ⟨by split <;> omega, fun z => absurd e (z k (by omega))⟩
    · rw [if_neg e]
      refine ⟨by have := ih.1; split <;> omega, fun z => ?_⟩
      have h2 := ih.2 (fun j hj => z j (by omega))
      split <;> omega
theorem sumW_le (qd : Nat → Int32) (on : Nat → Bool) : ∀ n : Nat, sumW qd n on 9 ≤ n
  | 0 => by rw [sumW_0]; exact Int.le_refl _
  | n + 1 => by
    have h1 := sumW_le qd on n
    have h2 := (sumW_s qd n on 9 (by omega)).1
    omega
/-- what is copied when the windows before w in turn k are through: those whose turn was, each once -/
def onW (key : Nat → Int) (k : Int) (w : Nat) : Nat → Bool := fun v => decide (key v < k ∨ (key v = k ∧ v < w))
theorem sumW_c {qd : Nat → Int32} {n : Nat} {on on' : Nat → Bool} : ∀ k : Nat, (∀ j, j < k → on' j = on j) → sumW qd n on' k = sumW qd n on k
  | 0, _ => rfl
  | k + 1, h => by
    unfold sumW
    rw [sumW_c k (fun j hj => h j (by omega)), h k (by omega)]
theorem sumW_mono {qd : Nat → Int32} {n : Nat} {on on' : Nat → Bool} : ∀ k : Nat, (∀ j, j < k → on j = true → on' j = true) → sumW qd n on k ≤ sumW qd n on' k
  | 0, _ => Int.le_refl _
  | k + 1, h => by
    have ih := sumW_mono (qd := qd) (n := n) k (fun j hj => h j (by omega))
    have hb := (cntW_b qd (nI k) n).1
    unfold sumW
    by_cases e : on k = true
    · rw [if_pos e, if_pos (h k (by omega) e)]; omega
    · rw [if_neg e]; split <;> omega
/-- one window more, whose turn it is -/
theorem sumW_add {qd : Nat → Int32} {n : Nat} {on on' : Nat → Bool} {w : Nat} (hw : on w = false) (hw' : on' w = true) (ho : ∀ j, j ≠ w → on' j = on j) : ∀ k : Nat, w < k → sumW qd n on' k = sumW qd n on k + cntW qd (nI w) n
  | 0, h => absurd h (by omega)
  | k + 1, h => by
    unfold sumW
    by_cases e : w = k
    · subst e
      rw [sumW_c w (fun j hj => ho j (by omega)), hw', hw]
      simp
    · rw [sumW_add hw hw' ho k (by omega), ho k (fun z => e z.symm)]
      omega
