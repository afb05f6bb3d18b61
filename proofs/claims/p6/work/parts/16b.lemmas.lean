theorem mS.topI {h : pH} (a : mS h) {kind ar : Int32} (h1 : 1 ≤ (h 137 56).toInt) (eK : kind = h 162 (opn h)) (eA : ar = h 165 (opn h)) : (¬ kind.toInt = 3 → 0 ≤ ar.toInt) ∧ (kind.toInt = 1 → (h 166 (opn h)).toInt ≤ 7) ∧ (kind.toInt = 4 → 2 ≤ (h 137 70).toInt) ∧ 1 ≤ (h 137 70).toInt := by
  obtain ⟨t1, t2, t3, t4⟩ := a.top (opn_1 h1)
  rw [← eK, ← eA] at t1
  rw [← eK] at t2 t3
  exact ⟨fun z => t1 (fun y => z (by rw [y]; rfl)), fun z => t2 (pi_eq.mpr z), fun z => t3 (pi_eq.mpr z), t4⟩
theorem mS.popI {h h1 : pH} {kind : Int32} (a : mS h) (h9 : 1 ≤ (h 137 56).toInt) (eK : kind = h 162 (opn h)) (e1 : (h1 137 56).toInt = (h 137 56).toInt - 1) (e2 : ((kind.toInt = 2 ∨ kind.toInt = 3) → (h1 137 70).toInt = (h 137 70).toInt) ∧ (¬ (kind.toInt = 2 ∨ kind.toInt = 3) → (h1 137 70).toInt = (h 137 70).toInt - 1)) (e3 : (h1 137 58).toInt = (h 163 (opn h)).toInt)
    (e4 : h1 162 = h 162) (e5 : h1 163 = h 163) (e6 : h1 165 = h 165) (e7 : h1 166 = h 166) : mS h1 := by
  have o1 := opn_1 h9
  refine a.pop (i := opn h) o1 (by omega) ?_ (pi_eq.mpr e3) e4 e5 e6 e7
  rw [← eK]
  by_cases c : kind = 2 ∨ kind = 3
  · rw [if_pos c, e2.1 (by rcases c with rfl | rfl <;> decide)]; omega
  · rw [if_neg c, e2.2 (fun z => c (by rcases z with z | z; exact Or.inl (pi_eq.mpr z); exact Or.inr (pi_eq.mpr z)))]
