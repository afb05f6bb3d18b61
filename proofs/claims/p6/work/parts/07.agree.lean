/-! what a method may write: a list of (cell, place), place 1000 for all of a cell's places -/
def wsl (l : List (Nat × Nat)) (o k : Nat) : Bool := l.any (fun q => q.1 == o && (q.2 == k || q.2 == 1000))
def agr (l : List (Nat × Nat)) (h h1 : pH) : Prop := ∀ o k, wsl l o k = false → h1 o k = h o k
theorem agr.rf {l : List (Nat × Nat)} {h : pH} : agr l h h := fun _ _ _ => rfl
theorem agr.up {l : List (Nat × Nat)} {h h1 : pH} (A : agr l h h1) {o k : Nat} {v : Int32} (hw : wsl l o k = true) : agr l h (u2 h1 o k v) := by
  intro o' k' h9
  by_cases e1 : o' = o
  · subst e1
    by_cases e2 : k' = k
    · subst e2
      rw [hw] at h9
      cases h9
    · rw [u2_eq, show upd (h1 o') k v k' = h1 o' k' from if_neg e2]
      exact A o' k' h9
  · rw [u2_ne e1]
    exact A o' k' h9
theorem wsl_all {l : List (Nat × Nat)} {o : Nat} (hm : wsl l o 1000 = true) (k : Nat) : wsl l o k = true := by
  unfold wsl at hm ⊢
  rw [List.any_eq_true] at hm ⊢
  obtain ⟨q, h1, h2⟩ := hm
  refine ⟨q, h1, ?_⟩
  simp only [Bool.and_eq_true, Bool.or_eq_true, beq_iff_eq, or_self] at h2 ⊢
  exact ⟨h2.1, Or.inr h2.2⟩
theorem agr.upA {l : List (Nat × Nat)} {h h1 : pH} (A : agr l h h1) {o k : Nat} {v : Int32} (hm : wsl l o 1000 = true) : agr l h (u2 h1 o k v) := A.up (wsl_all hm k)
theorem agr.tr {l l2 : List (Nat × Nat)} {h h1 h2 : pH} (A : agr l h h1) (B : agr l2 h1 h2) (hs : l2.all (fun q => wsl l q.1 q.2) = true) : agr l h h2 := by
  intro o k h9
  have h8 : wsl l2 o k = false := by
    cases hq : wsl l2 o k with
    | false => rfl
    | true =>
      unfold wsl at hq
      rw [List.any_eq_true] at hq
      obtain ⟨q, q1, q2⟩ := hq
      have h7 := List.all_eq_true.mp hs q q1
      simp only [Bool.and_eq_true, Bool.or_eq_true, beq_iff_eq] at q2
      obtain ⟨q3, q4 | q4⟩ := q2
      · rw [q3, q4, h9] at h7; cases h7
      · rw [q3, q4] at h7
        rw [wsl_all h7 k] at h9; cases h9
  rw [B o k h8, A o k h9]
theorem agr.get {l : List (Nat × Nat)} {h h1 : pH} (A : agr l h h1) (o k : Nat) (hw : wsl l o k = false) : h1 o k = h o k := A o k hw
theorem agr.row {l : List (Nat × Nat)} {h h1 : pH} (A : agr l h h1) (o : Nat) (hw : l.all (fun q => q.1 != o) = true) : h1 o = h o := by
  funext k
  refine A o k ?_
  unfold wsl
  rw [List.any_eq_false]
  intro q hq
  have h7 := List.all_eq_true.mp hw q hq
  simp only [bne_iff_ne, ne_eq] at h7
  simp [h7]
theorem agr.wk {l l3 : List (Nat × Nat)} {h h1 : pH} (A : agr l h h1) (hs : l.all (fun q => wsl l3 q.1 q.2) = true) : agr l3 h h1 := (agr.rf : agr l3 h h).tr A hs
