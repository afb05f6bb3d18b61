/-! the world when it is made; what holds between two calls of the law -/
def iv0 (q : Int × Int) : Bool := decide (q.1 ≤ 0 ∧ 0 ≤ q.2)
theorem getD_all {α : Type} {p : α → Bool} {L : List α} {d : α} (h : L.all p = true) (hd : p d = true) (k : Nat) : p (L.getD k d) = true := by
  rw [List.getD_eq_getElem?_getD]
  cases hq : L[k]? with
  | none => exact hd
  | some x => exact List.all_eq_true.mp h x (List.mem_of_getElem? hq)
set_option maxRecDepth 100000 in
theorem ivF_0 (c o k : Nat) : (ivF c o k).1 ≤ 0 ∧ 0 ≤ (ivF c o k).2 := by
  have hd : iv0 ivFu = true := by decide
  have h1 : iv0 (ivF c o k) = true := by
    unfold ivF
    by_cases hc : c < 13
    · rw [if_pos hc]
      have h2 : (ivKd.getD c []).all iv0 = true := getD_all (p := fun L : List (Int × Int) => L.all iv0) (by decide +kernel) rfl c
      exact getD_all h2 hd k
    · rw [if_neg hc]
      exact getD_all (by decide +kernel) hd o
  exact of_decide_eq_true h1
theorem lk_mem {α : Type} {L : List (Nat × Nat × α)} {o k : Nat} {v : α} (h : lk L o k = some v) : (o, k, v) ∈ L := by
  unfold lk at h
  rw [Option.map_eq_some_iff] at h
  obtain ⟨q, h1, h2⟩ := h
  have h3 := List.find?_some h1
  simp only [Bool.and_eq_true, beq_iff_eq] at h3
  have h4 := List.mem_of_find?_eq_some h1
  rw [← h3.1, ← h3.2, ← h2]
  exact h4
theorem mk_iv {Z : pZ} {h : pH} (P : pMk 189 186 34 Z h) : Iv Z h := by
  intro o k
  rw [P.2.2.2 o k]
  unfold lkI
  cases hq : lk (kXL.take 34) o k with
  | none => exact ivF_0 _ o k
  | some v =>
    have h1 := lk_mem hq
    have h2 : (kXL.take 34).all (fun q => decide (q.1 < 189 ∧ (ivF (pKT.getD q.1 99) q.1 q.2.1).1 ≤ q.2.2.toInt ∧ q.2.2.toInt ≤ (ivF (pKT.getD q.1 99) q.1 q.2.1).2)) = true := by decide +kernel
    have h3 := of_decide_eq_true (List.all_eq_true.mp h2 _ h1)
    rw [(P.2.1 o h3.1).1]
    exact h3.2
set_option maxRecDepth 100000 in
theorem kRT_ok : ∀ o k t, (k, t) ∈ pRT o → lk (kRL.take 186) o k = some t := by
  intro o k t h
  have key : ∀ (L : List (Nat × List (Nat × Nat))), L.all (fun q => q.2.all (fun kt => decide (lk (kRL.take 186) q.1 kt.1 = some kt.2))) = true → (k, t) ∈ (L.find? (fun q => q.1 == o)).elim [] (fun q => q.2) → lk (kRL.take 186) o k = some t := by
    intro L hL hm
    cases hf : L.find? (fun q => q.1 == o) with
    | none => rw [hf] at hm; cases hm
    | some q =>
      rw [hf] at hm
      have h1 := List.all_eq_true.mp hL q (List.mem_of_find?_eq_some hf)
      have h2 := List.find?_some hf
      simp only [beq_iff_eq] at h2
      have h3 := of_decide_eq_true (List.all_eq_true.mp h1 (k, t) hm)
      rw [h2] at h3
      exact h3
  exact key _ (by decide +kernel) h
theorem mk_sh {Z : pZ} {h : pH} (P : pMk 189 186 34 Z h) : pSh Z := by
  refine ⟨fun o ho => P.is ho rfl, fun o ho _ _ => (P.2.1 o ho).2, fun o k t hm => P.ref (kRT_ok o k t hm)⟩
theorem mk_row {Z : pZ} {h : pH} (P : pMk 189 186 34 Z h) {sk k q N M : Nat} (h1 : lk (kRL.take 186) sk k = some q) (h2 : q < 189 ∧ pKT.getD q 99 = 13 ∧ pNT.getD q 0 = N ∧ dOk q = false ∧ ivAr.getD q ivFu = ivFu ∧ N ≤ M) : pRow Z sk k M ∧ zN Z (qA Z sk k) = N := by
  have hr := P.ref h1
  have hq : qA Z sk k = q := by
    unfold qA
    rw [hr]
    exact Nat.add_sub_cancel_left _ _
  have hn : zN Z q = N := P.len h2.1 h2.2.2.1
  refine ⟨⟨?_, ?_, ?_, ?_⟩, ?_⟩
  · rw [hq]; exact hr
  · rw [hq]; exact P.is h2.1 h2.2.1
  · rw [hq]
    refine ⟨h2.2.2.2.1, fun k => ?_⟩
    unfold ivF
    rw [if_neg (by decide)]
    exact h2.2.2.2.2.1
  · rw [hq, hn]; exact h2.2.2.2.2.2
  · rw [hq, hn]
theorem mk_sk {Z : pZ} {h : pH} (P : pMk 189 186 34 Z h) : pSk Z ∧ pPh Z = 896 := by
  obtain ⟨a1, a2⟩ := mk_row P (sk := 129) (k := 0) (q := 130) (N := 192) (M := 120000) (by decide +kernel) (by decide +kernel)
  obtain ⟨b1, b2⟩ := mk_row P (sk := 129) (k := 1) (q := 131) (N := 256) (M := 160000) (by decide +kernel) (by decide +kernel)
  obtain ⟨c1, c2⟩ := mk_row P (sk := 132) (k := 0) (q := 133) (N := 192) (M := 120000) (by decide +kernel) (by decide +kernel)
  obtain ⟨d1, d2⟩ := mk_row P (sk := 132) (k := 1) (q := 134) (N := 256) (M := 160000) (by decide +kernel) (by decide +kernel)
  refine ⟨⟨a1, b1, c1, d1⟩, ?_⟩
  unfold pPh
  rw [a2, b2, c2, d2]
/-- the class's numbers, the reference's, behind t calls -/
def cB (t : Nat) (h : pH) : Prop := (h 2 4).toInt ≤ (t : Int) ∧ (h 129 2).toInt ≤ 13 * (t : Int) ∧ (h 129 3).toInt ≤ 13 * (t : Int)
def mB (t : Nat) (h : pH) : Prop := mE h ∧ mS h ∧ mK h ∧ (h 137 2).toInt ≤ (t : Int) ∧ (h 137 25).toInt ≤ (t : Int) ∧ (h 137 27).toInt ≤ (t : Int) ∧ (h 137 82).toInt ≤ 13 * (t : Int)
def lI (t : Nat) (Z : pZ) (h : pH) : Prop := pSh Z ∧ Iv Z h ∧ pSk Z ∧ pLk Z h ∧ cB t h ∧ mB t h
theorem mk_v {Z : pZ} {h : pH} (P : pMk 189 186 34 Z h) (o k : Nat) {v : Int32} (hv : (lk (kXL.take 34) o k).getD 0 = v) : h o k = v := by
  rw [P.2.2.2 o k]
  exact hv
theorem mk_r0 {Z : pZ} {h : pH} (P : pMk 189 186 34 Z h) (o : Nat) (hv : (kXL.take 34).all (fun q => q.1 != o) = true) (k : Nat) : h o k = 0 := by
  rw [P.2.2.2 o k]
  unfold lkI
  rw [lk_none hv k]
  rfl
theorem mk_lI {Z : pZ} {h : pH} (P : pMk 189 186 34 Z h) : lI 0 Z h := by
  have K := mk_sk P
  have z : ∀ o k, (lk (kXL.take 34) o k).getD 0 = 0 → (h o k).toInt = 0 := fun o k hv => by rw [mk_v P o k hv]; rfl
  have z1 := z 2 4 (by decide +kernel)
  have z2 := z 129 2 (by decide +kernel)
  have z3 := z 129 3 (by decide +kernel)
  have z4 := z 137 2 (by decide +kernel)
  have z5 := z 137 25 (by decide +kernel)
  have z6 := z 137 27 (by decide +kernel)
  have z7 := z 137 82 (by decide +kernel)
  refine ⟨mk_sh P, mk_iv P, K.1, ⟨by omega, by omega⟩, ⟨by omega, by omega, by omega⟩, fun n hn => ?_, mS.zero (z 137 56 (by decide +kernel)) (z 137 70 (by decide +kernel)) (z 137 58 (by decide +kernel)), fun j _ => ?_, by omega, by omega, by omega, by omega⟩
  · exfalso; omega
  · rw [mk_r0 P 185 (by decide +kernel) j, mk_r0 P 184 (by decide +kernel) j]
    exact Int.le_refl _
theorem lI.mono {t : Nat} {Z : pZ} {h : pH} (a : lI t Z h) : lI (t + 1) Z h := by
  obtain ⟨a1, a2, a3, a4, ⟨b1, b2, b3⟩, m1, m2, m3, m4, m5, m6, m7⟩ := a
  exact ⟨a1, a2, a3, a4, ⟨by omega, by omega, by omega⟩, m1, m2, m3, by omega, by omega, by omega, by omega⟩
/-- the class's calls leave the reference as it is -/
theorem mB.cls {t : Nat} {h h1 : pH} (a : mB t h) (A : agrD cW h h1) : mB t h1 := by
  obtain ⟨m1, m2, m3, m4, m5, m6, m7⟩ := a
  refine ⟨m1.congr (A.get 137 2 (by decide)) (A.row 138 (by decide)), m2.congr (A.get 137 56 (by decide)) (A.get 137 70 (by decide)) (A.get 137 58 (by decide)) (A.row 162 (by decide)) (A.row 163 (by decide)) (A.row 165 (by decide)) (A.row 166 (by decide)), m3.congr (A.row 185 (by decide)) (A.row 184 (by decide)), ?_, ?_, ?_, ?_⟩
  · rw [A.get 137 2 (by decide)]; exact m4
  · rw [A.get 137 25 (by decide)]; exact m5
  · rw [A.get 137 27 (by decide)]; exact m6
  · rw [A.get 137 82 (by decide)]; exact m7
