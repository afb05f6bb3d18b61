/-! what the reference keeps: where an ID is kept; the events; the pile; the texts -/
def isF (h : pH) (id r : Int32) : Prop := (r.toInt = -1 ∧ ∀ j : Nat, (j : Int) < (h 137 79).toInt → ¬ h 181 j = id) ∨ (0 ≤ r.toInt ∧ r.toInt < (h 137 79).toInt ∧ h 181 r.toNatClampNeg = id ∧ ∀ j : Nat, (j : Int) < r.toInt → ¬ h 181 j = id)
theorem isF.uniq {h : pH} {id r r' : Int32} (a : isF h id r) (b : isF h id r') : r.toInt = r'.toInt := by
  rcases a with ⟨a1, a2⟩ | ⟨a1, a2, a3, a4⟩ <;> rcases b with ⟨b1, b2⟩ | ⟨b1, b2, b3, b4⟩
  · omega
  · exact absurd b3 (a2 _ (by rw [pi_cl b1]; exact b2))
  · exact absurd a3 (b2 _ (by rw [pi_cl a1]; exact a2))
  · rcases Int.lt_trichotomy r.toInt r'.toInt with c | c | c
    · exact absurd a3 (b4 _ (by rw [pi_cl a1]; exact c))
    · exact c
    · exact absurd b3 (a4 _ (by rw [pi_cl b1]; exact c))
theorem isF.congr {h h1 : pH} {id r : Int32} (a : isF h id r) (e1 : h1 137 79 = h 137 79) (e2 : h1 181 = h 181) : isF h1 id r := by
  unfold isF
  rw [e1, e2]
  exact a
theorem mF_none {h hJ : pH} {id x r : Int32} (A : agr [] h hJ) (gf : ∀ j : Nat, (j : Int) < x.toInt → ¬ hJ 181 j = id) (hx : (hJ 137 79).toInt ≤ x.toInt) (hr : r.toInt = -1) : isF h id r := by
  refine Or.inl ⟨hr, fun j hj => ?_⟩
  rw [← A.get 181 j rfl]
  rw [← A.get 137 79 rfl] at hj
  exact gf j (by omega)
theorem mF_some {h hJ : pH} {id x : Int32} (A : agr [] h hJ) (gf : ∀ j : Nat, (j : Int) < x.toInt → ¬ hJ 181 j = id) (h0 : 0 ≤ x.toInt) (hx : x.toInt < (hJ 137 79).toInt) (he : hJ 181 x.toNatClampNeg = id) : isF h id x := by
  refine Or.inr ⟨h0, ?_, ?_, fun j hj => ?_⟩
  · rw [← A.get 137 79 rfl]; exact hx
  · rw [← A.get 181 _ rfl]; exact he
  · rw [← A.get 181 j rfl]; exact gf j hj
theorem mF_step {hJ : pH} {id x v : Int32} (gf : ∀ j : Nat, (j : Int) < x.toInt → ¬ hJ 181 j = id) (h0 : 0 ≤ x.toInt) (hv : v.toInt = x.toInt + 1) (hne : ¬ hJ 181 x.toNatClampNeg = id) : ∀ j : Nat, (j : Int) < v.toInt → ¬ hJ 181 j = id := by
  intro j hj
  by_cases e : (j : Int) = x.toInt
  · have e2 : x.toNatClampNeg = j := by have := pi_cl h0; omega
    rw [← e2]; exact hne
  · exact gf j (by omega)
/-- the events: a key's event has a key -/
def mE (h : pH) : Prop := ∀ n : Nat, (n : Int) < (h 137 2).toInt → h 138 (3 * n) = 3 → 0 ≤ (h 138 (3 * n + 1)).toInt ∧ (h 138 (3 * n + 1)).toInt ≤ 5
theorem mE.congr {h h1 : pH} (a : mE h) (e1 : h1 137 2 = h 137 2) (e2 : h1 138 = h 138) : mE h1 := by
  unfold mE
  rw [e1, e2]
  exact a
theorem mE_event {h h0 : pH} {what a b w w1 v0 v1 v2 : Int32} (E : mE h) (e2 : h0 138 = h 138) (ew : w = h 137 2) (hw : 0 ≤ w.toInt ∧ w.toInt ≤ 63) (hv0 : v0.toInt = 3 * w.toInt) (hv1 : v1.toInt = 3 * w.toInt + 1) (hv2 : v2.toInt = 3 * w.toInt + 2) (hw1 : w1.toInt = w.toInt + 1) (hk : what.toInt = 3 → 0 ≤ a.toInt ∧ a.toInt ≤ 5) :
    mE (u2 (u2 (u2 (u2 h0 138 v0.toNatClampNeg what) 138 v1.toNatClampNeg a) 138 v2.toNatClampNeg b) 137 2 w1) := by
  have c0 : (v0.toNatClampNeg : Int) = v0.toInt := pi_cl (by omega)
  have c1 : (v1.toNatClampNeg : Int) = v1.toInt := pi_cl (by omega)
  have c2 : (v2.toNatClampNeg : Int) = v2.toInt := pi_cl (by omega)
  intro n hn h3
  have r1 : (u2 (u2 (u2 (u2 h0 138 v0.toNatClampNeg what) 138 v1.toNatClampNeg a) 138 v2.toNatClampNeg b) 137 2 w1) 138 = upd (upd (upd (h0 138) v0.toNatClampNeg what) v1.toNatClampNeg a) v2.toNatClampNeg b := rfl
  have r2 : (u2 (u2 (u2 (u2 h0 138 v0.toNatClampNeg what) 138 v1.toNatClampNeg a) 138 v2.toNatClampNeg b) 137 2 w1) 137 2 = w1 := rfl
  rw [r1] at h3 ⊢
  rw [r2] at hn
  by_cases e : (n : Int) = w.toInt
  · rw [pk_un (by omega : 3 * n ≠ v2.toNatClampNeg), pk_un (by omega : 3 * n ≠ v1.toNatClampNeg), show 3 * n = v0.toNatClampNeg by omega, pk_us] at h3
    rw [pk_un (by omega : 3 * n + 1 ≠ v2.toNatClampNeg), show 3 * n + 1 = v1.toNatClampNeg by omega, pk_us]
    exact hk (by rw [h3]; rfl)
  · rw [pk_un (by omega : 3 * n ≠ v2.toNatClampNeg), pk_un (by omega : 3 * n ≠ v1.toNatClampNeg), pk_un (by omega : 3 * n ≠ v0.toNatClampNeg), e2] at h3
    rw [pk_un (by omega : 3 * n + 1 ≠ v2.toNatClampNeg), pk_un (by omega : 3 * n + 1 ≠ v1.toNatClampNeg), pk_un (by omega : 3 * n + 1 ≠ v0.toNatClampNeg), e2]
    exact E n (by rw [← ew]; omega) h3
/-- how many areas, how many IDs the first n open things have -/
def mA (kd : Nat → Int32) : Nat → Int
  | 0 => 0
  | n + 1 => mA kd n + (if kd n = 2 ∨ kd n = 3 then 0 else 1)
def mP (kd : Nat → Int32) : Nat → Int
  | 0 => 0
  | n + 1 => mP kd n + (if kd n = 4 then 0 else 1)
theorem mA_b (kd : Nat → Int32) : ∀ n : Nat, 0 ≤ mA kd n ∧ mA kd n ≤ n
  | 0 => ⟨Int.le_refl _, Int.le_refl _⟩
  | n + 1 => by
    have := mA_b kd n
    unfold mA
    split <;> omega
theorem mP_b (kd : Nat → Int32) : ∀ n : Nat, 0 ≤ mP kd n ∧ mP kd n ≤ n
  | 0 => ⟨Int.le_refl _, Int.le_refl _⟩
  | n + 1 => by
    have := mP_b kd n
    unfold mP
    split <;> omega
theorem mA_1 {kd : Nat → Int32} (h0 : kd 0 = 0) : ∀ n : Nat, 1 ≤ mA kd (n + 1)
  | 0 => by unfold mA mA; rw [h0, if_neg (by decide)]; decide
  | n + 1 => by
    have := mA_1 h0 n
    unfold mA
    split <;> omega
theorem mP_1 {kd : Nat → Int32} (h0 : kd 0 = 0) : ∀ n : Nat, 1 ≤ mP kd (n + 1)
  | 0 => by unfold mP mP; rw [h0, if_neg (by decide)]; decide
  | n + 1 => by
    have := mP_1 h0 n
    unfold mP
    split <;> omega
theorem mA_c {kd kd' : Nat → Int32} : ∀ n : Nat, (∀ j, j < n → kd' j = kd j) → mA kd' n = mA kd n
  | 0, _ => rfl
  | n + 1, h => by
    unfold mA
    rw [mA_c n (fun j hj => h j (by omega)), h n (by omega)]
theorem mP_c {kd kd' : Nat → Int32} : ∀ n : Nat, (∀ j, j < n → kd' j = kd j) → mP kd' n = mP kd n
  | 0, _ => rfl
  | n + 1, h => by
    unfold mP
    rw [mP_c n (fun j hj => h j (by omega)), h n (by omega)]
/-- the pile of open things: areas and IDs are counted, a window lies below all, each thing has what its closing needs -/
def mSn (h : pH) (n : Nat) : Prop := (h 137 56).toInt = n ∧ n ≤ 40 ∧ (h 137 70).toInt = mA (h 162) n ∧ (h 137 58).toInt = mP (h 162) n ∧ (1 ≤ n → h 162 0 = 0) ∧ ∀ j, j < n → ((h 163 j).toInt = mP (h 162) j ∧ (¬ h 162 j = 3 → 0 ≤ (h 165 j).toInt) ∧ (h 162 j = 1 → (h 166 j).toInt ≤ 7))
def mS (h : pH) : Prop := ∃ n, mSn h n
theorem mS.congr {h h1 : pH} (a : mS h) (e1 : h1 137 56 = h 137 56) (e2 : h1 137 70 = h 137 70) (e3 : h1 137 58 = h 137 58) (e4 : h1 162 = h 162) (e5 : h1 163 = h 163) (e6 : h1 165 = h 165) (e7 : h1 166 = h 166) : mS h1 := by
  unfold mS mSn
  rw [e1, e2, e3, e4, e5, e6, e7]
  exact a
theorem mS.zero {h : pH} (e1 : (h 137 56).toInt = 0) (e2 : (h 137 70).toInt = 0) (e3 : (h 137 58).toInt = 0) : mS h :=
  ⟨0, e1, by omega, e2, e3, fun q => absurd q (by omega), fun j hj => absurd hj (Nat.not_lt_zero j)⟩
/-- what the numbers of the pile say of each other -/
theorem mS.num {h : pH} (a : mS h) : 0 ≤ (h 137 56).toInt ∧ (h 137 56).toInt ≤ 40 ∧ 0 ≤ (h 137 70).toInt ∧ (h 137 70).toInt ≤ (h 137 56).toInt ∧ 0 ≤ (h 137 58).toInt ∧ (h 137 58).toInt ≤ (h 137 56).toInt ∧ (1 ≤ (h 137 56).toInt → 1 ≤ (h 137 70).toInt ∧ 1 ≤ (h 137 58).toInt) := by
  obtain ⟨n, e1, e2, e3, e4, e5, -⟩ := a
  have a1 := mA_b (h 162) n
  have a2 := mP_b (h 162) n
  refine ⟨by omega, by omega, by omega, by omega, by omega, by omega, fun h1 => ?_⟩
  have h2 := e5 (by omega)
  obtain ⟨k, rfl⟩ : ∃ k, n = k + 1 := ⟨n - 1, by omega⟩
  have a3 := mA_1 h2 k
  have a4 := mP_1 h2 k
  omega
/-- one more thing is open -/
theorem mS.push {h h1 : pH} {kind ar nu : Int32} {i : Nat} (a : mS h) (hi : (i : Int) = (h 137 56).toInt) (hl : i ≤ 39) (e1 : (h1 137 56).toInt = i + 1)
    (e2 : (h1 137 70).toInt = (h 137 70).toInt + (if kind = 2 ∨ kind = 3 then 0 else 1)) (e3 : (h1 137 58).toInt = (h 137 58).toInt + (if kind = 4 then 0 else 1))
    (e4 : h1 162 = upd (h 162) i kind) (e5 : h1 163 = upd (h 163) i (h 137 58)) (e6 : h1 165 = upd (h 165) i ar) (e7 : h1 166 = upd (h 166) i nu)
    (k0 : i = 0 → kind = 0) (k1 : ¬ kind = 3 → 0 ≤ ar.toInt) (k2 : kind = 1 → nu.toInt ≤ 7) : mS h1 := by
  obtain ⟨n, f1, f2, f3, f4, f5, f6⟩ := a
  have hn : n = i := by omega
  subst hn
  have kc : ∀ j, j < n → upd (h 162) n kind j = h 162 j := fun j hj => pk_un (by omega)
  refine ⟨n + 1, by omega, by omega, ?_, ?_, fun _ => ?_, fun j hj => ?_⟩
  · rw [e2, e4, f3]
    show _ = mA _ n + (if upd (h 162) n kind n = 2 ∨ upd (h 162) n kind n = 3 then 0 else 1)
    rw [pk_us, mA_c n kc]
  · rw [e3, e4, f4]
    show _ = mP _ n + (if upd (h 162) n kind n = 4 then 0 else 1)
    rw [pk_us, mP_c n kc]
  · rw [e4]
    by_cases z : n = 0
    · subst z; rw [pk_us]; exact k0 rfl
    · rw [kc 0 (by omega)]; exact f5 (by omega)
  · rw [e4, e5, e6, e7]
    by_cases z : j = n
    · subst z
      rw [pk_us, pk_us, pk_us, pk_us]
      exact ⟨by rw [f4, mP_c _ kc], k1, k2⟩
    · have z2 : j < n := by omega
      rw [pk_un z, pk_un z, pk_un z, pk_un z, mP_c j (fun q hq => kc q (by omega))]
      exact f6 j z2
/-- what the top thing's closing meets, and what stays -/
theorem mS.top {h : pH} {i : Nat} (a : mS h) (hi : (i : Int) + 1 = (h 137 56).toInt) : (¬ h 162 i = 3 → 0 ≤ (h 165 i).toInt) ∧ (h 162 i = 1 → (h 166 i).toInt ≤ 7) ∧ (h 162 i = 4 → 2 ≤ (h 137 70).toInt) ∧ 1 ≤ (h 137 70).toInt := by
  have hnum := a.num
  obtain ⟨n, f1, f2, f3, f4, f5, f6⟩ := a
  have hn : n = i + 1 := by omega
  subst hn
  obtain ⟨g1, g2, g3⟩ := f6 i (by omega)
  refine ⟨g2, g3, fun h4 => ?_, by omega⟩
  have h0 := f5 (by omega)
  obtain ⟨k, rfl⟩ : ∃ k, i = k + 1 := by
    cases i with
    | zero => rw [h0] at h4; exact absurd h4 (by decide)
    | succ k => exact ⟨k, rfl⟩
  have a3 := mA_1 h0 k
  rw [f3]
  show 2 ≤ mA _ (k + 1) + (if h 162 (k + 1) = 2 ∨ h 162 (k + 1) = 3 then 0 else 1)
  rw [if_neg (by rw [h4]; decide)]
  omega
theorem mS.pop {h h1 : pH} {i : Nat} (a : mS h) (hi : (i : Int) + 1 = (h 137 56).toInt) (e1 : (h1 137 56).toInt = i) (e2 : (h1 137 70).toInt = (h 137 70).toInt - (if h 162 i = 2 ∨ h 162 i = 3 then 0 else 1)) (e3 : h1 137 58 = h 163 i)
    (e4 : h1 162 = h 162) (e5 : h1 163 = h 163) (e6 : h1 165 = h 165) (e7 : h1 166 = h 166) : mS h1 := by
  obtain ⟨n, f1, f2, f3, f4, f5, f6⟩ := a
  have hn : n = i + 1 := by omega
  subst hn
  refine ⟨i, e1, by omega, ?_, ?_, fun q => ?_, fun j hj => ?_⟩
  · rw [e2, e4, f3]
    show mA _ i + (if h 162 i = 2 ∨ h 162 i = 3 then 0 else 1) - _ = _
    omega
  · rw [e3, e4]; exact (f6 i (by omega)).1
  · rw [e4]; exact f5 (by omega)
  · rw [e4, e5, e6, e7]; exact f6 j (by omega)
/-- a text's caret lies in it -/
def mK (h : pH) : Prop := ∀ j : Nat, j < 40 → (h 185 j).toInt ≤ (h 184 j).toInt
theorem mK.congr {h h1 : pH} (a : mK h) (e1 : h1 185 = h 185) (e2 : h1 184 = h 184) : mK h1 := by
  unfold mK
  rw [e1, e2]
  exact a
theorem mE.agr {l : List (Nat × Nat)} {h h1 : pH} (a : mE h) (A : agr l h h1) (h9 : wsl l 137 2 = false ∧ l.all (fun q => q.1 != 138) = true) : mE h1 := a.congr (A.get 137 2 h9.1) (A.row 138 h9.2)
theorem mK.agr {l : List (Nat × Nat)} {h h1 : pH} (a : mK h) (A : agr l h h1) (h9 : l.all (fun q => q.1 != 185) = true ∧ l.all (fun q => q.1 != 184) = true) : mK h1 := a.congr (A.row 185 h9.1) (A.row 184 h9.2)
theorem mS.agr {l : List (Nat × Nat)} {h h1 : pH} (a : mS h) (A : agr l h h1) (h9 : wsl l 137 56 = false ∧ wsl l 137 70 = false ∧ wsl l 137 58 = false ∧ l.all (fun q => q.1 != 162) = true ∧ l.all (fun q => q.1 != 163) = true ∧ l.all (fun q => q.1 != 165) = true ∧ l.all (fun q => q.1 != 166) = true) : mS h1 :=
  a.congr (A.get 137 56 h9.1) (A.get 137 70 h9.2.1) (A.get 137 58 h9.2.2.1) (A.row 162 h9.2.2.2.1) (A.row 163 h9.2.2.2.2.1) (A.row 165 h9.2.2.2.2.2.1) (A.row 166 h9.2.2.2.2.2.2)
theorem mE_use {h : pH} {n what a v0 v1 : Int32} (E : mE h) (hn : 0 ≤ n.toInt ∧ n.toInt < (h 137 2).toInt) (hv0 : v0.toInt = 3 * n.toInt) (hv1 : v1.toInt = 3 * n.toInt + 1) (e0 : what = h 138 v0.toNatClampNeg) (e1 : a = h 138 v1.toNatClampNeg) : what.toInt = 3 → 0 ≤ a.toInt ∧ a.toInt ≤ 5 := by
  intro h3
  have c0 : (v0.toNatClampNeg : Int) = v0.toInt := pi_cl (by omega)
  have c1 : (v1.toNatClampNeg : Int) = v1.toInt := pi_cl (by omega)
  have h4 : what = 3 := pi_eq.mpr h3
  have h5 := E n.toInt.toNat (by omega)
  rw [show 3 * n.toInt.toNat = v0.toNatClampNeg by omega, show v0.toNatClampNeg + 1 = v1.toNatClampNeg by omega, ← e0, ← e1] at h5
  exact h5 h4
def mSh (h hJ : pH) (n k : Int32) : Prop := (∀ j : Nat, (j : Int) < k.toInt - 3 * n.toInt → hJ 138 j = h 138 (j + 3 * n.toInt.toNat)) ∧ ∀ j : Nat, k.toInt - 3 * n.toInt ≤ j → hJ 138 j = h 138 j
theorem mSh_0 {h hJ : pH} {n k : Int32} (e : hJ 138 = h 138) (hk : k.toInt = 3 * n.toInt) : mSh h hJ n k := ⟨fun j hj => by omega, fun j _ => by rw [e]⟩
theorem mSh_step {h hJ : pH} {n k v d x : Int32} (a : mSh h hJ n k) (hn : 0 ≤ n.toInt ∧ 3 * n.toInt ≤ k.toInt) (hv : v.toInt = k.toInt + 1) (hd : d.toInt = k.toInt - 3 * n.toInt) (ex : x = hJ 138 k.toNatClampNeg) : mSh h (u2 hJ 138 d.toNatClampNeg x) n v := by
  have cd : (d.toNatClampNeg : Int) = d.toInt := pi_cl (by omega)
  have ck : (k.toNatClampNeg : Int) = k.toInt := pi_cl (by omega)
  refine ⟨fun j hj => ?_, fun j hj => ?_⟩
  · show upd (hJ 138) d.toNatClampNeg x j = _
    by_cases e : j = d.toNatClampNeg
    · rw [e, pk_us, ex, a.2 _ (by omega), show d.toNatClampNeg + 3 * n.toInt.toNat = k.toNatClampNeg by omega]
    · rw [pk_un e]; exact a.1 j (by omega)
  · show upd (hJ 138) d.toNatClampNeg x j = _
    rw [pk_un (by omega)]; exact a.2 j (by omega)
theorem mSh_end {h hJ : pH} {n k w : Int32} (a : mSh h hJ n k) (E : mE h) (hn : 0 ≤ n.toInt) (hk : 3 * (h 137 2).toInt ≤ k.toInt) (hw : w.toInt = (h 137 2).toInt - n.toInt) : mE (u2 hJ 137 2 w) := by
  intro j hj
  have hj : (j : Int) < w.toInt := hj
  show hJ 138 (3 * j) = 3 → 0 ≤ (hJ 138 (3 * j + 1)).toInt ∧ (hJ 138 (3 * j + 1)).toInt ≤ 5
  rw [a.1 (3 * j) (by omega), a.1 (3 * j + 1) (by omega)]
  have := E (j + n.toInt.toNat) (by omega)
  rw [show 3 * j + 3 * n.toInt.toNat = 3 * (j + n.toInt.toNat) by omega, show 3 * j + 1 + 3 * n.toInt.toNat = 3 * (j + n.toInt.toNat) + 1 by omega]
  exact this
theorem mK_up {h h1 : pH} {i : Nat} {cv sv : Int32} (a : mK h) (e1 : h1 185 = upd (h 185) i cv) (e2 : h1 184 = upd (h 184) i sv) (hc : cv.toInt ≤ sv.toInt) : mK h1 := by
  intro j hj
  rw [e1, e2]
  by_cases e : j = i
  · subst e; rw [pk_us, pk_us]; exact hc
  · rw [pk_un e, pk_un e]; exact a j hj
theorem mK_c {h : pH} {i : Nat} {cv : Int32} (a : mK h) (hc : cv.toInt ≤ (h 184 i).toInt) : mK (u2 h 185 i cv) := by
  intro j hj
  show (upd (h 185) i cv j).toInt ≤ (h 184 j).toInt
  by_cases e : j = i
  · subst e; rw [pk_us]; exact hc
  · rw [pk_un e]; exact a j hj
theorem mK.at {h : pH} (a : mK h) {k c s : Int32} (hk : 0 ≤ k.toInt ∧ k.toInt ≤ 39) (e1 : c = h 185 k.toNatClampNeg) (e2 : s = h 184 k.toNatClampNeg) : c.toInt ≤ s.toInt := by
  have ck : (k.toNatClampNeg : Int) = k.toInt := pi_cl hk.1
  rw [e1, e2]; exact a _ (by omega)
theorem mK_dec {h : pH} {k c x : Int32} (a : mK h) (hk : 0 ≤ k.toInt ∧ k.toInt ≤ 39) (e : c = h 185 k.toNatClampNeg) (hx : x.toInt ≤ c.toInt) : mK (u2 h 185 k.toNatClampNeg x) := by
  have ck : (k.toNatClampNeg : Int) = k.toInt := pi_cl hk.1
  have h1 := a k.toNatClampNeg (by omega)
  rw [← e] at h1
  exact mK_c a (by omega)
theorem mK_inc {h : pH} {k s x : Int32} (a : mK h) (e : s = h 184 k.toNatClampNeg) (hx : x.toInt ≤ s.toInt) : mK (u2 h 185 k.toNatClampNeg x) := mK_c a (by rw [← e]; exact hx)
