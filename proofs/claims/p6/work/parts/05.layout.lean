/-! numbers, intervals, the layout -/
theorem pi_full (v : Int32) : -2147483648 ≤ v.toInt ∧ v.toInt ≤ 2147483647 := ⟨by have := Int32.le_toInt v; omega, by have := Int32.toInt_lt v; omega⟩
theorem pi_bm {z : Int} (h : -2147483648 ≤ z ∧ z ≤ 2147483647) : z.bmod (2 ^ 32) = z := by
  rw [Int.bmod_def]
  split <;> omega
theorem pi_add {x y : Int32} (h : -2147483648 ≤ x.toInt + y.toInt ∧ x.toInt + y.toInt ≤ 2147483647) : (x + y).toInt = x.toInt + y.toInt := by
  rw [Int32.toInt_add]; exact pi_bm h
theorem pi_sub {x y : Int32} (h : -2147483648 ≤ x.toInt - y.toInt ∧ x.toInt - y.toInt ≤ 2147483647) : (x - y).toInt = x.toInt - y.toInt := by
  rw [Int32.toInt_sub]; exact pi_bm h
theorem pi_mul {x y : Int32} (h : -2147483648 ≤ x.toInt * y.toInt ∧ x.toInt * y.toInt ≤ 2147483647) : (x * y).toInt = x.toInt * y.toInt := by
  rw [Int32.toInt_mul]; exact pi_bm h
theorem pi_div {x y : Int32} (hx : 0 ≤ x.toInt) (hy : 0 < y.toInt) : (x / y).toInt = x.toInt / y.toInt := by
  have h1 := (pi_full x).2
  rw [Int32.toInt_div, Int.tdiv_eq_ediv_of_nonneg hx]
  have h2 : 0 ≤ x.toInt / y.toInt := Int.ediv_nonneg hx (by omega)
  have h3 : x.toInt / y.toInt ≤ x.toInt := Int.ediv_le_self _ hx
  exact pi_bm ⟨by omega, by omega⟩
theorem pi_lt {x y : Int32} : x < y ↔ x.toInt < y.toInt := Int32.lt_iff_toInt_lt
theorem pi_le {x y : Int32} : x ≤ y ↔ x.toInt ≤ y.toInt := Int32.le_iff_toInt_le
theorem pi_eq {x y : Int32} : x = y ↔ x.toInt = y.toInt := Int32.toInt_inj.symm
theorem pi_lt' {x y : Int32} (h : ¬ x < y) : y.toInt ≤ x.toInt := by rw [pi_lt] at h; omega
theorem pi_le' {x y : Int32} (h : ¬ x ≤ y) : y.toInt < x.toInt := by rw [pi_le] at h; omega
theorem pi_ne {x y : Int32} (h : ¬ x = y) : ¬ x.toInt = y.toInt := fun z => h (pi_eq.mpr z)
theorem pi_z {x : Int32} (h : 0 ≤ x.toInt ∧ x.toInt ≤ 1) : x = 0 ∨ x = 1 := by
  have h0 : (0 : Int32).toInt = 0 := rfl
  have h1 : (1 : Int32).toInt = 1 := rfl
  rw [pi_eq, pi_eq, h0, h1]; omega
theorem pi_b {x : Int32} (h : x = 0 ∨ x = 1) : 0 ≤ x.toInt ∧ x.toInt ≤ 1 := by rcases h with rfl | rfl <;> decide
theorem pi_in {x : Int32} {n : Nat} (h : 0 ≤ x.toInt ∧ x.toInt < n) : vp_in x n := vp_in_iff.mpr h
theorem pi_cl {x : Int32} (h : 0 ≤ x.toInt) : (x.toNatClampNeg : Int) = x.toInt := by
  have : x.toNatClampNeg = x.toInt.toNat := rfl
  rw [this]; omega
def ivFu : Int × Int := (-2147483648, 2147483647)
def ivK0 : List (Int × Int) := [ivFu, ivFu, ivFu, ivFu, ivFu, ivFu, ivFu, ivFu, ivFu, ivFu, (0, 1), ivFu]
def ivK1 : List (Int × Int) := [ivFu, ivFu, ivFu, ivFu, ivFu, (0, 1), (0, 1), (0, 1), (0, 1)]
def ivK2 : List (Int × Int) := [ivFu, ivFu, ivFu, ivFu]
def ivK3 : List (Int × Int) := [ivFu, ivFu, ivFu, ivFu, ivFu, ivFu, (0, 1)]
def ivK4 : List (Int × Int) := [ivFu, ivFu, ivFu, ivFu, (0, 64)]
def ivK5 : List (Int × Int) := [ivFu, ivFu, ivFu, ivFu, ivFu, (0, 16), ivFu, ivFu, ivFu, ivFu, ivFu, ivFu, ivFu, (0, 1), (0, 1), (0, 1)]
def ivK6 : List (Int × Int) := [ivFu, ivFu, ivFu, ivFu, ivFu, ivFu, ivFu]
def ivK7 : List (Int × Int) := [ivFu, ivFu, ivFu, ivFu, ivFu, ivFu, ivFu, (0, 1), (0, 1), (0, 1), (0, 9000), (0, 9000), (0, 9000), (0, 9000)]
def ivK8 : List (Int × Int) := [ivFu, ivFu, ivFu, ivFu, (0, 40), ivFu]
def ivK9 : List (Int × Int) := [ivFu, ivFu, (0, 9000), (0, 9000), ivFu, ivFu]
def ivK10 : List (Int × Int) := [ivFu, ivFu, ivFu, ivFu, ivFu, (0, 40)]
def ivK11 : List (Int × Int) := [ivFu, ivFu, ivFu, ivFu, ivFu, ivFu, ivFu, ivFu, ivFu, ivFu, (0, 1), (0, 1)]
def ivK12 : List (Int × Int) := [ivFu, ivFu, (0, 64), ivFu, ivFu, ivFu, ivFu, ivFu, ivFu, (0, 1), ivFu, ivFu, ivFu, (0, 1), (0, 1), ivFu, (0, 16), ivFu, (0, 1), ivFu, ivFu, ivFu, ivFu, (-1, 8), ivFu, (0, 600), ivFu, (0, 600), (0, 1), ivFu, ivFu, ivFu, ivFu, ivFu, ivFu, ivFu, ivFu, ivFu, ivFu, ivFu, ivFu, (0, 1), ivFu, ivFu, ivFu, ivFu, ivFu, ivFu, (0, 8), (0, 8), ivFu, ivFu, ivFu, ivFu, ivFu, ivFu, (0, 40), ivFu, (0, 40), ivFu, ivFu, ivFu, ivFu, ivFu, ivFu, ivFu, ivFu, ivFu, ivFu, ivFu, (0, 40), (-1, 8), ivFu, ivFu, ivFu, ivFu, ivFu, ivFu, ivFu, (0, 40), ivFu, ivFu, (0, 7000), (0, 7000), ivFu, ivFu, ivFu, ivFu]
def ivKd : List (List (Int × Int)) := [ivK0, ivK1, ivK2, ivK3, ivK4, ivK5, ivK6, ivK7, ivK8, ivK9, ivK10, ivK11, ivK12]
def ivAr : List (Int × Int) := [ivFu, ivFu, ivFu, ivFu, ivFu, ivFu, (0, 1), (0, 1), (0, 1), ivFu, ivFu, ivFu, ivFu, ivFu, ivFu, ivFu, ivFu, ivFu, ivFu, ivFu, ivFu, ivFu, ivFu, ivFu, ivFu, ivFu, ivFu, ivFu, ivFu, ivFu, ivFu, ivFu, ivFu, ivFu, ivFu, ivFu, ivFu, ivFu, ivFu, ivFu, ivFu, ivFu, ivFu, ivFu, ivFu, ivFu, ivFu, ivFu, ivFu, ivFu, ivFu, ivFu, ivFu, ivFu, ivFu, ivFu, ivFu, ivFu, ivFu, ivFu, ivFu, ivFu, ivFu, ivFu, ivFu, ivFu, ivFu, ivFu, ivFu, ivFu, ivFu, ivFu, ivFu, ivFu, ivFu, ivFu, ivFu, ivFu, ivFu, ivFu, ivFu, ivFu, ivFu, ivFu, ivFu, ivFu, ivFu, ivFu, ivFu, ivFu, ivFu, ivFu, ivFu, ivFu, ivFu, ivFu, ivFu, ivFu, ivFu, ivFu, ivFu, ivFu, ivFu, ivFu, ivFu, ivFu, ivFu, ivFu, ivFu, ivFu, ivFu, ivFu, ivFu, ivFu, ivFu, ivFu, ivFu, ivFu, ivFu, ivFu, ivFu, ivFu, ivFu, ivFu, ivFu, ivFu, (0, 12), ivFu, ivFu, ivFu, ivFu, ivFu, ivFu, ivFu, ivFu, ivFu, ivFu, ivFu, ivFu, (0, 1), (0, 1), (0, 1), ivFu, ivFu, ivFu, ivFu, ivFu, ivFu, ivFu, ivFu, ivFu, ivFu, (0, 1), (0, 1), (0, 1), (0, 1), ivFu, ivFu, ivFu, ivFu, ivFu, ivFu, (0, 4), (0, 40), ivFu, (-1, 39), (0, 8), ivFu, ivFu, ivFu, ivFu, ivFu, ivFu, ivFu, ivFu, ivFu, (0, 1), (0, 1), (0, 1), ivFu, ivFu, ivFu, ivFu, ivFu, (0, 12), (0, 12), ivFu, ivFu, ivFu]
/-- the least and the greatest number that a cell's place may hold -/
def ivF (c o k : Nat) : Int × Int := if c < 13 then (ivKd.getD c []).getD k ivFu else ivAr.getD o ivFu
def Iv (Z : pZ) (h : pH) : Prop := ∀ o k, (ivF (zK Z o) o k).1 ≤ (h o k).toInt ∧ (h o k).toInt ≤ (ivF (zK Z o) o k).2
theorem Iv.get {Z : pZ} {h : pH} (I : Iv Z h) {o c : Nat} (ho : pIs Z o c) (k : Nat) : (ivF c o k).1 ≤ (h o k).toInt ∧ (h o k).toInt ≤ (ivF c o k).2 := by
  have := I o k
  rw [ho.2] at this
  exact this
theorem Iv.up {Z : pZ} {h : pH} (I : Iv Z h) {o c k : Nat} {v : Int32} (ho : pIs Z o c) (hv : (ivF c o k).1 ≤ v.toInt ∧ v.toInt ≤ (ivF c o k).2) : Iv Z (u2 h o k v) := by
  intro o' k'
  by_cases h1 : o' = o
  · subst h1
    rw [u2_eq]
    by_cases h2 : k' = k
    · subst h2
      rw [ho.2, show upd (h o') k' v k' = v from if_pos rfl]
      exact hv
    · rw [show upd (h o') k v k' = h o' k' from if_neg h2]
      exact I o' k'
  · rw [u2_ne h1]
    exact I o' k'
def pKT : List Nat := [11, 5, 4, 13, 13, 13, 14, 14, 14, 13, 3, 17, 7, 13, 7, 7, 7, 7, 7, 7, 7, 7, 6, 13, 13, 13, 16, 2, 2, 2, 2, 2, 2, 2, 2, 2, 8, 13, 13, 15, 0, 2, 0, 2, 0, 2, 0, 2, 0, 2, 0, 2, 0, 2, 0, 2, 0, 2, 0, 2, 0, 2, 0, 2, 0, 2, 0, 2, 0, 2, 0, 2, 0, 2, 0, 2, 0, 2, 0, 2, 0, 2, 0, 2, 0, 2, 0, 2, 0, 2, 0, 2, 0, 2, 0, 2, 0, 2, 0, 2, 0, 2, 0, 2, 0, 2, 0, 2, 0, 2, 0, 2, 0, 2, 0, 2, 0, 2, 0, 2, 0, 2, 1, 10, 13, 13, 13, 13, 13, 9, 13, 13, 9, 13, 13, 2, 2, 12, 13, 14, 14, 14, 13, 13, 13, 13, 13, 13, 13, 13, 13, 13, 14, 14, 14, 14, 13, 13, 13, 13, 13, 13, 13, 13, 13, 13, 13, 13, 13, 13, 13, 13, 13, 13, 13, 13, 14, 14, 14, 13, 13, 13, 13, 13, 13, 13, 13, 13, 18]
def pNT : List Nat := [0, 0, 0, 64, 64, 64, 6, 6, 6, 16, 0, 8, 0, 8, 0, 0, 0, 0, 0, 0, 0, 0, 0, 8, 8, 8, 8, 0, 0, 0, 0, 0, 0, 0, 0, 0, 0, 40, 40, 40, 0, 0, 0, 0, 0, 0, 0, 0, 0, 0, 0, 0, 0, 0, 0, 0, 0, 0, 0, 0, 0, 0, 0, 0, 0, 0, 0, 0, 0, 0, 0, 0, 0, 0, 0, 0, 0, 0, 0, 0, 0, 0, 0, 0, 0, 0, 0, 0, 0, 0, 0, 0, 0, 0, 0, 0, 0, 0, 0, 0, 0, 0, 0, 0, 0, 0, 0, 0, 0, 0, 0, 0, 0, 0, 0, 0, 0, 0, 0, 0, 0, 0, 0, 0, 40, 40, 40, 40, 480, 0, 192, 256, 0, 192, 256, 0, 0, 0, 192, 6, 6, 6, 16, 600, 600, 9, 9, 9, 9, 9, 9, 9, 9, 9, 9, 9, 8, 32, 8, 32, 8, 8, 40, 40, 160, 40, 40, 64, 40, 40, 40, 40, 40, 40, 40, 40, 40, 40, 40, 4, 4, 40, 40, 480, 40, 40, 77000, 77000, 1]
/-- the references that never change: cell, place, target -/
def pRT : Nat → List (Nat × Nat) := fun o => ([(0, [(0, 1), (1, 10), (2, 22), (3, 36), (4, 122), (5, 123), (6, 129), (7, 132), (8, 135), (9, 136)]), (1, [(0, 2), (1, 6), (2, 7), (3, 8), (4, 9)]), (2, [(0, 3), (1, 4), (2, 5)]), (10, [(0, 11), (1, 12), (2, 13)]), (11, [(0, 14), (1, 15), (2, 16), (3, 17), (4, 18), (5, 19), (6, 20), (7, 21)]), (22, [(0, 23), (1, 24), (2, 25), (3, 26), (4, 27)]), (26, [(0, 28), (1, 29), (2, 30), (3, 31), (4, 32), (5, 33), (6, 34), (7, 35)]), (36, [(0, 37), (1, 38), (2, 39), (3, 40)]), (39, [(0, 42), (1, 44), (2, 46), (3, 48), (4, 50), (5, 52), (6, 54), (7, 56), (8, 58), (9, 60), (10, 62), (11, 64), (12, 66), (13, 68), (14, 70), (15, 72), (16, 74), (17, 76), (18, 78), (19, 80), (20, 82), (21, 84), (22, 86), (23, 88), (24, 90), (25, 92), (26, 94), (27, 96), (28, 98), (29, 100), (30, 102), (31, 104), (32, 106), (33, 108), (34, 110), (35, 112), (36, 114), (37, 116), (38, 118), (39, 120)]), (40, [(0, 41)]), (42, [(0, 43)]), (44, [(0, 45)]), (46, [(0, 47)]), (48, [(0, 49)]), (50, [(0, 51)]), (52, [(0, 53)]), (54, [(0, 55)]), (56, [(0, 57)]), (58, [(0, 59)]), (60, [(0, 61)]), (62, [(0, 63)]), (64, [(0, 65)]), (66, [(0, 67)]), (68, [(0, 69)]), (70, [(0, 71)]), (72, [(0, 73)]), (74, [(0, 75)]), (76, [(0, 77)]), (78, [(0, 79)]), (80, [(0, 81)]), (82, [(0, 83)]), (84, [(0, 85)]), (86, [(0, 87)]), (88, [(0, 89)]), (90, [(0, 91)]), (92, [(0, 93)]), (94, [(0, 95)]), (96, [(0, 97)]), (98, [(0, 99)]), (100, [(0, 101)]), (102, [(0, 103)]), (104, [(0, 105)]), (106, [(0, 107)]), (108, [(0, 109)]), (110, [(0, 111)]), (112, [(0, 113)]), (114, [(0, 115)]), (116, [(0, 117)]), (118, [(0, 119)]), (120, [(0, 121)]), (123, [(0, 124), (1, 125), (2, 126), (3, 127), (4, 128)]), (137, [(1, 138), (10, 139), (11, 140), (12, 141), (17, 142), (24, 143), (26, 144), (29, 145), (30, 146), (31, 147), (32, 148), (33, 149), (34, 150), (35, 151), (36, 152), (37, 153), (38, 154), (39, 155), (42, 156), (43, 157), (44, 158), (45, 159), (46, 160), (47, 161), (51, 162), (52, 163), (53, 164), (54, 165), (55, 166), (57, 167), (59, 168), (60, 169), (61, 170), (62, 171), (63, 172), (64, 173), (65, 174), (66, 175), (67, 176), (68, 177), (69, 178), (72, 179), (73, 180), (74, 181), (75, 182), (76, 183), (77, 184), (78, 185), (80, 186), (81, 187)])].find? (fun q => q.1 == o)).elim [] (fun q => q.2)
/-- the layout: every cell of the first 189 is there, of its kind, of its length, with its references -/
def pSh (Z : pZ) : Prop := (∀ o, o < 189 → pIs Z o (pKT.getD o 99)) ∧ (∀ o, o < 189 → pNT.getD o 0 ≠ 0 → ¬ o ∈ [130, 131, 133, 134] → zN Z o = pNT.getD o 0) ∧ (∀ o k t, (k, t) ∈ pRT o → zR Z o k = some (zB Z + t))
theorem pSh.is {Z : pZ} (S : pSh Z) (o : Nat) (h : o < 189) : pIs Z o (pKT.getD o 99) := S.1 o h
theorem pSh.n {Z : pZ} (S : pSh Z) (o : Nat) (h : o < 189) (h1 : pNT.getD o 0 ≠ 0) (h2 : ¬ o ∈ [130, 131, 133, 134]) : zN Z o = pNT.getD o 0 := S.2.1 o h h1 h2
theorem pSh.r {Z : pZ} (S : pSh Z) (o k t : Nat) (h : (k, t) ∈ pRT o) : zR Z o k = some (zB Z + t) := S.2.2 o k t h
theorem sm_events {Z : pZ} (S : pSh Z) : pIs Z 138 13 ∧ zN Z 138 = 192 ∧ zR Z 137 1 = some (zB Z + 138) := ⟨S.is 138 (by decide), S.n 138 (by decide) (by decide) (by decide), S.r 137 1 138 (by decide)⟩
theorem sm_keys {Z : pZ} (S : pSh Z) : pIs Z 139 14 ∧ zN Z 139 = 6 ∧ zR Z 137 10 = some (zB Z + 139) := ⟨S.is 139 (by decide), S.n 139 (by decide) (by decide) (by decide), S.r 137 10 139 (by decide)⟩
theorem sm_downHere {Z : pZ} (S : pSh Z) : pIs Z 140 14 ∧ zN Z 140 = 6 ∧ zR Z 137 11 = some (zB Z + 140) := ⟨S.is 140 (by decide), S.n 140 (by decide) (by decide) (by decide), S.r 137 11 140 (by decide)⟩
theorem sm_upHere {Z : pZ} (S : pSh Z) : pIs Z 141 14 ∧ zN Z 141 = 6 ∧ zR Z 137 12 = some (zB Z + 141) := ⟨S.is 141 (by decide), S.n 141 (by decide) (by decide) (by decide), S.r 137 12 141 (by decide)⟩
theorem sm_letter {Z : pZ} (S : pSh Z) : pIs Z 142 13 ∧ zN Z 142 = 16 ∧ zR Z 137 17 = some (zB Z + 142) := ⟨S.is 142 (by decide), S.n 142 (by decide) (by decide) (by decide), S.r 137 17 142 (by decide)⟩
theorem sm_told {Z : pZ} (S : pSh Z) : pIs Z 143 13 ∧ zN Z 143 = 600 ∧ zR Z 137 24 = some (zB Z + 143) := ⟨S.is 143 (by decide), S.n 143 (by decide) (by decide) (by decide), S.r 137 24 143 (by decide)⟩
theorem sm_behaved {Z : pZ} (S : pSh Z) : pIs Z 144 13 ∧ zN Z 144 = 600 ∧ zR Z 137 26 = some (zB Z + 144) := ⟨S.is 144 (by decide), S.n 144 (by decide) (by decide) (by decide), S.r 137 26 144 (by decide)⟩
theorem sm_x {Z : pZ} (S : pSh Z) : pIs Z 145 13 ∧ zN Z 145 = 9 ∧ zR Z 137 29 = some (zB Z + 145) := ⟨S.is 145 (by decide), S.n 145 (by decide) (by decide) (by decide), S.r 137 29 145 (by decide)⟩
theorem sm_y {Z : pZ} (S : pSh Z) : pIs Z 146 13 ∧ zN Z 146 = 9 ∧ zR Z 137 30 = some (zB Z + 146) := ⟨S.is 146 (by decide), S.n 146 (by decide) (by decide) (by decide), S.r 137 30 146 (by decide)⟩
theorem sm_wide {Z : pZ} (S : pSh Z) : pIs Z 147 13 ∧ zN Z 147 = 9 ∧ zR Z 137 31 = some (zB Z + 147) := ⟨S.is 147 (by decide), S.n 147 (by decide) (by decide) (by decide), S.r 137 31 147 (by decide)⟩
theorem sm_high {Z : pZ} (S : pSh Z) : pIs Z 148 13 ∧ zN Z 148 = 9 ∧ zR Z 137 32 = some (zB Z + 148) := ⟨S.is 148 (by decide), S.n 148 (by decide) (by decide) (by decide), S.r 137 32 148 (by decide)⟩
theorem sm_scroll {Z : pZ} (S : pSh Z) : pIs Z 149 13 ∧ zN Z 149 = 9 ∧ zR Z 137 33 = some (zB Z + 149) := ⟨S.is 149 (by decide), S.n 149 (by decide) (by decide) (by decide), S.r 137 33 149 (by decide)⟩
theorem sm_lowest {Z : pZ} (S : pSh Z) : pIs Z 150 13 ∧ zN Z 150 = 9 ∧ zR Z 137 34 = some (zB Z + 150) := ⟨S.is 150 (by decide), S.n 150 (by decide) (by decide) (by decide), S.r 137 34 150 (by decide)⟩
theorem sm_rank {Z : pZ} (S : pSh Z) : pIs Z 151 13 ∧ zN Z 151 = 9 ∧ zR Z 137 35 = some (zB Z + 151) := ⟨S.is 151 (by decide), S.n 151 (by decide) (by decide) (by decide), S.r 137 35 151 (by decide)⟩
theorem sm_collapsed {Z : pZ} (S : pSh Z) : pIs Z 152 14 ∧ zN Z 152 = 9 ∧ zR Z 137 36 = some (zB Z + 152) := ⟨S.is 152 (by decide), S.n 152 (by decide) (by decide) (by decide), S.r 137 36 152 (by decide)⟩
theorem sm_here {Z : pZ} (S : pSh Z) : pIs Z 153 14 ∧ zN Z 153 = 9 ∧ zR Z 137 37 = some (zB Z + 153) := ⟨S.is 153 (by decide), S.n 153 (by decide) (by decide) (by decide), S.r 137 37 153 (by decide)⟩
theorem sm_before {Z : pZ} (S : pSh Z) : pIs Z 154 14 ∧ zN Z 154 = 9 ∧ zR Z 137 38 = some (zB Z + 154) := ⟨S.is 154 (by decide), S.n 154 (by decide) (by decide) (by decide), S.r 137 38 154 (by decide)⟩
theorem sm_known {Z : pZ} (S : pSh Z) : pIs Z 155 14 ∧ zN Z 155 = 9 ∧ zR Z 137 39 = some (zB Z + 155) := ⟨S.is 155 (by decide), S.n 155 (by decide) (by decide) (by decide), S.r 137 39 155 (by decide)⟩
theorem sm_childWindow {Z : pZ} (S : pSh Z) : pIs Z 156 13 ∧ zN Z 156 = 8 ∧ zR Z 137 42 = some (zB Z + 156) := ⟨S.is 156 (by decide), S.n 156 (by decide) (by decide) (by decide), S.r 137 42 156 (by decide)⟩
theorem sm_childClip {Z : pZ} (S : pSh Z) : pIs Z 157 13 ∧ zN Z 157 = 32 ∧ zR Z 137 43 = some (zB Z + 157) := ⟨S.is 157 (by decide), S.n 157 (by decide) (by decide) (by decide), S.r 137 43 157 (by decide)⟩
theorem sm_oldWindow {Z : pZ} (S : pSh Z) : pIs Z 158 13 ∧ zN Z 158 = 8 ∧ zR Z 137 44 = some (zB Z + 158) := ⟨S.is 158 (by decide), S.n 158 (by decide) (by decide) (by decide), S.r 137 44 158 (by decide)⟩
theorem sm_oldClip {Z : pZ} (S : pSh Z) : pIs Z 159 13 ∧ zN Z 159 = 32 ∧ zR Z 137 45 = some (zB Z + 159) := ⟨S.is 159 (by decide), S.n 159 (by decide) (by decide) (by decide), S.r 137 45 159 (by decide)⟩
theorem sm_childScroll {Z : pZ} (S : pSh Z) : pIs Z 160 13 ∧ zN Z 160 = 8 ∧ zR Z 137 46 = some (zB Z + 160) := ⟨S.is 160 (by decide), S.n 160 (by decide) (by decide) (by decide), S.r 137 46 160 (by decide)⟩
theorem sm_childLowest {Z : pZ} (S : pSh Z) : pIs Z 161 13 ∧ zN Z 161 = 8 ∧ zR Z 137 47 = some (zB Z + 161) := ⟨S.is 161 (by decide), S.n 161 (by decide) (by decide) (by decide), S.r 137 47 161 (by decide)⟩
theorem sm_openKind {Z : pZ} (S : pSh Z) : pIs Z 162 13 ∧ zN Z 162 = 40 ∧ zR Z 137 51 = some (zB Z + 162) := ⟨S.is 162 (by decide), S.n 162 (by decide) (by decide) (by decide), S.r 137 51 162 (by decide)⟩
theorem sm_openPile {Z : pZ} (S : pSh Z) : pIs Z 163 13 ∧ zN Z 163 = 40 ∧ zR Z 137 52 = some (zB Z + 163) := ⟨S.is 163 (by decide), S.n 163 (by decide) (by decide) (by decide), S.r 137 52 163 (by decide)⟩
theorem sm_openClip {Z : pZ} (S : pSh Z) : pIs Z 164 13 ∧ zN Z 164 = 160 ∧ zR Z 137 53 = some (zB Z + 164) := ⟨S.is 164 (by decide), S.n 164 (by decide) (by decide) (by decide), S.r 137 53 164 (by decide)⟩
theorem sm_openArea {Z : pZ} (S : pSh Z) : pIs Z 165 13 ∧ zN Z 165 = 40 ∧ zR Z 137 54 = some (zB Z + 165) := ⟨S.is 165 (by decide), S.n 165 (by decide) (by decide) (by decide), S.r 137 54 165 (by decide)⟩
theorem sm_openNumber {Z : pZ} (S : pSh Z) : pIs Z 166 13 ∧ zN Z 166 = 40 ∧ zR Z 137 55 = some (zB Z + 166) := ⟨S.is 166 (by decide), S.n 166 (by decide) (by decide) (by decide), S.r 137 55 166 (by decide)⟩
theorem sm_pile {Z : pZ} (S : pSh Z) : pIs Z 167 13 ∧ zN Z 167 = 64 ∧ zR Z 137 57 = some (zB Z + 167) := ⟨S.is 167 (by decide), S.n 167 (by decide) (by decide) (by decide), S.r 137 57 167 (by decide)⟩
theorem sm_firstX {Z : pZ} (S : pSh Z) : pIs Z 168 13 ∧ zN Z 168 = 40 ∧ zR Z 137 59 = some (zB Z + 168) := ⟨S.is 168 (by decide), S.n 168 (by decide) (by decide) (by decide), S.r 137 59 168 (by decide)⟩
theorem sm_firstY {Z : pZ} (S : pSh Z) : pIs Z 169 13 ∧ zN Z 169 = 40 ∧ zR Z 137 60 = some (zB Z + 169) := ⟨S.is 169 (by decide), S.n 169 (by decide) (by decide) (by decide), S.r 137 60 169 (by decide)⟩
theorem sm_indent {Z : pZ} (S : pSh Z) : pIs Z 170 13 ∧ zN Z 170 = 40 ∧ zR Z 137 61 = some (zB Z + 170) := ⟨S.is 170 (by decide), S.n 170 (by decide) (by decide) (by decide), S.r 137 61 170 (by decide)⟩
theorem sm_endX {Z : pZ} (S : pSh Z) : pIs Z 171 13 ∧ zN Z 171 = 40 ∧ zR Z 137 62 = some (zB Z + 171) := ⟨S.is 171 (by decide), S.n 171 (by decide) (by decide) (by decide), S.r 137 62 171 (by decide)⟩
theorem sm_lineTop {Z : pZ} (S : pSh Z) : pIs Z 172 13 ∧ zN Z 172 = 40 ∧ zR Z 137 63 = some (zB Z + 172) := ⟨S.is 172 (by decide), S.n 172 (by decide) (by decide) (by decide), S.r 137 63 172 (by decide)⟩
theorem sm_lineBottom {Z : pZ} (S : pSh Z) : pIs Z 173 13 ∧ zN Z 173 = 40 ∧ zR Z 137 64 = some (zB Z + 173) := ⟨S.is 173 (by decide), S.n 173 (by decide) (by decide) (by decide), S.r 137 64 173 (by decide)⟩
theorem sm_farX {Z : pZ} (S : pSh Z) : pIs Z 174 13 ∧ zN Z 174 = 40 ∧ zR Z 137 65 = some (zB Z + 174) := ⟨S.is 174 (by decide), S.n 174 (by decide) (by decide) (by decide), S.r 137 65 174 (by decide)⟩
theorem sm_farY {Z : pZ} (S : pSh Z) : pIs Z 175 13 ∧ zN Z 175 = 40 ∧ zR Z 137 66 = some (zB Z + 175) := ⟨S.is 175 (by decide), S.n 175 (by decide) (by decide) (by decide), S.r 137 66 175 (by decide)⟩
theorem sm_some {Z : pZ} (S : pSh Z) : pIs Z 176 14 ∧ zN Z 176 = 40 ∧ zR Z 137 67 = some (zB Z + 176) := ⟨S.is 176 (by decide), S.n 176 (by decide) (by decide) (by decide), S.r 137 67 176 (by decide)⟩
theorem sm_near {Z : pZ} (S : pSh Z) : pIs Z 177 14 ∧ zN Z 177 = 40 ∧ zR Z 137 68 = some (zB Z + 177) := ⟨S.is 177 (by decide), S.n 177 (by decide) (by decide) (by decide), S.r 137 68 177 (by decide)⟩
theorem sm_wasNear {Z : pZ} (S : pSh Z) : pIs Z 178 14 ∧ zN Z 178 = 40 ∧ zR Z 137 69 = some (zB Z + 178) := ⟨S.is 178 (by decide), S.n 178 (by decide) (by decide) (by decide), S.r 137 69 178 (by decide)⟩
theorem sm_clip {Z : pZ} (S : pSh Z) : pIs Z 179 13 ∧ zN Z 179 = 4 ∧ zR Z 137 72 = some (zB Z + 179) := ⟨S.is 179 (by decide), S.n 179 (by decide) (by decide) (by decide), S.r 137 72 179 (by decide)⟩
theorem sm_item {Z : pZ} (S : pSh Z) : pIs Z 180 13 ∧ zN Z 180 = 4 ∧ zR Z 137 73 = some (zB Z + 180) := ⟨S.is 180 (by decide), S.n 180 (by decide) (by decide) (by decide), S.r 137 73 180 (by decide)⟩
theorem sm_keptId {Z : pZ} (S : pSh Z) : pIs Z 181 13 ∧ zN Z 181 = 40 ∧ zR Z 137 74 = some (zB Z + 181) := ⟨S.is 181 (by decide), S.n 181 (by decide) (by decide) (by decide), S.r 137 74 181 (by decide)⟩
theorem sm_keptNumber {Z : pZ} (S : pSh Z) : pIs Z 182 13 ∧ zN Z 182 = 40 ∧ zR Z 137 75 = some (zB Z + 182) := ⟨S.is 182 (by decide), S.n 182 (by decide) (by decide) (by decide), S.r 137 75 182 (by decide)⟩
theorem sm_keptText {Z : pZ} (S : pSh Z) : pIs Z 183 13 ∧ zN Z 183 = 480 ∧ zR Z 137 76 = some (zB Z + 183) := ⟨S.is 183 (by decide), S.n 183 (by decide) (by decide) (by decide), S.r 137 76 183 (by decide)⟩
theorem sm_keptSize {Z : pZ} (S : pSh Z) : pIs Z 184 13 ∧ zN Z 184 = 40 ∧ zR Z 137 77 = some (zB Z + 184) := ⟨S.is 184 (by decide), S.n 184 (by decide) (by decide) (by decide), S.r 137 77 184 (by decide)⟩
theorem sm_keptCaret {Z : pZ} (S : pSh Z) : pIs Z 185 13 ∧ zN Z 185 = 40 ∧ zR Z 137 78 = some (zB Z + 185) := ⟨S.is 185 (by decide), S.n 185 (by decide) (by decide) (by decide), S.r 137 78 185 (by decide)⟩
theorem sm_quads {Z : pZ} (S : pSh Z) : pIs Z 186 13 ∧ zN Z 186 = 77000 ∧ zR Z 137 80 = some (zB Z + 186) := ⟨S.is 186 (by decide), S.n 186 (by decide) (by decide) (by decide), S.r 137 80 186 (by decide)⟩
theorem sm_drawing {Z : pZ} (S : pSh Z) : pIs Z 187 13 ∧ zN Z 187 = 77000 ∧ zR Z 137 81 = some (zB Z + 187) := ⟨S.is 187 (by decide), S.n 187 (by decide) (by decide) (by decide), S.r 137 81 187 (by decide)⟩
theorem sm_this {Z : pZ} (S : pSh Z) : pIs Z 137 12 := S.is 137 (by decide)
