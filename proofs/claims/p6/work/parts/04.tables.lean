/-! the tables' words by their places: classes, fields, methods, links -/
theorem pT_1 {w : Cond} (i : Nat) (h : tables_1_1[i]? = some w) (hg : goodWord w = true) : w ∈ pT := by
  have h9 := List.mem_of_getElem? h
  exact List.mem_filter.mpr ⟨List.mem_append_right _ (show w ∈ tables_1 from List.mem_append_left _ h9), hg⟩
theorem pT_2 {w : Cond} (i : Nat) (h : tables_1_2[i]? = some w) (hg : goodWord w = true) : w ∈ pT := by
  have h9 := List.mem_of_getElem? h
  exact List.mem_filter.mpr ⟨List.mem_append_right _ (show w ∈ tables_1 from List.mem_append_right _ (List.mem_append_left _ h9)), hg⟩
theorem pT_3 {w : Cond} (i : Nat) (h : tables_1_3[i]? = some w) (hg : goodWord w = true) : w ∈ pT := by
  have h9 := List.mem_of_getElem? h
  exact List.mem_filter.mpr ⟨List.mem_append_right _ (show w ∈ tables_1 from List.mem_append_right _ (List.mem_append_right _ (List.mem_append_left _ h9))), hg⟩
theorem pT_4 {w : Cond} (i : Nat) (h : tables_1_4[i]? = some w) (hg : goodWord w = true) : w ∈ pT := by
  have h9 := List.mem_of_getElem? h
  exact List.mem_filter.mpr ⟨List.mem_append_right _ (show w ∈ tables_1 from List.mem_append_right _ (List.mem_append_right _ (List.mem_append_right _ (List.mem_append_left _ h9)))), hg⟩
theorem pT_5 {w : Cond} (i : Nat) (h : tables_1_5[i]? = some w) (hg : goodWord w = true) : w ∈ pT := by
  have h9 := List.mem_of_getElem? h
  exact List.mem_filter.mpr ⟨List.mem_append_right _ (show w ∈ tables_1 from List.mem_append_right _ (List.mem_append_right _ (List.mem_append_right _ (List.mem_append_right _ (List.mem_append_left _ h9))))), hg⟩
theorem pT_6 {w : Cond} (i : Nat) (h : tables_1_6[i]? = some w) (hg : goodWord w = true) : w ∈ pT := by
  have h9 := List.mem_of_getElem? h
  exact List.mem_filter.mpr ⟨List.mem_append_right _ (show w ∈ tables_1 from List.mem_append_right _ (List.mem_append_right _ (List.mem_append_right _ (List.mem_append_right _ (List.mem_append_right _ (List.mem_append_left _ h9)))))), hg⟩
theorem pT_7 {w : Cond} (i : Nat) (h : tables_1_7[i]? = some w) (hg : goodWord w = true) : w ∈ pT := by
  have h9 := List.mem_of_getElem? h
  exact List.mem_filter.mpr ⟨List.mem_append_right _ (show w ∈ tables_1 from List.mem_append_right _ (List.mem_append_right _ (List.mem_append_right _ (List.mem_append_right _ (List.mem_append_right _ (List.mem_append_right _ (List.mem_append_left _ h9))))))), hg⟩
theorem pT_8 {w : Cond} (i : Nat) (h : tables_1_8[i]? = some w) (hg : goodWord w = true) : w ∈ pT := by
  have h9 := List.mem_of_getElem? h
  exact List.mem_filter.mpr ⟨List.mem_append_right _ (show w ∈ tables_1 from List.mem_append_right _ (List.mem_append_right _ (List.mem_append_right _ (List.mem_append_right _ (List.mem_append_right _ (List.mem_append_right _ (List.mem_append_right _ (h9)))))))), hg⟩
theorem iX0 : ∀ w ∈ u_ws RX0 TX0 12, w ∈ pT := fun w hw => List.mem_filter.mpr ⟨(by decide +kernel : ∀ w ∈ u_ws RX0 TX0 12, w ∈ lw_tbl) w hw, (by decide +kernel : ∀ w ∈ u_ws RX0 TX0 12, goodWord w = true) w hw⟩
theorem pC0 : pCl 0 RX0 TX0 12 tyX0 := ⟨rfl, iX0, tyX0_ok, nmX0, by decide, rfl⟩
theorem fk0_0 : 0 < 12 ∧ pRf 0 0 = true := by decide
theorem fk0_1 : 1 < 12 ∧ pRf 0 1 = false := by decide
theorem fk0_2 : 2 < 12 ∧ pRf 0 2 = false := by decide
theorem fk0_3 : 3 < 12 ∧ pRf 0 3 = false := by decide
theorem fk0_4 : 4 < 12 ∧ pRf 0 4 = false := by decide
theorem fk0_5 : 5 < 12 ∧ pRf 0 5 = false := by decide
theorem fk0_6 : 6 < 12 ∧ pRf 0 6 = false := by decide
theorem fk0_7 : 7 < 12 ∧ pRf 0 7 = false := by decide
theorem fk0_8 : 8 < 12 ∧ pRf 0 8 = false := by decide
theorem fk0_9 : 9 < 12 ∧ pRf 0 9 = false := by decide
theorem fk0_10 : 10 < 12 ∧ pRf 0 10 = false := by decide
theorem fk0_11 : 11 < 12 ∧ pRf 0 11 = false := by decide
theorem iX1 : ∀ w ∈ u_ws RX1 TX1 9, w ∈ pT := fun w hw => List.mem_filter.mpr ⟨(by decide +kernel : ∀ w ∈ u_ws RX1 TX1 9, w ∈ lw_tbl) w hw, (by decide +kernel : ∀ w ∈ u_ws RX1 TX1 9, goodWord w = true) w hw⟩
theorem pC1 : pCl 1 RX1 TX1 9 tyX1 := ⟨rfl, iX1, tyX1_ok, nmX1, by decide, rfl⟩
theorem fk1_0 : 0 < 9 ∧ pRf 1 0 = false := by decide
theorem fk1_1 : 1 < 9 ∧ pRf 1 1 = false := by decide
theorem fk1_2 : 2 < 9 ∧ pRf 1 2 = false := by decide
theorem fk1_3 : 3 < 9 ∧ pRf 1 3 = false := by decide
theorem fk1_4 : 4 < 9 ∧ pRf 1 4 = false := by decide
theorem fk1_5 : 5 < 9 ∧ pRf 1 5 = false := by decide
theorem fk1_6 : 6 < 9 ∧ pRf 1 6 = false := by decide
theorem fk1_7 : 7 < 9 ∧ pRf 1 7 = false := by decide
theorem fk1_8 : 8 < 9 ∧ pRf 1 8 = false := by decide
theorem iX2 : ∀ w ∈ u_ws RX2 TX2 4, w ∈ pT := fun w hw => List.mem_filter.mpr ⟨(by decide +kernel : ∀ w ∈ u_ws RX2 TX2 4, w ∈ lw_tbl) w hw, (by decide +kernel : ∀ w ∈ u_ws RX2 TX2 4, goodWord w = true) w hw⟩
theorem pC2 : pCl 2 RX2 TX2 4 tyX2 := ⟨rfl, iX2, tyX2_ok, nmX2, by decide, rfl⟩
theorem fk2_0 : 0 < 4 ∧ pRf 2 0 = false := by decide
theorem fk2_1 : 1 < 4 ∧ pRf 2 1 = false := by decide
theorem fk2_2 : 2 < 4 ∧ pRf 2 2 = false := by decide
theorem fk2_3 : 3 < 4 ∧ pRf 2 3 = false := by decide
theorem iX3 : ∀ w ∈ u_ws RX3 TX3 7, w ∈ pT := fun w hw => List.mem_filter.mpr ⟨(by decide +kernel : ∀ w ∈ u_ws RX3 TX3 7, w ∈ lw_tbl) w hw, (by decide +kernel : ∀ w ∈ u_ws RX3 TX3 7, goodWord w = true) w hw⟩
theorem pC3 : pCl 3 RX3 TX3 7 tyX3 := ⟨rfl, iX3, tyX3_ok, nmX3, by decide, rfl⟩
theorem fk3_0 : 0 < 7 ∧ pRf 3 0 = true := by decide
theorem fk3_1 : 1 < 7 ∧ pRf 3 1 = true := by decide
theorem fk3_2 : 2 < 7 ∧ pRf 3 2 = true := by decide
theorem fk3_3 : 3 < 7 ∧ pRf 3 3 = false := by decide
theorem fk3_4 : 4 < 7 ∧ pRf 3 4 = false := by decide
theorem fk3_5 : 5 < 7 ∧ pRf 3 5 = false := by decide
theorem fk3_6 : 6 < 7 ∧ pRf 3 6 = false := by decide
theorem iX4 : ∀ w ∈ u_ws RX4 TX4 5, w ∈ pT := fun w hw => List.mem_filter.mpr ⟨(by decide +kernel : ∀ w ∈ u_ws RX4 TX4 5, w ∈ lw_tbl) w hw, (by decide +kernel : ∀ w ∈ u_ws RX4 TX4 5, goodWord w = true) w hw⟩
theorem pC4 : pCl 4 RX4 TX4 5 tyX4 := ⟨rfl, iX4, tyX4_ok, nmX4, by decide, rfl⟩
theorem fk4_0 : 0 < 5 ∧ pRf 4 0 = true := by decide
theorem fk4_1 : 1 < 5 ∧ pRf 4 1 = true := by decide
theorem fk4_2 : 2 < 5 ∧ pRf 4 2 = true := by decide
theorem fk4_3 : 3 < 5 ∧ pRf 4 3 = false := by decide
theorem fk4_4 : 4 < 5 ∧ pRf 4 4 = false := by decide
theorem iX5 : ∀ w ∈ u_ws RX5 TX5 16, w ∈ pT := fun w hw => List.mem_filter.mpr ⟨(by decide +kernel : ∀ w ∈ u_ws RX5 TX5 16, w ∈ lw_tbl) w hw, (by decide +kernel : ∀ w ∈ u_ws RX5 TX5 16, goodWord w = true) w hw⟩
theorem pC5 : pCl 5 RX5 TX5 16 tyX5 := ⟨rfl, iX5, tyX5_ok, nmX5, by decide, rfl⟩
theorem fk5_0 : 0 < 16 ∧ pRf 5 0 = true := by decide
theorem fk5_1 : 1 < 16 ∧ pRf 5 1 = true := by decide
theorem fk5_2 : 2 < 16 ∧ pRf 5 2 = true := by decide
theorem fk5_3 : 3 < 16 ∧ pRf 5 3 = true := by decide
theorem fk5_4 : 4 < 16 ∧ pRf 5 4 = true := by decide
theorem fk5_5 : 5 < 16 ∧ pRf 5 5 = false := by decide
theorem fk5_6 : 6 < 16 ∧ pRf 5 6 = false := by decide
theorem fk5_7 : 7 < 16 ∧ pRf 5 7 = false := by decide
theorem fk5_8 : 8 < 16 ∧ pRf 5 8 = false := by decide
theorem fk5_9 : 9 < 16 ∧ pRf 5 9 = false := by decide
theorem fk5_10 : 10 < 16 ∧ pRf 5 10 = false := by decide
theorem fk5_11 : 11 < 16 ∧ pRf 5 11 = false := by decide
theorem fk5_12 : 12 < 16 ∧ pRf 5 12 = false := by decide
theorem fk5_13 : 13 < 16 ∧ pRf 5 13 = false := by decide
theorem fk5_14 : 14 < 16 ∧ pRf 5 14 = false := by decide
theorem fk5_15 : 15 < 16 ∧ pRf 5 15 = false := by decide
theorem iX6 : ∀ w ∈ u_ws RX6 TX6 7, w ∈ pT := fun w hw => List.mem_filter.mpr ⟨(by decide +kernel : ∀ w ∈ u_ws RX6 TX6 7, w ∈ lw_tbl) w hw, (by decide +kernel : ∀ w ∈ u_ws RX6 TX6 7, goodWord w = true) w hw⟩
theorem pC6 : pCl 6 RX6 TX6 7 tyX6 := ⟨rfl, iX6, tyX6_ok, nmX6, by decide, rfl⟩
theorem fk6_0 : 0 < 7 ∧ pRf 6 0 = true := by decide
theorem fk6_1 : 1 < 7 ∧ pRf 6 1 = true := by decide
theorem fk6_2 : 2 < 7 ∧ pRf 6 2 = true := by decide
theorem fk6_3 : 3 < 7 ∧ pRf 6 3 = true := by decide
theorem fk6_4 : 4 < 7 ∧ pRf 6 4 = true := by decide
theorem fk6_5 : 5 < 7 ∧ pRf 6 5 = false := by decide
theorem fk6_6 : 6 < 7 ∧ pRf 6 6 = false := by decide
theorem iX7 : ∀ w ∈ u_ws RX7 TX7 14, w ∈ pT := fun w hw => List.mem_filter.mpr ⟨(by decide +kernel : ∀ w ∈ u_ws RX7 TX7 14, w ∈ lw_tbl) w hw, (by decide +kernel : ∀ w ∈ u_ws RX7 TX7 14, goodWord w = true) w hw⟩
theorem pC7 : pCl 7 RX7 TX7 14 tyX7 := ⟨rfl, iX7, tyX7_ok, nmX7, by decide, rfl⟩
theorem fk7_0 : 0 < 14 ∧ pRf 7 0 = false := by decide
theorem fk7_1 : 1 < 14 ∧ pRf 7 1 = false := by decide
theorem fk7_2 : 2 < 14 ∧ pRf 7 2 = false := by decide
theorem fk7_3 : 3 < 14 ∧ pRf 7 3 = false := by decide
theorem fk7_4 : 4 < 14 ∧ pRf 7 4 = false := by decide
theorem fk7_5 : 5 < 14 ∧ pRf 7 5 = false := by decide
theorem fk7_6 : 6 < 14 ∧ pRf 7 6 = false := by decide
theorem fk7_7 : 7 < 14 ∧ pRf 7 7 = false := by decide
theorem fk7_8 : 8 < 14 ∧ pRf 7 8 = false := by decide
theorem fk7_9 : 9 < 14 ∧ pRf 7 9 = false := by decide
theorem fk7_10 : 10 < 14 ∧ pRf 7 10 = false := by decide
theorem fk7_11 : 11 < 14 ∧ pRf 7 11 = false := by decide
theorem fk7_12 : 12 < 14 ∧ pRf 7 12 = false := by decide
theorem fk7_13 : 13 < 14 ∧ pRf 7 13 = false := by decide
theorem iX8 : ∀ w ∈ u_ws RX8 TX8 6, w ∈ pT := fun w hw => List.mem_filter.mpr ⟨(by decide +kernel : ∀ w ∈ u_ws RX8 TX8 6, w ∈ lw_tbl) w hw, (by decide +kernel : ∀ w ∈ u_ws RX8 TX8 6, goodWord w = true) w hw⟩
theorem pC8 : pCl 8 RX8 TX8 6 tyX8 := ⟨rfl, iX8, tyX8_ok, nmX8, by decide, rfl⟩
theorem fk8_0 : 0 < 6 ∧ pRf 8 0 = true := by decide
theorem fk8_1 : 1 < 6 ∧ pRf 8 1 = true := by decide
theorem fk8_2 : 2 < 6 ∧ pRf 8 2 = true := by decide
theorem fk8_3 : 3 < 6 ∧ pRf 8 3 = true := by decide
theorem fk8_4 : 4 < 6 ∧ pRf 8 4 = false := by decide
theorem fk8_5 : 5 < 6 ∧ pRf 8 5 = false := by decide
theorem iX9 : ∀ w ∈ u_ws RX9 TX9 6, w ∈ pT := fun w hw => List.mem_filter.mpr ⟨(by decide +kernel : ∀ w ∈ u_ws RX9 TX9 6, w ∈ lw_tbl) w hw, (by decide +kernel : ∀ w ∈ u_ws RX9 TX9 6, goodWord w = true) w hw⟩
theorem pC9 : pCl 9 RX9 TX9 6 tyX9 := ⟨rfl, iX9, tyX9_ok, nmX9, by decide, rfl⟩
theorem fk9_0 : 0 < 6 ∧ pRf 9 0 = true := by decide
theorem fk9_1 : 1 < 6 ∧ pRf 9 1 = true := by decide
theorem fk9_2 : 2 < 6 ∧ pRf 9 2 = false := by decide
theorem fk9_3 : 3 < 6 ∧ pRf 9 3 = false := by decide
theorem fk9_4 : 4 < 6 ∧ pRf 9 4 = false := by decide
theorem fk9_5 : 5 < 6 ∧ pRf 9 5 = false := by decide
theorem iX10 : ∀ w ∈ u_ws RX10 TX10 6, w ∈ pT := fun w hw => List.mem_filter.mpr ⟨(by decide +kernel : ∀ w ∈ u_ws RX10 TX10 6, w ∈ lw_tbl) w hw, (by decide +kernel : ∀ w ∈ u_ws RX10 TX10 6, goodWord w = true) w hw⟩
theorem pC10 : pCl 10 RX10 TX10 6 tyX10 := ⟨rfl, iX10, tyX10_ok, nmX10, by decide, rfl⟩
theorem fk10_0 : 0 < 6 ∧ pRf 10 0 = true := by decide
theorem fk10_1 : 1 < 6 ∧ pRf 10 1 = true := by decide
theorem fk10_2 : 2 < 6 ∧ pRf 10 2 = true := by decide
theorem fk10_3 : 3 < 6 ∧ pRf 10 3 = true := by decide
theorem fk10_4 : 4 < 6 ∧ pRf 10 4 = true := by decide
theorem fk10_5 : 5 < 6 ∧ pRf 10 5 = false := by decide
theorem iX11 : ∀ w ∈ u_ws RX11 TX11 12, w ∈ pT := fun w hw => List.mem_filter.mpr ⟨(by decide +kernel : ∀ w ∈ u_ws RX11 TX11 12, w ∈ lw_tbl) w hw, (by decide +kernel : ∀ w ∈ u_ws RX11 TX11 12, goodWord w = true) w hw⟩
theorem pC11 : pCl 11 RX11 TX11 12 tyX11 := ⟨rfl, iX11, tyX11_ok, nmX11, by decide, rfl⟩
theorem fk11_0 : 0 < 12 ∧ pRf 11 0 = true := by decide
theorem fk11_1 : 1 < 12 ∧ pRf 11 1 = true := by decide
theorem fk11_2 : 2 < 12 ∧ pRf 11 2 = true := by decide
theorem fk11_3 : 3 < 12 ∧ pRf 11 3 = true := by decide
theorem fk11_4 : 4 < 12 ∧ pRf 11 4 = true := by decide
theorem fk11_5 : 5 < 12 ∧ pRf 11 5 = true := by decide
theorem fk11_6 : 6 < 12 ∧ pRf 11 6 = true := by decide
theorem fk11_7 : 7 < 12 ∧ pRf 11 7 = true := by decide
theorem fk11_8 : 8 < 12 ∧ pRf 11 8 = true := by decide
theorem fk11_9 : 9 < 12 ∧ pRf 11 9 = true := by decide
theorem fk11_10 : 10 < 12 ∧ pRf 11 10 = false := by decide
theorem fk11_11 : 11 < 12 ∧ pRf 11 11 = false := by decide
theorem iX12 : ∀ w ∈ u_ws RX12 TX12 88, w ∈ pT := fun w hw => List.mem_filter.mpr ⟨(by decide +kernel : ∀ w ∈ u_ws RX12 TX12 88, w ∈ lw_tbl) w hw, (by decide +kernel : ∀ w ∈ u_ws RX12 TX12 88, goodWord w = true) w hw⟩
theorem pC12 : pCl 12 RX12 TX12 88 tyX12 := ⟨rfl, iX12, tyX12_ok, nmX12, by decide, rfl⟩
theorem fk12_0 : 0 < 88 ∧ pRf 12 0 = false := by decide
theorem fk12_1 : 1 < 88 ∧ pRf 12 1 = true := by decide
theorem fk12_2 : 2 < 88 ∧ pRf 12 2 = false := by decide
theorem fk12_3 : 3 < 88 ∧ pRf 12 3 = false := by decide
theorem fk12_4 : 4 < 88 ∧ pRf 12 4 = false := by decide
theorem fk12_5 : 5 < 88 ∧ pRf 12 5 = false := by decide
theorem fk12_6 : 6 < 88 ∧ pRf 12 6 = false := by decide
theorem fk12_7 : 7 < 88 ∧ pRf 12 7 = false := by decide
theorem fk12_8 : 8 < 88 ∧ pRf 12 8 = false := by decide
theorem fk12_9 : 9 < 88 ∧ pRf 12 9 = false := by decide
theorem fk12_10 : 10 < 88 ∧ pRf 12 10 = true := by decide
theorem fk12_11 : 11 < 88 ∧ pRf 12 11 = true := by decide
theorem fk12_12 : 12 < 88 ∧ pRf 12 12 = true := by decide
theorem fk12_13 : 13 < 88 ∧ pRf 12 13 = false := by decide
theorem fk12_14 : 14 < 88 ∧ pRf 12 14 = false := by decide
theorem fk12_15 : 15 < 88 ∧ pRf 12 15 = false := by decide
theorem fk12_16 : 16 < 88 ∧ pRf 12 16 = false := by decide
theorem fk12_17 : 17 < 88 ∧ pRf 12 17 = true := by decide
theorem fk12_18 : 18 < 88 ∧ pRf 12 18 = false := by decide
theorem fk12_19 : 19 < 88 ∧ pRf 12 19 = false := by decide
theorem fk12_20 : 20 < 88 ∧ pRf 12 20 = false := by decide
theorem fk12_21 : 21 < 88 ∧ pRf 12 21 = false := by decide
theorem fk12_22 : 22 < 88 ∧ pRf 12 22 = false := by decide
theorem fk12_23 : 23 < 88 ∧ pRf 12 23 = false := by decide
theorem fk12_24 : 24 < 88 ∧ pRf 12 24 = true := by decide
theorem fk12_25 : 25 < 88 ∧ pRf 12 25 = false := by decide
theorem fk12_26 : 26 < 88 ∧ pRf 12 26 = true := by decide
theorem fk12_27 : 27 < 88 ∧ pRf 12 27 = false := by decide
theorem fk12_28 : 28 < 88 ∧ pRf 12 28 = false := by decide
theorem fk12_29 : 29 < 88 ∧ pRf 12 29 = true := by decide
theorem fk12_30 : 30 < 88 ∧ pRf 12 30 = true := by decide
theorem fk12_31 : 31 < 88 ∧ pRf 12 31 = true := by decide
theorem fk12_32 : 32 < 88 ∧ pRf 12 32 = true := by decide
theorem fk12_33 : 33 < 88 ∧ pRf 12 33 = true := by decide
theorem fk12_34 : 34 < 88 ∧ pRf 12 34 = true := by decide
theorem fk12_35 : 35 < 88 ∧ pRf 12 35 = true := by decide
theorem fk12_36 : 36 < 88 ∧ pRf 12 36 = true := by decide
theorem fk12_37 : 37 < 88 ∧ pRf 12 37 = true := by decide
theorem fk12_38 : 38 < 88 ∧ pRf 12 38 = true := by decide
theorem fk12_39 : 39 < 88 ∧ pRf 12 39 = true := by decide
theorem fk12_40 : 40 < 88 ∧ pRf 12 40 = false := by decide
theorem fk12_41 : 41 < 88 ∧ pRf 12 41 = false := by decide
theorem fk12_42 : 42 < 88 ∧ pRf 12 42 = true := by decide
theorem fk12_43 : 43 < 88 ∧ pRf 12 43 = true := by decide
theorem fk12_44 : 44 < 88 ∧ pRf 12 44 = true := by decide
theorem fk12_45 : 45 < 88 ∧ pRf 12 45 = true := by decide
theorem fk12_46 : 46 < 88 ∧ pRf 12 46 = true := by decide
theorem fk12_47 : 47 < 88 ∧ pRf 12 47 = true := by decide
theorem fk12_48 : 48 < 88 ∧ pRf 12 48 = false := by decide
theorem fk12_49 : 49 < 88 ∧ pRf 12 49 = false := by decide
theorem fk12_50 : 50 < 88 ∧ pRf 12 50 = false := by decide
theorem fk12_51 : 51 < 88 ∧ pRf 12 51 = true := by decide
theorem fk12_52 : 52 < 88 ∧ pRf 12 52 = true := by decide
theorem fk12_53 : 53 < 88 ∧ pRf 12 53 = true := by decide
theorem fk12_54 : 54 < 88 ∧ pRf 12 54 = true := by decide
theorem fk12_55 : 55 < 88 ∧ pRf 12 55 = true := by decide
theorem fk12_56 : 56 < 88 ∧ pRf 12 56 = false := by decide
theorem fk12_57 : 57 < 88 ∧ pRf 12 57 = true := by decide
theorem fk12_58 : 58 < 88 ∧ pRf 12 58 = false := by decide
theorem fk12_59 : 59 < 88 ∧ pRf 12 59 = true := by decide
theorem fk12_60 : 60 < 88 ∧ pRf 12 60 = true := by decide
theorem fk12_61 : 61 < 88 ∧ pRf 12 61 = true := by decide
theorem fk12_62 : 62 < 88 ∧ pRf 12 62 = true := by decide
theorem fk12_63 : 63 < 88 ∧ pRf 12 63 = true := by decide
theorem fk12_64 : 64 < 88 ∧ pRf 12 64 = true := by decide
theorem fk12_65 : 65 < 88 ∧ pRf 12 65 = true := by decide
theorem fk12_66 : 66 < 88 ∧ pRf 12 66 = true := by decide
theorem fk12_67 : 67 < 88 ∧ pRf 12 67 = true := by decide
theorem fk12_68 : 68 < 88 ∧ pRf 12 68 = true := by decide
theorem fk12_69 : 69 < 88 ∧ pRf 12 69 = true := by decide
theorem fk12_70 : 70 < 88 ∧ pRf 12 70 = false := by decide
theorem fk12_71 : 71 < 88 ∧ pRf 12 71 = false := by decide
theorem fk12_72 : 72 < 88 ∧ pRf 12 72 = true := by decide
theorem fk12_73 : 73 < 88 ∧ pRf 12 73 = true := by decide
theorem fk12_74 : 74 < 88 ∧ pRf 12 74 = true := by decide
theorem fk12_75 : 75 < 88 ∧ pRf 12 75 = true := by decide
theorem fk12_76 : 76 < 88 ∧ pRf 12 76 = true := by decide
theorem fk12_77 : 77 < 88 ∧ pRf 12 77 = true := by decide
theorem fk12_78 : 78 < 88 ∧ pRf 12 78 = true := by decide
theorem fk12_79 : 79 < 88 ∧ pRf 12 79 = false := by decide
theorem fk12_80 : 80 < 88 ∧ pRf 12 80 = true := by decide
theorem fk12_81 : 81 < 88 ∧ pRf 12 81 = true := by decide
theorem fk12_82 : 82 < 88 ∧ pRf 12 82 = false := by decide
theorem fk12_83 : 83 < 88 ∧ pRf 12 83 = false := by decide
theorem fk12_84 : 84 < 88 ∧ pRf 12 84 = false := by decide
theorem fk12_85 : 85 < 88 ∧ pRf 12 85 = false := by decide
theorem fk12_86 : 86 < 88 ∧ pRf 12 86 = false := by decide
theorem fk12_87 : 87 < 88 ∧ pRf 12 87 = false := by decide
theorem lkF_X11_10 : Cond.fieldLink RX11 10 (TX11 0).1 (TX11 0).2.1 (TX11 0).2.2.1 ∈ pT := pT_2 220 (by decide +kernel) rfl
theorem lkF_X11_19 : Cond.fieldLink RX11 19 (TX11 1).1 (TX11 1).2.1 (TX11 1).2.2.1 ∈ pT := pT_2 221 (by decide +kernel) rfl
theorem lkF_X11_26 : Cond.fieldLink RX11 26 (TX11 2).1 (TX11 2).2.1 (TX11 2).2.2.1 ∈ pT := pT_2 222 (by decide +kernel) rfl
theorem lkF_X11_33 : Cond.fieldLink RX11 33 (TX11 3).1 (TX11 3).2.1 (TX11 3).2.2.1 ∈ pT := pT_2 223 (by decide +kernel) rfl
theorem lkF_X11_40 : Cond.fieldLink RX11 40 (TX11 4).1 (TX11 4).2.1 (TX11 4).2.2.1 ∈ pT := pT_2 224 (by decide +kernel) rfl
theorem lkF_X11_47 : Cond.fieldLink RX11 47 (TX11 5).1 (TX11 5).2.1 (TX11 5).2.2.1 ∈ pT := pT_2 225 (by decide +kernel) rfl
theorem lkF_X11_54 : Cond.fieldLink RX11 54 (TX11 6).1 (TX11 6).2.1 (TX11 6).2.2.1 ∈ pT := pT_2 226 (by decide +kernel) rfl
theorem lkF_X11_58 : Cond.fieldLink RX11 58 (TX11 7).1 (TX11 7).2.1 (TX11 7).2.2.1 ∈ pT := pT_2 227 (by decide +kernel) rfl
theorem lkF_X11_64 : Cond.fieldLink RX11 64 (TX11 8).1 (TX11 8).2.1 (TX11 8).2.2.1 ∈ pT := pT_2 228 (by decide +kernel) rfl
theorem lkF_X11_68 : Cond.fieldLink RX11 68 (TX11 9).1 (TX11 9).2.1 (TX11 9).2.2.1 ∈ pT := pT_2 229 (by decide +kernel) rfl
theorem lkF_X11_75 : Cond.fieldLink RX11 75 (TX5 0).1 (TX5 0).2.1 (TX5 0).2.2.1 ∈ pT := pT_1 62 (by decide +kernel) rfl
theorem lkF_X11_84 : Cond.fieldLink RX11 84 (TX11 10).1 (TX11 10).2.1 (TX11 10).2.2.1 ∈ pT := pT_2 230 (by decide +kernel) rfl
theorem lkF_X11_103 : Cond.fieldLink RX11 103 (TX3 3).1 (TX3 3).2.1 (TX3 3).2.2.1 ∈ pT := pT_1 205 (by decide +kernel) rfl
theorem lkF_X11_114 : Cond.fieldLink RX11 114 (TX6 5).1 (TX6 5).2.1 (TX6 5).2.2.1 ∈ pT := pT_2 28 (by decide +kernel) rfl
theorem lkF_X11_124 : Cond.fieldLink RX11 124 (TX11 11).1 (TX11 11).2.1 (TX11 11).2.2.1 ∈ pT := pT_2 231 (by decide +kernel) rfl
theorem lkF_X11_127 : Cond.fieldLink RX11 127 (TX8 4).1 (TX8 4).2.1 (TX8 4).2.2.1 ∈ pT := pT_2 112 (by decide +kernel) rfl
theorem lkF_X11_139 : Cond.fieldLink RX11 139 (TX9 3).1 (TX9 3).2.1 (TX9 3).2.2.1 ∈ pT := pT_2 202 (by decide +kernel) rfl
theorem lkF_X11_153 : Cond.fieldLink RX11 153 (TX7 9).1 (TX7 9).2.1 (TX7 9).2.2.1 ∈ pT := pT_1 163 (by decide +kernel) rfl
theorem lkF_X11_157 : Cond.fieldLink RX11 157 (TX7 8).1 (TX7 8).2.1 (TX7 8).2.2.1 ∈ pT := pT_1 160 (by decide +kernel) rfl
theorem lkF_X11_168 : Cond.fieldLink RX11 168 (TX7 7).1 (TX7 7).2.1 (TX7 7).2.2.1 ∈ pT := pT_1 158 (by decide +kernel) rfl
theorem lkF_X11_179 : Cond.fieldLink RX11 179 (TX3 5).1 (TX3 5).2.1 (TX3 5).2.2.1 ∈ pT := pT_1 209 (by decide +kernel) rfl
theorem lkF_X11_197 : Cond.fieldLink RX11 197 (TX0 11).1 (TX0 11).2.1 (TX0 11).2.2.1 ∈ pT := pT_2 81 (by decide +kernel) rfl
theorem lkF_X11_208 : Cond.fieldLink RX11 208 (TX0 3).1 (TX0 3).2.1 (TX0 3).2.2.1 ∈ pT := pT_2 68 (by decide +kernel) rfl
theorem lkF_X11_211 : Cond.fieldLink RX11 211 (TX0 1).1 (TX0 1).2.1 (TX0 1).2.2.1 ∈ pT := pT_2 64 (by decide +kernel) rfl
theorem lkF_X11_214 : Cond.fieldLink RX11 214 (TX0 2).1 (TX0 2).2.1 (TX0 2).2.2.1 ∈ pT := pT_2 66 (by decide +kernel) rfl
theorem lkF_X11_217 : Cond.fieldLink RX11 217 (TX0 9).1 (TX0 9).2.1 (TX0 9).2.2.1 ∈ pT := pT_2 78 (by decide +kernel) rfl
theorem lkF_X11_220 : Cond.fieldLink RX11 220 (TX0 8).1 (TX0 8).2.1 (TX0 8).2.2.1 ∈ pT := pT_2 76 (by decide +kernel) rfl
theorem lkF_X11_260 : Cond.fieldLink RX11 260 (TX1 2).1 (TX1 2).2.1 (TX1 2).2.2.1 ∈ pT := pT_2 138 (by decide +kernel) rfl
theorem lkF_X11_290 : Cond.fieldLink RX11 290 (TX3 4).1 (TX3 4).2.1 (TX3 4).2.2.1 ∈ pT := pT_1 207 (by decide +kernel) rfl
theorem lkF_X11_293 : Cond.fieldLink RX11 293 (TX5 6).1 (TX5 6).2.1 (TX5 6).2.2.1 ∈ pT := pT_1 71 (by decide +kernel) rfl
theorem lkF_X11_299 : Cond.fieldLink RX11 299 (TX2 0).1 (TX2 0).2.1 (TX2 0).2.2.1 ∈ pT := pT_2 1 (by decide +kernel) rfl
theorem lkF_X11_302 : Cond.fieldLink RX11 302 (TX2 1).1 (TX2 1).2.1 (TX2 1).2.2.1 ∈ pT := pT_2 4 (by decide +kernel) rfl
theorem lkF_X11_312 : Cond.fieldLink RX11 312 (TX0 0).1 (TX0 0).2.1 (TX0 0).2.2.1 ∈ pT := pT_2 62 (by decide +kernel) rfl
theorem lkF_X11_335 : Cond.fieldLink RX11 335 (TX0 4).1 (TX0 4).2.1 (TX0 4).2.2.1 ∈ pT := pT_2 70 (by decide +kernel) rfl
theorem lkF_X11_338 : Cond.fieldLink RX11 338 (TX0 5).1 (TX0 5).2.1 (TX0 5).2.2.1 ∈ pT := pT_2 72 (by decide +kernel) rfl
theorem lkF_X11_341 : Cond.fieldLink RX11 341 (TX1 0).1 (TX1 0).2.1 (TX1 0).2.2.1 ∈ pT := pT_2 134 (by decide +kernel) rfl
theorem lkF_X11_344 : Cond.fieldLink RX11 344 (TX1 1).1 (TX1 1).2.1 (TX1 1).2.2.1 ∈ pT := pT_2 136 (by decide +kernel) rfl
theorem lkF_X11_347 : Cond.fieldLink RX11 347 (TX1 3).1 (TX1 3).2.1 (TX1 3).2.2.1 ∈ pT := pT_2 140 (by decide +kernel) rfl
theorem lkF_X11_350 : Cond.fieldLink RX11 350 (TX2 2).1 (TX2 2).2.1 (TX2 2).2.2.1 ∈ pT := pT_2 8 (by decide +kernel) rfl
theorem lkF_X11_353 : Cond.fieldLink RX11 353 (TX2 3).1 (TX2 3).2.1 (TX2 3).2.2.1 ∈ pT := pT_2 12 (by decide +kernel) rfl
theorem lkF_X11_356 : Cond.fieldLink RX11 356 (TX5 13).1 (TX5 13).2.1 (TX5 13).2.2.1 ∈ pT := pT_1 89 (by decide +kernel) rfl
theorem lkF_X11_363 : Cond.fieldLink RX11 363 (TX4 4).1 (TX4 4).2.1 (TX4 4).2.2.1 ∈ pT := pT_1 48 (by decide +kernel) rfl
theorem lkF_X11_364 : Cond.fieldLink RX11 364 (TX10 5).1 (TX10 5).2.1 (TX10 5).2.2.1 ∈ pT := pT_2 177 (by decide +kernel) rfl
theorem lkF_X11_374 : Cond.fieldLink RX11 374 (TX9 2).1 (TX9 2).2.1 (TX9 2).2.2.1 ∈ pT := pT_2 200 (by decide +kernel) rfl
theorem lkF_X11_413 : Cond.fieldLink RX11 413 (TX5 14).1 (TX5 14).2.1 (TX5 14).2.2.1 ∈ pT := pT_1 93 (by decide +kernel) rfl
theorem lkF_X11_416 : Cond.fieldLink RX11 416 (TX7 1).1 (TX7 1).2.1 (TX7 1).2.2.1 ∈ pT := pT_1 147 (by decide +kernel) rfl
theorem lkF_X11_417 : Cond.fieldLink RX11 417 (TX5 9).1 (TX5 9).2.1 (TX5 9).2.2.1 ∈ pT := pT_1 83 (by decide +kernel) rfl
theorem lkF_X11_420 : Cond.fieldLink RX11 420 (TX7 2).1 (TX7 2).2.1 (TX7 2).2.2.1 ∈ pT := pT_1 149 (by decide +kernel) rfl
theorem lkF_X11_421 : Cond.fieldLink RX11 421 (TX5 10).1 (TX5 10).2.1 (TX5 10).2.2.1 ∈ pT := pT_1 85 (by decide +kernel) rfl
theorem lkF_X11_424 : Cond.fieldLink RX11 424 (TX6 6).1 (TX6 6).2.1 (TX6 6).2.2.1 ∈ pT := pT_2 30 (by decide +kernel) rfl
theorem lkF_X11_433 : Cond.fieldLink RX11 433 (TX5 15).1 (TX5 15).2.1 (TX5 15).2.2.1 ∈ pT := pT_1 96 (by decide +kernel) rfl
theorem lkF_X11_439 : Cond.fieldLink RX11 439 (TX7 0).1 (TX7 0).2.1 (TX7 0).2.2.1 ∈ pT := pT_1 145 (by decide +kernel) rfl
theorem lkF_X11_442 : Cond.fieldLink RX11 442 (TX7 5).1 (TX7 5).2.1 (TX7 5).2.2.1 ∈ pT := pT_1 154 (by decide +kernel) rfl
theorem lkF_X11_455 : Cond.fieldLink RX11 455 (TX7 10).1 (TX7 10).2.1 (TX7 10).2.2.1 ∈ pT := pT_1 165 (by decide +kernel) rfl
theorem lkF_X11_458 : Cond.fieldLink RX11 458 (TX7 12).1 (TX7 12).2.1 (TX7 12).2.2.1 ∈ pT := pT_1 169 (by decide +kernel) rfl
theorem lkF_X11_464 : Cond.fieldLink RX11 464 (TX7 3).1 (TX7 3).2.1 (TX7 3).2.2.1 ∈ pT := pT_1 151 (by decide +kernel) rfl
theorem lkF_X11_474 : Cond.fieldLink RX11 474 (TX7 6).1 (TX7 6).2.1 (TX7 6).2.2.1 ∈ pT := pT_1 156 (by decide +kernel) rfl
theorem lkF_X11_476 : Cond.fieldLink RX11 476 (TX7 11).1 (TX7 11).2.1 (TX7 11).2.2.1 ∈ pT := pT_1 167 (by decide +kernel) rfl
theorem lkF_X11_479 : Cond.fieldLink RX11 479 (TX7 13).1 (TX7 13).2.1 (TX7 13).2.2.1 ∈ pT := pT_1 171 (by decide +kernel) rfl
theorem lkF_X11_493 : Cond.fieldLink RX11 493 (TX5 7).1 (TX5 7).2.1 (TX5 7).2.2.1 ∈ pT := pT_1 76 (by decide +kernel) rfl
theorem lkF_X11_496 : Cond.fieldLink RX11 496 (TX5 8).1 (TX5 8).2.1 (TX5 8).2.2.1 ∈ pT := pT_1 81 (by decide +kernel) rfl
theorem lkF_X0_12 : Cond.fieldLink RX0 12 (TX0 0).1 (TX0 0).2.1 (TX0 0).2.2.1 ∈ pT := pT_2 61 (by decide +kernel) rfl
theorem lkF_X0_18 : Cond.fieldLink RX0 18 (TX0 1).1 (TX0 1).2.1 (TX0 1).2.2.1 ∈ pT := pT_2 63 (by decide +kernel) rfl
theorem lkF_X0_22 : Cond.fieldLink RX0 22 (TX0 2).1 (TX0 2).2.1 (TX0 2).2.2.1 ∈ pT := pT_2 65 (by decide +kernel) rfl
theorem lkF_X0_25 : Cond.fieldLink RX0 25 (TX0 3).1 (TX0 3).2.1 (TX0 3).2.2.1 ∈ pT := pT_2 67 (by decide +kernel) rfl
theorem lkF_X0_28 : Cond.fieldLink RX0 28 (TX0 8).1 (TX0 8).2.1 (TX0 8).2.2.1 ∈ pT := pT_2 75 (by decide +kernel) rfl
theorem lkF_X0_31 : Cond.fieldLink RX0 31 (TX0 9).1 (TX0 9).2.1 (TX0 9).2.2.1 ∈ pT := pT_2 77 (by decide +kernel) rfl
theorem lkF_X0_34 : Cond.fieldLink RX0 34 (TX0 10).1 (TX0 10).2.1 (TX0 10).2.2.1 ∈ pT := pT_2 79 (by decide +kernel) rfl
theorem lkF_X0_38 : Cond.fieldLink RX0 38 (TX0 11).1 (TX0 11).2.1 (TX0 11).2.2.1 ∈ pT := pT_2 80 (by decide +kernel) rfl
theorem lkF_X0_41 : Cond.fieldLink RX0 41 (TX0 7).1 (TX0 7).2.1 (TX0 7).2.2.1 ∈ pT := pT_2 74 (by decide +kernel) rfl
theorem lkF_X0_44 : Cond.fieldLink RX0 44 (TX0 4).1 (TX0 4).2.1 (TX0 4).2.2.1 ∈ pT := pT_2 69 (by decide +kernel) rfl
theorem lkF_X0_47 : Cond.fieldLink RX0 47 (TX0 6).1 (TX0 6).2.1 (TX0 6).2.2.1 ∈ pT := pT_2 73 (by decide +kernel) rfl
theorem lkF_X0_50 : Cond.fieldLink RX0 50 (TX0 5).1 (TX0 5).2.1 (TX0 5).2.2.1 ∈ pT := pT_2 71 (by decide +kernel) rfl
theorem lkF_X0_53 : Cond.fieldLink RX0 53 (TX2 2).1 (TX2 2).2.1 (TX2 2).2.2.1 ∈ pT := pT_2 6 (by decide +kernel) rfl
theorem lkF_X0_56 : Cond.fieldLink RX0 56 (TX2 3).1 (TX2 3).2.1 (TX2 3).2.2.1 ∈ pT := pT_2 10 (by decide +kernel) rfl
theorem lkF_X1_9 : Cond.fieldLink RX1 9 (TX1 1).1 (TX1 1).2.1 (TX1 1).2.2.1 ∈ pT := pT_2 135 (by decide +kernel) rfl
theorem lkF_X1_15 : Cond.fieldLink RX1 15 (TX1 4).1 (TX1 4).2.1 (TX1 4).2.2.1 ∈ pT := pT_2 141 (by decide +kernel) rfl
theorem lkF_X1_18 : Cond.fieldLink RX1 18 (TX1 5).1 (TX1 5).2.1 (TX1 5).2.2.1 ∈ pT := pT_2 142 (by decide +kernel) rfl
theorem lkF_X1_22 : Cond.fieldLink RX1 22 (TX1 6).1 (TX1 6).2.1 (TX1 6).2.2.1 ∈ pT := pT_2 143 (by decide +kernel) rfl
theorem lkF_X1_25 : Cond.fieldLink RX1 25 (TX1 7).1 (TX1 7).2.1 (TX1 7).2.2.1 ∈ pT := pT_2 144 (by decide +kernel) rfl
theorem lkF_X1_28 : Cond.fieldLink RX1 28 (TX1 8).1 (TX1 8).2.1 (TX1 8).2.2.1 ∈ pT := pT_2 145 (by decide +kernel) rfl
theorem lkF_X1_34 : Cond.fieldLink RX1 34 (TX1 0).1 (TX1 0).2.1 (TX1 0).2.2.1 ∈ pT := pT_2 133 (by decide +kernel) rfl
theorem lkF_X1_41 : Cond.fieldLink RX1 41 (TX1 2).1 (TX1 2).2.1 (TX1 2).2.2.1 ∈ pT := pT_2 137 (by decide +kernel) rfl
theorem lkF_X1_44 : Cond.fieldLink RX1 44 (TX1 3).1 (TX1 3).2.1 (TX1 3).2.2.1 ∈ pT := pT_2 139 (by decide +kernel) rfl
theorem lkF_X1_51 : Cond.fieldLink RX1 51 (TX5 14).1 (TX5 14).2.1 (TX5 14).2.2.1 ∈ pT := pT_1 92 (by decide +kernel) rfl
theorem lkF_X1_56 : Cond.fieldLink RX1 56 (TX5 15).1 (TX5 15).2.1 (TX5 15).2.2.1 ∈ pT := pT_1 95 (by decide +kernel) rfl
theorem lkF_X2_9 : Cond.fieldLink RX2 9 (TX2 0).1 (TX2 0).2.1 (TX2 0).2.2.1 ∈ pT := pT_1 239 (by decide +kernel) rfl
theorem lkF_X2_15 : Cond.fieldLink RX2 15 (TX2 1).1 (TX2 1).2.1 (TX2 1).2.2.1 ∈ pT := pT_2 2 (by decide +kernel) rfl
theorem lkF_X2_18 : Cond.fieldLink RX2 18 (TX2 2).1 (TX2 2).2.1 (TX2 2).2.2.1 ∈ pT := pT_2 5 (by decide +kernel) rfl
theorem lkF_X2_21 : Cond.fieldLink RX2 21 (TX2 3).1 (TX2 3).2.1 (TX2 3).2.2.1 ∈ pT := pT_2 9 (by decide +kernel) rfl
theorem lkF_X3_11 : Cond.fieldLink RX3 11 (TX3 0).1 (TX3 0).2.1 (TX3 0).2.2.1 ∈ pT := pT_1 201 (by decide +kernel) rfl
theorem lkF_X3_20 : Cond.fieldLink RX3 20 (TX3 1).1 (TX3 1).2.1 (TX3 1).2.2.1 ∈ pT := pT_1 202 (by decide +kernel) rfl
theorem lkF_X3_24 : Cond.fieldLink RX3 24 (TX3 2).1 (TX3 2).2.1 (TX3 2).2.2.1 ∈ pT := pT_1 203 (by decide +kernel) rfl
theorem lkF_X3_28 : Cond.fieldLink RX3 28 (TX3 3).1 (TX3 3).2.1 (TX3 3).2.2.1 ∈ pT := pT_1 204 (by decide +kernel) rfl
theorem lkF_X3_32 : Cond.fieldLink RX3 32 (TX3 4).1 (TX3 4).2.1 (TX3 4).2.2.1 ∈ pT := pT_1 206 (by decide +kernel) rfl
theorem lkF_X3_35 : Cond.fieldLink RX3 35 (TX3 5).1 (TX3 5).2.1 (TX3 5).2.2.1 ∈ pT := pT_1 208 (by decide +kernel) rfl
theorem lkF_X3_46 : Cond.fieldLink RX3 46 (TX7 9).1 (TX7 9).2.1 (TX7 9).2.2.1 ∈ pT := pT_1 162 (by decide +kernel) rfl
theorem lkF_X3_54 : Cond.fieldLink RX3 54 (TX5 14).1 (TX5 14).2.1 (TX5 14).2.2.1 ∈ pT := pT_1 91 (by decide +kernel) rfl
theorem lkF_X3_70 : Cond.fieldLink RX3 70 (TX3 6).1 (TX3 6).2.1 (TX3 6).2.2.1 ∈ pT := pT_1 210 (by decide +kernel) rfl
theorem lkF_X3_73 : Cond.fieldLink RX3 73 (TX5 7).1 (TX5 7).2.1 (TX5 7).2.2.1 ∈ pT := pT_1 75 (by decide +kernel) rfl
theorem lkF_X3_76 : Cond.fieldLink RX3 76 (TX5 8).1 (TX5 8).2.1 (TX5 8).2.2.1 ∈ pT := pT_1 80 (by decide +kernel) rfl
theorem lkF_X4_9 : Cond.fieldLink RX4 9 (TX4 0).1 (TX4 0).2.1 (TX4 0).2.2.1 ∈ pT := pT_1 42 (by decide +kernel) rfl
theorem lkF_X4_13 : Cond.fieldLink RX4 13 (TX4 1).1 (TX4 1).2.1 (TX4 1).2.2.1 ∈ pT := pT_1 43 (by decide +kernel) rfl
theorem lkF_X4_16 : Cond.fieldLink RX4 16 (TX4 2).1 (TX4 2).2.1 (TX4 2).2.2.1 ∈ pT := pT_1 44 (by decide +kernel) rfl
theorem lkF_X4_19 : Cond.fieldLink RX4 19 (TX4 4).1 (TX4 4).2.1 (TX4 4).2.2.1 ∈ pT := pT_1 46 (by decide +kernel) rfl
theorem lkF_X4_23 : Cond.fieldLink RX4 23 (TX4 3).1 (TX4 3).2.1 (TX4 3).2.2.1 ∈ pT := pT_1 45 (by decide +kernel) rfl
theorem lkF_X5_12 : Cond.fieldLink RX5 12 (TX5 0).1 (TX5 0).2.1 (TX5 0).2.2.1 ∈ pT := pT_1 61 (by decide +kernel) rfl
theorem lkF_X5_18 : Cond.fieldLink RX5 18 (TX5 1).1 (TX5 1).2.1 (TX5 1).2.2.1 ∈ pT := pT_1 63 (by decide +kernel) rfl
theorem lkF_X5_22 : Cond.fieldLink RX5 22 (TX5 2).1 (TX5 2).2.1 (TX5 2).2.2.1 ∈ pT := pT_1 64 (by decide +kernel) rfl
theorem lkF_X5_25 : Cond.fieldLink RX5 25 (TX5 3).1 (TX5 3).2.1 (TX5 3).2.2.1 ∈ pT := pT_1 65 (by decide +kernel) rfl
theorem lkF_X5_28 : Cond.fieldLink RX5 28 (TX5 4).1 (TX5 4).2.1 (TX5 4).2.2.1 ∈ pT := pT_1 66 (by decide +kernel) rfl
theorem lkF_X5_32 : Cond.fieldLink RX5 32 (TX5 7).1 (TX5 7).2.1 (TX5 7).2.2.1 ∈ pT := pT_1 72 (by decide +kernel) rfl
theorem lkF_X5_36 : Cond.fieldLink RX5 36 (TX5 8).1 (TX5 8).2.1 (TX5 8).2.2.1 ∈ pT := pT_1 77 (by decide +kernel) rfl
theorem lkF_X5_39 : Cond.fieldLink RX5 39 (TX4 4).1 (TX4 4).2.1 (TX4 4).2.2.1 ∈ pT := pT_1 47 (by decide +kernel) rfl
theorem lkF_X5_62 : Cond.fieldLink RX5 62 (TX5 9).1 (TX5 9).2.1 (TX5 9).2.2.1 ∈ pT := pT_1 82 (by decide +kernel) rfl
theorem lkF_X5_65 : Cond.fieldLink RX5 65 (TX5 10).1 (TX5 10).2.1 (TX5 10).2.2.1 ∈ pT := pT_1 84 (by decide +kernel) rfl
theorem lkF_X5_68 : Cond.fieldLink RX5 68 (TX5 5).1 (TX5 5).2.1 (TX5 5).2.2.1 ∈ pT := pT_1 68 (by decide +kernel) rfl
theorem lkF_X5_71 : Cond.fieldLink RX5 71 (TX5 6).1 (TX5 6).2.1 (TX5 6).2.2.1 ∈ pT := pT_1 70 (by decide +kernel) rfl
theorem lkF_X5_74 : Cond.fieldLink RX5 74 (TX5 14).1 (TX5 14).2.1 (TX5 14).2.2.1 ∈ pT := pT_1 90 (by decide +kernel) rfl
theorem lkF_X5_78 : Cond.fieldLink RX5 78 (TX5 15).1 (TX5 15).2.1 (TX5 15).2.2.1 ∈ pT := pT_1 94 (by decide +kernel) rfl
theorem lkF_X5_84 : Cond.fieldLink RX5 84 (TX5 13).1 (TX5 13).2.1 (TX5 13).2.2.1 ∈ pT := pT_1 88 (by decide +kernel) rfl
theorem lkF_X5_95 : Cond.fieldLink RX5 95 (TX5 11).1 (TX5 11).2.1 (TX5 11).2.2.1 ∈ pT := pT_1 86 (by decide +kernel) rfl
theorem lkF_X5_98 : Cond.fieldLink RX5 98 (TX5 12).1 (TX5 12).2.1 (TX5 12).2.2.1 ∈ pT := pT_1 87 (by decide +kernel) rfl
theorem lkF_X6_11 : Cond.fieldLink RX6 11 (TX6 0).1 (TX6 0).2.1 (TX6 0).2.2.1 ∈ pT := pT_2 22 (by decide +kernel) rfl
theorem lkF_X6_15 : Cond.fieldLink RX6 15 (TX6 1).1 (TX6 1).2.1 (TX6 1).2.2.1 ∈ pT := pT_2 23 (by decide +kernel) rfl
theorem lkF_X6_18 : Cond.fieldLink RX6 18 (TX6 2).1 (TX6 2).2.1 (TX6 2).2.2.1 ∈ pT := pT_2 24 (by decide +kernel) rfl
theorem lkF_X6_23 : Cond.fieldLink RX6 23 (TX6 3).1 (TX6 3).2.1 (TX6 3).2.2.1 ∈ pT := pT_2 25 (by decide +kernel) rfl
theorem lkF_X6_28 : Cond.fieldLink RX6 28 (TX6 4).1 (TX6 4).2.1 (TX6 4).2.2.1 ∈ pT := pT_2 26 (by decide +kernel) rfl
theorem lkF_X6_32 : Cond.fieldLink RX6 32 (TX6 6).1 (TX6 6).2.1 (TX6 6).2.2.1 ∈ pT := pT_2 29 (by decide +kernel) rfl
theorem lkF_X6_36 : Cond.fieldLink RX6 36 (TX6 5).1 (TX6 5).2.1 (TX6 5).2.2.1 ∈ pT := pT_2 27 (by decide +kernel) rfl
theorem lkF_X6_43 : Cond.fieldLink RX6 43 (TX5 7).1 (TX5 7).2.1 (TX5 7).2.2.1 ∈ pT := pT_1 73 (by decide +kernel) rfl
theorem lkF_X6_48 : Cond.fieldLink RX6 48 (TX5 8).1 (TX5 8).2.1 (TX5 8).2.2.1 ∈ pT := pT_1 78 (by decide +kernel) rfl
theorem lkF_X7_9 : Cond.fieldLink RX7 9 (TX7 0).1 (TX7 0).2.1 (TX7 0).2.2.1 ∈ pT := pT_1 144 (by decide +kernel) rfl
theorem lkF_X7_15 : Cond.fieldLink RX7 15 (TX7 1).1 (TX7 1).2.1 (TX7 1).2.2.1 ∈ pT := pT_1 146 (by decide +kernel) rfl
theorem lkF_X7_18 : Cond.fieldLink RX7 18 (TX7 2).1 (TX7 2).2.1 (TX7 2).2.2.1 ∈ pT := pT_1 148 (by decide +kernel) rfl
theorem lkF_X7_21 : Cond.fieldLink RX7 21 (TX7 3).1 (TX7 3).2.1 (TX7 3).2.2.1 ∈ pT := pT_1 150 (by decide +kernel) rfl
theorem lkF_X7_24 : Cond.fieldLink RX7 24 (TX7 4).1 (TX7 4).2.1 (TX7 4).2.2.1 ∈ pT := pT_1 152 (by decide +kernel) rfl
theorem lkF_X7_27 : Cond.fieldLink RX7 27 (TX7 8).1 (TX7 8).2.1 (TX7 8).2.2.1 ∈ pT := pT_1 159 (by decide +kernel) rfl
theorem lkF_X7_31 : Cond.fieldLink RX7 31 (TX7 9).1 (TX7 9).2.1 (TX7 9).2.2.1 ∈ pT := pT_1 161 (by decide +kernel) rfl
theorem lkF_X7_34 : Cond.fieldLink RX7 34 (TX7 5).1 (TX7 5).2.1 (TX7 5).2.2.1 ∈ pT := pT_1 153 (by decide +kernel) rfl
theorem lkF_X7_37 : Cond.fieldLink RX7 37 (TX7 6).1 (TX7 6).2.1 (TX7 6).2.2.1 ∈ pT := pT_1 155 (by decide +kernel) rfl
theorem lkF_X7_50 : Cond.fieldLink RX7 50 (TX7 7).1 (TX7 7).2.1 (TX7 7).2.2.1 ∈ pT := pT_1 157 (by decide +kernel) rfl
theorem lkF_X7_53 : Cond.fieldLink RX7 53 (TX5 7).1 (TX5 7).2.1 (TX5 7).2.2.1 ∈ pT := pT_1 74 (by decide +kernel) rfl
theorem lkF_X7_62 : Cond.fieldLink RX7 62 (TX5 8).1 (TX5 8).2.1 (TX5 8).2.2.1 ∈ pT := pT_1 79 (by decide +kernel) rfl
theorem lkF_X8_11 : Cond.fieldLink RX8 11 (TX8 0).1 (TX8 0).2.1 (TX8 0).2.2.1 ∈ pT := pT_2 107 (by decide +kernel) rfl
theorem lkF_X8_15 : Cond.fieldLink RX8 15 (TX8 1).1 (TX8 1).2.1 (TX8 1).2.2.1 ∈ pT := pT_2 108 (by decide +kernel) rfl
theorem lkF_X8_20 : Cond.fieldLink RX8 20 (TX8 2).1 (TX8 2).2.1 (TX8 2).2.2.1 ∈ pT := pT_2 109 (by decide +kernel) rfl
theorem lkF_X8_25 : Cond.fieldLink RX8 25 (TX8 3).1 (TX8 3).2.1 (TX8 3).2.2.1 ∈ pT := pT_2 110 (by decide +kernel) rfl
theorem lkF_X8_29 : Cond.fieldLink RX8 29 (TX8 4).1 (TX8 4).2.1 (TX8 4).2.2.1 ∈ pT := pT_2 111 (by decide +kernel) rfl
theorem lkF_X8_33 : Cond.fieldLink RX8 33 (TX8 5).1 (TX8 5).2.1 (TX8 5).2.2.1 ∈ pT := pT_2 113 (by decide +kernel) rfl
theorem lkF_X9_11 : Cond.fieldLink RX9 11 (TX9 0).1 (TX9 0).2.1 (TX9 0).2.2.1 ∈ pT := pT_2 197 (by decide +kernel) rfl
theorem lkF_X9_15 : Cond.fieldLink RX9 15 (TX9 1).1 (TX9 1).2.1 (TX9 1).2.2.1 ∈ pT := pT_2 198 (by decide +kernel) rfl
theorem lkF_X9_18 : Cond.fieldLink RX9 18 (TX9 2).1 (TX9 2).2.1 (TX9 2).2.2.1 ∈ pT := pT_2 199 (by decide +kernel) rfl
theorem lkF_X9_22 : Cond.fieldLink RX9 22 (TX9 3).1 (TX9 3).2.1 (TX9 3).2.2.1 ∈ pT := pT_2 201 (by decide +kernel) rfl
theorem lkF_X9_28 : Cond.fieldLink RX9 28 (TX9 4).1 (TX9 4).2.1 (TX9 4).2.2.1 ∈ pT := pT_2 203 (by decide +kernel) rfl
theorem lkF_X9_31 : Cond.fieldLink RX9 31 (TX9 5).1 (TX9 5).2.1 (TX9 5).2.2.1 ∈ pT := pT_2 204 (by decide +kernel) rfl
theorem lkF_X9_69 : Cond.fieldLink RX9 69 (TX2 0).1 (TX2 0).2.1 (TX2 0).2.2.1 ∈ pT := pT_2 0 (by decide +kernel) rfl
theorem lkF_X9_72 : Cond.fieldLink RX9 72 (TX2 1).1 (TX2 1).2.1 (TX2 1).2.2.1 ∈ pT := pT_2 3 (by decide +kernel) rfl
theorem lkF_X9_75 : Cond.fieldLink RX9 75 (TX2 2).1 (TX2 2).2.1 (TX2 2).2.2.1 ∈ pT := pT_2 7 (by decide +kernel) rfl
theorem lkF_X9_78 : Cond.fieldLink RX9 78 (TX2 3).1 (TX2 3).2.1 (TX2 3).2.2.1 ∈ pT := pT_2 11 (by decide +kernel) rfl
theorem lkF_X9_96 : Cond.fieldLink RX9 96 (TX7 11).1 (TX7 11).2.1 (TX7 11).2.2.1 ∈ pT := pT_1 166 (by decide +kernel) rfl
theorem lkF_X9_101 : Cond.fieldLink RX9 101 (TX7 10).1 (TX7 10).2.1 (TX7 10).2.2.1 ∈ pT := pT_1 164 (by decide +kernel) rfl
theorem lkF_X9_104 : Cond.fieldLink RX9 104 (TX7 13).1 (TX7 13).2.1 (TX7 13).2.2.1 ∈ pT := pT_1 170 (by decide +kernel) rfl
theorem lkF_X9_107 : Cond.fieldLink RX9 107 (TX7 12).1 (TX7 12).2.1 (TX7 12).2.2.1 ∈ pT := pT_1 168 (by decide +kernel) rfl
theorem lkF_X10_11 : Cond.fieldLink RX10 11 (TX10 0).1 (TX10 0).2.1 (TX10 0).2.2.1 ∈ pT := pT_2 171 (by decide +kernel) rfl
theorem lkF_X10_15 : Cond.fieldLink RX10 15 (TX10 1).1 (TX10 1).2.1 (TX10 1).2.2.1 ∈ pT := pT_2 172 (by decide +kernel) rfl
theorem lkF_X10_18 : Cond.fieldLink RX10 18 (TX10 2).1 (TX10 2).2.1 (TX10 2).2.2.1 ∈ pT := pT_2 173 (by decide +kernel) rfl
theorem lkF_X10_21 : Cond.fieldLink RX10 21 (TX10 3).1 (TX10 3).2.1 (TX10 3).2.2.1 ∈ pT := pT_2 174 (by decide +kernel) rfl
theorem lkF_X10_24 : Cond.fieldLink RX10 24 (TX10 4).1 (TX10 4).2.1 (TX10 4).2.2.1 ∈ pT := pT_2 175 (by decide +kernel) rfl
theorem lkF_X10_27 : Cond.fieldLink RX10 27 (TX10 5).1 (TX10 5).2.1 (TX10 5).2.2.1 ∈ pT := pT_2 176 (by decide +kernel) rfl
theorem lkF_X10_59 : Cond.fieldLink RX10 59 (TX5 5).1 (TX5 5).2.1 (TX5 5).2.2.1 ∈ pT := pT_1 69 (by decide +kernel) rfl
theorem lkF_X10_75 : Cond.fieldLink RX10 75 (TX5 4).1 (TX5 4).2.1 (TX5 4).2.2.1 ∈ pT := pT_1 67 (by decide +kernel) rfl
theorem lkF_X12_7 : Cond.fieldLink RX12 7 (TX12 1).1 (TX12 1).2.1 (TX12 1).2.2.1 ∈ pT := pT_6 74 (by decide +kernel) rfl
theorem lkF_X12_13 : Cond.fieldLink RX12 13 (TX12 10).1 (TX12 10).2.1 (TX12 10).2.2.1 ∈ pT := pT_6 83 (by decide +kernel) rfl
theorem lkF_X12_17 : Cond.fieldLink RX12 17 (TX12 11).1 (TX12 11).2.1 (TX12 11).2.2.1 ∈ pT := pT_6 84 (by decide +kernel) rfl
theorem lkF_X12_20 : Cond.fieldLink RX12 20 (TX12 12).1 (TX12 12).2.1 (TX12 12).2.2.1 ∈ pT := pT_6 85 (by decide +kernel) rfl
theorem lkF_X12_23 : Cond.fieldLink RX12 23 (TX12 17).1 (TX12 17).2.1 (TX12 17).2.2.1 ∈ pT := pT_6 90 (by decide +kernel) rfl
theorem lkF_X12_26 : Cond.fieldLink RX12 26 (TX12 23).1 (TX12 23).2.1 (TX12 23).2.2.1 ∈ pT := pT_6 96 (by decide +kernel) rfl
theorem lkF_X12_30 : Cond.fieldLink RX12 30 (TX12 24).1 (TX12 24).2.1 (TX12 24).2.2.1 ∈ pT := pT_6 97 (by decide +kernel) rfl
theorem lkF_X12_33 : Cond.fieldLink RX12 33 (TX12 26).1 (TX12 26).2.1 (TX12 26).2.2.1 ∈ pT := pT_6 99 (by decide +kernel) rfl
theorem lkF_X12_36 : Cond.fieldLink RX12 36 (TX12 29).1 (TX12 29).2.1 (TX12 29).2.2.1 ∈ pT := pT_6 102 (by decide +kernel) rfl
theorem lkF_X12_39 : Cond.fieldLink RX12 39 (TX12 30).1 (TX12 30).2.1 (TX12 30).2.2.1 ∈ pT := pT_6 103 (by decide +kernel) rfl
theorem lkF_X12_42 : Cond.fieldLink RX12 42 (TX12 31).1 (TX12 31).2.1 (TX12 31).2.2.1 ∈ pT := pT_6 104 (by decide +kernel) rfl
theorem lkF_X12_45 : Cond.fieldLink RX12 45 (TX12 32).1 (TX12 32).2.1 (TX12 32).2.2.1 ∈ pT := pT_6 105 (by decide +kernel) rfl
theorem lkF_X12_48 : Cond.fieldLink RX12 48 (TX12 33).1 (TX12 33).2.1 (TX12 33).2.2.1 ∈ pT := pT_6 106 (by decide +kernel) rfl
theorem lkF_X12_51 : Cond.fieldLink RX12 51 (TX12 34).1 (TX12 34).2.1 (TX12 34).2.2.1 ∈ pT := pT_6 107 (by decide +kernel) rfl
theorem lkF_X12_54 : Cond.fieldLink RX12 54 (TX12 35).1 (TX12 35).2.1 (TX12 35).2.2.1 ∈ pT := pT_6 108 (by decide +kernel) rfl
theorem lkF_X12_57 : Cond.fieldLink RX12 57 (TX12 36).1 (TX12 36).2.1 (TX12 36).2.2.1 ∈ pT := pT_6 109 (by decide +kernel) rfl
theorem lkF_X12_60 : Cond.fieldLink RX12 60 (TX12 37).1 (TX12 37).2.1 (TX12 37).2.2.1 ∈ pT := pT_6 110 (by decide +kernel) rfl
theorem lkF_X12_63 : Cond.fieldLink RX12 63 (TX12 38).1 (TX12 38).2.1 (TX12 38).2.2.1 ∈ pT := pT_6 111 (by decide +kernel) rfl
theorem lkF_X12_66 : Cond.fieldLink RX12 66 (TX12 39).1 (TX12 39).2.1 (TX12 39).2.2.1 ∈ pT := pT_6 112 (by decide +kernel) rfl
theorem lkF_X12_69 : Cond.fieldLink RX12 69 (TX12 40).1 (TX12 40).2.1 (TX12 40).2.2.1 ∈ pT := pT_6 113 (by decide +kernel) rfl
theorem lkF_X12_72 : Cond.fieldLink RX12 72 (TX12 42).1 (TX12 42).2.1 (TX12 42).2.2.1 ∈ pT := pT_6 115 (by decide +kernel) rfl
theorem lkF_X12_75 : Cond.fieldLink RX12 75 (TX12 43).1 (TX12 43).2.1 (TX12 43).2.2.1 ∈ pT := pT_6 116 (by decide +kernel) rfl
theorem lkF_X12_78 : Cond.fieldLink RX12 78 (TX12 44).1 (TX12 44).2.1 (TX12 44).2.2.1 ∈ pT := pT_6 117 (by decide +kernel) rfl
theorem lkF_X12_81 : Cond.fieldLink RX12 81 (TX12 45).1 (TX12 45).2.1 (TX12 45).2.2.1 ∈ pT := pT_6 118 (by decide +kernel) rfl
theorem lkF_X12_84 : Cond.fieldLink RX12 84 (TX12 46).1 (TX12 46).2.1 (TX12 46).2.2.1 ∈ pT := pT_6 119 (by decide +kernel) rfl
theorem lkF_X12_87 : Cond.fieldLink RX12 87 (TX12 47).1 (TX12 47).2.1 (TX12 47).2.2.1 ∈ pT := pT_6 120 (by decide +kernel) rfl
theorem lkF_X12_90 : Cond.fieldLink RX12 90 (TX12 50).1 (TX12 50).2.1 (TX12 50).2.2.1 ∈ pT := pT_6 123 (by decide +kernel) rfl
theorem lkF_X12_93 : Cond.fieldLink RX12 93 (TX12 51).1 (TX12 51).2.1 (TX12 51).2.2.1 ∈ pT := pT_6 124 (by decide +kernel) rfl
theorem lkF_X12_96 : Cond.fieldLink RX12 96 (TX12 52).1 (TX12 52).2.1 (TX12 52).2.2.1 ∈ pT := pT_6 125 (by decide +kernel) rfl
theorem lkF_X12_99 : Cond.fieldLink RX12 99 (TX12 53).1 (TX12 53).2.1 (TX12 53).2.2.1 ∈ pT := pT_6 126 (by decide +kernel) rfl
theorem lkF_X12_102 : Cond.fieldLink RX12 102 (TX12 54).1 (TX12 54).2.1 (TX12 54).2.2.1 ∈ pT := pT_6 127 (by decide +kernel) rfl
theorem lkF_X12_105 : Cond.fieldLink RX12 105 (TX12 55).1 (TX12 55).2.1 (TX12 55).2.2.1 ∈ pT := pT_6 128 (by decide +kernel) rfl
theorem lkF_X12_108 : Cond.fieldLink RX12 108 (TX12 57).1 (TX12 57).2.1 (TX12 57).2.2.1 ∈ pT := pT_6 130 (by decide +kernel) rfl
theorem lkF_X12_111 : Cond.fieldLink RX12 111 (TX12 59).1 (TX12 59).2.1 (TX12 59).2.2.1 ∈ pT := pT_6 132 (by decide +kernel) rfl
theorem lkF_X12_114 : Cond.fieldLink RX12 114 (TX12 60).1 (TX12 60).2.1 (TX12 60).2.2.1 ∈ pT := pT_6 133 (by decide +kernel) rfl
theorem lkF_X12_117 : Cond.fieldLink RX12 117 (TX12 61).1 (TX12 61).2.1 (TX12 61).2.2.1 ∈ pT := pT_6 134 (by decide +kernel) rfl
theorem lkF_X12_120 : Cond.fieldLink RX12 120 (TX12 62).1 (TX12 62).2.1 (TX12 62).2.2.1 ∈ pT := pT_6 135 (by decide +kernel) rfl
theorem lkF_X12_123 : Cond.fieldLink RX12 123 (TX12 63).1 (TX12 63).2.1 (TX12 63).2.2.1 ∈ pT := pT_6 136 (by decide +kernel) rfl
theorem lkF_X12_126 : Cond.fieldLink RX12 126 (TX12 64).1 (TX12 64).2.1 (TX12 64).2.2.1 ∈ pT := pT_6 137 (by decide +kernel) rfl
theorem lkF_X12_129 : Cond.fieldLink RX12 129 (TX12 65).1 (TX12 65).2.1 (TX12 65).2.2.1 ∈ pT := pT_6 138 (by decide +kernel) rfl
theorem lkF_X12_132 : Cond.fieldLink RX12 132 (TX12 66).1 (TX12 66).2.1 (TX12 66).2.2.1 ∈ pT := pT_6 139 (by decide +kernel) rfl
theorem lkF_X12_135 : Cond.fieldLink RX12 135 (TX12 67).1 (TX12 67).2.1 (TX12 67).2.2.1 ∈ pT := pT_6 140 (by decide +kernel) rfl
theorem lkF_X12_138 : Cond.fieldLink RX12 138 (TX12 68).1 (TX12 68).2.1 (TX12 68).2.2.1 ∈ pT := pT_6 141 (by decide +kernel) rfl
theorem lkF_X12_141 : Cond.fieldLink RX12 141 (TX12 69).1 (TX12 69).2.1 (TX12 69).2.2.1 ∈ pT := pT_6 142 (by decide +kernel) rfl
theorem lkF_X12_144 : Cond.fieldLink RX12 144 (TX12 71).1 (TX12 71).2.1 (TX12 71).2.2.1 ∈ pT := pT_6 144 (by decide +kernel) rfl
theorem lkF_X12_147 : Cond.fieldLink RX12 147 (TX12 72).1 (TX12 72).2.1 (TX12 72).2.2.1 ∈ pT := pT_6 145 (by decide +kernel) rfl
theorem lkF_X12_150 : Cond.fieldLink RX12 150 (TX12 73).1 (TX12 73).2.1 (TX12 73).2.2.1 ∈ pT := pT_6 146 (by decide +kernel) rfl
theorem lkF_X12_153 : Cond.fieldLink RX12 153 (TX12 74).1 (TX12 74).2.1 (TX12 74).2.2.1 ∈ pT := pT_6 147 (by decide +kernel) rfl
theorem lkF_X12_156 : Cond.fieldLink RX12 156 (TX12 75).1 (TX12 75).2.1 (TX12 75).2.2.1 ∈ pT := pT_6 148 (by decide +kernel) rfl
theorem lkF_X12_159 : Cond.fieldLink RX12 159 (TX12 76).1 (TX12 76).2.1 (TX12 76).2.2.1 ∈ pT := pT_6 149 (by decide +kernel) rfl
theorem lkF_X12_162 : Cond.fieldLink RX12 162 (TX12 77).1 (TX12 77).2.1 (TX12 77).2.2.1 ∈ pT := pT_6 150 (by decide +kernel) rfl
theorem lkF_X12_165 : Cond.fieldLink RX12 165 (TX12 78).1 (TX12 78).2.1 (TX12 78).2.2.1 ∈ pT := pT_6 151 (by decide +kernel) rfl
theorem lkF_X12_169 : Cond.fieldLink RX12 169 (TX12 80).1 (TX12 80).2.1 (TX12 80).2.2.1 ∈ pT := pT_6 153 (by decide +kernel) rfl
theorem lkF_X12_172 : Cond.fieldLink RX12 172 (TX12 81).1 (TX12 81).2.1 (TX12 81).2.2.1 ∈ pT := pT_6 154 (by decide +kernel) rfl
theorem lkF_X12_175 : Cond.fieldLink RX12 175 (TX12 0).1 (TX12 0).2.1 (TX12 0).2.2.1 ∈ pT := pT_6 73 (by decide +kernel) rfl
theorem lkF_X12_185 : Cond.fieldLink RX12 185 (TX12 2).1 (TX12 2).2.1 (TX12 2).2.2.1 ∈ pT := pT_6 75 (by decide +kernel) rfl
theorem lkF_X12_192 : Cond.fieldLink RX12 192 (TX12 3).1 (TX12 3).2.1 (TX12 3).2.2.1 ∈ pT := pT_6 76 (by decide +kernel) rfl
theorem lkF_X12_195 : Cond.fieldLink RX12 195 (TX12 4).1 (TX12 4).2.1 (TX12 4).2.2.1 ∈ pT := pT_6 77 (by decide +kernel) rfl
theorem lkF_X12_198 : Cond.fieldLink RX12 198 (TX12 9).1 (TX12 9).2.1 (TX12 9).2.2.1 ∈ pT := pT_6 82 (by decide +kernel) rfl
theorem lkF_X12_202 : Cond.fieldLink RX12 202 (TX12 13).1 (TX12 13).2.1 (TX12 13).2.2.1 ∈ pT := pT_6 86 (by decide +kernel) rfl
theorem lkF_X12_205 : Cond.fieldLink RX12 205 (TX12 14).1 (TX12 14).2.1 (TX12 14).2.2.1 ∈ pT := pT_6 87 (by decide +kernel) rfl
theorem lkF_X12_208 : Cond.fieldLink RX12 208 (TX12 7).1 (TX12 7).2.1 (TX12 7).2.2.1 ∈ pT := pT_6 80 (by decide +kernel) rfl
theorem lkF_X12_211 : Cond.fieldLink RX12 211 (TX12 8).1 (TX12 8).2.1 (TX12 8).2.2.1 ∈ pT := pT_6 81 (by decide +kernel) rfl
theorem lkF_X12_214 : Cond.fieldLink RX12 214 (TX12 15).1 (TX12 15).2.1 (TX12 15).2.2.1 ∈ pT := pT_6 88 (by decide +kernel) rfl
theorem lkF_X12_217 : Cond.fieldLink RX12 217 (TX12 16).1 (TX12 16).2.1 (TX12 16).2.2.1 ∈ pT := pT_6 89 (by decide +kernel) rfl
theorem lkF_X12_236 : Cond.fieldLink RX12 236 (TX12 18).1 (TX12 18).2.1 (TX12 18).2.2.1 ∈ pT := pT_6 91 (by decide +kernel) rfl
theorem lkF_X12_246 : Cond.fieldLink RX12 246 (TX12 48).1 (TX12 48).2.1 (TX12 48).2.2.1 ∈ pT := pT_6 121 (by decide +kernel) rfl
theorem lkF_X12_249 : Cond.fieldLink RX12 249 (TX12 49).1 (TX12 49).2.1 (TX12 49).2.2.1 ∈ pT := pT_6 122 (by decide +kernel) rfl
theorem lkF_X12_255 : Cond.fieldLink RX12 255 (TX12 19).1 (TX12 19).2.1 (TX12 19).2.2.1 ∈ pT := pT_6 92 (by decide +kernel) rfl
theorem lkF_X12_258 : Cond.fieldLink RX12 258 (TX12 5).1 (TX12 5).2.1 (TX12 5).2.2.1 ∈ pT := pT_6 78 (by decide +kernel) rfl
theorem lkF_X12_261 : Cond.fieldLink RX12 261 (TX12 6).1 (TX12 6).2.1 (TX12 6).2.2.1 ∈ pT := pT_6 79 (by decide +kernel) rfl
theorem lkF_X12_264 : Cond.fieldLink RX12 264 (TX12 20).1 (TX12 20).2.1 (TX12 20).2.2.1 ∈ pT := pT_6 93 (by decide +kernel) rfl
theorem lkF_X12_267 : Cond.fieldLink RX12 267 (TX12 25).1 (TX12 25).2.1 (TX12 25).2.2.1 ∈ pT := pT_6 98 (by decide +kernel) rfl
theorem lkF_X12_270 : Cond.fieldLink RX12 270 (TX12 27).1 (TX12 27).2.1 (TX12 27).2.2.1 ∈ pT := pT_6 100 (by decide +kernel) rfl
theorem lkF_X12_273 : Cond.fieldLink RX12 273 (TX12 28).1 (TX12 28).2.1 (TX12 28).2.2.1 ∈ pT := pT_6 101 (by decide +kernel) rfl
theorem lkF_X12_276 : Cond.fieldLink RX12 276 (TX12 41).1 (TX12 41).2.1 (TX12 41).2.2.1 ∈ pT := pT_6 114 (by decide +kernel) rfl
theorem lkF_X12_279 : Cond.fieldLink RX12 279 (TX12 56).1 (TX12 56).2.1 (TX12 56).2.2.1 ∈ pT := pT_6 129 (by decide +kernel) rfl
theorem lkF_X12_282 : Cond.fieldLink RX12 282 (TX12 58).1 (TX12 58).2.1 (TX12 58).2.2.1 ∈ pT := pT_6 131 (by decide +kernel) rfl
theorem lkF_X12_285 : Cond.fieldLink RX12 285 (TX12 70).1 (TX12 70).2.1 (TX12 70).2.2.1 ∈ pT := pT_6 143 (by decide +kernel) rfl
theorem lkF_X12_288 : Cond.fieldLink RX12 288 (TX12 82).1 (TX12 82).2.1 (TX12 82).2.2.1 ∈ pT := pT_6 155 (by decide +kernel) rfl
theorem lkF_X12_291 : Cond.fieldLink RX12 291 (TX12 22).1 (TX12 22).2.1 (TX12 22).2.2.1 ∈ pT := pT_6 95 (by decide +kernel) rfl
theorem lkF_X12_294 : Cond.fieldLink RX12 294 (TX12 21).1 (TX12 21).2.1 (TX12 21).2.2.1 ∈ pT := pT_6 94 (by decide +kernel) rfl
theorem lkF_X12_307 : Cond.fieldLink RX12 307 (TX12 83).1 (TX12 83).2.1 (TX12 83).2.2.1 ∈ pT := pT_6 156 (by decide +kernel) rfl
theorem lkF_X12_362 : Cond.fieldLink RX12 362 (TX12 79).1 (TX12 79).2.1 (TX12 79).2.2.1 ∈ pT := pT_6 152 (by decide +kernel) rfl
theorem lkF_X12_397 : Cond.fieldLink RX12 397 (TX12 84).1 (TX12 84).2.1 (TX12 84).2.2.1 ∈ pT := pT_6 157 (by decide +kernel) rfl
theorem lkF_X12_400 : Cond.fieldLink RX12 400 (TX12 85).1 (TX12 85).2.1 (TX12 85).2.2.1 ∈ pT := pT_6 158 (by decide +kernel) rfl
theorem lkF_X12_403 : Cond.fieldLink RX12 403 (TX12 86).1 (TX12 86).2.1 (TX12 86).2.2.1 ∈ pT := pT_6 159 (by decide +kernel) rfl
theorem lkF_X12_406 : Cond.fieldLink RX12 406 (TX12 87).1 (TX12 87).2.1 (TX12 87).2.2.1 ∈ pT := pT_6 160 (by decide +kernel) rfl
theorem lkM_X11_18 : Cond.methodLink RX11 18 yX3_init ∈ pT := pT_1 133 (by decide +kernel) rfl
theorem lkM_X11_25 : Cond.methodLink RX11 25 yX6_init ∈ pT := pT_1 228 (by decide +kernel) rfl
theorem lkM_X11_32 : Cond.methodLink RX11 32 yX8_init ∈ pT := pT_2 48 (by decide +kernel) rfl
theorem lkM_X11_71 : Cond.methodLink RX11 71 yX11_isWithin ∈ pT := pT_3 21 (by decide +kernel) rfl
theorem lkM_X11_81 : Cond.methodLink RX11 81 yX4_add ∈ pT := pT_3 24 (by decide +kernel) rfl
theorem lkM_X11_88 : Cond.methodLink RX11 88 yX11_requireState ∈ pT := pT_3 151 (by decide +kernel) rfl
theorem lkM_X11_92 : Cond.methodLink RX11 92 yX5_takeEvents ∈ pT := pT_4 11 (by decide +kernel) rfl
theorem lkM_X11_96 : Cond.methodLink RX11 96 yX3_findHovered ∈ pT := pT_4 52 (by decide +kernel) rfl
theorem lkM_X11_100 : Cond.methodLink RX11 100 yX11_moveActiveWindow ∈ pT := pT_4 74 (by decide +kernel) rfl
theorem lkM_X11_107 : Cond.methodLink RX11 107 yX6_findWheelKid ∈ pT := pT_4 82 (by decide +kernel) rfl
theorem lkM_X11_111 : Cond.methodLink RX11 111 yX3_forgetTold ∈ pT := pT_4 95 (by decide +kernel) rfl
theorem lkM_X11_117 : Cond.methodLink RX11 117 yX8_clear ∈ pT := pT_3 180 (by decide +kernel) rfl
theorem lkM_X11_120 : Cond.methodLink RX11 120 yX1_startFrame ∈ pT := pT_4 96 (by decide +kernel) rfl
theorem lkM_X11_123 : Cond.methodLink RX11 123 yX9_clear ∈ pT := pT_4 97 (by decide +kernel) rfl
theorem lkM_X11_130 : Cond.methodLink RX11 130 yX1_finishFrame ∈ pT := pT_4 112 (by decide +kernel) rfl
theorem lkM_X11_133 : Cond.methodLink RX11 133 yX3_closeUntoldPopup ∈ pT := pT_4 120 (by decide +kernel) rfl
theorem lkM_X11_136 : Cond.methodLink RX11 136 yX11_composeDrawing ∈ pT := pT_4 124 (by decide +kernel) rfl
theorem lkM_X11_142 : Cond.methodLink RX11 142 yX11_isWindowSize ∈ pT := pT_4 177 (by decide +kernel) rfl
theorem lkM_X11_146 : Cond.methodLink RX11 146 yX11_requireArgument ∈ pT := pT_4 180 (by decide +kernel) rfl
theorem lkM_X11_149 : Cond.methodLink RX11 149 yX3_paneOf ∈ pT := pT_3 63 (by decide +kernel) rfl
theorem lkM_X11_160 : Cond.methodLink RX11 160 yX7_moveTo ∈ pT := pT_4 78 (by decide +kernel) rfl
theorem lkM_X11_164 : Cond.methodLink RX11 164 yX11_tellPane ∈ pT := pT_4 200 (by decide +kernel) rfl
theorem lkM_X11_171 : Cond.methodLink RX11 171 yX11_isLabel ∈ pT := pT_5 68 (by decide +kernel) rfl
theorem lkM_X11_175 : Cond.methodLink RX11 175 yX3_openPopup ∈ pT := pT_5 71 (by decide +kernel) rfl
theorem lkM_X11_182 : Cond.methodLink RX11 182 yX8_topKind ∈ pT := pT_5 90 (by decide +kernel) rfl
theorem lkM_X11_185 : Cond.methodLink RX11 185 yX8_area ∈ pT := pT_4 234 (by decide +kernel) rfl
theorem lkM_X11_189 : Cond.methodLink RX11 189 yX8_drop ∈ pT := pT_5 94 (by decide +kernel) rfl
theorem lkM_X11_193 : Cond.methodLink RX11 193 yX11_closePane ∈ pT := pT_5 98 (by decide +kernel) rfl
theorem lkM_X11_202 : Cond.methodLink RX11 202 yX0_high ∈ pT := pT_5 102 (by decide +kernel) rfl
theorem lkM_X11_205 : Cond.methodLink RX11 205 yX6_setHigh ∈ pT := pT_5 106 (by decide +kernel) rfl
theorem lkM_X11_223 : Cond.methodLink RX11 223 yX2_set ∈ pT := pT_5 24 (by decide +kernel) rfl
theorem lkM_X11_227 : Cond.methodLink RX11 227 yX0_addItem ∈ pT := pT_5 110 (by decide +kernel) rfl
theorem lkM_X11_231 : Cond.methodLink RX11 231 yX11_requireItem ∈ pT := pT_5 122 (by decide +kernel) rfl
theorem lkM_X11_234 : Cond.methodLink RX11 234 yX8_idOf ∈ pT := pT_5 130 (by decide +kernel) rfl
theorem lkM_X11_238 : Cond.methodLink RX11 238 yX11_tellBehaving ∈ pT := pT_5 138 (by decide +kernel) rfl
theorem lkM_X11_241 : Cond.methodLink RX11 241 yX11_drawItem ∈ pT := pT_5 168 (by decide +kernel) rfl
theorem lkM_X11_244 : Cond.methodLink RX11 244 yX11_drawLabel ∈ pT := pT_5 172 (by decide +kernel) rfl
theorem lkM_X11_247 : Cond.methodLink RX11 247 yX10_toggle ∈ pT := pT_5 187 (by decide +kernel) rfl
theorem lkM_X11_250 : Cond.methodLink RX11 250 yX10_numberOf ∈ pT := pT_3 77 (by decide +kernel) rfl
theorem lkM_X11_253 : Cond.methodLink RX11 253 yX11_slide ∈ pT := pT_5 207 (by decide +kernel) rfl
theorem lkM_X11_257 : Cond.methodLink RX11 257 yX10_setNumber ∈ pT := pT_5 213 (by decide +kernel) rfl
theorem lkM_X11_263 : Cond.methodLink RX11 263 yX10_edit ∈ pT := pT_5 221 (by decide +kernel) rfl
theorem lkM_X11_266 : Cond.methodLink RX11 266 yX10_lengthOf ∈ pT := pT_5 239 (by decide +kernel) rfl
theorem lkM_X11_269 : Cond.methodLink RX11 269 yX10_letterOf ∈ pT := pT_3 97 (by decide +kernel) rfl
theorem lkM_X11_273 : Cond.methodLink RX11 273 yX11_drawGlyph ∈ pT := pT_5 176 (by decide +kernel) rfl
theorem lkM_X11_276 : Cond.methodLink RX11 276 yX8_hasRoom ∈ pT := pT_6 10 (by decide +kernel) rfl
theorem lkM_X11_280 : Cond.methodLink RX11 280 yX8_put ∈ pT := pT_4 227 (by decide +kernel) rfl
theorem lkM_X11_283 : Cond.methodLink RX11 283 yX6_hasRoom ∈ pT := pT_6 21 (by decide +kernel) rfl
theorem lkM_X11_284 : Cond.methodLink RX11 284 yX11_layItem ∈ pT := pT_5 142 (by decide +kernel) rfl
theorem lkM_X11_287 : Cond.methodLink RX11 287 yX1_noteTold ∈ pT := pT_4 223 (by decide +kernel) rfl
theorem lkM_X11_296 : Cond.methodLink RX11 296 yX6_tell ∈ pT := pT_6 25 (by decide +kernel) rfl
theorem lkM_X11_305 : Cond.methodLink RX11 305 yX6_scrollOf ∈ pT := pT_6 31 (by decide +kernel) rfl
theorem lkM_X11_308 : Cond.methodLink RX11 308 yX0_start ∈ pT := pT_4 239 (by decide +kernel) rfl
theorem lkM_X11_315 : Cond.methodLink RX11 315 yX2_setMeeting ∈ pT := pT_6 35 (by decide +kernel) rfl
theorem lkM_X11_319 : Cond.methodLink RX11 319 yX6_clipOf ∈ pT := pT_6 39 (by decide +kernel) rfl
theorem lkM_X11_323 : Cond.methodLink RX11 323 yX2_setLike ∈ pT := pT_6 40 (by decide +kernel) rfl
theorem lkM_X11_326 : Cond.methodLink RX11 326 yX11_isWindowOpen ∈ pT := pT_5 126 (by decide +kernel) rfl
theorem lkM_X11_329 : Cond.methodLink RX11 329 yX0_placeCursor ∈ pT := pT_5 146 (by decide +kernel) rfl
theorem lkM_X11_332 : Cond.methodLink RX11 332 yX8_topId ∈ pT := pT_6 58 (by decide +kernel) rfl
theorem lkM_X11_359 : Cond.methodLink RX11 359 yX11_oneIf ∈ pT := pT_3 52 (by decide +kernel) rfl
theorem lkM_X11_365 : Cond.methodLink RX11 365 yX3_placeInOrder ∈ pT := pT_3 59 (by decide +kernel) rfl
theorem lkM_X11_368 : Cond.methodLink RX11 368 yX7_answer ∈ pT := pT_3 68 (by decide +kernel) rfl
theorem lkM_X11_371 : Cond.methodLink RX11 371 yX10_caretOf ∈ pT := pT_3 93 (by decide +kernel) rfl
theorem lkM_X11_377 : Cond.methodLink RX11 377 yX9_commandPart ∈ pT := pT_3 112 (by decide +kernel) rfl
theorem lkM_X11_380 : Cond.methodLink RX11 380 yX9_indexAt ∈ pT := pT_3 125 (by decide +kernel) rfl
theorem lkM_X11_383 : Cond.methodLink RX11 383 yX9_vertexPart ∈ pT := pT_3 139 (by decide +kernel) rfl
theorem lkM_X11_401 : Cond.methodLink RX11 401 yX11_breakFrame ∈ pT := pT_3 155 (by decide +kernel) rfl
theorem lkM_X11_409 : Cond.methodLink RX11 409 yX1_forgetAll ∈ pT := pT_3 159 (by decide +kernel) rfl
theorem lkM_X11_412 : Cond.methodLink RX11 412 yX3_forgetAll ∈ pT := pT_3 171 (by decide +kernel) rfl
theorem lkM_X11_427 : Cond.methodLink RX11 427 yX7_tell ∈ pT := pT_4 204 (by decide +kernel) rfl
theorem lkM_X11_429 : Cond.methodLink RX11 429 yX7_hasInTitle ∈ pT := pT_4 214 (by decide +kernel) rfl
theorem lkM_X11_436 : Cond.methodLink RX11 436 yX5_isWherePressed ∈ pT := pT_4 219 (by decide +kernel) rfl
theorem lkM_X11_445 : Cond.methodLink RX11 445 yX11_drawPane ∈ pT := pT_5 3 (by decide +kernel) rfl
theorem lkM_X11_449 : Cond.methodLink RX11 449 yX7_setInside ∈ pT := pT_5 57 (by decide +kernel) rfl
theorem lkM_X11_452 : Cond.methodLink RX11 452 yX9_startList ∈ pT := pT_5 7 (by decide +kernel) rfl
theorem lkM_X11_461 : Cond.methodLink RX11 461 yX7_setOutside ∈ pT := pT_5 8 (by decide +kernel) rfl
theorem lkM_X11_467 : Cond.methodLink RX11 467 yX7_heightNow ∈ pT := pT_5 23 (by decide +kernel) rfl
theorem lkM_X11_470 : Cond.methodLink RX11 470 yX9_draw ∈ pT := pT_5 25 (by decide +kernel) rfl
theorem lkM_X11_482 : Cond.methodLink RX11 482 yX3_windowAt ∈ pT := pT_4 128 (by decide +kernel) rfl
theorem lkM_X11_485 : Cond.methodLink RX11 485 yX11_showPane ∈ pT := pT_4 132 (by decide +kernel) rfl
theorem lkM_X11_489 : Cond.methodLink RX11 489 yX9_append ∈ pT := pT_4 136 (by decide +kernel) rfl
theorem lkM_X11_499 : Cond.methodLink RX11 499 yX2_has ∈ pT := pT_5 150 (by decide +kernel) rfl
theorem lkM_X11_502 : Cond.methodLink RX11 502 yX1_behave ∈ pT := pT_5 151 (by decide +kernel) rfl
theorem lkM_X11_506 : Cond.methodLink RX11 506 yX11_bring ∈ pT := pT_5 211 (by decide +kernel) rfl
theorem lkM_X11_509 : Cond.methodLink RX11 509 yX5_isDownHere ∈ pT := pT_5 212 (by decide +kernel) rfl
theorem lkM_X1_31 : Cond.methodLink RX1 31 yX1_startFrame ∈ pT := pT_3 163 (by decide +kernel) rfl
theorem lkM_X1_37 : Cond.methodLink RX1 37 yX1_giveFocus ∈ pT := pT_3 167 (by decide +kernel) rfl
theorem lkM_X1_47 : Cond.methodLink RX1 47 yX1_takeTab ∈ pT := pT_5 155 (by decide +kernel) rfl
theorem lkM_X1_59 : Cond.methodLink RX1 59 yX1_takeEnter ∈ pT := pT_5 159 (by decide +kernel) rfl
theorem lkM_X1_63 : Cond.methodLink RX1 63 yX1_noteTold ∈ pT := pT_5 167 (by decide +kernel) rfl
theorem lkM_X1_66 : Cond.methodLink RX1 66 yX5_isDownHere ∈ pT := pT_4 116 (by decide +kernel) rfl
theorem lkM_X1_70 : Cond.methodLink RX1 70 yX5_isUpHere ∈ pT := pT_5 163 (by decide +kernel) rfl
theorem lkM_X2_24 : Cond.methodLink RX2 24 yX2_set ∈ pT := pT_5 22 (by decide +kernel) rfl
theorem lkM_X3_17 : Cond.methodLink RX3 17 yX7_init ∈ pT := pT_1 140 (by decide +kernel) rfl
theorem lkM_X3_42 : Cond.methodLink RX3 42 yX3_placeInOrder ∈ pT := pT_4 73 (by decide +kernel) rfl
theorem lkM_X3_50 : Cond.methodLink RX3 50 yX7_hasMouse ∈ pT := pT_4 56 (by decide +kernel) rfl
theorem lkM_X3_59 : Cond.methodLink RX3 59 yX3_frontWindowUnder ∈ pT := pT_4 65 (by decide +kernel) rfl
theorem lkM_X3_63 : Cond.methodLink RX3 63 yX3_bringToFront ∈ pT := pT_4 69 (by decide +kernel) rfl
theorem lkM_X3_66 : Cond.methodLink RX3 66 yX3_paneOf ∈ pT := pT_3 179 (by decide +kernel) rfl
theorem lkM_X3_79 : Cond.methodLink RX3 79 yX7_moveTo ∈ pT := pT_5 75 (by decide +kernel) rfl
theorem lkM_X3_83 : Cond.methodLink RX3 83 yX3_forgetTold ∈ pT := pT_3 175 (by decide +kernel) rfl
theorem lkM_X5_42 : Cond.methodLink RX5 42 yX5_forgetFrame ∈ pT := pT_4 15 (by decide +kernel) rfl
theorem lkM_X5_45 : Cond.methodLink RX5 45 yX4_nextKind ∈ pT := pT_4 19 (by decide +kernel) rfl
theorem lkM_X5_49 : Cond.methodLink RX5 49 yX4_nextFirst ∈ pT := pT_4 23 (by decide +kernel) rfl
theorem lkM_X5_52 : Cond.methodLink RX5 52 yX4_nextSecond ∈ pT := pT_4 27 (by decide +kernel) rfl
theorem lkM_X5_55 : Cond.methodLink RX5 55 yX5_take ∈ pT := pT_4 31 (by decide +kernel) rfl
theorem lkM_X5_59 : Cond.methodLink RX5 59 yX4_drop ∈ pT := pT_4 48 (by decide +kernel) rfl
theorem lkM_X5_81 : Cond.methodLink RX5 81 yX5_takePress ∈ pT := pT_4 35 (by decide +kernel) rfl
theorem lkM_X5_87 : Cond.methodLink RX5 87 yX5_takeKey ∈ pT := pT_4 39 (by decide +kernel) rfl
theorem lkM_X5_91 : Cond.methodLink RX5 91 yX5_takeLetter ∈ pT := pT_4 44 (by decide +kernel) rfl
theorem lkM_X6_39 : Cond.methodLink RX6 39 yX6_clipOf ∈ pT := pT_4 86 (by decide +kernel) rfl
theorem lkM_X6_51 : Cond.methodLink RX6 51 yX2_has ∈ pT := pT_4 91 (by decide +kernel) rfl
theorem lkM_X7_65 : Cond.methodLink RX7 65 yX7_heightNow ∈ pT := pT_4 61 (by decide +kernel) rfl
theorem lkM_X7_69 : Cond.methodLink RX7 69 yX7_hasMouse ∈ pT := pT_4 218 (by decide +kernel) rfl
theorem lkM_X7_73 : Cond.methodLink RX7 73 yX2_set ∈ pT := pT_5 12 (by decide +kernel) rfl
theorem lkM_X7_79 : Cond.methodLink RX7 79 yX2_cutToScreen ∈ pT := pT_5 16 (by decide +kernel) rfl
theorem lkM_X8_36 : Cond.methodLink RX8 36 yX8_hasArea ∈ pT := pT_4 231 (by decide +kernel) rfl
theorem lkM_X8_44 : Cond.methodLink RX8 44 yX8_topId ∈ pT := pT_5 134 (by decide +kernel) rfl
theorem lkM_X9_25 : Cond.methodLink RX9 25 yX9_startList ∈ pT := pT_4 101 (by decide +kernel) rfl
theorem lkM_X9_34 : Cond.methodLink RX9 34 yX2_meets ∈ pT := pT_5 29 (by decide +kernel) rfl
theorem lkM_X9_40 : Cond.methodLink RX9 40 yX9_offsetFor ∈ pT := pT_5 33 (by decide +kernel) rfl
theorem lkM_X9_44 : Cond.methodLink RX9 44 yX9_fitsLast ∈ pT := pT_5 41 (by decide +kernel) rfl
theorem lkM_X9_48 : Cond.methodLink RX9 48 yX9_addCommand ∈ pT := pT_5 45 (by decide +kernel) rfl
theorem lkM_X9_52 : Cond.methodLink RX9 52 yX9_addToLast ∈ pT := pT_5 49 (by decide +kernel) rfl
theorem lkM_X9_55 : Cond.methodLink RX9 55 yX9_addQuad ∈ pT := pT_5 53 (by decide +kernel) rfl
theorem lkM_X9_59 : Cond.methodLink RX9 59 yX9_partAt ∈ pT := pT_3 117 (by decide +kernel) rfl
theorem lkM_X9_66 : Cond.methodLink RX9 66 yX9_lastPart ∈ pT := pT_5 37 (by decide +kernel) rfl
theorem lkM_X9_81 : Cond.methodLink RX9 81 yX9_withRoom ∈ pT := pT_4 144 (by decide +kernel) rfl
theorem lkM_X9_110 : Cond.methodLink RX9 110 yX9_holds ∈ pT := pT_4 140 (by decide +kernel) rfl
theorem lkM_X9_120 : Cond.methodLink RX9 120 yX9_shiftCommands ∈ pT := pT_4 165 (by decide +kernel) rfl
theorem lkM_X9_124 : Cond.methodLink RX9 124 yX9_quadPart ∈ pT := pT_3 129 (by decide +kernel) rfl
theorem lkM_X10_31 : Cond.methodLink RX10 31 yX10_find ∈ pT := pT_3 81 (by decide +kernel) rfl
theorem lkM_X10_39 : Cond.methodLink RX10 39 yX10_isSlot ∈ pT := pT_3 85 (by decide +kernel) rfl
theorem lkM_X10_43 : Cond.methodLink RX10 43 yX10_claim ∈ pT := pT_5 196 (by decide +kernel) rfl
theorem lkM_X10_46 : Cond.methodLink RX10 46 yX10_numberOf ∈ pT := pT_5 191 (by decide +kernel) rfl
theorem lkM_X10_49 : Cond.methodLink RX10 49 yX10_setNumber ∈ pT := pT_5 192 (by decide +kernel) rfl
theorem lkM_X10_64 : Cond.methodLink RX10 64 yX10_moveCaret ∈ pT := pT_5 225 (by decide +kernel) rfl
theorem lkM_X10_68 : Cond.methodLink RX10 68 yX5_isDownHere ∈ pT := pT_5 229 (by decide +kernel) rfl
theorem lkM_X10_71 : Cond.methodLink RX10 71 yX10_takeLetterBack ∈ pT := pT_5 230 (by decide +kernel) rfl
theorem lkM_X10_76 : Cond.methodLink RX10 76 yX10_insert ∈ pT := pT_5 235 (by decide +kernel) rfl
theorem lkM_L_7 : Cond.methodLink RL 7 yX11_begin ∈ pT := pT_3 147 (by decide +kernel) rfl
theorem lkM_L_15 : Cond.methodLink RL 15 yX11_end ∈ pT := pT_4 108 (by decide +kernel) rfl
theorem lkM_L_18 : Cond.methodLink RL 18 yX11_window ∈ pT := pT_4 173 (by decide +kernel) rfl
theorem lkM_L_24 : Cond.methodLink RL 24 yX11_open ∈ pT := pT_5 64 (by decide +kernel) rfl
theorem lkM_L_28 : Cond.methodLink RL 28 yX11_popup ∈ pT := pT_5 79 (by decide +kernel) rfl
theorem lkM_L_32 : Cond.methodLink RL 32 yX11_close ∈ pT := pT_5 86 (by decide +kernel) rfl
theorem lkM_L_35 : Cond.methodLink RL 35 yX11_button ∈ pT := pT_5 118 (by decide +kernel) rfl
theorem lkM_L_39 : Cond.methodLink RL 39 yX11_check ∈ pT := pT_5 183 (by decide +kernel) rfl
theorem lkM_L_43 : Cond.methodLink RL 43 yX11_slider ∈ pT := pT_5 203 (by decide +kernel) rfl
theorem lkM_L_47 : Cond.methodLink RL 47 yX11_field ∈ pT := pT_5 217 (by decide +kernel) rfl
theorem lkM_L_51 : Cond.methodLink RL 51 yX11_tree ∈ pT := pT_6 6 (by decide +kernel) rfl
theorem lkM_L_54 : Cond.methodLink RL 54 yX11_child ∈ pT := pT_6 17 (by decide +kernel) rfl
theorem lkM_L_58 : Cond.methodLink RL 58 yX11_scope ∈ pT := pT_6 47 (by decide +kernel) rfl
theorem lkM_L_62 : Cond.methodLink RL 62 yX11_group ∈ pT := pT_6 54 (by decide +kernel) rfl
theorem lkM_L_65 : Cond.methodLink RL 65 yX11_near ∈ pT := pT_6 62 (by decide +kernel) rfl
theorem lkM_L_68 : Cond.methodLink RL 68 yX11_init ∈ pT := pT_1 24 (by decide +kernel) rfl
theorem lkM_L_71 : Cond.methodLink RL 71 yX12_init ∈ pT := pT_6 68 (by decide +kernel) rfl
theorem lkM_L_72 : Cond.methodLink RL 72 yX11_point ∈ pT := pT_3 17 (by decide +kernel) rfl
theorem lkM_L_75 : Cond.methodLink RL 75 yX12_point ∈ pT := pT_7 98 (by decide +kernel) rfl
theorem lkM_L_76 : Cond.methodLink RL 76 yX11_press ∈ pT := pT_3 28 (by decide +kernel) rfl
theorem lkM_L_80 : Cond.methodLink RL 80 yX12_press ∈ pT := pT_7 106 (by decide +kernel) rfl
theorem lkM_L_81 : Cond.methodLink RL 81 yX11_wheel ∈ pT := pT_3 32 (by decide +kernel) rfl
theorem lkM_L_84 : Cond.methodLink RL 84 yX12_wheel ∈ pT := pT_7 110 (by decide +kernel) rfl
theorem lkM_L_85 : Cond.methodLink RL 85 yX11_key ∈ pT := pT_3 36 (by decide +kernel) rfl
theorem lkM_L_89 : Cond.methodLink RL 89 yX12_key ∈ pT := pT_7 114 (by decide +kernel) rfl
theorem lkM_L_90 : Cond.methodLink RL 90 yX11_letter ∈ pT := pT_3 40 (by decide +kernel) rfl
theorem lkM_L_93 : Cond.methodLink RL 93 yX12_letter ∈ pT := pT_7 118 (by decide +kernel) rfl
theorem lkM_L_94 : Cond.methodLink RL 94 yL_begin ∈ pT := pT_3 143 (by decide +kernel) rfl
theorem lkM_L_99 : Cond.methodLink RL 99 yX12_begin ∈ pT := pT_7 122 (by decide +kernel) rfl
theorem lkM_L_100 : Cond.methodLink RL 100 yL_end ∈ pT := pT_4 105 (by decide +kernel) rfl
theorem lkM_L_102 : Cond.methodLink RL 102 yX12_end ∈ pT := pT_7 158 (by decide +kernel) rfl
theorem lkM_L_103 : Cond.methodLink RL 103 yL_window ∈ pT := pT_4 169 (by decide +kernel) rfl
theorem lkM_L_106 : Cond.methodLink RL 106 yX12_window ∈ pT := pT_7 182 (by decide +kernel) rfl
theorem lkM_L_107 : Cond.methodLink RL 107 yL_open ∈ pT := pT_5 61 (by decide +kernel) rfl
theorem lkM_L_110 : Cond.methodLink RL 110 yX12_open ∈ pT := pT_7 223 (by decide +kernel) rfl
theorem lkM_L_111 : Cond.methodLink RL 111 yL_popup ∈ pT := pT_5 76 (by decide +kernel) rfl
theorem lkM_L_114 : Cond.methodLink RL 114 yX12_popup ∈ pT := pT_7 231 (by decide +kernel) rfl
theorem lkM_L_115 : Cond.methodLink RL 115 yX11_dismiss ∈ pT := pT_3 44 (by decide +kernel) rfl
theorem lkM_L_119 : Cond.methodLink RL 119 yX12_dismiss ∈ pT := pT_7 235 (by decide +kernel) rfl
theorem lkM_L_120 : Cond.methodLink RL 120 yL_close ∈ pT := pT_5 83 (by decide +kernel) rfl
theorem lkM_L_122 : Cond.methodLink RL 122 yX12_close ∈ pT := pT_7 239 (by decide +kernel) rfl
theorem lkM_L_123 : Cond.methodLink RL 123 yL_button ∈ pT := pT_5 115 (by decide +kernel) rfl
theorem lkM_L_126 : Cond.methodLink RL 126 yX12_button ∈ pT := pT_8 7 (by decide +kernel) rfl
theorem lkM_L_127 : Cond.methodLink RL 127 yL_check ∈ pT := pT_5 180 (by decide +kernel) rfl
theorem lkM_L_129 : Cond.methodLink RL 129 yX12_check ∈ pT := pT_8 47 (by decide +kernel) rfl
theorem lkM_L_130 : Cond.methodLink RL 130 yL_slider ∈ pT := pT_5 200 (by decide +kernel) rfl
theorem lkM_L_133 : Cond.methodLink RL 133 yX12_slider ∈ pT := pT_8 67 (by decide +kernel) rfl
theorem lkM_L_134 : Cond.methodLink RL 134 yL_field ∈ pT := pT_5 214 (by decide +kernel) rfl
theorem lkM_L_136 : Cond.methodLink RL 136 yX12_field ∈ pT := pT_8 71 (by decide +kernel) rfl
theorem lkM_L_137 : Cond.methodLink RL 137 yL_tree ∈ pT := pT_6 3 (by decide +kernel) rfl
theorem lkM_L_139 : Cond.methodLink RL 139 yX12_tree ∈ pT := pT_8 79 (by decide +kernel) rfl
theorem lkM_L_140 : Cond.methodLink RL 140 yL_child ∈ pT := pT_6 14 (by decide +kernel) rfl
theorem lkM_L_143 : Cond.methodLink RL 143 yX12_child ∈ pT := pT_8 83 (by decide +kernel) rfl
theorem lkM_L_144 : Cond.methodLink RL 144 yL_scope ∈ pT := pT_6 44 (by decide +kernel) rfl
theorem lkM_L_147 : Cond.methodLink RL 147 yX12_scope ∈ pT := pT_8 87 (by decide +kernel) rfl
theorem lkM_L_148 : Cond.methodLink RL 148 yL_group ∈ pT := pT_6 51 (by decide +kernel) rfl
theorem lkM_L_151 : Cond.methodLink RL 151 yX12_group ∈ pT := pT_8 91 (by decide +kernel) rfl
theorem lkM_L_152 : Cond.methodLink RL 152 yL_near ∈ pT := pT_6 59 (by decide +kernel) rfl
theorem lkM_L_154 : Cond.methodLink RL 154 yX12_near ∈ pT := pT_8 95 (by decide +kernel) rfl
theorem lkM_L_155 : Cond.methodLink RL 155 yX11_look ∈ pT := pT_3 48 (by decide +kernel) rfl
theorem lkM_L_158 : Cond.methodLink RL 158 yX12_look ∈ pT := pT_8 99 (by decide +kernel) rfl
theorem lkM_L_159 : Cond.methodLink RL 159 yX11_place ∈ pT := pT_3 55 (by decide +kernel) rfl
theorem lkM_L_162 : Cond.methodLink RL 162 yX12_place ∈ pT := pT_8 103 (by decide +kernel) rfl
theorem lkM_L_163 : Cond.methodLink RL 163 yX11_kept ∈ pT := pT_3 73 (by decide +kernel) rfl
theorem lkM_L_166 : Cond.methodLink RL 166 yX12_kept ∈ pT := pT_8 107 (by decide +kernel) rfl
theorem lkM_L_167 : Cond.methodLink RL 167 yX11_text ∈ pT := pT_3 89 (by decide +kernel) rfl
theorem lkM_L_170 : Cond.methodLink RL 170 yX12_text ∈ pT := pT_8 111 (by decide +kernel) rfl
theorem lkM_L_171 : Cond.methodLink RL 171 yX11_drawn ∈ pT := pT_3 104 (by decide +kernel) rfl
theorem lkM_L_174 : Cond.methodLink RL 174 yX12_drawn ∈ pT := pT_8 115 (by decide +kernel) rfl
theorem lkM_L_175 : Cond.methodLink RL 175 yX11_command ∈ pT := pT_3 108 (by decide +kernel) rfl
theorem lkM_L_178 : Cond.methodLink RL 178 yX12_command ∈ pT := pT_8 119 (by decide +kernel) rfl
theorem lkM_L_179 : Cond.methodLink RL 179 yX11_index ∈ pT := pT_3 121 (by decide +kernel) rfl
theorem lkM_L_182 : Cond.methodLink RL 182 yX12_index ∈ pT := pT_8 123 (by decide +kernel) rfl
theorem lkM_L_183 : Cond.methodLink RL 183 yX11_vertex ∈ pT := pT_3 135 (by decide +kernel) rfl
theorem lkM_L_186 : Cond.methodLink RL 186 yX12_vertex ∈ pT := pT_8 127 (by decide +kernel) rfl
theorem lkM_X12_178 : Cond.methodLink RX12 178 yX12_min ∈ pT := pT_7 200 (by decide +kernel) rfl
theorem lkM_X12_182 : Cond.methodLink RX12 182 yX12_max ∈ pT := pT_7 194 (by decide +kernel) rfl
theorem lkM_X12_188 : Cond.methodLink RX12 188 yX12_event ∈ pT := pT_7 102 (by decide +kernel) rfl
theorem lkM_X12_220 : Cond.methodLink RX12 220 yX12_take ∈ pT := pT_7 138 (by decide +kernel) rfl
theorem lkM_X12_224 : Cond.methodLink RX12 224 yX12_height ∈ pT := pT_7 150 (by decide +kernel) rfl
theorem lkM_X12_228 : Cond.methodLink RX12 228 yX12_isIn ∈ pT := pT_7 154 (by decide +kernel) rfl
theorem lkM_X12_232 : Cond.methodLink RX12 232 yX12_hasMouse ∈ pT := pT_7 146 (by decide +kernel) rfl
theorem lkM_X12_239 : Cond.methodLink RX12 239 yX12_breaks ∈ pT := pT_7 126 (by decide +kernel) rfl
theorem lkM_X12_243 : Cond.methodLink RX12 243 yX12_takeAll ∈ pT := pT_7 134 (by decide +kernel) rfl
theorem lkM_X12_252 : Cond.methodLink RX12 252 yX12_findWindow ∈ pT := pT_7 142 (by decide +kernel) rfl
theorem lkM_X12_297 : Cond.methodLink RX12 297 yX12_fails ∈ pT := pT_7 130 (by decide +kernel) rfl
theorem lkM_X12_300 : Cond.methodLink RX12 300 yX12_give ∈ pT := pT_7 162 (by decide +kernel) rfl
theorem lkM_X12_304 : Cond.methodLink RX12 304 yX12_wasTold ∈ pT := pT_7 166 (by decide +kernel) rfl
theorem lkM_X12_310 : Cond.methodLink RX12 310 yX12_copyList ∈ pT := pT_7 170 (by decide +kernel) rfl
theorem lkM_X12_313 : Cond.methodLink RX12 313 yX12_drawnCount ∈ pT := pT_7 174 (by decide +kernel) rfl
theorem lkM_X12_316 : Cond.methodLink RX12 316 yX12_quad ∈ pT := pT_7 219 (by decide +kernel) rfl
theorem lkM_X12_320 : Cond.methodLink RX12 320 yX12_quadClipped ∈ pT := pT_7 215 (by decide +kernel) rfl
theorem lkM_X12_324 : Cond.methodLink RX12 324 yX12_tell ∈ pT := pT_7 190 (by decide +kernel) rfl
theorem lkM_X12_327 : Cond.methodLink RX12 327 yX12_between ∈ pT := pT_7 197 (by decide +kernel) rfl
theorem lkM_X12_331 : Cond.methodLink RX12 331 yX12_area ∈ pT := pT_7 203 (by decide +kernel) rfl
theorem lkM_X12_334 : Cond.methodLink RX12 334 yX12_openThing ∈ pT := pT_7 207 (by decide +kernel) rfl
theorem lkM_X12_337 : Cond.methodLink RX12 337 yX12_push ∈ pT := pT_7 211 (by decide +kernel) rfl
theorem lkM_X12_340 : Cond.methodLink RX12 340 yX12_tellWindow ∈ pT := pT_7 186 (by decide +kernel) rfl
theorem lkM_X12_343 : Cond.methodLink RX12 343 yX12_isLabel ∈ pT := pT_7 227 (by decide +kernel) rfl
theorem lkM_X12_346 : Cond.methodLink RX12 346 yX12_put ∈ pT := pT_8 3 (by decide +kernel) rfl
theorem lkM_X12_350 : Cond.methodLink RX12 350 yX12_nextX ∈ pT := pT_8 19 (by decide +kernel) rfl
theorem lkM_X12_353 : Cond.methodLink RX12 353 yX12_nextY ∈ pT := pT_8 23 (by decide +kernel) rfl
theorem lkM_X12_356 : Cond.methodLink RX12 356 yX12_idOf ∈ pT := pT_8 27 (by decide +kernel) rfl
theorem lkM_X12_359 : Cond.methodLink RX12 359 yX12_hasBehaved ∈ pT := pT_8 35 (by decide +kernel) rfl
theorem lkM_X12_365 : Cond.methodLink RX12 365 yX12_find ∈ pT := pT_8 55 (by decide +kernel) rfl
theorem lkM_X12_368 : Cond.methodLink RX12 368 yX12_made ∈ pT := pT_8 63 (by decide +kernel) rfl
theorem lkM_X12_371 : Cond.methodLink RX12 371 yX12_bars ∈ pT := pT_8 11 (by decide +kernel) rfl
theorem lkM_X12_375 : Cond.methodLink RX12 375 yX12_lay ∈ pT := pT_8 15 (by decide +kernel) rfl
theorem lkM_X12_378 : Cond.methodLink RX12 378 yX12_behaves ∈ pT := pT_8 31 (by decide +kernel) rfl
theorem lkM_X12_381 : Cond.methodLink RX12 381 yX12_shape ∈ pT := pT_8 39 (by decide +kernel) rfl
theorem lkM_X12_384 : Cond.methodLink RX12 384 yX12_digits ∈ pT := pT_8 43 (by decide +kernel) rfl
theorem lkM_X12_387 : Cond.methodLink RX12 387 yX12_numberOf ∈ pT := pT_8 51 (by decide +kernel) rfl
theorem lkM_X12_390 : Cond.methodLink RX12 390 yX12_keep ∈ pT := pT_8 59 (by decide +kernel) rfl
theorem lkM_X12_394 : Cond.methodLink RX12 394 yX12_edit ∈ pT := pT_8 75 (by decide +kernel) rfl
theorem lkM_X12_409 : Cond.methodLink RX12 409 yX12_walk ∈ pT := pT_7 178 (by decide +kernel) rfl
theorem lkN_X11_9 : Cond.methodLinkNest RX11 9 yX5_init RX11 ∈ pNs := pNs_at 32 (by decide +kernel) rfl
theorem lkN_X11_39 : Cond.methodLinkNest RX11 39 yX1_init RX11 ∈ pNs := pNs_at 369 (by decide +kernel) rfl
theorem lkN_X11_46 : Cond.methodLinkNest RX11 46 yX10_init RX11 ∈ pNs := pNs_at 407 (by decide +kernel) rfl
theorem lkN_X11_53 : Cond.methodLinkNest RX11 53 yX9_init RX11 ∈ pNs := pNs_at 433 (by decide +kernel) rfl
theorem lkN_X11_63 : Cond.methodLinkNest RX11 63 yX2_init RX11 ∈ pNs := pNs_at 459 (by decide +kernel) rfl
theorem lkN_X0_11 : Cond.methodLinkNest RX0 11 yX2_init RX11 ∈ pNs := pNs_at 300 (by decide +kernel) rfl
theorem lkN_X3_38 : Cond.methodLinkNest RX3 38 yX11_isWithin RX11 ∈ pNs := pNs_at 547 (by decide +kernel) rfl
theorem lkN_X5_11 : Cond.methodLinkNest RX5 11 yX4_init RX11 ∈ pNs := pNs_at 38 (by decide +kernel) rfl
theorem lkN_X5_101 : Cond.methodLinkNest RX5 101 yX11_isWithin RX11 ∈ pNs := pNs_at 763 (by decide +kernel) rfl
theorem lkN_X6_27 : Cond.methodLinkNest RX6 27 yX2_init RX11 ∈ pNs := pNs_at 235 (by decide +kernel) rfl
theorem lkN_X6_55 : Cond.methodLinkNest RX6 55 yX11_bring RX11 ∈ pNs := pNs_at 1229 (by decide +kernel) rfl
theorem lkN_X6_65 : Cond.methodLinkNest RX6 65 yX11_isWithin RX11 ∈ pNs := pNs_at 810 (by decide +kernel) rfl
theorem lkN_X7_46 : Cond.methodLinkNest RX7 46 yX11_bring RX11 ∈ pNs := pNs_at 929 (by decide +kernel) rfl
theorem lkN_X7_58 : Cond.methodLinkNest RX7 58 yX11_isWithin RX11 ∈ pNs := pNs_at 780 (by decide +kernel) rfl
theorem lkN_X7_82 : Cond.methodLinkNest RX7 82 yX11_oneIf RX11 ∈ pNs := pNs_at 552 (by decide +kernel) rfl
theorem lkN_X8_24 : Cond.methodLinkNest RX8 24 yX0_init RX11 ∈ pNs := pNs_at 295 (by decide +kernel) rfl
theorem lkN_X8_40 : Cond.methodLinkNest RX8 40 yX11_isWithin RX11 ∈ pNs := pNs_at 958 (by decide +kernel) rfl
theorem lkN_X9_62 : Cond.methodLinkNest RX9 62 yX11_isWithin RX11 ∈ pNs := pNs_at 596 (by decide +kernel) rfl
theorem lkN_X10_35 : Cond.methodLinkNest RX10 35 yX11_isWithin RX11 ∈ pNs := pNs_at 568 (by decide +kernel) rfl
theorem km_X11_init : pLI yX11_init cX11_init 1 0 := ⟨pT_1 26 rfl rfl, pT_1 1 (by decide +kernel) rfl, ⟨by decide +kernel, by decide +kernel, by decide +kernel⟩, pT_1 25 (by decide +kernel) rfl, rfl⟩
theorem km_X11_begin : pLV yX11_begin cX11_begin 2 (some .int) 0 := ⟨pT_3 150 rfl rfl, pT_1 1 (by decide +kernel) rfl, ⟨by decide +kernel, by decide +kernel, by decide +kernel⟩, pT_3 148 (by decide +kernel) rfl, pT_3 149 (by decide +kernel) rfl⟩
theorem km_X11_breakFrame : pLV yX11_breakFrame cX11_breakFrame 1 none 0 := ⟨pT_3 158 rfl rfl, pT_1 1 (by decide +kernel) rfl, ⟨by decide +kernel, by decide +kernel, by decide +kernel⟩, pT_3 157 (by decide +kernel) rfl, pT_at 1 (by decide +kernel) rfl⟩
theorem km_X11_bring : pLS yX11_bring cX11_bring 3 (some .int) 3 := ⟨pT_4 211 rfl rfl, pT_1 1 (by decide +kernel) rfl, ⟨by decide +kernel, by decide +kernel, by decide +kernel⟩, pT_4 210 (by decide +kernel) rfl⟩
theorem km_X11_button : pLV yX11_button cX11_button 5 (some .boolean) 2 := ⟨pT_5 121 rfl rfl, pT_1 1 (by decide +kernel) rfl, ⟨by decide +kernel, by decide +kernel, by decide +kernel⟩, pT_5 119 (by decide +kernel) rfl, pT_5 120 (by decide +kernel) rfl⟩
theorem km_X11_check : pLV yX11_check cX11_check 3 (some .int) 1 := ⟨pT_5 186 rfl rfl, pT_1 1 (by decide +kernel) rfl, ⟨by decide +kernel, by decide +kernel, by decide +kernel⟩, pT_5 184 (by decide +kernel) rfl, pT_5 185 (by decide +kernel) rfl⟩
theorem km_X11_child : pLV yX11_child cX11_child 8 none 3 := ⟨pT_6 20 rfl rfl, pT_1 1 (by decide +kernel) rfl, ⟨by decide +kernel, by decide +kernel, by decide +kernel⟩, pT_6 18 (by decide +kernel) rfl, pT_6 19 (by decide +kernel) rfl⟩
theorem km_X11_close : pLV yX11_close cX11_close 3 (some .int) 0 := ⟨pT_5 89 rfl rfl, pT_1 1 (by decide +kernel) rfl, ⟨by decide +kernel, by decide +kernel, by decide +kernel⟩, pT_5 87 (by decide +kernel) rfl, pT_5 88 (by decide +kernel) rfl⟩
theorem km_X11_closePane : pLV yX11_closePane cX11_closePane 3 none 1 := ⟨pT_5 101 rfl rfl, pT_1 1 (by decide +kernel) rfl, ⟨by decide +kernel, by decide +kernel, by decide +kernel⟩, pT_5 100 (by decide +kernel) rfl, pT_at 9 (by decide +kernel) rfl⟩
theorem km_X11_command : pLV yX11_command cX11_command 3 (some .int) 2 := ⟨pT_3 111 rfl rfl, pT_1 1 (by decide +kernel) rfl, ⟨by decide +kernel, by decide +kernel, by decide +kernel⟩, pT_3 109 (by decide +kernel) rfl, pT_3 110 (by decide +kernel) rfl⟩
theorem km_X11_composeDrawing : pLV yX11_composeDrawing cX11_composeDrawing 2 none 0 := ⟨pT_4 127 rfl rfl, pT_1 1 (by decide +kernel) rfl, ⟨by decide +kernel, by decide +kernel, by decide +kernel⟩, pT_4 126 (by decide +kernel) rfl, pT_at 4 (by decide +kernel) rfl⟩
theorem km_X11_dismiss : pLV yX11_dismiss cX11_dismiss 2 (some .boolean) 0 := ⟨pT_3 47 rfl rfl, pT_1 1 (by decide +kernel) rfl, ⟨by decide +kernel, by decide +kernel, by decide +kernel⟩, pT_3 45 (by decide +kernel) rfl, pT_3 46 (by decide +kernel) rfl⟩
theorem km_X11_drawGlyph : pLV yX11_drawGlyph cX11_drawGlyph 5 none 2 := ⟨pT_5 179 rfl rfl, pT_1 1 (by decide +kernel) rfl, ⟨by decide +kernel, by decide +kernel, by decide +kernel⟩, pT_5 178 (by decide +kernel) rfl, pT_at 16 (by decide +kernel) rfl⟩
theorem km_X11_drawItem : pLV yX11_drawItem cX11_drawItem 3 none 1 := ⟨pT_5 171 rfl rfl, pT_1 1 (by decide +kernel) rfl, ⟨by decide +kernel, by decide +kernel, by decide +kernel⟩, pT_5 170 (by decide +kernel) rfl, pT_at 14 (by decide +kernel) rfl⟩
theorem km_X11_drawLabel : pLV yX11_drawLabel cX11_drawLabel 3 none 1 := ⟨pT_5 175 rfl rfl, pT_1 1 (by decide +kernel) rfl, ⟨by decide +kernel, by decide +kernel, by decide +kernel⟩, pT_5 174 (by decide +kernel) rfl, pT_at 15 (by decide +kernel) rfl⟩
theorem km_X11_drawPane : pLV yX11_drawPane cX11_drawPane 3 none 2 := ⟨pT_5 6 rfl rfl, pT_1 1 (by decide +kernel) rfl, ⟨by decide +kernel, by decide +kernel, by decide +kernel⟩, pT_5 5 (by decide +kernel) rfl, pT_at 8 (by decide +kernel) rfl⟩
theorem km_X11_drawn : pLV yX11_drawn cX11_drawn 2 (some .int) 1 := ⟨pT_3 107 rfl rfl, pT_1 1 (by decide +kernel) rfl, ⟨by decide +kernel, by decide +kernel, by decide +kernel⟩, pT_3 105 (by decide +kernel) rfl, pT_3 106 (by decide +kernel) rfl⟩
theorem km_X11_end : pLV yX11_end cX11_end 1 (some .int) 0 := ⟨pT_4 111 rfl rfl, pT_1 1 (by decide +kernel) rfl, ⟨by decide +kernel, by decide +kernel, by decide +kernel⟩, pT_4 109 (by decide +kernel) rfl, pT_4 110 (by decide +kernel) rfl⟩
theorem km_X11_field : pLV yX11_field cX11_field 6 (some .int) 2 := ⟨pT_5 220 rfl rfl, pT_1 1 (by decide +kernel) rfl, ⟨by decide +kernel, by decide +kernel, by decide +kernel⟩, pT_5 218 (by decide +kernel) rfl, pT_5 219 (by decide +kernel) rfl⟩
theorem km_X11_group : pLV yX11_group cX11_group 3 none 0 := ⟨pT_6 57 rfl rfl, pT_1 1 (by decide +kernel) rfl, ⟨by decide +kernel, by decide +kernel, by decide +kernel⟩, pT_6 55 (by decide +kernel) rfl, pT_6 56 (by decide +kernel) rfl⟩
theorem km_X11_index : pLV yX11_index cX11_index 2 (some .int) 1 := ⟨pT_3 124 rfl rfl, pT_1 1 (by decide +kernel) rfl, ⟨by decide +kernel, by decide +kernel, by decide +kernel⟩, pT_3 122 (by decide +kernel) rfl, pT_3 123 (by decide +kernel) rfl⟩
theorem km_X11_isLabel : pLS yX11_isLabel cX11_isLabel 1 (some .boolean) 1 := ⟨pT_5 70 rfl rfl, pT_1 1 (by decide +kernel) rfl, ⟨by decide +kernel, by decide +kernel, by decide +kernel⟩, pT_5 69 (by decide +kernel) rfl⟩
theorem km_X11_isWindowOpen : pLV yX11_isWindowOpen cX11_isWindowOpen 1 (some .boolean) 0 := ⟨pT_5 129 rfl rfl, pT_1 1 (by decide +kernel) rfl, ⟨by decide +kernel, by decide +kernel, by decide +kernel⟩, pT_5 128 (by decide +kernel) rfl, pT_at 11 (by decide +kernel) rfl⟩
theorem km_X11_isWindowSize : pLS yX11_isWindowSize cX11_isWindowSize 2 (some .boolean) 2 := ⟨pT_4 179 rfl rfl, pT_1 1 (by decide +kernel) rfl, ⟨by decide +kernel, by decide +kernel, by decide +kernel⟩, pT_4 178 (by decide +kernel) rfl⟩
theorem km_X11_isWithin : pLS yX11_isWithin cX11_isWithin 3 (some .boolean) 3 := ⟨pT_3 23 rfl rfl, pT_1 1 (by decide +kernel) rfl, ⟨by decide +kernel, by decide +kernel, by decide +kernel⟩, pT_3 22 (by decide +kernel) rfl⟩
theorem km_X11_kept : pLV yX11_kept cX11_kept 2 (some .int) 1 := ⟨pT_3 76 rfl rfl, pT_1 1 (by decide +kernel) rfl, ⟨by decide +kernel, by decide +kernel, by decide +kernel⟩, pT_3 74 (by decide +kernel) rfl, pT_3 75 (by decide +kernel) rfl⟩
theorem km_X11_key : pLV yX11_key cX11_key 3 (some .boolean) 2 := ⟨pT_3 39 rfl rfl, pT_1 1 (by decide +kernel) rfl, ⟨by decide +kernel, by decide +kernel, by decide +kernel⟩, pT_3 37 (by decide +kernel) rfl, pT_3 38 (by decide +kernel) rfl⟩
theorem km_X11_layItem : pLV yX11_layItem cX11_layItem 4 none 2 := ⟨pT_5 145 rfl rfl, pT_1 1 (by decide +kernel) rfl, ⟨by decide +kernel, by decide +kernel, by decide +kernel⟩, pT_5 144 (by decide +kernel) rfl, pT_at 13 (by decide +kernel) rfl⟩
theorem km_X11_letter : pLV yX11_letter cX11_letter 2 (some .boolean) 1 := ⟨pT_3 43 rfl rfl, pT_1 1 (by decide +kernel) rfl, ⟨by decide +kernel, by decide +kernel, by decide +kernel⟩, pT_3 41 (by decide +kernel) rfl, pT_3 42 (by decide +kernel) rfl⟩
theorem km_X11_look : pLV yX11_look cX11_look 2 (some .int) 1 := ⟨pT_3 51 rfl rfl, pT_1 1 (by decide +kernel) rfl, ⟨by decide +kernel, by decide +kernel, by decide +kernel⟩, pT_3 49 (by decide +kernel) rfl, pT_3 50 (by decide +kernel) rfl⟩
theorem km_X11_moveActiveWindow : pLV yX11_moveActiveWindow cX11_moveActiveWindow 3 none 0 := ⟨pT_4 77 rfl rfl, pT_1 1 (by decide +kernel) rfl, ⟨by decide +kernel, by decide +kernel, by decide +kernel⟩, pT_4 76 (by decide +kernel) rfl, pT_at 3 (by decide +kernel) rfl⟩
theorem km_X11_near : pLV yX11_near cX11_near 1 none 0 := ⟨pT_6 65 rfl rfl, pT_1 1 (by decide +kernel) rfl, ⟨by decide +kernel, by decide +kernel, by decide +kernel⟩, pT_6 63 (by decide +kernel) rfl, pT_6 64 (by decide +kernel) rfl⟩
theorem km_X11_oneIf : pLS yX11_oneIf cX11_oneIf 1 (some .int) 1 := ⟨pT_3 54 rfl rfl, pT_1 1 (by decide +kernel) rfl, ⟨by decide +kernel, by decide +kernel, by decide +kernel⟩, pT_3 53 (by decide +kernel) rfl⟩
theorem km_X11_open : pLV yX11_open cX11_open 2 (some .boolean) 1 := ⟨pT_5 67 rfl rfl, pT_1 1 (by decide +kernel) rfl, ⟨by decide +kernel, by decide +kernel, by decide +kernel⟩, pT_5 65 (by decide +kernel) rfl, pT_5 66 (by decide +kernel) rfl⟩
theorem km_X11_place : pLV yX11_place cX11_place 4 (some .int) 2 := ⟨pT_3 58 rfl rfl, pT_1 1 (by decide +kernel) rfl, ⟨by decide +kernel, by decide +kernel, by decide +kernel⟩, pT_3 56 (by decide +kernel) rfl, pT_3 57 (by decide +kernel) rfl⟩
theorem km_X11_point : pLV yX11_point cX11_point 3 (some .boolean) 2 := ⟨pT_3 20 rfl rfl, pT_1 1 (by decide +kernel) rfl, ⟨by decide +kernel, by decide +kernel, by decide +kernel⟩, pT_3 18 (by decide +kernel) rfl, pT_3 19 (by decide +kernel) rfl⟩
theorem km_X11_popup : pLV yX11_popup cX11_popup 5 (some .boolean) 3 := ⟨pT_5 82 rfl rfl, pT_1 1 (by decide +kernel) rfl, ⟨by decide +kernel, by decide +kernel, by decide +kernel⟩, pT_5 80 (by decide +kernel) rfl, pT_5 81 (by decide +kernel) rfl⟩
theorem km_X11_press : pLV yX11_press cX11_press 2 (some .boolean) 1 := ⟨pT_3 31 rfl rfl, pT_1 1 (by decide +kernel) rfl, ⟨by decide +kernel, by decide +kernel, by decide +kernel⟩, pT_3 29 (by decide +kernel) rfl, pT_3 30 (by decide +kernel) rfl⟩
theorem km_X11_requireArgument : pLV yX11_requireArgument cX11_requireArgument 2 none 1 := ⟨pT_4 183 rfl rfl, pT_1 1 (by decide +kernel) rfl, ⟨by decide +kernel, by decide +kernel, by decide +kernel⟩, pT_4 182 (by decide +kernel) rfl, pT_at 6 (by decide +kernel) rfl⟩
theorem km_X11_requireItem : pLV yX11_requireItem cX11_requireItem 2 none 1 := ⟨pT_5 125 rfl rfl, pT_1 1 (by decide +kernel) rfl, ⟨by decide +kernel, by decide +kernel, by decide +kernel⟩, pT_5 124 (by decide +kernel) rfl, pT_at 10 (by decide +kernel) rfl⟩
theorem km_X11_requireState : pLV yX11_requireState cX11_requireState 2 none 1 := ⟨pT_3 154 rfl rfl, pT_1 1 (by decide +kernel) rfl, ⟨by decide +kernel, by decide +kernel, by decide +kernel⟩, pT_3 153 (by decide +kernel) rfl, pT_at 0 (by decide +kernel) rfl⟩
theorem km_X11_scope : pLV yX11_scope cX11_scope 2 none 1 := ⟨pT_6 50 rfl rfl, pT_1 1 (by decide +kernel) rfl, ⟨by decide +kernel, by decide +kernel, by decide +kernel⟩, pT_6 48 (by decide +kernel) rfl, pT_6 49 (by decide +kernel) rfl⟩
theorem km_X11_showPane : pLV yX11_showPane cX11_showPane 2 none 1 := ⟨pT_4 135 rfl rfl, pT_1 1 (by decide +kernel) rfl, ⟨by decide +kernel, by decide +kernel, by decide +kernel⟩, pT_4 134 (by decide +kernel) rfl, pT_at 5 (by decide +kernel) rfl⟩
theorem km_X11_slide : pLV yX11_slide cX11_slide 6 (some .int) 3 := ⟨pT_5 210 rfl rfl, pT_1 1 (by decide +kernel) rfl, ⟨by decide +kernel, by decide +kernel, by decide +kernel⟩, pT_5 209 (by decide +kernel) rfl, pT_at 17 (by decide +kernel) rfl⟩
theorem km_X11_slider : pLV yX11_slider cX11_slider 7 (some .int) 4 := ⟨pT_5 206 rfl rfl, pT_1 1 (by decide +kernel) rfl, ⟨by decide +kernel, by decide +kernel, by decide +kernel⟩, pT_5 204 (by decide +kernel) rfl, pT_5 205 (by decide +kernel) rfl⟩
theorem km_X11_tellBehaving : pLV yX11_tellBehaving cX11_tellBehaving 4 (some .boolean) 2 := ⟨pT_5 141 rfl rfl, pT_1 1 (by decide +kernel) rfl, ⟨by decide +kernel, by decide +kernel, by decide +kernel⟩, pT_5 140 (by decide +kernel) rfl, pT_at 12 (by decide +kernel) rfl⟩
theorem km_X11_tellPane : pLV yX11_tellPane cX11_tellPane 8 none 4 := ⟨pT_4 203 rfl rfl, pT_1 1 (by decide +kernel) rfl, ⟨by decide +kernel, by decide +kernel, by decide +kernel⟩, pT_4 202 (by decide +kernel) rfl, pT_at 7 (by decide +kernel) rfl⟩
theorem km_X11_text : pLV yX11_text cX11_text 3 (some .int) 2 := ⟨pT_3 92 rfl rfl, pT_1 1 (by decide +kernel) rfl, ⟨by decide +kernel, by decide +kernel, by decide +kernel⟩, pT_3 90 (by decide +kernel) rfl, pT_3 91 (by decide +kernel) rfl⟩
theorem km_X11_tree : pLV yX11_tree cX11_tree 4 (some .boolean) 2 := ⟨pT_6 9 rfl rfl, pT_1 1 (by decide +kernel) rfl, ⟨by decide +kernel, by decide +kernel, by decide +kernel⟩, pT_6 7 (by decide +kernel) rfl, pT_6 8 (by decide +kernel) rfl⟩
theorem km_X11_vertex : pLV yX11_vertex cX11_vertex 3 (some .int) 2 := ⟨pT_3 138 rfl rfl, pT_1 1 (by decide +kernel) rfl, ⟨by decide +kernel, by decide +kernel, by decide +kernel⟩, pT_3 136 (by decide +kernel) rfl, pT_3 137 (by decide +kernel) rfl⟩
theorem km_X11_wheel : pLV yX11_wheel cX11_wheel 2 (some .boolean) 1 := ⟨pT_3 35 rfl rfl, pT_1 1 (by decide +kernel) rfl, ⟨by decide +kernel, by decide +kernel, by decide +kernel⟩, pT_3 33 (by decide +kernel) rfl, pT_3 34 (by decide +kernel) rfl⟩
theorem km_X11_window : pLV yX11_window cX11_window 7 (some .boolean) 5 := ⟨pT_4 176 rfl rfl, pT_1 1 (by decide +kernel) rfl, ⟨by decide +kernel, by decide +kernel, by decide +kernel⟩, pT_4 174 (by decide +kernel) rfl, pT_4 175 (by decide +kernel) rfl⟩
theorem km_X0_init : pLI yX0_init cX0_init 1 0 := ⟨pT_2 57 rfl rfl, pT_1 9 (by decide +kernel) rfl, ⟨by decide +kernel, by decide +kernel, by decide +kernel⟩, pT_2 56 (by decide +kernel) rfl, rfl⟩
theorem km_X0_addItem : pLV yX0_addItem cX0_addItem 2 none 1 := ⟨pT_5 113 rfl rfl, pT_1 9 (by decide +kernel) rfl, ⟨by decide +kernel, by decide +kernel, by decide +kernel⟩, pT_5 111 (by decide +kernel) rfl, pT_5 112 (by decide +kernel) rfl⟩
theorem km_X0_high : pLV yX0_high cX0_high 1 (some .int) 0 := ⟨pT_5 105 rfl rfl, pT_1 9 (by decide +kernel) rfl, ⟨by decide +kernel, by decide +kernel, by decide +kernel⟩, pT_5 103 (by decide +kernel) rfl, pT_5 104 (by decide +kernel) rfl⟩
theorem km_X0_placeCursor : pLV yX0_placeCursor cX0_placeCursor 2 none 1 := ⟨pT_5 149 rfl rfl, pT_1 9 (by decide +kernel) rfl, ⟨by decide +kernel, by decide +kernel, by decide +kernel⟩, pT_5 147 (by decide +kernel) rfl, pT_5 148 (by decide +kernel) rfl⟩
theorem km_X0_start : pLV yX0_start cX0_start 4 none 3 := ⟨pT_5 2 rfl rfl, pT_1 9 (by decide +kernel) rfl, ⟨by decide +kernel, by decide +kernel, by decide +kernel⟩, pT_5 0 (by decide +kernel) rfl, pT_5 1 (by decide +kernel) rfl⟩
theorem km_X1_init : pLI yX1_init cX1_init 1 0 := ⟨pT_2 131 rfl rfl, pT_1 10 (by decide +kernel) rfl, ⟨by decide +kernel, by decide +kernel, by decide +kernel⟩, pT_2 130 (by decide +kernel) rfl, rfl⟩
theorem km_X1_behave : pLV yX1_behave cX1_behave 6 (some .boolean) 3 := ⟨pT_5 154 rfl rfl, pT_1 10 (by decide +kernel) rfl, ⟨by decide +kernel, by decide +kernel, by decide +kernel⟩, pT_5 152 (by decide +kernel) rfl, pT_5 153 (by decide +kernel) rfl⟩
theorem km_X1_finishFrame : pLV yX1_finishFrame cX1_finishFrame 2 none 1 := ⟨pT_4 115 rfl rfl, pT_1 10 (by decide +kernel) rfl, ⟨by decide +kernel, by decide +kernel, by decide +kernel⟩, pT_4 113 (by decide +kernel) rfl, pT_4 114 (by decide +kernel) rfl⟩
theorem km_X1_forgetAll : pLV yX1_forgetAll cX1_forgetAll 1 none 0 := ⟨pT_3 162 rfl rfl, pT_1 10 (by decide +kernel) rfl, ⟨by decide +kernel, by decide +kernel, by decide +kernel⟩, pT_3 160 (by decide +kernel) rfl, pT_3 161 (by decide +kernel) rfl⟩
theorem km_X1_giveFocus : pLV yX1_giveFocus cX1_giveFocus 2 none 1 := ⟨pT_3 170 rfl rfl, pT_1 10 (by decide +kernel) rfl, ⟨by decide +kernel, by decide +kernel, by decide +kernel⟩, pT_3 168 (by decide +kernel) rfl, pT_3 169 (by decide +kernel) rfl⟩
theorem km_X1_noteTold : pLV yX1_noteTold cX1_noteTold 2 none 1 := ⟨pT_4 226 rfl rfl, pT_1 10 (by decide +kernel) rfl, ⟨by decide +kernel, by decide +kernel, by decide +kernel⟩, pT_4 224 (by decide +kernel) rfl, pT_4 225 (by decide +kernel) rfl⟩
theorem km_X1_startFrame : pLV yX1_startFrame cX1_startFrame 1 none 0 := ⟨pT_3 166 rfl rfl, pT_1 10 (by decide +kernel) rfl, ⟨by decide +kernel, by decide +kernel, by decide +kernel⟩, pT_3 164 (by decide +kernel) rfl, pT_3 165 (by decide +kernel) rfl⟩
theorem km_X1_takeEnter : pLV yX1_takeEnter cX1_takeEnter 3 (some .boolean) 2 := ⟨pT_5 162 rfl rfl, pT_1 10 (by decide +kernel) rfl, ⟨by decide +kernel, by decide +kernel, by decide +kernel⟩, pT_5 160 (by decide +kernel) rfl, pT_5 161 (by decide +kernel) rfl⟩
theorem km_X1_takeTab : pLV yX1_takeTab cX1_takeTab 3 none 2 := ⟨pT_5 158 rfl rfl, pT_1 10 (by decide +kernel) rfl, ⟨by decide +kernel, by decide +kernel, by decide +kernel⟩, pT_5 156 (by decide +kernel) rfl, pT_5 157 (by decide +kernel) rfl⟩
theorem km_X2_init : pLI yX2_init cX2_init 1 0 := ⟨pT_1 237 rfl rfl, pT_1 7 (by decide +kernel) rfl, ⟨by decide +kernel, by decide +kernel, by decide +kernel⟩, pT_1 236 (by decide +kernel) rfl, rfl⟩
theorem km_X2_cutToScreen : pLV yX2_cutToScreen cX2_cutToScreen 1 none 0 := ⟨pT_5 19 rfl rfl, pT_1 7 (by decide +kernel) rfl, ⟨by decide +kernel, by decide +kernel, by decide +kernel⟩, pT_5 17 (by decide +kernel) rfl, pT_5 18 (by decide +kernel) rfl⟩
theorem km_X2_has : pLV yX2_has cX2_has 3 (some .boolean) 2 := ⟨pT_4 94 rfl rfl, pT_1 7 (by decide +kernel) rfl, ⟨by decide +kernel, by decide +kernel, by decide +kernel⟩, pT_4 92 (by decide +kernel) rfl, pT_4 93 (by decide +kernel) rfl⟩
theorem km_X2_meets : pLV yX2_meets cX2_meets 2 (some .boolean) 1 := ⟨pT_5 32 rfl rfl, pT_1 7 (by decide +kernel) rfl, ⟨by decide +kernel, by decide +kernel, by decide +kernel⟩, pT_5 30 (by decide +kernel) rfl, pT_5 31 (by decide +kernel) rfl⟩
theorem km_X2_set : pLV yX2_set cX2_set 5 none 4 := ⟨pT_5 15 rfl rfl, pT_1 7 (by decide +kernel) rfl, ⟨by decide +kernel, by decide +kernel, by decide +kernel⟩, pT_5 13 (by decide +kernel) rfl, pT_5 14 (by decide +kernel) rfl⟩
theorem km_X2_setLike : pLV yX2_setLike cX2_setLike 2 none 1 := ⟨pT_6 43 rfl rfl, pT_1 7 (by decide +kernel) rfl, ⟨by decide +kernel, by decide +kernel, by decide +kernel⟩, pT_6 41 (by decide +kernel) rfl, pT_6 42 (by decide +kernel) rfl⟩
theorem km_X2_setMeeting : pLV yX2_setMeeting cX2_setMeeting 3 none 2 := ⟨pT_6 38 rfl rfl, pT_1 7 (by decide +kernel) rfl, ⟨by decide +kernel, by decide +kernel, by decide +kernel⟩, pT_6 36 (by decide +kernel) rfl, pT_6 37 (by decide +kernel) rfl⟩
theorem km_X3_init : pLI yX3_init cX3_init 2 0 := ⟨pT_1 135 rfl rfl, pT_1 4 (by decide +kernel) rfl, ⟨by decide +kernel, by decide +kernel, by decide +kernel⟩, pT_1 134 (by decide +kernel) rfl, rfl⟩
theorem km_X3_bringToFront : pLV yX3_bringToFront cX3_bringToFront 3 none 1 := ⟨pT_4 72 rfl rfl, pT_1 4 (by decide +kernel) rfl, ⟨by decide +kernel, by decide +kernel, by decide +kernel⟩, pT_4 70 (by decide +kernel) rfl, pT_4 71 (by decide +kernel) rfl⟩
theorem km_X3_closeUntoldPopup : pLV yX3_closeUntoldPopup cX3_closeUntoldPopup 1 none 0 := ⟨pT_4 123 rfl rfl, pT_1 4 (by decide +kernel) rfl, ⟨by decide +kernel, by decide +kernel, by decide +kernel⟩, pT_4 121 (by decide +kernel) rfl, pT_4 122 (by decide +kernel) rfl⟩
theorem km_X3_findHovered : pLV yX3_findHovered cX3_findHovered 3 none 1 := ⟨pT_4 55 rfl rfl, pT_1 4 (by decide +kernel) rfl, ⟨by decide +kernel, by decide +kernel, by decide +kernel⟩, pT_4 53 (by decide +kernel) rfl, pT_4 54 (by decide +kernel) rfl⟩
theorem km_X3_forgetAll : pLV yX3_forgetAll cX3_forgetAll 1 none 0 := ⟨pT_3 174 rfl rfl, pT_1 4 (by decide +kernel) rfl, ⟨by decide +kernel, by decide +kernel, by decide +kernel⟩, pT_3 172 (by decide +kernel) rfl, pT_3 173 (by decide +kernel) rfl⟩
theorem km_X3_forgetTold : pLV yX3_forgetTold cX3_forgetTold 2 none 0 := ⟨pT_3 178 rfl rfl, pT_1 4 (by decide +kernel) rfl, ⟨by decide +kernel, by decide +kernel, by decide +kernel⟩, pT_3 176 (by decide +kernel) rfl, pT_3 177 (by decide +kernel) rfl⟩
theorem km_X3_frontWindowUnder : pLV yX3_frontWindowUnder cX3_frontWindowUnder 4 (some .int) 1 := ⟨pT_4 68 rfl rfl, pT_1 4 (by decide +kernel) rfl, ⟨by decide +kernel, by decide +kernel, by decide +kernel⟩, pT_4 66 (by decide +kernel) rfl, pT_4 67 (by decide +kernel) rfl⟩
theorem km_X3_openPopup : pLV yX3_openPopup cX3_openPopup 3 (some .boolean) 2 := ⟨pT_5 74 rfl rfl, pT_1 4 (by decide +kernel) rfl, ⟨by decide +kernel, by decide +kernel, by decide +kernel⟩, pT_5 72 (by decide +kernel) rfl, pT_5 73 (by decide +kernel) rfl⟩
theorem km_X3_paneOf : pLV yX3_paneOf cX3_paneOf 3 (some (.object "PanelFrames$Pane")) 1 := ⟨pT_3 66 rfl rfl, pT_1 4 (by decide +kernel) rfl, ⟨by decide +kernel, by decide +kernel, by decide +kernel⟩, pT_3 64 (by decide +kernel) rfl, pT_3 65 (by decide +kernel) rfl⟩
theorem km_X3_placeInOrder : pLV yX3_placeInOrder cX3_placeInOrder 3 (some .int) 1 := ⟨pT_3 62 rfl rfl, pT_1 4 (by decide +kernel) rfl, ⟨by decide +kernel, by decide +kernel, by decide +kernel⟩, pT_3 60 (by decide +kernel) rfl, pT_3 61 (by decide +kernel) rfl⟩
theorem km_X3_windowAt : pLV yX3_windowAt cX3_windowAt 2 (some .int) 1 := ⟨pT_4 131 rfl rfl, pT_1 4 (by decide +kernel) rfl, ⟨by decide +kernel, by decide +kernel, by decide +kernel⟩, pT_4 129 (by decide +kernel) rfl, pT_4 130 (by decide +kernel) rfl⟩
theorem km_X4_init : pLI yX4_init cX4_init 1 0 := ⟨pT_1 40 rfl rfl, pT_1 3 (by decide +kernel) rfl, ⟨by decide +kernel, by decide +kernel, by decide +kernel⟩, pT_1 39 (by decide +kernel) rfl, rfl⟩
theorem km_X4_add : pLV yX4_add cX4_add 5 (some .boolean) 3 := ⟨pT_3 27 rfl rfl, pT_1 3 (by decide +kernel) rfl, ⟨by decide +kernel, by decide +kernel, by decide +kernel⟩, pT_3 25 (by decide +kernel) rfl, pT_3 26 (by decide +kernel) rfl⟩
theorem km_X4_drop : pLV yX4_drop cX4_drop 1 none 0 := ⟨pT_4 51 rfl rfl, pT_1 3 (by decide +kernel) rfl, ⟨by decide +kernel, by decide +kernel, by decide +kernel⟩, pT_4 49 (by decide +kernel) rfl, pT_4 50 (by decide +kernel) rfl⟩
theorem km_X4_nextFirst : pLV yX4_nextFirst cX4_nextFirst 1 (some .int) 0 := ⟨pT_4 26 rfl rfl, pT_1 3 (by decide +kernel) rfl, ⟨by decide +kernel, by decide +kernel, by decide +kernel⟩, pT_4 24 (by decide +kernel) rfl, pT_4 25 (by decide +kernel) rfl⟩
theorem km_X4_nextKind : pLV yX4_nextKind cX4_nextKind 1 (some .int) 0 := ⟨pT_4 22 rfl rfl, pT_1 3 (by decide +kernel) rfl, ⟨by decide +kernel, by decide +kernel, by decide +kernel⟩, pT_4 20 (by decide +kernel) rfl, pT_4 21 (by decide +kernel) rfl⟩
theorem km_X4_nextSecond : pLV yX4_nextSecond cX4_nextSecond 1 (some .int) 0 := ⟨pT_4 30 rfl rfl, pT_1 3 (by decide +kernel) rfl, ⟨by decide +kernel, by decide +kernel, by decide +kernel⟩, pT_4 28 (by decide +kernel) rfl, pT_4 29 (by decide +kernel) rfl⟩
theorem km_X5_init : pLI yX5_init cX5_init 1 0 := ⟨pT_1 34 rfl rfl, pT_1 2 (by decide +kernel) rfl, ⟨by decide +kernel, by decide +kernel, by decide +kernel⟩, pT_1 33 (by decide +kernel) rfl, rfl⟩
theorem km_X5_forgetFrame : pLV yX5_forgetFrame cX5_forgetFrame 2 none 0 := ⟨pT_4 18 rfl rfl, pT_1 2 (by decide +kernel) rfl, ⟨by decide +kernel, by decide +kernel, by decide +kernel⟩, pT_4 16 (by decide +kernel) rfl, pT_4 17 (by decide +kernel) rfl⟩
theorem km_X5_isDownHere : pLV yX5_isDownHere cX5_isDownHere 2 (some .boolean) 1 := ⟨pT_4 119 rfl rfl, pT_1 2 (by decide +kernel) rfl, ⟨by decide +kernel, by decide +kernel, by decide +kernel⟩, pT_4 117 (by decide +kernel) rfl, pT_4 118 (by decide +kernel) rfl⟩
theorem km_X5_isUpHere : pLV yX5_isUpHere cX5_isUpHere 2 (some .boolean) 1 := ⟨pT_5 166 rfl rfl, pT_1 2 (by decide +kernel) rfl, ⟨by decide +kernel, by decide +kernel, by decide +kernel⟩, pT_5 164 (by decide +kernel) rfl, pT_5 165 (by decide +kernel) rfl⟩
theorem km_X5_isWherePressed : pLV yX5_isWherePressed cX5_isWherePressed 1 (some .boolean) 0 := ⟨pT_4 222 rfl rfl, pT_1 2 (by decide +kernel) rfl, ⟨by decide +kernel, by decide +kernel, by decide +kernel⟩, pT_4 220 (by decide +kernel) rfl, pT_4 221 (by decide +kernel) rfl⟩
theorem km_X5_take : pLV yX5_take cX5_take 4 none 3 := ⟨pT_4 34 rfl rfl, pT_1 2 (by decide +kernel) rfl, ⟨by decide +kernel, by decide +kernel, by decide +kernel⟩, pT_4 32 (by decide +kernel) rfl, pT_4 33 (by decide +kernel) rfl⟩
theorem km_X5_takeEvents : pLV yX5_takeEvents cX5_takeEvents 7 (some .int) 0 := ⟨pT_4 14 rfl rfl, pT_1 2 (by decide +kernel) rfl, ⟨by decide +kernel, by decide +kernel, by decide +kernel⟩, pT_4 12 (by decide +kernel) rfl, pT_4 13 (by decide +kernel) rfl⟩
theorem km_X5_takeKey : pLV yX5_takeKey cX5_takeKey 4 none 3 := ⟨pT_4 42 rfl rfl, pT_1 2 (by decide +kernel) rfl, ⟨by decide +kernel, by decide +kernel, by decide +kernel⟩, pT_4 40 (by decide +kernel) rfl, pT_4 41 (by decide +kernel) rfl⟩
theorem km_X5_takeLetter : pLV yX5_takeLetter cX5_takeLetter 2 none 1 := ⟨pT_4 47 rfl rfl, pT_1 2 (by decide +kernel) rfl, ⟨by decide +kernel, by decide +kernel, by decide +kernel⟩, pT_4 45 (by decide +kernel) rfl, pT_4 46 (by decide +kernel) rfl⟩
theorem km_X5_takePress : pLV yX5_takePress cX5_takePress 1 none 0 := ⟨pT_4 38 rfl rfl, pT_1 2 (by decide +kernel) rfl, ⟨by decide +kernel, by decide +kernel, by decide +kernel⟩, pT_4 36 (by decide +kernel) rfl, pT_4 37 (by decide +kernel) rfl⟩
theorem km_X6_init : pLI yX6_init cX6_init 2 0 := ⟨pT_1 230 rfl rfl, pT_1 6 (by decide +kernel) rfl, ⟨by decide +kernel, by decide +kernel, by decide +kernel⟩, pT_1 229 (by decide +kernel) rfl, rfl⟩
theorem km_X6_clipOf : pLV yX6_clipOf cX6_clipOf 3 (some (.object "PanelFrames$Box")) 1 := ⟨pT_4 89 rfl rfl, pT_1 6 (by decide +kernel) rfl, ⟨by decide +kernel, by decide +kernel, by decide +kernel⟩, pT_4 87 (by decide +kernel) rfl, pT_4 88 (by decide +kernel) rfl⟩
theorem km_X6_findWheelKid : pLV yX6_findWheelKid cX6_findWheelKid 4 none 2 := ⟨pT_4 85 rfl rfl, pT_1 6 (by decide +kernel) rfl, ⟨by decide +kernel, by decide +kernel, by decide +kernel⟩, pT_4 83 (by decide +kernel) rfl, pT_4 84 (by decide +kernel) rfl⟩
theorem km_X6_hasRoom : pLV yX6_hasRoom cX6_hasRoom 1 (some .boolean) 0 := ⟨pT_6 24 rfl rfl, pT_1 6 (by decide +kernel) rfl, ⟨by decide +kernel, by decide +kernel, by decide +kernel⟩, pT_6 22 (by decide +kernel) rfl, pT_6 23 (by decide +kernel) rfl⟩
theorem km_X6_scrollOf : pLV yX6_scrollOf cX6_scrollOf 2 (some .int) 1 := ⟨pT_6 34 rfl rfl, pT_1 6 (by decide +kernel) rfl, ⟨by decide +kernel, by decide +kernel, by decide +kernel⟩, pT_6 32 (by decide +kernel) rfl, pT_6 33 (by decide +kernel) rfl⟩
theorem km_X6_setHigh : pLV yX6_setHigh cX6_setHigh 3 none 2 := ⟨pT_5 109 rfl rfl, pT_1 6 (by decide +kernel) rfl, ⟨by decide +kernel, by decide +kernel, by decide +kernel⟩, pT_5 107 (by decide +kernel) rfl, pT_5 108 (by decide +kernel) rfl⟩
theorem km_X6_tell : pLV yX6_tell cX6_tell 6 (some .int) 3 := ⟨pT_6 28 rfl rfl, pT_1 6 (by decide +kernel) rfl, ⟨by decide +kernel, by decide +kernel, by decide +kernel⟩, pT_6 26 (by decide +kernel) rfl, pT_6 27 (by decide +kernel) rfl⟩
theorem km_X7_init : pLI yX7_init cX7_init 2 1 := ⟨pT_1 142 rfl rfl, pT_1 5 (by decide +kernel) rfl, ⟨by decide +kernel, by decide +kernel, by decide +kernel⟩, pT_1 141 (by decide +kernel) rfl, rfl⟩
theorem km_X7_answer : pLV yX7_answer cX7_answer 2 (some .int) 1 := ⟨pT_3 71 rfl rfl, pT_1 5 (by decide +kernel) rfl, ⟨by decide +kernel, by decide +kernel, by decide +kernel⟩, pT_3 69 (by decide +kernel) rfl, pT_3 70 (by decide +kernel) rfl⟩
theorem km_X7_hasInTitle : pLV yX7_hasInTitle cX7_hasInTitle 2 (some .boolean) 1 := ⟨pT_4 217 rfl rfl, pT_1 5 (by decide +kernel) rfl, ⟨by decide +kernel, by decide +kernel, by decide +kernel⟩, pT_4 215 (by decide +kernel) rfl, pT_4 216 (by decide +kernel) rfl⟩
theorem km_X7_hasMouse : pLV yX7_hasMouse cX7_hasMouse 2 (some .boolean) 1 := ⟨pT_4 59 rfl rfl, pT_1 5 (by decide +kernel) rfl, ⟨by decide +kernel, by decide +kernel, by decide +kernel⟩, pT_4 57 (by decide +kernel) rfl, pT_4 58 (by decide +kernel) rfl⟩
theorem km_X7_heightNow : pLV yX7_heightNow cX7_heightNow 1 (some .int) 0 := ⟨pT_4 64 rfl rfl, pT_1 5 (by decide +kernel) rfl, ⟨by decide +kernel, by decide +kernel, by decide +kernel⟩, pT_4 62 (by decide +kernel) rfl, pT_4 63 (by decide +kernel) rfl⟩
theorem km_X7_moveTo : pLV yX7_moveTo cX7_moveTo 3 none 2 := ⟨pT_4 81 rfl rfl, pT_1 5 (by decide +kernel) rfl, ⟨by decide +kernel, by decide +kernel, by decide +kernel⟩, pT_4 79 (by decide +kernel) rfl, pT_4 80 (by decide +kernel) rfl⟩
theorem km_X7_setInside : pLV yX7_setInside cX7_setInside 2 none 1 := ⟨pT_5 60 rfl rfl, pT_1 5 (by decide +kernel) rfl, ⟨by decide +kernel, by decide +kernel, by decide +kernel⟩, pT_5 58 (by decide +kernel) rfl, pT_5 59 (by decide +kernel) rfl⟩
theorem km_X7_setOutside : pLV yX7_setOutside cX7_setOutside 2 none 1 := ⟨pT_5 11 rfl rfl, pT_1 5 (by decide +kernel) rfl, ⟨by decide +kernel, by decide +kernel, by decide +kernel⟩, pT_5 9 (by decide +kernel) rfl, pT_5 10 (by decide +kernel) rfl⟩
theorem km_X7_tell : pLV yX7_tell cX7_tell 4 none 3 := ⟨pT_4 207 rfl rfl, pT_1 5 (by decide +kernel) rfl, ⟨by decide +kernel, by decide +kernel, by decide +kernel⟩, pT_4 205 (by decide +kernel) rfl, pT_4 206 (by decide +kernel) rfl⟩
theorem km_X8_init : pLI yX8_init cX8_init 2 0 := ⟨pT_2 50 rfl rfl, pT_1 8 (by decide +kernel) rfl, ⟨by decide +kernel, by decide +kernel, by decide +kernel⟩, pT_2 49 (by decide +kernel) rfl, rfl⟩
theorem km_X8_area : pLV yX8_area cX8_area 2 (some (.object "PanelFrames$Area")) 0 := ⟨pT_4 237 rfl rfl, pT_1 8 (by decide +kernel) rfl, ⟨by decide +kernel, by decide +kernel, by decide +kernel⟩, pT_4 235 (by decide +kernel) rfl, pT_4 236 (by decide +kernel) rfl⟩
theorem km_X8_clear : pLV yX8_clear cX8_clear 1 none 0 := ⟨pT_3 183 rfl rfl, pT_1 8 (by decide +kernel) rfl, ⟨by decide +kernel, by decide +kernel, by decide +kernel⟩, pT_3 181 (by decide +kernel) rfl, pT_3 182 (by decide +kernel) rfl⟩
theorem km_X8_drop : pLV yX8_drop cX8_drop 2 none 1 := ⟨pT_5 97 rfl rfl, pT_1 8 (by decide +kernel) rfl, ⟨by decide +kernel, by decide +kernel, by decide +kernel⟩, pT_5 95 (by decide +kernel) rfl, pT_5 96 (by decide +kernel) rfl⟩
theorem km_X8_hasArea : pLS yX8_hasArea cX8_hasArea 1 (some .boolean) 1 := ⟨pT_4 233 rfl rfl, pT_1 8 (by decide +kernel) rfl, ⟨by decide +kernel, by decide +kernel, by decide +kernel⟩, pT_4 232 (by decide +kernel) rfl⟩
theorem km_X8_hasRoom : pLV yX8_hasRoom cX8_hasRoom 1 (some .boolean) 0 := ⟨pT_6 13 rfl rfl, pT_1 8 (by decide +kernel) rfl, ⟨by decide +kernel, by decide +kernel, by decide +kernel⟩, pT_6 11 (by decide +kernel) rfl, pT_6 12 (by decide +kernel) rfl⟩
theorem km_X8_idOf : pLV yX8_idOf cX8_idOf 3 (some .int) 1 := ⟨pT_5 133 rfl rfl, pT_1 8 (by decide +kernel) rfl, ⟨by decide +kernel, by decide +kernel, by decide +kernel⟩, pT_5 131 (by decide +kernel) rfl, pT_5 132 (by decide +kernel) rfl⟩
theorem km_X8_put : pLV yX8_put cX8_put 3 none 2 := ⟨pT_4 230 rfl rfl, pT_1 8 (by decide +kernel) rfl, ⟨by decide +kernel, by decide +kernel, by decide +kernel⟩, pT_4 228 (by decide +kernel) rfl, pT_4 229 (by decide +kernel) rfl⟩
theorem km_X8_topId : pLV yX8_topId cX8_topId 1 (some .int) 0 := ⟨pT_5 137 rfl rfl, pT_1 8 (by decide +kernel) rfl, ⟨by decide +kernel, by decide +kernel, by decide +kernel⟩, pT_5 135 (by decide +kernel) rfl, pT_5 136 (by decide +kernel) rfl⟩
theorem km_X8_topKind : pLV yX8_topKind cX8_topKind 1 (some .int) 0 := ⟨pT_5 93 rfl rfl, pT_1 8 (by decide +kernel) rfl, ⟨by decide +kernel, by decide +kernel, by decide +kernel⟩, pT_5 91 (by decide +kernel) rfl, pT_5 92 (by decide +kernel) rfl⟩
theorem km_X9_init : pLI yX9_init cX9_init 1 0 := ⟨pT_2 195 rfl rfl, pT_1 12 (by decide +kernel) rfl, ⟨by decide +kernel, by decide +kernel, by decide +kernel⟩, pT_2 194 (by decide +kernel) rfl, rfl⟩
theorem km_X9_addCommand : pLV yX9_addCommand cX9_addCommand 5 none 3 := ⟨pT_5 48 rfl rfl, pT_1 12 (by decide +kernel) rfl, ⟨by decide +kernel, by decide +kernel, by decide +kernel⟩, pT_5 46 (by decide +kernel) rfl, pT_5 47 (by decide +kernel) rfl⟩
theorem km_X9_addQuad : pLV yX9_addQuad cX9_addQuad 5 none 3 := ⟨pT_5 56 rfl rfl, pT_1 12 (by decide +kernel) rfl, ⟨by decide +kernel, by decide +kernel, by decide +kernel⟩, pT_5 54 (by decide +kernel) rfl, pT_5 55 (by decide +kernel) rfl⟩
theorem km_X9_addToLast : pLV yX9_addToLast cX9_addToLast 2 none 0 := ⟨pT_5 52 rfl rfl, pT_1 12 (by decide +kernel) rfl, ⟨by decide +kernel, by decide +kernel, by decide +kernel⟩, pT_5 50 (by decide +kernel) rfl, pT_5 51 (by decide +kernel) rfl⟩
theorem km_X9_append : pLV yX9_append cX9_append 5 none 2 := ⟨pT_4 139 rfl rfl, pT_1 12 (by decide +kernel) rfl, ⟨by decide +kernel, by decide +kernel, by decide +kernel⟩, pT_4 137 (by decide +kernel) rfl, pT_4 138 (by decide +kernel) rfl⟩
theorem km_X9_clear : pLV yX9_clear cX9_clear 1 none 0 := ⟨pT_4 100 rfl rfl, pT_1 12 (by decide +kernel) rfl, ⟨by decide +kernel, by decide +kernel, by decide +kernel⟩, pT_4 98 (by decide +kernel) rfl, pT_4 99 (by decide +kernel) rfl⟩
theorem km_X9_commandPart : pLV yX9_commandPart cX9_commandPart 3 (some .int) 2 := ⟨pT_3 115 rfl rfl, pT_1 12 (by decide +kernel) rfl, ⟨by decide +kernel, by decide +kernel, by decide +kernel⟩, pT_3 113 (by decide +kernel) rfl, pT_3 114 (by decide +kernel) rfl⟩
theorem km_X9_draw : pLV yX9_draw cX9_draw 7 none 4 := ⟨pT_5 28 rfl rfl, pT_1 12 (by decide +kernel) rfl, ⟨by decide +kernel, by decide +kernel, by decide +kernel⟩, pT_5 26 (by decide +kernel) rfl, pT_5 27 (by decide +kernel) rfl⟩
theorem km_X9_fitsLast : pLV yX9_fitsLast cX9_fitsLast 4 (some .boolean) 3 := ⟨pT_5 44 rfl rfl, pT_1 12 (by decide +kernel) rfl, ⟨by decide +kernel, by decide +kernel, by decide +kernel⟩, pT_5 42 (by decide +kernel) rfl, pT_5 43 (by decide +kernel) rfl⟩
theorem km_X9_holds : pLV yX9_holds cX9_holds 2 (some .boolean) 1 := ⟨pT_4 143 rfl rfl, pT_1 12 (by decide +kernel) rfl, ⟨by decide +kernel, by decide +kernel, by decide +kernel⟩, pT_4 141 (by decide +kernel) rfl, pT_4 142 (by decide +kernel) rfl⟩
theorem km_X9_indexAt : pLV yX9_indexAt cX9_indexAt 4 (some .int) 2 := ⟨pT_3 128 rfl rfl, pT_1 12 (by decide +kernel) rfl, ⟨by decide +kernel, by decide +kernel, by decide +kernel⟩, pT_3 126 (by decide +kernel) rfl, pT_3 127 (by decide +kernel) rfl⟩
theorem km_X9_lastPart : pLV yX9_lastPart cX9_lastPart 2 (some .int) 1 := ⟨pT_5 40 rfl rfl, pT_1 12 (by decide +kernel) rfl, ⟨by decide +kernel, by decide +kernel, by decide +kernel⟩, pT_5 38 (by decide +kernel) rfl, pT_5 39 (by decide +kernel) rfl⟩
theorem km_X9_offsetFor : pLV yX9_offsetFor cX9_offsetFor 3 (some .int) 1 := ⟨pT_5 36 rfl rfl, pT_1 12 (by decide +kernel) rfl, ⟨by decide +kernel, by decide +kernel, by decide +kernel⟩, pT_5 34 (by decide +kernel) rfl, pT_5 35 (by decide +kernel) rfl⟩
theorem km_X9_partAt : pLV yX9_partAt cX9_partAt 2 (some .int) 1 := ⟨pT_3 120 rfl rfl, pT_1 12 (by decide +kernel) rfl, ⟨by decide +kernel, by decide +kernel, by decide +kernel⟩, pT_3 118 (by decide +kernel) rfl, pT_3 119 (by decide +kernel) rfl⟩
theorem km_X9_quadPart : pLV yX9_quadPart cX9_quadPart 6 (some .int) 3 := ⟨pT_3 132 rfl rfl, pT_1 12 (by decide +kernel) rfl, ⟨by decide +kernel, by decide +kernel, by decide +kernel⟩, pT_3 130 (by decide +kernel) rfl, pT_3 131 (by decide +kernel) rfl⟩
theorem km_X9_shiftCommands : pLV yX9_shiftCommands cX9_shiftCommands 4 none 1 := ⟨pT_4 168 rfl rfl, pT_1 12 (by decide +kernel) rfl, ⟨by decide +kernel, by decide +kernel, by decide +kernel⟩, pT_4 166 (by decide +kernel) rfl, pT_4 167 (by decide +kernel) rfl⟩
theorem km_X9_startList : pLV yX9_startList cX9_startList 1 none 0 := ⟨pT_4 104 rfl rfl, pT_1 12 (by decide +kernel) rfl, ⟨by decide +kernel, by decide +kernel, by decide +kernel⟩, pT_4 102 (by decide +kernel) rfl, pT_4 103 (by decide +kernel) rfl⟩
theorem km_X9_vertexPart : pLV yX9_vertexPart cX9_vertexPart 4 (some .int) 3 := ⟨pT_3 142 rfl rfl, pT_1 12 (by decide +kernel) rfl, ⟨by decide +kernel, by decide +kernel, by decide +kernel⟩, pT_3 140 (by decide +kernel) rfl, pT_3 141 (by decide +kernel) rfl⟩
theorem km_X9_withRoom : pLS yX9_withRoom cX9_withRoom 2 (some (.array .int)) 2 := ⟨pT_4 146 rfl rfl, pT_1 12 (by decide +kernel) rfl, ⟨by decide +kernel, by decide +kernel, by decide +kernel⟩, pT_4 145 (by decide +kernel) rfl⟩
theorem km_X10_init : pLI yX10_init cX10_init 1 0 := ⟨pT_2 169 rfl rfl, pT_1 11 (by decide +kernel) rfl, ⟨by decide +kernel, by decide +kernel, by decide +kernel⟩, pT_2 168 (by decide +kernel) rfl, rfl⟩
theorem km_X10_caretOf : pLV yX10_caretOf cX10_caretOf 3 (some .int) 1 := ⟨pT_3 96 rfl rfl, pT_1 11 (by decide +kernel) rfl, ⟨by decide +kernel, by decide +kernel, by decide +kernel⟩, pT_3 94 (by decide +kernel) rfl, pT_3 95 (by decide +kernel) rfl⟩
theorem km_X10_claim : pLV yX10_claim cX10_claim 3 (some .int) 1 := ⟨pT_5 199 rfl rfl, pT_1 11 (by decide +kernel) rfl, ⟨by decide +kernel, by decide +kernel, by decide +kernel⟩, pT_5 197 (by decide +kernel) rfl, pT_5 198 (by decide +kernel) rfl⟩
theorem km_X10_edit : pLV yX10_edit cX10_edit 5 none 2 := ⟨pT_5 224 rfl rfl, pT_1 11 (by decide +kernel) rfl, ⟨by decide +kernel, by decide +kernel, by decide +kernel⟩, pT_5 222 (by decide +kernel) rfl, pT_5 223 (by decide +kernel) rfl⟩
theorem km_X10_find : pLV yX10_find cX10_find 3 (some .int) 1 := ⟨pT_3 84 rfl rfl, pT_1 11 (by decide +kernel) rfl, ⟨by decide +kernel, by decide +kernel, by decide +kernel⟩, pT_3 82 (by decide +kernel) rfl, pT_3 83 (by decide +kernel) rfl⟩
theorem km_X10_insert : pLV yX10_insert cX10_insert 6 none 2 := ⟨pT_5 238 rfl rfl, pT_1 11 (by decide +kernel) rfl, ⟨by decide +kernel, by decide +kernel, by decide +kernel⟩, pT_5 236 (by decide +kernel) rfl, pT_5 237 (by decide +kernel) rfl⟩
theorem km_X10_isSlot : pLS yX10_isSlot cX10_isSlot 1 (some .boolean) 1 := ⟨pT_3 87 rfl rfl, pT_1 11 (by decide +kernel) rfl, ⟨by decide +kernel, by decide +kernel, by decide +kernel⟩, pT_3 86 (by decide +kernel) rfl⟩
theorem km_X10_lengthOf : pLV yX10_lengthOf cX10_lengthOf 3 (some .int) 1 := ⟨pT_6 2 rfl rfl, pT_1 11 (by decide +kernel) rfl, ⟨by decide +kernel, by decide +kernel, by decide +kernel⟩, pT_6 0 (by decide +kernel) rfl, pT_6 1 (by decide +kernel) rfl⟩
theorem km_X10_letterOf : pLV yX10_letterOf cX10_letterOf 4 (some .int) 2 := ⟨pT_3 100 rfl rfl, pT_1 11 (by decide +kernel) rfl, ⟨by decide +kernel, by decide +kernel, by decide +kernel⟩, pT_3 98 (by decide +kernel) rfl, pT_3 99 (by decide +kernel) rfl⟩
theorem km_X10_moveCaret : pLV yX10_moveCaret cX10_moveCaret 3 none 2 := ⟨pT_5 228 rfl rfl, pT_1 11 (by decide +kernel) rfl, ⟨by decide +kernel, by decide +kernel, by decide +kernel⟩, pT_5 226 (by decide +kernel) rfl, pT_5 227 (by decide +kernel) rfl⟩
theorem km_X10_numberOf : pLV yX10_numberOf cX10_numberOf 3 (some .int) 1 := ⟨pT_3 80 rfl rfl, pT_1 11 (by decide +kernel) rfl, ⟨by decide +kernel, by decide +kernel, by decide +kernel⟩, pT_3 78 (by decide +kernel) rfl, pT_3 79 (by decide +kernel) rfl⟩
theorem km_X10_setNumber : pLV yX10_setNumber cX10_setNumber 4 none 2 := ⟨pT_5 195 rfl rfl, pT_1 11 (by decide +kernel) rfl, ⟨by decide +kernel, by decide +kernel, by decide +kernel⟩, pT_5 193 (by decide +kernel) rfl, pT_5 194 (by decide +kernel) rfl⟩
theorem km_X10_takeLetterBack : pLV yX10_takeLetterBack cX10_takeLetterBack 5 none 1 := ⟨pT_5 233 rfl rfl, pT_1 11 (by decide +kernel) rfl, ⟨by decide +kernel, by decide +kernel, by decide +kernel⟩, pT_5 231 (by decide +kernel) rfl, pT_5 232 (by decide +kernel) rfl⟩
theorem km_X10_toggle : pLV yX10_toggle cX10_toggle 2 none 1 := ⟨pT_5 190 rfl rfl, pT_1 11 (by decide +kernel) rfl, ⟨by decide +kernel, by decide +kernel, by decide +kernel⟩, pT_5 188 (by decide +kernel) rfl, pT_5 189 (by decide +kernel) rfl⟩
theorem km_X12_init : pLI yX12_init cX12_init 2 0 := ⟨pT_6 70 rfl rfl, pT_1 13 (by decide +kernel) rfl, ⟨by decide +kernel, by decide +kernel, by decide +kernel⟩, pT_6 69 (by decide +kernel) rfl, rfl⟩
theorem km_X12_area : pLV yX12_area cX12_area 4 (some .int) 2 := ⟨pT_7 206 rfl rfl, pT_1 13 (by decide +kernel) rfl, ⟨by decide +kernel, by decide +kernel, by decide +kernel⟩, pT_7 205 (by decide +kernel) rfl, pT_at 34 (by decide +kernel) rfl⟩
theorem km_X12_bars : pLV yX12_bars cX12_bars 2 (some .boolean) 1 := ⟨pT_8 14 rfl rfl, pT_1 13 (by decide +kernel) rfl, ⟨by decide +kernel, by decide +kernel, by decide +kernel⟩, pT_8 13 (by decide +kernel) rfl, pT_at 41 (by decide +kernel) rfl⟩
theorem km_X12_begin : pLV yX12_begin cX12_begin 3 (some .int) 0 := ⟨pT_7 125 rfl rfl, pT_1 13 (by decide +kernel) rfl, ⟨by decide +kernel, by decide +kernel, by decide +kernel⟩, pT_7 123 (by decide +kernel) rfl, pT_7 124 (by decide +kernel) rfl⟩
theorem km_X12_behaves : pLV yX12_behaves cX12_behaves 8 (some .boolean) 1 := ⟨pT_8 34 rfl rfl, pT_1 13 (by decide +kernel) rfl, ⟨by decide +kernel, by decide +kernel, by decide +kernel⟩, pT_8 33 (by decide +kernel) rfl, pT_at 46 (by decide +kernel) rfl⟩
theorem km_X12_between : pLS yX12_between cX12_between 3 (some .int) 3 := ⟨pT_7 199 rfl rfl, pT_1 13 (by decide +kernel) rfl, ⟨by decide +kernel, by decide +kernel, by decide +kernel⟩, pT_7 198 (by decide +kernel) rfl⟩
theorem km_X12_breaks : pLV yX12_breaks cX12_breaks 1 (some .int) 0 := ⟨pT_7 129 rfl rfl, pT_1 13 (by decide +kernel) rfl, ⟨by decide +kernel, by decide +kernel, by decide +kernel⟩, pT_7 128 (by decide +kernel) rfl, pT_at 19 (by decide +kernel) rfl⟩
theorem km_X12_button : pLV yX12_button cX12_button 5 (some .boolean) 2 := ⟨pT_8 10 rfl rfl, pT_1 13 (by decide +kernel) rfl, ⟨by decide +kernel, by decide +kernel, by decide +kernel⟩, pT_8 8 (by decide +kernel) rfl, pT_8 9 (by decide +kernel) rfl⟩
theorem km_X12_check : pLV yX12_check cX12_check 3 (some .int) 1 := ⟨pT_8 50 rfl rfl, pT_1 13 (by decide +kernel) rfl, ⟨by decide +kernel, by decide +kernel, by decide +kernel⟩, pT_8 48 (by decide +kernel) rfl, pT_8 49 (by decide +kernel) rfl⟩
theorem km_X12_child : pLV yX12_child cX12_child 7 none 3 := ⟨pT_8 86 rfl rfl, pT_1 13 (by decide +kernel) rfl, ⟨by decide +kernel, by decide +kernel, by decide +kernel⟩, pT_8 84 (by decide +kernel) rfl, pT_8 85 (by decide +kernel) rfl⟩
theorem km_X12_close : pLV yX12_close cX12_close 4 (some .int) 0 := ⟨pT_8 2 rfl rfl, pT_1 13 (by decide +kernel) rfl, ⟨by decide +kernel, by decide +kernel, by decide +kernel⟩, pT_8 0 (by decide +kernel) rfl, pT_8 1 (by decide +kernel) rfl⟩
theorem km_X12_command : pLV yX12_command cX12_command 5 (some .int) 2 := ⟨pT_8 122 rfl rfl, pT_1 13 (by decide +kernel) rfl, ⟨by decide +kernel, by decide +kernel, by decide +kernel⟩, pT_8 120 (by decide +kernel) rfl, pT_8 121 (by decide +kernel) rfl⟩
theorem km_X12_copyList : pLV yX12_copyList cX12_copyList 4 none 1 := ⟨pT_7 173 rfl rfl, pT_1 13 (by decide +kernel) rfl, ⟨by decide +kernel, by decide +kernel, by decide +kernel⟩, pT_7 172 (by decide +kernel) rfl, pT_at 29 (by decide +kernel) rfl⟩
theorem km_X12_digits : pLV yX12_digits cX12_digits 4 none 1 := ⟨pT_8 46 rfl rfl, pT_1 13 (by decide +kernel) rfl, ⟨by decide +kernel, by decide +kernel, by decide +kernel⟩, pT_8 45 (by decide +kernel) rfl, pT_at 49 (by decide +kernel) rfl⟩
theorem km_X12_dismiss : pLV yX12_dismiss cX12_dismiss 2 (some .boolean) 0 := ⟨pT_7 238 rfl rfl, pT_1 13 (by decide +kernel) rfl, ⟨by decide +kernel, by decide +kernel, by decide +kernel⟩, pT_7 236 (by decide +kernel) rfl, pT_7 237 (by decide +kernel) rfl⟩
theorem km_X12_drawn : pLV yX12_drawn cX12_drawn 2 (some .int) 1 := ⟨pT_8 118 rfl rfl, pT_1 13 (by decide +kernel) rfl, ⟨by decide +kernel, by decide +kernel, by decide +kernel⟩, pT_8 116 (by decide +kernel) rfl, pT_8 117 (by decide +kernel) rfl⟩
theorem km_X12_drawnCount : pLV yX12_drawnCount cX12_drawnCount 2 (some .int) 1 := ⟨pT_7 177 rfl rfl, pT_1 13 (by decide +kernel) rfl, ⟨by decide +kernel, by decide +kernel, by decide +kernel⟩, pT_7 176 (by decide +kernel) rfl, pT_at 30 (by decide +kernel) rfl⟩
theorem km_X12_edit : pLV yX12_edit cX12_edit 5 none 1 := ⟨pT_8 78 rfl rfl, pT_1 13 (by decide +kernel) rfl, ⟨by decide +kernel, by decide +kernel, by decide +kernel⟩, pT_8 77 (by decide +kernel) rfl, pT_at 54 (by decide +kernel) rfl⟩
theorem km_X12_end : pLV yX12_end cX12_end 3 (some .int) 0 := ⟨pT_7 161 rfl rfl, pT_1 13 (by decide +kernel) rfl, ⟨by decide +kernel, by decide +kernel, by decide +kernel⟩, pT_7 159 (by decide +kernel) rfl, pT_7 160 (by decide +kernel) rfl⟩
theorem km_X12_event : pLV yX12_event cX12_event 5 (some .boolean) 4 := ⟨pT_7 105 rfl rfl, pT_1 13 (by decide +kernel) rfl, ⟨by decide +kernel, by decide +kernel, by decide +kernel⟩, pT_7 104 (by decide +kernel) rfl, pT_at 18 (by decide +kernel) rfl⟩
theorem km_X12_fails : pLV yX12_fails cX12_fails 3 (some .int) 1 := ⟨pT_7 133 rfl rfl, pT_1 13 (by decide +kernel) rfl, ⟨by decide +kernel, by decide +kernel, by decide +kernel⟩, pT_7 132 (by decide +kernel) rfl, pT_at 20 (by decide +kernel) rfl⟩
theorem km_X12_field : pLV yX12_field cX12_field 7 (some .int) 2 := ⟨pT_8 74 rfl rfl, pT_1 13 (by decide +kernel) rfl, ⟨by decide +kernel, by decide +kernel, by decide +kernel⟩, pT_8 72 (by decide +kernel) rfl, pT_8 73 (by decide +kernel) rfl⟩
theorem km_X12_find : pLV yX12_find cX12_find 3 (some .int) 1 := ⟨pT_8 58 rfl rfl, pT_1 13 (by decide +kernel) rfl, ⟨by decide +kernel, by decide +kernel, by decide +kernel⟩, pT_8 57 (by decide +kernel) rfl, pT_at 51 (by decide +kernel) rfl⟩
theorem km_X12_findWindow : pLV yX12_findWindow cX12_findWindow 2 none 0 := ⟨pT_7 145 rfl rfl, pT_1 13 (by decide +kernel) rfl, ⟨by decide +kernel, by decide +kernel, by decide +kernel⟩, pT_7 144 (by decide +kernel) rfl, pT_at 23 (by decide +kernel) rfl⟩
theorem km_X12_give : pLV yX12_give cX12_give 2 none 1 := ⟨pT_7 165 rfl rfl, pT_1 13 (by decide +kernel) rfl, ⟨by decide +kernel, by decide +kernel, by decide +kernel⟩, pT_7 164 (by decide +kernel) rfl, pT_at 27 (by decide +kernel) rfl⟩
theorem km_X12_group : pLV yX12_group cX12_group 6 none 0 := ⟨pT_8 94 rfl rfl, pT_1 13 (by decide +kernel) rfl, ⟨by decide +kernel, by decide +kernel, by decide +kernel⟩, pT_8 92 (by decide +kernel) rfl, pT_8 93 (by decide +kernel) rfl⟩
theorem km_X12_hasBehaved : pLV yX12_hasBehaved cX12_hasBehaved 4 (some .boolean) 1 := ⟨pT_8 38 rfl rfl, pT_1 13 (by decide +kernel) rfl, ⟨by decide +kernel, by decide +kernel, by decide +kernel⟩, pT_8 37 (by decide +kernel) rfl, pT_at 47 (by decide +kernel) rfl⟩
theorem km_X12_hasMouse : pLV yX12_hasMouse cX12_hasMouse 2 (some .boolean) 1 := ⟨pT_7 149 rfl rfl, pT_1 13 (by decide +kernel) rfl, ⟨by decide +kernel, by decide +kernel, by decide +kernel⟩, pT_7 148 (by decide +kernel) rfl, pT_at 24 (by decide +kernel) rfl⟩
theorem km_X12_height : pLV yX12_height cX12_height 2 (some .int) 1 := ⟨pT_7 153 rfl rfl, pT_1 13 (by decide +kernel) rfl, ⟨by decide +kernel, by decide +kernel, by decide +kernel⟩, pT_7 152 (by decide +kernel) rfl, pT_at 25 (by decide +kernel) rfl⟩
theorem km_X12_idOf : pLV yX12_idOf cX12_idOf 3 (some .int) 1 := ⟨pT_8 30 rfl rfl, pT_1 13 (by decide +kernel) rfl, ⟨by decide +kernel, by decide +kernel, by decide +kernel⟩, pT_8 29 (by decide +kernel) rfl, pT_at 45 (by decide +kernel) rfl⟩
theorem km_X12_index : pLV yX12_index cX12_index 3 (some .int) 1 := ⟨pT_8 126 rfl rfl, pT_1 13 (by decide +kernel) rfl, ⟨by decide +kernel, by decide +kernel, by decide +kernel⟩, pT_8 124 (by decide +kernel) rfl, pT_8 125 (by decide +kernel) rfl⟩
theorem km_X12_isIn : pLV yX12_isIn cX12_isIn 7 (some .boolean) 6 := ⟨pT_7 157 rfl rfl, pT_1 13 (by decide +kernel) rfl, ⟨by decide +kernel, by decide +kernel, by decide +kernel⟩, pT_7 156 (by decide +kernel) rfl, pT_at 26 (by decide +kernel) rfl⟩
theorem km_X12_isLabel : pLV yX12_isLabel cX12_isLabel 2 (some .boolean) 1 := ⟨pT_7 230 rfl rfl, pT_1 13 (by decide +kernel) rfl, ⟨by decide +kernel, by decide +kernel, by decide +kernel⟩, pT_7 229 (by decide +kernel) rfl, pT_at 39 (by decide +kernel) rfl⟩
theorem km_X12_keep : pLV yX12_keep cX12_keep 4 none 2 := ⟨pT_8 62 rfl rfl, pT_1 13 (by decide +kernel) rfl, ⟨by decide +kernel, by decide +kernel, by decide +kernel⟩, pT_8 61 (by decide +kernel) rfl, pT_at 52 (by decide +kernel) rfl⟩
theorem km_X12_kept : pLV yX12_kept cX12_kept 2 (some .int) 1 := ⟨pT_8 110 rfl rfl, pT_1 13 (by decide +kernel) rfl, ⟨by decide +kernel, by decide +kernel, by decide +kernel⟩, pT_8 108 (by decide +kernel) rfl, pT_8 109 (by decide +kernel) rfl⟩
theorem km_X12_key : pLV yX12_key cX12_key 3 (some .boolean) 2 := ⟨pT_7 117 rfl rfl, pT_1 13 (by decide +kernel) rfl, ⟨by decide +kernel, by decide +kernel, by decide +kernel⟩, pT_7 115 (by decide +kernel) rfl, pT_7 116 (by decide +kernel) rfl⟩
theorem km_X12_lay : pLV yX12_lay cX12_lay 7 (some .int) 3 := ⟨pT_8 18 rfl rfl, pT_1 13 (by decide +kernel) rfl, ⟨by decide +kernel, by decide +kernel, by decide +kernel⟩, pT_8 17 (by decide +kernel) rfl, pT_at 42 (by decide +kernel) rfl⟩
theorem km_X12_letter : pLV yX12_letter cX12_letter 2 (some .boolean) 1 := ⟨pT_7 121 rfl rfl, pT_1 13 (by decide +kernel) rfl, ⟨by decide +kernel, by decide +kernel, by decide +kernel⟩, pT_7 119 (by decide +kernel) rfl, pT_7 120 (by decide +kernel) rfl⟩
theorem km_X12_look : pLV yX12_look cX12_look 2 (some .int) 1 := ⟨pT_8 102 rfl rfl, pT_1 13 (by decide +kernel) rfl, ⟨by decide +kernel, by decide +kernel, by decide +kernel⟩, pT_8 100 (by decide +kernel) rfl, pT_8 101 (by decide +kernel) rfl⟩
theorem km_X12_made : pLV yX12_made cX12_made 3 (some .int) 1 := ⟨pT_8 66 rfl rfl, pT_1 13 (by decide +kernel) rfl, ⟨by decide +kernel, by decide +kernel, by decide +kernel⟩, pT_8 65 (by decide +kernel) rfl, pT_at 53 (by decide +kernel) rfl⟩
theorem km_X12_max : pLS yX12_max cX12_max 2 (some .int) 2 := ⟨pT_7 196 rfl rfl, pT_1 13 (by decide +kernel) rfl, ⟨by decide +kernel, by decide +kernel, by decide +kernel⟩, pT_7 195 (by decide +kernel) rfl⟩
theorem km_X12_min : pLS yX12_min cX12_min 2 (some .int) 2 := ⟨pT_7 202 rfl rfl, pT_1 13 (by decide +kernel) rfl, ⟨by decide +kernel, by decide +kernel, by decide +kernel⟩, pT_7 201 (by decide +kernel) rfl⟩
theorem km_X12_near : pLV yX12_near cX12_near 1 none 0 := ⟨pT_8 98 rfl rfl, pT_1 13 (by decide +kernel) rfl, ⟨by decide +kernel, by decide +kernel, by decide +kernel⟩, pT_8 96 (by decide +kernel) rfl, pT_8 97 (by decide +kernel) rfl⟩
theorem km_X12_nextX : pLV yX12_nextX cX12_nextX 2 (some .int) 1 := ⟨pT_8 22 rfl rfl, pT_1 13 (by decide +kernel) rfl, ⟨by decide +kernel, by decide +kernel, by decide +kernel⟩, pT_8 21 (by decide +kernel) rfl, pT_at 43 (by decide +kernel) rfl⟩
theorem km_X12_nextY : pLV yX12_nextY cX12_nextY 2 (some .int) 1 := ⟨pT_8 26 rfl rfl, pT_1 13 (by decide +kernel) rfl, ⟨by decide +kernel, by decide +kernel, by decide +kernel⟩, pT_8 25 (by decide +kernel) rfl, pT_at 44 (by decide +kernel) rfl⟩
theorem km_X12_numberOf : pLV yX12_numberOf cX12_numberOf 2 (some .int) 1 := ⟨pT_8 54 rfl rfl, pT_1 13 (by decide +kernel) rfl, ⟨by decide +kernel, by decide +kernel, by decide +kernel⟩, pT_8 53 (by decide +kernel) rfl, pT_at 50 (by decide +kernel) rfl⟩
theorem km_X12_open : pLV yX12_open cX12_open 2 (some .boolean) 1 := ⟨pT_7 226 rfl rfl, pT_1 13 (by decide +kernel) rfl, ⟨by decide +kernel, by decide +kernel, by decide +kernel⟩, pT_7 224 (by decide +kernel) rfl, pT_7 225 (by decide +kernel) rfl⟩
theorem km_X12_openThing : pLV yX12_openThing cX12_openThing 5 none 3 := ⟨pT_7 210 rfl rfl, pT_1 13 (by decide +kernel) rfl, ⟨by decide +kernel, by decide +kernel, by decide +kernel⟩, pT_7 209 (by decide +kernel) rfl, pT_at 35 (by decide +kernel) rfl⟩
theorem km_X12_place : pLV yX12_place cX12_place 3 (some .int) 2 := ⟨pT_8 106 rfl rfl, pT_1 13 (by decide +kernel) rfl, ⟨by decide +kernel, by decide +kernel, by decide +kernel⟩, pT_8 104 (by decide +kernel) rfl, pT_8 105 (by decide +kernel) rfl⟩
theorem km_X12_point : pLV yX12_point cX12_point 3 (some .boolean) 2 := ⟨pT_7 101 rfl rfl, pT_1 13 (by decide +kernel) rfl, ⟨by decide +kernel, by decide +kernel, by decide +kernel⟩, pT_7 99 (by decide +kernel) rfl, pT_7 100 (by decide +kernel) rfl⟩
theorem km_X12_popup : pLV yX12_popup cX12_popup 4 (some .boolean) 3 := ⟨pT_7 234 rfl rfl, pT_1 13 (by decide +kernel) rfl, ⟨by decide +kernel, by decide +kernel, by decide +kernel⟩, pT_7 232 (by decide +kernel) rfl, pT_7 233 (by decide +kernel) rfl⟩
theorem km_X12_press : pLV yX12_press cX12_press 2 (some .boolean) 1 := ⟨pT_7 109 rfl rfl, pT_1 13 (by decide +kernel) rfl, ⟨by decide +kernel, by decide +kernel, by decide +kernel⟩, pT_7 107 (by decide +kernel) rfl, pT_7 108 (by decide +kernel) rfl⟩
theorem km_X12_push : pLV yX12_push cX12_push 2 none 1 := ⟨pT_7 214 rfl rfl, pT_1 13 (by decide +kernel) rfl, ⟨by decide +kernel, by decide +kernel, by decide +kernel⟩, pT_7 213 (by decide +kernel) rfl, pT_at 36 (by decide +kernel) rfl⟩
theorem km_X12_put : pLV yX12_put cX12_put 7 none 6 := ⟨pT_8 6 rfl rfl, pT_1 13 (by decide +kernel) rfl, ⟨by decide +kernel, by decide +kernel, by decide +kernel⟩, pT_8 5 (by decide +kernel) rfl, pT_at 40 (by decide +kernel) rfl⟩
theorem km_X12_quad : pLV yX12_quad cX12_quad 12 none 10 := ⟨pT_7 222 rfl rfl, pT_1 13 (by decide +kernel) rfl, ⟨by decide +kernel, by decide +kernel, by decide +kernel⟩, pT_7 221 (by decide +kernel) rfl, pT_at 38 (by decide +kernel) rfl⟩
theorem km_X12_quadClipped : pLV yX12_quadClipped cX12_quadClipped 7 none 6 := ⟨pT_7 218 rfl rfl, pT_1 13 (by decide +kernel) rfl, ⟨by decide +kernel, by decide +kernel, by decide +kernel⟩, pT_7 217 (by decide +kernel) rfl, pT_at 37 (by decide +kernel) rfl⟩
theorem km_X12_scope : pLV yX12_scope cX12_scope 3 none 1 := ⟨pT_8 90 rfl rfl, pT_1 13 (by decide +kernel) rfl, ⟨by decide +kernel, by decide +kernel, by decide +kernel⟩, pT_8 88 (by decide +kernel) rfl, pT_8 89 (by decide +kernel) rfl⟩
theorem km_X12_shape : pLV yX12_shape cX12_shape 2 none 1 := ⟨pT_8 42 rfl rfl, pT_1 13 (by decide +kernel) rfl, ⟨by decide +kernel, by decide +kernel, by decide +kernel⟩, pT_8 41 (by decide +kernel) rfl, pT_at 48 (by decide +kernel) rfl⟩
theorem km_X12_slider : pLV yX12_slider cX12_slider 7 (some .int) 4 := ⟨pT_8 70 rfl rfl, pT_1 13 (by decide +kernel) rfl, ⟨by decide +kernel, by decide +kernel, by decide +kernel⟩, pT_8 68 (by decide +kernel) rfl, pT_8 69 (by decide +kernel) rfl⟩
theorem km_X12_take : pLV yX12_take cX12_take 5 none 3 := ⟨pT_7 141 rfl rfl, pT_1 13 (by decide +kernel) rfl, ⟨by decide +kernel, by decide +kernel, by decide +kernel⟩, pT_7 140 (by decide +kernel) rfl, pT_at 22 (by decide +kernel) rfl⟩
theorem km_X12_takeAll : pLV yX12_takeAll cX12_takeAll 4 (some .int) 0 := ⟨pT_7 137 rfl rfl, pT_1 13 (by decide +kernel) rfl, ⟨by decide +kernel, by decide +kernel, by decide +kernel⟩, pT_7 136 (by decide +kernel) rfl, pT_at 21 (by decide +kernel) rfl⟩
theorem km_X12_tell : pLV yX12_tell cX12_tell 2 none 1 := ⟨pT_7 193 rfl rfl, pT_1 13 (by decide +kernel) rfl, ⟨by decide +kernel, by decide +kernel, by decide +kernel⟩, pT_7 192 (by decide +kernel) rfl, pT_at 33 (by decide +kernel) rfl⟩
theorem km_X12_tellWindow : pLV yX12_tellWindow cX12_tellWindow 10 none 3 := ⟨pT_7 189 rfl rfl, pT_1 13 (by decide +kernel) rfl, ⟨by decide +kernel, by decide +kernel, by decide +kernel⟩, pT_7 188 (by decide +kernel) rfl, pT_at 32 (by decide +kernel) rfl⟩
theorem km_X12_text : pLV yX12_text cX12_text 4 (some .int) 2 := ⟨pT_8 114 rfl rfl, pT_1 13 (by decide +kernel) rfl, ⟨by decide +kernel, by decide +kernel, by decide +kernel⟩, pT_8 112 (by decide +kernel) rfl, pT_8 113 (by decide +kernel) rfl⟩
theorem km_X12_tree : pLV yX12_tree cX12_tree 7 (some .boolean) 2 := ⟨pT_8 82 rfl rfl, pT_1 13 (by decide +kernel) rfl, ⟨by decide +kernel, by decide +kernel, by decide +kernel⟩, pT_8 80 (by decide +kernel) rfl, pT_8 81 (by decide +kernel) rfl⟩
theorem km_X12_vertex : pLV yX12_vertex cX12_vertex 5 (some .int) 2 := ⟨pT_8 130 rfl rfl, pT_1 13 (by decide +kernel) rfl, ⟨by decide +kernel, by decide +kernel, by decide +kernel⟩, pT_8 128 (by decide +kernel) rfl, pT_8 129 (by decide +kernel) rfl⟩
theorem km_X12_walk : pLV yX12_walk cX12_walk 7 none 1 := ⟨pT_7 181 rfl rfl, pT_1 13 (by decide +kernel) rfl, ⟨by decide +kernel, by decide +kernel, by decide +kernel⟩, pT_7 180 (by decide +kernel) rfl, pT_at 31 (by decide +kernel) rfl⟩
theorem km_X12_wasTold : pLV yX12_wasTold cX12_wasTold 4 (some .boolean) 1 := ⟨pT_7 169 rfl rfl, pT_1 13 (by decide +kernel) rfl, ⟨by decide +kernel, by decide +kernel, by decide +kernel⟩, pT_7 168 (by decide +kernel) rfl, pT_at 28 (by decide +kernel) rfl⟩
theorem km_X12_wheel : pLV yX12_wheel cX12_wheel 2 (some .boolean) 1 := ⟨pT_7 113 rfl rfl, pT_1 13 (by decide +kernel) rfl, ⟨by decide +kernel, by decide +kernel, by decide +kernel⟩, pT_7 111 (by decide +kernel) rfl, pT_7 112 (by decide +kernel) rfl⟩
theorem km_X12_window : pLV yX12_window cX12_window 6 (some .boolean) 5 := ⟨pT_7 185 rfl rfl, pT_1 13 (by decide +kernel) rfl, ⟨by decide +kernel, by decide +kernel, by decide +kernel⟩, pT_7 183 (by decide +kernel) rfl, pT_7 184 (by decide +kernel) rfl⟩
