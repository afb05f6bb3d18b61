/-! the constructors -/
theorem kA_bool : Cond.arrayClass (newarray.typeOf .boolean) ∈ pT := pT_1 130 (by decide +kernel) rfl
theorem kA_long : Cond.arrayClass (newarray.typeOf .long) ∈ pT := pT_8 131 (by decide +kernel) rfl
theorem kO_init : Cond.instanceMethod Lib.objectInit ∈ pT ∧ Cond.code Lib.objectInit ⟨#[0xb1]⟩ 1 none ∈ pT := ⟨pT_1 28 (by decide +kernel) rfl, pT_1 29 (by decide +kernel) rfl⟩
theorem kc_X12 : Cond.constant RX12 168 77000 ∈ pT := pT_6 72 (by decide +kernel) rfl
theorem lkC_X0_9 : Cond.classLink RX0 9 RX2 ∈ pT := pT_2 59 (by decide +kernel) rfl
theorem lkC_X3_9 : Cond.classLink RX3 9 RX7 ∈ pT := pT_1 137 (by decide +kernel) rfl
theorem lkC_X5_9 : Cond.classLink RX5 9 RX4 ∈ pT := pT_1 36 (by decide +kernel) rfl
theorem lkC_X6_21 : Cond.classLink RX6 21 RX2 ∈ pT := pT_1 232 (by decide +kernel) rfl
theorem lkC_X8_18 : Cond.classLink RX8 18 RX0 ∈ pT := pT_2 52 (by decide +kernel) rfl
theorem lkC_X11_7 : Cond.classLink RX11 7 RX5 ∈ pT := pT_1 30 (by decide +kernel) rfl
theorem lkC_X11_16 : Cond.classLink RX11 16 RX3 ∈ pT := pT_1 131 (by decide +kernel) rfl
theorem lkC_X11_23 : Cond.classLink RX11 23 RX6 ∈ pT := pT_1 226 (by decide +kernel) rfl
theorem lkC_X11_30 : Cond.classLink RX11 30 RX8 ∈ pT := pT_2 46 (by decide +kernel) rfl
theorem lkC_X11_37 : Cond.classLink RX11 37 RX1 ∈ pT := pT_2 127 (by decide +kernel) rfl
theorem lkC_X11_44 : Cond.classLink RX11 44 RX10 ∈ pT := pT_2 165 (by decide +kernel) rfl
theorem lkC_X11_51 : Cond.classLink RX11 51 RX9 ∈ pT := pT_2 191 (by decide +kernel) rfl
theorem lkC_X11_61 : Cond.classLink RX11 61 RX2 ∈ pT := pT_2 218 (by decide +kernel) rfl
theorem lkC_L_8 : Cond.classLink RL 8 RX11 ∈ pT := pT_1 22 (by decide +kernel) rfl
theorem lkC_L_69 : Cond.classLink RL 69 RX12 ∈ pT := pT_6 66 (by decide +kernel) rfl
theorem lkO_X11 : Cond.methodLink RX11 1 Lib.objectInit ∈ pT := pT_1 27 (by decide +kernel) rfl
theorem lkO_X0 : Cond.methodLink RX0 3 Lib.objectInit ∈ pT := pT_2 58 (by decide +kernel) rfl
theorem lkO_X1 : Cond.methodLink RX1 3 Lib.objectInit ∈ pT := pT_2 132 (by decide +kernel) rfl
theorem lkO_X2 : Cond.methodLink RX2 3 Lib.objectInit ∈ pT := pT_1 238 (by decide +kernel) rfl
theorem lkO_X3 : Cond.methodLink RX3 3 Lib.objectInit ∈ pT := pT_1 136 (by decide +kernel) rfl
theorem lkO_X4 : Cond.methodLink RX4 1 Lib.objectInit ∈ pT := pT_1 41 (by decide +kernel) rfl
theorem lkO_X5 : Cond.methodLink RX5 3 Lib.objectInit ∈ pT := pT_1 35 (by decide +kernel) rfl
theorem lkO_X6 : Cond.methodLink RX6 3 Lib.objectInit ∈ pT := pT_1 231 (by decide +kernel) rfl
theorem lkO_X7 : Cond.methodLink RX7 3 Lib.objectInit ∈ pT := pT_1 143 (by decide +kernel) rfl
theorem lkO_X8 : Cond.methodLink RX8 3 Lib.objectInit ∈ pT := pT_2 51 (by decide +kernel) rfl
theorem lkO_X9 : Cond.methodLink RX9 3 Lib.objectInit ∈ pT := pT_2 196 (by decide +kernel) rfl
theorem lkO_X10 : Cond.methodLink RX10 3 Lib.objectInit ∈ pT := pT_2 170 (by decide +kernel) rfl
theorem lkO_X12 : Cond.methodLink RX12 1 Lib.objectInit ∈ pT := pT_6 71 (by decide +kernel) rfl
theorem kI_11 : Cond.instantiable RX11 12 ∈ pT := pT_1 23 (by decide +kernel) rfl
theorem kI_5 : Cond.instantiable RX5 16 ∈ pT := pT_1 31 (by decide +kernel) rfl
theorem kI_4 : Cond.instantiable RX4 5 ∈ pT := pT_1 37 (by decide +kernel) rfl
theorem kI_3 : Cond.instantiable RX3 7 ∈ pT := pT_1 132 (by decide +kernel) rfl
theorem kI_7 : Cond.instantiable RX7 14 ∈ pT := pT_1 139 (by decide +kernel) rfl
theorem kI_6 : Cond.instantiable RX6 7 ∈ pT := pT_1 227 (by decide +kernel) rfl
theorem kI_2 : Cond.instantiable RX2 4 ∈ pT := pT_1 234 (by decide +kernel) rfl
theorem kI_8 : Cond.instantiable RX8 6 ∈ pT := pT_2 47 (by decide +kernel) rfl
theorem kI_0 : Cond.instantiable RX0 12 ∈ pT := pT_2 54 (by decide +kernel) rfl
theorem kI_1 : Cond.instantiable RX1 9 ∈ pT := pT_2 128 (by decide +kernel) rfl
theorem kI_10 : Cond.instantiable RX10 6 ∈ pT := pT_2 166 (by decide +kernel) rfl
theorem kI_9 : Cond.instantiable RX9 6 ∈ pT := pT_2 192 (by decide +kernel) rfl
theorem kI_12 : Cond.instantiable RX12 88 ∈ pT := pT_6 67 (by decide +kernel) rfl
theorem ki_0 : Cond.initialized RX0 ∈ pT := pT_1 9 (by decide +kernel) rfl
theorem ki_1 : Cond.initialized RX1 ∈ pT := pT_1 10 (by decide +kernel) rfl
theorem ki_2 : Cond.initialized RX2 ∈ pT := pT_1 7 (by decide +kernel) rfl
theorem ki_3 : Cond.initialized RX3 ∈ pT := pT_1 4 (by decide +kernel) rfl
theorem ki_4 : Cond.initialized RX4 ∈ pT := pT_1 3 (by decide +kernel) rfl
theorem ki_5 : Cond.initialized RX5 ∈ pT := pT_1 2 (by decide +kernel) rfl
theorem ki_6 : Cond.initialized RX6 ∈ pT := pT_1 6 (by decide +kernel) rfl
theorem ki_7 : Cond.initialized RX7 ∈ pT := pT_1 5 (by decide +kernel) rfl
theorem ki_8 : Cond.initialized RX8 ∈ pT := pT_1 8 (by decide +kernel) rfl
theorem ki_9 : Cond.initialized RX9 ∈ pT := pT_1 12 (by decide +kernel) rfl
theorem ki_10 : Cond.initialized RX10 ∈ pT := pT_1 11 (by decide +kernel) rfl
theorem ki_11 : Cond.initialized RX11 ∈ pT := pT_1 1 (by decide +kernel) rfl
theorem ki_12 : Cond.initialized RX12 ∈ pT := pT_1 13 (by decide +kernel) rfl
set_option maxRecDepth 100000 in
theorem fd0 : ∀ j, j < 12 → defaultValue (tyX0 j) = vp_V (pD 0) j := by
  intro j hj
  have h : (List.range 12).all (fun j => decide (defaultValue (tyX0 j) = vp_V (pD 0) j)) = true := by decide +kernel
  exact of_decide_eq_true (List.all_eq_true.mp h j (List.mem_range.mpr hj))
set_option maxRecDepth 100000 in
theorem fd1 : ∀ j, j < 9 → defaultValue (tyX1 j) = vp_V (pD 1) j := by
  intro j hj
  have h : (List.range 9).all (fun j => decide (defaultValue (tyX1 j) = vp_V (pD 1) j)) = true := by decide +kernel
  exact of_decide_eq_true (List.all_eq_true.mp h j (List.mem_range.mpr hj))
set_option maxRecDepth 100000 in
theorem fd2 : ∀ j, j < 4 → defaultValue (tyX2 j) = vp_V (pD 2) j := by
  intro j hj
  have h : (List.range 4).all (fun j => decide (defaultValue (tyX2 j) = vp_V (pD 2) j)) = true := by decide +kernel
  exact of_decide_eq_true (List.all_eq_true.mp h j (List.mem_range.mpr hj))
set_option maxRecDepth 100000 in
theorem fd3 : ∀ j, j < 7 → defaultValue (tyX3 j) = vp_V (pD 3) j := by
  intro j hj
  have h : (List.range 7).all (fun j => decide (defaultValue (tyX3 j) = vp_V (pD 3) j)) = true := by decide +kernel
  exact of_decide_eq_true (List.all_eq_true.mp h j (List.mem_range.mpr hj))
set_option maxRecDepth 100000 in
theorem fd4 : ∀ j, j < 5 → defaultValue (tyX4 j) = vp_V (pD 4) j := by
  intro j hj
  have h : (List.range 5).all (fun j => decide (defaultValue (tyX4 j) = vp_V (pD 4) j)) = true := by decide +kernel
  exact of_decide_eq_true (List.all_eq_true.mp h j (List.mem_range.mpr hj))
set_option maxRecDepth 100000 in
theorem fd5 : ∀ j, j < 16 → defaultValue (tyX5 j) = vp_V (pD 5) j := by
  intro j hj
  have h : (List.range 16).all (fun j => decide (defaultValue (tyX5 j) = vp_V (pD 5) j)) = true := by decide +kernel
  exact of_decide_eq_true (List.all_eq_true.mp h j (List.mem_range.mpr hj))
set_option maxRecDepth 100000 in
theorem fd6 : ∀ j, j < 7 → defaultValue (tyX6 j) = vp_V (pD 6) j := by
  intro j hj
  have h : (List.range 7).all (fun j => decide (defaultValue (tyX6 j) = vp_V (pD 6) j)) = true := by decide +kernel
  exact of_decide_eq_true (List.all_eq_true.mp h j (List.mem_range.mpr hj))
set_option maxRecDepth 100000 in
theorem fd7 : ∀ j, j < 14 → defaultValue (tyX7 j) = vp_V (pD 7) j := by
  intro j hj
  have h : (List.range 14).all (fun j => decide (defaultValue (tyX7 j) = vp_V (pD 7) j)) = true := by decide +kernel
  exact of_decide_eq_true (List.all_eq_true.mp h j (List.mem_range.mpr hj))
set_option maxRecDepth 100000 in
theorem fd8 : ∀ j, j < 6 → defaultValue (tyX8 j) = vp_V (pD 8) j := by
  intro j hj
  have h : (List.range 6).all (fun j => decide (defaultValue (tyX8 j) = vp_V (pD 8) j)) = true := by decide +kernel
  exact of_decide_eq_true (List.all_eq_true.mp h j (List.mem_range.mpr hj))
set_option maxRecDepth 100000 in
theorem fd9 : ∀ j, j < 6 → defaultValue (tyX9 j) = vp_V (pD 9) j := by
  intro j hj
  have h : (List.range 6).all (fun j => decide (defaultValue (tyX9 j) = vp_V (pD 9) j)) = true := by decide +kernel
  exact of_decide_eq_true (List.all_eq_true.mp h j (List.mem_range.mpr hj))
set_option maxRecDepth 100000 in
theorem fd10 : ∀ j, j < 6 → defaultValue (tyX10 j) = vp_V (pD 10) j := by
  intro j hj
  have h : (List.range 6).all (fun j => decide (defaultValue (tyX10 j) = vp_V (pD 10) j)) = true := by decide +kernel
  exact of_decide_eq_true (List.all_eq_true.mp h j (List.mem_range.mpr hj))
set_option maxRecDepth 100000 in
theorem fd11 : ∀ j, j < 12 → defaultValue (tyX11 j) = vp_V (pD 11) j := by
  intro j hj
  have h : (List.range 12).all (fun j => decide (defaultValue (tyX11 j) = vp_V (pD 11) j)) = true := by decide +kernel
  exact of_decide_eq_true (List.all_eq_true.mp h j (List.mem_range.mpr hj))
set_option maxRecDepth 100000 in
theorem fd12 : ∀ j, j < 88 → defaultValue (tyX12 j) = vp_V (pD 12) j := by
  intro j hj
  have h : (List.range 88).all (fun j => decide (defaultValue (tyX12 j) = vp_V (pD 12) j)) = true := by decide +kernel
  exact of_decide_eq_true (List.all_eq_true.mp h j (List.mem_range.mpr hj))
