theorem clamp_s {q v : Int32} (h0 : 0 ≤ q.toInt) (hv : v.toInt = q.toInt + 1) : v.toNatClampNeg = q.toNatClampNeg + 1 := by
  have c1 := pi_cl h0
  have c2 := pi_cl (x := v) (by omega)
  omega
theorem clamp_m {q u : Int32} (h0 : 0 ≤ q.toInt) (hu : u.toInt = 11 * q.toInt) : u.toNatClampNeg = 11 * q.toNatClampNeg := by
  have c1 := pi_cl h0
  have c2 := pi_cl (x := u) (by omega)
  omega
theorem clamp_lt {q n : Int32} (h0 : 0 ≤ q.toInt) (h : q.toInt < n.toInt) : ∃ d, n.toNatClampNeg = q.toNatClampNeg + 1 + d := by
  have c1 := pi_cl h0
  have c2 := pi_cl (x := n) (by omega)
  exact ⟨n.toNatClampNeg - (q.toNatClampNeg + 1), by omega⟩
theorem cntW_n {qd : Nat → Int32} {w q v : Int32} (h0 : 0 ≤ q.toInt) (hv : v.toInt = q.toInt + 1) (hne : ¬ qd (11 * q.toNatClampNeg) = w) : cntW qd w v.toNatClampNeg = cntW qd w q.toNatClampNeg := by
  rw [clamp_s h0 hv]
  show _ + (if qd (11 * q.toNatClampNeg) = w then (1 : Int) else 0) = _
  rw [if_neg hne]; omega
theorem cntW_y {qd : Nat → Int32} {w q v : Int32} (h0 : 0 ≤ q.toInt) (hv : v.toInt = q.toInt + 1) (he : qd (11 * q.toNatClampNeg) = w) : cntW qd w v.toNatClampNeg = cntW qd w q.toNatClampNeg + 1 := by
  rw [clamp_s h0 hv]
  show _ + (if qd (11 * q.toNatClampNeg) = w then (1 : Int) else 0) = _
  rw [if_pos he]
/-- a quad of the window's is still to come: one less than all are counted -/
theorem cntW_lt {qd : Nat → Int32} {w q n : Int32} (h0 : 0 ≤ q.toInt) (h : q.toInt < n.toInt) (he : qd (11 * q.toNatClampNeg) = w) : cntW qd w q.toNatClampNeg + 1 ≤ cntW qd w n.toNatClampNeg := by
  obtain ⟨d, hd⟩ := clamp_lt h0 h
  have h1 := cntW_mono qd w (q.toNatClampNeg + 1) d
  rw [← hd] at h1
  have h2 : cntW qd w (q.toNatClampNeg + 1) = cntW qd w q.toNatClampNeg + (if qd (11 * q.toNatClampNeg) = w then (1 : Int) else 0) := rfl
  rw [if_pos he] at h2
  omega
theorem sumW_nn (qd : Nat → Int32) (n : Nat) (on : Nat → Bool) : ∀ k : Nat, 0 ≤ sumW qd n on k
  | 0 => Int.le_refl _
  | k + 1 => by
    have h1 := sumW_nn qd n on k
    have h2 := (cntW_b qd (nI k) n).1
    unfold sumW
    split <;> omega
/-- a window's turn: its place in the order, the popup behind all -/
def keyW (h : pH) : Nat → Int := fun v => if v = 8 then 8 else (h 151 v).toInt
def sumE (h : pH) (k : Int) (w : Nat) : Int := sumW (h 186) (h 137 82).toNatClampNeg (onW (keyW h) k w) 9
theorem sumE_0 (h : pH) : 0 ≤ sumE h 0 0 := sumW_nn _ _ _ _
theorem sumE_le (h : pH) (k : Int) (w : Nat) (hq : 0 ≤ (h 137 82).toInt) : sumE h k w ≤ (h 137 82).toInt := by
  have := sumW_le (h 186) (onW (keyW h) k w) (h 137 82).toNatClampNeg
  have c := pi_cl hq
  unfold sumE
  omega
theorem sumE_w (h : pH) (k : Int) (w : Nat) : sumE h k w ≤ sumE h k (w + 1) := by
  refine sumW_mono 9 (fun j _ hj => ?_)
  unfold onW at hj ⊢
  simp only [decide_eq_true_eq] at hj ⊢
  omega
theorem sumE_k (h : pH) (k : Int) : sumE h k 9 ≤ sumE h (k + 1) 0 := by
  refine sumW_mono 9 (fun j hj9 hj => ?_)
  unfold onW at hj ⊢
  simp only [decide_eq_true_eq] at hj ⊢
  omega
theorem sumE_y {h : pH} {k : Int} {w : Int32} (hw : 0 ≤ w.toInt ∧ w.toInt ≤ 8) (hk : keyW h w.toNatClampNeg = k) : sumE h k (w.toNatClampNeg + 1) = sumE h k w.toNatClampNeg + cntW (h 186) w (h 137 82).toNatClampNeg := by
  have c := pi_cl hw.1
  have e : nI w.toNatClampNeg = w := by
    rw [pi_eq, nI_toInt (by omega)]; omega
  have h1 := sumW_add (qd := h 186) (n := (h 137 82).toNatClampNeg) (on := onW (keyW h) k w.toNatClampNeg) (on' := onW (keyW h) k (w.toNatClampNeg + 1)) (w := w.toNatClampNeg) (by unfold onW; simp only [decide_eq_false_iff_not]; omega) (by unfold onW; simp only [decide_eq_true_eq]; omega) (fun j hj => by unfold onW; simp only [decide_eq_decide]; omega) 9 (by omega)
  rw [e] at h1
  exact h1
