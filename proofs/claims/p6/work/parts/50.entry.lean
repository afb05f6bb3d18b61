/-! the law at its entry -/
/-! THE CLAIM OUT OF ONE WALK OF THE LAW'S BODY. Your part is whole_start (and what it stands on); all else here is the same for every law, but numbers. -/
def R_law : String := "PanelFramesLaw"
def lw_P (b : Addr) (xs : List Int32) (args : Array Value) (s : State) : Prop := args = #[.ref b] ∧ s.IntsAt b xs ∧ xs.length ≤ 384 ∧ (Jvm.Cond.and given_1 narrow_1).before args s = true
def lw_Q (_ : Array Value) (s : State) (o : Outcome) (t : State) : Prop := o = .returned (some (.int 1)) ∧ Framed s o t [] 600128 7301098
def lw_Z (below : List Frame) (a : Array Value) (s : State) : State → Prop := fun t => ∃ o, t.status = .running ∧ Ended t below o ∧ lw_Q a s o t
/-- the law's own end, with 1 on the stack, nothing written that was there before, its room as the claim has it -/
theorem lw_ret {p : Program} {l : Launch} {e : Env} {s : State} {m : MethodId} {below : List Frame} {meth : Method} {c : Code} {b : Nat} (hx : p.tables.exec = Jvm.exec) (hb : c.code = code) (hr : meth.sig.returnType = ret) (hlocks : meth.locks = false) {pc : Nat} {H : Heap} {ls : Array Slot} (hdg : decode code pc = .ok (.ireturn, 1)) : W p l e room_1 s m #[Value.ref b] below meth c H [] 600128 7301098 (lw_Z below #[Value.ref b] s) (F0 m pc ls [.int 1]) := by
  intro T hT X
  obtain ⟨fs, hret, hrun, hended, hW, hframe⟩ := X.leave (v := some (.int 1)) (hlocks := hlocks) (fun h => by rw [hr] at h; cases h)
  have hmeth' : T.vm.method? m = some meth := X.method'
  refine ⟨T.setFrames fs, ?_, .returned (some (.int 1)), hrun, hended, rfl, ⟨_, rfl⟩, hW, hframe⟩
  jvm_step X.here [X.here.top, hx, hb, hdg, hmeth', hr, ret, narrow_b1]
  (try refine ⟨rfl, ?_⟩); (try refine ⟨rfl, ?_⟩)
  first | (intro acts; rw [hret _ acts rfl rfl rfl]) | rw [hret _ _ rfl rfl rfl]
  exact Steps.refl _
/-- what holds at the law's entry: the machine, the code, the tables' words (any of lw_tbl by 'hts w (by decide +kernel)'), the script of L ints xs at the cell b, what the Statement gives of the start (any of its parts by flat_of_before) -/
def lw_At (p : Program) (s : State) (m : MethodId) (meth : Method) (c : Code) (b L : Nat) (xs : Nat → Int32) : Prop :=
  p.tables.exec = Jvm.exec ∧ c.code = code ∧ meth.sig.returnType = ret ∧ c.maxLocals = 7 ∧ s.vm.findClass R_law = some m.cls ∧ (∀ w ∈ lw_tbl, w.before #[Value.ref b] s = true) ∧ va_X b L xs s s.heap ∧ b < s.heap.size ∧ meth.locks = false ∧ (Jvm.Cond.and given_1 narrow_1).before #[Value.ref b] s = true
section LE
variable {p : Program} {s : State} {m : MethodId} {meth : Method} {c : Code} {b L : Nat} {xs : Nat → Int32}
theorem le_w (C0 : lw_At p s m meth c b L xs) {w : Cond} (hw : w ∈ pT) : w.before #[Value.ref b] s = true := C0.2.2.2.2.2.1 w (List.mem_filter.mp hw).1
theorem le_kn (C0 : lw_At p s m meth c b L xs) : ∃ G : pG, pKn G s := by
  have hts : ∀ w ∈ pT, w.before #[Value.ref b] s = true := fun w hw => le_w C0 hw
  obtain ⟨c0, i0, k0⟩ := u_known (C := RX0) (T := TX0) (N := 12) (n := 12) hts iX0 (hts _ kI_0)
  obtain ⟨c1, i1, k1⟩ := u_known (C := RX1) (T := TX1) (N := 9) (n := 9) hts iX1 (hts _ kI_1)
  obtain ⟨c2, i2, k2⟩ := u_known (C := RX2) (T := TX2) (N := 4) (n := 4) hts iX2 (hts _ kI_2)
  obtain ⟨c3, i3, k3⟩ := u_known (C := RX3) (T := TX3) (N := 7) (n := 7) hts iX3 (hts _ kI_3)
  obtain ⟨c4, i4, k4⟩ := u_known (C := RX4) (T := TX4) (N := 5) (n := 5) hts iX4 (hts _ kI_4)
  obtain ⟨c5, i5, k5⟩ := u_known (C := RX5) (T := TX5) (N := 16) (n := 16) hts iX5 (hts _ kI_5)
  obtain ⟨c6, i6, k6⟩ := u_known (C := RX6) (T := TX6) (N := 7) (n := 7) hts iX6 (hts _ kI_6)
  obtain ⟨c7, i7, k7⟩ := u_known (C := RX7) (T := TX7) (N := 14) (n := 14) hts iX7 (hts _ kI_7)
  obtain ⟨c8, i8, k8⟩ := u_known (C := RX8) (T := TX8) (N := 6) (n := 6) hts iX8 (hts _ kI_8)
  obtain ⟨c9, i9, k9⟩ := u_known (C := RX9) (T := TX9) (N := 6) (n := 6) hts iX9 (hts _ kI_9)
  obtain ⟨c10, i10, k10⟩ := u_known (C := RX10) (T := TX10) (N := 6) (n := 6) hts iX10 (hts _ kI_10)
  obtain ⟨c11, i11, k11⟩ := u_known (C := RX11) (T := TX11) (N := 12) (n := 12) hts iX11 (hts _ kI_11)
  obtain ⟨c12, i12, k12⟩ := u_known (C := RX12) (T := TX12) (N := 88) (n := 88) hts iX12 (hts _ kI_12)
  obtain ⟨a13, qa13, ma13, ra13, sa13, ta13⟩ := Cond.arrayClass_spec (hts _ kA_int)
  obtain ⟨a14, qa14, ma14, ra14, sa14, ta14⟩ := Cond.arrayClass_spec (hts _ kA_bool)
  obtain ⟨a18, qa18, ma18, ra18, sa18, ta18⟩ := Cond.arrayClass_spec (hts _ kA_long)
  obtain ⟨ma15, a15, qa15, ua15, va15, sa15, ta15, ra15⟩ := Cond.arrayOver_spec (n := RX0) (C0.2.2.2.2.2.1 _ (List.mem_append_right _ (List.mem_of_getElem? (i := 293) (by decide +kernel))))
  obtain ⟨ma16, a16, qa16, ua16, va16, sa16, ta16, ra16⟩ := Cond.arrayOver_spec (n := RX2) (C0.2.2.2.2.2.1 _ (List.mem_append_right _ (List.mem_of_getElem? (i := 233) (by decide +kernel))))
  obtain ⟨ma17, a17, qa17, ua17, va17, sa17, ta17, ra17⟩ := Cond.arrayOver_spec (n := RX7) (C0.2.2.2.2.2.1 _ (List.mem_append_right _ (List.mem_of_getElem? (i := 138) (by decide +kernel))))
  refine ⟨((fun k => [c0, c1, c2, c3, c4, c5, c6, c7, c8, c9, c10, c11, c12].getD k c0, fun k => [i0, i1, i2, i3, i4, i5, i6, i7, i8, i9, i10, i11, i12].getD k i0), fun k => [a13, a14, a15, a16, a17, a18].getD (k - 13) a13), ⟨fun k q hq => ?_, fun k q hq => ?_⟩, fun w hw => ?_⟩
  · match k, hq with
    | 0, hq => cases hq; exact k0
    | 1, hq => cases hq; exact k1
    | 2, hq => cases hq; exact k2
    | 3, hq => cases hq; exact k3
    | 4, hq => cases hq; exact k4
    | 5, hq => cases hq; exact k5
    | 6, hq => cases hq; exact k6
    | 7, hq => cases hq; exact k7
    | 8, hq => cases hq; exact k8
    | 9, hq => cases hq; exact k9
    | 10, hq => cases hq; exact k10
    | 11, hq => cases hq; exact k11
    | 12, hq => cases hq; exact k12
    | k + 13, hq => exact absurd hq (by simp [vwCl])
  · match k, hq with
    | 0, hq => cases hq; exact ⟨fun n z => ⟨fun k h => (by cases h), qa13, sa13, ma13, ta13⟩, ra13⟩
    | 1, hq => cases hq; exact ⟨fun n z => ⟨fun k h => (by cases h), qa14, sa14, ma14, ta14⟩, ra14⟩
    | 2, hq => cases hq; exact ⟨fun n z => ⟨fun k h => (by cases h), qa15, sa15, ma15, ta15⟩, qa15, ma15, sa15, ta15, ua15, ra15⟩
    | 3, hq => cases hq; exact ⟨fun n z => ⟨fun k h => (by cases h), qa16, sa16, ma16, ta16⟩, qa16, ma16, sa16, ta16, ua16, ra16⟩
    | 4, hq => cases hq; exact ⟨fun n z => ⟨fun k h => (by cases h), qa17, sa17, ma17, ta17⟩, qa17, ma17, sa17, ta17, ua17, ra17⟩
    | 5, hq => cases hq; exact ⟨fun n z => ⟨fun k h => (by cases h), qa18, sa18, ma18, ta18⟩, ra18⟩
    | k + 6, hq => exact absurd hq (by simp [pTys])
  · obtain ⟨h1, h2⟩ := List.mem_filter.mp hw
    have h3 := C0.2.2.2.2.2.1 w (List.mem_append_right _ h1)
    cases w <;> first | exact va_tabs rfl rfl h3 | (simp [pIsN] at h2)
theorem le_ao (C0 : lw_At p s m meth c b L xs) : pAO s := ⟨va_AO.of (C0.2.2.2.2.2.1 _ (List.mem_append_right _ (List.mem_of_getElem? (i := 293) (by decide +kernel)))), va_AO.of (C0.2.2.2.2.2.1 _ (List.mem_append_right _ (List.mem_of_getElem? (i := 233) (by decide +kernel)))), va_AO.of (C0.2.2.2.2.2.1 _ (List.mem_append_right _ (List.mem_of_getElem? (i := 138) (by decide +kernel))))⟩
theorem le_xs (C0 : lw_At p s m meth c b L xs) : pXS s.heap.size s := by
  have hs := flat_of_before _ C0.2.2.2.2.2.2.2.2.2
  have hA : ∀ a : Nat, a < s.heap.size → ¬ pA s.heap.size a := fun a h z => by have : s.heap.size ≤ a := z; omega
  obtain ⟨a1, -, -, -, e1, -⟩ := Cond.exactly_spec (hs (.exactly (.string "PanelFrames" 406) "java/lang/String") (by decide +kernel))
  obtain ⟨a2, -, -, -, e2, -⟩ := Cond.exactly_spec (hs (.exactly (.string "PanelFrames" 396) "java/lang/String") (by decide +kernel))
  obtain ⟨ca, hca, hT⟩ := va_Tof (s := s) (tm := .static "PanelFrames" "CORNERS" "[I") (ty := .int) (N := 6) (f := fun j => .int ([0, 1, 2, 0, 2, 3].getD j 0)) (A := pA s.heap.size) (by decide) (hs (.arrayOf (.static "PanelFrames" "CORNERS" "[I") .int) (by decide +kernel)) (va_eqt (hs (.eq (.length (.static "PanelFrames" "CORNERS" "[I")) (.int 6)) (by decide +kernel))) (fun j hj => by
    match j, hj with
    | 0, _ => exact va_eqt (hs (.eq (.elem (.static "PanelFrames" "CORNERS" "[I") (.int 0)) (.int 0)) (by decide +kernel))
    | 1, _ => exact va_eqt (hs (.eq (.elem (.static "PanelFrames" "CORNERS" "[I") (.int 1)) (.int 1)) (by decide +kernel))
    | 2, _ => exact va_eqt (hs (.eq (.elem (.static "PanelFrames" "CORNERS" "[I") (.int 2)) (.int 2)) (by decide +kernel))
    | 3, _ => exact va_eqt (hs (.eq (.elem (.static "PanelFrames" "CORNERS" "[I") (.int 3)) (.int 0)) (by decide +kernel))
    | 4, _ => exact va_eqt (hs (.eq (.elem (.static "PanelFrames" "CORNERS" "[I") (.int 4)) (.int 2)) (by decide +kernel))
    | 5, _ => exact va_eqt (hs (.eq (.elem (.static "PanelFrames" "CORNERS" "[I") (.int 5)) (.int 3)) (by decide +kernel))
    | j + 6, h => omega) hA
  refine ⟨vx_Zqof (C0.2.2.2.2.2.1 _ (List.mem_append_right _ (List.mem_of_getElem? (i := 691) (by decide +kernel)))) (C0.2.2.2.2.2.1 _ (List.mem_append_right _ (List.mem_of_getElem? (i := 14) (by decide +kernel)))) (hs _ (by decide +kernel)) hA, vx_Zqof (C0.2.2.2.2.2.1 _ (List.mem_append_right _ (List.mem_of_getElem? (i := 693) (by decide +kernel)))) (C0.2.2.2.2.2.1 _ (List.mem_append_right _ (List.mem_of_getElem? (i := 14) (by decide +kernel)))) (hs _ (by decide +kernel)) hA, fun w hw => ?_, ⟨a1, vk_R.of (C0.2.2.2.2.2.1 _ (List.mem_append_right _ (List.mem_of_getElem? (i := 704) (by decide +kernel)))) e1⟩, ⟨a2, vk_R.of (C0.2.2.2.2.2.1 _ (List.mem_append_right _ (List.mem_of_getElem? (i := 913) (by decide +kernel)))) e2⟩, ⟨ca, fun j => [0, 1, 2, 0, 2, 3].getD j 0, va_Zref (C0.2.2.2.2.2.1 _ (List.mem_append_right _ (List.mem_of_getElem? (i := 614) (by decide +kernel)))) (le_w C0 ki_11) hca hA, hT⟩, va_Nc.of (hs (.not (.castable xIS xIA)) (by decide +kernel))⟩
  have h1 : xBad.all (fun w => decide (w ∈ lw_tbl)) = true := by decide +kernel
  have h2 := C0.2.2.2.2.2.1 w (of_decide_eq_true (List.all_eq_true.mp h1 w hw))
  simp only [xBad, List.mem_cons, List.not_mem_nil, or_false] at hw
  rcases hw with rfl | rfl | rfl | rfl | rfl <;> exact va_tabs rfl rfl h2
end LE
