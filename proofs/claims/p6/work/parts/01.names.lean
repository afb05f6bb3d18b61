-- ===== PART A: goes FIRST, ahead of the names: the tables' words, and 'selects' of the private methods out of them =====
/-- a private method of a class that the tables say can be made, by its rows of tables_1 -/
def lw_okq (q : MethodName × Nat) : Prop := (q.1.cls ≠ "java/lang/invoke/MethodHandle" ∧ q.1.cls ≠ "java/lang/invoke/VarHandle") ∧ Cond.instantiable q.1.cls q.2 ∈ tables_1 ∧ Cond.privateMethod q.1 ∈ tables_1 ∧ Cond.instanceMethod q.1 ∈ tables_1
theorem lw_p0 : lw_okq (⟨"PanelFrames", "requireState", "(Z)V"⟩, 12) := ⟨⟨by decide +kernel, by decide +kernel⟩, List.mem_of_getElem? (i := 23) (by decide +kernel), List.mem_of_getElem? (i := 632) (by decide +kernel), List.mem_of_getElem? (i := 633) (by decide +kernel)⟩
theorem lw_p1 : lw_okq (⟨"PanelFrames", "breakFrame", "()V"⟩, 12) := ⟨⟨by decide +kernel, by decide +kernel⟩, List.mem_of_getElem? (i := 23) (by decide +kernel), List.mem_of_getElem? (i := 636) (by decide +kernel), List.mem_of_getElem? (i := 637) (by decide +kernel)⟩
theorem lw_p2 : lw_okq (⟨"java/lang/Throwable", "fillInStackTrace", "(I)Ljava/lang/Throwable;"⟩, 6) := ⟨⟨by decide +kernel, by decide +kernel⟩, List.mem_of_getElem? (i := 702) (by decide +kernel), List.mem_of_getElem? (i := 700) (by decide +kernel), List.mem_of_getElem? (i := 701) (by decide +kernel)⟩
theorem lw_p3 : lw_okq (⟨"PanelFrames", "moveActiveWindow", "()V"⟩, 12) := ⟨⟨by decide +kernel, by decide +kernel⟩, List.mem_of_getElem? (i := 23) (by decide +kernel), List.mem_of_getElem? (i := 795) (by decide +kernel), List.mem_of_getElem? (i := 796) (by decide +kernel)⟩
theorem lw_p4 : lw_okq (⟨"PanelFrames", "composeDrawing", "()V"⟩, 12) := ⟨⟨by decide +kernel, by decide +kernel⟩, List.mem_of_getElem? (i := 23) (by decide +kernel), List.mem_of_getElem? (i := 845) (by decide +kernel), List.mem_of_getElem? (i := 846) (by decide +kernel)⟩
theorem lw_p5 : lw_okq (⟨"PanelFrames", "showPane", "(LPanelFrames$Pane;)V"⟩, 12) := ⟨⟨by decide +kernel, by decide +kernel⟩, List.mem_of_getElem? (i := 23) (by decide +kernel), List.mem_of_getElem? (i := 853) (by decide +kernel), List.mem_of_getElem? (i := 854) (by decide +kernel)⟩
theorem lw_p6 : lw_okq (⟨"PanelFrames", "requireArgument", "(Z)V"⟩, 12) := ⟨⟨by decide +kernel, by decide +kernel⟩, List.mem_of_getElem? (i := 23) (by decide +kernel), List.mem_of_getElem? (i := 901) (by decide +kernel), List.mem_of_getElem? (i := 902) (by decide +kernel)⟩
theorem lw_p7 : lw_okq (⟨"PanelFrames", "tellPane", "(ILPanelFrames$Pane;II)V"⟩, 12) := ⟨⟨by decide +kernel, by decide +kernel⟩, List.mem_of_getElem? (i := 23) (by decide +kernel), List.mem_of_getElem? (i := 921) (by decide +kernel), List.mem_of_getElem? (i := 922) (by decide +kernel)⟩
theorem lw_p8 : lw_okq (⟨"PanelFrames", "drawPane", "(LPanelFrames$Pane;LPanelFrames$Box;)V"⟩, 12) := ⟨⟨by decide +kernel, by decide +kernel⟩, List.mem_of_getElem? (i := 23) (by decide +kernel), List.mem_of_getElem? (i := 964) (by decide +kernel), List.mem_of_getElem? (i := 965) (by decide +kernel)⟩
theorem lw_p9 : lw_okq (⟨"PanelFrames", "closePane", "(LPanelFrames$Area;)V"⟩, 12) := ⟨⟨by decide +kernel, by decide +kernel⟩, List.mem_of_getElem? (i := 23) (by decide +kernel), List.mem_of_getElem? (i := 1059) (by decide +kernel), List.mem_of_getElem? (i := 1060) (by decide +kernel)⟩
theorem lw_p10 : lw_okq (⟨"PanelFrames", "requireItem", "(Z)V"⟩, 12) := ⟨⟨by decide +kernel, by decide +kernel⟩, List.mem_of_getElem? (i := 23) (by decide +kernel), List.mem_of_getElem? (i := 1083) (by decide +kernel), List.mem_of_getElem? (i := 1084) (by decide +kernel)⟩
theorem lw_p11 : lw_okq (⟨"PanelFrames", "isWindowOpen", "()Z"⟩, 12) := ⟨⟨by decide +kernel, by decide +kernel⟩, List.mem_of_getElem? (i := 23) (by decide +kernel), List.mem_of_getElem? (i := 1087) (by decide +kernel), List.mem_of_getElem? (i := 1088) (by decide +kernel)⟩
theorem lw_p12 : lw_okq (⟨"PanelFrames", "tellBehaving", "(II)Z"⟩, 12) := ⟨⟨by decide +kernel, by decide +kernel⟩, List.mem_of_getElem? (i := 23) (by decide +kernel), List.mem_of_getElem? (i := 1099) (by decide +kernel), List.mem_of_getElem? (i := 1100) (by decide +kernel)⟩
theorem lw_p13 : lw_okq (⟨"PanelFrames", "layItem", "(II)V"⟩, 12) := ⟨⟨by decide +kernel, by decide +kernel⟩, List.mem_of_getElem? (i := 23) (by decide +kernel), List.mem_of_getElem? (i := 1103) (by decide +kernel), List.mem_of_getElem? (i := 1104) (by decide +kernel)⟩
theorem lw_p14 : lw_okq (⟨"PanelFrames", "drawItem", "(I)V"⟩, 12) := ⟨⟨by decide +kernel, by decide +kernel⟩, List.mem_of_getElem? (i := 23) (by decide +kernel), List.mem_of_getElem? (i := 1129) (by decide +kernel), List.mem_of_getElem? (i := 1130) (by decide +kernel)⟩
theorem lw_p15 : lw_okq (⟨"PanelFrames", "drawLabel", "(I)V"⟩, 12) := ⟨⟨by decide +kernel, by decide +kernel⟩, List.mem_of_getElem? (i := 23) (by decide +kernel), List.mem_of_getElem? (i := 1133) (by decide +kernel), List.mem_of_getElem? (i := 1134) (by decide +kernel)⟩
def lw_privs_1 : List (MethodName × Nat) := [(⟨"PanelFrames", "requireState", "(Z)V"⟩, 12), (⟨"PanelFrames", "breakFrame", "()V"⟩, 12), (⟨"java/lang/Throwable", "fillInStackTrace", "(I)Ljava/lang/Throwable;"⟩, 6), (⟨"PanelFrames", "moveActiveWindow", "()V"⟩, 12), (⟨"PanelFrames", "composeDrawing", "()V"⟩, 12), (⟨"PanelFrames", "showPane", "(LPanelFrames$Pane;)V"⟩, 12), (⟨"PanelFrames", "requireArgument", "(Z)V"⟩, 12), (⟨"PanelFrames", "tellPane", "(ILPanelFrames$Pane;II)V"⟩, 12), (⟨"PanelFrames", "drawPane", "(LPanelFrames$Pane;LPanelFrames$Box;)V"⟩, 12), (⟨"PanelFrames", "closePane", "(LPanelFrames$Area;)V"⟩, 12), (⟨"PanelFrames", "requireItem", "(Z)V"⟩, 12), (⟨"PanelFrames", "isWindowOpen", "()Z"⟩, 12), (⟨"PanelFrames", "tellBehaving", "(II)Z"⟩, 12), (⟨"PanelFrames", "layItem", "(II)V"⟩, 12), (⟨"PanelFrames", "drawItem", "(I)V"⟩, 12), (⟨"PanelFrames", "drawLabel", "(I)V"⟩, 12)]
theorem lw_r1 : ∀ q ∈ lw_privs_1, lw_okq q := List.forall_mem_cons.mpr ⟨lw_p0, List.forall_mem_cons.mpr ⟨lw_p1, List.forall_mem_cons.mpr ⟨lw_p2, List.forall_mem_cons.mpr ⟨lw_p3, List.forall_mem_cons.mpr ⟨lw_p4, List.forall_mem_cons.mpr ⟨lw_p5, List.forall_mem_cons.mpr ⟨lw_p6, List.forall_mem_cons.mpr ⟨lw_p7, List.forall_mem_cons.mpr ⟨lw_p8, List.forall_mem_cons.mpr ⟨lw_p9, List.forall_mem_cons.mpr ⟨lw_p10, List.forall_mem_cons.mpr ⟨lw_p11, List.forall_mem_cons.mpr ⟨lw_p12, List.forall_mem_cons.mpr ⟨lw_p13, List.forall_mem_cons.mpr ⟨lw_p14, List.forall_mem_cons.mpr ⟨lw_p15, fun _ h => absurd h List.not_mem_nil⟩⟩⟩⟩⟩⟩⟩⟩⟩⟩⟩⟩⟩⟩⟩⟩
theorem lw_p16 : lw_okq (⟨"PanelFrames", "drawGlyph", "(II)V"⟩, 12) := ⟨⟨by decide +kernel, by decide +kernel⟩, List.mem_of_getElem? (i := 23) (by decide +kernel), List.mem_of_getElem? (i := 1137) (by decide +kernel), List.mem_of_getElem? (i := 1138) (by decide +kernel)⟩
theorem lw_p17 : lw_okq (⟨"PanelFrames", "slide", "(III)I"⟩, 12) := ⟨⟨by decide +kernel, by decide +kernel⟩, List.mem_of_getElem? (i := 23) (by decide +kernel), List.mem_of_getElem? (i := 1168) (by decide +kernel), List.mem_of_getElem? (i := 1169) (by decide +kernel)⟩
theorem lw_p18 : lw_okq (⟨"PanelFramesModel", "event", "(ZIII)Z"⟩, 88) := ⟨⟨by decide +kernel, by decide +kernel⟩, List.mem_of_getElem? (i := 1267) (by decide +kernel), List.mem_of_getElem? (i := 1543) (by decide +kernel), List.mem_of_getElem? (i := 1544) (by decide +kernel)⟩
theorem lw_p19 : lw_okq (⟨"PanelFramesModel", "breaks", "()I"⟩, 88) := ⟨⟨by decide +kernel, by decide +kernel⟩, List.mem_of_getElem? (i := 1267) (by decide +kernel), List.mem_of_getElem? (i := 1567) (by decide +kernel), List.mem_of_getElem? (i := 1568) (by decide +kernel)⟩
theorem lw_p20 : lw_okq (⟨"PanelFramesModel", "fails", "(I)I"⟩, 88) := ⟨⟨by decide +kernel, by decide +kernel⟩, List.mem_of_getElem? (i := 1267) (by decide +kernel), List.mem_of_getElem? (i := 1571) (by decide +kernel), List.mem_of_getElem? (i := 1572) (by decide +kernel)⟩
theorem lw_p21 : lw_okq (⟨"PanelFramesModel", "takeAll", "()I"⟩, 88) := ⟨⟨by decide +kernel, by decide +kernel⟩, List.mem_of_getElem? (i := 1267) (by decide +kernel), List.mem_of_getElem? (i := 1575) (by decide +kernel), List.mem_of_getElem? (i := 1576) (by decide +kernel)⟩
theorem lw_p22 : lw_okq (⟨"PanelFramesModel", "take", "(III)V"⟩, 88) := ⟨⟨by decide +kernel, by decide +kernel⟩, List.mem_of_getElem? (i := 1267) (by decide +kernel), List.mem_of_getElem? (i := 1579) (by decide +kernel), List.mem_of_getElem? (i := 1580) (by decide +kernel)⟩
theorem lw_p23 : lw_okq (⟨"PanelFramesModel", "findWindow", "()V"⟩, 88) := ⟨⟨by decide +kernel, by decide +kernel⟩, List.mem_of_getElem? (i := 1267) (by decide +kernel), List.mem_of_getElem? (i := 1583) (by decide +kernel), List.mem_of_getElem? (i := 1584) (by decide +kernel)⟩
theorem lw_p24 : lw_okq (⟨"PanelFramesModel", "hasMouse", "(I)Z"⟩, 88) := ⟨⟨by decide +kernel, by decide +kernel⟩, List.mem_of_getElem? (i := 1267) (by decide +kernel), List.mem_of_getElem? (i := 1587) (by decide +kernel), List.mem_of_getElem? (i := 1588) (by decide +kernel)⟩
theorem lw_p25 : lw_okq (⟨"PanelFramesModel", "height", "(I)I"⟩, 88) := ⟨⟨by decide +kernel, by decide +kernel⟩, List.mem_of_getElem? (i := 1267) (by decide +kernel), List.mem_of_getElem? (i := 1591) (by decide +kernel), List.mem_of_getElem? (i := 1592) (by decide +kernel)⟩
theorem lw_p26 : lw_okq (⟨"PanelFramesModel", "isIn", "(IIIIII)Z"⟩, 88) := ⟨⟨by decide +kernel, by decide +kernel⟩, List.mem_of_getElem? (i := 1267) (by decide +kernel), List.mem_of_getElem? (i := 1595) (by decide +kernel), List.mem_of_getElem? (i := 1596) (by decide +kernel)⟩
theorem lw_p27 : lw_okq (⟨"PanelFramesModel", "give", "(I)V"⟩, 88) := ⟨⟨by decide +kernel, by decide +kernel⟩, List.mem_of_getElem? (i := 1267) (by decide +kernel), List.mem_of_getElem? (i := 1603) (by decide +kernel), List.mem_of_getElem? (i := 1604) (by decide +kernel)⟩
theorem lw_p28 : lw_okq (⟨"PanelFramesModel", "wasTold", "(I)Z"⟩, 88) := ⟨⟨by decide +kernel, by decide +kernel⟩, List.mem_of_getElem? (i := 1267) (by decide +kernel), List.mem_of_getElem? (i := 1607) (by decide +kernel), List.mem_of_getElem? (i := 1608) (by decide +kernel)⟩
theorem lw_p29 : lw_okq (⟨"PanelFramesModel", "copyList", "(I)V"⟩, 88) := ⟨⟨by decide +kernel, by decide +kernel⟩, List.mem_of_getElem? (i := 1267) (by decide +kernel), List.mem_of_getElem? (i := 1611) (by decide +kernel), List.mem_of_getElem? (i := 1612) (by decide +kernel)⟩
theorem lw_p30 : lw_okq (⟨"PanelFramesModel", "drawnCount", "(I)I"⟩, 88) := ⟨⟨by decide +kernel, by decide +kernel⟩, List.mem_of_getElem? (i := 1267) (by decide +kernel), List.mem_of_getElem? (i := 1615) (by decide +kernel), List.mem_of_getElem? (i := 1616) (by decide +kernel)⟩
theorem lw_p31 : lw_okq (⟨"PanelFramesModel", "walk", "(I)V"⟩, 88) := ⟨⟨by decide +kernel, by decide +kernel⟩, List.mem_of_getElem? (i := 1267) (by decide +kernel), List.mem_of_getElem? (i := 1619) (by decide +kernel), List.mem_of_getElem? (i := 1620) (by decide +kernel)⟩
def lw_privs_2 : List (MethodName × Nat) := [(⟨"PanelFrames", "drawGlyph", "(II)V"⟩, 12), (⟨"PanelFrames", "slide", "(III)I"⟩, 12), (⟨"PanelFramesModel", "event", "(ZIII)Z"⟩, 88), (⟨"PanelFramesModel", "breaks", "()I"⟩, 88), (⟨"PanelFramesModel", "fails", "(I)I"⟩, 88), (⟨"PanelFramesModel", "takeAll", "()I"⟩, 88), (⟨"PanelFramesModel", "take", "(III)V"⟩, 88), (⟨"PanelFramesModel", "findWindow", "()V"⟩, 88), (⟨"PanelFramesModel", "hasMouse", "(I)Z"⟩, 88), (⟨"PanelFramesModel", "height", "(I)I"⟩, 88), (⟨"PanelFramesModel", "isIn", "(IIIIII)Z"⟩, 88), (⟨"PanelFramesModel", "give", "(I)V"⟩, 88), (⟨"PanelFramesModel", "wasTold", "(I)Z"⟩, 88), (⟨"PanelFramesModel", "copyList", "(I)V"⟩, 88), (⟨"PanelFramesModel", "drawnCount", "(I)I"⟩, 88), (⟨"PanelFramesModel", "walk", "(I)V"⟩, 88)]
theorem lw_r2 : ∀ q ∈ lw_privs_2, lw_okq q := List.forall_mem_cons.mpr ⟨lw_p16, List.forall_mem_cons.mpr ⟨lw_p17, List.forall_mem_cons.mpr ⟨lw_p18, List.forall_mem_cons.mpr ⟨lw_p19, List.forall_mem_cons.mpr ⟨lw_p20, List.forall_mem_cons.mpr ⟨lw_p21, List.forall_mem_cons.mpr ⟨lw_p22, List.forall_mem_cons.mpr ⟨lw_p23, List.forall_mem_cons.mpr ⟨lw_p24, List.forall_mem_cons.mpr ⟨lw_p25, List.forall_mem_cons.mpr ⟨lw_p26, List.forall_mem_cons.mpr ⟨lw_p27, List.forall_mem_cons.mpr ⟨lw_p28, List.forall_mem_cons.mpr ⟨lw_p29, List.forall_mem_cons.mpr ⟨lw_p30, List.forall_mem_cons.mpr ⟨lw_p31, fun _ h => absurd h List.not_mem_nil⟩⟩⟩⟩⟩⟩⟩⟩⟩⟩⟩⟩⟩⟩⟩⟩
theorem lw_p32 : lw_okq (⟨"PanelFramesModel", "tellWindow", "(III)V"⟩, 88) := ⟨⟨by decide +kernel, by decide +kernel⟩, List.mem_of_getElem? (i := 1267) (by decide +kernel), List.mem_of_getElem? (i := 1627) (by decide +kernel), List.mem_of_getElem? (i := 1628) (by decide +kernel)⟩
theorem lw_p33 : lw_okq (⟨"PanelFramesModel", "tell", "(I)V"⟩, 88) := ⟨⟨by decide +kernel, by decide +kernel⟩, List.mem_of_getElem? (i := 1267) (by decide +kernel), List.mem_of_getElem? (i := 1631) (by decide +kernel), List.mem_of_getElem? (i := 1632) (by decide +kernel)⟩
theorem lw_p34 : lw_okq (⟨"PanelFramesModel", "area", "(II)I"⟩, 88) := ⟨⟨by decide +kernel, by decide +kernel⟩, List.mem_of_getElem? (i := 1267) (by decide +kernel), List.mem_of_getElem? (i := 1644) (by decide +kernel), List.mem_of_getElem? (i := 1645) (by decide +kernel)⟩
theorem lw_p35 : lw_okq (⟨"PanelFramesModel", "openThing", "(III)V"⟩, 88) := ⟨⟨by decide +kernel, by decide +kernel⟩, List.mem_of_getElem? (i := 1267) (by decide +kernel), List.mem_of_getElem? (i := 1648) (by decide +kernel), List.mem_of_getElem? (i := 1649) (by decide +kernel)⟩
theorem lw_p36 : lw_okq (⟨"PanelFramesModel", "push", "(I)V"⟩, 88) := ⟨⟨by decide +kernel, by decide +kernel⟩, List.mem_of_getElem? (i := 1267) (by decide +kernel), List.mem_of_getElem? (i := 1652) (by decide +kernel), List.mem_of_getElem? (i := 1653) (by decide +kernel)⟩
theorem lw_p37 : lw_okq (⟨"PanelFramesModel", "quadClipped", "(IIIIII)V"⟩, 88) := ⟨⟨by decide +kernel, by decide +kernel⟩, List.mem_of_getElem? (i := 1267) (by decide +kernel), List.mem_of_getElem? (i := 1656) (by decide +kernel), List.mem_of_getElem? (i := 1657) (by decide +kernel)⟩
theorem lw_p38 : lw_okq (⟨"PanelFramesModel", "quad", "(IIIIIIIIII)V"⟩, 88) := ⟨⟨by decide +kernel, by decide +kernel⟩, List.mem_of_getElem? (i := 1267) (by decide +kernel), List.mem_of_getElem? (i := 1660) (by decide +kernel), List.mem_of_getElem? (i := 1661) (by decide +kernel)⟩
theorem lw_p39 : lw_okq (⟨"PanelFramesModel", "isLabel", "(I)Z"⟩, 88) := ⟨⟨by decide +kernel, by decide +kernel⟩, List.mem_of_getElem? (i := 1267) (by decide +kernel), List.mem_of_getElem? (i := 1668) (by decide +kernel), List.mem_of_getElem? (i := 1669) (by decide +kernel)⟩
theorem lw_p40 : lw_okq (⟨"PanelFramesModel", "put", "(IZIIII)V"⟩, 88) := ⟨⟨by decide +kernel, by decide +kernel⟩, List.mem_of_getElem? (i := 1267) (by decide +kernel), List.mem_of_getElem? (i := 1684) (by decide +kernel), List.mem_of_getElem? (i := 1685) (by decide +kernel)⟩
theorem lw_p41 : lw_okq (⟨"PanelFramesModel", "bars", "(Z)Z"⟩, 88) := ⟨⟨by decide +kernel, by decide +kernel⟩, List.mem_of_getElem? (i := 1267) (by decide +kernel), List.mem_of_getElem? (i := 1692) (by decide +kernel), List.mem_of_getElem? (i := 1693) (by decide +kernel)⟩
theorem lw_p42 : lw_okq (⟨"PanelFramesModel", "lay", "(III)I"⟩, 88) := ⟨⟨by decide +kernel, by decide +kernel⟩, List.mem_of_getElem? (i := 1267) (by decide +kernel), List.mem_of_getElem? (i := 1696) (by decide +kernel), List.mem_of_getElem? (i := 1697) (by decide +kernel)⟩
theorem lw_p43 : lw_okq (⟨"PanelFramesModel", "nextX", "(I)I"⟩, 88) := ⟨⟨by decide +kernel, by decide +kernel⟩, List.mem_of_getElem? (i := 1267) (by decide +kernel), List.mem_of_getElem? (i := 1700) (by decide +kernel), List.mem_of_getElem? (i := 1701) (by decide +kernel)⟩
theorem lw_p44 : lw_okq (⟨"PanelFramesModel", "nextY", "(I)I"⟩, 88) := ⟨⟨by decide +kernel, by decide +kernel⟩, List.mem_of_getElem? (i := 1267) (by decide +kernel), List.mem_of_getElem? (i := 1704) (by decide +kernel), List.mem_of_getElem? (i := 1705) (by decide +kernel)⟩
theorem lw_p45 : lw_okq (⟨"PanelFramesModel", "idOf", "(I)I"⟩, 88) := ⟨⟨by decide +kernel, by decide +kernel⟩, List.mem_of_getElem? (i := 1267) (by decide +kernel), List.mem_of_getElem? (i := 1708) (by decide +kernel), List.mem_of_getElem? (i := 1709) (by decide +kernel)⟩
theorem lw_p46 : lw_okq (⟨"PanelFramesModel", "behaves", "(I)Z"⟩, 88) := ⟨⟨by decide +kernel, by decide +kernel⟩, List.mem_of_getElem? (i := 1267) (by decide +kernel), List.mem_of_getElem? (i := 1712) (by decide +kernel), List.mem_of_getElem? (i := 1713) (by decide +kernel)⟩
theorem lw_p47 : lw_okq (⟨"PanelFramesModel", "hasBehaved", "(I)Z"⟩, 88) := ⟨⟨by decide +kernel, by decide +kernel⟩, List.mem_of_getElem? (i := 1267) (by decide +kernel), List.mem_of_getElem? (i := 1716) (by decide +kernel), List.mem_of_getElem? (i := 1717) (by decide +kernel)⟩
def lw_privs_3 : List (MethodName × Nat) := [(⟨"PanelFramesModel", "tellWindow", "(III)V"⟩, 88), (⟨"PanelFramesModel", "tell", "(I)V"⟩, 88), (⟨"PanelFramesModel", "area", "(II)I"⟩, 88), (⟨"PanelFramesModel", "openThing", "(III)V"⟩, 88), (⟨"PanelFramesModel", "push", "(I)V"⟩, 88), (⟨"PanelFramesModel", "quadClipped", "(IIIIII)V"⟩, 88), (⟨"PanelFramesModel", "quad", "(IIIIIIIIII)V"⟩, 88), (⟨"PanelFramesModel", "isLabel", "(I)Z"⟩, 88), (⟨"PanelFramesModel", "put", "(IZIIII)V"⟩, 88), (⟨"PanelFramesModel", "bars", "(Z)Z"⟩, 88), (⟨"PanelFramesModel", "lay", "(III)I"⟩, 88), (⟨"PanelFramesModel", "nextX", "(I)I"⟩, 88), (⟨"PanelFramesModel", "nextY", "(I)I"⟩, 88), (⟨"PanelFramesModel", "idOf", "(I)I"⟩, 88), (⟨"PanelFramesModel", "behaves", "(I)Z"⟩, 88), (⟨"PanelFramesModel", "hasBehaved", "(I)Z"⟩, 88)]
theorem lw_r3 : ∀ q ∈ lw_privs_3, lw_okq q := List.forall_mem_cons.mpr ⟨lw_p32, List.forall_mem_cons.mpr ⟨lw_p33, List.forall_mem_cons.mpr ⟨lw_p34, List.forall_mem_cons.mpr ⟨lw_p35, List.forall_mem_cons.mpr ⟨lw_p36, List.forall_mem_cons.mpr ⟨lw_p37, List.forall_mem_cons.mpr ⟨lw_p38, List.forall_mem_cons.mpr ⟨lw_p39, List.forall_mem_cons.mpr ⟨lw_p40, List.forall_mem_cons.mpr ⟨lw_p41, List.forall_mem_cons.mpr ⟨lw_p42, List.forall_mem_cons.mpr ⟨lw_p43, List.forall_mem_cons.mpr ⟨lw_p44, List.forall_mem_cons.mpr ⟨lw_p45, List.forall_mem_cons.mpr ⟨lw_p46, List.forall_mem_cons.mpr ⟨lw_p47, fun _ h => absurd h List.not_mem_nil⟩⟩⟩⟩⟩⟩⟩⟩⟩⟩⟩⟩⟩⟩⟩⟩
theorem lw_p48 : lw_okq (⟨"PanelFramesModel", "shape", "(I)V"⟩, 88) := ⟨⟨by decide +kernel, by decide +kernel⟩, List.mem_of_getElem? (i := 1267) (by decide +kernel), List.mem_of_getElem? (i := 1720) (by decide +kernel), List.mem_of_getElem? (i := 1721) (by decide +kernel)⟩
theorem lw_p49 : lw_okq (⟨"PanelFramesModel", "digits", "(I)V"⟩, 88) := ⟨⟨by decide +kernel, by decide +kernel⟩, List.mem_of_getElem? (i := 1267) (by decide +kernel), List.mem_of_getElem? (i := 1724) (by decide +kernel), List.mem_of_getElem? (i := 1725) (by decide +kernel)⟩
theorem lw_p50 : lw_okq (⟨"PanelFramesModel", "numberOf", "(I)I"⟩, 88) := ⟨⟨by decide +kernel, by decide +kernel⟩, List.mem_of_getElem? (i := 1267) (by decide +kernel), List.mem_of_getElem? (i := 1732) (by decide +kernel), List.mem_of_getElem? (i := 1733) (by decide +kernel)⟩
theorem lw_p51 : lw_okq (⟨"PanelFramesModel", "find", "(I)I"⟩, 88) := ⟨⟨by decide +kernel, by decide +kernel⟩, List.mem_of_getElem? (i := 1267) (by decide +kernel), List.mem_of_getElem? (i := 1736) (by decide +kernel), List.mem_of_getElem? (i := 1737) (by decide +kernel)⟩
theorem lw_p52 : lw_okq (⟨"PanelFramesModel", "keep", "(II)V"⟩, 88) := ⟨⟨by decide +kernel, by decide +kernel⟩, List.mem_of_getElem? (i := 1267) (by decide +kernel), List.mem_of_getElem? (i := 1740) (by decide +kernel), List.mem_of_getElem? (i := 1741) (by decide +kernel)⟩
theorem lw_p53 : lw_okq (⟨"PanelFramesModel", "made", "(I)I"⟩, 88) := ⟨⟨by decide +kernel, by decide +kernel⟩, List.mem_of_getElem? (i := 1267) (by decide +kernel), List.mem_of_getElem? (i := 1744) (by decide +kernel), List.mem_of_getElem? (i := 1745) (by decide +kernel)⟩
theorem lw_p54 : lw_okq (⟨"PanelFramesModel", "edit", "(I)V"⟩, 88) := ⟨⟨by decide +kernel, by decide +kernel⟩, List.mem_of_getElem? (i := 1267) (by decide +kernel), List.mem_of_getElem? (i := 1756) (by decide +kernel), List.mem_of_getElem? (i := 1757) (by decide +kernel)⟩
def lw_privs_4 : List (MethodName × Nat) := [(⟨"PanelFramesModel", "shape", "(I)V"⟩, 88), (⟨"PanelFramesModel", "digits", "(I)V"⟩, 88), (⟨"PanelFramesModel", "numberOf", "(I)I"⟩, 88), (⟨"PanelFramesModel", "find", "(I)I"⟩, 88), (⟨"PanelFramesModel", "keep", "(II)V"⟩, 88), (⟨"PanelFramesModel", "made", "(I)I"⟩, 88), (⟨"PanelFramesModel", "edit", "(I)V"⟩, 88)]
theorem lw_r4 : ∀ q ∈ lw_privs_4, lw_okq q := List.forall_mem_cons.mpr ⟨lw_p48, List.forall_mem_cons.mpr ⟨lw_p49, List.forall_mem_cons.mpr ⟨lw_p50, List.forall_mem_cons.mpr ⟨lw_p51, List.forall_mem_cons.mpr ⟨lw_p52, List.forall_mem_cons.mpr ⟨lw_p53, List.forall_mem_cons.mpr ⟨lw_p54, fun _ h => absurd h List.not_mem_nil⟩⟩⟩⟩⟩⟩⟩
def lw_privs : List (MethodName × Nat) := lw_privs_1 ++ (lw_privs_2 ++ (lw_privs_3 ++ (lw_privs_4)))
def lw_tbl : List Cond := k2_sels lw_privs ++ tables_1
theorem lw_privs_ok : ∀ q ∈ lw_privs, lw_okq q := by
  show ∀ q ∈ lw_privs_1 ++ (lw_privs_2 ++ (lw_privs_3 ++ (lw_privs_4))), lw_okq q
  exact List.forall_mem_append.mpr ⟨lw_r1, List.forall_mem_append.mpr ⟨lw_r2, List.forall_mem_append.mpr ⟨lw_r3, lw_r4⟩⟩⟩
def RX0 : String := "PanelFrames$Area"
def TX0 : u_T := fun k => match k with
  | 0 => ("PanelFrames$Area", "clip", "LPanelFrames$Box;", true)
  | 1 => ("PanelFrames$Area", "firstX", "I", false)
  | 2 => ("PanelFrames$Area", "firstY", "I", false)
  | 3 => ("PanelFrames$Area", "indent", "I", false)
  | 4 => ("PanelFrames$Area", "cursorX", "I", false)
  | 5 => ("PanelFrames$Area", "cursorY", "I", false)
  | 6 => ("PanelFrames$Area", "lineBottom", "I", false)
  | 7 => ("PanelFrames$Area", "lastRight", "I", false)
  | 8 => ("PanelFrames$Area", "lowest", "I", false)
  | 9 => ("PanelFrames$Area", "widest", "I", false)
  | 10 => ("PanelFrames$Area", "hasItem", "Z", false)
  | _ => ("PanelFrames$Area", "number", "I", false)
def tyX0 : Nat → FieldType := fun k => match k with
  | 0 => .object "PanelFrames$Box"
  | 1 => .int
  | 2 => .int
  | 3 => .int
  | 4 => .int
  | 5 => .int
  | 6 => .int
  | 7 => .int
  | 8 => .int
  | 9 => .int
  | 10 => .boolean
  | _ => .int
abbrev wsX00 : List Cond := u_ws RX0 TX0 12
theorem nmX0 : ∀ a, a < 12 → ∀ b, b < 12 → a ≠ b → (TX0 a).2.1 ≠ (TX0 b).2.1 := by decide +kernel
theorem tyX0_ok : ∀ k, k < 12 → parseFieldDescriptor (TX0 k).2.2.1 = some (tyX0 k) := by decide +kernel
abbrev cX0_init : ByteArray := prog_2_method_1_code
def yX0_init : MethodName := ⟨RX0, "<init>", "()V"⟩
abbrev cX0_start : ByteArray := prog_2_method_2_code
def yX0_start : MethodName := ⟨RX0, "start", "(III)V"⟩
abbrev cX0_placeCursor : ByteArray := prog_2_method_3_code
def yX0_placeCursor : MethodName := ⟨RX0, "placeCursor", "(Z)V"⟩
abbrev cX0_addItem : ByteArray := prog_2_method_4_code
def yX0_addItem : MethodName := ⟨RX0, "addItem", "(LPanelFrames$Box;)V"⟩
abbrev cX0_high : ByteArray := prog_2_method_5_code
def yX0_high : MethodName := ⟨RX0, "high", "()I"⟩
def RX1 : String := "PanelFrames$Attention"
def TX1 : u_T := fun k => match k with
  | 0 => ("PanelFrames$Attention", "active", "I", false)
  | 1 => ("PanelFrames$Attention", "hoveredItem", "I", false)
  | 2 => ("PanelFrames$Attention", "focus", "I", false)
  | 3 => ("PanelFrames$Attention", "held", "I", false)
  | 4 => ("PanelFrames$Attention", "firstItem", "I", false)
  | 5 => ("PanelFrames$Attention", "activeTold", "Z", false)
  | 6 => ("PanelFrames$Attention", "focusTold", "Z", false)
  | 7 => ("PanelFrames$Attention", "focusBehaved", "Z", false)
  | _ => ("PanelFrames$Attention", "tabGiven", "Z", false)
def tyX1 : Nat → FieldType := fun k => match k with
  | 0 => .int
  | 1 => .int
  | 2 => .int
  | 3 => .int
  | 4 => .int
  | 5 => .boolean
  | 6 => .boolean
  | 7 => .boolean
  | _ => .boolean
abbrev wsX10 : List Cond := u_ws RX1 TX1 9
theorem nmX1 : ∀ a, a < 9 → ∀ b, b < 9 → a ≠ b → (TX1 a).2.1 ≠ (TX1 b).2.1 := by decide +kernel
theorem tyX1_ok : ∀ k, k < 9 → parseFieldDescriptor (TX1 k).2.2.1 = some (tyX1 k) := by decide +kernel
abbrev cX1_init : ByteArray := prog_3_method_1_code
def yX1_init : MethodName := ⟨RX1, "<init>", "()V"⟩
abbrev cX1_startFrame : ByteArray := prog_3_method_2_code
def yX1_startFrame : MethodName := ⟨RX1, "startFrame", "()V"⟩
abbrev cX1_forgetAll : ByteArray := prog_3_method_3_code
def yX1_forgetAll : MethodName := ⟨RX1, "forgetAll", "()V"⟩
abbrev cX1_giveFocus : ByteArray := prog_3_method_4_code
def yX1_giveFocus : MethodName := ⟨RX1, "giveFocus", "(I)V"⟩
abbrev cX1_noteTold : ByteArray := prog_3_method_5_code
def yX1_noteTold : MethodName := ⟨RX1, "noteTold", "(I)V"⟩
abbrev cX1_behave : ByteArray := prog_3_method_6_code
def yX1_behave : MethodName := ⟨RX1, "behave", "(IZLPanelFrames$Input;)Z"⟩
abbrev cX1_takeTab : ByteArray := prog_3_method_7_code
def yX1_takeTab : MethodName := ⟨RX1, "takeTab", "(ILPanelFrames$Input;)V"⟩
abbrev cX1_takeEnter : ByteArray := prog_3_method_8_code
def yX1_takeEnter : MethodName := ⟨RX1, "takeEnter", "(ILPanelFrames$Input;)Z"⟩
abbrev cX1_finishFrame : ByteArray := prog_3_method_9_code
def yX1_finishFrame : MethodName := ⟨RX1, "finishFrame", "(LPanelFrames$Input;)V"⟩
def RX2 : String := "PanelFrames$Box"
def TX2 : u_T := fun k => match k with
  | 0 => ("PanelFrames$Box", "left", "I", false)
  | 1 => ("PanelFrames$Box", "top", "I", false)
  | 2 => ("PanelFrames$Box", "right", "I", false)
  | _ => ("PanelFrames$Box", "bottom", "I", false)
def tyX2 : Nat → FieldType := fun k => match k with
  | 0 => .int
  | 1 => .int
  | 2 => .int
  | _ => .int
abbrev wsX20 : List Cond := u_ws RX2 TX2 4
theorem nmX2 : ∀ a, a < 4 → ∀ b, b < 4 → a ≠ b → (TX2 a).2.1 ≠ (TX2 b).2.1 := by decide +kernel
theorem tyX2_ok : ∀ k, k < 4 → parseFieldDescriptor (TX2 k).2.2.1 = some (tyX2 k) := by decide +kernel
abbrev cX2_init : ByteArray := prog_4_method_1_code
def yX2_init : MethodName := ⟨RX2, "<init>", "()V"⟩
abbrev cX2_set : ByteArray := prog_4_method_2_code
def yX2_set : MethodName := ⟨RX2, "set", "(IIII)V"⟩
abbrev cX2_setLike : ByteArray := prog_4_method_3_code
def yX2_setLike : MethodName := ⟨RX2, "setLike", "(LPanelFrames$Box;)V"⟩
abbrev cX2_has : ByteArray := prog_4_method_4_code
def yX2_has : MethodName := ⟨RX2, "has", "(II)Z"⟩
abbrev cX2_meets : ByteArray := prog_4_method_5_code
def yX2_meets : MethodName := ⟨RX2, "meets", "(LPanelFrames$Box;)Z"⟩
abbrev cX2_setMeeting : ByteArray := prog_4_method_6_code
def yX2_setMeeting : MethodName := ⟨RX2, "setMeeting", "(LPanelFrames$Box;LPanelFrames$Box;)V"⟩
abbrev cX2_cutToScreen : ByteArray := prog_4_method_7_code
def yX2_cutToScreen : MethodName := ⟨RX2, "cutToScreen", "()V"⟩
def RX3 : String := "PanelFrames$Desk"
def TX3 : u_T := fun k => match k with
  | 0 => ("PanelFrames$Desk", "panes", "[LPanelFrames$Pane;", true)
  | 1 => ("PanelFrames$Desk", "popupPane", "LPanelFrames$Pane;", true)
  | 2 => ("PanelFrames$Desk", "order", "[I", true)
  | 3 => ("PanelFrames$Desk", "hovered", "I", false)
  | 4 => ("PanelFrames$Desk", "telling", "I", false)
  | 5 => ("PanelFrames$Desk", "popupLabel", "I", false)
  | _ => ("PanelFrames$Desk", "openedHere", "Z", false)
def tyX3 : Nat → FieldType := fun k => match k with
  | 0 => .array (.object "PanelFrames$Pane")
  | 1 => .object "PanelFrames$Pane"
  | 2 => .array .int
  | 3 => .int
  | 4 => .int
  | 5 => .int
  | _ => .boolean
abbrev wsX30 : List Cond := u_ws RX3 TX3 7
theorem nmX3 : ∀ a, a < 7 → ∀ b, b < 7 → a ≠ b → (TX3 a).2.1 ≠ (TX3 b).2.1 := by decide +kernel
theorem tyX3_ok : ∀ k, k < 7 → parseFieldDescriptor (TX3 k).2.2.1 = some (tyX3 k) := by decide +kernel
abbrev cX3_init : ByteArray := prog_5_method_1_code
def yX3_init : MethodName := ⟨RX3, "<init>", "()V"⟩
abbrev cX3_paneOf : ByteArray := prog_5_method_2_code
def yX3_paneOf : MethodName := ⟨RX3, "paneOf", "(I)LPanelFrames$Pane;"⟩
abbrev cX3_windowAt : ByteArray := prog_5_method_3_code
def yX3_windowAt : MethodName := ⟨RX3, "windowAt", "(I)I"⟩
abbrev cX3_placeInOrder : ByteArray := prog_5_method_4_code
def yX3_placeInOrder : MethodName := ⟨RX3, "placeInOrder", "(I)I"⟩
abbrev cX3_bringToFront : ByteArray := prog_5_method_5_code
def yX3_bringToFront : MethodName := ⟨RX3, "bringToFront", "(I)V"⟩
abbrev cX3_findHovered : ByteArray := prog_5_method_6_code
def yX3_findHovered : MethodName := ⟨RX3, "findHovered", "(LPanelFrames$Input;)V"⟩
abbrev cX3_frontWindowUnder : ByteArray := prog_5_method_7_code
def yX3_frontWindowUnder : MethodName := ⟨RX3, "frontWindowUnder", "(LPanelFrames$Input;)I"⟩
abbrev cX3_openPopup : ByteArray := prog_5_method_8_code
def yX3_openPopup : MethodName := ⟨RX3, "openPopup", "(ILPanelFrames$Input;)Z"⟩
abbrev cX3_closeUntoldPopup : ByteArray := prog_5_method_9_code
def yX3_closeUntoldPopup : MethodName := ⟨RX3, "closeUntoldPopup", "()V"⟩
abbrev cX3_forgetTold : ByteArray := prog_5_method_10_code
def yX3_forgetTold : MethodName := ⟨RX3, "forgetTold", "()V"⟩
abbrev cX3_forgetAll : ByteArray := prog_5_method_11_code
def yX3_forgetAll : MethodName := ⟨RX3, "forgetAll", "()V"⟩
def RX4 : String := "PanelFrames$EventRow"
def TX4 : u_T := fun k => match k with
  | 0 => ("PanelFrames$EventRow", "kinds", "[I", true)
  | 1 => ("PanelFrames$EventRow", "firsts", "[I", true)
  | 2 => ("PanelFrames$EventRow", "seconds", "[I", true)
  | 3 => ("PanelFrames$EventRow", "start", "I", false)
  | _ => ("PanelFrames$EventRow", "count", "I", false)
def tyX4 : Nat → FieldType := fun k => match k with
  | 0 => .array .int
  | 1 => .array .int
  | 2 => .array .int
  | 3 => .int
  | _ => .int
abbrev wsX40 : List Cond := u_ws RX4 TX4 5
theorem nmX4 : ∀ a, a < 5 → ∀ b, b < 5 → a ≠ b → (TX4 a).2.1 ≠ (TX4 b).2.1 := by decide +kernel
theorem tyX4_ok : ∀ k, k < 5 → parseFieldDescriptor (TX4 k).2.2.1 = some (tyX4 k) := by decide +kernel
abbrev cX4_init : ByteArray := prog_6_method_1_code
def yX4_init : MethodName := ⟨RX4, "<init>", "()V"⟩
abbrev cX4_add : ByteArray := prog_6_method_2_code
def yX4_add : MethodName := ⟨RX4, "add", "(III)Z"⟩
abbrev cX4_nextKind : ByteArray := prog_6_method_3_code
def yX4_nextKind : MethodName := ⟨RX4, "nextKind", "()I"⟩
abbrev cX4_nextFirst : ByteArray := prog_6_method_4_code
def yX4_nextFirst : MethodName := ⟨RX4, "nextFirst", "()I"⟩
abbrev cX4_nextSecond : ByteArray := prog_6_method_5_code
def yX4_nextSecond : MethodName := ⟨RX4, "nextSecond", "()I"⟩
abbrev cX4_drop : ByteArray := prog_6_method_6_code
def yX4_drop : MethodName := ⟨RX4, "drop", "()V"⟩
def RX5 : String := "PanelFrames$Input"
def TX5 : u_T := fun k => match k with
  | 0 => ("PanelFrames$Input", "row", "LPanelFrames$EventRow;", true)
  | 1 => ("PanelFrames$Input", "keysDown", "[Z", true)
  | 2 => ("PanelFrames$Input", "downHere", "[Z", true)
  | 3 => ("PanelFrames$Input", "upHere", "[Z", true)
  | 4 => ("PanelFrames$Input", "letters", "[I", true)
  | 5 => ("PanelFrames$Input", "letterCount", "I", false)
  | 6 => ("PanelFrames$Input", "lines", "I", false)
  | 7 => ("PanelFrames$Input", "mouseX", "I", false)
  | 8 => ("PanelFrames$Input", "mouseY", "I", false)
  | 9 => ("PanelFrames$Input", "movedX", "I", false)
  | 10 => ("PanelFrames$Input", "movedY", "I", false)
  | 11 => ("PanelFrames$Input", "pressX", "I", false)
  | 12 => ("PanelFrames$Input", "pressY", "I", false)
  | 13 => ("PanelFrames$Input", "pressed", "Z", false)
  | 14 => ("PanelFrames$Input", "pressedHere", "Z", false)
  | _ => ("PanelFrames$Input", "releasedHere", "Z", false)
def tyX5 : Nat → FieldType := fun k => match k with
  | 0 => .object "PanelFrames$EventRow"
  | 1 => .array .boolean
  | 2 => .array .boolean
  | 3 => .array .boolean
  | 4 => .array .int
  | 5 => .int
  | 6 => .int
  | 7 => .int
  | 8 => .int
  | 9 => .int
  | 10 => .int
  | 11 => .int
  | 12 => .int
  | 13 => .boolean
  | 14 => .boolean
  | _ => .boolean
abbrev wsX50 : List Cond := u_ws RX5 TX5 16
theorem nmX5 : ∀ a, a < 16 → ∀ b, b < 16 → a ≠ b → (TX5 a).2.1 ≠ (TX5 b).2.1 := by decide +kernel
theorem tyX5_ok : ∀ k, k < 16 → parseFieldDescriptor (TX5 k).2.2.1 = some (tyX5 k) := by decide +kernel
abbrev cX5_init : ByteArray := prog_7_method_1_code
def yX5_init : MethodName := ⟨RX5, "<init>", "()V"⟩
abbrev cX5_takeEvents : ByteArray := prog_7_method_2_code
def yX5_takeEvents : MethodName := ⟨RX5, "takeEvents", "()I"⟩
abbrev cX5_forgetFrame : ByteArray := prog_7_method_3_code
def yX5_forgetFrame : MethodName := ⟨RX5, "forgetFrame", "()V"⟩
abbrev cX5_take : ByteArray := prog_7_method_4_code
def yX5_take : MethodName := ⟨RX5, "take", "(III)V"⟩
abbrev cX5_takePress : ByteArray := prog_7_method_5_code
def yX5_takePress : MethodName := ⟨RX5, "takePress", "()V"⟩
abbrev cX5_takeKey : ByteArray := prog_7_method_6_code
def yX5_takeKey : MethodName := ⟨RX5, "takeKey", "(IZ[Z)V"⟩
abbrev cX5_takeLetter : ByteArray := prog_7_method_7_code
def yX5_takeLetter : MethodName := ⟨RX5, "takeLetter", "(I)V"⟩
abbrev cX5_isDownHere : ByteArray := prog_7_method_8_code
def yX5_isDownHere : MethodName := ⟨RX5, "isDownHere", "(I)Z"⟩
abbrev cX5_isUpHere : ByteArray := prog_7_method_9_code
def yX5_isUpHere : MethodName := ⟨RX5, "isUpHere", "(I)Z"⟩
abbrev cX5_isWherePressed : ByteArray := prog_7_method_10_code
def yX5_isWherePressed : MethodName := ⟨RX5, "isWherePressed", "()Z"⟩
def RX6 : String := "PanelFrames$Kids"
def TX6 : u_T := fun k => match k with
  | 0 => ("PanelFrames$Kids", "scrolls", "[I", true)
  | 1 => ("PanelFrames$Kids", "highs", "[I", true)
  | 2 => ("PanelFrames$Kids", "windows", "[I", true)
  | 3 => ("PanelFrames$Kids", "clips", "[LPanelFrames$Box;", true)
  | 4 => ("PanelFrames$Kids", "spareClip", "LPanelFrames$Box;", true)
  | 5 => ("PanelFrames$Kids", "told", "I", false)
  | _ => ("PanelFrames$Kids", "wheelKid", "I", false)
def tyX6 : Nat → FieldType := fun k => match k with
  | 0 => .array .int
  | 1 => .array .int
  | 2 => .array .int
  | 3 => .array (.object "PanelFrames$Box")
  | 4 => .object "PanelFrames$Box"
  | 5 => .int
  | _ => .int
abbrev wsX60 : List Cond := u_ws RX6 TX6 7
theorem nmX6 : ∀ a, a < 7 → ∀ b, b < 7 → a ≠ b → (TX6 a).2.1 ≠ (TX6 b).2.1 := by decide +kernel
theorem tyX6_ok : ∀ k, k < 7 → parseFieldDescriptor (TX6 k).2.2.1 = some (tyX6 k) := by decide +kernel
abbrev cX6_init : ByteArray := prog_8_method_1_code
def yX6_init : MethodName := ⟨RX6, "<init>", "()V"⟩
abbrev cX6_hasRoom : ByteArray := prog_8_method_2_code
def yX6_hasRoom : MethodName := ⟨RX6, "hasRoom", "()Z"⟩
abbrev cX6_findWheelKid : ByteArray := prog_8_method_3_code
def yX6_findWheelKid : MethodName := ⟨RX6, "findWheelKid", "(ILPanelFrames$Input;)V"⟩
abbrev cX6_tell : ByteArray := prog_8_method_4_code
def yX6_tell : MethodName := ⟨RX6, "tell", "(III)I"⟩
abbrev cX6_scrollOf : ByteArray := prog_8_method_5_code
def yX6_scrollOf : MethodName := ⟨RX6, "scrollOf", "(I)I"⟩
abbrev cX6_clipOf : ByteArray := prog_8_method_6_code
def yX6_clipOf : MethodName := ⟨RX6, "clipOf", "(I)LPanelFrames$Box;"⟩
abbrev cX6_setHigh : ByteArray := prog_8_method_7_code
def yX6_setHigh : MethodName := ⟨RX6, "setHigh", "(II)V"⟩
def RX7 : String := "PanelFrames$Pane"
def TX7 : u_T := fun k => match k with
  | 0 => ("PanelFrames$Pane", "title", "I", true)
  | 1 => ("PanelFrames$Pane", "left", "I", false)
  | 2 => ("PanelFrames$Pane", "top", "I", false)
  | 3 => ("PanelFrames$Pane", "width", "I", false)
  | 4 => ("PanelFrames$Pane", "height", "I", false)
  | 5 => ("PanelFrames$Pane", "scroll", "I", false)
  | 6 => ("PanelFrames$Pane", "high", "I", false)
  | 7 => ("PanelFrames$Pane", "collapsed", "Z", false)
  | 8 => ("PanelFrames$Pane", "known", "Z", false)
  | 9 => ("PanelFrames$Pane", "told", "Z", false)
  | 10 => ("PanelFrames$Pane", "firstQuad", "I", false)
  | 11 => ("PanelFrames$Pane", "endQuad", "I", false)
  | 12 => ("PanelFrames$Pane", "firstCommand", "I", false)
  | _ => ("PanelFrames$Pane", "endCommand", "I", false)
def tyX7 : Nat → FieldType := fun k => match k with
  | 0 => .int
  | 1 => .int
  | 2 => .int
  | 3 => .int
  | 4 => .int
  | 5 => .int
  | 6 => .int
  | 7 => .boolean
  | 8 => .boolean
  | 9 => .boolean
  | 10 => .int
  | 11 => .int
  | 12 => .int
  | _ => .int
abbrev wsX70 : List Cond := u_ws RX7 TX7 14
theorem nmX7 : ∀ a, a < 14 → ∀ b, b < 14 → a ≠ b → (TX7 a).2.1 ≠ (TX7 b).2.1 := by decide +kernel
theorem tyX7_ok : ∀ k, k < 14 → parseFieldDescriptor (TX7 k).2.2.1 = some (tyX7 k) := by decide +kernel
abbrev cX7_init : ByteArray := prog_9_method_1_code
def yX7_init : MethodName := ⟨RX7, "<init>", "(I)V"⟩
abbrev cX7_moveTo : ByteArray := prog_9_method_2_code
def yX7_moveTo : MethodName := ⟨RX7, "moveTo", "(II)V"⟩
abbrev cX7_tell : ByteArray := prog_9_method_3_code
def yX7_tell : MethodName := ⟨RX7, "tell", "(III)V"⟩
abbrev cX7_heightNow : ByteArray := prog_9_method_4_code
def yX7_heightNow : MethodName := ⟨RX7, "heightNow", "()I"⟩
abbrev cX7_hasMouse : ByteArray := prog_9_method_5_code
def yX7_hasMouse : MethodName := ⟨RX7, "hasMouse", "(LPanelFrames$Input;)Z"⟩
abbrev cX7_hasInTitle : ByteArray := prog_9_method_6_code
def yX7_hasInTitle : MethodName := ⟨RX7, "hasInTitle", "(LPanelFrames$Input;)Z"⟩
abbrev cX7_setOutside : ByteArray := prog_9_method_7_code
def yX7_setOutside : MethodName := ⟨RX7, "setOutside", "(LPanelFrames$Box;)V"⟩
abbrev cX7_setInside : ByteArray := prog_9_method_8_code
def yX7_setInside : MethodName := ⟨RX7, "setInside", "(LPanelFrames$Box;)V"⟩
abbrev cX7_answer : ByteArray := prog_9_method_9_code
def yX7_answer : MethodName := ⟨RX7, "answer", "(I)I"⟩
def RX8 : String := "PanelFrames$Pile"
def TX8 : u_T := fun k => match k with
  | 0 => ("PanelFrames$Pile", "kinds", "[I", true)
  | 1 => ("PanelFrames$Pile", "ids", "[I", true)
  | 2 => ("PanelFrames$Pile", "areas", "[LPanelFrames$Area;", true)
  | 3 => ("PanelFrames$Pile", "spareArea", "LPanelFrames$Area;", true)
  | 4 => ("PanelFrames$Pile", "count", "I", false)
  | _ => ("PanelFrames$Pile", "areaCount", "I", false)
def tyX8 : Nat → FieldType := fun k => match k with
  | 0 => .array .int
  | 1 => .array .int
  | 2 => .array (.object "PanelFrames$Area")
  | 3 => .object "PanelFrames$Area"
  | 4 => .int
  | _ => .int
abbrev wsX80 : List Cond := u_ws RX8 TX8 6
theorem nmX8 : ∀ a, a < 6 → ∀ b, b < 6 → a ≠ b → (TX8 a).2.1 ≠ (TX8 b).2.1 := by decide +kernel
theorem tyX8_ok : ∀ k, k < 6 → parseFieldDescriptor (TX8 k).2.2.1 = some (tyX8 k) := by decide +kernel
abbrev cX8_init : ByteArray := prog_10_method_1_code
def yX8_init : MethodName := ⟨RX8, "<init>", "()V"⟩
abbrev cX8_clear : ByteArray := prog_10_method_2_code
def yX8_clear : MethodName := ⟨RX8, "clear", "()V"⟩
abbrev cX8_hasRoom : ByteArray := prog_10_method_3_code
def yX8_hasRoom : MethodName := ⟨RX8, "hasRoom", "()Z"⟩
abbrev cX8_hasArea : ByteArray := prog_10_method_4_code
def yX8_hasArea : MethodName := ⟨RX8, "hasArea", "(I)Z"⟩
abbrev cX8_put : ByteArray := prog_10_method_5_code
def yX8_put : MethodName := ⟨RX8, "put", "(II)V"⟩
abbrev cX8_drop : ByteArray := prog_10_method_6_code
def yX8_drop : MethodName := ⟨RX8, "drop", "(I)V"⟩
abbrev cX8_topKind : ByteArray := prog_10_method_7_code
def yX8_topKind : MethodName := ⟨RX8, "topKind", "()I"⟩
abbrev cX8_topId : ByteArray := prog_10_method_8_code
def yX8_topId : MethodName := ⟨RX8, "topId", "()I"⟩
abbrev cX8_area : ByteArray := prog_10_method_9_code
def yX8_area : MethodName := ⟨RX8, "area", "()LPanelFrames$Area;"⟩
abbrev cX8_idOf : ByteArray := prog_10_method_10_code
def yX8_idOf : MethodName := ⟨RX8, "idOf", "(I)I"⟩
def RX9 : String := "PanelFrames$Sketch"
def TX9 : u_T := fun k => match k with
  | 0 => ("PanelFrames$Sketch", "quadRow", "[I", false)
  | 1 => ("PanelFrames$Sketch", "commandRow", "[I", false)
  | 2 => ("PanelFrames$Sketch", "quads", "I", false)
  | 3 => ("PanelFrames$Sketch", "commands", "I", false)
  | 4 => ("PanelFrames$Sketch", "listQuad", "I", false)
  | _ => ("PanelFrames$Sketch", "listCommand", "I", false)
def tyX9 : Nat → FieldType := fun k => match k with
  | 0 => .array .int
  | 1 => .array .int
  | 2 => .int
  | 3 => .int
  | 4 => .int
  | _ => .int
abbrev wsX90 : List Cond := u_ws RX9 TX9 6
theorem nmX9 : ∀ a, a < 6 → ∀ b, b < 6 → a ≠ b → (TX9 a).2.1 ≠ (TX9 b).2.1 := by decide +kernel
theorem tyX9_ok : ∀ k, k < 6 → parseFieldDescriptor (TX9 k).2.2.1 = some (tyX9 k) := by decide +kernel
abbrev cX9_init : ByteArray := prog_11_method_1_code
def yX9_init : MethodName := ⟨RX9, "<init>", "()V"⟩
abbrev cX9_clear : ByteArray := prog_11_method_2_code
def yX9_clear : MethodName := ⟨RX9, "clear", "()V"⟩
abbrev cX9_startList : ByteArray := prog_11_method_3_code
def yX9_startList : MethodName := ⟨RX9, "startList", "()V"⟩
abbrev cX9_draw : ByteArray := prog_11_method_4_code
def yX9_draw : MethodName := ⟨RX9, "draw", "(LPanelFrames$Box;IILPanelFrames$Box;)V"⟩
abbrev cX9_lastPart : ByteArray := prog_11_method_5_code
def yX9_lastPart : MethodName := ⟨RX9, "lastPart", "(I)I"⟩
abbrev cX9_partAt : ByteArray := prog_11_method_6_code
def yX9_partAt : MethodName := ⟨RX9, "partAt", "(I)I"⟩
abbrev cX9_offsetFor : ByteArray := prog_11_method_7_code
def yX9_offsetFor : MethodName := ⟨RX9, "offsetFor", "(I)I"⟩
abbrev cX9_fitsLast : ByteArray := prog_11_method_8_code
def yX9_fitsLast : MethodName := ⟨RX9, "fitsLast", "(IILPanelFrames$Box;)Z"⟩
abbrev cX9_addCommand : ByteArray := prog_11_method_9_code
def yX9_addCommand : MethodName := ⟨RX9, "addCommand", "(IILPanelFrames$Box;)V"⟩
abbrev cX9_addToLast : ByteArray := prog_11_method_10_code
def yX9_addToLast : MethodName := ⟨RX9, "addToLast", "()V"⟩
abbrev cX9_addQuad : ByteArray := prog_11_method_11_code
def yX9_addQuad : MethodName := ⟨RX9, "addQuad", "(LPanelFrames$Box;II)V"⟩
abbrev cX9_withRoom : ByteArray := prog_11_method_12_code
def yX9_withRoom : MethodName := ⟨RX9, "withRoom", "([II)[I"⟩
abbrev cX9_append : ByteArray := prog_11_method_13_code
def yX9_append : MethodName := ⟨RX9, "append", "(LPanelFrames$Sketch;LPanelFrames$Pane;)V"⟩
abbrev cX9_holds : ByteArray := prog_11_method_14_code
def yX9_holds : MethodName := ⟨RX9, "holds", "(LPanelFrames$Pane;)Z"⟩
abbrev cX9_shiftCommands : ByteArray := prog_11_method_15_code
def yX9_shiftCommands : MethodName := ⟨RX9, "shiftCommands", "(I)V"⟩
abbrev cX9_commandPart : ByteArray := prog_11_method_16_code
def yX9_commandPart : MethodName := ⟨RX9, "commandPart", "(II)I"⟩
abbrev cX9_quadPart : ByteArray := prog_11_method_17_code
def yX9_quadPart : MethodName := ⟨RX9, "quadPart", "(III)I"⟩
abbrev cX9_indexAt : ByteArray := prog_11_method_18_code
def yX9_indexAt : MethodName := ⟨RX9, "indexAt", "(II)I"⟩
abbrev cX9_vertexPart : ByteArray := prog_11_method_19_code
def yX9_vertexPart : MethodName := ⟨RX9, "vertexPart", "(III)I"⟩
def RX10 : String := "PanelFrames$Store"
def TX10 : u_T := fun k => match k with
  | 0 => ("PanelFrames$Store", "ids", "[I", true)
  | 1 => ("PanelFrames$Store", "numbers", "[I", true)
  | 2 => ("PanelFrames$Store", "lengths", "[I", true)
  | 3 => ("PanelFrames$Store", "carets", "[I", true)
  | 4 => ("PanelFrames$Store", "letters", "[I", true)
  | _ => ("PanelFrames$Store", "count", "I", false)
def tyX10 : Nat → FieldType := fun k => match k with
  | 0 => .array .int
  | 1 => .array .int
  | 2 => .array .int
  | 3 => .array .int
  | 4 => .array .int
  | _ => .int
abbrev wsX100 : List Cond := u_ws RX10 TX10 6
theorem nmX10 : ∀ a, a < 6 → ∀ b, b < 6 → a ≠ b → (TX10 a).2.1 ≠ (TX10 b).2.1 := by decide +kernel
theorem tyX10_ok : ∀ k, k < 6 → parseFieldDescriptor (TX10 k).2.2.1 = some (tyX10 k) := by decide +kernel
abbrev cX10_init : ByteArray := prog_12_method_1_code
def yX10_init : MethodName := ⟨RX10, "<init>", "()V"⟩
abbrev cX10_find : ByteArray := prog_12_method_2_code
def yX10_find : MethodName := ⟨RX10, "find", "(I)I"⟩
abbrev cX10_claim : ByteArray := prog_12_method_3_code
def yX10_claim : MethodName := ⟨RX10, "claim", "(I)I"⟩
abbrev cX10_isSlot : ByteArray := prog_12_method_4_code
def yX10_isSlot : MethodName := ⟨RX10, "isSlot", "(I)Z"⟩
abbrev cX10_numberOf : ByteArray := prog_12_method_5_code
def yX10_numberOf : MethodName := ⟨RX10, "numberOf", "(I)I"⟩
abbrev cX10_setNumber : ByteArray := prog_12_method_6_code
def yX10_setNumber : MethodName := ⟨RX10, "setNumber", "(II)V"⟩
abbrev cX10_toggle : ByteArray := prog_12_method_7_code
def yX10_toggle : MethodName := ⟨RX10, "toggle", "(I)V"⟩
abbrev cX10_lengthOf : ByteArray := prog_12_method_8_code
def yX10_lengthOf : MethodName := ⟨RX10, "lengthOf", "(I)I"⟩
abbrev cX10_caretOf : ByteArray := prog_12_method_9_code
def yX10_caretOf : MethodName := ⟨RX10, "caretOf", "(I)I"⟩
abbrev cX10_letterOf : ByteArray := prog_12_method_10_code
def yX10_letterOf : MethodName := ⟨RX10, "letterOf", "(II)I"⟩
abbrev cX10_edit : ByteArray := prog_12_method_11_code
def yX10_edit : MethodName := ⟨RX10, "edit", "(ILPanelFrames$Input;)V"⟩
abbrev cX10_moveCaret : ByteArray := prog_12_method_12_code
def yX10_moveCaret : MethodName := ⟨RX10, "moveCaret", "(ILPanelFrames$Input;)V"⟩
abbrev cX10_takeLetterBack : ByteArray := prog_12_method_13_code
def yX10_takeLetterBack : MethodName := ⟨RX10, "takeLetterBack", "(I)V"⟩
abbrev cX10_insert : ByteArray := prog_12_method_14_code
def yX10_insert : MethodName := ⟨RX10, "insert", "(II)V"⟩
def RX11 : String := "PanelFrames"
def TX11 : u_T := fun k => match k with
  | 0 => ("PanelFrames", "input", "LPanelFrames$Input;", true)
  | 1 => ("PanelFrames", "desk", "LPanelFrames$Desk;", true)
  | 2 => ("PanelFrames", "kids", "LPanelFrames$Kids;", true)
  | 3 => ("PanelFrames", "pile", "LPanelFrames$Pile;", true)
  | 4 => ("PanelFrames", "attention", "LPanelFrames$Attention;", true)
  | 5 => ("PanelFrames", "store", "LPanelFrames$Store;", true)
  | 6 => ("PanelFrames", "sketch", "LPanelFrames$Sketch;", true)
  | 7 => ("PanelFrames", "shown", "LPanelFrames$Sketch;", true)
  | 8 => ("PanelFrames", "latest", "LPanelFrames$Box;", true)
  | 9 => ("PanelFrames", "glyph", "LPanelFrames$Box;", true)
  | 10 => ("PanelFrames", "frameOn", "Z", false)
  | _ => ("PanelFrames", "nearNext", "Z", false)
def tyX11 : Nat → FieldType := fun k => match k with
  | 0 => .object "PanelFrames$Input"
  | 1 => .object "PanelFrames$Desk"
  | 2 => .object "PanelFrames$Kids"
  | 3 => .object "PanelFrames$Pile"
  | 4 => .object "PanelFrames$Attention"
  | 5 => .object "PanelFrames$Store"
  | 6 => .object "PanelFrames$Sketch"
  | 7 => .object "PanelFrames$Sketch"
  | 8 => .object "PanelFrames$Box"
  | 9 => .object "PanelFrames$Box"
  | 10 => .boolean
  | _ => .boolean
abbrev wsX110 : List Cond := u_ws RX11 TX11 12
theorem nmX11 : ∀ a, a < 12 → ∀ b, b < 12 → a ≠ b → (TX11 a).2.1 ≠ (TX11 b).2.1 := by decide +kernel
theorem tyX11_ok : ∀ k, k < 12 → parseFieldDescriptor (TX11 k).2.2.1 = some (tyX11 k) := by decide +kernel
abbrev cX11_init : ByteArray := prog_1_method_1_code
def yX11_init : MethodName := ⟨RX11, "<init>", "()V"⟩
abbrev cX11_point : ByteArray := prog_1_method_2_code
def yX11_point : MethodName := ⟨RX11, "point", "(II)Z"⟩
abbrev cX11_press : ByteArray := prog_1_method_3_code
def yX11_press : MethodName := ⟨RX11, "press", "(Z)Z"⟩
abbrev cX11_wheel : ByteArray := prog_1_method_4_code
def yX11_wheel : MethodName := ⟨RX11, "wheel", "(I)Z"⟩
abbrev cX11_key : ByteArray := prog_1_method_5_code
def yX11_key : MethodName := ⟨RX11, "key", "(IZ)Z"⟩
abbrev cX11_letter : ByteArray := prog_1_method_6_code
def yX11_letter : MethodName := ⟨RX11, "letter", "(I)Z"⟩
abbrev cX11_begin : ByteArray := prog_1_method_7_code
def yX11_begin : MethodName := ⟨RX11, "begin", "()I"⟩
abbrev cX11_end : ByteArray := prog_1_method_8_code
def yX11_end : MethodName := ⟨RX11, "end", "()I"⟩
abbrev cX11_window : ByteArray := prog_1_method_9_code
def yX11_window : MethodName := ⟨RX11, "window", "(IIIII)Z"⟩
abbrev cX11_open : ByteArray := prog_1_method_10_code
def yX11_open : MethodName := ⟨RX11, "open", "(I)Z"⟩
abbrev cX11_popup : ByteArray := prog_1_method_11_code
def yX11_popup : MethodName := ⟨RX11, "popup", "(III)Z"⟩
abbrev cX11_dismiss : ByteArray := prog_1_method_12_code
def yX11_dismiss : MethodName := ⟨RX11, "dismiss", "()Z"⟩
abbrev cX11_close : ByteArray := prog_1_method_13_code
def yX11_close : MethodName := ⟨RX11, "close", "()I"⟩
abbrev cX11_button : ByteArray := prog_1_method_14_code
def yX11_button : MethodName := ⟨RX11, "button", "(II)Z"⟩
abbrev cX11_check : ByteArray := prog_1_method_15_code
def yX11_check : MethodName := ⟨RX11, "check", "(I)I"⟩
abbrev cX11_slider : ByteArray := prog_1_method_16_code
def yX11_slider : MethodName := ⟨RX11, "slider", "(IIII)I"⟩
abbrev cX11_field : ByteArray := prog_1_method_17_code
def yX11_field : MethodName := ⟨RX11, "field", "(II)I"⟩
abbrev cX11_tree : ByteArray := prog_1_method_18_code
def yX11_tree : MethodName := ⟨RX11, "tree", "(II)Z"⟩
abbrev cX11_child : ByteArray := prog_1_method_19_code
def yX11_child : MethodName := ⟨RX11, "child", "(III)V"⟩
abbrev cX11_scope : ByteArray := prog_1_method_20_code
def yX11_scope : MethodName := ⟨RX11, "scope", "(I)V"⟩
abbrev cX11_group : ByteArray := prog_1_method_21_code
def yX11_group : MethodName := ⟨RX11, "group", "()V"⟩
abbrev cX11_near : ByteArray := prog_1_method_22_code
def yX11_near : MethodName := ⟨RX11, "near", "()V"⟩
abbrev cX11_look : ByteArray := prog_1_method_23_code
def yX11_look : MethodName := ⟨RX11, "look", "(I)I"⟩
abbrev cX11_place : ByteArray := prog_1_method_24_code
def yX11_place : MethodName := ⟨RX11, "place", "(II)I"⟩
abbrev cX11_kept : ByteArray := prog_1_method_25_code
def yX11_kept : MethodName := ⟨RX11, "kept", "(I)I"⟩
abbrev cX11_text : ByteArray := prog_1_method_26_code
def yX11_text : MethodName := ⟨RX11, "text", "(II)I"⟩
abbrev cX11_drawn : ByteArray := prog_1_method_27_code
def yX11_drawn : MethodName := ⟨RX11, "drawn", "(I)I"⟩
abbrev cX11_command : ByteArray := prog_1_method_28_code
def yX11_command : MethodName := ⟨RX11, "command", "(II)I"⟩
abbrev cX11_index : ByteArray := prog_1_method_29_code
def yX11_index : MethodName := ⟨RX11, "index", "(I)I"⟩
abbrev cX11_vertex : ByteArray := prog_1_method_30_code
def yX11_vertex : MethodName := ⟨RX11, "vertex", "(II)I"⟩
abbrev cX11_isWithin : ByteArray := prog_1_method_31_code
def yX11_isWithin : MethodName := ⟨RX11, "isWithin", "(III)Z"⟩
abbrev cX11_isLabel : ByteArray := prog_1_method_32_code
def yX11_isLabel : MethodName := ⟨RX11, "isLabel", "(I)Z"⟩
abbrev cX11_isWindowSize : ByteArray := prog_1_method_33_code
def yX11_isWindowSize : MethodName := ⟨RX11, "isWindowSize", "(II)Z"⟩
abbrev cX11_bring : ByteArray := prog_1_method_34_code
def yX11_bring : MethodName := ⟨RX11, "bring", "(III)I"⟩
abbrev cX11_oneIf : ByteArray := prog_1_method_35_code
def yX11_oneIf : MethodName := ⟨RX11, "oneIf", "(Z)I"⟩
abbrev cX11_requireArgument : ByteArray := prog_1_method_36_code
def yX11_requireArgument : MethodName := ⟨RX11, "requireArgument", "(Z)V"⟩
abbrev cX11_requireState : ByteArray := prog_1_method_37_code
def yX11_requireState : MethodName := ⟨RX11, "requireState", "(Z)V"⟩
abbrev cX11_requireItem : ByteArray := prog_1_method_38_code
def yX11_requireItem : MethodName := ⟨RX11, "requireItem", "(Z)V"⟩
abbrev cX11_isWindowOpen : ByteArray := prog_1_method_39_code
def yX11_isWindowOpen : MethodName := ⟨RX11, "isWindowOpen", "()Z"⟩
abbrev cX11_breakFrame : ByteArray := prog_1_method_40_code
def yX11_breakFrame : MethodName := ⟨RX11, "breakFrame", "()V"⟩
abbrev cX11_moveActiveWindow : ByteArray := prog_1_method_41_code
def yX11_moveActiveWindow : MethodName := ⟨RX11, "moveActiveWindow", "()V"⟩
abbrev cX11_tellPane : ByteArray := prog_1_method_42_code
def yX11_tellPane : MethodName := ⟨RX11, "tellPane", "(ILPanelFrames$Pane;II)V"⟩
abbrev cX11_drawPane : ByteArray := prog_1_method_43_code
def yX11_drawPane : MethodName := ⟨RX11, "drawPane", "(LPanelFrames$Pane;LPanelFrames$Box;)V"⟩
abbrev cX11_closePane : ByteArray := prog_1_method_44_code
def yX11_closePane : MethodName := ⟨RX11, "closePane", "(LPanelFrames$Area;)V"⟩
abbrev cX11_composeDrawing : ByteArray := prog_1_method_45_code
def yX11_composeDrawing : MethodName := ⟨RX11, "composeDrawing", "()V"⟩
abbrev cX11_showPane : ByteArray := prog_1_method_46_code
def yX11_showPane : MethodName := ⟨RX11, "showPane", "(LPanelFrames$Pane;)V"⟩
abbrev cX11_layItem : ByteArray := prog_1_method_47_code
def yX11_layItem : MethodName := ⟨RX11, "layItem", "(II)V"⟩
abbrev cX11_tellBehaving : ByteArray := prog_1_method_48_code
def yX11_tellBehaving : MethodName := ⟨RX11, "tellBehaving", "(II)Z"⟩
abbrev cX11_slide : ByteArray := prog_1_method_49_code
def yX11_slide : MethodName := ⟨RX11, "slide", "(III)I"⟩
abbrev cX11_drawItem : ByteArray := prog_1_method_50_code
def yX11_drawItem : MethodName := ⟨RX11, "drawItem", "(I)V"⟩
abbrev cX11_drawLabel : ByteArray := prog_1_method_51_code
def yX11_drawLabel : MethodName := ⟨RX11, "drawLabel", "(I)V"⟩
abbrev cX11_drawGlyph : ByteArray := prog_1_method_52_code
def yX11_drawGlyph : MethodName := ⟨RX11, "drawGlyph", "(II)V"⟩
def RX12 : String := "PanelFramesModel"
def TX12 : u_T := fun k => match k with
  | 0 => ("PanelFramesModel", "thrown", "I", false)
  | 1 => ("PanelFramesModel", "events", "[I", true)
  | 2 => ("PanelFramesModel", "waiting", "I", false)
  | 3 => ("PanelFramesModel", "mouseX", "I", false)
  | 4 => ("PanelFramesModel", "mouseY", "I", false)
  | 5 => ("PanelFramesModel", "beforeX", "I", false)
  | 6 => ("PanelFramesModel", "beforeY", "I", false)
  | 7 => ("PanelFramesModel", "pressX", "I", false)
  | 8 => ("PanelFramesModel", "pressY", "I", false)
  | 9 => ("PanelFramesModel", "pressed", "Z", false)
  | 10 => ("PanelFramesModel", "keys", "[Z", true)
  | 11 => ("PanelFramesModel", "downHere", "[Z", true)
  | 12 => ("PanelFramesModel", "upHere", "[Z", true)
  | 13 => ("PanelFramesModel", "pressedHere", "Z", false)
  | 14 => ("PanelFramesModel", "releasedHere", "Z", false)
  | 15 => ("PanelFramesModel", "lines", "I", false)
  | 16 => ("PanelFramesModel", "letters", "I", false)
  | 17 => ("PanelFramesModel", "letter", "[I", true)
  | 18 => ("PanelFramesModel", "on", "Z", false)
  | 19 => ("PanelFramesModel", "active", "I", false)
  | 20 => ("PanelFramesModel", "hovered", "I", false)
  | 21 => ("PanelFramesModel", "focus", "I", false)
  | 22 => ("PanelFramesModel", "held", "I", false)
  | 23 => ("PanelFramesModel", "hoveredWindow", "I", false)
  | 24 => ("PanelFramesModel", "told", "[I", true)
  | 25 => ("PanelFramesModel", "tellings", "I", false)
  | 26 => ("PanelFramesModel", "behaved", "[I", true)
  | 27 => ("PanelFramesModel", "behaviours", "I", false)
  | 28 => ("PanelFramesModel", "tabGiven", "Z", false)
  | 29 => ("PanelFramesModel", "x", "[I", true)
  | 30 => ("PanelFramesModel", "y", "[I", true)
  | 31 => ("PanelFramesModel", "wide", "[I", true)
  | 32 => ("PanelFramesModel", "high", "[I", true)
  | 33 => ("PanelFramesModel", "scroll", "[I", true)
  | 34 => ("PanelFramesModel", "lowest", "[I", true)
  | 35 => ("PanelFramesModel", "rank", "[I", true)
  | 36 => ("PanelFramesModel", "collapsed", "[Z", true)
  | 37 => ("PanelFramesModel", "here", "[Z", true)
  | 38 => ("PanelFramesModel", "before", "[Z", true)
  | 39 => ("PanelFramesModel", "known", "[Z", true)
  | 40 => ("PanelFramesModel", "popupLabel", "I", false)
  | 41 => ("PanelFramesModel", "openedHere", "Z", false)
  | 42 => ("PanelFramesModel", "childWindow", "[I", true)
  | 43 => ("PanelFramesModel", "childClip", "[I", true)
  | 44 => ("PanelFramesModel", "oldWindow", "[I", true)
  | 45 => ("PanelFramesModel", "oldClip", "[I", true)
  | 46 => ("PanelFramesModel", "childScroll", "[I", true)
  | 47 => ("PanelFramesModel", "childLowest", "[I", true)
  | 48 => ("PanelFramesModel", "children", "I", false)
  | 49 => ("PanelFramesModel", "oldChildren", "I", false)
  | 50 => ("PanelFramesModel", "wheelChild", "I", false)
  | 51 => ("PanelFramesModel", "openKind", "[I", true)
  | 52 => ("PanelFramesModel", "openPile", "[I", true)
  | 53 => ("PanelFramesModel", "openClip", "[I", true)
  | 54 => ("PanelFramesModel", "openArea", "[I", true)
  | 55 => ("PanelFramesModel", "openNumber", "[I", true)
  | 56 => ("PanelFramesModel", "opened", "I", false)
  | 57 => ("PanelFramesModel", "pile", "[I", true)
  | 58 => ("PanelFramesModel", "piled", "I", false)
  | 59 => ("PanelFramesModel", "firstX", "[I", true)
  | 60 => ("PanelFramesModel", "firstY", "[I", true)
  | 61 => ("PanelFramesModel", "indent", "[I", true)
  | 62 => ("PanelFramesModel", "endX", "[I", true)
  | 63 => ("PanelFramesModel", "lineTop", "[I", true)
  | 64 => ("PanelFramesModel", "lineBottom", "[I", true)
  | 65 => ("PanelFramesModel", "farX", "[I", true)
  | 66 => ("PanelFramesModel", "farY", "[I", true)
  | 67 => ("PanelFramesModel", "some", "[Z", true)
  | 68 => ("PanelFramesModel", "near", "[Z", true)
  | 69 => ("PanelFramesModel", "wasNear", "[Z", true)
  | 70 => ("PanelFramesModel", "areas", "I", false)
  | 71 => ("PanelFramesModel", "window", "I", false)
  | 72 => ("PanelFramesModel", "clip", "[I", true)
  | 73 => ("PanelFramesModel", "item", "[I", true)
  | 74 => ("PanelFramesModel", "keptId", "[I", true)
  | 75 => ("PanelFramesModel", "keptNumber", "[I", true)
  | 76 => ("PanelFramesModel", "keptText", "[I", true)
  | 77 => ("PanelFramesModel", "keptSize", "[I", true)
  | 78 => ("PanelFramesModel", "keptCaret", "[I", true)
  | 79 => ("PanelFramesModel", "kept", "I", false)
  | 80 => ("PanelFramesModel", "quads", "[I", true)
  | 81 => ("PanelFramesModel", "drawing", "[I", true)
  | 82 => ("PanelFramesModel", "quadCount", "I", false)
  | 83 => ("PanelFramesModel", "drawn", "I", false)
  | 84 => ("PanelFramesModel", "listBase", "I", false)
  | 85 => ("PanelFramesModel", "command", "I", false)
  | 86 => ("PanelFramesModel", "offset", "I", false)
  | _ => ("PanelFramesModel", "firstIndex", "I", false)
def tyX12 : Nat → FieldType := fun k => match k with
  | 0 => .int
  | 1 => .array .int
  | 2 => .int
  | 3 => .int
  | 4 => .int
  | 5 => .int
  | 6 => .int
  | 7 => .int
  | 8 => .int
  | 9 => .boolean
  | 10 => .array .boolean
  | 11 => .array .boolean
  | 12 => .array .boolean
  | 13 => .boolean
  | 14 => .boolean
  | 15 => .int
  | 16 => .int
  | 17 => .array .int
  | 18 => .boolean
  | 19 => .int
  | 20 => .int
  | 21 => .int
  | 22 => .int
  | 23 => .int
  | 24 => .array .int
  | 25 => .int
  | 26 => .array .int
  | 27 => .int
  | 28 => .boolean
  | 29 => .array .int
  | 30 => .array .int
  | 31 => .array .int
  | 32 => .array .int
  | 33 => .array .int
  | 34 => .array .int
  | 35 => .array .int
  | 36 => .array .boolean
  | 37 => .array .boolean
  | 38 => .array .boolean
  | 39 => .array .boolean
  | 40 => .int
  | 41 => .boolean
  | 42 => .array .int
  | 43 => .array .int
  | 44 => .array .int
  | 45 => .array .int
  | 46 => .array .int
  | 47 => .array .int
  | 48 => .int
  | 49 => .int
  | 50 => .int
  | 51 => .array .int
  | 52 => .array .int
  | 53 => .array .int
  | 54 => .array .int
  | 55 => .array .int
  | 56 => .int
  | 57 => .array .int
  | 58 => .int
  | 59 => .array .int
  | 60 => .array .int
  | 61 => .array .int
  | 62 => .array .int
  | 63 => .array .int
  | 64 => .array .int
  | 65 => .array .int
  | 66 => .array .int
  | 67 => .array .boolean
  | 68 => .array .boolean
  | 69 => .array .boolean
  | 70 => .int
  | 71 => .int
  | 72 => .array .int
  | 73 => .array .int
  | 74 => .array .int
  | 75 => .array .int
  | 76 => .array .int
  | 77 => .array .int
  | 78 => .array .int
  | 79 => .int
  | 80 => .array .int
  | 81 => .array .int
  | 82 => .int
  | 83 => .int
  | 84 => .int
  | 85 => .int
  | 86 => .int
  | _ => .int
abbrev wsX120 : List Cond := u_ws RX12 TX12 88
theorem nmX12 : ∀ a, a < 88 → ∀ b, b < 88 → a ≠ b → (TX12 a).2.1 ≠ (TX12 b).2.1 := by decide +kernel
theorem tyX12_ok : ∀ k, k < 88 → parseFieldDescriptor (TX12 k).2.2.1 = some (tyX12 k) := by decide +kernel
abbrev cX12_init : ByteArray := prog_14_method_1_code
def yX12_init : MethodName := ⟨RX12, "<init>", "()V"⟩
abbrev cX12_min : ByteArray := prog_14_method_3_code
def yX12_min : MethodName := ⟨RX12, "min", "(II)I"⟩
abbrev cX12_max : ByteArray := prog_14_method_4_code
def yX12_max : MethodName := ⟨RX12, "max", "(II)I"⟩
abbrev cX12_between : ByteArray := prog_14_method_5_code
def yX12_between : MethodName := ⟨RX12, "between", "(III)I"⟩
abbrev cX12_event : ByteArray := prog_14_method_6_code
def yX12_event : MethodName := ⟨RX12, "event", "(ZIII)Z"⟩
abbrev cX12_point : ByteArray := prog_14_method_7_code
def yX12_point : MethodName := ⟨RX12, "point", "(II)Z"⟩
abbrev cX12_press : ByteArray := prog_14_method_8_code
def yX12_press : MethodName := ⟨RX12, "press", "(Z)Z"⟩
abbrev cX12_wheel : ByteArray := prog_14_method_9_code
def yX12_wheel : MethodName := ⟨RX12, "wheel", "(I)Z"⟩
abbrev cX12_key : ByteArray := prog_14_method_10_code
def yX12_key : MethodName := ⟨RX12, "key", "(IZ)Z"⟩
abbrev cX12_letter : ByteArray := prog_14_method_11_code
def yX12_letter : MethodName := ⟨RX12, "letter", "(I)Z"⟩
abbrev cX12_take : ByteArray := prog_14_method_12_code
def yX12_take : MethodName := ⟨RX12, "take", "(III)V"⟩
abbrev cX12_takeAll : ByteArray := prog_14_method_13_code
def yX12_takeAll : MethodName := ⟨RX12, "takeAll", "()I"⟩
abbrev cX12_height : ByteArray := prog_14_method_14_code
def yX12_height : MethodName := ⟨RX12, "height", "(I)I"⟩
abbrev cX12_isIn : ByteArray := prog_14_method_15_code
def yX12_isIn : MethodName := ⟨RX12, "isIn", "(IIIIII)Z"⟩
abbrev cX12_hasMouse : ByteArray := prog_14_method_16_code
def yX12_hasMouse : MethodName := ⟨RX12, "hasMouse", "(I)Z"⟩
abbrev cX12_findWindow : ByteArray := prog_14_method_17_code
def yX12_findWindow : MethodName := ⟨RX12, "findWindow", "()V"⟩
abbrev cX12_begin : ByteArray := prog_14_method_18_code
def yX12_begin : MethodName := ⟨RX12, "begin", "()I"⟩
abbrev cX12_fails : ByteArray := prog_14_method_19_code
def yX12_fails : MethodName := ⟨RX12, "fails", "(I)I"⟩
abbrev cX12_breaks : ByteArray := prog_14_method_20_code
def yX12_breaks : MethodName := ⟨RX12, "breaks", "()I"⟩
abbrev cX12_wasTold : ByteArray := prog_14_method_21_code
def yX12_wasTold : MethodName := ⟨RX12, "wasTold", "(I)Z"⟩
abbrev cX12_hasBehaved : ByteArray := prog_14_method_22_code
def yX12_hasBehaved : MethodName := ⟨RX12, "hasBehaved", "(I)Z"⟩
abbrev cX12_give : ByteArray := prog_14_method_23_code
def yX12_give : MethodName := ⟨RX12, "give", "(I)V"⟩
abbrev cX12_end : ByteArray := prog_14_method_24_code
def yX12_end : MethodName := ⟨RX12, "end", "()I"⟩
abbrev cX12_copyList : ByteArray := prog_14_method_25_code
def yX12_copyList : MethodName := ⟨RX12, "copyList", "(I)V"⟩
abbrev cX12_quad : ByteArray := prog_14_method_26_code
def yX12_quad : MethodName := ⟨RX12, "quad", "(IIIIIIIIII)V"⟩
abbrev cX12_quadClipped : ByteArray := prog_14_method_27_code
def yX12_quadClipped : MethodName := ⟨RX12, "quadClipped", "(IIIIII)V"⟩
abbrev cX12_digits : ByteArray := prog_14_method_28_code
def yX12_digits : MethodName := ⟨RX12, "digits", "(I)V"⟩
abbrev cX12_shape : ByteArray := prog_14_method_29_code
def yX12_shape : MethodName := ⟨RX12, "shape", "(I)V"⟩
abbrev cX12_openThing : ByteArray := prog_14_method_30_code
def yX12_openThing : MethodName := ⟨RX12, "openThing", "(III)V"⟩
abbrev cX12_area : ByteArray := prog_14_method_31_code
def yX12_area : MethodName := ⟨RX12, "area", "(II)I"⟩
abbrev cX12_push : ByteArray := prog_14_method_32_code
def yX12_push : MethodName := ⟨RX12, "push", "(I)V"⟩
abbrev cX12_tell : ByteArray := prog_14_method_33_code
def yX12_tell : MethodName := ⟨RX12, "tell", "(I)V"⟩
abbrev cX12_isLabel : ByteArray := prog_14_method_34_code
def yX12_isLabel : MethodName := ⟨RX12, "isLabel", "(I)Z"⟩
abbrev cX12_tellWindow : ByteArray := prog_14_method_35_code
def yX12_tellWindow : MethodName := ⟨RX12, "tellWindow", "(III)V"⟩
abbrev cX12_window : ByteArray := prog_14_method_36_code
def yX12_window : MethodName := ⟨RX12, "window", "(IIIII)Z"⟩
abbrev cX12_open : ByteArray := prog_14_method_37_code
def yX12_open : MethodName := ⟨RX12, "open", "(I)Z"⟩
abbrev cX12_popup : ByteArray := prog_14_method_38_code
def yX12_popup : MethodName := ⟨RX12, "popup", "(III)Z"⟩
abbrev cX12_dismiss : ByteArray := prog_14_method_39_code
def yX12_dismiss : MethodName := ⟨RX12, "dismiss", "()Z"⟩
abbrev cX12_close : ByteArray := prog_14_method_40_code
def yX12_close : MethodName := ⟨RX12, "close", "()I"⟩
abbrev cX12_nextX : ByteArray := prog_14_method_41_code
def yX12_nextX : MethodName := ⟨RX12, "nextX", "(I)I"⟩
abbrev cX12_nextY : ByteArray := prog_14_method_42_code
def yX12_nextY : MethodName := ⟨RX12, "nextY", "(I)I"⟩
abbrev cX12_put : ByteArray := prog_14_method_43_code
def yX12_put : MethodName := ⟨RX12, "put", "(IZIIII)V"⟩
abbrev cX12_idOf : ByteArray := prog_14_method_44_code
def yX12_idOf : MethodName := ⟨RX12, "idOf", "(I)I"⟩
abbrev cX12_lay : ByteArray := prog_14_method_45_code
def yX12_lay : MethodName := ⟨RX12, "lay", "(III)I"⟩
abbrev cX12_behaves : ByteArray := prog_14_method_46_code
def yX12_behaves : MethodName := ⟨RX12, "behaves", "(I)Z"⟩
abbrev cX12_find : ByteArray := prog_14_method_47_code
def yX12_find : MethodName := ⟨RX12, "find", "(I)I"⟩
abbrev cX12_made : ByteArray := prog_14_method_48_code
def yX12_made : MethodName := ⟨RX12, "made", "(I)I"⟩
abbrev cX12_numberOf : ByteArray := prog_14_method_49_code
def yX12_numberOf : MethodName := ⟨RX12, "numberOf", "(I)I"⟩
abbrev cX12_keep : ByteArray := prog_14_method_50_code
def yX12_keep : MethodName := ⟨RX12, "keep", "(II)V"⟩
abbrev cX12_bars : ByteArray := prog_14_method_51_code
def yX12_bars : MethodName := ⟨RX12, "bars", "(Z)Z"⟩
abbrev cX12_button : ByteArray := prog_14_method_52_code
def yX12_button : MethodName := ⟨RX12, "button", "(II)Z"⟩
abbrev cX12_check : ByteArray := prog_14_method_53_code
def yX12_check : MethodName := ⟨RX12, "check", "(I)I"⟩
abbrev cX12_slider : ByteArray := prog_14_method_54_code
def yX12_slider : MethodName := ⟨RX12, "slider", "(IIII)I"⟩
abbrev cX12_field : ByteArray := prog_14_method_55_code
def yX12_field : MethodName := ⟨RX12, "field", "(II)I"⟩
abbrev cX12_edit : ByteArray := prog_14_method_56_code
def yX12_edit : MethodName := ⟨RX12, "edit", "(I)V"⟩
abbrev cX12_tree : ByteArray := prog_14_method_57_code
def yX12_tree : MethodName := ⟨RX12, "tree", "(II)Z"⟩
abbrev cX12_child : ByteArray := prog_14_method_58_code
def yX12_child : MethodName := ⟨RX12, "child", "(III)V"⟩
abbrev cX12_scope : ByteArray := prog_14_method_59_code
def yX12_scope : MethodName := ⟨RX12, "scope", "(I)V"⟩
abbrev cX12_group : ByteArray := prog_14_method_60_code
def yX12_group : MethodName := ⟨RX12, "group", "()V"⟩
abbrev cX12_near : ByteArray := prog_14_method_61_code
def yX12_near : MethodName := ⟨RX12, "near", "()V"⟩
abbrev cX12_look : ByteArray := prog_14_method_62_code
def yX12_look : MethodName := ⟨RX12, "look", "(I)I"⟩
abbrev cX12_place : ByteArray := prog_14_method_63_code
def yX12_place : MethodName := ⟨RX12, "place", "(II)I"⟩
abbrev cX12_kept : ByteArray := prog_14_method_64_code
def yX12_kept : MethodName := ⟨RX12, "kept", "(I)I"⟩
abbrev cX12_text : ByteArray := prog_14_method_65_code
def yX12_text : MethodName := ⟨RX12, "text", "(II)I"⟩
abbrev cX12_walk : ByteArray := prog_14_method_66_code
def yX12_walk : MethodName := ⟨RX12, "walk", "(I)V"⟩
abbrev cX12_drawnCount : ByteArray := prog_14_method_67_code
def yX12_drawnCount : MethodName := ⟨RX12, "drawnCount", "(I)I"⟩
abbrev cX12_drawn : ByteArray := prog_14_method_68_code
def yX12_drawn : MethodName := ⟨RX12, "drawn", "(I)I"⟩
abbrev cX12_command : ByteArray := prog_14_method_69_code
def yX12_command : MethodName := ⟨RX12, "command", "(II)I"⟩
abbrev cX12_index : ByteArray := prog_14_method_70_code
def yX12_index : MethodName := ⟨RX12, "index", "(I)I"⟩
abbrev cX12_vertex : ByteArray := prog_14_method_71_code
def yX12_vertex : MethodName := ⟨RX12, "vertex", "(II)I"⟩
def RJx8e188 : String := "java/lang/Cloneable"
def TJx8e188 : u_T := fun k => match k with
  | _ => ("", "", "", false)
def tyJx8e188 : Nat → FieldType := fun k => match k with
  | _ => .int
abbrev wsJx8e1880 : List Cond := u_ws RJx8e188 TJx8e188 0
theorem nmJx8e188 : ∀ a, a < 0 → ∀ b, b < 0 → a ≠ b → (TJx8e188 a).2.1 ≠ (TJx8e188 b).2.1 := by decide +kernel
theorem tyJx8e188_ok : ∀ k, k < 0 → parseFieldDescriptor (TJx8e188 k).2.2.1 = some (tyJx8e188 k) := by decide +kernel
def RJ9 : String := "java/lang/Math"
def TJ9 : u_T := fun k => match k with
  | _ => ("", "", "", false)
def tyJ9 : Nat → FieldType := fun k => match k with
  | _ => .int
abbrev wsJ90 : List Cond := u_ws RJ9 TJ9 0
theorem nmJ9 : ∀ a, a < 0 → ∀ b, b < 0 → a ≠ b → (TJ9 a).2.1 ≠ (TJ9 b).2.1 := by decide +kernel
theorem tyJ9_ok : ∀ k, k < 0 → parseFieldDescriptor (TJ9 k).2.2.1 = some (tyJ9 k) := by decide +kernel
abbrev cJ9_max_7cf53 : ByteArray := prog_19_method_65_code
def yJ9_max_7cf53 : MethodName := ⟨RJ9, "max", "(II)I"⟩
abbrev cJ9_min_7cf53 : ByteArray := prog_19_method_69_code
def yJ9_min_7cf53 : MethodName := ⟨RJ9, "min", "(II)I"⟩
def RJ0 : String := "java/lang/String"
def TJ0 : u_T := fun k => match k with
  | _ => ("", "", "", false)
def tyJ0 : Nat → FieldType := fun k => match k with
  | _ => .int
abbrev wsJ00 : List Cond := u_ws RJ0 TJ0 0
theorem nmJ0 : ∀ a, a < 0 → ∀ b, b < 0 → a ≠ b → (TJ0 a).2.1 ≠ (TJ0 b).2.1 := by decide +kernel
theorem tyJ0_ok : ∀ k, k < 0 → parseFieldDescriptor (TJ0 k).2.2.1 = some (tyJ0 k) := by decide +kernel
def RJ10 : String := "java/lang/System"
def TJ10 : u_T := fun k => match k with
  | _ => ("", "", "", false)
def tyJ10 : Nat → FieldType := fun k => match k with
  | _ => .int
abbrev wsJ100 : List Cond := u_ws RJ10 TJ10 0
theorem nmJ10 : ∀ a, a < 0 → ∀ b, b < 0 → a ≠ b → (TJ10 a).2.1 ≠ (TJ10 b).2.1 := by decide +kernel
theorem tyJ10_ok : ∀ k, k < 0 → parseFieldDescriptor (TJ10 k).2.2.1 = some (tyJ10 k) := by decide +kernel
def RJ7 : String := "java/util/Arrays"
def TJ7 : u_T := fun k => match k with
  | _ => ("", "", "", false)
def tyJ7 : Nat → FieldType := fun k => match k with
  | _ => .int
abbrev wsJ70 : List Cond := u_ws RJ7 TJ7 0
theorem nmJ7 : ∀ a, a < 0 → ∀ b, b < 0 → a ≠ b → (TJ7 a).2.1 ≠ (TJ7 b).2.1 := by decide +kernel
theorem tyJ7_ok : ∀ k, k < 0 → parseFieldDescriptor (TJ7 k).2.2.1 = some (tyJ7 k) := by decide +kernel
abbrev cJ7_copyOf_59c91 : ByteArray := prog_24_method_123_code
def yJ7_copyOf_59c91 : MethodName := ⟨RJ7, "copyOf", "([II)[I"⟩
def RL : String := "PanelFramesLaw"
abbrev cL_begin : ByteArray := method_3_code
def yL_begin : MethodName := ⟨RL, "begin", "(LPanelFrames;[J)I"⟩
abbrev cL_end : ByteArray := method_4_code
def yL_end : MethodName := ⟨RL, "end", "(LPanelFrames;[J)I"⟩
abbrev cL_window : ByteArray := method_5_code
def yL_window : MethodName := ⟨RL, "window", "(LPanelFrames;IIIII[J)I"⟩
abbrev cL_open : ByteArray := method_6_code
def yL_open : MethodName := ⟨RL, "open", "(LPanelFrames;I[J)I"⟩
abbrev cL_popup : ByteArray := method_7_code
def yL_popup : MethodName := ⟨RL, "popup", "(LPanelFrames;III[J)I"⟩
abbrev cL_close : ByteArray := method_8_code
def yL_close : MethodName := ⟨RL, "close", "(LPanelFrames;[J)I"⟩
abbrev cL_button : ByteArray := method_9_code
def yL_button : MethodName := ⟨RL, "button", "(LPanelFrames;II[J)I"⟩
abbrev cL_check : ByteArray := method_10_code
def yL_check : MethodName := ⟨RL, "check", "(LPanelFrames;I[J)I"⟩
abbrev cL_slider : ByteArray := method_11_code
def yL_slider : MethodName := ⟨RL, "slider", "(LPanelFrames;IIII[J)I"⟩
abbrev cL_field : ByteArray := method_12_code
def yL_field : MethodName := ⟨RL, "field", "(LPanelFrames;II[J)I"⟩
abbrev cL_tree : ByteArray := method_13_code
def yL_tree : MethodName := ⟨RL, "tree", "(LPanelFrames;II[J)I"⟩
abbrev cL_child : ByteArray := method_14_code
def yL_child : MethodName := ⟨RL, "child", "(LPanelFrames;III)I"⟩
abbrev cL_scope : ByteArray := method_15_code
def yL_scope : MethodName := ⟨RL, "scope", "(LPanelFrames;I)I"⟩
abbrev cL_group : ByteArray := method_16_code
def yL_group : MethodName := ⟨RL, "group", "(LPanelFrames;)I"⟩
abbrev cL_near : ByteArray := method_17_code
def yL_near : MethodName := ⟨RL, "near", "(LPanelFrames;)I"⟩
abbrev cL_law : ByteArray := code
def yL_law : MethodName := ⟨RL, "law", "([I)Z"⟩
abbrev vwCl : List vw_C := [(RX0, TX0, 12), (RX1, TX1, 9), (RX2, TX2, 4), (RX3, TX3, 7), (RX4, TX4, 5), (RX5, TX5, 16), (RX6, TX6, 7), (RX7, TX7, 14), (RX8, TX8, 6), (RX9, TX9, 6), (RX10, TX10, 6), (RX11, TX11, 12), (RX12, TX12, 88)]
