section
-- ===== PART A: goes FIRST, ahead of the names: the tables' words, and 'selects' of the private methods out of them =====
/-- a private method of a class that the tables say can be made, by its rows of tables_1 -/
def lw_okq (q : MethodName × Nat) : Prop := (q.1.cls ≠ "java/lang/invoke/MethodHandle" ∧ q.1.cls ≠ "java/lang/invoke/VarHandle") ∧ Cond.instantiable q.1.cls q.2 ∈ tables_1 ∧ Cond.privateMethod q.1 ∈ tables_1 ∧ Cond.instanceMethod q.1 ∈ tables_1
theorem lw_p0 : lw_okq (⟨"ThrowersBag", "newStick", "(IIIII)I"⟩, 19) := ⟨⟨by decide +kernel, by decide +kernel⟩, List.mem_of_getElem? (i := 18) (by decide +kernel), List.mem_of_getElem? (i := 385) (by decide +kernel), List.mem_of_getElem? (i := 386) (by decide +kernel)⟩
theorem lw_p1 : lw_okq (⟨"ThrowersBag", "isStick", "(I)Z"⟩, 19) := ⟨⟨by decide +kernel, by decide +kernel⟩, List.mem_of_getElem? (i := 18) (by decide +kernel), List.mem_of_getElem? (i := 404) (by decide +kernel), List.mem_of_getElem? (i := 405) (by decide +kernel)⟩
theorem lw_p2 : lw_okq (⟨"ThrowersBag", "isWind", "(I)Z"⟩, 19) := ⟨⟨by decide +kernel, by decide +kernel⟩, List.mem_of_getElem? (i := 18) (by decide +kernel), List.mem_of_getElem? (i := 435) (by decide +kernel), List.mem_of_getElem? (i := 436) (by decide +kernel)⟩
theorem lw_p3 : lw_okq (⟨"ThrowersBag", "isThrow", "(IIIIII)Z"⟩, 19) := ⟨⟨by decide +kernel, by decide +kernel⟩, List.mem_of_getElem? (i := 18) (by decide +kernel), List.mem_of_getElem? (i := 473) (by decide +kernel), List.mem_of_getElem? (i := 474) (by decide +kernel)⟩
theorem lw_p4 : lw_okq (⟨"ThrowersBag", "isWindOrNone", "(I)Z"⟩, 19) := ⟨⟨by decide +kernel, by decide +kernel⟩, List.mem_of_getElem? (i := 18) (by decide +kernel), List.mem_of_getElem? (i := 480) (by decide +kernel), List.mem_of_getElem? (i := 481) (by decide +kernel)⟩
theorem lw_p5 : lw_okq (⟨"ThrowersBag", "endOf", "(LThrowersBag$Flight;LThrowersBag$Aim;I)I"⟩, 19) := ⟨⟨by decide +kernel, by decide +kernel⟩, List.mem_of_getElem? (i := 18) (by decide +kernel), List.mem_of_getElem? (i := 485) (by decide +kernel), List.mem_of_getElem? (i := 486) (by decide +kernel)⟩
theorem lw_p6 : lw_okq (⟨"ThrowersBag", "wasInLatest", "(I)Z"⟩, 19) := ⟨⟨by decide +kernel, by decide +kernel⟩, List.mem_of_getElem? (i := 18) (by decide +kernel), List.mem_of_getElem? (i := 531) (by decide +kernel), List.mem_of_getElem? (i := 532) (by decide +kernel)⟩
theorem lw_p7 : lw_okq (⟨"ThrowersBag", "bagBits", "()I"⟩, 19) := ⟨⟨by decide +kernel, by decide +kernel⟩, List.mem_of_getElem? (i := 18) (by decide +kernel), List.mem_of_getElem? (i := 555) (by decide +kernel), List.mem_of_getElem? (i := 556) (by decide +kernel)⟩
theorem lw_p8 : lw_okq (⟨"ThrowersBag", "bestOfStick", "(III)I"⟩, 19) := ⟨⟨by decide +kernel, by decide +kernel⟩, List.mem_of_getElem? (i := 18) (by decide +kernel), List.mem_of_getElem? (i := 559) (by decide +kernel), List.mem_of_getElem? (i := 560) (by decide +kernel)⟩
theorem lw_p9 : lw_okq (⟨"ThrowersBag", "backsIn", "(II)I"⟩, 19) := ⟨⟨by decide +kernel, by decide +kernel⟩, List.mem_of_getElem? (i := 18) (by decide +kernel), List.mem_of_getElem? (i := 567) (by decide +kernel), List.mem_of_getElem? (i := 568) (by decide +kernel)⟩
theorem lw_p10 : lw_okq (⟨"ThrowersBag", "comesBack", "(LThrowersBag$Aim;)Z"⟩, 19) := ⟨⟨by decide +kernel, by decide +kernel⟩, List.mem_of_getElem? (i := 18) (by decide +kernel), List.mem_of_getElem? (i := 577) (by decide +kernel), List.mem_of_getElem? (i := 578) (by decide +kernel)⟩
theorem lw_p11 : lw_okq (⟨"ThrowersBag", "rememberChoice", "()V"⟩, 19) := ⟨⟨by decide +kernel, by decide +kernel⟩, List.mem_of_getElem? (i := 18) (by decide +kernel), List.mem_of_getElem? (i := 581) (by decide +kernel), List.mem_of_getElem? (i := 582) (by decide +kernel)⟩
theorem lw_p12 : lw_okq (⟨"ThrowersBag", "pointsOf", "(II)I"⟩, 19) := ⟨⟨by decide +kernel, by decide +kernel⟩, List.mem_of_getElem? (i := 18) (by decide +kernel), List.mem_of_getElem? (i := 612) (by decide +kernel), List.mem_of_getElem? (i := 613) (by decide +kernel)⟩
theorem lw_p13 : lw_okq (⟨"ThrowersBag", "playMatch", "()V"⟩, 19) := ⟨⟨by decide +kernel, by decide +kernel⟩, List.mem_of_getElem? (i := 18) (by decide +kernel), List.mem_of_getElem? (i := 630) (by decide +kernel), List.mem_of_getElem? (i := 631) (by decide +kernel)⟩
theorem lw_p14 : lw_okq (⟨"ThrowersBag", "fillPoints", "(II)V"⟩, 19) := ⟨⟨by decide +kernel, by decide +kernel⟩, List.mem_of_getElem? (i := 18) (by decide +kernel), List.mem_of_getElem? (i := 634) (by decide +kernel), List.mem_of_getElem? (i := 635) (by decide +kernel)⟩
theorem lw_p15 : lw_okq (⟨"ThrowersBag$Match", "tryThrow", "(III)V"⟩, 6) := ⟨⟨by decide +kernel, by decide +kernel⟩, List.mem_of_getElem? (i := 183) (by decide +kernel), List.mem_of_getElem? (i := 642) (by decide +kernel), List.mem_of_getElem? (i := 643) (by decide +kernel)⟩
def lw_privs_1 : List (MethodName × Nat) := [(⟨"ThrowersBag", "newStick", "(IIIII)I"⟩, 19), (⟨"ThrowersBag", "isStick", "(I)Z"⟩, 19), (⟨"ThrowersBag", "isWind", "(I)Z"⟩, 19), (⟨"ThrowersBag", "isThrow", "(IIIIII)Z"⟩, 19), (⟨"ThrowersBag", "isWindOrNone", "(I)Z"⟩, 19), (⟨"ThrowersBag", "endOf", "(LThrowersBag$Flight;LThrowersBag$Aim;I)I"⟩, 19), (⟨"ThrowersBag", "wasInLatest", "(I)Z"⟩, 19), (⟨"ThrowersBag", "bagBits", "()I"⟩, 19), (⟨"ThrowersBag", "bestOfStick", "(III)I"⟩, 19), (⟨"ThrowersBag", "backsIn", "(II)I"⟩, 19), (⟨"ThrowersBag", "comesBack", "(LThrowersBag$Aim;)Z"⟩, 19), (⟨"ThrowersBag", "rememberChoice", "()V"⟩, 19), (⟨"ThrowersBag", "pointsOf", "(II)I"⟩, 19), (⟨"ThrowersBag", "playMatch", "()V"⟩, 19), (⟨"ThrowersBag", "fillPoints", "(II)V"⟩, 19), (⟨"ThrowersBag$Match", "tryThrow", "(III)V"⟩, 6)]
theorem lw_r1 : ∀ q ∈ lw_privs_1, lw_okq q := List.forall_mem_cons.mpr ⟨lw_p0, List.forall_mem_cons.mpr ⟨lw_p1, List.forall_mem_cons.mpr ⟨lw_p2, List.forall_mem_cons.mpr ⟨lw_p3, List.forall_mem_cons.mpr ⟨lw_p4, List.forall_mem_cons.mpr ⟨lw_p5, List.forall_mem_cons.mpr ⟨lw_p6, List.forall_mem_cons.mpr ⟨lw_p7, List.forall_mem_cons.mpr ⟨lw_p8, List.forall_mem_cons.mpr ⟨lw_p9, List.forall_mem_cons.mpr ⟨lw_p10, List.forall_mem_cons.mpr ⟨lw_p11, List.forall_mem_cons.mpr ⟨lw_p12, List.forall_mem_cons.mpr ⟨lw_p13, List.forall_mem_cons.mpr ⟨lw_p14, List.forall_mem_cons.mpr ⟨lw_p15, fun _ h => absurd h List.not_mem_nil⟩⟩⟩⟩⟩⟩⟩⟩⟩⟩⟩⟩⟩⟩⟩⟩
theorem lw_p16 : lw_okq (⟨"ThrowersBag", "isRow", "(IIIIIII)Z"⟩, 19) := ⟨⟨by decide +kernel, by decide +kernel⟩, List.mem_of_getElem? (i := 18) (by decide +kernel), List.mem_of_getElem? (i := 657) (by decide +kernel), List.mem_of_getElem? (i := 658) (by decide +kernel)⟩
theorem lw_p17 : lw_okq (⟨"ThrowersBag", "addRow", "(IIIIIII)V"⟩, 19) := ⟨⟨by decide +kernel, by decide +kernel⟩, List.mem_of_getElem? (i := 18) (by decide +kernel), List.mem_of_getElem? (i := 661) (by decide +kernel), List.mem_of_getElem? (i := 662) (by decide +kernel)⟩
theorem lw_p18 : lw_okq (⟨"ThrowersBag", "missOf", "(LThrowersBag$Row;I)I"⟩, 19) := ⟨⟨by decide +kernel, by decide +kernel⟩, List.mem_of_getElem? (i := 18) (by decide +kernel), List.mem_of_getElem? (i := 669) (by decide +kernel), List.mem_of_getElem? (i := 670) (by decide +kernel)⟩
theorem lw_p19 : lw_okq (⟨"ThrowersBag", "rowsOf", "(I)I"⟩, 19) := ⟨⟨by decide +kernel, by decide +kernel⟩, List.mem_of_getElem? (i := 18) (by decide +kernel), List.mem_of_getElem? (i := 678) (by decide +kernel), List.mem_of_getElem? (i := 679) (by decide +kernel)⟩
theorem lw_p20 : lw_okq (⟨"ThrowersBag", "explainedBend", "(I)I"⟩, 19) := ⟨⟨by decide +kernel, by decide +kernel⟩, List.mem_of_getElem? (i := 18) (by decide +kernel), List.mem_of_getElem? (i := 682) (by decide +kernel), List.mem_of_getElem? (i := 683) (by decide +kernel)⟩
theorem lw_p21 : lw_okq (⟨"ThrowersBag", "missSum", "(II)I"⟩, 19) := ⟨⟨by decide +kernel, by decide +kernel⟩, List.mem_of_getElem? (i := 18) (by decide +kernel), List.mem_of_getElem? (i := 686) (by decide +kernel), List.mem_of_getElem? (i := 687) (by decide +kernel)⟩
theorem lw_p22 : lw_okq (⟨"ThrowersBag", "faultOf", "(II)I"⟩, 19) := ⟨⟨by decide +kernel, by decide +kernel⟩, List.mem_of_getElem? (i := 18) (by decide +kernel), List.mem_of_getElem? (i := 702) (by decide +kernel), List.mem_of_getElem? (i := 703) (by decide +kernel)⟩
theorem lw_p23 : lw_okq (⟨"ThrowersBag", "holdsRow", "([II)Z"⟩, 19) := ⟨⟨by decide +kernel, by decide +kernel⟩, List.mem_of_getElem? (i := 18) (by decide +kernel), List.mem_of_getElem? (i := 720) (by decide +kernel), List.mem_of_getElem? (i := 721) (by decide +kernel)⟩
theorem lw_p24 : lw_okq (⟨"ThrowersBag", "addRowFrom", "([II)V"⟩, 19) := ⟨⟨by decide +kernel, by decide +kernel⟩, List.mem_of_getElem? (i := 18) (by decide +kernel), List.mem_of_getElem? (i := 724) (by decide +kernel), List.mem_of_getElem? (i := 725) (by decide +kernel)⟩
theorem lw_p25 : lw_okq (⟨"ThrowersBagModel", "sine", "(I)I"⟩, 50) := ⟨⟨by decide +kernel, by decide +kernel⟩, List.mem_of_getElem? (i := 802) (by decide +kernel), List.mem_of_getElem? (i := 967) (by decide +kernel), List.mem_of_getElem? (i := 968) (by decide +kernel)⟩
theorem lw_p26 : lw_okq (⟨"ThrowersBagModel", "cosine", "(I)I"⟩, 50) := ⟨⟨by decide +kernel, by decide +kernel⟩, List.mem_of_getElem? (i := 802) (by decide +kernel), List.mem_of_getElem? (i := 971) (by decide +kernel), List.mem_of_getElem? (i := 972) (by decide +kernel)⟩
theorem lw_p27 : lw_okq (⟨"ThrowersBagModel", "comes", "(IIIII)I"⟩, 50) := ⟨⟨by decide +kernel, by decide +kernel⟩, List.mem_of_getElem? (i := 802) (by decide +kernel), List.mem_of_getElem? (i := 979) (by decide +kernel), List.mem_of_getElem? (i := 980) (by decide +kernel)⟩
theorem lw_p28 : lw_okq (⟨"ThrowersBagModel", "isStick", "(I)Z"⟩, 50) := ⟨⟨by decide +kernel, by decide +kernel⟩, List.mem_of_getElem? (i := 802) (by decide +kernel), List.mem_of_getElem? (i := 996) (by decide +kernel), List.mem_of_getElem? (i := 997) (by decide +kernel)⟩
theorem lw_p29 : lw_okq (⟨"ThrowersBagModel", "isThrow", "(JJJJJ)Z"⟩, 50) := ⟨⟨by decide +kernel, by decide +kernel⟩, List.mem_of_getElem? (i := 802) (by decide +kernel), List.mem_of_getElem? (i := 1046) (by decide +kernel), List.mem_of_getElem? (i := 1047) (by decide +kernel)⟩
theorem lw_p30 : lw_okq (⟨"ThrowersBagModel", "isWind", "(I)Z"⟩, 50) := ⟨⟨by decide +kernel, by decide +kernel⟩, List.mem_of_getElem? (i := 802) (by decide +kernel), List.mem_of_getElem? (i := 1054) (by decide +kernel), List.mem_of_getElem? (i := 1055) (by decide +kernel)⟩
theorem lw_p31 : lw_okq (⟨"ThrowersBagModel", "flies", "(IIIIIII)I"⟩, 50) := ⟨⟨by decide +kernel, by decide +kernel⟩, List.mem_of_getElem? (i := 802) (by decide +kernel), List.mem_of_getElem? (i := 1059) (by decide +kernel), List.mem_of_getElem? (i := 1060) (by decide +kernel)⟩
def lw_privs_2 : List (MethodName × Nat) := [(⟨"ThrowersBag", "isRow", "(IIIIIII)Z"⟩, 19), (⟨"ThrowersBag", "addRow", "(IIIIIII)V"⟩, 19), (⟨"ThrowersBag", "missOf", "(LThrowersBag$Row;I)I"⟩, 19), (⟨"ThrowersBag", "rowsOf", "(I)I"⟩, 19), (⟨"ThrowersBag", "explainedBend", "(I)I"⟩, 19), (⟨"ThrowersBag", "missSum", "(II)I"⟩, 19), (⟨"ThrowersBag", "faultOf", "(II)I"⟩, 19), (⟨"ThrowersBag", "holdsRow", "([II)Z"⟩, 19), (⟨"ThrowersBag", "addRowFrom", "([II)V"⟩, 19), (⟨"ThrowersBagModel", "sine", "(I)I"⟩, 50), (⟨"ThrowersBagModel", "cosine", "(I)I"⟩, 50), (⟨"ThrowersBagModel", "comes", "(IIIII)I"⟩, 50), (⟨"ThrowersBagModel", "isStick", "(I)Z"⟩, 50), (⟨"ThrowersBagModel", "isThrow", "(JJJJJ)Z"⟩, 50), (⟨"ThrowersBagModel", "isWind", "(I)Z"⟩, 50), (⟨"ThrowersBagModel", "flies", "(IIIIIII)I"⟩, 50)]
theorem lw_r2 : ∀ q ∈ lw_privs_2, lw_okq q := List.forall_mem_cons.mpr ⟨lw_p16, List.forall_mem_cons.mpr ⟨lw_p17, List.forall_mem_cons.mpr ⟨lw_p18, List.forall_mem_cons.mpr ⟨lw_p19, List.forall_mem_cons.mpr ⟨lw_p20, List.forall_mem_cons.mpr ⟨lw_p21, List.forall_mem_cons.mpr ⟨lw_p22, List.forall_mem_cons.mpr ⟨lw_p23, List.forall_mem_cons.mpr ⟨lw_p24, List.forall_mem_cons.mpr ⟨lw_p25, List.forall_mem_cons.mpr ⟨lw_p26, List.forall_mem_cons.mpr ⟨lw_p27, List.forall_mem_cons.mpr ⟨lw_p28, List.forall_mem_cons.mpr ⟨lw_p29, List.forall_mem_cons.mpr ⟨lw_p30, List.forall_mem_cons.mpr ⟨lw_p31, fun _ h => absurd h List.not_mem_nil⟩⟩⟩⟩⟩⟩⟩⟩⟩⟩⟩⟩⟩⟩⟩⟩
theorem lw_p32 : lw_okq (⟨"ThrowersBagModel", "keepsTick", "()V"⟩, 50) := ⟨⟨by decide +kernel, by decide +kernel⟩, List.mem_of_getElem? (i := 802) (by decide +kernel), List.mem_of_getElem? (i := 1063) (by decide +kernel), List.mem_of_getElem? (i := 1064) (by decide +kernel)⟩
theorem lw_p33 : lw_okq (⟨"ThrowersBagModel", "steps", "(III)V"⟩, 50) := ⟨⟨by decide +kernel, by decide +kernel⟩, List.mem_of_getElem? (i := 802) (by decide +kernel), List.mem_of_getElem? (i := 1067) (by decide +kernel), List.mem_of_getElem? (i := 1068) (by decide +kernel)⟩
theorem lw_p34 : lw_okq (⟨"ThrowersBagModel", "liftOf", "(I)I"⟩, 50) := ⟨⟨by decide +kernel, by decide +kernel⟩, List.mem_of_getElem? (i := 802) (by decide +kernel), List.mem_of_getElem? (i := 1071) (by decide +kernel), List.mem_of_getElem? (i := 1072) (by decide +kernel)⟩
theorem lw_p35 : lw_okq (⟨"ThrowersBagModel", "ending", "()I"⟩, 50) := ⟨⟨by decide +kernel, by decide +kernel⟩, List.mem_of_getElem? (i := 802) (by decide +kernel), List.mem_of_getElem? (i := 1080) (by decide +kernel), List.mem_of_getElem? (i := 1081) (by decide +kernel)⟩
theorem lw_p36 : lw_okq (⟨"ThrowersBagModel", "isNear", "(III)Z"⟩, 50) := ⟨⟨by decide +kernel, by decide +kernel⟩, List.mem_of_getElem? (i := 802) (by decide +kernel), List.mem_of_getElem? (i := 1084) (by decide +kernel), List.mem_of_getElem? (i := 1085) (by decide +kernel)⟩
theorem lw_p37 : lw_okq (⟨"ThrowersBagModel", "backs", "(IIIII)I"⟩, 50) := ⟨⟨by decide +kernel, by decide +kernel⟩, List.mem_of_getElem? (i := 802) (by decide +kernel), List.mem_of_getElem? (i := 1107) (by decide +kernel), List.mem_of_getElem? (i := 1108) (by decide +kernel)⟩
theorem lw_p38 : lw_okq (⟨"ThrowersBagModel", "caught", "(I)I"⟩, 50) := ⟨⟨by decide +kernel, by decide +kernel⟩, List.mem_of_getElem? (i := 802) (by decide +kernel), List.mem_of_getElem? (i := 1123) (by decide +kernel), List.mem_of_getElem? (i := 1124) (by decide +kernel)⟩
theorem lw_p39 : lw_okq (⟨"ThrowersBagModel", "pointsOf", "(II)I"⟩, 50) := ⟨⟨by decide +kernel, by decide +kernel⟩, List.mem_of_getElem? (i := 802) (by decide +kernel), List.mem_of_getElem? (i := 1141) (by decide +kernel), List.mem_of_getElem? (i := 1142) (by decide +kernel)⟩
theorem lw_p40 : lw_okq (⟨"ThrowersBagModel", "orders", "()I"⟩, 50) := ⟨⟨by decide +kernel, by decide +kernel⟩, List.mem_of_getElem? (i := 802) (by decide +kernel), List.mem_of_getElem? (i := 1154) (by decide +kernel), List.mem_of_getElem? (i := 1155) (by decide +kernel)⟩
theorem lw_p41 : lw_okq (⟨"ThrowersBagModel", "inBag", "()I"⟩, 50) := ⟨⟨by decide +kernel, by decide +kernel⟩, List.mem_of_getElem? (i := 802) (by decide +kernel), List.mem_of_getElem? (i := 1158) (by decide +kernel), List.mem_of_getElem? (i := 1159) (by decide +kernel)⟩
theorem lw_p42 : lw_okq (⟨"ThrowersBagModel", "isFree", "(II)Z"⟩, 50) := ⟨⟨by decide +kernel, by decide +kernel⟩, List.mem_of_getElem? (i := 802) (by decide +kernel), List.mem_of_getElem? (i := 1162) (by decide +kernel), List.mem_of_getElem? (i := 1163) (by decide +kernel)⟩
theorem lw_p43 : lw_okq (⟨"ThrowersBagModel", "compares", "()V"⟩, 50) := ⟨⟨by decide +kernel, by decide +kernel⟩, List.mem_of_getElem? (i := 802) (by decide +kernel), List.mem_of_getElem? (i := 1166) (by decide +kernel), List.mem_of_getElem? (i := 1167) (by decide +kernel)⟩
theorem lw_p44 : lw_okq (⟨"ThrowersBagModel", "isRow", "(JJJJJJJ)Z"⟩, 50) := ⟨⟨by decide +kernel, by decide +kernel⟩, List.mem_of_getElem? (i := 802) (by decide +kernel), List.mem_of_getElem? (i := 1178) (by decide +kernel), List.mem_of_getElem? (i := 1179) (by decide +kernel)⟩
theorem lw_p45 : lw_okq (⟨"ThrowersBagModel", "put", "(IIIIIII)V"⟩, 50) := ⟨⟨by decide +kernel, by decide +kernel⟩, List.mem_of_getElem? (i := 802) (by decide +kernel), List.mem_of_getElem? (i := 1184) (by decide +kernel), List.mem_of_getElem? (i := 1185) (by decide +kernel)⟩
theorem lw_p46 : lw_okq (⟨"ThrowersBagModel", "missOf", "(II)I"⟩, 50) := ⟨⟨by decide +kernel, by decide +kernel⟩, List.mem_of_getElem? (i := 802) (by decide +kernel), List.mem_of_getElem? (i := 1192) (by decide +kernel), List.mem_of_getElem? (i := 1193) (by decide +kernel)⟩
theorem lw_p47 : lw_okq (⟨"ThrowersBagModel", "rowsOf", "(I)I"⟩, 50) := ⟨⟨by decide +kernel, by decide +kernel⟩, List.mem_of_getElem? (i := 802) (by decide +kernel), List.mem_of_getElem? (i := 1203) (by decide +kernel), List.mem_of_getElem? (i := 1204) (by decide +kernel)⟩
def lw_privs_3 : List (MethodName × Nat) := [(⟨"ThrowersBagModel", "keepsTick", "()V"⟩, 50), (⟨"ThrowersBagModel", "steps", "(III)V"⟩, 50), (⟨"ThrowersBagModel", "liftOf", "(I)I"⟩, 50), (⟨"ThrowersBagModel", "ending", "()I"⟩, 50), (⟨"ThrowersBagModel", "isNear", "(III)Z"⟩, 50), (⟨"ThrowersBagModel", "backs", "(IIIII)I"⟩, 50), (⟨"ThrowersBagModel", "caught", "(I)I"⟩, 50), (⟨"ThrowersBagModel", "pointsOf", "(II)I"⟩, 50), (⟨"ThrowersBagModel", "orders", "()I"⟩, 50), (⟨"ThrowersBagModel", "inBag", "()I"⟩, 50), (⟨"ThrowersBagModel", "isFree", "(II)Z"⟩, 50), (⟨"ThrowersBagModel", "compares", "()V"⟩, 50), (⟨"ThrowersBagModel", "isRow", "(JJJJJJJ)Z"⟩, 50), (⟨"ThrowersBagModel", "put", "(IIIIIII)V"⟩, 50), (⟨"ThrowersBagModel", "missOf", "(II)I"⟩, 50), (⟨"ThrowersBagModel", "rowsOf", "(I)I"⟩, 50)]
theorem lw_r3 : ∀ q ∈ lw_privs_3, lw_okq q := List.forall_mem_cons.mpr ⟨lw_p32, List.forall_mem_cons.mpr ⟨lw_p33, List.forall_mem_cons.mpr ⟨lw_p34, List.forall_mem_cons.mpr ⟨lw_p35, List.forall_mem_cons.mpr ⟨lw_p36, List.forall_mem_cons.mpr ⟨lw_p37, List.forall_mem_cons.mpr ⟨lw_p38, List.forall_mem_cons.mpr ⟨lw_p39, List.forall_mem_cons.mpr ⟨lw_p40, List.forall_mem_cons.mpr ⟨lw_p41, List.forall_mem_cons.mpr ⟨lw_p42, List.forall_mem_cons.mpr ⟨lw_p43, List.forall_mem_cons.mpr ⟨lw_p44, List.forall_mem_cons.mpr ⟨lw_p45, List.forall_mem_cons.mpr ⟨lw_p46, List.forall_mem_cons.mpr ⟨lw_p47, fun _ h => absurd h List.not_mem_nil⟩⟩⟩⟩⟩⟩⟩⟩⟩⟩⟩⟩⟩⟩⟩⟩
theorem lw_p48 : lw_okq (⟨"ThrowersBagModel", "explained", "(I)I"⟩, 50) := ⟨⟨by decide +kernel, by decide +kernel⟩, List.mem_of_getElem? (i := 802) (by decide +kernel), List.mem_of_getElem? (i := 1207) (by decide +kernel), List.mem_of_getElem? (i := 1208) (by decide +kernel)⟩
theorem lw_p49 : lw_okq (⟨"ThrowersBagModel", "missAll", "(II)I"⟩, 50) := ⟨⟨by decide +kernel, by decide +kernel⟩, List.mem_of_getElem? (i := 802) (by decide +kernel), List.mem_of_getElem? (i := 1211) (by decide +kernel), List.mem_of_getElem? (i := 1212) (by decide +kernel)⟩
theorem lw_p50 : lw_okq (⟨"ThrowersBagModel", "finds", "(IIII)I"⟩, 50) := ⟨⟨by decide +kernel, by decide +kernel⟩, List.mem_of_getElem? (i := 802) (by decide +kernel), List.mem_of_getElem? (i := 1272) (by decide +kernel), List.mem_of_getElem? (i := 1273) (by decide +kernel)⟩
def lw_privs_4 : List (MethodName × Nat) := [(⟨"ThrowersBagModel", "explained", "(I)I"⟩, 50), (⟨"ThrowersBagModel", "missAll", "(II)I"⟩, 50), (⟨"ThrowersBagModel", "finds", "(IIII)I"⟩, 50)]
theorem lw_r4 : ∀ q ∈ lw_privs_4, lw_okq q := List.forall_mem_cons.mpr ⟨lw_p48, List.forall_mem_cons.mpr ⟨lw_p49, List.forall_mem_cons.mpr ⟨lw_p50, fun _ h => absurd h List.not_mem_nil⟩⟩⟩
def lw_privs : List (MethodName × Nat) := lw_privs_1 ++ (lw_privs_2 ++ (lw_privs_3 ++ (lw_privs_4)))
def lw_tbl : List Cond := k2_sels lw_privs ++ tables_1
theorem lw_privs_ok : ∀ q ∈ lw_privs, lw_okq q := by
  show ∀ q ∈ lw_privs_1 ++ (lw_privs_2 ++ (lw_privs_3 ++ (lw_privs_4))), lw_okq q
  exact List.forall_mem_append.mpr ⟨lw_r1, List.forall_mem_append.mpr ⟨lw_r2, List.forall_mem_append.mpr ⟨lw_r3, lw_r4⟩⟩⟩

/-! ===== BEGIN words of one list among another's, by their places ===== -/
theorem goodIn_r {big : List Cond} (ws : List Cond) (ps : List Nat) (hp : ws = ps.filterMap (fun i => big[i]?)) (h : ws.all goodWord = true) : GoodIn big ws := by
  intro w hw
  have h1 := List.all_eq_true.mp h w hw
  rw [hp] at hw
  obtain ⟨i, -, hi⟩ := List.mem_filterMap.mp hw
  have hm : w ∈ big := by first | exact List.mem_of_getElem? hi | exact List.getElem?_mem hi
  exact ⟨hm, good_of_word h1⟩
theorem goodIn_app {big a b : List Cond} (ha : GoodIn big a) (hb : GoodIn big b) : GoodIn big (a ++ b) := fun w h => (List.mem_append.mp h).elim (ha w) (hb w)
theorem goodIn_ca {big a b : List Cond} {c : Cond} (ha : GoodIn big (c :: a)) (hb : GoodIn big b) : GoodIn big (c :: (a ++ b)) := fun w h => (List.mem_cons.mp h).elim (fun e => ha w (List.mem_cons.mpr (Or.inl e))) (fun h => (List.mem_append.mp h).elim (fun h => ha w (List.mem_cons.mpr (Or.inr h))) (hb w))
theorem goodIn_sub {big ws : List Cond} (hm : ∀ w ∈ ws, w ∈ big) (h : ws.all goodWord = true) : GoodIn big ws := fun w hw => ⟨hm w hw, good_of_word (List.all_eq_true.mp h w hw)⟩
/-! ===== END ===== -/
end
section
def RX0 : String := "ThrowersBag$Aim"
def TX0 : u_T := fun k => match k with
  | 0 => ("ThrowersBag$Aim", "stick", "I", false)
  | 1 => ("ThrowersBag$Aim", "lean", "I", false)
  | 2 => ("ThrowersBag$Aim", "angle", "I", false)
  | 3 => ("ThrowersBag$Aim", "strength", "I", false)
  | 4 => ("ThrowersBag$Aim", "spin", "I", false)
  | _ => ("ThrowersBag$Aim", "wind", "I", false)
def tyX0 : Nat → FieldType := fun k => match k with
  | 0 => .int
  | 1 => .int
  | 2 => .int
  | 3 => .int
  | 4 => .int
  | _ => .int
abbrev wsX00 : List Cond := u_ws RX0 TX0 6
theorem nmX0 : ∀ a, a < 6 → ∀ b, b < 6 → a ≠ b → (TX0 a).2.1 ≠ (TX0 b).2.1 := by decide +kernel
theorem tyX0_ok : ∀ k, k < 6 → parseFieldDescriptor (TX0 k).2.2.1 = some (tyX0 k) := by decide +kernel
abbrev cX0_init : ByteArray := prog_2_method_1_code
def yX0_init : MethodName := ⟨RX0, "<init>", "()V"⟩
abbrev cX0_take : ByteArray := prog_2_method_2_code
def yX0_take : MethodName := ⟨RX0, "take", "(IIIIII)V"⟩
def RX1 : String := "ThrowersBag$Flight"
def TX1 : u_T := fun k => match k with
  | 0 => ("ThrowersBag$Flight", "x", "I", false)
  | 1 => ("ThrowersBag$Flight", "y", "I", false)
  | 2 => ("ThrowersBag$Flight", "height", "I", false)
  | 3 => ("ThrowersBag$Flight", "climb", "I", false)
  | 4 => ("ThrowersBag$Flight", "way", "I", false)
  | 5 => ("ThrowersBag$Flight", "speed", "I", false)
  | 6 => ("ThrowersBag$Flight", "spin", "I", false)
  | 7 => ("ThrowersBag$Flight", "lean", "I", false)
  | 8 => ("ThrowersBag$Flight", "tick", "I", false)
  | 9 => ("ThrowersBag$Flight", "ended", "I", false)
  | 10 => ("ThrowersBag$Flight", "treeHit", "I", false)
  | 11 => ("ThrowersBag$Flight", "wave", "[I", true)
  | _ => ("ThrowersBag$Flight", "trail", "[I", true)
def tyX1 : Nat → FieldType := fun k => match k with
  | 0 => .int
  | 1 => .int
  | 2 => .int
  | 3 => .int
  | 4 => .int
  | 5 => .int
  | 6 => .int
  | 7 => .int
  | 8 => .int
  | 9 => .int
  | 10 => .int
  | 11 => .array .int
  | _ => .array .int
abbrev wsX10 : List Cond := u_ws RX1 TX1 13
theorem nmX1 : ∀ a, a < 13 → ∀ b, b < 13 → a ≠ b → (TX1 a).2.1 ≠ (TX1 b).2.1 := by decide +kernel
theorem tyX1_ok : ∀ k, k < 13 → parseFieldDescriptor (TX1 k).2.2.1 = some (tyX1 k) := by decide +kernel
abbrev cX1_init : ByteArray := prog_3_method_1_code
def yX1_init : MethodName := ⟨RX1, "<init>", "([II)V"⟩
abbrev cX1_begin : ByteArray := prog_3_method_2_code
def yX1_begin : MethodName := ⟨RX1, "begin", "(LThrowersBag$Aim;)V"⟩
abbrev cX1_step : ByteArray := prog_3_method_3_code
def yX1_step : MethodName := ⟨RX1, "step", "(LThrowersBag$Stick;ILThrowersBag$Wind;)V"⟩
abbrev cX1_endIn : ByteArray := prog_3_method_4_code
def yX1_endIn : MethodName := ⟨RX1, "endIn", "(LThrowersBag$Meadow;)V"⟩
abbrev cX1_isNear : ByteArray := prog_3_method_5_code
def yX1_isNear : MethodName := ⟨RX1, "isNear", "(IIJ)Z"⟩
abbrev cX1_distance : ByteArray := prog_3_method_6_code
def yX1_distance : MethodName := ⟨RX1, "distance", "()I"⟩
abbrev cX1_note : ByteArray := prog_3_method_7_code
def yX1_note : MethodName := ⟨RX1, "note", "()V"⟩
abbrev cX1_partAt : ByteArray := prog_3_method_8_code
def yX1_partAt : MethodName := ⟨RX1, "partAt", "(II)I"⟩
def RX2 : String := "ThrowersBag$Grass"
def TX2 : u_T := fun k => match k with
  | 0 => ("ThrowersBag$Grass", "weights", "[I", true)
  | _ => ("ThrowersBag$Grass", "ks", "[I", true)
def tyX2 : Nat → FieldType := fun k => match k with
  | 0 => .array .int
  | _ => .array .int
abbrev wsX20 : List Cond := u_ws RX2 TX2 2
theorem nmX2 : ∀ a, a < 2 → ∀ b, b < 2 → a ≠ b → (TX2 a).2.1 ≠ (TX2 b).2.1 := by decide +kernel
theorem tyX2_ok : ∀ k, k < 2 → parseFieldDescriptor (TX2 k).2.2.1 = some (tyX2 k) := by decide +kernel
abbrev cX2_init : ByteArray := prog_4_method_1_code
def yX2_init : MethodName := ⟨RX2, "<init>", "()V"⟩
abbrev cX2_lineOf : ByteArray := prog_4_method_2_code
def yX2_lineOf : MethodName := ⟨RX2, "lineOf", "(I)I"⟩
abbrev cX2_spreadFrom : ByteArray := prog_4_method_3_code
def yX2_spreadFrom : MethodName := ⟨RX2, "spreadFrom", "(II)I"⟩
abbrev cX2_likeliest : ByteArray := prog_4_method_4_code
def yX2_likeliest : MethodName := ⟨RX2, "likeliest", "()I"⟩
abbrev cX2_lighten : ByteArray := prog_4_method_5_code
def yX2_lighten : MethodName := ⟨RX2, "lighten", "(I)I"⟩
def RX3 : String := "ThrowersBag$Match"
def TX3 : u_T := fun k => match k with
  | 0 => ("ThrowersBag$Match", "throwWinds", "[I", true)
  | 1 => ("ThrowersBag$Match", "manner", "LThrowersBag$Aim;", true)
  | 2 => ("ThrowersBag$Match", "pointTable", "[[I", true)
  | 3 => ("ThrowersBag$Match", "triedSticks", "[I", true)
  | 4 => ("ThrowersBag$Match", "bestSticks", "[I", true)
  | _ => ("ThrowersBag$Match", "mostPoints", "I", false)
def tyX3 : Nat → FieldType := fun k => match k with
  | 0 => .array .int
  | 1 => .object "ThrowersBag$Aim"
  | 2 => .array (.array .int)
  | 3 => .array .int
  | 4 => .array .int
  | _ => .int
abbrev wsX30 : List Cond := u_ws RX3 TX3 6
theorem nmX3 : ∀ a, a < 6 → ∀ b, b < 6 → a ≠ b → (TX3 a).2.1 ≠ (TX3 b).2.1 := by decide +kernel
theorem tyX3_ok : ∀ k, k < 6 → parseFieldDescriptor (TX3 k).2.2.1 = some (tyX3 k) := by decide +kernel
abbrev cX3_init : ByteArray := prog_5_method_1_code
def yX3_init : MethodName := ⟨RX3, "<init>", "()V"⟩
abbrev cX3_throwCount : ByteArray := prog_5_method_2_code
def yX3_throwCount : MethodName := ⟨RX3, "throwCount", "()I"⟩
abbrev cX3_findBest : ByteArray := prog_5_method_3_code
def yX3_findBest : MethodName := ⟨RX3, "findBest", "(I)V"⟩
abbrev cX3_tryThrow : ByteArray := prog_5_method_4_code
def yX3_tryThrow : MethodName := ⟨RX3, "tryThrow", "(III)V"⟩
def RX4 : String := "ThrowersBag$Meadow"
def TX4 : u_T := fun k => match k with
  | 0 => ("ThrowersBag$Meadow", "trees", "[LThrowersBag$Tree;", true)
  | 1 => ("ThrowersBag$Meadow", "treeCount", "I", false)
  | _ => ("ThrowersBag$Meadow", "ringWide", "I", false)
def tyX4 : Nat → FieldType := fun k => match k with
  | 0 => .array (.object "ThrowersBag$Tree")
  | 1 => .int
  | _ => .int
abbrev wsX40 : List Cond := u_ws RX4 TX4 3
theorem nmX4 : ∀ a, a < 3 → ∀ b, b < 3 → a ≠ b → (TX4 a).2.1 ≠ (TX4 b).2.1 := by decide +kernel
theorem tyX4_ok : ∀ k, k < 3 → parseFieldDescriptor (TX4 k).2.2.1 = some (tyX4 k) := by decide +kernel
abbrev cX4_init : ByteArray := prog_6_method_1_code
def yX4_init : MethodName := ⟨RX4, "<init>", "()V"⟩
abbrev cX4_plant : ByteArray := prog_6_method_2_code
def yX4_plant : MethodName := ⟨RX4, "plant", "(IIII)I"⟩
def RX5 : String := "ThrowersBag$Row"
def TX5 : u_T := fun k => match k with
  | 0 => ("ThrowersBag$Row", "aim", "LThrowersBag$Aim;", true)
  | 1 => ("ThrowersBag$Row", "x", "I", false)
  | _ => ("ThrowersBag$Row", "y", "I", false)
def tyX5 : Nat → FieldType := fun k => match k with
  | 0 => .object "ThrowersBag$Aim"
  | 1 => .int
  | _ => .int
abbrev wsX50 : List Cond := u_ws RX5 TX5 3
theorem nmX5 : ∀ a, a < 3 → ∀ b, b < 3 → a ≠ b → (TX5 a).2.1 ≠ (TX5 b).2.1 := by decide +kernel
theorem tyX5_ok : ∀ k, k < 3 → parseFieldDescriptor (TX5 k).2.2.1 = some (tyX5 k) := by decide +kernel
abbrev cX5_init : ByteArray := prog_7_method_1_code
def yX5_init : MethodName := ⟨RX5, "<init>", "()V"⟩
def RX6 : String := "ThrowersBag$Sheet"
def TX6 : u_T := fun k => match k with
  | 0 => ("ThrowersBag$Sheet", "lane", "I", false)
  | 1 => ("ThrowersBag$Sheet", "size", "I", false)
  | _ => ("ThrowersBag$Sheet", "items", "[I", true)
def tyX6 : Nat → FieldType := fun k => match k with
  | 0 => .int
  | 1 => .int
  | _ => .array .int
abbrev wsX60 : List Cond := u_ws RX6 TX6 3
theorem nmX6 : ∀ a, a < 3 → ∀ b, b < 3 → a ≠ b → (TX6 a).2.1 ≠ (TX6 b).2.1 := by decide +kernel
theorem tyX6_ok : ∀ k, k < 3 → parseFieldDescriptor (TX6 k).2.2.1 = some (tyX6 k) := by decide +kernel
abbrev cX6_init : ByteArray := prog_8_method_1_code
def yX6_init : MethodName := ⟨RX6, "<init>", "()V"⟩
abbrev cX6_hold : ByteArray := prog_8_method_2_code
def yX6_hold : MethodName := ⟨RX6, "hold", "(II)V"⟩
abbrev cX6_isEmptyHanded : ByteArray := prog_8_method_3_code
def yX6_isEmptyHanded : MethodName := ⟨RX6, "isEmptyHanded", "()Z"⟩
abbrev cX6_has : ByteArray := prog_8_method_4_code
def yX6_has : MethodName := ⟨RX6, "has", "(II)Z"⟩
abbrev cX6_put : ByteArray := prog_8_method_5_code
def yX6_put : MethodName := ⟨RX6, "put", "(II)V"⟩
def RX7 : String := "ThrowersBag$Stick"
def TX7 : u_T := fun k => match k with
  | 0 => ("ThrowersBag$Stick", "weight", "I", false)
  | 1 => ("ThrowersBag$Stick", "grip", "I", false)
  | 2 => ("ThrowersBag$Stick", "loss", "I", false)
  | 3 => ("ThrowersBag$Stick", "drag", "I", false)
  | 4 => ("ThrowersBag$Stick", "hover", "I", false)
  | 5 => ("ThrowersBag$Stick", "bent", "I", false)
  | 6 => ("ThrowersBag$Stick", "inTheBag", "Z", false)
  | _ => ("ThrowersBag$Stick", "lifts", "[I", true)
def tyX7 : Nat → FieldType := fun k => match k with
  | 0 => .int
  | 1 => .int
  | 2 => .int
  | 3 => .int
  | 4 => .int
  | 5 => .int
  | 6 => .boolean
  | _ => .array .int
abbrev wsX70 : List Cond := u_ws RX7 TX7 8
theorem nmX7 : ∀ a, a < 8 → ∀ b, b < 8 → a ≠ b → (TX7 a).2.1 ≠ (TX7 b).2.1 := by decide +kernel
theorem tyX7_ok : ∀ k, k < 8 → parseFieldDescriptor (TX7 k).2.2.1 = some (tyX7 k) := by decide +kernel
abbrev cX7_init : ByteArray := prog_9_method_1_code
def yX7_init : MethodName := ⟨RX7, "<init>", "()V"⟩
abbrev cX7_make : ByteArray := prog_9_method_2_code
def yX7_make : MethodName := ⟨RX7, "make", "(IIIII)V"⟩
abbrev cX7_isWinged : ByteArray := prog_9_method_3_code
def yX7_isWinged : MethodName := ⟨RX7, "isWinged", "()Z"⟩
abbrev cX7_liftAt : ByteArray := prog_9_method_4_code
def yX7_liftAt : MethodName := ⟨RX7, "liftAt", "(II)I"⟩
def RX8 : String := "ThrowersBag$Tree"
def TX8 : u_T := fun k => match k with
  | 0 => ("ThrowersBag$Tree", "x", "I", false)
  | 1 => ("ThrowersBag$Tree", "y", "I", false)
  | 2 => ("ThrowersBag$Tree", "thick", "I", false)
  | _ => ("ThrowersBag$Tree", "high", "I", false)
def tyX8 : Nat → FieldType := fun k => match k with
  | 0 => .int
  | 1 => .int
  | 2 => .int
  | _ => .int
abbrev wsX80 : List Cond := u_ws RX8 TX8 4
theorem nmX8 : ∀ a, a < 4 → ∀ b, b < 4 → a ≠ b → (TX8 a).2.1 ≠ (TX8 b).2.1 := by decide +kernel
theorem tyX8_ok : ∀ k, k < 4 → parseFieldDescriptor (TX8 k).2.2.1 = some (tyX8 k) := by decide +kernel
abbrev cX8_init : ByteArray := prog_10_method_1_code
def yX8_init : MethodName := ⟨RX8, "<init>", "()V"⟩
def RX9 : String := "ThrowersBag$Wind"
def TX9 : u_T := fun k => match k with
  | 0 => ("ThrowersBag$Wind", "speeds", "[I", true)
  | _ => ("ThrowersBag$Wind", "tos", "[I", true)
def tyX9 : Nat → FieldType := fun k => match k with
  | 0 => .array .int
  | _ => .array .int
abbrev wsX90 : List Cond := u_ws RX9 TX9 2
theorem nmX9 : ∀ a, a < 2 → ∀ b, b < 2 → a ≠ b → (TX9 a).2.1 ≠ (TX9 b).2.1 := by decide +kernel
theorem tyX9_ok : ∀ k, k < 2 → parseFieldDescriptor (TX9 k).2.2.1 = some (tyX9 k) := by decide +kernel
abbrev cX9_init : ByteArray := prog_11_method_1_code
def yX9_init : MethodName := ⟨RX9, "<init>", "()V"⟩
abbrev cX9_turnBy : ByteArray := prog_11_method_2_code
def yX9_turnBy : MethodName := ⟨RX9, "turnBy", "(I)V"⟩
abbrev cX9_bandAt : ByteArray := prog_11_method_3_code
def yX9_bandAt : MethodName := ⟨RX9, "bandAt", "(I)I"⟩
def RX10 : String := "ThrowersBag"
def TX10 : u_T := fun k => match k with
  | 0 => ("ThrowersBag", "wave", "[I", true)
  | 1 => ("ThrowersBag", "sticks", "[LThrowersBag$Stick;", true)
  | 2 => ("ThrowersBag", "stickCount", "I", false)
  | 3 => ("ThrowersBag", "winds", "[LThrowersBag$Wind;", true)
  | 4 => ("ThrowersBag", "windCount", "I", false)
  | 5 => ("ThrowersBag", "calm", "LThrowersBag$Wind;", true)
  | 6 => ("ThrowersBag", "meadow", "LThrowersBag$Meadow;", true)
  | 7 => ("ThrowersBag", "latest", "LThrowersBag$Flight;", true)
  | 8 => ("ThrowersBag", "trial", "LThrowersBag$Flight;", true)
  | 9 => ("ThrowersBag", "trialAim", "LThrowersBag$Aim;", true)
  | 10 => ("ThrowersBag", "choice", "[I", true)
  | 11 => ("ThrowersBag", "hasChoice", "Z", false)
  | 12 => ("ThrowersBag", "kept", "[LThrowersBag$Aim;", true)
  | 13 => ("ThrowersBag", "isKept", "[Z", true)
  | 14 => ("ThrowersBag", "game", "LThrowersBag$Match;", true)
  | 15 => ("ThrowersBag", "seenRows", "[LThrowersBag$Row;", true)
  | 16 => ("ThrowersBag", "rowCount", "I", false)
  | 17 => ("ThrowersBag", "meadowGrass", "LThrowersBag$Grass;", true)
  | _ => ("ThrowersBag", "sheets", "[LThrowersBag$Sheet;", true)
def tyX10 : Nat → FieldType := fun k => match k with
  | 0 => .array .int
  | 1 => .array (.object "ThrowersBag$Stick")
  | 2 => .int
  | 3 => .array (.object "ThrowersBag$Wind")
  | 4 => .int
  | 5 => .object "ThrowersBag$Wind"
  | 6 => .object "ThrowersBag$Meadow"
  | 7 => .object "ThrowersBag$Flight"
  | 8 => .object "ThrowersBag$Flight"
  | 9 => .object "ThrowersBag$Aim"
  | 10 => .array .int
  | 11 => .boolean
  | 12 => .array (.object "ThrowersBag$Aim")
  | 13 => .array .boolean
  | 14 => .object "ThrowersBag$Match"
  | 15 => .array (.object "ThrowersBag$Row")
  | 16 => .int
  | 17 => .object "ThrowersBag$Grass"
  | _ => .array (.object "ThrowersBag$Sheet")
abbrev wsX100 : List Cond := u_ws RX10 TX10 19
theorem nmX10 : ∀ a, a < 19 → ∀ b, b < 19 → a ≠ b → (TX10 a).2.1 ≠ (TX10 b).2.1 := by decide +kernel
theorem tyX10_ok : ∀ k, k < 19 → parseFieldDescriptor (TX10 k).2.2.1 = some (tyX10 k) := by decide +kernel
abbrev cX10_init : ByteArray := prog_1_method_1_code
def yX10_init : MethodName := ⟨RX10, "<init>", "()V"⟩
abbrev cX10_plain : ByteArray := prog_1_method_2_code
def yX10_plain : MethodName := ⟨RX10, "plain", "(IIII)I"⟩
abbrev cX10_winged : ByteArray := prog_1_method_3_code
def yX10_winged : MethodName := ⟨RX10, "winged", "(IIIII)I"⟩
abbrev cX10_newStick : ByteArray := prog_1_method_4_code
def yX10_newStick : MethodName := ⟨RX10, "newStick", "(IIIII)I"⟩
abbrev cX10_lift : ByteArray := prog_1_method_5_code
def yX10_lift : MethodName := ⟨RX10, "lift", "(III)I"⟩
abbrev cX10_bend : ByteArray := prog_1_method_6_code
def yX10_bend : MethodName := ⟨RX10, "bend", "(II)I"⟩
abbrev cX10_told : ByteArray := prog_1_method_7_code
def yX10_told : MethodName := ⟨RX10, "told", "(II)I"⟩
abbrev cX10_lose : ByteArray := prog_1_method_8_code
def yX10_lose : MethodName := ⟨RX10, "lose", "(IZ)I"⟩
abbrev cX10_wind : ByteArray := prog_1_method_9_code
def yX10_wind : MethodName := ⟨RX10, "wind", "()I"⟩
abbrev cX10_blows : ByteArray := prog_1_method_10_code
def yX10_blows : MethodName := ⟨RX10, "blows", "(IIII)I"⟩
abbrev cX10_swing : ByteArray := prog_1_method_11_code
def yX10_swing : MethodName := ⟨RX10, "swing", "(II)I"⟩
abbrev cX10_tree : ByteArray := prog_1_method_12_code
def yX10_tree : MethodName := ⟨RX10, "tree", "(IIII)I"⟩
abbrev cX10_ring : ByteArray := prog_1_method_13_code
def yX10_ring : MethodName := ⟨RX10, "ring", "(I)I"⟩
abbrev cX10_table : ByteArray := prog_1_method_14_code
def yX10_table : MethodName := ⟨RX10, "table", "(II)I"⟩
abbrev cX10_fly : ByteArray := prog_1_method_15_code
def yX10_fly : MethodName := ⟨RX10, "fly", "(IIIIII)I"⟩
abbrev cX10_at : ByteArray := prog_1_method_16_code
def yX10_at : MethodName := ⟨RX10, "at", "(II)I"⟩
abbrev cX10_ticks : ByteArray := prog_1_method_17_code
def yX10_ticks : MethodName := ⟨RX10, "ticks", "()I"⟩
abbrev cX10_hit : ByteArray := prog_1_method_18_code
def yX10_hit : MethodName := ⟨RX10, "hit", "()I"⟩
abbrev cX10_choose : ByteArray := prog_1_method_19_code
def yX10_choose : MethodName := ⟨RX10, "choose", "(II)I"⟩
abbrev cX10_chosen : ByteArray := prog_1_method_20_code
def yX10_chosen : MethodName := ⟨RX10, "chosen", "(I)I"⟩
abbrev cX10_keep : ByteArray := prog_1_method_21_code
def yX10_keep : MethodName := ⟨RX10, "keep", "(IIIIIII)I"⟩
abbrev cX10_two : ByteArray := prog_1_method_22_code
def yX10_two : MethodName := ⟨RX10, "two", "(I)I"⟩
abbrev cX10_match : ByteArray := prog_1_method_23_code
def yX10_match : MethodName := ⟨RX10, "match", "(II)I"⟩
abbrev cX10_style : ByteArray := prog_1_method_24_code
def yX10_style : MethodName := ⟨RX10, "style", "(IIII)I"⟩
abbrev cX10_points : ByteArray := prog_1_method_25_code
def yX10_points : MethodName := ⟨RX10, "points", "(II)I"⟩
abbrev cX10_best : ByteArray := prog_1_method_26_code
def yX10_best : MethodName := ⟨RX10, "best", "()I"⟩
abbrev cX10_order : ByteArray := prog_1_method_27_code
def yX10_order : MethodName := ⟨RX10, "order", "(I)I"⟩
abbrev cX10_row : ByteArray := prog_1_method_28_code
def yX10_row : MethodName := ⟨RX10, "row", "(IIIIIII)I"⟩
abbrev cX10_miss : ByteArray := prog_1_method_29_code
def yX10_miss : MethodName := ⟨RX10, "miss", "(II)I"⟩
abbrev cX10_explain : ByteArray := prog_1_method_30_code
def yX10_explain : MethodName := ⟨RX10, "explain", "(I)I"⟩
abbrev cX10_sure : ByteArray := prog_1_method_31_code
def yX10_sure : MethodName := ⟨RX10, "sure", "(I)I"⟩
abbrev cX10_unrow : ByteArray := prog_1_method_32_code
def yX10_unrow : MethodName := ⟨RX10, "unrow", "()I"⟩
abbrev cX10_rows : ByteArray := prog_1_method_33_code
def yX10_rows : MethodName := ⟨RX10, "rows", "(IIII)I"⟩
abbrev cX10_seen : ByteArray := prog_1_method_34_code
def yX10_seen : MethodName := ⟨RX10, "seen", "(I)I"⟩
abbrev cX10_patch : ByteArray := prog_1_method_35_code
def yX10_patch : MethodName := ⟨RX10, "patch", "(III)I"⟩
abbrev cX10_grass : ByteArray := prog_1_method_36_code
def yX10_grass : MethodName := ⟨RX10, "grass", "(II)I"⟩
abbrev cX10_next : ByteArray := prog_1_method_37_code
def yX10_next : MethodName := ⟨RX10, "next", "()I"⟩
abbrev cX10_search : ByteArray := prog_1_method_38_code
def yX10_search : MethodName := ⟨RX10, "search", "(I)I"⟩
abbrev cX10_count : ByteArray := prog_1_method_39_code
def yX10_count : MethodName := ⟨RX10, "count", "(I)I"⟩
abbrev cX10_sheet : ByteArray := prog_1_method_40_code
def yX10_sheet : MethodName := ⟨RX10, "sheet", "(III)I"⟩
abbrev cX10_drop : ByteArray := prog_1_method_41_code
def yX10_drop : MethodName := ⟨RX10, "drop", "(I)I"⟩
abbrev cX10_item : ByteArray := prog_1_method_42_code
def yX10_item : MethodName := ⟨RX10, "item", "(IIII)I"⟩
abbrev cX10_copy : ByteArray := prog_1_method_43_code
def yX10_copy : MethodName := ⟨RX10, "copy", "(IIIII)I"⟩
abbrev cX10_within : ByteArray := prog_1_method_44_code
def yX10_within : MethodName := ⟨RX10, "within", "(III)Z"⟩
abbrev cX10_isDirection : ByteArray := prog_1_method_45_code
def yX10_isDirection : MethodName := ⟨RX10, "isDirection", "(I)Z"⟩
abbrev cX10_isBend : ByteArray := prog_1_method_46_code
def yX10_isBend : MethodName := ⟨RX10, "isBend", "(I)Z"⟩
abbrev cX10_isPatch : ByteArray := prog_1_method_47_code
def yX10_isPatch : MethodName := ⟨RX10, "isPatch", "(I)Z"⟩
abbrev cX10_isSheet : ByteArray := prog_1_method_48_code
def yX10_isSheet : MethodName := ⟨RX10, "isSheet", "(I)Z"⟩
abbrev cX10_isLane : ByteArray := prog_1_method_49_code
def yX10_isLane : MethodName := ⟨RX10, "isLane", "(I)Z"⟩
abbrev cX10_isStyle : ByteArray := prog_1_method_50_code
def yX10_isStyle : MethodName := ⟨RX10, "isStyle", "(IIII)Z"⟩
abbrev cX10_isSetOf : ByteArray := prog_1_method_51_code
def yX10_isSetOf : MethodName := ⟨RX10, "isSetOf", "(II)Z"⟩
abbrev cX10_isStick : ByteArray := prog_1_method_52_code
def yX10_isStick : MethodName := ⟨RX10, "isStick", "(I)Z"⟩
abbrev cX10_isWind : ByteArray := prog_1_method_53_code
def yX10_isWind : MethodName := ⟨RX10, "isWind", "(I)Z"⟩
abbrev cX10_isWindOrNone : ByteArray := prog_1_method_54_code
def yX10_isWindOrNone : MethodName := ⟨RX10, "isWindOrNone", "(I)Z"⟩
abbrev cX10_isThrow : ByteArray := prog_1_method_55_code
def yX10_isThrow : MethodName := ⟨RX10, "isThrow", "(IIIIII)Z"⟩
abbrev cX10_isRow : ByteArray := prog_1_method_56_code
def yX10_isRow : MethodName := ⟨RX10, "isRow", "(IIIIIII)Z"⟩
abbrev cX10_faultOf : ByteArray := prog_1_method_57_code
def yX10_faultOf : MethodName := ⟨RX10, "faultOf", "(II)I"⟩
abbrev cX10_wasInLatest : ByteArray := prog_1_method_58_code
def yX10_wasInLatest : MethodName := ⟨RX10, "wasInLatest", "(I)Z"⟩
abbrev cX10_bagBits : ByteArray := prog_1_method_59_code
def yX10_bagBits : MethodName := ⟨RX10, "bagBits", "()I"⟩
abbrev cX10_sineWave : ByteArray := prog_1_method_60_code
def yX10_sineWave : MethodName := ⟨RX10, "sineWave", "()[I"⟩
abbrev cX10_endOf : ByteArray := prog_1_method_61_code
def yX10_endOf : MethodName := ⟨RX10, "endOf", "(LThrowersBag$Flight;LThrowersBag$Aim;I)I"⟩
abbrev cX10_comesBack : ByteArray := prog_1_method_62_code
def yX10_comesBack : MethodName := ⟨RX10, "comesBack", "(LThrowersBag$Aim;)Z"⟩
abbrev cX10_bestOfStick : ByteArray := prog_1_method_63_code
def yX10_bestOfStick : MethodName := ⟨RX10, "bestOfStick", "(III)I"⟩
abbrev cX10_rememberChoice : ByteArray := prog_1_method_64_code
def yX10_rememberChoice : MethodName := ⟨RX10, "rememberChoice", "()V"⟩
abbrev cX10_backsIn : ByteArray := prog_1_method_65_code
def yX10_backsIn : MethodName := ⟨RX10, "backsIn", "(II)I"⟩
abbrev cX10_pointsOf : ByteArray := prog_1_method_66_code
def yX10_pointsOf : MethodName := ⟨RX10, "pointsOf", "(II)I"⟩
abbrev cX10_playMatch : ByteArray := prog_1_method_67_code
def yX10_playMatch : MethodName := ⟨RX10, "playMatch", "()V"⟩
abbrev cX10_fillPoints : ByteArray := prog_1_method_68_code
def yX10_fillPoints : MethodName := ⟨RX10, "fillPoints", "(II)V"⟩
abbrev cX10_addRow : ByteArray := prog_1_method_69_code
def yX10_addRow : MethodName := ⟨RX10, "addRow", "(IIIIIII)V"⟩
abbrev cX10_holdsRow : ByteArray := prog_1_method_70_code
def yX10_holdsRow : MethodName := ⟨RX10, "holdsRow", "([II)Z"⟩
abbrev cX10_addRowFrom : ByteArray := prog_1_method_71_code
def yX10_addRowFrom : MethodName := ⟨RX10, "addRowFrom", "([II)V"⟩
abbrev cX10_rowsOf : ByteArray := prog_1_method_72_code
def yX10_rowsOf : MethodName := ⟨RX10, "rowsOf", "(I)I"⟩
abbrev cX10_missOf : ByteArray := prog_1_method_73_code
def yX10_missOf : MethodName := ⟨RX10, "missOf", "(LThrowersBag$Row;I)I"⟩
abbrev cX10_missSum : ByteArray := prog_1_method_74_code
def yX10_missSum : MethodName := ⟨RX10, "missSum", "(II)I"⟩
abbrev cX10_explainedBend : ByteArray := prog_1_method_75_code
def yX10_explainedBend : MethodName := ⟨RX10, "explainedBend", "(I)I"⟩
def RX11 : String := "ThrowersBagModel"
def TX11 : u_T := fun k => match k with
  | 0 => ("ThrowersBagModel", "sines", "[I", true)
  | 1 => ("ThrowersBagModel", "sticks", "I", false)
  | 2 => ("ThrowersBagModel", "hovers", "[I", true)
  | 3 => ("ThrowersBagModel", "weights", "[I", true)
  | 4 => ("ThrowersBagModel", "grips", "[I", true)
  | 5 => ("ThrowersBagModel", "losses", "[I", true)
  | 6 => ("ThrowersBagModel", "drags", "[I", true)
  | 7 => ("ThrowersBagModel", "bends", "[I", true)
  | 8 => ("ThrowersBagModel", "lifts", "[I", true)
  | 9 => ("ThrowersBagModel", "isLost", "[Z", true)
  | 10 => ("ThrowersBagModel", "winds", "I", false)
  | 11 => ("ThrowersBagModel", "speeds", "[I", true)
  | 12 => ("ThrowersBagModel", "tos", "[I", true)
  | 13 => ("ThrowersBagModel", "trees", "I", false)
  | 14 => ("ThrowersBagModel", "treeX", "[I", true)
  | 15 => ("ThrowersBagModel", "treeY", "[I", true)
  | 16 => ("ThrowersBagModel", "thicks", "[I", true)
  | 17 => ("ThrowersBagModel", "highs", "[I", true)
  | 18 => ("ThrowersBagModel", "ring", "I", false)
  | 19 => ("ThrowersBagModel", "now", "[I", true)
  | 20 => ("ThrowersBagModel", "tick", "I", false)
  | 21 => ("ThrowersBagModel", "inTree", "I", false)
  | 22 => ("ThrowersBagModel", "isKept", "Z", false)
  | 23 => ("ThrowersBagModel", "ticks", "I", false)
  | 24 => ("ThrowersBagModel", "hit", "I", false)
  | 25 => ("ThrowersBagModel", "hasFlown", "Z", false)
  | 26 => ("ThrowersBagModel", "path", "[I", true)
  | 27 => ("ThrowersBagModel", "chosen", "[I", true)
  | 28 => ("ThrowersBagModel", "hasChosen", "Z", false)
  | 29 => ("ThrowersBagModel", "hasKept", "[Z", true)
  | 30 => ("ThrowersBagModel", "kept", "[I", true)
  | 31 => ("ThrowersBagModel", "matches", "[I", true)
  | 32 => ("ThrowersBagModel", "styleLean", "I", false)
  | 33 => ("ThrowersBagModel", "styleAngle", "I", false)
  | 34 => ("ThrowersBagModel", "styleStrength", "I", false)
  | 35 => ("ThrowersBagModel", "styleSpin", "I", false)
  | 36 => ("ThrowersBagModel", "throwMany", "I", false)
  | 37 => ("ThrowersBagModel", "throwAt", "[I", true)
  | 38 => ("ThrowersBagModel", "pointsBy", "[I", true)
  | 39 => ("ThrowersBagModel", "row", "[I", true)
  | 40 => ("ThrowersBagModel", "ordered", "[I", true)
  | 41 => ("ThrowersBagModel", "most", "I", false)
  | 42 => ("ThrowersBagModel", "rows", "I", false)
  | 43 => ("ThrowersBagModel", "seenRows", "[I", true)
  | 44 => ("ThrowersBagModel", "likely", "[I", true)
  | 45 => ("ThrowersBagModel", "chances", "[I", true)
  | 46 => ("ThrowersBagModel", "lanes", "[I", true)
  | 47 => ("ThrowersBagModel", "sizes", "[I", true)
  | 48 => ("ThrowersBagModel", "items", "[I", true)
  | _ => ("ThrowersBagModel", "moved", "[I", true)
def tyX11 : Nat → FieldType := fun k => match k with
  | 0 => .array .int
  | 1 => .int
  | 2 => .array .int
  | 3 => .array .int
  | 4 => .array .int
  | 5 => .array .int
  | 6 => .array .int
  | 7 => .array .int
  | 8 => .array .int
  | 9 => .array .boolean
  | 10 => .int
  | 11 => .array .int
  | 12 => .array .int
  | 13 => .int
  | 14 => .array .int
  | 15 => .array .int
  | 16 => .array .int
  | 17 => .array .int
  | 18 => .int
  | 19 => .array .int
  | 20 => .int
  | 21 => .int
  | 22 => .boolean
  | 23 => .int
  | 24 => .int
  | 25 => .boolean
  | 26 => .array .int
  | 27 => .array .int
  | 28 => .boolean
  | 29 => .array .boolean
  | 30 => .array .int
  | 31 => .array .int
  | 32 => .int
  | 33 => .int
  | 34 => .int
  | 35 => .int
  | 36 => .int
  | 37 => .array .int
  | 38 => .array .int
  | 39 => .array .int
  | 40 => .array .int
  | 41 => .int
  | 42 => .int
  | 43 => .array .int
  | 44 => .array .int
  | 45 => .array .int
  | 46 => .array .int
  | 47 => .array .int
  | 48 => .array .int
  | _ => .array .int
abbrev wsX110 : List Cond := u_ws RX11 TX11 50
theorem nmX11 : ∀ a, a < 50 → ∀ b, b < 50 → a ≠ b → (TX11 a).2.1 ≠ (TX11 b).2.1 := by decide +kernel
theorem tyX11_ok : ∀ k, k < 50 → parseFieldDescriptor (TX11 k).2.2.1 = some (tyX11 k) := by decide +kernel
abbrev cX11_in : ByteArray := prog_13_method_2_code
def yX11_in : MethodName := ⟨RX11, "in", "(JJJ)Z"⟩
abbrev cX11_init : ByteArray := prog_13_method_3_code
def yX11_init : MethodName := ⟨RX11, "<init>", "()V"⟩
abbrev cX11_sine : ByteArray := prog_13_method_4_code
def yX11_sine : MethodName := ⟨RX11, "sine", "(I)I"⟩
abbrev cX11_cosine : ByteArray := prog_13_method_5_code
def yX11_cosine : MethodName := ⟨RX11, "cosine", "(I)I"⟩
abbrev cX11_table : ByteArray := prog_13_method_6_code
def yX11_table : MethodName := ⟨RX11, "table", "(II)I"⟩
abbrev cX11_comes : ByteArray := prog_13_method_7_code
def yX11_comes : MethodName := ⟨RX11, "comes", "(IIIII)I"⟩
abbrev cX11_plain : ByteArray := prog_13_method_8_code
def yX11_plain : MethodName := ⟨RX11, "plain", "(IIII)I"⟩
abbrev cX11_winged : ByteArray := prog_13_method_9_code
def yX11_winged : MethodName := ⟨RX11, "winged", "(IIIII)I"⟩
abbrev cX11_isStick : ByteArray := prog_13_method_10_code
def yX11_isStick : MethodName := ⟨RX11, "isStick", "(I)Z"⟩
abbrev cX11_lift : ByteArray := prog_13_method_11_code
def yX11_lift : MethodName := ⟨RX11, "lift", "(III)I"⟩
abbrev cX11_bend : ByteArray := prog_13_method_12_code
def yX11_bend : MethodName := ⟨RX11, "bend", "(II)I"⟩
abbrev cX11_told : ByteArray := prog_13_method_13_code
def yX11_told : MethodName := ⟨RX11, "told", "(II)I"⟩
abbrev cX11_lose : ByteArray := prog_13_method_14_code
def yX11_lose : MethodName := ⟨RX11, "lose", "(IZ)I"⟩
abbrev cX11_wind : ByteArray := prog_13_method_15_code
def yX11_wind : MethodName := ⟨RX11, "wind", "()I"⟩
abbrev cX11_isWind : ByteArray := prog_13_method_16_code
def yX11_isWind : MethodName := ⟨RX11, "isWind", "(I)Z"⟩
abbrev cX11_blows : ByteArray := prog_13_method_17_code
def yX11_blows : MethodName := ⟨RX11, "blows", "(IIII)I"⟩
abbrev cX11_swing : ByteArray := prog_13_method_18_code
def yX11_swing : MethodName := ⟨RX11, "swing", "(II)I"⟩
abbrev cX11_tree : ByteArray := prog_13_method_19_code
def yX11_tree : MethodName := ⟨RX11, "tree", "(IIII)I"⟩
abbrev cX11_ring : ByteArray := prog_13_method_20_code
def yX11_ring : MethodName := ⟨RX11, "ring", "(I)I"⟩
abbrev cX11_keepsTick : ByteArray := prog_13_method_21_code
def yX11_keepsTick : MethodName := ⟨RX11, "keepsTick", "()V"⟩
abbrev cX11_liftOf : ByteArray := prog_13_method_22_code
def yX11_liftOf : MethodName := ⟨RX11, "liftOf", "(I)I"⟩
abbrev cX11_held : ByteArray := prog_13_method_23_code
def yX11_held : MethodName := ⟨RX11, "held", "(III)I"⟩
abbrev cX11_steps : ByteArray := prog_13_method_24_code
def yX11_steps : MethodName := ⟨RX11, "steps", "(III)V"⟩
abbrev cX11_isNear : ByteArray := prog_13_method_25_code
def yX11_isNear : MethodName := ⟨RX11, "isNear", "(III)Z"⟩
abbrev cX11_ending : ByteArray := prog_13_method_26_code
def yX11_ending : MethodName := ⟨RX11, "ending", "()I"⟩
abbrev cX11_flies : ByteArray := prog_13_method_27_code
def yX11_flies : MethodName := ⟨RX11, "flies", "(IIIIIII)I"⟩
abbrev cX11_isThrow : ByteArray := prog_13_method_28_code
def yX11_isThrow : MethodName := ⟨RX11, "isThrow", "(JJJJJ)Z"⟩
abbrev cX11_fly : ByteArray := prog_13_method_29_code
def yX11_fly : MethodName := ⟨RX11, "fly", "(IIIIII)I"⟩
abbrev cX11_at : ByteArray := prog_13_method_30_code
def yX11_at : MethodName := ⟨RX11, "at", "(II)I"⟩
abbrev cX11_ticks : ByteArray := prog_13_method_31_code
def yX11_ticks : MethodName := ⟨RX11, "ticks", "()I"⟩
abbrev cX11_hit : ByteArray := prog_13_method_32_code
def yX11_hit : MethodName := ⟨RX11, "hit", "()I"⟩
abbrev cX11_backs : ByteArray := prog_13_method_33_code
def yX11_backs : MethodName := ⟨RX11, "backs", "(IIIII)I"⟩
abbrev cX11_choose : ByteArray := prog_13_method_34_code
def yX11_choose : MethodName := ⟨RX11, "choose", "(II)I"⟩
abbrev cX11_chosen : ByteArray := prog_13_method_35_code
def yX11_chosen : MethodName := ⟨RX11, "chosen", "(I)I"⟩
abbrev cX11_keep : ByteArray := prog_13_method_36_code
def yX11_keep : MethodName := ⟨RX11, "keep", "(IIIIIII)I"⟩
abbrev cX11_caught : ByteArray := prog_13_method_37_code
def yX11_caught : MethodName := ⟨RX11, "caught", "(I)I"⟩
abbrev cX11_two : ByteArray := prog_13_method_38_code
def yX11_two : MethodName := ⟨RX11, "two", "(I)I"⟩
abbrev cX11_match : ByteArray := prog_13_method_39_code
def yX11_match : MethodName := ⟨RX11, "match", "(II)I"⟩
abbrev cX11_style : ByteArray := prog_13_method_40_code
def yX11_style : MethodName := ⟨RX11, "style", "(IIII)I"⟩
abbrev cX11_root : ByteArray := prog_13_method_41_code
def yX11_root : MethodName := ⟨RX11, "root", "(J)J"⟩
abbrev cX11_pointsOf : ByteArray := prog_13_method_42_code
def yX11_pointsOf : MethodName := ⟨RX11, "pointsOf", "(II)I"⟩
abbrev cX11_points : ByteArray := prog_13_method_43_code
def yX11_points : MethodName := ⟨RX11, "points", "(II)I"⟩
abbrev cX11_inBag : ByteArray := prog_13_method_44_code
def yX11_inBag : MethodName := ⟨RX11, "inBag", "()I"⟩
abbrev cX11_isFree : ByteArray := prog_13_method_45_code
def yX11_isFree : MethodName := ⟨RX11, "isFree", "(II)Z"⟩
abbrev cX11_compares : ByteArray := prog_13_method_46_code
def yX11_compares : MethodName := ⟨RX11, "compares", "()V"⟩
abbrev cX11_orders : ByteArray := prog_13_method_47_code
def yX11_orders : MethodName := ⟨RX11, "orders", "()I"⟩
abbrev cX11_best : ByteArray := prog_13_method_48_code
def yX11_best : MethodName := ⟨RX11, "best", "()I"⟩
abbrev cX11_order : ByteArray := prog_13_method_49_code
def yX11_order : MethodName := ⟨RX11, "order", "(I)I"⟩
abbrev cX11_isRow : ByteArray := prog_13_method_50_code
def yX11_isRow : MethodName := ⟨RX11, "isRow", "(JJJJJJJ)Z"⟩
abbrev cX11_put : ByteArray := prog_13_method_51_code
def yX11_put : MethodName := ⟨RX11, "put", "(IIIIIII)V"⟩
abbrev cX11_row : ByteArray := prog_13_method_52_code
def yX11_row : MethodName := ⟨RX11, "row", "(IIIIIII)I"⟩
abbrev cX11_size : ByteArray := prog_13_method_53_code
def yX11_size : MethodName := ⟨RX11, "size", "(I)I"⟩
abbrev cX11_missOf : ByteArray := prog_13_method_54_code
def yX11_missOf : MethodName := ⟨RX11, "missOf", "(II)I"⟩
abbrev cX11_miss : ByteArray := prog_13_method_55_code
def yX11_miss : MethodName := ⟨RX11, "miss", "(II)I"⟩
abbrev cX11_rowsOf : ByteArray := prog_13_method_56_code
def yX11_rowsOf : MethodName := ⟨RX11, "rowsOf", "(I)I"⟩
abbrev cX11_missAll : ByteArray := prog_13_method_57_code
def yX11_missAll : MethodName := ⟨RX11, "missAll", "(II)I"⟩
abbrev cX11_explained : ByteArray := prog_13_method_58_code
def yX11_explained : MethodName := ⟨RX11, "explained", "(I)I"⟩
abbrev cX11_explain : ByteArray := prog_13_method_59_code
def yX11_explain : MethodName := ⟨RX11, "explain", "(I)I"⟩
abbrev cX11_sure : ByteArray := prog_13_method_60_code
def yX11_sure : MethodName := ⟨RX11, "sure", "(I)I"⟩
abbrev cX11_unrow : ByteArray := prog_13_method_61_code
def yX11_unrow : MethodName := ⟨RX11, "unrow", "()I"⟩
abbrev cX11_column : ByteArray := prog_13_method_62_code
def yX11_column : MethodName := ⟨RX11, "column", "(I)I"⟩
abbrev cX11_seen : ByteArray := prog_13_method_63_code
def yX11_seen : MethodName := ⟨RX11, "seen", "(I)I"⟩
abbrev cX11_isPatch : ByteArray := prog_13_method_64_code
def yX11_isPatch : MethodName := ⟨RX11, "isPatch", "(I)Z"⟩
abbrev cX11_patch : ByteArray := prog_13_method_65_code
def yX11_patch : MethodName := ⟨RX11, "patch", "(III)I"⟩
abbrev cX11_grass : ByteArray := prog_13_method_66_code
def yX11_grass : MethodName := ⟨RX11, "grass", "(II)I"⟩
abbrev cX11_next : ByteArray := prog_13_method_67_code
def yX11_next : MethodName := ⟨RX11, "next", "()I"⟩
abbrev cX11_search : ByteArray := prog_13_method_68_code
def yX11_search : MethodName := ⟨RX11, "search", "(I)I"⟩
abbrev cX11_count : ByteArray := prog_13_method_69_code
def yX11_count : MethodName := ⟨RX11, "count", "(I)I"⟩
abbrev cX11_isSheet : ByteArray := prog_13_method_70_code
def yX11_isSheet : MethodName := ⟨RX11, "isSheet", "(I)Z"⟩
abbrev cX11_isLane : ByteArray := prog_13_method_71_code
def yX11_isLane : MethodName := ⟨RX11, "isLane", "(I)Z"⟩
abbrev cX11_sheet : ByteArray := prog_13_method_72_code
def yX11_sheet : MethodName := ⟨RX11, "sheet", "(III)I"⟩
abbrev cX11_drop : ByteArray := prog_13_method_73_code
def yX11_drop : MethodName := ⟨RX11, "drop", "(I)I"⟩
abbrev cX11_finds : ByteArray := prog_13_method_74_code
def yX11_finds : MethodName := ⟨RX11, "finds", "(IIII)I"⟩
abbrev cX11_item : ByteArray := prog_13_method_75_code
def yX11_item : MethodName := ⟨RX11, "item", "(IIII)I"⟩
abbrev cX11_rows : ByteArray := prog_13_method_76_code
def yX11_rows : MethodName := ⟨RX11, "rows", "(IIII)I"⟩
abbrev cX11_copy : ByteArray := prog_13_method_77_code
def yX11_copy : MethodName := ⟨RX11, "copy", "(IIIII)I"⟩
def RJ6 : String := "java/lang/Integer"
def TJ6 : u_T := fun k => match k with
  | _ => ("", "", "", false)
def tyJ6 : Nat → FieldType := fun k => match k with
  | _ => .int
abbrev wsJ60 : List Cond := u_ws RJ6 TJ6 0
theorem nmJ6 : ∀ a, a < 0 → ∀ b, b < 0 → a ≠ b → (TJ6 a).2.1 ≠ (TJ6 b).2.1 := by decide +kernel
theorem tyJ6_ok : ∀ k, k < 0 → parseFieldDescriptor (TJ6 k).2.2.1 = some (tyJ6 k) := by decide +kernel
abbrev cJ6_bitCount_0f7a4 : ByteArray := prog_14_method_49_code
def yJ6_bitCount_0f7a4 : MethodName := ⟨RJ6, "bitCount", "(I)I"⟩
def RJ9 : String := "java/lang/Math"
def TJ9 : u_T := fun k => match k with
  | _ => ("", "", "", false)
def tyJ9 : Nat → FieldType := fun k => match k with
  | _ => .int
abbrev wsJ90 : List Cond := u_ws RJ9 TJ9 0
theorem nmJ9 : ∀ a, a < 0 → ∀ b, b < 0 → a ≠ b → (TJ9 a).2.1 ≠ (TJ9 b).2.1 := by decide +kernel
theorem tyJ9_ok : ∀ k, k < 0 → parseFieldDescriptor (TJ9 k).2.2.1 = some (tyJ9 k) := by decide +kernel
abbrev cJ9_floorDiv_7cf53 : ByteArray := prog_15_method_47_code
def yJ9_floorDiv_7cf53 : MethodName := ⟨RJ9, "floorDiv", "(II)I"⟩
abbrev cJ9_floorMod_7cf53 : ByteArray := prog_15_method_50_code
def yJ9_floorMod_7cf53 : MethodName := ⟨RJ9, "floorMod", "(II)I"⟩
abbrev cJ9_abs_0f7a4 : ByteArray := prog_15_method_59_code
def yJ9_abs_0f7a4 : MethodName := ⟨RJ9, "abs", "(I)I"⟩
abbrev cJ9_max_7cf53 : ByteArray := prog_15_method_65_code
def yJ9_max_7cf53 : MethodName := ⟨RJ9, "max", "(II)I"⟩
abbrev cJ9_min_7cf53 : ByteArray := prog_15_method_69_code
def yJ9_min_7cf53 : MethodName := ⟨RJ9, "min", "(II)I"⟩
def RJ10 : String := "java/lang/System"
def TJ10 : u_T := fun k => match k with
  | _ => ("", "", "", false)
def tyJ10 : Nat → FieldType := fun k => match k with
  | _ => .int
abbrev wsJ100 : List Cond := u_ws RJ10 TJ10 0
theorem nmJ10 : ∀ a, a < 0 → ∀ b, b < 0 → a ≠ b → (TJ10 a).2.1 ≠ (TJ10 b).2.1 := by decide +kernel
theorem tyJ10_ok : ∀ k, k < 0 → parseFieldDescriptor (TJ10 k).2.2.1 = some (tyJ10 k) := by decide +kernel
def RJ7 : String := "java/util/Arrays"
def TJ7 : u_T := fun k => match k with
  | _ => ("", "", "", false)
def tyJ7 : Nat → FieldType := fun k => match k with
  | _ => .int
abbrev wsJ70 : List Cond := u_ws RJ7 TJ7 0
theorem nmJ7 : ∀ a, a < 0 → ∀ b, b < 0 → a ≠ b → (TJ7 a).2.1 ≠ (TJ7 b).2.1 := by decide +kernel
theorem tyJ7_ok : ∀ k, k < 0 → parseFieldDescriptor (TJ7 k).2.2.1 = some (tyJ7 k) := by decide +kernel
abbrev cJ7_fill_53178 : ByteArray := prog_17_method_103_code
def yJ7_fill_53178 : MethodName := ⟨RJ7, "fill", "([II)V"⟩
def RL : String := "ThrowersBagLaw"
abbrev cL_law : ByteArray := code
def yL_law : MethodName := ⟨RL, "law", "([I)Z"⟩
abbrev vwCl : List vw_C := [(RX0, TX0, 6), (RX1, TX1, 13), (RX2, TX2, 2), (RX3, TX3, 6), (RX4, TX4, 3), (RX5, TX5, 3), (RX6, TX6, 3), (RX7, TX7, 8), (RX8, TX8, 4), (RX9, TX9, 2), (RX10, TX10, 19), (RX11, TX11, 50)]
end
section
theorem dX0_init_0 : decode cX0_init 0 = .ok (.aload_n 0, 1) := by decide +kernel
theorem dX0_init_1 : decode cX0_init 1 = .ok (.invokespecial 3, 3) := by decide +kernel
theorem dX0_init_4 : decode cX0_init 4 = .ok (.aload_n 0, 1) := by decide +kernel
theorem dX0_init_5 : decode cX0_init 5 = .ok (.iconst (-1), 1) := by decide +kernel
theorem dX0_init_6 : decode cX0_init 6 = .ok (.putfield 9, 3) := by decide +kernel
theorem dX0_init_9 : decode cX0_init 9 = .ok (.return_, 1) := by decide +kernel
theorem dX0_take_0 : decode cX0_take 0 = .ok (.aload_n 0, 1) := by decide +kernel
theorem dX0_take_1 : decode cX0_take 1 = .ok (.iload_n 1, 1) := by decide +kernel
theorem dX0_take_2 : decode cX0_take 2 = .ok (.putfield 15, 3) := by decide +kernel
theorem dX0_take_5 : decode cX0_take 5 = .ok (.aload_n 0, 1) := by decide +kernel
theorem dX0_take_6 : decode cX0_take 6 = .ok (.iload_n 2, 1) := by decide +kernel
theorem dX0_take_7 : decode cX0_take 7 = .ok (.putfield 18, 3) := by decide +kernel
theorem dX0_take_10 : decode cX0_take 10 = .ok (.aload_n 0, 1) := by decide +kernel
theorem dX0_take_11 : decode cX0_take 11 = .ok (.iload_n 3, 1) := by decide +kernel
theorem dX0_take_12 : decode cX0_take 12 = .ok (.putfield 21, 3) := by decide +kernel
theorem dX0_take_15 : decode cX0_take 15 = .ok (.aload_n 0, 1) := by decide +kernel
theorem dX0_take_16 : decode cX0_take 16 = .ok (.iload 4, 2) := by decide +kernel
theorem dX0_take_18 : decode cX0_take 18 = .ok (.putfield 24, 3) := by decide +kernel
theorem dX0_take_21 : decode cX0_take 21 = .ok (.aload_n 0, 1) := by decide +kernel
theorem dX0_take_22 : decode cX0_take 22 = .ok (.iload 5, 2) := by decide +kernel
theorem dX0_take_24 : decode cX0_take 24 = .ok (.putfield 27, 3) := by decide +kernel
theorem dX0_take_27 : decode cX0_take 27 = .ok (.aload_n 0, 1) := by decide +kernel
theorem dX0_take_28 : decode cX0_take 28 = .ok (.iload 6, 2) := by decide +kernel
theorem dX0_take_30 : decode cX0_take 30 = .ok (.putfield 9, 3) := by decide +kernel
theorem dX0_take_33 : decode cX0_take 33 = .ok (.return_, 1) := by decide +kernel
theorem dX1_init_0 : decode cX1_init 0 = .ok (.aload_n 0, 1) := by decide +kernel
theorem dX1_init_1 : decode cX1_init 1 = .ok (.invokespecial 3, 3) := by decide +kernel
theorem dX1_init_4 : decode cX1_init 4 = .ok (.aload_n 0, 1) := by decide +kernel
theorem dX1_init_5 : decode cX1_init 5 = .ok (.iconst 0, 1) := by decide +kernel
theorem dX1_init_6 : decode cX1_init 6 = .ok (.putfield 9, 3) := by decide +kernel
theorem dX1_init_9 : decode cX1_init 9 = .ok (.aload_n 0, 1) := by decide +kernel
theorem dX1_init_10 : decode cX1_init 10 = .ok (.iconst 0, 1) := by decide +kernel
theorem dX1_init_11 : decode cX1_init 11 = .ok (.putfield 15, 3) := by decide +kernel
theorem dX1_init_14 : decode cX1_init 14 = .ok (.aload_n 0, 1) := by decide +kernel
theorem dX1_init_15 : decode cX1_init 15 = .ok (.bipush (-4), 2) := by decide +kernel
theorem dX1_init_17 : decode cX1_init 17 = .ok (.putfield 18, 3) := by decide +kernel
theorem dX1_init_20 : decode cX1_init 20 = .ok (.aload_n 0, 1) := by decide +kernel
theorem dX1_init_21 : decode cX1_init 21 = .ok (.aload_n 1, 1) := by decide +kernel
theorem dX1_init_22 : decode cX1_init 22 = .ok (.putfield 21, 3) := by decide +kernel
theorem dX1_init_25 : decode cX1_init 25 = .ok (.aload_n 0, 1) := by decide +kernel
theorem dX1_init_26 : decode cX1_init 26 = .ok (.iload_n 2, 1) := by decide +kernel
theorem dX1_init_27 : decode cX1_init 27 = .ok (.bipush 8, 2) := by decide +kernel
theorem dX1_init_29 : decode cX1_init 29 = .ok (.imul, 1) := by decide +kernel
theorem dX1_init_30 : decode cX1_init 30 = .ok (.newarray .int, 2) := by decide +kernel
theorem dX1_init_32 : decode cX1_init 32 = .ok (.putfield 25, 3) := by decide +kernel
theorem dX1_init_35 : decode cX1_init 35 = .ok (.return_, 1) := by decide +kernel
theorem dX1_begin_0 : decode cX1_begin 0 = .ok (.aload_n 0, 1) := by decide +kernel
theorem dX1_begin_1 : decode cX1_begin 1 = .ok (.iconst 0, 1) := by decide +kernel
theorem dX1_begin_2 : decode cX1_begin 2 = .ok (.putfield 28, 3) := by decide +kernel
theorem dX1_begin_5 : decode cX1_begin 5 = .ok (.aload_n 0, 1) := by decide +kernel
theorem dX1_begin_6 : decode cX1_begin 6 = .ok (.iconst 0, 1) := by decide +kernel
theorem dX1_begin_7 : decode cX1_begin 7 = .ok (.putfield 31, 3) := by decide +kernel
theorem dX1_begin_10 : decode cX1_begin 10 = .ok (.aload_n 0, 1) := by decide +kernel
theorem dX1_begin_11 : decode cX1_begin 11 = .ok (.sipush 150, 3) := by decide +kernel
theorem dX1_begin_14 : decode cX1_begin 14 = .ok (.putfield 34, 3) := by decide +kernel
theorem dX1_begin_17 : decode cX1_begin 17 = .ok (.aload_n 0, 1) := by decide +kernel
theorem dX1_begin_18 : decode cX1_begin 18 = .ok (.iconst 0, 1) := by decide +kernel
theorem dX1_begin_19 : decode cX1_begin 19 = .ok (.putfield 37, 3) := by decide +kernel
theorem dX1_begin_22 : decode cX1_begin 22 = .ok (.aload_n 0, 1) := by decide +kernel
theorem dX1_begin_23 : decode cX1_begin 23 = .ok (.bipush 100, 2) := by decide +kernel
theorem dX1_begin_25 : decode cX1_begin 25 = .ok (.aload_n 1, 1) := by decide +kernel
theorem dX1_begin_26 : decode cX1_begin 26 = .ok (.getfield 40, 3) := by decide +kernel
theorem dX1_begin_29 : decode cX1_begin 29 = .ok (.imul, 1) := by decide +kernel
theorem dX1_begin_30 : decode cX1_begin 30 = .ok (.putfield 45, 3) := by decide +kernel
theorem dX1_begin_33 : decode cX1_begin 33 = .ok (.aload_n 0, 1) := by decide +kernel
theorem dX1_begin_34 : decode cX1_begin 34 = .ok (.aload_n 1, 1) := by decide +kernel
theorem dX1_begin_35 : decode cX1_begin 35 = .ok (.getfield 48, 3) := by decide +kernel
theorem dX1_begin_38 : decode cX1_begin 38 = .ok (.putfield 51, 3) := by decide +kernel
theorem dX1_begin_41 : decode cX1_begin 41 = .ok (.aload_n 0, 1) := by decide +kernel
theorem dX1_begin_42 : decode cX1_begin 42 = .ok (.aload_n 1, 1) := by decide +kernel
theorem dX1_begin_43 : decode cX1_begin 43 = .ok (.getfield 54, 3) := by decide +kernel
theorem dX1_begin_46 : decode cX1_begin 46 = .ok (.putfield 57, 3) := by decide +kernel
theorem dX1_begin_49 : decode cX1_begin 49 = .ok (.aload_n 0, 1) := by decide +kernel
theorem dX1_begin_50 : decode cX1_begin 50 = .ok (.aload_n 1, 1) := by decide +kernel
theorem dX1_begin_51 : decode cX1_begin 51 = .ok (.getfield 58, 3) := by decide +kernel
theorem dX1_begin_54 : decode cX1_begin 54 = .ok (.putfield 61, 3) := by decide +kernel
theorem dX1_begin_57 : decode cX1_begin 57 = .ok (.aload_n 0, 1) := by decide +kernel
theorem dX1_begin_58 : decode cX1_begin 58 = .ok (.iconst 0, 1) := by decide +kernel
theorem dX1_begin_59 : decode cX1_begin 59 = .ok (.putfield 9, 3) := by decide +kernel
theorem dX1_begin_62 : decode cX1_begin 62 = .ok (.aload_n 0, 1) := by decide +kernel
theorem dX1_begin_63 : decode cX1_begin 63 = .ok (.iconst 0, 1) := by decide +kernel
theorem dX1_begin_64 : decode cX1_begin 64 = .ok (.putfield 15, 3) := by decide +kernel
theorem dX1_begin_67 : decode cX1_begin 67 = .ok (.aload_n 0, 1) := by decide +kernel
theorem dX1_begin_68 : decode cX1_begin 68 = .ok (.bipush (-4), 2) := by decide +kernel
theorem dX1_begin_70 : decode cX1_begin 70 = .ok (.putfield 18, 3) := by decide +kernel
theorem dX1_begin_73 : decode cX1_begin 73 = .ok (.aload_n 0, 1) := by decide +kernel
theorem dX1_begin_74 : decode cX1_begin 74 = .ok (.invokevirtual 62, 3) := by decide +kernel
theorem dX1_begin_77 : decode cX1_begin 77 = .ok (.return_, 1) := by decide +kernel
theorem dX1_step_0 : decode cX1_step 0 = .ok (.aload_n 0, 1) := by decide +kernel
theorem dX1_step_1 : decode cX1_step 1 = .ok (.dup, 1) := by decide +kernel
theorem dX1_step_2 : decode cX1_step 2 = .ok (.getfield 9, 3) := by decide +kernel
theorem dX1_step_5 : decode cX1_step 5 = .ok (.iconst 1, 1) := by decide +kernel
theorem dX1_step_6 : decode cX1_step 6 = .ok (.iadd, 1) := by decide +kernel
theorem dX1_step_7 : decode cX1_step 7 = .ok (.putfield 9, 3) := by decide +kernel
theorem dX1_step_10 : decode cX1_step 10 = .ok (.aload_n 1, 1) := by decide +kernel
theorem dX1_step_11 : decode cX1_step 11 = .ok (.aload_n 0, 1) := by decide +kernel
theorem dX1_step_12 : decode cX1_step 12 = .ok (.getfield 51, 3) := by decide +kernel
theorem dX1_step_15 : decode cX1_step 15 = .ok (.aload_n 0, 1) := by decide +kernel
theorem dX1_step_16 : decode cX1_step 16 = .ok (.getfield 57, 3) := by decide +kernel
theorem dX1_step_19 : decode cX1_step 19 = .ok (.invokevirtual 65, 3) := by decide +kernel
theorem dX1_step_22 : decode cX1_step 22 = .ok (.aload_n 0, 1) := by decide +kernel
theorem dX1_step_23 : decode cX1_step 23 = .ok (.getfield 21, 3) := by decide +kernel
theorem dX1_step_26 : decode cX1_step 26 = .ok (.aload_n 0, 1) := by decide +kernel
theorem dX1_step_27 : decode cX1_step 27 = .ok (.getfield 61, 3) := by decide +kernel
theorem dX1_step_30 : decode cX1_step 30 = .ok (.bipush 90, 2) := by decide +kernel
theorem dX1_step_32 : decode cX1_step 32 = .ok (.iadd, 1) := by decide +kernel
theorem dX1_step_33 : decode cX1_step 33 = .ok (.iaload, 1) := by decide +kernel
theorem dX1_step_34 : decode cX1_step 34 = .ok (.imul, 1) := by decide +kernel
theorem dX1_step_35 : decode cX1_step 35 = .ok (.sipush 1000, 3) := by decide +kernel
theorem dX1_step_38 : decode cX1_step 38 = .ok (.idiv, 1) := by decide +kernel
theorem dX1_step_39 : decode cX1_step 39 = .ok (.aload_n 1, 1) := by decide +kernel
theorem dX1_step_40 : decode cX1_step 40 = .ok (.getfield 71, 3) := by decide +kernel
theorem dX1_step_43 : decode cX1_step 43 = .ok (.isub, 1) := by decide +kernel
theorem dX1_step_44 : decode cX1_step 44 = .ok (.bipush 10, 2) := by decide +kernel
theorem dX1_step_46 : decode cX1_step 46 = .ok (.idiv, 1) := by decide +kernel
theorem dX1_step_47 : decode cX1_step 47 = .ok (.istore 4, 2) := by decide +kernel
theorem dX1_step_49 : decode cX1_step 49 = .ok (.aload_n 0, 1) := by decide +kernel
theorem dX1_step_50 : decode cX1_step 50 = .ok (.bipush (-80), 2) := by decide +kernel
theorem dX1_step_52 : decode cX1_step 52 = .ok (.bipush 80, 2) := by decide +kernel
theorem dX1_step_54 : decode cX1_step 54 = .ok (.aload_n 0, 1) := by decide +kernel
theorem dX1_step_55 : decode cX1_step 55 = .ok (.getfield 37, 3) := by decide +kernel
theorem dX1_step_58 : decode cX1_step 58 = .ok (.iload 4, 2) := by decide +kernel
theorem dX1_step_60 : decode cX1_step 60 = .ok (.iadd, 1) := by decide +kernel
theorem dX1_step_61 : decode cX1_step 61 = .ok (.invokestatic 74, 3) := by decide +kernel
theorem dX1_step_64 : decode cX1_step 64 = .ok (.invokestatic 79, 3) := by decide +kernel
theorem dX1_step_67 : decode cX1_step 67 = .ok (.putfield 37, 3) := by decide +kernel
theorem dX1_step_70 : decode cX1_step 70 = .ok (.aload_n 0, 1) := by decide +kernel
theorem dX1_step_71 : decode cX1_step 71 = .ok (.dup, 1) := by decide +kernel
theorem dX1_step_72 : decode cX1_step 72 = .ok (.getfield 34, 3) := by decide +kernel
theorem dX1_step_75 : decode cX1_step 75 = .ok (.aload_n 0, 1) := by decide +kernel
theorem dX1_step_76 : decode cX1_step 76 = .ok (.getfield 37, 3) := by decide +kernel
theorem dX1_step_79 : decode cX1_step 79 = .ok (.iadd, 1) := by decide +kernel
theorem dX1_step_80 : decode cX1_step 80 = .ok (.putfield 34, 3) := by decide +kernel
theorem dX1_step_83 : decode cX1_step 83 = .ok (.aload_n 0, 1) := by decide +kernel
theorem dX1_step_84 : decode cX1_step 84 = .ok (.aload_n 0, 1) := by decide +kernel
theorem dX1_step_85 : decode cX1_step 85 = .ok (.getfield 45, 3) := by decide +kernel
theorem dX1_step_88 : decode cX1_step 88 = .ok (.aload_n 1, 1) := by decide +kernel
theorem dX1_step_89 : decode cX1_step 89 = .ok (.getfield 82, 3) := by decide +kernel
theorem dX1_step_92 : decode cX1_step 92 = .ok (.iload_n 2, 1) := by decide +kernel
theorem dX1_step_93 : decode cX1_step 93 = .ok (.iadd, 1) := by decide +kernel
theorem dX1_step_94 : decode cX1_step 94 = .ok (.aload_n 0, 1) := by decide +kernel
theorem dX1_step_95 : decode cX1_step 95 = .ok (.getfield 57, 3) := by decide +kernel
theorem dX1_step_98 : decode cX1_step 98 = .ok (.imul, 1) := by decide +kernel
theorem dX1_step_99 : decode cX1_step 99 = .ok (.aload_n 0, 1) := by decide +kernel
theorem dX1_step_100 : decode cX1_step 100 = .ok (.getfield 21, 3) := by decide +kernel
theorem dX1_step_103 : decode cX1_step 103 = .ok (.aload_n 0, 1) := by decide +kernel
theorem dX1_step_104 : decode cX1_step 104 = .ok (.getfield 61, 3) := by decide +kernel
theorem dX1_step_107 : decode cX1_step 107 = .ok (.iaload, 1) := by decide +kernel
theorem dX1_step_108 : decode cX1_step 108 = .ok (.imul, 1) := by decide +kernel
theorem dX1_step_109 : decode cX1_step 109 = .ok (.ldc 85, 2) := by decide +kernel
theorem dX1_step_111 : decode cX1_step 111 = .ok (.idiv, 1) := by decide +kernel
theorem dX1_step_112 : decode cX1_step 112 = .ok (.iadd, 1) := by decide +kernel
theorem dX1_step_113 : decode cX1_step 113 = .ok (.ldc 86, 2) := by decide +kernel
theorem dX1_step_115 : decode cX1_step 115 = .ok (.invokestatic 87, 3) := by decide +kernel
theorem dX1_step_118 : decode cX1_step 118 = .ok (.putfield 45, 3) := by decide +kernel
theorem dX1_step_121 : decode cX1_step 121 = .ok (.aload_n 0, 1) := by decide +kernel
theorem dX1_step_122 : decode cX1_step 122 = .ok (.dup, 1) := by decide +kernel
theorem dX1_step_123 : decode cX1_step 123 = .ok (.getfield 28, 3) := by decide +kernel
theorem dX1_step_126 : decode cX1_step 126 = .ok (.aload_n 0, 1) := by decide +kernel
theorem dX1_step_127 : decode cX1_step 127 = .ok (.getfield 51, 3) := by decide +kernel
theorem dX1_step_130 : decode cX1_step 130 = .ok (.aload_n 0, 1) := by decide +kernel
theorem dX1_step_131 : decode cX1_step 131 = .ok (.getfield 21, 3) := by decide +kernel
theorem dX1_step_134 : decode cX1_step 134 = .ok (.aload_n 0, 1) := by decide +kernel
theorem dX1_step_135 : decode cX1_step 135 = .ok (.getfield 45, 3) := by decide +kernel
theorem dX1_step_138 : decode cX1_step 138 = .ok (.bipush 100, 2) := by decide +kernel
theorem dX1_step_140 : decode cX1_step 140 = .ok (.idiv, 1) := by decide +kernel
theorem dX1_step_141 : decode cX1_step 141 = .ok (.iaload, 1) := by decide +kernel
theorem dX1_step_142 : decode cX1_step 142 = .ok (.imul, 1) := by decide +kernel
theorem dX1_step_143 : decode cX1_step 143 = .ok (.sipush 1000, 3) := by decide +kernel
theorem dX1_step_146 : decode cX1_step 146 = .ok (.idiv, 1) := by decide +kernel
theorem dX1_step_147 : decode cX1_step 147 = .ok (.iadd, 1) := by decide +kernel
theorem dX1_step_148 : decode cX1_step 148 = .ok (.putfield 28, 3) := by decide +kernel
theorem dX1_step_151 : decode cX1_step 151 = .ok (.aload_n 0, 1) := by decide +kernel
theorem dX1_step_152 : decode cX1_step 152 = .ok (.dup, 1) := by decide +kernel
theorem dX1_step_153 : decode cX1_step 153 = .ok (.getfield 31, 3) := by decide +kernel
theorem dX1_step_156 : decode cX1_step 156 = .ok (.aload_n 0, 1) := by decide +kernel
theorem dX1_step_157 : decode cX1_step 157 = .ok (.getfield 51, 3) := by decide +kernel
theorem dX1_step_160 : decode cX1_step 160 = .ok (.aload_n 0, 1) := by decide +kernel
theorem dX1_step_161 : decode cX1_step 161 = .ok (.getfield 21, 3) := by decide +kernel
theorem dX1_step_164 : decode cX1_step 164 = .ok (.aload_n 0, 1) := by decide +kernel
theorem dX1_step_165 : decode cX1_step 165 = .ok (.getfield 45, 3) := by decide +kernel
theorem dX1_step_168 : decode cX1_step 168 = .ok (.bipush 100, 2) := by decide +kernel
theorem dX1_step_170 : decode cX1_step 170 = .ok (.idiv, 1) := by decide +kernel
theorem dX1_step_171 : decode cX1_step 171 = .ok (.bipush 90, 2) := by decide +kernel
theorem dX1_step_173 : decode cX1_step 173 = .ok (.iadd, 1) := by decide +kernel
theorem dX1_step_174 : decode cX1_step 174 = .ok (.iaload, 1) := by decide +kernel
theorem dX1_step_175 : decode cX1_step 175 = .ok (.imul, 1) := by decide +kernel
theorem dX1_step_176 : decode cX1_step 176 = .ok (.sipush 1000, 3) := by decide +kernel
theorem dX1_step_179 : decode cX1_step 179 = .ok (.idiv, 1) := by decide +kernel
theorem dX1_step_180 : decode cX1_step 180 = .ok (.iadd, 1) := by decide +kernel
theorem dX1_step_181 : decode cX1_step 181 = .ok (.putfield 31, 3) := by decide +kernel
theorem dX1_step_184 : decode cX1_step 184 = .ok (.aload_n 0, 1) := by decide +kernel
theorem dX1_step_185 : decode cX1_step 185 = .ok (.getfield 34, 3) := by decide +kernel
theorem dX1_step_188 : decode cX1_step 188 = .ok (.invokestatic 90, 3) := by decide +kernel
theorem dX1_step_191 : decode cX1_step 191 = .ok (.istore 5, 2) := by decide +kernel
theorem dX1_step_193 : decode cX1_step 193 = .ok (.aload_n 0, 1) := by decide +kernel
theorem dX1_step_194 : decode cX1_step 194 = .ok (.dup, 1) := by decide +kernel
theorem dX1_step_195 : decode cX1_step 195 = .ok (.getfield 28, 3) := by decide +kernel
theorem dX1_step_198 : decode cX1_step 198 = .ok (.aload_n 3, 1) := by decide +kernel
theorem dX1_step_199 : decode cX1_step 199 = .ok (.getfield 96, 3) := by decide +kernel
theorem dX1_step_202 : decode cX1_step 202 = .ok (.iload 5, 2) := by decide +kernel
theorem dX1_step_204 : decode cX1_step 204 = .ok (.iaload, 1) := by decide +kernel
theorem dX1_step_205 : decode cX1_step 205 = .ok (.aload_n 0, 1) := by decide +kernel
theorem dX1_step_206 : decode cX1_step 206 = .ok (.getfield 21, 3) := by decide +kernel
theorem dX1_step_209 : decode cX1_step 209 = .ok (.aload_n 3, 1) := by decide +kernel
theorem dX1_step_210 : decode cX1_step 210 = .ok (.getfield 99, 3) := by decide +kernel
theorem dX1_step_213 : decode cX1_step 213 = .ok (.iload 5, 2) := by decide +kernel
theorem dX1_step_215 : decode cX1_step 215 = .ok (.iaload, 1) := by decide +kernel
theorem dX1_step_216 : decode cX1_step 216 = .ok (.iaload, 1) := by decide +kernel
theorem dX1_step_217 : decode cX1_step 217 = .ok (.imul, 1) := by decide +kernel
theorem dX1_step_218 : decode cX1_step 218 = .ok (.sipush 1000, 3) := by decide +kernel
theorem dX1_step_221 : decode cX1_step 221 = .ok (.idiv, 1) := by decide +kernel
theorem dX1_step_222 : decode cX1_step 222 = .ok (.iadd, 1) := by decide +kernel
theorem dX1_step_223 : decode cX1_step 223 = .ok (.putfield 28, 3) := by decide +kernel
theorem dX1_step_226 : decode cX1_step 226 = .ok (.aload_n 0, 1) := by decide +kernel
theorem dX1_step_227 : decode cX1_step 227 = .ok (.dup, 1) := by decide +kernel
theorem dX1_step_228 : decode cX1_step 228 = .ok (.getfield 31, 3) := by decide +kernel
theorem dX1_step_231 : decode cX1_step 231 = .ok (.aload_n 3, 1) := by decide +kernel
theorem dX1_step_232 : decode cX1_step 232 = .ok (.getfield 96, 3) := by decide +kernel
theorem dX1_step_235 : decode cX1_step 235 = .ok (.iload 5, 2) := by decide +kernel
theorem dX1_step_237 : decode cX1_step 237 = .ok (.iaload, 1) := by decide +kernel
theorem dX1_step_238 : decode cX1_step 238 = .ok (.aload_n 0, 1) := by decide +kernel
theorem dX1_step_239 : decode cX1_step 239 = .ok (.getfield 21, 3) := by decide +kernel
theorem dX1_step_242 : decode cX1_step 242 = .ok (.aload_n 3, 1) := by decide +kernel
theorem dX1_step_243 : decode cX1_step 243 = .ok (.getfield 99, 3) := by decide +kernel
theorem dX1_step_246 : decode cX1_step 246 = .ok (.iload 5, 2) := by decide +kernel
theorem dX1_step_248 : decode cX1_step 248 = .ok (.iaload, 1) := by decide +kernel
theorem dX1_step_249 : decode cX1_step 249 = .ok (.bipush 90, 2) := by decide +kernel
theorem dX1_step_251 : decode cX1_step 251 = .ok (.iadd, 1) := by decide +kernel
theorem dX1_step_252 : decode cX1_step 252 = .ok (.iaload, 1) := by decide +kernel
theorem dX1_step_253 : decode cX1_step 253 = .ok (.imul, 1) := by decide +kernel
theorem dX1_step_254 : decode cX1_step 254 = .ok (.sipush 1000, 3) := by decide +kernel
theorem dX1_step_257 : decode cX1_step 257 = .ok (.idiv, 1) := by decide +kernel
theorem dX1_step_258 : decode cX1_step 258 = .ok (.iadd, 1) := by decide +kernel
theorem dX1_step_259 : decode cX1_step 259 = .ok (.putfield 31, 3) := by decide +kernel
theorem dX1_step_262 : decode cX1_step 262 = .ok (.aload_n 0, 1) := by decide +kernel
theorem dX1_step_263 : decode cX1_step 263 = .ok (.iconst 0, 1) := by decide +kernel
theorem dX1_step_264 : decode cX1_step 264 = .ok (.aload_n 0, 1) := by decide +kernel
theorem dX1_step_265 : decode cX1_step 265 = .ok (.getfield 57, 3) := by decide +kernel
theorem dX1_step_268 : decode cX1_step 268 = .ok (.aload_n 1, 1) := by decide +kernel
theorem dX1_step_269 : decode cX1_step 269 = .ok (.getfield 102, 3) := by decide +kernel
theorem dX1_step_272 : decode cX1_step 272 = .ok (.isub, 1) := by decide +kernel
theorem dX1_step_273 : decode cX1_step 273 = .ok (.invokestatic 79, 3) := by decide +kernel
theorem dX1_step_276 : decode cX1_step 276 = .ok (.putfield 57, 3) := by decide +kernel
theorem dX1_step_279 : decode cX1_step 279 = .ok (.aload_n 0, 1) := by decide +kernel
theorem dX1_step_280 : decode cX1_step 280 = .ok (.bipush 20, 2) := by decide +kernel
theorem dX1_step_282 : decode cX1_step 282 = .ok (.aload_n 0, 1) := by decide +kernel
theorem dX1_step_283 : decode cX1_step 283 = .ok (.getfield 51, 3) := by decide +kernel
theorem dX1_step_286 : decode cX1_step 286 = .ok (.aload_n 1, 1) := by decide +kernel
theorem dX1_step_287 : decode cX1_step 287 = .ok (.getfield 105, 3) := by decide +kernel
theorem dX1_step_290 : decode cX1_step 290 = .ok (.isub, 1) := by decide +kernel
theorem dX1_step_291 : decode cX1_step 291 = .ok (.invokestatic 79, 3) := by decide +kernel
theorem dX1_step_294 : decode cX1_step 294 = .ok (.putfield 51, 3) := by decide +kernel
theorem dX1_step_297 : decode cX1_step 297 = .ok (.aload_n 0, 1) := by decide +kernel
theorem dX1_step_298 : decode cX1_step 298 = .ok (.getfield 9, 3) := by decide +kernel
theorem dX1_step_301 : decode cX1_step 301 = .ok (.iconst 4, 1) := by decide +kernel
theorem dX1_step_302 : decode cX1_step 302 = .ok (.irem, 1) := by decide +kernel
theorem dX1_step_303 : decode cX1_step 303 = .ok (.ifCond .ne 17, 3) := by decide +kernel
theorem dX1_step_306 : decode cX1_step 306 = .ok (.aload_n 0, 1) := by decide +kernel
theorem dX1_step_307 : decode cX1_step 307 = .ok (.iconst 0, 1) := by decide +kernel
theorem dX1_step_308 : decode cX1_step 308 = .ok (.aload_n 0, 1) := by decide +kernel
theorem dX1_step_309 : decode cX1_step 309 = .ok (.getfield 61, 3) := by decide +kernel
theorem dX1_step_312 : decode cX1_step 312 = .ok (.iconst 1, 1) := by decide +kernel
theorem dX1_step_313 : decode cX1_step 313 = .ok (.isub, 1) := by decide +kernel
theorem dX1_step_314 : decode cX1_step 314 = .ok (.invokestatic 79, 3) := by decide +kernel
theorem dX1_step_317 : decode cX1_step 317 = .ok (.putfield 61, 3) := by decide +kernel
theorem dX1_step_320 : decode cX1_step 320 = .ok (.return_, 1) := by decide +kernel
theorem dX1_endIn_0 : decode cX1_endIn 0 = .ok (.iconst 0, 1) := by decide +kernel
theorem dX1_endIn_1 : decode cX1_endIn 1 = .ok (.istore_n 2, 1) := by decide +kernel
theorem dX1_endIn_2 : decode cX1_endIn 2 = .ok (.iload_n 2, 1) := by decide +kernel
theorem dX1_endIn_3 : decode cX1_endIn 3 = .ok (.aload_n 1, 1) := by decide +kernel
theorem dX1_endIn_4 : decode cX1_endIn 4 = .ok (.getfield 108, 3) := by decide +kernel
theorem dX1_endIn_7 : decode cX1_endIn 7 = .ok (.if_icmp .ge 61, 3) := by decide +kernel
theorem dX1_endIn_10 : decode cX1_endIn 10 = .ok (.aload_n 0, 1) := by decide +kernel
theorem dX1_endIn_11 : decode cX1_endIn 11 = .ok (.getfield 18, 3) := by decide +kernel
theorem dX1_endIn_14 : decode cX1_endIn 14 = .ok (.bipush (-4), 2) := by decide +kernel
theorem dX1_endIn_16 : decode cX1_endIn 16 = .ok (.if_icmp .ne 52, 3) := by decide +kernel
theorem dX1_endIn_19 : decode cX1_endIn 19 = .ok (.aload_n 1, 1) := by decide +kernel
theorem dX1_endIn_20 : decode cX1_endIn 20 = .ok (.getfield 113, 3) := by decide +kernel
theorem dX1_endIn_23 : decode cX1_endIn 23 = .ok (.iload_n 2, 1) := by decide +kernel
theorem dX1_endIn_24 : decode cX1_endIn 24 = .ok (.aaload, 1) := by decide +kernel
theorem dX1_endIn_25 : decode cX1_endIn 25 = .ok (.astore_n 3, 1) := by decide +kernel
theorem dX1_endIn_26 : decode cX1_endIn 26 = .ok (.aload_n 0, 1) := by decide +kernel
theorem dX1_endIn_27 : decode cX1_endIn 27 = .ok (.getfield 34, 3) := by decide +kernel
theorem dX1_endIn_30 : decode cX1_endIn 30 = .ok (.aload_n 3, 1) := by decide +kernel
theorem dX1_endIn_31 : decode cX1_endIn 31 = .ok (.getfield 117, 3) := by decide +kernel
theorem dX1_endIn_34 : decode cX1_endIn 34 = .ok (.if_icmp .gt 28, 3) := by decide +kernel
theorem dX1_endIn_37 : decode cX1_endIn 37 = .ok (.aload_n 0, 1) := by decide +kernel
theorem dX1_endIn_38 : decode cX1_endIn 38 = .ok (.aload_n 3, 1) := by decide +kernel
theorem dX1_endIn_39 : decode cX1_endIn 39 = .ok (.getfield 122, 3) := by decide +kernel
theorem dX1_endIn_42 : decode cX1_endIn 42 = .ok (.aload_n 3, 1) := by decide +kernel
theorem dX1_endIn_43 : decode cX1_endIn 43 = .ok (.getfield 123, 3) := by decide +kernel
theorem dX1_endIn_46 : decode cX1_endIn 46 = .ok (.aload_n 3, 1) := by decide +kernel
theorem dX1_endIn_47 : decode cX1_endIn 47 = .ok (.getfield 124, 3) := by decide +kernel
theorem dX1_endIn_50 : decode cX1_endIn 50 = .ok (.i2l, 1) := by decide +kernel
theorem dX1_endIn_51 : decode cX1_endIn 51 = .ok (.invokevirtual 127, 3) := by decide +kernel
theorem dX1_endIn_54 : decode cX1_endIn 54 = .ok (.ifCond .eq 8, 3) := by decide +kernel
theorem dX1_endIn_57 : decode cX1_endIn 57 = .ok (.aload_n 0, 1) := by decide +kernel
theorem dX1_endIn_58 : decode cX1_endIn 58 = .ok (.iload_n 2, 1) := by decide +kernel
theorem dX1_endIn_59 : decode cX1_endIn 59 = .ok (.putfield 18, 3) := by decide +kernel
theorem dX1_endIn_62 : decode cX1_endIn 62 = .ok (.iinc 2 1, 3) := by decide +kernel
theorem dX1_endIn_65 : decode cX1_endIn 65 = .ok (.goto (-63), 3) := by decide +kernel
theorem dX1_endIn_68 : decode cX1_endIn 68 = .ok (.aload_n 0, 1) := by decide +kernel
theorem dX1_endIn_69 : decode cX1_endIn 69 = .ok (.getfield 18, 3) := by decide +kernel
theorem dX1_endIn_72 : decode cX1_endIn 72 = .ok (.bipush (-4), 2) := by decide +kernel
theorem dX1_endIn_74 : decode cX1_endIn 74 = .ok (.if_icmp .eq 11, 3) := by decide +kernel
theorem dX1_endIn_77 : decode cX1_endIn 77 = .ok (.aload_n 0, 1) := by decide +kernel
theorem dX1_endIn_78 : decode cX1_endIn 78 = .ok (.iconst 3, 1) := by decide +kernel
theorem dX1_endIn_79 : decode cX1_endIn 79 = .ok (.putfield 15, 3) := by decide +kernel
theorem dX1_endIn_82 : decode cX1_endIn 82 = .ok (.goto 79, 3) := by decide +kernel
theorem dX1_endIn_85 : decode cX1_endIn 85 = .ok (.aload_n 0, 1) := by decide +kernel
theorem dX1_endIn_86 : decode cX1_endIn 86 = .ok (.getfield 34, 3) := by decide +kernel
theorem dX1_endIn_89 : decode cX1_endIn 89 = .ok (.ifCond .gt 11, 3) := by decide +kernel
theorem dX1_endIn_92 : decode cX1_endIn 92 = .ok (.aload_n 0, 1) := by decide +kernel
theorem dX1_endIn_93 : decode cX1_endIn 93 = .ok (.iconst 1, 1) := by decide +kernel
theorem dX1_endIn_94 : decode cX1_endIn 94 = .ok (.putfield 15, 3) := by decide +kernel
theorem dX1_endIn_97 : decode cX1_endIn 97 = .ok (.goto 64, 3) := by decide +kernel
theorem dX1_endIn_100 : decode cX1_endIn 100 = .ok (.aload_n 0, 1) := by decide +kernel
theorem dX1_endIn_101 : decode cX1_endIn 101 = .ok (.getfield 9, 3) := by decide +kernel
theorem dX1_endIn_104 : decode cX1_endIn 104 = .ok (.bipush 20, 2) := by decide +kernel
theorem dX1_endIn_106 : decode cX1_endIn 106 = .ok (.if_icmp .lt 40, 3) := by decide +kernel
theorem dX1_endIn_109 : decode cX1_endIn 109 = .ok (.aload_n 0, 1) := by decide +kernel
theorem dX1_endIn_110 : decode cX1_endIn 110 = .ok (.getfield 34, 3) := by decide +kernel
theorem dX1_endIn_113 : decode cX1_endIn 113 = .ok (.bipush 50, 2) := by decide +kernel
theorem dX1_endIn_115 : decode cX1_endIn 115 = .ok (.sipush 250, 3) := by decide +kernel
theorem dX1_endIn_118 : decode cX1_endIn 118 = .ok (.invokestatic 131, 3) := by decide +kernel
theorem dX1_endIn_121 : decode cX1_endIn 121 = .ok (.ifCond .eq 25, 3) := by decide +kernel
theorem dX1_endIn_124 : decode cX1_endIn 124 = .ok (.aload_n 0, 1) := by decide +kernel
theorem dX1_endIn_125 : decode cX1_endIn 125 = .ok (.iconst 0, 1) := by decide +kernel
theorem dX1_endIn_126 : decode cX1_endIn 126 = .ok (.iconst 0, 1) := by decide +kernel
theorem dX1_endIn_127 : decode cX1_endIn 127 = .ok (.aload_n 1, 1) := by decide +kernel
theorem dX1_endIn_128 : decode cX1_endIn 128 = .ok (.getfield 135, 3) := by decide +kernel
theorem dX1_endIn_131 : decode cX1_endIn 131 = .ok (.i2l, 1) := by decide +kernel
theorem dX1_endIn_132 : decode cX1_endIn 132 = .ok (.invokevirtual 127, 3) := by decide +kernel
theorem dX1_endIn_135 : decode cX1_endIn 135 = .ok (.ifCond .eq 11, 3) := by decide +kernel
theorem dX1_endIn_138 : decode cX1_endIn 138 = .ok (.aload_n 0, 1) := by decide +kernel
theorem dX1_endIn_139 : decode cX1_endIn 139 = .ok (.iconst 2, 1) := by decide +kernel
theorem dX1_endIn_140 : decode cX1_endIn 140 = .ok (.putfield 15, 3) := by decide +kernel
theorem dX1_endIn_143 : decode cX1_endIn 143 = .ok (.goto 18, 3) := by decide +kernel
theorem dX1_endIn_146 : decode cX1_endIn 146 = .ok (.aload_n 0, 1) := by decide +kernel
theorem dX1_endIn_147 : decode cX1_endIn 147 = .ok (.getfield 9, 3) := by decide +kernel
theorem dX1_endIn_150 : decode cX1_endIn 150 = .ok (.sipush 400, 3) := by decide +kernel
theorem dX1_endIn_153 : decode cX1_endIn 153 = .ok (.if_icmp .lt 8, 3) := by decide +kernel
theorem dX1_endIn_156 : decode cX1_endIn 156 = .ok (.aload_n 0, 1) := by decide +kernel
theorem dX1_endIn_157 : decode cX1_endIn 157 = .ok (.iconst 4, 1) := by decide +kernel
theorem dX1_endIn_158 : decode cX1_endIn 158 = .ok (.putfield 15, 3) := by decide +kernel
theorem dX1_endIn_161 : decode cX1_endIn 161 = .ok (.return_, 1) := by decide +kernel
theorem dX1_isNear_0 : decode cX1_isNear 0 = .ok (.aload_n 0, 1) := by decide +kernel
theorem dX1_isNear_1 : decode cX1_isNear 1 = .ok (.getfield 28, 3) := by decide +kernel
theorem dX1_isNear_4 : decode cX1_isNear 4 = .ok (.iload_n 1, 1) := by decide +kernel
theorem dX1_isNear_5 : decode cX1_isNear 5 = .ok (.isub, 1) := by decide +kernel
theorem dX1_isNear_6 : decode cX1_isNear 6 = .ok (.i2l, 1) := by decide +kernel
theorem dX1_isNear_7 : decode cX1_isNear 7 = .ok (.lstore 5, 2) := by decide +kernel
theorem dX1_isNear_9 : decode cX1_isNear 9 = .ok (.aload_n 0, 1) := by decide +kernel
theorem dX1_isNear_10 : decode cX1_isNear 10 = .ok (.getfield 31, 3) := by decide +kernel
theorem dX1_isNear_13 : decode cX1_isNear 13 = .ok (.iload_n 2, 1) := by decide +kernel
theorem dX1_isNear_14 : decode cX1_isNear 14 = .ok (.isub, 1) := by decide +kernel
theorem dX1_isNear_15 : decode cX1_isNear 15 = .ok (.i2l, 1) := by decide +kernel
theorem dX1_isNear_16 : decode cX1_isNear 16 = .ok (.lstore 7, 2) := by decide +kernel
theorem dX1_isNear_18 : decode cX1_isNear 18 = .ok (.lload 5, 2) := by decide +kernel
theorem dX1_isNear_20 : decode cX1_isNear 20 = .ok (.lload 5, 2) := by decide +kernel
theorem dX1_isNear_22 : decode cX1_isNear 22 = .ok (.lmul, 1) := by decide +kernel
theorem dX1_isNear_23 : decode cX1_isNear 23 = .ok (.lload 7, 2) := by decide +kernel
theorem dX1_isNear_25 : decode cX1_isNear 25 = .ok (.lload 7, 2) := by decide +kernel
theorem dX1_isNear_27 : decode cX1_isNear 27 = .ok (.lmul, 1) := by decide +kernel
theorem dX1_isNear_28 : decode cX1_isNear 28 = .ok (.ladd, 1) := by decide +kernel
theorem dX1_isNear_29 : decode cX1_isNear 29 = .ok (.lload_n 3, 1) := by decide +kernel
theorem dX1_isNear_30 : decode cX1_isNear 30 = .ok (.lload_n 3, 1) := by decide +kernel
theorem dX1_isNear_31 : decode cX1_isNear 31 = .ok (.lmul, 1) := by decide +kernel
theorem dX1_isNear_32 : decode cX1_isNear 32 = .ok (.lcmp, 1) := by decide +kernel
theorem dX1_isNear_33 : decode cX1_isNear 33 = .ok (.ifCond .gt 7, 3) := by decide +kernel
theorem dX1_isNear_36 : decode cX1_isNear 36 = .ok (.iconst 1, 1) := by decide +kernel
theorem dX1_isNear_37 : decode cX1_isNear 37 = .ok (.goto 4, 3) := by decide +kernel
theorem dX1_isNear_40 : decode cX1_isNear 40 = .ok (.iconst 0, 1) := by decide +kernel
theorem dX1_isNear_41 : decode cX1_isNear 41 = .ok (.ireturn, 1) := by decide +kernel
theorem dX1_distance_0 : decode cX1_distance 0 = .ok (.aload_n 0, 1) := by decide +kernel
theorem dX1_distance_1 : decode cX1_distance 1 = .ok (.getfield 28, 3) := by decide +kernel
theorem dX1_distance_4 : decode cX1_distance 4 = .ok (.i2l, 1) := by decide +kernel
theorem dX1_distance_5 : decode cX1_distance 5 = .ok (.aload_n 0, 1) := by decide +kernel
theorem dX1_distance_6 : decode cX1_distance 6 = .ok (.getfield 28, 3) := by decide +kernel
theorem dX1_distance_9 : decode cX1_distance 9 = .ok (.i2l, 1) := by decide +kernel
theorem dX1_distance_10 : decode cX1_distance 10 = .ok (.lmul, 1) := by decide +kernel
theorem dX1_distance_11 : decode cX1_distance 11 = .ok (.aload_n 0, 1) := by decide +kernel
theorem dX1_distance_12 : decode cX1_distance 12 = .ok (.getfield 31, 3) := by decide +kernel
theorem dX1_distance_15 : decode cX1_distance 15 = .ok (.i2l, 1) := by decide +kernel
theorem dX1_distance_16 : decode cX1_distance 16 = .ok (.aload_n 0, 1) := by decide +kernel
theorem dX1_distance_17 : decode cX1_distance 17 = .ok (.getfield 31, 3) := by decide +kernel
theorem dX1_distance_20 : decode cX1_distance 20 = .ok (.i2l, 1) := by decide +kernel
theorem dX1_distance_21 : decode cX1_distance 21 = .ok (.lmul, 1) := by decide +kernel
theorem dX1_distance_22 : decode cX1_distance 22 = .ok (.ladd, 1) := by decide +kernel
theorem dX1_distance_23 : decode cX1_distance 23 = .ok (.lstore_n 1, 1) := by decide +kernel
theorem dX1_distance_24 : decode cX1_distance 24 = .ok (.lconst 0, 1) := by decide +kernel
theorem dX1_distance_25 : decode cX1_distance 25 = .ok (.lstore_n 3, 1) := by decide +kernel
theorem dX1_distance_26 : decode cX1_distance 26 = .ok (.ldc 138, 2) := by decide +kernel
theorem dX1_distance_28 : decode cX1_distance 28 = .ok (.istore 5, 2) := by decide +kernel
theorem dX1_distance_30 : decode cX1_distance 30 = .ok (.iload 5, 2) := by decide +kernel
theorem dX1_distance_32 : decode cX1_distance 32 = .ok (.ifCond .le 34, 3) := by decide +kernel
theorem dX1_distance_35 : decode cX1_distance 35 = .ok (.lload_n 3, 1) := by decide +kernel
theorem dX1_distance_36 : decode cX1_distance 36 = .ok (.iload 5, 2) := by decide +kernel
theorem dX1_distance_38 : decode cX1_distance 38 = .ok (.i2l, 1) := by decide +kernel
theorem dX1_distance_39 : decode cX1_distance 39 = .ok (.ladd, 1) := by decide +kernel
theorem dX1_distance_40 : decode cX1_distance 40 = .ok (.lload_n 3, 1) := by decide +kernel
theorem dX1_distance_41 : decode cX1_distance 41 = .ok (.iload 5, 2) := by decide +kernel
theorem dX1_distance_43 : decode cX1_distance 43 = .ok (.i2l, 1) := by decide +kernel
theorem dX1_distance_44 : decode cX1_distance 44 = .ok (.ladd, 1) := by decide +kernel
theorem dX1_distance_45 : decode cX1_distance 45 = .ok (.lmul, 1) := by decide +kernel
theorem dX1_distance_46 : decode cX1_distance 46 = .ok (.lload_n 1, 1) := by decide +kernel
theorem dX1_distance_47 : decode cX1_distance 47 = .ok (.lcmp, 1) := by decide +kernel
theorem dX1_distance_48 : decode cX1_distance 48 = .ok (.ifCond .gt 9, 3) := by decide +kernel
theorem dX1_distance_51 : decode cX1_distance 51 = .ok (.lload_n 3, 1) := by decide +kernel
theorem dX1_distance_52 : decode cX1_distance 52 = .ok (.iload 5, 2) := by decide +kernel
theorem dX1_distance_54 : decode cX1_distance 54 = .ok (.i2l, 1) := by decide +kernel
theorem dX1_distance_55 : decode cX1_distance 55 = .ok (.ladd, 1) := by decide +kernel
theorem dX1_distance_56 : decode cX1_distance 56 = .ok (.lstore_n 3, 1) := by decide +kernel
theorem dX1_distance_57 : decode cX1_distance 57 = .ok (.iload 5, 2) := by decide +kernel
theorem dX1_distance_59 : decode cX1_distance 59 = .ok (.iconst 1, 1) := by decide +kernel
theorem dX1_distance_60 : decode cX1_distance 60 = .ok (.ishr, 1) := by decide +kernel
theorem dX1_distance_61 : decode cX1_distance 61 = .ok (.istore 5, 2) := by decide +kernel
theorem dX1_distance_63 : decode cX1_distance 63 = .ok (.goto (-33), 3) := by decide +kernel
theorem dX1_distance_66 : decode cX1_distance 66 = .ok (.lload_n 3, 1) := by decide +kernel
theorem dX1_distance_67 : decode cX1_distance 67 = .ok (.l2i, 1) := by decide +kernel
theorem dX1_distance_68 : decode cX1_distance 68 = .ok (.ireturn, 1) := by decide +kernel
theorem dX1_note_0 : decode cX1_note 0 = .ok (.aload_n 0, 1) := by decide +kernel
theorem dX1_note_1 : decode cX1_note 1 = .ok (.getfield 9, 3) := by decide +kernel
theorem dX1_note_4 : decode cX1_note 4 = .ok (.bipush 8, 2) := by decide +kernel
theorem dX1_note_6 : decode cX1_note 6 = .ok (.imul, 1) := by decide +kernel
theorem dX1_note_7 : decode cX1_note 7 = .ok (.istore_n 1, 1) := by decide +kernel
theorem dX1_note_8 : decode cX1_note 8 = .ok (.iload_n 1, 1) := by decide +kernel
theorem dX1_note_9 : decode cX1_note 9 = .ok (.ifCond .lt 15, 3) := by decide +kernel
theorem dX1_note_12 : decode cX1_note 12 = .ok (.iload_n 1, 1) := by decide +kernel
theorem dX1_note_13 : decode cX1_note 13 = .ok (.aload_n 0, 1) := by decide +kernel
theorem dX1_note_14 : decode cX1_note 14 = .ok (.getfield 25, 3) := by decide +kernel
theorem dX1_note_17 : decode cX1_note 17 = .ok (.arraylength, 1) := by decide +kernel
theorem dX1_note_18 : decode cX1_note 18 = .ok (.bipush 8, 2) := by decide +kernel
theorem dX1_note_20 : decode cX1_note 20 = .ok (.isub, 1) := by decide +kernel
theorem dX1_note_21 : decode cX1_note 21 = .ok (.if_icmp .le 4, 3) := by decide +kernel
theorem dX1_note_24 : decode cX1_note 24 = .ok (.return_, 1) := by decide +kernel
theorem dX1_note_25 : decode cX1_note 25 = .ok (.aload_n 0, 1) := by decide +kernel
theorem dX1_note_26 : decode cX1_note 26 = .ok (.getfield 25, 3) := by decide +kernel
theorem dX1_note_29 : decode cX1_note 29 = .ok (.iload_n 1, 1) := by decide +kernel
theorem dX1_note_30 : decode cX1_note 30 = .ok (.aload_n 0, 1) := by decide +kernel
theorem dX1_note_31 : decode cX1_note 31 = .ok (.getfield 28, 3) := by decide +kernel
theorem dX1_note_34 : decode cX1_note 34 = .ok (.iastore, 1) := by decide +kernel
theorem dX1_note_35 : decode cX1_note 35 = .ok (.aload_n 0, 1) := by decide +kernel
theorem dX1_note_36 : decode cX1_note 36 = .ok (.getfield 25, 3) := by decide +kernel
theorem dX1_note_39 : decode cX1_note 39 = .ok (.iload_n 1, 1) := by decide +kernel
theorem dX1_note_40 : decode cX1_note 40 = .ok (.iconst 1, 1) := by decide +kernel
theorem dX1_note_41 : decode cX1_note 41 = .ok (.iadd, 1) := by decide +kernel
theorem dX1_note_42 : decode cX1_note 42 = .ok (.aload_n 0, 1) := by decide +kernel
theorem dX1_note_43 : decode cX1_note 43 = .ok (.getfield 31, 3) := by decide +kernel
theorem dX1_note_46 : decode cX1_note 46 = .ok (.iastore, 1) := by decide +kernel
theorem dX1_note_47 : decode cX1_note 47 = .ok (.aload_n 0, 1) := by decide +kernel
theorem dX1_note_48 : decode cX1_note 48 = .ok (.getfield 25, 3) := by decide +kernel
theorem dX1_note_51 : decode cX1_note 51 = .ok (.iload_n 1, 1) := by decide +kernel
theorem dX1_note_52 : decode cX1_note 52 = .ok (.iconst 2, 1) := by decide +kernel
theorem dX1_note_53 : decode cX1_note 53 = .ok (.iadd, 1) := by decide +kernel
theorem dX1_note_54 : decode cX1_note 54 = .ok (.aload_n 0, 1) := by decide +kernel
theorem dX1_note_55 : decode cX1_note 55 = .ok (.getfield 34, 3) := by decide +kernel
theorem dX1_note_58 : decode cX1_note 58 = .ok (.iastore, 1) := by decide +kernel
theorem dX1_note_59 : decode cX1_note 59 = .ok (.aload_n 0, 1) := by decide +kernel
theorem dX1_note_60 : decode cX1_note 60 = .ok (.getfield 25, 3) := by decide +kernel
theorem dX1_note_63 : decode cX1_note 63 = .ok (.iload_n 1, 1) := by decide +kernel
theorem dX1_note_64 : decode cX1_note 64 = .ok (.iconst 3, 1) := by decide +kernel
theorem dX1_note_65 : decode cX1_note 65 = .ok (.iadd, 1) := by decide +kernel
theorem dX1_note_66 : decode cX1_note 66 = .ok (.aload_n 0, 1) := by decide +kernel
theorem dX1_note_67 : decode cX1_note 67 = .ok (.getfield 37, 3) := by decide +kernel
theorem dX1_note_70 : decode cX1_note 70 = .ok (.iastore, 1) := by decide +kernel
theorem dX1_note_71 : decode cX1_note 71 = .ok (.aload_n 0, 1) := by decide +kernel
theorem dX1_note_72 : decode cX1_note 72 = .ok (.getfield 25, 3) := by decide +kernel
theorem dX1_note_75 : decode cX1_note 75 = .ok (.iload_n 1, 1) := by decide +kernel
theorem dX1_note_76 : decode cX1_note 76 = .ok (.iconst 4, 1) := by decide +kernel
theorem dX1_note_77 : decode cX1_note 77 = .ok (.iadd, 1) := by decide +kernel
theorem dX1_note_78 : decode cX1_note 78 = .ok (.aload_n 0, 1) := by decide +kernel
theorem dX1_note_79 : decode cX1_note 79 = .ok (.getfield 45, 3) := by decide +kernel
theorem dX1_note_82 : decode cX1_note 82 = .ok (.iastore, 1) := by decide +kernel
theorem dX1_note_83 : decode cX1_note 83 = .ok (.aload_n 0, 1) := by decide +kernel
theorem dX1_note_84 : decode cX1_note 84 = .ok (.getfield 25, 3) := by decide +kernel
theorem dX1_note_87 : decode cX1_note 87 = .ok (.iload_n 1, 1) := by decide +kernel
theorem dX1_note_88 : decode cX1_note 88 = .ok (.iconst 5, 1) := by decide +kernel
theorem dX1_note_89 : decode cX1_note 89 = .ok (.iadd, 1) := by decide +kernel
theorem dX1_note_90 : decode cX1_note 90 = .ok (.aload_n 0, 1) := by decide +kernel
theorem dX1_note_91 : decode cX1_note 91 = .ok (.getfield 51, 3) := by decide +kernel
theorem dX1_note_94 : decode cX1_note 94 = .ok (.iastore, 1) := by decide +kernel
theorem dX1_note_95 : decode cX1_note 95 = .ok (.aload_n 0, 1) := by decide +kernel
theorem dX1_note_96 : decode cX1_note 96 = .ok (.getfield 25, 3) := by decide +kernel
theorem dX1_note_99 : decode cX1_note 99 = .ok (.iload_n 1, 1) := by decide +kernel
theorem dX1_note_100 : decode cX1_note 100 = .ok (.bipush 6, 2) := by decide +kernel
theorem dX1_note_102 : decode cX1_note 102 = .ok (.iadd, 1) := by decide +kernel
theorem dX1_note_103 : decode cX1_note 103 = .ok (.aload_n 0, 1) := by decide +kernel
theorem dX1_note_104 : decode cX1_note 104 = .ok (.getfield 57, 3) := by decide +kernel
theorem dX1_note_107 : decode cX1_note 107 = .ok (.iastore, 1) := by decide +kernel
theorem dX1_note_108 : decode cX1_note 108 = .ok (.aload_n 0, 1) := by decide +kernel
theorem dX1_note_109 : decode cX1_note 109 = .ok (.getfield 25, 3) := by decide +kernel
theorem dX1_note_112 : decode cX1_note 112 = .ok (.iload_n 1, 1) := by decide +kernel
theorem dX1_note_113 : decode cX1_note 113 = .ok (.bipush 7, 2) := by decide +kernel
theorem dX1_note_115 : decode cX1_note 115 = .ok (.iadd, 1) := by decide +kernel
theorem dX1_note_116 : decode cX1_note 116 = .ok (.aload_n 0, 1) := by decide +kernel
theorem dX1_note_117 : decode cX1_note 117 = .ok (.getfield 61, 3) := by decide +kernel
theorem dX1_note_120 : decode cX1_note 120 = .ok (.iastore, 1) := by decide +kernel
theorem dX1_note_121 : decode cX1_note 121 = .ok (.return_, 1) := by decide +kernel
theorem dX1_partAt_0 : decode cX1_partAt 0 = .ok (.aload_n 0, 1) := by decide +kernel
theorem dX1_partAt_1 : decode cX1_partAt 1 = .ok (.getfield 25, 3) := by decide +kernel
theorem dX1_partAt_4 : decode cX1_partAt 4 = .ok (.iload_n 1, 1) := by decide +kernel
theorem dX1_partAt_5 : decode cX1_partAt 5 = .ok (.bipush 8, 2) := by decide +kernel
theorem dX1_partAt_7 : decode cX1_partAt 7 = .ok (.imul, 1) := by decide +kernel
theorem dX1_partAt_8 : decode cX1_partAt 8 = .ok (.iload_n 2, 1) := by decide +kernel
theorem dX1_partAt_9 : decode cX1_partAt 9 = .ok (.iadd, 1) := by decide +kernel
theorem dX1_partAt_10 : decode cX1_partAt 10 = .ok (.iaload, 1) := by decide +kernel
theorem dX1_partAt_11 : decode cX1_partAt 11 = .ok (.ireturn, 1) := by decide +kernel
theorem dX2_init_0 : decode cX2_init 0 = .ok (.aload_n 0, 1) := by decide +kernel
theorem dX2_init_1 : decode cX2_init 1 = .ok (.invokespecial 3, 3) := by decide +kernel
theorem dX2_init_4 : decode cX2_init 4 = .ok (.aload_n 0, 1) := by decide +kernel
theorem dX2_init_5 : decode cX2_init 5 = .ok (.bipush 25, 2) := by decide +kernel
theorem dX2_init_7 : decode cX2_init 7 = .ok (.newarray .int, 2) := by decide +kernel
theorem dX2_init_9 : decode cX2_init 9 = .ok (.putfield 11, 3) := by decide +kernel
theorem dX2_init_12 : decode cX2_init 12 = .ok (.aload_n 0, 1) := by decide +kernel
theorem dX2_init_13 : decode cX2_init 13 = .ok (.bipush 25, 2) := by decide +kernel
theorem dX2_init_15 : decode cX2_init 15 = .ok (.newarray .int, 2) := by decide +kernel
theorem dX2_init_17 : decode cX2_init 17 = .ok (.putfield 15, 3) := by decide +kernel
theorem dX2_init_20 : decode cX2_init 20 = .ok (.aload_n 0, 1) := by decide +kernel
theorem dX2_init_21 : decode cX2_init 21 = .ok (.getfield 15, 3) := by decide +kernel
theorem dX2_init_24 : decode cX2_init 24 = .ok (.iconst 5, 1) := by decide +kernel
theorem dX2_init_25 : decode cX2_init 25 = .ok (.invokestatic 18, 3) := by decide +kernel
theorem dX2_init_28 : decode cX2_init 28 = .ok (.return_, 1) := by decide +kernel
theorem dX2_lineOf_0 : decode cX2_lineOf 0 = .ok (.iload_n 0, 1) := by decide +kernel
theorem dX2_lineOf_1 : decode cX2_lineOf 1 = .ok (.sipush 1000, 3) := by decide +kernel
theorem dX2_lineOf_4 : decode cX2_lineOf 4 = .ok (.iadd, 1) := by decide +kernel
theorem dX2_lineOf_5 : decode cX2_lineOf 5 = .ok (.sipush 400, 3) := by decide +kernel
theorem dX2_lineOf_8 : decode cX2_lineOf 8 = .ok (.invokestatic 24, 3) := by decide +kernel
theorem dX2_lineOf_11 : decode cX2_lineOf 11 = .ok (.istore_n 1, 1) := by decide +kernel
theorem dX2_lineOf_12 : decode cX2_lineOf 12 = .ok (.iconst 0, 1) := by decide +kernel
theorem dX2_lineOf_13 : decode cX2_lineOf 13 = .ok (.iconst 4, 1) := by decide +kernel
theorem dX2_lineOf_14 : decode cX2_lineOf 14 = .ok (.iload_n 1, 1) := by decide +kernel
theorem dX2_lineOf_15 : decode cX2_lineOf 15 = .ok (.invokestatic 30, 3) := by decide +kernel
theorem dX2_lineOf_18 : decode cX2_lineOf 18 = .ok (.invokestatic 33, 3) := by decide +kernel
theorem dX2_lineOf_21 : decode cX2_lineOf 21 = .ok (.ireturn, 1) := by decide +kernel
theorem dX2_spreadFrom_0 : decode cX2_spreadFrom 0 = .ok (.iconst 0, 1) := by decide +kernel
theorem dX2_spreadFrom_1 : decode cX2_spreadFrom 1 = .ok (.istore_n 3, 1) := by decide +kernel
theorem dX2_spreadFrom_2 : decode cX2_spreadFrom 2 = .ok (.iload_n 3, 1) := by decide +kernel
theorem dX2_spreadFrom_3 : decode cX2_spreadFrom 3 = .ok (.bipush 25, 2) := by decide +kernel
theorem dX2_spreadFrom_5 : decode cX2_spreadFrom 5 = .ok (.if_icmp .ge 42, 3) := by decide +kernel
theorem dX2_spreadFrom_8 : decode cX2_spreadFrom 8 = .ok (.iload_n 3, 1) := by decide +kernel
theorem dX2_spreadFrom_9 : decode cX2_spreadFrom 9 = .ok (.iconst 5, 1) := by decide +kernel
theorem dX2_spreadFrom_10 : decode cX2_spreadFrom 10 = .ok (.irem, 1) := by decide +kernel
theorem dX2_spreadFrom_11 : decode cX2_spreadFrom 11 = .ok (.iload_n 1, 1) := by decide +kernel
theorem dX2_spreadFrom_12 : decode cX2_spreadFrom 12 = .ok (.isub, 1) := by decide +kernel
theorem dX2_spreadFrom_13 : decode cX2_spreadFrom 13 = .ok (.invokestatic 36, 3) := by decide +kernel
theorem dX2_spreadFrom_16 : decode cX2_spreadFrom 16 = .ok (.iload_n 3, 1) := by decide +kernel
theorem dX2_spreadFrom_17 : decode cX2_spreadFrom 17 = .ok (.iconst 5, 1) := by decide +kernel
theorem dX2_spreadFrom_18 : decode cX2_spreadFrom 18 = .ok (.idiv, 1) := by decide +kernel
theorem dX2_spreadFrom_19 : decode cX2_spreadFrom 19 = .ok (.iload_n 2, 1) := by decide +kernel
theorem dX2_spreadFrom_20 : decode cX2_spreadFrom 20 = .ok (.isub, 1) := by decide +kernel
theorem dX2_spreadFrom_21 : decode cX2_spreadFrom 21 = .ok (.invokestatic 36, 3) := by decide +kernel
theorem dX2_spreadFrom_24 : decode cX2_spreadFrom 24 = .ok (.iadd, 1) := by decide +kernel
theorem dX2_spreadFrom_25 : decode cX2_spreadFrom 25 = .ok (.istore 4, 2) := by decide +kernel
theorem dX2_spreadFrom_27 : decode cX2_spreadFrom 27 = .ok (.aload_n 0, 1) := by decide +kernel
theorem dX2_spreadFrom_28 : decode cX2_spreadFrom 28 = .ok (.getfield 11, 3) := by decide +kernel
theorem dX2_spreadFrom_31 : decode cX2_spreadFrom 31 = .ok (.iload_n 3, 1) := by decide +kernel
theorem dX2_spreadFrom_32 : decode cX2_spreadFrom 32 = .ok (.sipush 1000, 3) := by decide +kernel
theorem dX2_spreadFrom_35 : decode cX2_spreadFrom 35 = .ok (.iconst 1, 1) := by decide +kernel
theorem dX2_spreadFrom_36 : decode cX2_spreadFrom 36 = .ok (.iload 4, 2) := by decide +kernel
theorem dX2_spreadFrom_38 : decode cX2_spreadFrom 38 = .ok (.iadd, 1) := by decide +kernel
theorem dX2_spreadFrom_39 : decode cX2_spreadFrom 39 = .ok (.idiv, 1) := by decide +kernel
theorem dX2_spreadFrom_40 : decode cX2_spreadFrom 40 = .ok (.iastore, 1) := by decide +kernel
theorem dX2_spreadFrom_41 : decode cX2_spreadFrom 41 = .ok (.iinc 3 1, 3) := by decide +kernel
theorem dX2_spreadFrom_44 : decode cX2_spreadFrom 44 = .ok (.goto (-42), 3) := by decide +kernel
theorem dX2_spreadFrom_47 : decode cX2_spreadFrom 47 = .ok (.iload_n 2, 1) := by decide +kernel
theorem dX2_spreadFrom_48 : decode cX2_spreadFrom 48 = .ok (.iconst 5, 1) := by decide +kernel
theorem dX2_spreadFrom_49 : decode cX2_spreadFrom 49 = .ok (.imul, 1) := by decide +kernel
theorem dX2_spreadFrom_50 : decode cX2_spreadFrom 50 = .ok (.iload_n 1, 1) := by decide +kernel
theorem dX2_spreadFrom_51 : decode cX2_spreadFrom 51 = .ok (.iadd, 1) := by decide +kernel
theorem dX2_spreadFrom_52 : decode cX2_spreadFrom 52 = .ok (.ireturn, 1) := by decide +kernel
theorem dX2_likeliest_0 : decode cX2_likeliest 0 = .ok (.bipush (-4), 2) := by decide +kernel
theorem dX2_likeliest_2 : decode cX2_likeliest 2 = .ok (.istore_n 1, 1) := by decide +kernel
theorem dX2_likeliest_3 : decode cX2_likeliest 3 = .ok (.iconst 0, 1) := by decide +kernel
theorem dX2_likeliest_4 : decode cX2_likeliest 4 = .ok (.istore_n 2, 1) := by decide +kernel
theorem dX2_likeliest_5 : decode cX2_likeliest 5 = .ok (.iconst 0, 1) := by decide +kernel
theorem dX2_likeliest_6 : decode cX2_likeliest 6 = .ok (.istore_n 3, 1) := by decide +kernel
theorem dX2_likeliest_7 : decode cX2_likeliest 7 = .ok (.iload_n 3, 1) := by decide +kernel
theorem dX2_likeliest_8 : decode cX2_likeliest 8 = .ok (.bipush 25, 2) := by decide +kernel
theorem dX2_likeliest_10 : decode cX2_likeliest 10 = .ok (.if_icmp .ge 42, 3) := by decide +kernel
theorem dX2_likeliest_13 : decode cX2_likeliest 13 = .ok (.aload_n 0, 1) := by decide +kernel
theorem dX2_likeliest_14 : decode cX2_likeliest 14 = .ok (.getfield 11, 3) := by decide +kernel
theorem dX2_likeliest_17 : decode cX2_likeliest 17 = .ok (.iload_n 3, 1) := by decide +kernel
theorem dX2_likeliest_18 : decode cX2_likeliest 18 = .ok (.iaload, 1) := by decide +kernel
theorem dX2_likeliest_19 : decode cX2_likeliest 19 = .ok (.aload_n 0, 1) := by decide +kernel
theorem dX2_likeliest_20 : decode cX2_likeliest 20 = .ok (.getfield 15, 3) := by decide +kernel
theorem dX2_likeliest_23 : decode cX2_likeliest 23 = .ok (.iload_n 3, 1) := by decide +kernel
theorem dX2_likeliest_24 : decode cX2_likeliest 24 = .ok (.iaload, 1) := by decide +kernel
theorem dX2_likeliest_25 : decode cX2_likeliest 25 = .ok (.imul, 1) := by decide +kernel
theorem dX2_likeliest_26 : decode cX2_likeliest 26 = .ok (.iload_n 2, 1) := by decide +kernel
theorem dX2_likeliest_27 : decode cX2_likeliest 27 = .ok (.if_icmp .le 19, 3) := by decide +kernel
theorem dX2_likeliest_30 : decode cX2_likeliest 30 = .ok (.aload_n 0, 1) := by decide +kernel
theorem dX2_likeliest_31 : decode cX2_likeliest 31 = .ok (.getfield 11, 3) := by decide +kernel
theorem dX2_likeliest_34 : decode cX2_likeliest 34 = .ok (.iload_n 3, 1) := by decide +kernel
theorem dX2_likeliest_35 : decode cX2_likeliest 35 = .ok (.iaload, 1) := by decide +kernel
theorem dX2_likeliest_36 : decode cX2_likeliest 36 = .ok (.aload_n 0, 1) := by decide +kernel
theorem dX2_likeliest_37 : decode cX2_likeliest 37 = .ok (.getfield 15, 3) := by decide +kernel
theorem dX2_likeliest_40 : decode cX2_likeliest 40 = .ok (.iload_n 3, 1) := by decide +kernel
theorem dX2_likeliest_41 : decode cX2_likeliest 41 = .ok (.iaload, 1) := by decide +kernel
theorem dX2_likeliest_42 : decode cX2_likeliest 42 = .ok (.imul, 1) := by decide +kernel
theorem dX2_likeliest_43 : decode cX2_likeliest 43 = .ok (.istore_n 2, 1) := by decide +kernel
theorem dX2_likeliest_44 : decode cX2_likeliest 44 = .ok (.iload_n 3, 1) := by decide +kernel
theorem dX2_likeliest_45 : decode cX2_likeliest 45 = .ok (.istore_n 1, 1) := by decide +kernel
theorem dX2_likeliest_46 : decode cX2_likeliest 46 = .ok (.iinc 3 1, 3) := by decide +kernel
theorem dX2_likeliest_49 : decode cX2_likeliest 49 = .ok (.goto (-42), 3) := by decide +kernel
theorem dX2_likeliest_52 : decode cX2_likeliest 52 = .ok (.iload_n 1, 1) := by decide +kernel
theorem dX2_likeliest_53 : decode cX2_likeliest 53 = .ok (.ireturn, 1) := by decide +kernel
theorem dX2_lighten_0 : decode cX2_lighten 0 = .ok (.aload_n 0, 1) := by decide +kernel
theorem dX2_lighten_1 : decode cX2_lighten 1 = .ok (.getfield 11, 3) := by decide +kernel
theorem dX2_lighten_4 : decode cX2_lighten 4 = .ok (.iload_n 1, 1) := by decide +kernel
theorem dX2_lighten_5 : decode cX2_lighten 5 = .ok (.bipush 10, 2) := by decide +kernel
theorem dX2_lighten_7 : decode cX2_lighten 7 = .ok (.aload_n 0, 1) := by decide +kernel
theorem dX2_lighten_8 : decode cX2_lighten 8 = .ok (.getfield 15, 3) := by decide +kernel
theorem dX2_lighten_11 : decode cX2_lighten 11 = .ok (.iload_n 1, 1) := by decide +kernel
theorem dX2_lighten_12 : decode cX2_lighten 12 = .ok (.iaload, 1) := by decide +kernel
theorem dX2_lighten_13 : decode cX2_lighten 13 = .ok (.isub, 1) := by decide +kernel
theorem dX2_lighten_14 : decode cX2_lighten 14 = .ok (.aload_n 0, 1) := by decide +kernel
theorem dX2_lighten_15 : decode cX2_lighten 15 = .ok (.getfield 11, 3) := by decide +kernel
theorem dX2_lighten_18 : decode cX2_lighten 18 = .ok (.iload_n 1, 1) := by decide +kernel
theorem dX2_lighten_19 : decode cX2_lighten 19 = .ok (.iaload, 1) := by decide +kernel
theorem dX2_lighten_20 : decode cX2_lighten 20 = .ok (.imul, 1) := by decide +kernel
theorem dX2_lighten_21 : decode cX2_lighten 21 = .ok (.bipush 10, 2) := by decide +kernel
theorem dX2_lighten_23 : decode cX2_lighten 23 = .ok (.idiv, 1) := by decide +kernel
theorem dX2_lighten_24 : decode cX2_lighten 24 = .ok (.iastore, 1) := by decide +kernel
theorem dX2_lighten_25 : decode cX2_lighten 25 = .ok (.aload_n 0, 1) := by decide +kernel
theorem dX2_lighten_26 : decode cX2_lighten 26 = .ok (.getfield 11, 3) := by decide +kernel
theorem dX2_lighten_29 : decode cX2_lighten 29 = .ok (.iload_n 1, 1) := by decide +kernel
theorem dX2_lighten_30 : decode cX2_lighten 30 = .ok (.iaload, 1) := by decide +kernel
theorem dX2_lighten_31 : decode cX2_lighten 31 = .ok (.ireturn, 1) := by decide +kernel
theorem dX3_init_0 : decode cX3_init 0 = .ok (.aload_n 0, 1) := by decide +kernel
theorem dX3_init_1 : decode cX3_init 1 = .ok (.invokespecial 3, 3) := by decide +kernel
theorem dX3_init_4 : decode cX3_init 4 = .ok (.aload_n 0, 1) := by decide +kernel
theorem dX3_init_5 : decode cX3_init 5 = .ok (.iconst 5, 1) := by decide +kernel
theorem dX3_init_6 : decode cX3_init 6 = .ok (.newarray .int, 2) := by decide +kernel
theorem dX3_init_8 : decode cX3_init 8 = .ok (.putfield 11, 3) := by decide +kernel
theorem dX3_init_11 : decode cX3_init 11 = .ok (.aload_n 0, 1) := by decide +kernel
theorem dX3_init_12 : decode cX3_init 12 = .ok (.new 15, 3) := by decide +kernel
theorem dX3_init_15 : decode cX3_init 15 = .ok (.dup, 1) := by decide +kernel
theorem dX3_init_16 : decode cX3_init 16 = .ok (.invokespecial 17, 3) := by decide +kernel
theorem dX3_init_19 : decode cX3_init 19 = .ok (.putfield 18, 3) := by decide +kernel
theorem dX3_init_22 : decode cX3_init 22 = .ok (.aload_n 0, 1) := by decide +kernel
theorem dX3_init_23 : decode cX3_init 23 = .ok (.iconst 5, 1) := by decide +kernel
theorem dX3_init_24 : decode cX3_init 24 = .ok (.bipush 9, 2) := by decide +kernel
theorem dX3_init_26 : decode cX3_init 26 = .ok (.multianewarray 22 2, 4) := by decide +kernel
theorem dX3_init_30 : decode cX3_init 30 = .ok (.putfield 24, 3) := by decide +kernel
theorem dX3_init_33 : decode cX3_init 33 = .ok (.aload_n 0, 1) := by decide +kernel
theorem dX3_init_34 : decode cX3_init 34 = .ok (.iconst 5, 1) := by decide +kernel
theorem dX3_init_35 : decode cX3_init 35 = .ok (.newarray .int, 2) := by decide +kernel
theorem dX3_init_37 : decode cX3_init 37 = .ok (.putfield 27, 3) := by decide +kernel
theorem dX3_init_40 : decode cX3_init 40 = .ok (.aload_n 0, 1) := by decide +kernel
theorem dX3_init_41 : decode cX3_init 41 = .ok (.iconst 5, 1) := by decide +kernel
theorem dX3_init_42 : decode cX3_init 42 = .ok (.newarray .int, 2) := by decide +kernel
theorem dX3_init_44 : decode cX3_init 44 = .ok (.putfield 30, 3) := by decide +kernel
theorem dX3_init_47 : decode cX3_init 47 = .ok (.aload_n 0, 1) := by decide +kernel
theorem dX3_init_48 : decode cX3_init 48 = .ok (.getfield 11, 3) := by decide +kernel
theorem dX3_init_51 : decode cX3_init 51 = .ok (.bipush (-2), 2) := by decide +kernel
theorem dX3_init_53 : decode cX3_init 53 = .ok (.invokestatic 33, 3) := by decide +kernel
theorem dX3_init_56 : decode cX3_init 56 = .ok (.aload_n 0, 1) := by decide +kernel
theorem dX3_init_57 : decode cX3_init 57 = .ok (.getfield 18, 3) := by decide +kernel
theorem dX3_init_60 : decode cX3_init 60 = .ok (.iconst 0, 1) := by decide +kernel
theorem dX3_init_61 : decode cX3_init 61 = .ok (.bipush 45, 2) := by decide +kernel
theorem dX3_init_63 : decode cX3_init 63 = .ok (.iconst 0, 1) := by decide +kernel
theorem dX3_init_64 : decode cX3_init 64 = .ok (.bipush 120, 2) := by decide +kernel
theorem dX3_init_66 : decode cX3_init 66 = .ok (.sipush 800, 3) := by decide +kernel
theorem dX3_init_69 : decode cX3_init 69 = .ok (.iconst (-1), 1) := by decide +kernel
theorem dX3_init_70 : decode cX3_init 70 = .ok (.invokevirtual 39, 3) := by decide +kernel
theorem dX3_init_73 : decode cX3_init 73 = .ok (.return_, 1) := by decide +kernel
theorem dX3_throwCount_0 : decode cX3_throwCount 0 = .ok (.iconst 0, 1) := by decide +kernel
theorem dX3_throwCount_1 : decode cX3_throwCount 1 = .ok (.istore_n 1, 1) := by decide +kernel
theorem dX3_throwCount_2 : decode cX3_throwCount 2 = .ok (.iconst 0, 1) := by decide +kernel
theorem dX3_throwCount_3 : decode cX3_throwCount 3 = .ok (.istore_n 2, 1) := by decide +kernel
theorem dX3_throwCount_4 : decode cX3_throwCount 4 = .ok (.iload_n 2, 1) := by decide +kernel
theorem dX3_throwCount_5 : decode cX3_throwCount 5 = .ok (.iconst 5, 1) := by decide +kernel
theorem dX3_throwCount_6 : decode cX3_throwCount 6 = .ok (.if_icmp .ge 23, 3) := by decide +kernel
theorem dX3_throwCount_9 : decode cX3_throwCount 9 = .ok (.aload_n 0, 1) := by decide +kernel
theorem dX3_throwCount_10 : decode cX3_throwCount 10 = .ok (.getfield 11, 3) := by decide +kernel
theorem dX3_throwCount_13 : decode cX3_throwCount 13 = .ok (.iload_n 2, 1) := by decide +kernel
theorem dX3_throwCount_14 : decode cX3_throwCount 14 = .ok (.iaload, 1) := by decide +kernel
theorem dX3_throwCount_15 : decode cX3_throwCount 15 = .ok (.bipush (-2), 2) := by decide +kernel
theorem dX3_throwCount_17 : decode cX3_throwCount 17 = .ok (.if_icmp .eq 6, 3) := by decide +kernel
theorem dX3_throwCount_20 : decode cX3_throwCount 20 = .ok (.iinc 1 1, 3) := by decide +kernel
theorem dX3_throwCount_23 : decode cX3_throwCount 23 = .ok (.iinc 2 1, 3) := by decide +kernel
theorem dX3_throwCount_26 : decode cX3_throwCount 26 = .ok (.goto (-22), 3) := by decide +kernel
theorem dX3_throwCount_29 : decode cX3_throwCount 29 = .ok (.iload_n 1, 1) := by decide +kernel
theorem dX3_throwCount_30 : decode cX3_throwCount 30 = .ok (.ireturn, 1) := by decide +kernel
theorem dX3_findBest_0 : decode cX3_findBest 0 = .ok (.aload_n 0, 1) := by decide +kernel
theorem dX3_findBest_1 : decode cX3_findBest 1 = .ok (.iconst (-1), 1) := by decide +kernel
theorem dX3_findBest_2 : decode cX3_findBest 2 = .ok (.putfield 43, 3) := by decide +kernel
theorem dX3_findBest_5 : decode cX3_findBest 5 = .ok (.aload_n 0, 1) := by decide +kernel
theorem dX3_findBest_6 : decode cX3_findBest 6 = .ok (.iconst 0, 1) := by decide +kernel
theorem dX3_findBest_7 : decode cX3_findBest 7 = .ok (.iload_n 1, 1) := by decide +kernel
theorem dX3_findBest_8 : decode cX3_findBest 8 = .ok (.iconst 0, 1) := by decide +kernel
theorem dX3_findBest_9 : decode cX3_findBest 9 = .ok (.invokevirtual 47, 3) := by decide +kernel
theorem dX3_findBest_12 : decode cX3_findBest 12 = .ok (.return_, 1) := by decide +kernel
theorem dX3_tryThrow_0 : decode cX3_tryThrow 0 = .ok (.iload_n 3, 1) := by decide +kernel
theorem dX3_tryThrow_1 : decode cX3_tryThrow 1 = .ok (.iconst 5, 1) := by decide +kernel
theorem dX3_tryThrow_2 : decode cX3_tryThrow 2 = .ok (.iload_n 1, 1) := by decide +kernel
theorem dX3_tryThrow_3 : decode cX3_tryThrow 3 = .ok (.isub, 1) := by decide +kernel
theorem dX3_tryThrow_4 : decode cX3_tryThrow 4 = .ok (.bipush 50, 2) := by decide +kernel
theorem dX3_tryThrow_6 : decode cX3_tryThrow 6 = .ok (.imul, 1) := by decide +kernel
theorem dX3_tryThrow_7 : decode cX3_tryThrow 7 = .ok (.iadd, 1) := by decide +kernel
theorem dX3_tryThrow_8 : decode cX3_tryThrow 8 = .ok (.aload_n 0, 1) := by decide +kernel
theorem dX3_tryThrow_9 : decode cX3_tryThrow 9 = .ok (.getfield 43, 3) := by decide +kernel
theorem dX3_tryThrow_12 : decode cX3_tryThrow 12 = .ok (.if_icmp .gt 4, 3) := by decide +kernel
theorem dX3_tryThrow_15 : decode cX3_tryThrow 15 = .ok (.return_, 1) := by decide +kernel
theorem dX3_tryThrow_16 : decode cX3_tryThrow 16 = .ok (.iload_n 1, 1) := by decide +kernel
theorem dX3_tryThrow_17 : decode cX3_tryThrow 17 = .ok (.iconst 5, 1) := by decide +kernel
theorem dX3_tryThrow_18 : decode cX3_tryThrow 18 = .ok (.if_icmp .lt 23, 3) := by decide +kernel
theorem dX3_tryThrow_21 : decode cX3_tryThrow 21 = .ok (.aload_n 0, 1) := by decide +kernel
theorem dX3_tryThrow_22 : decode cX3_tryThrow 22 = .ok (.iload_n 3, 1) := by decide +kernel
theorem dX3_tryThrow_23 : decode cX3_tryThrow 23 = .ok (.putfield 43, 3) := by decide +kernel
theorem dX3_tryThrow_26 : decode cX3_tryThrow 26 = .ok (.aload_n 0, 1) := by decide +kernel
theorem dX3_tryThrow_27 : decode cX3_tryThrow 27 = .ok (.getfield 27, 3) := by decide +kernel
theorem dX3_tryThrow_30 : decode cX3_tryThrow 30 = .ok (.iconst 0, 1) := by decide +kernel
theorem dX3_tryThrow_31 : decode cX3_tryThrow 31 = .ok (.aload_n 0, 1) := by decide +kernel
theorem dX3_tryThrow_32 : decode cX3_tryThrow 32 = .ok (.getfield 30, 3) := by decide +kernel
theorem dX3_tryThrow_35 : decode cX3_tryThrow 35 = .ok (.iconst 0, 1) := by decide +kernel
theorem dX3_tryThrow_36 : decode cX3_tryThrow 36 = .ok (.iconst 5, 1) := by decide +kernel
theorem dX3_tryThrow_37 : decode cX3_tryThrow 37 = .ok (.invokestatic 51, 3) := by decide +kernel
theorem dX3_tryThrow_40 : decode cX3_tryThrow 40 = .ok (.return_, 1) := by decide +kernel
theorem dX3_tryThrow_41 : decode cX3_tryThrow 41 = .ok (.aload_n 0, 1) := by decide +kernel
theorem dX3_tryThrow_42 : decode cX3_tryThrow 42 = .ok (.getfield 11, 3) := by decide +kernel
theorem dX3_tryThrow_45 : decode cX3_tryThrow 45 = .ok (.iload_n 1, 1) := by decide +kernel
theorem dX3_tryThrow_46 : decode cX3_tryThrow 46 = .ok (.iaload, 1) := by decide +kernel
theorem dX3_tryThrow_47 : decode cX3_tryThrow 47 = .ok (.bipush (-2), 2) := by decide +kernel
theorem dX3_tryThrow_49 : decode cX3_tryThrow 49 = .ok (.if_icmp .ne 13, 3) := by decide +kernel
theorem dX3_tryThrow_52 : decode cX3_tryThrow 52 = .ok (.aload_n 0, 1) := by decide +kernel
theorem dX3_tryThrow_53 : decode cX3_tryThrow 53 = .ok (.iload_n 1, 1) := by decide +kernel
theorem dX3_tryThrow_54 : decode cX3_tryThrow 54 = .ok (.iconst 1, 1) := by decide +kernel
theorem dX3_tryThrow_55 : decode cX3_tryThrow 55 = .ok (.iadd, 1) := by decide +kernel
theorem dX3_tryThrow_56 : decode cX3_tryThrow 56 = .ok (.iload_n 2, 1) := by decide +kernel
theorem dX3_tryThrow_57 : decode cX3_tryThrow 57 = .ok (.iload_n 3, 1) := by decide +kernel
theorem dX3_tryThrow_58 : decode cX3_tryThrow 58 = .ok (.invokevirtual 47, 3) := by decide +kernel
theorem dX3_tryThrow_61 : decode cX3_tryThrow 61 = .ok (.return_, 1) := by decide +kernel
theorem dX3_tryThrow_62 : decode cX3_tryThrow 62 = .ok (.iconst 0, 1) := by decide +kernel
theorem dX3_tryThrow_63 : decode cX3_tryThrow 63 = .ok (.istore 4, 2) := by decide +kernel
theorem dX3_tryThrow_65 : decode cX3_tryThrow 65 = .ok (.iload 4, 2) := by decide +kernel
theorem dX3_tryThrow_67 : decode cX3_tryThrow 67 = .ok (.bipush 9, 2) := by decide +kernel
theorem dX3_tryThrow_69 : decode cX3_tryThrow 69 = .ok (.if_icmp .ge 53, 3) := by decide +kernel
theorem dX3_tryThrow_72 : decode cX3_tryThrow 72 = .ok (.iload_n 2, 1) := by decide +kernel
theorem dX3_tryThrow_73 : decode cX3_tryThrow 73 = .ok (.iload 4, 2) := by decide +kernel
theorem dX3_tryThrow_75 : decode cX3_tryThrow 75 = .ok (.ishr, 1) := by decide +kernel
theorem dX3_tryThrow_76 : decode cX3_tryThrow 76 = .ok (.iconst 1, 1) := by decide +kernel
theorem dX3_tryThrow_77 : decode cX3_tryThrow 77 = .ok (.iand, 1) := by decide +kernel
theorem dX3_tryThrow_78 : decode cX3_tryThrow 78 = .ok (.iconst 1, 1) := by decide +kernel
theorem dX3_tryThrow_79 : decode cX3_tryThrow 79 = .ok (.if_icmp .ne 37, 3) := by decide +kernel
theorem dX3_tryThrow_82 : decode cX3_tryThrow 82 = .ok (.aload_n 0, 1) := by decide +kernel
theorem dX3_tryThrow_83 : decode cX3_tryThrow 83 = .ok (.getfield 27, 3) := by decide +kernel
theorem dX3_tryThrow_86 : decode cX3_tryThrow 86 = .ok (.iload_n 1, 1) := by decide +kernel
theorem dX3_tryThrow_87 : decode cX3_tryThrow 87 = .ok (.iload 4, 2) := by decide +kernel
theorem dX3_tryThrow_89 : decode cX3_tryThrow 89 = .ok (.iastore, 1) := by decide +kernel
theorem dX3_tryThrow_90 : decode cX3_tryThrow 90 = .ok (.aload_n 0, 1) := by decide +kernel
theorem dX3_tryThrow_91 : decode cX3_tryThrow 91 = .ok (.iload_n 1, 1) := by decide +kernel
theorem dX3_tryThrow_92 : decode cX3_tryThrow 92 = .ok (.iconst 1, 1) := by decide +kernel
theorem dX3_tryThrow_93 : decode cX3_tryThrow 93 = .ok (.iadd, 1) := by decide +kernel
theorem dX3_tryThrow_94 : decode cX3_tryThrow 94 = .ok (.iload_n 2, 1) := by decide +kernel
theorem dX3_tryThrow_95 : decode cX3_tryThrow 95 = .ok (.iconst 1, 1) := by decide +kernel
theorem dX3_tryThrow_96 : decode cX3_tryThrow 96 = .ok (.iload 4, 2) := by decide +kernel
theorem dX3_tryThrow_98 : decode cX3_tryThrow 98 = .ok (.ishl, 1) := by decide +kernel
theorem dX3_tryThrow_99 : decode cX3_tryThrow 99 = .ok (.iconst (-1), 1) := by decide +kernel
theorem dX3_tryThrow_100 : decode cX3_tryThrow 100 = .ok (.ixor, 1) := by decide +kernel
theorem dX3_tryThrow_101 : decode cX3_tryThrow 101 = .ok (.iand, 1) := by decide +kernel
theorem dX3_tryThrow_102 : decode cX3_tryThrow 102 = .ok (.iload_n 3, 1) := by decide +kernel
theorem dX3_tryThrow_103 : decode cX3_tryThrow 103 = .ok (.aload_n 0, 1) := by decide +kernel
theorem dX3_tryThrow_104 : decode cX3_tryThrow 104 = .ok (.getfield 24, 3) := by decide +kernel
theorem dX3_tryThrow_107 : decode cX3_tryThrow 107 = .ok (.iload_n 1, 1) := by decide +kernel
theorem dX3_tryThrow_108 : decode cX3_tryThrow 108 = .ok (.aaload, 1) := by decide +kernel
theorem dX3_tryThrow_109 : decode cX3_tryThrow 109 = .ok (.iload 4, 2) := by decide +kernel
theorem dX3_tryThrow_111 : decode cX3_tryThrow 111 = .ok (.iaload, 1) := by decide +kernel
theorem dX3_tryThrow_112 : decode cX3_tryThrow 112 = .ok (.iadd, 1) := by decide +kernel
theorem dX3_tryThrow_113 : decode cX3_tryThrow 113 = .ok (.invokevirtual 47, 3) := by decide +kernel
theorem dX3_tryThrow_116 : decode cX3_tryThrow 116 = .ok (.iinc 4 1, 3) := by decide +kernel
theorem dX3_tryThrow_119 : decode cX3_tryThrow 119 = .ok (.goto (-54), 3) := by decide +kernel
theorem dX3_tryThrow_122 : decode cX3_tryThrow 122 = .ok (.return_, 1) := by decide +kernel
theorem dX4_init_0 : decode cX4_init 0 = .ok (.aload_n 0, 1) := by decide +kernel
theorem dX4_init_1 : decode cX4_init 1 = .ok (.invokespecial 3, 3) := by decide +kernel
theorem dX4_init_4 : decode cX4_init 4 = .ok (.aload_n 0, 1) := by decide +kernel
theorem dX4_init_5 : decode cX4_init 5 = .ok (.bipush 6, 2) := by decide +kernel
theorem dX4_init_7 : decode cX4_init 7 = .ok (.anewarray 9, 3) := by decide +kernel
theorem dX4_init_10 : decode cX4_init 10 = .ok (.putfield 11, 3) := by decide +kernel
theorem dX4_init_13 : decode cX4_init 13 = .ok (.aload_n 0, 1) := by decide +kernel
theorem dX4_init_14 : decode cX4_init 14 = .ok (.iconst 0, 1) := by decide +kernel
theorem dX4_init_15 : decode cX4_init 15 = .ok (.putfield 17, 3) := by decide +kernel
theorem dX4_init_18 : decode cX4_init 18 = .ok (.aload_n 0, 1) := by decide +kernel
theorem dX4_init_19 : decode cX4_init 19 = .ok (.sipush 300, 3) := by decide +kernel
theorem dX4_init_22 : decode cX4_init 22 = .ok (.putfield 21, 3) := by decide +kernel
theorem dX4_init_25 : decode cX4_init 25 = .ok (.iconst 0, 1) := by decide +kernel
theorem dX4_init_26 : decode cX4_init 26 = .ok (.istore_n 1, 1) := by decide +kernel
theorem dX4_init_27 : decode cX4_init 27 = .ok (.iload_n 1, 1) := by decide +kernel
theorem dX4_init_28 : decode cX4_init 28 = .ok (.bipush 6, 2) := by decide +kernel
theorem dX4_init_30 : decode cX4_init 30 = .ok (.if_icmp .ge 22, 3) := by decide +kernel
theorem dX4_init_33 : decode cX4_init 33 = .ok (.aload_n 0, 1) := by decide +kernel
theorem dX4_init_34 : decode cX4_init 34 = .ok (.getfield 11, 3) := by decide +kernel
theorem dX4_init_37 : decode cX4_init 37 = .ok (.iload_n 1, 1) := by decide +kernel
theorem dX4_init_38 : decode cX4_init 38 = .ok (.new 9, 3) := by decide +kernel
theorem dX4_init_41 : decode cX4_init 41 = .ok (.dup, 1) := by decide +kernel
theorem dX4_init_42 : decode cX4_init 42 = .ok (.invokespecial 24, 3) := by decide +kernel
theorem dX4_init_45 : decode cX4_init 45 = .ok (.aastore, 1) := by decide +kernel
theorem dX4_init_46 : decode cX4_init 46 = .ok (.iinc 1 1, 3) := by decide +kernel
theorem dX4_init_49 : decode cX4_init 49 = .ok (.goto (-22), 3) := by decide +kernel
theorem dX4_init_52 : decode cX4_init 52 = .ok (.return_, 1) := by decide +kernel
theorem dX4_plant_0 : decode cX4_plant 0 = .ok (.aload_n 0, 1) := by decide +kernel
theorem dX4_plant_1 : decode cX4_plant 1 = .ok (.getfield 17, 3) := by decide +kernel
theorem dX4_plant_4 : decode cX4_plant 4 = .ok (.bipush 6, 2) := by decide +kernel
theorem dX4_plant_6 : decode cX4_plant 6 = .ok (.if_icmp .lt 6, 3) := by decide +kernel
theorem dX4_plant_9 : decode cX4_plant 9 = .ok (.bipush (-3), 2) := by decide +kernel
theorem dX4_plant_11 : decode cX4_plant 11 = .ok (.ireturn, 1) := by decide +kernel
theorem dX4_plant_12 : decode cX4_plant 12 = .ok (.aload_n 0, 1) := by decide +kernel
theorem dX4_plant_13 : decode cX4_plant 13 = .ok (.getfield 11, 3) := by decide +kernel
theorem dX4_plant_16 : decode cX4_plant 16 = .ok (.aload_n 0, 1) := by decide +kernel
theorem dX4_plant_17 : decode cX4_plant 17 = .ok (.getfield 17, 3) := by decide +kernel
theorem dX4_plant_20 : decode cX4_plant 20 = .ok (.aaload, 1) := by decide +kernel
theorem dX4_plant_21 : decode cX4_plant 21 = .ok (.astore 5, 2) := by decide +kernel
theorem dX4_plant_23 : decode cX4_plant 23 = .ok (.aload 5, 2) := by decide +kernel
theorem dX4_plant_25 : decode cX4_plant 25 = .ok (.iload_n 1, 1) := by decide +kernel
theorem dX4_plant_26 : decode cX4_plant 26 = .ok (.putfield 25, 3) := by decide +kernel
theorem dX4_plant_29 : decode cX4_plant 29 = .ok (.aload 5, 2) := by decide +kernel
theorem dX4_plant_31 : decode cX4_plant 31 = .ok (.iload_n 2, 1) := by decide +kernel
theorem dX4_plant_32 : decode cX4_plant 32 = .ok (.putfield 28, 3) := by decide +kernel
theorem dX4_plant_35 : decode cX4_plant 35 = .ok (.aload 5, 2) := by decide +kernel
theorem dX4_plant_37 : decode cX4_plant 37 = .ok (.iload_n 3, 1) := by decide +kernel
theorem dX4_plant_38 : decode cX4_plant 38 = .ok (.putfield 31, 3) := by decide +kernel
theorem dX4_plant_41 : decode cX4_plant 41 = .ok (.aload 5, 2) := by decide +kernel
theorem dX4_plant_43 : decode cX4_plant 43 = .ok (.iload 4, 2) := by decide +kernel
theorem dX4_plant_45 : decode cX4_plant 45 = .ok (.putfield 34, 3) := by decide +kernel
theorem dX4_plant_48 : decode cX4_plant 48 = .ok (.aload_n 0, 1) := by decide +kernel
theorem dX4_plant_49 : decode cX4_plant 49 = .ok (.dup, 1) := by decide +kernel
theorem dX4_plant_50 : decode cX4_plant 50 = .ok (.getfield 17, 3) := by decide +kernel
theorem dX4_plant_53 : decode cX4_plant 53 = .ok (.iconst 1, 1) := by decide +kernel
theorem dX4_plant_54 : decode cX4_plant 54 = .ok (.iadd, 1) := by decide +kernel
theorem dX4_plant_55 : decode cX4_plant 55 = .ok (.putfield 17, 3) := by decide +kernel
theorem dX4_plant_58 : decode cX4_plant 58 = .ok (.aload_n 0, 1) := by decide +kernel
theorem dX4_plant_59 : decode cX4_plant 59 = .ok (.getfield 17, 3) := by decide +kernel
theorem dX4_plant_62 : decode cX4_plant 62 = .ok (.iconst 1, 1) := by decide +kernel
theorem dX4_plant_63 : decode cX4_plant 63 = .ok (.isub, 1) := by decide +kernel
theorem dX4_plant_64 : decode cX4_plant 64 = .ok (.ireturn, 1) := by decide +kernel
theorem dX5_init_0 : decode cX5_init 0 = .ok (.aload_n 0, 1) := by decide +kernel
theorem dX5_init_1 : decode cX5_init 1 = .ok (.invokespecial 1, 3) := by decide +kernel
theorem dX5_init_4 : decode cX5_init 4 = .ok (.aload_n 0, 1) := by decide +kernel
theorem dX5_init_5 : decode cX5_init 5 = .ok (.new 7, 3) := by decide +kernel
theorem dX5_init_8 : decode cX5_init 8 = .ok (.dup, 1) := by decide +kernel
theorem dX5_init_9 : decode cX5_init 9 = .ok (.invokespecial 9, 3) := by decide +kernel
theorem dX5_init_12 : decode cX5_init 12 = .ok (.putfield 10, 3) := by decide +kernel
theorem dX5_init_15 : decode cX5_init 15 = .ok (.return_, 1) := by decide +kernel
theorem dX6_init_0 : decode cX6_init 0 = .ok (.aload_n 0, 1) := by decide +kernel
theorem dX6_init_1 : decode cX6_init 1 = .ok (.invokespecial 1, 3) := by decide +kernel
theorem dX6_init_4 : decode cX6_init 4 = .ok (.aload_n 0, 1) := by decide +kernel
theorem dX6_init_5 : decode cX6_init 5 = .ok (.iconst (-1), 1) := by decide +kernel
theorem dX6_init_6 : decode cX6_init 6 = .ok (.putfield 9, 3) := by decide +kernel
theorem dX6_init_9 : decode cX6_init 9 = .ok (.aload_n 0, 1) := by decide +kernel
theorem dX6_init_10 : decode cX6_init 10 = .ok (.iconst 0, 1) := by decide +kernel
theorem dX6_init_11 : decode cX6_init 11 = .ok (.putfield 13, 3) := by decide +kernel
theorem dX6_init_14 : decode cX6_init 14 = .ok (.aload_n 0, 1) := by decide +kernel
theorem dX6_init_15 : decode cX6_init 15 = .ok (.bipush 60, 2) := by decide +kernel
theorem dX6_init_17 : decode cX6_init 17 = .ok (.newarray .int, 2) := by decide +kernel
theorem dX6_init_19 : decode cX6_init 19 = .ok (.putfield 16, 3) := by decide +kernel
theorem dX6_init_22 : decode cX6_init 22 = .ok (.return_, 1) := by decide +kernel
theorem dX6_hold_0 : decode cX6_hold 0 = .ok (.aload_n 0, 1) := by decide +kernel
theorem dX6_hold_1 : decode cX6_hold 1 = .ok (.iload_n 1, 1) := by decide +kernel
theorem dX6_hold_2 : decode cX6_hold 2 = .ok (.putfield 9, 3) := by decide +kernel
theorem dX6_hold_5 : decode cX6_hold 5 = .ok (.aload_n 0, 1) := by decide +kernel
theorem dX6_hold_6 : decode cX6_hold 6 = .ok (.iload_n 2, 1) := by decide +kernel
theorem dX6_hold_7 : decode cX6_hold 7 = .ok (.putfield 13, 3) := by decide +kernel
theorem dX6_hold_10 : decode cX6_hold 10 = .ok (.aload_n 0, 1) := by decide +kernel
theorem dX6_hold_11 : decode cX6_hold 11 = .ok (.getfield 16, 3) := by decide +kernel
theorem dX6_hold_14 : decode cX6_hold 14 = .ok (.iconst 0, 1) := by decide +kernel
theorem dX6_hold_15 : decode cX6_hold 15 = .ok (.invokestatic 20, 3) := by decide +kernel
theorem dX6_hold_18 : decode cX6_hold 18 = .ok (.return_, 1) := by decide +kernel
theorem dX6_isEmptyHanded_0 : decode cX6_isEmptyHanded 0 = .ok (.aload_n 0, 1) := by decide +kernel
theorem dX6_isEmptyHanded_1 : decode cX6_isEmptyHanded 1 = .ok (.getfield 9, 3) := by decide +kernel
theorem dX6_isEmptyHanded_4 : decode cX6_isEmptyHanded 4 = .ok (.iconst (-1), 1) := by decide +kernel
theorem dX6_isEmptyHanded_5 : decode cX6_isEmptyHanded 5 = .ok (.if_icmp .ne 7, 3) := by decide +kernel
theorem dX6_isEmptyHanded_8 : decode cX6_isEmptyHanded 8 = .ok (.iconst 1, 1) := by decide +kernel
theorem dX6_isEmptyHanded_9 : decode cX6_isEmptyHanded 9 = .ok (.goto 4, 3) := by decide +kernel
theorem dX6_isEmptyHanded_12 : decode cX6_isEmptyHanded 12 = .ok (.iconst 0, 1) := by decide +kernel
theorem dX6_isEmptyHanded_13 : decode cX6_isEmptyHanded 13 = .ok (.ireturn, 1) := by decide +kernel
theorem dX6_has_0 : decode cX6_has 0 = .ok (.iload_n 2, 1) := by decide +kernel
theorem dX6_has_1 : decode cX6_has 1 = .ok (.ifCond .lt 29, 3) := by decide +kernel
theorem dX6_has_4 : decode cX6_has 4 = .ok (.iload_n 2, 1) := by decide +kernel
theorem dX6_has_5 : decode cX6_has 5 = .ok (.aload_n 0, 1) := by decide +kernel
theorem dX6_has_6 : decode cX6_has 6 = .ok (.getfield 13, 3) := by decide +kernel
theorem dX6_has_9 : decode cX6_has 9 = .ok (.if_icmp .gt 21, 3) := by decide +kernel
theorem dX6_has_12 : decode cX6_has 12 = .ok (.iload_n 1, 1) := by decide +kernel
theorem dX6_has_13 : decode cX6_has 13 = .ok (.ifCond .lt 17, 3) := by decide +kernel
theorem dX6_has_16 : decode cX6_has 16 = .ok (.iload_n 1, 1) := by decide +kernel
theorem dX6_has_17 : decode cX6_has 17 = .ok (.aload_n 0, 1) := by decide +kernel
theorem dX6_has_18 : decode cX6_has 18 = .ok (.getfield 13, 3) := by decide +kernel
theorem dX6_has_21 : decode cX6_has 21 = .ok (.iload_n 2, 1) := by decide +kernel
theorem dX6_has_22 : decode cX6_has 22 = .ok (.isub, 1) := by decide +kernel
theorem dX6_has_23 : decode cX6_has 23 = .ok (.if_icmp .gt 7, 3) := by decide +kernel
theorem dX6_has_26 : decode cX6_has 26 = .ok (.iconst 1, 1) := by decide +kernel
theorem dX6_has_27 : decode cX6_has 27 = .ok (.goto 4, 3) := by decide +kernel
theorem dX6_has_30 : decode cX6_has 30 = .ok (.iconst 0, 1) := by decide +kernel
theorem dX6_has_31 : decode cX6_has 31 = .ok (.ireturn, 1) := by decide +kernel
theorem dX6_put_0 : decode cX6_put 0 = .ok (.aload_n 0, 1) := by decide +kernel
theorem dX6_put_1 : decode cX6_put 1 = .ok (.getfield 9, 3) := by decide +kernel
theorem dX6_put_4 : decode cX6_put 4 = .ok (.ifCond .ne 14, 3) := by decide +kernel
theorem dX6_put_7 : decode cX6_put 7 = .ok (.aload_n 0, 1) := by decide +kernel
theorem dX6_put_8 : decode cX6_put 8 = .ok (.getfield 16, 3) := by decide +kernel
theorem dX6_put_11 : decode cX6_put 11 = .ok (.iload_n 1, 1) := by decide +kernel
theorem dX6_put_12 : decode cX6_put 12 = .ok (.iload_n 2, 1) := by decide +kernel
theorem dX6_put_13 : decode cX6_put 13 = .ok (.i2b, 1) := by decide +kernel
theorem dX6_put_14 : decode cX6_put 14 = .ok (.iastore, 1) := by decide +kernel
theorem dX6_put_15 : decode cX6_put 15 = .ok (.goto 29, 3) := by decide +kernel
theorem dX6_put_18 : decode cX6_put 18 = .ok (.aload_n 0, 1) := by decide +kernel
theorem dX6_put_19 : decode cX6_put 19 = .ok (.getfield 9, 3) := by decide +kernel
theorem dX6_put_22 : decode cX6_put 22 = .ok (.iconst 1, 1) := by decide +kernel
theorem dX6_put_23 : decode cX6_put 23 = .ok (.if_icmp .ne 14, 3) := by decide +kernel
theorem dX6_put_26 : decode cX6_put 26 = .ok (.aload_n 0, 1) := by decide +kernel
theorem dX6_put_27 : decode cX6_put 27 = .ok (.getfield 16, 3) := by decide +kernel
theorem dX6_put_30 : decode cX6_put 30 = .ok (.iload_n 1, 1) := by decide +kernel
theorem dX6_put_31 : decode cX6_put 31 = .ok (.iload_n 2, 1) := by decide +kernel
theorem dX6_put_32 : decode cX6_put 32 = .ok (.i2s, 1) := by decide +kernel
theorem dX6_put_33 : decode cX6_put 33 = .ok (.iastore, 1) := by decide +kernel
theorem dX6_put_34 : decode cX6_put 34 = .ok (.goto 10, 3) := by decide +kernel
theorem dX6_put_37 : decode cX6_put 37 = .ok (.aload_n 0, 1) := by decide +kernel
theorem dX6_put_38 : decode cX6_put 38 = .ok (.getfield 16, 3) := by decide +kernel
theorem dX6_put_41 : decode cX6_put 41 = .ok (.iload_n 1, 1) := by decide +kernel
theorem dX6_put_42 : decode cX6_put 42 = .ok (.iload_n 2, 1) := by decide +kernel
theorem dX6_put_43 : decode cX6_put 43 = .ok (.iastore, 1) := by decide +kernel
theorem dX6_put_44 : decode cX6_put 44 = .ok (.return_, 1) := by decide +kernel
theorem dX7_init_0 : decode cX7_init 0 = .ok (.aload_n 0, 1) := by decide +kernel
theorem dX7_init_1 : decode cX7_init 1 = .ok (.invokespecial 3, 3) := by decide +kernel
theorem dX7_init_4 : decode cX7_init 4 = .ok (.aload_n 0, 1) := by decide +kernel
theorem dX7_init_5 : decode cX7_init 5 = .ok (.iconst 0, 1) := by decide +kernel
theorem dX7_init_6 : decode cX7_init 6 = .ok (.putfield 11, 3) := by decide +kernel
theorem dX7_init_9 : decode cX7_init 9 = .ok (.aload_n 0, 1) := by decide +kernel
theorem dX7_init_10 : decode cX7_init 10 = .ok (.iconst 0, 1) := by decide +kernel
theorem dX7_init_11 : decode cX7_init 11 = .ok (.putfield 15, 3) := by decide +kernel
theorem dX7_init_14 : decode cX7_init 14 = .ok (.aload_n 0, 1) := by decide +kernel
theorem dX7_init_15 : decode cX7_init 15 = .ok (.iconst 0, 1) := by decide +kernel
theorem dX7_init_16 : decode cX7_init 16 = .ok (.putfield 18, 3) := by decide +kernel
theorem dX7_init_19 : decode cX7_init 19 = .ok (.aload_n 0, 1) := by decide +kernel
theorem dX7_init_20 : decode cX7_init 20 = .ok (.iconst 4, 1) := by decide +kernel
theorem dX7_init_21 : decode cX7_init 21 = .ok (.newarray .int, 2) := by decide +kernel
theorem dX7_init_23 : decode cX7_init 23 = .ok (.putfield 22, 3) := by decide +kernel
theorem dX7_init_26 : decode cX7_init 26 = .ok (.return_, 1) := by decide +kernel
theorem dX7_make_0 : decode cX7_make 0 = .ok (.aload_n 0, 1) := by decide +kernel
theorem dX7_make_1 : decode cX7_make 1 = .ok (.iload_n 1, 1) := by decide +kernel
theorem dX7_make_2 : decode cX7_make 2 = .ok (.putfield 26, 3) := by decide +kernel
theorem dX7_make_5 : decode cX7_make 5 = .ok (.aload_n 0, 1) := by decide +kernel
theorem dX7_make_6 : decode cX7_make 6 = .ok (.iload_n 2, 1) := by decide +kernel
theorem dX7_make_7 : decode cX7_make 7 = .ok (.putfield 29, 3) := by decide +kernel
theorem dX7_make_10 : decode cX7_make 10 = .ok (.aload_n 0, 1) := by decide +kernel
theorem dX7_make_11 : decode cX7_make 11 = .ok (.iload_n 3, 1) := by decide +kernel
theorem dX7_make_12 : decode cX7_make 12 = .ok (.putfield 32, 3) := by decide +kernel
theorem dX7_make_15 : decode cX7_make 15 = .ok (.aload_n 0, 1) := by decide +kernel
theorem dX7_make_16 : decode cX7_make 16 = .ok (.iload 4, 2) := by decide +kernel
theorem dX7_make_18 : decode cX7_make 18 = .ok (.putfield 35, 3) := by decide +kernel
theorem dX7_make_21 : decode cX7_make 21 = .ok (.aload_n 0, 1) := by decide +kernel
theorem dX7_make_22 : decode cX7_make 22 = .ok (.iload 5, 2) := by decide +kernel
theorem dX7_make_24 : decode cX7_make 24 = .ok (.putfield 11, 3) := by decide +kernel
theorem dX7_make_27 : decode cX7_make 27 = .ok (.aload_n 0, 1) := by decide +kernel
theorem dX7_make_28 : decode cX7_make 28 = .ok (.iconst 1, 1) := by decide +kernel
theorem dX7_make_29 : decode cX7_make 29 = .ok (.putfield 18, 3) := by decide +kernel
theorem dX7_make_32 : decode cX7_make 32 = .ok (.return_, 1) := by decide +kernel
theorem dX7_isWinged_0 : decode cX7_isWinged 0 = .ok (.aload_n 0, 1) := by decide +kernel
theorem dX7_isWinged_1 : decode cX7_isWinged 1 = .ok (.getfield 11, 3) := by decide +kernel
theorem dX7_isWinged_4 : decode cX7_isWinged 4 = .ok (.ifCond .eq 7, 3) := by decide +kernel
theorem dX7_isWinged_7 : decode cX7_isWinged 7 = .ok (.iconst 1, 1) := by decide +kernel
theorem dX7_isWinged_8 : decode cX7_isWinged 8 = .ok (.goto 4, 3) := by decide +kernel
theorem dX7_isWinged_11 : decode cX7_isWinged 11 = .ok (.iconst 0, 1) := by decide +kernel
theorem dX7_isWinged_12 : decode cX7_isWinged 12 = .ok (.ireturn, 1) := by decide +kernel
theorem dX7_liftAt_0 : decode cX7_liftAt 0 = .ok (.iload_n 1, 1) := by decide +kernel
theorem dX7_liftAt_1 : decode cX7_liftAt 1 = .ok (.bipush 60, 2) := by decide +kernel
theorem dX7_liftAt_3 : decode cX7_liftAt 3 = .ok (.if_icmp .ge 7, 3) := by decide +kernel
theorem dX7_liftAt_6 : decode cX7_liftAt 6 = .ok (.iconst 0, 1) := by decide +kernel
theorem dX7_liftAt_7 : decode cX7_liftAt 7 = .ok (.goto 25, 3) := by decide +kernel
theorem dX7_liftAt_10 : decode cX7_liftAt 10 = .ok (.iload_n 1, 1) := by decide +kernel
theorem dX7_liftAt_11 : decode cX7_liftAt 11 = .ok (.bipush 120, 2) := by decide +kernel
theorem dX7_liftAt_13 : decode cX7_liftAt 13 = .ok (.if_icmp .ge 7, 3) := by decide +kernel
theorem dX7_liftAt_16 : decode cX7_liftAt 16 = .ok (.iconst 1, 1) := by decide +kernel
theorem dX7_liftAt_17 : decode cX7_liftAt 17 = .ok (.goto 15, 3) := by decide +kernel
theorem dX7_liftAt_20 : decode cX7_liftAt 20 = .ok (.iload_n 1, 1) := by decide +kernel
theorem dX7_liftAt_21 : decode cX7_liftAt 21 = .ok (.sipush 180, 3) := by decide +kernel
theorem dX7_liftAt_24 : decode cX7_liftAt 24 = .ok (.if_icmp .ge 7, 3) := by decide +kernel
theorem dX7_liftAt_27 : decode cX7_liftAt 27 = .ok (.iconst 2, 1) := by decide +kernel
theorem dX7_liftAt_28 : decode cX7_liftAt 28 = .ok (.goto 4, 3) := by decide +kernel
theorem dX7_liftAt_31 : decode cX7_liftAt 31 = .ok (.iconst 3, 1) := by decide +kernel
theorem dX7_liftAt_32 : decode cX7_liftAt 32 = .ok (.istore_n 3, 1) := by decide +kernel
theorem dX7_liftAt_33 : decode cX7_liftAt 33 = .ok (.aload_n 0, 1) := by decide +kernel
theorem dX7_liftAt_34 : decode cX7_liftAt 34 = .ok (.getfield 22, 3) := by decide +kernel
theorem dX7_liftAt_37 : decode cX7_liftAt 37 = .ok (.iload_n 3, 1) := by decide +kernel
theorem dX7_liftAt_38 : decode cX7_liftAt 38 = .ok (.iaload, 1) := by decide +kernel
theorem dX7_liftAt_39 : decode cX7_liftAt 39 = .ok (.iload_n 2, 1) := by decide +kernel
theorem dX7_liftAt_40 : decode cX7_liftAt 40 = .ok (.imul, 1) := by decide +kernel
theorem dX7_liftAt_41 : decode cX7_liftAt 41 = .ok (.sipush 1000, 3) := by decide +kernel
theorem dX7_liftAt_44 : decode cX7_liftAt 44 = .ok (.idiv, 1) := by decide +kernel
theorem dX7_liftAt_45 : decode cX7_liftAt 45 = .ok (.istore 4, 2) := by decide +kernel
theorem dX7_liftAt_47 : decode cX7_liftAt 47 = .ok (.aload_n 0, 1) := by decide +kernel
theorem dX7_liftAt_48 : decode cX7_liftAt 48 = .ok (.getfield 11, 3) := by decide +kernel
theorem dX7_liftAt_51 : decode cX7_liftAt 51 = .ok (.ifCond .eq 23, 3) := by decide +kernel
theorem dX7_liftAt_54 : decode cX7_liftAt 54 = .ok (.iload_n 2, 1) := by decide +kernel
theorem dX7_liftAt_55 : decode cX7_liftAt 55 = .ok (.sipush 300, 3) := by decide +kernel
theorem dX7_liftAt_58 : decode cX7_liftAt 58 = .ok (.if_icmp .ge 13, 3) := by decide +kernel
theorem dX7_liftAt_61 : decode cX7_liftAt 61 = .ok (.iload 4, 2) := by decide +kernel
theorem dX7_liftAt_63 : decode cX7_liftAt 63 = .ok (.aload_n 0, 1) := by decide +kernel
theorem dX7_liftAt_64 : decode cX7_liftAt 64 = .ok (.getfield 11, 3) := by decide +kernel
theorem dX7_liftAt_67 : decode cX7_liftAt 67 = .ok (.iadd, 1) := by decide +kernel
theorem dX7_liftAt_68 : decode cX7_liftAt 68 = .ok (.goto 5, 3) := by decide +kernel
theorem dX7_liftAt_71 : decode cX7_liftAt 71 = .ok (.iload 4, 2) := by decide +kernel
theorem dX7_liftAt_73 : decode cX7_liftAt 73 = .ok (.ireturn, 1) := by decide +kernel
theorem dX7_liftAt_74 : decode cX7_liftAt 74 = .ok (.iload_n 2, 1) := by decide +kernel
theorem dX7_liftAt_75 : decode cX7_liftAt 75 = .ok (.bipush 100, 2) := by decide +kernel
theorem dX7_liftAt_77 : decode cX7_liftAt 77 = .ok (.if_icmp .ge 7, 3) := by decide +kernel
theorem dX7_liftAt_80 : decode cX7_liftAt 80 = .ok (.iconst 0, 1) := by decide +kernel
theorem dX7_liftAt_81 : decode cX7_liftAt 81 = .ok (.goto 5, 3) := by decide +kernel
theorem dX7_liftAt_84 : decode cX7_liftAt 84 = .ok (.iload 4, 2) := by decide +kernel
theorem dX7_liftAt_86 : decode cX7_liftAt 86 = .ok (.ireturn, 1) := by decide +kernel
theorem dX8_init_0 : decode cX8_init 0 = .ok (.aload_n 0, 1) := by decide +kernel
theorem dX8_init_1 : decode cX8_init 1 = .ok (.invokespecial 1, 3) := by decide +kernel
theorem dX8_init_4 : decode cX8_init 4 = .ok (.return_, 1) := by decide +kernel
theorem dX9_init_0 : decode cX9_init 0 = .ok (.aload_n 0, 1) := by decide +kernel
theorem dX9_init_1 : decode cX9_init 1 = .ok (.invokespecial 3, 3) := by decide +kernel
theorem dX9_init_4 : decode cX9_init 4 = .ok (.aload_n 0, 1) := by decide +kernel
theorem dX9_init_5 : decode cX9_init 5 = .ok (.iconst 4, 1) := by decide +kernel
theorem dX9_init_6 : decode cX9_init 6 = .ok (.newarray .int, 2) := by decide +kernel
theorem dX9_init_8 : decode cX9_init 8 = .ok (.putfield 9, 3) := by decide +kernel
theorem dX9_init_11 : decode cX9_init 11 = .ok (.aload_n 0, 1) := by decide +kernel
theorem dX9_init_12 : decode cX9_init 12 = .ok (.iconst 4, 1) := by decide +kernel
theorem dX9_init_13 : decode cX9_init 13 = .ok (.newarray .int, 2) := by decide +kernel
theorem dX9_init_15 : decode cX9_init 15 = .ok (.putfield 15, 3) := by decide +kernel
theorem dX9_init_18 : decode cX9_init 18 = .ok (.return_, 1) := by decide +kernel
theorem dX9_turnBy_0 : decode cX9_turnBy 0 = .ok (.iconst 0, 1) := by decide +kernel
theorem dX9_turnBy_1 : decode cX9_turnBy 1 = .ok (.istore_n 2, 1) := by decide +kernel
theorem dX9_turnBy_2 : decode cX9_turnBy 2 = .ok (.iload_n 2, 1) := by decide +kernel
theorem dX9_turnBy_3 : decode cX9_turnBy 3 = .ok (.iconst 4, 1) := by decide +kernel
theorem dX9_turnBy_4 : decode cX9_turnBy 4 = .ok (.if_icmp .ge 29, 3) := by decide +kernel
theorem dX9_turnBy_7 : decode cX9_turnBy 7 = .ok (.aload_n 0, 1) := by decide +kernel
theorem dX9_turnBy_8 : decode cX9_turnBy 8 = .ok (.getfield 15, 3) := by decide +kernel
theorem dX9_turnBy_11 : decode cX9_turnBy 11 = .ok (.iload_n 2, 1) := by decide +kernel
theorem dX9_turnBy_12 : decode cX9_turnBy 12 = .ok (.aload_n 0, 1) := by decide +kernel
theorem dX9_turnBy_13 : decode cX9_turnBy 13 = .ok (.getfield 15, 3) := by decide +kernel
theorem dX9_turnBy_16 : decode cX9_turnBy 16 = .ok (.iload_n 2, 1) := by decide +kernel
theorem dX9_turnBy_17 : decode cX9_turnBy 17 = .ok (.iaload, 1) := by decide +kernel
theorem dX9_turnBy_18 : decode cX9_turnBy 18 = .ok (.iload_n 1, 1) := by decide +kernel
theorem dX9_turnBy_19 : decode cX9_turnBy 19 = .ok (.iadd, 1) := by decide +kernel
theorem dX9_turnBy_20 : decode cX9_turnBy 20 = .ok (.sipush 360, 3) := by decide +kernel
theorem dX9_turnBy_23 : decode cX9_turnBy 23 = .ok (.invokestatic 18, 3) := by decide +kernel
theorem dX9_turnBy_26 : decode cX9_turnBy 26 = .ok (.iastore, 1) := by decide +kernel
theorem dX9_turnBy_27 : decode cX9_turnBy 27 = .ok (.iinc 2 1, 3) := by decide +kernel
theorem dX9_turnBy_30 : decode cX9_turnBy 30 = .ok (.goto (-28), 3) := by decide +kernel
theorem dX9_turnBy_33 : decode cX9_turnBy 33 = .ok (.return_, 1) := by decide +kernel
theorem dX9_bandAt_0 : decode cX9_bandAt 0 = .ok (.iload_n 0, 1) := by decide +kernel
theorem dX9_bandAt_1 : decode cX9_bandAt 1 = .ok (.sipush 200, 3) := by decide +kernel
theorem dX9_bandAt_4 : decode cX9_bandAt 4 = .ok (.if_icmp .ge 7, 3) := by decide +kernel
theorem dX9_bandAt_7 : decode cX9_bandAt 7 = .ok (.iconst 0, 1) := by decide +kernel
theorem dX9_bandAt_8 : decode cX9_bandAt 8 = .ok (.goto 26, 3) := by decide +kernel
theorem dX9_bandAt_11 : decode cX9_bandAt 11 = .ok (.iload_n 0, 1) := by decide +kernel
theorem dX9_bandAt_12 : decode cX9_bandAt 12 = .ok (.sipush 500, 3) := by decide +kernel
theorem dX9_bandAt_15 : decode cX9_bandAt 15 = .ok (.if_icmp .ge 7, 3) := by decide +kernel
theorem dX9_bandAt_18 : decode cX9_bandAt 18 = .ok (.iconst 1, 1) := by decide +kernel
theorem dX9_bandAt_19 : decode cX9_bandAt 19 = .ok (.goto 15, 3) := by decide +kernel
theorem dX9_bandAt_22 : decode cX9_bandAt 22 = .ok (.iload_n 0, 1) := by decide +kernel
theorem dX9_bandAt_23 : decode cX9_bandAt 23 = .ok (.sipush 1000, 3) := by decide +kernel
theorem dX9_bandAt_26 : decode cX9_bandAt 26 = .ok (.if_icmp .ge 7, 3) := by decide +kernel
theorem dX9_bandAt_29 : decode cX9_bandAt 29 = .ok (.iconst 2, 1) := by decide +kernel
theorem dX9_bandAt_30 : decode cX9_bandAt 30 = .ok (.goto 4, 3) := by decide +kernel
theorem dX9_bandAt_33 : decode cX9_bandAt 33 = .ok (.iconst 3, 1) := by decide +kernel
theorem dX9_bandAt_34 : decode cX9_bandAt 34 = .ok (.ireturn, 1) := by decide +kernel
theorem dX10_init_0 : decode cX10_init 0 = .ok (.aload_n 0, 1) := by decide +kernel
theorem dX10_init_1 : decode cX10_init 1 = .ok (.invokespecial 1, 3) := by decide +kernel
theorem dX10_init_4 : decode cX10_init 4 = .ok (.aload_n 0, 1) := by decide +kernel
theorem dX10_init_5 : decode cX10_init 5 = .ok (.invokestatic 7, 3) := by decide +kernel
theorem dX10_init_8 : decode cX10_init 8 = .ok (.putfield 13, 3) := by decide +kernel
theorem dX10_init_11 : decode cX10_init 11 = .ok (.aload_n 0, 1) := by decide +kernel
theorem dX10_init_12 : decode cX10_init 12 = .ok (.bipush 9, 2) := by decide +kernel
theorem dX10_init_14 : decode cX10_init 14 = .ok (.anewarray 17, 3) := by decide +kernel
theorem dX10_init_17 : decode cX10_init 17 = .ok (.putfield 19, 3) := by decide +kernel
theorem dX10_init_20 : decode cX10_init 20 = .ok (.aload_n 0, 1) := by decide +kernel
theorem dX10_init_21 : decode cX10_init 21 = .ok (.iconst 0, 1) := by decide +kernel
theorem dX10_init_22 : decode cX10_init 22 = .ok (.putfield 23, 3) := by decide +kernel
theorem dX10_init_25 : decode cX10_init 25 = .ok (.aload_n 0, 1) := by decide +kernel
theorem dX10_init_26 : decode cX10_init 26 = .ok (.bipush 8, 2) := by decide +kernel
theorem dX10_init_28 : decode cX10_init 28 = .ok (.anewarray 27, 3) := by decide +kernel
theorem dX10_init_31 : decode cX10_init 31 = .ok (.putfield 29, 3) := by decide +kernel
theorem dX10_init_34 : decode cX10_init 34 = .ok (.aload_n 0, 1) := by decide +kernel
theorem dX10_init_35 : decode cX10_init 35 = .ok (.iconst 0, 1) := by decide +kernel
theorem dX10_init_36 : decode cX10_init 36 = .ok (.putfield 33, 3) := by decide +kernel
theorem dX10_init_39 : decode cX10_init 39 = .ok (.aload_n 0, 1) := by decide +kernel
theorem dX10_init_40 : decode cX10_init 40 = .ok (.new 27, 3) := by decide +kernel
theorem dX10_init_43 : decode cX10_init 43 = .ok (.dup, 1) := by decide +kernel
theorem dX10_init_44 : decode cX10_init 44 = .ok (.invokespecial 36, 3) := by decide +kernel
theorem dX10_init_47 : decode cX10_init 47 = .ok (.putfield 37, 3) := by decide +kernel
theorem dX10_init_50 : decode cX10_init 50 = .ok (.aload_n 0, 1) := by decide +kernel
theorem dX10_init_51 : decode cX10_init 51 = .ok (.new 41, 3) := by decide +kernel
theorem dX10_init_54 : decode cX10_init 54 = .ok (.dup, 1) := by decide +kernel
theorem dX10_init_55 : decode cX10_init 55 = .ok (.invokespecial 43, 3) := by decide +kernel
theorem dX10_init_58 : decode cX10_init 58 = .ok (.putfield 44, 3) := by decide +kernel
theorem dX10_init_61 : decode cX10_init 61 = .ok (.aload_n 0, 1) := by decide +kernel
theorem dX10_init_62 : decode cX10_init 62 = .ok (.new 48, 3) := by decide +kernel
theorem dX10_init_65 : decode cX10_init 65 = .ok (.dup, 1) := by decide +kernel
theorem dX10_init_66 : decode cX10_init 66 = .ok (.aload_n 0, 1) := by decide +kernel
theorem dX10_init_67 : decode cX10_init 67 = .ok (.getfield 13, 3) := by decide +kernel
theorem dX10_init_70 : decode cX10_init 70 = .ok (.sipush 401, 3) := by decide +kernel
theorem dX10_init_73 : decode cX10_init 73 = .ok (.invokespecial 50, 3) := by decide +kernel
theorem dX10_init_76 : decode cX10_init 76 = .ok (.putfield 53, 3) := by decide +kernel
theorem dX10_init_79 : decode cX10_init 79 = .ok (.aload_n 0, 1) := by decide +kernel
theorem dX10_init_80 : decode cX10_init 80 = .ok (.new 48, 3) := by decide +kernel
theorem dX10_init_83 : decode cX10_init 83 = .ok (.dup, 1) := by decide +kernel
theorem dX10_init_84 : decode cX10_init 84 = .ok (.aload_n 0, 1) := by decide +kernel
theorem dX10_init_85 : decode cX10_init 85 = .ok (.getfield 13, 3) := by decide +kernel
theorem dX10_init_88 : decode cX10_init 88 = .ok (.iconst 0, 1) := by decide +kernel
theorem dX10_init_89 : decode cX10_init 89 = .ok (.invokespecial 50, 3) := by decide +kernel
theorem dX10_init_92 : decode cX10_init 92 = .ok (.putfield 57, 3) := by decide +kernel
theorem dX10_init_95 : decode cX10_init 95 = .ok (.aload_n 0, 1) := by decide +kernel
theorem dX10_init_96 : decode cX10_init 96 = .ok (.new 60, 3) := by decide +kernel
theorem dX10_init_99 : decode cX10_init 99 = .ok (.dup, 1) := by decide +kernel
theorem dX10_init_100 : decode cX10_init 100 = .ok (.invokespecial 62, 3) := by decide +kernel
theorem dX10_init_103 : decode cX10_init 103 = .ok (.putfield 63, 3) := by decide +kernel
theorem dX10_init_106 : decode cX10_init 106 = .ok (.aload_n 0, 1) := by decide +kernel
theorem dX10_init_107 : decode cX10_init 107 = .ok (.iconst 4, 1) := by decide +kernel
theorem dX10_init_108 : decode cX10_init 108 = .ok (.newarray .int, 2) := by decide +kernel
theorem dX10_init_110 : decode cX10_init 110 = .ok (.putfield 67, 3) := by decide +kernel
theorem dX10_init_113 : decode cX10_init 113 = .ok (.aload_n 0, 1) := by decide +kernel
theorem dX10_init_114 : decode cX10_init 114 = .ok (.iconst 0, 1) := by decide +kernel
theorem dX10_init_115 : decode cX10_init 115 = .ok (.putfield 70, 3) := by decide +kernel
theorem dX10_init_118 : decode cX10_init 118 = .ok (.aload_n 0, 1) := by decide +kernel
theorem dX10_init_119 : decode cX10_init 119 = .ok (.iconst 2, 1) := by decide +kernel
theorem dX10_init_120 : decode cX10_init 120 = .ok (.anewarray 60, 3) := by decide +kernel
theorem dX10_init_123 : decode cX10_init 123 = .ok (.dup, 1) := by decide +kernel
theorem dX10_init_124 : decode cX10_init 124 = .ok (.iconst 0, 1) := by decide +kernel
theorem dX10_init_125 : decode cX10_init 125 = .ok (.new 60, 3) := by decide +kernel
theorem dX10_init_128 : decode cX10_init 128 = .ok (.dup, 1) := by decide +kernel
theorem dX10_init_129 : decode cX10_init 129 = .ok (.invokespecial 62, 3) := by decide +kernel
theorem dX10_init_132 : decode cX10_init 132 = .ok (.aastore, 1) := by decide +kernel
theorem dX10_init_133 : decode cX10_init 133 = .ok (.dup, 1) := by decide +kernel
theorem dX10_init_134 : decode cX10_init 134 = .ok (.iconst 1, 1) := by decide +kernel
theorem dX10_init_135 : decode cX10_init 135 = .ok (.new 60, 3) := by decide +kernel
theorem dX10_init_138 : decode cX10_init 138 = .ok (.dup, 1) := by decide +kernel
theorem dX10_init_139 : decode cX10_init 139 = .ok (.invokespecial 62, 3) := by decide +kernel
theorem dX10_init_142 : decode cX10_init 142 = .ok (.aastore, 1) := by decide +kernel
theorem dX10_init_143 : decode cX10_init 143 = .ok (.putfield 74, 3) := by decide +kernel
theorem dX10_init_146 : decode cX10_init 146 = .ok (.aload_n 0, 1) := by decide +kernel
theorem dX10_init_147 : decode cX10_init 147 = .ok (.iconst 2, 1) := by decide +kernel
theorem dX10_init_148 : decode cX10_init 148 = .ok (.newarray .boolean, 2) := by decide +kernel
theorem dX10_init_150 : decode cX10_init 150 = .ok (.dup, 1) := by decide +kernel
theorem dX10_init_151 : decode cX10_init 151 = .ok (.iconst 0, 1) := by decide +kernel
theorem dX10_init_152 : decode cX10_init 152 = .ok (.iconst 0, 1) := by decide +kernel
theorem dX10_init_153 : decode cX10_init 153 = .ok (.bastore, 1) := by decide +kernel
theorem dX10_init_154 : decode cX10_init 154 = .ok (.dup, 1) := by decide +kernel
theorem dX10_init_155 : decode cX10_init 155 = .ok (.iconst 1, 1) := by decide +kernel
theorem dX10_init_156 : decode cX10_init 156 = .ok (.iconst 0, 1) := by decide +kernel
theorem dX10_init_157 : decode cX10_init 157 = .ok (.bastore, 1) := by decide +kernel
theorem dX10_init_158 : decode cX10_init 158 = .ok (.putfield 78, 3) := by decide +kernel
theorem dX10_init_161 : decode cX10_init 161 = .ok (.aload_n 0, 1) := by decide +kernel
theorem dX10_init_162 : decode cX10_init 162 = .ok (.new 82, 3) := by decide +kernel
theorem dX10_init_165 : decode cX10_init 165 = .ok (.dup, 1) := by decide +kernel
theorem dX10_init_166 : decode cX10_init 166 = .ok (.invokespecial 84, 3) := by decide +kernel
theorem dX10_init_169 : decode cX10_init 169 = .ok (.putfield 85, 3) := by decide +kernel
theorem dX10_init_172 : decode cX10_init 172 = .ok (.aload_n 0, 1) := by decide +kernel
theorem dX10_init_173 : decode cX10_init 173 = .ok (.bipush 30, 2) := by decide +kernel
theorem dX10_init_175 : decode cX10_init 175 = .ok (.anewarray 89, 3) := by decide +kernel
theorem dX10_init_178 : decode cX10_init 178 = .ok (.putfield 91, 3) := by decide +kernel
theorem dX10_init_181 : decode cX10_init 181 = .ok (.aload_n 0, 1) := by decide +kernel
theorem dX10_init_182 : decode cX10_init 182 = .ok (.iconst 0, 1) := by decide +kernel
theorem dX10_init_183 : decode cX10_init 183 = .ok (.putfield 95, 3) := by decide +kernel
theorem dX10_init_186 : decode cX10_init 186 = .ok (.aload_n 0, 1) := by decide +kernel
theorem dX10_init_187 : decode cX10_init 187 = .ok (.new 98, 3) := by decide +kernel
theorem dX10_init_190 : decode cX10_init 190 = .ok (.dup, 1) := by decide +kernel
theorem dX10_init_191 : decode cX10_init 191 = .ok (.invokespecial 100, 3) := by decide +kernel
theorem dX10_init_194 : decode cX10_init 194 = .ok (.putfield 101, 3) := by decide +kernel
theorem dX10_init_197 : decode cX10_init 197 = .ok (.aload_n 0, 1) := by decide +kernel
theorem dX10_init_198 : decode cX10_init 198 = .ok (.iconst 4, 1) := by decide +kernel
theorem dX10_init_199 : decode cX10_init 199 = .ok (.anewarray 105, 3) := by decide +kernel
theorem dX10_init_202 : decode cX10_init 202 = .ok (.putfield 107, 3) := by decide +kernel
theorem dX10_init_205 : decode cX10_init 205 = .ok (.iconst 0, 1) := by decide +kernel
theorem dX10_init_206 : decode cX10_init 206 = .ok (.istore_n 1, 1) := by decide +kernel
theorem dX10_init_207 : decode cX10_init 207 = .ok (.iload_n 1, 1) := by decide +kernel
theorem dX10_init_208 : decode cX10_init 208 = .ok (.bipush 9, 2) := by decide +kernel
theorem dX10_init_210 : decode cX10_init 210 = .ok (.if_icmp .ge 22, 3) := by decide +kernel
theorem dX10_init_213 : decode cX10_init 213 = .ok (.aload_n 0, 1) := by decide +kernel
theorem dX10_init_214 : decode cX10_init 214 = .ok (.getfield 19, 3) := by decide +kernel
theorem dX10_init_217 : decode cX10_init 217 = .ok (.iload_n 1, 1) := by decide +kernel
theorem dX10_init_218 : decode cX10_init 218 = .ok (.new 17, 3) := by decide +kernel
theorem dX10_init_221 : decode cX10_init 221 = .ok (.dup, 1) := by decide +kernel
theorem dX10_init_222 : decode cX10_init 222 = .ok (.invokespecial 111, 3) := by decide +kernel
theorem dX10_init_225 : decode cX10_init 225 = .ok (.aastore, 1) := by decide +kernel
theorem dX10_init_226 : decode cX10_init 226 = .ok (.iinc 1 1, 3) := by decide +kernel
theorem dX10_init_229 : decode cX10_init 229 = .ok (.goto (-22), 3) := by decide +kernel
theorem dX10_init_232 : decode cX10_init 232 = .ok (.iconst 0, 1) := by decide +kernel
theorem dX10_init_233 : decode cX10_init 233 = .ok (.istore_n 1, 1) := by decide +kernel
theorem dX10_init_234 : decode cX10_init 234 = .ok (.iload_n 1, 1) := by decide +kernel
theorem dX10_init_235 : decode cX10_init 235 = .ok (.bipush 8, 2) := by decide +kernel
theorem dX10_init_237 : decode cX10_init 237 = .ok (.if_icmp .ge 22, 3) := by decide +kernel
theorem dX10_init_240 : decode cX10_init 240 = .ok (.aload_n 0, 1) := by decide +kernel
theorem dX10_init_241 : decode cX10_init 241 = .ok (.getfield 29, 3) := by decide +kernel
theorem dX10_init_244 : decode cX10_init 244 = .ok (.iload_n 1, 1) := by decide +kernel
theorem dX10_init_245 : decode cX10_init 245 = .ok (.new 27, 3) := by decide +kernel
theorem dX10_init_248 : decode cX10_init 248 = .ok (.dup, 1) := by decide +kernel
theorem dX10_init_249 : decode cX10_init 249 = .ok (.invokespecial 36, 3) := by decide +kernel
theorem dX10_init_252 : decode cX10_init 252 = .ok (.aastore, 1) := by decide +kernel
theorem dX10_init_253 : decode cX10_init 253 = .ok (.iinc 1 1, 3) := by decide +kernel
theorem dX10_init_256 : decode cX10_init 256 = .ok (.goto (-22), 3) := by decide +kernel
theorem dX10_init_259 : decode cX10_init 259 = .ok (.iconst 0, 1) := by decide +kernel
theorem dX10_init_260 : decode cX10_init 260 = .ok (.istore_n 1, 1) := by decide +kernel
theorem dX10_init_261 : decode cX10_init 261 = .ok (.iload_n 1, 1) := by decide +kernel
theorem dX10_init_262 : decode cX10_init 262 = .ok (.bipush 30, 2) := by decide +kernel
theorem dX10_init_264 : decode cX10_init 264 = .ok (.if_icmp .ge 22, 3) := by decide +kernel
theorem dX10_init_267 : decode cX10_init 267 = .ok (.aload_n 0, 1) := by decide +kernel
theorem dX10_init_268 : decode cX10_init 268 = .ok (.getfield 91, 3) := by decide +kernel
theorem dX10_init_271 : decode cX10_init 271 = .ok (.iload_n 1, 1) := by decide +kernel
theorem dX10_init_272 : decode cX10_init 272 = .ok (.new 89, 3) := by decide +kernel
theorem dX10_init_275 : decode cX10_init 275 = .ok (.dup, 1) := by decide +kernel
theorem dX10_init_276 : decode cX10_init 276 = .ok (.invokespecial 112, 3) := by decide +kernel
theorem dX10_init_279 : decode cX10_init 279 = .ok (.aastore, 1) := by decide +kernel
theorem dX10_init_280 : decode cX10_init 280 = .ok (.iinc 1 1, 3) := by decide +kernel
theorem dX10_init_283 : decode cX10_init 283 = .ok (.goto (-22), 3) := by decide +kernel
theorem dX10_init_286 : decode cX10_init 286 = .ok (.iconst 0, 1) := by decide +kernel
theorem dX10_init_287 : decode cX10_init 287 = .ok (.istore_n 1, 1) := by decide +kernel
theorem dX10_init_288 : decode cX10_init 288 = .ok (.iload_n 1, 1) := by decide +kernel
theorem dX10_init_289 : decode cX10_init 289 = .ok (.iconst 4, 1) := by decide +kernel
theorem dX10_init_290 : decode cX10_init 290 = .ok (.if_icmp .ge 22, 3) := by decide +kernel
theorem dX10_init_293 : decode cX10_init 293 = .ok (.aload_n 0, 1) := by decide +kernel
theorem dX10_init_294 : decode cX10_init 294 = .ok (.getfield 107, 3) := by decide +kernel
theorem dX10_init_297 : decode cX10_init 297 = .ok (.iload_n 1, 1) := by decide +kernel
theorem dX10_init_298 : decode cX10_init 298 = .ok (.new 105, 3) := by decide +kernel
theorem dX10_init_301 : decode cX10_init 301 = .ok (.dup, 1) := by decide +kernel
theorem dX10_init_302 : decode cX10_init 302 = .ok (.invokespecial 113, 3) := by decide +kernel
theorem dX10_init_305 : decode cX10_init 305 = .ok (.aastore, 1) := by decide +kernel
theorem dX10_init_306 : decode cX10_init 306 = .ok (.iinc 1 1, 3) := by decide +kernel
theorem dX10_init_309 : decode cX10_init 309 = .ok (.goto (-21), 3) := by decide +kernel
theorem dX10_init_312 : decode cX10_init 312 = .ok (.return_, 1) := by decide +kernel
theorem dX10_plain_0 : decode cX10_plain 0 = .ok (.aload_n 0, 1) := by decide +kernel
theorem dX10_plain_1 : decode cX10_plain 1 = .ok (.iload_n 1, 1) := by decide +kernel
theorem dX10_plain_2 : decode cX10_plain 2 = .ok (.iload_n 2, 1) := by decide +kernel
theorem dX10_plain_3 : decode cX10_plain 3 = .ok (.iload_n 3, 1) := by decide +kernel
theorem dX10_plain_4 : decode cX10_plain 4 = .ok (.iload 4, 2) := by decide +kernel
theorem dX10_plain_6 : decode cX10_plain 6 = .ok (.iconst 0, 1) := by decide +kernel
theorem dX10_plain_7 : decode cX10_plain 7 = .ok (.invokevirtual 114, 3) := by decide +kernel
theorem dX10_plain_10 : decode cX10_plain 10 = .ok (.ireturn, 1) := by decide +kernel
theorem dX10_winged_0 : decode cX10_winged 0 = .ok (.iload 5, 2) := by decide +kernel
theorem dX10_winged_2 : decode cX10_winged 2 = .ok (.iconst 1, 1) := by decide +kernel
theorem dX10_winged_3 : decode cX10_winged 3 = .ok (.sipush 200, 3) := by decide +kernel
theorem dX10_winged_6 : decode cX10_winged 6 = .ok (.invokestatic 118, 3) := by decide +kernel
theorem dX10_winged_9 : decode cX10_winged 9 = .ok (.ifCond .ne 5, 3) := by decide +kernel
theorem dX10_winged_12 : decode cX10_winged 12 = .ok (.iconst (-1), 1) := by decide +kernel
theorem dX10_winged_13 : decode cX10_winged 13 = .ok (.ireturn, 1) := by decide +kernel
theorem dX10_winged_14 : decode cX10_winged 14 = .ok (.aload_n 0, 1) := by decide +kernel
theorem dX10_winged_15 : decode cX10_winged 15 = .ok (.iload_n 1, 1) := by decide +kernel
theorem dX10_winged_16 : decode cX10_winged 16 = .ok (.iload_n 2, 1) := by decide +kernel
theorem dX10_winged_17 : decode cX10_winged 17 = .ok (.iload_n 3, 1) := by decide +kernel
theorem dX10_winged_18 : decode cX10_winged 18 = .ok (.iload 4, 2) := by decide +kernel
theorem dX10_winged_20 : decode cX10_winged 20 = .ok (.iload 5, 2) := by decide +kernel
theorem dX10_winged_22 : decode cX10_winged 22 = .ok (.invokevirtual 114, 3) := by decide +kernel
theorem dX10_winged_25 : decode cX10_winged 25 = .ok (.ireturn, 1) := by decide +kernel
theorem dX10_newStick_0 : decode cX10_newStick 0 = .ok (.iload_n 1, 1) := by decide +kernel
theorem dX10_newStick_1 : decode cX10_newStick 1 = .ok (.iconst 1, 1) := by decide +kernel
theorem dX10_newStick_2 : decode cX10_newStick 2 = .ok (.bipush 100, 2) := by decide +kernel
theorem dX10_newStick_4 : decode cX10_newStick 4 = .ok (.invokestatic 118, 3) := by decide +kernel
theorem dX10_newStick_7 : decode cX10_newStick 7 = .ok (.ifCond .eq 38, 3) := by decide +kernel
theorem dX10_newStick_10 : decode cX10_newStick 10 = .ok (.iload_n 2, 1) := by decide +kernel
theorem dX10_newStick_11 : decode cX10_newStick 11 = .ok (.iconst 0, 1) := by decide +kernel
theorem dX10_newStick_12 : decode cX10_newStick 12 = .ok (.bipush 60, 2) := by decide +kernel
theorem dX10_newStick_14 : decode cX10_newStick 14 = .ok (.invokestatic 118, 3) := by decide +kernel
theorem dX10_newStick_17 : decode cX10_newStick 17 = .ok (.ifCond .eq 28, 3) := by decide +kernel
theorem dX10_newStick_20 : decode cX10_newStick 20 = .ok (.iload_n 3, 1) := by decide +kernel
theorem dX10_newStick_21 : decode cX10_newStick 21 = .ok (.iconst 1, 1) := by decide +kernel
theorem dX10_newStick_22 : decode cX10_newStick 22 = .ok (.bipush 20, 2) := by decide +kernel
theorem dX10_newStick_24 : decode cX10_newStick 24 = .ok (.invokestatic 118, 3) := by decide +kernel
theorem dX10_newStick_27 : decode cX10_newStick 27 = .ok (.ifCond .eq 18, 3) := by decide +kernel
theorem dX10_newStick_30 : decode cX10_newStick 30 = .ok (.iload 4, 2) := by decide +kernel
theorem dX10_newStick_32 : decode cX10_newStick 32 = .ok (.iconst 0, 1) := by decide +kernel
theorem dX10_newStick_33 : decode cX10_newStick 33 = .ok (.bipush 10, 2) := by decide +kernel
theorem dX10_newStick_35 : decode cX10_newStick 35 = .ok (.invokestatic 118, 3) := by decide +kernel
theorem dX10_newStick_38 : decode cX10_newStick 38 = .ok (.ifCond .eq 7, 3) := by decide +kernel
theorem dX10_newStick_41 : decode cX10_newStick 41 = .ok (.iconst 1, 1) := by decide +kernel
theorem dX10_newStick_42 : decode cX10_newStick 42 = .ok (.goto 4, 3) := by decide +kernel
theorem dX10_newStick_45 : decode cX10_newStick 45 = .ok (.iconst 0, 1) := by decide +kernel
theorem dX10_newStick_46 : decode cX10_newStick 46 = .ok (.istore 6, 2) := by decide +kernel
theorem dX10_newStick_48 : decode cX10_newStick 48 = .ok (.iload 6, 2) := by decide +kernel
theorem dX10_newStick_50 : decode cX10_newStick 50 = .ok (.ifCond .ne 5, 3) := by decide +kernel
theorem dX10_newStick_53 : decode cX10_newStick 53 = .ok (.iconst (-1), 1) := by decide +kernel
theorem dX10_newStick_54 : decode cX10_newStick 54 = .ok (.ireturn, 1) := by decide +kernel
theorem dX10_newStick_55 : decode cX10_newStick 55 = .ok (.aload_n 0, 1) := by decide +kernel
theorem dX10_newStick_56 : decode cX10_newStick 56 = .ok (.getfield 23, 3) := by decide +kernel
theorem dX10_newStick_59 : decode cX10_newStick 59 = .ok (.bipush 9, 2) := by decide +kernel
theorem dX10_newStick_61 : decode cX10_newStick 61 = .ok (.if_icmp .lt 6, 3) := by decide +kernel
theorem dX10_newStick_64 : decode cX10_newStick 64 = .ok (.bipush (-3), 2) := by decide +kernel
theorem dX10_newStick_66 : decode cX10_newStick 66 = .ok (.ireturn, 1) := by decide +kernel
theorem dX10_newStick_67 : decode cX10_newStick 67 = .ok (.aload_n 0, 1) := by decide +kernel
theorem dX10_newStick_68 : decode cX10_newStick 68 = .ok (.getfield 19, 3) := by decide +kernel
theorem dX10_newStick_71 : decode cX10_newStick 71 = .ok (.aload_n 0, 1) := by decide +kernel
theorem dX10_newStick_72 : decode cX10_newStick 72 = .ok (.getfield 23, 3) := by decide +kernel
theorem dX10_newStick_75 : decode cX10_newStick 75 = .ok (.aaload, 1) := by decide +kernel
theorem dX10_newStick_76 : decode cX10_newStick 76 = .ok (.iload_n 1, 1) := by decide +kernel
theorem dX10_newStick_77 : decode cX10_newStick 77 = .ok (.iload_n 2, 1) := by decide +kernel
theorem dX10_newStick_78 : decode cX10_newStick 78 = .ok (.iload_n 3, 1) := by decide +kernel
theorem dX10_newStick_79 : decode cX10_newStick 79 = .ok (.iload 4, 2) := by decide +kernel
theorem dX10_newStick_81 : decode cX10_newStick 81 = .ok (.iload 5, 2) := by decide +kernel
theorem dX10_newStick_83 : decode cX10_newStick 83 = .ok (.invokevirtual 122, 3) := by decide +kernel
theorem dX10_newStick_86 : decode cX10_newStick 86 = .ok (.aload_n 0, 1) := by decide +kernel
theorem dX10_newStick_87 : decode cX10_newStick 87 = .ok (.dup, 1) := by decide +kernel
theorem dX10_newStick_88 : decode cX10_newStick 88 = .ok (.getfield 23, 3) := by decide +kernel
theorem dX10_newStick_91 : decode cX10_newStick 91 = .ok (.iconst 1, 1) := by decide +kernel
theorem dX10_newStick_92 : decode cX10_newStick 92 = .ok (.iadd, 1) := by decide +kernel
theorem dX10_newStick_93 : decode cX10_newStick 93 = .ok (.putfield 23, 3) := by decide +kernel
theorem dX10_newStick_96 : decode cX10_newStick 96 = .ok (.aload_n 0, 1) := by decide +kernel
theorem dX10_newStick_97 : decode cX10_newStick 97 = .ok (.getfield 23, 3) := by decide +kernel
theorem dX10_newStick_100 : decode cX10_newStick 100 = .ok (.iconst 1, 1) := by decide +kernel
theorem dX10_newStick_101 : decode cX10_newStick 101 = .ok (.isub, 1) := by decide +kernel
theorem dX10_newStick_102 : decode cX10_newStick 102 = .ok (.ireturn, 1) := by decide +kernel
theorem dX10_lift_0 : decode cX10_lift 0 = .ok (.aload_n 0, 1) := by decide +kernel
theorem dX10_lift_1 : decode cX10_lift 1 = .ok (.iload_n 1, 1) := by decide +kernel
theorem dX10_lift_2 : decode cX10_lift 2 = .ok (.invokevirtual 126, 3) := by decide +kernel
theorem dX10_lift_5 : decode cX10_lift 5 = .ok (.ifCond .eq 23, 3) := by decide +kernel
theorem dX10_lift_8 : decode cX10_lift 8 = .ok (.iload_n 2, 1) := by decide +kernel
theorem dX10_lift_9 : decode cX10_lift 9 = .ok (.iconst 0, 1) := by decide +kernel
theorem dX10_lift_10 : decode cX10_lift 10 = .ok (.iconst 3, 1) := by decide +kernel
theorem dX10_lift_11 : decode cX10_lift 11 = .ok (.invokestatic 118, 3) := by decide +kernel
theorem dX10_lift_14 : decode cX10_lift 14 = .ok (.ifCond .eq 14, 3) := by decide +kernel
theorem dX10_lift_17 : decode cX10_lift 17 = .ok (.iload_n 3, 1) := by decide +kernel
theorem dX10_lift_18 : decode cX10_lift 18 = .ok (.iconst 0, 1) := by decide +kernel
theorem dX10_lift_19 : decode cX10_lift 19 = .ok (.sipush 300, 3) := by decide +kernel
theorem dX10_lift_22 : decode cX10_lift 22 = .ok (.invokestatic 118, 3) := by decide +kernel
theorem dX10_lift_25 : decode cX10_lift 25 = .ok (.ifCond .ne 5, 3) := by decide +kernel
theorem dX10_lift_28 : decode cX10_lift 28 = .ok (.iconst (-1), 1) := by decide +kernel
theorem dX10_lift_29 : decode cX10_lift 29 = .ok (.ireturn, 1) := by decide +kernel
theorem dX10_lift_30 : decode cX10_lift 30 = .ok (.aload_n 0, 1) := by decide +kernel
theorem dX10_lift_31 : decode cX10_lift 31 = .ok (.getfield 19, 3) := by decide +kernel
theorem dX10_lift_34 : decode cX10_lift 34 = .ok (.iload_n 1, 1) := by decide +kernel
theorem dX10_lift_35 : decode cX10_lift 35 = .ok (.aaload, 1) := by decide +kernel
theorem dX10_lift_36 : decode cX10_lift 36 = .ok (.getfield 130, 3) := by decide +kernel
theorem dX10_lift_39 : decode cX10_lift 39 = .ok (.iload_n 2, 1) := by decide +kernel
theorem dX10_lift_40 : decode cX10_lift 40 = .ok (.iaload, 1) := by decide +kernel
theorem dX10_lift_41 : decode cX10_lift 41 = .ok (.istore 4, 2) := by decide +kernel
theorem dX10_lift_43 : decode cX10_lift 43 = .ok (.aload_n 0, 1) := by decide +kernel
theorem dX10_lift_44 : decode cX10_lift 44 = .ok (.getfield 19, 3) := by decide +kernel
theorem dX10_lift_47 : decode cX10_lift 47 = .ok (.iload_n 1, 1) := by decide +kernel
theorem dX10_lift_48 : decode cX10_lift 48 = .ok (.aaload, 1) := by decide +kernel
theorem dX10_lift_49 : decode cX10_lift 49 = .ok (.getfield 130, 3) := by decide +kernel
theorem dX10_lift_52 : decode cX10_lift 52 = .ok (.iload_n 2, 1) := by decide +kernel
theorem dX10_lift_53 : decode cX10_lift 53 = .ok (.iload_n 3, 1) := by decide +kernel
theorem dX10_lift_54 : decode cX10_lift 54 = .ok (.iastore, 1) := by decide +kernel
theorem dX10_lift_55 : decode cX10_lift 55 = .ok (.iload 4, 2) := by decide +kernel
theorem dX10_lift_57 : decode cX10_lift 57 = .ok (.ireturn, 1) := by decide +kernel
theorem dX10_bend_0 : decode cX10_bend 0 = .ok (.aload_n 0, 1) := by decide +kernel
theorem dX10_bend_1 : decode cX10_bend 1 = .ok (.iload_n 1, 1) := by decide +kernel
theorem dX10_bend_2 : decode cX10_bend 2 = .ok (.invokevirtual 126, 3) := by decide +kernel
theorem dX10_bend_5 : decode cX10_bend 5 = .ok (.ifCond .eq 10, 3) := by decide +kernel
theorem dX10_bend_8 : decode cX10_bend 8 = .ok (.iload_n 2, 1) := by decide +kernel
theorem dX10_bend_9 : decode cX10_bend 9 = .ok (.invokestatic 133, 3) := by decide +kernel
theorem dX10_bend_12 : decode cX10_bend 12 = .ok (.ifCond .ne 6, 3) := by decide +kernel
theorem dX10_bend_15 : decode cX10_bend 15 = .ok (.bipush (-11), 2) := by decide +kernel
theorem dX10_bend_17 : decode cX10_bend 17 = .ok (.ireturn, 1) := by decide +kernel
theorem dX10_bend_18 : decode cX10_bend 18 = .ok (.aload_n 0, 1) := by decide +kernel
theorem dX10_bend_19 : decode cX10_bend 19 = .ok (.getfield 19, 3) := by decide +kernel
theorem dX10_bend_22 : decode cX10_bend 22 = .ok (.iload_n 1, 1) := by decide +kernel
theorem dX10_bend_23 : decode cX10_bend 23 = .ok (.aaload, 1) := by decide +kernel
theorem dX10_bend_24 : decode cX10_bend 24 = .ok (.getfield 136, 3) := by decide +kernel
theorem dX10_bend_27 : decode cX10_bend 27 = .ok (.istore_n 3, 1) := by decide +kernel
theorem dX10_bend_28 : decode cX10_bend 28 = .ok (.aload_n 0, 1) := by decide +kernel
theorem dX10_bend_29 : decode cX10_bend 29 = .ok (.getfield 19, 3) := by decide +kernel
theorem dX10_bend_32 : decode cX10_bend 32 = .ok (.iload_n 1, 1) := by decide +kernel
theorem dX10_bend_33 : decode cX10_bend 33 = .ok (.aaload, 1) := by decide +kernel
theorem dX10_bend_34 : decode cX10_bend 34 = .ok (.iload_n 2, 1) := by decide +kernel
theorem dX10_bend_35 : decode cX10_bend 35 = .ok (.putfield 136, 3) := by decide +kernel
theorem dX10_bend_38 : decode cX10_bend 38 = .ok (.iload_n 3, 1) := by decide +kernel
theorem dX10_bend_39 : decode cX10_bend 39 = .ok (.ireturn, 1) := by decide +kernel
theorem dX10_told_0 : decode cX10_told 0 = .ok (.aload_n 0, 1) := by decide +kernel
theorem dX10_told_1 : decode cX10_told 1 = .ok (.iload_n 1, 1) := by decide +kernel
theorem dX10_told_2 : decode cX10_told 2 = .ok (.invokevirtual 126, 3) := by decide +kernel
theorem dX10_told_5 : decode cX10_told 5 = .ok (.ifCond .ne 5, 3) := by decide +kernel
theorem dX10_told_8 : decode cX10_told 8 = .ok (.iconst (-1), 1) := by decide +kernel
theorem dX10_told_9 : decode cX10_told 9 = .ok (.ireturn, 1) := by decide +kernel
theorem dX10_told_10 : decode cX10_told 10 = .ok (.aload_n 0, 1) := by decide +kernel
theorem dX10_told_11 : decode cX10_told 11 = .ok (.getfield 19, 3) := by decide +kernel
theorem dX10_told_14 : decode cX10_told 14 = .ok (.iload_n 1, 1) := by decide +kernel
theorem dX10_told_15 : decode cX10_told 15 = .ok (.aaload, 1) := by decide +kernel
theorem dX10_told_16 : decode cX10_told 16 = .ok (.astore_n 3, 1) := by decide +kernel
theorem dX10_told_17 : decode cX10_told 17 = .ok (.iload_n 2, 1) := by decide +kernel
theorem dX10_told_18 : decode cX10_told 18 = .ok (.tableswitch 105 0 6 #[42, 55, 60, 65, 70, 75, 92], 42) := by decide +kernel
theorem dX10_told_60 : decode cX10_told 60 = .ok (.aload_n 3, 1) := by decide +kernel
theorem dX10_told_61 : decode cX10_told 61 = .ok (.invokevirtual 139, 3) := by decide +kernel
theorem dX10_told_64 : decode cX10_told 64 = .ok (.ifCond .eq 7, 3) := by decide +kernel
theorem dX10_told_67 : decode cX10_told 67 = .ok (.iconst 1, 1) := by decide +kernel
theorem dX10_told_68 : decode cX10_told 68 = .ok (.goto 4, 3) := by decide +kernel
theorem dX10_told_71 : decode cX10_told 71 = .ok (.iconst 0, 1) := by decide +kernel
theorem dX10_told_72 : decode cX10_told 72 = .ok (.ireturn, 1) := by decide +kernel
theorem dX10_told_73 : decode cX10_told 73 = .ok (.aload_n 3, 1) := by decide +kernel
theorem dX10_told_74 : decode cX10_told 74 = .ok (.getfield 143, 3) := by decide +kernel
theorem dX10_told_77 : decode cX10_told 77 = .ok (.ireturn, 1) := by decide +kernel
theorem dX10_told_78 : decode cX10_told 78 = .ok (.aload_n 3, 1) := by decide +kernel
theorem dX10_told_79 : decode cX10_told 79 = .ok (.getfield 146, 3) := by decide +kernel
theorem dX10_told_82 : decode cX10_told 82 = .ok (.ireturn, 1) := by decide +kernel
theorem dX10_told_83 : decode cX10_told 83 = .ok (.aload_n 3, 1) := by decide +kernel
theorem dX10_told_84 : decode cX10_told 84 = .ok (.getfield 149, 3) := by decide +kernel
theorem dX10_told_87 : decode cX10_told 87 = .ok (.ireturn, 1) := by decide +kernel
theorem dX10_told_88 : decode cX10_told 88 = .ok (.aload_n 3, 1) := by decide +kernel
theorem dX10_told_89 : decode cX10_told 89 = .ok (.getfield 152, 3) := by decide +kernel
theorem dX10_told_92 : decode cX10_told 92 = .ok (.ireturn, 1) := by decide +kernel
theorem dX10_told_93 : decode cX10_told 93 = .ok (.aload_n 3, 1) := by decide +kernel
theorem dX10_told_94 : decode cX10_told 94 = .ok (.invokevirtual 139, 3) := by decide +kernel
theorem dX10_told_97 : decode cX10_told 97 = .ok (.ifCond .eq 10, 3) := by decide +kernel
theorem dX10_told_100 : decode cX10_told 100 = .ok (.aload_n 3, 1) := by decide +kernel
theorem dX10_told_101 : decode cX10_told 101 = .ok (.getfield 155, 3) := by decide +kernel
theorem dX10_told_104 : decode cX10_told 104 = .ok (.goto 5, 3) := by decide +kernel
theorem dX10_told_107 : decode cX10_told 107 = .ok (.bipush (-4), 2) := by decide +kernel
theorem dX10_told_109 : decode cX10_told 109 = .ok (.ireturn, 1) := by decide +kernel
theorem dX10_told_110 : decode cX10_told 110 = .ok (.aload_n 3, 1) := by decide +kernel
theorem dX10_told_111 : decode cX10_told 111 = .ok (.getfield 158, 3) := by decide +kernel
theorem dX10_told_114 : decode cX10_told 114 = .ok (.ifCond .eq 7, 3) := by decide +kernel
theorem dX10_told_117 : decode cX10_told 117 = .ok (.iconst 1, 1) := by decide +kernel
theorem dX10_told_118 : decode cX10_told 118 = .ok (.goto 4, 3) := by decide +kernel
theorem dX10_told_121 : decode cX10_told 121 = .ok (.iconst 0, 1) := by decide +kernel
theorem dX10_told_122 : decode cX10_told 122 = .ok (.ireturn, 1) := by decide +kernel
theorem dX10_told_123 : decode cX10_told 123 = .ok (.iconst (-1), 1) := by decide +kernel
theorem dX10_told_124 : decode cX10_told 124 = .ok (.ireturn, 1) := by decide +kernel
theorem dX10_lose_0 : decode cX10_lose 0 = .ok (.aload_n 0, 1) := by decide +kernel
theorem dX10_lose_1 : decode cX10_lose 1 = .ok (.iload_n 1, 1) := by decide +kernel
theorem dX10_lose_2 : decode cX10_lose 2 = .ok (.invokevirtual 126, 3) := by decide +kernel
theorem dX10_lose_5 : decode cX10_lose 5 = .ok (.ifCond .ne 5, 3) := by decide +kernel
theorem dX10_lose_8 : decode cX10_lose 8 = .ok (.iconst (-1), 1) := by decide +kernel
theorem dX10_lose_9 : decode cX10_lose 9 = .ok (.ireturn, 1) := by decide +kernel
theorem dX10_lose_10 : decode cX10_lose 10 = .ok (.aload_n 0, 1) := by decide +kernel
theorem dX10_lose_11 : decode cX10_lose 11 = .ok (.getfield 19, 3) := by decide +kernel
theorem dX10_lose_14 : decode cX10_lose 14 = .ok (.iload_n 1, 1) := by decide +kernel
theorem dX10_lose_15 : decode cX10_lose 15 = .ok (.aaload, 1) := by decide +kernel
theorem dX10_lose_16 : decode cX10_lose 16 = .ok (.getfield 158, 3) := by decide +kernel
theorem dX10_lose_19 : decode cX10_lose 19 = .ok (.ifCond .eq 7, 3) := by decide +kernel
theorem dX10_lose_22 : decode cX10_lose 22 = .ok (.iconst 1, 1) := by decide +kernel
theorem dX10_lose_23 : decode cX10_lose 23 = .ok (.goto 4, 3) := by decide +kernel
theorem dX10_lose_26 : decode cX10_lose 26 = .ok (.iconst 0, 1) := by decide +kernel
theorem dX10_lose_27 : decode cX10_lose 27 = .ok (.istore_n 3, 1) := by decide +kernel
theorem dX10_lose_28 : decode cX10_lose 28 = .ok (.aload_n 0, 1) := by decide +kernel
theorem dX10_lose_29 : decode cX10_lose 29 = .ok (.getfield 19, 3) := by decide +kernel
theorem dX10_lose_32 : decode cX10_lose 32 = .ok (.iload_n 1, 1) := by decide +kernel
theorem dX10_lose_33 : decode cX10_lose 33 = .ok (.aaload, 1) := by decide +kernel
theorem dX10_lose_34 : decode cX10_lose 34 = .ok (.iload_n 2, 1) := by decide +kernel
theorem dX10_lose_35 : decode cX10_lose 35 = .ok (.ifCond .ne 7, 3) := by decide +kernel
theorem dX10_lose_38 : decode cX10_lose 38 = .ok (.iconst 1, 1) := by decide +kernel
theorem dX10_lose_39 : decode cX10_lose 39 = .ok (.goto 4, 3) := by decide +kernel
theorem dX10_lose_42 : decode cX10_lose 42 = .ok (.iconst 0, 1) := by decide +kernel
theorem dX10_lose_43 : decode cX10_lose 43 = .ok (.putfield 158, 3) := by decide +kernel
theorem dX10_lose_46 : decode cX10_lose 46 = .ok (.iload_n 3, 1) := by decide +kernel
theorem dX10_lose_47 : decode cX10_lose 47 = .ok (.ireturn, 1) := by decide +kernel
theorem dX10_wind_0 : decode cX10_wind 0 = .ok (.aload_n 0, 1) := by decide +kernel
theorem dX10_wind_1 : decode cX10_wind 1 = .ok (.getfield 33, 3) := by decide +kernel
theorem dX10_wind_4 : decode cX10_wind 4 = .ok (.bipush 8, 2) := by decide +kernel
theorem dX10_wind_6 : decode cX10_wind 6 = .ok (.if_icmp .lt 6, 3) := by decide +kernel
theorem dX10_wind_9 : decode cX10_wind 9 = .ok (.bipush (-3), 2) := by decide +kernel
theorem dX10_wind_11 : decode cX10_wind 11 = .ok (.ireturn, 1) := by decide +kernel
theorem dX10_wind_12 : decode cX10_wind 12 = .ok (.aload_n 0, 1) := by decide +kernel
theorem dX10_wind_13 : decode cX10_wind 13 = .ok (.dup, 1) := by decide +kernel
theorem dX10_wind_14 : decode cX10_wind 14 = .ok (.getfield 33, 3) := by decide +kernel
theorem dX10_wind_17 : decode cX10_wind 17 = .ok (.iconst 1, 1) := by decide +kernel
theorem dX10_wind_18 : decode cX10_wind 18 = .ok (.iadd, 1) := by decide +kernel
theorem dX10_wind_19 : decode cX10_wind 19 = .ok (.putfield 33, 3) := by decide +kernel
theorem dX10_wind_22 : decode cX10_wind 22 = .ok (.aload_n 0, 1) := by decide +kernel
theorem dX10_wind_23 : decode cX10_wind 23 = .ok (.getfield 33, 3) := by decide +kernel
theorem dX10_wind_26 : decode cX10_wind 26 = .ok (.iconst 1, 1) := by decide +kernel
theorem dX10_wind_27 : decode cX10_wind 27 = .ok (.isub, 1) := by decide +kernel
theorem dX10_wind_28 : decode cX10_wind 28 = .ok (.ireturn, 1) := by decide +kernel
theorem dX10_blows_0 : decode cX10_blows 0 = .ok (.aload_n 0, 1) := by decide +kernel
theorem dX10_blows_1 : decode cX10_blows 1 = .ok (.iload_n 1, 1) := by decide +kernel
theorem dX10_blows_2 : decode cX10_blows 2 = .ok (.invokevirtual 161, 3) := by decide +kernel
theorem dX10_blows_5 : decode cX10_blows 5 = .ok (.ifCond .eq 34, 3) := by decide +kernel
theorem dX10_blows_8 : decode cX10_blows 8 = .ok (.iload_n 2, 1) := by decide +kernel
theorem dX10_blows_9 : decode cX10_blows 9 = .ok (.iconst 0, 1) := by decide +kernel
theorem dX10_blows_10 : decode cX10_blows 10 = .ok (.iconst 3, 1) := by decide +kernel
theorem dX10_blows_11 : decode cX10_blows 11 = .ok (.invokestatic 118, 3) := by decide +kernel
theorem dX10_blows_14 : decode cX10_blows 14 = .ok (.ifCond .eq 25, 3) := by decide +kernel
theorem dX10_blows_17 : decode cX10_blows 17 = .ok (.iload_n 3, 1) := by decide +kernel
theorem dX10_blows_18 : decode cX10_blows 18 = .ok (.iconst 0, 1) := by decide +kernel
theorem dX10_blows_19 : decode cX10_blows 19 = .ok (.bipush 60, 2) := by decide +kernel
theorem dX10_blows_21 : decode cX10_blows 21 = .ok (.invokestatic 118, 3) := by decide +kernel
theorem dX10_blows_24 : decode cX10_blows 24 = .ok (.ifCond .eq 15, 3) := by decide +kernel
theorem dX10_blows_27 : decode cX10_blows 27 = .ok (.iload 4, 2) := by decide +kernel
theorem dX10_blows_29 : decode cX10_blows 29 = .ok (.invokestatic 164, 3) := by decide +kernel
theorem dX10_blows_32 : decode cX10_blows 32 = .ok (.ifCond .eq 7, 3) := by decide +kernel
theorem dX10_blows_35 : decode cX10_blows 35 = .ok (.iconst 1, 1) := by decide +kernel
theorem dX10_blows_36 : decode cX10_blows 36 = .ok (.goto 4, 3) := by decide +kernel
theorem dX10_blows_39 : decode cX10_blows 39 = .ok (.iconst 0, 1) := by decide +kernel
theorem dX10_blows_40 : decode cX10_blows 40 = .ok (.istore 5, 2) := by decide +kernel
theorem dX10_blows_42 : decode cX10_blows 42 = .ok (.iload 5, 2) := by decide +kernel
theorem dX10_blows_44 : decode cX10_blows 44 = .ok (.ifCond .ne 5, 3) := by decide +kernel
theorem dX10_blows_47 : decode cX10_blows 47 = .ok (.iconst (-1), 1) := by decide +kernel
theorem dX10_blows_48 : decode cX10_blows 48 = .ok (.ireturn, 1) := by decide +kernel
theorem dX10_blows_49 : decode cX10_blows 49 = .ok (.aload_n 0, 1) := by decide +kernel
theorem dX10_blows_50 : decode cX10_blows 50 = .ok (.getfield 29, 3) := by decide +kernel
theorem dX10_blows_53 : decode cX10_blows 53 = .ok (.iload_n 1, 1) := by decide +kernel
theorem dX10_blows_54 : decode cX10_blows 54 = .ok (.aaload, 1) := by decide +kernel
theorem dX10_blows_55 : decode cX10_blows 55 = .ok (.getfield 167, 3) := by decide +kernel
theorem dX10_blows_58 : decode cX10_blows 58 = .ok (.iload_n 2, 1) := by decide +kernel
theorem dX10_blows_59 : decode cX10_blows 59 = .ok (.iaload, 1) := by decide +kernel
theorem dX10_blows_60 : decode cX10_blows 60 = .ok (.istore 6, 2) := by decide +kernel
theorem dX10_blows_62 : decode cX10_blows 62 = .ok (.aload_n 0, 1) := by decide +kernel
theorem dX10_blows_63 : decode cX10_blows 63 = .ok (.getfield 29, 3) := by decide +kernel
theorem dX10_blows_66 : decode cX10_blows 66 = .ok (.iload_n 1, 1) := by decide +kernel
theorem dX10_blows_67 : decode cX10_blows 67 = .ok (.aaload, 1) := by decide +kernel
theorem dX10_blows_68 : decode cX10_blows 68 = .ok (.getfield 167, 3) := by decide +kernel
theorem dX10_blows_71 : decode cX10_blows 71 = .ok (.iload_n 2, 1) := by decide +kernel
theorem dX10_blows_72 : decode cX10_blows 72 = .ok (.iload_n 3, 1) := by decide +kernel
theorem dX10_blows_73 : decode cX10_blows 73 = .ok (.iastore, 1) := by decide +kernel
theorem dX10_blows_74 : decode cX10_blows 74 = .ok (.aload_n 0, 1) := by decide +kernel
theorem dX10_blows_75 : decode cX10_blows 75 = .ok (.getfield 29, 3) := by decide +kernel
theorem dX10_blows_78 : decode cX10_blows 78 = .ok (.iload_n 1, 1) := by decide +kernel
theorem dX10_blows_79 : decode cX10_blows 79 = .ok (.aaload, 1) := by decide +kernel
theorem dX10_blows_80 : decode cX10_blows 80 = .ok (.getfield 170, 3) := by decide +kernel
end
section
theorem dX10_blows_83 : decode cX10_blows 83 = .ok (.iload_n 2, 1) := by decide +kernel
theorem dX10_blows_84 : decode cX10_blows 84 = .ok (.iload 4, 2) := by decide +kernel
theorem dX10_blows_86 : decode cX10_blows 86 = .ok (.iastore, 1) := by decide +kernel
theorem dX10_blows_87 : decode cX10_blows 87 = .ok (.iload 6, 2) := by decide +kernel
theorem dX10_blows_89 : decode cX10_blows 89 = .ok (.ireturn, 1) := by decide +kernel
theorem dX10_swing_0 : decode cX10_swing 0 = .ok (.aload_n 0, 1) := by decide +kernel
theorem dX10_swing_1 : decode cX10_swing 1 = .ok (.iload_n 1, 1) := by decide +kernel
theorem dX10_swing_2 : decode cX10_swing 2 = .ok (.invokevirtual 161, 3) := by decide +kernel
theorem dX10_swing_5 : decode cX10_swing 5 = .ok (.ifCond .eq 16, 3) := by decide +kernel
theorem dX10_swing_8 : decode cX10_swing 8 = .ok (.iload_n 2, 1) := by decide +kernel
theorem dX10_swing_9 : decode cX10_swing 9 = .ok (.sipush (-359), 3) := by decide +kernel
theorem dX10_swing_12 : decode cX10_swing 12 = .ok (.sipush 359, 3) := by decide +kernel
theorem dX10_swing_15 : decode cX10_swing 15 = .ok (.invokestatic 118, 3) := by decide +kernel
theorem dX10_swing_18 : decode cX10_swing 18 = .ok (.ifCond .ne 5, 3) := by decide +kernel
theorem dX10_swing_21 : decode cX10_swing 21 = .ok (.iconst (-1), 1) := by decide +kernel
theorem dX10_swing_22 : decode cX10_swing 22 = .ok (.ireturn, 1) := by decide +kernel
theorem dX10_swing_23 : decode cX10_swing 23 = .ok (.aload_n 0, 1) := by decide +kernel
theorem dX10_swing_24 : decode cX10_swing 24 = .ok (.getfield 29, 3) := by decide +kernel
theorem dX10_swing_27 : decode cX10_swing 27 = .ok (.iload_n 1, 1) := by decide +kernel
theorem dX10_swing_28 : decode cX10_swing 28 = .ok (.aaload, 1) := by decide +kernel
theorem dX10_swing_29 : decode cX10_swing 29 = .ok (.iload_n 2, 1) := by decide +kernel
theorem dX10_swing_30 : decode cX10_swing 30 = .ok (.invokevirtual 173, 3) := by decide +kernel
theorem dX10_swing_33 : decode cX10_swing 33 = .ok (.iconst 1, 1) := by decide +kernel
theorem dX10_swing_34 : decode cX10_swing 34 = .ok (.ireturn, 1) := by decide +kernel
theorem dX10_tree_0 : decode cX10_tree 0 = .ok (.iload_n 1, 1) := by decide +kernel
theorem dX10_tree_1 : decode cX10_tree 1 = .ok (.sipush (-9000), 3) := by decide +kernel
theorem dX10_tree_4 : decode cX10_tree 4 = .ok (.sipush 9000, 3) := by decide +kernel
theorem dX10_tree_7 : decode cX10_tree 7 = .ok (.invokestatic 118, 3) := by decide +kernel
theorem dX10_tree_10 : decode cX10_tree 10 = .ok (.ifCond .eq 43, 3) := by decide +kernel
theorem dX10_tree_13 : decode cX10_tree 13 = .ok (.iload_n 2, 1) := by decide +kernel
theorem dX10_tree_14 : decode cX10_tree 14 = .ok (.sipush (-9000), 3) := by decide +kernel
theorem dX10_tree_17 : decode cX10_tree 17 = .ok (.sipush 9000, 3) := by decide +kernel
theorem dX10_tree_20 : decode cX10_tree 20 = .ok (.invokestatic 118, 3) := by decide +kernel
theorem dX10_tree_23 : decode cX10_tree 23 = .ok (.ifCond .eq 30, 3) := by decide +kernel
theorem dX10_tree_26 : decode cX10_tree 26 = .ok (.iload_n 3, 1) := by decide +kernel
theorem dX10_tree_27 : decode cX10_tree 27 = .ok (.iconst 1, 1) := by decide +kernel
theorem dX10_tree_28 : decode cX10_tree 28 = .ok (.sipush 500, 3) := by decide +kernel
theorem dX10_tree_31 : decode cX10_tree 31 = .ok (.invokestatic 118, 3) := by decide +kernel
theorem dX10_tree_34 : decode cX10_tree 34 = .ok (.ifCond .eq 19, 3) := by decide +kernel
theorem dX10_tree_37 : decode cX10_tree 37 = .ok (.iload 4, 2) := by decide +kernel
theorem dX10_tree_39 : decode cX10_tree 39 = .ok (.iconst 1, 1) := by decide +kernel
theorem dX10_tree_40 : decode cX10_tree 40 = .ok (.sipush 3000, 3) := by decide +kernel
theorem dX10_tree_43 : decode cX10_tree 43 = .ok (.invokestatic 118, 3) := by decide +kernel
theorem dX10_tree_46 : decode cX10_tree 46 = .ok (.ifCond .eq 7, 3) := by decide +kernel
theorem dX10_tree_49 : decode cX10_tree 49 = .ok (.iconst 1, 1) := by decide +kernel
theorem dX10_tree_50 : decode cX10_tree 50 = .ok (.goto 4, 3) := by decide +kernel
theorem dX10_tree_53 : decode cX10_tree 53 = .ok (.iconst 0, 1) := by decide +kernel
theorem dX10_tree_54 : decode cX10_tree 54 = .ok (.istore 5, 2) := by decide +kernel
theorem dX10_tree_56 : decode cX10_tree 56 = .ok (.iload 5, 2) := by decide +kernel
theorem dX10_tree_58 : decode cX10_tree 58 = .ok (.ifCond .ne 5, 3) := by decide +kernel
theorem dX10_tree_61 : decode cX10_tree 61 = .ok (.iconst (-1), 1) := by decide +kernel
theorem dX10_tree_62 : decode cX10_tree 62 = .ok (.ireturn, 1) := by decide +kernel
theorem dX10_tree_63 : decode cX10_tree 63 = .ok (.aload_n 0, 1) := by decide +kernel
theorem dX10_tree_64 : decode cX10_tree 64 = .ok (.getfield 44, 3) := by decide +kernel
theorem dX10_tree_67 : decode cX10_tree 67 = .ok (.iload_n 1, 1) := by decide +kernel
theorem dX10_tree_68 : decode cX10_tree 68 = .ok (.iload_n 2, 1) := by decide +kernel
theorem dX10_tree_69 : decode cX10_tree 69 = .ok (.iload_n 3, 1) := by decide +kernel
theorem dX10_tree_70 : decode cX10_tree 70 = .ok (.iload 4, 2) := by decide +kernel
theorem dX10_tree_72 : decode cX10_tree 72 = .ok (.invokevirtual 177, 3) := by decide +kernel
theorem dX10_tree_75 : decode cX10_tree 75 = .ok (.ireturn, 1) := by decide +kernel
theorem dX10_ring_0 : decode cX10_ring 0 = .ok (.iload_n 1, 1) := by decide +kernel
theorem dX10_ring_1 : decode cX10_ring 1 = .ok (.iconst 1, 1) := by decide +kernel
theorem dX10_ring_2 : decode cX10_ring 2 = .ok (.sipush 2000, 3) := by decide +kernel
theorem dX10_ring_5 : decode cX10_ring 5 = .ok (.invokestatic 118, 3) := by decide +kernel
theorem dX10_ring_8 : decode cX10_ring 8 = .ok (.ifCond .ne 5, 3) := by decide +kernel
theorem dX10_ring_11 : decode cX10_ring 11 = .ok (.iconst (-1), 1) := by decide +kernel
theorem dX10_ring_12 : decode cX10_ring 12 = .ok (.ireturn, 1) := by decide +kernel
theorem dX10_ring_13 : decode cX10_ring 13 = .ok (.aload_n 0, 1) := by decide +kernel
theorem dX10_ring_14 : decode cX10_ring 14 = .ok (.getfield 44, 3) := by decide +kernel
theorem dX10_ring_17 : decode cX10_ring 17 = .ok (.getfield 181, 3) := by decide +kernel
theorem dX10_ring_20 : decode cX10_ring 20 = .ok (.istore_n 2, 1) := by decide +kernel
theorem dX10_ring_21 : decode cX10_ring 21 = .ok (.aload_n 0, 1) := by decide +kernel
theorem dX10_ring_22 : decode cX10_ring 22 = .ok (.getfield 44, 3) := by decide +kernel
theorem dX10_ring_25 : decode cX10_ring 25 = .ok (.iload_n 1, 1) := by decide +kernel
theorem dX10_ring_26 : decode cX10_ring 26 = .ok (.putfield 181, 3) := by decide +kernel
theorem dX10_ring_29 : decode cX10_ring 29 = .ok (.iload_n 2, 1) := by decide +kernel
theorem dX10_ring_30 : decode cX10_ring 30 = .ok (.ireturn, 1) := by decide +kernel
theorem dX10_table_0 : decode cX10_table 0 = .ok (.iload_n 1, 1) := by decide +kernel
theorem dX10_table_1 : decode cX10_table 1 = .ok (.iconst 0, 1) := by decide +kernel
theorem dX10_table_2 : decode cX10_table 2 = .ok (.iconst 1, 1) := by decide +kernel
theorem dX10_table_3 : decode cX10_table 3 = .ok (.invokestatic 118, 3) := by decide +kernel
theorem dX10_table_6 : decode cX10_table 6 = .ok (.ifCond .eq 10, 3) := by decide +kernel
theorem dX10_table_9 : decode cX10_table 9 = .ok (.iload_n 2, 1) := by decide +kernel
theorem dX10_table_10 : decode cX10_table 10 = .ok (.invokestatic 164, 3) := by decide +kernel
theorem dX10_table_13 : decode cX10_table 13 = .ok (.ifCond .ne 7, 3) := by decide +kernel
theorem dX10_table_16 : decode cX10_table 16 = .ok (.sipush (-10001), 3) := by decide +kernel
theorem dX10_table_19 : decode cX10_table 19 = .ok (.ireturn, 1) := by decide +kernel
theorem dX10_table_20 : decode cX10_table 20 = .ok (.aload_n 0, 1) := by decide +kernel
theorem dX10_table_21 : decode cX10_table 21 = .ok (.getfield 13, 3) := by decide +kernel
theorem dX10_table_24 : decode cX10_table 24 = .ok (.iload_n 1, 1) := by decide +kernel
theorem dX10_table_25 : decode cX10_table 25 = .ok (.ifCond .ne 7, 3) := by decide +kernel
theorem dX10_table_28 : decode cX10_table 28 = .ok (.iload_n 2, 1) := by decide +kernel
theorem dX10_table_29 : decode cX10_table 29 = .ok (.goto 7, 3) := by decide +kernel
theorem dX10_table_32 : decode cX10_table 32 = .ok (.iload_n 2, 1) := by decide +kernel
theorem dX10_table_33 : decode cX10_table 33 = .ok (.bipush 90, 2) := by decide +kernel
theorem dX10_table_35 : decode cX10_table 35 = .ok (.iadd, 1) := by decide +kernel
theorem dX10_table_36 : decode cX10_table 36 = .ok (.iaload, 1) := by decide +kernel
theorem dX10_table_37 : decode cX10_table 37 = .ok (.ireturn, 1) := by decide +kernel
theorem dX10_fly_0 : decode cX10_fly 0 = .ok (.aload_n 0, 1) := by decide +kernel
theorem dX10_fly_1 : decode cX10_fly 1 = .ok (.iload_n 1, 1) := by decide +kernel
theorem dX10_fly_2 : decode cX10_fly 2 = .ok (.iload_n 2, 1) := by decide +kernel
theorem dX10_fly_3 : decode cX10_fly 3 = .ok (.iload_n 3, 1) := by decide +kernel
theorem dX10_fly_4 : decode cX10_fly 4 = .ok (.iload 4, 2) := by decide +kernel
theorem dX10_fly_6 : decode cX10_fly 6 = .ok (.iload 5, 2) := by decide +kernel
theorem dX10_fly_8 : decode cX10_fly 8 = .ok (.iload 6, 2) := by decide +kernel
theorem dX10_fly_10 : decode cX10_fly 10 = .ok (.invokevirtual 184, 3) := by decide +kernel
theorem dX10_fly_13 : decode cX10_fly 13 = .ok (.ifCond .ne 5, 3) := by decide +kernel
theorem dX10_fly_16 : decode cX10_fly 16 = .ok (.iconst (-1), 1) := by decide +kernel
theorem dX10_fly_17 : decode cX10_fly 17 = .ok (.ireturn, 1) := by decide +kernel
theorem dX10_fly_18 : decode cX10_fly 18 = .ok (.aload_n 0, 1) := by decide +kernel
theorem dX10_fly_19 : decode cX10_fly 19 = .ok (.getfield 63, 3) := by decide +kernel
theorem dX10_fly_22 : decode cX10_fly 22 = .ok (.iload_n 1, 1) := by decide +kernel
theorem dX10_fly_23 : decode cX10_fly 23 = .ok (.iload_n 2, 1) := by decide +kernel
theorem dX10_fly_24 : decode cX10_fly 24 = .ok (.iload_n 3, 1) := by decide +kernel
theorem dX10_fly_25 : decode cX10_fly 25 = .ok (.iload 4, 2) := by decide +kernel
theorem dX10_fly_27 : decode cX10_fly 27 = .ok (.iload 5, 2) := by decide +kernel
theorem dX10_fly_29 : decode cX10_fly 29 = .ok (.iload 6, 2) := by decide +kernel
theorem dX10_fly_31 : decode cX10_fly 31 = .ok (.invokevirtual 188, 3) := by decide +kernel
theorem dX10_fly_34 : decode cX10_fly 34 = .ok (.aload_n 0, 1) := by decide +kernel
theorem dX10_fly_35 : decode cX10_fly 35 = .ok (.aload_n 0, 1) := by decide +kernel
theorem dX10_fly_36 : decode cX10_fly 36 = .ok (.getfield 53, 3) := by decide +kernel
theorem dX10_fly_39 : decode cX10_fly 39 = .ok (.aload_n 0, 1) := by decide +kernel
theorem dX10_fly_40 : decode cX10_fly 40 = .ok (.getfield 63, 3) := by decide +kernel
theorem dX10_fly_43 : decode cX10_fly 43 = .ok (.aload_n 0, 1) := by decide +kernel
theorem dX10_fly_44 : decode cX10_fly 44 = .ok (.getfield 19, 3) := by decide +kernel
theorem dX10_fly_47 : decode cX10_fly 47 = .ok (.iload_n 1, 1) := by decide +kernel
theorem dX10_fly_48 : decode cX10_fly 48 = .ok (.aaload, 1) := by decide +kernel
theorem dX10_fly_49 : decode cX10_fly 49 = .ok (.getfield 136, 3) := by decide +kernel
theorem dX10_fly_52 : decode cX10_fly 52 = .ok (.invokevirtual 192, 3) := by decide +kernel
theorem dX10_fly_55 : decode cX10_fly 55 = .ok (.ireturn, 1) := by decide +kernel
theorem dX10_at_0 : decode cX10_at 0 = .ok (.aload_n 0, 1) := by decide +kernel
theorem dX10_at_1 : decode cX10_at 1 = .ok (.iload_n 1, 1) := by decide +kernel
theorem dX10_at_2 : decode cX10_at 2 = .ok (.invokevirtual 196, 3) := by decide +kernel
theorem dX10_at_5 : decode cX10_at 5 = .ok (.ifCond .eq 13, 3) := by decide +kernel
theorem dX10_at_8 : decode cX10_at 8 = .ok (.iload_n 2, 1) := by decide +kernel
theorem dX10_at_9 : decode cX10_at 9 = .ok (.iconst 0, 1) := by decide +kernel
theorem dX10_at_10 : decode cX10_at 10 = .ok (.bipush 7, 2) := by decide +kernel
theorem dX10_at_12 : decode cX10_at 12 = .ok (.invokestatic 118, 3) := by decide +kernel
theorem dX10_at_15 : decode cX10_at 15 = .ok (.ifCond .ne 6, 3) := by decide +kernel
theorem dX10_at_18 : decode cX10_at 18 = .ok (.ldc 199, 2) := by decide +kernel
theorem dX10_at_20 : decode cX10_at 20 = .ok (.ireturn, 1) := by decide +kernel
theorem dX10_at_21 : decode cX10_at 21 = .ok (.aload_n 0, 1) := by decide +kernel
theorem dX10_at_22 : decode cX10_at 22 = .ok (.getfield 53, 3) := by decide +kernel
theorem dX10_at_25 : decode cX10_at 25 = .ok (.iload_n 1, 1) := by decide +kernel
theorem dX10_at_26 : decode cX10_at 26 = .ok (.iload_n 2, 1) := by decide +kernel
theorem dX10_at_27 : decode cX10_at 27 = .ok (.invokevirtual 200, 3) := by decide +kernel
theorem dX10_at_30 : decode cX10_at 30 = .ok (.ireturn, 1) := by decide +kernel
theorem dX10_ticks_0 : decode cX10_ticks 0 = .ok (.aload_n 0, 1) := by decide +kernel
theorem dX10_ticks_1 : decode cX10_ticks 1 = .ok (.getfield 53, 3) := by decide +kernel
theorem dX10_ticks_4 : decode cX10_ticks 4 = .ok (.getfield 204, 3) := by decide +kernel
theorem dX10_ticks_7 : decode cX10_ticks 7 = .ok (.ireturn, 1) := by decide +kernel
theorem dX10_hit_0 : decode cX10_hit 0 = .ok (.aload_n 0, 1) := by decide +kernel
theorem dX10_hit_1 : decode cX10_hit 1 = .ok (.getfield 53, 3) := by decide +kernel
theorem dX10_hit_4 : decode cX10_hit 4 = .ok (.getfield 207, 3) := by decide +kernel
theorem dX10_hit_7 : decode cX10_hit 7 = .ok (.ireturn, 1) := by decide +kernel
theorem dX10_choose_0 : decode cX10_choose 0 = .ok (.iload_n 1, 1) := by decide +kernel
theorem dX10_choose_1 : decode cX10_choose 1 = .ok (.aload_n 0, 1) := by decide +kernel
theorem dX10_choose_2 : decode cX10_choose 2 = .ok (.getfield 23, 3) := by decide +kernel
theorem dX10_choose_5 : decode cX10_choose 5 = .ok (.invokestatic 210, 3) := by decide +kernel
theorem dX10_choose_8 : decode cX10_choose 8 = .ok (.ifCond .eq 14, 3) := by decide +kernel
theorem dX10_choose_11 : decode cX10_choose 11 = .ok (.iload_n 2, 1) := by decide +kernel
theorem dX10_choose_12 : decode cX10_choose 12 = .ok (.aload_n 0, 1) := by decide +kernel
theorem dX10_choose_13 : decode cX10_choose 13 = .ok (.getfield 33, 3) := by decide +kernel
theorem dX10_choose_16 : decode cX10_choose 16 = .ok (.invokestatic 210, 3) := by decide +kernel
theorem dX10_choose_19 : decode cX10_choose 19 = .ok (.ifCond .ne 5, 3) := by decide +kernel
theorem dX10_choose_22 : decode cX10_choose 22 = .ok (.iconst (-1), 1) := by decide +kernel
theorem dX10_choose_23 : decode cX10_choose 23 = .ok (.ireturn, 1) := by decide +kernel
theorem dX10_choose_24 : decode cX10_choose 24 = .ok (.iload_n 1, 1) := by decide +kernel
theorem dX10_choose_25 : decode cX10_choose 25 = .ok (.aload_n 0, 1) := by decide +kernel
theorem dX10_choose_26 : decode cX10_choose 26 = .ok (.invokevirtual 214, 3) := by decide +kernel
theorem dX10_choose_29 : decode cX10_choose 29 = .ok (.iand, 1) := by decide +kernel
theorem dX10_choose_30 : decode cX10_choose 30 = .ok (.istore_n 3, 1) := by decide +kernel
theorem dX10_choose_31 : decode cX10_choose 31 = .ok (.iload_n 3, 1) := by decide +kernel
theorem dX10_choose_32 : decode cX10_choose 32 = .ok (.ifCond .ne 6, 3) := by decide +kernel
theorem dX10_choose_35 : decode cX10_choose 35 = .ok (.bipush (-2), 2) := by decide +kernel
theorem dX10_choose_37 : decode cX10_choose 37 = .ok (.ireturn, 1) := by decide +kernel
theorem dX10_choose_38 : decode cX10_choose 38 = .ok (.iconst (-1), 1) := by decide +kernel
theorem dX10_choose_39 : decode cX10_choose 39 = .ok (.istore 4, 2) := by decide +kernel
theorem dX10_choose_41 : decode cX10_choose 41 = .ok (.iconst 0, 1) := by decide +kernel
theorem dX10_choose_42 : decode cX10_choose 42 = .ok (.istore 5, 2) := by decide +kernel
theorem dX10_choose_44 : decode cX10_choose 44 = .ok (.iload 5, 2) := by decide +kernel
theorem dX10_choose_46 : decode cX10_choose 46 = .ok (.aload_n 0, 1) := by decide +kernel
theorem dX10_choose_47 : decode cX10_choose 47 = .ok (.getfield 23, 3) := by decide +kernel
theorem dX10_choose_50 : decode cX10_choose 50 = .ok (.if_icmp .ge 30, 3) := by decide +kernel
theorem dX10_choose_53 : decode cX10_choose 53 = .ok (.iload_n 3, 1) := by decide +kernel
theorem dX10_choose_54 : decode cX10_choose 54 = .ok (.iload 5, 2) := by decide +kernel
theorem dX10_choose_56 : decode cX10_choose 56 = .ok (.ishr, 1) := by decide +kernel
theorem dX10_choose_57 : decode cX10_choose 57 = .ok (.iconst 1, 1) := by decide +kernel
theorem dX10_choose_58 : decode cX10_choose 58 = .ok (.iand, 1) := by decide +kernel
theorem dX10_choose_59 : decode cX10_choose 59 = .ok (.iconst 1, 1) := by decide +kernel
theorem dX10_choose_60 : decode cX10_choose 60 = .ok (.if_icmp .ne 14, 3) := by decide +kernel
theorem dX10_choose_63 : decode cX10_choose 63 = .ok (.aload_n 0, 1) := by decide +kernel
theorem dX10_choose_64 : decode cX10_choose 64 = .ok (.iload 5, 2) := by decide +kernel
theorem dX10_choose_66 : decode cX10_choose 66 = .ok (.iload_n 2, 1) := by decide +kernel
theorem dX10_choose_67 : decode cX10_choose 67 = .ok (.iload 4, 2) := by decide +kernel
theorem dX10_choose_69 : decode cX10_choose 69 = .ok (.invokevirtual 218, 3) := by decide +kernel
theorem dX10_choose_72 : decode cX10_choose 72 = .ok (.istore 4, 2) := by decide +kernel
theorem dX10_choose_74 : decode cX10_choose 74 = .ok (.iinc 5 1, 3) := by decide +kernel
theorem dX10_choose_77 : decode cX10_choose 77 = .ok (.goto (-33), 3) := by decide +kernel
theorem dX10_choose_80 : decode cX10_choose 80 = .ok (.aload_n 0, 1) := by decide +kernel
theorem dX10_choose_81 : decode cX10_choose 81 = .ok (.iconst 1, 1) := by decide +kernel
theorem dX10_choose_82 : decode cX10_choose 82 = .ok (.putfield 70, 3) := by decide +kernel
theorem dX10_choose_85 : decode cX10_choose 85 = .ok (.iload 4, 2) := by decide +kernel
theorem dX10_choose_87 : decode cX10_choose 87 = .ok (.ireturn, 1) := by decide +kernel
theorem dX10_chosen_0 : decode cX10_chosen 0 = .ok (.aload_n 0, 1) := by decide +kernel
theorem dX10_chosen_1 : decode cX10_chosen 1 = .ok (.getfield 70, 3) := by decide +kernel
theorem dX10_chosen_4 : decode cX10_chosen 4 = .ok (.ifCond .eq 12, 3) := by decide +kernel
theorem dX10_chosen_7 : decode cX10_chosen 7 = .ok (.iload_n 1, 1) := by decide +kernel
theorem dX10_chosen_8 : decode cX10_chosen 8 = .ok (.iconst 0, 1) := by decide +kernel
theorem dX10_chosen_9 : decode cX10_chosen 9 = .ok (.iconst 3, 1) := by decide +kernel
theorem dX10_chosen_10 : decode cX10_chosen 10 = .ok (.invokestatic 118, 3) := by decide +kernel
theorem dX10_chosen_13 : decode cX10_chosen 13 = .ok (.ifCond .ne 5, 3) := by decide +kernel
theorem dX10_chosen_16 : decode cX10_chosen 16 = .ok (.iconst (-1), 1) := by decide +kernel
theorem dX10_chosen_17 : decode cX10_chosen 17 = .ok (.ireturn, 1) := by decide +kernel
theorem dX10_chosen_18 : decode cX10_chosen 18 = .ok (.aload_n 0, 1) := by decide +kernel
theorem dX10_chosen_19 : decode cX10_chosen 19 = .ok (.getfield 67, 3) := by decide +kernel
theorem dX10_chosen_22 : decode cX10_chosen 22 = .ok (.iload_n 1, 1) := by decide +kernel
theorem dX10_chosen_23 : decode cX10_chosen 23 = .ok (.iaload, 1) := by decide +kernel
theorem dX10_chosen_24 : decode cX10_chosen 24 = .ok (.ireturn, 1) := by decide +kernel
theorem dX10_keep_0 : decode cX10_keep 0 = .ok (.iload_n 1, 1) := by decide +kernel
theorem dX10_keep_1 : decode cX10_keep 1 = .ok (.iconst 0, 1) := by decide +kernel
theorem dX10_keep_2 : decode cX10_keep 2 = .ok (.iconst 1, 1) := by decide +kernel
theorem dX10_keep_3 : decode cX10_keep 3 = .ok (.invokestatic 118, 3) := by decide +kernel
theorem dX10_keep_6 : decode cX10_keep 6 = .ok (.ifCond .eq 20, 3) := by decide +kernel
theorem dX10_keep_9 : decode cX10_keep 9 = .ok (.aload_n 0, 1) := by decide +kernel
theorem dX10_keep_10 : decode cX10_keep 10 = .ok (.iload_n 2, 1) := by decide +kernel
theorem dX10_keep_11 : decode cX10_keep 11 = .ok (.iload_n 3, 1) := by decide +kernel
theorem dX10_keep_12 : decode cX10_keep 12 = .ok (.iload 4, 2) := by decide +kernel
theorem dX10_keep_14 : decode cX10_keep 14 = .ok (.iload 5, 2) := by decide +kernel
theorem dX10_keep_16 : decode cX10_keep 16 = .ok (.iload 6, 2) := by decide +kernel
theorem dX10_keep_18 : decode cX10_keep 18 = .ok (.iload 7, 2) := by decide +kernel
theorem dX10_keep_20 : decode cX10_keep 20 = .ok (.invokevirtual 184, 3) := by decide +kernel
theorem dX10_keep_23 : decode cX10_keep 23 = .ok (.ifCond .ne 5, 3) := by decide +kernel
theorem dX10_keep_26 : decode cX10_keep 26 = .ok (.iconst (-1), 1) := by decide +kernel
theorem dX10_keep_27 : decode cX10_keep 27 = .ok (.ireturn, 1) := by decide +kernel
theorem dX10_keep_28 : decode cX10_keep 28 = .ok (.aload_n 0, 1) := by decide +kernel
theorem dX10_keep_29 : decode cX10_keep 29 = .ok (.getfield 74, 3) := by decide +kernel
theorem dX10_keep_32 : decode cX10_keep 32 = .ok (.iload_n 1, 1) := by decide +kernel
theorem dX10_keep_33 : decode cX10_keep 33 = .ok (.aaload, 1) := by decide +kernel
theorem dX10_keep_34 : decode cX10_keep 34 = .ok (.iload_n 2, 1) := by decide +kernel
theorem dX10_keep_35 : decode cX10_keep 35 = .ok (.iload_n 3, 1) := by decide +kernel
theorem dX10_keep_36 : decode cX10_keep 36 = .ok (.iload 4, 2) := by decide +kernel
theorem dX10_keep_38 : decode cX10_keep 38 = .ok (.iload 5, 2) := by decide +kernel
theorem dX10_keep_40 : decode cX10_keep 40 = .ok (.iload 6, 2) := by decide +kernel
theorem dX10_keep_42 : decode cX10_keep 42 = .ok (.iload 7, 2) := by decide +kernel
theorem dX10_keep_44 : decode cX10_keep 44 = .ok (.invokevirtual 188, 3) := by decide +kernel
theorem dX10_keep_47 : decode cX10_keep 47 = .ok (.aload_n 0, 1) := by decide +kernel
theorem dX10_keep_48 : decode cX10_keep 48 = .ok (.getfield 78, 3) := by decide +kernel
theorem dX10_keep_51 : decode cX10_keep 51 = .ok (.iload_n 1, 1) := by decide +kernel
theorem dX10_keep_52 : decode cX10_keep 52 = .ok (.iconst 1, 1) := by decide +kernel
theorem dX10_keep_53 : decode cX10_keep 53 = .ok (.bastore, 1) := by decide +kernel
theorem dX10_keep_54 : decode cX10_keep 54 = .ok (.iconst 1, 1) := by decide +kernel
theorem dX10_keep_55 : decode cX10_keep 55 = .ok (.ireturn, 1) := by decide +kernel
theorem dX10_two_0 : decode cX10_two 0 = .ok (.iload_n 1, 1) := by decide +kernel
theorem dX10_two_1 : decode cX10_two 1 = .ok (.iconst 1, 1) := by decide +kernel
theorem dX10_two_2 : decode cX10_two 2 = .ok (.bipush 100, 2) := by decide +kernel
theorem dX10_two_4 : decode cX10_two 4 = .ok (.invokestatic 118, 3) := by decide +kernel
theorem dX10_two_7 : decode cX10_two 7 = .ok (.ifCond .ne 5, 3) := by decide +kernel
theorem dX10_two_10 : decode cX10_two 10 = .ok (.iconst (-1), 1) := by decide +kernel
theorem dX10_two_11 : decode cX10_two 11 = .ok (.ireturn, 1) := by decide +kernel
theorem dX10_two_12 : decode cX10_two 12 = .ok (.aload_n 0, 1) := by decide +kernel
theorem dX10_two_13 : decode cX10_two 13 = .ok (.getfield 78, 3) := by decide +kernel
theorem dX10_two_16 : decode cX10_two 16 = .ok (.iconst 0, 1) := by decide +kernel
theorem dX10_two_17 : decode cX10_two 17 = .ok (.baload, 1) := by decide +kernel
theorem dX10_two_18 : decode cX10_two 18 = .ok (.ifCond .eq 33, 3) := by decide +kernel
theorem dX10_two_21 : decode cX10_two 21 = .ok (.aload_n 0, 1) := by decide +kernel
theorem dX10_two_22 : decode cX10_two 22 = .ok (.getfield 78, 3) := by decide +kernel
theorem dX10_two_25 : decode cX10_two 25 = .ok (.iconst 1, 1) := by decide +kernel
theorem dX10_two_26 : decode cX10_two 26 = .ok (.baload, 1) := by decide +kernel
theorem dX10_two_27 : decode cX10_two 27 = .ok (.ifCond .eq 24, 3) := by decide +kernel
theorem dX10_two_30 : decode cX10_two 30 = .ok (.aload_n 0, 1) := by decide +kernel
theorem dX10_two_31 : decode cX10_two 31 = .ok (.getfield 74, 3) := by decide +kernel
theorem dX10_two_34 : decode cX10_two 34 = .ok (.iconst 0, 1) := by decide +kernel
theorem dX10_two_35 : decode cX10_two 35 = .ok (.aaload, 1) := by decide +kernel
theorem dX10_two_36 : decode cX10_two 36 = .ok (.getfield 222, 3) := by decide +kernel
theorem dX10_two_39 : decode cX10_two 39 = .ok (.aload_n 0, 1) := by decide +kernel
theorem dX10_two_40 : decode cX10_two 40 = .ok (.getfield 74, 3) := by decide +kernel
theorem dX10_two_43 : decode cX10_two 43 = .ok (.iconst 1, 1) := by decide +kernel
theorem dX10_two_44 : decode cX10_two 44 = .ok (.aaload, 1) := by decide +kernel
theorem dX10_two_45 : decode cX10_two 45 = .ok (.getfield 222, 3) := by decide +kernel
theorem dX10_two_48 : decode cX10_two 48 = .ok (.if_icmp .ne 6, 3) := by decide +kernel
theorem dX10_two_51 : decode cX10_two 51 = .ok (.bipush (-2), 2) := by decide +kernel
theorem dX10_two_53 : decode cX10_two 53 = .ok (.ireturn, 1) := by decide +kernel
theorem dX10_two_54 : decode cX10_two 54 = .ok (.aload_n 0, 1) := by decide +kernel
theorem dX10_two_55 : decode cX10_two 55 = .ok (.aload_n 0, 1) := by decide +kernel
theorem dX10_two_56 : decode cX10_two 56 = .ok (.getfield 74, 3) := by decide +kernel
theorem dX10_two_59 : decode cX10_two 59 = .ok (.iconst 0, 1) := by decide +kernel
theorem dX10_two_60 : decode cX10_two 60 = .ok (.aaload, 1) := by decide +kernel
theorem dX10_two_61 : decode cX10_two 61 = .ok (.invokevirtual 225, 3) := by decide +kernel
theorem dX10_two_64 : decode cX10_two 64 = .ok (.ifCond .ne 6, 3) := by decide +kernel
theorem dX10_two_67 : decode cX10_two 67 = .ok (.bipush (-4), 2) := by decide +kernel
theorem dX10_two_69 : decode cX10_two 69 = .ok (.ireturn, 1) := by decide +kernel
theorem dX10_two_70 : decode cX10_two 70 = .ok (.aload_n 0, 1) := by decide +kernel
theorem dX10_two_71 : decode cX10_two 71 = .ok (.getfield 57, 3) := by decide +kernel
theorem dX10_two_74 : decode cX10_two 74 = .ok (.getfield 204, 3) := by decide +kernel
theorem dX10_two_77 : decode cX10_two 77 = .ok (.istore_n 2, 1) := by decide +kernel
theorem dX10_two_78 : decode cX10_two 78 = .ok (.aload_n 0, 1) := by decide +kernel
theorem dX10_two_79 : decode cX10_two 79 = .ok (.aload_n 0, 1) := by decide +kernel
theorem dX10_two_80 : decode cX10_two 80 = .ok (.getfield 74, 3) := by decide +kernel
theorem dX10_two_83 : decode cX10_two 83 = .ok (.iconst 1, 1) := by decide +kernel
theorem dX10_two_84 : decode cX10_two 84 = .ok (.aaload, 1) := by decide +kernel
theorem dX10_two_85 : decode cX10_two 85 = .ok (.invokevirtual 225, 3) := by decide +kernel
theorem dX10_two_88 : decode cX10_two 88 = .ok (.ifCond .ne 6, 3) := by decide +kernel
theorem dX10_two_91 : decode cX10_two 91 = .ok (.bipush (-4), 2) := by decide +kernel
theorem dX10_two_93 : decode cX10_two 93 = .ok (.ireturn, 1) := by decide +kernel
theorem dX10_two_94 : decode cX10_two 94 = .ok (.aload_n 0, 1) := by decide +kernel
theorem dX10_two_95 : decode cX10_two 95 = .ok (.getfield 57, 3) := by decide +kernel
theorem dX10_two_98 : decode cX10_two 98 = .ok (.getfield 204, 3) := by decide +kernel
theorem dX10_two_101 : decode cX10_two 101 = .ok (.iload_n 2, 1) := by decide +kernel
theorem dX10_two_102 : decode cX10_two 102 = .ok (.isub, 1) := by decide +kernel
theorem dX10_two_103 : decode cX10_two 103 = .ok (.istore_n 3, 1) := by decide +kernel
theorem dX10_two_104 : decode cX10_two 104 = .ok (.iconst 1, 1) := by decide +kernel
theorem dX10_two_105 : decode cX10_two 105 = .ok (.istore 4, 2) := by decide +kernel
theorem dX10_two_107 : decode cX10_two 107 = .ok (.iload 4, 2) := by decide +kernel
theorem dX10_two_109 : decode cX10_two 109 = .ok (.sipush 200, 3) := by decide +kernel
theorem dX10_two_112 : decode cX10_two 112 = .ok (.if_icmp .gt 23, 3) := by decide +kernel
theorem dX10_two_115 : decode cX10_two 115 = .ok (.iload 4, 2) := by decide +kernel
theorem dX10_two_117 : decode cX10_two 117 = .ok (.iload_n 3, 1) := by decide +kernel
theorem dX10_two_118 : decode cX10_two 118 = .ok (.iadd, 1) := by decide +kernel
theorem dX10_two_119 : decode cX10_two 119 = .ok (.invokestatic 229, 3) := by decide +kernel
theorem dX10_two_122 : decode cX10_two 122 = .ok (.iload_n 1, 1) := by decide +kernel
theorem dX10_two_123 : decode cX10_two 123 = .ok (.if_icmp .lt 6, 3) := by decide +kernel
theorem dX10_two_126 : decode cX10_two 126 = .ok (.iload 4, 2) := by decide +kernel
theorem dX10_two_128 : decode cX10_two 128 = .ok (.ireturn, 1) := by decide +kernel
theorem dX10_two_129 : decode cX10_two 129 = .ok (.iinc 4 1, 3) := by decide +kernel
theorem dX10_two_132 : decode cX10_two 132 = .ok (.goto (-25), 3) := by decide +kernel
theorem dX10_two_135 : decode cX10_two 135 = .ok (.bipush (-4), 2) := by decide +kernel
theorem dX10_two_137 : decode cX10_two 137 = .ok (.ireturn, 1) := by decide +kernel
theorem dX10_match_0 : decode cX10_match 0 = .ok (.iload_n 1, 1) := by decide +kernel
theorem dX10_match_1 : decode cX10_match 1 = .ok (.iconst 0, 1) := by decide +kernel
theorem dX10_match_2 : decode cX10_match 2 = .ok (.iconst 4, 1) := by decide +kernel
theorem dX10_match_3 : decode cX10_match 3 = .ok (.invokestatic 118, 3) := by decide +kernel
theorem dX10_match_6 : decode cX10_match 6 = .ok (.ifCond .eq 17, 3) := by decide +kernel
theorem dX10_match_9 : decode cX10_match 9 = .ok (.iload_n 2, 1) := by decide +kernel
theorem dX10_match_10 : decode cX10_match 10 = .ok (.bipush (-2), 2) := by decide +kernel
theorem dX10_match_12 : decode cX10_match 12 = .ok (.if_icmp .eq 14, 3) := by decide +kernel
theorem dX10_match_15 : decode cX10_match 15 = .ok (.aload_n 0, 1) := by decide +kernel
theorem dX10_match_16 : decode cX10_match 16 = .ok (.iload_n 2, 1) := by decide +kernel
theorem dX10_match_17 : decode cX10_match 17 = .ok (.invokevirtual 235, 3) := by decide +kernel
theorem dX10_match_20 : decode cX10_match 20 = .ok (.ifCond .ne 6, 3) := by decide +kernel
theorem dX10_match_23 : decode cX10_match 23 = .ok (.bipush (-11), 2) := by decide +kernel
theorem dX10_match_25 : decode cX10_match 25 = .ok (.ireturn, 1) := by decide +kernel
theorem dX10_match_26 : decode cX10_match 26 = .ok (.aload_n 0, 1) := by decide +kernel
theorem dX10_match_27 : decode cX10_match 27 = .ok (.getfield 85, 3) := by decide +kernel
theorem dX10_match_30 : decode cX10_match 30 = .ok (.getfield 238, 3) := by decide +kernel
theorem dX10_match_33 : decode cX10_match 33 = .ok (.iload_n 1, 1) := by decide +kernel
theorem dX10_match_34 : decode cX10_match 34 = .ok (.iaload, 1) := by decide +kernel
theorem dX10_match_35 : decode cX10_match 35 = .ok (.istore_n 3, 1) := by decide +kernel
theorem dX10_match_36 : decode cX10_match 36 = .ok (.aload_n 0, 1) := by decide +kernel
theorem dX10_match_37 : decode cX10_match 37 = .ok (.getfield 85, 3) := by decide +kernel
theorem dX10_match_40 : decode cX10_match 40 = .ok (.getfield 238, 3) := by decide +kernel
theorem dX10_match_43 : decode cX10_match 43 = .ok (.iload_n 1, 1) := by decide +kernel
theorem dX10_match_44 : decode cX10_match 44 = .ok (.iload_n 2, 1) := by decide +kernel
theorem dX10_match_45 : decode cX10_match 45 = .ok (.iastore, 1) := by decide +kernel
theorem dX10_match_46 : decode cX10_match 46 = .ok (.iload_n 3, 1) := by decide +kernel
theorem dX10_match_47 : decode cX10_match 47 = .ok (.ireturn, 1) := by decide +kernel
theorem dX10_style_0 : decode cX10_style 0 = .ok (.iload_n 1, 1) := by decide +kernel
theorem dX10_style_1 : decode cX10_style 1 = .ok (.iload_n 2, 1) := by decide +kernel
theorem dX10_style_2 : decode cX10_style 2 = .ok (.iload_n 3, 1) := by decide +kernel
theorem dX10_style_3 : decode cX10_style 3 = .ok (.iload 4, 2) := by decide +kernel
theorem dX10_style_5 : decode cX10_style 5 = .ok (.invokestatic 241, 3) := by decide +kernel
theorem dX10_style_8 : decode cX10_style 8 = .ok (.ifCond .ne 5, 3) := by decide +kernel
theorem dX10_style_11 : decode cX10_style 11 = .ok (.iconst (-1), 1) := by decide +kernel
theorem dX10_style_12 : decode cX10_style 12 = .ok (.ireturn, 1) := by decide +kernel
theorem dX10_style_13 : decode cX10_style 13 = .ok (.aload_n 0, 1) := by decide +kernel
theorem dX10_style_14 : decode cX10_style 14 = .ok (.getfield 85, 3) := by decide +kernel
theorem dX10_style_17 : decode cX10_style 17 = .ok (.getfield 245, 3) := by decide +kernel
theorem dX10_style_20 : decode cX10_style 20 = .ok (.iconst 0, 1) := by decide +kernel
theorem dX10_style_21 : decode cX10_style 21 = .ok (.iload_n 1, 1) := by decide +kernel
theorem dX10_style_22 : decode cX10_style 22 = .ok (.iload_n 2, 1) := by decide +kernel
theorem dX10_style_23 : decode cX10_style 23 = .ok (.iload_n 3, 1) := by decide +kernel
theorem dX10_style_24 : decode cX10_style 24 = .ok (.iload 4, 2) := by decide +kernel
theorem dX10_style_26 : decode cX10_style 26 = .ok (.iconst (-1), 1) := by decide +kernel
theorem dX10_style_27 : decode cX10_style 27 = .ok (.invokevirtual 188, 3) := by decide +kernel
theorem dX10_style_30 : decode cX10_style 30 = .ok (.iconst 1, 1) := by decide +kernel
theorem dX10_style_31 : decode cX10_style 31 = .ok (.ireturn, 1) := by decide +kernel
theorem dX10_points_0 : decode cX10_points 0 = .ok (.aload_n 0, 1) := by decide +kernel
theorem dX10_points_1 : decode cX10_points 1 = .ok (.iload_n 1, 1) := by decide +kernel
theorem dX10_points_2 : decode cX10_points 2 = .ok (.invokevirtual 126, 3) := by decide +kernel
theorem dX10_points_5 : decode cX10_points 5 = .ok (.ifCond .eq 11, 3) := by decide +kernel
theorem dX10_points_8 : decode cX10_points 8 = .ok (.aload_n 0, 1) := by decide +kernel
theorem dX10_points_9 : decode cX10_points 9 = .ok (.iload_n 2, 1) := by decide +kernel
theorem dX10_points_10 : decode cX10_points 10 = .ok (.invokevirtual 235, 3) := by decide +kernel
theorem dX10_points_13 : decode cX10_points 13 = .ok (.ifCond .ne 5, 3) := by decide +kernel
theorem dX10_points_16 : decode cX10_points 16 = .ok (.iconst (-1), 1) := by decide +kernel
theorem dX10_points_17 : decode cX10_points 17 = .ok (.ireturn, 1) := by decide +kernel
theorem dX10_points_18 : decode cX10_points 18 = .ok (.aload_n 0, 1) := by decide +kernel
theorem dX10_points_19 : decode cX10_points 19 = .ok (.iload_n 1, 1) := by decide +kernel
theorem dX10_points_20 : decode cX10_points 20 = .ok (.iload_n 2, 1) := by decide +kernel
theorem dX10_points_21 : decode cX10_points 21 = .ok (.invokevirtual 248, 3) := by decide +kernel
theorem dX10_points_24 : decode cX10_points 24 = .ok (.ireturn, 1) := by decide +kernel
theorem dX10_best_0 : decode cX10_best 0 = .ok (.aload_n 0, 1) := by decide +kernel
theorem dX10_best_1 : decode cX10_best 1 = .ok (.getfield 85, 3) := by decide +kernel
theorem dX10_best_4 : decode cX10_best 4 = .ok (.invokevirtual 251, 3) := by decide +kernel
theorem dX10_best_7 : decode cX10_best 7 = .ok (.istore_n 1, 1) := by decide +kernel
theorem dX10_best_8 : decode cX10_best 8 = .ok (.iload_n 1, 1) := by decide +kernel
theorem dX10_best_9 : decode cX10_best 9 = .ok (.ifCond .ne 6, 3) := by decide +kernel
theorem dX10_best_12 : decode cX10_best 12 = .ok (.bipush (-2), 2) := by decide +kernel
theorem dX10_best_14 : decode cX10_best 14 = .ok (.ireturn, 1) := by decide +kernel
theorem dX10_best_15 : decode cX10_best 15 = .ok (.iload_n 1, 1) := by decide +kernel
theorem dX10_best_16 : decode cX10_best 16 = .ok (.aload_n 0, 1) := by decide +kernel
theorem dX10_best_17 : decode cX10_best 17 = .ok (.invokevirtual 214, 3) := by decide +kernel
theorem dX10_best_20 : decode cX10_best 20 = .ok (.invokestatic 254, 3) := by decide +kernel
theorem dX10_best_23 : decode cX10_best 23 = .ok (.if_icmp .le 6, 3) := by decide +kernel
theorem dX10_best_26 : decode cX10_best 26 = .ok (.bipush (-4), 2) := by decide +kernel
theorem dX10_best_28 : decode cX10_best 28 = .ok (.ireturn, 1) := by decide +kernel
theorem dX10_best_29 : decode cX10_best 29 = .ok (.aload_n 0, 1) := by decide +kernel
theorem dX10_best_30 : decode cX10_best 30 = .ok (.invokevirtual 259, 3) := by decide +kernel
theorem dX10_best_33 : decode cX10_best 33 = .ok (.aload_n 0, 1) := by decide +kernel
theorem dX10_best_34 : decode cX10_best 34 = .ok (.getfield 85, 3) := by decide +kernel
theorem dX10_best_37 : decode cX10_best 37 = .ok (.getfield 262, 3) := by decide +kernel
theorem dX10_best_40 : decode cX10_best 40 = .ok (.ireturn, 1) := by decide +kernel
theorem dX10_order_0 : decode cX10_order 0 = .ok (.iload_n 1, 1) := by decide +kernel
theorem dX10_order_1 : decode cX10_order 1 = .ok (.iconst 0, 1) := by decide +kernel
theorem dX10_order_2 : decode cX10_order 2 = .ok (.iconst 4, 1) := by decide +kernel
theorem dX10_order_3 : decode cX10_order 3 = .ok (.invokestatic 118, 3) := by decide +kernel
theorem dX10_order_6 : decode cX10_order 6 = .ok (.ifCond .eq 17, 3) := by decide +kernel
theorem dX10_order_9 : decode cX10_order 9 = .ok (.aload_n 0, 1) := by decide +kernel
theorem dX10_order_10 : decode cX10_order 10 = .ok (.getfield 85, 3) := by decide +kernel
theorem dX10_order_13 : decode cX10_order 13 = .ok (.getfield 238, 3) := by decide +kernel
theorem dX10_order_16 : decode cX10_order 16 = .ok (.iload_n 1, 1) := by decide +kernel
theorem dX10_order_17 : decode cX10_order 17 = .ok (.iaload, 1) := by decide +kernel
theorem dX10_order_18 : decode cX10_order 18 = .ok (.bipush (-2), 2) := by decide +kernel
theorem dX10_order_20 : decode cX10_order 20 = .ok (.if_icmp .ne 5, 3) := by decide +kernel
theorem dX10_order_23 : decode cX10_order 23 = .ok (.iconst (-1), 1) := by decide +kernel
theorem dX10_order_24 : decode cX10_order 24 = .ok (.ireturn, 1) := by decide +kernel
theorem dX10_order_25 : decode cX10_order 25 = .ok (.aload_n 0, 1) := by decide +kernel
theorem dX10_order_26 : decode cX10_order 26 = .ok (.getfield 85, 3) := by decide +kernel
theorem dX10_order_29 : decode cX10_order 29 = .ok (.invokevirtual 251, 3) := by decide +kernel
theorem dX10_order_32 : decode cX10_order 32 = .ok (.aload_n 0, 1) := by decide +kernel
theorem dX10_order_33 : decode cX10_order 33 = .ok (.invokevirtual 214, 3) := by decide +kernel
theorem dX10_order_36 : decode cX10_order 36 = .ok (.invokestatic 254, 3) := by decide +kernel
theorem dX10_order_39 : decode cX10_order 39 = .ok (.if_icmp .le 6, 3) := by decide +kernel
theorem dX10_order_42 : decode cX10_order 42 = .ok (.bipush (-4), 2) := by decide +kernel
theorem dX10_order_44 : decode cX10_order 44 = .ok (.ireturn, 1) := by decide +kernel
theorem dX10_order_45 : decode cX10_order 45 = .ok (.aload_n 0, 1) := by decide +kernel
theorem dX10_order_46 : decode cX10_order 46 = .ok (.invokevirtual 259, 3) := by decide +kernel
theorem dX10_order_49 : decode cX10_order 49 = .ok (.aload_n 0, 1) := by decide +kernel
theorem dX10_order_50 : decode cX10_order 50 = .ok (.getfield 85, 3) := by decide +kernel
theorem dX10_order_53 : decode cX10_order 53 = .ok (.getfield 265, 3) := by decide +kernel
theorem dX10_order_56 : decode cX10_order 56 = .ok (.iload_n 1, 1) := by decide +kernel
theorem dX10_order_57 : decode cX10_order 57 = .ok (.iaload, 1) := by decide +kernel
theorem dX10_order_58 : decode cX10_order 58 = .ok (.ireturn, 1) := by decide +kernel
theorem dX10_row_0 : decode cX10_row 0 = .ok (.aload_n 0, 1) := by decide +kernel
theorem dX10_row_1 : decode cX10_row 1 = .ok (.iload_n 1, 1) := by decide +kernel
theorem dX10_row_2 : decode cX10_row 2 = .ok (.iload_n 2, 1) := by decide +kernel
theorem dX10_row_3 : decode cX10_row 3 = .ok (.iload_n 3, 1) := by decide +kernel
theorem dX10_row_4 : decode cX10_row 4 = .ok (.iload 4, 2) := by decide +kernel
theorem dX10_row_6 : decode cX10_row 6 = .ok (.iload 5, 2) := by decide +kernel
theorem dX10_row_8 : decode cX10_row 8 = .ok (.iload 6, 2) := by decide +kernel
theorem dX10_row_10 : decode cX10_row 10 = .ok (.iload 7, 2) := by decide +kernel
theorem dX10_row_12 : decode cX10_row 12 = .ok (.invokevirtual 268, 3) := by decide +kernel
theorem dX10_row_15 : decode cX10_row 15 = .ok (.ifCond .ne 5, 3) := by decide +kernel
theorem dX10_row_18 : decode cX10_row 18 = .ok (.iconst (-1), 1) := by decide +kernel
theorem dX10_row_19 : decode cX10_row 19 = .ok (.ireturn, 1) := by decide +kernel
theorem dX10_row_20 : decode cX10_row 20 = .ok (.aload_n 0, 1) := by decide +kernel
theorem dX10_row_21 : decode cX10_row 21 = .ok (.getfield 95, 3) := by decide +kernel
theorem dX10_row_24 : decode cX10_row 24 = .ok (.bipush 30, 2) := by decide +kernel
theorem dX10_row_26 : decode cX10_row 26 = .ok (.if_icmp .lt 6, 3) := by decide +kernel
theorem dX10_row_29 : decode cX10_row 29 = .ok (.bipush (-3), 2) := by decide +kernel
theorem dX10_row_31 : decode cX10_row 31 = .ok (.ireturn, 1) := by decide +kernel
theorem dX10_row_32 : decode cX10_row 32 = .ok (.aload_n 0, 1) := by decide +kernel
theorem dX10_row_33 : decode cX10_row 33 = .ok (.iload_n 1, 1) := by decide +kernel
theorem dX10_row_34 : decode cX10_row 34 = .ok (.iload_n 2, 1) := by decide +kernel
theorem dX10_row_35 : decode cX10_row 35 = .ok (.iload_n 3, 1) := by decide +kernel
theorem dX10_row_36 : decode cX10_row 36 = .ok (.iload 4, 2) := by decide +kernel
theorem dX10_row_38 : decode cX10_row 38 = .ok (.iload 5, 2) := by decide +kernel
theorem dX10_row_40 : decode cX10_row 40 = .ok (.iload 6, 2) := by decide +kernel
theorem dX10_row_42 : decode cX10_row 42 = .ok (.iload 7, 2) := by decide +kernel
theorem dX10_row_44 : decode cX10_row 44 = .ok (.invokevirtual 272, 3) := by decide +kernel
theorem dX10_row_47 : decode cX10_row 47 = .ok (.aload_n 0, 1) := by decide +kernel
theorem dX10_row_48 : decode cX10_row 48 = .ok (.getfield 95, 3) := by decide +kernel
theorem dX10_row_51 : decode cX10_row 51 = .ok (.iconst 1, 1) := by decide +kernel
theorem dX10_row_52 : decode cX10_row 52 = .ok (.isub, 1) := by decide +kernel
theorem dX10_row_53 : decode cX10_row 53 = .ok (.ireturn, 1) := by decide +kernel
theorem dX10_miss_0 : decode cX10_miss 0 = .ok (.iload_n 1, 1) := by decide +kernel
theorem dX10_miss_1 : decode cX10_miss 1 = .ok (.iconst 0, 1) := by decide +kernel
theorem dX10_miss_2 : decode cX10_miss 2 = .ok (.aload_n 0, 1) := by decide +kernel
theorem dX10_miss_3 : decode cX10_miss 3 = .ok (.getfield 95, 3) := by decide +kernel
theorem dX10_miss_6 : decode cX10_miss 6 = .ok (.iconst 1, 1) := by decide +kernel
theorem dX10_miss_7 : decode cX10_miss 7 = .ok (.isub, 1) := by decide +kernel
theorem dX10_miss_8 : decode cX10_miss 8 = .ok (.invokestatic 118, 3) := by decide +kernel
theorem dX10_miss_11 : decode cX10_miss 11 = .ok (.ifCond .eq 10, 3) := by decide +kernel
theorem dX10_miss_14 : decode cX10_miss 14 = .ok (.iload_n 2, 1) := by decide +kernel
theorem dX10_miss_15 : decode cX10_miss 15 = .ok (.invokestatic 133, 3) := by decide +kernel
theorem dX10_miss_18 : decode cX10_miss 18 = .ok (.ifCond .ne 5, 3) := by decide +kernel
theorem dX10_miss_21 : decode cX10_miss 21 = .ok (.iconst (-1), 1) := by decide +kernel
theorem dX10_miss_22 : decode cX10_miss 22 = .ok (.ireturn, 1) := by decide +kernel
theorem dX10_miss_23 : decode cX10_miss 23 = .ok (.aload_n 0, 1) := by decide +kernel
theorem dX10_miss_24 : decode cX10_miss 24 = .ok (.aload_n 0, 1) := by decide +kernel
theorem dX10_miss_25 : decode cX10_miss 25 = .ok (.getfield 91, 3) := by decide +kernel
theorem dX10_miss_28 : decode cX10_miss 28 = .ok (.iload_n 1, 1) := by decide +kernel
theorem dX10_miss_29 : decode cX10_miss 29 = .ok (.aaload, 1) := by decide +kernel
theorem dX10_miss_30 : decode cX10_miss 30 = .ok (.iload_n 2, 1) := by decide +kernel
theorem dX10_miss_31 : decode cX10_miss 31 = .ok (.invokevirtual 276, 3) := by decide +kernel
theorem dX10_miss_34 : decode cX10_miss 34 = .ok (.ireturn, 1) := by decide +kernel
theorem dX10_explain_0 : decode cX10_explain 0 = .ok (.aload_n 0, 1) := by decide +kernel
theorem dX10_explain_1 : decode cX10_explain 1 = .ok (.iload_n 1, 1) := by decide +kernel
theorem dX10_explain_2 : decode cX10_explain 2 = .ok (.invokevirtual 126, 3) := by decide +kernel
theorem dX10_explain_5 : decode cX10_explain 5 = .ok (.ifCond .ne 6, 3) := by decide +kernel
theorem dX10_explain_8 : decode cX10_explain 8 = .ok (.bipush (-11), 2) := by decide +kernel
theorem dX10_explain_10 : decode cX10_explain 10 = .ok (.ireturn, 1) := by decide +kernel
theorem dX10_explain_11 : decode cX10_explain 11 = .ok (.aload_n 0, 1) := by decide +kernel
theorem dX10_explain_12 : decode cX10_explain 12 = .ok (.iload_n 1, 1) := by decide +kernel
theorem dX10_explain_13 : decode cX10_explain 13 = .ok (.invokevirtual 280, 3) := by decide +kernel
theorem dX10_explain_16 : decode cX10_explain 16 = .ok (.ifCond .ne 6, 3) := by decide +kernel
theorem dX10_explain_19 : decode cX10_explain 19 = .ok (.bipush (-14), 2) := by decide +kernel
theorem dX10_explain_21 : decode cX10_explain 21 = .ok (.ireturn, 1) := by decide +kernel
theorem dX10_explain_22 : decode cX10_explain 22 = .ok (.aload_n 0, 1) := by decide +kernel
theorem dX10_explain_23 : decode cX10_explain 23 = .ok (.iload_n 1, 1) := by decide +kernel
theorem dX10_explain_24 : decode cX10_explain 24 = .ok (.invokevirtual 283, 3) := by decide +kernel
theorem dX10_explain_27 : decode cX10_explain 27 = .ok (.ireturn, 1) := by decide +kernel
theorem dX10_sure_0 : decode cX10_sure 0 = .ok (.aload_n 0, 1) := by decide +kernel
theorem dX10_sure_1 : decode cX10_sure 1 = .ok (.iload_n 1, 1) := by decide +kernel
theorem dX10_sure_2 : decode cX10_sure 2 = .ok (.invokevirtual 126, 3) := by decide +kernel
theorem dX10_sure_5 : decode cX10_sure 5 = .ok (.ifCond .ne 5, 3) := by decide +kernel
theorem dX10_sure_8 : decode cX10_sure 8 = .ok (.iconst (-1), 1) := by decide +kernel
theorem dX10_sure_9 : decode cX10_sure 9 = .ok (.ireturn, 1) := by decide +kernel
theorem dX10_sure_10 : decode cX10_sure 10 = .ok (.aload_n 0, 1) := by decide +kernel
theorem dX10_sure_11 : decode cX10_sure 11 = .ok (.iload_n 1, 1) := by decide +kernel
theorem dX10_sure_12 : decode cX10_sure 12 = .ok (.invokevirtual 280, 3) := by decide +kernel
theorem dX10_sure_15 : decode cX10_sure 15 = .ok (.istore_n 2, 1) := by decide +kernel
theorem dX10_sure_16 : decode cX10_sure 16 = .ok (.iload_n 2, 1) := by decide +kernel
theorem dX10_sure_17 : decode cX10_sure 17 = .ok (.ifCond .ne 6, 3) := by decide +kernel
theorem dX10_sure_20 : decode cX10_sure 20 = .ok (.bipush (-4), 2) := by decide +kernel
theorem dX10_sure_22 : decode cX10_sure 22 = .ok (.ireturn, 1) := by decide +kernel
theorem dX10_sure_23 : decode cX10_sure 23 = .ok (.iload_n 2, 1) := by decide +kernel
theorem dX10_sure_24 : decode cX10_sure 24 = .ok (.iconst 3, 1) := by decide +kernel
theorem dX10_sure_25 : decode cX10_sure 25 = .ok (.if_icmp .ge 5, 3) := by decide +kernel
theorem dX10_sure_28 : decode cX10_sure 28 = .ok (.iconst 0, 1) := by decide +kernel
theorem dX10_sure_29 : decode cX10_sure 29 = .ok (.ireturn, 1) := by decide +kernel
theorem dX10_sure_30 : decode cX10_sure 30 = .ok (.aload_n 0, 1) := by decide +kernel
theorem dX10_sure_31 : decode cX10_sure 31 = .ok (.iload_n 1, 1) := by decide +kernel
theorem dX10_sure_32 : decode cX10_sure 32 = .ok (.aload_n 0, 1) := by decide +kernel
theorem dX10_sure_33 : decode cX10_sure 33 = .ok (.iload_n 1, 1) := by decide +kernel
theorem dX10_sure_34 : decode cX10_sure 34 = .ok (.invokevirtual 283, 3) := by decide +kernel
theorem dX10_sure_37 : decode cX10_sure 37 = .ok (.invokevirtual 286, 3) := by decide +kernel
theorem dX10_sure_40 : decode cX10_sure 40 = .ok (.istore_n 3, 1) := by decide +kernel
theorem dX10_sure_41 : decode cX10_sure 41 = .ok (.aload_n 0, 1) := by decide +kernel
theorem dX10_sure_42 : decode cX10_sure 42 = .ok (.iload_n 1, 1) := by decide +kernel
theorem dX10_sure_43 : decode cX10_sure 43 = .ok (.iconst 0, 1) := by decide +kernel
theorem dX10_sure_44 : decode cX10_sure 44 = .ok (.invokevirtual 286, 3) := by decide +kernel
theorem dX10_sure_47 : decode cX10_sure 47 = .ok (.iconst 2, 1) := by decide +kernel
theorem dX10_sure_48 : decode cX10_sure 48 = .ok (.iload_n 3, 1) := by decide +kernel
theorem dX10_sure_49 : decode cX10_sure 49 = .ok (.imul, 1) := by decide +kernel
theorem dX10_sure_50 : decode cX10_sure 50 = .ok (.if_icmp .le 7, 3) := by decide +kernel
theorem dX10_sure_53 : decode cX10_sure 53 = .ok (.iconst 1, 1) := by decide +kernel
theorem dX10_sure_54 : decode cX10_sure 54 = .ok (.goto 4, 3) := by decide +kernel
theorem dX10_sure_57 : decode cX10_sure 57 = .ok (.iconst 0, 1) := by decide +kernel
theorem dX10_sure_58 : decode cX10_sure 58 = .ok (.ireturn, 1) := by decide +kernel
theorem dX10_unrow_0 : decode cX10_unrow 0 = .ok (.aload_n 0, 1) := by decide +kernel
theorem dX10_unrow_1 : decode cX10_unrow 1 = .ok (.getfield 95, 3) := by decide +kernel
theorem dX10_unrow_4 : decode cX10_unrow 4 = .ok (.ifCond .ne 6, 3) := by decide +kernel
theorem dX10_unrow_7 : decode cX10_unrow 7 = .ok (.bipush (-2), 2) := by decide +kernel
theorem dX10_unrow_9 : decode cX10_unrow 9 = .ok (.ireturn, 1) := by decide +kernel
theorem dX10_unrow_10 : decode cX10_unrow 10 = .ok (.aload_n 0, 1) := by decide +kernel
theorem dX10_unrow_11 : decode cX10_unrow 11 = .ok (.dup, 1) := by decide +kernel
theorem dX10_unrow_12 : decode cX10_unrow 12 = .ok (.getfield 95, 3) := by decide +kernel
theorem dX10_unrow_15 : decode cX10_unrow 15 = .ok (.iconst 1, 1) := by decide +kernel
theorem dX10_unrow_16 : decode cX10_unrow 16 = .ok (.isub, 1) := by decide +kernel
theorem dX10_unrow_17 : decode cX10_unrow 17 = .ok (.putfield 95, 3) := by decide +kernel
theorem dX10_unrow_20 : decode cX10_unrow 20 = .ok (.aload_n 0, 1) := by decide +kernel
theorem dX10_unrow_21 : decode cX10_unrow 21 = .ok (.getfield 95, 3) := by decide +kernel
theorem dX10_unrow_24 : decode cX10_unrow 24 = .ok (.ireturn, 1) := by decide +kernel
theorem dX10_rows_0 : decode cX10_rows 0 = .ok (.iload 4, 2) := by decide +kernel
theorem dX10_rows_2 : decode cX10_rows 2 = .ok (.iconst 0, 1) := by decide +kernel
theorem dX10_rows_3 : decode cX10_rows 3 = .ok (.bipush 8, 2) := by decide +kernel
theorem dX10_rows_5 : decode cX10_rows 5 = .ok (.invokestatic 118, 3) := by decide +kernel
theorem dX10_rows_8 : decode cX10_rows 8 = .ok (.ifCond .ne 5, 3) := by decide +kernel
theorem dX10_rows_11 : decode cX10_rows 11 = .ok (.iconst (-1), 1) := by decide +kernel
theorem dX10_rows_12 : decode cX10_rows 12 = .ok (.ireturn, 1) := by decide +kernel
theorem dX10_rows_13 : decode cX10_rows 13 = .ok (.aload_n 0, 1) := by decide +kernel
theorem dX10_rows_14 : decode cX10_rows 14 = .ok (.iload_n 1, 1) := by decide +kernel
theorem dX10_rows_15 : decode cX10_rows 15 = .ok (.iload_n 2, 1) := by decide +kernel
theorem dX10_rows_16 : decode cX10_rows 16 = .ok (.invokevirtual 289, 3) := by decide +kernel
theorem dX10_rows_19 : decode cX10_rows 19 = .ok (.istore 5, 2) := by decide +kernel
theorem dX10_rows_21 : decode cX10_rows 21 = .ok (.iload 5, 2) := by decide +kernel
theorem dX10_rows_23 : decode cX10_rows 23 = .ok (.ifCond .eq 6, 3) := by decide +kernel
theorem dX10_rows_26 : decode cX10_rows 26 = .ok (.iload 5, 2) := by decide +kernel
theorem dX10_rows_28 : decode cX10_rows 28 = .ok (.ireturn, 1) := by decide +kernel
theorem dX10_rows_29 : decode cX10_rows 29 = .ok (.aload_n 0, 1) := by decide +kernel
theorem dX10_rows_30 : decode cX10_rows 30 = .ok (.getfield 107, 3) := by decide +kernel
theorem dX10_rows_33 : decode cX10_rows 33 = .ok (.iload_n 1, 1) := by decide +kernel
theorem dX10_rows_34 : decode cX10_rows 34 = .ok (.aaload, 1) := by decide +kernel
theorem dX10_rows_35 : decode cX10_rows 35 = .ok (.astore 6, 2) := by decide +kernel
theorem dX10_rows_37 : decode cX10_rows 37 = .ok (.aload 6, 2) := by decide +kernel
theorem dX10_rows_39 : decode cX10_rows 39 = .ok (.iload_n 3, 1) := by decide +kernel
theorem dX10_rows_40 : decode cX10_rows 40 = .ok (.iload 4, 2) := by decide +kernel
theorem dX10_rows_42 : decode cX10_rows 42 = .ok (.bipush 7, 2) := by decide +kernel
theorem dX10_rows_44 : decode cX10_rows 44 = .ok (.imul, 1) := by decide +kernel
theorem dX10_rows_45 : decode cX10_rows 45 = .ok (.invokevirtual 292, 3) := by decide +kernel
theorem dX10_rows_48 : decode cX10_rows 48 = .ok (.ifCond .ne 6, 3) := by decide +kernel
theorem dX10_rows_51 : decode cX10_rows 51 = .ok (.bipush (-13), 2) := by decide +kernel
theorem dX10_rows_53 : decode cX10_rows 53 = .ok (.ireturn, 1) := by decide +kernel
theorem dX10_rows_54 : decode cX10_rows 54 = .ok (.iconst 0, 1) := by decide +kernel
theorem dX10_rows_55 : decode cX10_rows 55 = .ok (.istore 7, 2) := by decide +kernel
theorem dX10_rows_57 : decode cX10_rows 57 = .ok (.iload 7, 2) := by decide +kernel
theorem dX10_rows_59 : decode cX10_rows 59 = .ok (.iload 4, 2) := by decide +kernel
theorem dX10_rows_61 : decode cX10_rows 61 = .ok (.if_icmp .ge 31, 3) := by decide +kernel
theorem dX10_rows_64 : decode cX10_rows 64 = .ok (.aload_n 0, 1) := by decide +kernel
theorem dX10_rows_65 : decode cX10_rows 65 = .ok (.aload 6, 2) := by decide +kernel
theorem dX10_rows_67 : decode cX10_rows 67 = .ok (.getfield 295, 3) := by decide +kernel
theorem dX10_rows_70 : decode cX10_rows 70 = .ok (.iload_n 3, 1) := by decide +kernel
theorem dX10_rows_71 : decode cX10_rows 71 = .ok (.iload 7, 2) := by decide +kernel
theorem dX10_rows_73 : decode cX10_rows 73 = .ok (.bipush 7, 2) := by decide +kernel
theorem dX10_rows_75 : decode cX10_rows 75 = .ok (.imul, 1) := by decide +kernel
theorem dX10_rows_76 : decode cX10_rows 76 = .ok (.iadd, 1) := by decide +kernel
theorem dX10_rows_77 : decode cX10_rows 77 = .ok (.invokevirtual 298, 3) := by decide +kernel
theorem dX10_rows_80 : decode cX10_rows 80 = .ok (.ifCond .ne 6, 3) := by decide +kernel
theorem dX10_rows_83 : decode cX10_rows 83 = .ok (.bipush (-2), 2) := by decide +kernel
theorem dX10_rows_85 : decode cX10_rows 85 = .ok (.ireturn, 1) := by decide +kernel
theorem dX10_rows_86 : decode cX10_rows 86 = .ok (.iinc 7 1, 3) := by decide +kernel
theorem dX10_rows_89 : decode cX10_rows 89 = .ok (.goto (-32), 3) := by decide +kernel
theorem dX10_rows_92 : decode cX10_rows 92 = .ok (.iload 4, 2) := by decide +kernel
theorem dX10_rows_94 : decode cX10_rows 94 = .ok (.bipush 30, 2) := by decide +kernel
theorem dX10_rows_96 : decode cX10_rows 96 = .ok (.aload_n 0, 1) := by decide +kernel
theorem dX10_rows_97 : decode cX10_rows 97 = .ok (.getfield 95, 3) := by decide +kernel
theorem dX10_rows_100 : decode cX10_rows 100 = .ok (.isub, 1) := by decide +kernel
theorem dX10_rows_101 : decode cX10_rows 101 = .ok (.if_icmp .le 6, 3) := by decide +kernel
theorem dX10_rows_104 : decode cX10_rows 104 = .ok (.bipush (-3), 2) := by decide +kernel
theorem dX10_rows_106 : decode cX10_rows 106 = .ok (.ireturn, 1) := by decide +kernel
theorem dX10_rows_107 : decode cX10_rows 107 = .ok (.iconst 0, 1) := by decide +kernel
theorem dX10_rows_108 : decode cX10_rows 108 = .ok (.istore 7, 2) := by decide +kernel
theorem dX10_rows_110 : decode cX10_rows 110 = .ok (.iload 7, 2) := by decide +kernel
theorem dX10_rows_112 : decode cX10_rows 112 = .ok (.iload 4, 2) := by decide +kernel
theorem dX10_rows_114 : decode cX10_rows 114 = .ok (.if_icmp .ge 25, 3) := by decide +kernel
theorem dX10_rows_117 : decode cX10_rows 117 = .ok (.aload_n 0, 1) := by decide +kernel
theorem dX10_rows_118 : decode cX10_rows 118 = .ok (.aload 6, 2) := by decide +kernel
theorem dX10_rows_120 : decode cX10_rows 120 = .ok (.getfield 295, 3) := by decide +kernel
theorem dX10_rows_123 : decode cX10_rows 123 = .ok (.iload_n 3, 1) := by decide +kernel
theorem dX10_rows_124 : decode cX10_rows 124 = .ok (.iload 7, 2) := by decide +kernel
theorem dX10_rows_126 : decode cX10_rows 126 = .ok (.bipush 7, 2) := by decide +kernel
theorem dX10_rows_128 : decode cX10_rows 128 = .ok (.imul, 1) := by decide +kernel
theorem dX10_rows_129 : decode cX10_rows 129 = .ok (.iadd, 1) := by decide +kernel
theorem dX10_rows_130 : decode cX10_rows 130 = .ok (.invokevirtual 302, 3) := by decide +kernel
theorem dX10_rows_133 : decode cX10_rows 133 = .ok (.iinc 7 1, 3) := by decide +kernel
theorem dX10_rows_136 : decode cX10_rows 136 = .ok (.goto (-26), 3) := by decide +kernel
theorem dX10_rows_139 : decode cX10_rows 139 = .ok (.aload_n 0, 1) := by decide +kernel
theorem dX10_rows_140 : decode cX10_rows 140 = .ok (.getfield 95, 3) := by decide +kernel
theorem dX10_rows_143 : decode cX10_rows 143 = .ok (.ireturn, 1) := by decide +kernel
theorem dX10_seen_0 : decode cX10_seen 0 = .ok (.aload_n 0, 1) := by decide +kernel
theorem dX10_seen_1 : decode cX10_seen 1 = .ok (.iload_n 1, 1) := by decide +kernel
theorem dX10_seen_2 : decode cX10_seen 2 = .ok (.invokevirtual 196, 3) := by decide +kernel
theorem dX10_seen_5 : decode cX10_seen 5 = .ok (.ifCond .ne 5, 3) := by decide +kernel
theorem dX10_seen_8 : decode cX10_seen 8 = .ok (.iconst (-1), 1) := by decide +kernel
theorem dX10_seen_9 : decode cX10_seen 9 = .ok (.ireturn, 1) := by decide +kernel
theorem dX10_seen_10 : decode cX10_seen 10 = .ok (.aload_n 0, 1) := by decide +kernel
theorem dX10_seen_11 : decode cX10_seen 11 = .ok (.getfield 53, 3) := by decide +kernel
theorem dX10_seen_14 : decode cX10_seen 14 = .ok (.getfield 305, 3) := by decide +kernel
theorem dX10_seen_17 : decode cX10_seen 17 = .ok (.aload_n 0, 1) := by decide +kernel
theorem dX10_seen_18 : decode cX10_seen 18 = .ok (.getfield 53, 3) := by decide +kernel
theorem dX10_seen_21 : decode cX10_seen 21 = .ok (.iload_n 1, 1) := by decide +kernel
theorem dX10_seen_22 : decode cX10_seen 22 = .ok (.iconst 0, 1) := by decide +kernel
theorem dX10_seen_23 : decode cX10_seen 23 = .ok (.invokevirtual 200, 3) := by decide +kernel
theorem dX10_seen_26 : decode cX10_seen 26 = .ok (.isub, 1) := by decide +kernel
theorem dX10_seen_27 : decode cX10_seen 27 = .ok (.invokestatic 308, 3) := by decide +kernel
theorem dX10_seen_30 : decode cX10_seen 30 = .ok (.istore_n 2, 1) := by decide +kernel
theorem dX10_seen_31 : decode cX10_seen 31 = .ok (.aload_n 0, 1) := by decide +kernel
theorem dX10_seen_32 : decode cX10_seen 32 = .ok (.getfield 53, 3) := by decide +kernel
theorem dX10_seen_35 : decode cX10_seen 35 = .ok (.getfield 311, 3) := by decide +kernel
theorem dX10_seen_38 : decode cX10_seen 38 = .ok (.aload_n 0, 1) := by decide +kernel
theorem dX10_seen_39 : decode cX10_seen 39 = .ok (.getfield 53, 3) := by decide +kernel
theorem dX10_seen_42 : decode cX10_seen 42 = .ok (.iload_n 1, 1) := by decide +kernel
theorem dX10_seen_43 : decode cX10_seen 43 = .ok (.iconst 1, 1) := by decide +kernel
theorem dX10_seen_44 : decode cX10_seen 44 = .ok (.invokevirtual 200, 3) := by decide +kernel
theorem dX10_seen_47 : decode cX10_seen 47 = .ok (.isub, 1) := by decide +kernel
theorem dX10_seen_48 : decode cX10_seen 48 = .ok (.invokestatic 308, 3) := by decide +kernel
theorem dX10_seen_51 : decode cX10_seen 51 = .ok (.istore_n 3, 1) := by decide +kernel
theorem dX10_seen_52 : decode cX10_seen 52 = .ok (.aload_n 0, 1) := by decide +kernel
theorem dX10_seen_53 : decode cX10_seen 53 = .ok (.getfield 101, 3) := by decide +kernel
theorem dX10_seen_56 : decode cX10_seen 56 = .ok (.iload_n 2, 1) := by decide +kernel
theorem dX10_seen_57 : decode cX10_seen 57 = .ok (.iload_n 3, 1) := by decide +kernel
theorem dX10_seen_58 : decode cX10_seen 58 = .ok (.invokevirtual 314, 3) := by decide +kernel
theorem dX10_seen_61 : decode cX10_seen 61 = .ok (.ireturn, 1) := by decide +kernel
theorem dX10_patch_0 : decode cX10_patch 0 = .ok (.iload_n 1, 1) := by decide +kernel
theorem dX10_patch_1 : decode cX10_patch 1 = .ok (.invokestatic 317, 3) := by decide +kernel
theorem dX10_patch_4 : decode cX10_patch 4 = .ok (.ifCond .eq 24, 3) := by decide +kernel
theorem dX10_patch_7 : decode cX10_patch 7 = .ok (.iload_n 2, 1) := by decide +kernel
theorem dX10_patch_8 : decode cX10_patch 8 = .ok (.iconst 0, 1) := by decide +kernel
theorem dX10_patch_9 : decode cX10_patch 9 = .ok (.sipush 1000, 3) := by decide +kernel
theorem dX10_patch_12 : decode cX10_patch 12 = .ok (.invokestatic 118, 3) := by decide +kernel
theorem dX10_patch_15 : decode cX10_patch 15 = .ok (.ifCond .eq 13, 3) := by decide +kernel
theorem dX10_patch_18 : decode cX10_patch 18 = .ok (.iload_n 3, 1) := by decide +kernel
theorem dX10_patch_19 : decode cX10_patch 19 = .ok (.iconst 1, 1) := by decide +kernel
theorem dX10_patch_20 : decode cX10_patch 20 = .ok (.bipush 9, 2) := by decide +kernel
theorem dX10_patch_22 : decode cX10_patch 22 = .ok (.invokestatic 118, 3) := by decide +kernel
theorem dX10_patch_25 : decode cX10_patch 25 = .ok (.ifCond .ne 5, 3) := by decide +kernel
theorem dX10_patch_28 : decode cX10_patch 28 = .ok (.iconst (-1), 1) := by decide +kernel
theorem dX10_patch_29 : decode cX10_patch 29 = .ok (.ireturn, 1) := by decide +kernel
theorem dX10_patch_30 : decode cX10_patch 30 = .ok (.aload_n 0, 1) := by decide +kernel
theorem dX10_patch_31 : decode cX10_patch 31 = .ok (.getfield 101, 3) := by decide +kernel
theorem dX10_patch_34 : decode cX10_patch 34 = .ok (.getfield 320, 3) := by decide +kernel
theorem dX10_patch_37 : decode cX10_patch 37 = .ok (.iload_n 1, 1) := by decide +kernel
theorem dX10_patch_38 : decode cX10_patch 38 = .ok (.iaload, 1) := by decide +kernel
theorem dX10_patch_39 : decode cX10_patch 39 = .ok (.istore 4, 2) := by decide +kernel
theorem dX10_patch_41 : decode cX10_patch 41 = .ok (.aload_n 0, 1) := by decide +kernel
theorem dX10_patch_42 : decode cX10_patch 42 = .ok (.getfield 101, 3) := by decide +kernel
theorem dX10_patch_45 : decode cX10_patch 45 = .ok (.getfield 320, 3) := by decide +kernel
theorem dX10_patch_48 : decode cX10_patch 48 = .ok (.iload_n 1, 1) := by decide +kernel
theorem dX10_patch_49 : decode cX10_patch 49 = .ok (.iload_n 2, 1) := by decide +kernel
theorem dX10_patch_50 : decode cX10_patch 50 = .ok (.iastore, 1) := by decide +kernel
theorem dX10_patch_51 : decode cX10_patch 51 = .ok (.aload_n 0, 1) := by decide +kernel
theorem dX10_patch_52 : decode cX10_patch 52 = .ok (.getfield 101, 3) := by decide +kernel
theorem dX10_patch_55 : decode cX10_patch 55 = .ok (.getfield 323, 3) := by decide +kernel
theorem dX10_patch_58 : decode cX10_patch 58 = .ok (.iload_n 1, 1) := by decide +kernel
theorem dX10_patch_59 : decode cX10_patch 59 = .ok (.iload_n 3, 1) := by decide +kernel
theorem dX10_patch_60 : decode cX10_patch 60 = .ok (.iastore, 1) := by decide +kernel
theorem dX10_patch_61 : decode cX10_patch 61 = .ok (.iload 4, 2) := by decide +kernel
theorem dX10_patch_63 : decode cX10_patch 63 = .ok (.ireturn, 1) := by decide +kernel
theorem dX10_grass_0 : decode cX10_grass 0 = .ok (.iload_n 1, 1) := by decide +kernel
theorem dX10_grass_1 : decode cX10_grass 1 = .ok (.invokestatic 317, 3) := by decide +kernel
theorem dX10_grass_4 : decode cX10_grass 4 = .ok (.ifCond .eq 12, 3) := by decide +kernel
theorem dX10_grass_7 : decode cX10_grass 7 = .ok (.iload_n 2, 1) := by decide +kernel
theorem dX10_grass_8 : decode cX10_grass 8 = .ok (.iconst 0, 1) := by decide +kernel
theorem dX10_grass_9 : decode cX10_grass 9 = .ok (.iconst 1, 1) := by decide +kernel
theorem dX10_grass_10 : decode cX10_grass 10 = .ok (.invokestatic 118, 3) := by decide +kernel
theorem dX10_grass_13 : decode cX10_grass 13 = .ok (.ifCond .ne 5, 3) := by decide +kernel
theorem dX10_grass_16 : decode cX10_grass 16 = .ok (.iconst (-1), 1) := by decide +kernel
theorem dX10_grass_17 : decode cX10_grass 17 = .ok (.ireturn, 1) := by decide +kernel
theorem dX10_grass_18 : decode cX10_grass 18 = .ok (.iload_n 2, 1) := by decide +kernel
theorem dX10_grass_19 : decode cX10_grass 19 = .ok (.ifCond .ne 15, 3) := by decide +kernel
theorem dX10_grass_22 : decode cX10_grass 22 = .ok (.aload_n 0, 1) := by decide +kernel
theorem dX10_grass_23 : decode cX10_grass 23 = .ok (.getfield 101, 3) := by decide +kernel
theorem dX10_grass_26 : decode cX10_grass 26 = .ok (.getfield 320, 3) := by decide +kernel
theorem dX10_grass_29 : decode cX10_grass 29 = .ok (.iload_n 1, 1) := by decide +kernel
theorem dX10_grass_30 : decode cX10_grass 30 = .ok (.iaload, 1) := by decide +kernel
theorem dX10_grass_31 : decode cX10_grass 31 = .ok (.goto 12, 3) := by decide +kernel
theorem dX10_grass_34 : decode cX10_grass 34 = .ok (.aload_n 0, 1) := by decide +kernel
theorem dX10_grass_35 : decode cX10_grass 35 = .ok (.getfield 101, 3) := by decide +kernel
theorem dX10_grass_38 : decode cX10_grass 38 = .ok (.getfield 323, 3) := by decide +kernel
theorem dX10_grass_41 : decode cX10_grass 41 = .ok (.iload_n 1, 1) := by decide +kernel
theorem dX10_grass_42 : decode cX10_grass 42 = .ok (.iaload, 1) := by decide +kernel
theorem dX10_grass_43 : decode cX10_grass 43 = .ok (.ireturn, 1) := by decide +kernel
theorem dX10_next_0 : decode cX10_next 0 = .ok (.aload_n 0, 1) := by decide +kernel
theorem dX10_next_1 : decode cX10_next 1 = .ok (.getfield 101, 3) := by decide +kernel
theorem dX10_next_4 : decode cX10_next 4 = .ok (.invokevirtual 326, 3) := by decide +kernel
theorem dX10_next_7 : decode cX10_next 7 = .ok (.ireturn, 1) := by decide +kernel
theorem dX10_search_0 : decode cX10_search 0 = .ok (.iload_n 1, 1) := by decide +kernel
theorem dX10_search_1 : decode cX10_search 1 = .ok (.invokestatic 317, 3) := by decide +kernel
theorem dX10_search_4 : decode cX10_search 4 = .ok (.ifCond .ne 5, 3) := by decide +kernel
theorem dX10_search_7 : decode cX10_search 7 = .ok (.iconst (-1), 1) := by decide +kernel
theorem dX10_search_8 : decode cX10_search 8 = .ok (.ireturn, 1) := by decide +kernel
theorem dX10_search_9 : decode cX10_search 9 = .ok (.aload_n 0, 1) := by decide +kernel
theorem dX10_search_10 : decode cX10_search 10 = .ok (.getfield 101, 3) := by decide +kernel
theorem dX10_search_13 : decode cX10_search 13 = .ok (.iload_n 1, 1) := by decide +kernel
theorem dX10_search_14 : decode cX10_search 14 = .ok (.invokevirtual 329, 3) := by decide +kernel
theorem dX10_search_17 : decode cX10_search 17 = .ok (.ireturn, 1) := by decide +kernel
theorem dX10_count_0 : decode cX10_count 0 = .ok (.iload_n 1, 1) := by decide +kernel
theorem dX10_count_1 : decode cX10_count 1 = .ok (.tableswitch 78 0 5 #[39, 44, 52, 57, 65, 70], 39) := by decide +kernel
theorem dX10_count_40 : decode cX10_count 40 = .ok (.aload_n 0, 1) := by decide +kernel
theorem dX10_count_41 : decode cX10_count 41 = .ok (.getfield 23, 3) := by decide +kernel
theorem dX10_count_44 : decode cX10_count 44 = .ok (.ireturn, 1) := by decide +kernel
theorem dX10_count_45 : decode cX10_count 45 = .ok (.aload_n 0, 1) := by decide +kernel
theorem dX10_count_46 : decode cX10_count 46 = .ok (.invokevirtual 214, 3) := by decide +kernel
theorem dX10_count_49 : decode cX10_count 49 = .ok (.invokestatic 254, 3) := by decide +kernel
theorem dX10_count_52 : decode cX10_count 52 = .ok (.ireturn, 1) := by decide +kernel
theorem dX10_count_53 : decode cX10_count 53 = .ok (.aload_n 0, 1) := by decide +kernel
theorem dX10_count_54 : decode cX10_count 54 = .ok (.getfield 33, 3) := by decide +kernel
theorem dX10_count_57 : decode cX10_count 57 = .ok (.ireturn, 1) := by decide +kernel
theorem dX10_count_58 : decode cX10_count 58 = .ok (.aload_n 0, 1) := by decide +kernel
theorem dX10_count_59 : decode cX10_count 59 = .ok (.getfield 44, 3) := by decide +kernel
theorem dX10_count_62 : decode cX10_count 62 = .ok (.getfield 332, 3) := by decide +kernel
theorem dX10_count_65 : decode cX10_count 65 = .ok (.ireturn, 1) := by decide +kernel
theorem dX10_count_66 : decode cX10_count 66 = .ok (.aload_n 0, 1) := by decide +kernel
theorem dX10_count_67 : decode cX10_count 67 = .ok (.getfield 95, 3) := by decide +kernel
theorem dX10_count_70 : decode cX10_count 70 = .ok (.ireturn, 1) := by decide +kernel
theorem dX10_count_71 : decode cX10_count 71 = .ok (.aload_n 0, 1) := by decide +kernel
theorem dX10_count_72 : decode cX10_count 72 = .ok (.getfield 85, 3) := by decide +kernel
theorem dX10_count_75 : decode cX10_count 75 = .ok (.invokevirtual 251, 3) := by decide +kernel
theorem dX10_count_78 : decode cX10_count 78 = .ok (.ireturn, 1) := by decide +kernel
theorem dX10_count_79 : decode cX10_count 79 = .ok (.iconst (-1), 1) := by decide +kernel
theorem dX10_count_80 : decode cX10_count 80 = .ok (.ireturn, 1) := by decide +kernel
theorem dX10_sheet_0 : decode cX10_sheet 0 = .ok (.iload_n 1, 1) := by decide +kernel
theorem dX10_sheet_1 : decode cX10_sheet 1 = .ok (.invokestatic 335, 3) := by decide +kernel
theorem dX10_sheet_4 : decode cX10_sheet 4 = .ok (.ifCond .eq 16, 3) := by decide +kernel
theorem dX10_sheet_7 : decode cX10_sheet 7 = .ok (.iload_n 2, 1) := by decide +kernel
theorem dX10_sheet_8 : decode cX10_sheet 8 = .ok (.invokestatic 338, 3) := by decide +kernel
theorem dX10_sheet_11 : decode cX10_sheet 11 = .ok (.ifCond .eq 9, 3) := by decide +kernel
theorem dX10_sheet_14 : decode cX10_sheet 14 = .ok (.iload_n 3, 1) := by decide +kernel
theorem dX10_sheet_15 : decode cX10_sheet 15 = .ok (.bipush 60, 2) := by decide +kernel
theorem dX10_sheet_17 : decode cX10_sheet 17 = .ok (.if_icmp .le 5, 3) := by decide +kernel
theorem dX10_sheet_20 : decode cX10_sheet 20 = .ok (.iconst (-1), 1) := by decide +kernel
theorem dX10_sheet_21 : decode cX10_sheet 21 = .ok (.ireturn, 1) := by decide +kernel
theorem dX10_sheet_22 : decode cX10_sheet 22 = .ok (.iload_n 3, 1) := by decide +kernel
theorem dX10_sheet_23 : decode cX10_sheet 23 = .ok (.ifCond .ge 6, 3) := by decide +kernel
theorem dX10_sheet_26 : decode cX10_sheet 26 = .ok (.bipush (-14), 2) := by decide +kernel
theorem dX10_sheet_28 : decode cX10_sheet 28 = .ok (.ireturn, 1) := by decide +kernel
theorem dX10_sheet_29 : decode cX10_sheet 29 = .ok (.aload_n 0, 1) := by decide +kernel
theorem dX10_sheet_30 : decode cX10_sheet 30 = .ok (.getfield 107, 3) := by decide +kernel
theorem dX10_sheet_33 : decode cX10_sheet 33 = .ok (.iload_n 1, 1) := by decide +kernel
theorem dX10_sheet_34 : decode cX10_sheet 34 = .ok (.aaload, 1) := by decide +kernel
theorem dX10_sheet_35 : decode cX10_sheet 35 = .ok (.iload_n 2, 1) := by decide +kernel
theorem dX10_sheet_36 : decode cX10_sheet 36 = .ok (.iload_n 3, 1) := by decide +kernel
theorem dX10_sheet_37 : decode cX10_sheet 37 = .ok (.invokevirtual 341, 3) := by decide +kernel
theorem dX10_sheet_40 : decode cX10_sheet 40 = .ok (.iload_n 3, 1) := by decide +kernel
theorem dX10_sheet_41 : decode cX10_sheet 41 = .ok (.ireturn, 1) := by decide +kernel
theorem dX10_drop_0 : decode cX10_drop 0 = .ok (.iload_n 1, 1) := by decide +kernel
theorem dX10_drop_1 : decode cX10_drop 1 = .ok (.invokestatic 335, 3) := by decide +kernel
theorem dX10_drop_4 : decode cX10_drop 4 = .ok (.ifCond .ne 5, 3) := by decide +kernel
theorem dX10_drop_7 : decode cX10_drop 7 = .ok (.iconst (-1), 1) := by decide +kernel
theorem dX10_drop_8 : decode cX10_drop 8 = .ok (.ireturn, 1) := by decide +kernel
theorem dX10_drop_9 : decode cX10_drop 9 = .ok (.aload_n 0, 1) := by decide +kernel
theorem dX10_drop_10 : decode cX10_drop 10 = .ok (.getfield 107, 3) := by decide +kernel
theorem dX10_drop_13 : decode cX10_drop 13 = .ok (.iload_n 1, 1) := by decide +kernel
theorem dX10_drop_14 : decode cX10_drop 14 = .ok (.aaload, 1) := by decide +kernel
theorem dX10_drop_15 : decode cX10_drop 15 = .ok (.invokevirtual 345, 3) := by decide +kernel
theorem dX10_drop_18 : decode cX10_drop 18 = .ok (.ifCond .eq 6, 3) := by decide +kernel
theorem dX10_drop_21 : decode cX10_drop 21 = .ok (.bipush (-11), 2) := by decide +kernel
theorem dX10_drop_23 : decode cX10_drop 23 = .ok (.ireturn, 1) := by decide +kernel
theorem dX10_drop_24 : decode cX10_drop 24 = .ok (.aload_n 0, 1) := by decide +kernel
theorem dX10_drop_25 : decode cX10_drop 25 = .ok (.getfield 107, 3) := by decide +kernel
theorem dX10_drop_28 : decode cX10_drop 28 = .ok (.iload_n 1, 1) := by decide +kernel
theorem dX10_drop_29 : decode cX10_drop 29 = .ok (.aaload, 1) := by decide +kernel
theorem dX10_drop_30 : decode cX10_drop 30 = .ok (.getfield 348, 3) := by decide +kernel
theorem dX10_drop_33 : decode cX10_drop 33 = .ok (.istore_n 2, 1) := by decide +kernel
theorem dX10_drop_34 : decode cX10_drop 34 = .ok (.aload_n 0, 1) := by decide +kernel
theorem dX10_drop_35 : decode cX10_drop 35 = .ok (.getfield 107, 3) := by decide +kernel
theorem dX10_drop_38 : decode cX10_drop 38 = .ok (.iload_n 1, 1) := by decide +kernel
theorem dX10_drop_39 : decode cX10_drop 39 = .ok (.aaload, 1) := by decide +kernel
theorem dX10_drop_40 : decode cX10_drop 40 = .ok (.iconst (-1), 1) := by decide +kernel
theorem dX10_drop_41 : decode cX10_drop 41 = .ok (.iconst 0, 1) := by decide +kernel
theorem dX10_drop_42 : decode cX10_drop 42 = .ok (.invokevirtual 341, 3) := by decide +kernel
theorem dX10_drop_45 : decode cX10_drop 45 = .ok (.iload_n 2, 1) := by decide +kernel
theorem dX10_drop_46 : decode cX10_drop 46 = .ok (.ireturn, 1) := by decide +kernel
theorem dX10_item_0 : decode cX10_item 0 = .ok (.aload_n 0, 1) := by decide +kernel
theorem dX10_item_1 : decode cX10_item 1 = .ok (.iload_n 1, 1) := by decide +kernel
theorem dX10_item_2 : decode cX10_item 2 = .ok (.iload_n 2, 1) := by decide +kernel
theorem dX10_item_3 : decode cX10_item 3 = .ok (.invokevirtual 289, 3) := by decide +kernel
theorem dX10_item_6 : decode cX10_item 6 = .ok (.istore 5, 2) := by decide +kernel
theorem dX10_item_8 : decode cX10_item 8 = .ok (.iload 5, 2) := by decide +kernel
theorem dX10_item_10 : decode cX10_item 10 = .ok (.ifCond .eq 6, 3) := by decide +kernel
theorem dX10_item_13 : decode cX10_item 13 = .ok (.iload 5, 2) := by decide +kernel
theorem dX10_item_15 : decode cX10_item 15 = .ok (.ireturn, 1) := by decide +kernel
theorem dX10_item_16 : decode cX10_item 16 = .ok (.aload_n 0, 1) := by decide +kernel
theorem dX10_item_17 : decode cX10_item 17 = .ok (.getfield 107, 3) := by decide +kernel
theorem dX10_item_20 : decode cX10_item 20 = .ok (.iload_n 1, 1) := by decide +kernel
theorem dX10_item_21 : decode cX10_item 21 = .ok (.aaload, 1) := by decide +kernel
theorem dX10_item_22 : decode cX10_item 22 = .ok (.iload_n 3, 1) := by decide +kernel
theorem dX10_item_23 : decode cX10_item 23 = .ok (.iconst 1, 1) := by decide +kernel
theorem dX10_item_24 : decode cX10_item 24 = .ok (.invokevirtual 292, 3) := by decide +kernel
theorem dX10_item_27 : decode cX10_item 27 = .ok (.ifCond .ne 6, 3) := by decide +kernel
theorem dX10_item_30 : decode cX10_item 30 = .ok (.bipush (-13), 2) := by decide +kernel
theorem dX10_item_32 : decode cX10_item 32 = .ok (.ireturn, 1) := by decide +kernel
theorem dX10_item_33 : decode cX10_item 33 = .ok (.aload_n 0, 1) := by decide +kernel
theorem dX10_item_34 : decode cX10_item 34 = .ok (.getfield 107, 3) := by decide +kernel
theorem dX10_item_37 : decode cX10_item 37 = .ok (.iload_n 1, 1) := by decide +kernel
theorem dX10_item_38 : decode cX10_item 38 = .ok (.aaload, 1) := by decide +kernel
theorem dX10_item_39 : decode cX10_item 39 = .ok (.iload_n 3, 1) := by decide +kernel
theorem dX10_item_40 : decode cX10_item 40 = .ok (.iload 4, 2) := by decide +kernel
theorem dX10_item_42 : decode cX10_item 42 = .ok (.invokevirtual 351, 3) := by decide +kernel
theorem dX10_item_45 : decode cX10_item 45 = .ok (.iconst 1, 1) := by decide +kernel
theorem dX10_item_46 : decode cX10_item 46 = .ok (.ireturn, 1) := by decide +kernel
theorem dX10_copy_0 : decode cX10_copy 0 = .ok (.iload_n 1, 1) := by decide +kernel
theorem dX10_copy_1 : decode cX10_copy 1 = .ok (.invokestatic 335, 3) := by decide +kernel
theorem dX10_copy_4 : decode cX10_copy 4 = .ok (.ifCond .eq 10, 3) := by decide +kernel
theorem dX10_copy_7 : decode cX10_copy 7 = .ok (.iload_n 3, 1) := by decide +kernel
theorem dX10_copy_8 : decode cX10_copy 8 = .ok (.invokestatic 335, 3) := by decide +kernel
theorem dX10_copy_11 : decode cX10_copy 11 = .ok (.ifCond .ne 5, 3) := by decide +kernel
theorem dX10_copy_14 : decode cX10_copy 14 = .ok (.iconst (-1), 1) := by decide +kernel
theorem dX10_copy_15 : decode cX10_copy 15 = .ok (.ireturn, 1) := by decide +kernel
theorem dX10_copy_16 : decode cX10_copy 16 = .ok (.aload_n 0, 1) := by decide +kernel
theorem dX10_copy_17 : decode cX10_copy 17 = .ok (.getfield 107, 3) := by decide +kernel
theorem dX10_copy_20 : decode cX10_copy 20 = .ok (.iload_n 1, 1) := by decide +kernel
theorem dX10_copy_21 : decode cX10_copy 21 = .ok (.aaload, 1) := by decide +kernel
theorem dX10_copy_22 : decode cX10_copy 22 = .ok (.astore 6, 2) := by decide +kernel
theorem dX10_copy_24 : decode cX10_copy 24 = .ok (.aload_n 0, 1) := by decide +kernel
theorem dX10_copy_25 : decode cX10_copy 25 = .ok (.getfield 107, 3) := by decide +kernel
theorem dX10_copy_28 : decode cX10_copy 28 = .ok (.iload_n 3, 1) := by decide +kernel
theorem dX10_copy_29 : decode cX10_copy 29 = .ok (.aaload, 1) := by decide +kernel
theorem dX10_copy_30 : decode cX10_copy 30 = .ok (.astore 7, 2) := by decide +kernel
theorem dX10_copy_32 : decode cX10_copy 32 = .ok (.aload 6, 2) := by decide +kernel
theorem dX10_copy_34 : decode cX10_copy 34 = .ok (.invokevirtual 345, 3) := by decide +kernel
theorem dX10_copy_37 : decode cX10_copy 37 = .ok (.ifCond .ne 11, 3) := by decide +kernel
theorem dX10_copy_40 : decode cX10_copy 40 = .ok (.aload 7, 2) := by decide +kernel
theorem dX10_copy_42 : decode cX10_copy 42 = .ok (.invokevirtual 345, 3) := by decide +kernel
theorem dX10_copy_45 : decode cX10_copy 45 = .ok (.ifCond .eq 6, 3) := by decide +kernel
theorem dX10_copy_48 : decode cX10_copy 48 = .ok (.bipush (-11), 2) := by decide +kernel
theorem dX10_copy_50 : decode cX10_copy 50 = .ok (.ireturn, 1) := by decide +kernel
theorem dX10_copy_51 : decode cX10_copy 51 = .ok (.aload 6, 2) := by decide +kernel
theorem dX10_copy_53 : decode cX10_copy 53 = .ok (.getfield 354, 3) := by decide +kernel
theorem dX10_copy_56 : decode cX10_copy 56 = .ok (.aload 7, 2) := by decide +kernel
theorem dX10_copy_58 : decode cX10_copy 58 = .ok (.getfield 354, 3) := by decide +kernel
theorem dX10_copy_61 : decode cX10_copy 61 = .ok (.if_icmp .eq 6, 3) := by decide +kernel
theorem dX10_copy_64 : decode cX10_copy 64 = .ok (.bipush (-12), 2) := by decide +kernel
theorem dX10_copy_66 : decode cX10_copy 66 = .ok (.ireturn, 1) := by decide +kernel
theorem dX10_copy_67 : decode cX10_copy 67 = .ok (.aload 6, 2) := by decide +kernel
theorem dX10_copy_69 : decode cX10_copy 69 = .ok (.iload_n 2, 1) := by decide +kernel
theorem dX10_copy_70 : decode cX10_copy 70 = .ok (.iload 5, 2) := by decide +kernel
theorem dX10_copy_72 : decode cX10_copy 72 = .ok (.invokevirtual 292, 3) := by decide +kernel
theorem dX10_copy_75 : decode cX10_copy 75 = .ok (.ifCond .eq 15, 3) := by decide +kernel
theorem dX10_copy_78 : decode cX10_copy 78 = .ok (.aload 7, 2) := by decide +kernel
theorem dX10_copy_80 : decode cX10_copy 80 = .ok (.iload 4, 2) := by decide +kernel
theorem dX10_copy_82 : decode cX10_copy 82 = .ok (.iload 5, 2) := by decide +kernel
theorem dX10_copy_84 : decode cX10_copy 84 = .ok (.invokevirtual 292, 3) := by decide +kernel
theorem dX10_copy_87 : decode cX10_copy 87 = .ok (.ifCond .ne 6, 3) := by decide +kernel
theorem dX10_copy_90 : decode cX10_copy 90 = .ok (.bipush (-13), 2) := by decide +kernel
theorem dX10_copy_92 : decode cX10_copy 92 = .ok (.ireturn, 1) := by decide +kernel
theorem dX10_copy_93 : decode cX10_copy 93 = .ok (.aload 6, 2) := by decide +kernel
theorem dX10_copy_95 : decode cX10_copy 95 = .ok (.getfield 295, 3) := by decide +kernel
theorem dX10_copy_98 : decode cX10_copy 98 = .ok (.iload_n 2, 1) := by decide +kernel
theorem dX10_copy_99 : decode cX10_copy 99 = .ok (.aload 7, 2) := by decide +kernel
theorem dX10_copy_101 : decode cX10_copy 101 = .ok (.getfield 295, 3) := by decide +kernel
theorem dX10_copy_104 : decode cX10_copy 104 = .ok (.iload 4, 2) := by decide +kernel
theorem dX10_copy_106 : decode cX10_copy 106 = .ok (.iload 5, 2) := by decide +kernel
theorem dX10_copy_108 : decode cX10_copy 108 = .ok (.invokestatic 357, 3) := by decide +kernel
theorem dX10_copy_111 : decode cX10_copy 111 = .ok (.iload 5, 2) := by decide +kernel
theorem dX10_copy_113 : decode cX10_copy 113 = .ok (.ireturn, 1) := by decide +kernel
theorem dX10_within_0 : decode cX10_within 0 = .ok (.iload_n 0, 1) := by decide +kernel
theorem dX10_within_1 : decode cX10_within 1 = .ok (.iload_n 1, 1) := by decide +kernel
theorem dX10_within_2 : decode cX10_within 2 = .ok (.if_icmp .lt 12, 3) := by decide +kernel
theorem dX10_within_5 : decode cX10_within 5 = .ok (.iload_n 0, 1) := by decide +kernel
theorem dX10_within_6 : decode cX10_within 6 = .ok (.iload_n 2, 1) := by decide +kernel
theorem dX10_within_7 : decode cX10_within 7 = .ok (.if_icmp .gt 7, 3) := by decide +kernel
theorem dX10_within_10 : decode cX10_within 10 = .ok (.iconst 1, 1) := by decide +kernel
theorem dX10_within_11 : decode cX10_within 11 = .ok (.goto 4, 3) := by decide +kernel
theorem dX10_within_14 : decode cX10_within 14 = .ok (.iconst 0, 1) := by decide +kernel
theorem dX10_within_15 : decode cX10_within 15 = .ok (.ireturn, 1) := by decide +kernel
theorem dX10_isDirection_0 : decode cX10_isDirection 0 = .ok (.iload_n 0, 1) := by decide +kernel
theorem dX10_isDirection_1 : decode cX10_isDirection 1 = .ok (.iconst 0, 1) := by decide +kernel
theorem dX10_isDirection_2 : decode cX10_isDirection 2 = .ok (.sipush 359, 3) := by decide +kernel
theorem dX10_isDirection_5 : decode cX10_isDirection 5 = .ok (.invokestatic 118, 3) := by decide +kernel
theorem dX10_isDirection_8 : decode cX10_isDirection 8 = .ok (.ireturn, 1) := by decide +kernel
theorem dX10_isBend_0 : decode cX10_isBend 0 = .ok (.iload_n 0, 1) := by decide +kernel
theorem dX10_isBend_1 : decode cX10_isBend 1 = .ok (.bipush (-9), 2) := by decide +kernel
theorem dX10_isBend_3 : decode cX10_isBend 3 = .ok (.bipush 9, 2) := by decide +kernel
theorem dX10_isBend_5 : decode cX10_isBend 5 = .ok (.invokestatic 118, 3) := by decide +kernel
theorem dX10_isBend_8 : decode cX10_isBend 8 = .ok (.ireturn, 1) := by decide +kernel
theorem dX10_isPatch_0 : decode cX10_isPatch 0 = .ok (.iload_n 0, 1) := by decide +kernel
theorem dX10_isPatch_1 : decode cX10_isPatch 1 = .ok (.iconst 0, 1) := by decide +kernel
theorem dX10_isPatch_2 : decode cX10_isPatch 2 = .ok (.bipush 24, 2) := by decide +kernel
theorem dX10_isPatch_4 : decode cX10_isPatch 4 = .ok (.invokestatic 118, 3) := by decide +kernel
theorem dX10_isPatch_7 : decode cX10_isPatch 7 = .ok (.ireturn, 1) := by decide +kernel
theorem dX10_isSheet_0 : decode cX10_isSheet 0 = .ok (.iload_n 0, 1) := by decide +kernel
theorem dX10_isSheet_1 : decode cX10_isSheet 1 = .ok (.iconst 0, 1) := by decide +kernel
theorem dX10_isSheet_2 : decode cX10_isSheet 2 = .ok (.iconst 3, 1) := by decide +kernel
theorem dX10_isSheet_3 : decode cX10_isSheet 3 = .ok (.invokestatic 118, 3) := by decide +kernel
theorem dX10_isSheet_6 : decode cX10_isSheet 6 = .ok (.ireturn, 1) := by decide +kernel
theorem dX10_isLane_0 : decode cX10_isLane 0 = .ok (.iload_n 0, 1) := by decide +kernel
theorem dX10_isLane_1 : decode cX10_isLane 1 = .ok (.iconst 0, 1) := by decide +kernel
theorem dX10_isLane_2 : decode cX10_isLane 2 = .ok (.iconst 2, 1) := by decide +kernel
theorem dX10_isLane_3 : decode cX10_isLane 3 = .ok (.invokestatic 118, 3) := by decide +kernel
theorem dX10_isLane_6 : decode cX10_isLane 6 = .ok (.ireturn, 1) := by decide +kernel
theorem dX10_isStyle_0 : decode cX10_isStyle 0 = .ok (.iload_n 0, 1) := by decide +kernel
theorem dX10_isStyle_1 : decode cX10_isStyle 1 = .ok (.iconst 0, 1) := by decide +kernel
theorem dX10_isStyle_2 : decode cX10_isStyle 2 = .ok (.bipush 90, 2) := by decide +kernel
theorem dX10_isStyle_4 : decode cX10_isStyle 4 = .ok (.invokestatic 118, 3) := by decide +kernel
theorem dX10_isStyle_7 : decode cX10_isStyle 7 = .ok (.ifCond .eq 38, 3) := by decide +kernel
theorem dX10_isStyle_10 : decode cX10_isStyle 10 = .ok (.iload_n 1, 1) := by decide +kernel
theorem dX10_isStyle_11 : decode cX10_isStyle 11 = .ok (.invokestatic 164, 3) := by decide +kernel
theorem dX10_isStyle_14 : decode cX10_isStyle 14 = .ok (.ifCond .eq 31, 3) := by decide +kernel
theorem dX10_isStyle_17 : decode cX10_isStyle 17 = .ok (.iload_n 2, 1) := by decide +kernel
theorem dX10_isStyle_18 : decode cX10_isStyle 18 = .ok (.bipush 30, 2) := by decide +kernel
theorem dX10_isStyle_20 : decode cX10_isStyle 20 = .ok (.sipush 250, 3) := by decide +kernel
theorem dX10_isStyle_23 : decode cX10_isStyle 23 = .ok (.invokestatic 118, 3) := by decide +kernel
theorem dX10_isStyle_26 : decode cX10_isStyle 26 = .ok (.ifCond .eq 19, 3) := by decide +kernel
theorem dX10_isStyle_29 : decode cX10_isStyle 29 = .ok (.iload_n 3, 1) := by decide +kernel
theorem dX10_isStyle_30 : decode cX10_isStyle 30 = .ok (.bipush 100, 2) := by decide +kernel
theorem dX10_isStyle_32 : decode cX10_isStyle 32 = .ok (.sipush 1000, 3) := by decide +kernel
theorem dX10_isStyle_35 : decode cX10_isStyle 35 = .ok (.invokestatic 118, 3) := by decide +kernel
theorem dX10_isStyle_38 : decode cX10_isStyle 38 = .ok (.ifCond .eq 7, 3) := by decide +kernel
theorem dX10_isStyle_41 : decode cX10_isStyle 41 = .ok (.iconst 1, 1) := by decide +kernel
theorem dX10_isStyle_42 : decode cX10_isStyle 42 = .ok (.goto 4, 3) := by decide +kernel
theorem dX10_isStyle_45 : decode cX10_isStyle 45 = .ok (.iconst 0, 1) := by decide +kernel
theorem dX10_isStyle_46 : decode cX10_isStyle 46 = .ok (.ireturn, 1) := by decide +kernel
theorem dX10_isSetOf_0 : decode cX10_isSetOf 0 = .ok (.iload_n 0, 1) := by decide +kernel
theorem dX10_isSetOf_1 : decode cX10_isSetOf 1 = .ok (.ifCond .le 14, 3) := by decide +kernel
theorem dX10_isSetOf_4 : decode cX10_isSetOf 4 = .ok (.iload_n 0, 1) := by decide +kernel
theorem dX10_isSetOf_5 : decode cX10_isSetOf 5 = .ok (.iconst 1, 1) := by decide +kernel
theorem dX10_isSetOf_6 : decode cX10_isSetOf 6 = .ok (.iload_n 1, 1) := by decide +kernel
theorem dX10_isSetOf_7 : decode cX10_isSetOf 7 = .ok (.ishl, 1) := by decide +kernel
theorem dX10_isSetOf_8 : decode cX10_isSetOf 8 = .ok (.if_icmp .ge 7, 3) := by decide +kernel
theorem dX10_isSetOf_11 : decode cX10_isSetOf 11 = .ok (.iconst 1, 1) := by decide +kernel
theorem dX10_isSetOf_12 : decode cX10_isSetOf 12 = .ok (.goto 4, 3) := by decide +kernel
theorem dX10_isSetOf_15 : decode cX10_isSetOf 15 = .ok (.iconst 0, 1) := by decide +kernel
theorem dX10_isSetOf_16 : decode cX10_isSetOf 16 = .ok (.ireturn, 1) := by decide +kernel
theorem dX10_isStick_0 : decode cX10_isStick 0 = .ok (.iload_n 1, 1) := by decide +kernel
theorem dX10_isStick_1 : decode cX10_isStick 1 = .ok (.iconst 0, 1) := by decide +kernel
theorem dX10_isStick_2 : decode cX10_isStick 2 = .ok (.aload_n 0, 1) := by decide +kernel
theorem dX10_isStick_3 : decode cX10_isStick 3 = .ok (.getfield 23, 3) := by decide +kernel
theorem dX10_isStick_6 : decode cX10_isStick 6 = .ok (.iconst 1, 1) := by decide +kernel
theorem dX10_isStick_7 : decode cX10_isStick 7 = .ok (.isub, 1) := by decide +kernel
theorem dX10_isStick_8 : decode cX10_isStick 8 = .ok (.invokestatic 118, 3) := by decide +kernel
theorem dX10_isStick_11 : decode cX10_isStick 11 = .ok (.ireturn, 1) := by decide +kernel
theorem dX10_isWind_0 : decode cX10_isWind 0 = .ok (.iload_n 1, 1) := by decide +kernel
theorem dX10_isWind_1 : decode cX10_isWind 1 = .ok (.iconst 0, 1) := by decide +kernel
theorem dX10_isWind_2 : decode cX10_isWind 2 = .ok (.aload_n 0, 1) := by decide +kernel
theorem dX10_isWind_3 : decode cX10_isWind 3 = .ok (.getfield 33, 3) := by decide +kernel
theorem dX10_isWind_6 : decode cX10_isWind 6 = .ok (.iconst 1, 1) := by decide +kernel
theorem dX10_isWind_7 : decode cX10_isWind 7 = .ok (.isub, 1) := by decide +kernel
theorem dX10_isWind_8 : decode cX10_isWind 8 = .ok (.invokestatic 118, 3) := by decide +kernel
theorem dX10_isWind_11 : decode cX10_isWind 11 = .ok (.ireturn, 1) := by decide +kernel
theorem dX10_isWindOrNone_0 : decode cX10_isWindOrNone 0 = .ok (.iload_n 1, 1) := by decide +kernel
theorem dX10_isWindOrNone_1 : decode cX10_isWindOrNone 1 = .ok (.iconst (-1), 1) := by decide +kernel
theorem dX10_isWindOrNone_2 : decode cX10_isWindOrNone 2 = .ok (.if_icmp .eq 11, 3) := by decide +kernel
theorem dX10_isWindOrNone_5 : decode cX10_isWindOrNone 5 = .ok (.aload_n 0, 1) := by decide +kernel
theorem dX10_isWindOrNone_6 : decode cX10_isWindOrNone 6 = .ok (.iload_n 1, 1) := by decide +kernel
theorem dX10_isWindOrNone_7 : decode cX10_isWindOrNone 7 = .ok (.invokevirtual 161, 3) := by decide +kernel
theorem dX10_isWindOrNone_10 : decode cX10_isWindOrNone 10 = .ok (.ifCond .eq 7, 3) := by decide +kernel
theorem dX10_isWindOrNone_13 : decode cX10_isWindOrNone 13 = .ok (.iconst 1, 1) := by decide +kernel
theorem dX10_isWindOrNone_14 : decode cX10_isWindOrNone 14 = .ok (.goto 4, 3) := by decide +kernel
theorem dX10_isWindOrNone_17 : decode cX10_isWindOrNone 17 = .ok (.iconst 0, 1) := by decide +kernel
theorem dX10_isWindOrNone_18 : decode cX10_isWindOrNone 18 = .ok (.ireturn, 1) := by decide +kernel
theorem dX10_isThrow_0 : decode cX10_isThrow 0 = .ok (.aload_n 0, 1) := by decide +kernel
theorem dX10_isThrow_1 : decode cX10_isThrow 1 = .ok (.iload_n 1, 1) := by decide +kernel
theorem dX10_isThrow_2 : decode cX10_isThrow 2 = .ok (.invokevirtual 126, 3) := by decide +kernel
theorem dX10_isThrow_5 : decode cX10_isThrow 5 = .ok (.ifCond .eq 28, 3) := by decide +kernel
theorem dX10_isThrow_8 : decode cX10_isThrow 8 = .ok (.iload_n 2, 1) := by decide +kernel
theorem dX10_isThrow_9 : decode cX10_isThrow 9 = .ok (.iload_n 3, 1) := by decide +kernel
theorem dX10_isThrow_10 : decode cX10_isThrow 10 = .ok (.iload 4, 2) := by decide +kernel
theorem dX10_isThrow_12 : decode cX10_isThrow 12 = .ok (.iload 5, 2) := by decide +kernel
theorem dX10_isThrow_14 : decode cX10_isThrow 14 = .ok (.invokestatic 241, 3) := by decide +kernel
theorem dX10_isThrow_17 : decode cX10_isThrow 17 = .ok (.ifCond .eq 16, 3) := by decide +kernel
theorem dX10_isThrow_20 : decode cX10_isThrow 20 = .ok (.aload_n 0, 1) := by decide +kernel
theorem dX10_isThrow_21 : decode cX10_isThrow 21 = .ok (.iload 6, 2) := by decide +kernel
theorem dX10_isThrow_23 : decode cX10_isThrow 23 = .ok (.invokevirtual 235, 3) := by decide +kernel
theorem dX10_isThrow_26 : decode cX10_isThrow 26 = .ok (.ifCond .eq 7, 3) := by decide +kernel
theorem dX10_isThrow_29 : decode cX10_isThrow 29 = .ok (.iconst 1, 1) := by decide +kernel
theorem dX10_isThrow_30 : decode cX10_isThrow 30 = .ok (.goto 4, 3) := by decide +kernel
theorem dX10_isThrow_33 : decode cX10_isThrow 33 = .ok (.iconst 0, 1) := by decide +kernel
theorem dX10_isThrow_34 : decode cX10_isThrow 34 = .ok (.ireturn, 1) := by decide +kernel
theorem dX10_isRow_0 : decode cX10_isRow 0 = .ok (.aload_n 0, 1) := by decide +kernel
theorem dX10_isRow_1 : decode cX10_isRow 1 = .ok (.iload_n 1, 1) := by decide +kernel
theorem dX10_isRow_2 : decode cX10_isRow 2 = .ok (.iload_n 2, 1) := by decide +kernel
theorem dX10_isRow_3 : decode cX10_isRow 3 = .ok (.iload_n 3, 1) := by decide +kernel
theorem dX10_isRow_4 : decode cX10_isRow 4 = .ok (.iload 4, 2) := by decide +kernel
theorem dX10_isRow_6 : decode cX10_isRow 6 = .ok (.iload 5, 2) := by decide +kernel
theorem dX10_isRow_8 : decode cX10_isRow 8 = .ok (.iconst (-1), 1) := by decide +kernel
theorem dX10_isRow_9 : decode cX10_isRow 9 = .ok (.invokevirtual 184, 3) := by decide +kernel
theorem dX10_isRow_12 : decode cX10_isRow 12 = .ok (.ifCond .eq 35, 3) := by decide +kernel
theorem dX10_isRow_15 : decode cX10_isRow 15 = .ok (.iload 6, 2) := by decide +kernel
theorem dX10_isRow_17 : decode cX10_isRow 17 = .ok (.sipush (-9999), 3) := by decide +kernel
theorem dX10_isRow_20 : decode cX10_isRow 20 = .ok (.sipush 9999, 3) := by decide +kernel
theorem dX10_isRow_23 : decode cX10_isRow 23 = .ok (.invokestatic 118, 3) := by decide +kernel
theorem dX10_isRow_26 : decode cX10_isRow 26 = .ok (.ifCond .eq 21, 3) := by decide +kernel
theorem dX10_isRow_29 : decode cX10_isRow 29 = .ok (.iload 7, 2) := by decide +kernel
theorem dX10_isRow_31 : decode cX10_isRow 31 = .ok (.sipush (-9999), 3) := by decide +kernel
theorem dX10_isRow_34 : decode cX10_isRow 34 = .ok (.sipush 9999, 3) := by decide +kernel
theorem dX10_isRow_37 : decode cX10_isRow 37 = .ok (.invokestatic 118, 3) := by decide +kernel
theorem dX10_isRow_40 : decode cX10_isRow 40 = .ok (.ifCond .eq 7, 3) := by decide +kernel
theorem dX10_isRow_43 : decode cX10_isRow 43 = .ok (.iconst 1, 1) := by decide +kernel
theorem dX10_isRow_44 : decode cX10_isRow 44 = .ok (.goto 4, 3) := by decide +kernel
theorem dX10_isRow_47 : decode cX10_isRow 47 = .ok (.iconst 0, 1) := by decide +kernel
theorem dX10_isRow_48 : decode cX10_isRow 48 = .ok (.ireturn, 1) := by decide +kernel
theorem dX10_faultOf_0 : decode cX10_faultOf 0 = .ok (.iload_n 1, 1) := by decide +kernel
theorem dX10_faultOf_1 : decode cX10_faultOf 1 = .ok (.invokestatic 335, 3) := by decide +kernel
theorem dX10_faultOf_4 : decode cX10_faultOf 4 = .ok (.ifCond .eq 10, 3) := by decide +kernel
theorem dX10_faultOf_7 : decode cX10_faultOf 7 = .ok (.iload_n 2, 1) := by decide +kernel
theorem dX10_faultOf_8 : decode cX10_faultOf 8 = .ok (.invokestatic 338, 3) := by decide +kernel
theorem dX10_faultOf_11 : decode cX10_faultOf 11 = .ok (.ifCond .ne 5, 3) := by decide +kernel
theorem dX10_faultOf_14 : decode cX10_faultOf 14 = .ok (.iconst (-1), 1) := by decide +kernel
theorem dX10_faultOf_15 : decode cX10_faultOf 15 = .ok (.ireturn, 1) := by decide +kernel
theorem dX10_faultOf_16 : decode cX10_faultOf 16 = .ok (.aload_n 0, 1) := by decide +kernel
theorem dX10_faultOf_17 : decode cX10_faultOf 17 = .ok (.getfield 107, 3) := by decide +kernel
theorem dX10_faultOf_20 : decode cX10_faultOf 20 = .ok (.iload_n 1, 1) := by decide +kernel
theorem dX10_faultOf_21 : decode cX10_faultOf 21 = .ok (.aaload, 1) := by decide +kernel
theorem dX10_faultOf_22 : decode cX10_faultOf 22 = .ok (.invokevirtual 345, 3) := by decide +kernel
theorem dX10_faultOf_25 : decode cX10_faultOf 25 = .ok (.ifCond .eq 6, 3) := by decide +kernel
theorem dX10_faultOf_28 : decode cX10_faultOf 28 = .ok (.bipush (-11), 2) := by decide +kernel
theorem dX10_faultOf_30 : decode cX10_faultOf 30 = .ok (.ireturn, 1) := by decide +kernel
theorem dX10_faultOf_31 : decode cX10_faultOf 31 = .ok (.aload_n 0, 1) := by decide +kernel
theorem dX10_faultOf_32 : decode cX10_faultOf 32 = .ok (.getfield 107, 3) := by decide +kernel
theorem dX10_faultOf_35 : decode cX10_faultOf 35 = .ok (.iload_n 1, 1) := by decide +kernel
theorem dX10_faultOf_36 : decode cX10_faultOf 36 = .ok (.aaload, 1) := by decide +kernel
theorem dX10_faultOf_37 : decode cX10_faultOf 37 = .ok (.getfield 354, 3) := by decide +kernel
theorem dX10_faultOf_40 : decode cX10_faultOf 40 = .ok (.iload_n 2, 1) := by decide +kernel
theorem dX10_faultOf_41 : decode cX10_faultOf 41 = .ok (.if_icmp .ne 7, 3) := by decide +kernel
theorem dX10_faultOf_44 : decode cX10_faultOf 44 = .ok (.iconst 0, 1) := by decide +kernel
theorem dX10_faultOf_45 : decode cX10_faultOf 45 = .ok (.goto 5, 3) := by decide +kernel
theorem dX10_faultOf_48 : decode cX10_faultOf 48 = .ok (.bipush (-12), 2) := by decide +kernel
theorem dX10_faultOf_50 : decode cX10_faultOf 50 = .ok (.ireturn, 1) := by decide +kernel
theorem dX10_wasInLatest_0 : decode cX10_wasInLatest 0 = .ok (.aload_n 0, 1) := by decide +kernel
theorem dX10_wasInLatest_1 : decode cX10_wasInLatest 1 = .ok (.getfield 53, 3) := by decide +kernel
theorem dX10_wasInLatest_4 : decode cX10_wasInLatest 4 = .ok (.getfield 363, 3) := by decide +kernel
theorem dX10_wasInLatest_7 : decode cX10_wasInLatest 7 = .ok (.ifCond .eq 22, 3) := by decide +kernel
theorem dX10_wasInLatest_10 : decode cX10_wasInLatest 10 = .ok (.iload_n 1, 1) := by decide +kernel
theorem dX10_wasInLatest_11 : decode cX10_wasInLatest 11 = .ok (.iconst 0, 1) := by decide +kernel
theorem dX10_wasInLatest_12 : decode cX10_wasInLatest 12 = .ok (.aload_n 0, 1) := by decide +kernel
theorem dX10_wasInLatest_13 : decode cX10_wasInLatest 13 = .ok (.getfield 53, 3) := by decide +kernel
theorem dX10_wasInLatest_16 : decode cX10_wasInLatest 16 = .ok (.getfield 204, 3) := by decide +kernel
theorem dX10_wasInLatest_19 : decode cX10_wasInLatest 19 = .ok (.invokestatic 118, 3) := by decide +kernel
theorem dX10_wasInLatest_22 : decode cX10_wasInLatest 22 = .ok (.ifCond .eq 7, 3) := by decide +kernel
theorem dX10_wasInLatest_25 : decode cX10_wasInLatest 25 = .ok (.iconst 1, 1) := by decide +kernel
theorem dX10_wasInLatest_26 : decode cX10_wasInLatest 26 = .ok (.goto 4, 3) := by decide +kernel
theorem dX10_wasInLatest_29 : decode cX10_wasInLatest 29 = .ok (.iconst 0, 1) := by decide +kernel
theorem dX10_wasInLatest_30 : decode cX10_wasInLatest 30 = .ok (.ireturn, 1) := by decide +kernel
theorem dX10_bagBits_0 : decode cX10_bagBits 0 = .ok (.iconst 0, 1) := by decide +kernel
theorem dX10_bagBits_1 : decode cX10_bagBits 1 = .ok (.istore_n 1, 1) := by decide +kernel
theorem dX10_bagBits_2 : decode cX10_bagBits 2 = .ok (.iconst 0, 1) := by decide +kernel
theorem dX10_bagBits_3 : decode cX10_bagBits 3 = .ok (.istore_n 2, 1) := by decide +kernel
theorem dX10_bagBits_4 : decode cX10_bagBits 4 = .ok (.iload_n 2, 1) := by decide +kernel
theorem dX10_bagBits_5 : decode cX10_bagBits 5 = .ok (.aload_n 0, 1) := by decide +kernel
theorem dX10_bagBits_6 : decode cX10_bagBits 6 = .ok (.getfield 23, 3) := by decide +kernel
theorem dX10_bagBits_9 : decode cX10_bagBits 9 = .ok (.if_icmp .ge 27, 3) := by decide +kernel
theorem dX10_bagBits_12 : decode cX10_bagBits 12 = .ok (.aload_n 0, 1) := by decide +kernel
theorem dX10_bagBits_13 : decode cX10_bagBits 13 = .ok (.getfield 19, 3) := by decide +kernel
theorem dX10_bagBits_16 : decode cX10_bagBits 16 = .ok (.iload_n 2, 1) := by decide +kernel
theorem dX10_bagBits_17 : decode cX10_bagBits 17 = .ok (.aaload, 1) := by decide +kernel
theorem dX10_bagBits_18 : decode cX10_bagBits 18 = .ok (.getfield 158, 3) := by decide +kernel
theorem dX10_bagBits_21 : decode cX10_bagBits 21 = .ok (.ifCond .eq 9, 3) := by decide +kernel
theorem dX10_bagBits_24 : decode cX10_bagBits 24 = .ok (.iload_n 1, 1) := by decide +kernel
theorem dX10_bagBits_25 : decode cX10_bagBits 25 = .ok (.iconst 1, 1) := by decide +kernel
theorem dX10_bagBits_26 : decode cX10_bagBits 26 = .ok (.iload_n 2, 1) := by decide +kernel
theorem dX10_bagBits_27 : decode cX10_bagBits 27 = .ok (.ishl, 1) := by decide +kernel
theorem dX10_bagBits_28 : decode cX10_bagBits 28 = .ok (.ior, 1) := by decide +kernel
theorem dX10_bagBits_29 : decode cX10_bagBits 29 = .ok (.istore_n 1, 1) := by decide +kernel
theorem dX10_bagBits_30 : decode cX10_bagBits 30 = .ok (.iinc 2 1, 3) := by decide +kernel
theorem dX10_bagBits_33 : decode cX10_bagBits 33 = .ok (.goto (-29), 3) := by decide +kernel
theorem dX10_bagBits_36 : decode cX10_bagBits 36 = .ok (.iload_n 1, 1) := by decide +kernel
theorem dX10_bagBits_37 : decode cX10_bagBits 37 = .ok (.ireturn, 1) := by decide +kernel
theorem dX10_sineWave_0 : decode cX10_sineWave 0 = .ok (.sipush 450, 3) := by decide +kernel
theorem dX10_sineWave_3 : decode cX10_sineWave 3 = .ok (.newarray .int, 2) := by decide +kernel
theorem dX10_sineWave_5 : decode cX10_sineWave 5 = .ok (.astore_n 0, 1) := by decide +kernel
theorem dX10_sineWave_6 : decode cX10_sineWave 6 = .ok (.iconst 0, 1) := by decide +kernel
theorem dX10_sineWave_7 : decode cX10_sineWave 7 = .ok (.istore_n 1, 1) := by decide +kernel
theorem dX10_sineWave_8 : decode cX10_sineWave 8 = .ok (.iload_n 1, 1) := by decide +kernel
theorem dX10_sineWave_9 : decode cX10_sineWave 9 = .ok (.bipush 90, 2) := by decide +kernel
theorem dX10_sineWave_11 : decode cX10_sineWave 11 = .ok (.if_icmp .gt 55, 3) := by decide +kernel
theorem dX10_sineWave_14 : decode cX10_sineWave 14 = .ok (.aload_n 0, 1) := by decide +kernel
theorem dX10_sineWave_15 : decode cX10_sineWave 15 = .ok (.iload_n 1, 1) := by decide +kernel
theorem dX10_sineWave_16 : decode cX10_sineWave 16 = .ok (.getstatic 366, 3) := by decide +kernel
theorem dX10_sineWave_19 : decode cX10_sineWave 19 = .ok (.iload_n 1, 1) := by decide +kernel
theorem dX10_sineWave_20 : decode cX10_sineWave 20 = .ok (.iaload, 1) := by decide +kernel
theorem dX10_sineWave_21 : decode cX10_sineWave 21 = .ok (.iastore, 1) := by decide +kernel
theorem dX10_sineWave_22 : decode cX10_sineWave 22 = .ok (.aload_n 0, 1) := by decide +kernel
theorem dX10_sineWave_23 : decode cX10_sineWave 23 = .ok (.sipush 180, 3) := by decide +kernel
theorem dX10_sineWave_26 : decode cX10_sineWave 26 = .ok (.iload_n 1, 1) := by decide +kernel
theorem dX10_sineWave_27 : decode cX10_sineWave 27 = .ok (.isub, 1) := by decide +kernel
theorem dX10_sineWave_28 : decode cX10_sineWave 28 = .ok (.getstatic 366, 3) := by decide +kernel
theorem dX10_sineWave_31 : decode cX10_sineWave 31 = .ok (.iload_n 1, 1) := by decide +kernel
theorem dX10_sineWave_32 : decode cX10_sineWave 32 = .ok (.iaload, 1) := by decide +kernel
theorem dX10_sineWave_33 : decode cX10_sineWave 33 = .ok (.iastore, 1) := by decide +kernel
theorem dX10_sineWave_34 : decode cX10_sineWave 34 = .ok (.aload_n 0, 1) := by decide +kernel
theorem dX10_sineWave_35 : decode cX10_sineWave 35 = .ok (.sipush 180, 3) := by decide +kernel
theorem dX10_sineWave_38 : decode cX10_sineWave 38 = .ok (.iload_n 1, 1) := by decide +kernel
theorem dX10_sineWave_39 : decode cX10_sineWave 39 = .ok (.iadd, 1) := by decide +kernel
theorem dX10_sineWave_40 : decode cX10_sineWave 40 = .ok (.getstatic 366, 3) := by decide +kernel
theorem dX10_sineWave_43 : decode cX10_sineWave 43 = .ok (.iload_n 1, 1) := by decide +kernel
theorem dX10_sineWave_44 : decode cX10_sineWave 44 = .ok (.iaload, 1) := by decide +kernel
theorem dX10_sineWave_45 : decode cX10_sineWave 45 = .ok (.ineg, 1) := by decide +kernel
theorem dX10_sineWave_46 : decode cX10_sineWave 46 = .ok (.iastore, 1) := by decide +kernel
theorem dX10_sineWave_47 : decode cX10_sineWave 47 = .ok (.aload_n 0, 1) := by decide +kernel
theorem dX10_sineWave_48 : decode cX10_sineWave 48 = .ok (.sipush 360, 3) := by decide +kernel
theorem dX10_sineWave_51 : decode cX10_sineWave 51 = .ok (.iload_n 1, 1) := by decide +kernel
theorem dX10_sineWave_52 : decode cX10_sineWave 52 = .ok (.isub, 1) := by decide +kernel
theorem dX10_sineWave_53 : decode cX10_sineWave 53 = .ok (.getstatic 366, 3) := by decide +kernel
theorem dX10_sineWave_56 : decode cX10_sineWave 56 = .ok (.iload_n 1, 1) := by decide +kernel
theorem dX10_sineWave_57 : decode cX10_sineWave 57 = .ok (.iaload, 1) := by decide +kernel
theorem dX10_sineWave_58 : decode cX10_sineWave 58 = .ok (.ineg, 1) := by decide +kernel
theorem dX10_sineWave_59 : decode cX10_sineWave 59 = .ok (.iastore, 1) := by decide +kernel
theorem dX10_sineWave_60 : decode cX10_sineWave 60 = .ok (.iinc 1 1, 3) := by decide +kernel
theorem dX10_sineWave_63 : decode cX10_sineWave 63 = .ok (.goto (-55), 3) := by decide +kernel
theorem dX10_sineWave_66 : decode cX10_sineWave 66 = .ok (.sipush 360, 3) := by decide +kernel
theorem dX10_sineWave_69 : decode cX10_sineWave 69 = .ok (.istore_n 1, 1) := by decide +kernel
theorem dX10_sineWave_70 : decode cX10_sineWave 70 = .ok (.iload_n 1, 1) := by decide +kernel
theorem dX10_sineWave_71 : decode cX10_sineWave 71 = .ok (.sipush 450, 3) := by decide +kernel
theorem dX10_sineWave_74 : decode cX10_sineWave 74 = .ok (.if_icmp .ge 19, 3) := by decide +kernel
theorem dX10_sineWave_77 : decode cX10_sineWave 77 = .ok (.aload_n 0, 1) := by decide +kernel
theorem dX10_sineWave_78 : decode cX10_sineWave 78 = .ok (.iload_n 1, 1) := by decide +kernel
theorem dX10_sineWave_79 : decode cX10_sineWave 79 = .ok (.aload_n 0, 1) := by decide +kernel
theorem dX10_sineWave_80 : decode cX10_sineWave 80 = .ok (.iload_n 1, 1) := by decide +kernel
theorem dX10_sineWave_81 : decode cX10_sineWave 81 = .ok (.sipush 360, 3) := by decide +kernel
theorem dX10_sineWave_84 : decode cX10_sineWave 84 = .ok (.isub, 1) := by decide +kernel
theorem dX10_sineWave_85 : decode cX10_sineWave 85 = .ok (.iaload, 1) := by decide +kernel
theorem dX10_sineWave_86 : decode cX10_sineWave 86 = .ok (.iastore, 1) := by decide +kernel
theorem dX10_sineWave_87 : decode cX10_sineWave 87 = .ok (.iinc 1 1, 3) := by decide +kernel
theorem dX10_sineWave_90 : decode cX10_sineWave 90 = .ok (.goto (-20), 3) := by decide +kernel
theorem dX10_sineWave_93 : decode cX10_sineWave 93 = .ok (.aload_n 0, 1) := by decide +kernel
theorem dX10_sineWave_94 : decode cX10_sineWave 94 = .ok (.areturn, 1) := by decide +kernel
theorem dX10_endOf_0 : decode cX10_endOf 0 = .ok (.aload_n 0, 1) := by decide +kernel
theorem dX10_endOf_1 : decode cX10_endOf 1 = .ok (.getfield 19, 3) := by decide +kernel
theorem dX10_endOf_4 : decode cX10_endOf 4 = .ok (.aload_n 2, 1) := by decide +kernel
theorem dX10_endOf_5 : decode cX10_endOf 5 = .ok (.getfield 222, 3) := by decide +kernel
theorem dX10_endOf_8 : decode cX10_endOf 8 = .ok (.aaload, 1) := by decide +kernel
theorem dX10_endOf_9 : decode cX10_endOf 9 = .ok (.astore 4, 2) := by decide +kernel
theorem dX10_endOf_11 : decode cX10_endOf 11 = .ok (.aload_n 2, 1) := by decide +kernel
theorem dX10_endOf_12 : decode cX10_endOf 12 = .ok (.getfield 369, 3) := by decide +kernel
theorem dX10_endOf_15 : decode cX10_endOf 15 = .ok (.iconst (-1), 1) := by decide +kernel
theorem dX10_endOf_16 : decode cX10_endOf 16 = .ok (.if_icmp .ne 10, 3) := by decide +kernel
theorem dX10_endOf_19 : decode cX10_endOf 19 = .ok (.aload_n 0, 1) := by decide +kernel
theorem dX10_endOf_20 : decode cX10_endOf 20 = .ok (.getfield 37, 3) := by decide +kernel
theorem dX10_endOf_23 : decode cX10_endOf 23 = .ok (.goto 12, 3) := by decide +kernel
theorem dX10_endOf_26 : decode cX10_endOf 26 = .ok (.aload_n 0, 1) := by decide +kernel
theorem dX10_endOf_27 : decode cX10_endOf 27 = .ok (.getfield 29, 3) := by decide +kernel
theorem dX10_endOf_30 : decode cX10_endOf 30 = .ok (.aload_n 2, 1) := by decide +kernel
theorem dX10_endOf_31 : decode cX10_endOf 31 = .ok (.getfield 369, 3) := by decide +kernel
theorem dX10_endOf_34 : decode cX10_endOf 34 = .ok (.aaload, 1) := by decide +kernel
theorem dX10_endOf_35 : decode cX10_endOf 35 = .ok (.astore 5, 2) := by decide +kernel
theorem dX10_endOf_37 : decode cX10_endOf 37 = .ok (.aload_n 1, 1) := by decide +kernel
theorem dX10_endOf_38 : decode cX10_endOf 38 = .ok (.aload_n 2, 1) := by decide +kernel
theorem dX10_endOf_39 : decode cX10_endOf 39 = .ok (.invokevirtual 372, 3) := by decide +kernel
theorem dX10_endOf_42 : decode cX10_endOf 42 = .ok (.iconst 1, 1) := by decide +kernel
theorem dX10_endOf_43 : decode cX10_endOf 43 = .ok (.istore 6, 2) := by decide +kernel
theorem dX10_endOf_45 : decode cX10_endOf 45 = .ok (.iload 6, 2) := by decide +kernel
theorem dX10_endOf_47 : decode cX10_endOf 47 = .ok (.sipush 400, 3) := by decide +kernel
theorem dX10_endOf_50 : decode cX10_endOf 50 = .ok (.if_icmp .gt 37, 3) := by decide +kernel
theorem dX10_endOf_53 : decode cX10_endOf 53 = .ok (.aload_n 1, 1) := by decide +kernel
theorem dX10_endOf_54 : decode cX10_endOf 54 = .ok (.getfield 363, 3) := by decide +kernel
theorem dX10_endOf_57 : decode cX10_endOf 57 = .ok (.ifCond .ne 30, 3) := by decide +kernel
theorem dX10_endOf_60 : decode cX10_endOf 60 = .ok (.aload_n 1, 1) := by decide +kernel
theorem dX10_endOf_61 : decode cX10_endOf 61 = .ok (.aload 4, 2) := by decide +kernel
theorem dX10_endOf_63 : decode cX10_endOf 63 = .ok (.iload_n 3, 1) := by decide +kernel
theorem dX10_endOf_64 : decode cX10_endOf 64 = .ok (.aload 5, 2) := by decide +kernel
theorem dX10_endOf_66 : decode cX10_endOf 66 = .ok (.invokevirtual 376, 3) := by decide +kernel
theorem dX10_endOf_69 : decode cX10_endOf 69 = .ok (.aload_n 1, 1) := by decide +kernel
theorem dX10_endOf_70 : decode cX10_endOf 70 = .ok (.aload_n 0, 1) := by decide +kernel
theorem dX10_endOf_71 : decode cX10_endOf 71 = .ok (.getfield 44, 3) := by decide +kernel
theorem dX10_endOf_74 : decode cX10_endOf 74 = .ok (.invokevirtual 380, 3) := by decide +kernel
theorem dX10_endOf_77 : decode cX10_endOf 77 = .ok (.aload_n 1, 1) := by decide +kernel
theorem dX10_endOf_78 : decode cX10_endOf 78 = .ok (.invokevirtual 384, 3) := by decide +kernel
theorem dX10_endOf_81 : decode cX10_endOf 81 = .ok (.iinc 6 1, 3) := by decide +kernel
theorem dX10_endOf_84 : decode cX10_endOf 84 = .ok (.goto (-39), 3) := by decide +kernel
theorem dX10_endOf_87 : decode cX10_endOf 87 = .ok (.aload_n 1, 1) := by decide +kernel
theorem dX10_endOf_88 : decode cX10_endOf 88 = .ok (.getfield 363, 3) := by decide +kernel
theorem dX10_endOf_91 : decode cX10_endOf 91 = .ok (.ireturn, 1) := by decide +kernel
theorem dX10_comesBack_0 : decode cX10_comesBack 0 = .ok (.aload_n 0, 1) := by decide +kernel
theorem dX10_comesBack_1 : decode cX10_comesBack 1 = .ok (.aload_n 0, 1) := by decide +kernel
theorem dX10_comesBack_2 : decode cX10_comesBack 2 = .ok (.getfield 57, 3) := by decide +kernel
theorem dX10_comesBack_5 : decode cX10_comesBack 5 = .ok (.aload_n 1, 1) := by decide +kernel
theorem dX10_comesBack_6 : decode cX10_comesBack 6 = .ok (.aload_n 0, 1) := by decide +kernel
theorem dX10_comesBack_7 : decode cX10_comesBack 7 = .ok (.getfield 19, 3) := by decide +kernel
theorem dX10_comesBack_10 : decode cX10_comesBack 10 = .ok (.aload_n 1, 1) := by decide +kernel
theorem dX10_comesBack_11 : decode cX10_comesBack 11 = .ok (.getfield 222, 3) := by decide +kernel
theorem dX10_comesBack_14 : decode cX10_comesBack 14 = .ok (.aaload, 1) := by decide +kernel
theorem dX10_comesBack_15 : decode cX10_comesBack 15 = .ok (.getfield 136, 3) := by decide +kernel
theorem dX10_comesBack_18 : decode cX10_comesBack 18 = .ok (.invokevirtual 192, 3) := by decide +kernel
theorem dX10_comesBack_21 : decode cX10_comesBack 21 = .ok (.iconst 2, 1) := by decide +kernel
theorem dX10_comesBack_22 : decode cX10_comesBack 22 = .ok (.if_icmp .ne 7, 3) := by decide +kernel
theorem dX10_comesBack_25 : decode cX10_comesBack 25 = .ok (.iconst 1, 1) := by decide +kernel
theorem dX10_comesBack_26 : decode cX10_comesBack 26 = .ok (.goto 4, 3) := by decide +kernel
theorem dX10_comesBack_29 : decode cX10_comesBack 29 = .ok (.iconst 0, 1) := by decide +kernel
theorem dX10_comesBack_30 : decode cX10_comesBack 30 = .ok (.ireturn, 1) := by decide +kernel
theorem dX10_bestOfStick_0 : decode cX10_bestOfStick 0 = .ok (.iload_n 3, 1) := by decide +kernel
theorem dX10_bestOfStick_1 : decode cX10_bestOfStick 1 = .ok (.istore 4, 2) := by decide +kernel
theorem dX10_bestOfStick_3 : decode cX10_bestOfStick 3 = .ok (.getstatic 387, 3) := by decide +kernel
theorem dX10_bestOfStick_6 : decode cX10_bestOfStick 6 = .ok (.astore 5, 2) := by decide +kernel
theorem dX10_bestOfStick_8 : decode cX10_bestOfStick 8 = .ok (.aload 5, 2) := by decide +kernel
theorem dX10_bestOfStick_10 : decode cX10_bestOfStick 10 = .ok (.arraylength, 1) := by decide +kernel
theorem dX10_bestOfStick_11 : decode cX10_bestOfStick 11 = .ok (.istore 6, 2) := by decide +kernel
theorem dX10_bestOfStick_13 : decode cX10_bestOfStick 13 = .ok (.iconst 0, 1) := by decide +kernel
theorem dX10_bestOfStick_14 : decode cX10_bestOfStick 14 = .ok (.istore 7, 2) := by decide +kernel
theorem dX10_bestOfStick_16 : decode cX10_bestOfStick 16 = .ok (.iload 7, 2) := by decide +kernel
theorem dX10_bestOfStick_18 : decode cX10_bestOfStick 18 = .ok (.iload 6, 2) := by decide +kernel
theorem dX10_bestOfStick_20 : decode cX10_bestOfStick 20 = .ok (.if_icmp .ge 108, 3) := by decide +kernel
theorem dX10_bestOfStick_23 : decode cX10_bestOfStick 23 = .ok (.aload 5, 2) := by decide +kernel
theorem dX10_bestOfStick_25 : decode cX10_bestOfStick 25 = .ok (.iload 7, 2) := by decide +kernel
theorem dX10_bestOfStick_27 : decode cX10_bestOfStick 27 = .ok (.iaload, 1) := by decide +kernel
theorem dX10_bestOfStick_28 : decode cX10_bestOfStick 28 = .ok (.istore 8, 2) := by decide +kernel
theorem dX10_bestOfStick_30 : decode cX10_bestOfStick 30 = .ok (.iconst 0, 1) := by decide +kernel
theorem dX10_bestOfStick_31 : decode cX10_bestOfStick 31 = .ok (.istore 9, 2) := by decide +kernel
theorem dX10_bestOfStick_33 : decode cX10_bestOfStick 33 = .ok (.iload 9, 2) := by decide +kernel
theorem dX10_bestOfStick_35 : decode cX10_bestOfStick 35 = .ok (.sipush 360, 3) := by decide +kernel
theorem dX10_bestOfStick_38 : decode cX10_bestOfStick 38 = .ok (.if_icmp .ge 84, 3) := by decide +kernel
theorem dX10_bestOfStick_41 : decode cX10_bestOfStick 41 = .ok (.getstatic 390, 3) := by decide +kernel
theorem dX10_bestOfStick_44 : decode cX10_bestOfStick 44 = .ok (.astore 10, 2) := by decide +kernel
theorem dX10_bestOfStick_46 : decode cX10_bestOfStick 46 = .ok (.aload 10, 2) := by decide +kernel
theorem dX10_bestOfStick_48 : decode cX10_bestOfStick 48 = .ok (.arraylength, 1) := by decide +kernel
theorem dX10_bestOfStick_49 : decode cX10_bestOfStick 49 = .ok (.istore 11, 2) := by decide +kernel
theorem dX10_bestOfStick_51 : decode cX10_bestOfStick 51 = .ok (.iconst 0, 1) := by decide +kernel
theorem dX10_bestOfStick_52 : decode cX10_bestOfStick 52 = .ok (.istore 12, 2) := by decide +kernel
theorem dX10_bestOfStick_54 : decode cX10_bestOfStick 54 = .ok (.iload 12, 2) := by decide +kernel
theorem dX10_bestOfStick_56 : decode cX10_bestOfStick 56 = .ok (.iload 11, 2) := by decide +kernel
theorem dX10_bestOfStick_58 : decode cX10_bestOfStick 58 = .ok (.if_icmp .ge 58, 3) := by decide +kernel
theorem dX10_bestOfStick_61 : decode cX10_bestOfStick 61 = .ok (.aload 10, 2) := by decide +kernel
theorem dX10_bestOfStick_63 : decode cX10_bestOfStick 63 = .ok (.iload 12, 2) := by decide +kernel
theorem dX10_bestOfStick_65 : decode cX10_bestOfStick 65 = .ok (.iaload, 1) := by decide +kernel
theorem dX10_bestOfStick_66 : decode cX10_bestOfStick 66 = .ok (.istore 13, 2) := by decide +kernel
theorem dX10_bestOfStick_68 : decode cX10_bestOfStick 68 = .ok (.aload_n 0, 1) := by decide +kernel
theorem dX10_bestOfStick_69 : decode cX10_bestOfStick 69 = .ok (.getfield 63, 3) := by decide +kernel
theorem dX10_bestOfStick_72 : decode cX10_bestOfStick 72 = .ok (.iload_n 1, 1) := by decide +kernel
theorem dX10_bestOfStick_73 : decode cX10_bestOfStick 73 = .ok (.iload 8, 2) := by decide +kernel
theorem dX10_bestOfStick_75 : decode cX10_bestOfStick 75 = .ok (.iload 9, 2) := by decide +kernel
theorem dX10_bestOfStick_77 : decode cX10_bestOfStick 77 = .ok (.iload 13, 2) := by decide +kernel
theorem dX10_bestOfStick_79 : decode cX10_bestOfStick 79 = .ok (.sipush 800, 3) := by decide +kernel
theorem dX10_bestOfStick_82 : decode cX10_bestOfStick 82 = .ok (.iconst (-1), 1) := by decide +kernel
theorem dX10_bestOfStick_83 : decode cX10_bestOfStick 83 = .ok (.invokevirtual 188, 3) := by decide +kernel
theorem dX10_bestOfStick_86 : decode cX10_bestOfStick 86 = .ok (.aload_n 0, 1) := by decide +kernel
theorem dX10_bestOfStick_87 : decode cX10_bestOfStick 87 = .ok (.iload_n 2, 1) := by decide +kernel
theorem dX10_bestOfStick_88 : decode cX10_bestOfStick 88 = .ok (.iload 4, 2) := by decide +kernel
theorem dX10_bestOfStick_90 : decode cX10_bestOfStick 90 = .ok (.invokevirtual 393, 3) := by decide +kernel
theorem dX10_bestOfStick_93 : decode cX10_bestOfStick 93 = .ok (.istore 14, 2) := by decide +kernel
theorem dX10_bestOfStick_95 : decode cX10_bestOfStick 95 = .ok (.iload 14, 2) := by decide +kernel
theorem dX10_bestOfStick_97 : decode cX10_bestOfStick 97 = .ok (.iload 4, 2) := by decide +kernel
theorem dX10_bestOfStick_99 : decode cX10_bestOfStick 99 = .ok (.if_icmp .le 11, 3) := by decide +kernel
theorem dX10_bestOfStick_102 : decode cX10_bestOfStick 102 = .ok (.iload 14, 2) := by decide +kernel
theorem dX10_bestOfStick_104 : decode cX10_bestOfStick 104 = .ok (.istore 4, 2) := by decide +kernel
theorem dX10_bestOfStick_106 : decode cX10_bestOfStick 106 = .ok (.aload_n 0, 1) := by decide +kernel
theorem dX10_bestOfStick_107 : decode cX10_bestOfStick 107 = .ok (.invokevirtual 396, 3) := by decide +kernel
theorem dX10_bestOfStick_110 : decode cX10_bestOfStick 110 = .ok (.iinc 12 1, 3) := by decide +kernel
theorem dX10_bestOfStick_113 : decode cX10_bestOfStick 113 = .ok (.goto (-59), 3) := by decide +kernel
theorem dX10_bestOfStick_116 : decode cX10_bestOfStick 116 = .ok (.iinc 9 45, 3) := by decide +kernel
theorem dX10_bestOfStick_119 : decode cX10_bestOfStick 119 = .ok (.goto (-86), 3) := by decide +kernel
theorem dX10_bestOfStick_122 : decode cX10_bestOfStick 122 = .ok (.iinc 7 1, 3) := by decide +kernel
theorem dX10_bestOfStick_125 : decode cX10_bestOfStick 125 = .ok (.goto (-109), 3) := by decide +kernel
theorem dX10_bestOfStick_128 : decode cX10_bestOfStick 128 = .ok (.iload 4, 2) := by decide +kernel
theorem dX10_bestOfStick_130 : decode cX10_bestOfStick 130 = .ok (.ireturn, 1) := by decide +kernel
theorem dX10_rememberChoice_0 : decode cX10_rememberChoice 0 = .ok (.aload_n 0, 1) := by decide +kernel
theorem dX10_rememberChoice_1 : decode cX10_rememberChoice 1 = .ok (.getfield 67, 3) := by decide +kernel
theorem dX10_rememberChoice_4 : decode cX10_rememberChoice 4 = .ok (.iconst 0, 1) := by decide +kernel
theorem dX10_rememberChoice_5 : decode cX10_rememberChoice 5 = .ok (.aload_n 0, 1) := by decide +kernel
theorem dX10_rememberChoice_6 : decode cX10_rememberChoice 6 = .ok (.getfield 63, 3) := by decide +kernel
theorem dX10_rememberChoice_9 : decode cX10_rememberChoice 9 = .ok (.getfield 222, 3) := by decide +kernel
theorem dX10_rememberChoice_12 : decode cX10_rememberChoice 12 = .ok (.iastore, 1) := by decide +kernel
theorem dX10_rememberChoice_13 : decode cX10_rememberChoice 13 = .ok (.aload_n 0, 1) := by decide +kernel
theorem dX10_rememberChoice_14 : decode cX10_rememberChoice 14 = .ok (.getfield 67, 3) := by decide +kernel
theorem dX10_rememberChoice_17 : decode cX10_rememberChoice 17 = .ok (.iconst 1, 1) := by decide +kernel
theorem dX10_rememberChoice_18 : decode cX10_rememberChoice 18 = .ok (.aload_n 0, 1) := by decide +kernel
theorem dX10_rememberChoice_19 : decode cX10_rememberChoice 19 = .ok (.getfield 63, 3) := by decide +kernel
theorem dX10_rememberChoice_22 : decode cX10_rememberChoice 22 = .ok (.getfield 399, 3) := by decide +kernel
theorem dX10_rememberChoice_25 : decode cX10_rememberChoice 25 = .ok (.iastore, 1) := by decide +kernel
theorem dX10_rememberChoice_26 : decode cX10_rememberChoice 26 = .ok (.aload_n 0, 1) := by decide +kernel
theorem dX10_rememberChoice_27 : decode cX10_rememberChoice 27 = .ok (.getfield 67, 3) := by decide +kernel
theorem dX10_rememberChoice_30 : decode cX10_rememberChoice 30 = .ok (.iconst 2, 1) := by decide +kernel
theorem dX10_rememberChoice_31 : decode cX10_rememberChoice 31 = .ok (.aload_n 0, 1) := by decide +kernel
theorem dX10_rememberChoice_32 : decode cX10_rememberChoice 32 = .ok (.getfield 63, 3) := by decide +kernel
theorem dX10_rememberChoice_35 : decode cX10_rememberChoice 35 = .ok (.getfield 402, 3) := by decide +kernel
theorem dX10_rememberChoice_38 : decode cX10_rememberChoice 38 = .ok (.iastore, 1) := by decide +kernel
theorem dX10_rememberChoice_39 : decode cX10_rememberChoice 39 = .ok (.aload_n 0, 1) := by decide +kernel
theorem dX10_rememberChoice_40 : decode cX10_rememberChoice 40 = .ok (.getfield 67, 3) := by decide +kernel
theorem dX10_rememberChoice_43 : decode cX10_rememberChoice 43 = .ok (.iconst 3, 1) := by decide +kernel
theorem dX10_rememberChoice_44 : decode cX10_rememberChoice 44 = .ok (.aload_n 0, 1) := by decide +kernel
theorem dX10_rememberChoice_45 : decode cX10_rememberChoice 45 = .ok (.getfield 63, 3) := by decide +kernel
theorem dX10_rememberChoice_48 : decode cX10_rememberChoice 48 = .ok (.getfield 405, 3) := by decide +kernel
theorem dX10_rememberChoice_51 : decode cX10_rememberChoice 51 = .ok (.iastore, 1) := by decide +kernel
theorem dX10_rememberChoice_52 : decode cX10_rememberChoice 52 = .ok (.return_, 1) := by decide +kernel
theorem dX10_backsIn_0 : decode cX10_backsIn 0 = .ok (.iconst 0, 1) := by decide +kernel
theorem dX10_backsIn_1 : decode cX10_backsIn 1 = .ok (.istore_n 3, 1) := by decide +kernel
theorem dX10_backsIn_2 : decode cX10_backsIn 2 = .ok (.iload_n 1, 1) := by decide +kernel
theorem dX10_backsIn_3 : decode cX10_backsIn 3 = .ok (.invokestatic 254, 3) := by decide +kernel
theorem dX10_backsIn_6 : decode cX10_backsIn 6 = .ok (.istore 4, 2) := by decide +kernel
theorem dX10_backsIn_8 : decode cX10_backsIn 8 = .ok (.iconst 0, 1) := by decide +kernel
theorem dX10_backsIn_9 : decode cX10_backsIn 9 = .ok (.istore 5, 2) := by decide +kernel
theorem dX10_backsIn_11 : decode cX10_backsIn 11 = .ok (.iload 5, 2) := by decide +kernel
theorem dX10_backsIn_13 : decode cX10_backsIn 13 = .ok (.aload_n 0, 1) := by decide +kernel
theorem dX10_backsIn_14 : decode cX10_backsIn 14 = .ok (.getfield 33, 3) := by decide +kernel
theorem dX10_backsIn_17 : decode cX10_backsIn 17 = .ok (.if_icmp .ge 53, 3) := by decide +kernel
theorem dX10_backsIn_20 : decode cX10_backsIn 20 = .ok (.iload_n 3, 1) := by decide +kernel
theorem dX10_backsIn_21 : decode cX10_backsIn 21 = .ok (.iload 4, 2) := by decide +kernel
theorem dX10_backsIn_23 : decode cX10_backsIn 23 = .ok (.iadd, 1) := by decide +kernel
theorem dX10_backsIn_24 : decode cX10_backsIn 24 = .ok (.iload_n 2, 1) := by decide +kernel
theorem dX10_backsIn_25 : decode cX10_backsIn 25 = .ok (.if_icmp .le 45, 3) := by decide +kernel
theorem dX10_backsIn_28 : decode cX10_backsIn 28 = .ok (.iload_n 1, 1) := by decide +kernel
theorem dX10_backsIn_29 : decode cX10_backsIn 29 = .ok (.iload 5, 2) := by decide +kernel
theorem dX10_backsIn_31 : decode cX10_backsIn 31 = .ok (.ishr, 1) := by decide +kernel
theorem dX10_backsIn_32 : decode cX10_backsIn 32 = .ok (.iconst 1, 1) := by decide +kernel
theorem dX10_backsIn_33 : decode cX10_backsIn 33 = .ok (.iand, 1) := by decide +kernel
theorem dX10_backsIn_34 : decode cX10_backsIn 34 = .ok (.iconst 1, 1) := by decide +kernel
theorem dX10_backsIn_35 : decode cX10_backsIn 35 = .ok (.if_icmp .ne 29, 3) := by decide +kernel
theorem dX10_backsIn_38 : decode cX10_backsIn 38 = .ok (.iinc 4 (-1), 3) := by decide +kernel
theorem dX10_backsIn_41 : decode cX10_backsIn 41 = .ok (.aload_n 0, 1) := by decide +kernel
theorem dX10_backsIn_42 : decode cX10_backsIn 42 = .ok (.getfield 63, 3) := by decide +kernel
theorem dX10_backsIn_45 : decode cX10_backsIn 45 = .ok (.iload 5, 2) := by decide +kernel
theorem dX10_backsIn_47 : decode cX10_backsIn 47 = .ok (.putfield 369, 3) := by decide +kernel
theorem dX10_backsIn_50 : decode cX10_backsIn 50 = .ok (.aload_n 0, 1) := by decide +kernel
theorem dX10_backsIn_51 : decode cX10_backsIn 51 = .ok (.aload_n 0, 1) := by decide +kernel
theorem dX10_backsIn_52 : decode cX10_backsIn 52 = .ok (.getfield 63, 3) := by decide +kernel
theorem dX10_backsIn_55 : decode cX10_backsIn 55 = .ok (.invokevirtual 225, 3) := by decide +kernel
theorem dX10_backsIn_58 : decode cX10_backsIn 58 = .ok (.ifCond .eq 6, 3) := by decide +kernel
theorem dX10_backsIn_61 : decode cX10_backsIn 61 = .ok (.iinc 3 1, 3) := by decide +kernel
theorem dX10_backsIn_64 : decode cX10_backsIn 64 = .ok (.iinc 5 1, 3) := by decide +kernel
theorem dX10_backsIn_67 : decode cX10_backsIn 67 = .ok (.goto (-56), 3) := by decide +kernel
theorem dX10_backsIn_70 : decode cX10_backsIn 70 = .ok (.iload_n 3, 1) := by decide +kernel
theorem dX10_backsIn_71 : decode cX10_backsIn 71 = .ok (.ireturn, 1) := by decide +kernel
theorem dX10_pointsOf_0 : decode cX10_pointsOf 0 = .ok (.aload_n 0, 1) := by decide +kernel
theorem dX10_pointsOf_1 : decode cX10_pointsOf 1 = .ok (.getfield 85, 3) := by decide +kernel
theorem dX10_pointsOf_4 : decode cX10_pointsOf 4 = .ok (.getfield 245, 3) := by decide +kernel
theorem dX10_pointsOf_7 : decode cX10_pointsOf 7 = .ok (.iload_n 1, 1) := by decide +kernel
theorem dX10_pointsOf_8 : decode cX10_pointsOf 8 = .ok (.putfield 222, 3) := by decide +kernel
theorem dX10_pointsOf_11 : decode cX10_pointsOf 11 = .ok (.aload_n 0, 1) := by decide +kernel
theorem dX10_pointsOf_12 : decode cX10_pointsOf 12 = .ok (.getfield 85, 3) := by decide +kernel
theorem dX10_pointsOf_15 : decode cX10_pointsOf 15 = .ok (.getfield 245, 3) := by decide +kernel
theorem dX10_pointsOf_18 : decode cX10_pointsOf 18 = .ok (.iload_n 2, 1) := by decide +kernel
theorem dX10_pointsOf_19 : decode cX10_pointsOf 19 = .ok (.putfield 369, 3) := by decide +kernel
theorem dX10_pointsOf_22 : decode cX10_pointsOf 22 = .ok (.aload_n 0, 1) := by decide +kernel
theorem dX10_pointsOf_23 : decode cX10_pointsOf 23 = .ok (.aload_n 0, 1) := by decide +kernel
theorem dX10_pointsOf_24 : decode cX10_pointsOf 24 = .ok (.getfield 57, 3) := by decide +kernel
theorem dX10_pointsOf_27 : decode cX10_pointsOf 27 = .ok (.aload_n 0, 1) := by decide +kernel
theorem dX10_pointsOf_28 : decode cX10_pointsOf 28 = .ok (.getfield 85, 3) := by decide +kernel
theorem dX10_pointsOf_31 : decode cX10_pointsOf 31 = .ok (.getfield 245, 3) := by decide +kernel
theorem dX10_pointsOf_34 : decode cX10_pointsOf 34 = .ok (.aload_n 0, 1) := by decide +kernel
theorem dX10_pointsOf_35 : decode cX10_pointsOf 35 = .ok (.getfield 19, 3) := by decide +kernel
theorem dX10_pointsOf_38 : decode cX10_pointsOf 38 = .ok (.iload_n 1, 1) := by decide +kernel
theorem dX10_pointsOf_39 : decode cX10_pointsOf 39 = .ok (.aaload, 1) := by decide +kernel
theorem dX10_pointsOf_40 : decode cX10_pointsOf 40 = .ok (.getfield 136, 3) := by decide +kernel
theorem dX10_pointsOf_43 : decode cX10_pointsOf 43 = .ok (.invokevirtual 192, 3) := by decide +kernel
theorem dX10_pointsOf_46 : decode cX10_pointsOf 46 = .ok (.istore_n 3, 1) := by decide +kernel
theorem dX10_pointsOf_47 : decode cX10_pointsOf 47 = .ok (.iload_n 3, 1) := by decide +kernel
theorem dX10_pointsOf_48 : decode cX10_pointsOf 48 = .ok (.iconst 2, 1) := by decide +kernel
theorem dX10_pointsOf_49 : decode cX10_pointsOf 49 = .ok (.if_icmp .ne 6, 3) := by decide +kernel
theorem dX10_pointsOf_52 : decode cX10_pointsOf 52 = .ok (.bipush 50, 2) := by decide +kernel
theorem dX10_pointsOf_54 : decode cX10_pointsOf 54 = .ok (.ireturn, 1) := by decide +kernel
theorem dX10_pointsOf_55 : decode cX10_pointsOf 55 = .ok (.iload_n 3, 1) := by decide +kernel
theorem dX10_pointsOf_56 : decode cX10_pointsOf 56 = .ok (.iconst 1, 1) := by decide +kernel
theorem dX10_pointsOf_57 : decode cX10_pointsOf 57 = .ok (.if_icmp .ne 23, 3) := by decide +kernel
theorem dX10_pointsOf_60 : decode cX10_pointsOf 60 = .ok (.iconst 0, 1) := by decide +kernel
theorem dX10_pointsOf_61 : decode cX10_pointsOf 61 = .ok (.bipush 40, 2) := by decide +kernel
theorem dX10_pointsOf_63 : decode cX10_pointsOf 63 = .ok (.aload_n 0, 1) := by decide +kernel
theorem dX10_pointsOf_64 : decode cX10_pointsOf 64 = .ok (.getfield 57, 3) := by decide +kernel
theorem dX10_pointsOf_67 : decode cX10_pointsOf 67 = .ok (.invokevirtual 408, 3) := by decide +kernel
theorem dX10_pointsOf_70 : decode cX10_pointsOf 70 = .ok (.bipush 50, 2) := by decide +kernel
theorem dX10_pointsOf_72 : decode cX10_pointsOf 72 = .ok (.idiv, 1) := by decide +kernel
theorem dX10_pointsOf_73 : decode cX10_pointsOf 73 = .ok (.isub, 1) := by decide +kernel
theorem dX10_pointsOf_74 : decode cX10_pointsOf 74 = .ok (.invokestatic 411, 3) := by decide +kernel
theorem dX10_pointsOf_77 : decode cX10_pointsOf 77 = .ok (.goto 4, 3) := by decide +kernel
theorem dX10_pointsOf_80 : decode cX10_pointsOf 80 = .ok (.iconst 0, 1) := by decide +kernel
theorem dX10_pointsOf_81 : decode cX10_pointsOf 81 = .ok (.ireturn, 1) := by decide +kernel
theorem dX10_playMatch_0 : decode cX10_playMatch 0 = .ok (.aload_n 0, 1) := by decide +kernel
theorem dX10_playMatch_1 : decode cX10_playMatch 1 = .ok (.invokevirtual 214, 3) := by decide +kernel
theorem dX10_playMatch_4 : decode cX10_playMatch 4 = .ok (.istore_n 1, 1) := by decide +kernel
theorem dX10_playMatch_5 : decode cX10_playMatch 5 = .ok (.iconst 0, 1) := by decide +kernel
theorem dX10_playMatch_6 : decode cX10_playMatch 6 = .ok (.istore_n 2, 1) := by decide +kernel
theorem dX10_playMatch_7 : decode cX10_playMatch 7 = .ok (.iload_n 2, 1) := by decide +kernel
theorem dX10_playMatch_8 : decode cX10_playMatch 8 = .ok (.iconst 5, 1) := by decide +kernel
theorem dX10_playMatch_9 : decode cX10_playMatch 9 = .ok (.if_icmp .ge 29, 3) := by decide +kernel
theorem dX10_playMatch_12 : decode cX10_playMatch 12 = .ok (.aload_n 0, 1) := by decide +kernel
theorem dX10_playMatch_13 : decode cX10_playMatch 13 = .ok (.getfield 85, 3) := by decide +kernel
theorem dX10_playMatch_16 : decode cX10_playMatch 16 = .ok (.getfield 238, 3) := by decide +kernel
theorem dX10_playMatch_19 : decode cX10_playMatch 19 = .ok (.iload_n 2, 1) := by decide +kernel
theorem dX10_playMatch_20 : decode cX10_playMatch 20 = .ok (.iaload, 1) := by decide +kernel
theorem dX10_playMatch_21 : decode cX10_playMatch 21 = .ok (.bipush (-2), 2) := by decide +kernel
theorem dX10_playMatch_23 : decode cX10_playMatch 23 = .ok (.if_icmp .eq 9, 3) := by decide +kernel
theorem dX10_playMatch_26 : decode cX10_playMatch 26 = .ok (.aload_n 0, 1) := by decide +kernel
theorem dX10_playMatch_27 : decode cX10_playMatch 27 = .ok (.iload_n 2, 1) := by decide +kernel
theorem dX10_playMatch_28 : decode cX10_playMatch 28 = .ok (.iload_n 1, 1) := by decide +kernel
theorem dX10_playMatch_29 : decode cX10_playMatch 29 = .ok (.invokevirtual 414, 3) := by decide +kernel
theorem dX10_playMatch_32 : decode cX10_playMatch 32 = .ok (.iinc 2 1, 3) := by decide +kernel
theorem dX10_playMatch_35 : decode cX10_playMatch 35 = .ok (.goto (-28), 3) := by decide +kernel
theorem dX10_playMatch_38 : decode cX10_playMatch 38 = .ok (.aload_n 0, 1) := by decide +kernel
theorem dX10_playMatch_39 : decode cX10_playMatch 39 = .ok (.getfield 85, 3) := by decide +kernel
theorem dX10_playMatch_42 : decode cX10_playMatch 42 = .ok (.iload_n 1, 1) := by decide +kernel
theorem dX10_playMatch_43 : decode cX10_playMatch 43 = .ok (.invokevirtual 417, 3) := by decide +kernel
theorem dX10_playMatch_46 : decode cX10_playMatch 46 = .ok (.return_, 1) := by decide +kernel
theorem dX10_fillPoints_0 : decode cX10_fillPoints 0 = .ok (.iconst 0, 1) := by decide +kernel
theorem dX10_fillPoints_1 : decode cX10_fillPoints 1 = .ok (.istore_n 3, 1) := by decide +kernel
theorem dX10_fillPoints_2 : decode cX10_fillPoints 2 = .ok (.iload_n 3, 1) := by decide +kernel
theorem dX10_fillPoints_3 : decode cX10_fillPoints 3 = .ok (.aload_n 0, 1) := by decide +kernel
theorem dX10_fillPoints_4 : decode cX10_fillPoints 4 = .ok (.getfield 23, 3) := by decide +kernel
theorem dX10_fillPoints_7 : decode cX10_fillPoints 7 = .ok (.if_icmp .ge 43, 3) := by decide +kernel
theorem dX10_fillPoints_10 : decode cX10_fillPoints 10 = .ok (.iload_n 2, 1) := by decide +kernel
theorem dX10_fillPoints_11 : decode cX10_fillPoints 11 = .ok (.iload_n 3, 1) := by decide +kernel
theorem dX10_fillPoints_12 : decode cX10_fillPoints 12 = .ok (.ishr, 1) := by decide +kernel
theorem dX10_fillPoints_13 : decode cX10_fillPoints 13 = .ok (.iconst 1, 1) := by decide +kernel
theorem dX10_fillPoints_14 : decode cX10_fillPoints 14 = .ok (.iand, 1) := by decide +kernel
theorem dX10_fillPoints_15 : decode cX10_fillPoints 15 = .ok (.iconst 1, 1) := by decide +kernel
theorem dX10_fillPoints_16 : decode cX10_fillPoints 16 = .ok (.if_icmp .ne 28, 3) := by decide +kernel
theorem dX10_fillPoints_19 : decode cX10_fillPoints 19 = .ok (.aload_n 0, 1) := by decide +kernel
theorem dX10_fillPoints_20 : decode cX10_fillPoints 20 = .ok (.getfield 85, 3) := by decide +kernel
theorem dX10_fillPoints_23 : decode cX10_fillPoints 23 = .ok (.getfield 420, 3) := by decide +kernel
theorem dX10_fillPoints_26 : decode cX10_fillPoints 26 = .ok (.iload_n 1, 1) := by decide +kernel
theorem dX10_fillPoints_27 : decode cX10_fillPoints 27 = .ok (.aaload, 1) := by decide +kernel
theorem dX10_fillPoints_28 : decode cX10_fillPoints 28 = .ok (.iload_n 3, 1) := by decide +kernel
theorem dX10_fillPoints_29 : decode cX10_fillPoints 29 = .ok (.aload_n 0, 1) := by decide +kernel
theorem dX10_fillPoints_30 : decode cX10_fillPoints 30 = .ok (.iload_n 3, 1) := by decide +kernel
theorem dX10_fillPoints_31 : decode cX10_fillPoints 31 = .ok (.aload_n 0, 1) := by decide +kernel
theorem dX10_fillPoints_32 : decode cX10_fillPoints 32 = .ok (.getfield 85, 3) := by decide +kernel
theorem dX10_fillPoints_35 : decode cX10_fillPoints 35 = .ok (.getfield 238, 3) := by decide +kernel
theorem dX10_fillPoints_38 : decode cX10_fillPoints 38 = .ok (.iload_n 1, 1) := by decide +kernel
theorem dX10_fillPoints_39 : decode cX10_fillPoints 39 = .ok (.iaload, 1) := by decide +kernel
theorem dX10_fillPoints_40 : decode cX10_fillPoints 40 = .ok (.invokevirtual 248, 3) := by decide +kernel
theorem dX10_fillPoints_43 : decode cX10_fillPoints 43 = .ok (.iastore, 1) := by decide +kernel
theorem dX10_fillPoints_44 : decode cX10_fillPoints 44 = .ok (.iinc 3 1, 3) := by decide +kernel
theorem dX10_fillPoints_47 : decode cX10_fillPoints 47 = .ok (.goto (-45), 3) := by decide +kernel
theorem dX10_fillPoints_50 : decode cX10_fillPoints 50 = .ok (.return_, 1) := by decide +kernel
theorem dX10_addRow_0 : decode cX10_addRow 0 = .ok (.aload_n 0, 1) := by decide +kernel
theorem dX10_addRow_1 : decode cX10_addRow 1 = .ok (.getfield 91, 3) := by decide +kernel
theorem dX10_addRow_4 : decode cX10_addRow 4 = .ok (.aload_n 0, 1) := by decide +kernel
theorem dX10_addRow_5 : decode cX10_addRow 5 = .ok (.getfield 95, 3) := by decide +kernel
theorem dX10_addRow_8 : decode cX10_addRow 8 = .ok (.aaload, 1) := by decide +kernel
theorem dX10_addRow_9 : decode cX10_addRow 9 = .ok (.astore 8, 2) := by decide +kernel
theorem dX10_addRow_11 : decode cX10_addRow 11 = .ok (.aload 8, 2) := by decide +kernel
theorem dX10_addRow_13 : decode cX10_addRow 13 = .ok (.getfield 424, 3) := by decide +kernel
theorem dX10_addRow_16 : decode cX10_addRow 16 = .ok (.iload_n 1, 1) := by decide +kernel
theorem dX10_addRow_17 : decode cX10_addRow 17 = .ok (.iload_n 2, 1) := by decide +kernel
theorem dX10_addRow_18 : decode cX10_addRow 18 = .ok (.iload_n 3, 1) := by decide +kernel
theorem dX10_addRow_19 : decode cX10_addRow 19 = .ok (.iload 4, 2) := by decide +kernel
theorem dX10_addRow_21 : decode cX10_addRow 21 = .ok (.iload 5, 2) := by decide +kernel
theorem dX10_addRow_23 : decode cX10_addRow 23 = .ok (.iconst (-1), 1) := by decide +kernel
theorem dX10_addRow_24 : decode cX10_addRow 24 = .ok (.invokevirtual 188, 3) := by decide +kernel
theorem dX10_addRow_27 : decode cX10_addRow 27 = .ok (.aload 8, 2) := by decide +kernel
theorem dX10_addRow_29 : decode cX10_addRow 29 = .ok (.iload 6, 2) := by decide +kernel
theorem dX10_addRow_31 : decode cX10_addRow 31 = .ok (.putfield 427, 3) := by decide +kernel
theorem dX10_addRow_34 : decode cX10_addRow 34 = .ok (.aload 8, 2) := by decide +kernel
theorem dX10_addRow_36 : decode cX10_addRow 36 = .ok (.iload 7, 2) := by decide +kernel
theorem dX10_addRow_38 : decode cX10_addRow 38 = .ok (.putfield 428, 3) := by decide +kernel
theorem dX10_addRow_41 : decode cX10_addRow 41 = .ok (.aload_n 0, 1) := by decide +kernel
theorem dX10_addRow_42 : decode cX10_addRow 42 = .ok (.dup, 1) := by decide +kernel
theorem dX10_addRow_43 : decode cX10_addRow 43 = .ok (.getfield 95, 3) := by decide +kernel
theorem dX10_addRow_46 : decode cX10_addRow 46 = .ok (.iconst 1, 1) := by decide +kernel
theorem dX10_addRow_47 : decode cX10_addRow 47 = .ok (.iadd, 1) := by decide +kernel
theorem dX10_addRow_48 : decode cX10_addRow 48 = .ok (.putfield 95, 3) := by decide +kernel
theorem dX10_addRow_51 : decode cX10_addRow 51 = .ok (.return_, 1) := by decide +kernel
theorem dX10_holdsRow_0 : decode cX10_holdsRow 0 = .ok (.aload_n 0, 1) := by decide +kernel
theorem dX10_holdsRow_1 : decode cX10_holdsRow 1 = .ok (.aload_n 1, 1) := by decide +kernel
theorem dX10_holdsRow_2 : decode cX10_holdsRow 2 = .ok (.iload_n 2, 1) := by decide +kernel
theorem dX10_holdsRow_3 : decode cX10_holdsRow 3 = .ok (.iaload, 1) := by decide +kernel
theorem dX10_holdsRow_4 : decode cX10_holdsRow 4 = .ok (.aload_n 1, 1) := by decide +kernel
theorem dX10_holdsRow_5 : decode cX10_holdsRow 5 = .ok (.iload_n 2, 1) := by decide +kernel
theorem dX10_holdsRow_6 : decode cX10_holdsRow 6 = .ok (.iconst 1, 1) := by decide +kernel
theorem dX10_holdsRow_7 : decode cX10_holdsRow 7 = .ok (.iadd, 1) := by decide +kernel
theorem dX10_holdsRow_8 : decode cX10_holdsRow 8 = .ok (.iaload, 1) := by decide +kernel
theorem dX10_holdsRow_9 : decode cX10_holdsRow 9 = .ok (.aload_n 1, 1) := by decide +kernel
end
section
theorem dX10_holdsRow_10 : decode cX10_holdsRow 10 = .ok (.iload_n 2, 1) := by decide +kernel
theorem dX10_holdsRow_11 : decode cX10_holdsRow 11 = .ok (.iconst 2, 1) := by decide +kernel
theorem dX10_holdsRow_12 : decode cX10_holdsRow 12 = .ok (.iadd, 1) := by decide +kernel
theorem dX10_holdsRow_13 : decode cX10_holdsRow 13 = .ok (.iaload, 1) := by decide +kernel
theorem dX10_holdsRow_14 : decode cX10_holdsRow 14 = .ok (.aload_n 1, 1) := by decide +kernel
theorem dX10_holdsRow_15 : decode cX10_holdsRow 15 = .ok (.iload_n 2, 1) := by decide +kernel
theorem dX10_holdsRow_16 : decode cX10_holdsRow 16 = .ok (.iconst 3, 1) := by decide +kernel
theorem dX10_holdsRow_17 : decode cX10_holdsRow 17 = .ok (.iadd, 1) := by decide +kernel
theorem dX10_holdsRow_18 : decode cX10_holdsRow 18 = .ok (.iaload, 1) := by decide +kernel
theorem dX10_holdsRow_19 : decode cX10_holdsRow 19 = .ok (.aload_n 1, 1) := by decide +kernel
theorem dX10_holdsRow_20 : decode cX10_holdsRow 20 = .ok (.iload_n 2, 1) := by decide +kernel
theorem dX10_holdsRow_21 : decode cX10_holdsRow 21 = .ok (.iconst 4, 1) := by decide +kernel
theorem dX10_holdsRow_22 : decode cX10_holdsRow 22 = .ok (.iadd, 1) := by decide +kernel
theorem dX10_holdsRow_23 : decode cX10_holdsRow 23 = .ok (.iaload, 1) := by decide +kernel
theorem dX10_holdsRow_24 : decode cX10_holdsRow 24 = .ok (.aload_n 1, 1) := by decide +kernel
theorem dX10_holdsRow_25 : decode cX10_holdsRow 25 = .ok (.iload_n 2, 1) := by decide +kernel
theorem dX10_holdsRow_26 : decode cX10_holdsRow 26 = .ok (.iconst 5, 1) := by decide +kernel
theorem dX10_holdsRow_27 : decode cX10_holdsRow 27 = .ok (.iadd, 1) := by decide +kernel
theorem dX10_holdsRow_28 : decode cX10_holdsRow 28 = .ok (.iaload, 1) := by decide +kernel
theorem dX10_holdsRow_29 : decode cX10_holdsRow 29 = .ok (.aload_n 1, 1) := by decide +kernel
theorem dX10_holdsRow_30 : decode cX10_holdsRow 30 = .ok (.iload_n 2, 1) := by decide +kernel
theorem dX10_holdsRow_31 : decode cX10_holdsRow 31 = .ok (.bipush 6, 2) := by decide +kernel
theorem dX10_holdsRow_33 : decode cX10_holdsRow 33 = .ok (.iadd, 1) := by decide +kernel
theorem dX10_holdsRow_34 : decode cX10_holdsRow 34 = .ok (.iaload, 1) := by decide +kernel
theorem dX10_holdsRow_35 : decode cX10_holdsRow 35 = .ok (.invokevirtual 268, 3) := by decide +kernel
theorem dX10_holdsRow_38 : decode cX10_holdsRow 38 = .ok (.ireturn, 1) := by decide +kernel
theorem dX10_addRowFrom_0 : decode cX10_addRowFrom 0 = .ok (.aload_n 0, 1) := by decide +kernel
theorem dX10_addRowFrom_1 : decode cX10_addRowFrom 1 = .ok (.aload_n 1, 1) := by decide +kernel
theorem dX10_addRowFrom_2 : decode cX10_addRowFrom 2 = .ok (.iload_n 2, 1) := by decide +kernel
theorem dX10_addRowFrom_3 : decode cX10_addRowFrom 3 = .ok (.iaload, 1) := by decide +kernel
theorem dX10_addRowFrom_4 : decode cX10_addRowFrom 4 = .ok (.aload_n 1, 1) := by decide +kernel
theorem dX10_addRowFrom_5 : decode cX10_addRowFrom 5 = .ok (.iload_n 2, 1) := by decide +kernel
theorem dX10_addRowFrom_6 : decode cX10_addRowFrom 6 = .ok (.iconst 1, 1) := by decide +kernel
theorem dX10_addRowFrom_7 : decode cX10_addRowFrom 7 = .ok (.iadd, 1) := by decide +kernel
theorem dX10_addRowFrom_8 : decode cX10_addRowFrom 8 = .ok (.iaload, 1) := by decide +kernel
theorem dX10_addRowFrom_9 : decode cX10_addRowFrom 9 = .ok (.aload_n 1, 1) := by decide +kernel
theorem dX10_addRowFrom_10 : decode cX10_addRowFrom 10 = .ok (.iload_n 2, 1) := by decide +kernel
theorem dX10_addRowFrom_11 : decode cX10_addRowFrom 11 = .ok (.iconst 2, 1) := by decide +kernel
theorem dX10_addRowFrom_12 : decode cX10_addRowFrom 12 = .ok (.iadd, 1) := by decide +kernel
theorem dX10_addRowFrom_13 : decode cX10_addRowFrom 13 = .ok (.iaload, 1) := by decide +kernel
theorem dX10_addRowFrom_14 : decode cX10_addRowFrom 14 = .ok (.aload_n 1, 1) := by decide +kernel
theorem dX10_addRowFrom_15 : decode cX10_addRowFrom 15 = .ok (.iload_n 2, 1) := by decide +kernel
theorem dX10_addRowFrom_16 : decode cX10_addRowFrom 16 = .ok (.iconst 3, 1) := by decide +kernel
theorem dX10_addRowFrom_17 : decode cX10_addRowFrom 17 = .ok (.iadd, 1) := by decide +kernel
theorem dX10_addRowFrom_18 : decode cX10_addRowFrom 18 = .ok (.iaload, 1) := by decide +kernel
theorem dX10_addRowFrom_19 : decode cX10_addRowFrom 19 = .ok (.aload_n 1, 1) := by decide +kernel
theorem dX10_addRowFrom_20 : decode cX10_addRowFrom 20 = .ok (.iload_n 2, 1) := by decide +kernel
theorem dX10_addRowFrom_21 : decode cX10_addRowFrom 21 = .ok (.iconst 4, 1) := by decide +kernel
theorem dX10_addRowFrom_22 : decode cX10_addRowFrom 22 = .ok (.iadd, 1) := by decide +kernel
theorem dX10_addRowFrom_23 : decode cX10_addRowFrom 23 = .ok (.iaload, 1) := by decide +kernel
theorem dX10_addRowFrom_24 : decode cX10_addRowFrom 24 = .ok (.aload_n 1, 1) := by decide +kernel
theorem dX10_addRowFrom_25 : decode cX10_addRowFrom 25 = .ok (.iload_n 2, 1) := by decide +kernel
theorem dX10_addRowFrom_26 : decode cX10_addRowFrom 26 = .ok (.iconst 5, 1) := by decide +kernel
theorem dX10_addRowFrom_27 : decode cX10_addRowFrom 27 = .ok (.iadd, 1) := by decide +kernel
theorem dX10_addRowFrom_28 : decode cX10_addRowFrom 28 = .ok (.iaload, 1) := by decide +kernel
theorem dX10_addRowFrom_29 : decode cX10_addRowFrom 29 = .ok (.aload_n 1, 1) := by decide +kernel
theorem dX10_addRowFrom_30 : decode cX10_addRowFrom 30 = .ok (.iload_n 2, 1) := by decide +kernel
theorem dX10_addRowFrom_31 : decode cX10_addRowFrom 31 = .ok (.bipush 6, 2) := by decide +kernel
theorem dX10_addRowFrom_33 : decode cX10_addRowFrom 33 = .ok (.iadd, 1) := by decide +kernel
theorem dX10_addRowFrom_34 : decode cX10_addRowFrom 34 = .ok (.iaload, 1) := by decide +kernel
theorem dX10_addRowFrom_35 : decode cX10_addRowFrom 35 = .ok (.invokevirtual 272, 3) := by decide +kernel
theorem dX10_addRowFrom_38 : decode cX10_addRowFrom 38 = .ok (.return_, 1) := by decide +kernel
theorem dX10_rowsOf_0 : decode cX10_rowsOf 0 = .ok (.iconst 0, 1) := by decide +kernel
theorem dX10_rowsOf_1 : decode cX10_rowsOf 1 = .ok (.istore_n 2, 1) := by decide +kernel
theorem dX10_rowsOf_2 : decode cX10_rowsOf 2 = .ok (.iconst 0, 1) := by decide +kernel
theorem dX10_rowsOf_3 : decode cX10_rowsOf 3 = .ok (.istore_n 3, 1) := by decide +kernel
theorem dX10_rowsOf_4 : decode cX10_rowsOf 4 = .ok (.iload_n 3, 1) := by decide +kernel
theorem dX10_rowsOf_5 : decode cX10_rowsOf 5 = .ok (.aload_n 0, 1) := by decide +kernel
theorem dX10_rowsOf_6 : decode cX10_rowsOf 6 = .ok (.getfield 95, 3) := by decide +kernel
theorem dX10_rowsOf_9 : decode cX10_rowsOf 9 = .ok (.if_icmp .ge 28, 3) := by decide +kernel
theorem dX10_rowsOf_12 : decode cX10_rowsOf 12 = .ok (.aload_n 0, 1) := by decide +kernel
theorem dX10_rowsOf_13 : decode cX10_rowsOf 13 = .ok (.getfield 91, 3) := by decide +kernel
theorem dX10_rowsOf_16 : decode cX10_rowsOf 16 = .ok (.iload_n 3, 1) := by decide +kernel
theorem dX10_rowsOf_17 : decode cX10_rowsOf 17 = .ok (.aaload, 1) := by decide +kernel
theorem dX10_rowsOf_18 : decode cX10_rowsOf 18 = .ok (.getfield 424, 3) := by decide +kernel
theorem dX10_rowsOf_21 : decode cX10_rowsOf 21 = .ok (.getfield 222, 3) := by decide +kernel
theorem dX10_rowsOf_24 : decode cX10_rowsOf 24 = .ok (.iload_n 1, 1) := by decide +kernel
theorem dX10_rowsOf_25 : decode cX10_rowsOf 25 = .ok (.if_icmp .ne 6, 3) := by decide +kernel
theorem dX10_rowsOf_28 : decode cX10_rowsOf 28 = .ok (.iinc 2 1, 3) := by decide +kernel
theorem dX10_rowsOf_31 : decode cX10_rowsOf 31 = .ok (.iinc 3 1, 3) := by decide +kernel
theorem dX10_rowsOf_34 : decode cX10_rowsOf 34 = .ok (.goto (-30), 3) := by decide +kernel
theorem dX10_rowsOf_37 : decode cX10_rowsOf 37 = .ok (.iload_n 2, 1) := by decide +kernel
theorem dX10_rowsOf_38 : decode cX10_rowsOf 38 = .ok (.ireturn, 1) := by decide +kernel
theorem dX10_missOf_0 : decode cX10_missOf 0 = .ok (.aload_n 0, 1) := by decide +kernel
theorem dX10_missOf_1 : decode cX10_missOf 1 = .ok (.aload_n 0, 1) := by decide +kernel
theorem dX10_missOf_2 : decode cX10_missOf 2 = .ok (.getfield 57, 3) := by decide +kernel
theorem dX10_missOf_5 : decode cX10_missOf 5 = .ok (.aload_n 1, 1) := by decide +kernel
theorem dX10_missOf_6 : decode cX10_missOf 6 = .ok (.getfield 424, 3) := by decide +kernel
theorem dX10_missOf_9 : decode cX10_missOf 9 = .ok (.iload_n 2, 1) := by decide +kernel
theorem dX10_missOf_10 : decode cX10_missOf 10 = .ok (.invokevirtual 192, 3) := by decide +kernel
theorem dX10_missOf_13 : decode cX10_missOf 13 = .ok (.pop, 1) := by decide +kernel
theorem dX10_missOf_14 : decode cX10_missOf 14 = .ok (.sipush 9999, 3) := by decide +kernel
theorem dX10_missOf_17 : decode cX10_missOf 17 = .ok (.aload_n 1, 1) := by decide +kernel
theorem dX10_missOf_18 : decode cX10_missOf 18 = .ok (.getfield 427, 3) := by decide +kernel
theorem dX10_missOf_21 : decode cX10_missOf 21 = .ok (.aload_n 0, 1) := by decide +kernel
theorem dX10_missOf_22 : decode cX10_missOf 22 = .ok (.getfield 57, 3) := by decide +kernel
theorem dX10_missOf_25 : decode cX10_missOf 25 = .ok (.getfield 305, 3) := by decide +kernel
theorem dX10_missOf_28 : decode cX10_missOf 28 = .ok (.isub, 1) := by decide +kernel
theorem dX10_missOf_29 : decode cX10_missOf 29 = .ok (.invokestatic 229, 3) := by decide +kernel
theorem dX10_missOf_32 : decode cX10_missOf 32 = .ok (.aload_n 1, 1) := by decide +kernel
theorem dX10_missOf_33 : decode cX10_missOf 33 = .ok (.getfield 428, 3) := by decide +kernel
theorem dX10_missOf_36 : decode cX10_missOf 36 = .ok (.aload_n 0, 1) := by decide +kernel
theorem dX10_missOf_37 : decode cX10_missOf 37 = .ok (.getfield 57, 3) := by decide +kernel
theorem dX10_missOf_40 : decode cX10_missOf 40 = .ok (.getfield 311, 3) := by decide +kernel
theorem dX10_missOf_43 : decode cX10_missOf 43 = .ok (.isub, 1) := by decide +kernel
theorem dX10_missOf_44 : decode cX10_missOf 44 = .ok (.invokestatic 229, 3) := by decide +kernel
theorem dX10_missOf_47 : decode cX10_missOf 47 = .ok (.iadd, 1) := by decide +kernel
theorem dX10_missOf_48 : decode cX10_missOf 48 = .ok (.invokestatic 429, 3) := by decide +kernel
theorem dX10_missOf_51 : decode cX10_missOf 51 = .ok (.ireturn, 1) := by decide +kernel
theorem dX10_missSum_0 : decode cX10_missSum 0 = .ok (.iconst 0, 1) := by decide +kernel
theorem dX10_missSum_1 : decode cX10_missSum 1 = .ok (.istore_n 3, 1) := by decide +kernel
theorem dX10_missSum_2 : decode cX10_missSum 2 = .ok (.iconst 0, 1) := by decide +kernel
theorem dX10_missSum_3 : decode cX10_missSum 3 = .ok (.istore 4, 2) := by decide +kernel
theorem dX10_missSum_5 : decode cX10_missSum 5 = .ok (.iload 4, 2) := by decide +kernel
theorem dX10_missSum_7 : decode cX10_missSum 7 = .ok (.aload_n 0, 1) := by decide +kernel
theorem dX10_missSum_8 : decode cX10_missSum 8 = .ok (.getfield 95, 3) := by decide +kernel
theorem dX10_missSum_11 : decode cX10_missSum 11 = .ok (.if_icmp .ge 41, 3) := by decide +kernel
theorem dX10_missSum_14 : decode cX10_missSum 14 = .ok (.aload_n 0, 1) := by decide +kernel
theorem dX10_missSum_15 : decode cX10_missSum 15 = .ok (.getfield 91, 3) := by decide +kernel
theorem dX10_missSum_18 : decode cX10_missSum 18 = .ok (.iload 4, 2) := by decide +kernel
theorem dX10_missSum_20 : decode cX10_missSum 20 = .ok (.aaload, 1) := by decide +kernel
theorem dX10_missSum_21 : decode cX10_missSum 21 = .ok (.getfield 424, 3) := by decide +kernel
theorem dX10_missSum_24 : decode cX10_missSum 24 = .ok (.getfield 222, 3) := by decide +kernel
theorem dX10_missSum_27 : decode cX10_missSum 27 = .ok (.iload_n 1, 1) := by decide +kernel
theorem dX10_missSum_28 : decode cX10_missSum 28 = .ok (.if_icmp .ne 18, 3) := by decide +kernel
theorem dX10_missSum_31 : decode cX10_missSum 31 = .ok (.iload_n 3, 1) := by decide +kernel
theorem dX10_missSum_32 : decode cX10_missSum 32 = .ok (.aload_n 0, 1) := by decide +kernel
theorem dX10_missSum_33 : decode cX10_missSum 33 = .ok (.aload_n 0, 1) := by decide +kernel
theorem dX10_missSum_34 : decode cX10_missSum 34 = .ok (.getfield 91, 3) := by decide +kernel
theorem dX10_missSum_37 : decode cX10_missSum 37 = .ok (.iload 4, 2) := by decide +kernel
theorem dX10_missSum_39 : decode cX10_missSum 39 = .ok (.aaload, 1) := by decide +kernel
theorem dX10_missSum_40 : decode cX10_missSum 40 = .ok (.iload_n 2, 1) := by decide +kernel
theorem dX10_missSum_41 : decode cX10_missSum 41 = .ok (.invokevirtual 276, 3) := by decide +kernel
theorem dX10_missSum_44 : decode cX10_missSum 44 = .ok (.iadd, 1) := by decide +kernel
theorem dX10_missSum_45 : decode cX10_missSum 45 = .ok (.istore_n 3, 1) := by decide +kernel
theorem dX10_missSum_46 : decode cX10_missSum 46 = .ok (.iinc 4 1, 3) := by decide +kernel
theorem dX10_missSum_49 : decode cX10_missSum 49 = .ok (.goto (-44), 3) := by decide +kernel
theorem dX10_missSum_52 : decode cX10_missSum 52 = .ok (.iload_n 3, 1) := by decide +kernel
theorem dX10_missSum_53 : decode cX10_missSum 53 = .ok (.ireturn, 1) := by decide +kernel
theorem dX10_explainedBend_0 : decode cX10_explainedBend 0 = .ok (.iconst 0, 1) := by decide +kernel
theorem dX10_explainedBend_1 : decode cX10_explainedBend 1 = .ok (.istore_n 2, 1) := by decide +kernel
theorem dX10_explainedBend_2 : decode cX10_explainedBend 2 = .ok (.aload_n 0, 1) := by decide +kernel
theorem dX10_explainedBend_3 : decode cX10_explainedBend 3 = .ok (.iload_n 1, 1) := by decide +kernel
theorem dX10_explainedBend_4 : decode cX10_explainedBend 4 = .ok (.iconst 0, 1) := by decide +kernel
theorem dX10_explainedBend_5 : decode cX10_explainedBend 5 = .ok (.invokevirtual 286, 3) := by decide +kernel
theorem dX10_explainedBend_8 : decode cX10_explainedBend 8 = .ok (.istore_n 3, 1) := by decide +kernel
theorem dX10_explainedBend_9 : decode cX10_explainedBend 9 = .ok (.iconst 1, 1) := by decide +kernel
theorem dX10_explainedBend_10 : decode cX10_explainedBend 10 = .ok (.istore 4, 2) := by decide +kernel
theorem dX10_explainedBend_12 : decode cX10_explainedBend 12 = .ok (.iload 4, 2) := by decide +kernel
theorem dX10_explainedBend_14 : decode cX10_explainedBend 14 = .ok (.bipush 9, 2) := by decide +kernel
theorem dX10_explainedBend_16 : decode cX10_explainedBend 16 = .ok (.if_icmp .gt 51, 3) := by decide +kernel
theorem dX10_explainedBend_19 : decode cX10_explainedBend 19 = .ok (.iconst (-1), 1) := by decide +kernel
theorem dX10_explainedBend_20 : decode cX10_explainedBend 20 = .ok (.istore 5, 2) := by decide +kernel
theorem dX10_explainedBend_22 : decode cX10_explainedBend 22 = .ok (.iload 5, 2) := by decide +kernel
theorem dX10_explainedBend_24 : decode cX10_explainedBend 24 = .ok (.iconst 1, 1) := by decide +kernel
theorem dX10_explainedBend_25 : decode cX10_explainedBend 25 = .ok (.if_icmp .gt 36, 3) := by decide +kernel
theorem dX10_explainedBend_28 : decode cX10_explainedBend 28 = .ok (.aload_n 0, 1) := by decide +kernel
theorem dX10_explainedBend_29 : decode cX10_explainedBend 29 = .ok (.iload_n 1, 1) := by decide +kernel
theorem dX10_explainedBend_30 : decode cX10_explainedBend 30 = .ok (.iload 5, 2) := by decide +kernel
theorem dX10_explainedBend_32 : decode cX10_explainedBend 32 = .ok (.iload 4, 2) := by decide +kernel
theorem dX10_explainedBend_34 : decode cX10_explainedBend 34 = .ok (.imul, 1) := by decide +kernel
theorem dX10_explainedBend_35 : decode cX10_explainedBend 35 = .ok (.invokevirtual 286, 3) := by decide +kernel
theorem dX10_explainedBend_38 : decode cX10_explainedBend 38 = .ok (.istore 6, 2) := by decide +kernel
theorem dX10_explainedBend_40 : decode cX10_explainedBend 40 = .ok (.iload 6, 2) := by decide +kernel
theorem dX10_explainedBend_42 : decode cX10_explainedBend 42 = .ok (.iload_n 3, 1) := by decide +kernel
theorem dX10_explainedBend_43 : decode cX10_explainedBend 43 = .ok (.if_icmp .ge 12, 3) := by decide +kernel
theorem dX10_explainedBend_46 : decode cX10_explainedBend 46 = .ok (.iload 6, 2) := by decide +kernel
theorem dX10_explainedBend_48 : decode cX10_explainedBend 48 = .ok (.istore_n 3, 1) := by decide +kernel
theorem dX10_explainedBend_49 : decode cX10_explainedBend 49 = .ok (.iload 5, 2) := by decide +kernel
theorem dX10_explainedBend_51 : decode cX10_explainedBend 51 = .ok (.iload 4, 2) := by decide +kernel
theorem dX10_explainedBend_53 : decode cX10_explainedBend 53 = .ok (.imul, 1) := by decide +kernel
theorem dX10_explainedBend_54 : decode cX10_explainedBend 54 = .ok (.istore_n 2, 1) := by decide +kernel
theorem dX10_explainedBend_55 : decode cX10_explainedBend 55 = .ok (.iinc 5 2, 3) := by decide +kernel
theorem dX10_explainedBend_58 : decode cX10_explainedBend 58 = .ok (.goto (-36), 3) := by decide +kernel
theorem dX10_explainedBend_61 : decode cX10_explainedBend 61 = .ok (.iinc 4 1, 3) := by decide +kernel
theorem dX10_explainedBend_64 : decode cX10_explainedBend 64 = .ok (.goto (-52), 3) := by decide +kernel
theorem dX10_explainedBend_67 : decode cX10_explainedBend 67 = .ok (.iload_n 2, 1) := by decide +kernel
theorem dX10_explainedBend_68 : decode cX10_explainedBend 68 = .ok (.ireturn, 1) := by decide +kernel
theorem dX11_in_0 : decode cX11_in 0 = .ok (.lload_n 0, 1) := by decide +kernel
theorem dX11_in_1 : decode cX11_in 1 = .ok (.lload_n 2, 1) := by decide +kernel
theorem dX11_in_2 : decode cX11_in 2 = .ok (.lcmp, 1) := by decide +kernel
theorem dX11_in_3 : decode cX11_in 3 = .ok (.ifCond .lt 14, 3) := by decide +kernel
theorem dX11_in_6 : decode cX11_in 6 = .ok (.lload_n 0, 1) := by decide +kernel
theorem dX11_in_7 : decode cX11_in 7 = .ok (.lload 4, 2) := by decide +kernel
theorem dX11_in_9 : decode cX11_in 9 = .ok (.lcmp, 1) := by decide +kernel
theorem dX11_in_10 : decode cX11_in 10 = .ok (.ifCond .gt 7, 3) := by decide +kernel
theorem dX11_in_13 : decode cX11_in 13 = .ok (.iconst 1, 1) := by decide +kernel
theorem dX11_in_14 : decode cX11_in 14 = .ok (.goto 4, 3) := by decide +kernel
theorem dX11_in_17 : decode cX11_in 17 = .ok (.iconst 0, 1) := by decide +kernel
theorem dX11_in_18 : decode cX11_in 18 = .ok (.ireturn, 1) := by decide +kernel
theorem dX11_init_0 : decode cX11_init 0 = .ok (.aload_n 0, 1) := by decide +kernel
theorem dX11_init_1 : decode cX11_init 1 = .ok (.invokespecial 1, 3) := by decide +kernel
theorem dX11_init_4 : decode cX11_init 4 = .ok (.aload_n 0, 1) := by decide +kernel
theorem dX11_init_5 : decode cX11_init 5 = .ok (.bipush 91, 2) := by decide +kernel
theorem dX11_init_7 : decode cX11_init 7 = .ok (.newarray .int, 2) := by decide +kernel
theorem dX11_init_9 : decode cX11_init 9 = .ok (.dup, 1) := by decide +kernel
theorem dX11_init_10 : decode cX11_init 10 = .ok (.iconst 0, 1) := by decide +kernel
theorem dX11_init_11 : decode cX11_init 11 = .ok (.iconst 0, 1) := by decide +kernel
theorem dX11_init_12 : decode cX11_init 12 = .ok (.iastore, 1) := by decide +kernel
theorem dX11_init_13 : decode cX11_init 13 = .ok (.dup, 1) := by decide +kernel
theorem dX11_init_14 : decode cX11_init 14 = .ok (.iconst 1, 1) := by decide +kernel
theorem dX11_init_15 : decode cX11_init 15 = .ok (.bipush 17, 2) := by decide +kernel
theorem dX11_init_17 : decode cX11_init 17 = .ok (.iastore, 1) := by decide +kernel
theorem dX11_init_18 : decode cX11_init 18 = .ok (.dup, 1) := by decide +kernel
theorem dX11_init_19 : decode cX11_init 19 = .ok (.iconst 2, 1) := by decide +kernel
theorem dX11_init_20 : decode cX11_init 20 = .ok (.bipush 35, 2) := by decide +kernel
theorem dX11_init_22 : decode cX11_init 22 = .ok (.iastore, 1) := by decide +kernel
theorem dX11_init_23 : decode cX11_init 23 = .ok (.dup, 1) := by decide +kernel
theorem dX11_init_24 : decode cX11_init 24 = .ok (.iconst 3, 1) := by decide +kernel
theorem dX11_init_25 : decode cX11_init 25 = .ok (.bipush 52, 2) := by decide +kernel
theorem dX11_init_27 : decode cX11_init 27 = .ok (.iastore, 1) := by decide +kernel
theorem dX11_init_28 : decode cX11_init 28 = .ok (.dup, 1) := by decide +kernel
theorem dX11_init_29 : decode cX11_init 29 = .ok (.iconst 4, 1) := by decide +kernel
theorem dX11_init_30 : decode cX11_init 30 = .ok (.bipush 70, 2) := by decide +kernel
theorem dX11_init_32 : decode cX11_init 32 = .ok (.iastore, 1) := by decide +kernel
theorem dX11_init_33 : decode cX11_init 33 = .ok (.dup, 1) := by decide +kernel
theorem dX11_init_34 : decode cX11_init 34 = .ok (.iconst 5, 1) := by decide +kernel
theorem dX11_init_35 : decode cX11_init 35 = .ok (.bipush 87, 2) := by decide +kernel
theorem dX11_init_37 : decode cX11_init 37 = .ok (.iastore, 1) := by decide +kernel
theorem dX11_init_38 : decode cX11_init 38 = .ok (.dup, 1) := by decide +kernel
theorem dX11_init_39 : decode cX11_init 39 = .ok (.bipush 6, 2) := by decide +kernel
theorem dX11_init_41 : decode cX11_init 41 = .ok (.bipush 105, 2) := by decide +kernel
theorem dX11_init_43 : decode cX11_init 43 = .ok (.iastore, 1) := by decide +kernel
theorem dX11_init_44 : decode cX11_init 44 = .ok (.dup, 1) := by decide +kernel
theorem dX11_init_45 : decode cX11_init 45 = .ok (.bipush 7, 2) := by decide +kernel
theorem dX11_init_47 : decode cX11_init 47 = .ok (.bipush 122, 2) := by decide +kernel
theorem dX11_init_49 : decode cX11_init 49 = .ok (.iastore, 1) := by decide +kernel
theorem dX11_init_50 : decode cX11_init 50 = .ok (.dup, 1) := by decide +kernel
theorem dX11_init_51 : decode cX11_init 51 = .ok (.bipush 8, 2) := by decide +kernel
theorem dX11_init_53 : decode cX11_init 53 = .ok (.sipush 139, 3) := by decide +kernel
theorem dX11_init_56 : decode cX11_init 56 = .ok (.iastore, 1) := by decide +kernel
theorem dX11_init_57 : decode cX11_init 57 = .ok (.dup, 1) := by decide +kernel
theorem dX11_init_58 : decode cX11_init 58 = .ok (.bipush 9, 2) := by decide +kernel
theorem dX11_init_60 : decode cX11_init 60 = .ok (.sipush 156, 3) := by decide +kernel
theorem dX11_init_63 : decode cX11_init 63 = .ok (.iastore, 1) := by decide +kernel
theorem dX11_init_64 : decode cX11_init 64 = .ok (.dup, 1) := by decide +kernel
theorem dX11_init_65 : decode cX11_init 65 = .ok (.bipush 10, 2) := by decide +kernel
theorem dX11_init_67 : decode cX11_init 67 = .ok (.sipush 174, 3) := by decide +kernel
theorem dX11_init_70 : decode cX11_init 70 = .ok (.iastore, 1) := by decide +kernel
theorem dX11_init_71 : decode cX11_init 71 = .ok (.dup, 1) := by decide +kernel
theorem dX11_init_72 : decode cX11_init 72 = .ok (.bipush 11, 2) := by decide +kernel
theorem dX11_init_74 : decode cX11_init 74 = .ok (.sipush 191, 3) := by decide +kernel
theorem dX11_init_77 : decode cX11_init 77 = .ok (.iastore, 1) := by decide +kernel
theorem dX11_init_78 : decode cX11_init 78 = .ok (.dup, 1) := by decide +kernel
theorem dX11_init_79 : decode cX11_init 79 = .ok (.bipush 12, 2) := by decide +kernel
theorem dX11_init_81 : decode cX11_init 81 = .ok (.sipush 208, 3) := by decide +kernel
theorem dX11_init_84 : decode cX11_init 84 = .ok (.iastore, 1) := by decide +kernel
theorem dX11_init_85 : decode cX11_init 85 = .ok (.dup, 1) := by decide +kernel
theorem dX11_init_86 : decode cX11_init 86 = .ok (.bipush 13, 2) := by decide +kernel
theorem dX11_init_88 : decode cX11_init 88 = .ok (.sipush 225, 3) := by decide +kernel
theorem dX11_init_91 : decode cX11_init 91 = .ok (.iastore, 1) := by decide +kernel
theorem dX11_init_92 : decode cX11_init 92 = .ok (.dup, 1) := by decide +kernel
theorem dX11_init_93 : decode cX11_init 93 = .ok (.bipush 14, 2) := by decide +kernel
theorem dX11_init_95 : decode cX11_init 95 = .ok (.sipush 242, 3) := by decide +kernel
theorem dX11_init_98 : decode cX11_init 98 = .ok (.iastore, 1) := by decide +kernel
theorem dX11_init_99 : decode cX11_init 99 = .ok (.dup, 1) := by decide +kernel
theorem dX11_init_100 : decode cX11_init 100 = .ok (.bipush 15, 2) := by decide +kernel
theorem dX11_init_102 : decode cX11_init 102 = .ok (.sipush 259, 3) := by decide +kernel
theorem dX11_init_105 : decode cX11_init 105 = .ok (.iastore, 1) := by decide +kernel
theorem dX11_init_106 : decode cX11_init 106 = .ok (.dup, 1) := by decide +kernel
theorem dX11_init_107 : decode cX11_init 107 = .ok (.bipush 16, 2) := by decide +kernel
theorem dX11_init_109 : decode cX11_init 109 = .ok (.sipush 276, 3) := by decide +kernel
theorem dX11_init_112 : decode cX11_init 112 = .ok (.iastore, 1) := by decide +kernel
theorem dX11_init_113 : decode cX11_init 113 = .ok (.dup, 1) := by decide +kernel
theorem dX11_init_114 : decode cX11_init 114 = .ok (.bipush 17, 2) := by decide +kernel
theorem dX11_init_116 : decode cX11_init 116 = .ok (.sipush 292, 3) := by decide +kernel
theorem dX11_init_119 : decode cX11_init 119 = .ok (.iastore, 1) := by decide +kernel
theorem dX11_init_120 : decode cX11_init 120 = .ok (.dup, 1) := by decide +kernel
theorem dX11_init_121 : decode cX11_init 121 = .ok (.bipush 18, 2) := by decide +kernel
theorem dX11_init_123 : decode cX11_init 123 = .ok (.sipush 309, 3) := by decide +kernel
theorem dX11_init_126 : decode cX11_init 126 = .ok (.iastore, 1) := by decide +kernel
theorem dX11_init_127 : decode cX11_init 127 = .ok (.dup, 1) := by decide +kernel
theorem dX11_init_128 : decode cX11_init 128 = .ok (.bipush 19, 2) := by decide +kernel
theorem dX11_init_130 : decode cX11_init 130 = .ok (.sipush 326, 3) := by decide +kernel
theorem dX11_init_133 : decode cX11_init 133 = .ok (.iastore, 1) := by decide +kernel
theorem dX11_init_134 : decode cX11_init 134 = .ok (.dup, 1) := by decide +kernel
theorem dX11_init_135 : decode cX11_init 135 = .ok (.bipush 20, 2) := by decide +kernel
theorem dX11_init_137 : decode cX11_init 137 = .ok (.sipush 342, 3) := by decide +kernel
theorem dX11_init_140 : decode cX11_init 140 = .ok (.iastore, 1) := by decide +kernel
theorem dX11_init_141 : decode cX11_init 141 = .ok (.dup, 1) := by decide +kernel
theorem dX11_init_142 : decode cX11_init 142 = .ok (.bipush 21, 2) := by decide +kernel
theorem dX11_init_144 : decode cX11_init 144 = .ok (.sipush 358, 3) := by decide +kernel
theorem dX11_init_147 : decode cX11_init 147 = .ok (.iastore, 1) := by decide +kernel
theorem dX11_init_148 : decode cX11_init 148 = .ok (.dup, 1) := by decide +kernel
theorem dX11_init_149 : decode cX11_init 149 = .ok (.bipush 22, 2) := by decide +kernel
theorem dX11_init_151 : decode cX11_init 151 = .ok (.sipush 375, 3) := by decide +kernel
theorem dX11_init_154 : decode cX11_init 154 = .ok (.iastore, 1) := by decide +kernel
theorem dX11_init_155 : decode cX11_init 155 = .ok (.dup, 1) := by decide +kernel
theorem dX11_init_156 : decode cX11_init 156 = .ok (.bipush 23, 2) := by decide +kernel
theorem dX11_init_158 : decode cX11_init 158 = .ok (.sipush 391, 3) := by decide +kernel
theorem dX11_init_161 : decode cX11_init 161 = .ok (.iastore, 1) := by decide +kernel
theorem dX11_init_162 : decode cX11_init 162 = .ok (.dup, 1) := by decide +kernel
theorem dX11_init_163 : decode cX11_init 163 = .ok (.bipush 24, 2) := by decide +kernel
theorem dX11_init_165 : decode cX11_init 165 = .ok (.sipush 407, 3) := by decide +kernel
theorem dX11_init_168 : decode cX11_init 168 = .ok (.iastore, 1) := by decide +kernel
theorem dX11_init_169 : decode cX11_init 169 = .ok (.dup, 1) := by decide +kernel
theorem dX11_init_170 : decode cX11_init 170 = .ok (.bipush 25, 2) := by decide +kernel
theorem dX11_init_172 : decode cX11_init 172 = .ok (.sipush 423, 3) := by decide +kernel
theorem dX11_init_175 : decode cX11_init 175 = .ok (.iastore, 1) := by decide +kernel
theorem dX11_init_176 : decode cX11_init 176 = .ok (.dup, 1) := by decide +kernel
theorem dX11_init_177 : decode cX11_init 177 = .ok (.bipush 26, 2) := by decide +kernel
theorem dX11_init_179 : decode cX11_init 179 = .ok (.sipush 438, 3) := by decide +kernel
theorem dX11_init_182 : decode cX11_init 182 = .ok (.iastore, 1) := by decide +kernel
theorem dX11_init_183 : decode cX11_init 183 = .ok (.dup, 1) := by decide +kernel
theorem dX11_init_184 : decode cX11_init 184 = .ok (.bipush 27, 2) := by decide +kernel
theorem dX11_init_186 : decode cX11_init 186 = .ok (.sipush 454, 3) := by decide +kernel
theorem dX11_init_189 : decode cX11_init 189 = .ok (.iastore, 1) := by decide +kernel
theorem dX11_init_190 : decode cX11_init 190 = .ok (.dup, 1) := by decide +kernel
theorem dX11_init_191 : decode cX11_init 191 = .ok (.bipush 28, 2) := by decide +kernel
theorem dX11_init_193 : decode cX11_init 193 = .ok (.sipush 469, 3) := by decide +kernel
theorem dX11_init_196 : decode cX11_init 196 = .ok (.iastore, 1) := by decide +kernel
theorem dX11_init_197 : decode cX11_init 197 = .ok (.dup, 1) := by decide +kernel
theorem dX11_init_198 : decode cX11_init 198 = .ok (.bipush 29, 2) := by decide +kernel
theorem dX11_init_200 : decode cX11_init 200 = .ok (.sipush 485, 3) := by decide +kernel
theorem dX11_init_203 : decode cX11_init 203 = .ok (.iastore, 1) := by decide +kernel
theorem dX11_init_204 : decode cX11_init 204 = .ok (.dup, 1) := by decide +kernel
theorem dX11_init_205 : decode cX11_init 205 = .ok (.bipush 30, 2) := by decide +kernel
theorem dX11_init_207 : decode cX11_init 207 = .ok (.sipush 500, 3) := by decide +kernel
theorem dX11_init_210 : decode cX11_init 210 = .ok (.iastore, 1) := by decide +kernel
theorem dX11_init_211 : decode cX11_init 211 = .ok (.dup, 1) := by decide +kernel
theorem dX11_init_212 : decode cX11_init 212 = .ok (.bipush 31, 2) := by decide +kernel
theorem dX11_init_214 : decode cX11_init 214 = .ok (.sipush 515, 3) := by decide +kernel
theorem dX11_init_217 : decode cX11_init 217 = .ok (.iastore, 1) := by decide +kernel
theorem dX11_init_218 : decode cX11_init 218 = .ok (.dup, 1) := by decide +kernel
theorem dX11_init_219 : decode cX11_init 219 = .ok (.bipush 32, 2) := by decide +kernel
theorem dX11_init_221 : decode cX11_init 221 = .ok (.sipush 530, 3) := by decide +kernel
theorem dX11_init_224 : decode cX11_init 224 = .ok (.iastore, 1) := by decide +kernel
theorem dX11_init_225 : decode cX11_init 225 = .ok (.dup, 1) := by decide +kernel
theorem dX11_init_226 : decode cX11_init 226 = .ok (.bipush 33, 2) := by decide +kernel
theorem dX11_init_228 : decode cX11_init 228 = .ok (.sipush 545, 3) := by decide +kernel
theorem dX11_init_231 : decode cX11_init 231 = .ok (.iastore, 1) := by decide +kernel
theorem dX11_init_232 : decode cX11_init 232 = .ok (.dup, 1) := by decide +kernel
theorem dX11_init_233 : decode cX11_init 233 = .ok (.bipush 34, 2) := by decide +kernel
theorem dX11_init_235 : decode cX11_init 235 = .ok (.sipush 559, 3) := by decide +kernel
theorem dX11_init_238 : decode cX11_init 238 = .ok (.iastore, 1) := by decide +kernel
theorem dX11_init_239 : decode cX11_init 239 = .ok (.dup, 1) := by decide +kernel
theorem dX11_init_240 : decode cX11_init 240 = .ok (.bipush 35, 2) := by decide +kernel
theorem dX11_init_242 : decode cX11_init 242 = .ok (.sipush 574, 3) := by decide +kernel
theorem dX11_init_245 : decode cX11_init 245 = .ok (.iastore, 1) := by decide +kernel
theorem dX11_init_246 : decode cX11_init 246 = .ok (.dup, 1) := by decide +kernel
theorem dX11_init_247 : decode cX11_init 247 = .ok (.bipush 36, 2) := by decide +kernel
theorem dX11_init_249 : decode cX11_init 249 = .ok (.sipush 588, 3) := by decide +kernel
theorem dX11_init_252 : decode cX11_init 252 = .ok (.iastore, 1) := by decide +kernel
theorem dX11_init_253 : decode cX11_init 253 = .ok (.dup, 1) := by decide +kernel
theorem dX11_init_254 : decode cX11_init 254 = .ok (.bipush 37, 2) := by decide +kernel
theorem dX11_init_256 : decode cX11_init 256 = .ok (.sipush 602, 3) := by decide +kernel
theorem dX11_init_259 : decode cX11_init 259 = .ok (.iastore, 1) := by decide +kernel
theorem dX11_init_260 : decode cX11_init 260 = .ok (.dup, 1) := by decide +kernel
theorem dX11_init_261 : decode cX11_init 261 = .ok (.bipush 38, 2) := by decide +kernel
theorem dX11_init_263 : decode cX11_init 263 = .ok (.sipush 616, 3) := by decide +kernel
theorem dX11_init_266 : decode cX11_init 266 = .ok (.iastore, 1) := by decide +kernel
theorem dX11_init_267 : decode cX11_init 267 = .ok (.dup, 1) := by decide +kernel
theorem dX11_init_268 : decode cX11_init 268 = .ok (.bipush 39, 2) := by decide +kernel
theorem dX11_init_270 : decode cX11_init 270 = .ok (.sipush 629, 3) := by decide +kernel
theorem dX11_init_273 : decode cX11_init 273 = .ok (.iastore, 1) := by decide +kernel
theorem dX11_init_274 : decode cX11_init 274 = .ok (.dup, 1) := by decide +kernel
theorem dX11_init_275 : decode cX11_init 275 = .ok (.bipush 40, 2) := by decide +kernel
theorem dX11_init_277 : decode cX11_init 277 = .ok (.sipush 643, 3) := by decide +kernel
theorem dX11_init_280 : decode cX11_init 280 = .ok (.iastore, 1) := by decide +kernel
theorem dX11_init_281 : decode cX11_init 281 = .ok (.dup, 1) := by decide +kernel
theorem dX11_init_282 : decode cX11_init 282 = .ok (.bipush 41, 2) := by decide +kernel
theorem dX11_init_284 : decode cX11_init 284 = .ok (.sipush 656, 3) := by decide +kernel
theorem dX11_init_287 : decode cX11_init 287 = .ok (.iastore, 1) := by decide +kernel
theorem dX11_init_288 : decode cX11_init 288 = .ok (.dup, 1) := by decide +kernel
theorem dX11_init_289 : decode cX11_init 289 = .ok (.bipush 42, 2) := by decide +kernel
theorem dX11_init_291 : decode cX11_init 291 = .ok (.sipush 669, 3) := by decide +kernel
theorem dX11_init_294 : decode cX11_init 294 = .ok (.iastore, 1) := by decide +kernel
theorem dX11_init_295 : decode cX11_init 295 = .ok (.dup, 1) := by decide +kernel
theorem dX11_init_296 : decode cX11_init 296 = .ok (.bipush 43, 2) := by decide +kernel
theorem dX11_init_298 : decode cX11_init 298 = .ok (.sipush 682, 3) := by decide +kernel
theorem dX11_init_301 : decode cX11_init 301 = .ok (.iastore, 1) := by decide +kernel
theorem dX11_init_302 : decode cX11_init 302 = .ok (.dup, 1) := by decide +kernel
theorem dX11_init_303 : decode cX11_init 303 = .ok (.bipush 44, 2) := by decide +kernel
theorem dX11_init_305 : decode cX11_init 305 = .ok (.sipush 695, 3) := by decide +kernel
theorem dX11_init_308 : decode cX11_init 308 = .ok (.iastore, 1) := by decide +kernel
theorem dX11_init_309 : decode cX11_init 309 = .ok (.dup, 1) := by decide +kernel
theorem dX11_init_310 : decode cX11_init 310 = .ok (.bipush 45, 2) := by decide +kernel
theorem dX11_init_312 : decode cX11_init 312 = .ok (.sipush 707, 3) := by decide +kernel
theorem dX11_init_315 : decode cX11_init 315 = .ok (.iastore, 1) := by decide +kernel
theorem dX11_init_316 : decode cX11_init 316 = .ok (.dup, 1) := by decide +kernel
theorem dX11_init_317 : decode cX11_init 317 = .ok (.bipush 46, 2) := by decide +kernel
theorem dX11_init_319 : decode cX11_init 319 = .ok (.sipush 719, 3) := by decide +kernel
theorem dX11_init_322 : decode cX11_init 322 = .ok (.iastore, 1) := by decide +kernel
theorem dX11_init_323 : decode cX11_init 323 = .ok (.dup, 1) := by decide +kernel
theorem dX11_init_324 : decode cX11_init 324 = .ok (.bipush 47, 2) := by decide +kernel
theorem dX11_init_326 : decode cX11_init 326 = .ok (.sipush 731, 3) := by decide +kernel
theorem dX11_init_329 : decode cX11_init 329 = .ok (.iastore, 1) := by decide +kernel
theorem dX11_init_330 : decode cX11_init 330 = .ok (.dup, 1) := by decide +kernel
theorem dX11_init_331 : decode cX11_init 331 = .ok (.bipush 48, 2) := by decide +kernel
theorem dX11_init_333 : decode cX11_init 333 = .ok (.sipush 743, 3) := by decide +kernel
theorem dX11_init_336 : decode cX11_init 336 = .ok (.iastore, 1) := by decide +kernel
theorem dX11_init_337 : decode cX11_init 337 = .ok (.dup, 1) := by decide +kernel
theorem dX11_init_338 : decode cX11_init 338 = .ok (.bipush 49, 2) := by decide +kernel
theorem dX11_init_340 : decode cX11_init 340 = .ok (.sipush 755, 3) := by decide +kernel
theorem dX11_init_343 : decode cX11_init 343 = .ok (.iastore, 1) := by decide +kernel
theorem dX11_init_344 : decode cX11_init 344 = .ok (.dup, 1) := by decide +kernel
theorem dX11_init_345 : decode cX11_init 345 = .ok (.bipush 50, 2) := by decide +kernel
theorem dX11_init_347 : decode cX11_init 347 = .ok (.sipush 766, 3) := by decide +kernel
theorem dX11_init_350 : decode cX11_init 350 = .ok (.iastore, 1) := by decide +kernel
theorem dX11_init_351 : decode cX11_init 351 = .ok (.dup, 1) := by decide +kernel
theorem dX11_init_352 : decode cX11_init 352 = .ok (.bipush 51, 2) := by decide +kernel
theorem dX11_init_354 : decode cX11_init 354 = .ok (.sipush 777, 3) := by decide +kernel
theorem dX11_init_357 : decode cX11_init 357 = .ok (.iastore, 1) := by decide +kernel
theorem dX11_init_358 : decode cX11_init 358 = .ok (.dup, 1) := by decide +kernel
theorem dX11_init_359 : decode cX11_init 359 = .ok (.bipush 52, 2) := by decide +kernel
theorem dX11_init_361 : decode cX11_init 361 = .ok (.sipush 788, 3) := by decide +kernel
theorem dX11_init_364 : decode cX11_init 364 = .ok (.iastore, 1) := by decide +kernel
theorem dX11_init_365 : decode cX11_init 365 = .ok (.dup, 1) := by decide +kernel
theorem dX11_init_366 : decode cX11_init 366 = .ok (.bipush 53, 2) := by decide +kernel
theorem dX11_init_368 : decode cX11_init 368 = .ok (.sipush 799, 3) := by decide +kernel
theorem dX11_init_371 : decode cX11_init 371 = .ok (.iastore, 1) := by decide +kernel
theorem dX11_init_372 : decode cX11_init 372 = .ok (.dup, 1) := by decide +kernel
theorem dX11_init_373 : decode cX11_init 373 = .ok (.bipush 54, 2) := by decide +kernel
theorem dX11_init_375 : decode cX11_init 375 = .ok (.sipush 809, 3) := by decide +kernel
theorem dX11_init_378 : decode cX11_init 378 = .ok (.iastore, 1) := by decide +kernel
theorem dX11_init_379 : decode cX11_init 379 = .ok (.dup, 1) := by decide +kernel
theorem dX11_init_380 : decode cX11_init 380 = .ok (.bipush 55, 2) := by decide +kernel
theorem dX11_init_382 : decode cX11_init 382 = .ok (.sipush 819, 3) := by decide +kernel
theorem dX11_init_385 : decode cX11_init 385 = .ok (.iastore, 1) := by decide +kernel
theorem dX11_init_386 : decode cX11_init 386 = .ok (.dup, 1) := by decide +kernel
theorem dX11_init_387 : decode cX11_init 387 = .ok (.bipush 56, 2) := by decide +kernel
theorem dX11_init_389 : decode cX11_init 389 = .ok (.sipush 829, 3) := by decide +kernel
theorem dX11_init_392 : decode cX11_init 392 = .ok (.iastore, 1) := by decide +kernel
theorem dX11_init_393 : decode cX11_init 393 = .ok (.dup, 1) := by decide +kernel
theorem dX11_init_394 : decode cX11_init 394 = .ok (.bipush 57, 2) := by decide +kernel
theorem dX11_init_396 : decode cX11_init 396 = .ok (.sipush 839, 3) := by decide +kernel
theorem dX11_init_399 : decode cX11_init 399 = .ok (.iastore, 1) := by decide +kernel
theorem dX11_init_400 : decode cX11_init 400 = .ok (.dup, 1) := by decide +kernel
theorem dX11_init_401 : decode cX11_init 401 = .ok (.bipush 58, 2) := by decide +kernel
theorem dX11_init_403 : decode cX11_init 403 = .ok (.sipush 848, 3) := by decide +kernel
theorem dX11_init_406 : decode cX11_init 406 = .ok (.iastore, 1) := by decide +kernel
theorem dX11_init_407 : decode cX11_init 407 = .ok (.dup, 1) := by decide +kernel
theorem dX11_init_408 : decode cX11_init 408 = .ok (.bipush 59, 2) := by decide +kernel
theorem dX11_init_410 : decode cX11_init 410 = .ok (.sipush 857, 3) := by decide +kernel
theorem dX11_init_413 : decode cX11_init 413 = .ok (.iastore, 1) := by decide +kernel
theorem dX11_init_414 : decode cX11_init 414 = .ok (.dup, 1) := by decide +kernel
theorem dX11_init_415 : decode cX11_init 415 = .ok (.bipush 60, 2) := by decide +kernel
theorem dX11_init_417 : decode cX11_init 417 = .ok (.sipush 866, 3) := by decide +kernel
theorem dX11_init_420 : decode cX11_init 420 = .ok (.iastore, 1) := by decide +kernel
theorem dX11_init_421 : decode cX11_init 421 = .ok (.dup, 1) := by decide +kernel
theorem dX11_init_422 : decode cX11_init 422 = .ok (.bipush 61, 2) := by decide +kernel
theorem dX11_init_424 : decode cX11_init 424 = .ok (.sipush 875, 3) := by decide +kernel
theorem dX11_init_427 : decode cX11_init 427 = .ok (.iastore, 1) := by decide +kernel
theorem dX11_init_428 : decode cX11_init 428 = .ok (.dup, 1) := by decide +kernel
theorem dX11_init_429 : decode cX11_init 429 = .ok (.bipush 62, 2) := by decide +kernel
theorem dX11_init_431 : decode cX11_init 431 = .ok (.sipush 883, 3) := by decide +kernel
theorem dX11_init_434 : decode cX11_init 434 = .ok (.iastore, 1) := by decide +kernel
theorem dX11_init_435 : decode cX11_init 435 = .ok (.dup, 1) := by decide +kernel
theorem dX11_init_436 : decode cX11_init 436 = .ok (.bipush 63, 2) := by decide +kernel
theorem dX11_init_438 : decode cX11_init 438 = .ok (.sipush 891, 3) := by decide +kernel
theorem dX11_init_441 : decode cX11_init 441 = .ok (.iastore, 1) := by decide +kernel
theorem dX11_init_442 : decode cX11_init 442 = .ok (.dup, 1) := by decide +kernel
theorem dX11_init_443 : decode cX11_init 443 = .ok (.bipush 64, 2) := by decide +kernel
theorem dX11_init_445 : decode cX11_init 445 = .ok (.sipush 899, 3) := by decide +kernel
theorem dX11_init_448 : decode cX11_init 448 = .ok (.iastore, 1) := by decide +kernel
theorem dX11_init_449 : decode cX11_init 449 = .ok (.dup, 1) := by decide +kernel
theorem dX11_init_450 : decode cX11_init 450 = .ok (.bipush 65, 2) := by decide +kernel
theorem dX11_init_452 : decode cX11_init 452 = .ok (.sipush 906, 3) := by decide +kernel
theorem dX11_init_455 : decode cX11_init 455 = .ok (.iastore, 1) := by decide +kernel
theorem dX11_init_456 : decode cX11_init 456 = .ok (.dup, 1) := by decide +kernel
theorem dX11_init_457 : decode cX11_init 457 = .ok (.bipush 66, 2) := by decide +kernel
theorem dX11_init_459 : decode cX11_init 459 = .ok (.sipush 914, 3) := by decide +kernel
theorem dX11_init_462 : decode cX11_init 462 = .ok (.iastore, 1) := by decide +kernel
theorem dX11_init_463 : decode cX11_init 463 = .ok (.dup, 1) := by decide +kernel
theorem dX11_init_464 : decode cX11_init 464 = .ok (.bipush 67, 2) := by decide +kernel
theorem dX11_init_466 : decode cX11_init 466 = .ok (.sipush 921, 3) := by decide +kernel
theorem dX11_init_469 : decode cX11_init 469 = .ok (.iastore, 1) := by decide +kernel
theorem dX11_init_470 : decode cX11_init 470 = .ok (.dup, 1) := by decide +kernel
theorem dX11_init_471 : decode cX11_init 471 = .ok (.bipush 68, 2) := by decide +kernel
theorem dX11_init_473 : decode cX11_init 473 = .ok (.sipush 927, 3) := by decide +kernel
theorem dX11_init_476 : decode cX11_init 476 = .ok (.iastore, 1) := by decide +kernel
theorem dX11_init_477 : decode cX11_init 477 = .ok (.dup, 1) := by decide +kernel
theorem dX11_init_478 : decode cX11_init 478 = .ok (.bipush 69, 2) := by decide +kernel
theorem dX11_init_480 : decode cX11_init 480 = .ok (.sipush 934, 3) := by decide +kernel
theorem dX11_init_483 : decode cX11_init 483 = .ok (.iastore, 1) := by decide +kernel
theorem dX11_init_484 : decode cX11_init 484 = .ok (.dup, 1) := by decide +kernel
theorem dX11_init_485 : decode cX11_init 485 = .ok (.bipush 70, 2) := by decide +kernel
theorem dX11_init_487 : decode cX11_init 487 = .ok (.sipush 940, 3) := by decide +kernel
theorem dX11_init_490 : decode cX11_init 490 = .ok (.iastore, 1) := by decide +kernel
theorem dX11_init_491 : decode cX11_init 491 = .ok (.dup, 1) := by decide +kernel
theorem dX11_init_492 : decode cX11_init 492 = .ok (.bipush 71, 2) := by decide +kernel
theorem dX11_init_494 : decode cX11_init 494 = .ok (.sipush 946, 3) := by decide +kernel
theorem dX11_init_497 : decode cX11_init 497 = .ok (.iastore, 1) := by decide +kernel
theorem dX11_init_498 : decode cX11_init 498 = .ok (.dup, 1) := by decide +kernel
theorem dX11_init_499 : decode cX11_init 499 = .ok (.bipush 72, 2) := by decide +kernel
theorem dX11_init_501 : decode cX11_init 501 = .ok (.sipush 951, 3) := by decide +kernel
theorem dX11_init_504 : decode cX11_init 504 = .ok (.iastore, 1) := by decide +kernel
theorem dX11_init_505 : decode cX11_init 505 = .ok (.dup, 1) := by decide +kernel
theorem dX11_init_506 : decode cX11_init 506 = .ok (.bipush 73, 2) := by decide +kernel
theorem dX11_init_508 : decode cX11_init 508 = .ok (.sipush 956, 3) := by decide +kernel
theorem dX11_init_511 : decode cX11_init 511 = .ok (.iastore, 1) := by decide +kernel
theorem dX11_init_512 : decode cX11_init 512 = .ok (.dup, 1) := by decide +kernel
theorem dX11_init_513 : decode cX11_init 513 = .ok (.bipush 74, 2) := by decide +kernel
theorem dX11_init_515 : decode cX11_init 515 = .ok (.sipush 961, 3) := by decide +kernel
theorem dX11_init_518 : decode cX11_init 518 = .ok (.iastore, 1) := by decide +kernel
theorem dX11_init_519 : decode cX11_init 519 = .ok (.dup, 1) := by decide +kernel
theorem dX11_init_520 : decode cX11_init 520 = .ok (.bipush 75, 2) := by decide +kernel
theorem dX11_init_522 : decode cX11_init 522 = .ok (.sipush 966, 3) := by decide +kernel
theorem dX11_init_525 : decode cX11_init 525 = .ok (.iastore, 1) := by decide +kernel
theorem dX11_init_526 : decode cX11_init 526 = .ok (.dup, 1) := by decide +kernel
theorem dX11_init_527 : decode cX11_init 527 = .ok (.bipush 76, 2) := by decide +kernel
theorem dX11_init_529 : decode cX11_init 529 = .ok (.sipush 970, 3) := by decide +kernel
theorem dX11_init_532 : decode cX11_init 532 = .ok (.iastore, 1) := by decide +kernel
theorem dX11_init_533 : decode cX11_init 533 = .ok (.dup, 1) := by decide +kernel
theorem dX11_init_534 : decode cX11_init 534 = .ok (.bipush 77, 2) := by decide +kernel
theorem dX11_init_536 : decode cX11_init 536 = .ok (.sipush 974, 3) := by decide +kernel
theorem dX11_init_539 : decode cX11_init 539 = .ok (.iastore, 1) := by decide +kernel
theorem dX11_init_540 : decode cX11_init 540 = .ok (.dup, 1) := by decide +kernel
theorem dX11_init_541 : decode cX11_init 541 = .ok (.bipush 78, 2) := by decide +kernel
theorem dX11_init_543 : decode cX11_init 543 = .ok (.sipush 978, 3) := by decide +kernel
theorem dX11_init_546 : decode cX11_init 546 = .ok (.iastore, 1) := by decide +kernel
theorem dX11_init_547 : decode cX11_init 547 = .ok (.dup, 1) := by decide +kernel
theorem dX11_init_548 : decode cX11_init 548 = .ok (.bipush 79, 2) := by decide +kernel
theorem dX11_init_550 : decode cX11_init 550 = .ok (.sipush 982, 3) := by decide +kernel
theorem dX11_init_553 : decode cX11_init 553 = .ok (.iastore, 1) := by decide +kernel
theorem dX11_init_554 : decode cX11_init 554 = .ok (.dup, 1) := by decide +kernel
theorem dX11_init_555 : decode cX11_init 555 = .ok (.bipush 80, 2) := by decide +kernel
theorem dX11_init_557 : decode cX11_init 557 = .ok (.sipush 985, 3) := by decide +kernel
theorem dX11_init_560 : decode cX11_init 560 = .ok (.iastore, 1) := by decide +kernel
theorem dX11_init_561 : decode cX11_init 561 = .ok (.dup, 1) := by decide +kernel
theorem dX11_init_562 : decode cX11_init 562 = .ok (.bipush 81, 2) := by decide +kernel
theorem dX11_init_564 : decode cX11_init 564 = .ok (.sipush 988, 3) := by decide +kernel
theorem dX11_init_567 : decode cX11_init 567 = .ok (.iastore, 1) := by decide +kernel
theorem dX11_init_568 : decode cX11_init 568 = .ok (.dup, 1) := by decide +kernel
theorem dX11_init_569 : decode cX11_init 569 = .ok (.bipush 82, 2) := by decide +kernel
theorem dX11_init_571 : decode cX11_init 571 = .ok (.sipush 990, 3) := by decide +kernel
theorem dX11_init_574 : decode cX11_init 574 = .ok (.iastore, 1) := by decide +kernel
theorem dX11_init_575 : decode cX11_init 575 = .ok (.dup, 1) := by decide +kernel
theorem dX11_init_576 : decode cX11_init 576 = .ok (.bipush 83, 2) := by decide +kernel
theorem dX11_init_578 : decode cX11_init 578 = .ok (.sipush 993, 3) := by decide +kernel
theorem dX11_init_581 : decode cX11_init 581 = .ok (.iastore, 1) := by decide +kernel
theorem dX11_init_582 : decode cX11_init 582 = .ok (.dup, 1) := by decide +kernel
theorem dX11_init_583 : decode cX11_init 583 = .ok (.bipush 84, 2) := by decide +kernel
theorem dX11_init_585 : decode cX11_init 585 = .ok (.sipush 995, 3) := by decide +kernel
theorem dX11_init_588 : decode cX11_init 588 = .ok (.iastore, 1) := by decide +kernel
theorem dX11_init_589 : decode cX11_init 589 = .ok (.dup, 1) := by decide +kernel
theorem dX11_init_590 : decode cX11_init 590 = .ok (.bipush 85, 2) := by decide +kernel
theorem dX11_init_592 : decode cX11_init 592 = .ok (.sipush 996, 3) := by decide +kernel
theorem dX11_init_595 : decode cX11_init 595 = .ok (.iastore, 1) := by decide +kernel
theorem dX11_init_596 : decode cX11_init 596 = .ok (.dup, 1) := by decide +kernel
theorem dX11_init_597 : decode cX11_init 597 = .ok (.bipush 86, 2) := by decide +kernel
theorem dX11_init_599 : decode cX11_init 599 = .ok (.sipush 998, 3) := by decide +kernel
theorem dX11_init_602 : decode cX11_init 602 = .ok (.iastore, 1) := by decide +kernel
theorem dX11_init_603 : decode cX11_init 603 = .ok (.dup, 1) := by decide +kernel
theorem dX11_init_604 : decode cX11_init 604 = .ok (.bipush 87, 2) := by decide +kernel
theorem dX11_init_606 : decode cX11_init 606 = .ok (.sipush 999, 3) := by decide +kernel
theorem dX11_init_609 : decode cX11_init 609 = .ok (.iastore, 1) := by decide +kernel
theorem dX11_init_610 : decode cX11_init 610 = .ok (.dup, 1) := by decide +kernel
theorem dX11_init_611 : decode cX11_init 611 = .ok (.bipush 88, 2) := by decide +kernel
theorem dX11_init_613 : decode cX11_init 613 = .ok (.sipush 999, 3) := by decide +kernel
theorem dX11_init_616 : decode cX11_init 616 = .ok (.iastore, 1) := by decide +kernel
theorem dX11_init_617 : decode cX11_init 617 = .ok (.dup, 1) := by decide +kernel
theorem dX11_init_618 : decode cX11_init 618 = .ok (.bipush 89, 2) := by decide +kernel
theorem dX11_init_620 : decode cX11_init 620 = .ok (.sipush 1000, 3) := by decide +kernel
theorem dX11_init_623 : decode cX11_init 623 = .ok (.iastore, 1) := by decide +kernel
theorem dX11_init_624 : decode cX11_init 624 = .ok (.dup, 1) := by decide +kernel
theorem dX11_init_625 : decode cX11_init 625 = .ok (.bipush 90, 2) := by decide +kernel
theorem dX11_init_627 : decode cX11_init 627 = .ok (.sipush 1000, 3) := by decide +kernel
theorem dX11_init_630 : decode cX11_init 630 = .ok (.iastore, 1) := by decide +kernel
theorem dX11_init_631 : decode cX11_init 631 = .ok (.putfield 7, 3) := by decide +kernel
theorem dX11_init_634 : decode cX11_init 634 = .ok (.aload_n 0, 1) := by decide +kernel
theorem dX11_init_635 : decode cX11_init 635 = .ok (.bipush 9, 2) := by decide +kernel
theorem dX11_init_637 : decode cX11_init 637 = .ok (.newarray .int, 2) := by decide +kernel
theorem dX11_init_639 : decode cX11_init 639 = .ok (.putfield 13, 3) := by decide +kernel
theorem dX11_init_642 : decode cX11_init 642 = .ok (.aload_n 0, 1) := by decide +kernel
theorem dX11_init_643 : decode cX11_init 643 = .ok (.bipush 9, 2) := by decide +kernel
theorem dX11_init_645 : decode cX11_init 645 = .ok (.newarray .int, 2) := by decide +kernel
theorem dX11_init_647 : decode cX11_init 647 = .ok (.putfield 16, 3) := by decide +kernel
theorem dX11_init_650 : decode cX11_init 650 = .ok (.aload_n 0, 1) := by decide +kernel
theorem dX11_init_651 : decode cX11_init 651 = .ok (.bipush 9, 2) := by decide +kernel
theorem dX11_init_653 : decode cX11_init 653 = .ok (.newarray .int, 2) := by decide +kernel
theorem dX11_init_655 : decode cX11_init 655 = .ok (.putfield 19, 3) := by decide +kernel
theorem dX11_init_658 : decode cX11_init 658 = .ok (.aload_n 0, 1) := by decide +kernel
theorem dX11_init_659 : decode cX11_init 659 = .ok (.bipush 9, 2) := by decide +kernel
theorem dX11_init_661 : decode cX11_init 661 = .ok (.newarray .int, 2) := by decide +kernel
theorem dX11_init_663 : decode cX11_init 663 = .ok (.putfield 22, 3) := by decide +kernel
theorem dX11_init_666 : decode cX11_init 666 = .ok (.aload_n 0, 1) := by decide +kernel
theorem dX11_init_667 : decode cX11_init 667 = .ok (.bipush 9, 2) := by decide +kernel
theorem dX11_init_669 : decode cX11_init 669 = .ok (.newarray .int, 2) := by decide +kernel
theorem dX11_init_671 : decode cX11_init 671 = .ok (.putfield 25, 3) := by decide +kernel
theorem dX11_init_674 : decode cX11_init 674 = .ok (.aload_n 0, 1) := by decide +kernel
theorem dX11_init_675 : decode cX11_init 675 = .ok (.bipush 9, 2) := by decide +kernel
theorem dX11_init_677 : decode cX11_init 677 = .ok (.newarray .int, 2) := by decide +kernel
theorem dX11_init_679 : decode cX11_init 679 = .ok (.putfield 28, 3) := by decide +kernel
theorem dX11_init_682 : decode cX11_init 682 = .ok (.aload_n 0, 1) := by decide +kernel
theorem dX11_init_683 : decode cX11_init 683 = .ok (.bipush 36, 2) := by decide +kernel
theorem dX11_init_685 : decode cX11_init 685 = .ok (.newarray .int, 2) := by decide +kernel
theorem dX11_init_687 : decode cX11_init 687 = .ok (.putfield 31, 3) := by decide +kernel
theorem dX11_init_690 : decode cX11_init 690 = .ok (.aload_n 0, 1) := by decide +kernel
theorem dX11_init_691 : decode cX11_init 691 = .ok (.bipush 9, 2) := by decide +kernel
theorem dX11_init_693 : decode cX11_init 693 = .ok (.newarray .boolean, 2) := by decide +kernel
theorem dX11_init_695 : decode cX11_init 695 = .ok (.putfield 34, 3) := by decide +kernel
theorem dX11_init_698 : decode cX11_init 698 = .ok (.aload_n 0, 1) := by decide +kernel
theorem dX11_init_699 : decode cX11_init 699 = .ok (.bipush 32, 2) := by decide +kernel
theorem dX11_init_701 : decode cX11_init 701 = .ok (.newarray .int, 2) := by decide +kernel
theorem dX11_init_703 : decode cX11_init 703 = .ok (.putfield 38, 3) := by decide +kernel
theorem dX11_init_706 : decode cX11_init 706 = .ok (.aload_n 0, 1) := by decide +kernel
theorem dX11_init_707 : decode cX11_init 707 = .ok (.bipush 32, 2) := by decide +kernel
theorem dX11_init_709 : decode cX11_init 709 = .ok (.newarray .int, 2) := by decide +kernel
theorem dX11_init_711 : decode cX11_init 711 = .ok (.putfield 41, 3) := by decide +kernel
theorem dX11_init_714 : decode cX11_init 714 = .ok (.aload_n 0, 1) := by decide +kernel
theorem dX11_init_715 : decode cX11_init 715 = .ok (.bipush 6, 2) := by decide +kernel
theorem dX11_init_717 : decode cX11_init 717 = .ok (.newarray .int, 2) := by decide +kernel
theorem dX11_init_719 : decode cX11_init 719 = .ok (.putfield 44, 3) := by decide +kernel
theorem dX11_init_722 : decode cX11_init 722 = .ok (.aload_n 0, 1) := by decide +kernel
theorem dX11_init_723 : decode cX11_init 723 = .ok (.bipush 6, 2) := by decide +kernel
theorem dX11_init_725 : decode cX11_init 725 = .ok (.newarray .int, 2) := by decide +kernel
theorem dX11_init_727 : decode cX11_init 727 = .ok (.putfield 47, 3) := by decide +kernel
theorem dX11_init_730 : decode cX11_init 730 = .ok (.aload_n 0, 1) := by decide +kernel
theorem dX11_init_731 : decode cX11_init 731 = .ok (.bipush 6, 2) := by decide +kernel
theorem dX11_init_733 : decode cX11_init 733 = .ok (.newarray .int, 2) := by decide +kernel
theorem dX11_init_735 : decode cX11_init 735 = .ok (.putfield 50, 3) := by decide +kernel
theorem dX11_init_738 : decode cX11_init 738 = .ok (.aload_n 0, 1) := by decide +kernel
theorem dX11_init_739 : decode cX11_init 739 = .ok (.bipush 6, 2) := by decide +kernel
theorem dX11_init_741 : decode cX11_init 741 = .ok (.newarray .int, 2) := by decide +kernel
theorem dX11_init_743 : decode cX11_init 743 = .ok (.putfield 53, 3) := by decide +kernel
theorem dX11_init_746 : decode cX11_init 746 = .ok (.aload_n 0, 1) := by decide +kernel
theorem dX11_init_747 : decode cX11_init 747 = .ok (.sipush 300, 3) := by decide +kernel
theorem dX11_init_750 : decode cX11_init 750 = .ok (.putfield 56, 3) := by decide +kernel
theorem dX11_init_753 : decode cX11_init 753 = .ok (.aload_n 0, 1) := by decide +kernel
theorem dX11_init_754 : decode cX11_init 754 = .ok (.bipush 8, 2) := by decide +kernel
theorem dX11_init_756 : decode cX11_init 756 = .ok (.newarray .int, 2) := by decide +kernel
theorem dX11_init_758 : decode cX11_init 758 = .ok (.putfield 60, 3) := by decide +kernel
theorem dX11_init_761 : decode cX11_init 761 = .ok (.aload_n 0, 1) := by decide +kernel
theorem dX11_init_762 : decode cX11_init 762 = .ok (.bipush (-4), 2) := by decide +kernel
theorem dX11_init_764 : decode cX11_init 764 = .ok (.putfield 63, 3) := by decide +kernel
theorem dX11_init_767 : decode cX11_init 767 = .ok (.aload_n 0, 1) := by decide +kernel
theorem dX11_init_768 : decode cX11_init 768 = .ok (.sipush 3208, 3) := by decide +kernel
theorem dX11_init_771 : decode cX11_init 771 = .ok (.newarray .int, 2) := by decide +kernel
theorem dX11_init_773 : decode cX11_init 773 = .ok (.putfield 66, 3) := by decide +kernel
theorem dX11_init_776 : decode cX11_init 776 = .ok (.aload_n 0, 1) := by decide +kernel
theorem dX11_init_777 : decode cX11_init 777 = .ok (.iconst 4, 1) := by decide +kernel
theorem dX11_init_778 : decode cX11_init 778 = .ok (.newarray .int, 2) := by decide +kernel
theorem dX11_init_780 : decode cX11_init 780 = .ok (.putfield 69, 3) := by decide +kernel
theorem dX11_init_783 : decode cX11_init 783 = .ok (.aload_n 0, 1) := by decide +kernel
theorem dX11_init_784 : decode cX11_init 784 = .ok (.iconst 2, 1) := by decide +kernel
theorem dX11_init_785 : decode cX11_init 785 = .ok (.newarray .boolean, 2) := by decide +kernel
theorem dX11_init_787 : decode cX11_init 787 = .ok (.putfield 72, 3) := by decide +kernel
theorem dX11_init_790 : decode cX11_init 790 = .ok (.aload_n 0, 1) := by decide +kernel
theorem dX11_init_791 : decode cX11_init 791 = .ok (.bipush 12, 2) := by decide +kernel
theorem dX11_init_793 : decode cX11_init 793 = .ok (.newarray .int, 2) := by decide +kernel
theorem dX11_init_795 : decode cX11_init 795 = .ok (.putfield 75, 3) := by decide +kernel
theorem dX11_init_798 : decode cX11_init 798 = .ok (.aload_n 0, 1) := by decide +kernel
theorem dX11_init_799 : decode cX11_init 799 = .ok (.iconst 5, 1) := by decide +kernel
theorem dX11_init_800 : decode cX11_init 800 = .ok (.newarray .int, 2) := by decide +kernel
theorem dX11_init_802 : decode cX11_init 802 = .ok (.putfield 78, 3) := by decide +kernel
theorem dX11_init_805 : decode cX11_init 805 = .ok (.aload_n 0, 1) := by decide +kernel
theorem dX11_init_806 : decode cX11_init 806 = .ok (.bipush 45, 2) := by decide +kernel
theorem dX11_init_808 : decode cX11_init 808 = .ok (.putfield 81, 3) := by decide +kernel
theorem dX11_init_811 : decode cX11_init 811 = .ok (.aload_n 0, 1) := by decide +kernel
theorem dX11_init_812 : decode cX11_init 812 = .ok (.bipush 120, 2) := by decide +kernel
theorem dX11_init_814 : decode cX11_init 814 = .ok (.putfield 84, 3) := by decide +kernel
theorem dX11_init_817 : decode cX11_init 817 = .ok (.aload_n 0, 1) := by decide +kernel
theorem dX11_init_818 : decode cX11_init 818 = .ok (.sipush 800, 3) := by decide +kernel
theorem dX11_init_821 : decode cX11_init 821 = .ok (.putfield 87, 3) := by decide +kernel
theorem dX11_init_824 : decode cX11_init 824 = .ok (.aload_n 0, 1) := by decide +kernel
theorem dX11_init_825 : decode cX11_init 825 = .ok (.iconst 5, 1) := by decide +kernel
theorem dX11_init_826 : decode cX11_init 826 = .ok (.newarray .int, 2) := by decide +kernel
theorem dX11_init_828 : decode cX11_init 828 = .ok (.putfield 90, 3) := by decide +kernel
theorem dX11_init_831 : decode cX11_init 831 = .ok (.aload_n 0, 1) := by decide +kernel
theorem dX11_init_832 : decode cX11_init 832 = .ok (.bipush 45, 2) := by decide +kernel
theorem dX11_init_834 : decode cX11_init 834 = .ok (.newarray .int, 2) := by decide +kernel
theorem dX11_init_836 : decode cX11_init 836 = .ok (.putfield 93, 3) := by decide +kernel
theorem dX11_init_839 : decode cX11_init 839 = .ok (.aload_n 0, 1) := by decide +kernel
theorem dX11_init_840 : decode cX11_init 840 = .ok (.iconst 5, 1) := by decide +kernel
theorem dX11_init_841 : decode cX11_init 841 = .ok (.newarray .int, 2) := by decide +kernel
theorem dX11_init_843 : decode cX11_init 843 = .ok (.putfield 96, 3) := by decide +kernel
theorem dX11_init_846 : decode cX11_init 846 = .ok (.aload_n 0, 1) := by decide +kernel
theorem dX11_init_847 : decode cX11_init 847 = .ok (.iconst 5, 1) := by decide +kernel
theorem dX11_init_848 : decode cX11_init 848 = .ok (.newarray .int, 2) := by decide +kernel
theorem dX11_init_850 : decode cX11_init 850 = .ok (.putfield 99, 3) := by decide +kernel
theorem dX11_init_853 : decode cX11_init 853 = .ok (.aload_n 0, 1) := by decide +kernel
theorem dX11_init_854 : decode cX11_init 854 = .ok (.sipush 210, 3) := by decide +kernel
theorem dX11_init_857 : decode cX11_init 857 = .ok (.newarray .int, 2) := by decide +kernel
theorem dX11_init_859 : decode cX11_init 859 = .ok (.putfield 102, 3) := by decide +kernel
theorem dX11_init_862 : decode cX11_init 862 = .ok (.aload_n 0, 1) := by decide +kernel
theorem dX11_init_863 : decode cX11_init 863 = .ok (.bipush 25, 2) := by decide +kernel
theorem dX11_init_865 : decode cX11_init 865 = .ok (.newarray .int, 2) := by decide +kernel
theorem dX11_init_867 : decode cX11_init 867 = .ok (.putfield 105, 3) := by decide +kernel
theorem dX11_init_870 : decode cX11_init 870 = .ok (.aload_n 0, 1) := by decide +kernel
theorem dX11_init_871 : decode cX11_init 871 = .ok (.bipush 25, 2) := by decide +kernel
theorem dX11_init_873 : decode cX11_init 873 = .ok (.newarray .int, 2) := by decide +kernel
theorem dX11_init_875 : decode cX11_init 875 = .ok (.putfield 108, 3) := by decide +kernel
theorem dX11_init_878 : decode cX11_init 878 = .ok (.aload_n 0, 1) := by decide +kernel
theorem dX11_init_879 : decode cX11_init 879 = .ok (.iconst 4, 1) := by decide +kernel
theorem dX11_init_880 : decode cX11_init 880 = .ok (.newarray .int, 2) := by decide +kernel
theorem dX11_init_882 : decode cX11_init 882 = .ok (.putfield 111, 3) := by decide +kernel
theorem dX11_init_885 : decode cX11_init 885 = .ok (.aload_n 0, 1) := by decide +kernel
theorem dX11_init_886 : decode cX11_init 886 = .ok (.iconst 4, 1) := by decide +kernel
theorem dX11_init_887 : decode cX11_init 887 = .ok (.newarray .int, 2) := by decide +kernel
theorem dX11_init_889 : decode cX11_init 889 = .ok (.putfield 114, 3) := by decide +kernel
theorem dX11_init_892 : decode cX11_init 892 = .ok (.aload_n 0, 1) := by decide +kernel
theorem dX11_init_893 : decode cX11_init 893 = .ok (.sipush 240, 3) := by decide +kernel
theorem dX11_init_896 : decode cX11_init 896 = .ok (.newarray .int, 2) := by decide +kernel
theorem dX11_init_898 : decode cX11_init 898 = .ok (.putfield 117, 3) := by decide +kernel
theorem dX11_init_901 : decode cX11_init 901 = .ok (.aload_n 0, 1) := by decide +kernel
theorem dX11_init_902 : decode cX11_init 902 = .ok (.bipush 60, 2) := by decide +kernel
theorem dX11_init_904 : decode cX11_init 904 = .ok (.newarray .int, 2) := by decide +kernel
theorem dX11_init_906 : decode cX11_init 906 = .ok (.putfield 120, 3) := by decide +kernel
theorem dX11_init_909 : decode cX11_init 909 = .ok (.iconst 0, 1) := by decide +kernel
theorem dX11_init_910 : decode cX11_init 910 = .ok (.istore_n 1, 1) := by decide +kernel
theorem dX11_init_911 : decode cX11_init 911 = .ok (.iload_n 1, 1) := by decide +kernel
theorem dX11_init_912 : decode cX11_init 912 = .ok (.iconst 4, 1) := by decide +kernel
theorem dX11_init_913 : decode cX11_init 913 = .ok (.if_icmp .ge 16, 3) := by decide +kernel
theorem dX11_init_916 : decode cX11_init 916 = .ok (.aload_n 0, 1) := by decide +kernel
theorem dX11_init_917 : decode cX11_init 917 = .ok (.getfield 111, 3) := by decide +kernel
theorem dX11_init_920 : decode cX11_init 920 = .ok (.iload_n 1, 1) := by decide +kernel
theorem dX11_init_921 : decode cX11_init 921 = .ok (.iconst (-1), 1) := by decide +kernel
theorem dX11_init_922 : decode cX11_init 922 = .ok (.iastore, 1) := by decide +kernel
theorem dX11_init_923 : decode cX11_init 923 = .ok (.iinc 1 1, 3) := by decide +kernel
theorem dX11_init_926 : decode cX11_init 926 = .ok (.goto (-15), 3) := by decide +kernel
theorem dX11_init_929 : decode cX11_init 929 = .ok (.iconst 0, 1) := by decide +kernel
theorem dX11_init_930 : decode cX11_init 930 = .ok (.istore_n 1, 1) := by decide +kernel
theorem dX11_init_931 : decode cX11_init 931 = .ok (.iload_n 1, 1) := by decide +kernel
theorem dX11_init_932 : decode cX11_init 932 = .ok (.iconst 5, 1) := by decide +kernel
theorem dX11_init_933 : decode cX11_init 933 = .ok (.if_icmp .ge 17, 3) := by decide +kernel
theorem dX11_init_936 : decode cX11_init 936 = .ok (.aload_n 0, 1) := by decide +kernel
theorem dX11_init_937 : decode cX11_init 937 = .ok (.getfield 78, 3) := by decide +kernel
theorem dX11_init_940 : decode cX11_init 940 = .ok (.iload_n 1, 1) := by decide +kernel
theorem dX11_init_941 : decode cX11_init 941 = .ok (.bipush (-2), 2) := by decide +kernel
theorem dX11_init_943 : decode cX11_init 943 = .ok (.iastore, 1) := by decide +kernel
theorem dX11_init_944 : decode cX11_init 944 = .ok (.iinc 1 1, 3) := by decide +kernel
theorem dX11_init_947 : decode cX11_init 947 = .ok (.goto (-16), 3) := by decide +kernel
theorem dX11_init_950 : decode cX11_init 950 = .ok (.iconst 0, 1) := by decide +kernel
theorem dX11_init_951 : decode cX11_init 951 = .ok (.istore_n 1, 1) := by decide +kernel
theorem dX11_init_952 : decode cX11_init 952 = .ok (.iload_n 1, 1) := by decide +kernel
theorem dX11_init_953 : decode cX11_init 953 = .ok (.bipush 25, 2) := by decide +kernel
theorem dX11_init_955 : decode cX11_init 955 = .ok (.if_icmp .ge 16, 3) := by decide +kernel
theorem dX11_init_958 : decode cX11_init 958 = .ok (.aload_n 0, 1) := by decide +kernel
theorem dX11_init_959 : decode cX11_init 959 = .ok (.getfield 108, 3) := by decide +kernel
theorem dX11_init_962 : decode cX11_init 962 = .ok (.iload_n 1, 1) := by decide +kernel
theorem dX11_init_963 : decode cX11_init 963 = .ok (.iconst 5, 1) := by decide +kernel
theorem dX11_init_964 : decode cX11_init 964 = .ok (.iastore, 1) := by decide +kernel
theorem dX11_init_965 : decode cX11_init 965 = .ok (.iinc 1 1, 3) := by decide +kernel
theorem dX11_init_968 : decode cX11_init 968 = .ok (.goto (-16), 3) := by decide +kernel
theorem dX11_init_971 : decode cX11_init 971 = .ok (.return_, 1) := by decide +kernel
theorem dX11_sine_0 : decode cX11_sine 0 = .ok (.iload_n 1, 1) := by decide +kernel
theorem dX11_sine_1 : decode cX11_sine 1 = .ok (.sipush 180, 3) := by decide +kernel
theorem dX11_sine_4 : decode cX11_sine 4 = .ok (.if_icmp .gt 7, 3) := by decide +kernel
theorem dX11_sine_7 : decode cX11_sine 7 = .ok (.iload_n 1, 1) := by decide +kernel
theorem dX11_sine_8 : decode cX11_sine 8 = .ok (.goto 8, 3) := by decide +kernel
theorem dX11_sine_11 : decode cX11_sine 11 = .ok (.iload_n 1, 1) := by decide +kernel
theorem dX11_sine_12 : decode cX11_sine 12 = .ok (.sipush 180, 3) := by decide +kernel
theorem dX11_sine_15 : decode cX11_sine 15 = .ok (.isub, 1) := by decide +kernel
theorem dX11_sine_16 : decode cX11_sine 16 = .ok (.istore_n 2, 1) := by decide +kernel
theorem dX11_sine_17 : decode cX11_sine 17 = .ok (.aload_n 0, 1) := by decide +kernel
theorem dX11_sine_18 : decode cX11_sine 18 = .ok (.getfield 7, 3) := by decide +kernel
theorem dX11_sine_21 : decode cX11_sine 21 = .ok (.iload_n 2, 1) := by decide +kernel
theorem dX11_sine_22 : decode cX11_sine 22 = .ok (.bipush 90, 2) := by decide +kernel
theorem dX11_sine_24 : decode cX11_sine 24 = .ok (.if_icmp .gt 7, 3) := by decide +kernel
theorem dX11_sine_27 : decode cX11_sine 27 = .ok (.iload_n 2, 1) := by decide +kernel
theorem dX11_sine_28 : decode cX11_sine 28 = .ok (.goto 8, 3) := by decide +kernel
theorem dX11_sine_31 : decode cX11_sine 31 = .ok (.sipush 180, 3) := by decide +kernel
theorem dX11_sine_34 : decode cX11_sine 34 = .ok (.iload_n 2, 1) := by decide +kernel
theorem dX11_sine_35 : decode cX11_sine 35 = .ok (.isub, 1) := by decide +kernel
theorem dX11_sine_36 : decode cX11_sine 36 = .ok (.iaload, 1) := by decide +kernel
theorem dX11_sine_37 : decode cX11_sine 37 = .ok (.istore_n 3, 1) := by decide +kernel
theorem dX11_sine_38 : decode cX11_sine 38 = .ok (.iload_n 1, 1) := by decide +kernel
theorem dX11_sine_39 : decode cX11_sine 39 = .ok (.sipush 180, 3) := by decide +kernel
theorem dX11_sine_42 : decode cX11_sine 42 = .ok (.if_icmp .gt 7, 3) := by decide +kernel
theorem dX11_sine_45 : decode cX11_sine 45 = .ok (.iload_n 3, 1) := by decide +kernel
theorem dX11_sine_46 : decode cX11_sine 46 = .ok (.goto 5, 3) := by decide +kernel
theorem dX11_sine_49 : decode cX11_sine 49 = .ok (.iload_n 3, 1) := by decide +kernel
theorem dX11_sine_50 : decode cX11_sine 50 = .ok (.ineg, 1) := by decide +kernel
theorem dX11_sine_51 : decode cX11_sine 51 = .ok (.ireturn, 1) := by decide +kernel
theorem dX11_cosine_0 : decode cX11_cosine 0 = .ok (.aload_n 0, 1) := by decide +kernel
theorem dX11_cosine_1 : decode cX11_cosine 1 = .ok (.iload_n 1, 1) := by decide +kernel
theorem dX11_cosine_2 : decode cX11_cosine 2 = .ok (.sipush 270, 3) := by decide +kernel
theorem dX11_cosine_5 : decode cX11_cosine 5 = .ok (.if_icmp .ge 10, 3) := by decide +kernel
theorem dX11_cosine_8 : decode cX11_cosine 8 = .ok (.iload_n 1, 1) := by decide +kernel
theorem dX11_cosine_9 : decode cX11_cosine 9 = .ok (.bipush 90, 2) := by decide +kernel
theorem dX11_cosine_11 : decode cX11_cosine 11 = .ok (.iadd, 1) := by decide +kernel
theorem dX11_cosine_12 : decode cX11_cosine 12 = .ok (.goto 8, 3) := by decide +kernel
theorem dX11_cosine_15 : decode cX11_cosine 15 = .ok (.iload_n 1, 1) := by decide +kernel
theorem dX11_cosine_16 : decode cX11_cosine 16 = .ok (.sipush 270, 3) := by decide +kernel
theorem dX11_cosine_19 : decode cX11_cosine 19 = .ok (.isub, 1) := by decide +kernel
theorem dX11_cosine_20 : decode cX11_cosine 20 = .ok (.invokevirtual 123, 3) := by decide +kernel
theorem dX11_cosine_23 : decode cX11_cosine 23 = .ok (.ireturn, 1) := by decide +kernel
theorem dX11_table_0 : decode cX11_table 0 = .ok (.iload_n 1, 1) := by decide +kernel
theorem dX11_table_1 : decode cX11_table 1 = .ok (.i2l, 1) := by decide +kernel
theorem dX11_table_2 : decode cX11_table 2 = .ok (.lconst 0, 1) := by decide +kernel
theorem dX11_table_3 : decode cX11_table 3 = .ok (.lconst 1, 1) := by decide +kernel
theorem dX11_table_4 : decode cX11_table 4 = .ok (.invokestatic 127, 3) := by decide +kernel
theorem dX11_table_7 : decode cX11_table 7 = .ok (.ifCond .eq 15, 3) := by decide +kernel
theorem dX11_table_10 : decode cX11_table 10 = .ok (.iload_n 2, 1) := by decide +kernel
theorem dX11_table_11 : decode cX11_table 11 = .ok (.i2l, 1) := by decide +kernel
theorem dX11_table_12 : decode cX11_table 12 = .ok (.lconst 0, 1) := by decide +kernel
theorem dX11_table_13 : decode cX11_table 13 = .ok (.ldc2_w 131, 3) := by decide +kernel
theorem dX11_table_16 : decode cX11_table 16 = .ok (.invokestatic 127, 3) := by decide +kernel
theorem dX11_table_19 : decode cX11_table 19 = .ok (.ifCond .ne 7, 3) := by decide +kernel
theorem dX11_table_22 : decode cX11_table 22 = .ok (.sipush (-10001), 3) := by decide +kernel
theorem dX11_table_25 : decode cX11_table 25 = .ok (.ireturn, 1) := by decide +kernel
theorem dX11_table_26 : decode cX11_table 26 = .ok (.iload_n 1, 1) := by decide +kernel
theorem dX11_table_27 : decode cX11_table 27 = .ok (.ifCond .ne 11, 3) := by decide +kernel
theorem dX11_table_30 : decode cX11_table 30 = .ok (.aload_n 0, 1) := by decide +kernel
theorem dX11_table_31 : decode cX11_table 31 = .ok (.iload_n 2, 1) := by decide +kernel
theorem dX11_table_32 : decode cX11_table 32 = .ok (.invokevirtual 123, 3) := by decide +kernel
theorem dX11_table_35 : decode cX11_table 35 = .ok (.goto 8, 3) := by decide +kernel
theorem dX11_table_38 : decode cX11_table 38 = .ok (.aload_n 0, 1) := by decide +kernel
theorem dX11_table_39 : decode cX11_table 39 = .ok (.iload_n 2, 1) := by decide +kernel
theorem dX11_table_40 : decode cX11_table 40 = .ok (.invokevirtual 133, 3) := by decide +kernel
theorem dX11_table_43 : decode cX11_table 43 = .ok (.ireturn, 1) := by decide +kernel
theorem dX11_comes_0 : decode cX11_comes 0 = .ok (.iload_n 1, 1) := by decide +kernel
theorem dX11_comes_1 : decode cX11_comes 1 = .ok (.i2l, 1) := by decide +kernel
theorem dX11_comes_2 : decode cX11_comes 2 = .ok (.lconst 1, 1) := by decide +kernel
theorem dX11_comes_3 : decode cX11_comes 3 = .ok (.ldc2_w 136, 3) := by decide +kernel
theorem dX11_comes_6 : decode cX11_comes 6 = .ok (.invokestatic 127, 3) := by decide +kernel
theorem dX11_comes_9 : decode cX11_comes 9 = .ok (.ifCond .eq 40, 3) := by decide +kernel
theorem dX11_comes_12 : decode cX11_comes 12 = .ok (.iload_n 2, 1) := by decide +kernel
theorem dX11_comes_13 : decode cX11_comes 13 = .ok (.i2l, 1) := by decide +kernel
theorem dX11_comes_14 : decode cX11_comes 14 = .ok (.lconst 0, 1) := by decide +kernel
theorem dX11_comes_15 : decode cX11_comes 15 = .ok (.ldc2_w 138, 3) := by decide +kernel
theorem dX11_comes_18 : decode cX11_comes 18 = .ok (.invokestatic 127, 3) := by decide +kernel
theorem dX11_comes_21 : decode cX11_comes 21 = .ok (.ifCond .eq 28, 3) := by decide +kernel
theorem dX11_comes_24 : decode cX11_comes 24 = .ok (.iload_n 3, 1) := by decide +kernel
theorem dX11_comes_25 : decode cX11_comes 25 = .ok (.i2l, 1) := by decide +kernel
theorem dX11_comes_26 : decode cX11_comes 26 = .ok (.lconst 1, 1) := by decide +kernel
theorem dX11_comes_27 : decode cX11_comes 27 = .ok (.ldc2_w 140, 3) := by decide +kernel
theorem dX11_comes_30 : decode cX11_comes 30 = .ok (.invokestatic 127, 3) := by decide +kernel
theorem dX11_comes_33 : decode cX11_comes 33 = .ok (.ifCond .eq 16, 3) := by decide +kernel
theorem dX11_comes_36 : decode cX11_comes 36 = .ok (.iload 4, 2) := by decide +kernel
theorem dX11_comes_38 : decode cX11_comes 38 = .ok (.i2l, 1) := by decide +kernel
theorem dX11_comes_39 : decode cX11_comes 39 = .ok (.lconst 0, 1) := by decide +kernel
theorem dX11_comes_40 : decode cX11_comes 40 = .ok (.ldc2_w 142, 3) := by decide +kernel
theorem dX11_comes_43 : decode cX11_comes 43 = .ok (.invokestatic 127, 3) := by decide +kernel
theorem dX11_comes_46 : decode cX11_comes 46 = .ok (.ifCond .ne 5, 3) := by decide +kernel
theorem dX11_comes_49 : decode cX11_comes 49 = .ok (.iconst (-1), 1) := by decide +kernel
theorem dX11_comes_50 : decode cX11_comes 50 = .ok (.ireturn, 1) := by decide +kernel
theorem dX11_comes_51 : decode cX11_comes 51 = .ok (.aload_n 0, 1) := by decide +kernel
theorem dX11_comes_52 : decode cX11_comes 52 = .ok (.getfield 144, 3) := by decide +kernel
theorem dX11_comes_55 : decode cX11_comes 55 = .ok (.bipush 9, 2) := by decide +kernel
theorem dX11_comes_57 : decode cX11_comes 57 = .ok (.if_icmp .ne 6, 3) := by decide +kernel
theorem dX11_comes_60 : decode cX11_comes 60 = .ok (.bipush (-3), 2) := by decide +kernel
theorem dX11_comes_62 : decode cX11_comes 62 = .ok (.ireturn, 1) := by decide +kernel
theorem dX11_comes_63 : decode cX11_comes 63 = .ok (.aload_n 0, 1) := by decide +kernel
theorem dX11_comes_64 : decode cX11_comes 64 = .ok (.getfield 16, 3) := by decide +kernel
theorem dX11_comes_67 : decode cX11_comes 67 = .ok (.aload_n 0, 1) := by decide +kernel
theorem dX11_comes_68 : decode cX11_comes 68 = .ok (.getfield 144, 3) := by decide +kernel
theorem dX11_comes_71 : decode cX11_comes 71 = .ok (.iload_n 1, 1) := by decide +kernel
theorem dX11_comes_72 : decode cX11_comes 72 = .ok (.iastore, 1) := by decide +kernel
theorem dX11_comes_73 : decode cX11_comes 73 = .ok (.aload_n 0, 1) := by decide +kernel
theorem dX11_comes_74 : decode cX11_comes 74 = .ok (.getfield 19, 3) := by decide +kernel
theorem dX11_comes_77 : decode cX11_comes 77 = .ok (.aload_n 0, 1) := by decide +kernel
theorem dX11_comes_78 : decode cX11_comes 78 = .ok (.getfield 144, 3) := by decide +kernel
theorem dX11_comes_81 : decode cX11_comes 81 = .ok (.iload_n 2, 1) := by decide +kernel
theorem dX11_comes_82 : decode cX11_comes 82 = .ok (.iastore, 1) := by decide +kernel
theorem dX11_comes_83 : decode cX11_comes 83 = .ok (.aload_n 0, 1) := by decide +kernel
theorem dX11_comes_84 : decode cX11_comes 84 = .ok (.getfield 22, 3) := by decide +kernel
theorem dX11_comes_87 : decode cX11_comes 87 = .ok (.aload_n 0, 1) := by decide +kernel
theorem dX11_comes_88 : decode cX11_comes 88 = .ok (.getfield 144, 3) := by decide +kernel
theorem dX11_comes_91 : decode cX11_comes 91 = .ok (.iload_n 3, 1) := by decide +kernel
theorem dX11_comes_92 : decode cX11_comes 92 = .ok (.iastore, 1) := by decide +kernel
theorem dX11_comes_93 : decode cX11_comes 93 = .ok (.aload_n 0, 1) := by decide +kernel
theorem dX11_comes_94 : decode cX11_comes 94 = .ok (.getfield 25, 3) := by decide +kernel
theorem dX11_comes_97 : decode cX11_comes 97 = .ok (.aload_n 0, 1) := by decide +kernel
theorem dX11_comes_98 : decode cX11_comes 98 = .ok (.getfield 144, 3) := by decide +kernel
theorem dX11_comes_101 : decode cX11_comes 101 = .ok (.iload 4, 2) := by decide +kernel
theorem dX11_comes_103 : decode cX11_comes 103 = .ok (.iastore, 1) := by decide +kernel
theorem dX11_comes_104 : decode cX11_comes 104 = .ok (.aload_n 0, 1) := by decide +kernel
theorem dX11_comes_105 : decode cX11_comes 105 = .ok (.getfield 13, 3) := by decide +kernel
theorem dX11_comes_108 : decode cX11_comes 108 = .ok (.aload_n 0, 1) := by decide +kernel
theorem dX11_comes_109 : decode cX11_comes 109 = .ok (.getfield 144, 3) := by decide +kernel
theorem dX11_comes_112 : decode cX11_comes 112 = .ok (.iload 5, 2) := by decide +kernel
theorem dX11_comes_114 : decode cX11_comes 114 = .ok (.iastore, 1) := by decide +kernel
theorem dX11_comes_115 : decode cX11_comes 115 = .ok (.aload_n 0, 1) := by decide +kernel
theorem dX11_comes_116 : decode cX11_comes 116 = .ok (.dup, 1) := by decide +kernel
theorem dX11_comes_117 : decode cX11_comes 117 = .ok (.getfield 144, 3) := by decide +kernel
theorem dX11_comes_120 : decode cX11_comes 120 = .ok (.iconst 1, 1) := by decide +kernel
theorem dX11_comes_121 : decode cX11_comes 121 = .ok (.iadd, 1) := by decide +kernel
theorem dX11_comes_122 : decode cX11_comes 122 = .ok (.putfield 144, 3) := by decide +kernel
theorem dX11_comes_125 : decode cX11_comes 125 = .ok (.aload_n 0, 1) := by decide +kernel
theorem dX11_comes_126 : decode cX11_comes 126 = .ok (.getfield 144, 3) := by decide +kernel
theorem dX11_comes_129 : decode cX11_comes 129 = .ok (.iconst 1, 1) := by decide +kernel
theorem dX11_comes_130 : decode cX11_comes 130 = .ok (.isub, 1) := by decide +kernel
theorem dX11_comes_131 : decode cX11_comes 131 = .ok (.ireturn, 1) := by decide +kernel
theorem dX11_plain_0 : decode cX11_plain 0 = .ok (.aload_n 0, 1) := by decide +kernel
theorem dX11_plain_1 : decode cX11_plain 1 = .ok (.iload_n 1, 1) := by decide +kernel
theorem dX11_plain_2 : decode cX11_plain 2 = .ok (.iload_n 2, 1) := by decide +kernel
theorem dX11_plain_3 : decode cX11_plain 3 = .ok (.iload_n 3, 1) := by decide +kernel
theorem dX11_plain_4 : decode cX11_plain 4 = .ok (.iload 4, 2) := by decide +kernel
theorem dX11_plain_6 : decode cX11_plain 6 = .ok (.iconst 0, 1) := by decide +kernel
theorem dX11_plain_7 : decode cX11_plain 7 = .ok (.invokevirtual 147, 3) := by decide +kernel
theorem dX11_plain_10 : decode cX11_plain 10 = .ok (.ireturn, 1) := by decide +kernel
theorem dX11_winged_0 : decode cX11_winged 0 = .ok (.iload 5, 2) := by decide +kernel
theorem dX11_winged_2 : decode cX11_winged 2 = .ok (.i2l, 1) := by decide +kernel
theorem dX11_winged_3 : decode cX11_winged 3 = .ok (.lconst 1, 1) := by decide +kernel
theorem dX11_winged_4 : decode cX11_winged 4 = .ok (.ldc2_w 151, 3) := by decide +kernel
theorem dX11_winged_7 : decode cX11_winged 7 = .ok (.invokestatic 127, 3) := by decide +kernel
theorem dX11_winged_10 : decode cX11_winged 10 = .ok (.ifCond .eq 17, 3) := by decide +kernel
theorem dX11_winged_13 : decode cX11_winged 13 = .ok (.aload_n 0, 1) := by decide +kernel
theorem dX11_winged_14 : decode cX11_winged 14 = .ok (.iload_n 1, 1) := by decide +kernel
theorem dX11_winged_15 : decode cX11_winged 15 = .ok (.iload_n 2, 1) := by decide +kernel
theorem dX11_winged_16 : decode cX11_winged 16 = .ok (.iload_n 3, 1) := by decide +kernel
theorem dX11_winged_17 : decode cX11_winged 17 = .ok (.iload 4, 2) := by decide +kernel
theorem dX11_winged_19 : decode cX11_winged 19 = .ok (.iload 5, 2) := by decide +kernel
theorem dX11_winged_21 : decode cX11_winged 21 = .ok (.invokevirtual 147, 3) := by decide +kernel
theorem dX11_winged_24 : decode cX11_winged 24 = .ok (.goto 4, 3) := by decide +kernel
theorem dX11_winged_27 : decode cX11_winged 27 = .ok (.iconst (-1), 1) := by decide +kernel
theorem dX11_winged_28 : decode cX11_winged 28 = .ok (.ireturn, 1) := by decide +kernel
theorem dX11_isStick_0 : decode cX11_isStick 0 = .ok (.iload_n 1, 1) := by decide +kernel
theorem dX11_isStick_1 : decode cX11_isStick 1 = .ok (.i2l, 1) := by decide +kernel
theorem dX11_isStick_2 : decode cX11_isStick 2 = .ok (.lconst 0, 1) := by decide +kernel
theorem dX11_isStick_3 : decode cX11_isStick 3 = .ok (.aload_n 0, 1) := by decide +kernel
theorem dX11_isStick_4 : decode cX11_isStick 4 = .ok (.getfield 144, 3) := by decide +kernel
theorem dX11_isStick_7 : decode cX11_isStick 7 = .ok (.iconst 1, 1) := by decide +kernel
theorem dX11_isStick_8 : decode cX11_isStick 8 = .ok (.isub, 1) := by decide +kernel
theorem dX11_isStick_9 : decode cX11_isStick 9 = .ok (.i2l, 1) := by decide +kernel
theorem dX11_isStick_10 : decode cX11_isStick 10 = .ok (.invokestatic 127, 3) := by decide +kernel
theorem dX11_isStick_13 : decode cX11_isStick 13 = .ok (.ireturn, 1) := by decide +kernel
theorem dX11_lift_0 : decode cX11_lift 0 = .ok (.aload_n 0, 1) := by decide +kernel
theorem dX11_lift_1 : decode cX11_lift 1 = .ok (.iload_n 1, 1) := by decide +kernel
theorem dX11_lift_2 : decode cX11_lift 2 = .ok (.invokevirtual 153, 3) := by decide +kernel
theorem dX11_lift_5 : decode cX11_lift 5 = .ok (.ifCond .eq 27, 3) := by decide +kernel
theorem dX11_lift_8 : decode cX11_lift 8 = .ok (.iload_n 2, 1) := by decide +kernel
theorem dX11_lift_9 : decode cX11_lift 9 = .ok (.i2l, 1) := by decide +kernel
theorem dX11_lift_10 : decode cX11_lift 10 = .ok (.lconst 0, 1) := by decide +kernel
theorem dX11_lift_11 : decode cX11_lift 11 = .ok (.ldc2_w 157, 3) := by decide +kernel
theorem dX11_lift_14 : decode cX11_lift 14 = .ok (.invokestatic 127, 3) := by decide +kernel
theorem dX11_lift_17 : decode cX11_lift 17 = .ok (.ifCond .eq 15, 3) := by decide +kernel
theorem dX11_lift_20 : decode cX11_lift 20 = .ok (.iload_n 3, 1) := by decide +kernel
theorem dX11_lift_21 : decode cX11_lift 21 = .ok (.i2l, 1) := by decide +kernel
theorem dX11_lift_22 : decode cX11_lift 22 = .ok (.lconst 0, 1) := by decide +kernel
theorem dX11_lift_23 : decode cX11_lift 23 = .ok (.ldc2_w 159, 3) := by decide +kernel
theorem dX11_lift_26 : decode cX11_lift 26 = .ok (.invokestatic 127, 3) := by decide +kernel
theorem dX11_lift_29 : decode cX11_lift 29 = .ok (.ifCond .ne 5, 3) := by decide +kernel
theorem dX11_lift_32 : decode cX11_lift 32 = .ok (.iconst (-1), 1) := by decide +kernel
theorem dX11_lift_33 : decode cX11_lift 33 = .ok (.ireturn, 1) := by decide +kernel
theorem dX11_lift_34 : decode cX11_lift 34 = .ok (.aload_n 0, 1) := by decide +kernel
theorem dX11_lift_35 : decode cX11_lift 35 = .ok (.getfield 31, 3) := by decide +kernel
theorem dX11_lift_38 : decode cX11_lift 38 = .ok (.iconst 4, 1) := by decide +kernel
theorem dX11_lift_39 : decode cX11_lift 39 = .ok (.iload_n 1, 1) := by decide +kernel
theorem dX11_lift_40 : decode cX11_lift 40 = .ok (.imul, 1) := by decide +kernel
theorem dX11_lift_41 : decode cX11_lift 41 = .ok (.iload_n 2, 1) := by decide +kernel
theorem dX11_lift_42 : decode cX11_lift 42 = .ok (.iadd, 1) := by decide +kernel
theorem dX11_lift_43 : decode cX11_lift 43 = .ok (.iaload, 1) := by decide +kernel
theorem dX11_lift_44 : decode cX11_lift 44 = .ok (.istore 4, 2) := by decide +kernel
theorem dX11_lift_46 : decode cX11_lift 46 = .ok (.aload_n 0, 1) := by decide +kernel
theorem dX11_lift_47 : decode cX11_lift 47 = .ok (.getfield 31, 3) := by decide +kernel
theorem dX11_lift_50 : decode cX11_lift 50 = .ok (.iconst 4, 1) := by decide +kernel
theorem dX11_lift_51 : decode cX11_lift 51 = .ok (.iload_n 1, 1) := by decide +kernel
theorem dX11_lift_52 : decode cX11_lift 52 = .ok (.imul, 1) := by decide +kernel
theorem dX11_lift_53 : decode cX11_lift 53 = .ok (.iload_n 2, 1) := by decide +kernel
theorem dX11_lift_54 : decode cX11_lift 54 = .ok (.iadd, 1) := by decide +kernel
theorem dX11_lift_55 : decode cX11_lift 55 = .ok (.iload_n 3, 1) := by decide +kernel
theorem dX11_lift_56 : decode cX11_lift 56 = .ok (.iastore, 1) := by decide +kernel
theorem dX11_lift_57 : decode cX11_lift 57 = .ok (.iload 4, 2) := by decide +kernel
theorem dX11_lift_59 : decode cX11_lift 59 = .ok (.ireturn, 1) := by decide +kernel
theorem dX11_bend_0 : decode cX11_bend 0 = .ok (.aload_n 0, 1) := by decide +kernel
theorem dX11_bend_1 : decode cX11_bend 1 = .ok (.iload_n 1, 1) := by decide +kernel
theorem dX11_bend_2 : decode cX11_bend 2 = .ok (.invokevirtual 153, 3) := by decide +kernel
theorem dX11_bend_5 : decode cX11_bend 5 = .ok (.ifCond .eq 17, 3) := by decide +kernel
theorem dX11_bend_8 : decode cX11_bend 8 = .ok (.iload_n 2, 1) := by decide +kernel
theorem dX11_bend_9 : decode cX11_bend 9 = .ok (.i2l, 1) := by decide +kernel
theorem dX11_bend_10 : decode cX11_bend 10 = .ok (.ldc2_w 161, 3) := by decide +kernel
theorem dX11_bend_13 : decode cX11_bend 13 = .ok (.ldc2_w 163, 3) := by decide +kernel
theorem dX11_bend_16 : decode cX11_bend 16 = .ok (.invokestatic 127, 3) := by decide +kernel
theorem dX11_bend_19 : decode cX11_bend 19 = .ok (.ifCond .ne 6, 3) := by decide +kernel
theorem dX11_bend_22 : decode cX11_bend 22 = .ok (.bipush (-11), 2) := by decide +kernel
theorem dX11_bend_24 : decode cX11_bend 24 = .ok (.ireturn, 1) := by decide +kernel
theorem dX11_bend_25 : decode cX11_bend 25 = .ok (.aload_n 0, 1) := by decide +kernel
theorem dX11_bend_26 : decode cX11_bend 26 = .ok (.getfield 28, 3) := by decide +kernel
theorem dX11_bend_29 : decode cX11_bend 29 = .ok (.iload_n 1, 1) := by decide +kernel
theorem dX11_bend_30 : decode cX11_bend 30 = .ok (.iaload, 1) := by decide +kernel
theorem dX11_bend_31 : decode cX11_bend 31 = .ok (.istore_n 3, 1) := by decide +kernel
theorem dX11_bend_32 : decode cX11_bend 32 = .ok (.aload_n 0, 1) := by decide +kernel
theorem dX11_bend_33 : decode cX11_bend 33 = .ok (.getfield 28, 3) := by decide +kernel
theorem dX11_bend_36 : decode cX11_bend 36 = .ok (.iload_n 1, 1) := by decide +kernel
theorem dX11_bend_37 : decode cX11_bend 37 = .ok (.iload_n 2, 1) := by decide +kernel
theorem dX11_bend_38 : decode cX11_bend 38 = .ok (.iastore, 1) := by decide +kernel
theorem dX11_bend_39 : decode cX11_bend 39 = .ok (.iload_n 3, 1) := by decide +kernel
theorem dX11_bend_40 : decode cX11_bend 40 = .ok (.ireturn, 1) := by decide +kernel
theorem dX11_told_0 : decode cX11_told 0 = .ok (.aload_n 0, 1) := by decide +kernel
theorem dX11_told_1 : decode cX11_told 1 = .ok (.iload_n 1, 1) := by decide +kernel
theorem dX11_told_2 : decode cX11_told 2 = .ok (.invokevirtual 153, 3) := by decide +kernel
theorem dX11_told_5 : decode cX11_told 5 = .ok (.ifCond .ne 5, 3) := by decide +kernel
theorem dX11_told_8 : decode cX11_told 8 = .ok (.iconst (-1), 1) := by decide +kernel
theorem dX11_told_9 : decode cX11_told 9 = .ok (.ireturn, 1) := by decide +kernel
theorem dX11_told_10 : decode cX11_told 10 = .ok (.iload_n 2, 1) := by decide +kernel
theorem dX11_told_11 : decode cX11_told 11 = .ok (.tableswitch 120 0 6 #[41, 56, 63, 70, 77, 84, 105], 41) := by decide +kernel
theorem dX11_told_52 : decode cX11_told 52 = .ok (.aload_n 0, 1) := by decide +kernel
theorem dX11_told_53 : decode cX11_told 53 = .ok (.getfield 13, 3) := by decide +kernel
theorem dX11_told_56 : decode cX11_told 56 = .ok (.iload_n 1, 1) := by decide +kernel
theorem dX11_told_57 : decode cX11_told 57 = .ok (.iaload, 1) := by decide +kernel
theorem dX11_told_58 : decode cX11_told 58 = .ok (.ifCond .le 7, 3) := by decide +kernel
theorem dX11_told_61 : decode cX11_told 61 = .ok (.iconst 1, 1) := by decide +kernel
theorem dX11_told_62 : decode cX11_told 62 = .ok (.goto 4, 3) := by decide +kernel
theorem dX11_told_65 : decode cX11_told 65 = .ok (.iconst 0, 1) := by decide +kernel
theorem dX11_told_66 : decode cX11_told 66 = .ok (.ireturn, 1) := by decide +kernel
theorem dX11_told_67 : decode cX11_told 67 = .ok (.aload_n 0, 1) := by decide +kernel
theorem dX11_told_68 : decode cX11_told 68 = .ok (.getfield 16, 3) := by decide +kernel
theorem dX11_told_71 : decode cX11_told 71 = .ok (.iload_n 1, 1) := by decide +kernel
theorem dX11_told_72 : decode cX11_told 72 = .ok (.iaload, 1) := by decide +kernel
theorem dX11_told_73 : decode cX11_told 73 = .ok (.ireturn, 1) := by decide +kernel
theorem dX11_told_74 : decode cX11_told 74 = .ok (.aload_n 0, 1) := by decide +kernel
theorem dX11_told_75 : decode cX11_told 75 = .ok (.getfield 19, 3) := by decide +kernel
theorem dX11_told_78 : decode cX11_told 78 = .ok (.iload_n 1, 1) := by decide +kernel
theorem dX11_told_79 : decode cX11_told 79 = .ok (.iaload, 1) := by decide +kernel
theorem dX11_told_80 : decode cX11_told 80 = .ok (.ireturn, 1) := by decide +kernel
theorem dX11_told_81 : decode cX11_told 81 = .ok (.aload_n 0, 1) := by decide +kernel
theorem dX11_told_82 : decode cX11_told 82 = .ok (.getfield 22, 3) := by decide +kernel
theorem dX11_told_85 : decode cX11_told 85 = .ok (.iload_n 1, 1) := by decide +kernel
theorem dX11_told_86 : decode cX11_told 86 = .ok (.iaload, 1) := by decide +kernel
theorem dX11_told_87 : decode cX11_told 87 = .ok (.ireturn, 1) := by decide +kernel
theorem dX11_told_88 : decode cX11_told 88 = .ok (.aload_n 0, 1) := by decide +kernel
theorem dX11_told_89 : decode cX11_told 89 = .ok (.getfield 25, 3) := by decide +kernel
theorem dX11_told_92 : decode cX11_told 92 = .ok (.iload_n 1, 1) := by decide +kernel
theorem dX11_told_93 : decode cX11_told 93 = .ok (.iaload, 1) := by decide +kernel
theorem dX11_told_94 : decode cX11_told 94 = .ok (.ireturn, 1) := by decide +kernel
theorem dX11_told_95 : decode cX11_told 95 = .ok (.aload_n 0, 1) := by decide +kernel
theorem dX11_told_96 : decode cX11_told 96 = .ok (.getfield 13, 3) := by decide +kernel
theorem dX11_told_99 : decode cX11_told 99 = .ok (.iload_n 1, 1) := by decide +kernel
theorem dX11_told_100 : decode cX11_told 100 = .ok (.iaload, 1) := by decide +kernel
theorem dX11_told_101 : decode cX11_told 101 = .ok (.ifCond .le 12, 3) := by decide +kernel
theorem dX11_told_104 : decode cX11_told 104 = .ok (.aload_n 0, 1) := by decide +kernel
theorem dX11_told_105 : decode cX11_told 105 = .ok (.getfield 13, 3) := by decide +kernel
theorem dX11_told_108 : decode cX11_told 108 = .ok (.iload_n 1, 1) := by decide +kernel
theorem dX11_told_109 : decode cX11_told 109 = .ok (.iaload, 1) := by decide +kernel
theorem dX11_told_110 : decode cX11_told 110 = .ok (.goto 5, 3) := by decide +kernel
theorem dX11_told_113 : decode cX11_told 113 = .ok (.bipush (-4), 2) := by decide +kernel
theorem dX11_told_115 : decode cX11_told 115 = .ok (.ireturn, 1) := by decide +kernel
theorem dX11_told_116 : decode cX11_told 116 = .ok (.aload_n 0, 1) := by decide +kernel
theorem dX11_told_117 : decode cX11_told 117 = .ok (.getfield 34, 3) := by decide +kernel
theorem dX11_told_120 : decode cX11_told 120 = .ok (.iload_n 1, 1) := by decide +kernel
theorem dX11_told_121 : decode cX11_told 121 = .ok (.baload, 1) := by decide +kernel
theorem dX11_told_122 : decode cX11_told 122 = .ok (.ifCond .eq 7, 3) := by decide +kernel
theorem dX11_told_125 : decode cX11_told 125 = .ok (.iconst 0, 1) := by decide +kernel
theorem dX11_told_126 : decode cX11_told 126 = .ok (.goto 4, 3) := by decide +kernel
theorem dX11_told_129 : decode cX11_told 129 = .ok (.iconst 1, 1) := by decide +kernel
theorem dX11_told_130 : decode cX11_told 130 = .ok (.ireturn, 1) := by decide +kernel
theorem dX11_told_131 : decode cX11_told 131 = .ok (.iconst (-1), 1) := by decide +kernel
theorem dX11_told_132 : decode cX11_told 132 = .ok (.ireturn, 1) := by decide +kernel
theorem dX11_lose_0 : decode cX11_lose 0 = .ok (.aload_n 0, 1) := by decide +kernel
theorem dX11_lose_1 : decode cX11_lose 1 = .ok (.iload_n 1, 1) := by decide +kernel
theorem dX11_lose_2 : decode cX11_lose 2 = .ok (.invokevirtual 153, 3) := by decide +kernel
theorem dX11_lose_5 : decode cX11_lose 5 = .ok (.ifCond .ne 5, 3) := by decide +kernel
theorem dX11_lose_8 : decode cX11_lose 8 = .ok (.iconst (-1), 1) := by decide +kernel
theorem dX11_lose_9 : decode cX11_lose 9 = .ok (.ireturn, 1) := by decide +kernel
theorem dX11_lose_10 : decode cX11_lose 10 = .ok (.aload_n 0, 1) := by decide +kernel
theorem dX11_lose_11 : decode cX11_lose 11 = .ok (.getfield 34, 3) := by decide +kernel
theorem dX11_lose_14 : decode cX11_lose 14 = .ok (.iload_n 1, 1) := by decide +kernel
theorem dX11_lose_15 : decode cX11_lose 15 = .ok (.baload, 1) := by decide +kernel
theorem dX11_lose_16 : decode cX11_lose 16 = .ok (.istore_n 3, 1) := by decide +kernel
theorem dX11_lose_17 : decode cX11_lose 17 = .ok (.aload_n 0, 1) := by decide +kernel
theorem dX11_lose_18 : decode cX11_lose 18 = .ok (.getfield 34, 3) := by decide +kernel
theorem dX11_lose_21 : decode cX11_lose 21 = .ok (.iload_n 1, 1) := by decide +kernel
theorem dX11_lose_22 : decode cX11_lose 22 = .ok (.iload_n 2, 1) := by decide +kernel
theorem dX11_lose_23 : decode cX11_lose 23 = .ok (.bastore, 1) := by decide +kernel
theorem dX11_lose_24 : decode cX11_lose 24 = .ok (.iload_n 3, 1) := by decide +kernel
theorem dX11_lose_25 : decode cX11_lose 25 = .ok (.ifCond .eq 7, 3) := by decide +kernel
theorem dX11_lose_28 : decode cX11_lose 28 = .ok (.iconst 0, 1) := by decide +kernel
theorem dX11_lose_29 : decode cX11_lose 29 = .ok (.goto 4, 3) := by decide +kernel
theorem dX11_lose_32 : decode cX11_lose 32 = .ok (.iconst 1, 1) := by decide +kernel
theorem dX11_lose_33 : decode cX11_lose 33 = .ok (.ireturn, 1) := by decide +kernel
theorem dX11_wind_0 : decode cX11_wind 0 = .ok (.aload_n 0, 1) := by decide +kernel
theorem dX11_wind_1 : decode cX11_wind 1 = .ok (.getfield 165, 3) := by decide +kernel
theorem dX11_wind_4 : decode cX11_wind 4 = .ok (.bipush 8, 2) := by decide +kernel
theorem dX11_wind_6 : decode cX11_wind 6 = .ok (.if_icmp .ne 6, 3) := by decide +kernel
theorem dX11_wind_9 : decode cX11_wind 9 = .ok (.bipush (-3), 2) := by decide +kernel
theorem dX11_wind_11 : decode cX11_wind 11 = .ok (.ireturn, 1) := by decide +kernel
theorem dX11_wind_12 : decode cX11_wind 12 = .ok (.aload_n 0, 1) := by decide +kernel
theorem dX11_wind_13 : decode cX11_wind 13 = .ok (.dup, 1) := by decide +kernel
theorem dX11_wind_14 : decode cX11_wind 14 = .ok (.getfield 165, 3) := by decide +kernel
theorem dX11_wind_17 : decode cX11_wind 17 = .ok (.iconst 1, 1) := by decide +kernel
theorem dX11_wind_18 : decode cX11_wind 18 = .ok (.iadd, 1) := by decide +kernel
theorem dX11_wind_19 : decode cX11_wind 19 = .ok (.putfield 165, 3) := by decide +kernel
theorem dX11_wind_22 : decode cX11_wind 22 = .ok (.aload_n 0, 1) := by decide +kernel
theorem dX11_wind_23 : decode cX11_wind 23 = .ok (.getfield 165, 3) := by decide +kernel
theorem dX11_wind_26 : decode cX11_wind 26 = .ok (.iconst 1, 1) := by decide +kernel
theorem dX11_wind_27 : decode cX11_wind 27 = .ok (.isub, 1) := by decide +kernel
theorem dX11_wind_28 : decode cX11_wind 28 = .ok (.ireturn, 1) := by decide +kernel
theorem dX11_isWind_0 : decode cX11_isWind 0 = .ok (.iload_n 1, 1) := by decide +kernel
theorem dX11_isWind_1 : decode cX11_isWind 1 = .ok (.i2l, 1) := by decide +kernel
theorem dX11_isWind_2 : decode cX11_isWind 2 = .ok (.ldc2_w 168, 3) := by decide +kernel
theorem dX11_isWind_5 : decode cX11_isWind 5 = .ok (.aload_n 0, 1) := by decide +kernel
theorem dX11_isWind_6 : decode cX11_isWind 6 = .ok (.getfield 165, 3) := by decide +kernel
theorem dX11_isWind_9 : decode cX11_isWind 9 = .ok (.iconst 1, 1) := by decide +kernel
theorem dX11_isWind_10 : decode cX11_isWind 10 = .ok (.isub, 1) := by decide +kernel
theorem dX11_isWind_11 : decode cX11_isWind 11 = .ok (.i2l, 1) := by decide +kernel
theorem dX11_isWind_12 : decode cX11_isWind 12 = .ok (.invokestatic 127, 3) := by decide +kernel
theorem dX11_isWind_15 : decode cX11_isWind 15 = .ok (.ireturn, 1) := by decide +kernel
theorem dX11_blows_0 : decode cX11_blows 0 = .ok (.iload_n 1, 1) := by decide +kernel
theorem dX11_blows_1 : decode cX11_blows 1 = .ok (.i2l, 1) := by decide +kernel
theorem dX11_blows_2 : decode cX11_blows 2 = .ok (.lconst 0, 1) := by decide +kernel
theorem dX11_blows_3 : decode cX11_blows 3 = .ok (.aload_n 0, 1) := by decide +kernel
theorem dX11_blows_4 : decode cX11_blows 4 = .ok (.getfield 165, 3) := by decide +kernel
theorem dX11_blows_7 : decode cX11_blows 7 = .ok (.iconst 1, 1) := by decide +kernel
theorem dX11_blows_8 : decode cX11_blows 8 = .ok (.isub, 1) := by decide +kernel
theorem dX11_blows_9 : decode cX11_blows 9 = .ok (.i2l, 1) := by decide +kernel
theorem dX11_blows_10 : decode cX11_blows 10 = .ok (.invokestatic 127, 3) := by decide +kernel
theorem dX11_blows_13 : decode cX11_blows 13 = .ok (.ifCond .eq 40, 3) := by decide +kernel
theorem dX11_blows_16 : decode cX11_blows 16 = .ok (.iload_n 2, 1) := by decide +kernel
theorem dX11_blows_17 : decode cX11_blows 17 = .ok (.i2l, 1) := by decide +kernel
theorem dX11_blows_18 : decode cX11_blows 18 = .ok (.lconst 0, 1) := by decide +kernel
theorem dX11_blows_19 : decode cX11_blows 19 = .ok (.ldc2_w 157, 3) := by decide +kernel
theorem dX11_blows_22 : decode cX11_blows 22 = .ok (.invokestatic 127, 3) := by decide +kernel
theorem dX11_blows_25 : decode cX11_blows 25 = .ok (.ifCond .eq 28, 3) := by decide +kernel
theorem dX11_blows_28 : decode cX11_blows 28 = .ok (.iload_n 3, 1) := by decide +kernel
theorem dX11_blows_29 : decode cX11_blows 29 = .ok (.i2l, 1) := by decide +kernel
theorem dX11_blows_30 : decode cX11_blows 30 = .ok (.lconst 0, 1) := by decide +kernel
theorem dX11_blows_31 : decode cX11_blows 31 = .ok (.ldc2_w 138, 3) := by decide +kernel
theorem dX11_blows_34 : decode cX11_blows 34 = .ok (.invokestatic 127, 3) := by decide +kernel
theorem dX11_blows_37 : decode cX11_blows 37 = .ok (.ifCond .eq 16, 3) := by decide +kernel
theorem dX11_blows_40 : decode cX11_blows 40 = .ok (.iload 4, 2) := by decide +kernel
theorem dX11_blows_42 : decode cX11_blows 42 = .ok (.i2l, 1) := by decide +kernel
theorem dX11_blows_43 : decode cX11_blows 43 = .ok (.lconst 0, 1) := by decide +kernel
theorem dX11_blows_44 : decode cX11_blows 44 = .ok (.ldc2_w 131, 3) := by decide +kernel
theorem dX11_blows_47 : decode cX11_blows 47 = .ok (.invokestatic 127, 3) := by decide +kernel
theorem dX11_blows_50 : decode cX11_blows 50 = .ok (.ifCond .ne 5, 3) := by decide +kernel
theorem dX11_blows_53 : decode cX11_blows 53 = .ok (.iconst (-1), 1) := by decide +kernel
theorem dX11_blows_54 : decode cX11_blows 54 = .ok (.ireturn, 1) := by decide +kernel
theorem dX11_blows_55 : decode cX11_blows 55 = .ok (.aload_n 0, 1) := by decide +kernel
theorem dX11_blows_56 : decode cX11_blows 56 = .ok (.getfield 38, 3) := by decide +kernel
theorem dX11_blows_59 : decode cX11_blows 59 = .ok (.iconst 4, 1) := by decide +kernel
theorem dX11_blows_60 : decode cX11_blows 60 = .ok (.iload_n 1, 1) := by decide +kernel
theorem dX11_blows_61 : decode cX11_blows 61 = .ok (.imul, 1) := by decide +kernel
theorem dX11_blows_62 : decode cX11_blows 62 = .ok (.iload_n 2, 1) := by decide +kernel
theorem dX11_blows_63 : decode cX11_blows 63 = .ok (.iadd, 1) := by decide +kernel
theorem dX11_blows_64 : decode cX11_blows 64 = .ok (.iaload, 1) := by decide +kernel
theorem dX11_blows_65 : decode cX11_blows 65 = .ok (.istore 5, 2) := by decide +kernel
theorem dX11_blows_67 : decode cX11_blows 67 = .ok (.aload_n 0, 1) := by decide +kernel
theorem dX11_blows_68 : decode cX11_blows 68 = .ok (.getfield 38, 3) := by decide +kernel
theorem dX11_blows_71 : decode cX11_blows 71 = .ok (.iconst 4, 1) := by decide +kernel
theorem dX11_blows_72 : decode cX11_blows 72 = .ok (.iload_n 1, 1) := by decide +kernel
theorem dX11_blows_73 : decode cX11_blows 73 = .ok (.imul, 1) := by decide +kernel
theorem dX11_blows_74 : decode cX11_blows 74 = .ok (.iload_n 2, 1) := by decide +kernel
theorem dX11_blows_75 : decode cX11_blows 75 = .ok (.iadd, 1) := by decide +kernel
theorem dX11_blows_76 : decode cX11_blows 76 = .ok (.iload_n 3, 1) := by decide +kernel
theorem dX11_blows_77 : decode cX11_blows 77 = .ok (.iastore, 1) := by decide +kernel
theorem dX11_blows_78 : decode cX11_blows 78 = .ok (.aload_n 0, 1) := by decide +kernel
theorem dX11_blows_79 : decode cX11_blows 79 = .ok (.getfield 41, 3) := by decide +kernel
theorem dX11_blows_82 : decode cX11_blows 82 = .ok (.iconst 4, 1) := by decide +kernel
theorem dX11_blows_83 : decode cX11_blows 83 = .ok (.iload_n 1, 1) := by decide +kernel
theorem dX11_blows_84 : decode cX11_blows 84 = .ok (.imul, 1) := by decide +kernel
theorem dX11_blows_85 : decode cX11_blows 85 = .ok (.iload_n 2, 1) := by decide +kernel
theorem dX11_blows_86 : decode cX11_blows 86 = .ok (.iadd, 1) := by decide +kernel
theorem dX11_blows_87 : decode cX11_blows 87 = .ok (.iload 4, 2) := by decide +kernel
theorem dX11_blows_89 : decode cX11_blows 89 = .ok (.iastore, 1) := by decide +kernel
theorem dX11_blows_90 : decode cX11_blows 90 = .ok (.iload 5, 2) := by decide +kernel
theorem dX11_blows_92 : decode cX11_blows 92 = .ok (.ireturn, 1) := by decide +kernel
theorem dX11_swing_0 : decode cX11_swing 0 = .ok (.iload_n 1, 1) := by decide +kernel
theorem dX11_swing_1 : decode cX11_swing 1 = .ok (.i2l, 1) := by decide +kernel
theorem dX11_swing_2 : decode cX11_swing 2 = .ok (.lconst 0, 1) := by decide +kernel
theorem dX11_swing_3 : decode cX11_swing 3 = .ok (.aload_n 0, 1) := by decide +kernel
theorem dX11_swing_4 : decode cX11_swing 4 = .ok (.getfield 165, 3) := by decide +kernel
theorem dX11_swing_7 : decode cX11_swing 7 = .ok (.iconst 1, 1) := by decide +kernel
theorem dX11_swing_8 : decode cX11_swing 8 = .ok (.isub, 1) := by decide +kernel
theorem dX11_swing_9 : decode cX11_swing 9 = .ok (.i2l, 1) := by decide +kernel
theorem dX11_swing_10 : decode cX11_swing 10 = .ok (.invokestatic 127, 3) := by decide +kernel
theorem dX11_swing_13 : decode cX11_swing 13 = .ok (.ifCond .eq 17, 3) := by decide +kernel
theorem dX11_swing_16 : decode cX11_swing 16 = .ok (.iload_n 2, 1) := by decide +kernel
theorem dX11_swing_17 : decode cX11_swing 17 = .ok (.i2l, 1) := by decide +kernel
theorem dX11_swing_18 : decode cX11_swing 18 = .ok (.ldc2_w 170, 3) := by decide +kernel
theorem dX11_swing_21 : decode cX11_swing 21 = .ok (.ldc2_w 131, 3) := by decide +kernel
theorem dX11_swing_24 : decode cX11_swing 24 = .ok (.invokestatic 127, 3) := by decide +kernel
theorem dX11_swing_27 : decode cX11_swing 27 = .ok (.ifCond .ne 5, 3) := by decide +kernel
theorem dX11_swing_30 : decode cX11_swing 30 = .ok (.iconst (-1), 1) := by decide +kernel
theorem dX11_swing_31 : decode cX11_swing 31 = .ok (.ireturn, 1) := by decide +kernel
theorem dX11_swing_32 : decode cX11_swing 32 = .ok (.iconst 0, 1) := by decide +kernel
theorem dX11_swing_33 : decode cX11_swing 33 = .ok (.istore_n 3, 1) := by decide +kernel
theorem dX11_swing_34 : decode cX11_swing 34 = .ok (.iload_n 3, 1) := by decide +kernel
theorem dX11_swing_35 : decode cX11_swing 35 = .ok (.iconst 4, 1) := by decide +kernel
theorem dX11_swing_36 : decode cX11_swing 36 = .ok (.if_icmp .ge 39, 3) := by decide +kernel
theorem dX11_swing_39 : decode cX11_swing 39 = .ok (.aload_n 0, 1) := by decide +kernel
theorem dX11_swing_40 : decode cX11_swing 40 = .ok (.getfield 41, 3) := by decide +kernel
theorem dX11_swing_43 : decode cX11_swing 43 = .ok (.iconst 4, 1) := by decide +kernel
theorem dX11_swing_44 : decode cX11_swing 44 = .ok (.iload_n 1, 1) := by decide +kernel
theorem dX11_swing_45 : decode cX11_swing 45 = .ok (.imul, 1) := by decide +kernel
theorem dX11_swing_46 : decode cX11_swing 46 = .ok (.iload_n 3, 1) := by decide +kernel
theorem dX11_swing_47 : decode cX11_swing 47 = .ok (.iadd, 1) := by decide +kernel
theorem dX11_swing_48 : decode cX11_swing 48 = .ok (.aload_n 0, 1) := by decide +kernel
theorem dX11_swing_49 : decode cX11_swing 49 = .ok (.getfield 41, 3) := by decide +kernel
theorem dX11_swing_52 : decode cX11_swing 52 = .ok (.iconst 4, 1) := by decide +kernel
theorem dX11_swing_53 : decode cX11_swing 53 = .ok (.iload_n 1, 1) := by decide +kernel
theorem dX11_swing_54 : decode cX11_swing 54 = .ok (.imul, 1) := by decide +kernel
theorem dX11_swing_55 : decode cX11_swing 55 = .ok (.iload_n 3, 1) := by decide +kernel
theorem dX11_swing_56 : decode cX11_swing 56 = .ok (.iadd, 1) := by decide +kernel
theorem dX11_swing_57 : decode cX11_swing 57 = .ok (.iaload, 1) := by decide +kernel
theorem dX11_swing_58 : decode cX11_swing 58 = .ok (.iload_n 2, 1) := by decide +kernel
theorem dX11_swing_59 : decode cX11_swing 59 = .ok (.iadd, 1) := by decide +kernel
theorem dX11_swing_60 : decode cX11_swing 60 = .ok (.sipush 360, 3) := by decide +kernel
theorem dX11_swing_63 : decode cX11_swing 63 = .ok (.iadd, 1) := by decide +kernel
theorem dX11_swing_64 : decode cX11_swing 64 = .ok (.sipush 360, 3) := by decide +kernel
theorem dX11_swing_67 : decode cX11_swing 67 = .ok (.irem, 1) := by decide +kernel
theorem dX11_swing_68 : decode cX11_swing 68 = .ok (.iastore, 1) := by decide +kernel
theorem dX11_swing_69 : decode cX11_swing 69 = .ok (.iinc 3 1, 3) := by decide +kernel
theorem dX11_swing_72 : decode cX11_swing 72 = .ok (.goto (-38), 3) := by decide +kernel
theorem dX11_swing_75 : decode cX11_swing 75 = .ok (.iconst 1, 1) := by decide +kernel
theorem dX11_swing_76 : decode cX11_swing 76 = .ok (.ireturn, 1) := by decide +kernel
theorem dX11_tree_0 : decode cX11_tree 0 = .ok (.iload_n 1, 1) := by decide +kernel
theorem dX11_tree_1 : decode cX11_tree 1 = .ok (.i2l, 1) := by decide +kernel
theorem dX11_tree_2 : decode cX11_tree 2 = .ok (.ldc2_w 172, 3) := by decide +kernel
theorem dX11_tree_5 : decode cX11_tree 5 = .ok (.ldc2_w 174, 3) := by decide +kernel
theorem dX11_tree_8 : decode cX11_tree 8 = .ok (.invokestatic 127, 3) := by decide +kernel
theorem dX11_tree_11 : decode cX11_tree 11 = .ok (.ifCond .eq 42, 3) := by decide +kernel
theorem dX11_tree_14 : decode cX11_tree 14 = .ok (.iload_n 2, 1) := by decide +kernel
theorem dX11_tree_15 : decode cX11_tree 15 = .ok (.i2l, 1) := by decide +kernel
theorem dX11_tree_16 : decode cX11_tree 16 = .ok (.ldc2_w 172, 3) := by decide +kernel
theorem dX11_tree_19 : decode cX11_tree 19 = .ok (.ldc2_w 174, 3) := by decide +kernel
theorem dX11_tree_22 : decode cX11_tree 22 = .ok (.invokestatic 127, 3) := by decide +kernel
theorem dX11_tree_25 : decode cX11_tree 25 = .ok (.ifCond .eq 28, 3) := by decide +kernel
theorem dX11_tree_28 : decode cX11_tree 28 = .ok (.iload_n 3, 1) := by decide +kernel
theorem dX11_tree_29 : decode cX11_tree 29 = .ok (.i2l, 1) := by decide +kernel
theorem dX11_tree_30 : decode cX11_tree 30 = .ok (.lconst 1, 1) := by decide +kernel
theorem dX11_tree_31 : decode cX11_tree 31 = .ok (.ldc2_w 176, 3) := by decide +kernel
theorem dX11_tree_34 : decode cX11_tree 34 = .ok (.invokestatic 127, 3) := by decide +kernel
theorem dX11_tree_37 : decode cX11_tree 37 = .ok (.ifCond .eq 16, 3) := by decide +kernel
theorem dX11_tree_40 : decode cX11_tree 40 = .ok (.iload 4, 2) := by decide +kernel
theorem dX11_tree_42 : decode cX11_tree 42 = .ok (.i2l, 1) := by decide +kernel
theorem dX11_tree_43 : decode cX11_tree 43 = .ok (.lconst 1, 1) := by decide +kernel
theorem dX11_tree_44 : decode cX11_tree 44 = .ok (.ldc2_w 178, 3) := by decide +kernel
theorem dX11_tree_47 : decode cX11_tree 47 = .ok (.invokestatic 127, 3) := by decide +kernel
theorem dX11_tree_50 : decode cX11_tree 50 = .ok (.ifCond .ne 5, 3) := by decide +kernel
theorem dX11_tree_53 : decode cX11_tree 53 = .ok (.iconst (-1), 1) := by decide +kernel
theorem dX11_tree_54 : decode cX11_tree 54 = .ok (.ireturn, 1) := by decide +kernel
theorem dX11_tree_55 : decode cX11_tree 55 = .ok (.aload_n 0, 1) := by decide +kernel
theorem dX11_tree_56 : decode cX11_tree 56 = .ok (.getfield 180, 3) := by decide +kernel
theorem dX11_tree_59 : decode cX11_tree 59 = .ok (.bipush 6, 2) := by decide +kernel
theorem dX11_tree_61 : decode cX11_tree 61 = .ok (.if_icmp .ne 6, 3) := by decide +kernel
theorem dX11_tree_64 : decode cX11_tree 64 = .ok (.bipush (-3), 2) := by decide +kernel
theorem dX11_tree_66 : decode cX11_tree 66 = .ok (.ireturn, 1) := by decide +kernel
theorem dX11_tree_67 : decode cX11_tree 67 = .ok (.aload_n 0, 1) := by decide +kernel
theorem dX11_tree_68 : decode cX11_tree 68 = .ok (.getfield 44, 3) := by decide +kernel
theorem dX11_tree_71 : decode cX11_tree 71 = .ok (.aload_n 0, 1) := by decide +kernel
theorem dX11_tree_72 : decode cX11_tree 72 = .ok (.getfield 180, 3) := by decide +kernel
theorem dX11_tree_75 : decode cX11_tree 75 = .ok (.iload_n 1, 1) := by decide +kernel
theorem dX11_tree_76 : decode cX11_tree 76 = .ok (.iastore, 1) := by decide +kernel
theorem dX11_tree_77 : decode cX11_tree 77 = .ok (.aload_n 0, 1) := by decide +kernel
theorem dX11_tree_78 : decode cX11_tree 78 = .ok (.getfield 47, 3) := by decide +kernel
theorem dX11_tree_81 : decode cX11_tree 81 = .ok (.aload_n 0, 1) := by decide +kernel
theorem dX11_tree_82 : decode cX11_tree 82 = .ok (.getfield 180, 3) := by decide +kernel
theorem dX11_tree_85 : decode cX11_tree 85 = .ok (.iload_n 2, 1) := by decide +kernel
theorem dX11_tree_86 : decode cX11_tree 86 = .ok (.iastore, 1) := by decide +kernel
theorem dX11_tree_87 : decode cX11_tree 87 = .ok (.aload_n 0, 1) := by decide +kernel
theorem dX11_tree_88 : decode cX11_tree 88 = .ok (.getfield 50, 3) := by decide +kernel
theorem dX11_tree_91 : decode cX11_tree 91 = .ok (.aload_n 0, 1) := by decide +kernel
theorem dX11_tree_92 : decode cX11_tree 92 = .ok (.getfield 180, 3) := by decide +kernel
theorem dX11_tree_95 : decode cX11_tree 95 = .ok (.iload_n 3, 1) := by decide +kernel
theorem dX11_tree_96 : decode cX11_tree 96 = .ok (.iastore, 1) := by decide +kernel
theorem dX11_tree_97 : decode cX11_tree 97 = .ok (.aload_n 0, 1) := by decide +kernel
theorem dX11_tree_98 : decode cX11_tree 98 = .ok (.getfield 53, 3) := by decide +kernel
theorem dX11_tree_101 : decode cX11_tree 101 = .ok (.aload_n 0, 1) := by decide +kernel
theorem dX11_tree_102 : decode cX11_tree 102 = .ok (.getfield 180, 3) := by decide +kernel
theorem dX11_tree_105 : decode cX11_tree 105 = .ok (.iload 4, 2) := by decide +kernel
theorem dX11_tree_107 : decode cX11_tree 107 = .ok (.iastore, 1) := by decide +kernel
theorem dX11_tree_108 : decode cX11_tree 108 = .ok (.aload_n 0, 1) := by decide +kernel
theorem dX11_tree_109 : decode cX11_tree 109 = .ok (.dup, 1) := by decide +kernel
theorem dX11_tree_110 : decode cX11_tree 110 = .ok (.getfield 180, 3) := by decide +kernel
theorem dX11_tree_113 : decode cX11_tree 113 = .ok (.iconst 1, 1) := by decide +kernel
theorem dX11_tree_114 : decode cX11_tree 114 = .ok (.iadd, 1) := by decide +kernel
theorem dX11_tree_115 : decode cX11_tree 115 = .ok (.putfield 180, 3) := by decide +kernel
theorem dX11_tree_118 : decode cX11_tree 118 = .ok (.aload_n 0, 1) := by decide +kernel
theorem dX11_tree_119 : decode cX11_tree 119 = .ok (.getfield 180, 3) := by decide +kernel
theorem dX11_tree_122 : decode cX11_tree 122 = .ok (.iconst 1, 1) := by decide +kernel
theorem dX11_tree_123 : decode cX11_tree 123 = .ok (.isub, 1) := by decide +kernel
theorem dX11_tree_124 : decode cX11_tree 124 = .ok (.ireturn, 1) := by decide +kernel
theorem dX11_ring_0 : decode cX11_ring 0 = .ok (.iload_n 1, 1) := by decide +kernel
theorem dX11_ring_1 : decode cX11_ring 1 = .ok (.i2l, 1) := by decide +kernel
theorem dX11_ring_2 : decode cX11_ring 2 = .ok (.lconst 1, 1) := by decide +kernel
theorem dX11_ring_3 : decode cX11_ring 3 = .ok (.ldc2_w 183, 3) := by decide +kernel
theorem dX11_ring_6 : decode cX11_ring 6 = .ok (.invokestatic 127, 3) := by decide +kernel
theorem dX11_ring_9 : decode cX11_ring 9 = .ok (.ifCond .ne 5, 3) := by decide +kernel
theorem dX11_ring_12 : decode cX11_ring 12 = .ok (.iconst (-1), 1) := by decide +kernel
theorem dX11_ring_13 : decode cX11_ring 13 = .ok (.ireturn, 1) := by decide +kernel
theorem dX11_ring_14 : decode cX11_ring 14 = .ok (.aload_n 0, 1) := by decide +kernel
theorem dX11_ring_15 : decode cX11_ring 15 = .ok (.getfield 56, 3) := by decide +kernel
theorem dX11_ring_18 : decode cX11_ring 18 = .ok (.istore_n 2, 1) := by decide +kernel
theorem dX11_ring_19 : decode cX11_ring 19 = .ok (.aload_n 0, 1) := by decide +kernel
theorem dX11_ring_20 : decode cX11_ring 20 = .ok (.iload_n 1, 1) := by decide +kernel
theorem dX11_ring_21 : decode cX11_ring 21 = .ok (.putfield 56, 3) := by decide +kernel
theorem dX11_ring_24 : decode cX11_ring 24 = .ok (.iload_n 2, 1) := by decide +kernel
theorem dX11_ring_25 : decode cX11_ring 25 = .ok (.ireturn, 1) := by decide +kernel
theorem dX11_keepsTick_0 : decode cX11_keepsTick 0 = .ok (.iconst 0, 1) := by decide +kernel
theorem dX11_keepsTick_1 : decode cX11_keepsTick 1 = .ok (.istore_n 1, 1) := by decide +kernel
theorem dX11_keepsTick_2 : decode cX11_keepsTick 2 = .ok (.iload_n 1, 1) := by decide +kernel
theorem dX11_keepsTick_3 : decode cX11_keepsTick 3 = .ok (.bipush 8, 2) := by decide +kernel
theorem dX11_keepsTick_5 : decode cX11_keepsTick 5 = .ok (.if_icmp .ge 36, 3) := by decide +kernel
theorem dX11_keepsTick_8 : decode cX11_keepsTick 8 = .ok (.aload_n 0, 1) := by decide +kernel
theorem dX11_keepsTick_9 : decode cX11_keepsTick 9 = .ok (.getfield 185, 3) := by decide +kernel
theorem dX11_keepsTick_12 : decode cX11_keepsTick 12 = .ok (.ifCond .eq 29, 3) := by decide +kernel
theorem dX11_keepsTick_15 : decode cX11_keepsTick 15 = .ok (.aload_n 0, 1) := by decide +kernel
theorem dX11_keepsTick_16 : decode cX11_keepsTick 16 = .ok (.getfield 66, 3) := by decide +kernel
theorem dX11_keepsTick_19 : decode cX11_keepsTick 19 = .ok (.bipush 8, 2) := by decide +kernel
theorem dX11_keepsTick_21 : decode cX11_keepsTick 21 = .ok (.aload_n 0, 1) := by decide +kernel
theorem dX11_keepsTick_22 : decode cX11_keepsTick 22 = .ok (.getfield 189, 3) := by decide +kernel
theorem dX11_keepsTick_25 : decode cX11_keepsTick 25 = .ok (.imul, 1) := by decide +kernel
theorem dX11_keepsTick_26 : decode cX11_keepsTick 26 = .ok (.iload_n 1, 1) := by decide +kernel
theorem dX11_keepsTick_27 : decode cX11_keepsTick 27 = .ok (.iadd, 1) := by decide +kernel
theorem dX11_keepsTick_28 : decode cX11_keepsTick 28 = .ok (.aload_n 0, 1) := by decide +kernel
theorem dX11_keepsTick_29 : decode cX11_keepsTick 29 = .ok (.getfield 60, 3) := by decide +kernel
theorem dX11_keepsTick_32 : decode cX11_keepsTick 32 = .ok (.iload_n 1, 1) := by decide +kernel
theorem dX11_keepsTick_33 : decode cX11_keepsTick 33 = .ok (.iaload, 1) := by decide +kernel
theorem dX11_keepsTick_34 : decode cX11_keepsTick 34 = .ok (.iastore, 1) := by decide +kernel
theorem dX11_keepsTick_35 : decode cX11_keepsTick 35 = .ok (.iinc 1 1, 3) := by decide +kernel
theorem dX11_keepsTick_38 : decode cX11_keepsTick 38 = .ok (.goto (-36), 3) := by decide +kernel
theorem dX11_keepsTick_41 : decode cX11_keepsTick 41 = .ok (.return_, 1) := by decide +kernel
theorem dX11_liftOf_0 : decode cX11_liftOf 0 = .ok (.aload_n 0, 1) := by decide +kernel
theorem dX11_liftOf_1 : decode cX11_liftOf 1 = .ok (.getfield 60, 3) := by decide +kernel
theorem dX11_liftOf_4 : decode cX11_liftOf 4 = .ok (.iconst 5, 1) := by decide +kernel
theorem dX11_liftOf_5 : decode cX11_liftOf 5 = .ok (.iaload, 1) := by decide +kernel
theorem dX11_liftOf_6 : decode cX11_liftOf 6 = .ok (.bipush 60, 2) := by decide +kernel
theorem dX11_liftOf_8 : decode cX11_liftOf 8 = .ok (.if_icmp .ge 7, 3) := by decide +kernel
theorem dX11_liftOf_11 : decode cX11_liftOf 11 = .ok (.iconst 0, 1) := by decide +kernel
theorem dX11_liftOf_12 : decode cX11_liftOf 12 = .ok (.goto 35, 3) := by decide +kernel
theorem dX11_liftOf_15 : decode cX11_liftOf 15 = .ok (.aload_n 0, 1) := by decide +kernel
theorem dX11_liftOf_16 : decode cX11_liftOf 16 = .ok (.getfield 60, 3) := by decide +kernel
theorem dX11_liftOf_19 : decode cX11_liftOf 19 = .ok (.iconst 5, 1) := by decide +kernel
theorem dX11_liftOf_20 : decode cX11_liftOf 20 = .ok (.iaload, 1) := by decide +kernel
theorem dX11_liftOf_21 : decode cX11_liftOf 21 = .ok (.bipush 120, 2) := by decide +kernel
theorem dX11_liftOf_23 : decode cX11_liftOf 23 = .ok (.if_icmp .ge 7, 3) := by decide +kernel
theorem dX11_liftOf_26 : decode cX11_liftOf 26 = .ok (.iconst 1, 1) := by decide +kernel
theorem dX11_liftOf_27 : decode cX11_liftOf 27 = .ok (.goto 20, 3) := by decide +kernel
theorem dX11_liftOf_30 : decode cX11_liftOf 30 = .ok (.aload_n 0, 1) := by decide +kernel
theorem dX11_liftOf_31 : decode cX11_liftOf 31 = .ok (.getfield 60, 3) := by decide +kernel
theorem dX11_liftOf_34 : decode cX11_liftOf 34 = .ok (.iconst 5, 1) := by decide +kernel
theorem dX11_liftOf_35 : decode cX11_liftOf 35 = .ok (.iaload, 1) := by decide +kernel
theorem dX11_liftOf_36 : decode cX11_liftOf 36 = .ok (.sipush 180, 3) := by decide +kernel
theorem dX11_liftOf_39 : decode cX11_liftOf 39 = .ok (.if_icmp .ge 7, 3) := by decide +kernel
theorem dX11_liftOf_42 : decode cX11_liftOf 42 = .ok (.iconst 2, 1) := by decide +kernel
theorem dX11_liftOf_43 : decode cX11_liftOf 43 = .ok (.goto 4, 3) := by decide +kernel
theorem dX11_liftOf_46 : decode cX11_liftOf 46 = .ok (.iconst 3, 1) := by decide +kernel
theorem dX11_liftOf_47 : decode cX11_liftOf 47 = .ok (.istore_n 2, 1) := by decide +kernel
theorem dX11_liftOf_48 : decode cX11_liftOf 48 = .ok (.aload_n 0, 1) := by decide +kernel
theorem dX11_liftOf_49 : decode cX11_liftOf 49 = .ok (.getfield 31, 3) := by decide +kernel
theorem dX11_liftOf_52 : decode cX11_liftOf 52 = .ok (.iconst 4, 1) := by decide +kernel
theorem dX11_liftOf_53 : decode cX11_liftOf 53 = .ok (.iload_n 1, 1) := by decide +kernel
theorem dX11_liftOf_54 : decode cX11_liftOf 54 = .ok (.imul, 1) := by decide +kernel
theorem dX11_liftOf_55 : decode cX11_liftOf 55 = .ok (.iload_n 2, 1) := by decide +kernel
theorem dX11_liftOf_56 : decode cX11_liftOf 56 = .ok (.iadd, 1) := by decide +kernel
theorem dX11_liftOf_57 : decode cX11_liftOf 57 = .ok (.iaload, 1) := by decide +kernel
theorem dX11_liftOf_58 : decode cX11_liftOf 58 = .ok (.aload_n 0, 1) := by decide +kernel
theorem dX11_liftOf_59 : decode cX11_liftOf 59 = .ok (.getfield 60, 3) := by decide +kernel
theorem dX11_liftOf_62 : decode cX11_liftOf 62 = .ok (.bipush 6, 2) := by decide +kernel
theorem dX11_liftOf_64 : decode cX11_liftOf 64 = .ok (.iaload, 1) := by decide +kernel
theorem dX11_liftOf_65 : decode cX11_liftOf 65 = .ok (.imul, 1) := by decide +kernel
theorem dX11_liftOf_66 : decode cX11_liftOf 66 = .ok (.sipush 1000, 3) := by decide +kernel
theorem dX11_liftOf_69 : decode cX11_liftOf 69 = .ok (.idiv, 1) := by decide +kernel
theorem dX11_liftOf_70 : decode cX11_liftOf 70 = .ok (.istore_n 3, 1) := by decide +kernel
theorem dX11_liftOf_71 : decode cX11_liftOf 71 = .ok (.aload_n 0, 1) := by decide +kernel
theorem dX11_liftOf_72 : decode cX11_liftOf 72 = .ok (.getfield 13, 3) := by decide +kernel
theorem dX11_liftOf_75 : decode cX11_liftOf 75 = .ok (.iload_n 1, 1) := by decide +kernel
theorem dX11_liftOf_76 : decode cX11_liftOf 76 = .ok (.iaload, 1) := by decide +kernel
theorem dX11_liftOf_77 : decode cX11_liftOf 77 = .ok (.ifCond .le 29, 3) := by decide +kernel
theorem dX11_liftOf_80 : decode cX11_liftOf 80 = .ok (.aload_n 0, 1) := by decide +kernel
theorem dX11_liftOf_81 : decode cX11_liftOf 81 = .ok (.getfield 60, 3) := by decide +kernel
theorem dX11_liftOf_84 : decode cX11_liftOf 84 = .ok (.bipush 6, 2) := by decide +kernel
theorem dX11_liftOf_86 : decode cX11_liftOf 86 = .ok (.iaload, 1) := by decide +kernel
theorem dX11_liftOf_87 : decode cX11_liftOf 87 = .ok (.sipush 300, 3) := by decide +kernel
theorem dX11_liftOf_90 : decode cX11_liftOf 90 = .ok (.if_icmp .ge 14, 3) := by decide +kernel
theorem dX11_liftOf_93 : decode cX11_liftOf 93 = .ok (.iload_n 3, 1) := by decide +kernel
theorem dX11_liftOf_94 : decode cX11_liftOf 94 = .ok (.aload_n 0, 1) := by decide +kernel
theorem dX11_liftOf_95 : decode cX11_liftOf 95 = .ok (.getfield 13, 3) := by decide +kernel
theorem dX11_liftOf_98 : decode cX11_liftOf 98 = .ok (.iload_n 1, 1) := by decide +kernel
theorem dX11_liftOf_99 : decode cX11_liftOf 99 = .ok (.iaload, 1) := by decide +kernel
theorem dX11_liftOf_100 : decode cX11_liftOf 100 = .ok (.iadd, 1) := by decide +kernel
theorem dX11_liftOf_101 : decode cX11_liftOf 101 = .ok (.goto 4, 3) := by decide +kernel
theorem dX11_liftOf_104 : decode cX11_liftOf 104 = .ok (.iload_n 3, 1) := by decide +kernel
theorem dX11_liftOf_105 : decode cX11_liftOf 105 = .ok (.ireturn, 1) := by decide +kernel
theorem dX11_liftOf_106 : decode cX11_liftOf 106 = .ok (.aload_n 0, 1) := by decide +kernel
theorem dX11_liftOf_107 : decode cX11_liftOf 107 = .ok (.getfield 60, 3) := by decide +kernel
theorem dX11_liftOf_110 : decode cX11_liftOf 110 = .ok (.bipush 6, 2) := by decide +kernel
theorem dX11_liftOf_112 : decode cX11_liftOf 112 = .ok (.iaload, 1) := by decide +kernel
theorem dX11_liftOf_113 : decode cX11_liftOf 113 = .ok (.bipush 100, 2) := by decide +kernel
theorem dX11_liftOf_115 : decode cX11_liftOf 115 = .ok (.if_icmp .ge 7, 3) := by decide +kernel
theorem dX11_liftOf_118 : decode cX11_liftOf 118 = .ok (.iconst 0, 1) := by decide +kernel
theorem dX11_liftOf_119 : decode cX11_liftOf 119 = .ok (.goto 4, 3) := by decide +kernel
theorem dX11_liftOf_122 : decode cX11_liftOf 122 = .ok (.iload_n 3, 1) := by decide +kernel
theorem dX11_liftOf_123 : decode cX11_liftOf 123 = .ok (.ireturn, 1) := by decide +kernel
theorem dX11_held_0 : decode cX11_held 0 = .ok (.iload_n 0, 1) := by decide +kernel
theorem dX11_held_1 : decode cX11_held 1 = .ok (.iload_n 1, 1) := by decide +kernel
theorem dX11_held_2 : decode cX11_held 2 = .ok (.if_icmp .ge 7, 3) := by decide +kernel
theorem dX11_held_5 : decode cX11_held 5 = .ok (.iload_n 1, 1) := by decide +kernel
theorem dX11_held_6 : decode cX11_held 6 = .ok (.goto 13, 3) := by decide +kernel
theorem dX11_held_9 : decode cX11_held 9 = .ok (.iload_n 0, 1) := by decide +kernel
theorem dX11_held_10 : decode cX11_held 10 = .ok (.iload_n 2, 1) := by decide +kernel
theorem dX11_held_11 : decode cX11_held 11 = .ok (.if_icmp .le 7, 3) := by decide +kernel
theorem dX11_held_14 : decode cX11_held 14 = .ok (.iload_n 2, 1) := by decide +kernel
theorem dX11_held_15 : decode cX11_held 15 = .ok (.goto 4, 3) := by decide +kernel
theorem dX11_held_18 : decode cX11_held 18 = .ok (.iload_n 0, 1) := by decide +kernel
theorem dX11_held_19 : decode cX11_held 19 = .ok (.ireturn, 1) := by decide +kernel
theorem dX11_steps_0 : decode cX11_steps 0 = .ok (.aload_n 0, 1) := by decide +kernel
theorem dX11_steps_1 : decode cX11_steps 1 = .ok (.dup, 1) := by decide +kernel
theorem dX11_steps_2 : decode cX11_steps 2 = .ok (.getfield 189, 3) := by decide +kernel
theorem dX11_steps_5 : decode cX11_steps 5 = .ok (.iconst 1, 1) := by decide +kernel
theorem dX11_steps_6 : decode cX11_steps 6 = .ok (.iadd, 1) := by decide +kernel
theorem dX11_steps_7 : decode cX11_steps 7 = .ok (.putfield 189, 3) := by decide +kernel
theorem dX11_steps_10 : decode cX11_steps 10 = .ok (.aload_n 0, 1) := by decide +kernel
theorem dX11_steps_11 : decode cX11_steps 11 = .ok (.getfield 60, 3) := by decide +kernel
theorem dX11_steps_14 : decode cX11_steps 14 = .ok (.iconst 3, 1) := by decide +kernel
theorem dX11_steps_15 : decode cX11_steps 15 = .ok (.aload_n 0, 1) := by decide +kernel
theorem dX11_steps_16 : decode cX11_steps 16 = .ok (.getfield 60, 3) := by decide +kernel
theorem dX11_steps_19 : decode cX11_steps 19 = .ok (.iconst 3, 1) := by decide +kernel
theorem dX11_steps_20 : decode cX11_steps 20 = .ok (.iaload, 1) := by decide +kernel
theorem dX11_steps_21 : decode cX11_steps 21 = .ok (.aload_n 0, 1) := by decide +kernel
theorem dX11_steps_22 : decode cX11_steps 22 = .ok (.iload_n 1, 1) := by decide +kernel
theorem dX11_steps_23 : decode cX11_steps 23 = .ok (.invokevirtual 192, 3) := by decide +kernel
theorem dX11_steps_26 : decode cX11_steps 26 = .ok (.aload_n 0, 1) := by decide +kernel
theorem dX11_steps_27 : decode cX11_steps 27 = .ok (.aload_n 0, 1) := by decide +kernel
theorem dX11_steps_28 : decode cX11_steps 28 = .ok (.getfield 60, 3) := by decide +kernel
theorem dX11_steps_31 : decode cX11_steps 31 = .ok (.bipush 7, 2) := by decide +kernel
theorem dX11_steps_33 : decode cX11_steps 33 = .ok (.iaload, 1) := by decide +kernel
theorem dX11_steps_34 : decode cX11_steps 34 = .ok (.invokevirtual 133, 3) := by decide +kernel
theorem dX11_steps_37 : decode cX11_steps 37 = .ok (.imul, 1) := by decide +kernel
theorem dX11_steps_38 : decode cX11_steps 38 = .ok (.sipush 1000, 3) := by decide +kernel
theorem dX11_steps_41 : decode cX11_steps 41 = .ok (.idiv, 1) := by decide +kernel
theorem dX11_steps_42 : decode cX11_steps 42 = .ok (.aload_n 0, 1) := by decide +kernel
theorem dX11_steps_43 : decode cX11_steps 43 = .ok (.getfield 16, 3) := by decide +kernel
theorem dX11_steps_46 : decode cX11_steps 46 = .ok (.iload_n 1, 1) := by decide +kernel
theorem dX11_steps_47 : decode cX11_steps 47 = .ok (.iaload, 1) := by decide +kernel
theorem dX11_steps_48 : decode cX11_steps 48 = .ok (.isub, 1) := by decide +kernel
theorem dX11_steps_49 : decode cX11_steps 49 = .ok (.bipush 10, 2) := by decide +kernel
theorem dX11_steps_51 : decode cX11_steps 51 = .ok (.idiv, 1) := by decide +kernel
theorem dX11_steps_52 : decode cX11_steps 52 = .ok (.iadd, 1) := by decide +kernel
theorem dX11_steps_53 : decode cX11_steps 53 = .ok (.bipush (-80), 2) := by decide +kernel
theorem dX11_steps_55 : decode cX11_steps 55 = .ok (.bipush 80, 2) := by decide +kernel
theorem dX11_steps_57 : decode cX11_steps 57 = .ok (.invokestatic 195, 3) := by decide +kernel
theorem dX11_steps_60 : decode cX11_steps 60 = .ok (.iastore, 1) := by decide +kernel
theorem dX11_steps_61 : decode cX11_steps 61 = .ok (.aload_n 0, 1) := by decide +kernel
theorem dX11_steps_62 : decode cX11_steps 62 = .ok (.getfield 60, 3) := by decide +kernel
theorem dX11_steps_65 : decode cX11_steps 65 = .ok (.iconst 2, 1) := by decide +kernel
theorem dX11_steps_66 : decode cX11_steps 66 = .ok (.dup2, 1) := by decide +kernel
theorem dX11_steps_67 : decode cX11_steps 67 = .ok (.iaload, 1) := by decide +kernel
theorem dX11_steps_68 : decode cX11_steps 68 = .ok (.aload_n 0, 1) := by decide +kernel
theorem dX11_steps_69 : decode cX11_steps 69 = .ok (.getfield 60, 3) := by decide +kernel
theorem dX11_steps_72 : decode cX11_steps 72 = .ok (.iconst 3, 1) := by decide +kernel
theorem dX11_steps_73 : decode cX11_steps 73 = .ok (.iaload, 1) := by decide +kernel
theorem dX11_steps_74 : decode cX11_steps 74 = .ok (.iadd, 1) := by decide +kernel
theorem dX11_steps_75 : decode cX11_steps 75 = .ok (.iastore, 1) := by decide +kernel
theorem dX11_steps_76 : decode cX11_steps 76 = .ok (.aload_n 0, 1) := by decide +kernel
theorem dX11_steps_77 : decode cX11_steps 77 = .ok (.getfield 60, 3) := by decide +kernel
theorem dX11_steps_80 : decode cX11_steps 80 = .ok (.iconst 4, 1) := by decide +kernel
theorem dX11_steps_81 : decode cX11_steps 81 = .ok (.iaload, 1) := by decide +kernel
theorem dX11_steps_82 : decode cX11_steps 82 = .ok (.aload_n 0, 1) := by decide +kernel
theorem dX11_steps_83 : decode cX11_steps 83 = .ok (.getfield 19, 3) := by decide +kernel
theorem dX11_steps_86 : decode cX11_steps 86 = .ok (.iload_n 1, 1) := by decide +kernel
theorem dX11_steps_87 : decode cX11_steps 87 = .ok (.iaload, 1) := by decide +kernel
theorem dX11_steps_88 : decode cX11_steps 88 = .ok (.iload_n 2, 1) := by decide +kernel
theorem dX11_steps_89 : decode cX11_steps 89 = .ok (.iadd, 1) := by decide +kernel
theorem dX11_steps_90 : decode cX11_steps 90 = .ok (.aload_n 0, 1) := by decide +kernel
theorem dX11_steps_91 : decode cX11_steps 91 = .ok (.getfield 60, 3) := by decide +kernel
theorem dX11_steps_94 : decode cX11_steps 94 = .ok (.bipush 6, 2) := by decide +kernel
theorem dX11_steps_96 : decode cX11_steps 96 = .ok (.iaload, 1) := by decide +kernel
theorem dX11_steps_97 : decode cX11_steps 97 = .ok (.imul, 1) := by decide +kernel
theorem dX11_steps_98 : decode cX11_steps 98 = .ok (.aload_n 0, 1) := by decide +kernel
theorem dX11_steps_99 : decode cX11_steps 99 = .ok (.aload_n 0, 1) := by decide +kernel
theorem dX11_steps_100 : decode cX11_steps 100 = .ok (.getfield 60, 3) := by decide +kernel
theorem dX11_steps_103 : decode cX11_steps 103 = .ok (.bipush 7, 2) := by decide +kernel
theorem dX11_steps_105 : decode cX11_steps 105 = .ok (.iaload, 1) := by decide +kernel
theorem dX11_steps_106 : decode cX11_steps 106 = .ok (.invokevirtual 123, 3) := by decide +kernel
theorem dX11_steps_109 : decode cX11_steps 109 = .ok (.imul, 1) := by decide +kernel
theorem dX11_steps_110 : decode cX11_steps 110 = .ok (.ldc 199, 2) := by decide +kernel
theorem dX11_steps_112 : decode cX11_steps 112 = .ok (.idiv, 1) := by decide +kernel
theorem dX11_steps_113 : decode cX11_steps 113 = .ok (.iadd, 1) := by decide +kernel
theorem dX11_steps_114 : decode cX11_steps 114 = .ok (.istore 4, 2) := by decide +kernel
theorem dX11_steps_116 : decode cX11_steps 116 = .ok (.aload_n 0, 1) := by decide +kernel
theorem dX11_steps_117 : decode cX11_steps 117 = .ok (.getfield 60, 3) := by decide +kernel
theorem dX11_steps_120 : decode cX11_steps 120 = .ok (.iconst 4, 1) := by decide +kernel
theorem dX11_steps_121 : decode cX11_steps 121 = .ok (.iload 4, 2) := by decide +kernel
theorem dX11_steps_123 : decode cX11_steps 123 = .ok (.ldc 200, 2) := by decide +kernel
theorem dX11_steps_125 : decode cX11_steps 125 = .ok (.irem, 1) := by decide +kernel
theorem dX11_steps_126 : decode cX11_steps 126 = .ok (.ldc 200, 2) := by decide +kernel
theorem dX11_steps_128 : decode cX11_steps 128 = .ok (.iadd, 1) := by decide +kernel
theorem dX11_steps_129 : decode cX11_steps 129 = .ok (.ldc 200, 2) := by decide +kernel
theorem dX11_steps_131 : decode cX11_steps 131 = .ok (.irem, 1) := by decide +kernel
theorem dX11_steps_132 : decode cX11_steps 132 = .ok (.iastore, 1) := by decide +kernel
theorem dX11_steps_133 : decode cX11_steps 133 = .ok (.aload_n 0, 1) := by decide +kernel
theorem dX11_steps_134 : decode cX11_steps 134 = .ok (.getfield 60, 3) := by decide +kernel
theorem dX11_steps_137 : decode cX11_steps 137 = .ok (.iconst 0, 1) := by decide +kernel
theorem dX11_steps_138 : decode cX11_steps 138 = .ok (.dup2, 1) := by decide +kernel
theorem dX11_steps_139 : decode cX11_steps 139 = .ok (.iaload, 1) := by decide +kernel
theorem dX11_steps_140 : decode cX11_steps 140 = .ok (.aload_n 0, 1) := by decide +kernel
theorem dX11_steps_141 : decode cX11_steps 141 = .ok (.getfield 60, 3) := by decide +kernel
theorem dX11_steps_144 : decode cX11_steps 144 = .ok (.iconst 5, 1) := by decide +kernel
theorem dX11_steps_145 : decode cX11_steps 145 = .ok (.iaload, 1) := by decide +kernel
theorem dX11_steps_146 : decode cX11_steps 146 = .ok (.aload_n 0, 1) := by decide +kernel
theorem dX11_steps_147 : decode cX11_steps 147 = .ok (.aload_n 0, 1) := by decide +kernel
theorem dX11_steps_148 : decode cX11_steps 148 = .ok (.getfield 60, 3) := by decide +kernel
theorem dX11_steps_151 : decode cX11_steps 151 = .ok (.iconst 4, 1) := by decide +kernel
theorem dX11_steps_152 : decode cX11_steps 152 = .ok (.iaload, 1) := by decide +kernel
theorem dX11_steps_153 : decode cX11_steps 153 = .ok (.bipush 100, 2) := by decide +kernel
theorem dX11_steps_155 : decode cX11_steps 155 = .ok (.idiv, 1) := by decide +kernel
theorem dX11_steps_156 : decode cX11_steps 156 = .ok (.invokevirtual 123, 3) := by decide +kernel
theorem dX11_steps_159 : decode cX11_steps 159 = .ok (.imul, 1) := by decide +kernel
theorem dX11_steps_160 : decode cX11_steps 160 = .ok (.sipush 1000, 3) := by decide +kernel
theorem dX11_steps_163 : decode cX11_steps 163 = .ok (.idiv, 1) := by decide +kernel
theorem dX11_steps_164 : decode cX11_steps 164 = .ok (.iadd, 1) := by decide +kernel
theorem dX11_steps_165 : decode cX11_steps 165 = .ok (.iastore, 1) := by decide +kernel
theorem dX11_steps_166 : decode cX11_steps 166 = .ok (.aload_n 0, 1) := by decide +kernel
theorem dX11_steps_167 : decode cX11_steps 167 = .ok (.getfield 60, 3) := by decide +kernel
theorem dX11_steps_170 : decode cX11_steps 170 = .ok (.iconst 1, 1) := by decide +kernel
theorem dX11_steps_171 : decode cX11_steps 171 = .ok (.dup2, 1) := by decide +kernel
theorem dX11_steps_172 : decode cX11_steps 172 = .ok (.iaload, 1) := by decide +kernel
theorem dX11_steps_173 : decode cX11_steps 173 = .ok (.aload_n 0, 1) := by decide +kernel
theorem dX11_steps_174 : decode cX11_steps 174 = .ok (.getfield 60, 3) := by decide +kernel
theorem dX11_steps_177 : decode cX11_steps 177 = .ok (.iconst 5, 1) := by decide +kernel
theorem dX11_steps_178 : decode cX11_steps 178 = .ok (.iaload, 1) := by decide +kernel
theorem dX11_steps_179 : decode cX11_steps 179 = .ok (.aload_n 0, 1) := by decide +kernel
theorem dX11_steps_180 : decode cX11_steps 180 = .ok (.aload_n 0, 1) := by decide +kernel
theorem dX11_steps_181 : decode cX11_steps 181 = .ok (.getfield 60, 3) := by decide +kernel
theorem dX11_steps_184 : decode cX11_steps 184 = .ok (.iconst 4, 1) := by decide +kernel
theorem dX11_steps_185 : decode cX11_steps 185 = .ok (.iaload, 1) := by decide +kernel
end
section
theorem dX11_steps_186 : decode cX11_steps 186 = .ok (.bipush 100, 2) := by decide +kernel
theorem dX11_steps_188 : decode cX11_steps 188 = .ok (.idiv, 1) := by decide +kernel
theorem dX11_steps_189 : decode cX11_steps 189 = .ok (.invokevirtual 133, 3) := by decide +kernel
theorem dX11_steps_192 : decode cX11_steps 192 = .ok (.imul, 1) := by decide +kernel
theorem dX11_steps_193 : decode cX11_steps 193 = .ok (.sipush 1000, 3) := by decide +kernel
theorem dX11_steps_196 : decode cX11_steps 196 = .ok (.idiv, 1) := by decide +kernel
theorem dX11_steps_197 : decode cX11_steps 197 = .ok (.iadd, 1) := by decide +kernel
theorem dX11_steps_198 : decode cX11_steps 198 = .ok (.iastore, 1) := by decide +kernel
theorem dX11_steps_199 : decode cX11_steps 199 = .ok (.iload_n 3, 1) := by decide +kernel
theorem dX11_steps_200 : decode cX11_steps 200 = .ok (.ifCond .lt 122, 3) := by decide +kernel
theorem dX11_steps_203 : decode cX11_steps 203 = .ok (.iconst 4, 1) := by decide +kernel
theorem dX11_steps_204 : decode cX11_steps 204 = .ok (.iload_n 3, 1) := by decide +kernel
theorem dX11_steps_205 : decode cX11_steps 205 = .ok (.imul, 1) := by decide +kernel
theorem dX11_steps_206 : decode cX11_steps 206 = .ok (.aload_n 0, 1) := by decide +kernel
theorem dX11_steps_207 : decode cX11_steps 207 = .ok (.getfield 60, 3) := by decide +kernel
theorem dX11_steps_210 : decode cX11_steps 210 = .ok (.iconst 2, 1) := by decide +kernel
theorem dX11_steps_211 : decode cX11_steps 211 = .ok (.iaload, 1) := by decide +kernel
theorem dX11_steps_212 : decode cX11_steps 212 = .ok (.sipush 200, 3) := by decide +kernel
theorem dX11_steps_215 : decode cX11_steps 215 = .ok (.if_icmp .ge 7, 3) := by decide +kernel
theorem dX11_steps_218 : decode cX11_steps 218 = .ok (.iconst 0, 1) := by decide +kernel
theorem dX11_steps_219 : decode cX11_steps 219 = .ok (.goto 36, 3) := by decide +kernel
theorem dX11_steps_222 : decode cX11_steps 222 = .ok (.aload_n 0, 1) := by decide +kernel
theorem dX11_steps_223 : decode cX11_steps 223 = .ok (.getfield 60, 3) := by decide +kernel
theorem dX11_steps_226 : decode cX11_steps 226 = .ok (.iconst 2, 1) := by decide +kernel
theorem dX11_steps_227 : decode cX11_steps 227 = .ok (.iaload, 1) := by decide +kernel
theorem dX11_steps_228 : decode cX11_steps 228 = .ok (.sipush 500, 3) := by decide +kernel
theorem dX11_steps_231 : decode cX11_steps 231 = .ok (.if_icmp .ge 7, 3) := by decide +kernel
theorem dX11_steps_234 : decode cX11_steps 234 = .ok (.iconst 1, 1) := by decide +kernel
theorem dX11_steps_235 : decode cX11_steps 235 = .ok (.goto 20, 3) := by decide +kernel
theorem dX11_steps_238 : decode cX11_steps 238 = .ok (.aload_n 0, 1) := by decide +kernel
theorem dX11_steps_239 : decode cX11_steps 239 = .ok (.getfield 60, 3) := by decide +kernel
theorem dX11_steps_242 : decode cX11_steps 242 = .ok (.iconst 2, 1) := by decide +kernel
theorem dX11_steps_243 : decode cX11_steps 243 = .ok (.iaload, 1) := by decide +kernel
theorem dX11_steps_244 : decode cX11_steps 244 = .ok (.sipush 1000, 3) := by decide +kernel
theorem dX11_steps_247 : decode cX11_steps 247 = .ok (.if_icmp .ge 7, 3) := by decide +kernel
theorem dX11_steps_250 : decode cX11_steps 250 = .ok (.iconst 2, 1) := by decide +kernel
theorem dX11_steps_251 : decode cX11_steps 251 = .ok (.goto 4, 3) := by decide +kernel
theorem dX11_steps_254 : decode cX11_steps 254 = .ok (.iconst 3, 1) := by decide +kernel
theorem dX11_steps_255 : decode cX11_steps 255 = .ok (.iadd, 1) := by decide +kernel
theorem dX11_steps_256 : decode cX11_steps 256 = .ok (.istore 5, 2) := by decide +kernel
theorem dX11_steps_258 : decode cX11_steps 258 = .ok (.aload_n 0, 1) := by decide +kernel
theorem dX11_steps_259 : decode cX11_steps 259 = .ok (.getfield 60, 3) := by decide +kernel
theorem dX11_steps_262 : decode cX11_steps 262 = .ok (.iconst 0, 1) := by decide +kernel
theorem dX11_steps_263 : decode cX11_steps 263 = .ok (.dup2, 1) := by decide +kernel
theorem dX11_steps_264 : decode cX11_steps 264 = .ok (.iaload, 1) := by decide +kernel
theorem dX11_steps_265 : decode cX11_steps 265 = .ok (.aload_n 0, 1) := by decide +kernel
theorem dX11_steps_266 : decode cX11_steps 266 = .ok (.getfield 38, 3) := by decide +kernel
theorem dX11_steps_269 : decode cX11_steps 269 = .ok (.iload 5, 2) := by decide +kernel
theorem dX11_steps_271 : decode cX11_steps 271 = .ok (.iaload, 1) := by decide +kernel
theorem dX11_steps_272 : decode cX11_steps 272 = .ok (.aload_n 0, 1) := by decide +kernel
theorem dX11_steps_273 : decode cX11_steps 273 = .ok (.aload_n 0, 1) := by decide +kernel
theorem dX11_steps_274 : decode cX11_steps 274 = .ok (.getfield 41, 3) := by decide +kernel
theorem dX11_steps_277 : decode cX11_steps 277 = .ok (.iload 5, 2) := by decide +kernel
theorem dX11_steps_279 : decode cX11_steps 279 = .ok (.iaload, 1) := by decide +kernel
theorem dX11_steps_280 : decode cX11_steps 280 = .ok (.invokevirtual 123, 3) := by decide +kernel
theorem dX11_steps_283 : decode cX11_steps 283 = .ok (.imul, 1) := by decide +kernel
theorem dX11_steps_284 : decode cX11_steps 284 = .ok (.sipush 1000, 3) := by decide +kernel
theorem dX11_steps_287 : decode cX11_steps 287 = .ok (.idiv, 1) := by decide +kernel
theorem dX11_steps_288 : decode cX11_steps 288 = .ok (.iadd, 1) := by decide +kernel
theorem dX11_steps_289 : decode cX11_steps 289 = .ok (.iastore, 1) := by decide +kernel
theorem dX11_steps_290 : decode cX11_steps 290 = .ok (.aload_n 0, 1) := by decide +kernel
theorem dX11_steps_291 : decode cX11_steps 291 = .ok (.getfield 60, 3) := by decide +kernel
theorem dX11_steps_294 : decode cX11_steps 294 = .ok (.iconst 1, 1) := by decide +kernel
theorem dX11_steps_295 : decode cX11_steps 295 = .ok (.dup2, 1) := by decide +kernel
theorem dX11_steps_296 : decode cX11_steps 296 = .ok (.iaload, 1) := by decide +kernel
theorem dX11_steps_297 : decode cX11_steps 297 = .ok (.aload_n 0, 1) := by decide +kernel
theorem dX11_steps_298 : decode cX11_steps 298 = .ok (.getfield 38, 3) := by decide +kernel
theorem dX11_steps_301 : decode cX11_steps 301 = .ok (.iload 5, 2) := by decide +kernel
theorem dX11_steps_303 : decode cX11_steps 303 = .ok (.iaload, 1) := by decide +kernel
theorem dX11_steps_304 : decode cX11_steps 304 = .ok (.aload_n 0, 1) := by decide +kernel
theorem dX11_steps_305 : decode cX11_steps 305 = .ok (.aload_n 0, 1) := by decide +kernel
theorem dX11_steps_306 : decode cX11_steps 306 = .ok (.getfield 41, 3) := by decide +kernel
theorem dX11_steps_309 : decode cX11_steps 309 = .ok (.iload 5, 2) := by decide +kernel
theorem dX11_steps_311 : decode cX11_steps 311 = .ok (.iaload, 1) := by decide +kernel
theorem dX11_steps_312 : decode cX11_steps 312 = .ok (.invokevirtual 133, 3) := by decide +kernel
theorem dX11_steps_315 : decode cX11_steps 315 = .ok (.imul, 1) := by decide +kernel
theorem dX11_steps_316 : decode cX11_steps 316 = .ok (.sipush 1000, 3) := by decide +kernel
theorem dX11_steps_319 : decode cX11_steps 319 = .ok (.idiv, 1) := by decide +kernel
theorem dX11_steps_320 : decode cX11_steps 320 = .ok (.iadd, 1) := by decide +kernel
theorem dX11_steps_321 : decode cX11_steps 321 = .ok (.iastore, 1) := by decide +kernel
theorem dX11_steps_322 : decode cX11_steps 322 = .ok (.aload_n 0, 1) := by decide +kernel
theorem dX11_steps_323 : decode cX11_steps 323 = .ok (.getfield 60, 3) := by decide +kernel
theorem dX11_steps_326 : decode cX11_steps 326 = .ok (.bipush 6, 2) := by decide +kernel
theorem dX11_steps_328 : decode cX11_steps 328 = .ok (.aload_n 0, 1) := by decide +kernel
theorem dX11_steps_329 : decode cX11_steps 329 = .ok (.getfield 60, 3) := by decide +kernel
theorem dX11_steps_332 : decode cX11_steps 332 = .ok (.bipush 6, 2) := by decide +kernel
theorem dX11_steps_334 : decode cX11_steps 334 = .ok (.iaload, 1) := by decide +kernel
theorem dX11_steps_335 : decode cX11_steps 335 = .ok (.aload_n 0, 1) := by decide +kernel
theorem dX11_steps_336 : decode cX11_steps 336 = .ok (.getfield 22, 3) := by decide +kernel
theorem dX11_steps_339 : decode cX11_steps 339 = .ok (.iload_n 1, 1) := by decide +kernel
theorem dX11_steps_340 : decode cX11_steps 340 = .ok (.iaload, 1) := by decide +kernel
theorem dX11_steps_341 : decode cX11_steps 341 = .ok (.isub, 1) := by decide +kernel
theorem dX11_steps_342 : decode cX11_steps 342 = .ok (.iconst 0, 1) := by decide +kernel
theorem dX11_steps_343 : decode cX11_steps 343 = .ok (.sipush 1000, 3) := by decide +kernel
theorem dX11_steps_346 : decode cX11_steps 346 = .ok (.invokestatic 195, 3) := by decide +kernel
theorem dX11_steps_349 : decode cX11_steps 349 = .ok (.iastore, 1) := by decide +kernel
theorem dX11_steps_350 : decode cX11_steps 350 = .ok (.aload_n 0, 1) := by decide +kernel
theorem dX11_steps_351 : decode cX11_steps 351 = .ok (.getfield 60, 3) := by decide +kernel
theorem dX11_steps_354 : decode cX11_steps 354 = .ok (.iconst 5, 1) := by decide +kernel
theorem dX11_steps_355 : decode cX11_steps 355 = .ok (.aload_n 0, 1) := by decide +kernel
theorem dX11_steps_356 : decode cX11_steps 356 = .ok (.getfield 60, 3) := by decide +kernel
theorem dX11_steps_359 : decode cX11_steps 359 = .ok (.iconst 5, 1) := by decide +kernel
theorem dX11_steps_360 : decode cX11_steps 360 = .ok (.iaload, 1) := by decide +kernel
theorem dX11_steps_361 : decode cX11_steps 361 = .ok (.aload_n 0, 1) := by decide +kernel
theorem dX11_steps_362 : decode cX11_steps 362 = .ok (.getfield 25, 3) := by decide +kernel
theorem dX11_steps_365 : decode cX11_steps 365 = .ok (.iload_n 1, 1) := by decide +kernel
theorem dX11_steps_366 : decode cX11_steps 366 = .ok (.iaload, 1) := by decide +kernel
theorem dX11_steps_367 : decode cX11_steps 367 = .ok (.isub, 1) := by decide +kernel
theorem dX11_steps_368 : decode cX11_steps 368 = .ok (.bipush 20, 2) := by decide +kernel
theorem dX11_steps_370 : decode cX11_steps 370 = .ok (.sipush 250, 3) := by decide +kernel
theorem dX11_steps_373 : decode cX11_steps 373 = .ok (.invokestatic 195, 3) := by decide +kernel
theorem dX11_steps_376 : decode cX11_steps 376 = .ok (.iastore, 1) := by decide +kernel
theorem dX11_steps_377 : decode cX11_steps 377 = .ok (.aload_n 0, 1) := by decide +kernel
theorem dX11_steps_378 : decode cX11_steps 378 = .ok (.getfield 60, 3) := by decide +kernel
theorem dX11_steps_381 : decode cX11_steps 381 = .ok (.bipush 7, 2) := by decide +kernel
theorem dX11_steps_383 : decode cX11_steps 383 = .ok (.aload_n 0, 1) := by decide +kernel
theorem dX11_steps_384 : decode cX11_steps 384 = .ok (.getfield 189, 3) := by decide +kernel
theorem dX11_steps_387 : decode cX11_steps 387 = .ok (.iconst 4, 1) := by decide +kernel
theorem dX11_steps_388 : decode cX11_steps 388 = .ok (.irem, 1) := by decide +kernel
theorem dX11_steps_389 : decode cX11_steps 389 = .ok (.ifCond .ne 21, 3) := by decide +kernel
theorem dX11_steps_392 : decode cX11_steps 392 = .ok (.aload_n 0, 1) := by decide +kernel
theorem dX11_steps_393 : decode cX11_steps 393 = .ok (.getfield 60, 3) := by decide +kernel
theorem dX11_steps_396 : decode cX11_steps 396 = .ok (.bipush 7, 2) := by decide +kernel
theorem dX11_steps_398 : decode cX11_steps 398 = .ok (.iaload, 1) := by decide +kernel
theorem dX11_steps_399 : decode cX11_steps 399 = .ok (.iconst 1, 1) := by decide +kernel
theorem dX11_steps_400 : decode cX11_steps 400 = .ok (.isub, 1) := by decide +kernel
theorem dX11_steps_401 : decode cX11_steps 401 = .ok (.iconst 0, 1) := by decide +kernel
theorem dX11_steps_402 : decode cX11_steps 402 = .ok (.bipush 90, 2) := by decide +kernel
theorem dX11_steps_404 : decode cX11_steps 404 = .ok (.invokestatic 195, 3) := by decide +kernel
theorem dX11_steps_407 : decode cX11_steps 407 = .ok (.goto 10, 3) := by decide +kernel
theorem dX11_steps_410 : decode cX11_steps 410 = .ok (.aload_n 0, 1) := by decide +kernel
theorem dX11_steps_411 : decode cX11_steps 411 = .ok (.getfield 60, 3) := by decide +kernel
theorem dX11_steps_414 : decode cX11_steps 414 = .ok (.bipush 7, 2) := by decide +kernel
theorem dX11_steps_416 : decode cX11_steps 416 = .ok (.iaload, 1) := by decide +kernel
theorem dX11_steps_417 : decode cX11_steps 417 = .ok (.iastore, 1) := by decide +kernel
theorem dX11_steps_418 : decode cX11_steps 418 = .ok (.return_, 1) := by decide +kernel
theorem dX11_isNear_0 : decode cX11_isNear 0 = .ok (.aload_n 0, 1) := by decide +kernel
theorem dX11_isNear_1 : decode cX11_isNear 1 = .ok (.getfield 60, 3) := by decide +kernel
theorem dX11_isNear_4 : decode cX11_isNear 4 = .ok (.iconst 0, 1) := by decide +kernel
theorem dX11_isNear_5 : decode cX11_isNear 5 = .ok (.iaload, 1) := by decide +kernel
theorem dX11_isNear_6 : decode cX11_isNear 6 = .ok (.iload_n 1, 1) := by decide +kernel
theorem dX11_isNear_7 : decode cX11_isNear 7 = .ok (.isub, 1) := by decide +kernel
theorem dX11_isNear_8 : decode cX11_isNear 8 = .ok (.i2l, 1) := by decide +kernel
theorem dX11_isNear_9 : decode cX11_isNear 9 = .ok (.lstore 4, 2) := by decide +kernel
theorem dX11_isNear_11 : decode cX11_isNear 11 = .ok (.aload_n 0, 1) := by decide +kernel
theorem dX11_isNear_12 : decode cX11_isNear 12 = .ok (.getfield 60, 3) := by decide +kernel
theorem dX11_isNear_15 : decode cX11_isNear 15 = .ok (.iconst 1, 1) := by decide +kernel
theorem dX11_isNear_16 : decode cX11_isNear 16 = .ok (.iaload, 1) := by decide +kernel
theorem dX11_isNear_17 : decode cX11_isNear 17 = .ok (.iload_n 2, 1) := by decide +kernel
theorem dX11_isNear_18 : decode cX11_isNear 18 = .ok (.isub, 1) := by decide +kernel
theorem dX11_isNear_19 : decode cX11_isNear 19 = .ok (.i2l, 1) := by decide +kernel
theorem dX11_isNear_20 : decode cX11_isNear 20 = .ok (.lstore 6, 2) := by decide +kernel
theorem dX11_isNear_22 : decode cX11_isNear 22 = .ok (.lload 4, 2) := by decide +kernel
theorem dX11_isNear_24 : decode cX11_isNear 24 = .ok (.lload 4, 2) := by decide +kernel
theorem dX11_isNear_26 : decode cX11_isNear 26 = .ok (.lmul, 1) := by decide +kernel
theorem dX11_isNear_27 : decode cX11_isNear 27 = .ok (.lload 6, 2) := by decide +kernel
theorem dX11_isNear_29 : decode cX11_isNear 29 = .ok (.lload 6, 2) := by decide +kernel
theorem dX11_isNear_31 : decode cX11_isNear 31 = .ok (.lmul, 1) := by decide +kernel
theorem dX11_isNear_32 : decode cX11_isNear 32 = .ok (.ladd, 1) := by decide +kernel
theorem dX11_isNear_33 : decode cX11_isNear 33 = .ok (.iload_n 3, 1) := by decide +kernel
theorem dX11_isNear_34 : decode cX11_isNear 34 = .ok (.i2l, 1) := by decide +kernel
theorem dX11_isNear_35 : decode cX11_isNear 35 = .ok (.iload_n 3, 1) := by decide +kernel
theorem dX11_isNear_36 : decode cX11_isNear 36 = .ok (.i2l, 1) := by decide +kernel
theorem dX11_isNear_37 : decode cX11_isNear 37 = .ok (.lmul, 1) := by decide +kernel
theorem dX11_isNear_38 : decode cX11_isNear 38 = .ok (.lcmp, 1) := by decide +kernel
theorem dX11_isNear_39 : decode cX11_isNear 39 = .ok (.ifCond .gt 7, 3) := by decide +kernel
theorem dX11_isNear_42 : decode cX11_isNear 42 = .ok (.iconst 1, 1) := by decide +kernel
theorem dX11_isNear_43 : decode cX11_isNear 43 = .ok (.goto 4, 3) := by decide +kernel
theorem dX11_isNear_46 : decode cX11_isNear 46 = .ok (.iconst 0, 1) := by decide +kernel
theorem dX11_isNear_47 : decode cX11_isNear 47 = .ok (.ireturn, 1) := by decide +kernel
theorem dX11_ending_0 : decode cX11_ending 0 = .ok (.iconst 0, 1) := by decide +kernel
theorem dX11_ending_1 : decode cX11_ending 1 = .ok (.istore_n 1, 1) := by decide +kernel
theorem dX11_ending_2 : decode cX11_ending 2 = .ok (.iload_n 1, 1) := by decide +kernel
theorem dX11_ending_3 : decode cX11_ending 3 = .ok (.aload_n 0, 1) := by decide +kernel
theorem dX11_ending_4 : decode cX11_ending 4 = .ok (.getfield 180, 3) := by decide +kernel
theorem dX11_ending_7 : decode cX11_ending 7 = .ok (.if_icmp .ge 56, 3) := by decide +kernel
theorem dX11_ending_10 : decode cX11_ending 10 = .ok (.aload_n 0, 1) := by decide +kernel
theorem dX11_ending_11 : decode cX11_ending 11 = .ok (.aload_n 0, 1) := by decide +kernel
theorem dX11_ending_12 : decode cX11_ending 12 = .ok (.getfield 44, 3) := by decide +kernel
theorem dX11_ending_15 : decode cX11_ending 15 = .ok (.iload_n 1, 1) := by decide +kernel
theorem dX11_ending_16 : decode cX11_ending 16 = .ok (.iaload, 1) := by decide +kernel
theorem dX11_ending_17 : decode cX11_ending 17 = .ok (.aload_n 0, 1) := by decide +kernel
theorem dX11_ending_18 : decode cX11_ending 18 = .ok (.getfield 47, 3) := by decide +kernel
theorem dX11_ending_21 : decode cX11_ending 21 = .ok (.iload_n 1, 1) := by decide +kernel
theorem dX11_ending_22 : decode cX11_ending 22 = .ok (.iaload, 1) := by decide +kernel
theorem dX11_ending_23 : decode cX11_ending 23 = .ok (.aload_n 0, 1) := by decide +kernel
theorem dX11_ending_24 : decode cX11_ending 24 = .ok (.getfield 50, 3) := by decide +kernel
theorem dX11_ending_27 : decode cX11_ending 27 = .ok (.iload_n 1, 1) := by decide +kernel
theorem dX11_ending_28 : decode cX11_ending 28 = .ok (.iaload, 1) := by decide +kernel
theorem dX11_ending_29 : decode cX11_ending 29 = .ok (.invokevirtual 201, 3) := by decide +kernel
theorem dX11_ending_32 : decode cX11_ending 32 = .ok (.ifCond .eq 25, 3) := by decide +kernel
theorem dX11_ending_35 : decode cX11_ending 35 = .ok (.aload_n 0, 1) := by decide +kernel
theorem dX11_ending_36 : decode cX11_ending 36 = .ok (.getfield 60, 3) := by decide +kernel
theorem dX11_ending_39 : decode cX11_ending 39 = .ok (.iconst 2, 1) := by decide +kernel
theorem dX11_ending_40 : decode cX11_ending 40 = .ok (.iaload, 1) := by decide +kernel
theorem dX11_ending_41 : decode cX11_ending 41 = .ok (.aload_n 0, 1) := by decide +kernel
theorem dX11_ending_42 : decode cX11_ending 42 = .ok (.getfield 53, 3) := by decide +kernel
theorem dX11_ending_45 : decode cX11_ending 45 = .ok (.iload_n 1, 1) := by decide +kernel
theorem dX11_ending_46 : decode cX11_ending 46 = .ok (.iaload, 1) := by decide +kernel
theorem dX11_ending_47 : decode cX11_ending 47 = .ok (.if_icmp .gt 10, 3) := by decide +kernel
theorem dX11_ending_50 : decode cX11_ending 50 = .ok (.aload_n 0, 1) := by decide +kernel
theorem dX11_ending_51 : decode cX11_ending 51 = .ok (.iload_n 1, 1) := by decide +kernel
theorem dX11_ending_52 : decode cX11_ending 52 = .ok (.putfield 205, 3) := by decide +kernel
theorem dX11_ending_55 : decode cX11_ending 55 = .ok (.iconst 3, 1) := by decide +kernel
theorem dX11_ending_56 : decode cX11_ending 56 = .ok (.ireturn, 1) := by decide +kernel
theorem dX11_ending_57 : decode cX11_ending 57 = .ok (.iinc 1 1, 3) := by decide +kernel
theorem dX11_ending_60 : decode cX11_ending 60 = .ok (.goto (-58), 3) := by decide +kernel
theorem dX11_ending_63 : decode cX11_ending 63 = .ok (.aload_n 0, 1) := by decide +kernel
theorem dX11_ending_64 : decode cX11_ending 64 = .ok (.getfield 60, 3) := by decide +kernel
theorem dX11_ending_67 : decode cX11_ending 67 = .ok (.iconst 2, 1) := by decide +kernel
theorem dX11_ending_68 : decode cX11_ending 68 = .ok (.iaload, 1) := by decide +kernel
theorem dX11_ending_69 : decode cX11_ending 69 = .ok (.ifCond .gt 5, 3) := by decide +kernel
theorem dX11_ending_72 : decode cX11_ending 72 = .ok (.iconst 1, 1) := by decide +kernel
theorem dX11_ending_73 : decode cX11_ending 73 = .ok (.ireturn, 1) := by decide +kernel
theorem dX11_ending_74 : decode cX11_ending 74 = .ok (.aload_n 0, 1) := by decide +kernel
theorem dX11_ending_75 : decode cX11_ending 75 = .ok (.getfield 189, 3) := by decide +kernel
theorem dX11_ending_78 : decode cX11_ending 78 = .ok (.bipush 20, 2) := by decide +kernel
theorem dX11_ending_80 : decode cX11_ending 80 = .ok (.if_icmp .lt 39, 3) := by decide +kernel
theorem dX11_ending_83 : decode cX11_ending 83 = .ok (.aload_n 0, 1) := by decide +kernel
theorem dX11_ending_84 : decode cX11_ending 84 = .ok (.iconst 0, 1) := by decide +kernel
theorem dX11_ending_85 : decode cX11_ending 85 = .ok (.iconst 0, 1) := by decide +kernel
theorem dX11_ending_86 : decode cX11_ending 86 = .ok (.aload_n 0, 1) := by decide +kernel
theorem dX11_ending_87 : decode cX11_ending 87 = .ok (.getfield 56, 3) := by decide +kernel
theorem dX11_ending_90 : decode cX11_ending 90 = .ok (.invokevirtual 201, 3) := by decide +kernel
theorem dX11_ending_93 : decode cX11_ending 93 = .ok (.ifCond .eq 26, 3) := by decide +kernel
theorem dX11_ending_96 : decode cX11_ending 96 = .ok (.aload_n 0, 1) := by decide +kernel
theorem dX11_ending_97 : decode cX11_ending 97 = .ok (.getfield 60, 3) := by decide +kernel
theorem dX11_ending_100 : decode cX11_ending 100 = .ok (.iconst 2, 1) := by decide +kernel
theorem dX11_ending_101 : decode cX11_ending 101 = .ok (.iaload, 1) := by decide +kernel
theorem dX11_ending_102 : decode cX11_ending 102 = .ok (.i2l, 1) := by decide +kernel
theorem dX11_ending_103 : decode cX11_ending 103 = .ok (.ldc2_w 208, 3) := by decide +kernel
theorem dX11_ending_106 : decode cX11_ending 106 = .ok (.ldc2_w 210, 3) := by decide +kernel
theorem dX11_ending_109 : decode cX11_ending 109 = .ok (.invokestatic 127, 3) := by decide +kernel
theorem dX11_ending_112 : decode cX11_ending 112 = .ok (.ifCond .eq 7, 3) := by decide +kernel
theorem dX11_ending_115 : decode cX11_ending 115 = .ok (.iconst 2, 1) := by decide +kernel
theorem dX11_ending_116 : decode cX11_ending 116 = .ok (.goto 18, 3) := by decide +kernel
theorem dX11_ending_119 : decode cX11_ending 119 = .ok (.aload_n 0, 1) := by decide +kernel
theorem dX11_ending_120 : decode cX11_ending 120 = .ok (.getfield 189, 3) := by decide +kernel
theorem dX11_ending_123 : decode cX11_ending 123 = .ok (.sipush 400, 3) := by decide +kernel
theorem dX11_ending_126 : decode cX11_ending 126 = .ok (.if_icmp .ne 7, 3) := by decide +kernel
theorem dX11_ending_129 : decode cX11_ending 129 = .ok (.iconst 4, 1) := by decide +kernel
theorem dX11_ending_130 : decode cX11_ending 130 = .ok (.goto 4, 3) := by decide +kernel
theorem dX11_ending_133 : decode cX11_ending 133 = .ok (.iconst 0, 1) := by decide +kernel
theorem dX11_ending_134 : decode cX11_ending 134 = .ok (.ireturn, 1) := by decide +kernel
theorem dX11_flies_0 : decode cX11_flies 0 = .ok (.aload_n 0, 1) := by decide +kernel
theorem dX11_flies_1 : decode cX11_flies 1 = .ok (.getfield 60, 3) := by decide +kernel
theorem dX11_flies_4 : decode cX11_flies 4 = .ok (.iconst 0, 1) := by decide +kernel
theorem dX11_flies_5 : decode cX11_flies 5 = .ok (.iconst 0, 1) := by decide +kernel
theorem dX11_flies_6 : decode cX11_flies 6 = .ok (.iastore, 1) := by decide +kernel
theorem dX11_flies_7 : decode cX11_flies 7 = .ok (.aload_n 0, 1) := by decide +kernel
theorem dX11_flies_8 : decode cX11_flies 8 = .ok (.getfield 60, 3) := by decide +kernel
theorem dX11_flies_11 : decode cX11_flies 11 = .ok (.iconst 1, 1) := by decide +kernel
theorem dX11_flies_12 : decode cX11_flies 12 = .ok (.iconst 0, 1) := by decide +kernel
theorem dX11_flies_13 : decode cX11_flies 13 = .ok (.iastore, 1) := by decide +kernel
theorem dX11_flies_14 : decode cX11_flies 14 = .ok (.aload_n 0, 1) := by decide +kernel
theorem dX11_flies_15 : decode cX11_flies 15 = .ok (.getfield 60, 3) := by decide +kernel
theorem dX11_flies_18 : decode cX11_flies 18 = .ok (.iconst 2, 1) := by decide +kernel
theorem dX11_flies_19 : decode cX11_flies 19 = .ok (.sipush 150, 3) := by decide +kernel
theorem dX11_flies_22 : decode cX11_flies 22 = .ok (.iastore, 1) := by decide +kernel
theorem dX11_flies_23 : decode cX11_flies 23 = .ok (.aload_n 0, 1) := by decide +kernel
theorem dX11_flies_24 : decode cX11_flies 24 = .ok (.getfield 60, 3) := by decide +kernel
theorem dX11_flies_27 : decode cX11_flies 27 = .ok (.iconst 3, 1) := by decide +kernel
theorem dX11_flies_28 : decode cX11_flies 28 = .ok (.iconst 0, 1) := by decide +kernel
theorem dX11_flies_29 : decode cX11_flies 29 = .ok (.iastore, 1) := by decide +kernel
theorem dX11_flies_30 : decode cX11_flies 30 = .ok (.aload_n 0, 1) := by decide +kernel
theorem dX11_flies_31 : decode cX11_flies 31 = .ok (.getfield 60, 3) := by decide +kernel
theorem dX11_flies_34 : decode cX11_flies 34 = .ok (.iconst 4, 1) := by decide +kernel
theorem dX11_flies_35 : decode cX11_flies 35 = .ok (.bipush 100, 2) := by decide +kernel
theorem dX11_flies_37 : decode cX11_flies 37 = .ok (.iload 4, 2) := by decide +kernel
theorem dX11_flies_39 : decode cX11_flies 39 = .ok (.imul, 1) := by decide +kernel
theorem dX11_flies_40 : decode cX11_flies 40 = .ok (.iastore, 1) := by decide +kernel
theorem dX11_flies_41 : decode cX11_flies 41 = .ok (.aload_n 0, 1) := by decide +kernel
theorem dX11_flies_42 : decode cX11_flies 42 = .ok (.getfield 60, 3) := by decide +kernel
theorem dX11_flies_45 : decode cX11_flies 45 = .ok (.iconst 5, 1) := by decide +kernel
theorem dX11_flies_46 : decode cX11_flies 46 = .ok (.iload 5, 2) := by decide +kernel
theorem dX11_flies_48 : decode cX11_flies 48 = .ok (.iastore, 1) := by decide +kernel
theorem dX11_flies_49 : decode cX11_flies 49 = .ok (.aload_n 0, 1) := by decide +kernel
theorem dX11_flies_50 : decode cX11_flies 50 = .ok (.getfield 60, 3) := by decide +kernel
theorem dX11_flies_53 : decode cX11_flies 53 = .ok (.bipush 6, 2) := by decide +kernel
theorem dX11_flies_55 : decode cX11_flies 55 = .ok (.iload 6, 2) := by decide +kernel
theorem dX11_flies_57 : decode cX11_flies 57 = .ok (.iastore, 1) := by decide +kernel
theorem dX11_flies_58 : decode cX11_flies 58 = .ok (.aload_n 0, 1) := by decide +kernel
theorem dX11_flies_59 : decode cX11_flies 59 = .ok (.getfield 60, 3) := by decide +kernel
theorem dX11_flies_62 : decode cX11_flies 62 = .ok (.bipush 7, 2) := by decide +kernel
theorem dX11_flies_64 : decode cX11_flies 64 = .ok (.iload_n 3, 1) := by decide +kernel
theorem dX11_flies_65 : decode cX11_flies 65 = .ok (.iastore, 1) := by decide +kernel
theorem dX11_flies_66 : decode cX11_flies 66 = .ok (.aload_n 0, 1) := by decide +kernel
theorem dX11_flies_67 : decode cX11_flies 67 = .ok (.iconst 0, 1) := by decide +kernel
theorem dX11_flies_68 : decode cX11_flies 68 = .ok (.putfield 189, 3) := by decide +kernel
theorem dX11_flies_71 : decode cX11_flies 71 = .ok (.aload_n 0, 1) := by decide +kernel
theorem dX11_flies_72 : decode cX11_flies 72 = .ok (.bipush (-4), 2) := by decide +kernel
theorem dX11_flies_74 : decode cX11_flies 74 = .ok (.putfield 205, 3) := by decide +kernel
theorem dX11_flies_77 : decode cX11_flies 77 = .ok (.aload_n 0, 1) := by decide +kernel
theorem dX11_flies_78 : decode cX11_flies 78 = .ok (.invokevirtual 212, 3) := by decide +kernel
theorem dX11_flies_81 : decode cX11_flies 81 = .ok (.iconst 0, 1) := by decide +kernel
theorem dX11_flies_82 : decode cX11_flies 82 = .ok (.istore 8, 2) := by decide +kernel
theorem dX11_flies_84 : decode cX11_flies 84 = .ok (.iload 8, 2) := by decide +kernel
theorem dX11_flies_86 : decode cX11_flies 86 = .ok (.ifCond .ne 24, 3) := by decide +kernel
theorem dX11_flies_89 : decode cX11_flies 89 = .ok (.aload_n 0, 1) := by decide +kernel
theorem dX11_flies_90 : decode cX11_flies 90 = .ok (.iload_n 1, 1) := by decide +kernel
theorem dX11_flies_91 : decode cX11_flies 91 = .ok (.iload_n 2, 1) := by decide +kernel
theorem dX11_flies_92 : decode cX11_flies 92 = .ok (.iload 7, 2) := by decide +kernel
theorem dX11_flies_94 : decode cX11_flies 94 = .ok (.invokevirtual 215, 3) := by decide +kernel
theorem dX11_flies_97 : decode cX11_flies 97 = .ok (.aload_n 0, 1) := by decide +kernel
theorem dX11_flies_98 : decode cX11_flies 98 = .ok (.invokevirtual 212, 3) := by decide +kernel
theorem dX11_flies_101 : decode cX11_flies 101 = .ok (.aload_n 0, 1) := by decide +kernel
theorem dX11_flies_102 : decode cX11_flies 102 = .ok (.invokevirtual 219, 3) := by decide +kernel
theorem dX11_flies_105 : decode cX11_flies 105 = .ok (.istore 8, 2) := by decide +kernel
theorem dX11_flies_107 : decode cX11_flies 107 = .ok (.goto (-23), 3) := by decide +kernel
theorem dX11_flies_110 : decode cX11_flies 110 = .ok (.iload 8, 2) := by decide +kernel
theorem dX11_flies_112 : decode cX11_flies 112 = .ok (.ireturn, 1) := by decide +kernel
theorem dX11_isThrow_0 : decode cX11_isThrow 0 = .ok (.lload_n 1, 1) := by decide +kernel
theorem dX11_isThrow_1 : decode cX11_isThrow 1 = .ok (.lconst 0, 1) := by decide +kernel
theorem dX11_isThrow_2 : decode cX11_isThrow 2 = .ok (.aload_n 0, 1) := by decide +kernel
theorem dX11_isThrow_3 : decode cX11_isThrow 3 = .ok (.getfield 144, 3) := by decide +kernel
theorem dX11_isThrow_6 : decode cX11_isThrow 6 = .ok (.iconst 1, 1) := by decide +kernel
theorem dX11_isThrow_7 : decode cX11_isThrow 7 = .ok (.isub, 1) := by decide +kernel
theorem dX11_isThrow_8 : decode cX11_isThrow 8 = .ok (.i2l, 1) := by decide +kernel
theorem dX11_isThrow_9 : decode cX11_isThrow 9 = .ok (.invokestatic 127, 3) := by decide +kernel
theorem dX11_isThrow_12 : decode cX11_isThrow 12 = .ok (.ifCond .eq 58, 3) := by decide +kernel
theorem dX11_isThrow_15 : decode cX11_isThrow 15 = .ok (.lload_n 3, 1) := by decide +kernel
theorem dX11_isThrow_16 : decode cX11_isThrow 16 = .ok (.lconst 0, 1) := by decide +kernel
theorem dX11_isThrow_17 : decode cX11_isThrow 17 = .ok (.ldc2_w 223, 3) := by decide +kernel
theorem dX11_isThrow_20 : decode cX11_isThrow 20 = .ok (.invokestatic 127, 3) := by decide +kernel
theorem dX11_isThrow_23 : decode cX11_isThrow 23 = .ok (.ifCond .eq 47, 3) := by decide +kernel
theorem dX11_isThrow_26 : decode cX11_isThrow 26 = .ok (.lload 5, 2) := by decide +kernel
theorem dX11_isThrow_28 : decode cX11_isThrow 28 = .ok (.lconst 0, 1) := by decide +kernel
theorem dX11_isThrow_29 : decode cX11_isThrow 29 = .ok (.ldc2_w 131, 3) := by decide +kernel
theorem dX11_isThrow_32 : decode cX11_isThrow 32 = .ok (.invokestatic 127, 3) := by decide +kernel
theorem dX11_isThrow_35 : decode cX11_isThrow 35 = .ok (.ifCond .eq 35, 3) := by decide +kernel
theorem dX11_isThrow_38 : decode cX11_isThrow 38 = .ok (.lload 7, 2) := by decide +kernel
theorem dX11_isThrow_40 : decode cX11_isThrow 40 = .ok (.ldc2_w 225, 3) := by decide +kernel
theorem dX11_isThrow_43 : decode cX11_isThrow 43 = .ok (.ldc2_w 210, 3) := by decide +kernel
theorem dX11_isThrow_46 : decode cX11_isThrow 46 = .ok (.invokestatic 127, 3) := by decide +kernel
theorem dX11_isThrow_49 : decode cX11_isThrow 49 = .ok (.ifCond .eq 21, 3) := by decide +kernel
theorem dX11_isThrow_52 : decode cX11_isThrow 52 = .ok (.lload 9, 2) := by decide +kernel
theorem dX11_isThrow_54 : decode cX11_isThrow 54 = .ok (.ldc2_w 136, 3) := by decide +kernel
theorem dX11_isThrow_57 : decode cX11_isThrow 57 = .ok (.ldc2_w 227, 3) := by decide +kernel
theorem dX11_isThrow_60 : decode cX11_isThrow 60 = .ok (.invokestatic 127, 3) := by decide +kernel
theorem dX11_isThrow_63 : decode cX11_isThrow 63 = .ok (.ifCond .eq 7, 3) := by decide +kernel
theorem dX11_isThrow_66 : decode cX11_isThrow 66 = .ok (.iconst 1, 1) := by decide +kernel
theorem dX11_isThrow_67 : decode cX11_isThrow 67 = .ok (.goto 4, 3) := by decide +kernel
theorem dX11_isThrow_70 : decode cX11_isThrow 70 = .ok (.iconst 0, 1) := by decide +kernel
theorem dX11_isThrow_71 : decode cX11_isThrow 71 = .ok (.ireturn, 1) := by decide +kernel
theorem dX11_fly_0 : decode cX11_fly 0 = .ok (.aload_n 0, 1) := by decide +kernel
theorem dX11_fly_1 : decode cX11_fly 1 = .ok (.iload_n 1, 1) := by decide +kernel
theorem dX11_fly_2 : decode cX11_fly 2 = .ok (.i2l, 1) := by decide +kernel
theorem dX11_fly_3 : decode cX11_fly 3 = .ok (.iload_n 2, 1) := by decide +kernel
theorem dX11_fly_4 : decode cX11_fly 4 = .ok (.i2l, 1) := by decide +kernel
theorem dX11_fly_5 : decode cX11_fly 5 = .ok (.iload_n 3, 1) := by decide +kernel
theorem dX11_fly_6 : decode cX11_fly 6 = .ok (.i2l, 1) := by decide +kernel
theorem dX11_fly_7 : decode cX11_fly 7 = .ok (.iload 4, 2) := by decide +kernel
theorem dX11_fly_9 : decode cX11_fly 9 = .ok (.i2l, 1) := by decide +kernel
theorem dX11_fly_10 : decode cX11_fly 10 = .ok (.iload 5, 2) := by decide +kernel
theorem dX11_fly_12 : decode cX11_fly 12 = .ok (.i2l, 1) := by decide +kernel
theorem dX11_fly_13 : decode cX11_fly 13 = .ok (.invokevirtual 229, 3) := by decide +kernel
theorem dX11_fly_16 : decode cX11_fly 16 = .ok (.ifCond .eq 12, 3) := by decide +kernel
theorem dX11_fly_19 : decode cX11_fly 19 = .ok (.aload_n 0, 1) := by decide +kernel
theorem dX11_fly_20 : decode cX11_fly 20 = .ok (.iload 6, 2) := by decide +kernel
theorem dX11_fly_22 : decode cX11_fly 22 = .ok (.invokevirtual 233, 3) := by decide +kernel
theorem dX11_fly_25 : decode cX11_fly 25 = .ok (.ifCond .ne 5, 3) := by decide +kernel
theorem dX11_fly_28 : decode cX11_fly 28 = .ok (.iconst (-1), 1) := by decide +kernel
theorem dX11_fly_29 : decode cX11_fly 29 = .ok (.ireturn, 1) := by decide +kernel
theorem dX11_fly_30 : decode cX11_fly 30 = .ok (.aload_n 0, 1) := by decide +kernel
theorem dX11_fly_31 : decode cX11_fly 31 = .ok (.iconst 1, 1) := by decide +kernel
theorem dX11_fly_32 : decode cX11_fly 32 = .ok (.putfield 185, 3) := by decide +kernel
theorem dX11_fly_35 : decode cX11_fly 35 = .ok (.aload_n 0, 1) := by decide +kernel
theorem dX11_fly_36 : decode cX11_fly 36 = .ok (.iload_n 1, 1) := by decide +kernel
theorem dX11_fly_37 : decode cX11_fly 37 = .ok (.aload_n 0, 1) := by decide +kernel
theorem dX11_fly_38 : decode cX11_fly 38 = .ok (.getfield 28, 3) := by decide +kernel
theorem dX11_fly_41 : decode cX11_fly 41 = .ok (.iload_n 1, 1) := by decide +kernel
theorem dX11_fly_42 : decode cX11_fly 42 = .ok (.iaload, 1) := by decide +kernel
theorem dX11_fly_43 : decode cX11_fly 43 = .ok (.iload_n 2, 1) := by decide +kernel
theorem dX11_fly_44 : decode cX11_fly 44 = .ok (.iload_n 3, 1) := by decide +kernel
theorem dX11_fly_45 : decode cX11_fly 45 = .ok (.iload 4, 2) := by decide +kernel
theorem dX11_fly_47 : decode cX11_fly 47 = .ok (.iload 5, 2) := by decide +kernel
theorem dX11_fly_49 : decode cX11_fly 49 = .ok (.iload 6, 2) := by decide +kernel
theorem dX11_fly_51 : decode cX11_fly 51 = .ok (.invokevirtual 236, 3) := by decide +kernel
theorem dX11_fly_54 : decode cX11_fly 54 = .ok (.istore 7, 2) := by decide +kernel
theorem dX11_fly_56 : decode cX11_fly 56 = .ok (.aload_n 0, 1) := by decide +kernel
theorem dX11_fly_57 : decode cX11_fly 57 = .ok (.iconst 0, 1) := by decide +kernel
theorem dX11_fly_58 : decode cX11_fly 58 = .ok (.putfield 185, 3) := by decide +kernel
theorem dX11_fly_61 : decode cX11_fly 61 = .ok (.aload_n 0, 1) := by decide +kernel
theorem dX11_fly_62 : decode cX11_fly 62 = .ok (.iconst 1, 1) := by decide +kernel
theorem dX11_fly_63 : decode cX11_fly 63 = .ok (.putfield 240, 3) := by decide +kernel
theorem dX11_fly_66 : decode cX11_fly 66 = .ok (.aload_n 0, 1) := by decide +kernel
theorem dX11_fly_67 : decode cX11_fly 67 = .ok (.aload_n 0, 1) := by decide +kernel
theorem dX11_fly_68 : decode cX11_fly 68 = .ok (.getfield 189, 3) := by decide +kernel
theorem dX11_fly_71 : decode cX11_fly 71 = .ok (.putfield 243, 3) := by decide +kernel
theorem dX11_fly_74 : decode cX11_fly 74 = .ok (.aload_n 0, 1) := by decide +kernel
theorem dX11_fly_75 : decode cX11_fly 75 = .ok (.aload_n 0, 1) := by decide +kernel
theorem dX11_fly_76 : decode cX11_fly 76 = .ok (.getfield 205, 3) := by decide +kernel
theorem dX11_fly_79 : decode cX11_fly 79 = .ok (.putfield 63, 3) := by decide +kernel
theorem dX11_fly_82 : decode cX11_fly 82 = .ok (.iload 7, 2) := by decide +kernel
theorem dX11_fly_84 : decode cX11_fly 84 = .ok (.ireturn, 1) := by decide +kernel
theorem dX11_at_0 : decode cX11_at 0 = .ok (.aload_n 0, 1) := by decide +kernel
theorem dX11_at_1 : decode cX11_at 1 = .ok (.getfield 240, 3) := by decide +kernel
theorem dX11_at_4 : decode cX11_at 4 = .ok (.ifCond .eq 43, 3) := by decide +kernel
theorem dX11_at_7 : decode cX11_at 7 = .ok (.iload_n 1, 1) := by decide +kernel
theorem dX11_at_8 : decode cX11_at 8 = .ok (.i2l, 1) := by decide +kernel
theorem dX11_at_9 : decode cX11_at 9 = .ok (.lconst 0, 1) := by decide +kernel
theorem dX11_at_10 : decode cX11_at 10 = .ok (.aload_n 0, 1) := by decide +kernel
theorem dX11_at_11 : decode cX11_at 11 = .ok (.getfield 243, 3) := by decide +kernel
theorem dX11_at_14 : decode cX11_at 14 = .ok (.i2l, 1) := by decide +kernel
theorem dX11_at_15 : decode cX11_at 15 = .ok (.invokestatic 127, 3) := by decide +kernel
theorem dX11_at_18 : decode cX11_at 18 = .ok (.ifCond .eq 29, 3) := by decide +kernel
theorem dX11_at_21 : decode cX11_at 21 = .ok (.iload_n 2, 1) := by decide +kernel
theorem dX11_at_22 : decode cX11_at 22 = .ok (.i2l, 1) := by decide +kernel
theorem dX11_at_23 : decode cX11_at 23 = .ok (.lconst 0, 1) := by decide +kernel
theorem dX11_at_24 : decode cX11_at 24 = .ok (.ldc2_w 246, 3) := by decide +kernel
theorem dX11_at_27 : decode cX11_at 27 = .ok (.invokestatic 127, 3) := by decide +kernel
theorem dX11_at_30 : decode cX11_at 30 = .ok (.ifCond .eq 17, 3) := by decide +kernel
theorem dX11_at_33 : decode cX11_at 33 = .ok (.aload_n 0, 1) := by decide +kernel
theorem dX11_at_34 : decode cX11_at 34 = .ok (.getfield 66, 3) := by decide +kernel
theorem dX11_at_37 : decode cX11_at 37 = .ok (.bipush 8, 2) := by decide +kernel
theorem dX11_at_39 : decode cX11_at 39 = .ok (.iload_n 1, 1) := by decide +kernel
theorem dX11_at_40 : decode cX11_at 40 = .ok (.imul, 1) := by decide +kernel
theorem dX11_at_41 : decode cX11_at 41 = .ok (.iload_n 2, 1) := by decide +kernel
theorem dX11_at_42 : decode cX11_at 42 = .ok (.iadd, 1) := by decide +kernel
theorem dX11_at_43 : decode cX11_at 43 = .ok (.iaload, 1) := by decide +kernel
theorem dX11_at_44 : decode cX11_at 44 = .ok (.goto 5, 3) := by decide +kernel
theorem dX11_at_47 : decode cX11_at 47 = .ok (.ldc 248, 2) := by decide +kernel
theorem dX11_at_49 : decode cX11_at 49 = .ok (.ireturn, 1) := by decide +kernel
theorem dX11_ticks_0 : decode cX11_ticks 0 = .ok (.aload_n 0, 1) := by decide +kernel
theorem dX11_ticks_1 : decode cX11_ticks 1 = .ok (.getfield 243, 3) := by decide +kernel
theorem dX11_ticks_4 : decode cX11_ticks 4 = .ok (.ireturn, 1) := by decide +kernel
theorem dX11_hit_0 : decode cX11_hit 0 = .ok (.aload_n 0, 1) := by decide +kernel
theorem dX11_hit_1 : decode cX11_hit 1 = .ok (.getfield 63, 3) := by decide +kernel
theorem dX11_hit_4 : decode cX11_hit 4 = .ok (.ireturn, 1) := by decide +kernel
theorem dX11_backs_0 : decode cX11_backs 0 = .ok (.iconst 0, 1) := by decide +kernel
theorem dX11_backs_1 : decode cX11_backs 1 = .ok (.istore 6, 2) := by decide +kernel
theorem dX11_backs_3 : decode cX11_backs 3 = .ok (.iconst 0, 1) := by decide +kernel
theorem dX11_backs_4 : decode cX11_backs 4 = .ok (.istore 7, 2) := by decide +kernel
theorem dX11_backs_6 : decode cX11_backs 6 = .ok (.iload 7, 2) := by decide +kernel
theorem dX11_backs_8 : decode cX11_backs 8 = .ok (.bipush 8, 2) := by decide +kernel
theorem dX11_backs_10 : decode cX11_backs 10 = .ok (.if_icmp .ge 54, 3) := by decide +kernel
theorem dX11_backs_13 : decode cX11_backs 13 = .ok (.iload 6, 2) := by decide +kernel
theorem dX11_backs_15 : decode cX11_backs 15 = .ok (.iload 5, 2) := by decide +kernel
theorem dX11_backs_17 : decode cX11_backs 17 = .ok (.iload 7, 2) := by decide +kernel
theorem dX11_backs_19 : decode cX11_backs 19 = .ok (.ishr, 1) := by decide +kernel
theorem dX11_backs_20 : decode cX11_backs 20 = .ok (.iconst 1, 1) := by decide +kernel
theorem dX11_backs_21 : decode cX11_backs 21 = .ok (.iand, 1) := by decide +kernel
theorem dX11_backs_22 : decode cX11_backs 22 = .ok (.iconst 1, 1) := by decide +kernel
theorem dX11_backs_23 : decode cX11_backs 23 = .ok (.if_icmp .ne 31, 3) := by decide +kernel
theorem dX11_backs_26 : decode cX11_backs 26 = .ok (.aload_n 0, 1) := by decide +kernel
theorem dX11_backs_27 : decode cX11_backs 27 = .ok (.iload_n 1, 1) := by decide +kernel
theorem dX11_backs_28 : decode cX11_backs 28 = .ok (.aload_n 0, 1) := by decide +kernel
theorem dX11_backs_29 : decode cX11_backs 29 = .ok (.getfield 28, 3) := by decide +kernel
theorem dX11_backs_32 : decode cX11_backs 32 = .ok (.iload_n 1, 1) := by decide +kernel
theorem dX11_backs_33 : decode cX11_backs 33 = .ok (.iaload, 1) := by decide +kernel
theorem dX11_backs_34 : decode cX11_backs 34 = .ok (.iload_n 2, 1) := by decide +kernel
theorem dX11_backs_35 : decode cX11_backs 35 = .ok (.iload_n 3, 1) := by decide +kernel
theorem dX11_backs_36 : decode cX11_backs 36 = .ok (.iload 4, 2) := by decide +kernel
theorem dX11_backs_38 : decode cX11_backs 38 = .ok (.sipush 800, 3) := by decide +kernel
theorem dX11_backs_41 : decode cX11_backs 41 = .ok (.iload 7, 2) := by decide +kernel
theorem dX11_backs_43 : decode cX11_backs 43 = .ok (.invokevirtual 236, 3) := by decide +kernel
theorem dX11_backs_46 : decode cX11_backs 46 = .ok (.iconst 2, 1) := by decide +kernel
theorem dX11_backs_47 : decode cX11_backs 47 = .ok (.if_icmp .ne 7, 3) := by decide +kernel
theorem dX11_backs_50 : decode cX11_backs 50 = .ok (.iconst 1, 1) := by decide +kernel
theorem dX11_backs_51 : decode cX11_backs 51 = .ok (.goto 4, 3) := by decide +kernel
theorem dX11_backs_54 : decode cX11_backs 54 = .ok (.iconst 0, 1) := by decide +kernel
theorem dX11_backs_55 : decode cX11_backs 55 = .ok (.iadd, 1) := by decide +kernel
theorem dX11_backs_56 : decode cX11_backs 56 = .ok (.istore 6, 2) := by decide +kernel
theorem dX11_backs_58 : decode cX11_backs 58 = .ok (.iinc 7 1, 3) := by decide +kernel
theorem dX11_backs_61 : decode cX11_backs 61 = .ok (.goto (-55), 3) := by decide +kernel
theorem dX11_backs_64 : decode cX11_backs 64 = .ok (.iload 6, 2) := by decide +kernel
theorem dX11_backs_66 : decode cX11_backs 66 = .ok (.ireturn, 1) := by decide +kernel
theorem dX11_choose_0 : decode cX11_choose 0 = .ok (.iload_n 1, 1) := by decide +kernel
theorem dX11_choose_1 : decode cX11_choose 1 = .ok (.i2l, 1) := by decide +kernel
theorem dX11_choose_2 : decode cX11_choose 2 = .ok (.lconst 1, 1) := by decide +kernel
theorem dX11_choose_3 : decode cX11_choose 3 = .ok (.iconst 1, 1) := by decide +kernel
theorem dX11_choose_4 : decode cX11_choose 4 = .ok (.aload_n 0, 1) := by decide +kernel
theorem dX11_choose_5 : decode cX11_choose 5 = .ok (.getfield 144, 3) := by decide +kernel
theorem dX11_choose_8 : decode cX11_choose 8 = .ok (.ishl, 1) := by decide +kernel
theorem dX11_choose_9 : decode cX11_choose 9 = .ok (.iconst 1, 1) := by decide +kernel
theorem dX11_choose_10 : decode cX11_choose 10 = .ok (.isub, 1) := by decide +kernel
theorem dX11_choose_11 : decode cX11_choose 11 = .ok (.i2l, 1) := by decide +kernel
theorem dX11_choose_12 : decode cX11_choose 12 = .ok (.invokestatic 127, 3) := by decide +kernel
theorem dX11_choose_15 : decode cX11_choose 15 = .ok (.ifCond .eq 21, 3) := by decide +kernel
theorem dX11_choose_18 : decode cX11_choose 18 = .ok (.iload_n 2, 1) := by decide +kernel
theorem dX11_choose_19 : decode cX11_choose 19 = .ok (.i2l, 1) := by decide +kernel
theorem dX11_choose_20 : decode cX11_choose 20 = .ok (.lconst 1, 1) := by decide +kernel
theorem dX11_choose_21 : decode cX11_choose 21 = .ok (.iconst 1, 1) := by decide +kernel
theorem dX11_choose_22 : decode cX11_choose 22 = .ok (.aload_n 0, 1) := by decide +kernel
theorem dX11_choose_23 : decode cX11_choose 23 = .ok (.getfield 165, 3) := by decide +kernel
theorem dX11_choose_26 : decode cX11_choose 26 = .ok (.ishl, 1) := by decide +kernel
theorem dX11_choose_27 : decode cX11_choose 27 = .ok (.iconst 1, 1) := by decide +kernel
theorem dX11_choose_28 : decode cX11_choose 28 = .ok (.isub, 1) := by decide +kernel
theorem dX11_choose_29 : decode cX11_choose 29 = .ok (.i2l, 1) := by decide +kernel
theorem dX11_choose_30 : decode cX11_choose 30 = .ok (.invokestatic 127, 3) := by decide +kernel
theorem dX11_choose_33 : decode cX11_choose 33 = .ok (.ifCond .ne 5, 3) := by decide +kernel
theorem dX11_choose_36 : decode cX11_choose 36 = .ok (.iconst (-1), 1) := by decide +kernel
theorem dX11_choose_37 : decode cX11_choose 37 = .ok (.ireturn, 1) := by decide +kernel
theorem dX11_choose_38 : decode cX11_choose 38 = .ok (.iconst (-1), 1) := by decide +kernel
theorem dX11_choose_39 : decode cX11_choose 39 = .ok (.istore_n 3, 1) := by decide +kernel
theorem dX11_choose_40 : decode cX11_choose 40 = .ok (.iconst 0, 1) := by decide +kernel
theorem dX11_choose_41 : decode cX11_choose 41 = .ok (.istore 4, 2) := by decide +kernel
theorem dX11_choose_43 : decode cX11_choose 43 = .ok (.iload 4, 2) := by decide +kernel
theorem dX11_choose_45 : decode cX11_choose 45 = .ok (.aload_n 0, 1) := by decide +kernel
theorem dX11_choose_46 : decode cX11_choose 46 = .ok (.getfield 144, 3) := by decide +kernel
theorem dX11_choose_49 : decode cX11_choose 49 = .ok (.if_icmp .ge 155, 3) := by decide +kernel
theorem dX11_choose_52 : decode cX11_choose 52 = .ok (.iload_n 1, 1) := by decide +kernel
theorem dX11_choose_53 : decode cX11_choose 53 = .ok (.iload 4, 2) := by decide +kernel
theorem dX11_choose_55 : decode cX11_choose 55 = .ok (.ishr, 1) := by decide +kernel
theorem dX11_choose_56 : decode cX11_choose 56 = .ok (.iconst 1, 1) := by decide +kernel
theorem dX11_choose_57 : decode cX11_choose 57 = .ok (.iand, 1) := by decide +kernel
theorem dX11_choose_58 : decode cX11_choose 58 = .ok (.iconst 1, 1) := by decide +kernel
theorem dX11_choose_59 : decode cX11_choose 59 = .ok (.if_icmp .ne 17, 3) := by decide +kernel
theorem dX11_choose_62 : decode cX11_choose 62 = .ok (.aload_n 0, 1) := by decide +kernel
theorem dX11_choose_63 : decode cX11_choose 63 = .ok (.getfield 34, 3) := by decide +kernel
theorem dX11_choose_66 : decode cX11_choose 66 = .ok (.iload 4, 2) := by decide +kernel
theorem dX11_choose_68 : decode cX11_choose 68 = .ok (.baload, 1) := by decide +kernel
theorem dX11_choose_69 : decode cX11_choose 69 = .ok (.ifCond .ne 7, 3) := by decide +kernel
theorem dX11_choose_72 : decode cX11_choose 72 = .ok (.iconst 1, 1) := by decide +kernel
theorem dX11_choose_73 : decode cX11_choose 73 = .ok (.goto 4, 3) := by decide +kernel
theorem dX11_choose_76 : decode cX11_choose 76 = .ok (.iconst 0, 1) := by decide +kernel
theorem dX11_choose_77 : decode cX11_choose 77 = .ok (.istore 5, 2) := by decide +kernel
theorem dX11_choose_79 : decode cX11_choose 79 = .ok (.iconst 0, 1) := by decide +kernel
theorem dX11_choose_80 : decode cX11_choose 80 = .ok (.istore 6, 2) := by decide +kernel
theorem dX11_choose_82 : decode cX11_choose 82 = .ok (.iload 6, 2) := by decide +kernel
theorem dX11_choose_84 : decode cX11_choose 84 = .ok (.bipush 48, 2) := by decide +kernel
theorem dX11_choose_86 : decode cX11_choose 86 = .ok (.if_icmp .ge 112, 3) := by decide +kernel
theorem dX11_choose_89 : decode cX11_choose 89 = .ok (.iload 5, 2) := by decide +kernel
theorem dX11_choose_91 : decode cX11_choose 91 = .ok (.ifCond .eq 107, 3) := by decide +kernel
theorem dX11_choose_94 : decode cX11_choose 94 = .ok (.bipush 20, 2) := by decide +kernel
theorem dX11_choose_96 : decode cX11_choose 96 = .ok (.bipush 25, 2) := by decide +kernel
theorem dX11_choose_98 : decode cX11_choose 98 = .ok (.iload 6, 2) := by decide +kernel
theorem dX11_choose_100 : decode cX11_choose 100 = .ok (.bipush 16, 2) := by decide +kernel
theorem dX11_choose_102 : decode cX11_choose 102 = .ok (.idiv, 1) := by decide +kernel
theorem dX11_choose_103 : decode cX11_choose 103 = .ok (.imul, 1) := by decide +kernel
theorem dX11_choose_104 : decode cX11_choose 104 = .ok (.iadd, 1) := by decide +kernel
theorem dX11_choose_105 : decode cX11_choose 105 = .ok (.istore 7, 2) := by decide +kernel
theorem dX11_choose_107 : decode cX11_choose 107 = .ok (.bipush 45, 2) := by decide +kernel
theorem dX11_choose_109 : decode cX11_choose 109 = .ok (.iload 6, 2) := by decide +kernel
theorem dX11_choose_111 : decode cX11_choose 111 = .ok (.iconst 2, 1) := by decide +kernel
theorem dX11_choose_112 : decode cX11_choose 112 = .ok (.idiv, 1) := by decide +kernel
theorem dX11_choose_113 : decode cX11_choose 113 = .ok (.bipush 8, 2) := by decide +kernel
theorem dX11_choose_115 : decode cX11_choose 115 = .ok (.irem, 1) := by decide +kernel
theorem dX11_choose_116 : decode cX11_choose 116 = .ok (.imul, 1) := by decide +kernel
theorem dX11_choose_117 : decode cX11_choose 117 = .ok (.istore 8, 2) := by decide +kernel
theorem dX11_choose_119 : decode cX11_choose 119 = .ok (.bipush 80, 2) := by decide +kernel
theorem dX11_choose_121 : decode cX11_choose 121 = .ok (.bipush 80, 2) := by decide +kernel
theorem dX11_choose_123 : decode cX11_choose 123 = .ok (.iload 6, 2) := by decide +kernel
theorem dX11_choose_125 : decode cX11_choose 125 = .ok (.iconst 2, 1) := by decide +kernel
theorem dX11_choose_126 : decode cX11_choose 126 = .ok (.irem, 1) := by decide +kernel
theorem dX11_choose_127 : decode cX11_choose 127 = .ok (.imul, 1) := by decide +kernel
theorem dX11_choose_128 : decode cX11_choose 128 = .ok (.iadd, 1) := by decide +kernel
theorem dX11_choose_129 : decode cX11_choose 129 = .ok (.istore 9, 2) := by decide +kernel
theorem dX11_choose_131 : decode cX11_choose 131 = .ok (.aload_n 0, 1) := by decide +kernel
theorem dX11_choose_132 : decode cX11_choose 132 = .ok (.iload 4, 2) := by decide +kernel
theorem dX11_choose_134 : decode cX11_choose 134 = .ok (.iload 7, 2) := by decide +kernel
theorem dX11_choose_136 : decode cX11_choose 136 = .ok (.iload 8, 2) := by decide +kernel
theorem dX11_choose_138 : decode cX11_choose 138 = .ok (.iload 9, 2) := by decide +kernel
theorem dX11_choose_140 : decode cX11_choose 140 = .ok (.iload_n 2, 1) := by decide +kernel
theorem dX11_choose_141 : decode cX11_choose 141 = .ok (.invokevirtual 249, 3) := by decide +kernel
theorem dX11_choose_144 : decode cX11_choose 144 = .ok (.istore 10, 2) := by decide +kernel
theorem dX11_choose_146 : decode cX11_choose 146 = .ok (.iload 10, 2) := by decide +kernel
theorem dX11_choose_148 : decode cX11_choose 148 = .ok (.iload_n 3, 1) := by decide +kernel
theorem dX11_choose_149 : decode cX11_choose 149 = .ok (.if_icmp .le 43, 3) := by decide +kernel
theorem dX11_choose_152 : decode cX11_choose 152 = .ok (.iload 10, 2) := by decide +kernel
theorem dX11_choose_154 : decode cX11_choose 154 = .ok (.istore_n 3, 1) := by decide +kernel
theorem dX11_choose_155 : decode cX11_choose 155 = .ok (.aload_n 0, 1) := by decide +kernel
theorem dX11_choose_156 : decode cX11_choose 156 = .ok (.getfield 69, 3) := by decide +kernel
theorem dX11_choose_159 : decode cX11_choose 159 = .ok (.iconst 0, 1) := by decide +kernel
theorem dX11_choose_160 : decode cX11_choose 160 = .ok (.iload 4, 2) := by decide +kernel
theorem dX11_choose_162 : decode cX11_choose 162 = .ok (.iastore, 1) := by decide +kernel
theorem dX11_choose_163 : decode cX11_choose 163 = .ok (.aload_n 0, 1) := by decide +kernel
theorem dX11_choose_164 : decode cX11_choose 164 = .ok (.getfield 69, 3) := by decide +kernel
theorem dX11_choose_167 : decode cX11_choose 167 = .ok (.iconst 1, 1) := by decide +kernel
theorem dX11_choose_168 : decode cX11_choose 168 = .ok (.iload 7, 2) := by decide +kernel
theorem dX11_choose_170 : decode cX11_choose 170 = .ok (.iastore, 1) := by decide +kernel
theorem dX11_choose_171 : decode cX11_choose 171 = .ok (.aload_n 0, 1) := by decide +kernel
theorem dX11_choose_172 : decode cX11_choose 172 = .ok (.getfield 69, 3) := by decide +kernel
theorem dX11_choose_175 : decode cX11_choose 175 = .ok (.iconst 2, 1) := by decide +kernel
theorem dX11_choose_176 : decode cX11_choose 176 = .ok (.iload 8, 2) := by decide +kernel
theorem dX11_choose_178 : decode cX11_choose 178 = .ok (.iastore, 1) := by decide +kernel
theorem dX11_choose_179 : decode cX11_choose 179 = .ok (.aload_n 0, 1) := by decide +kernel
theorem dX11_choose_180 : decode cX11_choose 180 = .ok (.getfield 69, 3) := by decide +kernel
theorem dX11_choose_183 : decode cX11_choose 183 = .ok (.iconst 3, 1) := by decide +kernel
theorem dX11_choose_184 : decode cX11_choose 184 = .ok (.iload 9, 2) := by decide +kernel
theorem dX11_choose_186 : decode cX11_choose 186 = .ok (.iastore, 1) := by decide +kernel
theorem dX11_choose_187 : decode cX11_choose 187 = .ok (.aload_n 0, 1) := by decide +kernel
theorem dX11_choose_188 : decode cX11_choose 188 = .ok (.iconst 1, 1) := by decide +kernel
theorem dX11_choose_189 : decode cX11_choose 189 = .ok (.putfield 252, 3) := by decide +kernel
theorem dX11_choose_192 : decode cX11_choose 192 = .ok (.iinc 6 1, 3) := by decide +kernel
theorem dX11_choose_195 : decode cX11_choose 195 = .ok (.goto (-113), 3) := by decide +kernel
theorem dX11_choose_198 : decode cX11_choose 198 = .ok (.iinc 4 1, 3) := by decide +kernel
theorem dX11_choose_201 : decode cX11_choose 201 = .ok (.goto (-158), 3) := by decide +kernel
theorem dX11_choose_204 : decode cX11_choose 204 = .ok (.iload_n 3, 1) := by decide +kernel
theorem dX11_choose_205 : decode cX11_choose 205 = .ok (.ifCond .ge 8, 3) := by decide +kernel
theorem dX11_choose_208 : decode cX11_choose 208 = .ok (.bipush (-2), 2) := by decide +kernel
theorem dX11_choose_210 : decode cX11_choose 210 = .ok (.goto 4, 3) := by decide +kernel
theorem dX11_choose_213 : decode cX11_choose 213 = .ok (.iload_n 3, 1) := by decide +kernel
theorem dX11_choose_214 : decode cX11_choose 214 = .ok (.ireturn, 1) := by decide +kernel
theorem dX11_chosen_0 : decode cX11_chosen 0 = .ok (.aload_n 0, 1) := by decide +kernel
theorem dX11_chosen_1 : decode cX11_chosen 1 = .ok (.getfield 252, 3) := by decide +kernel
theorem dX11_chosen_4 : decode cX11_chosen 4 = .ok (.ifCond .eq 24, 3) := by decide +kernel
theorem dX11_chosen_7 : decode cX11_chosen 7 = .ok (.iload_n 1, 1) := by decide +kernel
theorem dX11_chosen_8 : decode cX11_chosen 8 = .ok (.i2l, 1) := by decide +kernel
theorem dX11_chosen_9 : decode cX11_chosen 9 = .ok (.lconst 0, 1) := by decide +kernel
theorem dX11_chosen_10 : decode cX11_chosen 10 = .ok (.ldc2_w 157, 3) := by decide +kernel
theorem dX11_chosen_13 : decode cX11_chosen 13 = .ok (.invokestatic 127, 3) := by decide +kernel
theorem dX11_chosen_16 : decode cX11_chosen 16 = .ok (.ifCond .eq 12, 3) := by decide +kernel
theorem dX11_chosen_19 : decode cX11_chosen 19 = .ok (.aload_n 0, 1) := by decide +kernel
theorem dX11_chosen_20 : decode cX11_chosen 20 = .ok (.getfield 69, 3) := by decide +kernel
theorem dX11_chosen_23 : decode cX11_chosen 23 = .ok (.iload_n 1, 1) := by decide +kernel
theorem dX11_chosen_24 : decode cX11_chosen 24 = .ok (.iaload, 1) := by decide +kernel
theorem dX11_chosen_25 : decode cX11_chosen 25 = .ok (.goto 4, 3) := by decide +kernel
theorem dX11_chosen_28 : decode cX11_chosen 28 = .ok (.iconst (-1), 1) := by decide +kernel
theorem dX11_chosen_29 : decode cX11_chosen 29 = .ok (.ireturn, 1) := by decide +kernel
theorem dX11_keep_0 : decode cX11_keep 0 = .ok (.iload_n 1, 1) := by decide +kernel
theorem dX11_keep_1 : decode cX11_keep 1 = .ok (.i2l, 1) := by decide +kernel
theorem dX11_keep_2 : decode cX11_keep 2 = .ok (.lconst 0, 1) := by decide +kernel
theorem dX11_keep_3 : decode cX11_keep 3 = .ok (.lconst 1, 1) := by decide +kernel
theorem dX11_keep_4 : decode cX11_keep 4 = .ok (.invokestatic 127, 3) := by decide +kernel
theorem dX11_keep_7 : decode cX11_keep 7 = .ok (.ifCond .eq 32, 3) := by decide +kernel
theorem dX11_keep_10 : decode cX11_keep 10 = .ok (.aload_n 0, 1) := by decide +kernel
theorem dX11_keep_11 : decode cX11_keep 11 = .ok (.iload_n 2, 1) := by decide +kernel
theorem dX11_keep_12 : decode cX11_keep 12 = .ok (.i2l, 1) := by decide +kernel
theorem dX11_keep_13 : decode cX11_keep 13 = .ok (.iload_n 3, 1) := by decide +kernel
theorem dX11_keep_14 : decode cX11_keep 14 = .ok (.i2l, 1) := by decide +kernel
theorem dX11_keep_15 : decode cX11_keep 15 = .ok (.iload 4, 2) := by decide +kernel
theorem dX11_keep_17 : decode cX11_keep 17 = .ok (.i2l, 1) := by decide +kernel
theorem dX11_keep_18 : decode cX11_keep 18 = .ok (.iload 5, 2) := by decide +kernel
theorem dX11_keep_20 : decode cX11_keep 20 = .ok (.i2l, 1) := by decide +kernel
theorem dX11_keep_21 : decode cX11_keep 21 = .ok (.iload 6, 2) := by decide +kernel
theorem dX11_keep_23 : decode cX11_keep 23 = .ok (.i2l, 1) := by decide +kernel
theorem dX11_keep_24 : decode cX11_keep 24 = .ok (.invokevirtual 229, 3) := by decide +kernel
theorem dX11_keep_27 : decode cX11_keep 27 = .ok (.ifCond .eq 12, 3) := by decide +kernel
theorem dX11_keep_30 : decode cX11_keep 30 = .ok (.aload_n 0, 1) := by decide +kernel
theorem dX11_keep_31 : decode cX11_keep 31 = .ok (.iload 7, 2) := by decide +kernel
theorem dX11_keep_33 : decode cX11_keep 33 = .ok (.invokevirtual 233, 3) := by decide +kernel
theorem dX11_keep_36 : decode cX11_keep 36 = .ok (.ifCond .ne 5, 3) := by decide +kernel
theorem dX11_keep_39 : decode cX11_keep 39 = .ok (.iconst (-1), 1) := by decide +kernel
theorem dX11_keep_40 : decode cX11_keep 40 = .ok (.ireturn, 1) := by decide +kernel
theorem dX11_keep_41 : decode cX11_keep 41 = .ok (.aload_n 0, 1) := by decide +kernel
theorem dX11_keep_42 : decode cX11_keep 42 = .ok (.getfield 72, 3) := by decide +kernel
theorem dX11_keep_45 : decode cX11_keep 45 = .ok (.iload_n 1, 1) := by decide +kernel
theorem dX11_keep_46 : decode cX11_keep 46 = .ok (.iconst 1, 1) := by decide +kernel
theorem dX11_keep_47 : decode cX11_keep 47 = .ok (.bastore, 1) := by decide +kernel
theorem dX11_keep_48 : decode cX11_keep 48 = .ok (.aload_n 0, 1) := by decide +kernel
theorem dX11_keep_49 : decode cX11_keep 49 = .ok (.getfield 75, 3) := by decide +kernel
theorem dX11_keep_52 : decode cX11_keep 52 = .ok (.bipush 6, 2) := by decide +kernel
theorem dX11_keep_54 : decode cX11_keep 54 = .ok (.iload_n 1, 1) := by decide +kernel
theorem dX11_keep_55 : decode cX11_keep 55 = .ok (.imul, 1) := by decide +kernel
theorem dX11_keep_56 : decode cX11_keep 56 = .ok (.iload_n 2, 1) := by decide +kernel
theorem dX11_keep_57 : decode cX11_keep 57 = .ok (.iastore, 1) := by decide +kernel
theorem dX11_keep_58 : decode cX11_keep 58 = .ok (.aload_n 0, 1) := by decide +kernel
theorem dX11_keep_59 : decode cX11_keep 59 = .ok (.getfield 75, 3) := by decide +kernel
theorem dX11_keep_62 : decode cX11_keep 62 = .ok (.bipush 6, 2) := by decide +kernel
theorem dX11_keep_64 : decode cX11_keep 64 = .ok (.iload_n 1, 1) := by decide +kernel
theorem dX11_keep_65 : decode cX11_keep 65 = .ok (.imul, 1) := by decide +kernel
theorem dX11_keep_66 : decode cX11_keep 66 = .ok (.iconst 1, 1) := by decide +kernel
theorem dX11_keep_67 : decode cX11_keep 67 = .ok (.iadd, 1) := by decide +kernel
theorem dX11_keep_68 : decode cX11_keep 68 = .ok (.iload_n 3, 1) := by decide +kernel
theorem dX11_keep_69 : decode cX11_keep 69 = .ok (.iastore, 1) := by decide +kernel
theorem dX11_keep_70 : decode cX11_keep 70 = .ok (.aload_n 0, 1) := by decide +kernel
theorem dX11_keep_71 : decode cX11_keep 71 = .ok (.getfield 75, 3) := by decide +kernel
theorem dX11_keep_74 : decode cX11_keep 74 = .ok (.bipush 6, 2) := by decide +kernel
theorem dX11_keep_76 : decode cX11_keep 76 = .ok (.iload_n 1, 1) := by decide +kernel
theorem dX11_keep_77 : decode cX11_keep 77 = .ok (.imul, 1) := by decide +kernel
theorem dX11_keep_78 : decode cX11_keep 78 = .ok (.iconst 2, 1) := by decide +kernel
theorem dX11_keep_79 : decode cX11_keep 79 = .ok (.iadd, 1) := by decide +kernel
theorem dX11_keep_80 : decode cX11_keep 80 = .ok (.iload 4, 2) := by decide +kernel
theorem dX11_keep_82 : decode cX11_keep 82 = .ok (.iastore, 1) := by decide +kernel
theorem dX11_keep_83 : decode cX11_keep 83 = .ok (.aload_n 0, 1) := by decide +kernel
theorem dX11_keep_84 : decode cX11_keep 84 = .ok (.getfield 75, 3) := by decide +kernel
theorem dX11_keep_87 : decode cX11_keep 87 = .ok (.bipush 6, 2) := by decide +kernel
theorem dX11_keep_89 : decode cX11_keep 89 = .ok (.iload_n 1, 1) := by decide +kernel
theorem dX11_keep_90 : decode cX11_keep 90 = .ok (.imul, 1) := by decide +kernel
theorem dX11_keep_91 : decode cX11_keep 91 = .ok (.iconst 3, 1) := by decide +kernel
theorem dX11_keep_92 : decode cX11_keep 92 = .ok (.iadd, 1) := by decide +kernel
theorem dX11_keep_93 : decode cX11_keep 93 = .ok (.iload 5, 2) := by decide +kernel
theorem dX11_keep_95 : decode cX11_keep 95 = .ok (.iastore, 1) := by decide +kernel
theorem dX11_keep_96 : decode cX11_keep 96 = .ok (.aload_n 0, 1) := by decide +kernel
theorem dX11_keep_97 : decode cX11_keep 97 = .ok (.getfield 75, 3) := by decide +kernel
theorem dX11_keep_100 : decode cX11_keep 100 = .ok (.bipush 6, 2) := by decide +kernel
theorem dX11_keep_102 : decode cX11_keep 102 = .ok (.iload_n 1, 1) := by decide +kernel
theorem dX11_keep_103 : decode cX11_keep 103 = .ok (.imul, 1) := by decide +kernel
theorem dX11_keep_104 : decode cX11_keep 104 = .ok (.iconst 4, 1) := by decide +kernel
theorem dX11_keep_105 : decode cX11_keep 105 = .ok (.iadd, 1) := by decide +kernel
theorem dX11_keep_106 : decode cX11_keep 106 = .ok (.iload 6, 2) := by decide +kernel
theorem dX11_keep_108 : decode cX11_keep 108 = .ok (.iastore, 1) := by decide +kernel
theorem dX11_keep_109 : decode cX11_keep 109 = .ok (.aload_n 0, 1) := by decide +kernel
theorem dX11_keep_110 : decode cX11_keep 110 = .ok (.getfield 75, 3) := by decide +kernel
theorem dX11_keep_113 : decode cX11_keep 113 = .ok (.bipush 6, 2) := by decide +kernel
theorem dX11_keep_115 : decode cX11_keep 115 = .ok (.iload_n 1, 1) := by decide +kernel
theorem dX11_keep_116 : decode cX11_keep 116 = .ok (.imul, 1) := by decide +kernel
theorem dX11_keep_117 : decode cX11_keep 117 = .ok (.iconst 5, 1) := by decide +kernel
theorem dX11_keep_118 : decode cX11_keep 118 = .ok (.iadd, 1) := by decide +kernel
theorem dX11_keep_119 : decode cX11_keep 119 = .ok (.iload 7, 2) := by decide +kernel
theorem dX11_keep_121 : decode cX11_keep 121 = .ok (.iastore, 1) := by decide +kernel
theorem dX11_keep_122 : decode cX11_keep 122 = .ok (.iconst 1, 1) := by decide +kernel
theorem dX11_keep_123 : decode cX11_keep 123 = .ok (.ireturn, 1) := by decide +kernel
theorem dX11_caught_0 : decode cX11_caught 0 = .ok (.bipush 6, 2) := by decide +kernel
theorem dX11_caught_2 : decode cX11_caught 2 = .ok (.iload_n 1, 1) := by decide +kernel
theorem dX11_caught_3 : decode cX11_caught 3 = .ok (.imul, 1) := by decide +kernel
theorem dX11_caught_4 : decode cX11_caught 4 = .ok (.istore_n 2, 1) := by decide +kernel
theorem dX11_caught_5 : decode cX11_caught 5 = .ok (.aload_n 0, 1) := by decide +kernel
theorem dX11_caught_6 : decode cX11_caught 6 = .ok (.aload_n 0, 1) := by decide +kernel
theorem dX11_caught_7 : decode cX11_caught 7 = .ok (.getfield 75, 3) := by decide +kernel
theorem dX11_caught_10 : decode cX11_caught 10 = .ok (.iload_n 2, 1) := by decide +kernel
theorem dX11_caught_11 : decode cX11_caught 11 = .ok (.iaload, 1) := by decide +kernel
theorem dX11_caught_12 : decode cX11_caught 12 = .ok (.aload_n 0, 1) := by decide +kernel
theorem dX11_caught_13 : decode cX11_caught 13 = .ok (.getfield 28, 3) := by decide +kernel
theorem dX11_caught_16 : decode cX11_caught 16 = .ok (.aload_n 0, 1) := by decide +kernel
theorem dX11_caught_17 : decode cX11_caught 17 = .ok (.getfield 75, 3) := by decide +kernel
theorem dX11_caught_20 : decode cX11_caught 20 = .ok (.iload_n 2, 1) := by decide +kernel
theorem dX11_caught_21 : decode cX11_caught 21 = .ok (.iaload, 1) := by decide +kernel
theorem dX11_caught_22 : decode cX11_caught 22 = .ok (.iaload, 1) := by decide +kernel
theorem dX11_caught_23 : decode cX11_caught 23 = .ok (.aload_n 0, 1) := by decide +kernel
theorem dX11_caught_24 : decode cX11_caught 24 = .ok (.getfield 75, 3) := by decide +kernel
theorem dX11_caught_27 : decode cX11_caught 27 = .ok (.iload_n 2, 1) := by decide +kernel
theorem dX11_caught_28 : decode cX11_caught 28 = .ok (.iconst 1, 1) := by decide +kernel
theorem dX11_caught_29 : decode cX11_caught 29 = .ok (.iadd, 1) := by decide +kernel
theorem dX11_caught_30 : decode cX11_caught 30 = .ok (.iaload, 1) := by decide +kernel
theorem dX11_caught_31 : decode cX11_caught 31 = .ok (.aload_n 0, 1) := by decide +kernel
theorem dX11_caught_32 : decode cX11_caught 32 = .ok (.getfield 75, 3) := by decide +kernel
theorem dX11_caught_35 : decode cX11_caught 35 = .ok (.iload_n 2, 1) := by decide +kernel
theorem dX11_caught_36 : decode cX11_caught 36 = .ok (.iconst 2, 1) := by decide +kernel
theorem dX11_caught_37 : decode cX11_caught 37 = .ok (.iadd, 1) := by decide +kernel
theorem dX11_caught_38 : decode cX11_caught 38 = .ok (.iaload, 1) := by decide +kernel
theorem dX11_caught_39 : decode cX11_caught 39 = .ok (.aload_n 0, 1) := by decide +kernel
theorem dX11_caught_40 : decode cX11_caught 40 = .ok (.getfield 75, 3) := by decide +kernel
theorem dX11_caught_43 : decode cX11_caught 43 = .ok (.iload_n 2, 1) := by decide +kernel
theorem dX11_caught_44 : decode cX11_caught 44 = .ok (.iconst 3, 1) := by decide +kernel
theorem dX11_caught_45 : decode cX11_caught 45 = .ok (.iadd, 1) := by decide +kernel
theorem dX11_caught_46 : decode cX11_caught 46 = .ok (.iaload, 1) := by decide +kernel
theorem dX11_caught_47 : decode cX11_caught 47 = .ok (.aload_n 0, 1) := by decide +kernel
theorem dX11_caught_48 : decode cX11_caught 48 = .ok (.getfield 75, 3) := by decide +kernel
theorem dX11_caught_51 : decode cX11_caught 51 = .ok (.iload_n 2, 1) := by decide +kernel
theorem dX11_caught_52 : decode cX11_caught 52 = .ok (.iconst 4, 1) := by decide +kernel
theorem dX11_caught_53 : decode cX11_caught 53 = .ok (.iadd, 1) := by decide +kernel
theorem dX11_caught_54 : decode cX11_caught 54 = .ok (.iaload, 1) := by decide +kernel
theorem dX11_caught_55 : decode cX11_caught 55 = .ok (.aload_n 0, 1) := by decide +kernel
theorem dX11_caught_56 : decode cX11_caught 56 = .ok (.getfield 75, 3) := by decide +kernel
theorem dX11_caught_59 : decode cX11_caught 59 = .ok (.iload_n 2, 1) := by decide +kernel
theorem dX11_caught_60 : decode cX11_caught 60 = .ok (.iconst 5, 1) := by decide +kernel
theorem dX11_caught_61 : decode cX11_caught 61 = .ok (.iadd, 1) := by decide +kernel
theorem dX11_caught_62 : decode cX11_caught 62 = .ok (.iaload, 1) := by decide +kernel
theorem dX11_caught_63 : decode cX11_caught 63 = .ok (.invokevirtual 236, 3) := by decide +kernel
theorem dX11_caught_66 : decode cX11_caught 66 = .ok (.istore_n 3, 1) := by decide +kernel
theorem dX11_caught_67 : decode cX11_caught 67 = .ok (.iload_n 3, 1) := by decide +kernel
theorem dX11_caught_68 : decode cX11_caught 68 = .ok (.iconst 2, 1) := by decide +kernel
theorem dX11_caught_69 : decode cX11_caught 69 = .ok (.if_icmp .ne 10, 3) := by decide +kernel
theorem dX11_caught_72 : decode cX11_caught 72 = .ok (.aload_n 0, 1) := by decide +kernel
theorem dX11_caught_73 : decode cX11_caught 73 = .ok (.getfield 189, 3) := by decide +kernel
theorem dX11_caught_76 : decode cX11_caught 76 = .ok (.goto 5, 3) := by decide +kernel
theorem dX11_caught_79 : decode cX11_caught 79 = .ok (.bipush (-4), 2) := by decide +kernel
theorem dX11_caught_81 : decode cX11_caught 81 = .ok (.ireturn, 1) := by decide +kernel
theorem dX11_two_0 : decode cX11_two 0 = .ok (.iload_n 1, 1) := by decide +kernel
theorem dX11_two_1 : decode cX11_two 1 = .ok (.i2l, 1) := by decide +kernel
theorem dX11_two_2 : decode cX11_two 2 = .ok (.lconst 1, 1) := by decide +kernel
theorem dX11_two_3 : decode cX11_two 3 = .ok (.ldc2_w 136, 3) := by decide +kernel
theorem dX11_two_6 : decode cX11_two 6 = .ok (.invokestatic 127, 3) := by decide +kernel
theorem dX11_two_9 : decode cX11_two 9 = .ok (.ifCond .ne 5, 3) := by decide +kernel
theorem dX11_two_12 : decode cX11_two 12 = .ok (.iconst (-1), 1) := by decide +kernel
theorem dX11_two_13 : decode cX11_two 13 = .ok (.ireturn, 1) := by decide +kernel
theorem dX11_two_14 : decode cX11_two 14 = .ok (.aload_n 0, 1) := by decide +kernel
theorem dX11_two_15 : decode cX11_two 15 = .ok (.getfield 72, 3) := by decide +kernel
theorem dX11_two_18 : decode cX11_two 18 = .ok (.iconst 0, 1) := by decide +kernel
theorem dX11_two_19 : decode cX11_two 19 = .ok (.baload, 1) := by decide +kernel
theorem dX11_two_20 : decode cX11_two 20 = .ok (.ifCond .eq 28, 3) := by decide +kernel
theorem dX11_two_23 : decode cX11_two 23 = .ok (.aload_n 0, 1) := by decide +kernel
theorem dX11_two_24 : decode cX11_two 24 = .ok (.getfield 72, 3) := by decide +kernel
theorem dX11_two_27 : decode cX11_two 27 = .ok (.iconst 1, 1) := by decide +kernel
theorem dX11_two_28 : decode cX11_two 28 = .ok (.baload, 1) := by decide +kernel
theorem dX11_two_29 : decode cX11_two 29 = .ok (.ifCond .eq 19, 3) := by decide +kernel
theorem dX11_two_32 : decode cX11_two 32 = .ok (.aload_n 0, 1) := by decide +kernel
theorem dX11_two_33 : decode cX11_two 33 = .ok (.getfield 75, 3) := by decide +kernel
theorem dX11_two_36 : decode cX11_two 36 = .ok (.iconst 0, 1) := by decide +kernel
theorem dX11_two_37 : decode cX11_two 37 = .ok (.iaload, 1) := by decide +kernel
theorem dX11_two_38 : decode cX11_two 38 = .ok (.aload_n 0, 1) := by decide +kernel
theorem dX11_two_39 : decode cX11_two 39 = .ok (.getfield 75, 3) := by decide +kernel
theorem dX11_two_42 : decode cX11_two 42 = .ok (.bipush 6, 2) := by decide +kernel
theorem dX11_two_44 : decode cX11_two 44 = .ok (.iaload, 1) := by decide +kernel
theorem dX11_two_45 : decode cX11_two 45 = .ok (.if_icmp .ne 6, 3) := by decide +kernel
theorem dX11_two_48 : decode cX11_two 48 = .ok (.bipush (-2), 2) := by decide +kernel
theorem dX11_two_50 : decode cX11_two 50 = .ok (.ireturn, 1) := by decide +kernel
theorem dX11_two_51 : decode cX11_two 51 = .ok (.aload_n 0, 1) := by decide +kernel
theorem dX11_two_52 : decode cX11_two 52 = .ok (.iconst 0, 1) := by decide +kernel
theorem dX11_two_53 : decode cX11_two 53 = .ok (.invokevirtual 255, 3) := by decide +kernel
theorem dX11_two_56 : decode cX11_two 56 = .ok (.istore_n 2, 1) := by decide +kernel
theorem dX11_two_57 : decode cX11_two 57 = .ok (.aload_n 0, 1) := by decide +kernel
theorem dX11_two_58 : decode cX11_two 58 = .ok (.iconst 1, 1) := by decide +kernel
theorem dX11_two_59 : decode cX11_two 59 = .ok (.invokevirtual 255, 3) := by decide +kernel
theorem dX11_two_62 : decode cX11_two 62 = .ok (.istore_n 3, 1) := by decide +kernel
theorem dX11_two_63 : decode cX11_two 63 = .ok (.iconst 1, 1) := by decide +kernel
theorem dX11_two_64 : decode cX11_two 64 = .ok (.istore 4, 2) := by decide +kernel
theorem dX11_two_66 : decode cX11_two 66 = .ok (.iload 4, 2) := by decide +kernel
theorem dX11_two_68 : decode cX11_two 68 = .ok (.sipush 200, 3) := by decide +kernel
theorem dX11_two_71 : decode cX11_two 71 = .ok (.if_icmp .gt 41, 3) := by decide +kernel
theorem dX11_two_74 : decode cX11_two 74 = .ok (.iload_n 2, 1) := by decide +kernel
theorem dX11_two_75 : decode cX11_two 75 = .ok (.ifCond .le 37, 3) := by decide +kernel
theorem dX11_two_78 : decode cX11_two 78 = .ok (.iload_n 3, 1) := by decide +kernel
theorem dX11_two_79 : decode cX11_two 79 = .ok (.ifCond .le 33, 3) := by decide +kernel
theorem dX11_two_82 : decode cX11_two 82 = .ok (.iload 4, 2) := by decide +kernel
theorem dX11_two_84 : decode cX11_two 84 = .ok (.iload_n 3, 1) := by decide +kernel
theorem dX11_two_85 : decode cX11_two 85 = .ok (.iadd, 1) := by decide +kernel
theorem dX11_two_86 : decode cX11_two 86 = .ok (.iload_n 2, 1) := by decide +kernel
theorem dX11_two_87 : decode cX11_two 87 = .ok (.isub, 1) := by decide +kernel
theorem dX11_two_88 : decode cX11_two 88 = .ok (.istore 5, 2) := by decide +kernel
theorem dX11_two_90 : decode cX11_two 90 = .ok (.iload 5, 2) := by decide +kernel
theorem dX11_two_92 : decode cX11_two 92 = .ok (.iload_n 1, 1) := by decide +kernel
theorem dX11_two_93 : decode cX11_two 93 = .ok (.if_icmp .ge 10, 3) := by decide +kernel
theorem dX11_two_96 : decode cX11_two 96 = .ok (.iload 5, 2) := by decide +kernel
theorem dX11_two_98 : decode cX11_two 98 = .ok (.iload_n 1, 1) := by decide +kernel
theorem dX11_two_99 : decode cX11_two 99 = .ok (.ineg, 1) := by decide +kernel
theorem dX11_two_100 : decode cX11_two 100 = .ok (.if_icmp .gt 6, 3) := by decide +kernel
theorem dX11_two_103 : decode cX11_two 103 = .ok (.iload 4, 2) := by decide +kernel
theorem dX11_two_105 : decode cX11_two 105 = .ok (.ireturn, 1) := by decide +kernel
theorem dX11_two_106 : decode cX11_two 106 = .ok (.iinc 4 1, 3) := by decide +kernel
theorem dX11_two_109 : decode cX11_two 109 = .ok (.goto (-43), 3) := by decide +kernel
theorem dX11_two_112 : decode cX11_two 112 = .ok (.bipush (-4), 2) := by decide +kernel
theorem dX11_two_114 : decode cX11_two 114 = .ok (.ireturn, 1) := by decide +kernel
theorem dX11_match_0 : decode cX11_match 0 = .ok (.iload_n 1, 1) := by decide +kernel
theorem dX11_match_1 : decode cX11_match 1 = .ok (.i2l, 1) := by decide +kernel
theorem dX11_match_2 : decode cX11_match 2 = .ok (.lconst 0, 1) := by decide +kernel
theorem dX11_match_3 : decode cX11_match 3 = .ok (.ldc2_w 258, 3) := by decide +kernel
theorem dX11_match_6 : decode cX11_match 6 = .ok (.invokestatic 127, 3) := by decide +kernel
theorem dX11_match_9 : decode cX11_match 9 = .ok (.ifCond .eq 21, 3) := by decide +kernel
theorem dX11_match_12 : decode cX11_match 12 = .ok (.iload_n 2, 1) := by decide +kernel
theorem dX11_match_13 : decode cX11_match 13 = .ok (.i2l, 1) := by decide +kernel
theorem dX11_match_14 : decode cX11_match 14 = .ok (.ldc2_w 260, 3) := by decide +kernel
theorem dX11_match_17 : decode cX11_match 17 = .ok (.aload_n 0, 1) := by decide +kernel
theorem dX11_match_18 : decode cX11_match 18 = .ok (.getfield 165, 3) := by decide +kernel
theorem dX11_match_21 : decode cX11_match 21 = .ok (.iconst 1, 1) := by decide +kernel
theorem dX11_match_22 : decode cX11_match 22 = .ok (.isub, 1) := by decide +kernel
theorem dX11_match_23 : decode cX11_match 23 = .ok (.i2l, 1) := by decide +kernel
theorem dX11_match_24 : decode cX11_match 24 = .ok (.invokestatic 127, 3) := by decide +kernel
theorem dX11_match_27 : decode cX11_match 27 = .ok (.ifCond .ne 6, 3) := by decide +kernel
theorem dX11_match_30 : decode cX11_match 30 = .ok (.bipush (-11), 2) := by decide +kernel
theorem dX11_match_32 : decode cX11_match 32 = .ok (.ireturn, 1) := by decide +kernel
theorem dX11_match_33 : decode cX11_match 33 = .ok (.aload_n 0, 1) := by decide +kernel
theorem dX11_match_34 : decode cX11_match 34 = .ok (.getfield 78, 3) := by decide +kernel
theorem dX11_match_37 : decode cX11_match 37 = .ok (.iload_n 1, 1) := by decide +kernel
theorem dX11_match_38 : decode cX11_match 38 = .ok (.iaload, 1) := by decide +kernel
theorem dX11_match_39 : decode cX11_match 39 = .ok (.istore_n 3, 1) := by decide +kernel
theorem dX11_match_40 : decode cX11_match 40 = .ok (.aload_n 0, 1) := by decide +kernel
theorem dX11_match_41 : decode cX11_match 41 = .ok (.getfield 78, 3) := by decide +kernel
theorem dX11_match_44 : decode cX11_match 44 = .ok (.iload_n 1, 1) := by decide +kernel
theorem dX11_match_45 : decode cX11_match 45 = .ok (.iload_n 2, 1) := by decide +kernel
theorem dX11_match_46 : decode cX11_match 46 = .ok (.iastore, 1) := by decide +kernel
theorem dX11_match_47 : decode cX11_match 47 = .ok (.iload_n 3, 1) := by decide +kernel
theorem dX11_match_48 : decode cX11_match 48 = .ok (.ireturn, 1) := by decide +kernel
theorem dX11_style_0 : decode cX11_style 0 = .ok (.iload_n 1, 1) := by decide +kernel
theorem dX11_style_1 : decode cX11_style 1 = .ok (.i2l, 1) := by decide +kernel
theorem dX11_style_2 : decode cX11_style 2 = .ok (.lconst 0, 1) := by decide +kernel
theorem dX11_style_3 : decode cX11_style 3 = .ok (.ldc2_w 223, 3) := by decide +kernel
theorem dX11_style_6 : decode cX11_style 6 = .ok (.invokestatic 127, 3) := by decide +kernel
theorem dX11_style_9 : decode cX11_style 9 = .ok (.ifCond .eq 44, 3) := by decide +kernel
theorem dX11_style_12 : decode cX11_style 12 = .ok (.iload_n 2, 1) := by decide +kernel
theorem dX11_style_13 : decode cX11_style 13 = .ok (.i2l, 1) := by decide +kernel
theorem dX11_style_14 : decode cX11_style 14 = .ok (.lconst 0, 1) := by decide +kernel
theorem dX11_style_15 : decode cX11_style 15 = .ok (.ldc2_w 131, 3) := by decide +kernel
theorem dX11_style_18 : decode cX11_style 18 = .ok (.invokestatic 127, 3) := by decide +kernel
theorem dX11_style_21 : decode cX11_style 21 = .ok (.ifCond .eq 32, 3) := by decide +kernel
theorem dX11_style_24 : decode cX11_style 24 = .ok (.iload_n 3, 1) := by decide +kernel
theorem dX11_style_25 : decode cX11_style 25 = .ok (.i2l, 1) := by decide +kernel
theorem dX11_style_26 : decode cX11_style 26 = .ok (.ldc2_w 225, 3) := by decide +kernel
theorem dX11_style_29 : decode cX11_style 29 = .ok (.ldc2_w 210, 3) := by decide +kernel
theorem dX11_style_32 : decode cX11_style 32 = .ok (.invokestatic 127, 3) := by decide +kernel
theorem dX11_style_35 : decode cX11_style 35 = .ok (.ifCond .eq 18, 3) := by decide +kernel
theorem dX11_style_38 : decode cX11_style 38 = .ok (.iload 4, 2) := by decide +kernel
theorem dX11_style_40 : decode cX11_style 40 = .ok (.i2l, 1) := by decide +kernel
theorem dX11_style_41 : decode cX11_style 41 = .ok (.ldc2_w 136, 3) := by decide +kernel
theorem dX11_style_44 : decode cX11_style 44 = .ok (.ldc2_w 227, 3) := by decide +kernel
theorem dX11_style_47 : decode cX11_style 47 = .ok (.invokestatic 127, 3) := by decide +kernel
theorem dX11_style_50 : decode cX11_style 50 = .ok (.ifCond .ne 5, 3) := by decide +kernel
theorem dX11_style_53 : decode cX11_style 53 = .ok (.iconst (-1), 1) := by decide +kernel
theorem dX11_style_54 : decode cX11_style 54 = .ok (.ireturn, 1) := by decide +kernel
theorem dX11_style_55 : decode cX11_style 55 = .ok (.aload_n 0, 1) := by decide +kernel
theorem dX11_style_56 : decode cX11_style 56 = .ok (.iload_n 1, 1) := by decide +kernel
theorem dX11_style_57 : decode cX11_style 57 = .ok (.putfield 81, 3) := by decide +kernel
theorem dX11_style_60 : decode cX11_style 60 = .ok (.aload_n 0, 1) := by decide +kernel
theorem dX11_style_61 : decode cX11_style 61 = .ok (.iload_n 2, 1) := by decide +kernel
theorem dX11_style_62 : decode cX11_style 62 = .ok (.putfield 262, 3) := by decide +kernel
theorem dX11_style_65 : decode cX11_style 65 = .ok (.aload_n 0, 1) := by decide +kernel
theorem dX11_style_66 : decode cX11_style 66 = .ok (.iload_n 3, 1) := by decide +kernel
theorem dX11_style_67 : decode cX11_style 67 = .ok (.putfield 84, 3) := by decide +kernel
theorem dX11_style_70 : decode cX11_style 70 = .ok (.aload_n 0, 1) := by decide +kernel
theorem dX11_style_71 : decode cX11_style 71 = .ok (.iload 4, 2) := by decide +kernel
theorem dX11_style_73 : decode cX11_style 73 = .ok (.putfield 87, 3) := by decide +kernel
theorem dX11_style_76 : decode cX11_style 76 = .ok (.iconst 1, 1) := by decide +kernel
theorem dX11_style_77 : decode cX11_style 77 = .ok (.ireturn, 1) := by decide +kernel
theorem dX11_root_0 : decode cX11_root 0 = .ok (.lconst 0, 1) := by decide +kernel
theorem dX11_root_1 : decode cX11_root 1 = .ok (.lstore_n 2, 1) := by decide +kernel
theorem dX11_root_2 : decode cX11_root 2 = .ok (.ldc2_w 265, 3) := by decide +kernel
theorem dX11_root_5 : decode cX11_root 5 = .ok (.lstore 4, 2) := by decide +kernel
theorem dX11_root_7 : decode cX11_root 7 = .ok (.lload_n 2, 1) := by decide +kernel
theorem dX11_root_8 : decode cX11_root 8 = .ok (.lload 4, 2) := by decide +kernel
theorem dX11_root_10 : decode cX11_root 10 = .ok (.lcmp, 1) := by decide +kernel
theorem dX11_root_11 : decode cX11_root 11 = .ok (.ifCond .ge 56, 3) := by decide +kernel
theorem dX11_root_14 : decode cX11_root 14 = .ok (.lload_n 2, 1) := by decide +kernel
theorem dX11_root_15 : decode cX11_root 15 = .ok (.lload 4, 2) := by decide +kernel
theorem dX11_root_17 : decode cX11_root 17 = .ok (.ladd, 1) := by decide +kernel
theorem dX11_root_18 : decode cX11_root 18 = .ok (.lconst 1, 1) := by decide +kernel
theorem dX11_root_19 : decode cX11_root 19 = .ok (.ladd, 1) := by decide +kernel
theorem dX11_root_20 : decode cX11_root 20 = .ok (.ldc2_w 267, 3) := by decide +kernel
theorem dX11_root_23 : decode cX11_root 23 = .ok (.ldiv, 1) := by decide +kernel
theorem dX11_root_24 : decode cX11_root 24 = .ok (.lstore 6, 2) := by decide +kernel
theorem dX11_root_26 : decode cX11_root 26 = .ok (.lload 6, 2) := by decide +kernel
theorem dX11_root_28 : decode cX11_root 28 = .ok (.lload 6, 2) := by decide +kernel
theorem dX11_root_30 : decode cX11_root 30 = .ok (.lmul, 1) := by decide +kernel
theorem dX11_root_31 : decode cX11_root 31 = .ok (.lload_n 0, 1) := by decide +kernel
theorem dX11_root_32 : decode cX11_root 32 = .ok (.lcmp, 1) := by decide +kernel
theorem dX11_root_33 : decode cX11_root 33 = .ok (.ifCond .gt 8, 3) := by decide +kernel
theorem dX11_root_36 : decode cX11_root 36 = .ok (.lload 6, 2) := by decide +kernel
theorem dX11_root_38 : decode cX11_root 38 = .ok (.goto 4, 3) := by decide +kernel
theorem dX11_root_41 : decode cX11_root 41 = .ok (.lload_n 2, 1) := by decide +kernel
theorem dX11_root_42 : decode cX11_root 42 = .ok (.lstore_n 2, 1) := by decide +kernel
theorem dX11_root_43 : decode cX11_root 43 = .ok (.lload 6, 2) := by decide +kernel
theorem dX11_root_45 : decode cX11_root 45 = .ok (.lload 6, 2) := by decide +kernel
theorem dX11_root_47 : decode cX11_root 47 = .ok (.lmul, 1) := by decide +kernel
theorem dX11_root_48 : decode cX11_root 48 = .ok (.lload_n 0, 1) := by decide +kernel
theorem dX11_root_49 : decode cX11_root 49 = .ok (.lcmp, 1) := by decide +kernel
theorem dX11_root_50 : decode cX11_root 50 = .ok (.ifCond .gt 8, 3) := by decide +kernel
theorem dX11_root_53 : decode cX11_root 53 = .ok (.lload 4, 2) := by decide +kernel
theorem dX11_root_55 : decode cX11_root 55 = .ok (.goto 7, 3) := by decide +kernel
theorem dX11_root_58 : decode cX11_root 58 = .ok (.lload 6, 2) := by decide +kernel
theorem dX11_root_60 : decode cX11_root 60 = .ok (.lconst 1, 1) := by decide +kernel
theorem dX11_root_61 : decode cX11_root 61 = .ok (.lsub, 1) := by decide +kernel
theorem dX11_root_62 : decode cX11_root 62 = .ok (.lstore 4, 2) := by decide +kernel
theorem dX11_root_64 : decode cX11_root 64 = .ok (.goto (-57), 3) := by decide +kernel
theorem dX11_root_67 : decode cX11_root 67 = .ok (.lload_n 2, 1) := by decide +kernel
theorem dX11_root_68 : decode cX11_root 68 = .ok (.lreturn, 1) := by decide +kernel
theorem dX11_pointsOf_0 : decode cX11_pointsOf 0 = .ok (.aload_n 0, 1) := by decide +kernel
theorem dX11_pointsOf_1 : decode cX11_pointsOf 1 = .ok (.iload_n 1, 1) := by decide +kernel
theorem dX11_pointsOf_2 : decode cX11_pointsOf 2 = .ok (.aload_n 0, 1) := by decide +kernel
theorem dX11_pointsOf_3 : decode cX11_pointsOf 3 = .ok (.getfield 28, 3) := by decide +kernel
theorem dX11_pointsOf_6 : decode cX11_pointsOf 6 = .ok (.iload_n 1, 1) := by decide +kernel
theorem dX11_pointsOf_7 : decode cX11_pointsOf 7 = .ok (.iaload, 1) := by decide +kernel
theorem dX11_pointsOf_8 : decode cX11_pointsOf 8 = .ok (.aload_n 0, 1) := by decide +kernel
theorem dX11_pointsOf_9 : decode cX11_pointsOf 9 = .ok (.getfield 81, 3) := by decide +kernel
theorem dX11_pointsOf_12 : decode cX11_pointsOf 12 = .ok (.aload_n 0, 1) := by decide +kernel
theorem dX11_pointsOf_13 : decode cX11_pointsOf 13 = .ok (.getfield 262, 3) := by decide +kernel
theorem dX11_pointsOf_16 : decode cX11_pointsOf 16 = .ok (.aload_n 0, 1) := by decide +kernel
theorem dX11_pointsOf_17 : decode cX11_pointsOf 17 = .ok (.getfield 84, 3) := by decide +kernel
theorem dX11_pointsOf_20 : decode cX11_pointsOf 20 = .ok (.aload_n 0, 1) := by decide +kernel
theorem dX11_pointsOf_21 : decode cX11_pointsOf 21 = .ok (.getfield 87, 3) := by decide +kernel
theorem dX11_pointsOf_24 : decode cX11_pointsOf 24 = .ok (.iload_n 2, 1) := by decide +kernel
theorem dX11_pointsOf_25 : decode cX11_pointsOf 25 = .ok (.invokevirtual 236, 3) := by decide +kernel
theorem dX11_pointsOf_28 : decode cX11_pointsOf 28 = .ok (.istore_n 3, 1) := by decide +kernel
theorem dX11_pointsOf_29 : decode cX11_pointsOf 29 = .ok (.iload_n 3, 1) := by decide +kernel
theorem dX11_pointsOf_30 : decode cX11_pointsOf 30 = .ok (.iconst 1, 1) := by decide +kernel
theorem dX11_pointsOf_31 : decode cX11_pointsOf 31 = .ok (.if_icmp .eq 15, 3) := by decide +kernel
theorem dX11_pointsOf_34 : decode cX11_pointsOf 34 = .ok (.iload_n 3, 1) := by decide +kernel
theorem dX11_pointsOf_35 : decode cX11_pointsOf 35 = .ok (.iconst 2, 1) := by decide +kernel
theorem dX11_pointsOf_36 : decode cX11_pointsOf 36 = .ok (.if_icmp .ne 8, 3) := by decide +kernel
theorem dX11_pointsOf_39 : decode cX11_pointsOf 39 = .ok (.bipush 50, 2) := by decide +kernel
theorem dX11_pointsOf_41 : decode cX11_pointsOf 41 = .ok (.goto 4, 3) := by decide +kernel
theorem dX11_pointsOf_44 : decode cX11_pointsOf 44 = .ok (.iconst 0, 1) := by decide +kernel
theorem dX11_pointsOf_45 : decode cX11_pointsOf 45 = .ok (.ireturn, 1) := by decide +kernel
theorem dX11_pointsOf_46 : decode cX11_pointsOf 46 = .ok (.aload_n 0, 1) := by decide +kernel
theorem dX11_pointsOf_47 : decode cX11_pointsOf 47 = .ok (.getfield 60, 3) := by decide +kernel
theorem dX11_pointsOf_50 : decode cX11_pointsOf 50 = .ok (.iconst 0, 1) := by decide +kernel
theorem dX11_pointsOf_51 : decode cX11_pointsOf 51 = .ok (.iaload, 1) := by decide +kernel
theorem dX11_pointsOf_52 : decode cX11_pointsOf 52 = .ok (.i2l, 1) := by decide +kernel
theorem dX11_pointsOf_53 : decode cX11_pointsOf 53 = .ok (.lstore 4, 2) := by decide +kernel
theorem dX11_pointsOf_55 : decode cX11_pointsOf 55 = .ok (.aload_n 0, 1) := by decide +kernel
theorem dX11_pointsOf_56 : decode cX11_pointsOf 56 = .ok (.getfield 60, 3) := by decide +kernel
theorem dX11_pointsOf_59 : decode cX11_pointsOf 59 = .ok (.iconst 1, 1) := by decide +kernel
theorem dX11_pointsOf_60 : decode cX11_pointsOf 60 = .ok (.iaload, 1) := by decide +kernel
theorem dX11_pointsOf_61 : decode cX11_pointsOf 61 = .ok (.i2l, 1) := by decide +kernel
theorem dX11_pointsOf_62 : decode cX11_pointsOf 62 = .ok (.lstore 6, 2) := by decide +kernel
theorem dX11_pointsOf_64 : decode cX11_pointsOf 64 = .ok (.bipush 40, 2) := by decide +kernel
theorem dX11_pointsOf_66 : decode cX11_pointsOf 66 = .ok (.lload 4, 2) := by decide +kernel
theorem dX11_pointsOf_68 : decode cX11_pointsOf 68 = .ok (.lload 4, 2) := by decide +kernel
theorem dX11_pointsOf_70 : decode cX11_pointsOf 70 = .ok (.lmul, 1) := by decide +kernel
theorem dX11_pointsOf_71 : decode cX11_pointsOf 71 = .ok (.lload 6, 2) := by decide +kernel
theorem dX11_pointsOf_73 : decode cX11_pointsOf 73 = .ok (.lload 6, 2) := by decide +kernel
theorem dX11_pointsOf_75 : decode cX11_pointsOf 75 = .ok (.lmul, 1) := by decide +kernel
theorem dX11_pointsOf_76 : decode cX11_pointsOf 76 = .ok (.ladd, 1) := by decide +kernel
theorem dX11_pointsOf_77 : decode cX11_pointsOf 77 = .ok (.invokestatic 269, 3) := by decide +kernel
theorem dX11_pointsOf_80 : decode cX11_pointsOf 80 = .ok (.ldc2_w 208, 3) := by decide +kernel
theorem dX11_pointsOf_83 : decode cX11_pointsOf 83 = .ok (.ldiv, 1) := by decide +kernel
theorem dX11_pointsOf_84 : decode cX11_pointsOf 84 = .ok (.l2i, 1) := by decide +kernel
theorem dX11_pointsOf_85 : decode cX11_pointsOf 85 = .ok (.isub, 1) := by decide +kernel
theorem dX11_pointsOf_86 : decode cX11_pointsOf 86 = .ok (.istore 8, 2) := by decide +kernel
theorem dX11_pointsOf_88 : decode cX11_pointsOf 88 = .ok (.iload 8, 2) := by decide +kernel
theorem dX11_pointsOf_90 : decode cX11_pointsOf 90 = .ok (.ifCond .ge 7, 3) := by decide +kernel
theorem dX11_pointsOf_93 : decode cX11_pointsOf 93 = .ok (.iconst 0, 1) := by decide +kernel
theorem dX11_pointsOf_94 : decode cX11_pointsOf 94 = .ok (.goto 5, 3) := by decide +kernel
theorem dX11_pointsOf_97 : decode cX11_pointsOf 97 = .ok (.iload 8, 2) := by decide +kernel
theorem dX11_pointsOf_99 : decode cX11_pointsOf 99 = .ok (.ireturn, 1) := by decide +kernel
theorem dX11_points_0 : decode cX11_points 0 = .ok (.aload_n 0, 1) := by decide +kernel
theorem dX11_points_1 : decode cX11_points 1 = .ok (.iload_n 1, 1) := by decide +kernel
theorem dX11_points_2 : decode cX11_points 2 = .ok (.invokevirtual 153, 3) := by decide +kernel
theorem dX11_points_5 : decode cX11_points 5 = .ok (.ifCond .eq 20, 3) := by decide +kernel
theorem dX11_points_8 : decode cX11_points 8 = .ok (.aload_n 0, 1) := by decide +kernel
theorem dX11_points_9 : decode cX11_points 9 = .ok (.iload_n 2, 1) := by decide +kernel
theorem dX11_points_10 : decode cX11_points 10 = .ok (.invokevirtual 233, 3) := by decide +kernel
theorem dX11_points_13 : decode cX11_points 13 = .ok (.ifCond .eq 12, 3) := by decide +kernel
theorem dX11_points_16 : decode cX11_points 16 = .ok (.aload_n 0, 1) := by decide +kernel
theorem dX11_points_17 : decode cX11_points 17 = .ok (.iload_n 1, 1) := by decide +kernel
theorem dX11_points_18 : decode cX11_points 18 = .ok (.iload_n 2, 1) := by decide +kernel
theorem dX11_points_19 : decode cX11_points 19 = .ok (.invokevirtual 273, 3) := by decide +kernel
theorem dX11_points_22 : decode cX11_points 22 = .ok (.goto 4, 3) := by decide +kernel
theorem dX11_points_25 : decode cX11_points 25 = .ok (.iconst (-1), 1) := by decide +kernel
theorem dX11_points_26 : decode cX11_points 26 = .ok (.ireturn, 1) := by decide +kernel
theorem dX11_inBag_0 : decode cX11_inBag 0 = .ok (.iconst 0, 1) := by decide +kernel
theorem dX11_inBag_1 : decode cX11_inBag 1 = .ok (.istore_n 1, 1) := by decide +kernel
theorem dX11_inBag_2 : decode cX11_inBag 2 = .ok (.iconst 0, 1) := by decide +kernel
theorem dX11_inBag_3 : decode cX11_inBag 3 = .ok (.istore_n 2, 1) := by decide +kernel
theorem dX11_inBag_4 : decode cX11_inBag 4 = .ok (.iload_n 2, 1) := by decide +kernel
theorem dX11_inBag_5 : decode cX11_inBag 5 = .ok (.aload_n 0, 1) := by decide +kernel
theorem dX11_inBag_6 : decode cX11_inBag 6 = .ok (.getfield 144, 3) := by decide +kernel
theorem dX11_inBag_9 : decode cX11_inBag 9 = .ok (.if_icmp .ge 26, 3) := by decide +kernel
theorem dX11_inBag_12 : decode cX11_inBag 12 = .ok (.iload_n 1, 1) := by decide +kernel
theorem dX11_inBag_13 : decode cX11_inBag 13 = .ok (.aload_n 0, 1) := by decide +kernel
theorem dX11_inBag_14 : decode cX11_inBag 14 = .ok (.getfield 34, 3) := by decide +kernel
theorem dX11_inBag_17 : decode cX11_inBag 17 = .ok (.iload_n 2, 1) := by decide +kernel
theorem dX11_inBag_18 : decode cX11_inBag 18 = .ok (.baload, 1) := by decide +kernel
theorem dX11_inBag_19 : decode cX11_inBag 19 = .ok (.ifCond .eq 7, 3) := by decide +kernel
theorem dX11_inBag_22 : decode cX11_inBag 22 = .ok (.iconst 0, 1) := by decide +kernel
theorem dX11_inBag_23 : decode cX11_inBag 23 = .ok (.goto 4, 3) := by decide +kernel
theorem dX11_inBag_26 : decode cX11_inBag 26 = .ok (.iconst 1, 1) := by decide +kernel
theorem dX11_inBag_27 : decode cX11_inBag 27 = .ok (.iadd, 1) := by decide +kernel
theorem dX11_inBag_28 : decode cX11_inBag 28 = .ok (.istore_n 1, 1) := by decide +kernel
theorem dX11_inBag_29 : decode cX11_inBag 29 = .ok (.iinc 2 1, 3) := by decide +kernel
theorem dX11_inBag_32 : decode cX11_inBag 32 = .ok (.goto (-28), 3) := by decide +kernel
theorem dX11_inBag_35 : decode cX11_inBag 35 = .ok (.iload_n 1, 1) := by decide +kernel
theorem dX11_inBag_36 : decode cX11_inBag 36 = .ok (.ireturn, 1) := by decide +kernel
theorem dX11_isFree_0 : decode cX11_isFree 0 = .ok (.aload_n 0, 1) := by decide +kernel
theorem dX11_isFree_1 : decode cX11_isFree 1 = .ok (.getfield 34, 3) := by decide +kernel
theorem dX11_isFree_4 : decode cX11_isFree 4 = .ok (.iload_n 2, 1) := by decide +kernel
theorem dX11_isFree_5 : decode cX11_isFree 5 = .ok (.baload, 1) := by decide +kernel
theorem dX11_isFree_6 : decode cX11_isFree 6 = .ok (.ifCond .ne 7, 3) := by decide +kernel
theorem dX11_isFree_9 : decode cX11_isFree 9 = .ok (.iconst 1, 1) := by decide +kernel
theorem dX11_isFree_10 : decode cX11_isFree 10 = .ok (.goto 4, 3) := by decide +kernel
theorem dX11_isFree_13 : decode cX11_isFree 13 = .ok (.iconst 0, 1) := by decide +kernel
theorem dX11_isFree_14 : decode cX11_isFree 14 = .ok (.istore_n 3, 1) := by decide +kernel
theorem dX11_isFree_15 : decode cX11_isFree 15 = .ok (.iconst 0, 1) := by decide +kernel
theorem dX11_isFree_16 : decode cX11_isFree 16 = .ok (.istore 4, 2) := by decide +kernel
theorem dX11_isFree_18 : decode cX11_isFree 18 = .ok (.iload 4, 2) := by decide +kernel
theorem dX11_isFree_20 : decode cX11_isFree 20 = .ok (.iload_n 1, 1) := by decide +kernel
theorem dX11_isFree_21 : decode cX11_isFree 21 = .ok (.if_icmp .ge 30, 3) := by decide +kernel
theorem dX11_isFree_24 : decode cX11_isFree 24 = .ok (.iload_n 3, 1) := by decide +kernel
theorem dX11_isFree_25 : decode cX11_isFree 25 = .ok (.ifCond .eq 18, 3) := by decide +kernel
theorem dX11_isFree_28 : decode cX11_isFree 28 = .ok (.aload_n 0, 1) := by decide +kernel
theorem dX11_isFree_29 : decode cX11_isFree 29 = .ok (.getfield 96, 3) := by decide +kernel
theorem dX11_isFree_32 : decode cX11_isFree 32 = .ok (.iload 4, 2) := by decide +kernel
theorem dX11_isFree_34 : decode cX11_isFree 34 = .ok (.iaload, 1) := by decide +kernel
theorem dX11_isFree_35 : decode cX11_isFree 35 = .ok (.iload_n 2, 1) := by decide +kernel
theorem dX11_isFree_36 : decode cX11_isFree 36 = .ok (.if_icmp .eq 7, 3) := by decide +kernel
theorem dX11_isFree_39 : decode cX11_isFree 39 = .ok (.iconst 1, 1) := by decide +kernel
theorem dX11_isFree_40 : decode cX11_isFree 40 = .ok (.goto 4, 3) := by decide +kernel
theorem dX11_isFree_43 : decode cX11_isFree 43 = .ok (.iconst 0, 1) := by decide +kernel
theorem dX11_isFree_44 : decode cX11_isFree 44 = .ok (.istore_n 3, 1) := by decide +kernel
theorem dX11_isFree_45 : decode cX11_isFree 45 = .ok (.iinc 4 1, 3) := by decide +kernel
theorem dX11_isFree_48 : decode cX11_isFree 48 = .ok (.goto (-30), 3) := by decide +kernel
theorem dX11_isFree_51 : decode cX11_isFree 51 = .ok (.iload_n 3, 1) := by decide +kernel
theorem dX11_isFree_52 : decode cX11_isFree 52 = .ok (.ireturn, 1) := by decide +kernel
theorem dX11_compares_0 : decode cX11_compares 0 = .ok (.iconst 0, 1) := by decide +kernel
theorem dX11_compares_1 : decode cX11_compares 1 = .ok (.istore_n 1, 1) := by decide +kernel
theorem dX11_compares_2 : decode cX11_compares 2 = .ok (.iconst 0, 1) := by decide +kernel
theorem dX11_compares_3 : decode cX11_compares 3 = .ok (.istore_n 2, 1) := by decide +kernel
theorem dX11_compares_4 : decode cX11_compares 4 = .ok (.iload_n 2, 1) := by decide +kernel
theorem dX11_compares_5 : decode cX11_compares 5 = .ok (.aload_n 0, 1) := by decide +kernel
theorem dX11_compares_6 : decode cX11_compares 6 = .ok (.getfield 277, 3) := by decide +kernel
theorem dX11_compares_9 : decode cX11_compares 9 = .ok (.if_icmp .ge 28, 3) := by decide +kernel
theorem dX11_compares_12 : decode cX11_compares 12 = .ok (.iload_n 1, 1) := by decide +kernel
theorem dX11_compares_13 : decode cX11_compares 13 = .ok (.aload_n 0, 1) := by decide +kernel
theorem dX11_compares_14 : decode cX11_compares 14 = .ok (.getfield 93, 3) := by decide +kernel
theorem dX11_compares_17 : decode cX11_compares 17 = .ok (.bipush 9, 2) := by decide +kernel
theorem dX11_compares_19 : decode cX11_compares 19 = .ok (.iload_n 2, 1) := by decide +kernel
theorem dX11_compares_20 : decode cX11_compares 20 = .ok (.imul, 1) := by decide +kernel
theorem dX11_compares_21 : decode cX11_compares 21 = .ok (.aload_n 0, 1) := by decide +kernel
theorem dX11_compares_22 : decode cX11_compares 22 = .ok (.getfield 96, 3) := by decide +kernel
theorem dX11_compares_25 : decode cX11_compares 25 = .ok (.iload_n 2, 1) := by decide +kernel
theorem dX11_compares_26 : decode cX11_compares 26 = .ok (.iaload, 1) := by decide +kernel
theorem dX11_compares_27 : decode cX11_compares 27 = .ok (.iadd, 1) := by decide +kernel
theorem dX11_compares_28 : decode cX11_compares 28 = .ok (.iaload, 1) := by decide +kernel
theorem dX11_compares_29 : decode cX11_compares 29 = .ok (.iadd, 1) := by decide +kernel
theorem dX11_compares_30 : decode cX11_compares 30 = .ok (.istore_n 1, 1) := by decide +kernel
theorem dX11_compares_31 : decode cX11_compares 31 = .ok (.iinc 2 1, 3) := by decide +kernel
theorem dX11_compares_34 : decode cX11_compares 34 = .ok (.goto (-30), 3) := by decide +kernel
theorem dX11_compares_37 : decode cX11_compares 37 = .ok (.iload_n 1, 1) := by decide +kernel
theorem dX11_compares_38 : decode cX11_compares 38 = .ok (.aload_n 0, 1) := by decide +kernel
theorem dX11_compares_39 : decode cX11_compares 39 = .ok (.getfield 280, 3) := by decide +kernel
theorem dX11_compares_42 : decode cX11_compares 42 = .ok (.if_icmp .le 36, 3) := by decide +kernel
theorem dX11_compares_45 : decode cX11_compares 45 = .ok (.aload_n 0, 1) := by decide +kernel
theorem dX11_compares_46 : decode cX11_compares 46 = .ok (.iload_n 1, 1) := by decide +kernel
theorem dX11_compares_47 : decode cX11_compares 47 = .ok (.putfield 280, 3) := by decide +kernel
theorem dX11_compares_50 : decode cX11_compares 50 = .ok (.iconst 0, 1) := by decide +kernel
theorem dX11_compares_51 : decode cX11_compares 51 = .ok (.istore_n 2, 1) := by decide +kernel
theorem dX11_compares_52 : decode cX11_compares 52 = .ok (.iload_n 2, 1) := by decide +kernel
theorem dX11_compares_53 : decode cX11_compares 53 = .ok (.aload_n 0, 1) := by decide +kernel
theorem dX11_compares_54 : decode cX11_compares 54 = .ok (.getfield 277, 3) := by decide +kernel
theorem dX11_compares_57 : decode cX11_compares 57 = .ok (.if_icmp .ge 21, 3) := by decide +kernel
theorem dX11_compares_60 : decode cX11_compares 60 = .ok (.aload_n 0, 1) := by decide +kernel
theorem dX11_compares_61 : decode cX11_compares 61 = .ok (.getfield 99, 3) := by decide +kernel
theorem dX11_compares_64 : decode cX11_compares 64 = .ok (.iload_n 2, 1) := by decide +kernel
theorem dX11_compares_65 : decode cX11_compares 65 = .ok (.aload_n 0, 1) := by decide +kernel
theorem dX11_compares_66 : decode cX11_compares 66 = .ok (.getfield 96, 3) := by decide +kernel
theorem dX11_compares_69 : decode cX11_compares 69 = .ok (.iload_n 2, 1) := by decide +kernel
theorem dX11_compares_70 : decode cX11_compares 70 = .ok (.iaload, 1) := by decide +kernel
theorem dX11_compares_71 : decode cX11_compares 71 = .ok (.iastore, 1) := by decide +kernel
theorem dX11_compares_72 : decode cX11_compares 72 = .ok (.iinc 2 1, 3) := by decide +kernel
theorem dX11_compares_75 : decode cX11_compares 75 = .ok (.goto (-23), 3) := by decide +kernel
theorem dX11_compares_78 : decode cX11_compares 78 = .ok (.return_, 1) := by decide +kernel
theorem dX11_orders_0 : decode cX11_orders 0 = .ok (.aload_n 0, 1) := by decide +kernel
theorem dX11_orders_1 : decode cX11_orders 1 = .ok (.iconst 0, 1) := by decide +kernel
theorem dX11_orders_2 : decode cX11_orders 2 = .ok (.putfield 277, 3) := by decide +kernel
theorem dX11_orders_5 : decode cX11_orders 5 = .ok (.iconst 0, 1) := by decide +kernel
theorem dX11_orders_6 : decode cX11_orders 6 = .ok (.istore_n 1, 1) := by decide +kernel
theorem dX11_orders_7 : decode cX11_orders 7 = .ok (.iload_n 1, 1) := by decide +kernel
theorem dX11_orders_8 : decode cX11_orders 8 = .ok (.iconst 5, 1) := by decide +kernel
theorem dX11_orders_9 : decode cX11_orders 9 = .ok (.if_icmp .ge 39, 3) := by decide +kernel
theorem dX11_orders_12 : decode cX11_orders 12 = .ok (.aload_n 0, 1) := by decide +kernel
theorem dX11_orders_13 : decode cX11_orders 13 = .ok (.getfield 78, 3) := by decide +kernel
theorem dX11_orders_16 : decode cX11_orders 16 = .ok (.iload_n 1, 1) := by decide +kernel
theorem dX11_orders_17 : decode cX11_orders 17 = .ok (.iaload, 1) := by decide +kernel
theorem dX11_orders_18 : decode cX11_orders 18 = .ok (.iconst (-1), 1) := by decide +kernel
theorem dX11_orders_19 : decode cX11_orders 19 = .ok (.if_icmp .lt 23, 3) := by decide +kernel
theorem dX11_orders_22 : decode cX11_orders 22 = .ok (.aload_n 0, 1) := by decide +kernel
theorem dX11_orders_23 : decode cX11_orders 23 = .ok (.getfield 90, 3) := by decide +kernel
theorem dX11_orders_26 : decode cX11_orders 26 = .ok (.aload_n 0, 1) := by decide +kernel
theorem dX11_orders_27 : decode cX11_orders 27 = .ok (.getfield 277, 3) := by decide +kernel
theorem dX11_orders_30 : decode cX11_orders 30 = .ok (.iload_n 1, 1) := by decide +kernel
theorem dX11_orders_31 : decode cX11_orders 31 = .ok (.iastore, 1) := by decide +kernel
theorem dX11_orders_32 : decode cX11_orders 32 = .ok (.aload_n 0, 1) := by decide +kernel
theorem dX11_orders_33 : decode cX11_orders 33 = .ok (.dup, 1) := by decide +kernel
theorem dX11_orders_34 : decode cX11_orders 34 = .ok (.getfield 277, 3) := by decide +kernel
theorem dX11_orders_37 : decode cX11_orders 37 = .ok (.iconst 1, 1) := by decide +kernel
theorem dX11_orders_38 : decode cX11_orders 38 = .ok (.iadd, 1) := by decide +kernel
theorem dX11_orders_39 : decode cX11_orders 39 = .ok (.putfield 277, 3) := by decide +kernel
theorem dX11_orders_42 : decode cX11_orders 42 = .ok (.iinc 1 1, 3) := by decide +kernel
theorem dX11_orders_45 : decode cX11_orders 45 = .ok (.goto (-38), 3) := by decide +kernel
theorem dX11_orders_48 : decode cX11_orders 48 = .ok (.aload_n 0, 1) := by decide +kernel
theorem dX11_orders_49 : decode cX11_orders 49 = .ok (.getfield 277, 3) := by decide +kernel
theorem dX11_orders_52 : decode cX11_orders 52 = .ok (.ifCond .ne 6, 3) := by decide +kernel
theorem dX11_orders_55 : decode cX11_orders 55 = .ok (.bipush (-2), 2) := by decide +kernel
theorem dX11_orders_57 : decode cX11_orders 57 = .ok (.ireturn, 1) := by decide +kernel
theorem dX11_orders_58 : decode cX11_orders 58 = .ok (.aload_n 0, 1) := by decide +kernel
theorem dX11_orders_59 : decode cX11_orders 59 = .ok (.invokevirtual 283, 3) := by decide +kernel
theorem dX11_orders_62 : decode cX11_orders 62 = .ok (.aload_n 0, 1) := by decide +kernel
theorem dX11_orders_63 : decode cX11_orders 63 = .ok (.getfield 277, 3) := by decide +kernel
theorem dX11_orders_66 : decode cX11_orders 66 = .ok (.if_icmp .ge 6, 3) := by decide +kernel
theorem dX11_orders_69 : decode cX11_orders 69 = .ok (.bipush (-4), 2) := by decide +kernel
theorem dX11_orders_71 : decode cX11_orders 71 = .ok (.ireturn, 1) := by decide +kernel
theorem dX11_orders_72 : decode cX11_orders 72 = .ok (.iconst 0, 1) := by decide +kernel
theorem dX11_orders_73 : decode cX11_orders 73 = .ok (.istore_n 1, 1) := by decide +kernel
theorem dX11_orders_74 : decode cX11_orders 74 = .ok (.iload_n 1, 1) := by decide +kernel
theorem dX11_orders_75 : decode cX11_orders 75 = .ok (.aload_n 0, 1) := by decide +kernel
theorem dX11_orders_76 : decode cX11_orders 76 = .ok (.getfield 277, 3) := by decide +kernel
theorem dX11_orders_79 : decode cX11_orders 79 = .ok (.if_icmp .ge 52, 3) := by decide +kernel
theorem dX11_orders_82 : decode cX11_orders 82 = .ok (.iconst 0, 1) := by decide +kernel
theorem dX11_orders_83 : decode cX11_orders 83 = .ok (.istore_n 2, 1) := by decide +kernel
theorem dX11_orders_84 : decode cX11_orders 84 = .ok (.iload_n 2, 1) := by decide +kernel
theorem dX11_orders_85 : decode cX11_orders 85 = .ok (.aload_n 0, 1) := by decide +kernel
theorem dX11_orders_86 : decode cX11_orders 86 = .ok (.getfield 144, 3) := by decide +kernel
theorem dX11_orders_89 : decode cX11_orders 89 = .ok (.if_icmp .ge 36, 3) := by decide +kernel
theorem dX11_orders_92 : decode cX11_orders 92 = .ok (.aload_n 0, 1) := by decide +kernel
theorem dX11_orders_93 : decode cX11_orders 93 = .ok (.getfield 93, 3) := by decide +kernel
theorem dX11_orders_96 : decode cX11_orders 96 = .ok (.bipush 9, 2) := by decide +kernel
theorem dX11_orders_98 : decode cX11_orders 98 = .ok (.iload_n 1, 1) := by decide +kernel
theorem dX11_orders_99 : decode cX11_orders 99 = .ok (.imul, 1) := by decide +kernel
theorem dX11_orders_100 : decode cX11_orders 100 = .ok (.iload_n 2, 1) := by decide +kernel
theorem dX11_orders_101 : decode cX11_orders 101 = .ok (.iadd, 1) := by decide +kernel
theorem dX11_orders_102 : decode cX11_orders 102 = .ok (.aload_n 0, 1) := by decide +kernel
theorem dX11_orders_103 : decode cX11_orders 103 = .ok (.iload_n 2, 1) := by decide +kernel
theorem dX11_orders_104 : decode cX11_orders 104 = .ok (.aload_n 0, 1) := by decide +kernel
theorem dX11_orders_105 : decode cX11_orders 105 = .ok (.getfield 78, 3) := by decide +kernel
theorem dX11_orders_108 : decode cX11_orders 108 = .ok (.aload_n 0, 1) := by decide +kernel
theorem dX11_orders_109 : decode cX11_orders 109 = .ok (.getfield 90, 3) := by decide +kernel
theorem dX11_orders_112 : decode cX11_orders 112 = .ok (.iload_n 1, 1) := by decide +kernel
theorem dX11_orders_113 : decode cX11_orders 113 = .ok (.iaload, 1) := by decide +kernel
theorem dX11_orders_114 : decode cX11_orders 114 = .ok (.iaload, 1) := by decide +kernel
theorem dX11_orders_115 : decode cX11_orders 115 = .ok (.invokevirtual 273, 3) := by decide +kernel
theorem dX11_orders_118 : decode cX11_orders 118 = .ok (.iastore, 1) := by decide +kernel
theorem dX11_orders_119 : decode cX11_orders 119 = .ok (.iinc 2 1, 3) := by decide +kernel
theorem dX11_orders_122 : decode cX11_orders 122 = .ok (.goto (-38), 3) := by decide +kernel
theorem dX11_orders_125 : decode cX11_orders 125 = .ok (.iinc 1 1, 3) := by decide +kernel
theorem dX11_orders_128 : decode cX11_orders 128 = .ok (.goto (-54), 3) := by decide +kernel
theorem dX11_orders_131 : decode cX11_orders 131 = .ok (.aload_n 0, 1) := by decide +kernel
theorem dX11_orders_132 : decode cX11_orders 132 = .ok (.iconst (-1), 1) := by decide +kernel
theorem dX11_orders_133 : decode cX11_orders 133 = .ok (.putfield 280, 3) := by decide +kernel
theorem dX11_orders_136 : decode cX11_orders 136 = .ok (.iconst 0, 1) := by decide +kernel
theorem dX11_orders_137 : decode cX11_orders 137 = .ok (.istore_n 1, 1) := by decide +kernel
theorem dX11_orders_138 : decode cX11_orders 138 = .ok (.aload_n 0, 1) := by decide +kernel
theorem dX11_orders_139 : decode cX11_orders 139 = .ok (.getfield 96, 3) := by decide +kernel
theorem dX11_orders_142 : decode cX11_orders 142 = .ok (.iconst 0, 1) := by decide +kernel
theorem dX11_orders_143 : decode cX11_orders 143 = .ok (.iconst (-1), 1) := by decide +kernel
theorem dX11_orders_144 : decode cX11_orders 144 = .ok (.iastore, 1) := by decide +kernel
theorem dX11_orders_145 : decode cX11_orders 145 = .ok (.iload_n 1, 1) := by decide +kernel
theorem dX11_orders_146 : decode cX11_orders 146 = .ok (.ifCond .lt 76, 3) := by decide +kernel
theorem dX11_orders_149 : decode cX11_orders 149 = .ok (.aload_n 0, 1) := by decide +kernel
theorem dX11_orders_150 : decode cX11_orders 150 = .ok (.getfield 96, 3) := by decide +kernel
theorem dX11_orders_153 : decode cX11_orders 153 = .ok (.iload_n 1, 1) := by decide +kernel
theorem dX11_orders_154 : decode cX11_orders 154 = .ok (.dup2, 1) := by decide +kernel
theorem dX11_orders_155 : decode cX11_orders 155 = .ok (.iaload, 1) := by decide +kernel
theorem dX11_orders_156 : decode cX11_orders 156 = .ok (.iconst 1, 1) := by decide +kernel
theorem dX11_orders_157 : decode cX11_orders 157 = .ok (.iadd, 1) := by decide +kernel
theorem dX11_orders_158 : decode cX11_orders 158 = .ok (.iastore, 1) := by decide +kernel
theorem dX11_orders_159 : decode cX11_orders 159 = .ok (.aload_n 0, 1) := by decide +kernel
theorem dX11_orders_160 : decode cX11_orders 160 = .ok (.getfield 96, 3) := by decide +kernel
theorem dX11_orders_163 : decode cX11_orders 163 = .ok (.iload_n 1, 1) := by decide +kernel
theorem dX11_orders_164 : decode cX11_orders 164 = .ok (.iaload, 1) := by decide +kernel
theorem dX11_orders_165 : decode cX11_orders 165 = .ok (.aload_n 0, 1) := by decide +kernel
theorem dX11_orders_166 : decode cX11_orders 166 = .ok (.getfield 144, 3) := by decide +kernel
theorem dX11_orders_169 : decode cX11_orders 169 = .ok (.if_icmp .ne 9, 3) := by decide +kernel
theorem dX11_orders_172 : decode cX11_orders 172 = .ok (.iinc 1 (-1), 3) := by decide +kernel
theorem dX11_orders_175 : decode cX11_orders 175 = .ok (.goto (-30), 3) := by decide +kernel
theorem dX11_orders_178 : decode cX11_orders 178 = .ok (.aload_n 0, 1) := by decide +kernel
theorem dX11_orders_179 : decode cX11_orders 179 = .ok (.iload_n 1, 1) := by decide +kernel
theorem dX11_orders_180 : decode cX11_orders 180 = .ok (.aload_n 0, 1) := by decide +kernel
theorem dX11_orders_181 : decode cX11_orders 181 = .ok (.getfield 96, 3) := by decide +kernel
theorem dX11_orders_184 : decode cX11_orders 184 = .ok (.iload_n 1, 1) := by decide +kernel
theorem dX11_orders_185 : decode cX11_orders 185 = .ok (.iaload, 1) := by decide +kernel
theorem dX11_orders_186 : decode cX11_orders 186 = .ok (.invokevirtual 286, 3) := by decide +kernel
theorem dX11_orders_189 : decode cX11_orders 189 = .ok (.ifCond .eq (-44), 3) := by decide +kernel
theorem dX11_orders_192 : decode cX11_orders 192 = .ok (.iload_n 1, 1) := by decide +kernel
theorem dX11_orders_193 : decode cX11_orders 193 = .ok (.aload_n 0, 1) := by decide +kernel
theorem dX11_orders_194 : decode cX11_orders 194 = .ok (.getfield 277, 3) := by decide +kernel
theorem dX11_orders_197 : decode cX11_orders 197 = .ok (.iconst 1, 1) := by decide +kernel
theorem dX11_orders_198 : decode cX11_orders 198 = .ok (.isub, 1) := by decide +kernel
theorem dX11_orders_199 : decode cX11_orders 199 = .ok (.if_icmp .ne 10, 3) := by decide +kernel
theorem dX11_orders_202 : decode cX11_orders 202 = .ok (.aload_n 0, 1) := by decide +kernel
theorem dX11_orders_203 : decode cX11_orders 203 = .ok (.invokevirtual 290, 3) := by decide +kernel
theorem dX11_orders_206 : decode cX11_orders 206 = .ok (.goto (-61), 3) := by decide +kernel
theorem dX11_orders_209 : decode cX11_orders 209 = .ok (.iinc 1 1, 3) := by decide +kernel
theorem dX11_orders_212 : decode cX11_orders 212 = .ok (.aload_n 0, 1) := by decide +kernel
theorem dX11_orders_213 : decode cX11_orders 213 = .ok (.getfield 96, 3) := by decide +kernel
theorem dX11_orders_216 : decode cX11_orders 216 = .ok (.iload_n 1, 1) := by decide +kernel
theorem dX11_orders_217 : decode cX11_orders 217 = .ok (.iconst (-1), 1) := by decide +kernel
theorem dX11_orders_218 : decode cX11_orders 218 = .ok (.iastore, 1) := by decide +kernel
theorem dX11_orders_219 : decode cX11_orders 219 = .ok (.goto (-74), 3) := by decide +kernel
theorem dX11_orders_222 : decode cX11_orders 222 = .ok (.aload_n 0, 1) := by decide +kernel
theorem dX11_orders_223 : decode cX11_orders 223 = .ok (.getfield 280, 3) := by decide +kernel
theorem dX11_orders_226 : decode cX11_orders 226 = .ok (.ireturn, 1) := by decide +kernel
theorem dX11_best_0 : decode cX11_best 0 = .ok (.aload_n 0, 1) := by decide +kernel
theorem dX11_best_1 : decode cX11_best 1 = .ok (.invokevirtual 293, 3) := by decide +kernel
theorem dX11_best_4 : decode cX11_best 4 = .ok (.ireturn, 1) := by decide +kernel
theorem dX11_order_0 : decode cX11_order 0 = .ok (.iload_n 1, 1) := by decide +kernel
theorem dX11_order_1 : decode cX11_order 1 = .ok (.i2l, 1) := by decide +kernel
theorem dX11_order_2 : decode cX11_order 2 = .ok (.lconst 0, 1) := by decide +kernel
theorem dX11_order_3 : decode cX11_order 3 = .ok (.ldc2_w 258, 3) := by decide +kernel
theorem dX11_order_6 : decode cX11_order 6 = .ok (.invokestatic 127, 3) := by decide +kernel
theorem dX11_order_9 : decode cX11_order 9 = .ok (.ifCond .eq 14, 3) := by decide +kernel
theorem dX11_order_12 : decode cX11_order 12 = .ok (.aload_n 0, 1) := by decide +kernel
theorem dX11_order_13 : decode cX11_order 13 = .ok (.getfield 78, 3) := by decide +kernel
theorem dX11_order_16 : decode cX11_order 16 = .ok (.iload_n 1, 1) := by decide +kernel
theorem dX11_order_17 : decode cX11_order 17 = .ok (.iaload, 1) := by decide +kernel
theorem dX11_order_18 : decode cX11_order 18 = .ok (.bipush (-2), 2) := by decide +kernel
theorem dX11_order_20 : decode cX11_order 20 = .ok (.if_icmp .ne 5, 3) := by decide +kernel
theorem dX11_order_23 : decode cX11_order 23 = .ok (.iconst (-1), 1) := by decide +kernel
theorem dX11_order_24 : decode cX11_order 24 = .ok (.ireturn, 1) := by decide +kernel
theorem dX11_order_25 : decode cX11_order 25 = .ok (.aload_n 0, 1) := by decide +kernel
theorem dX11_order_26 : decode cX11_order 26 = .ok (.invokevirtual 293, 3) := by decide +kernel
theorem dX11_order_29 : decode cX11_order 29 = .ok (.istore_n 2, 1) := by decide +kernel
theorem dX11_order_30 : decode cX11_order 30 = .ok (.iload_n 2, 1) := by decide +kernel
theorem dX11_order_31 : decode cX11_order 31 = .ok (.ifCond .ge 5, 3) := by decide +kernel
theorem dX11_order_34 : decode cX11_order 34 = .ok (.iload_n 2, 1) := by decide +kernel
theorem dX11_order_35 : decode cX11_order 35 = .ok (.ireturn, 1) := by decide +kernel
theorem dX11_order_36 : decode cX11_order 36 = .ok (.iconst 0, 1) := by decide +kernel
theorem dX11_order_37 : decode cX11_order 37 = .ok (.istore_n 3, 1) := by decide +kernel
theorem dX11_order_38 : decode cX11_order 38 = .ok (.aload_n 0, 1) := by decide +kernel
theorem dX11_order_39 : decode cX11_order 39 = .ok (.getfield 90, 3) := by decide +kernel
theorem dX11_order_42 : decode cX11_order 42 = .ok (.iload_n 3, 1) := by decide +kernel
theorem dX11_order_43 : decode cX11_order 43 = .ok (.iaload, 1) := by decide +kernel
theorem dX11_order_44 : decode cX11_order 44 = .ok (.iload_n 1, 1) := by decide +kernel
theorem dX11_order_45 : decode cX11_order 45 = .ok (.if_icmp .eq 9, 3) := by decide +kernel
theorem dX11_order_48 : decode cX11_order 48 = .ok (.iinc 3 1, 3) := by decide +kernel
theorem dX11_order_51 : decode cX11_order 51 = .ok (.goto (-13), 3) := by decide +kernel
theorem dX11_order_54 : decode cX11_order 54 = .ok (.aload_n 0, 1) := by decide +kernel
theorem dX11_order_55 : decode cX11_order 55 = .ok (.getfield 99, 3) := by decide +kernel
theorem dX11_order_58 : decode cX11_order 58 = .ok (.iload_n 3, 1) := by decide +kernel
theorem dX11_order_59 : decode cX11_order 59 = .ok (.iaload, 1) := by decide +kernel
theorem dX11_order_60 : decode cX11_order 60 = .ok (.ireturn, 1) := by decide +kernel
theorem dX11_isRow_0 : decode cX11_isRow 0 = .ok (.aload_n 0, 1) := by decide +kernel
theorem dX11_isRow_1 : decode cX11_isRow 1 = .ok (.lload_n 1, 1) := by decide +kernel
theorem dX11_isRow_2 : decode cX11_isRow 2 = .ok (.lload_n 3, 1) := by decide +kernel
theorem dX11_isRow_3 : decode cX11_isRow 3 = .ok (.lload 5, 2) := by decide +kernel
theorem dX11_isRow_5 : decode cX11_isRow 5 = .ok (.lload 7, 2) := by decide +kernel
theorem dX11_isRow_7 : decode cX11_isRow 7 = .ok (.lload 9, 2) := by decide +kernel
theorem dX11_isRow_9 : decode cX11_isRow 9 = .ok (.invokevirtual 229, 3) := by decide +kernel
theorem dX11_isRow_12 : decode cX11_isRow 12 = .ok (.ifCond .eq 35, 3) := by decide +kernel
theorem dX11_isRow_15 : decode cX11_isRow 15 = .ok (.lload 11, 2) := by decide +kernel
theorem dX11_isRow_17 : decode cX11_isRow 17 = .ok (.ldc2_w 296, 3) := by decide +kernel
theorem dX11_isRow_20 : decode cX11_isRow 20 = .ok (.ldc2_w 298, 3) := by decide +kernel
theorem dX11_isRow_23 : decode cX11_isRow 23 = .ok (.invokestatic 127, 3) := by decide +kernel
theorem dX11_isRow_26 : decode cX11_isRow 26 = .ok (.ifCond .eq 21, 3) := by decide +kernel
theorem dX11_isRow_29 : decode cX11_isRow 29 = .ok (.lload 13, 2) := by decide +kernel
theorem dX11_isRow_31 : decode cX11_isRow 31 = .ok (.ldc2_w 296, 3) := by decide +kernel
theorem dX11_isRow_34 : decode cX11_isRow 34 = .ok (.ldc2_w 298, 3) := by decide +kernel
theorem dX11_isRow_37 : decode cX11_isRow 37 = .ok (.invokestatic 127, 3) := by decide +kernel
theorem dX11_isRow_40 : decode cX11_isRow 40 = .ok (.ifCond .eq 7, 3) := by decide +kernel
theorem dX11_isRow_43 : decode cX11_isRow 43 = .ok (.iconst 1, 1) := by decide +kernel
theorem dX11_isRow_44 : decode cX11_isRow 44 = .ok (.goto 4, 3) := by decide +kernel
theorem dX11_isRow_47 : decode cX11_isRow 47 = .ok (.iconst 0, 1) := by decide +kernel
theorem dX11_isRow_48 : decode cX11_isRow 48 = .ok (.ireturn, 1) := by decide +kernel
theorem dX11_put_0 : decode cX11_put 0 = .ok (.bipush 7, 2) := by decide +kernel
theorem dX11_put_2 : decode cX11_put 2 = .ok (.aload_n 0, 1) := by decide +kernel
theorem dX11_put_3 : decode cX11_put 3 = .ok (.getfield 300, 3) := by decide +kernel
theorem dX11_put_6 : decode cX11_put 6 = .ok (.imul, 1) := by decide +kernel
theorem dX11_put_7 : decode cX11_put 7 = .ok (.istore 8, 2) := by decide +kernel
theorem dX11_put_9 : decode cX11_put 9 = .ok (.aload_n 0, 1) := by decide +kernel
theorem dX11_put_10 : decode cX11_put 10 = .ok (.getfield 102, 3) := by decide +kernel
theorem dX11_put_13 : decode cX11_put 13 = .ok (.iload 8, 2) := by decide +kernel
theorem dX11_put_15 : decode cX11_put 15 = .ok (.iload_n 1, 1) := by decide +kernel
theorem dX11_put_16 : decode cX11_put 16 = .ok (.iastore, 1) := by decide +kernel
theorem dX11_put_17 : decode cX11_put 17 = .ok (.aload_n 0, 1) := by decide +kernel
theorem dX11_put_18 : decode cX11_put 18 = .ok (.getfield 102, 3) := by decide +kernel
theorem dX11_put_21 : decode cX11_put 21 = .ok (.iload 8, 2) := by decide +kernel
theorem dX11_put_23 : decode cX11_put 23 = .ok (.iconst 1, 1) := by decide +kernel
theorem dX11_put_24 : decode cX11_put 24 = .ok (.iadd, 1) := by decide +kernel
theorem dX11_put_25 : decode cX11_put 25 = .ok (.iload_n 2, 1) := by decide +kernel
theorem dX11_put_26 : decode cX11_put 26 = .ok (.iastore, 1) := by decide +kernel
theorem dX11_put_27 : decode cX11_put 27 = .ok (.aload_n 0, 1) := by decide +kernel
theorem dX11_put_28 : decode cX11_put 28 = .ok (.getfield 102, 3) := by decide +kernel
theorem dX11_put_31 : decode cX11_put 31 = .ok (.iload 8, 2) := by decide +kernel
theorem dX11_put_33 : decode cX11_put 33 = .ok (.iconst 2, 1) := by decide +kernel
theorem dX11_put_34 : decode cX11_put 34 = .ok (.iadd, 1) := by decide +kernel
theorem dX11_put_35 : decode cX11_put 35 = .ok (.iload_n 3, 1) := by decide +kernel
theorem dX11_put_36 : decode cX11_put 36 = .ok (.iastore, 1) := by decide +kernel
theorem dX11_put_37 : decode cX11_put 37 = .ok (.aload_n 0, 1) := by decide +kernel
theorem dX11_put_38 : decode cX11_put 38 = .ok (.getfield 102, 3) := by decide +kernel
theorem dX11_put_41 : decode cX11_put 41 = .ok (.iload 8, 2) := by decide +kernel
theorem dX11_put_43 : decode cX11_put 43 = .ok (.iconst 3, 1) := by decide +kernel
theorem dX11_put_44 : decode cX11_put 44 = .ok (.iadd, 1) := by decide +kernel
theorem dX11_put_45 : decode cX11_put 45 = .ok (.iload 4, 2) := by decide +kernel
theorem dX11_put_47 : decode cX11_put 47 = .ok (.iastore, 1) := by decide +kernel
theorem dX11_put_48 : decode cX11_put 48 = .ok (.aload_n 0, 1) := by decide +kernel
theorem dX11_put_49 : decode cX11_put 49 = .ok (.getfield 102, 3) := by decide +kernel
theorem dX11_put_52 : decode cX11_put 52 = .ok (.iload 8, 2) := by decide +kernel
theorem dX11_put_54 : decode cX11_put 54 = .ok (.iconst 4, 1) := by decide +kernel
theorem dX11_put_55 : decode cX11_put 55 = .ok (.iadd, 1) := by decide +kernel
theorem dX11_put_56 : decode cX11_put 56 = .ok (.iload 5, 2) := by decide +kernel
theorem dX11_put_58 : decode cX11_put 58 = .ok (.iastore, 1) := by decide +kernel
theorem dX11_put_59 : decode cX11_put 59 = .ok (.aload_n 0, 1) := by decide +kernel
theorem dX11_put_60 : decode cX11_put 60 = .ok (.getfield 102, 3) := by decide +kernel
theorem dX11_put_63 : decode cX11_put 63 = .ok (.iload 8, 2) := by decide +kernel
theorem dX11_put_65 : decode cX11_put 65 = .ok (.iconst 5, 1) := by decide +kernel
theorem dX11_put_66 : decode cX11_put 66 = .ok (.iadd, 1) := by decide +kernel
theorem dX11_put_67 : decode cX11_put 67 = .ok (.iload 6, 2) := by decide +kernel
theorem dX11_put_69 : decode cX11_put 69 = .ok (.iastore, 1) := by decide +kernel
theorem dX11_put_70 : decode cX11_put 70 = .ok (.aload_n 0, 1) := by decide +kernel
theorem dX11_put_71 : decode cX11_put 71 = .ok (.getfield 102, 3) := by decide +kernel
theorem dX11_put_74 : decode cX11_put 74 = .ok (.iload 8, 2) := by decide +kernel
theorem dX11_put_76 : decode cX11_put 76 = .ok (.bipush 6, 2) := by decide +kernel
theorem dX11_put_78 : decode cX11_put 78 = .ok (.iadd, 1) := by decide +kernel
theorem dX11_put_79 : decode cX11_put 79 = .ok (.iload 7, 2) := by decide +kernel
theorem dX11_put_81 : decode cX11_put 81 = .ok (.iastore, 1) := by decide +kernel
theorem dX11_put_82 : decode cX11_put 82 = .ok (.aload_n 0, 1) := by decide +kernel
theorem dX11_put_83 : decode cX11_put 83 = .ok (.dup, 1) := by decide +kernel
theorem dX11_put_84 : decode cX11_put 84 = .ok (.getfield 300, 3) := by decide +kernel
theorem dX11_put_87 : decode cX11_put 87 = .ok (.iconst 1, 1) := by decide +kernel
theorem dX11_put_88 : decode cX11_put 88 = .ok (.iadd, 1) := by decide +kernel
theorem dX11_put_89 : decode cX11_put 89 = .ok (.putfield 300, 3) := by decide +kernel
theorem dX11_put_92 : decode cX11_put 92 = .ok (.return_, 1) := by decide +kernel
theorem dX11_row_0 : decode cX11_row 0 = .ok (.aload_n 0, 1) := by decide +kernel
theorem dX11_row_1 : decode cX11_row 1 = .ok (.iload_n 1, 1) := by decide +kernel
theorem dX11_row_2 : decode cX11_row 2 = .ok (.i2l, 1) := by decide +kernel
theorem dX11_row_3 : decode cX11_row 3 = .ok (.iload_n 2, 1) := by decide +kernel
theorem dX11_row_4 : decode cX11_row 4 = .ok (.i2l, 1) := by decide +kernel
theorem dX11_row_5 : decode cX11_row 5 = .ok (.iload_n 3, 1) := by decide +kernel
theorem dX11_row_6 : decode cX11_row 6 = .ok (.i2l, 1) := by decide +kernel
theorem dX11_row_7 : decode cX11_row 7 = .ok (.iload 4, 2) := by decide +kernel
theorem dX11_row_9 : decode cX11_row 9 = .ok (.i2l, 1) := by decide +kernel
theorem dX11_row_10 : decode cX11_row 10 = .ok (.iload 5, 2) := by decide +kernel
theorem dX11_row_12 : decode cX11_row 12 = .ok (.i2l, 1) := by decide +kernel
theorem dX11_row_13 : decode cX11_row 13 = .ok (.iload 6, 2) := by decide +kernel
theorem dX11_row_15 : decode cX11_row 15 = .ok (.i2l, 1) := by decide +kernel
theorem dX11_row_16 : decode cX11_row 16 = .ok (.iload 7, 2) := by decide +kernel
theorem dX11_row_18 : decode cX11_row 18 = .ok (.i2l, 1) := by decide +kernel
theorem dX11_row_19 : decode cX11_row 19 = .ok (.invokevirtual 303, 3) := by decide +kernel
theorem dX11_row_22 : decode cX11_row 22 = .ok (.ifCond .ne 5, 3) := by decide +kernel
theorem dX11_row_25 : decode cX11_row 25 = .ok (.iconst (-1), 1) := by decide +kernel
theorem dX11_row_26 : decode cX11_row 26 = .ok (.ireturn, 1) := by decide +kernel
theorem dX11_row_27 : decode cX11_row 27 = .ok (.aload_n 0, 1) := by decide +kernel
theorem dX11_row_28 : decode cX11_row 28 = .ok (.getfield 300, 3) := by decide +kernel
theorem dX11_row_31 : decode cX11_row 31 = .ok (.bipush 30, 2) := by decide +kernel
theorem dX11_row_33 : decode cX11_row 33 = .ok (.if_icmp .ne 6, 3) := by decide +kernel
theorem dX11_row_36 : decode cX11_row 36 = .ok (.bipush (-3), 2) := by decide +kernel
theorem dX11_row_38 : decode cX11_row 38 = .ok (.ireturn, 1) := by decide +kernel
theorem dX11_row_39 : decode cX11_row 39 = .ok (.aload_n 0, 1) := by decide +kernel
theorem dX11_row_40 : decode cX11_row 40 = .ok (.iload_n 1, 1) := by decide +kernel
theorem dX11_row_41 : decode cX11_row 41 = .ok (.iload_n 2, 1) := by decide +kernel
theorem dX11_row_42 : decode cX11_row 42 = .ok (.iload_n 3, 1) := by decide +kernel
theorem dX11_row_43 : decode cX11_row 43 = .ok (.iload 4, 2) := by decide +kernel
theorem dX11_row_45 : decode cX11_row 45 = .ok (.iload 5, 2) := by decide +kernel
theorem dX11_row_47 : decode cX11_row 47 = .ok (.iload 6, 2) := by decide +kernel
theorem dX11_row_49 : decode cX11_row 49 = .ok (.iload 7, 2) := by decide +kernel
theorem dX11_row_51 : decode cX11_row 51 = .ok (.invokevirtual 307, 3) := by decide +kernel
theorem dX11_row_54 : decode cX11_row 54 = .ok (.aload_n 0, 1) := by decide +kernel
theorem dX11_row_55 : decode cX11_row 55 = .ok (.getfield 300, 3) := by decide +kernel
theorem dX11_row_58 : decode cX11_row 58 = .ok (.iconst 1, 1) := by decide +kernel
theorem dX11_row_59 : decode cX11_row 59 = .ok (.isub, 1) := by decide +kernel
theorem dX11_row_60 : decode cX11_row 60 = .ok (.ireturn, 1) := by decide +kernel
theorem dX11_size_0 : decode cX11_size 0 = .ok (.iload_n 0, 1) := by decide +kernel
theorem dX11_size_1 : decode cX11_size 1 = .ok (.ifCond .ge 8, 3) := by decide +kernel
theorem dX11_size_4 : decode cX11_size 4 = .ok (.iload_n 0, 1) := by decide +kernel
theorem dX11_size_5 : decode cX11_size 5 = .ok (.ineg, 1) := by decide +kernel
theorem dX11_size_6 : decode cX11_size 6 = .ok (.goto 4, 3) := by decide +kernel
theorem dX11_size_9 : decode cX11_size 9 = .ok (.iload_n 0, 1) := by decide +kernel
theorem dX11_size_10 : decode cX11_size 10 = .ok (.ireturn, 1) := by decide +kernel
theorem dX11_missOf_0 : decode cX11_missOf 0 = .ok (.bipush 7, 2) := by decide +kernel
theorem dX11_missOf_2 : decode cX11_missOf 2 = .ok (.iload_n 1, 1) := by decide +kernel
theorem dX11_missOf_3 : decode cX11_missOf 3 = .ok (.imul, 1) := by decide +kernel
theorem dX11_missOf_4 : decode cX11_missOf 4 = .ok (.istore_n 3, 1) := by decide +kernel
theorem dX11_missOf_5 : decode cX11_missOf 5 = .ok (.aload_n 0, 1) := by decide +kernel
theorem dX11_missOf_6 : decode cX11_missOf 6 = .ok (.aload_n 0, 1) := by decide +kernel
theorem dX11_missOf_7 : decode cX11_missOf 7 = .ok (.getfield 102, 3) := by decide +kernel
theorem dX11_missOf_10 : decode cX11_missOf 10 = .ok (.iload_n 3, 1) := by decide +kernel
theorem dX11_missOf_11 : decode cX11_missOf 11 = .ok (.iaload, 1) := by decide +kernel
theorem dX11_missOf_12 : decode cX11_missOf 12 = .ok (.iload_n 2, 1) := by decide +kernel
theorem dX11_missOf_13 : decode cX11_missOf 13 = .ok (.aload_n 0, 1) := by decide +kernel
theorem dX11_missOf_14 : decode cX11_missOf 14 = .ok (.getfield 102, 3) := by decide +kernel
theorem dX11_missOf_17 : decode cX11_missOf 17 = .ok (.iload_n 3, 1) := by decide +kernel
theorem dX11_missOf_18 : decode cX11_missOf 18 = .ok (.iconst 1, 1) := by decide +kernel
theorem dX11_missOf_19 : decode cX11_missOf 19 = .ok (.iadd, 1) := by decide +kernel
theorem dX11_missOf_20 : decode cX11_missOf 20 = .ok (.iaload, 1) := by decide +kernel
theorem dX11_missOf_21 : decode cX11_missOf 21 = .ok (.aload_n 0, 1) := by decide +kernel
theorem dX11_missOf_22 : decode cX11_missOf 22 = .ok (.getfield 102, 3) := by decide +kernel
theorem dX11_missOf_25 : decode cX11_missOf 25 = .ok (.iload_n 3, 1) := by decide +kernel
theorem dX11_missOf_26 : decode cX11_missOf 26 = .ok (.iconst 2, 1) := by decide +kernel
theorem dX11_missOf_27 : decode cX11_missOf 27 = .ok (.iadd, 1) := by decide +kernel
theorem dX11_missOf_28 : decode cX11_missOf 28 = .ok (.iaload, 1) := by decide +kernel
theorem dX11_missOf_29 : decode cX11_missOf 29 = .ok (.aload_n 0, 1) := by decide +kernel
theorem dX11_missOf_30 : decode cX11_missOf 30 = .ok (.getfield 102, 3) := by decide +kernel
theorem dX11_missOf_33 : decode cX11_missOf 33 = .ok (.iload_n 3, 1) := by decide +kernel
theorem dX11_missOf_34 : decode cX11_missOf 34 = .ok (.iconst 3, 1) := by decide +kernel
theorem dX11_missOf_35 : decode cX11_missOf 35 = .ok (.iadd, 1) := by decide +kernel
theorem dX11_missOf_36 : decode cX11_missOf 36 = .ok (.iaload, 1) := by decide +kernel
theorem dX11_missOf_37 : decode cX11_missOf 37 = .ok (.aload_n 0, 1) := by decide +kernel
theorem dX11_missOf_38 : decode cX11_missOf 38 = .ok (.getfield 102, 3) := by decide +kernel
theorem dX11_missOf_41 : decode cX11_missOf 41 = .ok (.iload_n 3, 1) := by decide +kernel
theorem dX11_missOf_42 : decode cX11_missOf 42 = .ok (.iconst 4, 1) := by decide +kernel
theorem dX11_missOf_43 : decode cX11_missOf 43 = .ok (.iadd, 1) := by decide +kernel
theorem dX11_missOf_44 : decode cX11_missOf 44 = .ok (.iaload, 1) := by decide +kernel
theorem dX11_missOf_45 : decode cX11_missOf 45 = .ok (.iconst (-1), 1) := by decide +kernel
theorem dX11_missOf_46 : decode cX11_missOf 46 = .ok (.invokevirtual 236, 3) := by decide +kernel
theorem dX11_missOf_49 : decode cX11_missOf 49 = .ok (.istore 4, 2) := by decide +kernel
theorem dX11_missOf_51 : decode cX11_missOf 51 = .ok (.aload_n 0, 1) := by decide +kernel
theorem dX11_missOf_52 : decode cX11_missOf 52 = .ok (.getfield 60, 3) := by decide +kernel
theorem dX11_missOf_55 : decode cX11_missOf 55 = .ok (.iconst 0, 1) := by decide +kernel
theorem dX11_missOf_56 : decode cX11_missOf 56 = .ok (.iaload, 1) := by decide +kernel
theorem dX11_missOf_57 : decode cX11_missOf 57 = .ok (.aload_n 0, 1) := by decide +kernel
theorem dX11_missOf_58 : decode cX11_missOf 58 = .ok (.getfield 102, 3) := by decide +kernel
theorem dX11_missOf_61 : decode cX11_missOf 61 = .ok (.iload_n 3, 1) := by decide +kernel
theorem dX11_missOf_62 : decode cX11_missOf 62 = .ok (.iconst 5, 1) := by decide +kernel
theorem dX11_missOf_63 : decode cX11_missOf 63 = .ok (.iadd, 1) := by decide +kernel
theorem dX11_missOf_64 : decode cX11_missOf 64 = .ok (.iaload, 1) := by decide +kernel
theorem dX11_missOf_65 : decode cX11_missOf 65 = .ok (.isub, 1) := by decide +kernel
theorem dX11_missOf_66 : decode cX11_missOf 66 = .ok (.invokestatic 311, 3) := by decide +kernel
theorem dX11_missOf_69 : decode cX11_missOf 69 = .ok (.aload_n 0, 1) := by decide +kernel
theorem dX11_missOf_70 : decode cX11_missOf 70 = .ok (.getfield 60, 3) := by decide +kernel
theorem dX11_missOf_73 : decode cX11_missOf 73 = .ok (.iconst 1, 1) := by decide +kernel
theorem dX11_missOf_74 : decode cX11_missOf 74 = .ok (.iaload, 1) := by decide +kernel
theorem dX11_missOf_75 : decode cX11_missOf 75 = .ok (.aload_n 0, 1) := by decide +kernel
theorem dX11_missOf_76 : decode cX11_missOf 76 = .ok (.getfield 102, 3) := by decide +kernel
theorem dX11_missOf_79 : decode cX11_missOf 79 = .ok (.iload_n 3, 1) := by decide +kernel
theorem dX11_missOf_80 : decode cX11_missOf 80 = .ok (.bipush 6, 2) := by decide +kernel
theorem dX11_missOf_82 : decode cX11_missOf 82 = .ok (.iadd, 1) := by decide +kernel
theorem dX11_missOf_83 : decode cX11_missOf 83 = .ok (.iaload, 1) := by decide +kernel
theorem dX11_missOf_84 : decode cX11_missOf 84 = .ok (.isub, 1) := by decide +kernel
theorem dX11_missOf_85 : decode cX11_missOf 85 = .ok (.invokestatic 311, 3) := by decide +kernel
theorem dX11_missOf_88 : decode cX11_missOf 88 = .ok (.iadd, 1) := by decide +kernel
theorem dX11_missOf_89 : decode cX11_missOf 89 = .ok (.istore 5, 2) := by decide +kernel
theorem dX11_missOf_91 : decode cX11_missOf 91 = .ok (.iload 4, 2) := by decide +kernel
theorem dX11_missOf_93 : decode cX11_missOf 93 = .ok (.ifCond .le 17, 3) := by decide +kernel
theorem dX11_missOf_96 : decode cX11_missOf 96 = .ok (.iload 5, 2) := by decide +kernel
theorem dX11_missOf_98 : decode cX11_missOf 98 = .ok (.sipush 9999, 3) := by decide +kernel
theorem dX11_missOf_101 : decode cX11_missOf 101 = .ok (.if_icmp .le 9, 3) := by decide +kernel
theorem dX11_missOf_104 : decode cX11_missOf 104 = .ok (.sipush 9999, 3) := by decide +kernel
theorem dX11_missOf_107 : decode cX11_missOf 107 = .ok (.goto 5, 3) := by decide +kernel
theorem dX11_missOf_110 : decode cX11_missOf 110 = .ok (.iload 5, 2) := by decide +kernel
theorem dX11_missOf_112 : decode cX11_missOf 112 = .ok (.ireturn, 1) := by decide +kernel
theorem dX11_miss_0 : decode cX11_miss 0 = .ok (.iload_n 1, 1) := by decide +kernel
theorem dX11_miss_1 : decode cX11_miss 1 = .ok (.i2l, 1) := by decide +kernel
theorem dX11_miss_2 : decode cX11_miss 2 = .ok (.lconst 0, 1) := by decide +kernel
theorem dX11_miss_3 : decode cX11_miss 3 = .ok (.aload_n 0, 1) := by decide +kernel
theorem dX11_miss_4 : decode cX11_miss 4 = .ok (.getfield 300, 3) := by decide +kernel
theorem dX11_miss_7 : decode cX11_miss 7 = .ok (.iconst 1, 1) := by decide +kernel
theorem dX11_miss_8 : decode cX11_miss 8 = .ok (.isub, 1) := by decide +kernel
theorem dX11_miss_9 : decode cX11_miss 9 = .ok (.i2l, 1) := by decide +kernel
theorem dX11_miss_10 : decode cX11_miss 10 = .ok (.invokestatic 127, 3) := by decide +kernel
theorem dX11_miss_13 : decode cX11_miss 13 = .ok (.ifCond .eq 26, 3) := by decide +kernel
theorem dX11_miss_16 : decode cX11_miss 16 = .ok (.iload_n 2, 1) := by decide +kernel
theorem dX11_miss_17 : decode cX11_miss 17 = .ok (.i2l, 1) := by decide +kernel
theorem dX11_miss_18 : decode cX11_miss 18 = .ok (.ldc2_w 161, 3) := by decide +kernel
theorem dX11_miss_21 : decode cX11_miss 21 = .ok (.ldc2_w 163, 3) := by decide +kernel
theorem dX11_miss_24 : decode cX11_miss 24 = .ok (.invokestatic 127, 3) := by decide +kernel
theorem dX11_miss_27 : decode cX11_miss 27 = .ok (.ifCond .eq 12, 3) := by decide +kernel
theorem dX11_miss_30 : decode cX11_miss 30 = .ok (.aload_n 0, 1) := by decide +kernel
theorem dX11_miss_31 : decode cX11_miss 31 = .ok (.iload_n 1, 1) := by decide +kernel
theorem dX11_miss_32 : decode cX11_miss 32 = .ok (.iload_n 2, 1) := by decide +kernel
theorem dX11_miss_33 : decode cX11_miss 33 = .ok (.invokevirtual 314, 3) := by decide +kernel
theorem dX11_miss_36 : decode cX11_miss 36 = .ok (.goto 4, 3) := by decide +kernel
theorem dX11_miss_39 : decode cX11_miss 39 = .ok (.iconst (-1), 1) := by decide +kernel
theorem dX11_miss_40 : decode cX11_miss 40 = .ok (.ireturn, 1) := by decide +kernel
theorem dX11_rowsOf_0 : decode cX11_rowsOf 0 = .ok (.iconst 0, 1) := by decide +kernel
theorem dX11_rowsOf_1 : decode cX11_rowsOf 1 = .ok (.istore_n 2, 1) := by decide +kernel
theorem dX11_rowsOf_2 : decode cX11_rowsOf 2 = .ok (.iconst 0, 1) := by decide +kernel
theorem dX11_rowsOf_3 : decode cX11_rowsOf 3 = .ok (.istore_n 3, 1) := by decide +kernel
theorem dX11_rowsOf_4 : decode cX11_rowsOf 4 = .ok (.iload_n 3, 1) := by decide +kernel
theorem dX11_rowsOf_5 : decode cX11_rowsOf 5 = .ok (.aload_n 0, 1) := by decide +kernel
theorem dX11_rowsOf_6 : decode cX11_rowsOf 6 = .ok (.getfield 300, 3) := by decide +kernel
theorem dX11_rowsOf_9 : decode cX11_rowsOf 9 = .ok (.if_icmp .ge 30, 3) := by decide +kernel
end
section
theorem dX11_rowsOf_12 : decode cX11_rowsOf 12 = .ok (.iload_n 2, 1) := by decide +kernel
theorem dX11_rowsOf_13 : decode cX11_rowsOf 13 = .ok (.aload_n 0, 1) := by decide +kernel
theorem dX11_rowsOf_14 : decode cX11_rowsOf 14 = .ok (.getfield 102, 3) := by decide +kernel
theorem dX11_rowsOf_17 : decode cX11_rowsOf 17 = .ok (.bipush 7, 2) := by decide +kernel
theorem dX11_rowsOf_19 : decode cX11_rowsOf 19 = .ok (.iload_n 3, 1) := by decide +kernel
theorem dX11_rowsOf_20 : decode cX11_rowsOf 20 = .ok (.imul, 1) := by decide +kernel
theorem dX11_rowsOf_21 : decode cX11_rowsOf 21 = .ok (.iaload, 1) := by decide +kernel
theorem dX11_rowsOf_22 : decode cX11_rowsOf 22 = .ok (.iload_n 1, 1) := by decide +kernel
theorem dX11_rowsOf_23 : decode cX11_rowsOf 23 = .ok (.if_icmp .ne 7, 3) := by decide +kernel
theorem dX11_rowsOf_26 : decode cX11_rowsOf 26 = .ok (.iconst 1, 1) := by decide +kernel
theorem dX11_rowsOf_27 : decode cX11_rowsOf 27 = .ok (.goto 4, 3) := by decide +kernel
theorem dX11_rowsOf_30 : decode cX11_rowsOf 30 = .ok (.iconst 0, 1) := by decide +kernel
theorem dX11_rowsOf_31 : decode cX11_rowsOf 31 = .ok (.iadd, 1) := by decide +kernel
theorem dX11_rowsOf_32 : decode cX11_rowsOf 32 = .ok (.istore_n 2, 1) := by decide +kernel
theorem dX11_rowsOf_33 : decode cX11_rowsOf 33 = .ok (.iinc 3 1, 3) := by decide +kernel
theorem dX11_rowsOf_36 : decode cX11_rowsOf 36 = .ok (.goto (-32), 3) := by decide +kernel
theorem dX11_rowsOf_39 : decode cX11_rowsOf 39 = .ok (.iload_n 2, 1) := by decide +kernel
theorem dX11_rowsOf_40 : decode cX11_rowsOf 40 = .ok (.ireturn, 1) := by decide +kernel
theorem dX11_missAll_0 : decode cX11_missAll 0 = .ok (.iconst 0, 1) := by decide +kernel
theorem dX11_missAll_1 : decode cX11_missAll 1 = .ok (.istore_n 3, 1) := by decide +kernel
theorem dX11_missAll_2 : decode cX11_missAll 2 = .ok (.iconst 0, 1) := by decide +kernel
theorem dX11_missAll_3 : decode cX11_missAll 3 = .ok (.istore 4, 2) := by decide +kernel
theorem dX11_missAll_5 : decode cX11_missAll 5 = .ok (.iload 4, 2) := by decide +kernel
theorem dX11_missAll_7 : decode cX11_missAll 7 = .ok (.aload_n 0, 1) := by decide +kernel
theorem dX11_missAll_8 : decode cX11_missAll 8 = .ok (.getfield 300, 3) := by decide +kernel
theorem dX11_missAll_11 : decode cX11_missAll 11 = .ok (.if_icmp .ge 37, 3) := by decide +kernel
theorem dX11_missAll_14 : decode cX11_missAll 14 = .ok (.iload_n 3, 1) := by decide +kernel
theorem dX11_missAll_15 : decode cX11_missAll 15 = .ok (.aload_n 0, 1) := by decide +kernel
theorem dX11_missAll_16 : decode cX11_missAll 16 = .ok (.getfield 102, 3) := by decide +kernel
theorem dX11_missAll_19 : decode cX11_missAll 19 = .ok (.bipush 7, 2) := by decide +kernel
theorem dX11_missAll_21 : decode cX11_missAll 21 = .ok (.iload 4, 2) := by decide +kernel
theorem dX11_missAll_23 : decode cX11_missAll 23 = .ok (.imul, 1) := by decide +kernel
theorem dX11_missAll_24 : decode cX11_missAll 24 = .ok (.iaload, 1) := by decide +kernel
theorem dX11_missAll_25 : decode cX11_missAll 25 = .ok (.iload_n 1, 1) := by decide +kernel
theorem dX11_missAll_26 : decode cX11_missAll 26 = .ok (.if_icmp .ne 13, 3) := by decide +kernel
theorem dX11_missAll_29 : decode cX11_missAll 29 = .ok (.aload_n 0, 1) := by decide +kernel
theorem dX11_missAll_30 : decode cX11_missAll 30 = .ok (.iload 4, 2) := by decide +kernel
theorem dX11_missAll_32 : decode cX11_missAll 32 = .ok (.iload_n 2, 1) := by decide +kernel
theorem dX11_missAll_33 : decode cX11_missAll 33 = .ok (.invokevirtual 314, 3) := by decide +kernel
theorem dX11_missAll_36 : decode cX11_missAll 36 = .ok (.goto 4, 3) := by decide +kernel
theorem dX11_missAll_39 : decode cX11_missAll 39 = .ok (.iconst 0, 1) := by decide +kernel
theorem dX11_missAll_40 : decode cX11_missAll 40 = .ok (.iadd, 1) := by decide +kernel
theorem dX11_missAll_41 : decode cX11_missAll 41 = .ok (.istore_n 3, 1) := by decide +kernel
theorem dX11_missAll_42 : decode cX11_missAll 42 = .ok (.iinc 4 1, 3) := by decide +kernel
theorem dX11_missAll_45 : decode cX11_missAll 45 = .ok (.goto (-40), 3) := by decide +kernel
theorem dX11_missAll_48 : decode cX11_missAll 48 = .ok (.iload_n 3, 1) := by decide +kernel
theorem dX11_missAll_49 : decode cX11_missAll 49 = .ok (.ireturn, 1) := by decide +kernel
theorem dX11_explained_0 : decode cX11_explained 0 = .ok (.iconst 0, 1) := by decide +kernel
theorem dX11_explained_1 : decode cX11_explained 1 = .ok (.istore_n 2, 1) := by decide +kernel
theorem dX11_explained_2 : decode cX11_explained 2 = .ok (.aload_n 0, 1) := by decide +kernel
theorem dX11_explained_3 : decode cX11_explained 3 = .ok (.iload_n 1, 1) := by decide +kernel
theorem dX11_explained_4 : decode cX11_explained 4 = .ok (.iconst 0, 1) := by decide +kernel
theorem dX11_explained_5 : decode cX11_explained 5 = .ok (.invokevirtual 317, 3) := by decide +kernel
theorem dX11_explained_8 : decode cX11_explained 8 = .ok (.istore_n 3, 1) := by decide +kernel
theorem dX11_explained_9 : decode cX11_explained 9 = .ok (.iconst 1, 1) := by decide +kernel
theorem dX11_explained_10 : decode cX11_explained 10 = .ok (.istore 4, 2) := by decide +kernel
theorem dX11_explained_12 : decode cX11_explained 12 = .ok (.iload 4, 2) := by decide +kernel
theorem dX11_explained_14 : decode cX11_explained 14 = .ok (.bipush 9, 2) := by decide +kernel
theorem dX11_explained_16 : decode cX11_explained 16 = .ok (.if_icmp .gt 81, 3) := by decide +kernel
theorem dX11_explained_19 : decode cX11_explained 19 = .ok (.aload_n 0, 1) := by decide +kernel
theorem dX11_explained_20 : decode cX11_explained 20 = .ok (.iload_n 1, 1) := by decide +kernel
theorem dX11_explained_21 : decode cX11_explained 21 = .ok (.iload 4, 2) := by decide +kernel
theorem dX11_explained_23 : decode cX11_explained 23 = .ok (.ineg, 1) := by decide +kernel
theorem dX11_explained_24 : decode cX11_explained 24 = .ok (.invokevirtual 317, 3) := by decide +kernel
theorem dX11_explained_27 : decode cX11_explained 27 = .ok (.istore 5, 2) := by decide +kernel
theorem dX11_explained_29 : decode cX11_explained 29 = .ok (.iload 5, 2) := by decide +kernel
theorem dX11_explained_31 : decode cX11_explained 31 = .ok (.iload_n 3, 1) := by decide +kernel
theorem dX11_explained_32 : decode cX11_explained 32 = .ok (.if_icmp .ge 9, 3) := by decide +kernel
theorem dX11_explained_35 : decode cX11_explained 35 = .ok (.iload 4, 2) := by decide +kernel
theorem dX11_explained_37 : decode cX11_explained 37 = .ok (.ineg, 1) := by decide +kernel
theorem dX11_explained_38 : decode cX11_explained 38 = .ok (.goto 4, 3) := by decide +kernel
theorem dX11_explained_41 : decode cX11_explained 41 = .ok (.iload_n 2, 1) := by decide +kernel
theorem dX11_explained_42 : decode cX11_explained 42 = .ok (.istore_n 2, 1) := by decide +kernel
theorem dX11_explained_43 : decode cX11_explained 43 = .ok (.iload 5, 2) := by decide +kernel
theorem dX11_explained_45 : decode cX11_explained 45 = .ok (.iload_n 3, 1) := by decide +kernel
theorem dX11_explained_46 : decode cX11_explained 46 = .ok (.if_icmp .ge 8, 3) := by decide +kernel
theorem dX11_explained_49 : decode cX11_explained 49 = .ok (.iload 5, 2) := by decide +kernel
theorem dX11_explained_51 : decode cX11_explained 51 = .ok (.goto 4, 3) := by decide +kernel
theorem dX11_explained_54 : decode cX11_explained 54 = .ok (.iload_n 3, 1) := by decide +kernel
theorem dX11_explained_55 : decode cX11_explained 55 = .ok (.istore_n 3, 1) := by decide +kernel
theorem dX11_explained_56 : decode cX11_explained 56 = .ok (.aload_n 0, 1) := by decide +kernel
theorem dX11_explained_57 : decode cX11_explained 57 = .ok (.iload_n 1, 1) := by decide +kernel
theorem dX11_explained_58 : decode cX11_explained 58 = .ok (.iload 4, 2) := by decide +kernel
theorem dX11_explained_60 : decode cX11_explained 60 = .ok (.invokevirtual 317, 3) := by decide +kernel
theorem dX11_explained_63 : decode cX11_explained 63 = .ok (.istore 6, 2) := by decide +kernel
theorem dX11_explained_65 : decode cX11_explained 65 = .ok (.iload 6, 2) := by decide +kernel
theorem dX11_explained_67 : decode cX11_explained 67 = .ok (.iload_n 3, 1) := by decide +kernel
theorem dX11_explained_68 : decode cX11_explained 68 = .ok (.if_icmp .ge 8, 3) := by decide +kernel
theorem dX11_explained_71 : decode cX11_explained 71 = .ok (.iload 4, 2) := by decide +kernel
theorem dX11_explained_73 : decode cX11_explained 73 = .ok (.goto 4, 3) := by decide +kernel
theorem dX11_explained_76 : decode cX11_explained 76 = .ok (.iload_n 2, 1) := by decide +kernel
theorem dX11_explained_77 : decode cX11_explained 77 = .ok (.istore_n 2, 1) := by decide +kernel
theorem dX11_explained_78 : decode cX11_explained 78 = .ok (.iload 6, 2) := by decide +kernel
theorem dX11_explained_80 : decode cX11_explained 80 = .ok (.iload_n 3, 1) := by decide +kernel
theorem dX11_explained_81 : decode cX11_explained 81 = .ok (.if_icmp .ge 8, 3) := by decide +kernel
theorem dX11_explained_84 : decode cX11_explained 84 = .ok (.iload 6, 2) := by decide +kernel
theorem dX11_explained_86 : decode cX11_explained 86 = .ok (.goto 4, 3) := by decide +kernel
theorem dX11_explained_89 : decode cX11_explained 89 = .ok (.iload_n 3, 1) := by decide +kernel
theorem dX11_explained_90 : decode cX11_explained 90 = .ok (.istore_n 3, 1) := by decide +kernel
theorem dX11_explained_91 : decode cX11_explained 91 = .ok (.iinc 4 1, 3) := by decide +kernel
theorem dX11_explained_94 : decode cX11_explained 94 = .ok (.goto (-82), 3) := by decide +kernel
theorem dX11_explained_97 : decode cX11_explained 97 = .ok (.iload_n 2, 1) := by decide +kernel
theorem dX11_explained_98 : decode cX11_explained 98 = .ok (.ireturn, 1) := by decide +kernel
theorem dX11_explain_0 : decode cX11_explain 0 = .ok (.aload_n 0, 1) := by decide +kernel
theorem dX11_explain_1 : decode cX11_explain 1 = .ok (.iload_n 1, 1) := by decide +kernel
theorem dX11_explain_2 : decode cX11_explain 2 = .ok (.invokevirtual 153, 3) := by decide +kernel
theorem dX11_explain_5 : decode cX11_explain 5 = .ok (.ifCond .ne 6, 3) := by decide +kernel
theorem dX11_explain_8 : decode cX11_explain 8 = .ok (.bipush (-11), 2) := by decide +kernel
theorem dX11_explain_10 : decode cX11_explain 10 = .ok (.ireturn, 1) := by decide +kernel
theorem dX11_explain_11 : decode cX11_explain 11 = .ok (.aload_n 0, 1) := by decide +kernel
theorem dX11_explain_12 : decode cX11_explain 12 = .ok (.iload_n 1, 1) := by decide +kernel
theorem dX11_explain_13 : decode cX11_explain 13 = .ok (.invokevirtual 320, 3) := by decide +kernel
theorem dX11_explain_16 : decode cX11_explain 16 = .ok (.ifCond .ne 8, 3) := by decide +kernel
theorem dX11_explain_19 : decode cX11_explain 19 = .ok (.bipush (-14), 2) := by decide +kernel
theorem dX11_explain_21 : decode cX11_explain 21 = .ok (.goto 8, 3) := by decide +kernel
theorem dX11_explain_24 : decode cX11_explain 24 = .ok (.aload_n 0, 1) := by decide +kernel
theorem dX11_explain_25 : decode cX11_explain 25 = .ok (.iload_n 1, 1) := by decide +kernel
theorem dX11_explain_26 : decode cX11_explain 26 = .ok (.invokevirtual 323, 3) := by decide +kernel
theorem dX11_explain_29 : decode cX11_explain 29 = .ok (.ireturn, 1) := by decide +kernel
theorem dX11_sure_0 : decode cX11_sure 0 = .ok (.aload_n 0, 1) := by decide +kernel
theorem dX11_sure_1 : decode cX11_sure 1 = .ok (.iload_n 1, 1) := by decide +kernel
theorem dX11_sure_2 : decode cX11_sure 2 = .ok (.invokevirtual 153, 3) := by decide +kernel
theorem dX11_sure_5 : decode cX11_sure 5 = .ok (.ifCond .ne 5, 3) := by decide +kernel
theorem dX11_sure_8 : decode cX11_sure 8 = .ok (.iconst (-1), 1) := by decide +kernel
theorem dX11_sure_9 : decode cX11_sure 9 = .ok (.ireturn, 1) := by decide +kernel
theorem dX11_sure_10 : decode cX11_sure 10 = .ok (.aload_n 0, 1) := by decide +kernel
theorem dX11_sure_11 : decode cX11_sure 11 = .ok (.iload_n 1, 1) := by decide +kernel
theorem dX11_sure_12 : decode cX11_sure 12 = .ok (.invokevirtual 320, 3) := by decide +kernel
theorem dX11_sure_15 : decode cX11_sure 15 = .ok (.istore_n 2, 1) := by decide +kernel
theorem dX11_sure_16 : decode cX11_sure 16 = .ok (.iload_n 2, 1) := by decide +kernel
theorem dX11_sure_17 : decode cX11_sure 17 = .ok (.ifCond .ne 6, 3) := by decide +kernel
theorem dX11_sure_20 : decode cX11_sure 20 = .ok (.bipush (-4), 2) := by decide +kernel
theorem dX11_sure_22 : decode cX11_sure 22 = .ok (.ireturn, 1) := by decide +kernel
theorem dX11_sure_23 : decode cX11_sure 23 = .ok (.iload_n 2, 1) := by decide +kernel
theorem dX11_sure_24 : decode cX11_sure 24 = .ok (.iconst 3, 1) := by decide +kernel
theorem dX11_sure_25 : decode cX11_sure 25 = .ok (.if_icmp .lt 28, 3) := by decide +kernel
theorem dX11_sure_28 : decode cX11_sure 28 = .ok (.aload_n 0, 1) := by decide +kernel
theorem dX11_sure_29 : decode cX11_sure 29 = .ok (.iload_n 1, 1) := by decide +kernel
theorem dX11_sure_30 : decode cX11_sure 30 = .ok (.iconst 0, 1) := by decide +kernel
theorem dX11_sure_31 : decode cX11_sure 31 = .ok (.invokevirtual 317, 3) := by decide +kernel
theorem dX11_sure_34 : decode cX11_sure 34 = .ok (.iconst 2, 1) := by decide +kernel
theorem dX11_sure_35 : decode cX11_sure 35 = .ok (.aload_n 0, 1) := by decide +kernel
theorem dX11_sure_36 : decode cX11_sure 36 = .ok (.iload_n 1, 1) := by decide +kernel
theorem dX11_sure_37 : decode cX11_sure 37 = .ok (.aload_n 0, 1) := by decide +kernel
theorem dX11_sure_38 : decode cX11_sure 38 = .ok (.iload_n 1, 1) := by decide +kernel
theorem dX11_sure_39 : decode cX11_sure 39 = .ok (.invokevirtual 323, 3) := by decide +kernel
theorem dX11_sure_42 : decode cX11_sure 42 = .ok (.invokevirtual 317, 3) := by decide +kernel
theorem dX11_sure_45 : decode cX11_sure 45 = .ok (.imul, 1) := by decide +kernel
theorem dX11_sure_46 : decode cX11_sure 46 = .ok (.if_icmp .le 7, 3) := by decide +kernel
theorem dX11_sure_49 : decode cX11_sure 49 = .ok (.iconst 1, 1) := by decide +kernel
theorem dX11_sure_50 : decode cX11_sure 50 = .ok (.goto 4, 3) := by decide +kernel
theorem dX11_sure_53 : decode cX11_sure 53 = .ok (.iconst 0, 1) := by decide +kernel
theorem dX11_sure_54 : decode cX11_sure 54 = .ok (.ireturn, 1) := by decide +kernel
theorem dX11_unrow_0 : decode cX11_unrow 0 = .ok (.aload_n 0, 1) := by decide +kernel
theorem dX11_unrow_1 : decode cX11_unrow 1 = .ok (.getfield 300, 3) := by decide +kernel
theorem dX11_unrow_4 : decode cX11_unrow 4 = .ok (.ifCond .ne 6, 3) := by decide +kernel
theorem dX11_unrow_7 : decode cX11_unrow 7 = .ok (.bipush (-2), 2) := by decide +kernel
theorem dX11_unrow_9 : decode cX11_unrow 9 = .ok (.ireturn, 1) := by decide +kernel
theorem dX11_unrow_10 : decode cX11_unrow 10 = .ok (.aload_n 0, 1) := by decide +kernel
theorem dX11_unrow_11 : decode cX11_unrow 11 = .ok (.dup, 1) := by decide +kernel
theorem dX11_unrow_12 : decode cX11_unrow 12 = .ok (.getfield 300, 3) := by decide +kernel
theorem dX11_unrow_15 : decode cX11_unrow 15 = .ok (.iconst 1, 1) := by decide +kernel
theorem dX11_unrow_16 : decode cX11_unrow 16 = .ok (.isub, 1) := by decide +kernel
theorem dX11_unrow_17 : decode cX11_unrow 17 = .ok (.putfield 300, 3) := by decide +kernel
theorem dX11_unrow_20 : decode cX11_unrow 20 = .ok (.aload_n 0, 1) := by decide +kernel
theorem dX11_unrow_21 : decode cX11_unrow 21 = .ok (.getfield 300, 3) := by decide +kernel
theorem dX11_unrow_24 : decode cX11_unrow 24 = .ok (.ireturn, 1) := by decide +kernel
theorem dX11_column_0 : decode cX11_column 0 = .ok (.iload_n 0, 1) := by decide +kernel
theorem dX11_column_1 : decode cX11_column 1 = .ok (.sipush 1000, 3) := by decide +kernel
theorem dX11_column_4 : decode cX11_column 4 = .ok (.iadd, 1) := by decide +kernel
theorem dX11_column_5 : decode cX11_column 5 = .ok (.istore_n 1, 1) := by decide +kernel
theorem dX11_column_6 : decode cX11_column 6 = .ok (.iload_n 1, 1) := by decide +kernel
theorem dX11_column_7 : decode cX11_column 7 = .ok (.ifCond .ge 7, 3) := by decide +kernel
theorem dX11_column_10 : decode cX11_column 10 = .ok (.iconst 0, 1) := by decide +kernel
theorem dX11_column_11 : decode cX11_column 11 = .ok (.goto 19, 3) := by decide +kernel
theorem dX11_column_14 : decode cX11_column 14 = .ok (.iload_n 1, 1) := by decide +kernel
theorem dX11_column_15 : decode cX11_column 15 = .ok (.sipush 2000, 3) := by decide +kernel
theorem dX11_column_18 : decode cX11_column 18 = .ok (.if_icmp .lt 7, 3) := by decide +kernel
theorem dX11_column_21 : decode cX11_column 21 = .ok (.iconst 4, 1) := by decide +kernel
theorem dX11_column_22 : decode cX11_column 22 = .ok (.goto 8, 3) := by decide +kernel
theorem dX11_column_25 : decode cX11_column 25 = .ok (.iload_n 1, 1) := by decide +kernel
theorem dX11_column_26 : decode cX11_column 26 = .ok (.sipush 400, 3) := by decide +kernel
theorem dX11_column_29 : decode cX11_column 29 = .ok (.idiv, 1) := by decide +kernel
theorem dX11_column_30 : decode cX11_column 30 = .ok (.ireturn, 1) := by decide +kernel
theorem dX11_seen_0 : decode cX11_seen 0 = .ok (.aload_n 0, 1) := by decide +kernel
theorem dX11_seen_1 : decode cX11_seen 1 = .ok (.getfield 240, 3) := by decide +kernel
theorem dX11_seen_4 : decode cX11_seen 4 = .ok (.ifCond .eq 17, 3) := by decide +kernel
theorem dX11_seen_7 : decode cX11_seen 7 = .ok (.iload_n 1, 1) := by decide +kernel
theorem dX11_seen_8 : decode cX11_seen 8 = .ok (.i2l, 1) := by decide +kernel
theorem dX11_seen_9 : decode cX11_seen 9 = .ok (.lconst 0, 1) := by decide +kernel
theorem dX11_seen_10 : decode cX11_seen 10 = .ok (.aload_n 0, 1) := by decide +kernel
theorem dX11_seen_11 : decode cX11_seen 11 = .ok (.getfield 243, 3) := by decide +kernel
theorem dX11_seen_14 : decode cX11_seen 14 = .ok (.i2l, 1) := by decide +kernel
theorem dX11_seen_15 : decode cX11_seen 15 = .ok (.invokestatic 127, 3) := by decide +kernel
theorem dX11_seen_18 : decode cX11_seen 18 = .ok (.ifCond .ne 5, 3) := by decide +kernel
theorem dX11_seen_21 : decode cX11_seen 21 = .ok (.iconst (-1), 1) := by decide +kernel
theorem dX11_seen_22 : decode cX11_seen 22 = .ok (.ireturn, 1) := by decide +kernel
theorem dX11_seen_23 : decode cX11_seen 23 = .ok (.aload_n 0, 1) := by decide +kernel
theorem dX11_seen_24 : decode cX11_seen 24 = .ok (.getfield 66, 3) := by decide +kernel
theorem dX11_seen_27 : decode cX11_seen 27 = .ok (.bipush 8, 2) := by decide +kernel
theorem dX11_seen_29 : decode cX11_seen 29 = .ok (.aload_n 0, 1) := by decide +kernel
theorem dX11_seen_30 : decode cX11_seen 30 = .ok (.getfield 243, 3) := by decide +kernel
theorem dX11_seen_33 : decode cX11_seen 33 = .ok (.imul, 1) := by decide +kernel
theorem dX11_seen_34 : decode cX11_seen 34 = .ok (.iaload, 1) := by decide +kernel
theorem dX11_seen_35 : decode cX11_seen 35 = .ok (.aload_n 0, 1) := by decide +kernel
theorem dX11_seen_36 : decode cX11_seen 36 = .ok (.getfield 66, 3) := by decide +kernel
theorem dX11_seen_39 : decode cX11_seen 39 = .ok (.bipush 8, 2) := by decide +kernel
theorem dX11_seen_41 : decode cX11_seen 41 = .ok (.iload_n 1, 1) := by decide +kernel
theorem dX11_seen_42 : decode cX11_seen 42 = .ok (.imul, 1) := by decide +kernel
theorem dX11_seen_43 : decode cX11_seen 43 = .ok (.iaload, 1) := by decide +kernel
theorem dX11_seen_44 : decode cX11_seen 44 = .ok (.isub, 1) := by decide +kernel
theorem dX11_seen_45 : decode cX11_seen 45 = .ok (.invokestatic 326, 3) := by decide +kernel
theorem dX11_seen_48 : decode cX11_seen 48 = .ok (.istore_n 2, 1) := by decide +kernel
theorem dX11_seen_49 : decode cX11_seen 49 = .ok (.aload_n 0, 1) := by decide +kernel
theorem dX11_seen_50 : decode cX11_seen 50 = .ok (.getfield 66, 3) := by decide +kernel
theorem dX11_seen_53 : decode cX11_seen 53 = .ok (.bipush 8, 2) := by decide +kernel
theorem dX11_seen_55 : decode cX11_seen 55 = .ok (.aload_n 0, 1) := by decide +kernel
theorem dX11_seen_56 : decode cX11_seen 56 = .ok (.getfield 243, 3) := by decide +kernel
theorem dX11_seen_59 : decode cX11_seen 59 = .ok (.imul, 1) := by decide +kernel
theorem dX11_seen_60 : decode cX11_seen 60 = .ok (.iconst 1, 1) := by decide +kernel
theorem dX11_seen_61 : decode cX11_seen 61 = .ok (.iadd, 1) := by decide +kernel
theorem dX11_seen_62 : decode cX11_seen 62 = .ok (.iaload, 1) := by decide +kernel
theorem dX11_seen_63 : decode cX11_seen 63 = .ok (.aload_n 0, 1) := by decide +kernel
theorem dX11_seen_64 : decode cX11_seen 64 = .ok (.getfield 66, 3) := by decide +kernel
theorem dX11_seen_67 : decode cX11_seen 67 = .ok (.bipush 8, 2) := by decide +kernel
theorem dX11_seen_69 : decode cX11_seen 69 = .ok (.iload_n 1, 1) := by decide +kernel
theorem dX11_seen_70 : decode cX11_seen 70 = .ok (.imul, 1) := by decide +kernel
theorem dX11_seen_71 : decode cX11_seen 71 = .ok (.iconst 1, 1) := by decide +kernel
theorem dX11_seen_72 : decode cX11_seen 72 = .ok (.iadd, 1) := by decide +kernel
theorem dX11_seen_73 : decode cX11_seen 73 = .ok (.iaload, 1) := by decide +kernel
theorem dX11_seen_74 : decode cX11_seen 74 = .ok (.isub, 1) := by decide +kernel
theorem dX11_seen_75 : decode cX11_seen 75 = .ok (.invokestatic 326, 3) := by decide +kernel
theorem dX11_seen_78 : decode cX11_seen 78 = .ok (.istore_n 3, 1) := by decide +kernel
theorem dX11_seen_79 : decode cX11_seen 79 = .ok (.iconst 0, 1) := by decide +kernel
theorem dX11_seen_80 : decode cX11_seen 80 = .ok (.istore 4, 2) := by decide +kernel
theorem dX11_seen_82 : decode cX11_seen 82 = .ok (.iload 4, 2) := by decide +kernel
theorem dX11_seen_84 : decode cX11_seen 84 = .ok (.bipush 25, 2) := by decide +kernel
theorem dX11_seen_86 : decode cX11_seen 86 = .ok (.if_icmp .ge 41, 3) := by decide +kernel
theorem dX11_seen_89 : decode cX11_seen 89 = .ok (.aload_n 0, 1) := by decide +kernel
theorem dX11_seen_90 : decode cX11_seen 90 = .ok (.getfield 105, 3) := by decide +kernel
theorem dX11_seen_93 : decode cX11_seen 93 = .ok (.iload 4, 2) := by decide +kernel
theorem dX11_seen_95 : decode cX11_seen 95 = .ok (.sipush 1000, 3) := by decide +kernel
theorem dX11_seen_98 : decode cX11_seen 98 = .ok (.iconst 1, 1) := by decide +kernel
theorem dX11_seen_99 : decode cX11_seen 99 = .ok (.iload 4, 2) := by decide +kernel
theorem dX11_seen_101 : decode cX11_seen 101 = .ok (.iconst 5, 1) := by decide +kernel
theorem dX11_seen_102 : decode cX11_seen 102 = .ok (.irem, 1) := by decide +kernel
theorem dX11_seen_103 : decode cX11_seen 103 = .ok (.iload_n 2, 1) := by decide +kernel
theorem dX11_seen_104 : decode cX11_seen 104 = .ok (.isub, 1) := by decide +kernel
theorem dX11_seen_105 : decode cX11_seen 105 = .ok (.invokestatic 311, 3) := by decide +kernel
theorem dX11_seen_108 : decode cX11_seen 108 = .ok (.iadd, 1) := by decide +kernel
theorem dX11_seen_109 : decode cX11_seen 109 = .ok (.iload 4, 2) := by decide +kernel
theorem dX11_seen_111 : decode cX11_seen 111 = .ok (.iconst 5, 1) := by decide +kernel
theorem dX11_seen_112 : decode cX11_seen 112 = .ok (.idiv, 1) := by decide +kernel
theorem dX11_seen_113 : decode cX11_seen 113 = .ok (.iload_n 3, 1) := by decide +kernel
theorem dX11_seen_114 : decode cX11_seen 114 = .ok (.isub, 1) := by decide +kernel
theorem dX11_seen_115 : decode cX11_seen 115 = .ok (.invokestatic 311, 3) := by decide +kernel
theorem dX11_seen_118 : decode cX11_seen 118 = .ok (.iadd, 1) := by decide +kernel
theorem dX11_seen_119 : decode cX11_seen 119 = .ok (.idiv, 1) := by decide +kernel
theorem dX11_seen_120 : decode cX11_seen 120 = .ok (.iastore, 1) := by decide +kernel
theorem dX11_seen_121 : decode cX11_seen 121 = .ok (.iinc 4 1, 3) := by decide +kernel
theorem dX11_seen_124 : decode cX11_seen 124 = .ok (.goto (-42), 3) := by decide +kernel
theorem dX11_seen_127 : decode cX11_seen 127 = .ok (.iconst 5, 1) := by decide +kernel
theorem dX11_seen_128 : decode cX11_seen 128 = .ok (.iload_n 3, 1) := by decide +kernel
theorem dX11_seen_129 : decode cX11_seen 129 = .ok (.imul, 1) := by decide +kernel
theorem dX11_seen_130 : decode cX11_seen 130 = .ok (.iload_n 2, 1) := by decide +kernel
theorem dX11_seen_131 : decode cX11_seen 131 = .ok (.iadd, 1) := by decide +kernel
theorem dX11_seen_132 : decode cX11_seen 132 = .ok (.ireturn, 1) := by decide +kernel
theorem dX11_isPatch_0 : decode cX11_isPatch 0 = .ok (.iload_n 0, 1) := by decide +kernel
theorem dX11_isPatch_1 : decode cX11_isPatch 1 = .ok (.i2l, 1) := by decide +kernel
theorem dX11_isPatch_2 : decode cX11_isPatch 2 = .ok (.lconst 0, 1) := by decide +kernel
theorem dX11_isPatch_3 : decode cX11_isPatch 3 = .ok (.ldc2_w 329, 3) := by decide +kernel
theorem dX11_isPatch_6 : decode cX11_isPatch 6 = .ok (.invokestatic 127, 3) := by decide +kernel
theorem dX11_isPatch_9 : decode cX11_isPatch 9 = .ok (.ireturn, 1) := by decide +kernel
theorem dX11_patch_0 : decode cX11_patch 0 = .ok (.iload_n 1, 1) := by decide +kernel
theorem dX11_patch_1 : decode cX11_patch 1 = .ok (.invokestatic 331, 3) := by decide +kernel
theorem dX11_patch_4 : decode cX11_patch 4 = .ok (.ifCond .eq 27, 3) := by decide +kernel
theorem dX11_patch_7 : decode cX11_patch 7 = .ok (.iload_n 2, 1) := by decide +kernel
theorem dX11_patch_8 : decode cX11_patch 8 = .ok (.i2l, 1) := by decide +kernel
theorem dX11_patch_9 : decode cX11_patch 9 = .ok (.lconst 0, 1) := by decide +kernel
theorem dX11_patch_10 : decode cX11_patch 10 = .ok (.ldc2_w 227, 3) := by decide +kernel
theorem dX11_patch_13 : decode cX11_patch 13 = .ok (.invokestatic 127, 3) := by decide +kernel
theorem dX11_patch_16 : decode cX11_patch 16 = .ok (.ifCond .eq 15, 3) := by decide +kernel
theorem dX11_patch_19 : decode cX11_patch 19 = .ok (.iload_n 3, 1) := by decide +kernel
theorem dX11_patch_20 : decode cX11_patch 20 = .ok (.i2l, 1) := by decide +kernel
theorem dX11_patch_21 : decode cX11_patch 21 = .ok (.lconst 1, 1) := by decide +kernel
theorem dX11_patch_22 : decode cX11_patch 22 = .ok (.ldc2_w 163, 3) := by decide +kernel
theorem dX11_patch_25 : decode cX11_patch 25 = .ok (.invokestatic 127, 3) := by decide +kernel
theorem dX11_patch_28 : decode cX11_patch 28 = .ok (.ifCond .ne 5, 3) := by decide +kernel
theorem dX11_patch_31 : decode cX11_patch 31 = .ok (.iconst (-1), 1) := by decide +kernel
theorem dX11_patch_32 : decode cX11_patch 32 = .ok (.ireturn, 1) := by decide +kernel
theorem dX11_patch_33 : decode cX11_patch 33 = .ok (.aload_n 0, 1) := by decide +kernel
theorem dX11_patch_34 : decode cX11_patch 34 = .ok (.getfield 105, 3) := by decide +kernel
theorem dX11_patch_37 : decode cX11_patch 37 = .ok (.iload_n 1, 1) := by decide +kernel
theorem dX11_patch_38 : decode cX11_patch 38 = .ok (.iaload, 1) := by decide +kernel
theorem dX11_patch_39 : decode cX11_patch 39 = .ok (.istore 4, 2) := by decide +kernel
theorem dX11_patch_41 : decode cX11_patch 41 = .ok (.aload_n 0, 1) := by decide +kernel
theorem dX11_patch_42 : decode cX11_patch 42 = .ok (.getfield 105, 3) := by decide +kernel
theorem dX11_patch_45 : decode cX11_patch 45 = .ok (.iload_n 1, 1) := by decide +kernel
theorem dX11_patch_46 : decode cX11_patch 46 = .ok (.iload_n 2, 1) := by decide +kernel
theorem dX11_patch_47 : decode cX11_patch 47 = .ok (.iastore, 1) := by decide +kernel
theorem dX11_patch_48 : decode cX11_patch 48 = .ok (.aload_n 0, 1) := by decide +kernel
theorem dX11_patch_49 : decode cX11_patch 49 = .ok (.getfield 108, 3) := by decide +kernel
theorem dX11_patch_52 : decode cX11_patch 52 = .ok (.iload_n 1, 1) := by decide +kernel
theorem dX11_patch_53 : decode cX11_patch 53 = .ok (.iload_n 3, 1) := by decide +kernel
theorem dX11_patch_54 : decode cX11_patch 54 = .ok (.iastore, 1) := by decide +kernel
theorem dX11_patch_55 : decode cX11_patch 55 = .ok (.iload 4, 2) := by decide +kernel
theorem dX11_patch_57 : decode cX11_patch 57 = .ok (.ireturn, 1) := by decide +kernel
theorem dX11_grass_0 : decode cX11_grass 0 = .ok (.iload_n 1, 1) := by decide +kernel
theorem dX11_grass_1 : decode cX11_grass 1 = .ok (.invokestatic 331, 3) := by decide +kernel
theorem dX11_grass_4 : decode cX11_grass 4 = .ok (.ifCond .eq 13, 3) := by decide +kernel
theorem dX11_grass_7 : decode cX11_grass 7 = .ok (.iload_n 2, 1) := by decide +kernel
theorem dX11_grass_8 : decode cX11_grass 8 = .ok (.i2l, 1) := by decide +kernel
theorem dX11_grass_9 : decode cX11_grass 9 = .ok (.lconst 0, 1) := by decide +kernel
theorem dX11_grass_10 : decode cX11_grass 10 = .ok (.lconst 1, 1) := by decide +kernel
theorem dX11_grass_11 : decode cX11_grass 11 = .ok (.invokestatic 127, 3) := by decide +kernel
theorem dX11_grass_14 : decode cX11_grass 14 = .ok (.ifCond .ne 5, 3) := by decide +kernel
theorem dX11_grass_17 : decode cX11_grass 17 = .ok (.iconst (-1), 1) := by decide +kernel
theorem dX11_grass_18 : decode cX11_grass 18 = .ok (.ireturn, 1) := by decide +kernel
theorem dX11_grass_19 : decode cX11_grass 19 = .ok (.iload_n 2, 1) := by decide +kernel
theorem dX11_grass_20 : decode cX11_grass 20 = .ok (.ifCond .ne 12, 3) := by decide +kernel
theorem dX11_grass_23 : decode cX11_grass 23 = .ok (.aload_n 0, 1) := by decide +kernel
theorem dX11_grass_24 : decode cX11_grass 24 = .ok (.getfield 105, 3) := by decide +kernel
theorem dX11_grass_27 : decode cX11_grass 27 = .ok (.iload_n 1, 1) := by decide +kernel
theorem dX11_grass_28 : decode cX11_grass 28 = .ok (.iaload, 1) := by decide +kernel
theorem dX11_grass_29 : decode cX11_grass 29 = .ok (.goto 9, 3) := by decide +kernel
theorem dX11_grass_32 : decode cX11_grass 32 = .ok (.aload_n 0, 1) := by decide +kernel
theorem dX11_grass_33 : decode cX11_grass 33 = .ok (.getfield 108, 3) := by decide +kernel
theorem dX11_grass_36 : decode cX11_grass 36 = .ok (.iload_n 1, 1) := by decide +kernel
theorem dX11_grass_37 : decode cX11_grass 37 = .ok (.iaload, 1) := by decide +kernel
theorem dX11_grass_38 : decode cX11_grass 38 = .ok (.ireturn, 1) := by decide +kernel
theorem dX11_next_0 : decode cX11_next 0 = .ok (.bipush (-4), 2) := by decide +kernel
theorem dX11_next_2 : decode cX11_next 2 = .ok (.istore_n 1, 1) := by decide +kernel
theorem dX11_next_3 : decode cX11_next 3 = .ok (.iconst 0, 1) := by decide +kernel
theorem dX11_next_4 : decode cX11_next 4 = .ok (.istore_n 2, 1) := by decide +kernel
theorem dX11_next_5 : decode cX11_next 5 = .ok (.iconst 0, 1) := by decide +kernel
theorem dX11_next_6 : decode cX11_next 6 = .ok (.istore_n 3, 1) := by decide +kernel
theorem dX11_next_7 : decode cX11_next 7 = .ok (.iload_n 3, 1) := by decide +kernel
theorem dX11_next_8 : decode cX11_next 8 = .ok (.bipush 25, 2) := by decide +kernel
theorem dX11_next_10 : decode cX11_next 10 = .ok (.if_icmp .ge 49, 3) := by decide +kernel
theorem dX11_next_13 : decode cX11_next 13 = .ok (.aload_n 0, 1) := by decide +kernel
theorem dX11_next_14 : decode cX11_next 14 = .ok (.getfield 105, 3) := by decide +kernel
theorem dX11_next_17 : decode cX11_next 17 = .ok (.iload_n 3, 1) := by decide +kernel
theorem dX11_next_18 : decode cX11_next 18 = .ok (.iaload, 1) := by decide +kernel
theorem dX11_next_19 : decode cX11_next 19 = .ok (.aload_n 0, 1) := by decide +kernel
theorem dX11_next_20 : decode cX11_next 20 = .ok (.getfield 108, 3) := by decide +kernel
theorem dX11_next_23 : decode cX11_next 23 = .ok (.iload_n 3, 1) := by decide +kernel
theorem dX11_next_24 : decode cX11_next 24 = .ok (.iaload, 1) := by decide +kernel
theorem dX11_next_25 : decode cX11_next 25 = .ok (.imul, 1) := by decide +kernel
theorem dX11_next_26 : decode cX11_next 26 = .ok (.istore 4, 2) := by decide +kernel
theorem dX11_next_28 : decode cX11_next 28 = .ok (.iload 4, 2) := by decide +kernel
theorem dX11_next_30 : decode cX11_next 30 = .ok (.iload_n 2, 1) := by decide +kernel
theorem dX11_next_31 : decode cX11_next 31 = .ok (.if_icmp .le 7, 3) := by decide +kernel
theorem dX11_next_34 : decode cX11_next 34 = .ok (.iload_n 3, 1) := by decide +kernel
theorem dX11_next_35 : decode cX11_next 35 = .ok (.goto 4, 3) := by decide +kernel
theorem dX11_next_38 : decode cX11_next 38 = .ok (.iload_n 1, 1) := by decide +kernel
theorem dX11_next_39 : decode cX11_next 39 = .ok (.istore_n 1, 1) := by decide +kernel
theorem dX11_next_40 : decode cX11_next 40 = .ok (.iload 4, 2) := by decide +kernel
theorem dX11_next_42 : decode cX11_next 42 = .ok (.iload_n 2, 1) := by decide +kernel
theorem dX11_next_43 : decode cX11_next 43 = .ok (.if_icmp .le 8, 3) := by decide +kernel
theorem dX11_next_46 : decode cX11_next 46 = .ok (.iload 4, 2) := by decide +kernel
theorem dX11_next_48 : decode cX11_next 48 = .ok (.goto 4, 3) := by decide +kernel
theorem dX11_next_51 : decode cX11_next 51 = .ok (.iload_n 2, 1) := by decide +kernel
theorem dX11_next_52 : decode cX11_next 52 = .ok (.istore_n 2, 1) := by decide +kernel
theorem dX11_next_53 : decode cX11_next 53 = .ok (.iinc 3 1, 3) := by decide +kernel
theorem dX11_next_56 : decode cX11_next 56 = .ok (.goto (-49), 3) := by decide +kernel
theorem dX11_next_59 : decode cX11_next 59 = .ok (.iload_n 1, 1) := by decide +kernel
theorem dX11_next_60 : decode cX11_next 60 = .ok (.ireturn, 1) := by decide +kernel
theorem dX11_search_0 : decode cX11_search 0 = .ok (.iload_n 1, 1) := by decide +kernel
theorem dX11_search_1 : decode cX11_search 1 = .ok (.invokestatic 331, 3) := by decide +kernel
theorem dX11_search_4 : decode cX11_search 4 = .ok (.ifCond .ne 5, 3) := by decide +kernel
theorem dX11_search_7 : decode cX11_search 7 = .ok (.iconst (-1), 1) := by decide +kernel
theorem dX11_search_8 : decode cX11_search 8 = .ok (.ireturn, 1) := by decide +kernel
theorem dX11_search_9 : decode cX11_search 9 = .ok (.aload_n 0, 1) := by decide +kernel
theorem dX11_search_10 : decode cX11_search 10 = .ok (.getfield 105, 3) := by decide +kernel
theorem dX11_search_13 : decode cX11_search 13 = .ok (.iload_n 1, 1) := by decide +kernel
theorem dX11_search_14 : decode cX11_search 14 = .ok (.bipush 10, 2) := by decide +kernel
theorem dX11_search_16 : decode cX11_search 16 = .ok (.aload_n 0, 1) := by decide +kernel
theorem dX11_search_17 : decode cX11_search 17 = .ok (.getfield 108, 3) := by decide +kernel
theorem dX11_search_20 : decode cX11_search 20 = .ok (.iload_n 1, 1) := by decide +kernel
theorem dX11_search_21 : decode cX11_search 21 = .ok (.iaload, 1) := by decide +kernel
theorem dX11_search_22 : decode cX11_search 22 = .ok (.isub, 1) := by decide +kernel
theorem dX11_search_23 : decode cX11_search 23 = .ok (.aload_n 0, 1) := by decide +kernel
theorem dX11_search_24 : decode cX11_search 24 = .ok (.getfield 105, 3) := by decide +kernel
theorem dX11_search_27 : decode cX11_search 27 = .ok (.iload_n 1, 1) := by decide +kernel
theorem dX11_search_28 : decode cX11_search 28 = .ok (.iaload, 1) := by decide +kernel
theorem dX11_search_29 : decode cX11_search 29 = .ok (.imul, 1) := by decide +kernel
theorem dX11_search_30 : decode cX11_search 30 = .ok (.bipush 10, 2) := by decide +kernel
theorem dX11_search_32 : decode cX11_search 32 = .ok (.idiv, 1) := by decide +kernel
theorem dX11_search_33 : decode cX11_search 33 = .ok (.iastore, 1) := by decide +kernel
theorem dX11_search_34 : decode cX11_search 34 = .ok (.aload_n 0, 1) := by decide +kernel
theorem dX11_search_35 : decode cX11_search 35 = .ok (.getfield 105, 3) := by decide +kernel
theorem dX11_search_38 : decode cX11_search 38 = .ok (.iload_n 1, 1) := by decide +kernel
theorem dX11_search_39 : decode cX11_search 39 = .ok (.iaload, 1) := by decide +kernel
theorem dX11_search_40 : decode cX11_search 40 = .ok (.ireturn, 1) := by decide +kernel
theorem dX11_count_0 : decode cX11_count 0 = .ok (.iconst 0, 1) := by decide +kernel
theorem dX11_count_1 : decode cX11_count 1 = .ok (.istore_n 2, 1) := by decide +kernel
theorem dX11_count_2 : decode cX11_count 2 = .ok (.iconst 0, 1) := by decide +kernel
theorem dX11_count_3 : decode cX11_count 3 = .ok (.istore_n 3, 1) := by decide +kernel
theorem dX11_count_4 : decode cX11_count 4 = .ok (.iload_n 3, 1) := by decide +kernel
theorem dX11_count_5 : decode cX11_count 5 = .ok (.iconst 5, 1) := by decide +kernel
theorem dX11_count_6 : decode cX11_count 6 = .ok (.if_icmp .ge 27, 3) := by decide +kernel
theorem dX11_count_9 : decode cX11_count 9 = .ok (.iload_n 2, 1) := by decide +kernel
theorem dX11_count_10 : decode cX11_count 10 = .ok (.aload_n 0, 1) := by decide +kernel
theorem dX11_count_11 : decode cX11_count 11 = .ok (.getfield 78, 3) := by decide +kernel
theorem dX11_count_14 : decode cX11_count 14 = .ok (.iload_n 3, 1) := by decide +kernel
theorem dX11_count_15 : decode cX11_count 15 = .ok (.iaload, 1) := by decide +kernel
theorem dX11_count_16 : decode cX11_count 16 = .ok (.iconst (-1), 1) := by decide +kernel
theorem dX11_count_17 : decode cX11_count 17 = .ok (.if_icmp .lt 7, 3) := by decide +kernel
theorem dX11_count_20 : decode cX11_count 20 = .ok (.iconst 1, 1) := by decide +kernel
theorem dX11_count_21 : decode cX11_count 21 = .ok (.goto 4, 3) := by decide +kernel
theorem dX11_count_24 : decode cX11_count 24 = .ok (.iconst 0, 1) := by decide +kernel
theorem dX11_count_25 : decode cX11_count 25 = .ok (.iadd, 1) := by decide +kernel
theorem dX11_count_26 : decode cX11_count 26 = .ok (.istore_n 2, 1) := by decide +kernel
theorem dX11_count_27 : decode cX11_count 27 = .ok (.iinc 3 1, 3) := by decide +kernel
theorem dX11_count_30 : decode cX11_count 30 = .ok (.goto (-26), 3) := by decide +kernel
theorem dX11_count_33 : decode cX11_count 33 = .ok (.iload_n 1, 1) := by decide +kernel
theorem dX11_count_34 : decode cX11_count 34 = .ok (.tableswitch 65 0 5 #[38, 43, 48, 53, 58, 63], 38) := by decide +kernel
theorem dX11_count_72 : decode cX11_count 72 = .ok (.aload_n 0, 1) := by decide +kernel
theorem dX11_count_73 : decode cX11_count 73 = .ok (.getfield 144, 3) := by decide +kernel
theorem dX11_count_76 : decode cX11_count 76 = .ok (.ireturn, 1) := by decide +kernel
theorem dX11_count_77 : decode cX11_count 77 = .ok (.aload_n 0, 1) := by decide +kernel
theorem dX11_count_78 : decode cX11_count 78 = .ok (.invokevirtual 283, 3) := by decide +kernel
theorem dX11_count_81 : decode cX11_count 81 = .ok (.ireturn, 1) := by decide +kernel
theorem dX11_count_82 : decode cX11_count 82 = .ok (.aload_n 0, 1) := by decide +kernel
theorem dX11_count_83 : decode cX11_count 83 = .ok (.getfield 165, 3) := by decide +kernel
theorem dX11_count_86 : decode cX11_count 86 = .ok (.ireturn, 1) := by decide +kernel
theorem dX11_count_87 : decode cX11_count 87 = .ok (.aload_n 0, 1) := by decide +kernel
theorem dX11_count_88 : decode cX11_count 88 = .ok (.getfield 180, 3) := by decide +kernel
theorem dX11_count_91 : decode cX11_count 91 = .ok (.ireturn, 1) := by decide +kernel
theorem dX11_count_92 : decode cX11_count 92 = .ok (.aload_n 0, 1) := by decide +kernel
theorem dX11_count_93 : decode cX11_count 93 = .ok (.getfield 300, 3) := by decide +kernel
theorem dX11_count_96 : decode cX11_count 96 = .ok (.ireturn, 1) := by decide +kernel
theorem dX11_count_97 : decode cX11_count 97 = .ok (.iload_n 2, 1) := by decide +kernel
theorem dX11_count_98 : decode cX11_count 98 = .ok (.ireturn, 1) := by decide +kernel
theorem dX11_count_99 : decode cX11_count 99 = .ok (.iconst (-1), 1) := by decide +kernel
theorem dX11_count_100 : decode cX11_count 100 = .ok (.ireturn, 1) := by decide +kernel
theorem dX11_isSheet_0 : decode cX11_isSheet 0 = .ok (.iload_n 0, 1) := by decide +kernel
theorem dX11_isSheet_1 : decode cX11_isSheet 1 = .ok (.i2l, 1) := by decide +kernel
theorem dX11_isSheet_2 : decode cX11_isSheet 2 = .ok (.lconst 0, 1) := by decide +kernel
theorem dX11_isSheet_3 : decode cX11_isSheet 3 = .ok (.ldc2_w 157, 3) := by decide +kernel
theorem dX11_isSheet_6 : decode cX11_isSheet 6 = .ok (.invokestatic 127, 3) := by decide +kernel
theorem dX11_isSheet_9 : decode cX11_isSheet 9 = .ok (.ireturn, 1) := by decide +kernel
theorem dX11_isLane_0 : decode cX11_isLane 0 = .ok (.iload_n 0, 1) := by decide +kernel
theorem dX11_isLane_1 : decode cX11_isLane 1 = .ok (.i2l, 1) := by decide +kernel
theorem dX11_isLane_2 : decode cX11_isLane 2 = .ok (.lconst 0, 1) := by decide +kernel
theorem dX11_isLane_3 : decode cX11_isLane 3 = .ok (.ldc2_w 267, 3) := by decide +kernel
theorem dX11_isLane_6 : decode cX11_isLane 6 = .ok (.invokestatic 127, 3) := by decide +kernel
theorem dX11_isLane_9 : decode cX11_isLane 9 = .ok (.ireturn, 1) := by decide +kernel
theorem dX11_sheet_0 : decode cX11_sheet 0 = .ok (.iload_n 1, 1) := by decide +kernel
theorem dX11_sheet_1 : decode cX11_sheet 1 = .ok (.invokestatic 334, 3) := by decide +kernel
theorem dX11_sheet_4 : decode cX11_sheet 4 = .ok (.ifCond .eq 16, 3) := by decide +kernel
theorem dX11_sheet_7 : decode cX11_sheet 7 = .ok (.iload_n 2, 1) := by decide +kernel
theorem dX11_sheet_8 : decode cX11_sheet 8 = .ok (.invokestatic 337, 3) := by decide +kernel
theorem dX11_sheet_11 : decode cX11_sheet 11 = .ok (.ifCond .eq 9, 3) := by decide +kernel
theorem dX11_sheet_14 : decode cX11_sheet 14 = .ok (.iload_n 3, 1) := by decide +kernel
theorem dX11_sheet_15 : decode cX11_sheet 15 = .ok (.bipush 60, 2) := by decide +kernel
theorem dX11_sheet_17 : decode cX11_sheet 17 = .ok (.if_icmp .le 5, 3) := by decide +kernel
theorem dX11_sheet_20 : decode cX11_sheet 20 = .ok (.iconst (-1), 1) := by decide +kernel
theorem dX11_sheet_21 : decode cX11_sheet 21 = .ok (.ireturn, 1) := by decide +kernel
theorem dX11_sheet_22 : decode cX11_sheet 22 = .ok (.iload_n 3, 1) := by decide +kernel
theorem dX11_sheet_23 : decode cX11_sheet 23 = .ok (.ifCond .ge 6, 3) := by decide +kernel
theorem dX11_sheet_26 : decode cX11_sheet 26 = .ok (.bipush (-14), 2) := by decide +kernel
theorem dX11_sheet_28 : decode cX11_sheet 28 = .ok (.ireturn, 1) := by decide +kernel
theorem dX11_sheet_29 : decode cX11_sheet 29 = .ok (.aload_n 0, 1) := by decide +kernel
theorem dX11_sheet_30 : decode cX11_sheet 30 = .ok (.getfield 111, 3) := by decide +kernel
theorem dX11_sheet_33 : decode cX11_sheet 33 = .ok (.iload_n 1, 1) := by decide +kernel
theorem dX11_sheet_34 : decode cX11_sheet 34 = .ok (.iload_n 2, 1) := by decide +kernel
theorem dX11_sheet_35 : decode cX11_sheet 35 = .ok (.iastore, 1) := by decide +kernel
theorem dX11_sheet_36 : decode cX11_sheet 36 = .ok (.aload_n 0, 1) := by decide +kernel
theorem dX11_sheet_37 : decode cX11_sheet 37 = .ok (.getfield 114, 3) := by decide +kernel
theorem dX11_sheet_40 : decode cX11_sheet 40 = .ok (.iload_n 1, 1) := by decide +kernel
theorem dX11_sheet_41 : decode cX11_sheet 41 = .ok (.iload_n 3, 1) := by decide +kernel
theorem dX11_sheet_42 : decode cX11_sheet 42 = .ok (.iastore, 1) := by decide +kernel
theorem dX11_sheet_43 : decode cX11_sheet 43 = .ok (.iconst 0, 1) := by decide +kernel
theorem dX11_sheet_44 : decode cX11_sheet 44 = .ok (.istore 4, 2) := by decide +kernel
theorem dX11_sheet_46 : decode cX11_sheet 46 = .ok (.iload 4, 2) := by decide +kernel
theorem dX11_sheet_48 : decode cX11_sheet 48 = .ok (.bipush 60, 2) := by decide +kernel
theorem dX11_sheet_50 : decode cX11_sheet 50 = .ok (.if_icmp .ge 22, 3) := by decide +kernel
theorem dX11_sheet_53 : decode cX11_sheet 53 = .ok (.aload_n 0, 1) := by decide +kernel
theorem dX11_sheet_54 : decode cX11_sheet 54 = .ok (.getfield 117, 3) := by decide +kernel
theorem dX11_sheet_57 : decode cX11_sheet 57 = .ok (.bipush 60, 2) := by decide +kernel
theorem dX11_sheet_59 : decode cX11_sheet 59 = .ok (.iload_n 1, 1) := by decide +kernel
theorem dX11_sheet_60 : decode cX11_sheet 60 = .ok (.imul, 1) := by decide +kernel
theorem dX11_sheet_61 : decode cX11_sheet 61 = .ok (.iload 4, 2) := by decide +kernel
theorem dX11_sheet_63 : decode cX11_sheet 63 = .ok (.iadd, 1) := by decide +kernel
theorem dX11_sheet_64 : decode cX11_sheet 64 = .ok (.iconst 0, 1) := by decide +kernel
theorem dX11_sheet_65 : decode cX11_sheet 65 = .ok (.iastore, 1) := by decide +kernel
theorem dX11_sheet_66 : decode cX11_sheet 66 = .ok (.iinc 4 1, 3) := by decide +kernel
theorem dX11_sheet_69 : decode cX11_sheet 69 = .ok (.goto (-23), 3) := by decide +kernel
theorem dX11_sheet_72 : decode cX11_sheet 72 = .ok (.iload_n 3, 1) := by decide +kernel
theorem dX11_sheet_73 : decode cX11_sheet 73 = .ok (.ireturn, 1) := by decide +kernel
theorem dX11_drop_0 : decode cX11_drop 0 = .ok (.iload_n 1, 1) := by decide +kernel
theorem dX11_drop_1 : decode cX11_drop 1 = .ok (.invokestatic 334, 3) := by decide +kernel
theorem dX11_drop_4 : decode cX11_drop 4 = .ok (.ifCond .ne 5, 3) := by decide +kernel
theorem dX11_drop_7 : decode cX11_drop 7 = .ok (.iconst (-1), 1) := by decide +kernel
theorem dX11_drop_8 : decode cX11_drop 8 = .ok (.ireturn, 1) := by decide +kernel
theorem dX11_drop_9 : decode cX11_drop 9 = .ok (.aload_n 0, 1) := by decide +kernel
theorem dX11_drop_10 : decode cX11_drop 10 = .ok (.getfield 111, 3) := by decide +kernel
theorem dX11_drop_13 : decode cX11_drop 13 = .ok (.iload_n 1, 1) := by decide +kernel
theorem dX11_drop_14 : decode cX11_drop 14 = .ok (.iaload, 1) := by decide +kernel
theorem dX11_drop_15 : decode cX11_drop 15 = .ok (.ifCond .ge 6, 3) := by decide +kernel
theorem dX11_drop_18 : decode cX11_drop 18 = .ok (.bipush (-11), 2) := by decide +kernel
theorem dX11_drop_20 : decode cX11_drop 20 = .ok (.ireturn, 1) := by decide +kernel
theorem dX11_drop_21 : decode cX11_drop 21 = .ok (.aload_n 0, 1) := by decide +kernel
theorem dX11_drop_22 : decode cX11_drop 22 = .ok (.getfield 111, 3) := by decide +kernel
theorem dX11_drop_25 : decode cX11_drop 25 = .ok (.iload_n 1, 1) := by decide +kernel
theorem dX11_drop_26 : decode cX11_drop 26 = .ok (.iconst (-1), 1) := by decide +kernel
theorem dX11_drop_27 : decode cX11_drop 27 = .ok (.iastore, 1) := by decide +kernel
theorem dX11_drop_28 : decode cX11_drop 28 = .ok (.aload_n 0, 1) := by decide +kernel
theorem dX11_drop_29 : decode cX11_drop 29 = .ok (.getfield 114, 3) := by decide +kernel
theorem dX11_drop_32 : decode cX11_drop 32 = .ok (.iload_n 1, 1) := by decide +kernel
theorem dX11_drop_33 : decode cX11_drop 33 = .ok (.iaload, 1) := by decide +kernel
theorem dX11_drop_34 : decode cX11_drop 34 = .ok (.ireturn, 1) := by decide +kernel
theorem dX11_finds_0 : decode cX11_finds 0 = .ok (.aload_n 0, 1) := by decide +kernel
theorem dX11_finds_1 : decode cX11_finds 1 = .ok (.getfield 111, 3) := by decide +kernel
theorem dX11_finds_4 : decode cX11_finds 4 = .ok (.iload_n 1, 1) := by decide +kernel
theorem dX11_finds_5 : decode cX11_finds 5 = .ok (.iaload, 1) := by decide +kernel
theorem dX11_finds_6 : decode cX11_finds 6 = .ok (.ifCond .ge 6, 3) := by decide +kernel
theorem dX11_finds_9 : decode cX11_finds 9 = .ok (.bipush (-11), 2) := by decide +kernel
theorem dX11_finds_11 : decode cX11_finds 11 = .ok (.ireturn, 1) := by decide +kernel
theorem dX11_finds_12 : decode cX11_finds 12 = .ok (.aload_n 0, 1) := by decide +kernel
theorem dX11_finds_13 : decode cX11_finds 13 = .ok (.getfield 111, 3) := by decide +kernel
theorem dX11_finds_16 : decode cX11_finds 16 = .ok (.iload_n 1, 1) := by decide +kernel
theorem dX11_finds_17 : decode cX11_finds 17 = .ok (.iaload, 1) := by decide +kernel
theorem dX11_finds_18 : decode cX11_finds 18 = .ok (.iload_n 2, 1) := by decide +kernel
theorem dX11_finds_19 : decode cX11_finds 19 = .ok (.if_icmp .eq 6, 3) := by decide +kernel
theorem dX11_finds_22 : decode cX11_finds 22 = .ok (.bipush (-12), 2) := by decide +kernel
theorem dX11_finds_24 : decode cX11_finds 24 = .ok (.ireturn, 1) := by decide +kernel
theorem dX11_finds_25 : decode cX11_finds 25 = .ok (.iload_n 3, 1) := by decide +kernel
theorem dX11_finds_26 : decode cX11_finds 26 = .ok (.ifCond .lt 20, 3) := by decide +kernel
theorem dX11_finds_29 : decode cX11_finds 29 = .ok (.iload_n 3, 1) := by decide +kernel
theorem dX11_finds_30 : decode cX11_finds 30 = .ok (.i2l, 1) := by decide +kernel
theorem dX11_finds_31 : decode cX11_finds 31 = .ok (.iload 4, 2) := by decide +kernel
theorem dX11_finds_33 : decode cX11_finds 33 = .ok (.i2l, 1) := by decide +kernel
theorem dX11_finds_34 : decode cX11_finds 34 = .ok (.ladd, 1) := by decide +kernel
theorem dX11_finds_35 : decode cX11_finds 35 = .ok (.aload_n 0, 1) := by decide +kernel
theorem dX11_finds_36 : decode cX11_finds 36 = .ok (.getfield 114, 3) := by decide +kernel
theorem dX11_finds_39 : decode cX11_finds 39 = .ok (.iload_n 1, 1) := by decide +kernel
theorem dX11_finds_40 : decode cX11_finds 40 = .ok (.iaload, 1) := by decide +kernel
theorem dX11_finds_41 : decode cX11_finds 41 = .ok (.i2l, 1) := by decide +kernel
theorem dX11_finds_42 : decode cX11_finds 42 = .ok (.lcmp, 1) := by decide +kernel
theorem dX11_finds_43 : decode cX11_finds 43 = .ok (.ifCond .le 8, 3) := by decide +kernel
theorem dX11_finds_46 : decode cX11_finds 46 = .ok (.bipush (-13), 2) := by decide +kernel
theorem dX11_finds_48 : decode cX11_finds 48 = .ok (.goto 4, 3) := by decide +kernel
theorem dX11_finds_51 : decode cX11_finds 51 = .ok (.iconst 0, 1) := by decide +kernel
theorem dX11_finds_52 : decode cX11_finds 52 = .ok (.ireturn, 1) := by decide +kernel
theorem dX11_item_0 : decode cX11_item 0 = .ok (.iload_n 1, 1) := by decide +kernel
theorem dX11_item_1 : decode cX11_item 1 = .ok (.invokestatic 334, 3) := by decide +kernel
theorem dX11_item_4 : decode cX11_item 4 = .ok (.ifCond .eq 10, 3) := by decide +kernel
theorem dX11_item_7 : decode cX11_item 7 = .ok (.iload_n 2, 1) := by decide +kernel
theorem dX11_item_8 : decode cX11_item 8 = .ok (.invokestatic 337, 3) := by decide +kernel
theorem dX11_item_11 : decode cX11_item 11 = .ok (.ifCond .ne 5, 3) := by decide +kernel
theorem dX11_item_14 : decode cX11_item 14 = .ok (.iconst (-1), 1) := by decide +kernel
theorem dX11_item_15 : decode cX11_item 15 = .ok (.ireturn, 1) := by decide +kernel
theorem dX11_item_16 : decode cX11_item 16 = .ok (.aload_n 0, 1) := by decide +kernel
theorem dX11_item_17 : decode cX11_item 17 = .ok (.iload_n 1, 1) := by decide +kernel
theorem dX11_item_18 : decode cX11_item 18 = .ok (.iload_n 2, 1) := by decide +kernel
theorem dX11_item_19 : decode cX11_item 19 = .ok (.iload_n 3, 1) := by decide +kernel
theorem dX11_item_20 : decode cX11_item 20 = .ok (.iconst 1, 1) := by decide +kernel
theorem dX11_item_21 : decode cX11_item 21 = .ok (.invokevirtual 340, 3) := by decide +kernel
theorem dX11_item_24 : decode cX11_item 24 = .ok (.istore 5, 2) := by decide +kernel
theorem dX11_item_26 : decode cX11_item 26 = .ok (.iload 5, 2) := by decide +kernel
theorem dX11_item_28 : decode cX11_item 28 = .ok (.ifCond .ge 6, 3) := by decide +kernel
theorem dX11_item_31 : decode cX11_item 31 = .ok (.iload 5, 2) := by decide +kernel
theorem dX11_item_33 : decode cX11_item 33 = .ok (.ireturn, 1) := by decide +kernel
theorem dX11_item_34 : decode cX11_item 34 = .ok (.aload_n 0, 1) := by decide +kernel
theorem dX11_item_35 : decode cX11_item 35 = .ok (.getfield 117, 3) := by decide +kernel
theorem dX11_item_38 : decode cX11_item 38 = .ok (.bipush 60, 2) := by decide +kernel
theorem dX11_item_40 : decode cX11_item 40 = .ok (.iload_n 1, 1) := by decide +kernel
theorem dX11_item_41 : decode cX11_item 41 = .ok (.imul, 1) := by decide +kernel
theorem dX11_item_42 : decode cX11_item 42 = .ok (.iload_n 3, 1) := by decide +kernel
theorem dX11_item_43 : decode cX11_item 43 = .ok (.iadd, 1) := by decide +kernel
theorem dX11_item_44 : decode cX11_item 44 = .ok (.iload_n 2, 1) := by decide +kernel
theorem dX11_item_45 : decode cX11_item 45 = .ok (.ifCond .ne 9, 3) := by decide +kernel
theorem dX11_item_48 : decode cX11_item 48 = .ok (.iload 4, 2) := by decide +kernel
theorem dX11_item_50 : decode cX11_item 50 = .ok (.i2b, 1) := by decide +kernel
theorem dX11_item_51 : decode cX11_item 51 = .ok (.goto 16, 3) := by decide +kernel
theorem dX11_item_54 : decode cX11_item 54 = .ok (.iload_n 2, 1) := by decide +kernel
theorem dX11_item_55 : decode cX11_item 55 = .ok (.iconst 1, 1) := by decide +kernel
theorem dX11_item_56 : decode cX11_item 56 = .ok (.if_icmp .ne 9, 3) := by decide +kernel
theorem dX11_item_59 : decode cX11_item 59 = .ok (.iload 4, 2) := by decide +kernel
theorem dX11_item_61 : decode cX11_item 61 = .ok (.i2s, 1) := by decide +kernel
theorem dX11_item_62 : decode cX11_item 62 = .ok (.goto 5, 3) := by decide +kernel
theorem dX11_item_65 : decode cX11_item 65 = .ok (.iload 4, 2) := by decide +kernel
theorem dX11_item_67 : decode cX11_item 67 = .ok (.iastore, 1) := by decide +kernel
theorem dX11_item_68 : decode cX11_item 68 = .ok (.iconst 1, 1) := by decide +kernel
theorem dX11_item_69 : decode cX11_item 69 = .ok (.ireturn, 1) := by decide +kernel
theorem dX11_rows_0 : decode cX11_rows 0 = .ok (.iload_n 1, 1) := by decide +kernel
theorem dX11_rows_1 : decode cX11_rows 1 = .ok (.invokestatic 334, 3) := by decide +kernel
theorem dX11_rows_4 : decode cX11_rows 4 = .ok (.ifCond .eq 23, 3) := by decide +kernel
theorem dX11_rows_7 : decode cX11_rows 7 = .ok (.iload_n 2, 1) := by decide +kernel
theorem dX11_rows_8 : decode cX11_rows 8 = .ok (.invokestatic 337, 3) := by decide +kernel
theorem dX11_rows_11 : decode cX11_rows 11 = .ok (.ifCond .eq 16, 3) := by decide +kernel
theorem dX11_rows_14 : decode cX11_rows 14 = .ok (.iload 4, 2) := by decide +kernel
theorem dX11_rows_16 : decode cX11_rows 16 = .ok (.i2l, 1) := by decide +kernel
theorem dX11_rows_17 : decode cX11_rows 17 = .ok (.lconst 0, 1) := by decide +kernel
theorem dX11_rows_18 : decode cX11_rows 18 = .ok (.ldc2_w 344, 3) := by decide +kernel
theorem dX11_rows_21 : decode cX11_rows 21 = .ok (.invokestatic 127, 3) := by decide +kernel
theorem dX11_rows_24 : decode cX11_rows 24 = .ok (.ifCond .ne 5, 3) := by decide +kernel
theorem dX11_rows_27 : decode cX11_rows 27 = .ok (.iconst (-1), 1) := by decide +kernel
theorem dX11_rows_28 : decode cX11_rows 28 = .ok (.ireturn, 1) := by decide +kernel
theorem dX11_rows_29 : decode cX11_rows 29 = .ok (.aload_n 0, 1) := by decide +kernel
theorem dX11_rows_30 : decode cX11_rows 30 = .ok (.iload_n 1, 1) := by decide +kernel
theorem dX11_rows_31 : decode cX11_rows 31 = .ok (.iload_n 2, 1) := by decide +kernel
theorem dX11_rows_32 : decode cX11_rows 32 = .ok (.iload_n 3, 1) := by decide +kernel
theorem dX11_rows_33 : decode cX11_rows 33 = .ok (.bipush 7, 2) := by decide +kernel
theorem dX11_rows_35 : decode cX11_rows 35 = .ok (.iload 4, 2) := by decide +kernel
theorem dX11_rows_37 : decode cX11_rows 37 = .ok (.imul, 1) := by decide +kernel
theorem dX11_rows_38 : decode cX11_rows 38 = .ok (.invokevirtual 340, 3) := by decide +kernel
theorem dX11_rows_41 : decode cX11_rows 41 = .ok (.istore 5, 2) := by decide +kernel
theorem dX11_rows_43 : decode cX11_rows 43 = .ok (.iload 5, 2) := by decide +kernel
theorem dX11_rows_45 : decode cX11_rows 45 = .ok (.ifCond .ge 6, 3) := by decide +kernel
theorem dX11_rows_48 : decode cX11_rows 48 = .ok (.iload 5, 2) := by decide +kernel
theorem dX11_rows_50 : decode cX11_rows 50 = .ok (.ireturn, 1) := by decide +kernel
theorem dX11_rows_51 : decode cX11_rows 51 = .ok (.bipush 60, 2) := by decide +kernel
theorem dX11_rows_53 : decode cX11_rows 53 = .ok (.iload_n 1, 1) := by decide +kernel
theorem dX11_rows_54 : decode cX11_rows 54 = .ok (.imul, 1) := by decide +kernel
theorem dX11_rows_55 : decode cX11_rows 55 = .ok (.iload_n 3, 1) := by decide +kernel
theorem dX11_rows_56 : decode cX11_rows 56 = .ok (.iadd, 1) := by decide +kernel
theorem dX11_rows_57 : decode cX11_rows 57 = .ok (.istore 6, 2) := by decide +kernel
theorem dX11_rows_59 : decode cX11_rows 59 = .ok (.iconst 0, 1) := by decide +kernel
theorem dX11_rows_60 : decode cX11_rows 60 = .ok (.istore 7, 2) := by decide +kernel
theorem dX11_rows_62 : decode cX11_rows 62 = .ok (.iload 7, 2) := by decide +kernel
theorem dX11_rows_64 : decode cX11_rows 64 = .ok (.iload 4, 2) := by decide +kernel
theorem dX11_rows_66 : decode cX11_rows 66 = .ok (.if_icmp .ge 98, 3) := by decide +kernel
theorem dX11_rows_69 : decode cX11_rows 69 = .ok (.iload 6, 2) := by decide +kernel
theorem dX11_rows_71 : decode cX11_rows 71 = .ok (.bipush 7, 2) := by decide +kernel
theorem dX11_rows_73 : decode cX11_rows 73 = .ok (.iload 7, 2) := by decide +kernel
theorem dX11_rows_75 : decode cX11_rows 75 = .ok (.imul, 1) := by decide +kernel
theorem dX11_rows_76 : decode cX11_rows 76 = .ok (.iadd, 1) := by decide +kernel
theorem dX11_rows_77 : decode cX11_rows 77 = .ok (.istore 8, 2) := by decide +kernel
theorem dX11_rows_79 : decode cX11_rows 79 = .ok (.aload_n 0, 1) := by decide +kernel
theorem dX11_rows_80 : decode cX11_rows 80 = .ok (.aload_n 0, 1) := by decide +kernel
theorem dX11_rows_81 : decode cX11_rows 81 = .ok (.getfield 117, 3) := by decide +kernel
theorem dX11_rows_84 : decode cX11_rows 84 = .ok (.iload 8, 2) := by decide +kernel
theorem dX11_rows_86 : decode cX11_rows 86 = .ok (.iaload, 1) := by decide +kernel
theorem dX11_rows_87 : decode cX11_rows 87 = .ok (.i2l, 1) := by decide +kernel
theorem dX11_rows_88 : decode cX11_rows 88 = .ok (.aload_n 0, 1) := by decide +kernel
theorem dX11_rows_89 : decode cX11_rows 89 = .ok (.getfield 117, 3) := by decide +kernel
theorem dX11_rows_92 : decode cX11_rows 92 = .ok (.iload 8, 2) := by decide +kernel
theorem dX11_rows_94 : decode cX11_rows 94 = .ok (.iconst 1, 1) := by decide +kernel
theorem dX11_rows_95 : decode cX11_rows 95 = .ok (.iadd, 1) := by decide +kernel
theorem dX11_rows_96 : decode cX11_rows 96 = .ok (.iaload, 1) := by decide +kernel
theorem dX11_rows_97 : decode cX11_rows 97 = .ok (.i2l, 1) := by decide +kernel
theorem dX11_rows_98 : decode cX11_rows 98 = .ok (.aload_n 0, 1) := by decide +kernel
theorem dX11_rows_99 : decode cX11_rows 99 = .ok (.getfield 117, 3) := by decide +kernel
theorem dX11_rows_102 : decode cX11_rows 102 = .ok (.iload 8, 2) := by decide +kernel
theorem dX11_rows_104 : decode cX11_rows 104 = .ok (.iconst 2, 1) := by decide +kernel
theorem dX11_rows_105 : decode cX11_rows 105 = .ok (.iadd, 1) := by decide +kernel
theorem dX11_rows_106 : decode cX11_rows 106 = .ok (.iaload, 1) := by decide +kernel
theorem dX11_rows_107 : decode cX11_rows 107 = .ok (.i2l, 1) := by decide +kernel
theorem dX11_rows_108 : decode cX11_rows 108 = .ok (.aload_n 0, 1) := by decide +kernel
theorem dX11_rows_109 : decode cX11_rows 109 = .ok (.getfield 117, 3) := by decide +kernel
theorem dX11_rows_112 : decode cX11_rows 112 = .ok (.iload 8, 2) := by decide +kernel
theorem dX11_rows_114 : decode cX11_rows 114 = .ok (.iconst 3, 1) := by decide +kernel
theorem dX11_rows_115 : decode cX11_rows 115 = .ok (.iadd, 1) := by decide +kernel
theorem dX11_rows_116 : decode cX11_rows 116 = .ok (.iaload, 1) := by decide +kernel
theorem dX11_rows_117 : decode cX11_rows 117 = .ok (.i2l, 1) := by decide +kernel
theorem dX11_rows_118 : decode cX11_rows 118 = .ok (.aload_n 0, 1) := by decide +kernel
theorem dX11_rows_119 : decode cX11_rows 119 = .ok (.getfield 117, 3) := by decide +kernel
theorem dX11_rows_122 : decode cX11_rows 122 = .ok (.iload 8, 2) := by decide +kernel
theorem dX11_rows_124 : decode cX11_rows 124 = .ok (.iconst 4, 1) := by decide +kernel
theorem dX11_rows_125 : decode cX11_rows 125 = .ok (.iadd, 1) := by decide +kernel
theorem dX11_rows_126 : decode cX11_rows 126 = .ok (.iaload, 1) := by decide +kernel
theorem dX11_rows_127 : decode cX11_rows 127 = .ok (.i2l, 1) := by decide +kernel
theorem dX11_rows_128 : decode cX11_rows 128 = .ok (.aload_n 0, 1) := by decide +kernel
theorem dX11_rows_129 : decode cX11_rows 129 = .ok (.getfield 117, 3) := by decide +kernel
theorem dX11_rows_132 : decode cX11_rows 132 = .ok (.iload 8, 2) := by decide +kernel
theorem dX11_rows_134 : decode cX11_rows 134 = .ok (.iconst 5, 1) := by decide +kernel
theorem dX11_rows_135 : decode cX11_rows 135 = .ok (.iadd, 1) := by decide +kernel
theorem dX11_rows_136 : decode cX11_rows 136 = .ok (.iaload, 1) := by decide +kernel
theorem dX11_rows_137 : decode cX11_rows 137 = .ok (.i2l, 1) := by decide +kernel
theorem dX11_rows_138 : decode cX11_rows 138 = .ok (.aload_n 0, 1) := by decide +kernel
theorem dX11_rows_139 : decode cX11_rows 139 = .ok (.getfield 117, 3) := by decide +kernel
theorem dX11_rows_142 : decode cX11_rows 142 = .ok (.iload 8, 2) := by decide +kernel
theorem dX11_rows_144 : decode cX11_rows 144 = .ok (.bipush 6, 2) := by decide +kernel
theorem dX11_rows_146 : decode cX11_rows 146 = .ok (.iadd, 1) := by decide +kernel
theorem dX11_rows_147 : decode cX11_rows 147 = .ok (.iaload, 1) := by decide +kernel
theorem dX11_rows_148 : decode cX11_rows 148 = .ok (.i2l, 1) := by decide +kernel
theorem dX11_rows_149 : decode cX11_rows 149 = .ok (.invokevirtual 303, 3) := by decide +kernel
theorem dX11_rows_152 : decode cX11_rows 152 = .ok (.ifCond .ne 6, 3) := by decide +kernel
theorem dX11_rows_155 : decode cX11_rows 155 = .ok (.bipush (-2), 2) := by decide +kernel
theorem dX11_rows_157 : decode cX11_rows 157 = .ok (.ireturn, 1) := by decide +kernel
theorem dX11_rows_158 : decode cX11_rows 158 = .ok (.iinc 7 1, 3) := by decide +kernel
theorem dX11_rows_161 : decode cX11_rows 161 = .ok (.goto (-99), 3) := by decide +kernel
theorem dX11_rows_164 : decode cX11_rows 164 = .ok (.aload_n 0, 1) := by decide +kernel
theorem dX11_rows_165 : decode cX11_rows 165 = .ok (.getfield 300, 3) := by decide +kernel
theorem dX11_rows_168 : decode cX11_rows 168 = .ok (.iload 4, 2) := by decide +kernel
theorem dX11_rows_170 : decode cX11_rows 170 = .ok (.iadd, 1) := by decide +kernel
theorem dX11_rows_171 : decode cX11_rows 171 = .ok (.bipush 30, 2) := by decide +kernel
theorem dX11_rows_173 : decode cX11_rows 173 = .ok (.if_icmp .le 6, 3) := by decide +kernel
theorem dX11_rows_176 : decode cX11_rows 176 = .ok (.bipush (-3), 2) := by decide +kernel
theorem dX11_rows_178 : decode cX11_rows 178 = .ok (.ireturn, 1) := by decide +kernel
theorem dX11_rows_179 : decode cX11_rows 179 = .ok (.iconst 0, 1) := by decide +kernel
theorem dX11_rows_180 : decode cX11_rows 180 = .ok (.istore 7, 2) := by decide +kernel
theorem dX11_rows_182 : decode cX11_rows 182 = .ok (.iload 7, 2) := by decide +kernel
theorem dX11_rows_184 : decode cX11_rows 184 = .ok (.iload 4, 2) := by decide +kernel
theorem dX11_rows_186 : decode cX11_rows 186 = .ok (.if_icmp .ge 85, 3) := by decide +kernel
theorem dX11_rows_189 : decode cX11_rows 189 = .ok (.iload 6, 2) := by decide +kernel
theorem dX11_rows_191 : decode cX11_rows 191 = .ok (.bipush 7, 2) := by decide +kernel
theorem dX11_rows_193 : decode cX11_rows 193 = .ok (.iload 7, 2) := by decide +kernel
theorem dX11_rows_195 : decode cX11_rows 195 = .ok (.imul, 1) := by decide +kernel
theorem dX11_rows_196 : decode cX11_rows 196 = .ok (.iadd, 1) := by decide +kernel
theorem dX11_rows_197 : decode cX11_rows 197 = .ok (.istore 8, 2) := by decide +kernel
theorem dX11_rows_199 : decode cX11_rows 199 = .ok (.aload_n 0, 1) := by decide +kernel
theorem dX11_rows_200 : decode cX11_rows 200 = .ok (.aload_n 0, 1) := by decide +kernel
theorem dX11_rows_201 : decode cX11_rows 201 = .ok (.getfield 117, 3) := by decide +kernel
theorem dX11_rows_204 : decode cX11_rows 204 = .ok (.iload 8, 2) := by decide +kernel
theorem dX11_rows_206 : decode cX11_rows 206 = .ok (.iaload, 1) := by decide +kernel
theorem dX11_rows_207 : decode cX11_rows 207 = .ok (.aload_n 0, 1) := by decide +kernel
theorem dX11_rows_208 : decode cX11_rows 208 = .ok (.getfield 117, 3) := by decide +kernel
theorem dX11_rows_211 : decode cX11_rows 211 = .ok (.iload 8, 2) := by decide +kernel
theorem dX11_rows_213 : decode cX11_rows 213 = .ok (.iconst 1, 1) := by decide +kernel
theorem dX11_rows_214 : decode cX11_rows 214 = .ok (.iadd, 1) := by decide +kernel
theorem dX11_rows_215 : decode cX11_rows 215 = .ok (.iaload, 1) := by decide +kernel
theorem dX11_rows_216 : decode cX11_rows 216 = .ok (.aload_n 0, 1) := by decide +kernel
theorem dX11_rows_217 : decode cX11_rows 217 = .ok (.getfield 117, 3) := by decide +kernel
theorem dX11_rows_220 : decode cX11_rows 220 = .ok (.iload 8, 2) := by decide +kernel
theorem dX11_rows_222 : decode cX11_rows 222 = .ok (.iconst 2, 1) := by decide +kernel
theorem dX11_rows_223 : decode cX11_rows 223 = .ok (.iadd, 1) := by decide +kernel
theorem dX11_rows_224 : decode cX11_rows 224 = .ok (.iaload, 1) := by decide +kernel
theorem dX11_rows_225 : decode cX11_rows 225 = .ok (.aload_n 0, 1) := by decide +kernel
theorem dX11_rows_226 : decode cX11_rows 226 = .ok (.getfield 117, 3) := by decide +kernel
theorem dX11_rows_229 : decode cX11_rows 229 = .ok (.iload 8, 2) := by decide +kernel
theorem dX11_rows_231 : decode cX11_rows 231 = .ok (.iconst 3, 1) := by decide +kernel
theorem dX11_rows_232 : decode cX11_rows 232 = .ok (.iadd, 1) := by decide +kernel
theorem dX11_rows_233 : decode cX11_rows 233 = .ok (.iaload, 1) := by decide +kernel
theorem dX11_rows_234 : decode cX11_rows 234 = .ok (.aload_n 0, 1) := by decide +kernel
theorem dX11_rows_235 : decode cX11_rows 235 = .ok (.getfield 117, 3) := by decide +kernel
theorem dX11_rows_238 : decode cX11_rows 238 = .ok (.iload 8, 2) := by decide +kernel
theorem dX11_rows_240 : decode cX11_rows 240 = .ok (.iconst 4, 1) := by decide +kernel
theorem dX11_rows_241 : decode cX11_rows 241 = .ok (.iadd, 1) := by decide +kernel
theorem dX11_rows_242 : decode cX11_rows 242 = .ok (.iaload, 1) := by decide +kernel
theorem dX11_rows_243 : decode cX11_rows 243 = .ok (.aload_n 0, 1) := by decide +kernel
theorem dX11_rows_244 : decode cX11_rows 244 = .ok (.getfield 117, 3) := by decide +kernel
theorem dX11_rows_247 : decode cX11_rows 247 = .ok (.iload 8, 2) := by decide +kernel
theorem dX11_rows_249 : decode cX11_rows 249 = .ok (.iconst 5, 1) := by decide +kernel
theorem dX11_rows_250 : decode cX11_rows 250 = .ok (.iadd, 1) := by decide +kernel
theorem dX11_rows_251 : decode cX11_rows 251 = .ok (.iaload, 1) := by decide +kernel
theorem dX11_rows_252 : decode cX11_rows 252 = .ok (.aload_n 0, 1) := by decide +kernel
theorem dX11_rows_253 : decode cX11_rows 253 = .ok (.getfield 117, 3) := by decide +kernel
theorem dX11_rows_256 : decode cX11_rows 256 = .ok (.iload 8, 2) := by decide +kernel
theorem dX11_rows_258 : decode cX11_rows 258 = .ok (.bipush 6, 2) := by decide +kernel
theorem dX11_rows_260 : decode cX11_rows 260 = .ok (.iadd, 1) := by decide +kernel
theorem dX11_rows_261 : decode cX11_rows 261 = .ok (.iaload, 1) := by decide +kernel
theorem dX11_rows_262 : decode cX11_rows 262 = .ok (.invokevirtual 307, 3) := by decide +kernel
theorem dX11_rows_265 : decode cX11_rows 265 = .ok (.iinc 7 1, 3) := by decide +kernel
theorem dX11_rows_268 : decode cX11_rows 268 = .ok (.goto (-86), 3) := by decide +kernel
theorem dX11_rows_271 : decode cX11_rows 271 = .ok (.aload_n 0, 1) := by decide +kernel
theorem dX11_rows_272 : decode cX11_rows 272 = .ok (.getfield 300, 3) := by decide +kernel
theorem dX11_rows_275 : decode cX11_rows 275 = .ok (.ireturn, 1) := by decide +kernel
theorem dX11_copy_0 : decode cX11_copy 0 = .ok (.iload_n 1, 1) := by decide +kernel
theorem dX11_copy_1 : decode cX11_copy 1 = .ok (.invokestatic 334, 3) := by decide +kernel
theorem dX11_copy_4 : decode cX11_copy 4 = .ok (.ifCond .eq 10, 3) := by decide +kernel
theorem dX11_copy_7 : decode cX11_copy 7 = .ok (.iload_n 3, 1) := by decide +kernel
theorem dX11_copy_8 : decode cX11_copy 8 = .ok (.invokestatic 334, 3) := by decide +kernel
theorem dX11_copy_11 : decode cX11_copy 11 = .ok (.ifCond .ne 5, 3) := by decide +kernel
theorem dX11_copy_14 : decode cX11_copy 14 = .ok (.iconst (-1), 1) := by decide +kernel
theorem dX11_copy_15 : decode cX11_copy 15 = .ok (.ireturn, 1) := by decide +kernel
theorem dX11_copy_16 : decode cX11_copy 16 = .ok (.aload_n 0, 1) := by decide +kernel
theorem dX11_copy_17 : decode cX11_copy 17 = .ok (.getfield 111, 3) := by decide +kernel
theorem dX11_copy_20 : decode cX11_copy 20 = .ok (.iload_n 1, 1) := by decide +kernel
theorem dX11_copy_21 : decode cX11_copy 21 = .ok (.iaload, 1) := by decide +kernel
theorem dX11_copy_22 : decode cX11_copy 22 = .ok (.ifCond .lt 12, 3) := by decide +kernel
theorem dX11_copy_25 : decode cX11_copy 25 = .ok (.aload_n 0, 1) := by decide +kernel
theorem dX11_copy_26 : decode cX11_copy 26 = .ok (.getfield 111, 3) := by decide +kernel
theorem dX11_copy_29 : decode cX11_copy 29 = .ok (.iload_n 3, 1) := by decide +kernel
theorem dX11_copy_30 : decode cX11_copy 30 = .ok (.iaload, 1) := by decide +kernel
theorem dX11_copy_31 : decode cX11_copy 31 = .ok (.ifCond .ge 6, 3) := by decide +kernel
theorem dX11_copy_34 : decode cX11_copy 34 = .ok (.bipush (-11), 2) := by decide +kernel
theorem dX11_copy_36 : decode cX11_copy 36 = .ok (.ireturn, 1) := by decide +kernel
theorem dX11_copy_37 : decode cX11_copy 37 = .ok (.aload_n 0, 1) := by decide +kernel
theorem dX11_copy_38 : decode cX11_copy 38 = .ok (.getfield 111, 3) := by decide +kernel
theorem dX11_copy_41 : decode cX11_copy 41 = .ok (.iload_n 1, 1) := by decide +kernel
theorem dX11_copy_42 : decode cX11_copy 42 = .ok (.iaload, 1) := by decide +kernel
theorem dX11_copy_43 : decode cX11_copy 43 = .ok (.aload_n 0, 1) := by decide +kernel
theorem dX11_copy_44 : decode cX11_copy 44 = .ok (.getfield 111, 3) := by decide +kernel
theorem dX11_copy_47 : decode cX11_copy 47 = .ok (.iload_n 3, 1) := by decide +kernel
theorem dX11_copy_48 : decode cX11_copy 48 = .ok (.iaload, 1) := by decide +kernel
theorem dX11_copy_49 : decode cX11_copy 49 = .ok (.if_icmp .eq 6, 3) := by decide +kernel
theorem dX11_copy_52 : decode cX11_copy 52 = .ok (.bipush (-12), 2) := by decide +kernel
theorem dX11_copy_54 : decode cX11_copy 54 = .ok (.ireturn, 1) := by decide +kernel
theorem dX11_copy_55 : decode cX11_copy 55 = .ok (.iload 5, 2) := by decide +kernel
theorem dX11_copy_57 : decode cX11_copy 57 = .ok (.ifCond .lt 38, 3) := by decide +kernel
theorem dX11_copy_60 : decode cX11_copy 60 = .ok (.aload_n 0, 1) := by decide +kernel
theorem dX11_copy_61 : decode cX11_copy 61 = .ok (.iload_n 1, 1) := by decide +kernel
theorem dX11_copy_62 : decode cX11_copy 62 = .ok (.aload_n 0, 1) := by decide +kernel
theorem dX11_copy_63 : decode cX11_copy 63 = .ok (.getfield 111, 3) := by decide +kernel
theorem dX11_copy_66 : decode cX11_copy 66 = .ok (.iload_n 1, 1) := by decide +kernel
theorem dX11_copy_67 : decode cX11_copy 67 = .ok (.iaload, 1) := by decide +kernel
theorem dX11_copy_68 : decode cX11_copy 68 = .ok (.iload_n 2, 1) := by decide +kernel
theorem dX11_copy_69 : decode cX11_copy 69 = .ok (.iload 5, 2) := by decide +kernel
theorem dX11_copy_71 : decode cX11_copy 71 = .ok (.invokevirtual 340, 3) := by decide +kernel
theorem dX11_copy_74 : decode cX11_copy 74 = .ok (.ifCond .lt 21, 3) := by decide +kernel
theorem dX11_copy_77 : decode cX11_copy 77 = .ok (.aload_n 0, 1) := by decide +kernel
theorem dX11_copy_78 : decode cX11_copy 78 = .ok (.iload_n 3, 1) := by decide +kernel
theorem dX11_copy_79 : decode cX11_copy 79 = .ok (.aload_n 0, 1) := by decide +kernel
theorem dX11_copy_80 : decode cX11_copy 80 = .ok (.getfield 111, 3) := by decide +kernel
theorem dX11_copy_83 : decode cX11_copy 83 = .ok (.iload_n 3, 1) := by decide +kernel
theorem dX11_copy_84 : decode cX11_copy 84 = .ok (.iaload, 1) := by decide +kernel
theorem dX11_copy_85 : decode cX11_copy 85 = .ok (.iload 4, 2) := by decide +kernel
theorem dX11_copy_87 : decode cX11_copy 87 = .ok (.iload 5, 2) := by decide +kernel
theorem dX11_copy_89 : decode cX11_copy 89 = .ok (.invokevirtual 340, 3) := by decide +kernel
theorem dX11_copy_92 : decode cX11_copy 92 = .ok (.ifCond .ge 6, 3) := by decide +kernel
theorem dX11_copy_95 : decode cX11_copy 95 = .ok (.bipush (-13), 2) := by decide +kernel
theorem dX11_copy_97 : decode cX11_copy 97 = .ok (.ireturn, 1) := by decide +kernel
theorem dX11_copy_98 : decode cX11_copy 98 = .ok (.iconst 0, 1) := by decide +kernel
theorem dX11_copy_99 : decode cX11_copy 99 = .ok (.istore 6, 2) := by decide +kernel
theorem dX11_copy_101 : decode cX11_copy 101 = .ok (.iload 6, 2) := by decide +kernel
theorem dX11_copy_103 : decode cX11_copy 103 = .ok (.iload 5, 2) := by decide +kernel
theorem dX11_copy_105 : decode cX11_copy 105 = .ok (.if_icmp .ge 30, 3) := by decide +kernel
theorem dX11_copy_108 : decode cX11_copy 108 = .ok (.aload_n 0, 1) := by decide +kernel
theorem dX11_copy_109 : decode cX11_copy 109 = .ok (.getfield 120, 3) := by decide +kernel
theorem dX11_copy_112 : decode cX11_copy 112 = .ok (.iload 6, 2) := by decide +kernel
theorem dX11_copy_114 : decode cX11_copy 114 = .ok (.aload_n 0, 1) := by decide +kernel
theorem dX11_copy_115 : decode cX11_copy 115 = .ok (.getfield 117, 3) := by decide +kernel
theorem dX11_copy_118 : decode cX11_copy 118 = .ok (.bipush 60, 2) := by decide +kernel
theorem dX11_copy_120 : decode cX11_copy 120 = .ok (.iload_n 1, 1) := by decide +kernel
theorem dX11_copy_121 : decode cX11_copy 121 = .ok (.imul, 1) := by decide +kernel
theorem dX11_copy_122 : decode cX11_copy 122 = .ok (.iload_n 2, 1) := by decide +kernel
theorem dX11_copy_123 : decode cX11_copy 123 = .ok (.iadd, 1) := by decide +kernel
theorem dX11_copy_124 : decode cX11_copy 124 = .ok (.iload 6, 2) := by decide +kernel
theorem dX11_copy_126 : decode cX11_copy 126 = .ok (.iadd, 1) := by decide +kernel
theorem dX11_copy_127 : decode cX11_copy 127 = .ok (.iaload, 1) := by decide +kernel
theorem dX11_copy_128 : decode cX11_copy 128 = .ok (.iastore, 1) := by decide +kernel
theorem dX11_copy_129 : decode cX11_copy 129 = .ok (.iinc 6 1, 3) := by decide +kernel
theorem dX11_copy_132 : decode cX11_copy 132 = .ok (.goto (-31), 3) := by decide +kernel
theorem dX11_copy_135 : decode cX11_copy 135 = .ok (.iconst 0, 1) := by decide +kernel
theorem dX11_copy_136 : decode cX11_copy 136 = .ok (.istore 6, 2) := by decide +kernel
theorem dX11_copy_138 : decode cX11_copy 138 = .ok (.iload 6, 2) := by decide +kernel
theorem dX11_copy_140 : decode cX11_copy 140 = .ok (.iload 5, 2) := by decide +kernel
theorem dX11_copy_142 : decode cX11_copy 142 = .ok (.if_icmp .ge 31, 3) := by decide +kernel
theorem dX11_copy_145 : decode cX11_copy 145 = .ok (.aload_n 0, 1) := by decide +kernel
theorem dX11_copy_146 : decode cX11_copy 146 = .ok (.getfield 117, 3) := by decide +kernel
theorem dX11_copy_149 : decode cX11_copy 149 = .ok (.bipush 60, 2) := by decide +kernel
theorem dX11_copy_151 : decode cX11_copy 151 = .ok (.iload_n 3, 1) := by decide +kernel
theorem dX11_copy_152 : decode cX11_copy 152 = .ok (.imul, 1) := by decide +kernel
theorem dX11_copy_153 : decode cX11_copy 153 = .ok (.iload 4, 2) := by decide +kernel
theorem dX11_copy_155 : decode cX11_copy 155 = .ok (.iadd, 1) := by decide +kernel
theorem dX11_copy_156 : decode cX11_copy 156 = .ok (.iload 6, 2) := by decide +kernel
theorem dX11_copy_158 : decode cX11_copy 158 = .ok (.iadd, 1) := by decide +kernel
theorem dX11_copy_159 : decode cX11_copy 159 = .ok (.aload_n 0, 1) := by decide +kernel
theorem dX11_copy_160 : decode cX11_copy 160 = .ok (.getfield 120, 3) := by decide +kernel
theorem dX11_copy_163 : decode cX11_copy 163 = .ok (.iload 6, 2) := by decide +kernel
theorem dX11_copy_165 : decode cX11_copy 165 = .ok (.iaload, 1) := by decide +kernel
theorem dX11_copy_166 : decode cX11_copy 166 = .ok (.iastore, 1) := by decide +kernel
theorem dX11_copy_167 : decode cX11_copy 167 = .ok (.iinc 6 1, 3) := by decide +kernel
theorem dX11_copy_170 : decode cX11_copy 170 = .ok (.goto (-32), 3) := by decide +kernel
theorem dX11_copy_173 : decode cX11_copy 173 = .ok (.iload 5, 2) := by decide +kernel
theorem dX11_copy_175 : decode cX11_copy 175 = .ok (.ireturn, 1) := by decide +kernel
theorem dJ6_bitCount_0f7a4_0 : decode cJ6_bitCount_0f7a4 0 = .ok (.iload_n 0, 1) := by decide +kernel
theorem dJ6_bitCount_0f7a4_1 : decode cJ6_bitCount_0f7a4 1 = .ok (.iload_n 0, 1) := by decide +kernel
theorem dJ6_bitCount_0f7a4_2 : decode cJ6_bitCount_0f7a4 2 = .ok (.iconst 1, 1) := by decide +kernel
theorem dJ6_bitCount_0f7a4_3 : decode cJ6_bitCount_0f7a4 3 = .ok (.iushr, 1) := by decide +kernel
theorem dJ6_bitCount_0f7a4_4 : decode cJ6_bitCount_0f7a4 4 = .ok (.ldc_w 265, 3) := by decide +kernel
theorem dJ6_bitCount_0f7a4_7 : decode cJ6_bitCount_0f7a4 7 = .ok (.iand, 1) := by decide +kernel
theorem dJ6_bitCount_0f7a4_8 : decode cJ6_bitCount_0f7a4 8 = .ok (.isub, 1) := by decide +kernel
theorem dJ6_bitCount_0f7a4_9 : decode cJ6_bitCount_0f7a4 9 = .ok (.istore_n 0, 1) := by decide +kernel
theorem dJ6_bitCount_0f7a4_10 : decode cJ6_bitCount_0f7a4 10 = .ok (.iload_n 0, 1) := by decide +kernel
theorem dJ6_bitCount_0f7a4_11 : decode cJ6_bitCount_0f7a4 11 = .ok (.ldc_w 266, 3) := by decide +kernel
theorem dJ6_bitCount_0f7a4_14 : decode cJ6_bitCount_0f7a4 14 = .ok (.iand, 1) := by decide +kernel
theorem dJ6_bitCount_0f7a4_15 : decode cJ6_bitCount_0f7a4 15 = .ok (.iload_n 0, 1) := by decide +kernel
theorem dJ6_bitCount_0f7a4_16 : decode cJ6_bitCount_0f7a4 16 = .ok (.iconst 2, 1) := by decide +kernel
theorem dJ6_bitCount_0f7a4_17 : decode cJ6_bitCount_0f7a4 17 = .ok (.iushr, 1) := by decide +kernel
theorem dJ6_bitCount_0f7a4_18 : decode cJ6_bitCount_0f7a4 18 = .ok (.ldc_w 266, 3) := by decide +kernel
theorem dJ6_bitCount_0f7a4_21 : decode cJ6_bitCount_0f7a4 21 = .ok (.iand, 1) := by decide +kernel
theorem dJ6_bitCount_0f7a4_22 : decode cJ6_bitCount_0f7a4 22 = .ok (.iadd, 1) := by decide +kernel
theorem dJ6_bitCount_0f7a4_23 : decode cJ6_bitCount_0f7a4 23 = .ok (.istore_n 0, 1) := by decide +kernel
theorem dJ6_bitCount_0f7a4_24 : decode cJ6_bitCount_0f7a4 24 = .ok (.iload_n 0, 1) := by decide +kernel
theorem dJ6_bitCount_0f7a4_25 : decode cJ6_bitCount_0f7a4 25 = .ok (.iload_n 0, 1) := by decide +kernel
theorem dJ6_bitCount_0f7a4_26 : decode cJ6_bitCount_0f7a4 26 = .ok (.iconst 4, 1) := by decide +kernel
theorem dJ6_bitCount_0f7a4_27 : decode cJ6_bitCount_0f7a4 27 = .ok (.iushr, 1) := by decide +kernel
theorem dJ6_bitCount_0f7a4_28 : decode cJ6_bitCount_0f7a4 28 = .ok (.iadd, 1) := by decide +kernel
theorem dJ6_bitCount_0f7a4_29 : decode cJ6_bitCount_0f7a4 29 = .ok (.ldc_w 267, 3) := by decide +kernel
theorem dJ6_bitCount_0f7a4_32 : decode cJ6_bitCount_0f7a4 32 = .ok (.iand, 1) := by decide +kernel
theorem dJ6_bitCount_0f7a4_33 : decode cJ6_bitCount_0f7a4 33 = .ok (.istore_n 0, 1) := by decide +kernel
theorem dJ6_bitCount_0f7a4_34 : decode cJ6_bitCount_0f7a4 34 = .ok (.iload_n 0, 1) := by decide +kernel
theorem dJ6_bitCount_0f7a4_35 : decode cJ6_bitCount_0f7a4 35 = .ok (.iload_n 0, 1) := by decide +kernel
theorem dJ6_bitCount_0f7a4_36 : decode cJ6_bitCount_0f7a4 36 = .ok (.bipush 8, 2) := by decide +kernel
theorem dJ6_bitCount_0f7a4_38 : decode cJ6_bitCount_0f7a4 38 = .ok (.iushr, 1) := by decide +kernel
theorem dJ6_bitCount_0f7a4_39 : decode cJ6_bitCount_0f7a4 39 = .ok (.iadd, 1) := by decide +kernel
theorem dJ6_bitCount_0f7a4_40 : decode cJ6_bitCount_0f7a4 40 = .ok (.istore_n 0, 1) := by decide +kernel
theorem dJ6_bitCount_0f7a4_41 : decode cJ6_bitCount_0f7a4 41 = .ok (.iload_n 0, 1) := by decide +kernel
theorem dJ6_bitCount_0f7a4_42 : decode cJ6_bitCount_0f7a4 42 = .ok (.iload_n 0, 1) := by decide +kernel
theorem dJ6_bitCount_0f7a4_43 : decode cJ6_bitCount_0f7a4 43 = .ok (.bipush 16, 2) := by decide +kernel
theorem dJ6_bitCount_0f7a4_45 : decode cJ6_bitCount_0f7a4 45 = .ok (.iushr, 1) := by decide +kernel
theorem dJ6_bitCount_0f7a4_46 : decode cJ6_bitCount_0f7a4 46 = .ok (.iadd, 1) := by decide +kernel
theorem dJ6_bitCount_0f7a4_47 : decode cJ6_bitCount_0f7a4 47 = .ok (.istore_n 0, 1) := by decide +kernel
theorem dJ6_bitCount_0f7a4_48 : decode cJ6_bitCount_0f7a4 48 = .ok (.iload_n 0, 1) := by decide +kernel
theorem dJ6_bitCount_0f7a4_49 : decode cJ6_bitCount_0f7a4 49 = .ok (.bipush 63, 2) := by decide +kernel
theorem dJ6_bitCount_0f7a4_51 : decode cJ6_bitCount_0f7a4 51 = .ok (.iand, 1) := by decide +kernel
theorem dJ6_bitCount_0f7a4_52 : decode cJ6_bitCount_0f7a4 52 = .ok (.ireturn, 1) := by decide +kernel
theorem dJ9_floorDiv_7cf53_0 : decode cJ9_floorDiv_7cf53 0 = .ok (.iload_n 0, 1) := by decide +kernel
theorem dJ9_floorDiv_7cf53_1 : decode cJ9_floorDiv_7cf53 1 = .ok (.iload_n 1, 1) := by decide +kernel
theorem dJ9_floorDiv_7cf53_2 : decode cJ9_floorDiv_7cf53 2 = .ok (.idiv, 1) := by decide +kernel
theorem dJ9_floorDiv_7cf53_3 : decode cJ9_floorDiv_7cf53 3 = .ok (.istore_n 2, 1) := by decide +kernel
theorem dJ9_floorDiv_7cf53_4 : decode cJ9_floorDiv_7cf53 4 = .ok (.iload_n 0, 1) := by decide +kernel
theorem dJ9_floorDiv_7cf53_5 : decode cJ9_floorDiv_7cf53 5 = .ok (.iload_n 1, 1) := by decide +kernel
theorem dJ9_floorDiv_7cf53_6 : decode cJ9_floorDiv_7cf53 6 = .ok (.ixor, 1) := by decide +kernel
theorem dJ9_floorDiv_7cf53_7 : decode cJ9_floorDiv_7cf53 7 = .ok (.ifCond .ge 14, 3) := by decide +kernel
theorem dJ9_floorDiv_7cf53_10 : decode cJ9_floorDiv_7cf53 10 = .ok (.iload_n 2, 1) := by decide +kernel
theorem dJ9_floorDiv_7cf53_11 : decode cJ9_floorDiv_7cf53 11 = .ok (.iload_n 1, 1) := by decide +kernel
theorem dJ9_floorDiv_7cf53_12 : decode cJ9_floorDiv_7cf53 12 = .ok (.imul, 1) := by decide +kernel
theorem dJ9_floorDiv_7cf53_13 : decode cJ9_floorDiv_7cf53 13 = .ok (.iload_n 0, 1) := by decide +kernel
theorem dJ9_floorDiv_7cf53_14 : decode cJ9_floorDiv_7cf53 14 = .ok (.if_icmp .eq 7, 3) := by decide +kernel
theorem dJ9_floorDiv_7cf53_17 : decode cJ9_floorDiv_7cf53 17 = .ok (.iload_n 2, 1) := by decide +kernel
theorem dJ9_floorDiv_7cf53_18 : decode cJ9_floorDiv_7cf53 18 = .ok (.iconst 1, 1) := by decide +kernel
theorem dJ9_floorDiv_7cf53_19 : decode cJ9_floorDiv_7cf53 19 = .ok (.isub, 1) := by decide +kernel
theorem dJ9_floorDiv_7cf53_20 : decode cJ9_floorDiv_7cf53 20 = .ok (.ireturn, 1) := by decide +kernel
theorem dJ9_floorDiv_7cf53_21 : decode cJ9_floorDiv_7cf53 21 = .ok (.iload_n 2, 1) := by decide +kernel
theorem dJ9_floorDiv_7cf53_22 : decode cJ9_floorDiv_7cf53 22 = .ok (.ireturn, 1) := by decide +kernel
theorem dJ9_floorMod_7cf53_0 : decode cJ9_floorMod_7cf53 0 = .ok (.iload_n 0, 1) := by decide +kernel
theorem dJ9_floorMod_7cf53_1 : decode cJ9_floorMod_7cf53 1 = .ok (.iload_n 1, 1) := by decide +kernel
theorem dJ9_floorMod_7cf53_2 : decode cJ9_floorMod_7cf53 2 = .ok (.irem, 1) := by decide +kernel
theorem dJ9_floorMod_7cf53_3 : decode cJ9_floorMod_7cf53 3 = .ok (.istore_n 2, 1) := by decide +kernel
theorem dJ9_floorMod_7cf53_4 : decode cJ9_floorMod_7cf53 4 = .ok (.iload_n 0, 1) := by decide +kernel
theorem dJ9_floorMod_7cf53_5 : decode cJ9_floorMod_7cf53 5 = .ok (.iload_n 1, 1) := by decide +kernel
theorem dJ9_floorMod_7cf53_6 : decode cJ9_floorMod_7cf53 6 = .ok (.ixor, 1) := by decide +kernel
theorem dJ9_floorMod_7cf53_7 : decode cJ9_floorMod_7cf53 7 = .ok (.ifCond .ge 11, 3) := by decide +kernel
theorem dJ9_floorMod_7cf53_10 : decode cJ9_floorMod_7cf53 10 = .ok (.iload_n 2, 1) := by decide +kernel
theorem dJ9_floorMod_7cf53_11 : decode cJ9_floorMod_7cf53 11 = .ok (.ifCond .eq 7, 3) := by decide +kernel
theorem dJ9_floorMod_7cf53_14 : decode cJ9_floorMod_7cf53 14 = .ok (.iload_n 2, 1) := by decide +kernel
theorem dJ9_floorMod_7cf53_15 : decode cJ9_floorMod_7cf53 15 = .ok (.iload_n 1, 1) := by decide +kernel
theorem dJ9_floorMod_7cf53_16 : decode cJ9_floorMod_7cf53 16 = .ok (.iadd, 1) := by decide +kernel
theorem dJ9_floorMod_7cf53_17 : decode cJ9_floorMod_7cf53 17 = .ok (.ireturn, 1) := by decide +kernel
theorem dJ9_floorMod_7cf53_18 : decode cJ9_floorMod_7cf53 18 = .ok (.iload_n 2, 1) := by decide +kernel
theorem dJ9_floorMod_7cf53_19 : decode cJ9_floorMod_7cf53 19 = .ok (.ireturn, 1) := by decide +kernel
theorem dJ9_abs_0f7a4_0 : decode cJ9_abs_0f7a4 0 = .ok (.iload_n 0, 1) := by decide +kernel
theorem dJ9_abs_0f7a4_1 : decode cJ9_abs_0f7a4 1 = .ok (.ifCond .ge 8, 3) := by decide +kernel
theorem dJ9_abs_0f7a4_4 : decode cJ9_abs_0f7a4 4 = .ok (.iload_n 0, 1) := by decide +kernel
theorem dJ9_abs_0f7a4_5 : decode cJ9_abs_0f7a4 5 = .ok (.ineg, 1) := by decide +kernel
theorem dJ9_abs_0f7a4_6 : decode cJ9_abs_0f7a4 6 = .ok (.goto 4, 3) := by decide +kernel
theorem dJ9_abs_0f7a4_9 : decode cJ9_abs_0f7a4 9 = .ok (.iload_n 0, 1) := by decide +kernel
theorem dJ9_abs_0f7a4_10 : decode cJ9_abs_0f7a4 10 = .ok (.ireturn, 1) := by decide +kernel
theorem dJ9_max_7cf53_0 : decode cJ9_max_7cf53 0 = .ok (.iload_n 0, 1) := by decide +kernel
theorem dJ9_max_7cf53_1 : decode cJ9_max_7cf53 1 = .ok (.iload_n 1, 1) := by decide +kernel
theorem dJ9_max_7cf53_2 : decode cJ9_max_7cf53 2 = .ok (.if_icmp .lt 7, 3) := by decide +kernel
theorem dJ9_max_7cf53_5 : decode cJ9_max_7cf53 5 = .ok (.iload_n 0, 1) := by decide +kernel
theorem dJ9_max_7cf53_6 : decode cJ9_max_7cf53 6 = .ok (.goto 4, 3) := by decide +kernel
theorem dJ9_max_7cf53_9 : decode cJ9_max_7cf53 9 = .ok (.iload_n 1, 1) := by decide +kernel
theorem dJ9_max_7cf53_10 : decode cJ9_max_7cf53 10 = .ok (.ireturn, 1) := by decide +kernel
theorem dJ9_min_7cf53_0 : decode cJ9_min_7cf53 0 = .ok (.iload_n 0, 1) := by decide +kernel
theorem dJ9_min_7cf53_1 : decode cJ9_min_7cf53 1 = .ok (.iload_n 1, 1) := by decide +kernel
theorem dJ9_min_7cf53_2 : decode cJ9_min_7cf53 2 = .ok (.if_icmp .gt 7, 3) := by decide +kernel
theorem dJ9_min_7cf53_5 : decode cJ9_min_7cf53 5 = .ok (.iload_n 0, 1) := by decide +kernel
theorem dJ9_min_7cf53_6 : decode cJ9_min_7cf53 6 = .ok (.goto 4, 3) := by decide +kernel
theorem dJ9_min_7cf53_9 : decode cJ9_min_7cf53 9 = .ok (.iload_n 1, 1) := by decide +kernel
theorem dJ9_min_7cf53_10 : decode cJ9_min_7cf53 10 = .ok (.ireturn, 1) := by decide +kernel
theorem dJ7_fill_53178_0 : decode cJ7_fill_53178 0 = .ok (.iconst 0, 1) := by decide +kernel
theorem dJ7_fill_53178_1 : decode cJ7_fill_53178 1 = .ok (.istore_n 2, 1) := by decide +kernel
theorem dJ7_fill_53178_2 : decode cJ7_fill_53178 2 = .ok (.aload_n 0, 1) := by decide +kernel
theorem dJ7_fill_53178_3 : decode cJ7_fill_53178 3 = .ok (.arraylength, 1) := by decide +kernel
theorem dJ7_fill_53178_4 : decode cJ7_fill_53178 4 = .ok (.istore_n 3, 1) := by decide +kernel
theorem dJ7_fill_53178_5 : decode cJ7_fill_53178 5 = .ok (.iload_n 2, 1) := by decide +kernel
theorem dJ7_fill_53178_6 : decode cJ7_fill_53178 6 = .ok (.iload_n 3, 1) := by decide +kernel
theorem dJ7_fill_53178_7 : decode cJ7_fill_53178 7 = .ok (.if_icmp .ge 13, 3) := by decide +kernel
theorem dJ7_fill_53178_10 : decode cJ7_fill_53178 10 = .ok (.aload_n 0, 1) := by decide +kernel
theorem dJ7_fill_53178_11 : decode cJ7_fill_53178 11 = .ok (.iload_n 2, 1) := by decide +kernel
theorem dJ7_fill_53178_12 : decode cJ7_fill_53178 12 = .ok (.iload_n 1, 1) := by decide +kernel
theorem dJ7_fill_53178_13 : decode cJ7_fill_53178 13 = .ok (.iastore, 1) := by decide +kernel
theorem dJ7_fill_53178_14 : decode cJ7_fill_53178 14 = .ok (.iinc 2 1, 3) := by decide +kernel
theorem dJ7_fill_53178_17 : decode cJ7_fill_53178 17 = .ok (.goto (-12), 3) := by decide +kernel
theorem dJ7_fill_53178_20 : decode cJ7_fill_53178 20 = .ok (.return_, 1) := by decide +kernel
theorem dL_law_0 : decode cL_law 0 = .ok (.new 7, 3) := by decide +kernel
theorem dL_law_3 : decode cL_law 3 = .ok (.dup, 1) := by decide +kernel
theorem dL_law_4 : decode cL_law 4 = .ok (.invokespecial 9, 3) := by decide +kernel
theorem dL_law_7 : decode cL_law 7 = .ok (.astore_n 1, 1) := by decide +kernel
theorem dL_law_8 : decode cL_law 8 = .ok (.new 10, 3) := by decide +kernel
theorem dL_law_11 : decode cL_law 11 = .ok (.dup, 1) := by decide +kernel
theorem dL_law_12 : decode cL_law 12 = .ok (.invokespecial 12, 3) := by decide +kernel
theorem dL_law_15 : decode cL_law 15 = .ok (.astore_n 2, 1) := by decide +kernel
theorem dL_law_16 : decode cL_law 16 = .ok (.iconst 0, 1) := by decide +kernel
theorem dL_law_17 : decode cL_law 17 = .ok (.istore_n 3, 1) := by decide +kernel
theorem dL_law_18 : decode cL_law 18 = .ok (.iload_n 3, 1) := by decide +kernel
theorem dL_law_19 : decode cL_law 19 = .ok (.aload_n 0, 1) := by decide +kernel
theorem dL_law_20 : decode cL_law 20 = .ok (.arraylength, 1) := by decide +kernel
theorem dL_law_21 : decode cL_law 21 = .ok (.bipush 8, 2) := by decide +kernel
theorem dL_law_23 : decode cL_law 23 = .ok (.isub, 1) := by decide +kernel
theorem dL_law_24 : decode cL_law 24 = .ok (.if_icmp .gt 1703, 3) := by decide +kernel
theorem dL_law_27 : decode cL_law 27 = .ok (.aload_n 0, 1) := by decide +kernel
theorem dL_law_28 : decode cL_law 28 = .ok (.iload_n 3, 1) := by decide +kernel
theorem dL_law_29 : decode cL_law 29 = .ok (.iaload, 1) := by decide +kernel
theorem dL_law_30 : decode cL_law 30 = .ok (.bipush 63, 2) := by decide +kernel
theorem dL_law_32 : decode cL_law 32 = .ok (.iand, 1) := by decide +kernel
theorem dL_law_33 : decode cL_law 33 = .ok (.tableswitch 1688 0 40 #[179, 232, 295, 338, 371, 404, 453, 466, 519, 552, 605, 628, 661, 736, 769, 782, 795, 828, 851, 938, 961, 994, 1047, 1080, 1093, 1116, 1203, 1236, 1259, 1282, 1295, 1348, 1371, 1414, 1447, 1460, 1483, 1506, 1549, 1572, 1625], 179) := by decide +kernel
theorem dL_law_212 : decode cL_law 212 = .ok (.aload_n 1, 1) := by decide +kernel
theorem dL_law_213 : decode cL_law 213 = .ok (.aload_n 0, 1) := by decide +kernel
theorem dL_law_214 : decode cL_law 214 = .ok (.iload_n 3, 1) := by decide +kernel
theorem dL_law_215 : decode cL_law 215 = .ok (.iconst 1, 1) := by decide +kernel
theorem dL_law_216 : decode cL_law 216 = .ok (.iadd, 1) := by decide +kernel
theorem dL_law_217 : decode cL_law 217 = .ok (.iaload, 1) := by decide +kernel
theorem dL_law_218 : decode cL_law 218 = .ok (.aload_n 0, 1) := by decide +kernel
theorem dL_law_219 : decode cL_law 219 = .ok (.iload_n 3, 1) := by decide +kernel
theorem dL_law_220 : decode cL_law 220 = .ok (.iconst 2, 1) := by decide +kernel
theorem dL_law_221 : decode cL_law 221 = .ok (.iadd, 1) := by decide +kernel
theorem dL_law_222 : decode cL_law 222 = .ok (.iaload, 1) := by decide +kernel
theorem dL_law_223 : decode cL_law 223 = .ok (.aload_n 0, 1) := by decide +kernel
theorem dL_law_224 : decode cL_law 224 = .ok (.iload_n 3, 1) := by decide +kernel
theorem dL_law_225 : decode cL_law 225 = .ok (.iconst 3, 1) := by decide +kernel
theorem dL_law_226 : decode cL_law 226 = .ok (.iadd, 1) := by decide +kernel
theorem dL_law_227 : decode cL_law 227 = .ok (.iaload, 1) := by decide +kernel
theorem dL_law_228 : decode cL_law 228 = .ok (.aload_n 0, 1) := by decide +kernel
theorem dL_law_229 : decode cL_law 229 = .ok (.iload_n 3, 1) := by decide +kernel
theorem dL_law_230 : decode cL_law 230 = .ok (.iconst 4, 1) := by decide +kernel
theorem dL_law_231 : decode cL_law 231 = .ok (.iadd, 1) := by decide +kernel
theorem dL_law_232 : decode cL_law 232 = .ok (.iaload, 1) := by decide +kernel
theorem dL_law_233 : decode cL_law 233 = .ok (.invokevirtual 13, 3) := by decide +kernel
theorem dL_law_236 : decode cL_law 236 = .ok (.aload_n 2, 1) := by decide +kernel
theorem dL_law_237 : decode cL_law 237 = .ok (.aload_n 0, 1) := by decide +kernel
theorem dL_law_238 : decode cL_law 238 = .ok (.iload_n 3, 1) := by decide +kernel
theorem dL_law_239 : decode cL_law 239 = .ok (.iconst 1, 1) := by decide +kernel
theorem dL_law_240 : decode cL_law 240 = .ok (.iadd, 1) := by decide +kernel
theorem dL_law_241 : decode cL_law 241 = .ok (.iaload, 1) := by decide +kernel
theorem dL_law_242 : decode cL_law 242 = .ok (.aload_n 0, 1) := by decide +kernel
theorem dL_law_243 : decode cL_law 243 = .ok (.iload_n 3, 1) := by decide +kernel
theorem dL_law_244 : decode cL_law 244 = .ok (.iconst 2, 1) := by decide +kernel
theorem dL_law_245 : decode cL_law 245 = .ok (.iadd, 1) := by decide +kernel
theorem dL_law_246 : decode cL_law 246 = .ok (.iaload, 1) := by decide +kernel
theorem dL_law_247 : decode cL_law 247 = .ok (.aload_n 0, 1) := by decide +kernel
theorem dL_law_248 : decode cL_law 248 = .ok (.iload_n 3, 1) := by decide +kernel
theorem dL_law_249 : decode cL_law 249 = .ok (.iconst 3, 1) := by decide +kernel
theorem dL_law_250 : decode cL_law 250 = .ok (.iadd, 1) := by decide +kernel
theorem dL_law_251 : decode cL_law 251 = .ok (.iaload, 1) := by decide +kernel
theorem dL_law_252 : decode cL_law 252 = .ok (.aload_n 0, 1) := by decide +kernel
theorem dL_law_253 : decode cL_law 253 = .ok (.iload_n 3, 1) := by decide +kernel
theorem dL_law_254 : decode cL_law 254 = .ok (.iconst 4, 1) := by decide +kernel
theorem dL_law_255 : decode cL_law 255 = .ok (.iadd, 1) := by decide +kernel
theorem dL_law_256 : decode cL_law 256 = .ok (.iaload, 1) := by decide +kernel
theorem dL_law_257 : decode cL_law 257 = .ok (.invokevirtual 17, 3) := by decide +kernel
theorem dL_law_260 : decode cL_law 260 = .ok (.if_icmp .eq 1461, 3) := by decide +kernel
theorem dL_law_263 : decode cL_law 263 = .ok (.iconst 0, 1) := by decide +kernel
theorem dL_law_264 : decode cL_law 264 = .ok (.ireturn, 1) := by decide +kernel
theorem dL_law_265 : decode cL_law 265 = .ok (.aload_n 1, 1) := by decide +kernel
theorem dL_law_266 : decode cL_law 266 = .ok (.aload_n 0, 1) := by decide +kernel
theorem dL_law_267 : decode cL_law 267 = .ok (.iload_n 3, 1) := by decide +kernel
theorem dL_law_268 : decode cL_law 268 = .ok (.iconst 1, 1) := by decide +kernel
theorem dL_law_269 : decode cL_law 269 = .ok (.iadd, 1) := by decide +kernel
theorem dL_law_270 : decode cL_law 270 = .ok (.iaload, 1) := by decide +kernel
theorem dL_law_271 : decode cL_law 271 = .ok (.aload_n 0, 1) := by decide +kernel
theorem dL_law_272 : decode cL_law 272 = .ok (.iload_n 3, 1) := by decide +kernel
theorem dL_law_273 : decode cL_law 273 = .ok (.iconst 2, 1) := by decide +kernel
theorem dL_law_274 : decode cL_law 274 = .ok (.iadd, 1) := by decide +kernel
theorem dL_law_275 : decode cL_law 275 = .ok (.iaload, 1) := by decide +kernel
theorem dL_law_276 : decode cL_law 276 = .ok (.aload_n 0, 1) := by decide +kernel
theorem dL_law_277 : decode cL_law 277 = .ok (.iload_n 3, 1) := by decide +kernel
theorem dL_law_278 : decode cL_law 278 = .ok (.iconst 3, 1) := by decide +kernel
theorem dL_law_279 : decode cL_law 279 = .ok (.iadd, 1) := by decide +kernel
theorem dL_law_280 : decode cL_law 280 = .ok (.iaload, 1) := by decide +kernel
theorem dL_law_281 : decode cL_law 281 = .ok (.aload_n 0, 1) := by decide +kernel
theorem dL_law_282 : decode cL_law 282 = .ok (.iload_n 3, 1) := by decide +kernel
theorem dL_law_283 : decode cL_law 283 = .ok (.iconst 4, 1) := by decide +kernel
theorem dL_law_284 : decode cL_law 284 = .ok (.iadd, 1) := by decide +kernel
theorem dL_law_285 : decode cL_law 285 = .ok (.iaload, 1) := by decide +kernel
theorem dL_law_286 : decode cL_law 286 = .ok (.aload_n 0, 1) := by decide +kernel
theorem dL_law_287 : decode cL_law 287 = .ok (.iload_n 3, 1) := by decide +kernel
theorem dL_law_288 : decode cL_law 288 = .ok (.iconst 5, 1) := by decide +kernel
theorem dL_law_289 : decode cL_law 289 = .ok (.iadd, 1) := by decide +kernel
theorem dL_law_290 : decode cL_law 290 = .ok (.iaload, 1) := by decide +kernel
theorem dL_law_291 : decode cL_law 291 = .ok (.invokevirtual 18, 3) := by decide +kernel
theorem dL_law_294 : decode cL_law 294 = .ok (.aload_n 2, 1) := by decide +kernel
theorem dL_law_295 : decode cL_law 295 = .ok (.aload_n 0, 1) := by decide +kernel
theorem dL_law_296 : decode cL_law 296 = .ok (.iload_n 3, 1) := by decide +kernel
theorem dL_law_297 : decode cL_law 297 = .ok (.iconst 1, 1) := by decide +kernel
theorem dL_law_298 : decode cL_law 298 = .ok (.iadd, 1) := by decide +kernel
theorem dL_law_299 : decode cL_law 299 = .ok (.iaload, 1) := by decide +kernel
theorem dL_law_300 : decode cL_law 300 = .ok (.aload_n 0, 1) := by decide +kernel
theorem dL_law_301 : decode cL_law 301 = .ok (.iload_n 3, 1) := by decide +kernel
theorem dL_law_302 : decode cL_law 302 = .ok (.iconst 2, 1) := by decide +kernel
theorem dL_law_303 : decode cL_law 303 = .ok (.iadd, 1) := by decide +kernel
theorem dL_law_304 : decode cL_law 304 = .ok (.iaload, 1) := by decide +kernel
theorem dL_law_305 : decode cL_law 305 = .ok (.aload_n 0, 1) := by decide +kernel
theorem dL_law_306 : decode cL_law 306 = .ok (.iload_n 3, 1) := by decide +kernel
theorem dL_law_307 : decode cL_law 307 = .ok (.iconst 3, 1) := by decide +kernel
theorem dL_law_308 : decode cL_law 308 = .ok (.iadd, 1) := by decide +kernel
theorem dL_law_309 : decode cL_law 309 = .ok (.iaload, 1) := by decide +kernel
theorem dL_law_310 : decode cL_law 310 = .ok (.aload_n 0, 1) := by decide +kernel
theorem dL_law_311 : decode cL_law 311 = .ok (.iload_n 3, 1) := by decide +kernel
theorem dL_law_312 : decode cL_law 312 = .ok (.iconst 4, 1) := by decide +kernel
theorem dL_law_313 : decode cL_law 313 = .ok (.iadd, 1) := by decide +kernel
theorem dL_law_314 : decode cL_law 314 = .ok (.iaload, 1) := by decide +kernel
theorem dL_law_315 : decode cL_law 315 = .ok (.aload_n 0, 1) := by decide +kernel
theorem dL_law_316 : decode cL_law 316 = .ok (.iload_n 3, 1) := by decide +kernel
theorem dL_law_317 : decode cL_law 317 = .ok (.iconst 5, 1) := by decide +kernel
theorem dL_law_318 : decode cL_law 318 = .ok (.iadd, 1) := by decide +kernel
theorem dL_law_319 : decode cL_law 319 = .ok (.iaload, 1) := by decide +kernel
theorem dL_law_320 : decode cL_law 320 = .ok (.invokevirtual 22, 3) := by decide +kernel
theorem dL_law_323 : decode cL_law 323 = .ok (.if_icmp .eq 1398, 3) := by decide +kernel
theorem dL_law_326 : decode cL_law 326 = .ok (.iconst 0, 1) := by decide +kernel
theorem dL_law_327 : decode cL_law 327 = .ok (.ireturn, 1) := by decide +kernel
theorem dL_law_328 : decode cL_law 328 = .ok (.aload_n 1, 1) := by decide +kernel
theorem dL_law_329 : decode cL_law 329 = .ok (.aload_n 0, 1) := by decide +kernel
theorem dL_law_330 : decode cL_law 330 = .ok (.iload_n 3, 1) := by decide +kernel
theorem dL_law_331 : decode cL_law 331 = .ok (.iconst 1, 1) := by decide +kernel
theorem dL_law_332 : decode cL_law 332 = .ok (.iadd, 1) := by decide +kernel
theorem dL_law_333 : decode cL_law 333 = .ok (.iaload, 1) := by decide +kernel
theorem dL_law_334 : decode cL_law 334 = .ok (.aload_n 0, 1) := by decide +kernel
theorem dL_law_335 : decode cL_law 335 = .ok (.iload_n 3, 1) := by decide +kernel
theorem dL_law_336 : decode cL_law 336 = .ok (.iconst 2, 1) := by decide +kernel
theorem dL_law_337 : decode cL_law 337 = .ok (.iadd, 1) := by decide +kernel
theorem dL_law_338 : decode cL_law 338 = .ok (.iaload, 1) := by decide +kernel
theorem dL_law_339 : decode cL_law 339 = .ok (.aload_n 0, 1) := by decide +kernel
theorem dL_law_340 : decode cL_law 340 = .ok (.iload_n 3, 1) := by decide +kernel
theorem dL_law_341 : decode cL_law 341 = .ok (.iconst 3, 1) := by decide +kernel
theorem dL_law_342 : decode cL_law 342 = .ok (.iadd, 1) := by decide +kernel
theorem dL_law_343 : decode cL_law 343 = .ok (.iaload, 1) := by decide +kernel
theorem dL_law_344 : decode cL_law 344 = .ok (.invokevirtual 23, 3) := by decide +kernel
theorem dL_law_347 : decode cL_law 347 = .ok (.aload_n 2, 1) := by decide +kernel
theorem dL_law_348 : decode cL_law 348 = .ok (.aload_n 0, 1) := by decide +kernel
theorem dL_law_349 : decode cL_law 349 = .ok (.iload_n 3, 1) := by decide +kernel
theorem dL_law_350 : decode cL_law 350 = .ok (.iconst 1, 1) := by decide +kernel
theorem dL_law_351 : decode cL_law 351 = .ok (.iadd, 1) := by decide +kernel
theorem dL_law_352 : decode cL_law 352 = .ok (.iaload, 1) := by decide +kernel
theorem dL_law_353 : decode cL_law 353 = .ok (.aload_n 0, 1) := by decide +kernel
theorem dL_law_354 : decode cL_law 354 = .ok (.iload_n 3, 1) := by decide +kernel
theorem dL_law_355 : decode cL_law 355 = .ok (.iconst 2, 1) := by decide +kernel
theorem dL_law_356 : decode cL_law 356 = .ok (.iadd, 1) := by decide +kernel
theorem dL_law_357 : decode cL_law 357 = .ok (.iaload, 1) := by decide +kernel
theorem dL_law_358 : decode cL_law 358 = .ok (.aload_n 0, 1) := by decide +kernel
theorem dL_law_359 : decode cL_law 359 = .ok (.iload_n 3, 1) := by decide +kernel
theorem dL_law_360 : decode cL_law 360 = .ok (.iconst 3, 1) := by decide +kernel
theorem dL_law_361 : decode cL_law 361 = .ok (.iadd, 1) := by decide +kernel
theorem dL_law_362 : decode cL_law 362 = .ok (.iaload, 1) := by decide +kernel
theorem dL_law_363 : decode cL_law 363 = .ok (.invokevirtual 27, 3) := by decide +kernel
theorem dL_law_366 : decode cL_law 366 = .ok (.if_icmp .eq 1355, 3) := by decide +kernel
theorem dL_law_369 : decode cL_law 369 = .ok (.iconst 0, 1) := by decide +kernel
theorem dL_law_370 : decode cL_law 370 = .ok (.ireturn, 1) := by decide +kernel
theorem dL_law_371 : decode cL_law 371 = .ok (.aload_n 1, 1) := by decide +kernel
theorem dL_law_372 : decode cL_law 372 = .ok (.aload_n 0, 1) := by decide +kernel
theorem dL_law_373 : decode cL_law 373 = .ok (.iload_n 3, 1) := by decide +kernel
theorem dL_law_374 : decode cL_law 374 = .ok (.iconst 1, 1) := by decide +kernel
theorem dL_law_375 : decode cL_law 375 = .ok (.iadd, 1) := by decide +kernel
theorem dL_law_376 : decode cL_law 376 = .ok (.iaload, 1) := by decide +kernel
theorem dL_law_377 : decode cL_law 377 = .ok (.aload_n 0, 1) := by decide +kernel
theorem dL_law_378 : decode cL_law 378 = .ok (.iload_n 3, 1) := by decide +kernel
theorem dL_law_379 : decode cL_law 379 = .ok (.iconst 2, 1) := by decide +kernel
theorem dL_law_380 : decode cL_law 380 = .ok (.iadd, 1) := by decide +kernel
theorem dL_law_381 : decode cL_law 381 = .ok (.iaload, 1) := by decide +kernel
theorem dL_law_382 : decode cL_law 382 = .ok (.invokevirtual 28, 3) := by decide +kernel
theorem dL_law_385 : decode cL_law 385 = .ok (.aload_n 2, 1) := by decide +kernel
theorem dL_law_386 : decode cL_law 386 = .ok (.aload_n 0, 1) := by decide +kernel
theorem dL_law_387 : decode cL_law 387 = .ok (.iload_n 3, 1) := by decide +kernel
theorem dL_law_388 : decode cL_law 388 = .ok (.iconst 1, 1) := by decide +kernel
theorem dL_law_389 : decode cL_law 389 = .ok (.iadd, 1) := by decide +kernel
theorem dL_law_390 : decode cL_law 390 = .ok (.iaload, 1) := by decide +kernel
theorem dL_law_391 : decode cL_law 391 = .ok (.aload_n 0, 1) := by decide +kernel
theorem dL_law_392 : decode cL_law 392 = .ok (.iload_n 3, 1) := by decide +kernel
theorem dL_law_393 : decode cL_law 393 = .ok (.iconst 2, 1) := by decide +kernel
theorem dL_law_394 : decode cL_law 394 = .ok (.iadd, 1) := by decide +kernel
theorem dL_law_395 : decode cL_law 395 = .ok (.iaload, 1) := by decide +kernel
theorem dL_law_396 : decode cL_law 396 = .ok (.invokevirtual 32, 3) := by decide +kernel
theorem dL_law_399 : decode cL_law 399 = .ok (.if_icmp .eq 1322, 3) := by decide +kernel
theorem dL_law_402 : decode cL_law 402 = .ok (.iconst 0, 1) := by decide +kernel
theorem dL_law_403 : decode cL_law 403 = .ok (.ireturn, 1) := by decide +kernel
theorem dL_law_404 : decode cL_law 404 = .ok (.aload_n 1, 1) := by decide +kernel
theorem dL_law_405 : decode cL_law 405 = .ok (.aload_n 0, 1) := by decide +kernel
theorem dL_law_406 : decode cL_law 406 = .ok (.iload_n 3, 1) := by decide +kernel
theorem dL_law_407 : decode cL_law 407 = .ok (.iconst 1, 1) := by decide +kernel
theorem dL_law_408 : decode cL_law 408 = .ok (.iadd, 1) := by decide +kernel
theorem dL_law_409 : decode cL_law 409 = .ok (.iaload, 1) := by decide +kernel
theorem dL_law_410 : decode cL_law 410 = .ok (.aload_n 0, 1) := by decide +kernel
theorem dL_law_411 : decode cL_law 411 = .ok (.iload_n 3, 1) := by decide +kernel
theorem dL_law_412 : decode cL_law 412 = .ok (.iconst 2, 1) := by decide +kernel
theorem dL_law_413 : decode cL_law 413 = .ok (.iadd, 1) := by decide +kernel
theorem dL_law_414 : decode cL_law 414 = .ok (.iaload, 1) := by decide +kernel
theorem dL_law_415 : decode cL_law 415 = .ok (.invokevirtual 33, 3) := by decide +kernel
theorem dL_law_418 : decode cL_law 418 = .ok (.aload_n 2, 1) := by decide +kernel
theorem dL_law_419 : decode cL_law 419 = .ok (.aload_n 0, 1) := by decide +kernel
theorem dL_law_420 : decode cL_law 420 = .ok (.iload_n 3, 1) := by decide +kernel
theorem dL_law_421 : decode cL_law 421 = .ok (.iconst 1, 1) := by decide +kernel
theorem dL_law_422 : decode cL_law 422 = .ok (.iadd, 1) := by decide +kernel
theorem dL_law_423 : decode cL_law 423 = .ok (.iaload, 1) := by decide +kernel
theorem dL_law_424 : decode cL_law 424 = .ok (.aload_n 0, 1) := by decide +kernel
theorem dL_law_425 : decode cL_law 425 = .ok (.iload_n 3, 1) := by decide +kernel
theorem dL_law_426 : decode cL_law 426 = .ok (.iconst 2, 1) := by decide +kernel
theorem dL_law_427 : decode cL_law 427 = .ok (.iadd, 1) := by decide +kernel
theorem dL_law_428 : decode cL_law 428 = .ok (.iaload, 1) := by decide +kernel
theorem dL_law_429 : decode cL_law 429 = .ok (.invokevirtual 36, 3) := by decide +kernel
theorem dL_law_432 : decode cL_law 432 = .ok (.if_icmp .eq 1289, 3) := by decide +kernel
theorem dL_law_435 : decode cL_law 435 = .ok (.iconst 0, 1) := by decide +kernel
theorem dL_law_436 : decode cL_law 436 = .ok (.ireturn, 1) := by decide +kernel
theorem dL_law_437 : decode cL_law 437 = .ok (.aload_n 1, 1) := by decide +kernel
theorem dL_law_438 : decode cL_law 438 = .ok (.aload_n 0, 1) := by decide +kernel
theorem dL_law_439 : decode cL_law 439 = .ok (.iload_n 3, 1) := by decide +kernel
theorem dL_law_440 : decode cL_law 440 = .ok (.iconst 1, 1) := by decide +kernel
theorem dL_law_441 : decode cL_law 441 = .ok (.iadd, 1) := by decide +kernel
theorem dL_law_442 : decode cL_law 442 = .ok (.iaload, 1) := by decide +kernel
theorem dL_law_443 : decode cL_law 443 = .ok (.aload_n 0, 1) := by decide +kernel
theorem dL_law_444 : decode cL_law 444 = .ok (.iload_n 3, 1) := by decide +kernel
theorem dL_law_445 : decode cL_law 445 = .ok (.iconst 2, 1) := by decide +kernel
theorem dL_law_446 : decode cL_law 446 = .ok (.iadd, 1) := by decide +kernel
theorem dL_law_447 : decode cL_law 447 = .ok (.iaload, 1) := by decide +kernel
theorem dL_law_448 : decode cL_law 448 = .ok (.ifCond .eq 7, 3) := by decide +kernel
theorem dL_law_451 : decode cL_law 451 = .ok (.iconst 1, 1) := by decide +kernel
theorem dL_law_452 : decode cL_law 452 = .ok (.goto 4, 3) := by decide +kernel
theorem dL_law_455 : decode cL_law 455 = .ok (.iconst 0, 1) := by decide +kernel
theorem dL_law_456 : decode cL_law 456 = .ok (.invokevirtual 37, 3) := by decide +kernel
theorem dL_law_459 : decode cL_law 459 = .ok (.aload_n 2, 1) := by decide +kernel
theorem dL_law_460 : decode cL_law 460 = .ok (.aload_n 0, 1) := by decide +kernel
theorem dL_law_461 : decode cL_law 461 = .ok (.iload_n 3, 1) := by decide +kernel
theorem dL_law_462 : decode cL_law 462 = .ok (.iconst 1, 1) := by decide +kernel
theorem dL_law_463 : decode cL_law 463 = .ok (.iadd, 1) := by decide +kernel
theorem dL_law_464 : decode cL_law 464 = .ok (.iaload, 1) := by decide +kernel
theorem dL_law_465 : decode cL_law 465 = .ok (.aload_n 0, 1) := by decide +kernel
theorem dL_law_466 : decode cL_law 466 = .ok (.iload_n 3, 1) := by decide +kernel
theorem dL_law_467 : decode cL_law 467 = .ok (.iconst 2, 1) := by decide +kernel
theorem dL_law_468 : decode cL_law 468 = .ok (.iadd, 1) := by decide +kernel
theorem dL_law_469 : decode cL_law 469 = .ok (.iaload, 1) := by decide +kernel
theorem dL_law_470 : decode cL_law 470 = .ok (.ifCond .eq 7, 3) := by decide +kernel
theorem dL_law_473 : decode cL_law 473 = .ok (.iconst 1, 1) := by decide +kernel
theorem dL_law_474 : decode cL_law 474 = .ok (.goto 4, 3) := by decide +kernel
theorem dL_law_477 : decode cL_law 477 = .ok (.iconst 0, 1) := by decide +kernel
theorem dL_law_478 : decode cL_law 478 = .ok (.invokevirtual 41, 3) := by decide +kernel
theorem dL_law_481 : decode cL_law 481 = .ok (.if_icmp .eq 1240, 3) := by decide +kernel
theorem dL_law_484 : decode cL_law 484 = .ok (.iconst 0, 1) := by decide +kernel
theorem dL_law_485 : decode cL_law 485 = .ok (.ireturn, 1) := by decide +kernel
theorem dL_law_486 : decode cL_law 486 = .ok (.aload_n 1, 1) := by decide +kernel
theorem dL_law_487 : decode cL_law 487 = .ok (.invokevirtual 42, 3) := by decide +kernel
theorem dL_law_490 : decode cL_law 490 = .ok (.aload_n 2, 1) := by decide +kernel
theorem dL_law_491 : decode cL_law 491 = .ok (.invokevirtual 46, 3) := by decide +kernel
theorem dL_law_494 : decode cL_law 494 = .ok (.if_icmp .eq 1227, 3) := by decide +kernel
theorem dL_law_497 : decode cL_law 497 = .ok (.iconst 0, 1) := by decide +kernel
theorem dL_law_498 : decode cL_law 498 = .ok (.ireturn, 1) := by decide +kernel
theorem dL_law_499 : decode cL_law 499 = .ok (.aload_n 1, 1) := by decide +kernel
theorem dL_law_500 : decode cL_law 500 = .ok (.aload_n 0, 1) := by decide +kernel
theorem dL_law_501 : decode cL_law 501 = .ok (.iload_n 3, 1) := by decide +kernel
theorem dL_law_502 : decode cL_law 502 = .ok (.iconst 1, 1) := by decide +kernel
theorem dL_law_503 : decode cL_law 503 = .ok (.iadd, 1) := by decide +kernel
theorem dL_law_504 : decode cL_law 504 = .ok (.iaload, 1) := by decide +kernel
theorem dL_law_505 : decode cL_law 505 = .ok (.aload_n 0, 1) := by decide +kernel
theorem dL_law_506 : decode cL_law 506 = .ok (.iload_n 3, 1) := by decide +kernel
theorem dL_law_507 : decode cL_law 507 = .ok (.iconst 2, 1) := by decide +kernel
theorem dL_law_508 : decode cL_law 508 = .ok (.iadd, 1) := by decide +kernel
theorem dL_law_509 : decode cL_law 509 = .ok (.iaload, 1) := by decide +kernel
theorem dL_law_510 : decode cL_law 510 = .ok (.aload_n 0, 1) := by decide +kernel
theorem dL_law_511 : decode cL_law 511 = .ok (.iload_n 3, 1) := by decide +kernel
theorem dL_law_512 : decode cL_law 512 = .ok (.iconst 3, 1) := by decide +kernel
theorem dL_law_513 : decode cL_law 513 = .ok (.iadd, 1) := by decide +kernel
theorem dL_law_514 : decode cL_law 514 = .ok (.iaload, 1) := by decide +kernel
theorem dL_law_515 : decode cL_law 515 = .ok (.aload_n 0, 1) := by decide +kernel
theorem dL_law_516 : decode cL_law 516 = .ok (.iload_n 3, 1) := by decide +kernel
theorem dL_law_517 : decode cL_law 517 = .ok (.iconst 4, 1) := by decide +kernel
theorem dL_law_518 : decode cL_law 518 = .ok (.iadd, 1) := by decide +kernel
theorem dL_law_519 : decode cL_law 519 = .ok (.iaload, 1) := by decide +kernel
theorem dL_law_520 : decode cL_law 520 = .ok (.invokevirtual 47, 3) := by decide +kernel
theorem dL_law_523 : decode cL_law 523 = .ok (.aload_n 2, 1) := by decide +kernel
theorem dL_law_524 : decode cL_law 524 = .ok (.aload_n 0, 1) := by decide +kernel
theorem dL_law_525 : decode cL_law 525 = .ok (.iload_n 3, 1) := by decide +kernel
theorem dL_law_526 : decode cL_law 526 = .ok (.iconst 1, 1) := by decide +kernel
theorem dL_law_527 : decode cL_law 527 = .ok (.iadd, 1) := by decide +kernel
theorem dL_law_528 : decode cL_law 528 = .ok (.iaload, 1) := by decide +kernel
theorem dL_law_529 : decode cL_law 529 = .ok (.aload_n 0, 1) := by decide +kernel
theorem dL_law_530 : decode cL_law 530 = .ok (.iload_n 3, 1) := by decide +kernel
theorem dL_law_531 : decode cL_law 531 = .ok (.iconst 2, 1) := by decide +kernel
theorem dL_law_532 : decode cL_law 532 = .ok (.iadd, 1) := by decide +kernel
theorem dL_law_533 : decode cL_law 533 = .ok (.iaload, 1) := by decide +kernel
theorem dL_law_534 : decode cL_law 534 = .ok (.aload_n 0, 1) := by decide +kernel
theorem dL_law_535 : decode cL_law 535 = .ok (.iload_n 3, 1) := by decide +kernel
theorem dL_law_536 : decode cL_law 536 = .ok (.iconst 3, 1) := by decide +kernel
theorem dL_law_537 : decode cL_law 537 = .ok (.iadd, 1) := by decide +kernel
theorem dL_law_538 : decode cL_law 538 = .ok (.iaload, 1) := by decide +kernel
theorem dL_law_539 : decode cL_law 539 = .ok (.aload_n 0, 1) := by decide +kernel
theorem dL_law_540 : decode cL_law 540 = .ok (.iload_n 3, 1) := by decide +kernel
theorem dL_law_541 : decode cL_law 541 = .ok (.iconst 4, 1) := by decide +kernel
theorem dL_law_542 : decode cL_law 542 = .ok (.iadd, 1) := by decide +kernel
theorem dL_law_543 : decode cL_law 543 = .ok (.iaload, 1) := by decide +kernel
theorem dL_law_544 : decode cL_law 544 = .ok (.invokevirtual 50, 3) := by decide +kernel
theorem dL_law_547 : decode cL_law 547 = .ok (.if_icmp .eq 1174, 3) := by decide +kernel
theorem dL_law_550 : decode cL_law 550 = .ok (.iconst 0, 1) := by decide +kernel
theorem dL_law_551 : decode cL_law 551 = .ok (.ireturn, 1) := by decide +kernel
theorem dL_law_552 : decode cL_law 552 = .ok (.aload_n 1, 1) := by decide +kernel
theorem dL_law_553 : decode cL_law 553 = .ok (.aload_n 0, 1) := by decide +kernel
theorem dL_law_554 : decode cL_law 554 = .ok (.iload_n 3, 1) := by decide +kernel
theorem dL_law_555 : decode cL_law 555 = .ok (.iconst 1, 1) := by decide +kernel
theorem dL_law_556 : decode cL_law 556 = .ok (.iadd, 1) := by decide +kernel
theorem dL_law_557 : decode cL_law 557 = .ok (.iaload, 1) := by decide +kernel
theorem dL_law_558 : decode cL_law 558 = .ok (.aload_n 0, 1) := by decide +kernel
theorem dL_law_559 : decode cL_law 559 = .ok (.iload_n 3, 1) := by decide +kernel
theorem dL_law_560 : decode cL_law 560 = .ok (.iconst 2, 1) := by decide +kernel
theorem dL_law_561 : decode cL_law 561 = .ok (.iadd, 1) := by decide +kernel
theorem dL_law_562 : decode cL_law 562 = .ok (.iaload, 1) := by decide +kernel
theorem dL_law_563 : decode cL_law 563 = .ok (.invokevirtual 51, 3) := by decide +kernel
theorem dL_law_566 : decode cL_law 566 = .ok (.aload_n 2, 1) := by decide +kernel
theorem dL_law_567 : decode cL_law 567 = .ok (.aload_n 0, 1) := by decide +kernel
theorem dL_law_568 : decode cL_law 568 = .ok (.iload_n 3, 1) := by decide +kernel
theorem dL_law_569 : decode cL_law 569 = .ok (.iconst 1, 1) := by decide +kernel
theorem dL_law_570 : decode cL_law 570 = .ok (.iadd, 1) := by decide +kernel
theorem dL_law_571 : decode cL_law 571 = .ok (.iaload, 1) := by decide +kernel
theorem dL_law_572 : decode cL_law 572 = .ok (.aload_n 0, 1) := by decide +kernel
theorem dL_law_573 : decode cL_law 573 = .ok (.iload_n 3, 1) := by decide +kernel
theorem dL_law_574 : decode cL_law 574 = .ok (.iconst 2, 1) := by decide +kernel
theorem dL_law_575 : decode cL_law 575 = .ok (.iadd, 1) := by decide +kernel
theorem dL_law_576 : decode cL_law 576 = .ok (.iaload, 1) := by decide +kernel
theorem dL_law_577 : decode cL_law 577 = .ok (.invokevirtual 54, 3) := by decide +kernel
theorem dL_law_580 : decode cL_law 580 = .ok (.if_icmp .eq 1141, 3) := by decide +kernel
theorem dL_law_583 : decode cL_law 583 = .ok (.iconst 0, 1) := by decide +kernel
theorem dL_law_584 : decode cL_law 584 = .ok (.ireturn, 1) := by decide +kernel
theorem dL_law_585 : decode cL_law 585 = .ok (.aload_n 1, 1) := by decide +kernel
theorem dL_law_586 : decode cL_law 586 = .ok (.aload_n 0, 1) := by decide +kernel
theorem dL_law_587 : decode cL_law 587 = .ok (.iload_n 3, 1) := by decide +kernel
theorem dL_law_588 : decode cL_law 588 = .ok (.iconst 1, 1) := by decide +kernel
theorem dL_law_589 : decode cL_law 589 = .ok (.iadd, 1) := by decide +kernel
theorem dL_law_590 : decode cL_law 590 = .ok (.iaload, 1) := by decide +kernel
theorem dL_law_591 : decode cL_law 591 = .ok (.aload_n 0, 1) := by decide +kernel
theorem dL_law_592 : decode cL_law 592 = .ok (.iload_n 3, 1) := by decide +kernel
theorem dL_law_593 : decode cL_law 593 = .ok (.iconst 2, 1) := by decide +kernel
theorem dL_law_594 : decode cL_law 594 = .ok (.iadd, 1) := by decide +kernel
theorem dL_law_595 : decode cL_law 595 = .ok (.iaload, 1) := by decide +kernel
theorem dL_law_596 : decode cL_law 596 = .ok (.aload_n 0, 1) := by decide +kernel
theorem dL_law_597 : decode cL_law 597 = .ok (.iload_n 3, 1) := by decide +kernel
theorem dL_law_598 : decode cL_law 598 = .ok (.iconst 3, 1) := by decide +kernel
theorem dL_law_599 : decode cL_law 599 = .ok (.iadd, 1) := by decide +kernel
theorem dL_law_600 : decode cL_law 600 = .ok (.iaload, 1) := by decide +kernel
theorem dL_law_601 : decode cL_law 601 = .ok (.aload_n 0, 1) := by decide +kernel
theorem dL_law_602 : decode cL_law 602 = .ok (.iload_n 3, 1) := by decide +kernel
theorem dL_law_603 : decode cL_law 603 = .ok (.iconst 4, 1) := by decide +kernel
theorem dL_law_604 : decode cL_law 604 = .ok (.iadd, 1) := by decide +kernel
theorem dL_law_605 : decode cL_law 605 = .ok (.iaload, 1) := by decide +kernel
theorem dL_law_606 : decode cL_law 606 = .ok (.invokevirtual 55, 3) := by decide +kernel
theorem dL_law_609 : decode cL_law 609 = .ok (.aload_n 2, 1) := by decide +kernel
theorem dL_law_610 : decode cL_law 610 = .ok (.aload_n 0, 1) := by decide +kernel
theorem dL_law_611 : decode cL_law 611 = .ok (.iload_n 3, 1) := by decide +kernel
theorem dL_law_612 : decode cL_law 612 = .ok (.iconst 1, 1) := by decide +kernel
theorem dL_law_613 : decode cL_law 613 = .ok (.iadd, 1) := by decide +kernel
theorem dL_law_614 : decode cL_law 614 = .ok (.iaload, 1) := by decide +kernel
theorem dL_law_615 : decode cL_law 615 = .ok (.aload_n 0, 1) := by decide +kernel
theorem dL_law_616 : decode cL_law 616 = .ok (.iload_n 3, 1) := by decide +kernel
theorem dL_law_617 : decode cL_law 617 = .ok (.iconst 2, 1) := by decide +kernel
theorem dL_law_618 : decode cL_law 618 = .ok (.iadd, 1) := by decide +kernel
theorem dL_law_619 : decode cL_law 619 = .ok (.iaload, 1) := by decide +kernel
theorem dL_law_620 : decode cL_law 620 = .ok (.aload_n 0, 1) := by decide +kernel
theorem dL_law_621 : decode cL_law 621 = .ok (.iload_n 3, 1) := by decide +kernel
theorem dL_law_622 : decode cL_law 622 = .ok (.iconst 3, 1) := by decide +kernel
theorem dL_law_623 : decode cL_law 623 = .ok (.iadd, 1) := by decide +kernel
theorem dL_law_624 : decode cL_law 624 = .ok (.iaload, 1) := by decide +kernel
theorem dL_law_625 : decode cL_law 625 = .ok (.aload_n 0, 1) := by decide +kernel
theorem dL_law_626 : decode cL_law 626 = .ok (.iload_n 3, 1) := by decide +kernel
theorem dL_law_627 : decode cL_law 627 = .ok (.iconst 4, 1) := by decide +kernel
theorem dL_law_628 : decode cL_law 628 = .ok (.iadd, 1) := by decide +kernel
theorem dL_law_629 : decode cL_law 629 = .ok (.iaload, 1) := by decide +kernel
theorem dL_law_630 : decode cL_law 630 = .ok (.invokevirtual 58, 3) := by decide +kernel
theorem dL_law_633 : decode cL_law 633 = .ok (.if_icmp .eq 1088, 3) := by decide +kernel
theorem dL_law_636 : decode cL_law 636 = .ok (.iconst 0, 1) := by decide +kernel
theorem dL_law_637 : decode cL_law 637 = .ok (.ireturn, 1) := by decide +kernel
theorem dL_law_638 : decode cL_law 638 = .ok (.aload_n 1, 1) := by decide +kernel
theorem dL_law_639 : decode cL_law 639 = .ok (.aload_n 0, 1) := by decide +kernel
theorem dL_law_640 : decode cL_law 640 = .ok (.iload_n 3, 1) := by decide +kernel
theorem dL_law_641 : decode cL_law 641 = .ok (.iconst 1, 1) := by decide +kernel
theorem dL_law_642 : decode cL_law 642 = .ok (.iadd, 1) := by decide +kernel
theorem dL_law_643 : decode cL_law 643 = .ok (.iaload, 1) := by decide +kernel
theorem dL_law_644 : decode cL_law 644 = .ok (.invokevirtual 59, 3) := by decide +kernel
theorem dL_law_647 : decode cL_law 647 = .ok (.aload_n 2, 1) := by decide +kernel
theorem dL_law_648 : decode cL_law 648 = .ok (.aload_n 0, 1) := by decide +kernel
theorem dL_law_649 : decode cL_law 649 = .ok (.iload_n 3, 1) := by decide +kernel
theorem dL_law_650 : decode cL_law 650 = .ok (.iconst 1, 1) := by decide +kernel
theorem dL_law_651 : decode cL_law 651 = .ok (.iadd, 1) := by decide +kernel
theorem dL_law_652 : decode cL_law 652 = .ok (.iaload, 1) := by decide +kernel
theorem dL_law_653 : decode cL_law 653 = .ok (.invokevirtual 63, 3) := by decide +kernel
theorem dL_law_656 : decode cL_law 656 = .ok (.if_icmp .eq 1065, 3) := by decide +kernel
theorem dL_law_659 : decode cL_law 659 = .ok (.iconst 0, 1) := by decide +kernel
theorem dL_law_660 : decode cL_law 660 = .ok (.ireturn, 1) := by decide +kernel
theorem dL_law_661 : decode cL_law 661 = .ok (.aload_n 1, 1) := by decide +kernel
theorem dL_law_662 : decode cL_law 662 = .ok (.aload_n 0, 1) := by decide +kernel
theorem dL_law_663 : decode cL_law 663 = .ok (.iload_n 3, 1) := by decide +kernel
theorem dL_law_664 : decode cL_law 664 = .ok (.iconst 1, 1) := by decide +kernel
theorem dL_law_665 : decode cL_law 665 = .ok (.iadd, 1) := by decide +kernel
theorem dL_law_666 : decode cL_law 666 = .ok (.iaload, 1) := by decide +kernel
theorem dL_law_667 : decode cL_law 667 = .ok (.aload_n 0, 1) := by decide +kernel
theorem dL_law_668 : decode cL_law 668 = .ok (.iload_n 3, 1) := by decide +kernel
theorem dL_law_669 : decode cL_law 669 = .ok (.iconst 2, 1) := by decide +kernel
theorem dL_law_670 : decode cL_law 670 = .ok (.iadd, 1) := by decide +kernel
theorem dL_law_671 : decode cL_law 671 = .ok (.iaload, 1) := by decide +kernel
theorem dL_law_672 : decode cL_law 672 = .ok (.invokevirtual 64, 3) := by decide +kernel
theorem dL_law_675 : decode cL_law 675 = .ok (.aload_n 2, 1) := by decide +kernel
theorem dL_law_676 : decode cL_law 676 = .ok (.aload_n 0, 1) := by decide +kernel
theorem dL_law_677 : decode cL_law 677 = .ok (.iload_n 3, 1) := by decide +kernel
theorem dL_law_678 : decode cL_law 678 = .ok (.iconst 1, 1) := by decide +kernel
theorem dL_law_679 : decode cL_law 679 = .ok (.iadd, 1) := by decide +kernel
theorem dL_law_680 : decode cL_law 680 = .ok (.iaload, 1) := by decide +kernel
theorem dL_law_681 : decode cL_law 681 = .ok (.aload_n 0, 1) := by decide +kernel
theorem dL_law_682 : decode cL_law 682 = .ok (.iload_n 3, 1) := by decide +kernel
theorem dL_law_683 : decode cL_law 683 = .ok (.iconst 2, 1) := by decide +kernel
theorem dL_law_684 : decode cL_law 684 = .ok (.iadd, 1) := by decide +kernel
theorem dL_law_685 : decode cL_law 685 = .ok (.iaload, 1) := by decide +kernel
theorem dL_law_686 : decode cL_law 686 = .ok (.invokevirtual 67, 3) := by decide +kernel
theorem dL_law_689 : decode cL_law 689 = .ok (.if_icmp .eq 1032, 3) := by decide +kernel
theorem dL_law_692 : decode cL_law 692 = .ok (.iconst 0, 1) := by decide +kernel
theorem dL_law_693 : decode cL_law 693 = .ok (.ireturn, 1) := by decide +kernel
theorem dL_law_694 : decode cL_law 694 = .ok (.aload_n 1, 1) := by decide +kernel
theorem dL_law_695 : decode cL_law 695 = .ok (.aload_n 0, 1) := by decide +kernel
theorem dL_law_696 : decode cL_law 696 = .ok (.iload_n 3, 1) := by decide +kernel
theorem dL_law_697 : decode cL_law 697 = .ok (.iconst 1, 1) := by decide +kernel
theorem dL_law_698 : decode cL_law 698 = .ok (.iadd, 1) := by decide +kernel
theorem dL_law_699 : decode cL_law 699 = .ok (.iaload, 1) := by decide +kernel
theorem dL_law_700 : decode cL_law 700 = .ok (.aload_n 0, 1) := by decide +kernel
theorem dL_law_701 : decode cL_law 701 = .ok (.iload_n 3, 1) := by decide +kernel
theorem dL_law_702 : decode cL_law 702 = .ok (.iconst 2, 1) := by decide +kernel
theorem dL_law_703 : decode cL_law 703 = .ok (.iadd, 1) := by decide +kernel
theorem dL_law_704 : decode cL_law 704 = .ok (.iaload, 1) := by decide +kernel
theorem dL_law_705 : decode cL_law 705 = .ok (.aload_n 0, 1) := by decide +kernel
theorem dL_law_706 : decode cL_law 706 = .ok (.iload_n 3, 1) := by decide +kernel
theorem dL_law_707 : decode cL_law 707 = .ok (.iconst 3, 1) := by decide +kernel
theorem dL_law_708 : decode cL_law 708 = .ok (.iadd, 1) := by decide +kernel
theorem dL_law_709 : decode cL_law 709 = .ok (.iaload, 1) := by decide +kernel
theorem dL_law_710 : decode cL_law 710 = .ok (.aload_n 0, 1) := by decide +kernel
theorem dL_law_711 : decode cL_law 711 = .ok (.iload_n 3, 1) := by decide +kernel
theorem dL_law_712 : decode cL_law 712 = .ok (.iconst 4, 1) := by decide +kernel
theorem dL_law_713 : decode cL_law 713 = .ok (.iadd, 1) := by decide +kernel
theorem dL_law_714 : decode cL_law 714 = .ok (.iaload, 1) := by decide +kernel
theorem dL_law_715 : decode cL_law 715 = .ok (.aload_n 0, 1) := by decide +kernel
theorem dL_law_716 : decode cL_law 716 = .ok (.iload_n 3, 1) := by decide +kernel
theorem dL_law_717 : decode cL_law 717 = .ok (.iconst 5, 1) := by decide +kernel
theorem dL_law_718 : decode cL_law 718 = .ok (.iadd, 1) := by decide +kernel
theorem dL_law_719 : decode cL_law 719 = .ok (.iaload, 1) := by decide +kernel
theorem dL_law_720 : decode cL_law 720 = .ok (.aload_n 0, 1) := by decide +kernel
theorem dL_law_721 : decode cL_law 721 = .ok (.iload_n 3, 1) := by decide +kernel
theorem dL_law_722 : decode cL_law 722 = .ok (.bipush 6, 2) := by decide +kernel
theorem dL_law_724 : decode cL_law 724 = .ok (.iadd, 1) := by decide +kernel
theorem dL_law_725 : decode cL_law 725 = .ok (.iaload, 1) := by decide +kernel
theorem dL_law_726 : decode cL_law 726 = .ok (.invokevirtual 68, 3) := by decide +kernel
theorem dL_law_729 : decode cL_law 729 = .ok (.aload_n 2, 1) := by decide +kernel
theorem dL_law_730 : decode cL_law 730 = .ok (.aload_n 0, 1) := by decide +kernel
theorem dL_law_731 : decode cL_law 731 = .ok (.iload_n 3, 1) := by decide +kernel
theorem dL_law_732 : decode cL_law 732 = .ok (.iconst 1, 1) := by decide +kernel
theorem dL_law_733 : decode cL_law 733 = .ok (.iadd, 1) := by decide +kernel
theorem dL_law_734 : decode cL_law 734 = .ok (.iaload, 1) := by decide +kernel
theorem dL_law_735 : decode cL_law 735 = .ok (.aload_n 0, 1) := by decide +kernel
theorem dL_law_736 : decode cL_law 736 = .ok (.iload_n 3, 1) := by decide +kernel
theorem dL_law_737 : decode cL_law 737 = .ok (.iconst 2, 1) := by decide +kernel
theorem dL_law_738 : decode cL_law 738 = .ok (.iadd, 1) := by decide +kernel
theorem dL_law_739 : decode cL_law 739 = .ok (.iaload, 1) := by decide +kernel
theorem dL_law_740 : decode cL_law 740 = .ok (.aload_n 0, 1) := by decide +kernel
theorem dL_law_741 : decode cL_law 741 = .ok (.iload_n 3, 1) := by decide +kernel
theorem dL_law_742 : decode cL_law 742 = .ok (.iconst 3, 1) := by decide +kernel
theorem dL_law_743 : decode cL_law 743 = .ok (.iadd, 1) := by decide +kernel
theorem dL_law_744 : decode cL_law 744 = .ok (.iaload, 1) := by decide +kernel
theorem dL_law_745 : decode cL_law 745 = .ok (.aload_n 0, 1) := by decide +kernel
theorem dL_law_746 : decode cL_law 746 = .ok (.iload_n 3, 1) := by decide +kernel
theorem dL_law_747 : decode cL_law 747 = .ok (.iconst 4, 1) := by decide +kernel
theorem dL_law_748 : decode cL_law 748 = .ok (.iadd, 1) := by decide +kernel
theorem dL_law_749 : decode cL_law 749 = .ok (.iaload, 1) := by decide +kernel
theorem dL_law_750 : decode cL_law 750 = .ok (.aload_n 0, 1) := by decide +kernel
theorem dL_law_751 : decode cL_law 751 = .ok (.iload_n 3, 1) := by decide +kernel
theorem dL_law_752 : decode cL_law 752 = .ok (.iconst 5, 1) := by decide +kernel
theorem dL_law_753 : decode cL_law 753 = .ok (.iadd, 1) := by decide +kernel
theorem dL_law_754 : decode cL_law 754 = .ok (.iaload, 1) := by decide +kernel
theorem dL_law_755 : decode cL_law 755 = .ok (.aload_n 0, 1) := by decide +kernel
theorem dL_law_756 : decode cL_law 756 = .ok (.iload_n 3, 1) := by decide +kernel
theorem dL_law_757 : decode cL_law 757 = .ok (.bipush 6, 2) := by decide +kernel
theorem dL_law_759 : decode cL_law 759 = .ok (.iadd, 1) := by decide +kernel
theorem dL_law_760 : decode cL_law 760 = .ok (.iaload, 1) := by decide +kernel
theorem dL_law_761 : decode cL_law 761 = .ok (.invokevirtual 72, 3) := by decide +kernel
theorem dL_law_764 : decode cL_law 764 = .ok (.if_icmp .eq 957, 3) := by decide +kernel
theorem dL_law_767 : decode cL_law 767 = .ok (.iconst 0, 1) := by decide +kernel
theorem dL_law_768 : decode cL_law 768 = .ok (.ireturn, 1) := by decide +kernel
theorem dL_law_769 : decode cL_law 769 = .ok (.aload_n 1, 1) := by decide +kernel
theorem dL_law_770 : decode cL_law 770 = .ok (.aload_n 0, 1) := by decide +kernel
theorem dL_law_771 : decode cL_law 771 = .ok (.iload_n 3, 1) := by decide +kernel
theorem dL_law_772 : decode cL_law 772 = .ok (.iconst 1, 1) := by decide +kernel
theorem dL_law_773 : decode cL_law 773 = .ok (.iadd, 1) := by decide +kernel
theorem dL_law_774 : decode cL_law 774 = .ok (.iaload, 1) := by decide +kernel
theorem dL_law_775 : decode cL_law 775 = .ok (.aload_n 0, 1) := by decide +kernel
theorem dL_law_776 : decode cL_law 776 = .ok (.iload_n 3, 1) := by decide +kernel
theorem dL_law_777 : decode cL_law 777 = .ok (.iconst 2, 1) := by decide +kernel
theorem dL_law_778 : decode cL_law 778 = .ok (.iadd, 1) := by decide +kernel
theorem dL_law_779 : decode cL_law 779 = .ok (.iaload, 1) := by decide +kernel
theorem dL_law_780 : decode cL_law 780 = .ok (.invokevirtual 73, 3) := by decide +kernel
theorem dL_law_783 : decode cL_law 783 = .ok (.aload_n 2, 1) := by decide +kernel
theorem dL_law_784 : decode cL_law 784 = .ok (.aload_n 0, 1) := by decide +kernel
theorem dL_law_785 : decode cL_law 785 = .ok (.iload_n 3, 1) := by decide +kernel
theorem dL_law_786 : decode cL_law 786 = .ok (.iconst 1, 1) := by decide +kernel
theorem dL_law_787 : decode cL_law 787 = .ok (.iadd, 1) := by decide +kernel
theorem dL_law_788 : decode cL_law 788 = .ok (.iaload, 1) := by decide +kernel
theorem dL_law_789 : decode cL_law 789 = .ok (.aload_n 0, 1) := by decide +kernel
theorem dL_law_790 : decode cL_law 790 = .ok (.iload_n 3, 1) := by decide +kernel
theorem dL_law_791 : decode cL_law 791 = .ok (.iconst 2, 1) := by decide +kernel
theorem dL_law_792 : decode cL_law 792 = .ok (.iadd, 1) := by decide +kernel
theorem dL_law_793 : decode cL_law 793 = .ok (.iaload, 1) := by decide +kernel
theorem dL_law_794 : decode cL_law 794 = .ok (.invokevirtual 76, 3) := by decide +kernel
theorem dL_law_797 : decode cL_law 797 = .ok (.if_icmp .eq 924, 3) := by decide +kernel
theorem dL_law_800 : decode cL_law 800 = .ok (.iconst 0, 1) := by decide +kernel
theorem dL_law_801 : decode cL_law 801 = .ok (.ireturn, 1) := by decide +kernel
theorem dL_law_802 : decode cL_law 802 = .ok (.aload_n 1, 1) := by decide +kernel
theorem dL_law_803 : decode cL_law 803 = .ok (.invokevirtual 77, 3) := by decide +kernel
theorem dL_law_806 : decode cL_law 806 = .ok (.aload_n 2, 1) := by decide +kernel
theorem dL_law_807 : decode cL_law 807 = .ok (.invokevirtual 80, 3) := by decide +kernel
theorem dL_law_810 : decode cL_law 810 = .ok (.if_icmp .eq 911, 3) := by decide +kernel
theorem dL_law_813 : decode cL_law 813 = .ok (.iconst 0, 1) := by decide +kernel
theorem dL_law_814 : decode cL_law 814 = .ok (.ireturn, 1) := by decide +kernel
theorem dL_law_815 : decode cL_law 815 = .ok (.aload_n 1, 1) := by decide +kernel
theorem dL_law_816 : decode cL_law 816 = .ok (.invokevirtual 81, 3) := by decide +kernel
theorem dL_law_819 : decode cL_law 819 = .ok (.aload_n 2, 1) := by decide +kernel
theorem dL_law_820 : decode cL_law 820 = .ok (.invokevirtual 84, 3) := by decide +kernel
theorem dL_law_823 : decode cL_law 823 = .ok (.if_icmp .eq 898, 3) := by decide +kernel
theorem dL_law_826 : decode cL_law 826 = .ok (.iconst 0, 1) := by decide +kernel
theorem dL_law_827 : decode cL_law 827 = .ok (.ireturn, 1) := by decide +kernel
theorem dL_law_828 : decode cL_law 828 = .ok (.aload_n 1, 1) := by decide +kernel
theorem dL_law_829 : decode cL_law 829 = .ok (.aload_n 0, 1) := by decide +kernel
theorem dL_law_830 : decode cL_law 830 = .ok (.iload_n 3, 1) := by decide +kernel
theorem dL_law_831 : decode cL_law 831 = .ok (.iconst 1, 1) := by decide +kernel
theorem dL_law_832 : decode cL_law 832 = .ok (.iadd, 1) := by decide +kernel
end
section
theorem dL_law_833 : decode cL_law 833 = .ok (.iaload, 1) := by decide +kernel
theorem dL_law_834 : decode cL_law 834 = .ok (.aload_n 0, 1) := by decide +kernel
theorem dL_law_835 : decode cL_law 835 = .ok (.iload_n 3, 1) := by decide +kernel
theorem dL_law_836 : decode cL_law 836 = .ok (.iconst 2, 1) := by decide +kernel
theorem dL_law_837 : decode cL_law 837 = .ok (.iadd, 1) := by decide +kernel
theorem dL_law_838 : decode cL_law 838 = .ok (.iaload, 1) := by decide +kernel
theorem dL_law_839 : decode cL_law 839 = .ok (.invokevirtual 85, 3) := by decide +kernel
theorem dL_law_842 : decode cL_law 842 = .ok (.aload_n 2, 1) := by decide +kernel
theorem dL_law_843 : decode cL_law 843 = .ok (.aload_n 0, 1) := by decide +kernel
theorem dL_law_844 : decode cL_law 844 = .ok (.iload_n 3, 1) := by decide +kernel
theorem dL_law_845 : decode cL_law 845 = .ok (.iconst 1, 1) := by decide +kernel
theorem dL_law_846 : decode cL_law 846 = .ok (.iadd, 1) := by decide +kernel
theorem dL_law_847 : decode cL_law 847 = .ok (.iaload, 1) := by decide +kernel
theorem dL_law_848 : decode cL_law 848 = .ok (.aload_n 0, 1) := by decide +kernel
theorem dL_law_849 : decode cL_law 849 = .ok (.iload_n 3, 1) := by decide +kernel
theorem dL_law_850 : decode cL_law 850 = .ok (.iconst 2, 1) := by decide +kernel
theorem dL_law_851 : decode cL_law 851 = .ok (.iadd, 1) := by decide +kernel
theorem dL_law_852 : decode cL_law 852 = .ok (.iaload, 1) := by decide +kernel
theorem dL_law_853 : decode cL_law 853 = .ok (.invokevirtual 88, 3) := by decide +kernel
theorem dL_law_856 : decode cL_law 856 = .ok (.if_icmp .eq 865, 3) := by decide +kernel
theorem dL_law_859 : decode cL_law 859 = .ok (.iconst 0, 1) := by decide +kernel
theorem dL_law_860 : decode cL_law 860 = .ok (.ireturn, 1) := by decide +kernel
theorem dL_law_861 : decode cL_law 861 = .ok (.aload_n 1, 1) := by decide +kernel
theorem dL_law_862 : decode cL_law 862 = .ok (.aload_n 0, 1) := by decide +kernel
theorem dL_law_863 : decode cL_law 863 = .ok (.iload_n 3, 1) := by decide +kernel
theorem dL_law_864 : decode cL_law 864 = .ok (.iconst 1, 1) := by decide +kernel
theorem dL_law_865 : decode cL_law 865 = .ok (.iadd, 1) := by decide +kernel
theorem dL_law_866 : decode cL_law 866 = .ok (.iaload, 1) := by decide +kernel
theorem dL_law_867 : decode cL_law 867 = .ok (.invokevirtual 89, 3) := by decide +kernel
theorem dL_law_870 : decode cL_law 870 = .ok (.aload_n 2, 1) := by decide +kernel
theorem dL_law_871 : decode cL_law 871 = .ok (.aload_n 0, 1) := by decide +kernel
theorem dL_law_872 : decode cL_law 872 = .ok (.iload_n 3, 1) := by decide +kernel
theorem dL_law_873 : decode cL_law 873 = .ok (.iconst 1, 1) := by decide +kernel
theorem dL_law_874 : decode cL_law 874 = .ok (.iadd, 1) := by decide +kernel
theorem dL_law_875 : decode cL_law 875 = .ok (.iaload, 1) := by decide +kernel
theorem dL_law_876 : decode cL_law 876 = .ok (.invokevirtual 92, 3) := by decide +kernel
theorem dL_law_879 : decode cL_law 879 = .ok (.if_icmp .eq 842, 3) := by decide +kernel
theorem dL_law_882 : decode cL_law 882 = .ok (.iconst 0, 1) := by decide +kernel
theorem dL_law_883 : decode cL_law 883 = .ok (.ireturn, 1) := by decide +kernel
theorem dL_law_884 : decode cL_law 884 = .ok (.aload_n 1, 1) := by decide +kernel
theorem dL_law_885 : decode cL_law 885 = .ok (.aload_n 0, 1) := by decide +kernel
theorem dL_law_886 : decode cL_law 886 = .ok (.iload_n 3, 1) := by decide +kernel
theorem dL_law_887 : decode cL_law 887 = .ok (.iconst 1, 1) := by decide +kernel
theorem dL_law_888 : decode cL_law 888 = .ok (.iadd, 1) := by decide +kernel
theorem dL_law_889 : decode cL_law 889 = .ok (.iaload, 1) := by decide +kernel
theorem dL_law_890 : decode cL_law 890 = .ok (.aload_n 0, 1) := by decide +kernel
theorem dL_law_891 : decode cL_law 891 = .ok (.iload_n 3, 1) := by decide +kernel
theorem dL_law_892 : decode cL_law 892 = .ok (.iconst 2, 1) := by decide +kernel
theorem dL_law_893 : decode cL_law 893 = .ok (.iadd, 1) := by decide +kernel
theorem dL_law_894 : decode cL_law 894 = .ok (.iaload, 1) := by decide +kernel
theorem dL_law_895 : decode cL_law 895 = .ok (.aload_n 0, 1) := by decide +kernel
theorem dL_law_896 : decode cL_law 896 = .ok (.iload_n 3, 1) := by decide +kernel
theorem dL_law_897 : decode cL_law 897 = .ok (.iconst 3, 1) := by decide +kernel
theorem dL_law_898 : decode cL_law 898 = .ok (.iadd, 1) := by decide +kernel
theorem dL_law_899 : decode cL_law 899 = .ok (.iaload, 1) := by decide +kernel
theorem dL_law_900 : decode cL_law 900 = .ok (.aload_n 0, 1) := by decide +kernel
theorem dL_law_901 : decode cL_law 901 = .ok (.iload_n 3, 1) := by decide +kernel
theorem dL_law_902 : decode cL_law 902 = .ok (.iconst 4, 1) := by decide +kernel
theorem dL_law_903 : decode cL_law 903 = .ok (.iadd, 1) := by decide +kernel
theorem dL_law_904 : decode cL_law 904 = .ok (.iaload, 1) := by decide +kernel
theorem dL_law_905 : decode cL_law 905 = .ok (.aload_n 0, 1) := by decide +kernel
theorem dL_law_906 : decode cL_law 906 = .ok (.iload_n 3, 1) := by decide +kernel
theorem dL_law_907 : decode cL_law 907 = .ok (.iconst 5, 1) := by decide +kernel
theorem dL_law_908 : decode cL_law 908 = .ok (.iadd, 1) := by decide +kernel
theorem dL_law_909 : decode cL_law 909 = .ok (.iaload, 1) := by decide +kernel
theorem dL_law_910 : decode cL_law 910 = .ok (.aload_n 0, 1) := by decide +kernel
theorem dL_law_911 : decode cL_law 911 = .ok (.iload_n 3, 1) := by decide +kernel
theorem dL_law_912 : decode cL_law 912 = .ok (.bipush 6, 2) := by decide +kernel
theorem dL_law_914 : decode cL_law 914 = .ok (.iadd, 1) := by decide +kernel
theorem dL_law_915 : decode cL_law 915 = .ok (.iaload, 1) := by decide +kernel
theorem dL_law_916 : decode cL_law 916 = .ok (.aload_n 0, 1) := by decide +kernel
theorem dL_law_917 : decode cL_law 917 = .ok (.iload_n 3, 1) := by decide +kernel
theorem dL_law_918 : decode cL_law 918 = .ok (.bipush 7, 2) := by decide +kernel
theorem dL_law_920 : decode cL_law 920 = .ok (.iadd, 1) := by decide +kernel
theorem dL_law_921 : decode cL_law 921 = .ok (.iaload, 1) := by decide +kernel
theorem dL_law_922 : decode cL_law 922 = .ok (.invokevirtual 93, 3) := by decide +kernel
theorem dL_law_925 : decode cL_law 925 = .ok (.aload_n 2, 1) := by decide +kernel
theorem dL_law_926 : decode cL_law 926 = .ok (.aload_n 0, 1) := by decide +kernel
theorem dL_law_927 : decode cL_law 927 = .ok (.iload_n 3, 1) := by decide +kernel
theorem dL_law_928 : decode cL_law 928 = .ok (.iconst 1, 1) := by decide +kernel
theorem dL_law_929 : decode cL_law 929 = .ok (.iadd, 1) := by decide +kernel
theorem dL_law_930 : decode cL_law 930 = .ok (.iaload, 1) := by decide +kernel
theorem dL_law_931 : decode cL_law 931 = .ok (.aload_n 0, 1) := by decide +kernel
theorem dL_law_932 : decode cL_law 932 = .ok (.iload_n 3, 1) := by decide +kernel
theorem dL_law_933 : decode cL_law 933 = .ok (.iconst 2, 1) := by decide +kernel
theorem dL_law_934 : decode cL_law 934 = .ok (.iadd, 1) := by decide +kernel
theorem dL_law_935 : decode cL_law 935 = .ok (.iaload, 1) := by decide +kernel
theorem dL_law_936 : decode cL_law 936 = .ok (.aload_n 0, 1) := by decide +kernel
theorem dL_law_937 : decode cL_law 937 = .ok (.iload_n 3, 1) := by decide +kernel
theorem dL_law_938 : decode cL_law 938 = .ok (.iconst 3, 1) := by decide +kernel
theorem dL_law_939 : decode cL_law 939 = .ok (.iadd, 1) := by decide +kernel
theorem dL_law_940 : decode cL_law 940 = .ok (.iaload, 1) := by decide +kernel
theorem dL_law_941 : decode cL_law 941 = .ok (.aload_n 0, 1) := by decide +kernel
theorem dL_law_942 : decode cL_law 942 = .ok (.iload_n 3, 1) := by decide +kernel
theorem dL_law_943 : decode cL_law 943 = .ok (.iconst 4, 1) := by decide +kernel
theorem dL_law_944 : decode cL_law 944 = .ok (.iadd, 1) := by decide +kernel
theorem dL_law_945 : decode cL_law 945 = .ok (.iaload, 1) := by decide +kernel
theorem dL_law_946 : decode cL_law 946 = .ok (.aload_n 0, 1) := by decide +kernel
theorem dL_law_947 : decode cL_law 947 = .ok (.iload_n 3, 1) := by decide +kernel
theorem dL_law_948 : decode cL_law 948 = .ok (.iconst 5, 1) := by decide +kernel
theorem dL_law_949 : decode cL_law 949 = .ok (.iadd, 1) := by decide +kernel
theorem dL_law_950 : decode cL_law 950 = .ok (.iaload, 1) := by decide +kernel
theorem dL_law_951 : decode cL_law 951 = .ok (.aload_n 0, 1) := by decide +kernel
theorem dL_law_952 : decode cL_law 952 = .ok (.iload_n 3, 1) := by decide +kernel
theorem dL_law_953 : decode cL_law 953 = .ok (.bipush 6, 2) := by decide +kernel
theorem dL_law_955 : decode cL_law 955 = .ok (.iadd, 1) := by decide +kernel
theorem dL_law_956 : decode cL_law 956 = .ok (.iaload, 1) := by decide +kernel
theorem dL_law_957 : decode cL_law 957 = .ok (.aload_n 0, 1) := by decide +kernel
theorem dL_law_958 : decode cL_law 958 = .ok (.iload_n 3, 1) := by decide +kernel
theorem dL_law_959 : decode cL_law 959 = .ok (.bipush 7, 2) := by decide +kernel
theorem dL_law_961 : decode cL_law 961 = .ok (.iadd, 1) := by decide +kernel
theorem dL_law_962 : decode cL_law 962 = .ok (.iaload, 1) := by decide +kernel
theorem dL_law_963 : decode cL_law 963 = .ok (.invokevirtual 97, 3) := by decide +kernel
theorem dL_law_966 : decode cL_law 966 = .ok (.if_icmp .eq 755, 3) := by decide +kernel
theorem dL_law_969 : decode cL_law 969 = .ok (.iconst 0, 1) := by decide +kernel
theorem dL_law_970 : decode cL_law 970 = .ok (.ireturn, 1) := by decide +kernel
theorem dL_law_971 : decode cL_law 971 = .ok (.aload_n 1, 1) := by decide +kernel
theorem dL_law_972 : decode cL_law 972 = .ok (.aload_n 0, 1) := by decide +kernel
theorem dL_law_973 : decode cL_law 973 = .ok (.iload_n 3, 1) := by decide +kernel
theorem dL_law_974 : decode cL_law 974 = .ok (.iconst 1, 1) := by decide +kernel
theorem dL_law_975 : decode cL_law 975 = .ok (.iadd, 1) := by decide +kernel
theorem dL_law_976 : decode cL_law 976 = .ok (.iaload, 1) := by decide +kernel
theorem dL_law_977 : decode cL_law 977 = .ok (.invokevirtual 98, 3) := by decide +kernel
theorem dL_law_980 : decode cL_law 980 = .ok (.aload_n 2, 1) := by decide +kernel
theorem dL_law_981 : decode cL_law 981 = .ok (.aload_n 0, 1) := by decide +kernel
theorem dL_law_982 : decode cL_law 982 = .ok (.iload_n 3, 1) := by decide +kernel
theorem dL_law_983 : decode cL_law 983 = .ok (.iconst 1, 1) := by decide +kernel
theorem dL_law_984 : decode cL_law 984 = .ok (.iadd, 1) := by decide +kernel
theorem dL_law_985 : decode cL_law 985 = .ok (.iaload, 1) := by decide +kernel
theorem dL_law_986 : decode cL_law 986 = .ok (.invokevirtual 101, 3) := by decide +kernel
theorem dL_law_989 : decode cL_law 989 = .ok (.if_icmp .eq 732, 3) := by decide +kernel
theorem dL_law_992 : decode cL_law 992 = .ok (.iconst 0, 1) := by decide +kernel
theorem dL_law_993 : decode cL_law 993 = .ok (.ireturn, 1) := by decide +kernel
theorem dL_law_994 : decode cL_law 994 = .ok (.aload_n 1, 1) := by decide +kernel
theorem dL_law_995 : decode cL_law 995 = .ok (.aload_n 0, 1) := by decide +kernel
theorem dL_law_996 : decode cL_law 996 = .ok (.iload_n 3, 1) := by decide +kernel
theorem dL_law_997 : decode cL_law 997 = .ok (.iconst 1, 1) := by decide +kernel
theorem dL_law_998 : decode cL_law 998 = .ok (.iadd, 1) := by decide +kernel
theorem dL_law_999 : decode cL_law 999 = .ok (.iaload, 1) := by decide +kernel
theorem dL_law_1000 : decode cL_law 1000 = .ok (.aload_n 0, 1) := by decide +kernel
theorem dL_law_1001 : decode cL_law 1001 = .ok (.iload_n 3, 1) := by decide +kernel
theorem dL_law_1002 : decode cL_law 1002 = .ok (.iconst 2, 1) := by decide +kernel
theorem dL_law_1003 : decode cL_law 1003 = .ok (.iadd, 1) := by decide +kernel
theorem dL_law_1004 : decode cL_law 1004 = .ok (.iaload, 1) := by decide +kernel
theorem dL_law_1005 : decode cL_law 1005 = .ok (.invokevirtual 102, 3) := by decide +kernel
theorem dL_law_1008 : decode cL_law 1008 = .ok (.aload_n 2, 1) := by decide +kernel
theorem dL_law_1009 : decode cL_law 1009 = .ok (.aload_n 0, 1) := by decide +kernel
theorem dL_law_1010 : decode cL_law 1010 = .ok (.iload_n 3, 1) := by decide +kernel
theorem dL_law_1011 : decode cL_law 1011 = .ok (.iconst 1, 1) := by decide +kernel
theorem dL_law_1012 : decode cL_law 1012 = .ok (.iadd, 1) := by decide +kernel
theorem dL_law_1013 : decode cL_law 1013 = .ok (.iaload, 1) := by decide +kernel
theorem dL_law_1014 : decode cL_law 1014 = .ok (.aload_n 0, 1) := by decide +kernel
theorem dL_law_1015 : decode cL_law 1015 = .ok (.iload_n 3, 1) := by decide +kernel
theorem dL_law_1016 : decode cL_law 1016 = .ok (.iconst 2, 1) := by decide +kernel
theorem dL_law_1017 : decode cL_law 1017 = .ok (.iadd, 1) := by decide +kernel
theorem dL_law_1018 : decode cL_law 1018 = .ok (.iaload, 1) := by decide +kernel
theorem dL_law_1019 : decode cL_law 1019 = .ok (.invokevirtual 105, 3) := by decide +kernel
theorem dL_law_1022 : decode cL_law 1022 = .ok (.if_icmp .eq 699, 3) := by decide +kernel
theorem dL_law_1025 : decode cL_law 1025 = .ok (.iconst 0, 1) := by decide +kernel
theorem dL_law_1026 : decode cL_law 1026 = .ok (.ireturn, 1) := by decide +kernel
theorem dL_law_1027 : decode cL_law 1027 = .ok (.aload_n 1, 1) := by decide +kernel
theorem dL_law_1028 : decode cL_law 1028 = .ok (.aload_n 0, 1) := by decide +kernel
theorem dL_law_1029 : decode cL_law 1029 = .ok (.iload_n 3, 1) := by decide +kernel
theorem dL_law_1030 : decode cL_law 1030 = .ok (.iconst 1, 1) := by decide +kernel
theorem dL_law_1031 : decode cL_law 1031 = .ok (.iadd, 1) := by decide +kernel
theorem dL_law_1032 : decode cL_law 1032 = .ok (.iaload, 1) := by decide +kernel
theorem dL_law_1033 : decode cL_law 1033 = .ok (.aload_n 0, 1) := by decide +kernel
theorem dL_law_1034 : decode cL_law 1034 = .ok (.iload_n 3, 1) := by decide +kernel
theorem dL_law_1035 : decode cL_law 1035 = .ok (.iconst 2, 1) := by decide +kernel
theorem dL_law_1036 : decode cL_law 1036 = .ok (.iadd, 1) := by decide +kernel
theorem dL_law_1037 : decode cL_law 1037 = .ok (.iaload, 1) := by decide +kernel
theorem dL_law_1038 : decode cL_law 1038 = .ok (.aload_n 0, 1) := by decide +kernel
theorem dL_law_1039 : decode cL_law 1039 = .ok (.iload_n 3, 1) := by decide +kernel
theorem dL_law_1040 : decode cL_law 1040 = .ok (.iconst 3, 1) := by decide +kernel
theorem dL_law_1041 : decode cL_law 1041 = .ok (.iadd, 1) := by decide +kernel
theorem dL_law_1042 : decode cL_law 1042 = .ok (.iaload, 1) := by decide +kernel
theorem dL_law_1043 : decode cL_law 1043 = .ok (.aload_n 0, 1) := by decide +kernel
theorem dL_law_1044 : decode cL_law 1044 = .ok (.iload_n 3, 1) := by decide +kernel
theorem dL_law_1045 : decode cL_law 1045 = .ok (.iconst 4, 1) := by decide +kernel
theorem dL_law_1046 : decode cL_law 1046 = .ok (.iadd, 1) := by decide +kernel
theorem dL_law_1047 : decode cL_law 1047 = .ok (.iaload, 1) := by decide +kernel
theorem dL_law_1048 : decode cL_law 1048 = .ok (.invokevirtual 106, 3) := by decide +kernel
theorem dL_law_1051 : decode cL_law 1051 = .ok (.aload_n 2, 1) := by decide +kernel
theorem dL_law_1052 : decode cL_law 1052 = .ok (.aload_n 0, 1) := by decide +kernel
theorem dL_law_1053 : decode cL_law 1053 = .ok (.iload_n 3, 1) := by decide +kernel
theorem dL_law_1054 : decode cL_law 1054 = .ok (.iconst 1, 1) := by decide +kernel
theorem dL_law_1055 : decode cL_law 1055 = .ok (.iadd, 1) := by decide +kernel
theorem dL_law_1056 : decode cL_law 1056 = .ok (.iaload, 1) := by decide +kernel
theorem dL_law_1057 : decode cL_law 1057 = .ok (.aload_n 0, 1) := by decide +kernel
theorem dL_law_1058 : decode cL_law 1058 = .ok (.iload_n 3, 1) := by decide +kernel
theorem dL_law_1059 : decode cL_law 1059 = .ok (.iconst 2, 1) := by decide +kernel
theorem dL_law_1060 : decode cL_law 1060 = .ok (.iadd, 1) := by decide +kernel
theorem dL_law_1061 : decode cL_law 1061 = .ok (.iaload, 1) := by decide +kernel
theorem dL_law_1062 : decode cL_law 1062 = .ok (.aload_n 0, 1) := by decide +kernel
theorem dL_law_1063 : decode cL_law 1063 = .ok (.iload_n 3, 1) := by decide +kernel
theorem dL_law_1064 : decode cL_law 1064 = .ok (.iconst 3, 1) := by decide +kernel
theorem dL_law_1065 : decode cL_law 1065 = .ok (.iadd, 1) := by decide +kernel
theorem dL_law_1066 : decode cL_law 1066 = .ok (.iaload, 1) := by decide +kernel
theorem dL_law_1067 : decode cL_law 1067 = .ok (.aload_n 0, 1) := by decide +kernel
theorem dL_law_1068 : decode cL_law 1068 = .ok (.iload_n 3, 1) := by decide +kernel
theorem dL_law_1069 : decode cL_law 1069 = .ok (.iconst 4, 1) := by decide +kernel
theorem dL_law_1070 : decode cL_law 1070 = .ok (.iadd, 1) := by decide +kernel
theorem dL_law_1071 : decode cL_law 1071 = .ok (.iaload, 1) := by decide +kernel
theorem dL_law_1072 : decode cL_law 1072 = .ok (.invokevirtual 109, 3) := by decide +kernel
theorem dL_law_1075 : decode cL_law 1075 = .ok (.if_icmp .eq 646, 3) := by decide +kernel
theorem dL_law_1078 : decode cL_law 1078 = .ok (.iconst 0, 1) := by decide +kernel
theorem dL_law_1079 : decode cL_law 1079 = .ok (.ireturn, 1) := by decide +kernel
theorem dL_law_1080 : decode cL_law 1080 = .ok (.aload_n 1, 1) := by decide +kernel
theorem dL_law_1081 : decode cL_law 1081 = .ok (.aload_n 0, 1) := by decide +kernel
theorem dL_law_1082 : decode cL_law 1082 = .ok (.iload_n 3, 1) := by decide +kernel
theorem dL_law_1083 : decode cL_law 1083 = .ok (.iconst 1, 1) := by decide +kernel
theorem dL_law_1084 : decode cL_law 1084 = .ok (.iadd, 1) := by decide +kernel
theorem dL_law_1085 : decode cL_law 1085 = .ok (.iaload, 1) := by decide +kernel
theorem dL_law_1086 : decode cL_law 1086 = .ok (.aload_n 0, 1) := by decide +kernel
theorem dL_law_1087 : decode cL_law 1087 = .ok (.iload_n 3, 1) := by decide +kernel
theorem dL_law_1088 : decode cL_law 1088 = .ok (.iconst 2, 1) := by decide +kernel
theorem dL_law_1089 : decode cL_law 1089 = .ok (.iadd, 1) := by decide +kernel
theorem dL_law_1090 : decode cL_law 1090 = .ok (.iaload, 1) := by decide +kernel
theorem dL_law_1091 : decode cL_law 1091 = .ok (.invokevirtual 110, 3) := by decide +kernel
theorem dL_law_1094 : decode cL_law 1094 = .ok (.aload_n 2, 1) := by decide +kernel
theorem dL_law_1095 : decode cL_law 1095 = .ok (.aload_n 0, 1) := by decide +kernel
theorem dL_law_1096 : decode cL_law 1096 = .ok (.iload_n 3, 1) := by decide +kernel
theorem dL_law_1097 : decode cL_law 1097 = .ok (.iconst 1, 1) := by decide +kernel
theorem dL_law_1098 : decode cL_law 1098 = .ok (.iadd, 1) := by decide +kernel
theorem dL_law_1099 : decode cL_law 1099 = .ok (.iaload, 1) := by decide +kernel
theorem dL_law_1100 : decode cL_law 1100 = .ok (.aload_n 0, 1) := by decide +kernel
theorem dL_law_1101 : decode cL_law 1101 = .ok (.iload_n 3, 1) := by decide +kernel
theorem dL_law_1102 : decode cL_law 1102 = .ok (.iconst 2, 1) := by decide +kernel
theorem dL_law_1103 : decode cL_law 1103 = .ok (.iadd, 1) := by decide +kernel
theorem dL_law_1104 : decode cL_law 1104 = .ok (.iaload, 1) := by decide +kernel
theorem dL_law_1105 : decode cL_law 1105 = .ok (.invokevirtual 113, 3) := by decide +kernel
theorem dL_law_1108 : decode cL_law 1108 = .ok (.if_icmp .eq 613, 3) := by decide +kernel
theorem dL_law_1111 : decode cL_law 1111 = .ok (.iconst 0, 1) := by decide +kernel
theorem dL_law_1112 : decode cL_law 1112 = .ok (.ireturn, 1) := by decide +kernel
theorem dL_law_1113 : decode cL_law 1113 = .ok (.aload_n 1, 1) := by decide +kernel
theorem dL_law_1114 : decode cL_law 1114 = .ok (.invokevirtual 114, 3) := by decide +kernel
theorem dL_law_1117 : decode cL_law 1117 = .ok (.aload_n 2, 1) := by decide +kernel
theorem dL_law_1118 : decode cL_law 1118 = .ok (.invokevirtual 117, 3) := by decide +kernel
theorem dL_law_1121 : decode cL_law 1121 = .ok (.if_icmp .eq 600, 3) := by decide +kernel
theorem dL_law_1124 : decode cL_law 1124 = .ok (.iconst 0, 1) := by decide +kernel
theorem dL_law_1125 : decode cL_law 1125 = .ok (.ireturn, 1) := by decide +kernel
theorem dL_law_1126 : decode cL_law 1126 = .ok (.aload_n 1, 1) := by decide +kernel
theorem dL_law_1127 : decode cL_law 1127 = .ok (.aload_n 0, 1) := by decide +kernel
theorem dL_law_1128 : decode cL_law 1128 = .ok (.iload_n 3, 1) := by decide +kernel
theorem dL_law_1129 : decode cL_law 1129 = .ok (.iconst 1, 1) := by decide +kernel
theorem dL_law_1130 : decode cL_law 1130 = .ok (.iadd, 1) := by decide +kernel
theorem dL_law_1131 : decode cL_law 1131 = .ok (.iaload, 1) := by decide +kernel
theorem dL_law_1132 : decode cL_law 1132 = .ok (.invokevirtual 118, 3) := by decide +kernel
theorem dL_law_1135 : decode cL_law 1135 = .ok (.aload_n 2, 1) := by decide +kernel
theorem dL_law_1136 : decode cL_law 1136 = .ok (.aload_n 0, 1) := by decide +kernel
theorem dL_law_1137 : decode cL_law 1137 = .ok (.iload_n 3, 1) := by decide +kernel
theorem dL_law_1138 : decode cL_law 1138 = .ok (.iconst 1, 1) := by decide +kernel
theorem dL_law_1139 : decode cL_law 1139 = .ok (.iadd, 1) := by decide +kernel
theorem dL_law_1140 : decode cL_law 1140 = .ok (.iaload, 1) := by decide +kernel
theorem dL_law_1141 : decode cL_law 1141 = .ok (.invokevirtual 121, 3) := by decide +kernel
theorem dL_law_1144 : decode cL_law 1144 = .ok (.if_icmp .eq 577, 3) := by decide +kernel
theorem dL_law_1147 : decode cL_law 1147 = .ok (.iconst 0, 1) := by decide +kernel
theorem dL_law_1148 : decode cL_law 1148 = .ok (.ireturn, 1) := by decide +kernel
theorem dL_law_1149 : decode cL_law 1149 = .ok (.aload_n 1, 1) := by decide +kernel
theorem dL_law_1150 : decode cL_law 1150 = .ok (.aload_n 0, 1) := by decide +kernel
theorem dL_law_1151 : decode cL_law 1151 = .ok (.iload_n 3, 1) := by decide +kernel
theorem dL_law_1152 : decode cL_law 1152 = .ok (.iconst 1, 1) := by decide +kernel
theorem dL_law_1153 : decode cL_law 1153 = .ok (.iadd, 1) := by decide +kernel
theorem dL_law_1154 : decode cL_law 1154 = .ok (.iaload, 1) := by decide +kernel
theorem dL_law_1155 : decode cL_law 1155 = .ok (.aload_n 0, 1) := by decide +kernel
theorem dL_law_1156 : decode cL_law 1156 = .ok (.iload_n 3, 1) := by decide +kernel
theorem dL_law_1157 : decode cL_law 1157 = .ok (.iconst 2, 1) := by decide +kernel
theorem dL_law_1158 : decode cL_law 1158 = .ok (.iadd, 1) := by decide +kernel
theorem dL_law_1159 : decode cL_law 1159 = .ok (.iaload, 1) := by decide +kernel
theorem dL_law_1160 : decode cL_law 1160 = .ok (.aload_n 0, 1) := by decide +kernel
theorem dL_law_1161 : decode cL_law 1161 = .ok (.iload_n 3, 1) := by decide +kernel
theorem dL_law_1162 : decode cL_law 1162 = .ok (.iconst 3, 1) := by decide +kernel
theorem dL_law_1163 : decode cL_law 1163 = .ok (.iadd, 1) := by decide +kernel
theorem dL_law_1164 : decode cL_law 1164 = .ok (.iaload, 1) := by decide +kernel
theorem dL_law_1165 : decode cL_law 1165 = .ok (.aload_n 0, 1) := by decide +kernel
theorem dL_law_1166 : decode cL_law 1166 = .ok (.iload_n 3, 1) := by decide +kernel
theorem dL_law_1167 : decode cL_law 1167 = .ok (.iconst 4, 1) := by decide +kernel
theorem dL_law_1168 : decode cL_law 1168 = .ok (.iadd, 1) := by decide +kernel
theorem dL_law_1169 : decode cL_law 1169 = .ok (.iaload, 1) := by decide +kernel
theorem dL_law_1170 : decode cL_law 1170 = .ok (.aload_n 0, 1) := by decide +kernel
theorem dL_law_1171 : decode cL_law 1171 = .ok (.iload_n 3, 1) := by decide +kernel
theorem dL_law_1172 : decode cL_law 1172 = .ok (.iconst 5, 1) := by decide +kernel
theorem dL_law_1173 : decode cL_law 1173 = .ok (.iadd, 1) := by decide +kernel
theorem dL_law_1174 : decode cL_law 1174 = .ok (.iaload, 1) := by decide +kernel
theorem dL_law_1175 : decode cL_law 1175 = .ok (.aload_n 0, 1) := by decide +kernel
theorem dL_law_1176 : decode cL_law 1176 = .ok (.iload_n 3, 1) := by decide +kernel
theorem dL_law_1177 : decode cL_law 1177 = .ok (.bipush 6, 2) := by decide +kernel
theorem dL_law_1179 : decode cL_law 1179 = .ok (.iadd, 1) := by decide +kernel
theorem dL_law_1180 : decode cL_law 1180 = .ok (.iaload, 1) := by decide +kernel
theorem dL_law_1181 : decode cL_law 1181 = .ok (.aload_n 0, 1) := by decide +kernel
theorem dL_law_1182 : decode cL_law 1182 = .ok (.iload_n 3, 1) := by decide +kernel
theorem dL_law_1183 : decode cL_law 1183 = .ok (.bipush 7, 2) := by decide +kernel
theorem dL_law_1185 : decode cL_law 1185 = .ok (.iadd, 1) := by decide +kernel
theorem dL_law_1186 : decode cL_law 1186 = .ok (.iaload, 1) := by decide +kernel
theorem dL_law_1187 : decode cL_law 1187 = .ok (.invokevirtual 122, 3) := by decide +kernel
theorem dL_law_1190 : decode cL_law 1190 = .ok (.aload_n 2, 1) := by decide +kernel
theorem dL_law_1191 : decode cL_law 1191 = .ok (.aload_n 0, 1) := by decide +kernel
theorem dL_law_1192 : decode cL_law 1192 = .ok (.iload_n 3, 1) := by decide +kernel
theorem dL_law_1193 : decode cL_law 1193 = .ok (.iconst 1, 1) := by decide +kernel
theorem dL_law_1194 : decode cL_law 1194 = .ok (.iadd, 1) := by decide +kernel
theorem dL_law_1195 : decode cL_law 1195 = .ok (.iaload, 1) := by decide +kernel
theorem dL_law_1196 : decode cL_law 1196 = .ok (.aload_n 0, 1) := by decide +kernel
theorem dL_law_1197 : decode cL_law 1197 = .ok (.iload_n 3, 1) := by decide +kernel
theorem dL_law_1198 : decode cL_law 1198 = .ok (.iconst 2, 1) := by decide +kernel
theorem dL_law_1199 : decode cL_law 1199 = .ok (.iadd, 1) := by decide +kernel
theorem dL_law_1200 : decode cL_law 1200 = .ok (.iaload, 1) := by decide +kernel
theorem dL_law_1201 : decode cL_law 1201 = .ok (.aload_n 0, 1) := by decide +kernel
theorem dL_law_1202 : decode cL_law 1202 = .ok (.iload_n 3, 1) := by decide +kernel
theorem dL_law_1203 : decode cL_law 1203 = .ok (.iconst 3, 1) := by decide +kernel
theorem dL_law_1204 : decode cL_law 1204 = .ok (.iadd, 1) := by decide +kernel
theorem dL_law_1205 : decode cL_law 1205 = .ok (.iaload, 1) := by decide +kernel
theorem dL_law_1206 : decode cL_law 1206 = .ok (.aload_n 0, 1) := by decide +kernel
theorem dL_law_1207 : decode cL_law 1207 = .ok (.iload_n 3, 1) := by decide +kernel
theorem dL_law_1208 : decode cL_law 1208 = .ok (.iconst 4, 1) := by decide +kernel
theorem dL_law_1209 : decode cL_law 1209 = .ok (.iadd, 1) := by decide +kernel
theorem dL_law_1210 : decode cL_law 1210 = .ok (.iaload, 1) := by decide +kernel
theorem dL_law_1211 : decode cL_law 1211 = .ok (.aload_n 0, 1) := by decide +kernel
theorem dL_law_1212 : decode cL_law 1212 = .ok (.iload_n 3, 1) := by decide +kernel
theorem dL_law_1213 : decode cL_law 1213 = .ok (.iconst 5, 1) := by decide +kernel
theorem dL_law_1214 : decode cL_law 1214 = .ok (.iadd, 1) := by decide +kernel
theorem dL_law_1215 : decode cL_law 1215 = .ok (.iaload, 1) := by decide +kernel
theorem dL_law_1216 : decode cL_law 1216 = .ok (.aload_n 0, 1) := by decide +kernel
theorem dL_law_1217 : decode cL_law 1217 = .ok (.iload_n 3, 1) := by decide +kernel
theorem dL_law_1218 : decode cL_law 1218 = .ok (.bipush 6, 2) := by decide +kernel
theorem dL_law_1220 : decode cL_law 1220 = .ok (.iadd, 1) := by decide +kernel
theorem dL_law_1221 : decode cL_law 1221 = .ok (.iaload, 1) := by decide +kernel
theorem dL_law_1222 : decode cL_law 1222 = .ok (.aload_n 0, 1) := by decide +kernel
theorem dL_law_1223 : decode cL_law 1223 = .ok (.iload_n 3, 1) := by decide +kernel
theorem dL_law_1224 : decode cL_law 1224 = .ok (.bipush 7, 2) := by decide +kernel
theorem dL_law_1226 : decode cL_law 1226 = .ok (.iadd, 1) := by decide +kernel
theorem dL_law_1227 : decode cL_law 1227 = .ok (.iaload, 1) := by decide +kernel
theorem dL_law_1228 : decode cL_law 1228 = .ok (.invokevirtual 125, 3) := by decide +kernel
theorem dL_law_1231 : decode cL_law 1231 = .ok (.if_icmp .eq 490, 3) := by decide +kernel
theorem dL_law_1234 : decode cL_law 1234 = .ok (.iconst 0, 1) := by decide +kernel
theorem dL_law_1235 : decode cL_law 1235 = .ok (.ireturn, 1) := by decide +kernel
theorem dL_law_1236 : decode cL_law 1236 = .ok (.aload_n 1, 1) := by decide +kernel
theorem dL_law_1237 : decode cL_law 1237 = .ok (.aload_n 0, 1) := by decide +kernel
theorem dL_law_1238 : decode cL_law 1238 = .ok (.iload_n 3, 1) := by decide +kernel
theorem dL_law_1239 : decode cL_law 1239 = .ok (.iconst 1, 1) := by decide +kernel
theorem dL_law_1240 : decode cL_law 1240 = .ok (.iadd, 1) := by decide +kernel
theorem dL_law_1241 : decode cL_law 1241 = .ok (.iaload, 1) := by decide +kernel
theorem dL_law_1242 : decode cL_law 1242 = .ok (.aload_n 0, 1) := by decide +kernel
theorem dL_law_1243 : decode cL_law 1243 = .ok (.iload_n 3, 1) := by decide +kernel
theorem dL_law_1244 : decode cL_law 1244 = .ok (.iconst 2, 1) := by decide +kernel
theorem dL_law_1245 : decode cL_law 1245 = .ok (.iadd, 1) := by decide +kernel
theorem dL_law_1246 : decode cL_law 1246 = .ok (.iaload, 1) := by decide +kernel
theorem dL_law_1247 : decode cL_law 1247 = .ok (.invokevirtual 126, 3) := by decide +kernel
theorem dL_law_1250 : decode cL_law 1250 = .ok (.aload_n 2, 1) := by decide +kernel
theorem dL_law_1251 : decode cL_law 1251 = .ok (.aload_n 0, 1) := by decide +kernel
theorem dL_law_1252 : decode cL_law 1252 = .ok (.iload_n 3, 1) := by decide +kernel
theorem dL_law_1253 : decode cL_law 1253 = .ok (.iconst 1, 1) := by decide +kernel
theorem dL_law_1254 : decode cL_law 1254 = .ok (.iadd, 1) := by decide +kernel
theorem dL_law_1255 : decode cL_law 1255 = .ok (.iaload, 1) := by decide +kernel
theorem dL_law_1256 : decode cL_law 1256 = .ok (.aload_n 0, 1) := by decide +kernel
theorem dL_law_1257 : decode cL_law 1257 = .ok (.iload_n 3, 1) := by decide +kernel
theorem dL_law_1258 : decode cL_law 1258 = .ok (.iconst 2, 1) := by decide +kernel
theorem dL_law_1259 : decode cL_law 1259 = .ok (.iadd, 1) := by decide +kernel
theorem dL_law_1260 : decode cL_law 1260 = .ok (.iaload, 1) := by decide +kernel
theorem dL_law_1261 : decode cL_law 1261 = .ok (.invokevirtual 129, 3) := by decide +kernel
theorem dL_law_1264 : decode cL_law 1264 = .ok (.if_icmp .eq 457, 3) := by decide +kernel
theorem dL_law_1267 : decode cL_law 1267 = .ok (.iconst 0, 1) := by decide +kernel
theorem dL_law_1268 : decode cL_law 1268 = .ok (.ireturn, 1) := by decide +kernel
theorem dL_law_1269 : decode cL_law 1269 = .ok (.aload_n 1, 1) := by decide +kernel
theorem dL_law_1270 : decode cL_law 1270 = .ok (.aload_n 0, 1) := by decide +kernel
theorem dL_law_1271 : decode cL_law 1271 = .ok (.iload_n 3, 1) := by decide +kernel
theorem dL_law_1272 : decode cL_law 1272 = .ok (.iconst 1, 1) := by decide +kernel
theorem dL_law_1273 : decode cL_law 1273 = .ok (.iadd, 1) := by decide +kernel
theorem dL_law_1274 : decode cL_law 1274 = .ok (.iaload, 1) := by decide +kernel
theorem dL_law_1275 : decode cL_law 1275 = .ok (.invokevirtual 130, 3) := by decide +kernel
theorem dL_law_1278 : decode cL_law 1278 = .ok (.aload_n 2, 1) := by decide +kernel
theorem dL_law_1279 : decode cL_law 1279 = .ok (.aload_n 0, 1) := by decide +kernel
theorem dL_law_1280 : decode cL_law 1280 = .ok (.iload_n 3, 1) := by decide +kernel
theorem dL_law_1281 : decode cL_law 1281 = .ok (.iconst 1, 1) := by decide +kernel
theorem dL_law_1282 : decode cL_law 1282 = .ok (.iadd, 1) := by decide +kernel
theorem dL_law_1283 : decode cL_law 1283 = .ok (.iaload, 1) := by decide +kernel
theorem dL_law_1284 : decode cL_law 1284 = .ok (.invokevirtual 133, 3) := by decide +kernel
theorem dL_law_1287 : decode cL_law 1287 = .ok (.if_icmp .eq 434, 3) := by decide +kernel
theorem dL_law_1290 : decode cL_law 1290 = .ok (.iconst 0, 1) := by decide +kernel
theorem dL_law_1291 : decode cL_law 1291 = .ok (.ireturn, 1) := by decide +kernel
theorem dL_law_1292 : decode cL_law 1292 = .ok (.aload_n 1, 1) := by decide +kernel
theorem dL_law_1293 : decode cL_law 1293 = .ok (.aload_n 0, 1) := by decide +kernel
theorem dL_law_1294 : decode cL_law 1294 = .ok (.iload_n 3, 1) := by decide +kernel
theorem dL_law_1295 : decode cL_law 1295 = .ok (.iconst 1, 1) := by decide +kernel
theorem dL_law_1296 : decode cL_law 1296 = .ok (.iadd, 1) := by decide +kernel
theorem dL_law_1297 : decode cL_law 1297 = .ok (.iaload, 1) := by decide +kernel
theorem dL_law_1298 : decode cL_law 1298 = .ok (.invokevirtual 134, 3) := by decide +kernel
theorem dL_law_1301 : decode cL_law 1301 = .ok (.aload_n 2, 1) := by decide +kernel
theorem dL_law_1302 : decode cL_law 1302 = .ok (.aload_n 0, 1) := by decide +kernel
theorem dL_law_1303 : decode cL_law 1303 = .ok (.iload_n 3, 1) := by decide +kernel
theorem dL_law_1304 : decode cL_law 1304 = .ok (.iconst 1, 1) := by decide +kernel
theorem dL_law_1305 : decode cL_law 1305 = .ok (.iadd, 1) := by decide +kernel
theorem dL_law_1306 : decode cL_law 1306 = .ok (.iaload, 1) := by decide +kernel
theorem dL_law_1307 : decode cL_law 1307 = .ok (.invokevirtual 137, 3) := by decide +kernel
theorem dL_law_1310 : decode cL_law 1310 = .ok (.if_icmp .eq 411, 3) := by decide +kernel
theorem dL_law_1313 : decode cL_law 1313 = .ok (.iconst 0, 1) := by decide +kernel
theorem dL_law_1314 : decode cL_law 1314 = .ok (.ireturn, 1) := by decide +kernel
theorem dL_law_1315 : decode cL_law 1315 = .ok (.aload_n 1, 1) := by decide +kernel
theorem dL_law_1316 : decode cL_law 1316 = .ok (.invokevirtual 138, 3) := by decide +kernel
theorem dL_law_1319 : decode cL_law 1319 = .ok (.aload_n 2, 1) := by decide +kernel
theorem dL_law_1320 : decode cL_law 1320 = .ok (.invokevirtual 141, 3) := by decide +kernel
theorem dL_law_1323 : decode cL_law 1323 = .ok (.if_icmp .eq 398, 3) := by decide +kernel
theorem dL_law_1326 : decode cL_law 1326 = .ok (.iconst 0, 1) := by decide +kernel
theorem dL_law_1327 : decode cL_law 1327 = .ok (.ireturn, 1) := by decide +kernel
theorem dL_law_1328 : decode cL_law 1328 = .ok (.aload_n 1, 1) := by decide +kernel
theorem dL_law_1329 : decode cL_law 1329 = .ok (.aload_n 0, 1) := by decide +kernel
theorem dL_law_1330 : decode cL_law 1330 = .ok (.iload_n 3, 1) := by decide +kernel
theorem dL_law_1331 : decode cL_law 1331 = .ok (.iconst 1, 1) := by decide +kernel
theorem dL_law_1332 : decode cL_law 1332 = .ok (.iadd, 1) := by decide +kernel
theorem dL_law_1333 : decode cL_law 1333 = .ok (.iaload, 1) := by decide +kernel
theorem dL_law_1334 : decode cL_law 1334 = .ok (.aload_n 0, 1) := by decide +kernel
theorem dL_law_1335 : decode cL_law 1335 = .ok (.iload_n 3, 1) := by decide +kernel
theorem dL_law_1336 : decode cL_law 1336 = .ok (.iconst 2, 1) := by decide +kernel
theorem dL_law_1337 : decode cL_law 1337 = .ok (.iadd, 1) := by decide +kernel
theorem dL_law_1338 : decode cL_law 1338 = .ok (.iaload, 1) := by decide +kernel
theorem dL_law_1339 : decode cL_law 1339 = .ok (.aload_n 0, 1) := by decide +kernel
theorem dL_law_1340 : decode cL_law 1340 = .ok (.iload_n 3, 1) := by decide +kernel
theorem dL_law_1341 : decode cL_law 1341 = .ok (.iconst 3, 1) := by decide +kernel
theorem dL_law_1342 : decode cL_law 1342 = .ok (.iadd, 1) := by decide +kernel
theorem dL_law_1343 : decode cL_law 1343 = .ok (.iaload, 1) := by decide +kernel
theorem dL_law_1344 : decode cL_law 1344 = .ok (.aload_n 0, 1) := by decide +kernel
theorem dL_law_1345 : decode cL_law 1345 = .ok (.iload_n 3, 1) := by decide +kernel
theorem dL_law_1346 : decode cL_law 1346 = .ok (.iconst 4, 1) := by decide +kernel
theorem dL_law_1347 : decode cL_law 1347 = .ok (.iadd, 1) := by decide +kernel
theorem dL_law_1348 : decode cL_law 1348 = .ok (.iaload, 1) := by decide +kernel
theorem dL_law_1349 : decode cL_law 1349 = .ok (.invokevirtual 142, 3) := by decide +kernel
theorem dL_law_1352 : decode cL_law 1352 = .ok (.aload_n 2, 1) := by decide +kernel
theorem dL_law_1353 : decode cL_law 1353 = .ok (.aload_n 0, 1) := by decide +kernel
theorem dL_law_1354 : decode cL_law 1354 = .ok (.iload_n 3, 1) := by decide +kernel
theorem dL_law_1355 : decode cL_law 1355 = .ok (.iconst 1, 1) := by decide +kernel
theorem dL_law_1356 : decode cL_law 1356 = .ok (.iadd, 1) := by decide +kernel
theorem dL_law_1357 : decode cL_law 1357 = .ok (.iaload, 1) := by decide +kernel
theorem dL_law_1358 : decode cL_law 1358 = .ok (.aload_n 0, 1) := by decide +kernel
theorem dL_law_1359 : decode cL_law 1359 = .ok (.iload_n 3, 1) := by decide +kernel
theorem dL_law_1360 : decode cL_law 1360 = .ok (.iconst 2, 1) := by decide +kernel
theorem dL_law_1361 : decode cL_law 1361 = .ok (.iadd, 1) := by decide +kernel
theorem dL_law_1362 : decode cL_law 1362 = .ok (.iaload, 1) := by decide +kernel
theorem dL_law_1363 : decode cL_law 1363 = .ok (.aload_n 0, 1) := by decide +kernel
theorem dL_law_1364 : decode cL_law 1364 = .ok (.iload_n 3, 1) := by decide +kernel
theorem dL_law_1365 : decode cL_law 1365 = .ok (.iconst 3, 1) := by decide +kernel
theorem dL_law_1366 : decode cL_law 1366 = .ok (.iadd, 1) := by decide +kernel
theorem dL_law_1367 : decode cL_law 1367 = .ok (.iaload, 1) := by decide +kernel
theorem dL_law_1368 : decode cL_law 1368 = .ok (.aload_n 0, 1) := by decide +kernel
theorem dL_law_1369 : decode cL_law 1369 = .ok (.iload_n 3, 1) := by decide +kernel
theorem dL_law_1370 : decode cL_law 1370 = .ok (.iconst 4, 1) := by decide +kernel
theorem dL_law_1371 : decode cL_law 1371 = .ok (.iadd, 1) := by decide +kernel
theorem dL_law_1372 : decode cL_law 1372 = .ok (.iaload, 1) := by decide +kernel
theorem dL_law_1373 : decode cL_law 1373 = .ok (.invokevirtual 145, 3) := by decide +kernel
theorem dL_law_1376 : decode cL_law 1376 = .ok (.if_icmp .eq 345, 3) := by decide +kernel
theorem dL_law_1379 : decode cL_law 1379 = .ok (.iconst 0, 1) := by decide +kernel
theorem dL_law_1380 : decode cL_law 1380 = .ok (.ireturn, 1) := by decide +kernel
theorem dL_law_1381 : decode cL_law 1381 = .ok (.aload_n 1, 1) := by decide +kernel
theorem dL_law_1382 : decode cL_law 1382 = .ok (.aload_n 0, 1) := by decide +kernel
theorem dL_law_1383 : decode cL_law 1383 = .ok (.iload_n 3, 1) := by decide +kernel
theorem dL_law_1384 : decode cL_law 1384 = .ok (.iconst 1, 1) := by decide +kernel
theorem dL_law_1385 : decode cL_law 1385 = .ok (.iadd, 1) := by decide +kernel
theorem dL_law_1386 : decode cL_law 1386 = .ok (.iaload, 1) := by decide +kernel
theorem dL_law_1387 : decode cL_law 1387 = .ok (.invokevirtual 146, 3) := by decide +kernel
theorem dL_law_1390 : decode cL_law 1390 = .ok (.aload_n 2, 1) := by decide +kernel
theorem dL_law_1391 : decode cL_law 1391 = .ok (.aload_n 0, 1) := by decide +kernel
theorem dL_law_1392 : decode cL_law 1392 = .ok (.iload_n 3, 1) := by decide +kernel
theorem dL_law_1393 : decode cL_law 1393 = .ok (.iconst 1, 1) := by decide +kernel
theorem dL_law_1394 : decode cL_law 1394 = .ok (.iadd, 1) := by decide +kernel
theorem dL_law_1395 : decode cL_law 1395 = .ok (.iaload, 1) := by decide +kernel
theorem dL_law_1396 : decode cL_law 1396 = .ok (.invokevirtual 149, 3) := by decide +kernel
theorem dL_law_1399 : decode cL_law 1399 = .ok (.if_icmp .eq 322, 3) := by decide +kernel
theorem dL_law_1402 : decode cL_law 1402 = .ok (.iconst 0, 1) := by decide +kernel
theorem dL_law_1403 : decode cL_law 1403 = .ok (.ireturn, 1) := by decide +kernel
theorem dL_law_1404 : decode cL_law 1404 = .ok (.aload_n 1, 1) := by decide +kernel
theorem dL_law_1405 : decode cL_law 1405 = .ok (.aload_n 0, 1) := by decide +kernel
theorem dL_law_1406 : decode cL_law 1406 = .ok (.iload_n 3, 1) := by decide +kernel
theorem dL_law_1407 : decode cL_law 1407 = .ok (.iconst 1, 1) := by decide +kernel
theorem dL_law_1408 : decode cL_law 1408 = .ok (.iadd, 1) := by decide +kernel
theorem dL_law_1409 : decode cL_law 1409 = .ok (.iaload, 1) := by decide +kernel
theorem dL_law_1410 : decode cL_law 1410 = .ok (.aload_n 0, 1) := by decide +kernel
theorem dL_law_1411 : decode cL_law 1411 = .ok (.iload_n 3, 1) := by decide +kernel
theorem dL_law_1412 : decode cL_law 1412 = .ok (.iconst 2, 1) := by decide +kernel
theorem dL_law_1413 : decode cL_law 1413 = .ok (.iadd, 1) := by decide +kernel
theorem dL_law_1414 : decode cL_law 1414 = .ok (.iaload, 1) := by decide +kernel
theorem dL_law_1415 : decode cL_law 1415 = .ok (.aload_n 0, 1) := by decide +kernel
theorem dL_law_1416 : decode cL_law 1416 = .ok (.iload_n 3, 1) := by decide +kernel
theorem dL_law_1417 : decode cL_law 1417 = .ok (.iconst 3, 1) := by decide +kernel
theorem dL_law_1418 : decode cL_law 1418 = .ok (.iadd, 1) := by decide +kernel
theorem dL_law_1419 : decode cL_law 1419 = .ok (.iaload, 1) := by decide +kernel
theorem dL_law_1420 : decode cL_law 1420 = .ok (.invokevirtual 150, 3) := by decide +kernel
theorem dL_law_1423 : decode cL_law 1423 = .ok (.aload_n 2, 1) := by decide +kernel
theorem dL_law_1424 : decode cL_law 1424 = .ok (.aload_n 0, 1) := by decide +kernel
theorem dL_law_1425 : decode cL_law 1425 = .ok (.iload_n 3, 1) := by decide +kernel
theorem dL_law_1426 : decode cL_law 1426 = .ok (.iconst 1, 1) := by decide +kernel
theorem dL_law_1427 : decode cL_law 1427 = .ok (.iadd, 1) := by decide +kernel
theorem dL_law_1428 : decode cL_law 1428 = .ok (.iaload, 1) := by decide +kernel
theorem dL_law_1429 : decode cL_law 1429 = .ok (.aload_n 0, 1) := by decide +kernel
theorem dL_law_1430 : decode cL_law 1430 = .ok (.iload_n 3, 1) := by decide +kernel
theorem dL_law_1431 : decode cL_law 1431 = .ok (.iconst 2, 1) := by decide +kernel
theorem dL_law_1432 : decode cL_law 1432 = .ok (.iadd, 1) := by decide +kernel
theorem dL_law_1433 : decode cL_law 1433 = .ok (.iaload, 1) := by decide +kernel
theorem dL_law_1434 : decode cL_law 1434 = .ok (.aload_n 0, 1) := by decide +kernel
theorem dL_law_1435 : decode cL_law 1435 = .ok (.iload_n 3, 1) := by decide +kernel
theorem dL_law_1436 : decode cL_law 1436 = .ok (.iconst 3, 1) := by decide +kernel
theorem dL_law_1437 : decode cL_law 1437 = .ok (.iadd, 1) := by decide +kernel
theorem dL_law_1438 : decode cL_law 1438 = .ok (.iaload, 1) := by decide +kernel
theorem dL_law_1439 : decode cL_law 1439 = .ok (.invokevirtual 153, 3) := by decide +kernel
theorem dL_law_1442 : decode cL_law 1442 = .ok (.if_icmp .eq 279, 3) := by decide +kernel
theorem dL_law_1445 : decode cL_law 1445 = .ok (.iconst 0, 1) := by decide +kernel
theorem dL_law_1446 : decode cL_law 1446 = .ok (.ireturn, 1) := by decide +kernel
theorem dL_law_1447 : decode cL_law 1447 = .ok (.aload_n 1, 1) := by decide +kernel
theorem dL_law_1448 : decode cL_law 1448 = .ok (.aload_n 0, 1) := by decide +kernel
theorem dL_law_1449 : decode cL_law 1449 = .ok (.iload_n 3, 1) := by decide +kernel
theorem dL_law_1450 : decode cL_law 1450 = .ok (.iconst 1, 1) := by decide +kernel
theorem dL_law_1451 : decode cL_law 1451 = .ok (.iadd, 1) := by decide +kernel
theorem dL_law_1452 : decode cL_law 1452 = .ok (.iaload, 1) := by decide +kernel
theorem dL_law_1453 : decode cL_law 1453 = .ok (.aload_n 0, 1) := by decide +kernel
theorem dL_law_1454 : decode cL_law 1454 = .ok (.iload_n 3, 1) := by decide +kernel
theorem dL_law_1455 : decode cL_law 1455 = .ok (.iconst 2, 1) := by decide +kernel
theorem dL_law_1456 : decode cL_law 1456 = .ok (.iadd, 1) := by decide +kernel
theorem dL_law_1457 : decode cL_law 1457 = .ok (.iaload, 1) := by decide +kernel
theorem dL_law_1458 : decode cL_law 1458 = .ok (.invokevirtual 154, 3) := by decide +kernel
theorem dL_law_1461 : decode cL_law 1461 = .ok (.aload_n 2, 1) := by decide +kernel
theorem dL_law_1462 : decode cL_law 1462 = .ok (.aload_n 0, 1) := by decide +kernel
theorem dL_law_1463 : decode cL_law 1463 = .ok (.iload_n 3, 1) := by decide +kernel
theorem dL_law_1464 : decode cL_law 1464 = .ok (.iconst 1, 1) := by decide +kernel
theorem dL_law_1465 : decode cL_law 1465 = .ok (.iadd, 1) := by decide +kernel
theorem dL_law_1466 : decode cL_law 1466 = .ok (.iaload, 1) := by decide +kernel
theorem dL_law_1467 : decode cL_law 1467 = .ok (.aload_n 0, 1) := by decide +kernel
theorem dL_law_1468 : decode cL_law 1468 = .ok (.iload_n 3, 1) := by decide +kernel
theorem dL_law_1469 : decode cL_law 1469 = .ok (.iconst 2, 1) := by decide +kernel
theorem dL_law_1470 : decode cL_law 1470 = .ok (.iadd, 1) := by decide +kernel
theorem dL_law_1471 : decode cL_law 1471 = .ok (.iaload, 1) := by decide +kernel
theorem dL_law_1472 : decode cL_law 1472 = .ok (.invokevirtual 157, 3) := by decide +kernel
theorem dL_law_1475 : decode cL_law 1475 = .ok (.if_icmp .eq 246, 3) := by decide +kernel
theorem dL_law_1478 : decode cL_law 1478 = .ok (.iconst 0, 1) := by decide +kernel
theorem dL_law_1479 : decode cL_law 1479 = .ok (.ireturn, 1) := by decide +kernel
theorem dL_law_1480 : decode cL_law 1480 = .ok (.aload_n 1, 1) := by decide +kernel
theorem dL_law_1481 : decode cL_law 1481 = .ok (.invokevirtual 158, 3) := by decide +kernel
theorem dL_law_1484 : decode cL_law 1484 = .ok (.aload_n 2, 1) := by decide +kernel
theorem dL_law_1485 : decode cL_law 1485 = .ok (.invokevirtual 161, 3) := by decide +kernel
theorem dL_law_1488 : decode cL_law 1488 = .ok (.if_icmp .eq 233, 3) := by decide +kernel
theorem dL_law_1491 : decode cL_law 1491 = .ok (.iconst 0, 1) := by decide +kernel
theorem dL_law_1492 : decode cL_law 1492 = .ok (.ireturn, 1) := by decide +kernel
theorem dL_law_1493 : decode cL_law 1493 = .ok (.aload_n 1, 1) := by decide +kernel
theorem dL_law_1494 : decode cL_law 1494 = .ok (.aload_n 0, 1) := by decide +kernel
theorem dL_law_1495 : decode cL_law 1495 = .ok (.iload_n 3, 1) := by decide +kernel
theorem dL_law_1496 : decode cL_law 1496 = .ok (.iconst 1, 1) := by decide +kernel
theorem dL_law_1497 : decode cL_law 1497 = .ok (.iadd, 1) := by decide +kernel
theorem dL_law_1498 : decode cL_law 1498 = .ok (.iaload, 1) := by decide +kernel
theorem dL_law_1499 : decode cL_law 1499 = .ok (.invokevirtual 162, 3) := by decide +kernel
theorem dL_law_1502 : decode cL_law 1502 = .ok (.aload_n 2, 1) := by decide +kernel
theorem dL_law_1503 : decode cL_law 1503 = .ok (.aload_n 0, 1) := by decide +kernel
theorem dL_law_1504 : decode cL_law 1504 = .ok (.iload_n 3, 1) := by decide +kernel
theorem dL_law_1505 : decode cL_law 1505 = .ok (.iconst 1, 1) := by decide +kernel
theorem dL_law_1506 : decode cL_law 1506 = .ok (.iadd, 1) := by decide +kernel
theorem dL_law_1507 : decode cL_law 1507 = .ok (.iaload, 1) := by decide +kernel
theorem dL_law_1508 : decode cL_law 1508 = .ok (.invokevirtual 165, 3) := by decide +kernel
theorem dL_law_1511 : decode cL_law 1511 = .ok (.if_icmp .eq 210, 3) := by decide +kernel
theorem dL_law_1514 : decode cL_law 1514 = .ok (.iconst 0, 1) := by decide +kernel
theorem dL_law_1515 : decode cL_law 1515 = .ok (.ireturn, 1) := by decide +kernel
theorem dL_law_1516 : decode cL_law 1516 = .ok (.aload_n 1, 1) := by decide +kernel
theorem dL_law_1517 : decode cL_law 1517 = .ok (.aload_n 0, 1) := by decide +kernel
theorem dL_law_1518 : decode cL_law 1518 = .ok (.iload_n 3, 1) := by decide +kernel
theorem dL_law_1519 : decode cL_law 1519 = .ok (.iconst 1, 1) := by decide +kernel
theorem dL_law_1520 : decode cL_law 1520 = .ok (.iadd, 1) := by decide +kernel
theorem dL_law_1521 : decode cL_law 1521 = .ok (.iaload, 1) := by decide +kernel
theorem dL_law_1522 : decode cL_law 1522 = .ok (.invokevirtual 166, 3) := by decide +kernel
theorem dL_law_1525 : decode cL_law 1525 = .ok (.aload_n 2, 1) := by decide +kernel
theorem dL_law_1526 : decode cL_law 1526 = .ok (.aload_n 0, 1) := by decide +kernel
theorem dL_law_1527 : decode cL_law 1527 = .ok (.iload_n 3, 1) := by decide +kernel
theorem dL_law_1528 : decode cL_law 1528 = .ok (.iconst 1, 1) := by decide +kernel
theorem dL_law_1529 : decode cL_law 1529 = .ok (.iadd, 1) := by decide +kernel
theorem dL_law_1530 : decode cL_law 1530 = .ok (.iaload, 1) := by decide +kernel
theorem dL_law_1531 : decode cL_law 1531 = .ok (.invokevirtual 169, 3) := by decide +kernel
theorem dL_law_1534 : decode cL_law 1534 = .ok (.if_icmp .eq 187, 3) := by decide +kernel
theorem dL_law_1537 : decode cL_law 1537 = .ok (.iconst 0, 1) := by decide +kernel
theorem dL_law_1538 : decode cL_law 1538 = .ok (.ireturn, 1) := by decide +kernel
theorem dL_law_1539 : decode cL_law 1539 = .ok (.aload_n 1, 1) := by decide +kernel
theorem dL_law_1540 : decode cL_law 1540 = .ok (.aload_n 0, 1) := by decide +kernel
theorem dL_law_1541 : decode cL_law 1541 = .ok (.iload_n 3, 1) := by decide +kernel
theorem dL_law_1542 : decode cL_law 1542 = .ok (.iconst 1, 1) := by decide +kernel
theorem dL_law_1543 : decode cL_law 1543 = .ok (.iadd, 1) := by decide +kernel
theorem dL_law_1544 : decode cL_law 1544 = .ok (.iaload, 1) := by decide +kernel
theorem dL_law_1545 : decode cL_law 1545 = .ok (.aload_n 0, 1) := by decide +kernel
theorem dL_law_1546 : decode cL_law 1546 = .ok (.iload_n 3, 1) := by decide +kernel
theorem dL_law_1547 : decode cL_law 1547 = .ok (.iconst 2, 1) := by decide +kernel
theorem dL_law_1548 : decode cL_law 1548 = .ok (.iadd, 1) := by decide +kernel
theorem dL_law_1549 : decode cL_law 1549 = .ok (.iaload, 1) := by decide +kernel
theorem dL_law_1550 : decode cL_law 1550 = .ok (.aload_n 0, 1) := by decide +kernel
theorem dL_law_1551 : decode cL_law 1551 = .ok (.iload_n 3, 1) := by decide +kernel
theorem dL_law_1552 : decode cL_law 1552 = .ok (.iconst 3, 1) := by decide +kernel
theorem dL_law_1553 : decode cL_law 1553 = .ok (.iadd, 1) := by decide +kernel
theorem dL_law_1554 : decode cL_law 1554 = .ok (.iaload, 1) := by decide +kernel
theorem dL_law_1555 : decode cL_law 1555 = .ok (.invokevirtual 170, 3) := by decide +kernel
theorem dL_law_1558 : decode cL_law 1558 = .ok (.aload_n 2, 1) := by decide +kernel
theorem dL_law_1559 : decode cL_law 1559 = .ok (.aload_n 0, 1) := by decide +kernel
theorem dL_law_1560 : decode cL_law 1560 = .ok (.iload_n 3, 1) := by decide +kernel
theorem dL_law_1561 : decode cL_law 1561 = .ok (.iconst 1, 1) := by decide +kernel
theorem dL_law_1562 : decode cL_law 1562 = .ok (.iadd, 1) := by decide +kernel
theorem dL_law_1563 : decode cL_law 1563 = .ok (.iaload, 1) := by decide +kernel
theorem dL_law_1564 : decode cL_law 1564 = .ok (.aload_n 0, 1) := by decide +kernel
theorem dL_law_1565 : decode cL_law 1565 = .ok (.iload_n 3, 1) := by decide +kernel
theorem dL_law_1566 : decode cL_law 1566 = .ok (.iconst 2, 1) := by decide +kernel
theorem dL_law_1567 : decode cL_law 1567 = .ok (.iadd, 1) := by decide +kernel
theorem dL_law_1568 : decode cL_law 1568 = .ok (.iaload, 1) := by decide +kernel
theorem dL_law_1569 : decode cL_law 1569 = .ok (.aload_n 0, 1) := by decide +kernel
theorem dL_law_1570 : decode cL_law 1570 = .ok (.iload_n 3, 1) := by decide +kernel
theorem dL_law_1571 : decode cL_law 1571 = .ok (.iconst 3, 1) := by decide +kernel
theorem dL_law_1572 : decode cL_law 1572 = .ok (.iadd, 1) := by decide +kernel
theorem dL_law_1573 : decode cL_law 1573 = .ok (.iaload, 1) := by decide +kernel
theorem dL_law_1574 : decode cL_law 1574 = .ok (.invokevirtual 173, 3) := by decide +kernel
theorem dL_law_1577 : decode cL_law 1577 = .ok (.if_icmp .eq 144, 3) := by decide +kernel
theorem dL_law_1580 : decode cL_law 1580 = .ok (.iconst 0, 1) := by decide +kernel
theorem dL_law_1581 : decode cL_law 1581 = .ok (.ireturn, 1) := by decide +kernel
theorem dL_law_1582 : decode cL_law 1582 = .ok (.aload_n 1, 1) := by decide +kernel
theorem dL_law_1583 : decode cL_law 1583 = .ok (.aload_n 0, 1) := by decide +kernel
theorem dL_law_1584 : decode cL_law 1584 = .ok (.iload_n 3, 1) := by decide +kernel
theorem dL_law_1585 : decode cL_law 1585 = .ok (.iconst 1, 1) := by decide +kernel
theorem dL_law_1586 : decode cL_law 1586 = .ok (.iadd, 1) := by decide +kernel
theorem dL_law_1587 : decode cL_law 1587 = .ok (.iaload, 1) := by decide +kernel
theorem dL_law_1588 : decode cL_law 1588 = .ok (.invokevirtual 174, 3) := by decide +kernel
theorem dL_law_1591 : decode cL_law 1591 = .ok (.aload_n 2, 1) := by decide +kernel
theorem dL_law_1592 : decode cL_law 1592 = .ok (.aload_n 0, 1) := by decide +kernel
theorem dL_law_1593 : decode cL_law 1593 = .ok (.iload_n 3, 1) := by decide +kernel
theorem dL_law_1594 : decode cL_law 1594 = .ok (.iconst 1, 1) := by decide +kernel
theorem dL_law_1595 : decode cL_law 1595 = .ok (.iadd, 1) := by decide +kernel
theorem dL_law_1596 : decode cL_law 1596 = .ok (.iaload, 1) := by decide +kernel
theorem dL_law_1597 : decode cL_law 1597 = .ok (.invokevirtual 177, 3) := by decide +kernel
theorem dL_law_1600 : decode cL_law 1600 = .ok (.if_icmp .eq 121, 3) := by decide +kernel
theorem dL_law_1603 : decode cL_law 1603 = .ok (.iconst 0, 1) := by decide +kernel
theorem dL_law_1604 : decode cL_law 1604 = .ok (.ireturn, 1) := by decide +kernel
theorem dL_law_1605 : decode cL_law 1605 = .ok (.aload_n 1, 1) := by decide +kernel
theorem dL_law_1606 : decode cL_law 1606 = .ok (.aload_n 0, 1) := by decide +kernel
theorem dL_law_1607 : decode cL_law 1607 = .ok (.iload_n 3, 1) := by decide +kernel
theorem dL_law_1608 : decode cL_law 1608 = .ok (.iconst 1, 1) := by decide +kernel
theorem dL_law_1609 : decode cL_law 1609 = .ok (.iadd, 1) := by decide +kernel
theorem dL_law_1610 : decode cL_law 1610 = .ok (.iaload, 1) := by decide +kernel
theorem dL_law_1611 : decode cL_law 1611 = .ok (.aload_n 0, 1) := by decide +kernel
theorem dL_law_1612 : decode cL_law 1612 = .ok (.iload_n 3, 1) := by decide +kernel
theorem dL_law_1613 : decode cL_law 1613 = .ok (.iconst 2, 1) := by decide +kernel
theorem dL_law_1614 : decode cL_law 1614 = .ok (.iadd, 1) := by decide +kernel
theorem dL_law_1615 : decode cL_law 1615 = .ok (.iaload, 1) := by decide +kernel
theorem dL_law_1616 : decode cL_law 1616 = .ok (.aload_n 0, 1) := by decide +kernel
theorem dL_law_1617 : decode cL_law 1617 = .ok (.iload_n 3, 1) := by decide +kernel
theorem dL_law_1618 : decode cL_law 1618 = .ok (.iconst 3, 1) := by decide +kernel
theorem dL_law_1619 : decode cL_law 1619 = .ok (.iadd, 1) := by decide +kernel
theorem dL_law_1620 : decode cL_law 1620 = .ok (.iaload, 1) := by decide +kernel
theorem dL_law_1621 : decode cL_law 1621 = .ok (.aload_n 0, 1) := by decide +kernel
theorem dL_law_1622 : decode cL_law 1622 = .ok (.iload_n 3, 1) := by decide +kernel
theorem dL_law_1623 : decode cL_law 1623 = .ok (.iconst 4, 1) := by decide +kernel
theorem dL_law_1624 : decode cL_law 1624 = .ok (.iadd, 1) := by decide +kernel
theorem dL_law_1625 : decode cL_law 1625 = .ok (.iaload, 1) := by decide +kernel
theorem dL_law_1626 : decode cL_law 1626 = .ok (.invokevirtual 178, 3) := by decide +kernel
theorem dL_law_1629 : decode cL_law 1629 = .ok (.aload_n 2, 1) := by decide +kernel
theorem dL_law_1630 : decode cL_law 1630 = .ok (.aload_n 0, 1) := by decide +kernel
theorem dL_law_1631 : decode cL_law 1631 = .ok (.iload_n 3, 1) := by decide +kernel
theorem dL_law_1632 : decode cL_law 1632 = .ok (.iconst 1, 1) := by decide +kernel
theorem dL_law_1633 : decode cL_law 1633 = .ok (.iadd, 1) := by decide +kernel
theorem dL_law_1634 : decode cL_law 1634 = .ok (.iaload, 1) := by decide +kernel
theorem dL_law_1635 : decode cL_law 1635 = .ok (.aload_n 0, 1) := by decide +kernel
theorem dL_law_1636 : decode cL_law 1636 = .ok (.iload_n 3, 1) := by decide +kernel
theorem dL_law_1637 : decode cL_law 1637 = .ok (.iconst 2, 1) := by decide +kernel
theorem dL_law_1638 : decode cL_law 1638 = .ok (.iadd, 1) := by decide +kernel
theorem dL_law_1639 : decode cL_law 1639 = .ok (.iaload, 1) := by decide +kernel
theorem dL_law_1640 : decode cL_law 1640 = .ok (.aload_n 0, 1) := by decide +kernel
theorem dL_law_1641 : decode cL_law 1641 = .ok (.iload_n 3, 1) := by decide +kernel
theorem dL_law_1642 : decode cL_law 1642 = .ok (.iconst 3, 1) := by decide +kernel
theorem dL_law_1643 : decode cL_law 1643 = .ok (.iadd, 1) := by decide +kernel
theorem dL_law_1644 : decode cL_law 1644 = .ok (.iaload, 1) := by decide +kernel
theorem dL_law_1645 : decode cL_law 1645 = .ok (.aload_n 0, 1) := by decide +kernel
theorem dL_law_1646 : decode cL_law 1646 = .ok (.iload_n 3, 1) := by decide +kernel
theorem dL_law_1647 : decode cL_law 1647 = .ok (.iconst 4, 1) := by decide +kernel
theorem dL_law_1648 : decode cL_law 1648 = .ok (.iadd, 1) := by decide +kernel
theorem dL_law_1649 : decode cL_law 1649 = .ok (.iaload, 1) := by decide +kernel
theorem dL_law_1650 : decode cL_law 1650 = .ok (.invokevirtual 181, 3) := by decide +kernel
theorem dL_law_1653 : decode cL_law 1653 = .ok (.if_icmp .eq 68, 3) := by decide +kernel
theorem dL_law_1656 : decode cL_law 1656 = .ok (.iconst 0, 1) := by decide +kernel
theorem dL_law_1657 : decode cL_law 1657 = .ok (.ireturn, 1) := by decide +kernel
theorem dL_law_1658 : decode cL_law 1658 = .ok (.aload_n 1, 1) := by decide +kernel
theorem dL_law_1659 : decode cL_law 1659 = .ok (.aload_n 0, 1) := by decide +kernel
theorem dL_law_1660 : decode cL_law 1660 = .ok (.iload_n 3, 1) := by decide +kernel
theorem dL_law_1661 : decode cL_law 1661 = .ok (.iconst 1, 1) := by decide +kernel
theorem dL_law_1662 : decode cL_law 1662 = .ok (.iadd, 1) := by decide +kernel
theorem dL_law_1663 : decode cL_law 1663 = .ok (.iaload, 1) := by decide +kernel
theorem dL_law_1664 : decode cL_law 1664 = .ok (.aload_n 0, 1) := by decide +kernel
theorem dL_law_1665 : decode cL_law 1665 = .ok (.iload_n 3, 1) := by decide +kernel
theorem dL_law_1666 : decode cL_law 1666 = .ok (.iconst 2, 1) := by decide +kernel
theorem dL_law_1667 : decode cL_law 1667 = .ok (.iadd, 1) := by decide +kernel
theorem dL_law_1668 : decode cL_law 1668 = .ok (.iaload, 1) := by decide +kernel
theorem dL_law_1669 : decode cL_law 1669 = .ok (.aload_n 0, 1) := by decide +kernel
theorem dL_law_1670 : decode cL_law 1670 = .ok (.iload_n 3, 1) := by decide +kernel
theorem dL_law_1671 : decode cL_law 1671 = .ok (.iconst 3, 1) := by decide +kernel
theorem dL_law_1672 : decode cL_law 1672 = .ok (.iadd, 1) := by decide +kernel
theorem dL_law_1673 : decode cL_law 1673 = .ok (.iaload, 1) := by decide +kernel
theorem dL_law_1674 : decode cL_law 1674 = .ok (.aload_n 0, 1) := by decide +kernel
theorem dL_law_1675 : decode cL_law 1675 = .ok (.iload_n 3, 1) := by decide +kernel
theorem dL_law_1676 : decode cL_law 1676 = .ok (.iconst 4, 1) := by decide +kernel
theorem dL_law_1677 : decode cL_law 1677 = .ok (.iadd, 1) := by decide +kernel
theorem dL_law_1678 : decode cL_law 1678 = .ok (.iaload, 1) := by decide +kernel
theorem dL_law_1679 : decode cL_law 1679 = .ok (.aload_n 0, 1) := by decide +kernel
theorem dL_law_1680 : decode cL_law 1680 = .ok (.iload_n 3, 1) := by decide +kernel
theorem dL_law_1681 : decode cL_law 1681 = .ok (.iconst 5, 1) := by decide +kernel
theorem dL_law_1682 : decode cL_law 1682 = .ok (.iadd, 1) := by decide +kernel
theorem dL_law_1683 : decode cL_law 1683 = .ok (.iaload, 1) := by decide +kernel
theorem dL_law_1684 : decode cL_law 1684 = .ok (.invokevirtual 182, 3) := by decide +kernel
theorem dL_law_1687 : decode cL_law 1687 = .ok (.aload_n 2, 1) := by decide +kernel
theorem dL_law_1688 : decode cL_law 1688 = .ok (.aload_n 0, 1) := by decide +kernel
theorem dL_law_1689 : decode cL_law 1689 = .ok (.iload_n 3, 1) := by decide +kernel
theorem dL_law_1690 : decode cL_law 1690 = .ok (.iconst 1, 1) := by decide +kernel
theorem dL_law_1691 : decode cL_law 1691 = .ok (.iadd, 1) := by decide +kernel
theorem dL_law_1692 : decode cL_law 1692 = .ok (.iaload, 1) := by decide +kernel
theorem dL_law_1693 : decode cL_law 1693 = .ok (.aload_n 0, 1) := by decide +kernel
theorem dL_law_1694 : decode cL_law 1694 = .ok (.iload_n 3, 1) := by decide +kernel
theorem dL_law_1695 : decode cL_law 1695 = .ok (.iconst 2, 1) := by decide +kernel
theorem dL_law_1696 : decode cL_law 1696 = .ok (.iadd, 1) := by decide +kernel
theorem dL_law_1697 : decode cL_law 1697 = .ok (.iaload, 1) := by decide +kernel
theorem dL_law_1698 : decode cL_law 1698 = .ok (.aload_n 0, 1) := by decide +kernel
theorem dL_law_1699 : decode cL_law 1699 = .ok (.iload_n 3, 1) := by decide +kernel
theorem dL_law_1700 : decode cL_law 1700 = .ok (.iconst 3, 1) := by decide +kernel
theorem dL_law_1701 : decode cL_law 1701 = .ok (.iadd, 1) := by decide +kernel
theorem dL_law_1702 : decode cL_law 1702 = .ok (.iaload, 1) := by decide +kernel
theorem dL_law_1703 : decode cL_law 1703 = .ok (.aload_n 0, 1) := by decide +kernel
theorem dL_law_1704 : decode cL_law 1704 = .ok (.iload_n 3, 1) := by decide +kernel
theorem dL_law_1705 : decode cL_law 1705 = .ok (.iconst 4, 1) := by decide +kernel
theorem dL_law_1706 : decode cL_law 1706 = .ok (.iadd, 1) := by decide +kernel
theorem dL_law_1707 : decode cL_law 1707 = .ok (.iaload, 1) := by decide +kernel
theorem dL_law_1708 : decode cL_law 1708 = .ok (.aload_n 0, 1) := by decide +kernel
theorem dL_law_1709 : decode cL_law 1709 = .ok (.iload_n 3, 1) := by decide +kernel
theorem dL_law_1710 : decode cL_law 1710 = .ok (.iconst 5, 1) := by decide +kernel
theorem dL_law_1711 : decode cL_law 1711 = .ok (.iadd, 1) := by decide +kernel
theorem dL_law_1712 : decode cL_law 1712 = .ok (.iaload, 1) := by decide +kernel
theorem dL_law_1713 : decode cL_law 1713 = .ok (.invokevirtual 185, 3) := by decide +kernel
theorem dL_law_1716 : decode cL_law 1716 = .ok (.if_icmp .eq 5, 3) := by decide +kernel
theorem dL_law_1719 : decode cL_law 1719 = .ok (.iconst 0, 1) := by decide +kernel
theorem dL_law_1720 : decode cL_law 1720 = .ok (.ireturn, 1) := by decide +kernel
theorem dL_law_1721 : decode cL_law 1721 = .ok (.iinc 3 8, 3) := by decide +kernel
theorem dL_law_1724 : decode cL_law 1724 = .ok (.goto (-1706), 3) := by decide +kernel
theorem dL_law_1727 : decode cL_law 1727 = .ok (.iconst 1, 1) := by decide +kernel
theorem dL_law_1728 : decode cL_law 1728 = .ok (.ireturn, 1) := by decide +kernel
end
section
/-! THE WORDS by their places in lw_tbl; a row a field, a row a call -/
theorem nestW_ps : nestW = [91, 92, 94, 95, 115, 116, 117, 118, 119, 120, 121, 122, 133, 135, 136, 138, 139, 154, 156, 164, 166, 168, 205, 207, 208, 210, 211, 213, 214, 216, 218, 251, 253, 255, 258, 260, 285, 287, 301, 302, 304, 305, 307, 308, 310, 311, 313, 315, 317, 319, 345, 346, 347, 361, 363, 365, 86, 111, 200, 240, 296, 338, 343, 356, 575].filterMap (fun i => lw_tbl[i]?) := by decide +kernel
theorem nestW_in : ∀ w ∈ nestW, w ∈ lw_tbl := by
  intro w hw
  rw [nestW_ps] at hw
  obtain ⟨i, -, hi⟩ := List.mem_filterMap.mp hw
  exact List.mem_of_getElem? hi
theorem tinX0 : ∀ w ∈ wsX00, w ∈ TB := tb_ps [219, 221, 223, 225, 227, 229] (by decide +kernel) (by decide +kernel)
theorem tinX1 : ∀ w ∈ wsX10, w ∈ TB := tb_ps [171, 173, 175, 177, 179, 181, 183, 185, 187, 189, 191, 193, 195] (by decide +kernel) (by decide +kernel)
theorem tinX2 : ∀ w ∈ wsX20, w ∈ TB := tb_ps [288, 290] (by decide +kernel) (by decide +kernel)
theorem tinX3 : ∀ w ∈ wsX30, w ∈ TB := tb_ps [261, 263, 265, 267, 269, 271] (by decide +kernel) (by decide +kernel)
theorem tinX4 : ∀ w ∈ wsX40, w ∈ TB := tb_ps [140, 142, 144] (by decide +kernel) (by decide +kernel)
theorem tinX5 : ∀ w ∈ wsX50, w ∈ TB := tb_ps [348, 350, 352] (by decide +kernel) (by decide +kernel)
theorem tinX6 : ∀ w ∈ wsX60, w ∈ TB := tb_ps [366, 368, 370] (by decide +kernel) (by decide +kernel)
theorem tinX7 : ∀ w ∈ wsX70, w ∈ TB := tb_ps [320, 322, 324, 326, 328, 330, 332, 334] (by decide +kernel) (by decide +kernel)
theorem tinX8 : ∀ w ∈ wsX80, w ∈ TB := tb_ps [123, 125, 127, 129] (by decide +kernel) (by decide +kernel)
theorem tinX9 : ∀ w ∈ wsX90, w ∈ TB := tb_ps [96, 98] (by decide +kernel) (by decide +kernel)
theorem tinX10 : ∀ w ∈ wsX100, w ∈ TB := tb_ps [392, 394, 396, 398, 400, 402, 404, 406, 408, 410, 412, 414, 416, 418, 420, 422, 424, 426, 428] (by decide +kernel) (by decide +kernel)
theorem tinX11 : ∀ w ∈ wsX110, w ∈ TB := tb_ps [908, 910, 912, 914, 916, 918, 920, 922, 924, 926, 928, 930, 932, 934, 936, 938, 940, 942, 944, 946, 948, 950, 952, 954, 956, 958, 960, 962, 964, 966, 968, 970, 972, 974, 976, 978, 980, 982, 984, 986, 988, 990, 992, 994, 996, 998, 1000, 1002, 1004, 1006] (by decide +kernel) (by decide +kernel)
section GF
variable {cc : ByteArray} {nL : Nat} {R : Room} {E : En} {g : GT} {I : Mem} {lv : LV} {st : List Value}
theorem wf_X10_366 : Cond.fieldLink RX10 366 "ThrowersBag" "SINES" "[I" ∈ TB := tb_at 79 (by decide +kernel) (by decide +kernel)
theorem wf_X9_9 : Cond.fieldLink RX9 9 "ThrowersBag$Wind" "speeds" "[I" ∈ TB := tb_at 90 (by decide +kernel) (by decide +kernel)
theorem wf_X1_96 : Cond.fieldLinkNest RX1 96 "ThrowersBag$Wind" "speeds" "[I" "ThrowersBag" ∈ nestW := List.mem_of_getElem? (i := 0) (by decide +kernel)
theorem gf_X1_96 (h : Sem cc RX1 nL R E g) {pc k : Nat} (d : decode cc pc = .ok (.getfield 96, 3)) (hk : k < 184) (hkd : kd k = 9) (kk : g I (pc + 3) lv (.ref (E.1 (rf k 0)) :: st)) : g I pc lv (.ref (E.1 k) :: st) := r_getRN h (ci := 9) (C := RX9) (T := TX9) (N := 2) d rfl tinX9 0 (by decide) wf_X1_96 (by decide) (by decide) (by decide) hk hkd kk
theorem wf_X10_167 : Cond.fieldLinkNest RX10 167 "ThrowersBag$Wind" "speeds" "[I" "ThrowersBag" ∈ nestW := List.mem_of_getElem? (i := 1) (by decide +kernel)
theorem gf_X10_167 (h : Sem cc RX10 nL R E g) {pc k : Nat} (d : decode cc pc = .ok (.getfield 167, 3)) (hk : k < 184) (hkd : kd k = 9) (kk : g I (pc + 3) lv (.ref (E.1 (rf k 0)) :: st)) : g I pc lv (.ref (E.1 k) :: st) := r_getRN h (ci := 9) (C := RX9) (T := TX9) (N := 2) d rfl tinX9 0 (by decide) wf_X10_167 (by decide) (by decide) (by decide) hk hkd kk
theorem wf_X9_15 : Cond.fieldLink RX9 15 "ThrowersBag$Wind" "tos" "[I" ∈ TB := tb_at 93 (by decide +kernel) (by decide +kernel)
theorem gf_X9_15 (h : Sem cc RX9 nL R E g) {pc k : Nat} (d : decode cc pc = .ok (.getfield 15, 3)) (hk : k < 184) (hkd : kd k = 9) (kk : g I (pc + 3) lv (.ref (E.1 (rf k 1)) :: st)) : g I pc lv (.ref (E.1 k) :: st) := r_getR h (ci := 9) (C := RX9) (T := TX9) (N := 2) d rfl tinX9 1 (by decide) wf_X9_15 (by decide) (by decide) (by decide) hk hkd kk
theorem wf_X1_99 : Cond.fieldLinkNest RX1 99 "ThrowersBag$Wind" "tos" "[I" "ThrowersBag" ∈ nestW := List.mem_of_getElem? (i := 2) (by decide +kernel)
theorem gf_X1_99 (h : Sem cc RX1 nL R E g) {pc k : Nat} (d : decode cc pc = .ok (.getfield 99, 3)) (hk : k < 184) (hkd : kd k = 9) (kk : g I (pc + 3) lv (.ref (E.1 (rf k 1)) :: st)) : g I pc lv (.ref (E.1 k) :: st) := r_getRN h (ci := 9) (C := RX9) (T := TX9) (N := 2) d rfl tinX9 1 (by decide) wf_X1_99 (by decide) (by decide) (by decide) hk hkd kk
theorem wf_X10_170 : Cond.fieldLinkNest RX10 170 "ThrowersBag$Wind" "tos" "[I" "ThrowersBag" ∈ nestW := List.mem_of_getElem? (i := 3) (by decide +kernel)
theorem gf_X10_170 (h : Sem cc RX10 nL R E g) {pc k : Nat} (d : decode cc pc = .ok (.getfield 170, 3)) (hk : k < 184) (hkd : kd k = 9) (kk : g I (pc + 3) lv (.ref (E.1 (rf k 1)) :: st)) : g I pc lv (.ref (E.1 k) :: st) := r_getRN h (ci := 9) (C := RX9) (T := TX9) (N := 2) d rfl tinX9 1 (by decide) wf_X10_170 (by decide) (by decide) (by decide) hk hkd kk
theorem wf_X4_25 : Cond.fieldLinkNest RX4 25 "ThrowersBag$Tree" "x" "I" "ThrowersBag" ∈ nestW := List.mem_of_getElem? (i := 4) (by decide +kernel)
theorem pf_X4_25 (h : Sem cc RX4 nL R E g) {pc k : Nat} {v : Int32} (d : decode cc pc = .ok (.putfield 25, 3)) (hk : k < 184) (hkd : kd k = 8) (kk : g (upm I k 0 v) (pc + 3) lv st) : g I pc lv (.int v :: .ref (E.1 k) :: st) := r_putN h (ci := 8) (C := RX8) (T := TX8) (N := 4) (ty := .int) d rfl tinX8 tyX8_ok nmX8 0 (by decide) wf_X4_25 rfl (by decide +kernel) (by decide) (by decide) (by decide) rfl rfl hk hkd kk
theorem wf_X1_122 : Cond.fieldLinkNest RX1 122 "ThrowersBag$Tree" "x" "I" "ThrowersBag" ∈ nestW := List.mem_of_getElem? (i := 5) (by decide +kernel)
theorem gf_X1_122 (h : Sem cc RX1 nL R E g) {pc k : Nat} (d : decode cc pc = .ok (.getfield 122, 3)) (hk : k < 184) (hkd : kd k = 8) (kk : g I (pc + 3) lv (.int (I k 0) :: st)) : g I pc lv (.ref (E.1 k) :: st) := r_getIN h (ci := 8) (C := RX8) (T := TX8) (N := 4) d rfl tinX8 0 (by decide) wf_X1_122 (by decide) (by decide) (by decide) hk hkd kk
theorem wf_X4_28 : Cond.fieldLinkNest RX4 28 "ThrowersBag$Tree" "y" "I" "ThrowersBag" ∈ nestW := List.mem_of_getElem? (i := 6) (by decide +kernel)
theorem pf_X4_28 (h : Sem cc RX4 nL R E g) {pc k : Nat} {v : Int32} (d : decode cc pc = .ok (.putfield 28, 3)) (hk : k < 184) (hkd : kd k = 8) (kk : g (upm I k 1 v) (pc + 3) lv st) : g I pc lv (.int v :: .ref (E.1 k) :: st) := r_putN h (ci := 8) (C := RX8) (T := TX8) (N := 4) (ty := .int) d rfl tinX8 tyX8_ok nmX8 1 (by decide) wf_X4_28 rfl (by decide +kernel) (by decide) (by decide) (by decide) rfl rfl hk hkd kk
theorem wf_X1_123 : Cond.fieldLinkNest RX1 123 "ThrowersBag$Tree" "y" "I" "ThrowersBag" ∈ nestW := List.mem_of_getElem? (i := 7) (by decide +kernel)
theorem gf_X1_123 (h : Sem cc RX1 nL R E g) {pc k : Nat} (d : decode cc pc = .ok (.getfield 123, 3)) (hk : k < 184) (hkd : kd k = 8) (kk : g I (pc + 3) lv (.int (I k 1) :: st)) : g I pc lv (.ref (E.1 k) :: st) := r_getIN h (ci := 8) (C := RX8) (T := TX8) (N := 4) d rfl tinX8 1 (by decide) wf_X1_123 (by decide) (by decide) (by decide) hk hkd kk
theorem wf_X4_31 : Cond.fieldLinkNest RX4 31 "ThrowersBag$Tree" "thick" "I" "ThrowersBag" ∈ nestW := List.mem_of_getElem? (i := 8) (by decide +kernel)
theorem pf_X4_31 (h : Sem cc RX4 nL R E g) {pc k : Nat} {v : Int32} (d : decode cc pc = .ok (.putfield 31, 3)) (hk : k < 184) (hkd : kd k = 8) (kk : g (upm I k 2 v) (pc + 3) lv st) : g I pc lv (.int v :: .ref (E.1 k) :: st) := r_putN h (ci := 8) (C := RX8) (T := TX8) (N := 4) (ty := .int) d rfl tinX8 tyX8_ok nmX8 2 (by decide) wf_X4_31 rfl (by decide +kernel) (by decide) (by decide) (by decide) rfl rfl hk hkd kk
theorem wf_X1_124 : Cond.fieldLinkNest RX1 124 "ThrowersBag$Tree" "thick" "I" "ThrowersBag" ∈ nestW := List.mem_of_getElem? (i := 9) (by decide +kernel)
theorem gf_X1_124 (h : Sem cc RX1 nL R E g) {pc k : Nat} (d : decode cc pc = .ok (.getfield 124, 3)) (hk : k < 184) (hkd : kd k = 8) (kk : g I (pc + 3) lv (.int (I k 2) :: st)) : g I pc lv (.ref (E.1 k) :: st) := r_getIN h (ci := 8) (C := RX8) (T := TX8) (N := 4) d rfl tinX8 2 (by decide) wf_X1_124 (by decide) (by decide) (by decide) hk hkd kk
theorem wf_X4_34 : Cond.fieldLinkNest RX4 34 "ThrowersBag$Tree" "high" "I" "ThrowersBag" ∈ nestW := List.mem_of_getElem? (i := 10) (by decide +kernel)
theorem pf_X4_34 (h : Sem cc RX4 nL R E g) {pc k : Nat} {v : Int32} (d : decode cc pc = .ok (.putfield 34, 3)) (hk : k < 184) (hkd : kd k = 8) (kk : g (upm I k 3 v) (pc + 3) lv st) : g I pc lv (.int v :: .ref (E.1 k) :: st) := r_putN h (ci := 8) (C := RX8) (T := TX8) (N := 4) (ty := .int) d rfl tinX8 tyX8_ok nmX8 3 (by decide) wf_X4_34 rfl (by decide +kernel) (by decide) (by decide) (by decide) rfl rfl hk hkd kk
theorem wf_X1_117 : Cond.fieldLinkNest RX1 117 "ThrowersBag$Tree" "high" "I" "ThrowersBag" ∈ nestW := List.mem_of_getElem? (i := 11) (by decide +kernel)
theorem gf_X1_117 (h : Sem cc RX1 nL R E g) {pc k : Nat} (d : decode cc pc = .ok (.getfield 117, 3)) (hk : k < 184) (hkd : kd k = 8) (kk : g I (pc + 3) lv (.int (I k 3) :: st)) : g I pc lv (.ref (E.1 k) :: st) := r_getIN h (ci := 8) (C := RX8) (T := TX8) (N := 4) d rfl tinX8 3 (by decide) wf_X1_117 (by decide) (by decide) (by decide) hk hkd kk
theorem wf_X4_11 : Cond.fieldLink RX4 11 "ThrowersBag$Meadow" "trees" "[LThrowersBag$Tree;" ∈ TB := tb_at 132 (by decide +kernel) (by decide +kernel)
theorem gf_X4_11 (h : Sem cc RX4 nL R E g) {pc k : Nat} (d : decode cc pc = .ok (.getfield 11, 3)) (hk : k < 184) (hkd : kd k = 4) (kk : g I (pc + 3) lv (.ref (E.1 (rf k 0)) :: st)) : g I pc lv (.ref (E.1 k) :: st) := r_getR h (ci := 4) (C := RX4) (T := TX4) (N := 3) d rfl tinX4 0 (by decide) wf_X4_11 (by decide) (by decide) (by decide) hk hkd kk
theorem wf_X1_113 : Cond.fieldLinkNest RX1 113 "ThrowersBag$Meadow" "trees" "[LThrowersBag$Tree;" "ThrowersBag" ∈ nestW := List.mem_of_getElem? (i := 12) (by decide +kernel)
theorem gf_X1_113 (h : Sem cc RX1 nL R E g) {pc k : Nat} (d : decode cc pc = .ok (.getfield 113, 3)) (hk : k < 184) (hkd : kd k = 4) (kk : g I (pc + 3) lv (.ref (E.1 (rf k 0)) :: st)) : g I pc lv (.ref (E.1 k) :: st) := r_getRN h (ci := 4) (C := RX4) (T := TX4) (N := 3) d rfl tinX4 0 (by decide) wf_X1_113 (by decide) (by decide) (by decide) hk hkd kk
theorem wf_X4_17 : Cond.fieldLink RX4 17 "ThrowersBag$Meadow" "treeCount" "I" ∈ TB := tb_at 134 (by decide +kernel) (by decide +kernel)
theorem gf_X4_17 (h : Sem cc RX4 nL R E g) {pc k : Nat} (d : decode cc pc = .ok (.getfield 17, 3)) (hk : k < 184) (hkd : kd k = 4) (kk : g I (pc + 3) lv (.int (I k 1) :: st)) : g I pc lv (.ref (E.1 k) :: st) := r_getI h (ci := 4) (C := RX4) (T := TX4) (N := 3) d rfl tinX4 1 (by decide) wf_X4_17 (by decide) (by decide) (by decide) hk hkd kk
theorem pf_X4_17 (h : Sem cc RX4 nL R E g) {pc k : Nat} {v : Int32} (d : decode cc pc = .ok (.putfield 17, 3)) (hk : k < 184) (hkd : kd k = 4) (kk : g (upm I k 1 v) (pc + 3) lv st) : g I pc lv (.int v :: .ref (E.1 k) :: st) := r_put h (ci := 4) (C := RX4) (T := TX4) (N := 3) (ty := .int) d rfl tinX4 tyX4_ok nmX4 1 (by decide) wf_X4_17 rfl (by decide +kernel) (by decide) (by decide) (by decide) rfl rfl hk hkd kk
theorem wf_X1_108 : Cond.fieldLinkNest RX1 108 "ThrowersBag$Meadow" "treeCount" "I" "ThrowersBag" ∈ nestW := List.mem_of_getElem? (i := 13) (by decide +kernel)
theorem gf_X1_108 (h : Sem cc RX1 nL R E g) {pc k : Nat} (d : decode cc pc = .ok (.getfield 108, 3)) (hk : k < 184) (hkd : kd k = 4) (kk : g I (pc + 3) lv (.int (I k 1) :: st)) : g I pc lv (.ref (E.1 k) :: st) := r_getIN h (ci := 4) (C := RX4) (T := TX4) (N := 3) d rfl tinX4 1 (by decide) wf_X1_108 (by decide) (by decide) (by decide) hk hkd kk
theorem wf_X10_332 : Cond.fieldLinkNest RX10 332 "ThrowersBag$Meadow" "treeCount" "I" "ThrowersBag" ∈ nestW := List.mem_of_getElem? (i := 14) (by decide +kernel)
theorem gf_X10_332 (h : Sem cc RX10 nL R E g) {pc k : Nat} (d : decode cc pc = .ok (.getfield 332, 3)) (hk : k < 184) (hkd : kd k = 4) (kk : g I (pc + 3) lv (.int (I k 1) :: st)) : g I pc lv (.ref (E.1 k) :: st) := r_getIN h (ci := 4) (C := RX4) (T := TX4) (N := 3) d rfl tinX4 1 (by decide) wf_X10_332 (by decide) (by decide) (by decide) hk hkd kk
theorem wf_X4_21 : Cond.fieldLink RX4 21 "ThrowersBag$Meadow" "ringWide" "I" ∈ TB := tb_at 137 (by decide +kernel) (by decide +kernel)
theorem pf_X4_21 (h : Sem cc RX4 nL R E g) {pc k : Nat} {v : Int32} (d : decode cc pc = .ok (.putfield 21, 3)) (hk : k < 184) (hkd : kd k = 4) (kk : g (upm I k 2 v) (pc + 3) lv st) : g I pc lv (.int v :: .ref (E.1 k) :: st) := r_put h (ci := 4) (C := RX4) (T := TX4) (N := 3) (ty := .int) d rfl tinX4 tyX4_ok nmX4 2 (by decide) wf_X4_21 rfl (by decide +kernel) (by decide) (by decide) (by decide) rfl rfl hk hkd kk
theorem wf_X1_135 : Cond.fieldLinkNest RX1 135 "ThrowersBag$Meadow" "ringWide" "I" "ThrowersBag" ∈ nestW := List.mem_of_getElem? (i := 15) (by decide +kernel)
theorem gf_X1_135 (h : Sem cc RX1 nL R E g) {pc k : Nat} (d : decode cc pc = .ok (.getfield 135, 3)) (hk : k < 184) (hkd : kd k = 4) (kk : g I (pc + 3) lv (.int (I k 2) :: st)) : g I pc lv (.ref (E.1 k) :: st) := r_getIN h (ci := 4) (C := RX4) (T := TX4) (N := 3) d rfl tinX4 2 (by decide) wf_X1_135 (by decide) (by decide) (by decide) hk hkd kk
theorem wf_X10_181 : Cond.fieldLinkNest RX10 181 "ThrowersBag$Meadow" "ringWide" "I" "ThrowersBag" ∈ nestW := List.mem_of_getElem? (i := 16) (by decide +kernel)
theorem gf_X10_181 (h : Sem cc RX10 nL R E g) {pc k : Nat} (d : decode cc pc = .ok (.getfield 181, 3)) (hk : k < 184) (hkd : kd k = 4) (kk : g I (pc + 3) lv (.int (I k 2) :: st)) : g I pc lv (.ref (E.1 k) :: st) := r_getIN h (ci := 4) (C := RX4) (T := TX4) (N := 3) d rfl tinX4 2 (by decide) wf_X10_181 (by decide) (by decide) (by decide) hk hkd kk
theorem pf_X10_181 (h : Sem cc RX10 nL R E g) {pc k : Nat} {v : Int32} (d : decode cc pc = .ok (.putfield 181, 3)) (hk : k < 184) (hkd : kd k = 4) (kk : g (upm I k 2 v) (pc + 3) lv st) : g I pc lv (.int v :: .ref (E.1 k) :: st) := r_putN h (ci := 4) (C := RX4) (T := TX4) (N := 3) (ty := .int) d rfl tinX4 tyX4_ok nmX4 2 (by decide) wf_X10_181 rfl (by decide +kernel) (by decide) (by decide) (by decide) rfl rfl hk hkd kk
theorem wf_X1_28 : Cond.fieldLink RX1 28 "ThrowersBag$Flight" "x" "I" ∈ TB := tb_at 153 (by decide +kernel) (by decide +kernel)
theorem gf_X1_28 (h : Sem cc RX1 nL R E g) {pc k : Nat} (d : decode cc pc = .ok (.getfield 28, 3)) (hk : k < 184) (hkd : kd k = 1) (kk : g I (pc + 3) lv (.int (I k 0) :: st)) : g I pc lv (.ref (E.1 k) :: st) := r_getI h (ci := 1) (C := RX1) (T := TX1) (N := 13) d rfl tinX1 0 (by decide) wf_X1_28 (by decide) (by decide) (by decide) hk hkd kk
theorem pf_X1_28 (h : Sem cc RX1 nL R E g) {pc k : Nat} {v : Int32} (d : decode cc pc = .ok (.putfield 28, 3)) (hk : k < 184) (hkd : kd k = 1) (kk : g (upm I k 0 v) (pc + 3) lv st) : g I pc lv (.int v :: .ref (E.1 k) :: st) := r_put h (ci := 1) (C := RX1) (T := TX1) (N := 13) (ty := .int) d rfl tinX1 tyX1_ok nmX1 0 (by decide) wf_X1_28 rfl (by decide +kernel) (by decide) (by decide) (by decide) rfl rfl hk hkd kk
theorem wf_X10_305 : Cond.fieldLinkNest RX10 305 "ThrowersBag$Flight" "x" "I" "ThrowersBag" ∈ nestW := List.mem_of_getElem? (i := 17) (by decide +kernel)
theorem gf_X10_305 (h : Sem cc RX10 nL R E g) {pc k : Nat} (d : decode cc pc = .ok (.getfield 305, 3)) (hk : k < 184) (hkd : kd k = 1) (kk : g I (pc + 3) lv (.int (I k 0) :: st)) : g I pc lv (.ref (E.1 k) :: st) := r_getIN h (ci := 1) (C := RX1) (T := TX1) (N := 13) d rfl tinX1 0 (by decide) wf_X10_305 (by decide) (by decide) (by decide) hk hkd kk
theorem wf_X1_31 : Cond.fieldLink RX1 31 "ThrowersBag$Flight" "y" "I" ∈ TB := tb_at 155 (by decide +kernel) (by decide +kernel)
theorem gf_X1_31 (h : Sem cc RX1 nL R E g) {pc k : Nat} (d : decode cc pc = .ok (.getfield 31, 3)) (hk : k < 184) (hkd : kd k = 1) (kk : g I (pc + 3) lv (.int (I k 1) :: st)) : g I pc lv (.ref (E.1 k) :: st) := r_getI h (ci := 1) (C := RX1) (T := TX1) (N := 13) d rfl tinX1 1 (by decide) wf_X1_31 (by decide) (by decide) (by decide) hk hkd kk
theorem pf_X1_31 (h : Sem cc RX1 nL R E g) {pc k : Nat} {v : Int32} (d : decode cc pc = .ok (.putfield 31, 3)) (hk : k < 184) (hkd : kd k = 1) (kk : g (upm I k 1 v) (pc + 3) lv st) : g I pc lv (.int v :: .ref (E.1 k) :: st) := r_put h (ci := 1) (C := RX1) (T := TX1) (N := 13) (ty := .int) d rfl tinX1 tyX1_ok nmX1 1 (by decide) wf_X1_31 rfl (by decide +kernel) (by decide) (by decide) (by decide) rfl rfl hk hkd kk
theorem wf_X10_311 : Cond.fieldLinkNest RX10 311 "ThrowersBag$Flight" "y" "I" "ThrowersBag" ∈ nestW := List.mem_of_getElem? (i := 18) (by decide +kernel)
theorem gf_X10_311 (h : Sem cc RX10 nL R E g) {pc k : Nat} (d : decode cc pc = .ok (.getfield 311, 3)) (hk : k < 184) (hkd : kd k = 1) (kk : g I (pc + 3) lv (.int (I k 1) :: st)) : g I pc lv (.ref (E.1 k) :: st) := r_getIN h (ci := 1) (C := RX1) (T := TX1) (N := 13) d rfl tinX1 1 (by decide) wf_X10_311 (by decide) (by decide) (by decide) hk hkd kk
theorem wf_X1_34 : Cond.fieldLink RX1 34 "ThrowersBag$Flight" "height" "I" ∈ TB := tb_at 157 (by decide +kernel) (by decide +kernel)
theorem gf_X1_34 (h : Sem cc RX1 nL R E g) {pc k : Nat} (d : decode cc pc = .ok (.getfield 34, 3)) (hk : k < 184) (hkd : kd k = 1) (kk : g I (pc + 3) lv (.int (I k 2) :: st)) : g I pc lv (.ref (E.1 k) :: st) := r_getI h (ci := 1) (C := RX1) (T := TX1) (N := 13) d rfl tinX1 2 (by decide) wf_X1_34 (by decide) (by decide) (by decide) hk hkd kk
theorem pf_X1_34 (h : Sem cc RX1 nL R E g) {pc k : Nat} {v : Int32} (d : decode cc pc = .ok (.putfield 34, 3)) (hk : k < 184) (hkd : kd k = 1) (kk : g (upm I k 2 v) (pc + 3) lv st) : g I pc lv (.int v :: .ref (E.1 k) :: st) := r_put h (ci := 1) (C := RX1) (T := TX1) (N := 13) (ty := .int) d rfl tinX1 tyX1_ok nmX1 2 (by decide) wf_X1_34 rfl (by decide +kernel) (by decide) (by decide) (by decide) rfl rfl hk hkd kk
theorem wf_X1_37 : Cond.fieldLink RX1 37 "ThrowersBag$Flight" "climb" "I" ∈ TB := tb_at 158 (by decide +kernel) (by decide +kernel)
theorem gf_X1_37 (h : Sem cc RX1 nL R E g) {pc k : Nat} (d : decode cc pc = .ok (.getfield 37, 3)) (hk : k < 184) (hkd : kd k = 1) (kk : g I (pc + 3) lv (.int (I k 3) :: st)) : g I pc lv (.ref (E.1 k) :: st) := r_getI h (ci := 1) (C := RX1) (T := TX1) (N := 13) d rfl tinX1 3 (by decide) wf_X1_37 (by decide) (by decide) (by decide) hk hkd kk
theorem pf_X1_37 (h : Sem cc RX1 nL R E g) {pc k : Nat} {v : Int32} (d : decode cc pc = .ok (.putfield 37, 3)) (hk : k < 184) (hkd : kd k = 1) (kk : g (upm I k 3 v) (pc + 3) lv st) : g I pc lv (.int v :: .ref (E.1 k) :: st) := r_put h (ci := 1) (C := RX1) (T := TX1) (N := 13) (ty := .int) d rfl tinX1 tyX1_ok nmX1 3 (by decide) wf_X1_37 rfl (by decide +kernel) (by decide) (by decide) (by decide) rfl rfl hk hkd kk
theorem wf_X1_45 : Cond.fieldLink RX1 45 "ThrowersBag$Flight" "way" "I" ∈ TB := tb_at 159 (by decide +kernel) (by decide +kernel)
theorem gf_X1_45 (h : Sem cc RX1 nL R E g) {pc k : Nat} (d : decode cc pc = .ok (.getfield 45, 3)) (hk : k < 184) (hkd : kd k = 1) (kk : g I (pc + 3) lv (.int (I k 4) :: st)) : g I pc lv (.ref (E.1 k) :: st) := r_getI h (ci := 1) (C := RX1) (T := TX1) (N := 13) d rfl tinX1 4 (by decide) wf_X1_45 (by decide) (by decide) (by decide) hk hkd kk
theorem pf_X1_45 (h : Sem cc RX1 nL R E g) {pc k : Nat} {v : Int32} (d : decode cc pc = .ok (.putfield 45, 3)) (hk : k < 184) (hkd : kd k = 1) (kk : g (upm I k 4 v) (pc + 3) lv st) : g I pc lv (.int v :: .ref (E.1 k) :: st) := r_put h (ci := 1) (C := RX1) (T := TX1) (N := 13) (ty := .int) d rfl tinX1 tyX1_ok nmX1 4 (by decide) wf_X1_45 rfl (by decide +kernel) (by decide) (by decide) (by decide) rfl rfl hk hkd kk
theorem wf_X1_51 : Cond.fieldLink RX1 51 "ThrowersBag$Flight" "speed" "I" ∈ TB := tb_at 160 (by decide +kernel) (by decide +kernel)
theorem gf_X1_51 (h : Sem cc RX1 nL R E g) {pc k : Nat} (d : decode cc pc = .ok (.getfield 51, 3)) (hk : k < 184) (hkd : kd k = 1) (kk : g I (pc + 3) lv (.int (I k 5) :: st)) : g I pc lv (.ref (E.1 k) :: st) := r_getI h (ci := 1) (C := RX1) (T := TX1) (N := 13) d rfl tinX1 5 (by decide) wf_X1_51 (by decide) (by decide) (by decide) hk hkd kk
theorem pf_X1_51 (h : Sem cc RX1 nL R E g) {pc k : Nat} {v : Int32} (d : decode cc pc = .ok (.putfield 51, 3)) (hk : k < 184) (hkd : kd k = 1) (kk : g (upm I k 5 v) (pc + 3) lv st) : g I pc lv (.int v :: .ref (E.1 k) :: st) := r_put h (ci := 1) (C := RX1) (T := TX1) (N := 13) (ty := .int) d rfl tinX1 tyX1_ok nmX1 5 (by decide) wf_X1_51 rfl (by decide +kernel) (by decide) (by decide) (by decide) rfl rfl hk hkd kk
theorem wf_X1_57 : Cond.fieldLink RX1 57 "ThrowersBag$Flight" "spin" "I" ∈ TB := tb_at 161 (by decide +kernel) (by decide +kernel)
theorem gf_X1_57 (h : Sem cc RX1 nL R E g) {pc k : Nat} (d : decode cc pc = .ok (.getfield 57, 3)) (hk : k < 184) (hkd : kd k = 1) (kk : g I (pc + 3) lv (.int (I k 6) :: st)) : g I pc lv (.ref (E.1 k) :: st) := r_getI h (ci := 1) (C := RX1) (T := TX1) (N := 13) d rfl tinX1 6 (by decide) wf_X1_57 (by decide) (by decide) (by decide) hk hkd kk
theorem pf_X1_57 (h : Sem cc RX1 nL R E g) {pc k : Nat} {v : Int32} (d : decode cc pc = .ok (.putfield 57, 3)) (hk : k < 184) (hkd : kd k = 1) (kk : g (upm I k 6 v) (pc + 3) lv st) : g I pc lv (.int v :: .ref (E.1 k) :: st) := r_put h (ci := 1) (C := RX1) (T := TX1) (N := 13) (ty := .int) d rfl tinX1 tyX1_ok nmX1 6 (by decide) wf_X1_57 rfl (by decide +kernel) (by decide) (by decide) (by decide) rfl rfl hk hkd kk
theorem wf_X1_61 : Cond.fieldLink RX1 61 "ThrowersBag$Flight" "lean" "I" ∈ TB := tb_at 162 (by decide +kernel) (by decide +kernel)
theorem gf_X1_61 (h : Sem cc RX1 nL R E g) {pc k : Nat} (d : decode cc pc = .ok (.getfield 61, 3)) (hk : k < 184) (hkd : kd k = 1) (kk : g I (pc + 3) lv (.int (I k 7) :: st)) : g I pc lv (.ref (E.1 k) :: st) := r_getI h (ci := 1) (C := RX1) (T := TX1) (N := 13) d rfl tinX1 7 (by decide) wf_X1_61 (by decide) (by decide) (by decide) hk hkd kk
theorem pf_X1_61 (h : Sem cc RX1 nL R E g) {pc k : Nat} {v : Int32} (d : decode cc pc = .ok (.putfield 61, 3)) (hk : k < 184) (hkd : kd k = 1) (kk : g (upm I k 7 v) (pc + 3) lv st) : g I pc lv (.int v :: .ref (E.1 k) :: st) := r_put h (ci := 1) (C := RX1) (T := TX1) (N := 13) (ty := .int) d rfl tinX1 tyX1_ok nmX1 7 (by decide) wf_X1_61 rfl (by decide +kernel) (by decide) (by decide) (by decide) rfl rfl hk hkd kk
theorem wf_X1_9 : Cond.fieldLink RX1 9 "ThrowersBag$Flight" "tick" "I" ∈ TB := tb_at 163 (by decide +kernel) (by decide +kernel)
theorem gf_X1_9 (h : Sem cc RX1 nL R E g) {pc k : Nat} (d : decode cc pc = .ok (.getfield 9, 3)) (hk : k < 184) (hkd : kd k = 1) (kk : g I (pc + 3) lv (.int (I k 8) :: st)) : g I pc lv (.ref (E.1 k) :: st) := r_getI h (ci := 1) (C := RX1) (T := TX1) (N := 13) d rfl tinX1 8 (by decide) wf_X1_9 (by decide) (by decide) (by decide) hk hkd kk
theorem pf_X1_9 (h : Sem cc RX1 nL R E g) {pc k : Nat} {v : Int32} (d : decode cc pc = .ok (.putfield 9, 3)) (hk : k < 184) (hkd : kd k = 1) (kk : g (upm I k 8 v) (pc + 3) lv st) : g I pc lv (.int v :: .ref (E.1 k) :: st) := r_put h (ci := 1) (C := RX1) (T := TX1) (N := 13) (ty := .int) d rfl tinX1 tyX1_ok nmX1 8 (by decide) wf_X1_9 rfl (by decide +kernel) (by decide) (by decide) (by decide) rfl rfl hk hkd kk
theorem wf_X10_204 : Cond.fieldLinkNest RX10 204 "ThrowersBag$Flight" "tick" "I" "ThrowersBag" ∈ nestW := List.mem_of_getElem? (i := 19) (by decide +kernel)
theorem gf_X10_204 (h : Sem cc RX10 nL R E g) {pc k : Nat} (d : decode cc pc = .ok (.getfield 204, 3)) (hk : k < 184) (hkd : kd k = 1) (kk : g I (pc + 3) lv (.int (I k 8) :: st)) : g I pc lv (.ref (E.1 k) :: st) := r_getIN h (ci := 1) (C := RX1) (T := TX1) (N := 13) d rfl tinX1 8 (by decide) wf_X10_204 (by decide) (by decide) (by decide) hk hkd kk
theorem wf_X1_15 : Cond.fieldLink RX1 15 "ThrowersBag$Flight" "ended" "I" ∈ TB := tb_at 165 (by decide +kernel) (by decide +kernel)
theorem pf_X1_15 (h : Sem cc RX1 nL R E g) {pc k : Nat} {v : Int32} (d : decode cc pc = .ok (.putfield 15, 3)) (hk : k < 184) (hkd : kd k = 1) (kk : g (upm I k 9 v) (pc + 3) lv st) : g I pc lv (.int v :: .ref (E.1 k) :: st) := r_put h (ci := 1) (C := RX1) (T := TX1) (N := 13) (ty := .int) d rfl tinX1 tyX1_ok nmX1 9 (by decide) wf_X1_15 rfl (by decide +kernel) (by decide) (by decide) (by decide) rfl rfl hk hkd kk
theorem wf_X10_363 : Cond.fieldLinkNest RX10 363 "ThrowersBag$Flight" "ended" "I" "ThrowersBag" ∈ nestW := List.mem_of_getElem? (i := 20) (by decide +kernel)
theorem gf_X10_363 (h : Sem cc RX10 nL R E g) {pc k : Nat} (d : decode cc pc = .ok (.getfield 363, 3)) (hk : k < 184) (hkd : kd k = 1) (kk : g I (pc + 3) lv (.int (I k 9) :: st)) : g I pc lv (.ref (E.1 k) :: st) := r_getIN h (ci := 1) (C := RX1) (T := TX1) (N := 13) d rfl tinX1 9 (by decide) wf_X10_363 (by decide) (by decide) (by decide) hk hkd kk
theorem wf_X1_18 : Cond.fieldLink RX1 18 "ThrowersBag$Flight" "treeHit" "I" ∈ TB := tb_at 167 (by decide +kernel) (by decide +kernel)
theorem gf_X1_18 (h : Sem cc RX1 nL R E g) {pc k : Nat} (d : decode cc pc = .ok (.getfield 18, 3)) (hk : k < 184) (hkd : kd k = 1) (kk : g I (pc + 3) lv (.int (I k 10) :: st)) : g I pc lv (.ref (E.1 k) :: st) := r_getI h (ci := 1) (C := RX1) (T := TX1) (N := 13) d rfl tinX1 10 (by decide) wf_X1_18 (by decide) (by decide) (by decide) hk hkd kk
theorem pf_X1_18 (h : Sem cc RX1 nL R E g) {pc k : Nat} {v : Int32} (d : decode cc pc = .ok (.putfield 18, 3)) (hk : k < 184) (hkd : kd k = 1) (kk : g (upm I k 10 v) (pc + 3) lv st) : g I pc lv (.int v :: .ref (E.1 k) :: st) := r_put h (ci := 1) (C := RX1) (T := TX1) (N := 13) (ty := .int) d rfl tinX1 tyX1_ok nmX1 10 (by decide) wf_X1_18 rfl (by decide +kernel) (by decide) (by decide) (by decide) rfl rfl hk hkd kk
theorem wf_X10_207 : Cond.fieldLinkNest RX10 207 "ThrowersBag$Flight" "treeHit" "I" "ThrowersBag" ∈ nestW := List.mem_of_getElem? (i := 21) (by decide +kernel)
theorem gf_X10_207 (h : Sem cc RX10 nL R E g) {pc k : Nat} (d : decode cc pc = .ok (.getfield 207, 3)) (hk : k < 184) (hkd : kd k = 1) (kk : g I (pc + 3) lv (.int (I k 10) :: st)) : g I pc lv (.ref (E.1 k) :: st) := r_getIN h (ci := 1) (C := RX1) (T := TX1) (N := 13) d rfl tinX1 10 (by decide) wf_X10_207 (by decide) (by decide) (by decide) hk hkd kk
theorem wf_X1_21 : Cond.fieldLink RX1 21 "ThrowersBag$Flight" "wave" "[I" ∈ TB := tb_at 169 (by decide +kernel) (by decide +kernel)
theorem gf_X1_21 (h : Sem cc RX1 nL R E g) {pc k : Nat} (d : decode cc pc = .ok (.getfield 21, 3)) (hk : k < 184) (hkd : kd k = 1) (kk : g I (pc + 3) lv (.ref (E.1 (rf k 11)) :: st)) : g I pc lv (.ref (E.1 k) :: st) := r_getR h (ci := 1) (C := RX1) (T := TX1) (N := 13) d rfl tinX1 11 (by decide) wf_X1_21 (by decide) (by decide) (by decide) hk hkd kk
theorem wf_X1_25 : Cond.fieldLink RX1 25 "ThrowersBag$Flight" "trail" "[I" ∈ TB := tb_at 170 (by decide +kernel) (by decide +kernel)
theorem gf_X1_25 (h : Sem cc RX1 nL R E g) {pc k : Nat} (d : decode cc pc = .ok (.getfield 25, 3)) (hk : k < 184) (hkd : kd k = 1) (kk : g I (pc + 3) lv (.ref (E.1 (rf k 12)) :: st)) : g I pc lv (.ref (E.1 k) :: st) := r_getR h (ci := 1) (C := RX1) (T := TX1) (N := 13) d rfl tinX1 12 (by decide) wf_X1_25 (by decide) (by decide) (by decide) hk hkd kk
theorem wf_X0_15 : Cond.fieldLink RX0 15 "ThrowersBag$Aim" "stick" "I" ∈ TB := tb_at 204 (by decide +kernel) (by decide +kernel)
theorem pf_X0_15 (h : Sem cc RX0 nL R E g) {pc k : Nat} {v : Int32} (d : decode cc pc = .ok (.putfield 15, 3)) (hk : k < 184) (hkd : kd k = 0) (kk : g (upm I k 0 v) (pc + 3) lv st) : g I pc lv (.int v :: .ref (E.1 k) :: st) := r_put h (ci := 0) (C := RX0) (T := TX0) (N := 6) (ty := .int) d rfl tinX0 tyX0_ok nmX0 0 (by decide) wf_X0_15 rfl (by decide +kernel) (by decide) (by decide) (by decide) rfl rfl hk hkd kk
theorem wf_X10_222 : Cond.fieldLinkNest RX10 222 "ThrowersBag$Aim" "stick" "I" "ThrowersBag" ∈ nestW := List.mem_of_getElem? (i := 22) (by decide +kernel)
theorem gf_X10_222 (h : Sem cc RX10 nL R E g) {pc k : Nat} (d : decode cc pc = .ok (.getfield 222, 3)) (hk : k < 184) (hkd : kd k = 0) (kk : g I (pc + 3) lv (.int (I k 0) :: st)) : g I pc lv (.ref (E.1 k) :: st) := r_getIN h (ci := 0) (C := RX0) (T := TX0) (N := 6) d rfl tinX0 0 (by decide) wf_X10_222 (by decide) (by decide) (by decide) hk hkd kk
theorem pf_X10_222 (h : Sem cc RX10 nL R E g) {pc k : Nat} {v : Int32} (d : decode cc pc = .ok (.putfield 222, 3)) (hk : k < 184) (hkd : kd k = 0) (kk : g (upm I k 0 v) (pc + 3) lv st) : g I pc lv (.int v :: .ref (E.1 k) :: st) := r_putN h (ci := 0) (C := RX0) (T := TX0) (N := 6) (ty := .int) d rfl tinX0 tyX0_ok nmX0 0 (by decide) wf_X10_222 rfl (by decide +kernel) (by decide) (by decide) (by decide) rfl rfl hk hkd kk
theorem wf_X0_18 : Cond.fieldLink RX0 18 "ThrowersBag$Aim" "lean" "I" ∈ TB := tb_at 206 (by decide +kernel) (by decide +kernel)
theorem pf_X0_18 (h : Sem cc RX0 nL R E g) {pc k : Nat} {v : Int32} (d : decode cc pc = .ok (.putfield 18, 3)) (hk : k < 184) (hkd : kd k = 0) (kk : g (upm I k 1 v) (pc + 3) lv st) : g I pc lv (.int v :: .ref (E.1 k) :: st) := r_put h (ci := 0) (C := RX0) (T := TX0) (N := 6) (ty := .int) d rfl tinX0 tyX0_ok nmX0 1 (by decide) wf_X0_18 rfl (by decide +kernel) (by decide) (by decide) (by decide) rfl rfl hk hkd kk
theorem wf_X1_58 : Cond.fieldLinkNest RX1 58 "ThrowersBag$Aim" "lean" "I" "ThrowersBag" ∈ nestW := List.mem_of_getElem? (i := 23) (by decide +kernel)
theorem gf_X1_58 (h : Sem cc RX1 nL R E g) {pc k : Nat} (d : decode cc pc = .ok (.getfield 58, 3)) (hk : k < 184) (hkd : kd k = 0) (kk : g I (pc + 3) lv (.int (I k 1) :: st)) : g I pc lv (.ref (E.1 k) :: st) := r_getIN h (ci := 0) (C := RX0) (T := TX0) (N := 6) d rfl tinX0 1 (by decide) wf_X1_58 (by decide) (by decide) (by decide) hk hkd kk
theorem wf_X10_399 : Cond.fieldLinkNest RX10 399 "ThrowersBag$Aim" "lean" "I" "ThrowersBag" ∈ nestW := List.mem_of_getElem? (i := 24) (by decide +kernel)
theorem gf_X10_399 (h : Sem cc RX10 nL R E g) {pc k : Nat} (d : decode cc pc = .ok (.getfield 399, 3)) (hk : k < 184) (hkd : kd k = 0) (kk : g I (pc + 3) lv (.int (I k 1) :: st)) : g I pc lv (.ref (E.1 k) :: st) := r_getIN h (ci := 0) (C := RX0) (T := TX0) (N := 6) d rfl tinX0 1 (by decide) wf_X10_399 (by decide) (by decide) (by decide) hk hkd kk
theorem wf_X0_21 : Cond.fieldLink RX0 21 "ThrowersBag$Aim" "angle" "I" ∈ TB := tb_at 209 (by decide +kernel) (by decide +kernel)
theorem pf_X0_21 (h : Sem cc RX0 nL R E g) {pc k : Nat} {v : Int32} (d : decode cc pc = .ok (.putfield 21, 3)) (hk : k < 184) (hkd : kd k = 0) (kk : g (upm I k 2 v) (pc + 3) lv st) : g I pc lv (.int v :: .ref (E.1 k) :: st) := r_put h (ci := 0) (C := RX0) (T := TX0) (N := 6) (ty := .int) d rfl tinX0 tyX0_ok nmX0 2 (by decide) wf_X0_21 rfl (by decide +kernel) (by decide) (by decide) (by decide) rfl rfl hk hkd kk
theorem wf_X1_40 : Cond.fieldLinkNest RX1 40 "ThrowersBag$Aim" "angle" "I" "ThrowersBag" ∈ nestW := List.mem_of_getElem? (i := 25) (by decide +kernel)
theorem gf_X1_40 (h : Sem cc RX1 nL R E g) {pc k : Nat} (d : decode cc pc = .ok (.getfield 40, 3)) (hk : k < 184) (hkd : kd k = 0) (kk : g I (pc + 3) lv (.int (I k 2) :: st)) : g I pc lv (.ref (E.1 k) :: st) := r_getIN h (ci := 0) (C := RX0) (T := TX0) (N := 6) d rfl tinX0 2 (by decide) wf_X1_40 (by decide) (by decide) (by decide) hk hkd kk
theorem wf_X10_402 : Cond.fieldLinkNest RX10 402 "ThrowersBag$Aim" "angle" "I" "ThrowersBag" ∈ nestW := List.mem_of_getElem? (i := 26) (by decide +kernel)
theorem gf_X10_402 (h : Sem cc RX10 nL R E g) {pc k : Nat} (d : decode cc pc = .ok (.getfield 402, 3)) (hk : k < 184) (hkd : kd k = 0) (kk : g I (pc + 3) lv (.int (I k 2) :: st)) : g I pc lv (.ref (E.1 k) :: st) := r_getIN h (ci := 0) (C := RX0) (T := TX0) (N := 6) d rfl tinX0 2 (by decide) wf_X10_402 (by decide) (by decide) (by decide) hk hkd kk
theorem wf_X0_24 : Cond.fieldLink RX0 24 "ThrowersBag$Aim" "strength" "I" ∈ TB := tb_at 212 (by decide +kernel) (by decide +kernel)
theorem pf_X0_24 (h : Sem cc RX0 nL R E g) {pc k : Nat} {v : Int32} (d : decode cc pc = .ok (.putfield 24, 3)) (hk : k < 184) (hkd : kd k = 0) (kk : g (upm I k 3 v) (pc + 3) lv st) : g I pc lv (.int v :: .ref (E.1 k) :: st) := r_put h (ci := 0) (C := RX0) (T := TX0) (N := 6) (ty := .int) d rfl tinX0 tyX0_ok nmX0 3 (by decide) wf_X0_24 rfl (by decide +kernel) (by decide) (by decide) (by decide) rfl rfl hk hkd kk
theorem wf_X1_48 : Cond.fieldLinkNest RX1 48 "ThrowersBag$Aim" "strength" "I" "ThrowersBag" ∈ nestW := List.mem_of_getElem? (i := 27) (by decide +kernel)
theorem gf_X1_48 (h : Sem cc RX1 nL R E g) {pc k : Nat} (d : decode cc pc = .ok (.getfield 48, 3)) (hk : k < 184) (hkd : kd k = 0) (kk : g I (pc + 3) lv (.int (I k 3) :: st)) : g I pc lv (.ref (E.1 k) :: st) := r_getIN h (ci := 0) (C := RX0) (T := TX0) (N := 6) d rfl tinX0 3 (by decide) wf_X1_48 (by decide) (by decide) (by decide) hk hkd kk
theorem wf_X10_405 : Cond.fieldLinkNest RX10 405 "ThrowersBag$Aim" "strength" "I" "ThrowersBag" ∈ nestW := List.mem_of_getElem? (i := 28) (by decide +kernel)
theorem gf_X10_405 (h : Sem cc RX10 nL R E g) {pc k : Nat} (d : decode cc pc = .ok (.getfield 405, 3)) (hk : k < 184) (hkd : kd k = 0) (kk : g I (pc + 3) lv (.int (I k 3) :: st)) : g I pc lv (.ref (E.1 k) :: st) := r_getIN h (ci := 0) (C := RX0) (T := TX0) (N := 6) d rfl tinX0 3 (by decide) wf_X10_405 (by decide) (by decide) (by decide) hk hkd kk
theorem wf_X0_27 : Cond.fieldLink RX0 27 "ThrowersBag$Aim" "spin" "I" ∈ TB := tb_at 215 (by decide +kernel) (by decide +kernel)
theorem pf_X0_27 (h : Sem cc RX0 nL R E g) {pc k : Nat} {v : Int32} (d : decode cc pc = .ok (.putfield 27, 3)) (hk : k < 184) (hkd : kd k = 0) (kk : g (upm I k 4 v) (pc + 3) lv st) : g I pc lv (.int v :: .ref (E.1 k) :: st) := r_put h (ci := 0) (C := RX0) (T := TX0) (N := 6) (ty := .int) d rfl tinX0 tyX0_ok nmX0 4 (by decide) wf_X0_27 rfl (by decide +kernel) (by decide) (by decide) (by decide) rfl rfl hk hkd kk
theorem wf_X1_54 : Cond.fieldLinkNest RX1 54 "ThrowersBag$Aim" "spin" "I" "ThrowersBag" ∈ nestW := List.mem_of_getElem? (i := 29) (by decide +kernel)
theorem gf_X1_54 (h : Sem cc RX1 nL R E g) {pc k : Nat} (d : decode cc pc = .ok (.getfield 54, 3)) (hk : k < 184) (hkd : kd k = 0) (kk : g I (pc + 3) lv (.int (I k 4) :: st)) : g I pc lv (.ref (E.1 k) :: st) := r_getIN h (ci := 0) (C := RX0) (T := TX0) (N := 6) d rfl tinX0 4 (by decide) wf_X1_54 (by decide) (by decide) (by decide) hk hkd kk
theorem wf_X0_9 : Cond.fieldLink RX0 9 "ThrowersBag$Aim" "wind" "I" ∈ TB := tb_at 217 (by decide +kernel) (by decide +kernel)
theorem pf_X0_9 (h : Sem cc RX0 nL R E g) {pc k : Nat} {v : Int32} (d : decode cc pc = .ok (.putfield 9, 3)) (hk : k < 184) (hkd : kd k = 0) (kk : g (upm I k 5 v) (pc + 3) lv st) : g I pc lv (.int v :: .ref (E.1 k) :: st) := r_put h (ci := 0) (C := RX0) (T := TX0) (N := 6) (ty := .int) d rfl tinX0 tyX0_ok nmX0 5 (by decide) wf_X0_9 rfl (by decide +kernel) (by decide) (by decide) (by decide) rfl rfl hk hkd kk
theorem wf_X10_369 : Cond.fieldLinkNest RX10 369 "ThrowersBag$Aim" "wind" "I" "ThrowersBag" ∈ nestW := List.mem_of_getElem? (i := 30) (by decide +kernel)
theorem gf_X10_369 (h : Sem cc RX10 nL R E g) {pc k : Nat} (d : decode cc pc = .ok (.getfield 369, 3)) (hk : k < 184) (hkd : kd k = 0) (kk : g I (pc + 3) lv (.int (I k 5) :: st)) : g I pc lv (.ref (E.1 k) :: st) := r_getIN h (ci := 0) (C := RX0) (T := TX0) (N := 6) d rfl tinX0 5 (by decide) wf_X10_369 (by decide) (by decide) (by decide) hk hkd kk
theorem pf_X10_369 (h : Sem cc RX10 nL R E g) {pc k : Nat} {v : Int32} (d : decode cc pc = .ok (.putfield 369, 3)) (hk : k < 184) (hkd : kd k = 0) (kk : g (upm I k 5 v) (pc + 3) lv st) : g I pc lv (.int v :: .ref (E.1 k) :: st) := r_putN h (ci := 0) (C := RX0) (T := TX0) (N := 6) (ty := .int) d rfl tinX0 tyX0_ok nmX0 5 (by decide) wf_X10_369 rfl (by decide +kernel) (by decide) (by decide) (by decide) rfl rfl hk hkd kk
theorem wf_X3_11 : Cond.fieldLink RX3 11 "ThrowersBag$Match" "throwWinds" "[I" ∈ TB := tb_at 250 (by decide +kernel) (by decide +kernel)
theorem gf_X3_11 (h : Sem cc RX3 nL R E g) {pc k : Nat} (d : decode cc pc = .ok (.getfield 11, 3)) (hk : k < 184) (hkd : kd k = 3) (kk : g I (pc + 3) lv (.ref (E.1 (rf k 0)) :: st)) : g I pc lv (.ref (E.1 k) :: st) := r_getR h (ci := 3) (C := RX3) (T := TX3) (N := 6) d rfl tinX3 0 (by decide) wf_X3_11 (by decide) (by decide) (by decide) hk hkd kk
theorem wf_X10_238 : Cond.fieldLinkNest RX10 238 "ThrowersBag$Match" "throwWinds" "[I" "ThrowersBag" ∈ nestW := List.mem_of_getElem? (i := 31) (by decide +kernel)
theorem gf_X10_238 (h : Sem cc RX10 nL R E g) {pc k : Nat} (d : decode cc pc = .ok (.getfield 238, 3)) (hk : k < 184) (hkd : kd k = 3) (kk : g I (pc + 3) lv (.ref (E.1 (rf k 0)) :: st)) : g I pc lv (.ref (E.1 k) :: st) := r_getRN h (ci := 3) (C := RX3) (T := TX3) (N := 6) d rfl tinX3 0 (by decide) wf_X10_238 (by decide) (by decide) (by decide) hk hkd kk
theorem wf_X3_18 : Cond.fieldLink RX3 18 "ThrowersBag$Match" "manner" "LThrowersBag$Aim;" ∈ TB := tb_at 252 (by decide +kernel) (by decide +kernel)
theorem gf_X3_18 (h : Sem cc RX3 nL R E g) {pc k : Nat} (d : decode cc pc = .ok (.getfield 18, 3)) (hk : k < 184) (hkd : kd k = 3) (kk : g I (pc + 3) lv (.ref (E.1 (rf k 1)) :: st)) : g I pc lv (.ref (E.1 k) :: st) := r_getR h (ci := 3) (C := RX3) (T := TX3) (N := 6) d rfl tinX3 1 (by decide) wf_X3_18 (by decide) (by decide) (by decide) hk hkd kk
theorem wf_X10_245 : Cond.fieldLinkNest RX10 245 "ThrowersBag$Match" "manner" "LThrowersBag$Aim;" "ThrowersBag" ∈ nestW := List.mem_of_getElem? (i := 32) (by decide +kernel)
theorem gf_X10_245 (h : Sem cc RX10 nL R E g) {pc k : Nat} (d : decode cc pc = .ok (.getfield 245, 3)) (hk : k < 184) (hkd : kd k = 3) (kk : g I (pc + 3) lv (.ref (E.1 (rf k 1)) :: st)) : g I pc lv (.ref (E.1 k) :: st) := r_getRN h (ci := 3) (C := RX3) (T := TX3) (N := 6) d rfl tinX3 1 (by decide) wf_X10_245 (by decide) (by decide) (by decide) hk hkd kk
theorem wf_X3_24 : Cond.fieldLink RX3 24 "ThrowersBag$Match" "pointTable" "[[I" ∈ TB := tb_at 254 (by decide +kernel) (by decide +kernel)
theorem gf_X3_24 (h : Sem cc RX3 nL R E g) {pc k : Nat} (d : decode cc pc = .ok (.getfield 24, 3)) (hk : k < 184) (hkd : kd k = 3) (kk : g I (pc + 3) lv (.ref (E.1 (rf k 2)) :: st)) : g I pc lv (.ref (E.1 k) :: st) := r_getR h (ci := 3) (C := RX3) (T := TX3) (N := 6) d rfl tinX3 2 (by decide) wf_X3_24 (by decide) (by decide) (by decide) hk hkd kk
theorem wf_X10_420 : Cond.fieldLinkNest RX10 420 "ThrowersBag$Match" "pointTable" "[[I" "ThrowersBag" ∈ nestW := List.mem_of_getElem? (i := 33) (by decide +kernel)
theorem gf_X10_420 (h : Sem cc RX10 nL R E g) {pc k : Nat} (d : decode cc pc = .ok (.getfield 420, 3)) (hk : k < 184) (hkd : kd k = 3) (kk : g I (pc + 3) lv (.ref (E.1 (rf k 2)) :: st)) : g I pc lv (.ref (E.1 k) :: st) := r_getRN h (ci := 3) (C := RX3) (T := TX3) (N := 6) d rfl tinX3 2 (by decide) wf_X10_420 (by decide) (by decide) (by decide) hk hkd kk
theorem wf_X3_27 : Cond.fieldLink RX3 27 "ThrowersBag$Match" "triedSticks" "[I" ∈ TB := tb_at 256 (by decide +kernel) (by decide +kernel)
theorem gf_X3_27 (h : Sem cc RX3 nL R E g) {pc k : Nat} (d : decode cc pc = .ok (.getfield 27, 3)) (hk : k < 184) (hkd : kd k = 3) (kk : g I (pc + 3) lv (.ref (E.1 (rf k 3)) :: st)) : g I pc lv (.ref (E.1 k) :: st) := r_getR h (ci := 3) (C := RX3) (T := TX3) (N := 6) d rfl tinX3 3 (by decide) wf_X3_27 (by decide) (by decide) (by decide) hk hkd kk
theorem wf_X3_30 : Cond.fieldLink RX3 30 "ThrowersBag$Match" "bestSticks" "[I" ∈ TB := tb_at 257 (by decide +kernel) (by decide +kernel)
theorem gf_X3_30 (h : Sem cc RX3 nL R E g) {pc k : Nat} (d : decode cc pc = .ok (.getfield 30, 3)) (hk : k < 184) (hkd : kd k = 3) (kk : g I (pc + 3) lv (.ref (E.1 (rf k 4)) :: st)) : g I pc lv (.ref (E.1 k) :: st) := r_getR h (ci := 3) (C := RX3) (T := TX3) (N := 6) d rfl tinX3 4 (by decide) wf_X3_30 (by decide) (by decide) (by decide) hk hkd kk
theorem wf_X10_265 : Cond.fieldLinkNest RX10 265 "ThrowersBag$Match" "bestSticks" "[I" "ThrowersBag" ∈ nestW := List.mem_of_getElem? (i := 34) (by decide +kernel)
theorem gf_X10_265 (h : Sem cc RX10 nL R E g) {pc k : Nat} (d : decode cc pc = .ok (.getfield 265, 3)) (hk : k < 184) (hkd : kd k = 3) (kk : g I (pc + 3) lv (.ref (E.1 (rf k 4)) :: st)) : g I pc lv (.ref (E.1 k) :: st) := r_getRN h (ci := 3) (C := RX3) (T := TX3) (N := 6) d rfl tinX3 4 (by decide) wf_X10_265 (by decide) (by decide) (by decide) hk hkd kk
theorem wf_X3_43 : Cond.fieldLink RX3 43 "ThrowersBag$Match" "mostPoints" "I" ∈ TB := tb_at 259 (by decide +kernel) (by decide +kernel)
theorem gf_X3_43 (h : Sem cc RX3 nL R E g) {pc k : Nat} (d : decode cc pc = .ok (.getfield 43, 3)) (hk : k < 184) (hkd : kd k = 3) (kk : g I (pc + 3) lv (.int (I k 5) :: st)) : g I pc lv (.ref (E.1 k) :: st) := r_getI h (ci := 3) (C := RX3) (T := TX3) (N := 6) d rfl tinX3 5 (by decide) wf_X3_43 (by decide) (by decide) (by decide) hk hkd kk
theorem pf_X3_43 (h : Sem cc RX3 nL R E g) {pc k : Nat} {v : Int32} (d : decode cc pc = .ok (.putfield 43, 3)) (hk : k < 184) (hkd : kd k = 3) (kk : g (upm I k 5 v) (pc + 3) lv st) : g I pc lv (.int v :: .ref (E.1 k) :: st) := r_put h (ci := 3) (C := RX3) (T := TX3) (N := 6) (ty := .int) d rfl tinX3 tyX3_ok nmX3 5 (by decide) wf_X3_43 rfl (by decide +kernel) (by decide) (by decide) (by decide) rfl rfl hk hkd kk
theorem wf_X10_262 : Cond.fieldLinkNest RX10 262 "ThrowersBag$Match" "mostPoints" "I" "ThrowersBag" ∈ nestW := List.mem_of_getElem? (i := 35) (by decide +kernel)
theorem gf_X10_262 (h : Sem cc RX10 nL R E g) {pc k : Nat} (d : decode cc pc = .ok (.getfield 262, 3)) (hk : k < 184) (hkd : kd k = 3) (kk : g I (pc + 3) lv (.int (I k 5) :: st)) : g I pc lv (.ref (E.1 k) :: st) := r_getIN h (ci := 3) (C := RX3) (T := TX3) (N := 6) d rfl tinX3 5 (by decide) wf_X10_262 (by decide) (by decide) (by decide) hk hkd kk
theorem wf_X2_11 : Cond.fieldLink RX2 11 "ThrowersBag$Grass" "weights" "[I" ∈ TB := tb_at 284 (by decide +kernel) (by decide +kernel)
theorem gf_X2_11 (h : Sem cc RX2 nL R E g) {pc k : Nat} (d : decode cc pc = .ok (.getfield 11, 3)) (hk : k < 184) (hkd : kd k = 2) (kk : g I (pc + 3) lv (.ref (E.1 (rf k 0)) :: st)) : g I pc lv (.ref (E.1 k) :: st) := r_getR h (ci := 2) (C := RX2) (T := TX2) (N := 2) d rfl tinX2 0 (by decide) wf_X2_11 (by decide) (by decide) (by decide) hk hkd kk
theorem wf_X10_320 : Cond.fieldLinkNest RX10 320 "ThrowersBag$Grass" "weights" "[I" "ThrowersBag" ∈ nestW := List.mem_of_getElem? (i := 36) (by decide +kernel)
theorem gf_X10_320 (h : Sem cc RX10 nL R E g) {pc k : Nat} (d : decode cc pc = .ok (.getfield 320, 3)) (hk : k < 184) (hkd : kd k = 2) (kk : g I (pc + 3) lv (.ref (E.1 (rf k 0)) :: st)) : g I pc lv (.ref (E.1 k) :: st) := r_getRN h (ci := 2) (C := RX2) (T := TX2) (N := 2) d rfl tinX2 0 (by decide) wf_X10_320 (by decide) (by decide) (by decide) hk hkd kk
theorem wf_X2_15 : Cond.fieldLink RX2 15 "ThrowersBag$Grass" "ks" "[I" ∈ TB := tb_at 286 (by decide +kernel) (by decide +kernel)
theorem gf_X2_15 (h : Sem cc RX2 nL R E g) {pc k : Nat} (d : decode cc pc = .ok (.getfield 15, 3)) (hk : k < 184) (hkd : kd k = 2) (kk : g I (pc + 3) lv (.ref (E.1 (rf k 1)) :: st)) : g I pc lv (.ref (E.1 k) :: st) := r_getR h (ci := 2) (C := RX2) (T := TX2) (N := 2) d rfl tinX2 1 (by decide) wf_X2_15 (by decide) (by decide) (by decide) hk hkd kk
theorem wf_X10_323 : Cond.fieldLinkNest RX10 323 "ThrowersBag$Grass" "ks" "[I" "ThrowersBag" ∈ nestW := List.mem_of_getElem? (i := 37) (by decide +kernel)
theorem gf_X10_323 (h : Sem cc RX10 nL R E g) {pc k : Nat} (d : decode cc pc = .ok (.getfield 323, 3)) (hk : k < 184) (hkd : kd k = 2) (kk : g I (pc + 3) lv (.ref (E.1 (rf k 1)) :: st)) : g I pc lv (.ref (E.1 k) :: st) := r_getRN h (ci := 2) (C := RX2) (T := TX2) (N := 2) d rfl tinX2 1 (by decide) wf_X10_323 (by decide) (by decide) (by decide) hk hkd kk
theorem wf_X7_26 : Cond.fieldLink RX7 26 "ThrowersBag$Stick" "weight" "I" ∈ TB := tb_at 300 (by decide +kernel) (by decide +kernel)
theorem pf_X7_26 (h : Sem cc RX7 nL R E g) {pc k : Nat} {v : Int32} (d : decode cc pc = .ok (.putfield 26, 3)) (hk : k < 184) (hkd : kd k = 7) (kk : g (upm I k 0 v) (pc + 3) lv st) : g I pc lv (.int v :: .ref (E.1 k) :: st) := r_put h (ci := 7) (C := RX7) (T := TX7) (N := 8) (ty := .int) d rfl tinX7 tyX7_ok nmX7 0 (by decide) wf_X7_26 rfl (by decide +kernel) (by decide) (by decide) (by decide) rfl rfl hk hkd kk
theorem wf_X1_71 : Cond.fieldLinkNest RX1 71 "ThrowersBag$Stick" "weight" "I" "ThrowersBag" ∈ nestW := List.mem_of_getElem? (i := 38) (by decide +kernel)
theorem gf_X1_71 (h : Sem cc RX1 nL R E g) {pc k : Nat} (d : decode cc pc = .ok (.getfield 71, 3)) (hk : k < 184) (hkd : kd k = 7) (kk : g I (pc + 3) lv (.int (I k 0) :: st)) : g I pc lv (.ref (E.1 k) :: st) := r_getIN h (ci := 7) (C := RX7) (T := TX7) (N := 8) d rfl tinX7 0 (by decide) wf_X1_71 (by decide) (by decide) (by decide) hk hkd kk
theorem wf_X10_143 : Cond.fieldLinkNest RX10 143 "ThrowersBag$Stick" "weight" "I" "ThrowersBag" ∈ nestW := List.mem_of_getElem? (i := 39) (by decide +kernel)
theorem gf_X10_143 (h : Sem cc RX10 nL R E g) {pc k : Nat} (d : decode cc pc = .ok (.getfield 143, 3)) (hk : k < 184) (hkd : kd k = 7) (kk : g I (pc + 3) lv (.int (I k 0) :: st)) : g I pc lv (.ref (E.1 k) :: st) := r_getIN h (ci := 7) (C := RX7) (T := TX7) (N := 8) d rfl tinX7 0 (by decide) wf_X10_143 (by decide) (by decide) (by decide) hk hkd kk
theorem wf_X7_29 : Cond.fieldLink RX7 29 "ThrowersBag$Stick" "grip" "I" ∈ TB := tb_at 303 (by decide +kernel) (by decide +kernel)
theorem pf_X7_29 (h : Sem cc RX7 nL R E g) {pc k : Nat} {v : Int32} (d : decode cc pc = .ok (.putfield 29, 3)) (hk : k < 184) (hkd : kd k = 7) (kk : g (upm I k 1 v) (pc + 3) lv st) : g I pc lv (.int v :: .ref (E.1 k) :: st) := r_put h (ci := 7) (C := RX7) (T := TX7) (N := 8) (ty := .int) d rfl tinX7 tyX7_ok nmX7 1 (by decide) wf_X7_29 rfl (by decide +kernel) (by decide) (by decide) (by decide) rfl rfl hk hkd kk
theorem wf_X1_82 : Cond.fieldLinkNest RX1 82 "ThrowersBag$Stick" "grip" "I" "ThrowersBag" ∈ nestW := List.mem_of_getElem? (i := 40) (by decide +kernel)
theorem gf_X1_82 (h : Sem cc RX1 nL R E g) {pc k : Nat} (d : decode cc pc = .ok (.getfield 82, 3)) (hk : k < 184) (hkd : kd k = 7) (kk : g I (pc + 3) lv (.int (I k 1) :: st)) : g I pc lv (.ref (E.1 k) :: st) := r_getIN h (ci := 7) (C := RX7) (T := TX7) (N := 8) d rfl tinX7 1 (by decide) wf_X1_82 (by decide) (by decide) (by decide) hk hkd kk
theorem wf_X10_146 : Cond.fieldLinkNest RX10 146 "ThrowersBag$Stick" "grip" "I" "ThrowersBag" ∈ nestW := List.mem_of_getElem? (i := 41) (by decide +kernel)
theorem gf_X10_146 (h : Sem cc RX10 nL R E g) {pc k : Nat} (d : decode cc pc = .ok (.getfield 146, 3)) (hk : k < 184) (hkd : kd k = 7) (kk : g I (pc + 3) lv (.int (I k 1) :: st)) : g I pc lv (.ref (E.1 k) :: st) := r_getIN h (ci := 7) (C := RX7) (T := TX7) (N := 8) d rfl tinX7 1 (by decide) wf_X10_146 (by decide) (by decide) (by decide) hk hkd kk
theorem wf_X7_32 : Cond.fieldLink RX7 32 "ThrowersBag$Stick" "loss" "I" ∈ TB := tb_at 306 (by decide +kernel) (by decide +kernel)
theorem pf_X7_32 (h : Sem cc RX7 nL R E g) {pc k : Nat} {v : Int32} (d : decode cc pc = .ok (.putfield 32, 3)) (hk : k < 184) (hkd : kd k = 7) (kk : g (upm I k 2 v) (pc + 3) lv st) : g I pc lv (.int v :: .ref (E.1 k) :: st) := r_put h (ci := 7) (C := RX7) (T := TX7) (N := 8) (ty := .int) d rfl tinX7 tyX7_ok nmX7 2 (by decide) wf_X7_32 rfl (by decide +kernel) (by decide) (by decide) (by decide) rfl rfl hk hkd kk
theorem wf_X1_102 : Cond.fieldLinkNest RX1 102 "ThrowersBag$Stick" "loss" "I" "ThrowersBag" ∈ nestW := List.mem_of_getElem? (i := 42) (by decide +kernel)
theorem gf_X1_102 (h : Sem cc RX1 nL R E g) {pc k : Nat} (d : decode cc pc = .ok (.getfield 102, 3)) (hk : k < 184) (hkd : kd k = 7) (kk : g I (pc + 3) lv (.int (I k 2) :: st)) : g I pc lv (.ref (E.1 k) :: st) := r_getIN h (ci := 7) (C := RX7) (T := TX7) (N := 8) d rfl tinX7 2 (by decide) wf_X1_102 (by decide) (by decide) (by decide) hk hkd kk
theorem wf_X10_149 : Cond.fieldLinkNest RX10 149 "ThrowersBag$Stick" "loss" "I" "ThrowersBag" ∈ nestW := List.mem_of_getElem? (i := 43) (by decide +kernel)
theorem gf_X10_149 (h : Sem cc RX10 nL R E g) {pc k : Nat} (d : decode cc pc = .ok (.getfield 149, 3)) (hk : k < 184) (hkd : kd k = 7) (kk : g I (pc + 3) lv (.int (I k 2) :: st)) : g I pc lv (.ref (E.1 k) :: st) := r_getIN h (ci := 7) (C := RX7) (T := TX7) (N := 8) d rfl tinX7 2 (by decide) wf_X10_149 (by decide) (by decide) (by decide) hk hkd kk
theorem wf_X7_35 : Cond.fieldLink RX7 35 "ThrowersBag$Stick" "drag" "I" ∈ TB := tb_at 309 (by decide +kernel) (by decide +kernel)
theorem pf_X7_35 (h : Sem cc RX7 nL R E g) {pc k : Nat} {v : Int32} (d : decode cc pc = .ok (.putfield 35, 3)) (hk : k < 184) (hkd : kd k = 7) (kk : g (upm I k 3 v) (pc + 3) lv st) : g I pc lv (.int v :: .ref (E.1 k) :: st) := r_put h (ci := 7) (C := RX7) (T := TX7) (N := 8) (ty := .int) d rfl tinX7 tyX7_ok nmX7 3 (by decide) wf_X7_35 rfl (by decide +kernel) (by decide) (by decide) (by decide) rfl rfl hk hkd kk
theorem wf_X1_105 : Cond.fieldLinkNest RX1 105 "ThrowersBag$Stick" "drag" "I" "ThrowersBag" ∈ nestW := List.mem_of_getElem? (i := 44) (by decide +kernel)
theorem gf_X1_105 (h : Sem cc RX1 nL R E g) {pc k : Nat} (d : decode cc pc = .ok (.getfield 105, 3)) (hk : k < 184) (hkd : kd k = 7) (kk : g I (pc + 3) lv (.int (I k 3) :: st)) : g I pc lv (.ref (E.1 k) :: st) := r_getIN h (ci := 7) (C := RX7) (T := TX7) (N := 8) d rfl tinX7 3 (by decide) wf_X1_105 (by decide) (by decide) (by decide) hk hkd kk
theorem wf_X10_152 : Cond.fieldLinkNest RX10 152 "ThrowersBag$Stick" "drag" "I" "ThrowersBag" ∈ nestW := List.mem_of_getElem? (i := 45) (by decide +kernel)
theorem gf_X10_152 (h : Sem cc RX10 nL R E g) {pc k : Nat} (d : decode cc pc = .ok (.getfield 152, 3)) (hk : k < 184) (hkd : kd k = 7) (kk : g I (pc + 3) lv (.int (I k 3) :: st)) : g I pc lv (.ref (E.1 k) :: st) := r_getIN h (ci := 7) (C := RX7) (T := TX7) (N := 8) d rfl tinX7 3 (by decide) wf_X10_152 (by decide) (by decide) (by decide) hk hkd kk
theorem wf_X7_11 : Cond.fieldLink RX7 11 "ThrowersBag$Stick" "hover" "I" ∈ TB := tb_at 312 (by decide +kernel) (by decide +kernel)
theorem gf_X7_11 (h : Sem cc RX7 nL R E g) {pc k : Nat} (d : decode cc pc = .ok (.getfield 11, 3)) (hk : k < 184) (hkd : kd k = 7) (kk : g I (pc + 3) lv (.int (I k 4) :: st)) : g I pc lv (.ref (E.1 k) :: st) := r_getI h (ci := 7) (C := RX7) (T := TX7) (N := 8) d rfl tinX7 4 (by decide) wf_X7_11 (by decide) (by decide) (by decide) hk hkd kk
theorem pf_X7_11 (h : Sem cc RX7 nL R E g) {pc k : Nat} {v : Int32} (d : decode cc pc = .ok (.putfield 11, 3)) (hk : k < 184) (hkd : kd k = 7) (kk : g (upm I k 4 v) (pc + 3) lv st) : g I pc lv (.int v :: .ref (E.1 k) :: st) := r_put h (ci := 7) (C := RX7) (T := TX7) (N := 8) (ty := .int) d rfl tinX7 tyX7_ok nmX7 4 (by decide) wf_X7_11 rfl (by decide +kernel) (by decide) (by decide) (by decide) rfl rfl hk hkd kk
theorem wf_X10_155 : Cond.fieldLinkNest RX10 155 "ThrowersBag$Stick" "hover" "I" "ThrowersBag" ∈ nestW := List.mem_of_getElem? (i := 46) (by decide +kernel)
theorem gf_X10_155 (h : Sem cc RX10 nL R E g) {pc k : Nat} (d : decode cc pc = .ok (.getfield 155, 3)) (hk : k < 184) (hkd : kd k = 7) (kk : g I (pc + 3) lv (.int (I k 4) :: st)) : g I pc lv (.ref (E.1 k) :: st) := r_getIN h (ci := 7) (C := RX7) (T := TX7) (N := 8) d rfl tinX7 4 (by decide) wf_X10_155 (by decide) (by decide) (by decide) hk hkd kk
theorem wf_X7_15 : Cond.fieldLink RX7 15 "ThrowersBag$Stick" "bent" "I" ∈ TB := tb_at 314 (by decide +kernel) (by decide +kernel)
theorem pf_X7_15 (h : Sem cc RX7 nL R E g) {pc k : Nat} {v : Int32} (d : decode cc pc = .ok (.putfield 15, 3)) (hk : k < 184) (hkd : kd k = 7) (kk : g (upm I k 5 v) (pc + 3) lv st) : g I pc lv (.int v :: .ref (E.1 k) :: st) := r_put h (ci := 7) (C := RX7) (T := TX7) (N := 8) (ty := .int) d rfl tinX7 tyX7_ok nmX7 5 (by decide) wf_X7_15 rfl (by decide +kernel) (by decide) (by decide) (by decide) rfl rfl hk hkd kk
theorem wf_X10_136 : Cond.fieldLinkNest RX10 136 "ThrowersBag$Stick" "bent" "I" "ThrowersBag" ∈ nestW := List.mem_of_getElem? (i := 47) (by decide +kernel)
theorem gf_X10_136 (h : Sem cc RX10 nL R E g) {pc k : Nat} (d : decode cc pc = .ok (.getfield 136, 3)) (hk : k < 184) (hkd : kd k = 7) (kk : g I (pc + 3) lv (.int (I k 5) :: st)) : g I pc lv (.ref (E.1 k) :: st) := r_getIN h (ci := 7) (C := RX7) (T := TX7) (N := 8) d rfl tinX7 5 (by decide) wf_X10_136 (by decide) (by decide) (by decide) hk hkd kk
theorem pf_X10_136 (h : Sem cc RX10 nL R E g) {pc k : Nat} {v : Int32} (d : decode cc pc = .ok (.putfield 136, 3)) (hk : k < 184) (hkd : kd k = 7) (kk : g (upm I k 5 v) (pc + 3) lv st) : g I pc lv (.int v :: .ref (E.1 k) :: st) := r_putN h (ci := 7) (C := RX7) (T := TX7) (N := 8) (ty := .int) d rfl tinX7 tyX7_ok nmX7 5 (by decide) wf_X10_136 rfl (by decide +kernel) (by decide) (by decide) (by decide) rfl rfl hk hkd kk
theorem wf_X7_18 : Cond.fieldLink RX7 18 "ThrowersBag$Stick" "inTheBag" "Z" ∈ TB := tb_at 316 (by decide +kernel) (by decide +kernel)
theorem pf_X7_18 (h : Sem cc RX7 nL R E g) {pc k : Nat} {v : Int32} (d : decode cc pc = .ok (.putfield 18, 3)) (hk : k < 184) (hkd : kd k = 7) (hv : narrow .boolean (.int v) = .int v) (hf : fits .boolean (.int v) = true) (kk : g (upm I k 6 v) (pc + 3) lv st) : g I pc lv (.int v :: .ref (E.1 k) :: st) := r_put h (ci := 7) (C := RX7) (T := TX7) (N := 8) (ty := .boolean) d rfl tinX7 tyX7_ok nmX7 6 (by decide) wf_X7_18 rfl (by decide +kernel) (by decide) (by decide) (by decide) hv hf hk hkd kk
theorem wf_X10_158 : Cond.fieldLinkNest RX10 158 "ThrowersBag$Stick" "inTheBag" "Z" "ThrowersBag" ∈ nestW := List.mem_of_getElem? (i := 48) (by decide +kernel)
theorem gf_X10_158 (h : Sem cc RX10 nL R E g) {pc k : Nat} (d : decode cc pc = .ok (.getfield 158, 3)) (hk : k < 184) (hkd : kd k = 7) (kk : g I (pc + 3) lv (.int (I k 6) :: st)) : g I pc lv (.ref (E.1 k) :: st) := r_getIN h (ci := 7) (C := RX7) (T := TX7) (N := 8) d rfl tinX7 6 (by decide) wf_X10_158 (by decide) (by decide) (by decide) hk hkd kk
theorem pf_X10_158 (h : Sem cc RX10 nL R E g) {pc k : Nat} {v : Int32} (d : decode cc pc = .ok (.putfield 158, 3)) (hk : k < 184) (hkd : kd k = 7) (hv : narrow .boolean (.int v) = .int v) (hf : fits .boolean (.int v) = true) (kk : g (upm I k 6 v) (pc + 3) lv st) : g I pc lv (.int v :: .ref (E.1 k) :: st) := r_putN h (ci := 7) (C := RX7) (T := TX7) (N := 8) (ty := .boolean) d rfl tinX7 tyX7_ok nmX7 6 (by decide) wf_X10_158 rfl (by decide +kernel) (by decide) (by decide) (by decide) hv hf hk hkd kk
theorem wf_X7_22 : Cond.fieldLink RX7 22 "ThrowersBag$Stick" "lifts" "[I" ∈ TB := tb_at 318 (by decide +kernel) (by decide +kernel)
theorem gf_X7_22 (h : Sem cc RX7 nL R E g) {pc k : Nat} (d : decode cc pc = .ok (.getfield 22, 3)) (hk : k < 184) (hkd : kd k = 7) (kk : g I (pc + 3) lv (.ref (E.1 (rf k 7)) :: st)) : g I pc lv (.ref (E.1 k) :: st) := r_getR h (ci := 7) (C := RX7) (T := TX7) (N := 8) d rfl tinX7 7 (by decide) wf_X7_22 (by decide) (by decide) (by decide) hk hkd kk
theorem wf_X10_130 : Cond.fieldLinkNest RX10 130 "ThrowersBag$Stick" "lifts" "[I" "ThrowersBag" ∈ nestW := List.mem_of_getElem? (i := 49) (by decide +kernel)
theorem gf_X10_130 (h : Sem cc RX10 nL R E g) {pc k : Nat} (d : decode cc pc = .ok (.getfield 130, 3)) (hk : k < 184) (hkd : kd k = 7) (kk : g I (pc + 3) lv (.ref (E.1 (rf k 7)) :: st)) : g I pc lv (.ref (E.1 k) :: st) := r_getRN h (ci := 7) (C := RX7) (T := TX7) (N := 8) d rfl tinX7 7 (by decide) wf_X10_130 (by decide) (by decide) (by decide) hk hkd kk
theorem wf_X5_10 : Cond.fieldLink RX5 10 "ThrowersBag$Row" "aim" "LThrowersBag$Aim;" ∈ TB := tb_at 344 (by decide +kernel) (by decide +kernel)
theorem wf_X10_424 : Cond.fieldLinkNest RX10 424 "ThrowersBag$Row" "aim" "LThrowersBag$Aim;" "ThrowersBag" ∈ nestW := List.mem_of_getElem? (i := 50) (by decide +kernel)
theorem gf_X10_424 (h : Sem cc RX10 nL R E g) {pc k : Nat} (d : decode cc pc = .ok (.getfield 424, 3)) (hk : k < 184) (hkd : kd k = 5) (kk : g I (pc + 3) lv (.ref (E.1 (rf k 0)) :: st)) : g I pc lv (.ref (E.1 k) :: st) := r_getRN h (ci := 5) (C := RX5) (T := TX5) (N := 3) d rfl tinX5 0 (by decide) wf_X10_424 (by decide) (by decide) (by decide) hk hkd kk
theorem wf_X10_427 : Cond.fieldLinkNest RX10 427 "ThrowersBag$Row" "x" "I" "ThrowersBag" ∈ nestW := List.mem_of_getElem? (i := 51) (by decide +kernel)
theorem gf_X10_427 (h : Sem cc RX10 nL R E g) {pc k : Nat} (d : decode cc pc = .ok (.getfield 427, 3)) (hk : k < 184) (hkd : kd k = 5) (kk : g I (pc + 3) lv (.int (I k 1) :: st)) : g I pc lv (.ref (E.1 k) :: st) := r_getIN h (ci := 5) (C := RX5) (T := TX5) (N := 3) d rfl tinX5 1 (by decide) wf_X10_427 (by decide) (by decide) (by decide) hk hkd kk
theorem pf_X10_427 (h : Sem cc RX10 nL R E g) {pc k : Nat} {v : Int32} (d : decode cc pc = .ok (.putfield 427, 3)) (hk : k < 184) (hkd : kd k = 5) (kk : g (upm I k 1 v) (pc + 3) lv st) : g I pc lv (.int v :: .ref (E.1 k) :: st) := r_putN h (ci := 5) (C := RX5) (T := TX5) (N := 3) (ty := .int) d rfl tinX5 tyX5_ok nmX5 1 (by decide) wf_X10_427 rfl (by decide +kernel) (by decide) (by decide) (by decide) rfl rfl hk hkd kk
theorem wf_X10_428 : Cond.fieldLinkNest RX10 428 "ThrowersBag$Row" "y" "I" "ThrowersBag" ∈ nestW := List.mem_of_getElem? (i := 52) (by decide +kernel)
theorem gf_X10_428 (h : Sem cc RX10 nL R E g) {pc k : Nat} (d : decode cc pc = .ok (.getfield 428, 3)) (hk : k < 184) (hkd : kd k = 5) (kk : g I (pc + 3) lv (.int (I k 2) :: st)) : g I pc lv (.ref (E.1 k) :: st) := r_getIN h (ci := 5) (C := RX5) (T := TX5) (N := 3) d rfl tinX5 2 (by decide) wf_X10_428 (by decide) (by decide) (by decide) hk hkd kk
theorem pf_X10_428 (h : Sem cc RX10 nL R E g) {pc k : Nat} {v : Int32} (d : decode cc pc = .ok (.putfield 428, 3)) (hk : k < 184) (hkd : kd k = 5) (kk : g (upm I k 2 v) (pc + 3) lv st) : g I pc lv (.int v :: .ref (E.1 k) :: st) := r_putN h (ci := 5) (C := RX5) (T := TX5) (N := 3) (ty := .int) d rfl tinX5 tyX5_ok nmX5 2 (by decide) wf_X10_428 rfl (by decide +kernel) (by decide) (by decide) (by decide) rfl rfl hk hkd kk
theorem wf_X6_9 : Cond.fieldLink RX6 9 "ThrowersBag$Sheet" "lane" "I" ∈ TB := tb_at 360 (by decide +kernel) (by decide +kernel)
theorem gf_X6_9 (h : Sem cc RX6 nL R E g) {pc k : Nat} (d : decode cc pc = .ok (.getfield 9, 3)) (hk : k < 184) (hkd : kd k = 6) (kk : g I (pc + 3) lv (.int (I k 0) :: st)) : g I pc lv (.ref (E.1 k) :: st) := r_getI h (ci := 6) (C := RX6) (T := TX6) (N := 3) d rfl tinX6 0 (by decide) wf_X6_9 (by decide) (by decide) (by decide) hk hkd kk
theorem pf_X6_9 (h : Sem cc RX6 nL R E g) {pc k : Nat} {v : Int32} (d : decode cc pc = .ok (.putfield 9, 3)) (hk : k < 184) (hkd : kd k = 6) (kk : g (upm I k 0 v) (pc + 3) lv st) : g I pc lv (.int v :: .ref (E.1 k) :: st) := r_put h (ci := 6) (C := RX6) (T := TX6) (N := 3) (ty := .int) d rfl tinX6 tyX6_ok nmX6 0 (by decide) wf_X6_9 rfl (by decide +kernel) (by decide) (by decide) (by decide) rfl rfl hk hkd kk
theorem wf_X10_354 : Cond.fieldLinkNest RX10 354 "ThrowersBag$Sheet" "lane" "I" "ThrowersBag" ∈ nestW := List.mem_of_getElem? (i := 53) (by decide +kernel)
theorem gf_X10_354 (h : Sem cc RX10 nL R E g) {pc k : Nat} (d : decode cc pc = .ok (.getfield 354, 3)) (hk : k < 184) (hkd : kd k = 6) (kk : g I (pc + 3) lv (.int (I k 0) :: st)) : g I pc lv (.ref (E.1 k) :: st) := r_getIN h (ci := 6) (C := RX6) (T := TX6) (N := 3) d rfl tinX6 0 (by decide) wf_X10_354 (by decide) (by decide) (by decide) hk hkd kk
theorem wf_X6_13 : Cond.fieldLink RX6 13 "ThrowersBag$Sheet" "size" "I" ∈ TB := tb_at 362 (by decide +kernel) (by decide +kernel)
theorem gf_X6_13 (h : Sem cc RX6 nL R E g) {pc k : Nat} (d : decode cc pc = .ok (.getfield 13, 3)) (hk : k < 184) (hkd : kd k = 6) (kk : g I (pc + 3) lv (.int (I k 1) :: st)) : g I pc lv (.ref (E.1 k) :: st) := r_getI h (ci := 6) (C := RX6) (T := TX6) (N := 3) d rfl tinX6 1 (by decide) wf_X6_13 (by decide) (by decide) (by decide) hk hkd kk
theorem pf_X6_13 (h : Sem cc RX6 nL R E g) {pc k : Nat} {v : Int32} (d : decode cc pc = .ok (.putfield 13, 3)) (hk : k < 184) (hkd : kd k = 6) (kk : g (upm I k 1 v) (pc + 3) lv st) : g I pc lv (.int v :: .ref (E.1 k) :: st) := r_put h (ci := 6) (C := RX6) (T := TX6) (N := 3) (ty := .int) d rfl tinX6 tyX6_ok nmX6 1 (by decide) wf_X6_13 rfl (by decide +kernel) (by decide) (by decide) (by decide) rfl rfl hk hkd kk
theorem wf_X10_348 : Cond.fieldLinkNest RX10 348 "ThrowersBag$Sheet" "size" "I" "ThrowersBag" ∈ nestW := List.mem_of_getElem? (i := 54) (by decide +kernel)
theorem gf_X10_348 (h : Sem cc RX10 nL R E g) {pc k : Nat} (d : decode cc pc = .ok (.getfield 348, 3)) (hk : k < 184) (hkd : kd k = 6) (kk : g I (pc + 3) lv (.int (I k 1) :: st)) : g I pc lv (.ref (E.1 k) :: st) := r_getIN h (ci := 6) (C := RX6) (T := TX6) (N := 3) d rfl tinX6 1 (by decide) wf_X10_348 (by decide) (by decide) (by decide) hk hkd kk
theorem wf_X6_16 : Cond.fieldLink RX6 16 "ThrowersBag$Sheet" "items" "[I" ∈ TB := tb_at 364 (by decide +kernel) (by decide +kernel)
theorem gf_X6_16 (h : Sem cc RX6 nL R E g) {pc k : Nat} (d : decode cc pc = .ok (.getfield 16, 3)) (hk : k < 184) (hkd : kd k = 6) (kk : g I (pc + 3) lv (.ref (E.1 (rf k 2)) :: st)) : g I pc lv (.ref (E.1 k) :: st) := r_getR h (ci := 6) (C := RX6) (T := TX6) (N := 3) d rfl tinX6 2 (by decide) wf_X6_16 (by decide) (by decide) (by decide) hk hkd kk
theorem wf_X10_295 : Cond.fieldLinkNest RX10 295 "ThrowersBag$Sheet" "items" "[I" "ThrowersBag" ∈ nestW := List.mem_of_getElem? (i := 55) (by decide +kernel)
theorem gf_X10_295 (h : Sem cc RX10 nL R E g) {pc k : Nat} (d : decode cc pc = .ok (.getfield 295, 3)) (hk : k < 184) (hkd : kd k = 6) (kk : g I (pc + 3) lv (.ref (E.1 (rf k 2)) :: st)) : g I pc lv (.ref (E.1 k) :: st) := r_getRN h (ci := 6) (C := RX6) (T := TX6) (N := 3) d rfl tinX6 2 (by decide) wf_X10_295 (by decide) (by decide) (by decide) hk hkd kk
theorem wf_X10_13 : Cond.fieldLink RX10 13 "ThrowersBag" "wave" "[I" ∈ TB := tb_at 373 (by decide +kernel) (by decide +kernel)
theorem gf_X10_13 (h : Sem cc RX10 nL R E g) {pc k : Nat} (d : decode cc pc = .ok (.getfield 13, 3)) (hk : k < 184) (hkd : kd k = 10) (kk : g I (pc + 3) lv (.ref (E.1 (rf k 0)) :: st)) : g I pc lv (.ref (E.1 k) :: st) := r_getR h (ci := 10) (C := RX10) (T := TX10) (N := 19) d rfl tinX10 0 (by decide) wf_X10_13 (by decide) (by decide) (by decide) hk hkd kk
theorem wf_X10_19 : Cond.fieldLink RX10 19 "ThrowersBag" "sticks" "[LThrowersBag$Stick;" ∈ TB := tb_at 374 (by decide +kernel) (by decide +kernel)
theorem gf_X10_19 (h : Sem cc RX10 nL R E g) {pc k : Nat} (d : decode cc pc = .ok (.getfield 19, 3)) (hk : k < 184) (hkd : kd k = 10) (kk : g I (pc + 3) lv (.ref (E.1 (rf k 1)) :: st)) : g I pc lv (.ref (E.1 k) :: st) := r_getR h (ci := 10) (C := RX10) (T := TX10) (N := 19) d rfl tinX10 1 (by decide) wf_X10_19 (by decide) (by decide) (by decide) hk hkd kk
theorem wf_X10_23 : Cond.fieldLink RX10 23 "ThrowersBag" "stickCount" "I" ∈ TB := tb_at 375 (by decide +kernel) (by decide +kernel)
theorem gf_X10_23 (h : Sem cc RX10 nL R E g) {pc k : Nat} (d : decode cc pc = .ok (.getfield 23, 3)) (hk : k < 184) (hkd : kd k = 10) (kk : g I (pc + 3) lv (.int (I k 2) :: st)) : g I pc lv (.ref (E.1 k) :: st) := r_getI h (ci := 10) (C := RX10) (T := TX10) (N := 19) d rfl tinX10 2 (by decide) wf_X10_23 (by decide) (by decide) (by decide) hk hkd kk
theorem pf_X10_23 (h : Sem cc RX10 nL R E g) {pc k : Nat} {v : Int32} (d : decode cc pc = .ok (.putfield 23, 3)) (hk : k < 184) (hkd : kd k = 10) (kk : g (upm I k 2 v) (pc + 3) lv st) : g I pc lv (.int v :: .ref (E.1 k) :: st) := r_put h (ci := 10) (C := RX10) (T := TX10) (N := 19) (ty := .int) d rfl tinX10 tyX10_ok nmX10 2 (by decide) wf_X10_23 rfl (by decide +kernel) (by decide) (by decide) (by decide) rfl rfl hk hkd kk
theorem wf_X10_29 : Cond.fieldLink RX10 29 "ThrowersBag" "winds" "[LThrowersBag$Wind;" ∈ TB := tb_at 376 (by decide +kernel) (by decide +kernel)
theorem gf_X10_29 (h : Sem cc RX10 nL R E g) {pc k : Nat} (d : decode cc pc = .ok (.getfield 29, 3)) (hk : k < 184) (hkd : kd k = 10) (kk : g I (pc + 3) lv (.ref (E.1 (rf k 3)) :: st)) : g I pc lv (.ref (E.1 k) :: st) := r_getR h (ci := 10) (C := RX10) (T := TX10) (N := 19) d rfl tinX10 3 (by decide) wf_X10_29 (by decide) (by decide) (by decide) hk hkd kk
theorem wf_X10_33 : Cond.fieldLink RX10 33 "ThrowersBag" "windCount" "I" ∈ TB := tb_at 377 (by decide +kernel) (by decide +kernel)
theorem gf_X10_33 (h : Sem cc RX10 nL R E g) {pc k : Nat} (d : decode cc pc = .ok (.getfield 33, 3)) (hk : k < 184) (hkd : kd k = 10) (kk : g I (pc + 3) lv (.int (I k 4) :: st)) : g I pc lv (.ref (E.1 k) :: st) := r_getI h (ci := 10) (C := RX10) (T := TX10) (N := 19) d rfl tinX10 4 (by decide) wf_X10_33 (by decide) (by decide) (by decide) hk hkd kk
theorem pf_X10_33 (h : Sem cc RX10 nL R E g) {pc k : Nat} {v : Int32} (d : decode cc pc = .ok (.putfield 33, 3)) (hk : k < 184) (hkd : kd k = 10) (kk : g (upm I k 4 v) (pc + 3) lv st) : g I pc lv (.int v :: .ref (E.1 k) :: st) := r_put h (ci := 10) (C := RX10) (T := TX10) (N := 19) (ty := .int) d rfl tinX10 tyX10_ok nmX10 4 (by decide) wf_X10_33 rfl (by decide +kernel) (by decide) (by decide) (by decide) rfl rfl hk hkd kk
theorem wf_X10_37 : Cond.fieldLink RX10 37 "ThrowersBag" "calm" "LThrowersBag$Wind;" ∈ TB := tb_at 378 (by decide +kernel) (by decide +kernel)
theorem gf_X10_37 (h : Sem cc RX10 nL R E g) {pc k : Nat} (d : decode cc pc = .ok (.getfield 37, 3)) (hk : k < 184) (hkd : kd k = 10) (kk : g I (pc + 3) lv (.ref (E.1 (rf k 5)) :: st)) : g I pc lv (.ref (E.1 k) :: st) := r_getR h (ci := 10) (C := RX10) (T := TX10) (N := 19) d rfl tinX10 5 (by decide) wf_X10_37 (by decide) (by decide) (by decide) hk hkd kk
theorem wf_X10_44 : Cond.fieldLink RX10 44 "ThrowersBag" "meadow" "LThrowersBag$Meadow;" ∈ TB := tb_at 379 (by decide +kernel) (by decide +kernel)
theorem gf_X10_44 (h : Sem cc RX10 nL R E g) {pc k : Nat} (d : decode cc pc = .ok (.getfield 44, 3)) (hk : k < 184) (hkd : kd k = 10) (kk : g I (pc + 3) lv (.ref (E.1 (rf k 6)) :: st)) : g I pc lv (.ref (E.1 k) :: st) := r_getR h (ci := 10) (C := RX10) (T := TX10) (N := 19) d rfl tinX10 6 (by decide) wf_X10_44 (by decide) (by decide) (by decide) hk hkd kk
theorem wf_X10_53 : Cond.fieldLink RX10 53 "ThrowersBag" "latest" "LThrowersBag$Flight;" ∈ TB := tb_at 380 (by decide +kernel) (by decide +kernel)
theorem gf_X10_53 (h : Sem cc RX10 nL R E g) {pc k : Nat} (d : decode cc pc = .ok (.getfield 53, 3)) (hk : k < 184) (hkd : kd k = 10) (kk : g I (pc + 3) lv (.ref (E.1 (rf k 7)) :: st)) : g I pc lv (.ref (E.1 k) :: st) := r_getR h (ci := 10) (C := RX10) (T := TX10) (N := 19) d rfl tinX10 7 (by decide) wf_X10_53 (by decide) (by decide) (by decide) hk hkd kk
theorem wf_X10_57 : Cond.fieldLink RX10 57 "ThrowersBag" "trial" "LThrowersBag$Flight;" ∈ TB := tb_at 381 (by decide +kernel) (by decide +kernel)
theorem gf_X10_57 (h : Sem cc RX10 nL R E g) {pc k : Nat} (d : decode cc pc = .ok (.getfield 57, 3)) (hk : k < 184) (hkd : kd k = 10) (kk : g I (pc + 3) lv (.ref (E.1 (rf k 8)) :: st)) : g I pc lv (.ref (E.1 k) :: st) := r_getR h (ci := 10) (C := RX10) (T := TX10) (N := 19) d rfl tinX10 8 (by decide) wf_X10_57 (by decide) (by decide) (by decide) hk hkd kk
theorem wf_X10_63 : Cond.fieldLink RX10 63 "ThrowersBag" "trialAim" "LThrowersBag$Aim;" ∈ TB := tb_at 382 (by decide +kernel) (by decide +kernel)
theorem gf_X10_63 (h : Sem cc RX10 nL R E g) {pc k : Nat} (d : decode cc pc = .ok (.getfield 63, 3)) (hk : k < 184) (hkd : kd k = 10) (kk : g I (pc + 3) lv (.ref (E.1 (rf k 9)) :: st)) : g I pc lv (.ref (E.1 k) :: st) := r_getR h (ci := 10) (C := RX10) (T := TX10) (N := 19) d rfl tinX10 9 (by decide) wf_X10_63 (by decide) (by decide) (by decide) hk hkd kk
theorem wf_X10_67 : Cond.fieldLink RX10 67 "ThrowersBag" "choice" "[I" ∈ TB := tb_at 383 (by decide +kernel) (by decide +kernel)
theorem gf_X10_67 (h : Sem cc RX10 nL R E g) {pc k : Nat} (d : decode cc pc = .ok (.getfield 67, 3)) (hk : k < 184) (hkd : kd k = 10) (kk : g I (pc + 3) lv (.ref (E.1 (rf k 10)) :: st)) : g I pc lv (.ref (E.1 k) :: st) := r_getR h (ci := 10) (C := RX10) (T := TX10) (N := 19) d rfl tinX10 10 (by decide) wf_X10_67 (by decide) (by decide) (by decide) hk hkd kk
theorem wf_X10_70 : Cond.fieldLink RX10 70 "ThrowersBag" "hasChoice" "Z" ∈ TB := tb_at 384 (by decide +kernel) (by decide +kernel)
theorem gf_X10_70 (h : Sem cc RX10 nL R E g) {pc k : Nat} (d : decode cc pc = .ok (.getfield 70, 3)) (hk : k < 184) (hkd : kd k = 10) (kk : g I (pc + 3) lv (.int (I k 11) :: st)) : g I pc lv (.ref (E.1 k) :: st) := r_getI h (ci := 10) (C := RX10) (T := TX10) (N := 19) d rfl tinX10 11 (by decide) wf_X10_70 (by decide) (by decide) (by decide) hk hkd kk
theorem pf_X10_70 (h : Sem cc RX10 nL R E g) {pc k : Nat} {v : Int32} (d : decode cc pc = .ok (.putfield 70, 3)) (hk : k < 184) (hkd : kd k = 10) (hv : narrow .boolean (.int v) = .int v) (hf : fits .boolean (.int v) = true) (kk : g (upm I k 11 v) (pc + 3) lv st) : g I pc lv (.int v :: .ref (E.1 k) :: st) := r_put h (ci := 10) (C := RX10) (T := TX10) (N := 19) (ty := .boolean) d rfl tinX10 tyX10_ok nmX10 11 (by decide) wf_X10_70 rfl (by decide +kernel) (by decide) (by decide) (by decide) hv hf hk hkd kk
theorem wf_X10_74 : Cond.fieldLink RX10 74 "ThrowersBag" "kept" "[LThrowersBag$Aim;" ∈ TB := tb_at 385 (by decide +kernel) (by decide +kernel)
theorem gf_X10_74 (h : Sem cc RX10 nL R E g) {pc k : Nat} (d : decode cc pc = .ok (.getfield 74, 3)) (hk : k < 184) (hkd : kd k = 10) (kk : g I (pc + 3) lv (.ref (E.1 (rf k 12)) :: st)) : g I pc lv (.ref (E.1 k) :: st) := r_getR h (ci := 10) (C := RX10) (T := TX10) (N := 19) d rfl tinX10 12 (by decide) wf_X10_74 (by decide) (by decide) (by decide) hk hkd kk
theorem wf_X10_78 : Cond.fieldLink RX10 78 "ThrowersBag" "isKept" "[Z" ∈ TB := tb_at 386 (by decide +kernel) (by decide +kernel)
theorem gf_X10_78 (h : Sem cc RX10 nL R E g) {pc k : Nat} (d : decode cc pc = .ok (.getfield 78, 3)) (hk : k < 184) (hkd : kd k = 10) (kk : g I (pc + 3) lv (.ref (E.1 (rf k 13)) :: st)) : g I pc lv (.ref (E.1 k) :: st) := r_getR h (ci := 10) (C := RX10) (T := TX10) (N := 19) d rfl tinX10 13 (by decide) wf_X10_78 (by decide) (by decide) (by decide) hk hkd kk
theorem wf_X10_85 : Cond.fieldLink RX10 85 "ThrowersBag" "game" "LThrowersBag$Match;" ∈ TB := tb_at 387 (by decide +kernel) (by decide +kernel)
theorem gf_X10_85 (h : Sem cc RX10 nL R E g) {pc k : Nat} (d : decode cc pc = .ok (.getfield 85, 3)) (hk : k < 184) (hkd : kd k = 10) (kk : g I (pc + 3) lv (.ref (E.1 (rf k 14)) :: st)) : g I pc lv (.ref (E.1 k) :: st) := r_getR h (ci := 10) (C := RX10) (T := TX10) (N := 19) d rfl tinX10 14 (by decide) wf_X10_85 (by decide) (by decide) (by decide) hk hkd kk
theorem wf_X10_91 : Cond.fieldLink RX10 91 "ThrowersBag" "seenRows" "[LThrowersBag$Row;" ∈ TB := tb_at 388 (by decide +kernel) (by decide +kernel)
theorem gf_X10_91 (h : Sem cc RX10 nL R E g) {pc k : Nat} (d : decode cc pc = .ok (.getfield 91, 3)) (hk : k < 184) (hkd : kd k = 10) (kk : g I (pc + 3) lv (.ref (E.1 (rf k 15)) :: st)) : g I pc lv (.ref (E.1 k) :: st) := r_getR h (ci := 10) (C := RX10) (T := TX10) (N := 19) d rfl tinX10 15 (by decide) wf_X10_91 (by decide) (by decide) (by decide) hk hkd kk
theorem wf_X10_95 : Cond.fieldLink RX10 95 "ThrowersBag" "rowCount" "I" ∈ TB := tb_at 389 (by decide +kernel) (by decide +kernel)
theorem gf_X10_95 (h : Sem cc RX10 nL R E g) {pc k : Nat} (d : decode cc pc = .ok (.getfield 95, 3)) (hk : k < 184) (hkd : kd k = 10) (kk : g I (pc + 3) lv (.int (I k 16) :: st)) : g I pc lv (.ref (E.1 k) :: st) := r_getI h (ci := 10) (C := RX10) (T := TX10) (N := 19) d rfl tinX10 16 (by decide) wf_X10_95 (by decide) (by decide) (by decide) hk hkd kk
theorem pf_X10_95 (h : Sem cc RX10 nL R E g) {pc k : Nat} {v : Int32} (d : decode cc pc = .ok (.putfield 95, 3)) (hk : k < 184) (hkd : kd k = 10) (kk : g (upm I k 16 v) (pc + 3) lv st) : g I pc lv (.int v :: .ref (E.1 k) :: st) := r_put h (ci := 10) (C := RX10) (T := TX10) (N := 19) (ty := .int) d rfl tinX10 tyX10_ok nmX10 16 (by decide) wf_X10_95 rfl (by decide +kernel) (by decide) (by decide) (by decide) rfl rfl hk hkd kk
theorem wf_X10_101 : Cond.fieldLink RX10 101 "ThrowersBag" "meadowGrass" "LThrowersBag$Grass;" ∈ TB := tb_at 390 (by decide +kernel) (by decide +kernel)
theorem gf_X10_101 (h : Sem cc RX10 nL R E g) {pc k : Nat} (d : decode cc pc = .ok (.getfield 101, 3)) (hk : k < 184) (hkd : kd k = 10) (kk : g I (pc + 3) lv (.ref (E.1 (rf k 17)) :: st)) : g I pc lv (.ref (E.1 k) :: st) := r_getR h (ci := 10) (C := RX10) (T := TX10) (N := 19) d rfl tinX10 17 (by decide) wf_X10_101 (by decide) (by decide) (by decide) hk hkd kk
theorem wf_X10_107 : Cond.fieldLink RX10 107 "ThrowersBag" "sheets" "[LThrowersBag$Sheet;" ∈ TB := tb_at 391 (by decide +kernel) (by decide +kernel)
theorem gf_X10_107 (h : Sem cc RX10 nL R E g) {pc k : Nat} (d : decode cc pc = .ok (.getfield 107, 3)) (hk : k < 184) (hkd : kd k = 10) (kk : g I (pc + 3) lv (.ref (E.1 (rf k 18)) :: st)) : g I pc lv (.ref (E.1 k) :: st) := r_getR h (ci := 10) (C := RX10) (T := TX10) (N := 19) d rfl tinX10 18 (by decide) wf_X10_107 (by decide) (by decide) (by decide) hk hkd kk
theorem wf_X10_387 : Cond.fieldLink RX10 387 "ThrowersBag" "CHOICE_LEANS" "[I" ∈ TB := tb_at 613 (by decide +kernel) (by decide +kernel)
theorem wf_X10_390 : Cond.fieldLink RX10 390 "ThrowersBag" "CHOICE_STRENGTHS" "[I" ∈ TB := tb_at 615 (by decide +kernel) (by decide +kernel)
theorem wf_X11_7 : Cond.fieldLink RX11 7 "ThrowersBagModel" "sines" "[I" ∈ TB := tb_at 858 (by decide +kernel) (by decide +kernel)
theorem gf_X11_7 (h : Sem cc RX11 nL R E g) {pc k : Nat} (d : decode cc pc = .ok (.getfield 7, 3)) (hk : k < 184) (hkd : kd k = 11) (kk : g I (pc + 3) lv (.ref (E.1 (rf k 0)) :: st)) : g I pc lv (.ref (E.1 k) :: st) := r_getR h (ci := 11) (C := RX11) (T := TX11) (N := 50) d rfl tinX11 0 (by decide) wf_X11_7 (by decide) (by decide) (by decide) hk hkd kk
theorem wf_X11_144 : Cond.fieldLink RX11 144 "ThrowersBagModel" "sticks" "I" ∈ TB := tb_at 859 (by decide +kernel) (by decide +kernel)
theorem gf_X11_144 (h : Sem cc RX11 nL R E g) {pc k : Nat} (d : decode cc pc = .ok (.getfield 144, 3)) (hk : k < 184) (hkd : kd k = 11) (kk : g I (pc + 3) lv (.int (I k 1) :: st)) : g I pc lv (.ref (E.1 k) :: st) := r_getI h (ci := 11) (C := RX11) (T := TX11) (N := 50) d rfl tinX11 1 (by decide) wf_X11_144 (by decide) (by decide) (by decide) hk hkd kk
theorem pf_X11_144 (h : Sem cc RX11 nL R E g) {pc k : Nat} {v : Int32} (d : decode cc pc = .ok (.putfield 144, 3)) (hk : k < 184) (hkd : kd k = 11) (kk : g (upm I k 1 v) (pc + 3) lv st) : g I pc lv (.int v :: .ref (E.1 k) :: st) := r_put h (ci := 11) (C := RX11) (T := TX11) (N := 50) (ty := .int) d rfl tinX11 tyX11_ok nmX11 1 (by decide) wf_X11_144 rfl (by decide +kernel) (by decide) (by decide) (by decide) rfl rfl hk hkd kk
theorem wf_X11_13 : Cond.fieldLink RX11 13 "ThrowersBagModel" "hovers" "[I" ∈ TB := tb_at 860 (by decide +kernel) (by decide +kernel)
theorem gf_X11_13 (h : Sem cc RX11 nL R E g) {pc k : Nat} (d : decode cc pc = .ok (.getfield 13, 3)) (hk : k < 184) (hkd : kd k = 11) (kk : g I (pc + 3) lv (.ref (E.1 (rf k 2)) :: st)) : g I pc lv (.ref (E.1 k) :: st) := r_getR h (ci := 11) (C := RX11) (T := TX11) (N := 50) d rfl tinX11 2 (by decide) wf_X11_13 (by decide) (by decide) (by decide) hk hkd kk
theorem wf_X11_16 : Cond.fieldLink RX11 16 "ThrowersBagModel" "weights" "[I" ∈ TB := tb_at 861 (by decide +kernel) (by decide +kernel)
theorem gf_X11_16 (h : Sem cc RX11 nL R E g) {pc k : Nat} (d : decode cc pc = .ok (.getfield 16, 3)) (hk : k < 184) (hkd : kd k = 11) (kk : g I (pc + 3) lv (.ref (E.1 (rf k 3)) :: st)) : g I pc lv (.ref (E.1 k) :: st) := r_getR h (ci := 11) (C := RX11) (T := TX11) (N := 50) d rfl tinX11 3 (by decide) wf_X11_16 (by decide) (by decide) (by decide) hk hkd kk
theorem wf_X11_19 : Cond.fieldLink RX11 19 "ThrowersBagModel" "grips" "[I" ∈ TB := tb_at 862 (by decide +kernel) (by decide +kernel)
theorem gf_X11_19 (h : Sem cc RX11 nL R E g) {pc k : Nat} (d : decode cc pc = .ok (.getfield 19, 3)) (hk : k < 184) (hkd : kd k = 11) (kk : g I (pc + 3) lv (.ref (E.1 (rf k 4)) :: st)) : g I pc lv (.ref (E.1 k) :: st) := r_getR h (ci := 11) (C := RX11) (T := TX11) (N := 50) d rfl tinX11 4 (by decide) wf_X11_19 (by decide) (by decide) (by decide) hk hkd kk
theorem wf_X11_22 : Cond.fieldLink RX11 22 "ThrowersBagModel" "losses" "[I" ∈ TB := tb_at 863 (by decide +kernel) (by decide +kernel)
theorem gf_X11_22 (h : Sem cc RX11 nL R E g) {pc k : Nat} (d : decode cc pc = .ok (.getfield 22, 3)) (hk : k < 184) (hkd : kd k = 11) (kk : g I (pc + 3) lv (.ref (E.1 (rf k 5)) :: st)) : g I pc lv (.ref (E.1 k) :: st) := r_getR h (ci := 11) (C := RX11) (T := TX11) (N := 50) d rfl tinX11 5 (by decide) wf_X11_22 (by decide) (by decide) (by decide) hk hkd kk
theorem wf_X11_25 : Cond.fieldLink RX11 25 "ThrowersBagModel" "drags" "[I" ∈ TB := tb_at 864 (by decide +kernel) (by decide +kernel)
theorem gf_X11_25 (h : Sem cc RX11 nL R E g) {pc k : Nat} (d : decode cc pc = .ok (.getfield 25, 3)) (hk : k < 184) (hkd : kd k = 11) (kk : g I (pc + 3) lv (.ref (E.1 (rf k 6)) :: st)) : g I pc lv (.ref (E.1 k) :: st) := r_getR h (ci := 11) (C := RX11) (T := TX11) (N := 50) d rfl tinX11 6 (by decide) wf_X11_25 (by decide) (by decide) (by decide) hk hkd kk
theorem wf_X11_28 : Cond.fieldLink RX11 28 "ThrowersBagModel" "bends" "[I" ∈ TB := tb_at 865 (by decide +kernel) (by decide +kernel)
theorem gf_X11_28 (h : Sem cc RX11 nL R E g) {pc k : Nat} (d : decode cc pc = .ok (.getfield 28, 3)) (hk : k < 184) (hkd : kd k = 11) (kk : g I (pc + 3) lv (.ref (E.1 (rf k 7)) :: st)) : g I pc lv (.ref (E.1 k) :: st) := r_getR h (ci := 11) (C := RX11) (T := TX11) (N := 50) d rfl tinX11 7 (by decide) wf_X11_28 (by decide) (by decide) (by decide) hk hkd kk
theorem wf_X11_31 : Cond.fieldLink RX11 31 "ThrowersBagModel" "lifts" "[I" ∈ TB := tb_at 866 (by decide +kernel) (by decide +kernel)
theorem gf_X11_31 (h : Sem cc RX11 nL R E g) {pc k : Nat} (d : decode cc pc = .ok (.getfield 31, 3)) (hk : k < 184) (hkd : kd k = 11) (kk : g I (pc + 3) lv (.ref (E.1 (rf k 8)) :: st)) : g I pc lv (.ref (E.1 k) :: st) := r_getR h (ci := 11) (C := RX11) (T := TX11) (N := 50) d rfl tinX11 8 (by decide) wf_X11_31 (by decide) (by decide) (by decide) hk hkd kk
theorem wf_X11_34 : Cond.fieldLink RX11 34 "ThrowersBagModel" "isLost" "[Z" ∈ TB := tb_at 867 (by decide +kernel) (by decide +kernel)
theorem gf_X11_34 (h : Sem cc RX11 nL R E g) {pc k : Nat} (d : decode cc pc = .ok (.getfield 34, 3)) (hk : k < 184) (hkd : kd k = 11) (kk : g I (pc + 3) lv (.ref (E.1 (rf k 9)) :: st)) : g I pc lv (.ref (E.1 k) :: st) := r_getR h (ci := 11) (C := RX11) (T := TX11) (N := 50) d rfl tinX11 9 (by decide) wf_X11_34 (by decide) (by decide) (by decide) hk hkd kk
theorem wf_X11_165 : Cond.fieldLink RX11 165 "ThrowersBagModel" "winds" "I" ∈ TB := tb_at 868 (by decide +kernel) (by decide +kernel)
theorem gf_X11_165 (h : Sem cc RX11 nL R E g) {pc k : Nat} (d : decode cc pc = .ok (.getfield 165, 3)) (hk : k < 184) (hkd : kd k = 11) (kk : g I (pc + 3) lv (.int (I k 10) :: st)) : g I pc lv (.ref (E.1 k) :: st) := r_getI h (ci := 11) (C := RX11) (T := TX11) (N := 50) d rfl tinX11 10 (by decide) wf_X11_165 (by decide) (by decide) (by decide) hk hkd kk
theorem pf_X11_165 (h : Sem cc RX11 nL R E g) {pc k : Nat} {v : Int32} (d : decode cc pc = .ok (.putfield 165, 3)) (hk : k < 184) (hkd : kd k = 11) (kk : g (upm I k 10 v) (pc + 3) lv st) : g I pc lv (.int v :: .ref (E.1 k) :: st) := r_put h (ci := 11) (C := RX11) (T := TX11) (N := 50) (ty := .int) d rfl tinX11 tyX11_ok nmX11 10 (by decide) wf_X11_165 rfl (by decide +kernel) (by decide) (by decide) (by decide) rfl rfl hk hkd kk
theorem wf_X11_38 : Cond.fieldLink RX11 38 "ThrowersBagModel" "speeds" "[I" ∈ TB := tb_at 869 (by decide +kernel) (by decide +kernel)
theorem gf_X11_38 (h : Sem cc RX11 nL R E g) {pc k : Nat} (d : decode cc pc = .ok (.getfield 38, 3)) (hk : k < 184) (hkd : kd k = 11) (kk : g I (pc + 3) lv (.ref (E.1 (rf k 11)) :: st)) : g I pc lv (.ref (E.1 k) :: st) := r_getR h (ci := 11) (C := RX11) (T := TX11) (N := 50) d rfl tinX11 11 (by decide) wf_X11_38 (by decide) (by decide) (by decide) hk hkd kk
theorem wf_X11_41 : Cond.fieldLink RX11 41 "ThrowersBagModel" "tos" "[I" ∈ TB := tb_at 870 (by decide +kernel) (by decide +kernel)
theorem gf_X11_41 (h : Sem cc RX11 nL R E g) {pc k : Nat} (d : decode cc pc = .ok (.getfield 41, 3)) (hk : k < 184) (hkd : kd k = 11) (kk : g I (pc + 3) lv (.ref (E.1 (rf k 12)) :: st)) : g I pc lv (.ref (E.1 k) :: st) := r_getR h (ci := 11) (C := RX11) (T := TX11) (N := 50) d rfl tinX11 12 (by decide) wf_X11_41 (by decide) (by decide) (by decide) hk hkd kk
theorem wf_X11_180 : Cond.fieldLink RX11 180 "ThrowersBagModel" "trees" "I" ∈ TB := tb_at 871 (by decide +kernel) (by decide +kernel)
theorem gf_X11_180 (h : Sem cc RX11 nL R E g) {pc k : Nat} (d : decode cc pc = .ok (.getfield 180, 3)) (hk : k < 184) (hkd : kd k = 11) (kk : g I (pc + 3) lv (.int (I k 13) :: st)) : g I pc lv (.ref (E.1 k) :: st) := r_getI h (ci := 11) (C := RX11) (T := TX11) (N := 50) d rfl tinX11 13 (by decide) wf_X11_180 (by decide) (by decide) (by decide) hk hkd kk
theorem pf_X11_180 (h : Sem cc RX11 nL R E g) {pc k : Nat} {v : Int32} (d : decode cc pc = .ok (.putfield 180, 3)) (hk : k < 184) (hkd : kd k = 11) (kk : g (upm I k 13 v) (pc + 3) lv st) : g I pc lv (.int v :: .ref (E.1 k) :: st) := r_put h (ci := 11) (C := RX11) (T := TX11) (N := 50) (ty := .int) d rfl tinX11 tyX11_ok nmX11 13 (by decide) wf_X11_180 rfl (by decide +kernel) (by decide) (by decide) (by decide) rfl rfl hk hkd kk
theorem wf_X11_44 : Cond.fieldLink RX11 44 "ThrowersBagModel" "treeX" "[I" ∈ TB := tb_at 872 (by decide +kernel) (by decide +kernel)
theorem gf_X11_44 (h : Sem cc RX11 nL R E g) {pc k : Nat} (d : decode cc pc = .ok (.getfield 44, 3)) (hk : k < 184) (hkd : kd k = 11) (kk : g I (pc + 3) lv (.ref (E.1 (rf k 14)) :: st)) : g I pc lv (.ref (E.1 k) :: st) := r_getR h (ci := 11) (C := RX11) (T := TX11) (N := 50) d rfl tinX11 14 (by decide) wf_X11_44 (by decide) (by decide) (by decide) hk hkd kk
theorem wf_X11_47 : Cond.fieldLink RX11 47 "ThrowersBagModel" "treeY" "[I" ∈ TB := tb_at 873 (by decide +kernel) (by decide +kernel)
theorem gf_X11_47 (h : Sem cc RX11 nL R E g) {pc k : Nat} (d : decode cc pc = .ok (.getfield 47, 3)) (hk : k < 184) (hkd : kd k = 11) (kk : g I (pc + 3) lv (.ref (E.1 (rf k 15)) :: st)) : g I pc lv (.ref (E.1 k) :: st) := r_getR h (ci := 11) (C := RX11) (T := TX11) (N := 50) d rfl tinX11 15 (by decide) wf_X11_47 (by decide) (by decide) (by decide) hk hkd kk
theorem wf_X11_50 : Cond.fieldLink RX11 50 "ThrowersBagModel" "thicks" "[I" ∈ TB := tb_at 874 (by decide +kernel) (by decide +kernel)
theorem gf_X11_50 (h : Sem cc RX11 nL R E g) {pc k : Nat} (d : decode cc pc = .ok (.getfield 50, 3)) (hk : k < 184) (hkd : kd k = 11) (kk : g I (pc + 3) lv (.ref (E.1 (rf k 16)) :: st)) : g I pc lv (.ref (E.1 k) :: st) := r_getR h (ci := 11) (C := RX11) (T := TX11) (N := 50) d rfl tinX11 16 (by decide) wf_X11_50 (by decide) (by decide) (by decide) hk hkd kk
theorem wf_X11_53 : Cond.fieldLink RX11 53 "ThrowersBagModel" "highs" "[I" ∈ TB := tb_at 875 (by decide +kernel) (by decide +kernel)
theorem gf_X11_53 (h : Sem cc RX11 nL R E g) {pc k : Nat} (d : decode cc pc = .ok (.getfield 53, 3)) (hk : k < 184) (hkd : kd k = 11) (kk : g I (pc + 3) lv (.ref (E.1 (rf k 17)) :: st)) : g I pc lv (.ref (E.1 k) :: st) := r_getR h (ci := 11) (C := RX11) (T := TX11) (N := 50) d rfl tinX11 17 (by decide) wf_X11_53 (by decide) (by decide) (by decide) hk hkd kk
theorem wf_X11_56 : Cond.fieldLink RX11 56 "ThrowersBagModel" "ring" "I" ∈ TB := tb_at 876 (by decide +kernel) (by decide +kernel)
theorem gf_X11_56 (h : Sem cc RX11 nL R E g) {pc k : Nat} (d : decode cc pc = .ok (.getfield 56, 3)) (hk : k < 184) (hkd : kd k = 11) (kk : g I (pc + 3) lv (.int (I k 18) :: st)) : g I pc lv (.ref (E.1 k) :: st) := r_getI h (ci := 11) (C := RX11) (T := TX11) (N := 50) d rfl tinX11 18 (by decide) wf_X11_56 (by decide) (by decide) (by decide) hk hkd kk
theorem pf_X11_56 (h : Sem cc RX11 nL R E g) {pc k : Nat} {v : Int32} (d : decode cc pc = .ok (.putfield 56, 3)) (hk : k < 184) (hkd : kd k = 11) (kk : g (upm I k 18 v) (pc + 3) lv st) : g I pc lv (.int v :: .ref (E.1 k) :: st) := r_put h (ci := 11) (C := RX11) (T := TX11) (N := 50) (ty := .int) d rfl tinX11 tyX11_ok nmX11 18 (by decide) wf_X11_56 rfl (by decide +kernel) (by decide) (by decide) (by decide) rfl rfl hk hkd kk
theorem wf_X11_60 : Cond.fieldLink RX11 60 "ThrowersBagModel" "now" "[I" ∈ TB := tb_at 877 (by decide +kernel) (by decide +kernel)
theorem gf_X11_60 (h : Sem cc RX11 nL R E g) {pc k : Nat} (d : decode cc pc = .ok (.getfield 60, 3)) (hk : k < 184) (hkd : kd k = 11) (kk : g I (pc + 3) lv (.ref (E.1 (rf k 19)) :: st)) : g I pc lv (.ref (E.1 k) :: st) := r_getR h (ci := 11) (C := RX11) (T := TX11) (N := 50) d rfl tinX11 19 (by decide) wf_X11_60 (by decide) (by decide) (by decide) hk hkd kk
theorem wf_X11_189 : Cond.fieldLink RX11 189 "ThrowersBagModel" "tick" "I" ∈ TB := tb_at 878 (by decide +kernel) (by decide +kernel)
theorem gf_X11_189 (h : Sem cc RX11 nL R E g) {pc k : Nat} (d : decode cc pc = .ok (.getfield 189, 3)) (hk : k < 184) (hkd : kd k = 11) (kk : g I (pc + 3) lv (.int (I k 20) :: st)) : g I pc lv (.ref (E.1 k) :: st) := r_getI h (ci := 11) (C := RX11) (T := TX11) (N := 50) d rfl tinX11 20 (by decide) wf_X11_189 (by decide) (by decide) (by decide) hk hkd kk
theorem pf_X11_189 (h : Sem cc RX11 nL R E g) {pc k : Nat} {v : Int32} (d : decode cc pc = .ok (.putfield 189, 3)) (hk : k < 184) (hkd : kd k = 11) (kk : g (upm I k 20 v) (pc + 3) lv st) : g I pc lv (.int v :: .ref (E.1 k) :: st) := r_put h (ci := 11) (C := RX11) (T := TX11) (N := 50) (ty := .int) d rfl tinX11 tyX11_ok nmX11 20 (by decide) wf_X11_189 rfl (by decide +kernel) (by decide) (by decide) (by decide) rfl rfl hk hkd kk
theorem wf_X11_205 : Cond.fieldLink RX11 205 "ThrowersBagModel" "inTree" "I" ∈ TB := tb_at 879 (by decide +kernel) (by decide +kernel)
theorem gf_X11_205 (h : Sem cc RX11 nL R E g) {pc k : Nat} (d : decode cc pc = .ok (.getfield 205, 3)) (hk : k < 184) (hkd : kd k = 11) (kk : g I (pc + 3) lv (.int (I k 21) :: st)) : g I pc lv (.ref (E.1 k) :: st) := r_getI h (ci := 11) (C := RX11) (T := TX11) (N := 50) d rfl tinX11 21 (by decide) wf_X11_205 (by decide) (by decide) (by decide) hk hkd kk
theorem pf_X11_205 (h : Sem cc RX11 nL R E g) {pc k : Nat} {v : Int32} (d : decode cc pc = .ok (.putfield 205, 3)) (hk : k < 184) (hkd : kd k = 11) (kk : g (upm I k 21 v) (pc + 3) lv st) : g I pc lv (.int v :: .ref (E.1 k) :: st) := r_put h (ci := 11) (C := RX11) (T := TX11) (N := 50) (ty := .int) d rfl tinX11 tyX11_ok nmX11 21 (by decide) wf_X11_205 rfl (by decide +kernel) (by decide) (by decide) (by decide) rfl rfl hk hkd kk
theorem wf_X11_185 : Cond.fieldLink RX11 185 "ThrowersBagModel" "isKept" "Z" ∈ TB := tb_at 880 (by decide +kernel) (by decide +kernel)
theorem gf_X11_185 (h : Sem cc RX11 nL R E g) {pc k : Nat} (d : decode cc pc = .ok (.getfield 185, 3)) (hk : k < 184) (hkd : kd k = 11) (kk : g I (pc + 3) lv (.int (I k 22) :: st)) : g I pc lv (.ref (E.1 k) :: st) := r_getI h (ci := 11) (C := RX11) (T := TX11) (N := 50) d rfl tinX11 22 (by decide) wf_X11_185 (by decide) (by decide) (by decide) hk hkd kk
theorem pf_X11_185 (h : Sem cc RX11 nL R E g) {pc k : Nat} {v : Int32} (d : decode cc pc = .ok (.putfield 185, 3)) (hk : k < 184) (hkd : kd k = 11) (hv : narrow .boolean (.int v) = .int v) (hf : fits .boolean (.int v) = true) (kk : g (upm I k 22 v) (pc + 3) lv st) : g I pc lv (.int v :: .ref (E.1 k) :: st) := r_put h (ci := 11) (C := RX11) (T := TX11) (N := 50) (ty := .boolean) d rfl tinX11 tyX11_ok nmX11 22 (by decide) wf_X11_185 rfl (by decide +kernel) (by decide) (by decide) (by decide) hv hf hk hkd kk
theorem wf_X11_243 : Cond.fieldLink RX11 243 "ThrowersBagModel" "ticks" "I" ∈ TB := tb_at 881 (by decide +kernel) (by decide +kernel)
theorem gf_X11_243 (h : Sem cc RX11 nL R E g) {pc k : Nat} (d : decode cc pc = .ok (.getfield 243, 3)) (hk : k < 184) (hkd : kd k = 11) (kk : g I (pc + 3) lv (.int (I k 23) :: st)) : g I pc lv (.ref (E.1 k) :: st) := r_getI h (ci := 11) (C := RX11) (T := TX11) (N := 50) d rfl tinX11 23 (by decide) wf_X11_243 (by decide) (by decide) (by decide) hk hkd kk
theorem pf_X11_243 (h : Sem cc RX11 nL R E g) {pc k : Nat} {v : Int32} (d : decode cc pc = .ok (.putfield 243, 3)) (hk : k < 184) (hkd : kd k = 11) (kk : g (upm I k 23 v) (pc + 3) lv st) : g I pc lv (.int v :: .ref (E.1 k) :: st) := r_put h (ci := 11) (C := RX11) (T := TX11) (N := 50) (ty := .int) d rfl tinX11 tyX11_ok nmX11 23 (by decide) wf_X11_243 rfl (by decide +kernel) (by decide) (by decide) (by decide) rfl rfl hk hkd kk
theorem wf_X11_63 : Cond.fieldLink RX11 63 "ThrowersBagModel" "hit" "I" ∈ TB := tb_at 882 (by decide +kernel) (by decide +kernel)
theorem gf_X11_63 (h : Sem cc RX11 nL R E g) {pc k : Nat} (d : decode cc pc = .ok (.getfield 63, 3)) (hk : k < 184) (hkd : kd k = 11) (kk : g I (pc + 3) lv (.int (I k 24) :: st)) : g I pc lv (.ref (E.1 k) :: st) := r_getI h (ci := 11) (C := RX11) (T := TX11) (N := 50) d rfl tinX11 24 (by decide) wf_X11_63 (by decide) (by decide) (by decide) hk hkd kk
theorem pf_X11_63 (h : Sem cc RX11 nL R E g) {pc k : Nat} {v : Int32} (d : decode cc pc = .ok (.putfield 63, 3)) (hk : k < 184) (hkd : kd k = 11) (kk : g (upm I k 24 v) (pc + 3) lv st) : g I pc lv (.int v :: .ref (E.1 k) :: st) := r_put h (ci := 11) (C := RX11) (T := TX11) (N := 50) (ty := .int) d rfl tinX11 tyX11_ok nmX11 24 (by decide) wf_X11_63 rfl (by decide +kernel) (by decide) (by decide) (by decide) rfl rfl hk hkd kk
theorem wf_X11_240 : Cond.fieldLink RX11 240 "ThrowersBagModel" "hasFlown" "Z" ∈ TB := tb_at 883 (by decide +kernel) (by decide +kernel)
theorem gf_X11_240 (h : Sem cc RX11 nL R E g) {pc k : Nat} (d : decode cc pc = .ok (.getfield 240, 3)) (hk : k < 184) (hkd : kd k = 11) (kk : g I (pc + 3) lv (.int (I k 25) :: st)) : g I pc lv (.ref (E.1 k) :: st) := r_getI h (ci := 11) (C := RX11) (T := TX11) (N := 50) d rfl tinX11 25 (by decide) wf_X11_240 (by decide) (by decide) (by decide) hk hkd kk
theorem pf_X11_240 (h : Sem cc RX11 nL R E g) {pc k : Nat} {v : Int32} (d : decode cc pc = .ok (.putfield 240, 3)) (hk : k < 184) (hkd : kd k = 11) (hv : narrow .boolean (.int v) = .int v) (hf : fits .boolean (.int v) = true) (kk : g (upm I k 25 v) (pc + 3) lv st) : g I pc lv (.int v :: .ref (E.1 k) :: st) := r_put h (ci := 11) (C := RX11) (T := TX11) (N := 50) (ty := .boolean) d rfl tinX11 tyX11_ok nmX11 25 (by decide) wf_X11_240 rfl (by decide +kernel) (by decide) (by decide) (by decide) hv hf hk hkd kk
theorem wf_X11_66 : Cond.fieldLink RX11 66 "ThrowersBagModel" "path" "[I" ∈ TB := tb_at 884 (by decide +kernel) (by decide +kernel)
theorem gf_X11_66 (h : Sem cc RX11 nL R E g) {pc k : Nat} (d : decode cc pc = .ok (.getfield 66, 3)) (hk : k < 184) (hkd : kd k = 11) (kk : g I (pc + 3) lv (.ref (E.1 (rf k 26)) :: st)) : g I pc lv (.ref (E.1 k) :: st) := r_getR h (ci := 11) (C := RX11) (T := TX11) (N := 50) d rfl tinX11 26 (by decide) wf_X11_66 (by decide) (by decide) (by decide) hk hkd kk
theorem wf_X11_69 : Cond.fieldLink RX11 69 "ThrowersBagModel" "chosen" "[I" ∈ TB := tb_at 885 (by decide +kernel) (by decide +kernel)
theorem gf_X11_69 (h : Sem cc RX11 nL R E g) {pc k : Nat} (d : decode cc pc = .ok (.getfield 69, 3)) (hk : k < 184) (hkd : kd k = 11) (kk : g I (pc + 3) lv (.ref (E.1 (rf k 27)) :: st)) : g I pc lv (.ref (E.1 k) :: st) := r_getR h (ci := 11) (C := RX11) (T := TX11) (N := 50) d rfl tinX11 27 (by decide) wf_X11_69 (by decide) (by decide) (by decide) hk hkd kk
theorem wf_X11_252 : Cond.fieldLink RX11 252 "ThrowersBagModel" "hasChosen" "Z" ∈ TB := tb_at 886 (by decide +kernel) (by decide +kernel)
theorem gf_X11_252 (h : Sem cc RX11 nL R E g) {pc k : Nat} (d : decode cc pc = .ok (.getfield 252, 3)) (hk : k < 184) (hkd : kd k = 11) (kk : g I (pc + 3) lv (.int (I k 28) :: st)) : g I pc lv (.ref (E.1 k) :: st) := r_getI h (ci := 11) (C := RX11) (T := TX11) (N := 50) d rfl tinX11 28 (by decide) wf_X11_252 (by decide) (by decide) (by decide) hk hkd kk
theorem pf_X11_252 (h : Sem cc RX11 nL R E g) {pc k : Nat} {v : Int32} (d : decode cc pc = .ok (.putfield 252, 3)) (hk : k < 184) (hkd : kd k = 11) (hv : narrow .boolean (.int v) = .int v) (hf : fits .boolean (.int v) = true) (kk : g (upm I k 28 v) (pc + 3) lv st) : g I pc lv (.int v :: .ref (E.1 k) :: st) := r_put h (ci := 11) (C := RX11) (T := TX11) (N := 50) (ty := .boolean) d rfl tinX11 tyX11_ok nmX11 28 (by decide) wf_X11_252 rfl (by decide +kernel) (by decide) (by decide) (by decide) hv hf hk hkd kk
theorem wf_X11_72 : Cond.fieldLink RX11 72 "ThrowersBagModel" "hasKept" "[Z" ∈ TB := tb_at 887 (by decide +kernel) (by decide +kernel)
theorem gf_X11_72 (h : Sem cc RX11 nL R E g) {pc k : Nat} (d : decode cc pc = .ok (.getfield 72, 3)) (hk : k < 184) (hkd : kd k = 11) (kk : g I (pc + 3) lv (.ref (E.1 (rf k 29)) :: st)) : g I pc lv (.ref (E.1 k) :: st) := r_getR h (ci := 11) (C := RX11) (T := TX11) (N := 50) d rfl tinX11 29 (by decide) wf_X11_72 (by decide) (by decide) (by decide) hk hkd kk
theorem wf_X11_75 : Cond.fieldLink RX11 75 "ThrowersBagModel" "kept" "[I" ∈ TB := tb_at 888 (by decide +kernel) (by decide +kernel)
theorem gf_X11_75 (h : Sem cc RX11 nL R E g) {pc k : Nat} (d : decode cc pc = .ok (.getfield 75, 3)) (hk : k < 184) (hkd : kd k = 11) (kk : g I (pc + 3) lv (.ref (E.1 (rf k 30)) :: st)) : g I pc lv (.ref (E.1 k) :: st) := r_getR h (ci := 11) (C := RX11) (T := TX11) (N := 50) d rfl tinX11 30 (by decide) wf_X11_75 (by decide) (by decide) (by decide) hk hkd kk
theorem wf_X11_78 : Cond.fieldLink RX11 78 "ThrowersBagModel" "matches" "[I" ∈ TB := tb_at 889 (by decide +kernel) (by decide +kernel)
theorem gf_X11_78 (h : Sem cc RX11 nL R E g) {pc k : Nat} (d : decode cc pc = .ok (.getfield 78, 3)) (hk : k < 184) (hkd : kd k = 11) (kk : g I (pc + 3) lv (.ref (E.1 (rf k 31)) :: st)) : g I pc lv (.ref (E.1 k) :: st) := r_getR h (ci := 11) (C := RX11) (T := TX11) (N := 50) d rfl tinX11 31 (by decide) wf_X11_78 (by decide) (by decide) (by decide) hk hkd kk
theorem wf_X11_81 : Cond.fieldLink RX11 81 "ThrowersBagModel" "styleLean" "I" ∈ TB := tb_at 890 (by decide +kernel) (by decide +kernel)
theorem gf_X11_81 (h : Sem cc RX11 nL R E g) {pc k : Nat} (d : decode cc pc = .ok (.getfield 81, 3)) (hk : k < 184) (hkd : kd k = 11) (kk : g I (pc + 3) lv (.int (I k 32) :: st)) : g I pc lv (.ref (E.1 k) :: st) := r_getI h (ci := 11) (C := RX11) (T := TX11) (N := 50) d rfl tinX11 32 (by decide) wf_X11_81 (by decide) (by decide) (by decide) hk hkd kk
theorem pf_X11_81 (h : Sem cc RX11 nL R E g) {pc k : Nat} {v : Int32} (d : decode cc pc = .ok (.putfield 81, 3)) (hk : k < 184) (hkd : kd k = 11) (kk : g (upm I k 32 v) (pc + 3) lv st) : g I pc lv (.int v :: .ref (E.1 k) :: st) := r_put h (ci := 11) (C := RX11) (T := TX11) (N := 50) (ty := .int) d rfl tinX11 tyX11_ok nmX11 32 (by decide) wf_X11_81 rfl (by decide +kernel) (by decide) (by decide) (by decide) rfl rfl hk hkd kk
theorem wf_X11_262 : Cond.fieldLink RX11 262 "ThrowersBagModel" "styleAngle" "I" ∈ TB := tb_at 891 (by decide +kernel) (by decide +kernel)
theorem gf_X11_262 (h : Sem cc RX11 nL R E g) {pc k : Nat} (d : decode cc pc = .ok (.getfield 262, 3)) (hk : k < 184) (hkd : kd k = 11) (kk : g I (pc + 3) lv (.int (I k 33) :: st)) : g I pc lv (.ref (E.1 k) :: st) := r_getI h (ci := 11) (C := RX11) (T := TX11) (N := 50) d rfl tinX11 33 (by decide) wf_X11_262 (by decide) (by decide) (by decide) hk hkd kk
theorem pf_X11_262 (h : Sem cc RX11 nL R E g) {pc k : Nat} {v : Int32} (d : decode cc pc = .ok (.putfield 262, 3)) (hk : k < 184) (hkd : kd k = 11) (kk : g (upm I k 33 v) (pc + 3) lv st) : g I pc lv (.int v :: .ref (E.1 k) :: st) := r_put h (ci := 11) (C := RX11) (T := TX11) (N := 50) (ty := .int) d rfl tinX11 tyX11_ok nmX11 33 (by decide) wf_X11_262 rfl (by decide +kernel) (by decide) (by decide) (by decide) rfl rfl hk hkd kk
theorem wf_X11_84 : Cond.fieldLink RX11 84 "ThrowersBagModel" "styleStrength" "I" ∈ TB := tb_at 892 (by decide +kernel) (by decide +kernel)
theorem gf_X11_84 (h : Sem cc RX11 nL R E g) {pc k : Nat} (d : decode cc pc = .ok (.getfield 84, 3)) (hk : k < 184) (hkd : kd k = 11) (kk : g I (pc + 3) lv (.int (I k 34) :: st)) : g I pc lv (.ref (E.1 k) :: st) := r_getI h (ci := 11) (C := RX11) (T := TX11) (N := 50) d rfl tinX11 34 (by decide) wf_X11_84 (by decide) (by decide) (by decide) hk hkd kk
theorem pf_X11_84 (h : Sem cc RX11 nL R E g) {pc k : Nat} {v : Int32} (d : decode cc pc = .ok (.putfield 84, 3)) (hk : k < 184) (hkd : kd k = 11) (kk : g (upm I k 34 v) (pc + 3) lv st) : g I pc lv (.int v :: .ref (E.1 k) :: st) := r_put h (ci := 11) (C := RX11) (T := TX11) (N := 50) (ty := .int) d rfl tinX11 tyX11_ok nmX11 34 (by decide) wf_X11_84 rfl (by decide +kernel) (by decide) (by decide) (by decide) rfl rfl hk hkd kk
theorem wf_X11_87 : Cond.fieldLink RX11 87 "ThrowersBagModel" "styleSpin" "I" ∈ TB := tb_at 893 (by decide +kernel) (by decide +kernel)
theorem gf_X11_87 (h : Sem cc RX11 nL R E g) {pc k : Nat} (d : decode cc pc = .ok (.getfield 87, 3)) (hk : k < 184) (hkd : kd k = 11) (kk : g I (pc + 3) lv (.int (I k 35) :: st)) : g I pc lv (.ref (E.1 k) :: st) := r_getI h (ci := 11) (C := RX11) (T := TX11) (N := 50) d rfl tinX11 35 (by decide) wf_X11_87 (by decide) (by decide) (by decide) hk hkd kk
theorem pf_X11_87 (h : Sem cc RX11 nL R E g) {pc k : Nat} {v : Int32} (d : decode cc pc = .ok (.putfield 87, 3)) (hk : k < 184) (hkd : kd k = 11) (kk : g (upm I k 35 v) (pc + 3) lv st) : g I pc lv (.int v :: .ref (E.1 k) :: st) := r_put h (ci := 11) (C := RX11) (T := TX11) (N := 50) (ty := .int) d rfl tinX11 tyX11_ok nmX11 35 (by decide) wf_X11_87 rfl (by decide +kernel) (by decide) (by decide) (by decide) rfl rfl hk hkd kk
theorem wf_X11_277 : Cond.fieldLink RX11 277 "ThrowersBagModel" "throwMany" "I" ∈ TB := tb_at 894 (by decide +kernel) (by decide +kernel)
theorem gf_X11_277 (h : Sem cc RX11 nL R E g) {pc k : Nat} (d : decode cc pc = .ok (.getfield 277, 3)) (hk : k < 184) (hkd : kd k = 11) (kk : g I (pc + 3) lv (.int (I k 36) :: st)) : g I pc lv (.ref (E.1 k) :: st) := r_getI h (ci := 11) (C := RX11) (T := TX11) (N := 50) d rfl tinX11 36 (by decide) wf_X11_277 (by decide) (by decide) (by decide) hk hkd kk
theorem pf_X11_277 (h : Sem cc RX11 nL R E g) {pc k : Nat} {v : Int32} (d : decode cc pc = .ok (.putfield 277, 3)) (hk : k < 184) (hkd : kd k = 11) (kk : g (upm I k 36 v) (pc + 3) lv st) : g I pc lv (.int v :: .ref (E.1 k) :: st) := r_put h (ci := 11) (C := RX11) (T := TX11) (N := 50) (ty := .int) d rfl tinX11 tyX11_ok nmX11 36 (by decide) wf_X11_277 rfl (by decide +kernel) (by decide) (by decide) (by decide) rfl rfl hk hkd kk
theorem wf_X11_90 : Cond.fieldLink RX11 90 "ThrowersBagModel" "throwAt" "[I" ∈ TB := tb_at 895 (by decide +kernel) (by decide +kernel)
theorem gf_X11_90 (h : Sem cc RX11 nL R E g) {pc k : Nat} (d : decode cc pc = .ok (.getfield 90, 3)) (hk : k < 184) (hkd : kd k = 11) (kk : g I (pc + 3) lv (.ref (E.1 (rf k 37)) :: st)) : g I pc lv (.ref (E.1 k) :: st) := r_getR h (ci := 11) (C := RX11) (T := TX11) (N := 50) d rfl tinX11 37 (by decide) wf_X11_90 (by decide) (by decide) (by decide) hk hkd kk
theorem wf_X11_93 : Cond.fieldLink RX11 93 "ThrowersBagModel" "pointsBy" "[I" ∈ TB := tb_at 896 (by decide +kernel) (by decide +kernel)
theorem gf_X11_93 (h : Sem cc RX11 nL R E g) {pc k : Nat} (d : decode cc pc = .ok (.getfield 93, 3)) (hk : k < 184) (hkd : kd k = 11) (kk : g I (pc + 3) lv (.ref (E.1 (rf k 38)) :: st)) : g I pc lv (.ref (E.1 k) :: st) := r_getR h (ci := 11) (C := RX11) (T := TX11) (N := 50) d rfl tinX11 38 (by decide) wf_X11_93 (by decide) (by decide) (by decide) hk hkd kk
theorem wf_X11_96 : Cond.fieldLink RX11 96 "ThrowersBagModel" "row" "[I" ∈ TB := tb_at 897 (by decide +kernel) (by decide +kernel)
theorem gf_X11_96 (h : Sem cc RX11 nL R E g) {pc k : Nat} (d : decode cc pc = .ok (.getfield 96, 3)) (hk : k < 184) (hkd : kd k = 11) (kk : g I (pc + 3) lv (.ref (E.1 (rf k 39)) :: st)) : g I pc lv (.ref (E.1 k) :: st) := r_getR h (ci := 11) (C := RX11) (T := TX11) (N := 50) d rfl tinX11 39 (by decide) wf_X11_96 (by decide) (by decide) (by decide) hk hkd kk
theorem wf_X11_99 : Cond.fieldLink RX11 99 "ThrowersBagModel" "ordered" "[I" ∈ TB := tb_at 898 (by decide +kernel) (by decide +kernel)
theorem gf_X11_99 (h : Sem cc RX11 nL R E g) {pc k : Nat} (d : decode cc pc = .ok (.getfield 99, 3)) (hk : k < 184) (hkd : kd k = 11) (kk : g I (pc + 3) lv (.ref (E.1 (rf k 40)) :: st)) : g I pc lv (.ref (E.1 k) :: st) := r_getR h (ci := 11) (C := RX11) (T := TX11) (N := 50) d rfl tinX11 40 (by decide) wf_X11_99 (by decide) (by decide) (by decide) hk hkd kk
theorem wf_X11_280 : Cond.fieldLink RX11 280 "ThrowersBagModel" "most" "I" ∈ TB := tb_at 899 (by decide +kernel) (by decide +kernel)
theorem gf_X11_280 (h : Sem cc RX11 nL R E g) {pc k : Nat} (d : decode cc pc = .ok (.getfield 280, 3)) (hk : k < 184) (hkd : kd k = 11) (kk : g I (pc + 3) lv (.int (I k 41) :: st)) : g I pc lv (.ref (E.1 k) :: st) := r_getI h (ci := 11) (C := RX11) (T := TX11) (N := 50) d rfl tinX11 41 (by decide) wf_X11_280 (by decide) (by decide) (by decide) hk hkd kk
theorem pf_X11_280 (h : Sem cc RX11 nL R E g) {pc k : Nat} {v : Int32} (d : decode cc pc = .ok (.putfield 280, 3)) (hk : k < 184) (hkd : kd k = 11) (kk : g (upm I k 41 v) (pc + 3) lv st) : g I pc lv (.int v :: .ref (E.1 k) :: st) := r_put h (ci := 11) (C := RX11) (T := TX11) (N := 50) (ty := .int) d rfl tinX11 tyX11_ok nmX11 41 (by decide) wf_X11_280 rfl (by decide +kernel) (by decide) (by decide) (by decide) rfl rfl hk hkd kk
theorem wf_X11_300 : Cond.fieldLink RX11 300 "ThrowersBagModel" "rows" "I" ∈ TB := tb_at 900 (by decide +kernel) (by decide +kernel)
theorem gf_X11_300 (h : Sem cc RX11 nL R E g) {pc k : Nat} (d : decode cc pc = .ok (.getfield 300, 3)) (hk : k < 184) (hkd : kd k = 11) (kk : g I (pc + 3) lv (.int (I k 42) :: st)) : g I pc lv (.ref (E.1 k) :: st) := r_getI h (ci := 11) (C := RX11) (T := TX11) (N := 50) d rfl tinX11 42 (by decide) wf_X11_300 (by decide) (by decide) (by decide) hk hkd kk
theorem pf_X11_300 (h : Sem cc RX11 nL R E g) {pc k : Nat} {v : Int32} (d : decode cc pc = .ok (.putfield 300, 3)) (hk : k < 184) (hkd : kd k = 11) (kk : g (upm I k 42 v) (pc + 3) lv st) : g I pc lv (.int v :: .ref (E.1 k) :: st) := r_put h (ci := 11) (C := RX11) (T := TX11) (N := 50) (ty := .int) d rfl tinX11 tyX11_ok nmX11 42 (by decide) wf_X11_300 rfl (by decide +kernel) (by decide) (by decide) (by decide) rfl rfl hk hkd kk
theorem wf_X11_102 : Cond.fieldLink RX11 102 "ThrowersBagModel" "seenRows" "[I" ∈ TB := tb_at 901 (by decide +kernel) (by decide +kernel)
theorem gf_X11_102 (h : Sem cc RX11 nL R E g) {pc k : Nat} (d : decode cc pc = .ok (.getfield 102, 3)) (hk : k < 184) (hkd : kd k = 11) (kk : g I (pc + 3) lv (.ref (E.1 (rf k 43)) :: st)) : g I pc lv (.ref (E.1 k) :: st) := r_getR h (ci := 11) (C := RX11) (T := TX11) (N := 50) d rfl tinX11 43 (by decide) wf_X11_102 (by decide) (by decide) (by decide) hk hkd kk
theorem wf_X11_105 : Cond.fieldLink RX11 105 "ThrowersBagModel" "likely" "[I" ∈ TB := tb_at 902 (by decide +kernel) (by decide +kernel)
theorem gf_X11_105 (h : Sem cc RX11 nL R E g) {pc k : Nat} (d : decode cc pc = .ok (.getfield 105, 3)) (hk : k < 184) (hkd : kd k = 11) (kk : g I (pc + 3) lv (.ref (E.1 (rf k 44)) :: st)) : g I pc lv (.ref (E.1 k) :: st) := r_getR h (ci := 11) (C := RX11) (T := TX11) (N := 50) d rfl tinX11 44 (by decide) wf_X11_105 (by decide) (by decide) (by decide) hk hkd kk
theorem wf_X11_108 : Cond.fieldLink RX11 108 "ThrowersBagModel" "chances" "[I" ∈ TB := tb_at 903 (by decide +kernel) (by decide +kernel)
theorem gf_X11_108 (h : Sem cc RX11 nL R E g) {pc k : Nat} (d : decode cc pc = .ok (.getfield 108, 3)) (hk : k < 184) (hkd : kd k = 11) (kk : g I (pc + 3) lv (.ref (E.1 (rf k 45)) :: st)) : g I pc lv (.ref (E.1 k) :: st) := r_getR h (ci := 11) (C := RX11) (T := TX11) (N := 50) d rfl tinX11 45 (by decide) wf_X11_108 (by decide) (by decide) (by decide) hk hkd kk
theorem wf_X11_111 : Cond.fieldLink RX11 111 "ThrowersBagModel" "lanes" "[I" ∈ TB := tb_at 904 (by decide +kernel) (by decide +kernel)
theorem gf_X11_111 (h : Sem cc RX11 nL R E g) {pc k : Nat} (d : decode cc pc = .ok (.getfield 111, 3)) (hk : k < 184) (hkd : kd k = 11) (kk : g I (pc + 3) lv (.ref (E.1 (rf k 46)) :: st)) : g I pc lv (.ref (E.1 k) :: st) := r_getR h (ci := 11) (C := RX11) (T := TX11) (N := 50) d rfl tinX11 46 (by decide) wf_X11_111 (by decide) (by decide) (by decide) hk hkd kk
theorem wf_X11_114 : Cond.fieldLink RX11 114 "ThrowersBagModel" "sizes" "[I" ∈ TB := tb_at 905 (by decide +kernel) (by decide +kernel)
theorem gf_X11_114 (h : Sem cc RX11 nL R E g) {pc k : Nat} (d : decode cc pc = .ok (.getfield 114, 3)) (hk : k < 184) (hkd : kd k = 11) (kk : g I (pc + 3) lv (.ref (E.1 (rf k 47)) :: st)) : g I pc lv (.ref (E.1 k) :: st) := r_getR h (ci := 11) (C := RX11) (T := TX11) (N := 50) d rfl tinX11 47 (by decide) wf_X11_114 (by decide) (by decide) (by decide) hk hkd kk
theorem wf_X11_117 : Cond.fieldLink RX11 117 "ThrowersBagModel" "items" "[I" ∈ TB := tb_at 906 (by decide +kernel) (by decide +kernel)
theorem gf_X11_117 (h : Sem cc RX11 nL R E g) {pc k : Nat} (d : decode cc pc = .ok (.getfield 117, 3)) (hk : k < 184) (hkd : kd k = 11) (kk : g I (pc + 3) lv (.ref (E.1 (rf k 48)) :: st)) : g I pc lv (.ref (E.1 k) :: st) := r_getR h (ci := 11) (C := RX11) (T := TX11) (N := 50) d rfl tinX11 48 (by decide) wf_X11_117 (by decide) (by decide) (by decide) hk hkd kk
theorem wf_X11_120 : Cond.fieldLink RX11 120 "ThrowersBagModel" "moved" "[I" ∈ TB := tb_at 907 (by decide +kernel) (by decide +kernel)
theorem gf_X11_120 (h : Sem cc RX11 nL R E g) {pc k : Nat} (d : decode cc pc = .ok (.getfield 120, 3)) (hk : k < 184) (hkd : kd k = 11) (kk : g I (pc + 3) lv (.ref (E.1 (rf k 49)) :: st)) : g I pc lv (.ref (E.1 k) :: st) := r_getR h (ci := 11) (C := RX11) (T := TX11) (N := 50) d rfl tinX11 49 (by decide) wf_X11_120 (by decide) (by decide) (by decide) hk hkd kk
end GF
theorem wc_X1_85 : Cond.constant RX1 85 (100000) ∈ TB := tb_at 561 (by decide +kernel) (by decide +kernel)
theorem wc_X1_86 : Cond.constant RX1 86 (36000) ∈ TB := tb_at 562 (by decide +kernel) (by decide +kernel)
theorem wc_X10_199 : Cond.constant RX10 199 (-100001) ∈ TB := tb_at 585 (by decide +kernel) (by decide +kernel)
theorem wc_J6_265 : Cond.constant RJ6 265 (1431655765) ∈ TB := tb_at 624 (by decide +kernel) (by decide +kernel)
theorem wc_J6_266 : Cond.constant RJ6 266 (858993459) ∈ TB := tb_at 625 (by decide +kernel) (by decide +kernel)
theorem wc_J6_267 : Cond.constant RJ6 267 (252645135) ∈ TB := tb_at 626 (by decide +kernel) (by decide +kernel)
theorem wc_X1_138 : Cond.constant RX1 138 (524288) ∈ TB := tb_at 670 (by decide +kernel) (by decide +kernel)
theorem wc_X11_131 : Cond.constantLong RX11 131 (359) ∈ TB := tb_at 1016 (by decide +kernel) (by decide +kernel)
theorem wc_X11_136 : Cond.constantLong RX11 136 (100) ∈ TB := tb_at 1033 (by decide +kernel) (by decide +kernel)
theorem wc_X11_138 : Cond.constantLong RX11 138 (60) ∈ TB := tb_at 1034 (by decide +kernel) (by decide +kernel)
theorem wc_X11_140 : Cond.constantLong RX11 140 (20) ∈ TB := tb_at 1035 (by decide +kernel) (by decide +kernel)
theorem wc_X11_142 : Cond.constantLong RX11 142 (10) ∈ TB := tb_at 1036 (by decide +kernel) (by decide +kernel)
theorem wc_X11_151 : Cond.constantLong RX11 151 (200) ∈ TB := tb_at 1041 (by decide +kernel) (by decide +kernel)
theorem wc_X11_157 : Cond.constantLong RX11 157 (3) ∈ TB := tb_at 1050 (by decide +kernel) (by decide +kernel)
theorem wc_X11_159 : Cond.constantLong RX11 159 (300) ∈ TB := tb_at 1051 (by decide +kernel) (by decide +kernel)
theorem wc_X11_161 : Cond.constantLong RX11 161 (-9) ∈ TB := tb_at 1056 (by decide +kernel) (by decide +kernel)
theorem wc_X11_163 : Cond.constantLong RX11 163 (9) ∈ TB := tb_at 1057 (by decide +kernel) (by decide +kernel)
theorem wc_X11_170 : Cond.constantLong RX11 170 (-359) ∈ TB := tb_at 1078 (by decide +kernel) (by decide +kernel)
theorem wc_X11_172 : Cond.constantLong RX11 172 (-9000) ∈ TB := tb_at 1083 (by decide +kernel) (by decide +kernel)
theorem wc_X11_174 : Cond.constantLong RX11 174 (9000) ∈ TB := tb_at 1084 (by decide +kernel) (by decide +kernel)
theorem wc_X11_176 : Cond.constantLong RX11 176 (500) ∈ TB := tb_at 1085 (by decide +kernel) (by decide +kernel)
theorem wc_X11_178 : Cond.constantLong RX11 178 (3000) ∈ TB := tb_at 1086 (by decide +kernel) (by decide +kernel)
theorem wc_X11_183 : Cond.constantLong RX11 183 (2000) ∈ TB := tb_at 1091 (by decide +kernel) (by decide +kernel)
theorem wc_X11_223 : Cond.constantLong RX11 223 (90) ∈ TB := tb_at 1100 (by decide +kernel) (by decide +kernel)
theorem wc_X11_225 : Cond.constantLong RX11 225 (30) ∈ TB := tb_at 1101 (by decide +kernel) (by decide +kernel)
theorem wc_X11_210 : Cond.constantLong RX11 210 (250) ∈ TB := tb_at 1102 (by decide +kernel) (by decide +kernel)
theorem wc_X11_227 : Cond.constantLong RX11 227 (1000) ∈ TB := tb_at 1103 (by decide +kernel) (by decide +kernel)
theorem wc_X11_168 : Cond.constantLong RX11 168 (-1) ∈ TB := tb_at 1108 (by decide +kernel) (by decide +kernel)
theorem wc_X11_199 : Cond.constant RX11 199 (100000) ∈ TB := tb_at 1128 (by decide +kernel) (by decide +kernel)
theorem wc_X11_200 : Cond.constant RX11 200 (36000) ∈ TB := tb_at 1129 (by decide +kernel) (by decide +kernel)
theorem wc_X11_208 : Cond.constantLong RX11 208 (50) ∈ TB := tb_at 1138 (by decide +kernel) (by decide +kernel)
theorem wc_X11_246 : Cond.constantLong RX11 246 (7) ∈ TB := tb_at 1143 (by decide +kernel) (by decide +kernel)
theorem wc_X11_248 : Cond.constant RX11 248 (-100001) ∈ TB := tb_at 1144 (by decide +kernel) (by decide +kernel)
theorem wc_X11_258 : Cond.constantLong RX11 258 (4) ∈ TB := tb_at 1181 (by decide +kernel) (by decide +kernel)
theorem wc_X11_260 : Cond.constantLong RX11 260 (-2) ∈ TB := tb_at 1182 (by decide +kernel) (by decide +kernel)
theorem wc_X11_265 : Cond.constantLong RX11 265 (100000) ∈ TB := tb_at 1198 (by decide +kernel) (by decide +kernel)
theorem wc_X11_267 : Cond.constantLong RX11 267 (2) ∈ TB := tb_at 1199 (by decide +kernel) (by decide +kernel)
theorem wc_X11_296 : Cond.constantLong RX11 296 (-9999) ∈ TB := tb_at 1232 (by decide +kernel) (by decide +kernel)
theorem wc_X11_298 : Cond.constantLong RX11 298 (9999) ∈ TB := tb_at 1233 (by decide +kernel) (by decide +kernel)
theorem wc_X11_329 : Cond.constantLong RX11 329 (24) ∈ TB := tb_at 1287 (by decide +kernel) (by decide +kernel)
theorem wc_X11_344 : Cond.constantLong RX11 344 (8) ∈ TB := tb_at 1330 (by decide +kernel) (by decide +kernel)
end
section
/-! method links and callees -/
theorem wm_L_9 : Cond.methodLink RL 9 yX10_init ∈ TB := tb_at 70 (by decide +kernel) (by decide +kernel)
theorem wm_X10_7 : Cond.methodLink RX10 7 yX10_sineWave ∈ TB := tb_at 76 (by decide +kernel) (by decide +kernel)
theorem wm_X10_43 : Cond.methodLink RX10 43 yX4_init ∈ TB := tb_at 104 (by decide +kernel) (by decide +kernel)
theorem wm_X10_50 : Cond.methodLink RX10 50 yX1_init ∈ TB := tb_at 149 (by decide +kernel) (by decide +kernel)
theorem wm_X10_84 : Cond.methodLink RX10 84 yX3_init ∈ TB := tb_at 235 (by decide +kernel) (by decide +kernel)
theorem wm_X3_33 : Cond.methodLink RX3 33 yJ7_fill_53178 ∈ TB := tb_at 243 (by decide +kernel) (by decide +kernel)
theorem wm_X3_39 : Cond.methodLink RX3 39 yX0_take ∈ TB := tb_at 246 (by decide +kernel) (by decide +kernel)
theorem wm_X10_100 : Cond.methodLink RX10 100 yX2_init ∈ TB := tb_at 279 (by decide +kernel) (by decide +kernel)
theorem wm_X2_18 : Cond.methodLink RX2 18 yJ7_fill_53178 ∈ TB := tb_at 283 (by decide +kernel) (by decide +kernel)
theorem wm_L_13 : Cond.methodLink RL 13 yX10_plain ∈ TB := tb_at 431 (by decide +kernel) (by decide +kernel)
theorem wm_X10_114 : Cond.methodLink RX10 114 yX10_newStick ∈ TB := tb_at 435 (by decide +kernel) (by decide +kernel)
theorem wm_X10_118 : Cond.methodLink RX10 118 yX10_within ∈ TB := tb_at 439 (by decide +kernel) (by decide +kernel)
theorem wm_X10_122 : Cond.methodLink RX10 122 yX7_make ∈ TB := tb_at 442 (by decide +kernel) (by decide +kernel)
theorem wm_L_18 : Cond.methodLink RL 18 yX10_winged ∈ TB := tb_at 446 (by decide +kernel) (by decide +kernel)
theorem wm_L_23 : Cond.methodLink RL 23 yX10_lift ∈ TB := tb_at 450 (by decide +kernel) (by decide +kernel)
theorem wm_X10_126 : Cond.methodLink RX10 126 yX10_isStick ∈ TB := tb_at 454 (by decide +kernel) (by decide +kernel)
theorem wm_L_28 : Cond.methodLink RL 28 yX10_bend ∈ TB := tb_at 458 (by decide +kernel) (by decide +kernel)
theorem wm_X10_133 : Cond.methodLink RX10 133 yX10_isBend ∈ TB := tb_at 462 (by decide +kernel) (by decide +kernel)
theorem wm_L_33 : Cond.methodLink RL 33 yX10_told ∈ TB := tb_at 465 (by decide +kernel) (by decide +kernel)
theorem wm_X10_139 : Cond.methodLink RX10 139 yX7_isWinged ∈ TB := tb_at 469 (by decide +kernel) (by decide +kernel)
theorem wm_L_37 : Cond.methodLink RL 37 yX10_lose ∈ TB := tb_at 473 (by decide +kernel) (by decide +kernel)
theorem wm_L_42 : Cond.methodLink RL 42 yX10_wind ∈ TB := tb_at 477 (by decide +kernel) (by decide +kernel)
theorem wm_L_47 : Cond.methodLink RL 47 yX10_blows ∈ TB := tb_at 481 (by decide +kernel) (by decide +kernel)
theorem wm_X10_161 : Cond.methodLink RX10 161 yX10_isWind ∈ TB := tb_at 485 (by decide +kernel) (by decide +kernel)
theorem wm_X10_164 : Cond.methodLink RX10 164 yX10_isDirection ∈ TB := tb_at 489 (by decide +kernel) (by decide +kernel)
theorem wm_L_51 : Cond.methodLink RL 51 yX10_swing ∈ TB := tb_at 492 (by decide +kernel) (by decide +kernel)
theorem wm_X10_173 : Cond.methodLink RX10 173 yX9_turnBy ∈ TB := tb_at 496 (by decide +kernel) (by decide +kernel)
theorem wm_X9_18 : Cond.methodLink RX9 18 yJ9_floorMod_7cf53 ∈ TB := tb_at 500 (by decide +kernel) (by decide +kernel)
theorem wm_L_55 : Cond.methodLink RL 55 yX10_tree ∈ TB := tb_at 503 (by decide +kernel) (by decide +kernel)
theorem wm_X10_177 : Cond.methodLink RX10 177 yX4_plant ∈ TB := tb_at 507 (by decide +kernel) (by decide +kernel)
theorem wm_L_59 : Cond.methodLink RL 59 yX10_ring ∈ TB := tb_at 511 (by decide +kernel) (by decide +kernel)
theorem wm_L_64 : Cond.methodLink RL 64 yX10_table ∈ TB := tb_at 515 (by decide +kernel) (by decide +kernel)
theorem wm_L_68 : Cond.methodLink RL 68 yX10_fly ∈ TB := tb_at 519 (by decide +kernel) (by decide +kernel)
theorem wm_X10_184 : Cond.methodLink RX10 184 yX10_isThrow ∈ TB := tb_at 523 (by decide +kernel) (by decide +kernel)
theorem wm_X10_241 : Cond.methodLink RX10 241 yX10_isStyle ∈ TB := tb_at 527 (by decide +kernel) (by decide +kernel)
theorem wm_X10_235 : Cond.methodLink RX10 235 yX10_isWindOrNone ∈ TB := tb_at 530 (by decide +kernel) (by decide +kernel)
theorem wm_X10_188 : Cond.methodLink RX10 188 yX0_take ∈ TB := tb_at 534 (by decide +kernel) (by decide +kernel)
theorem wm_X10_192 : Cond.methodLink RX10 192 yX10_endOf ∈ TB := tb_at 535 (by decide +kernel) (by decide +kernel)
theorem wm_X10_372 : Cond.methodLink RX10 372 yX1_begin ∈ TB := tb_at 539 (by decide +kernel) (by decide +kernel)
theorem wm_X1_62 : Cond.methodLink RX1 62 yX1_note ∈ TB := tb_at 543 (by decide +kernel) (by decide +kernel)
theorem wm_X10_376 : Cond.methodLink RX10 376 yX1_step ∈ TB := tb_at 547 (by decide +kernel) (by decide +kernel)
theorem wm_X1_65 : Cond.methodLink RX1 65 yX7_liftAt ∈ TB := tb_at 551 (by decide +kernel) (by decide +kernel)
theorem wm_X1_74 : Cond.methodLink RX1 74 yJ9_min_7cf53 ∈ TB := tb_at 555 (by decide +kernel) (by decide +kernel)
theorem wm_X1_79 : Cond.methodLink RX1 79 yJ9_max_7cf53 ∈ TB := tb_at 558 (by decide +kernel) (by decide +kernel)
theorem wm_X1_87 : Cond.methodLink RX1 87 yJ9_floorMod_7cf53 ∈ TB := tb_at 563 (by decide +kernel) (by decide +kernel)
theorem wm_X1_90 : Cond.methodLink RX1 90 yX9_bandAt ∈ TB := tb_at 564 (by decide +kernel) (by decide +kernel)
theorem wm_X10_380 : Cond.methodLink RX10 380 yX1_endIn ∈ TB := tb_at 567 (by decide +kernel) (by decide +kernel)
theorem wm_X1_127 : Cond.methodLink RX1 127 yX1_isNear ∈ TB := tb_at 571 (by decide +kernel) (by decide +kernel)
theorem wm_X1_131 : Cond.methodLinkNest RX1 131 yX10_within "ThrowersBag" ∈ nestW := List.mem_of_getElem? (i := 64) (by decide +kernel)
theorem wm_X10_384 : Cond.methodLink RX10 384 yX1_note ∈ TB := tb_at 576 (by decide +kernel) (by decide +kernel)
theorem wm_L_73 : Cond.methodLink RL 73 yX10_at ∈ TB := tb_at 577 (by decide +kernel) (by decide +kernel)
theorem wm_X10_196 : Cond.methodLink RX10 196 yX10_wasInLatest ∈ TB := tb_at 581 (by decide +kernel) (by decide +kernel)
theorem wm_X10_200 : Cond.methodLink RX10 200 yX1_partAt ∈ TB := tb_at 586 (by decide +kernel) (by decide +kernel)
theorem wm_L_77 : Cond.methodLink RL 77 yX10_ticks ∈ TB := tb_at 590 (by decide +kernel) (by decide +kernel)
theorem wm_L_81 : Cond.methodLink RL 81 yX10_hit ∈ TB := tb_at 594 (by decide +kernel) (by decide +kernel)
theorem wm_L_85 : Cond.methodLink RL 85 yX10_choose ∈ TB := tb_at 598 (by decide +kernel) (by decide +kernel)
theorem wm_X10_210 : Cond.methodLink RX10 210 yX10_isSetOf ∈ TB := tb_at 602 (by decide +kernel) (by decide +kernel)
theorem wm_X10_214 : Cond.methodLink RX10 214 yX10_bagBits ∈ TB := tb_at 605 (by decide +kernel) (by decide +kernel)
theorem wm_X10_218 : Cond.methodLink RX10 218 yX10_bestOfStick ∈ TB := tb_at 609 (by decide +kernel) (by decide +kernel)
theorem wm_X10_393 : Cond.methodLink RX10 393 yX10_backsIn ∈ TB := tb_at 617 (by decide +kernel) (by decide +kernel)
theorem wm_X10_254 : Cond.methodLink RX10 254 yJ6_bitCount_0f7a4 ∈ TB := tb_at 621 (by decide +kernel) (by decide +kernel)
theorem wm_X10_225 : Cond.methodLink RX10 225 yX10_comesBack ∈ TB := tb_at 627 (by decide +kernel) (by decide +kernel)
theorem wm_X10_396 : Cond.methodLink RX10 396 yX10_rememberChoice ∈ TB := tb_at 631 (by decide +kernel) (by decide +kernel)
theorem wm_L_89 : Cond.methodLink RL 89 yX10_chosen ∈ TB := tb_at 635 (by decide +kernel) (by decide +kernel)
theorem wm_L_93 : Cond.methodLink RL 93 yX10_keep ∈ TB := tb_at 639 (by decide +kernel) (by decide +kernel)
theorem wm_L_98 : Cond.methodLink RL 98 yX10_two ∈ TB := tb_at 643 (by decide +kernel) (by decide +kernel)
theorem wm_X10_229 : Cond.methodLink RX10 229 yJ9_abs_0f7a4 ∈ TB := tb_at 647 (by decide +kernel) (by decide +kernel)
theorem wm_L_102 : Cond.methodLink RL 102 yX10_match ∈ TB := tb_at 650 (by decide +kernel) (by decide +kernel)
theorem wm_L_106 : Cond.methodLink RL 106 yX10_style ∈ TB := tb_at 654 (by decide +kernel) (by decide +kernel)
theorem wm_L_110 : Cond.methodLink RL 110 yX10_points ∈ TB := tb_at 658 (by decide +kernel) (by decide +kernel)
theorem wm_X10_248 : Cond.methodLink RX10 248 yX10_pointsOf ∈ TB := tb_at 662 (by decide +kernel) (by decide +kernel)
theorem wm_X10_408 : Cond.methodLink RX10 408 yX1_distance ∈ TB := tb_at 666 (by decide +kernel) (by decide +kernel)
theorem wm_X10_411 : Cond.methodLink RX10 411 yJ9_max_7cf53 ∈ TB := tb_at 671 (by decide +kernel) (by decide +kernel)
theorem wm_L_114 : Cond.methodLink RL 114 yX10_best ∈ TB := tb_at 672 (by decide +kernel) (by decide +kernel)
theorem wm_X10_251 : Cond.methodLink RX10 251 yX3_throwCount ∈ TB := tb_at 676 (by decide +kernel) (by decide +kernel)
theorem wm_X10_259 : Cond.methodLink RX10 259 yX10_playMatch ∈ TB := tb_at 680 (by decide +kernel) (by decide +kernel)
theorem wm_X10_414 : Cond.methodLink RX10 414 yX10_fillPoints ∈ TB := tb_at 684 (by decide +kernel) (by decide +kernel)
theorem wm_X10_417 : Cond.methodLink RX10 417 yX3_findBest ∈ TB := tb_at 688 (by decide +kernel) (by decide +kernel)
theorem wm_X3_47 : Cond.methodLink RX3 47 yX3_tryThrow ∈ TB := tb_at 692 (by decide +kernel) (by decide +kernel)
theorem wm_L_118 : Cond.methodLink RL 118 yX10_order ∈ TB := tb_at 699 (by decide +kernel) (by decide +kernel)
theorem wm_L_122 : Cond.methodLink RL 122 yX10_row ∈ TB := tb_at 703 (by decide +kernel) (by decide +kernel)
theorem wm_X10_268 : Cond.methodLink RX10 268 yX10_isRow ∈ TB := tb_at 707 (by decide +kernel) (by decide +kernel)
theorem wm_X10_272 : Cond.methodLink RX10 272 yX10_addRow ∈ TB := tb_at 711 (by decide +kernel) (by decide +kernel)
theorem wm_L_126 : Cond.methodLink RL 126 yX10_miss ∈ TB := tb_at 715 (by decide +kernel) (by decide +kernel)
theorem wm_X10_276 : Cond.methodLink RX10 276 yX10_missOf ∈ TB := tb_at 719 (by decide +kernel) (by decide +kernel)
theorem wm_X10_429 : Cond.methodLink RX10 429 yJ9_min_7cf53 ∈ TB := tb_at 723 (by decide +kernel) (by decide +kernel)
theorem wm_L_130 : Cond.methodLink RL 130 yX10_explain ∈ TB := tb_at 724 (by decide +kernel) (by decide +kernel)
theorem wm_X10_280 : Cond.methodLink RX10 280 yX10_rowsOf ∈ TB := tb_at 728 (by decide +kernel) (by decide +kernel)
theorem wm_X10_283 : Cond.methodLink RX10 283 yX10_explainedBend ∈ TB := tb_at 732 (by decide +kernel) (by decide +kernel)
theorem wm_X10_286 : Cond.methodLink RX10 286 yX10_missSum ∈ TB := tb_at 736 (by decide +kernel) (by decide +kernel)
theorem wm_L_134 : Cond.methodLink RL 134 yX10_sure ∈ TB := tb_at 740 (by decide +kernel) (by decide +kernel)
theorem wm_L_138 : Cond.methodLink RL 138 yX10_unrow ∈ TB := tb_at 744 (by decide +kernel) (by decide +kernel)
theorem wm_L_142 : Cond.methodLink RL 142 yX10_rows ∈ TB := tb_at 748 (by decide +kernel) (by decide +kernel)
theorem wm_X10_289 : Cond.methodLink RX10 289 yX10_faultOf ∈ TB := tb_at 752 (by decide +kernel) (by decide +kernel)
theorem wm_X10_335 : Cond.methodLink RX10 335 yX10_isSheet ∈ TB := tb_at 756 (by decide +kernel) (by decide +kernel)
theorem wm_X10_338 : Cond.methodLink RX10 338 yX10_isLane ∈ TB := tb_at 759 (by decide +kernel) (by decide +kernel)
theorem wm_X10_345 : Cond.methodLink RX10 345 yX6_isEmptyHanded ∈ TB := tb_at 762 (by decide +kernel) (by decide +kernel)
theorem wm_X10_292 : Cond.methodLink RX10 292 yX6_has ∈ TB := tb_at 766 (by decide +kernel) (by decide +kernel)
theorem wm_X10_298 : Cond.methodLink RX10 298 yX10_holdsRow ∈ TB := tb_at 770 (by decide +kernel) (by decide +kernel)
theorem wm_X10_302 : Cond.methodLink RX10 302 yX10_addRowFrom ∈ TB := tb_at 774 (by decide +kernel) (by decide +kernel)
theorem wm_L_146 : Cond.methodLink RL 146 yX10_seen ∈ TB := tb_at 778 (by decide +kernel) (by decide +kernel)
theorem wm_X10_308 : Cond.methodLink RX10 308 yX2_lineOf ∈ TB := tb_at 782 (by decide +kernel) (by decide +kernel)
theorem wm_X2_24 : Cond.methodLink RX2 24 yJ9_floorDiv_7cf53 ∈ TB := tb_at 785 (by decide +kernel) (by decide +kernel)
theorem wm_X2_30 : Cond.methodLink RX2 30 yJ9_min_7cf53 ∈ TB := tb_at 788 (by decide +kernel) (by decide +kernel)
theorem wm_X2_33 : Cond.methodLink RX2 33 yJ9_max_7cf53 ∈ TB := tb_at 789 (by decide +kernel) (by decide +kernel)
theorem wm_X10_314 : Cond.methodLink RX10 314 yX2_spreadFrom ∈ TB := tb_at 790 (by decide +kernel) (by decide +kernel)
theorem wm_X2_36 : Cond.methodLink RX2 36 yJ9_abs_0f7a4 ∈ TB := tb_at 794 (by decide +kernel) (by decide +kernel)
theorem wm_L_150 : Cond.methodLink RL 150 yX10_patch ∈ TB := tb_at 795 (by decide +kernel) (by decide +kernel)
theorem wm_X10_317 : Cond.methodLink RX10 317 yX10_isPatch ∈ TB := tb_at 799 (by decide +kernel) (by decide +kernel)
theorem wm_L_154 : Cond.methodLink RL 154 yX10_grass ∈ TB := tb_at 802 (by decide +kernel) (by decide +kernel)
theorem wm_L_158 : Cond.methodLink RL 158 yX10_next ∈ TB := tb_at 806 (by decide +kernel) (by decide +kernel)
theorem wm_X10_326 : Cond.methodLink RX10 326 yX2_likeliest ∈ TB := tb_at 810 (by decide +kernel) (by decide +kernel)
theorem wm_L_162 : Cond.methodLink RL 162 yX10_search ∈ TB := tb_at 814 (by decide +kernel) (by decide +kernel)
theorem wm_X10_329 : Cond.methodLink RX10 329 yX2_lighten ∈ TB := tb_at 818 (by decide +kernel) (by decide +kernel)
theorem wm_L_166 : Cond.methodLink RL 166 yX10_count ∈ TB := tb_at 822 (by decide +kernel) (by decide +kernel)
theorem wm_L_170 : Cond.methodLink RL 170 yX10_sheet ∈ TB := tb_at 826 (by decide +kernel) (by decide +kernel)
theorem wm_X10_341 : Cond.methodLink RX10 341 yX6_hold ∈ TB := tb_at 830 (by decide +kernel) (by decide +kernel)
theorem wm_X6_20 : Cond.methodLink RX6 20 yJ7_fill_53178 ∈ TB := tb_at 834 (by decide +kernel) (by decide +kernel)
theorem wm_L_174 : Cond.methodLink RL 174 yX10_drop ∈ TB := tb_at 835 (by decide +kernel) (by decide +kernel)
theorem wm_L_178 : Cond.methodLink RL 178 yX10_item ∈ TB := tb_at 839 (by decide +kernel) (by decide +kernel)
theorem wm_X10_351 : Cond.methodLink RX10 351 yX6_put ∈ TB := tb_at 843 (by decide +kernel) (by decide +kernel)
theorem wm_L_182 : Cond.methodLink RL 182 yX10_copy ∈ TB := tb_at 847 (by decide +kernel) (by decide +kernel)
theorem wm_L_12 : Cond.methodLink RL 12 yX11_init ∈ TB := tb_at 854 (by decide +kernel) (by decide +kernel)
theorem wm_L_67 : Cond.methodLink RL 67 yX11_table ∈ TB := tb_at 1009 (by decide +kernel) (by decide +kernel)
theorem wm_X11_127 : Cond.methodLink RX11 127 yX11_in ∈ TB := tb_at 1013 (by decide +kernel) (by decide +kernel)
theorem wm_X11_123 : Cond.methodLink RX11 123 yX11_sine ∈ TB := tb_at 1017 (by decide +kernel) (by decide +kernel)
theorem wm_X11_133 : Cond.methodLink RX11 133 yX11_cosine ∈ TB := tb_at 1021 (by decide +kernel) (by decide +kernel)
theorem wm_L_17 : Cond.methodLink RL 17 yX11_plain ∈ TB := tb_at 1025 (by decide +kernel) (by decide +kernel)
theorem wm_X11_147 : Cond.methodLink RX11 147 yX11_comes ∈ TB := tb_at 1029 (by decide +kernel) (by decide +kernel)
theorem wm_L_22 : Cond.methodLink RL 22 yX11_winged ∈ TB := tb_at 1037 (by decide +kernel) (by decide +kernel)
theorem wm_L_27 : Cond.methodLink RL 27 yX11_lift ∈ TB := tb_at 1042 (by decide +kernel) (by decide +kernel)
theorem wm_X11_153 : Cond.methodLink RX11 153 yX11_isStick ∈ TB := tb_at 1046 (by decide +kernel) (by decide +kernel)
theorem wm_L_32 : Cond.methodLink RL 32 yX11_bend ∈ TB := tb_at 1052 (by decide +kernel) (by decide +kernel)
theorem wm_L_36 : Cond.methodLink RL 36 yX11_told ∈ TB := tb_at 1058 (by decide +kernel) (by decide +kernel)
theorem wm_L_41 : Cond.methodLink RL 41 yX11_lose ∈ TB := tb_at 1062 (by decide +kernel) (by decide +kernel)
theorem wm_L_46 : Cond.methodLink RL 46 yX11_wind ∈ TB := tb_at 1066 (by decide +kernel) (by decide +kernel)
theorem wm_L_50 : Cond.methodLink RL 50 yX11_blows ∈ TB := tb_at 1070 (by decide +kernel) (by decide +kernel)
theorem wm_L_54 : Cond.methodLink RL 54 yX11_swing ∈ TB := tb_at 1074 (by decide +kernel) (by decide +kernel)
theorem wm_L_58 : Cond.methodLink RL 58 yX11_tree ∈ TB := tb_at 1079 (by decide +kernel) (by decide +kernel)
theorem wm_L_63 : Cond.methodLink RL 63 yX11_ring ∈ TB := tb_at 1087 (by decide +kernel) (by decide +kernel)
theorem wm_L_72 : Cond.methodLink RL 72 yX11_fly ∈ TB := tb_at 1092 (by decide +kernel) (by decide +kernel)
theorem wm_X11_229 : Cond.methodLink RX11 229 yX11_isThrow ∈ TB := tb_at 1096 (by decide +kernel) (by decide +kernel)
theorem wm_X11_233 : Cond.methodLink RX11 233 yX11_isWind ∈ TB := tb_at 1104 (by decide +kernel) (by decide +kernel)
theorem wm_X11_236 : Cond.methodLink RX11 236 yX11_flies ∈ TB := tb_at 1109 (by decide +kernel) (by decide +kernel)
theorem wm_X11_212 : Cond.methodLink RX11 212 yX11_keepsTick ∈ TB := tb_at 1113 (by decide +kernel) (by decide +kernel)
theorem wm_X11_215 : Cond.methodLink RX11 215 yX11_steps ∈ TB := tb_at 1117 (by decide +kernel) (by decide +kernel)
theorem wm_X11_192 : Cond.methodLink RX11 192 yX11_liftOf ∈ TB := tb_at 1121 (by decide +kernel) (by decide +kernel)
theorem wm_X11_195 : Cond.methodLink RX11 195 yX11_held ∈ TB := tb_at 1125 (by decide +kernel) (by decide +kernel)
theorem wm_X11_219 : Cond.methodLink RX11 219 yX11_ending ∈ TB := tb_at 1130 (by decide +kernel) (by decide +kernel)
theorem wm_X11_201 : Cond.methodLink RX11 201 yX11_isNear ∈ TB := tb_at 1134 (by decide +kernel) (by decide +kernel)
theorem wm_L_76 : Cond.methodLink RL 76 yX11_at ∈ TB := tb_at 1139 (by decide +kernel) (by decide +kernel)
theorem wm_L_80 : Cond.methodLink RL 80 yX11_ticks ∈ TB := tb_at 1145 (by decide +kernel) (by decide +kernel)
theorem wm_L_84 : Cond.methodLink RL 84 yX11_hit ∈ TB := tb_at 1149 (by decide +kernel) (by decide +kernel)
theorem wm_L_88 : Cond.methodLink RL 88 yX11_choose ∈ TB := tb_at 1153 (by decide +kernel) (by decide +kernel)
theorem wm_X11_249 : Cond.methodLink RX11 249 yX11_backs ∈ TB := tb_at 1157 (by decide +kernel) (by decide +kernel)
theorem wm_L_92 : Cond.methodLink RL 92 yX11_chosen ∈ TB := tb_at 1161 (by decide +kernel) (by decide +kernel)
theorem wm_L_97 : Cond.methodLink RL 97 yX11_keep ∈ TB := tb_at 1165 (by decide +kernel) (by decide +kernel)
theorem wm_L_101 : Cond.methodLink RL 101 yX11_two ∈ TB := tb_at 1169 (by decide +kernel) (by decide +kernel)
theorem wm_X11_255 : Cond.methodLink RX11 255 yX11_caught ∈ TB := tb_at 1173 (by decide +kernel) (by decide +kernel)
theorem wm_L_105 : Cond.methodLink RL 105 yX11_match ∈ TB := tb_at 1177 (by decide +kernel) (by decide +kernel)
theorem wm_L_109 : Cond.methodLink RL 109 yX11_style ∈ TB := tb_at 1183 (by decide +kernel) (by decide +kernel)
theorem wm_L_113 : Cond.methodLink RL 113 yX11_points ∈ TB := tb_at 1187 (by decide +kernel) (by decide +kernel)
theorem wm_X11_273 : Cond.methodLink RX11 273 yX11_pointsOf ∈ TB := tb_at 1191 (by decide +kernel) (by decide +kernel)
theorem wm_X11_269 : Cond.methodLink RX11 269 yX11_root ∈ TB := tb_at 1195 (by decide +kernel) (by decide +kernel)
theorem wm_L_117 : Cond.methodLink RL 117 yX11_best ∈ TB := tb_at 1200 (by decide +kernel) (by decide +kernel)
theorem wm_X11_293 : Cond.methodLink RX11 293 yX11_orders ∈ TB := tb_at 1204 (by decide +kernel) (by decide +kernel)
theorem wm_X11_283 : Cond.methodLink RX11 283 yX11_inBag ∈ TB := tb_at 1208 (by decide +kernel) (by decide +kernel)
theorem wm_X11_286 : Cond.methodLink RX11 286 yX11_isFree ∈ TB := tb_at 1212 (by decide +kernel) (by decide +kernel)
theorem wm_X11_290 : Cond.methodLink RX11 290 yX11_compares ∈ TB := tb_at 1216 (by decide +kernel) (by decide +kernel)
theorem wm_L_121 : Cond.methodLink RL 121 yX11_order ∈ TB := tb_at 1220 (by decide +kernel) (by decide +kernel)
theorem wm_L_125 : Cond.methodLink RL 125 yX11_row ∈ TB := tb_at 1224 (by decide +kernel) (by decide +kernel)
theorem wm_X11_303 : Cond.methodLink RX11 303 yX11_isRow ∈ TB := tb_at 1228 (by decide +kernel) (by decide +kernel)
theorem wm_X11_307 : Cond.methodLink RX11 307 yX11_put ∈ TB := tb_at 1234 (by decide +kernel) (by decide +kernel)
theorem wm_L_129 : Cond.methodLink RL 129 yX11_miss ∈ TB := tb_at 1238 (by decide +kernel) (by decide +kernel)
theorem wm_X11_314 : Cond.methodLink RX11 314 yX11_missOf ∈ TB := tb_at 1242 (by decide +kernel) (by decide +kernel)
theorem wm_X11_311 : Cond.methodLink RX11 311 yX11_size ∈ TB := tb_at 1246 (by decide +kernel) (by decide +kernel)
theorem wm_L_133 : Cond.methodLink RL 133 yX11_explain ∈ TB := tb_at 1249 (by decide +kernel) (by decide +kernel)
theorem wm_X11_320 : Cond.methodLink RX11 320 yX11_rowsOf ∈ TB := tb_at 1253 (by decide +kernel) (by decide +kernel)
theorem wm_X11_323 : Cond.methodLink RX11 323 yX11_explained ∈ TB := tb_at 1257 (by decide +kernel) (by decide +kernel)
theorem wm_X11_317 : Cond.methodLink RX11 317 yX11_missAll ∈ TB := tb_at 1261 (by decide +kernel) (by decide +kernel)
theorem wm_L_137 : Cond.methodLink RL 137 yX11_sure ∈ TB := tb_at 1265 (by decide +kernel) (by decide +kernel)
theorem wm_L_141 : Cond.methodLink RL 141 yX11_unrow ∈ TB := tb_at 1269 (by decide +kernel) (by decide +kernel)
theorem wm_L_149 : Cond.methodLink RL 149 yX11_seen ∈ TB := tb_at 1273 (by decide +kernel) (by decide +kernel)
theorem wm_X11_326 : Cond.methodLink RX11 326 yX11_column ∈ TB := tb_at 1277 (by decide +kernel) (by decide +kernel)
theorem wm_L_153 : Cond.methodLink RL 153 yX11_patch ∈ TB := tb_at 1280 (by decide +kernel) (by decide +kernel)
theorem wm_X11_331 : Cond.methodLink RX11 331 yX11_isPatch ∈ TB := tb_at 1284 (by decide +kernel) (by decide +kernel)
theorem wm_L_157 : Cond.methodLink RL 157 yX11_grass ∈ TB := tb_at 1288 (by decide +kernel) (by decide +kernel)
theorem wm_L_161 : Cond.methodLink RL 161 yX11_next ∈ TB := tb_at 1292 (by decide +kernel) (by decide +kernel)
theorem wm_L_165 : Cond.methodLink RL 165 yX11_search ∈ TB := tb_at 1296 (by decide +kernel) (by decide +kernel)
theorem wm_L_169 : Cond.methodLink RL 169 yX11_count ∈ TB := tb_at 1300 (by decide +kernel) (by decide +kernel)
theorem wm_L_173 : Cond.methodLink RL 173 yX11_sheet ∈ TB := tb_at 1304 (by decide +kernel) (by decide +kernel)
theorem wm_X11_334 : Cond.methodLink RX11 334 yX11_isSheet ∈ TB := tb_at 1308 (by decide +kernel) (by decide +kernel)
theorem wm_X11_337 : Cond.methodLink RX11 337 yX11_isLane ∈ TB := tb_at 1311 (by decide +kernel) (by decide +kernel)
theorem wm_L_177 : Cond.methodLink RL 177 yX11_drop ∈ TB := tb_at 1314 (by decide +kernel) (by decide +kernel)
theorem wm_L_181 : Cond.methodLink RL 181 yX11_item ∈ TB := tb_at 1318 (by decide +kernel) (by decide +kernel)
theorem wm_X11_340 : Cond.methodLink RX11 340 yX11_finds ∈ TB := tb_at 1322 (by decide +kernel) (by decide +kernel)
theorem wm_L_145 : Cond.methodLink RL 145 yX11_rows ∈ TB := tb_at 1326 (by decide +kernel) (by decide +kernel)
theorem wm_L_185 : Cond.methodLink RL 185 yX11_copy ∈ TB := tb_at 1331 (by decide +kernel) (by decide +kernel)
theorem ca_X10_sineWave : CaS yX10_sineWave cX10_sineWave 2 (some (.array .int)) 0 := ⟨tb_at 78 (by decide +kernel) (by decide +kernel), tb_at 52 (by decide +kernel) (by decide +kernel), tb_at 77 (by decide +kernel) (by decide +kernel), by decide +kernel⟩
theorem ca_J7_fill_53178 : CaS yJ7_fill_53178 cJ7_fill_53178 4 none 2 := ⟨tb_at 245 (by decide +kernel) (by decide +kernel), tb_at 59 (by decide +kernel) (by decide +kernel), tb_at 244 (by decide +kernel) (by decide +kernel), by decide +kernel⟩
theorem ca_X0_take : CaV yX0_take cX0_take 7 none RX0 6 := ⟨tb_at 249 (by decide +kernel) (by decide +kernel), tb_at 57 (by decide +kernel) (by decide +kernel), tb_at 247 (by decide +kernel) (by decide +kernel), tb_at 248 (by decide +kernel) (by decide +kernel), by decide +kernel⟩
theorem ca_X10_plain : CaV yX10_plain cX10_plain 5 (some .int) RX10 4 := ⟨tb_at 434 (by decide +kernel) (by decide +kernel), tb_at 52 (by decide +kernel) (by decide +kernel), tb_at 432 (by decide +kernel) (by decide +kernel), tb_at 433 (by decide +kernel) (by decide +kernel), by decide +kernel⟩
theorem ca_X10_newStick : CaV yX10_newStick cX10_newStick 7 (some .int) RX10 5 := ⟨tb_at 438 (by decide +kernel) (by decide +kernel), tb_at 52 (by decide +kernel) (by decide +kernel), tb_at 437 (by decide +kernel) (by decide +kernel), tb_at 0 (by decide +kernel) (by decide +kernel), by decide +kernel⟩
theorem ca_X10_within : CaS yX10_within cX10_within 3 (some .boolean) 3 := ⟨tb_at 441 (by decide +kernel) (by decide +kernel), tb_at 52 (by decide +kernel) (by decide +kernel), tb_at 440 (by decide +kernel) (by decide +kernel), by decide +kernel⟩
theorem ca_X7_make : CaV yX7_make cX7_make 6 none RX7 5 := ⟨tb_at 445 (by decide +kernel) (by decide +kernel), tb_at 61 (by decide +kernel) (by decide +kernel), tb_at 443 (by decide +kernel) (by decide +kernel), tb_at 444 (by decide +kernel) (by decide +kernel), by decide +kernel⟩
theorem ca_X10_winged : CaV yX10_winged cX10_winged 6 (some .int) RX10 5 := ⟨tb_at 449 (by decide +kernel) (by decide +kernel), tb_at 52 (by decide +kernel) (by decide +kernel), tb_at 447 (by decide +kernel) (by decide +kernel), tb_at 448 (by decide +kernel) (by decide +kernel), by decide +kernel⟩
theorem ca_X10_lift : CaV yX10_lift cX10_lift 5 (some .int) RX10 3 := ⟨tb_at 453 (by decide +kernel) (by decide +kernel), tb_at 52 (by decide +kernel) (by decide +kernel), tb_at 451 (by decide +kernel) (by decide +kernel), tb_at 452 (by decide +kernel) (by decide +kernel), by decide +kernel⟩
theorem ca_X10_isStick : CaV yX10_isStick cX10_isStick 2 (some .boolean) RX10 1 := ⟨tb_at 457 (by decide +kernel) (by decide +kernel), tb_at 52 (by decide +kernel) (by decide +kernel), tb_at 456 (by decide +kernel) (by decide +kernel), tb_at 1 (by decide +kernel) (by decide +kernel), by decide +kernel⟩
theorem ca_X10_bend : CaV yX10_bend cX10_bend 4 (some .int) RX10 2 := ⟨tb_at 461 (by decide +kernel) (by decide +kernel), tb_at 52 (by decide +kernel) (by decide +kernel), tb_at 459 (by decide +kernel) (by decide +kernel), tb_at 460 (by decide +kernel) (by decide +kernel), by decide +kernel⟩
theorem ca_X10_isBend : CaS yX10_isBend cX10_isBend 1 (some .boolean) 1 := ⟨tb_at 464 (by decide +kernel) (by decide +kernel), tb_at 52 (by decide +kernel) (by decide +kernel), tb_at 463 (by decide +kernel) (by decide +kernel), by decide +kernel⟩
theorem ca_X10_told : CaV yX10_told cX10_told 4 (some .int) RX10 2 := ⟨tb_at 468 (by decide +kernel) (by decide +kernel), tb_at 52 (by decide +kernel) (by decide +kernel), tb_at 466 (by decide +kernel) (by decide +kernel), tb_at 467 (by decide +kernel) (by decide +kernel), by decide +kernel⟩
theorem ca_X7_isWinged : CaV yX7_isWinged cX7_isWinged 1 (some .boolean) RX7 0 := ⟨tb_at 472 (by decide +kernel) (by decide +kernel), tb_at 61 (by decide +kernel) (by decide +kernel), tb_at 470 (by decide +kernel) (by decide +kernel), tb_at 471 (by decide +kernel) (by decide +kernel), by decide +kernel⟩
theorem ca_X10_lose : CaV yX10_lose cX10_lose 4 (some .int) RX10 2 := ⟨tb_at 476 (by decide +kernel) (by decide +kernel), tb_at 52 (by decide +kernel) (by decide +kernel), tb_at 474 (by decide +kernel) (by decide +kernel), tb_at 475 (by decide +kernel) (by decide +kernel), by decide +kernel⟩
theorem ca_X10_wind : CaV yX10_wind cX10_wind 1 (some .int) RX10 0 := ⟨tb_at 480 (by decide +kernel) (by decide +kernel), tb_at 52 (by decide +kernel) (by decide +kernel), tb_at 478 (by decide +kernel) (by decide +kernel), tb_at 479 (by decide +kernel) (by decide +kernel), by decide +kernel⟩
theorem ca_X10_blows : CaV yX10_blows cX10_blows 7 (some .int) RX10 4 := ⟨tb_at 484 (by decide +kernel) (by decide +kernel), tb_at 52 (by decide +kernel) (by decide +kernel), tb_at 482 (by decide +kernel) (by decide +kernel), tb_at 483 (by decide +kernel) (by decide +kernel), by decide +kernel⟩
theorem ca_X10_isWind : CaV yX10_isWind cX10_isWind 2 (some .boolean) RX10 1 := ⟨tb_at 488 (by decide +kernel) (by decide +kernel), tb_at 52 (by decide +kernel) (by decide +kernel), tb_at 487 (by decide +kernel) (by decide +kernel), tb_at 2 (by decide +kernel) (by decide +kernel), by decide +kernel⟩
theorem ca_X10_isDirection : CaS yX10_isDirection cX10_isDirection 1 (some .boolean) 1 := ⟨tb_at 491 (by decide +kernel) (by decide +kernel), tb_at 52 (by decide +kernel) (by decide +kernel), tb_at 490 (by decide +kernel) (by decide +kernel), by decide +kernel⟩
theorem ca_X10_swing : CaV yX10_swing cX10_swing 3 (some .int) RX10 2 := ⟨tb_at 495 (by decide +kernel) (by decide +kernel), tb_at 52 (by decide +kernel) (by decide +kernel), tb_at 493 (by decide +kernel) (by decide +kernel), tb_at 494 (by decide +kernel) (by decide +kernel), by decide +kernel⟩
theorem ca_X9_turnBy : CaV yX9_turnBy cX9_turnBy 3 none RX9 1 := ⟨tb_at 499 (by decide +kernel) (by decide +kernel), tb_at 53 (by decide +kernel) (by decide +kernel), tb_at 497 (by decide +kernel) (by decide +kernel), tb_at 498 (by decide +kernel) (by decide +kernel), by decide +kernel⟩
theorem ca_J9_floorMod_7cf53 : CaS yJ9_floorMod_7cf53 cJ9_floorMod_7cf53 3 (some .int) 2 := ⟨tb_at 502 (by decide +kernel) (by decide +kernel), tb_at 65 (by decide +kernel) (by decide +kernel), tb_at 501 (by decide +kernel) (by decide +kernel), by decide +kernel⟩
theorem ca_X10_tree : CaV yX10_tree cX10_tree 6 (some .int) RX10 4 := ⟨tb_at 506 (by decide +kernel) (by decide +kernel), tb_at 52 (by decide +kernel) (by decide +kernel), tb_at 504 (by decide +kernel) (by decide +kernel), tb_at 505 (by decide +kernel) (by decide +kernel), by decide +kernel⟩
theorem ca_X4_plant : CaV yX4_plant cX4_plant 6 (some .int) RX4 4 := ⟨tb_at 510 (by decide +kernel) (by decide +kernel), tb_at 54 (by decide +kernel) (by decide +kernel), tb_at 508 (by decide +kernel) (by decide +kernel), tb_at 509 (by decide +kernel) (by decide +kernel), by decide +kernel⟩
theorem ca_X10_ring : CaV yX10_ring cX10_ring 3 (some .int) RX10 1 := ⟨tb_at 514 (by decide +kernel) (by decide +kernel), tb_at 52 (by decide +kernel) (by decide +kernel), tb_at 512 (by decide +kernel) (by decide +kernel), tb_at 513 (by decide +kernel) (by decide +kernel), by decide +kernel⟩
theorem ca_X10_table : CaV yX10_table cX10_table 3 (some .int) RX10 2 := ⟨tb_at 518 (by decide +kernel) (by decide +kernel), tb_at 52 (by decide +kernel) (by decide +kernel), tb_at 516 (by decide +kernel) (by decide +kernel), tb_at 517 (by decide +kernel) (by decide +kernel), by decide +kernel⟩
theorem ca_X10_fly : CaV yX10_fly cX10_fly 7 (some .int) RX10 6 := ⟨tb_at 522 (by decide +kernel) (by decide +kernel), tb_at 52 (by decide +kernel) (by decide +kernel), tb_at 520 (by decide +kernel) (by decide +kernel), tb_at 521 (by decide +kernel) (by decide +kernel), by decide +kernel⟩
theorem ca_X10_isThrow : CaV yX10_isThrow cX10_isThrow 7 (some .boolean) RX10 6 := ⟨tb_at 526 (by decide +kernel) (by decide +kernel), tb_at 52 (by decide +kernel) (by decide +kernel), tb_at 525 (by decide +kernel) (by decide +kernel), tb_at 3 (by decide +kernel) (by decide +kernel), by decide +kernel⟩
theorem ca_X10_isStyle : CaS yX10_isStyle cX10_isStyle 4 (some .boolean) 4 := ⟨tb_at 529 (by decide +kernel) (by decide +kernel), tb_at 52 (by decide +kernel) (by decide +kernel), tb_at 528 (by decide +kernel) (by decide +kernel), by decide +kernel⟩
theorem ca_X10_isWindOrNone : CaV yX10_isWindOrNone cX10_isWindOrNone 2 (some .boolean) RX10 1 := ⟨tb_at 533 (by decide +kernel) (by decide +kernel), tb_at 52 (by decide +kernel) (by decide +kernel), tb_at 532 (by decide +kernel) (by decide +kernel), tb_at 4 (by decide +kernel) (by decide +kernel), by decide +kernel⟩
theorem ca_X10_endOf : CaV yX10_endOf cX10_endOf 7 (some .int) RX10 3 := ⟨tb_at 538 (by decide +kernel) (by decide +kernel), tb_at 52 (by decide +kernel) (by decide +kernel), tb_at 537 (by decide +kernel) (by decide +kernel), tb_at 5 (by decide +kernel) (by decide +kernel), by decide +kernel⟩
theorem ca_X1_begin : CaV yX1_begin cX1_begin 2 none RX1 1 := ⟨tb_at 542 (by decide +kernel) (by decide +kernel), tb_at 56 (by decide +kernel) (by decide +kernel), tb_at 540 (by decide +kernel) (by decide +kernel), tb_at 541 (by decide +kernel) (by decide +kernel), by decide +kernel⟩
theorem ca_X1_note : CaV yX1_note cX1_note 2 none RX1 0 := ⟨tb_at 546 (by decide +kernel) (by decide +kernel), tb_at 56 (by decide +kernel) (by decide +kernel), tb_at 544 (by decide +kernel) (by decide +kernel), tb_at 545 (by decide +kernel) (by decide +kernel), by decide +kernel⟩
theorem ca_X1_step : CaV yX1_step cX1_step 6 none RX1 3 := ⟨tb_at 550 (by decide +kernel) (by decide +kernel), tb_at 56 (by decide +kernel) (by decide +kernel), tb_at 548 (by decide +kernel) (by decide +kernel), tb_at 549 (by decide +kernel) (by decide +kernel), by decide +kernel⟩
theorem ca_X7_liftAt : CaV yX7_liftAt cX7_liftAt 5 (some .int) RX7 2 := ⟨tb_at 554 (by decide +kernel) (by decide +kernel), tb_at 61 (by decide +kernel) (by decide +kernel), tb_at 552 (by decide +kernel) (by decide +kernel), tb_at 553 (by decide +kernel) (by decide +kernel), by decide +kernel⟩
theorem ca_J9_min_7cf53 : CaS yJ9_min_7cf53 cJ9_min_7cf53 2 (some .int) 2 := ⟨tb_at 557 (by decide +kernel) (by decide +kernel), tb_at 65 (by decide +kernel) (by decide +kernel), tb_at 556 (by decide +kernel) (by decide +kernel), by decide +kernel⟩
theorem ca_J9_max_7cf53 : CaS yJ9_max_7cf53 cJ9_max_7cf53 2 (some .int) 2 := ⟨tb_at 560 (by decide +kernel) (by decide +kernel), tb_at 65 (by decide +kernel) (by decide +kernel), tb_at 559 (by decide +kernel) (by decide +kernel), by decide +kernel⟩
theorem ca_X9_bandAt : CaS yX9_bandAt cX9_bandAt 1 (some .int) 1 := ⟨tb_at 566 (by decide +kernel) (by decide +kernel), tb_at 53 (by decide +kernel) (by decide +kernel), tb_at 565 (by decide +kernel) (by decide +kernel), by decide +kernel⟩
theorem ca_X1_endIn : CaV yX1_endIn cX1_endIn 4 none RX1 1 := ⟨tb_at 570 (by decide +kernel) (by decide +kernel), tb_at 56 (by decide +kernel) (by decide +kernel), tb_at 568 (by decide +kernel) (by decide +kernel), tb_at 569 (by decide +kernel) (by decide +kernel), by decide +kernel⟩
theorem ca_X1_isNear : CaV yX1_isNear cX1_isNear 9 (some .boolean) RX1 3 := ⟨tb_at 574 (by decide +kernel) (by decide +kernel), tb_at 56 (by decide +kernel) (by decide +kernel), tb_at 572 (by decide +kernel) (by decide +kernel), tb_at 573 (by decide +kernel) (by decide +kernel), by decide +kernel⟩
theorem ca_X10_at : CaV yX10_at cX10_at 3 (some .int) RX10 2 := ⟨tb_at 580 (by decide +kernel) (by decide +kernel), tb_at 52 (by decide +kernel) (by decide +kernel), tb_at 578 (by decide +kernel) (by decide +kernel), tb_at 579 (by decide +kernel) (by decide +kernel), by decide +kernel⟩
theorem ca_X10_wasInLatest : CaV yX10_wasInLatest cX10_wasInLatest 2 (some .boolean) RX10 1 := ⟨tb_at 584 (by decide +kernel) (by decide +kernel), tb_at 52 (by decide +kernel) (by decide +kernel), tb_at 583 (by decide +kernel) (by decide +kernel), tb_at 6 (by decide +kernel) (by decide +kernel), by decide +kernel⟩
theorem ca_X1_partAt : CaV yX1_partAt cX1_partAt 3 (some .int) RX1 2 := ⟨tb_at 589 (by decide +kernel) (by decide +kernel), tb_at 56 (by decide +kernel) (by decide +kernel), tb_at 587 (by decide +kernel) (by decide +kernel), tb_at 588 (by decide +kernel) (by decide +kernel), by decide +kernel⟩
theorem ca_X10_ticks : CaV yX10_ticks cX10_ticks 1 (some .int) RX10 0 := ⟨tb_at 593 (by decide +kernel) (by decide +kernel), tb_at 52 (by decide +kernel) (by decide +kernel), tb_at 591 (by decide +kernel) (by decide +kernel), tb_at 592 (by decide +kernel) (by decide +kernel), by decide +kernel⟩
theorem ca_X10_hit : CaV yX10_hit cX10_hit 1 (some .int) RX10 0 := ⟨tb_at 597 (by decide +kernel) (by decide +kernel), tb_at 52 (by decide +kernel) (by decide +kernel), tb_at 595 (by decide +kernel) (by decide +kernel), tb_at 596 (by decide +kernel) (by decide +kernel), by decide +kernel⟩
theorem ca_X10_choose : CaV yX10_choose cX10_choose 6 (some .int) RX10 2 := ⟨tb_at 601 (by decide +kernel) (by decide +kernel), tb_at 52 (by decide +kernel) (by decide +kernel), tb_at 599 (by decide +kernel) (by decide +kernel), tb_at 600 (by decide +kernel) (by decide +kernel), by decide +kernel⟩
theorem ca_X10_isSetOf : CaS yX10_isSetOf cX10_isSetOf 2 (some .boolean) 2 := ⟨tb_at 604 (by decide +kernel) (by decide +kernel), tb_at 52 (by decide +kernel) (by decide +kernel), tb_at 603 (by decide +kernel) (by decide +kernel), by decide +kernel⟩
theorem ca_X10_bagBits : CaV yX10_bagBits cX10_bagBits 3 (some .int) RX10 0 := ⟨tb_at 608 (by decide +kernel) (by decide +kernel), tb_at 52 (by decide +kernel) (by decide +kernel), tb_at 607 (by decide +kernel) (by decide +kernel), tb_at 7 (by decide +kernel) (by decide +kernel), by decide +kernel⟩
theorem ca_X10_bestOfStick : CaV yX10_bestOfStick cX10_bestOfStick 15 (some .int) RX10 3 := ⟨tb_at 612 (by decide +kernel) (by decide +kernel), tb_at 52 (by decide +kernel) (by decide +kernel), tb_at 611 (by decide +kernel) (by decide +kernel), tb_at 8 (by decide +kernel) (by decide +kernel), by decide +kernel⟩
theorem ca_X10_backsIn : CaV yX10_backsIn cX10_backsIn 6 (some .int) RX10 2 := ⟨tb_at 620 (by decide +kernel) (by decide +kernel), tb_at 52 (by decide +kernel) (by decide +kernel), tb_at 619 (by decide +kernel) (by decide +kernel), tb_at 9 (by decide +kernel) (by decide +kernel), by decide +kernel⟩
theorem ca_J6_bitCount_0f7a4 : CaS yJ6_bitCount_0f7a4 cJ6_bitCount_0f7a4 1 (some .int) 1 := ⟨tb_at 623 (by decide +kernel) (by decide +kernel), tb_at 66 (by decide +kernel) (by decide +kernel), tb_at 622 (by decide +kernel) (by decide +kernel), by decide +kernel⟩
theorem ca_X10_comesBack : CaV yX10_comesBack cX10_comesBack 2 (some .boolean) RX10 1 := ⟨tb_at 630 (by decide +kernel) (by decide +kernel), tb_at 52 (by decide +kernel) (by decide +kernel), tb_at 629 (by decide +kernel) (by decide +kernel), tb_at 10 (by decide +kernel) (by decide +kernel), by decide +kernel⟩
theorem ca_X10_rememberChoice : CaV yX10_rememberChoice cX10_rememberChoice 1 none RX10 0 := ⟨tb_at 634 (by decide +kernel) (by decide +kernel), tb_at 52 (by decide +kernel) (by decide +kernel), tb_at 633 (by decide +kernel) (by decide +kernel), tb_at 11 (by decide +kernel) (by decide +kernel), by decide +kernel⟩
theorem ca_X10_chosen : CaV yX10_chosen cX10_chosen 2 (some .int) RX10 1 := ⟨tb_at 638 (by decide +kernel) (by decide +kernel), tb_at 52 (by decide +kernel) (by decide +kernel), tb_at 636 (by decide +kernel) (by decide +kernel), tb_at 637 (by decide +kernel) (by decide +kernel), by decide +kernel⟩
theorem ca_X10_keep : CaV yX10_keep cX10_keep 8 (some .int) RX10 7 := ⟨tb_at 642 (by decide +kernel) (by decide +kernel), tb_at 52 (by decide +kernel) (by decide +kernel), tb_at 640 (by decide +kernel) (by decide +kernel), tb_at 641 (by decide +kernel) (by decide +kernel), by decide +kernel⟩
theorem ca_X10_two : CaV yX10_two cX10_two 5 (some .int) RX10 1 := ⟨tb_at 646 (by decide +kernel) (by decide +kernel), tb_at 52 (by decide +kernel) (by decide +kernel), tb_at 644 (by decide +kernel) (by decide +kernel), tb_at 645 (by decide +kernel) (by decide +kernel), by decide +kernel⟩
theorem ca_J9_abs_0f7a4 : CaS yJ9_abs_0f7a4 cJ9_abs_0f7a4 1 (some .int) 1 := ⟨tb_at 649 (by decide +kernel) (by decide +kernel), tb_at 65 (by decide +kernel) (by decide +kernel), tb_at 648 (by decide +kernel) (by decide +kernel), by decide +kernel⟩
theorem ca_X10_match : CaV yX10_match cX10_match 4 (some .int) RX10 2 := ⟨tb_at 653 (by decide +kernel) (by decide +kernel), tb_at 52 (by decide +kernel) (by decide +kernel), tb_at 651 (by decide +kernel) (by decide +kernel), tb_at 652 (by decide +kernel) (by decide +kernel), by decide +kernel⟩
theorem ca_X10_style : CaV yX10_style cX10_style 5 (some .int) RX10 4 := ⟨tb_at 657 (by decide +kernel) (by decide +kernel), tb_at 52 (by decide +kernel) (by decide +kernel), tb_at 655 (by decide +kernel) (by decide +kernel), tb_at 656 (by decide +kernel) (by decide +kernel), by decide +kernel⟩
theorem ca_X10_points : CaV yX10_points cX10_points 3 (some .int) RX10 2 := ⟨tb_at 661 (by decide +kernel) (by decide +kernel), tb_at 52 (by decide +kernel) (by decide +kernel), tb_at 659 (by decide +kernel) (by decide +kernel), tb_at 660 (by decide +kernel) (by decide +kernel), by decide +kernel⟩
theorem ca_X10_pointsOf : CaV yX10_pointsOf cX10_pointsOf 4 (some .int) RX10 2 := ⟨tb_at 665 (by decide +kernel) (by decide +kernel), tb_at 52 (by decide +kernel) (by decide +kernel), tb_at 664 (by decide +kernel) (by decide +kernel), tb_at 12 (by decide +kernel) (by decide +kernel), by decide +kernel⟩
theorem ca_X1_distance : CaV yX1_distance cX1_distance 6 (some .int) RX1 0 := ⟨tb_at 669 (by decide +kernel) (by decide +kernel), tb_at 56 (by decide +kernel) (by decide +kernel), tb_at 667 (by decide +kernel) (by decide +kernel), tb_at 668 (by decide +kernel) (by decide +kernel), by decide +kernel⟩
theorem ca_X10_best : CaV yX10_best cX10_best 2 (some .int) RX10 0 := ⟨tb_at 675 (by decide +kernel) (by decide +kernel), tb_at 52 (by decide +kernel) (by decide +kernel), tb_at 673 (by decide +kernel) (by decide +kernel), tb_at 674 (by decide +kernel) (by decide +kernel), by decide +kernel⟩
theorem ca_X3_throwCount : CaV yX3_throwCount cX3_throwCount 3 (some .int) RX3 0 := ⟨tb_at 679 (by decide +kernel) (by decide +kernel), tb_at 58 (by decide +kernel) (by decide +kernel), tb_at 677 (by decide +kernel) (by decide +kernel), tb_at 678 (by decide +kernel) (by decide +kernel), by decide +kernel⟩
theorem ca_X10_playMatch : CaV yX10_playMatch cX10_playMatch 3 none RX10 0 := ⟨tb_at 683 (by decide +kernel) (by decide +kernel), tb_at 52 (by decide +kernel) (by decide +kernel), tb_at 682 (by decide +kernel) (by decide +kernel), tb_at 13 (by decide +kernel) (by decide +kernel), by decide +kernel⟩
theorem ca_X10_fillPoints : CaV yX10_fillPoints cX10_fillPoints 4 none RX10 2 := ⟨tb_at 687 (by decide +kernel) (by decide +kernel), tb_at 52 (by decide +kernel) (by decide +kernel), tb_at 686 (by decide +kernel) (by decide +kernel), tb_at 14 (by decide +kernel) (by decide +kernel), by decide +kernel⟩
theorem ca_X3_findBest : CaV yX3_findBest cX3_findBest 2 none RX3 1 := ⟨tb_at 691 (by decide +kernel) (by decide +kernel), tb_at 58 (by decide +kernel) (by decide +kernel), tb_at 689 (by decide +kernel) (by decide +kernel), tb_at 690 (by decide +kernel) (by decide +kernel), by decide +kernel⟩
theorem ca_X3_tryThrow : CaV yX3_tryThrow cX3_tryThrow 5 none RX3 3 := ⟨tb_at 695 (by decide +kernel) (by decide +kernel), tb_at 58 (by decide +kernel) (by decide +kernel), tb_at 694 (by decide +kernel) (by decide +kernel), tb_at 15 (by decide +kernel) (by decide +kernel), by decide +kernel⟩
theorem ca_X10_order : CaV yX10_order cX10_order 2 (some .int) RX10 1 := ⟨tb_at 702 (by decide +kernel) (by decide +kernel), tb_at 52 (by decide +kernel) (by decide +kernel), tb_at 700 (by decide +kernel) (by decide +kernel), tb_at 701 (by decide +kernel) (by decide +kernel), by decide +kernel⟩
theorem ca_X10_row : CaV yX10_row cX10_row 8 (some .int) RX10 7 := ⟨tb_at 706 (by decide +kernel) (by decide +kernel), tb_at 52 (by decide +kernel) (by decide +kernel), tb_at 704 (by decide +kernel) (by decide +kernel), tb_at 705 (by decide +kernel) (by decide +kernel), by decide +kernel⟩
theorem ca_X10_isRow : CaV yX10_isRow cX10_isRow 8 (some .boolean) RX10 7 := ⟨tb_at 710 (by decide +kernel) (by decide +kernel), tb_at 52 (by decide +kernel) (by decide +kernel), tb_at 709 (by decide +kernel) (by decide +kernel), tb_at 16 (by decide +kernel) (by decide +kernel), by decide +kernel⟩
theorem ca_X10_addRow : CaV yX10_addRow cX10_addRow 9 none RX10 7 := ⟨tb_at 714 (by decide +kernel) (by decide +kernel), tb_at 52 (by decide +kernel) (by decide +kernel), tb_at 713 (by decide +kernel) (by decide +kernel), tb_at 17 (by decide +kernel) (by decide +kernel), by decide +kernel⟩
theorem ca_X10_miss : CaV yX10_miss cX10_miss 3 (some .int) RX10 2 := ⟨tb_at 718 (by decide +kernel) (by decide +kernel), tb_at 52 (by decide +kernel) (by decide +kernel), tb_at 716 (by decide +kernel) (by decide +kernel), tb_at 717 (by decide +kernel) (by decide +kernel), by decide +kernel⟩
theorem ca_X10_missOf : CaV yX10_missOf cX10_missOf 3 (some .int) RX10 2 := ⟨tb_at 722 (by decide +kernel) (by decide +kernel), tb_at 52 (by decide +kernel) (by decide +kernel), tb_at 721 (by decide +kernel) (by decide +kernel), tb_at 18 (by decide +kernel) (by decide +kernel), by decide +kernel⟩
theorem ca_X10_explain : CaV yX10_explain cX10_explain 2 (some .int) RX10 1 := ⟨tb_at 727 (by decide +kernel) (by decide +kernel), tb_at 52 (by decide +kernel) (by decide +kernel), tb_at 725 (by decide +kernel) (by decide +kernel), tb_at 726 (by decide +kernel) (by decide +kernel), by decide +kernel⟩
theorem ca_X10_rowsOf : CaV yX10_rowsOf cX10_rowsOf 4 (some .int) RX10 1 := ⟨tb_at 731 (by decide +kernel) (by decide +kernel), tb_at 52 (by decide +kernel) (by decide +kernel), tb_at 730 (by decide +kernel) (by decide +kernel), tb_at 19 (by decide +kernel) (by decide +kernel), by decide +kernel⟩
theorem ca_X10_explainedBend : CaV yX10_explainedBend cX10_explainedBend 7 (some .int) RX10 1 := ⟨tb_at 735 (by decide +kernel) (by decide +kernel), tb_at 52 (by decide +kernel) (by decide +kernel), tb_at 734 (by decide +kernel) (by decide +kernel), tb_at 20 (by decide +kernel) (by decide +kernel), by decide +kernel⟩
theorem ca_X10_missSum : CaV yX10_missSum cX10_missSum 5 (some .int) RX10 2 := ⟨tb_at 739 (by decide +kernel) (by decide +kernel), tb_at 52 (by decide +kernel) (by decide +kernel), tb_at 738 (by decide +kernel) (by decide +kernel), tb_at 21 (by decide +kernel) (by decide +kernel), by decide +kernel⟩
theorem ca_X10_sure : CaV yX10_sure cX10_sure 4 (some .int) RX10 1 := ⟨tb_at 743 (by decide +kernel) (by decide +kernel), tb_at 52 (by decide +kernel) (by decide +kernel), tb_at 741 (by decide +kernel) (by decide +kernel), tb_at 742 (by decide +kernel) (by decide +kernel), by decide +kernel⟩
theorem ca_X10_unrow : CaV yX10_unrow cX10_unrow 1 (some .int) RX10 0 := ⟨tb_at 747 (by decide +kernel) (by decide +kernel), tb_at 52 (by decide +kernel) (by decide +kernel), tb_at 745 (by decide +kernel) (by decide +kernel), tb_at 746 (by decide +kernel) (by decide +kernel), by decide +kernel⟩
theorem ca_X10_rows : CaV yX10_rows cX10_rows 8 (some .int) RX10 4 := ⟨tb_at 751 (by decide +kernel) (by decide +kernel), tb_at 52 (by decide +kernel) (by decide +kernel), tb_at 749 (by decide +kernel) (by decide +kernel), tb_at 750 (by decide +kernel) (by decide +kernel), by decide +kernel⟩
theorem ca_X10_faultOf : CaV yX10_faultOf cX10_faultOf 3 (some .int) RX10 2 := ⟨tb_at 755 (by decide +kernel) (by decide +kernel), tb_at 52 (by decide +kernel) (by decide +kernel), tb_at 754 (by decide +kernel) (by decide +kernel), tb_at 22 (by decide +kernel) (by decide +kernel), by decide +kernel⟩
theorem ca_X10_isSheet : CaS yX10_isSheet cX10_isSheet 1 (some .boolean) 1 := ⟨tb_at 758 (by decide +kernel) (by decide +kernel), tb_at 52 (by decide +kernel) (by decide +kernel), tb_at 757 (by decide +kernel) (by decide +kernel), by decide +kernel⟩
theorem ca_X10_isLane : CaS yX10_isLane cX10_isLane 1 (some .boolean) 1 := ⟨tb_at 761 (by decide +kernel) (by decide +kernel), tb_at 52 (by decide +kernel) (by decide +kernel), tb_at 760 (by decide +kernel) (by decide +kernel), by decide +kernel⟩
theorem ca_X6_isEmptyHanded : CaV yX6_isEmptyHanded cX6_isEmptyHanded 1 (some .boolean) RX6 0 := ⟨tb_at 765 (by decide +kernel) (by decide +kernel), tb_at 63 (by decide +kernel) (by decide +kernel), tb_at 763 (by decide +kernel) (by decide +kernel), tb_at 764 (by decide +kernel) (by decide +kernel), by decide +kernel⟩
theorem ca_X6_has : CaV yX6_has cX6_has 3 (some .boolean) RX6 2 := ⟨tb_at 769 (by decide +kernel) (by decide +kernel), tb_at 63 (by decide +kernel) (by decide +kernel), tb_at 767 (by decide +kernel) (by decide +kernel), tb_at 768 (by decide +kernel) (by decide +kernel), by decide +kernel⟩
theorem ca_X10_holdsRow : CaV yX10_holdsRow cX10_holdsRow 3 (some .boolean) RX10 2 := ⟨tb_at 773 (by decide +kernel) (by decide +kernel), tb_at 52 (by decide +kernel) (by decide +kernel), tb_at 772 (by decide +kernel) (by decide +kernel), tb_at 23 (by decide +kernel) (by decide +kernel), by decide +kernel⟩
theorem ca_X10_addRowFrom : CaV yX10_addRowFrom cX10_addRowFrom 3 none RX10 2 := ⟨tb_at 777 (by decide +kernel) (by decide +kernel), tb_at 52 (by decide +kernel) (by decide +kernel), tb_at 776 (by decide +kernel) (by decide +kernel), tb_at 24 (by decide +kernel) (by decide +kernel), by decide +kernel⟩
theorem ca_X10_seen : CaV yX10_seen cX10_seen 4 (some .int) RX10 1 := ⟨tb_at 781 (by decide +kernel) (by decide +kernel), tb_at 52 (by decide +kernel) (by decide +kernel), tb_at 779 (by decide +kernel) (by decide +kernel), tb_at 780 (by decide +kernel) (by decide +kernel), by decide +kernel⟩
theorem ca_X2_lineOf : CaS yX2_lineOf cX2_lineOf 2 (some .int) 1 := ⟨tb_at 784 (by decide +kernel) (by decide +kernel), tb_at 60 (by decide +kernel) (by decide +kernel), tb_at 783 (by decide +kernel) (by decide +kernel), by decide +kernel⟩
theorem ca_J9_floorDiv_7cf53 : CaS yJ9_floorDiv_7cf53 cJ9_floorDiv_7cf53 3 (some .int) 2 := ⟨tb_at 787 (by decide +kernel) (by decide +kernel), tb_at 65 (by decide +kernel) (by decide +kernel), tb_at 786 (by decide +kernel) (by decide +kernel), by decide +kernel⟩
theorem ca_X2_spreadFrom : CaV yX2_spreadFrom cX2_spreadFrom 5 (some .int) RX2 2 := ⟨tb_at 793 (by decide +kernel) (by decide +kernel), tb_at 60 (by decide +kernel) (by decide +kernel), tb_at 791 (by decide +kernel) (by decide +kernel), tb_at 792 (by decide +kernel) (by decide +kernel), by decide +kernel⟩
theorem ca_X10_patch : CaV yX10_patch cX10_patch 5 (some .int) RX10 3 := ⟨tb_at 798 (by decide +kernel) (by decide +kernel), tb_at 52 (by decide +kernel) (by decide +kernel), tb_at 796 (by decide +kernel) (by decide +kernel), tb_at 797 (by decide +kernel) (by decide +kernel), by decide +kernel⟩
theorem ca_X10_isPatch : CaS yX10_isPatch cX10_isPatch 1 (some .boolean) 1 := ⟨tb_at 801 (by decide +kernel) (by decide +kernel), tb_at 52 (by decide +kernel) (by decide +kernel), tb_at 800 (by decide +kernel) (by decide +kernel), by decide +kernel⟩
theorem ca_X10_grass : CaV yX10_grass cX10_grass 3 (some .int) RX10 2 := ⟨tb_at 805 (by decide +kernel) (by decide +kernel), tb_at 52 (by decide +kernel) (by decide +kernel), tb_at 803 (by decide +kernel) (by decide +kernel), tb_at 804 (by decide +kernel) (by decide +kernel), by decide +kernel⟩
theorem ca_X10_next : CaV yX10_next cX10_next 1 (some .int) RX10 0 := ⟨tb_at 809 (by decide +kernel) (by decide +kernel), tb_at 52 (by decide +kernel) (by decide +kernel), tb_at 807 (by decide +kernel) (by decide +kernel), tb_at 808 (by decide +kernel) (by decide +kernel), by decide +kernel⟩
theorem ca_X2_likeliest : CaV yX2_likeliest cX2_likeliest 4 (some .int) RX2 0 := ⟨tb_at 813 (by decide +kernel) (by decide +kernel), tb_at 60 (by decide +kernel) (by decide +kernel), tb_at 811 (by decide +kernel) (by decide +kernel), tb_at 812 (by decide +kernel) (by decide +kernel), by decide +kernel⟩
theorem ca_X10_search : CaV yX10_search cX10_search 2 (some .int) RX10 1 := ⟨tb_at 817 (by decide +kernel) (by decide +kernel), tb_at 52 (by decide +kernel) (by decide +kernel), tb_at 815 (by decide +kernel) (by decide +kernel), tb_at 816 (by decide +kernel) (by decide +kernel), by decide +kernel⟩
theorem ca_X2_lighten : CaV yX2_lighten cX2_lighten 2 (some .int) RX2 1 := ⟨tb_at 821 (by decide +kernel) (by decide +kernel), tb_at 60 (by decide +kernel) (by decide +kernel), tb_at 819 (by decide +kernel) (by decide +kernel), tb_at 820 (by decide +kernel) (by decide +kernel), by decide +kernel⟩
theorem ca_X10_count : CaV yX10_count cX10_count 2 (some .int) RX10 1 := ⟨tb_at 825 (by decide +kernel) (by decide +kernel), tb_at 52 (by decide +kernel) (by decide +kernel), tb_at 823 (by decide +kernel) (by decide +kernel), tb_at 824 (by decide +kernel) (by decide +kernel), by decide +kernel⟩
theorem ca_X10_sheet : CaV yX10_sheet cX10_sheet 4 (some .int) RX10 3 := ⟨tb_at 829 (by decide +kernel) (by decide +kernel), tb_at 52 (by decide +kernel) (by decide +kernel), tb_at 827 (by decide +kernel) (by decide +kernel), tb_at 828 (by decide +kernel) (by decide +kernel), by decide +kernel⟩
theorem ca_X6_hold : CaV yX6_hold cX6_hold 3 none RX6 2 := ⟨tb_at 833 (by decide +kernel) (by decide +kernel), tb_at 63 (by decide +kernel) (by decide +kernel), tb_at 831 (by decide +kernel) (by decide +kernel), tb_at 832 (by decide +kernel) (by decide +kernel), by decide +kernel⟩
theorem ca_X10_drop : CaV yX10_drop cX10_drop 3 (some .int) RX10 1 := ⟨tb_at 838 (by decide +kernel) (by decide +kernel), tb_at 52 (by decide +kernel) (by decide +kernel), tb_at 836 (by decide +kernel) (by decide +kernel), tb_at 837 (by decide +kernel) (by decide +kernel), by decide +kernel⟩
theorem ca_X10_item : CaV yX10_item cX10_item 6 (some .int) RX10 4 := ⟨tb_at 842 (by decide +kernel) (by decide +kernel), tb_at 52 (by decide +kernel) (by decide +kernel), tb_at 840 (by decide +kernel) (by decide +kernel), tb_at 841 (by decide +kernel) (by decide +kernel), by decide +kernel⟩
theorem ca_X6_put : CaV yX6_put cX6_put 3 none RX6 2 := ⟨tb_at 846 (by decide +kernel) (by decide +kernel), tb_at 63 (by decide +kernel) (by decide +kernel), tb_at 844 (by decide +kernel) (by decide +kernel), tb_at 845 (by decide +kernel) (by decide +kernel), by decide +kernel⟩
theorem ca_X10_copy : CaV yX10_copy cX10_copy 8 (some .int) RX10 5 := ⟨tb_at 850 (by decide +kernel) (by decide +kernel), tb_at 52 (by decide +kernel) (by decide +kernel), tb_at 848 (by decide +kernel) (by decide +kernel), tb_at 849 (by decide +kernel) (by decide +kernel), by decide +kernel⟩
theorem ca_X11_table : CaV yX11_table cX11_table 3 (some .int) RX11 2 := ⟨tb_at 1012 (by decide +kernel) (by decide +kernel), tb_at 64 (by decide +kernel) (by decide +kernel), tb_at 1010 (by decide +kernel) (by decide +kernel), tb_at 1011 (by decide +kernel) (by decide +kernel), by decide +kernel⟩
theorem ca_X11_in : CaS yX11_in cX11_in 6 (some .boolean) 3 := ⟨tb_at 1015 (by decide +kernel) (by decide +kernel), tb_at 64 (by decide +kernel) (by decide +kernel), tb_at 1014 (by decide +kernel) (by decide +kernel), by decide +kernel⟩
theorem ca_X11_sine : CaV yX11_sine cX11_sine 4 (some .int) RX11 1 := ⟨tb_at 1020 (by decide +kernel) (by decide +kernel), tb_at 64 (by decide +kernel) (by decide +kernel), tb_at 1019 (by decide +kernel) (by decide +kernel), tb_at 25 (by decide +kernel) (by decide +kernel), by decide +kernel⟩
theorem ca_X11_cosine : CaV yX11_cosine cX11_cosine 2 (some .int) RX11 1 := ⟨tb_at 1024 (by decide +kernel) (by decide +kernel), tb_at 64 (by decide +kernel) (by decide +kernel), tb_at 1023 (by decide +kernel) (by decide +kernel), tb_at 26 (by decide +kernel) (by decide +kernel), by decide +kernel⟩
theorem ca_X11_plain : CaV yX11_plain cX11_plain 5 (some .int) RX11 4 := ⟨tb_at 1028 (by decide +kernel) (by decide +kernel), tb_at 64 (by decide +kernel) (by decide +kernel), tb_at 1026 (by decide +kernel) (by decide +kernel), tb_at 1027 (by decide +kernel) (by decide +kernel), by decide +kernel⟩
theorem ca_X11_comes : CaV yX11_comes cX11_comes 6 (some .int) RX11 5 := ⟨tb_at 1032 (by decide +kernel) (by decide +kernel), tb_at 64 (by decide +kernel) (by decide +kernel), tb_at 1031 (by decide +kernel) (by decide +kernel), tb_at 27 (by decide +kernel) (by decide +kernel), by decide +kernel⟩
theorem ca_X11_winged : CaV yX11_winged cX11_winged 6 (some .int) RX11 5 := ⟨tb_at 1040 (by decide +kernel) (by decide +kernel), tb_at 64 (by decide +kernel) (by decide +kernel), tb_at 1038 (by decide +kernel) (by decide +kernel), tb_at 1039 (by decide +kernel) (by decide +kernel), by decide +kernel⟩
theorem ca_X11_lift : CaV yX11_lift cX11_lift 5 (some .int) RX11 3 := ⟨tb_at 1045 (by decide +kernel) (by decide +kernel), tb_at 64 (by decide +kernel) (by decide +kernel), tb_at 1043 (by decide +kernel) (by decide +kernel), tb_at 1044 (by decide +kernel) (by decide +kernel), by decide +kernel⟩
theorem ca_X11_isStick : CaV yX11_isStick cX11_isStick 2 (some .boolean) RX11 1 := ⟨tb_at 1049 (by decide +kernel) (by decide +kernel), tb_at 64 (by decide +kernel) (by decide +kernel), tb_at 1048 (by decide +kernel) (by decide +kernel), tb_at 28 (by decide +kernel) (by decide +kernel), by decide +kernel⟩
theorem ca_X11_bend : CaV yX11_bend cX11_bend 4 (some .int) RX11 2 := ⟨tb_at 1055 (by decide +kernel) (by decide +kernel), tb_at 64 (by decide +kernel) (by decide +kernel), tb_at 1053 (by decide +kernel) (by decide +kernel), tb_at 1054 (by decide +kernel) (by decide +kernel), by decide +kernel⟩
theorem ca_X11_told : CaV yX11_told cX11_told 3 (some .int) RX11 2 := ⟨tb_at 1061 (by decide +kernel) (by decide +kernel), tb_at 64 (by decide +kernel) (by decide +kernel), tb_at 1059 (by decide +kernel) (by decide +kernel), tb_at 1060 (by decide +kernel) (by decide +kernel), by decide +kernel⟩
theorem ca_X11_lose : CaV yX11_lose cX11_lose 4 (some .int) RX11 2 := ⟨tb_at 1065 (by decide +kernel) (by decide +kernel), tb_at 64 (by decide +kernel) (by decide +kernel), tb_at 1063 (by decide +kernel) (by decide +kernel), tb_at 1064 (by decide +kernel) (by decide +kernel), by decide +kernel⟩
theorem ca_X11_wind : CaV yX11_wind cX11_wind 1 (some .int) RX11 0 := ⟨tb_at 1069 (by decide +kernel) (by decide +kernel), tb_at 64 (by decide +kernel) (by decide +kernel), tb_at 1067 (by decide +kernel) (by decide +kernel), tb_at 1068 (by decide +kernel) (by decide +kernel), by decide +kernel⟩
theorem ca_X11_blows : CaV yX11_blows cX11_blows 6 (some .int) RX11 4 := ⟨tb_at 1073 (by decide +kernel) (by decide +kernel), tb_at 64 (by decide +kernel) (by decide +kernel), tb_at 1071 (by decide +kernel) (by decide +kernel), tb_at 1072 (by decide +kernel) (by decide +kernel), by decide +kernel⟩
theorem ca_X11_swing : CaV yX11_swing cX11_swing 4 (some .int) RX11 2 := ⟨tb_at 1077 (by decide +kernel) (by decide +kernel), tb_at 64 (by decide +kernel) (by decide +kernel), tb_at 1075 (by decide +kernel) (by decide +kernel), tb_at 1076 (by decide +kernel) (by decide +kernel), by decide +kernel⟩
theorem ca_X11_tree : CaV yX11_tree cX11_tree 5 (some .int) RX11 4 := ⟨tb_at 1082 (by decide +kernel) (by decide +kernel), tb_at 64 (by decide +kernel) (by decide +kernel), tb_at 1080 (by decide +kernel) (by decide +kernel), tb_at 1081 (by decide +kernel) (by decide +kernel), by decide +kernel⟩
theorem ca_X11_ring : CaV yX11_ring cX11_ring 3 (some .int) RX11 1 := ⟨tb_at 1090 (by decide +kernel) (by decide +kernel), tb_at 64 (by decide +kernel) (by decide +kernel), tb_at 1088 (by decide +kernel) (by decide +kernel), tb_at 1089 (by decide +kernel) (by decide +kernel), by decide +kernel⟩
theorem ca_X11_fly : CaV yX11_fly cX11_fly 8 (some .int) RX11 6 := ⟨tb_at 1095 (by decide +kernel) (by decide +kernel), tb_at 64 (by decide +kernel) (by decide +kernel), tb_at 1093 (by decide +kernel) (by decide +kernel), tb_at 1094 (by decide +kernel) (by decide +kernel), by decide +kernel⟩
theorem ca_X11_isThrow : CaV yX11_isThrow cX11_isThrow 11 (some .boolean) RX11 5 := ⟨tb_at 1099 (by decide +kernel) (by decide +kernel), tb_at 64 (by decide +kernel) (by decide +kernel), tb_at 1098 (by decide +kernel) (by decide +kernel), tb_at 29 (by decide +kernel) (by decide +kernel), by decide +kernel⟩
theorem ca_X11_isWind : CaV yX11_isWind cX11_isWind 2 (some .boolean) RX11 1 := ⟨tb_at 1107 (by decide +kernel) (by decide +kernel), tb_at 64 (by decide +kernel) (by decide +kernel), tb_at 1106 (by decide +kernel) (by decide +kernel), tb_at 30 (by decide +kernel) (by decide +kernel), by decide +kernel⟩
theorem ca_X11_flies : CaV yX11_flies cX11_flies 9 (some .int) RX11 7 := ⟨tb_at 1112 (by decide +kernel) (by decide +kernel), tb_at 64 (by decide +kernel) (by decide +kernel), tb_at 1111 (by decide +kernel) (by decide +kernel), tb_at 31 (by decide +kernel) (by decide +kernel), by decide +kernel⟩
theorem ca_X11_keepsTick : CaV yX11_keepsTick cX11_keepsTick 2 none RX11 0 := ⟨tb_at 1116 (by decide +kernel) (by decide +kernel), tb_at 64 (by decide +kernel) (by decide +kernel), tb_at 1115 (by decide +kernel) (by decide +kernel), tb_at 32 (by decide +kernel) (by decide +kernel), by decide +kernel⟩
theorem ca_X11_steps : CaV yX11_steps cX11_steps 6 none RX11 3 := ⟨tb_at 1120 (by decide +kernel) (by decide +kernel), tb_at 64 (by decide +kernel) (by decide +kernel), tb_at 1119 (by decide +kernel) (by decide +kernel), tb_at 33 (by decide +kernel) (by decide +kernel), by decide +kernel⟩
theorem ca_X11_liftOf : CaV yX11_liftOf cX11_liftOf 4 (some .int) RX11 1 := ⟨tb_at 1124 (by decide +kernel) (by decide +kernel), tb_at 64 (by decide +kernel) (by decide +kernel), tb_at 1123 (by decide +kernel) (by decide +kernel), tb_at 34 (by decide +kernel) (by decide +kernel), by decide +kernel⟩
theorem ca_X11_held : CaS yX11_held cX11_held 3 (some .int) 3 := ⟨tb_at 1127 (by decide +kernel) (by decide +kernel), tb_at 64 (by decide +kernel) (by decide +kernel), tb_at 1126 (by decide +kernel) (by decide +kernel), by decide +kernel⟩
theorem ca_X11_ending : CaV yX11_ending cX11_ending 2 (some .int) RX11 0 := ⟨tb_at 1133 (by decide +kernel) (by decide +kernel), tb_at 64 (by decide +kernel) (by decide +kernel), tb_at 1132 (by decide +kernel) (by decide +kernel), tb_at 35 (by decide +kernel) (by decide +kernel), by decide +kernel⟩
theorem ca_X11_isNear : CaV yX11_isNear cX11_isNear 8 (some .boolean) RX11 3 := ⟨tb_at 1137 (by decide +kernel) (by decide +kernel), tb_at 64 (by decide +kernel) (by decide +kernel), tb_at 1136 (by decide +kernel) (by decide +kernel), tb_at 36 (by decide +kernel) (by decide +kernel), by decide +kernel⟩
theorem ca_X11_at : CaV yX11_at cX11_at 3 (some .int) RX11 2 := ⟨tb_at 1142 (by decide +kernel) (by decide +kernel), tb_at 64 (by decide +kernel) (by decide +kernel), tb_at 1140 (by decide +kernel) (by decide +kernel), tb_at 1141 (by decide +kernel) (by decide +kernel), by decide +kernel⟩
theorem ca_X11_ticks : CaV yX11_ticks cX11_ticks 1 (some .int) RX11 0 := ⟨tb_at 1148 (by decide +kernel) (by decide +kernel), tb_at 64 (by decide +kernel) (by decide +kernel), tb_at 1146 (by decide +kernel) (by decide +kernel), tb_at 1147 (by decide +kernel) (by decide +kernel), by decide +kernel⟩
theorem ca_X11_hit : CaV yX11_hit cX11_hit 1 (some .int) RX11 0 := ⟨tb_at 1152 (by decide +kernel) (by decide +kernel), tb_at 64 (by decide +kernel) (by decide +kernel), tb_at 1150 (by decide +kernel) (by decide +kernel), tb_at 1151 (by decide +kernel) (by decide +kernel), by decide +kernel⟩
theorem ca_X11_choose : CaV yX11_choose cX11_choose 11 (some .int) RX11 2 := ⟨tb_at 1156 (by decide +kernel) (by decide +kernel), tb_at 64 (by decide +kernel) (by decide +kernel), tb_at 1154 (by decide +kernel) (by decide +kernel), tb_at 1155 (by decide +kernel) (by decide +kernel), by decide +kernel⟩
theorem ca_X11_backs : CaV yX11_backs cX11_backs 8 (some .int) RX11 5 := ⟨tb_at 1160 (by decide +kernel) (by decide +kernel), tb_at 64 (by decide +kernel) (by decide +kernel), tb_at 1159 (by decide +kernel) (by decide +kernel), tb_at 37 (by decide +kernel) (by decide +kernel), by decide +kernel⟩
theorem ca_X11_chosen : CaV yX11_chosen cX11_chosen 2 (some .int) RX11 1 := ⟨tb_at 1164 (by decide +kernel) (by decide +kernel), tb_at 64 (by decide +kernel) (by decide +kernel), tb_at 1162 (by decide +kernel) (by decide +kernel), tb_at 1163 (by decide +kernel) (by decide +kernel), by decide +kernel⟩
theorem ca_X11_keep : CaV yX11_keep cX11_keep 8 (some .int) RX11 7 := ⟨tb_at 1168 (by decide +kernel) (by decide +kernel), tb_at 64 (by decide +kernel) (by decide +kernel), tb_at 1166 (by decide +kernel) (by decide +kernel), tb_at 1167 (by decide +kernel) (by decide +kernel), by decide +kernel⟩
theorem ca_X11_two : CaV yX11_two cX11_two 6 (some .int) RX11 1 := ⟨tb_at 1172 (by decide +kernel) (by decide +kernel), tb_at 64 (by decide +kernel) (by decide +kernel), tb_at 1170 (by decide +kernel) (by decide +kernel), tb_at 1171 (by decide +kernel) (by decide +kernel), by decide +kernel⟩
theorem ca_X11_caught : CaV yX11_caught cX11_caught 4 (some .int) RX11 1 := ⟨tb_at 1176 (by decide +kernel) (by decide +kernel), tb_at 64 (by decide +kernel) (by decide +kernel), tb_at 1175 (by decide +kernel) (by decide +kernel), tb_at 38 (by decide +kernel) (by decide +kernel), by decide +kernel⟩
theorem ca_X11_match : CaV yX11_match cX11_match 4 (some .int) RX11 2 := ⟨tb_at 1180 (by decide +kernel) (by decide +kernel), tb_at 64 (by decide +kernel) (by decide +kernel), tb_at 1178 (by decide +kernel) (by decide +kernel), tb_at 1179 (by decide +kernel) (by decide +kernel), by decide +kernel⟩
theorem ca_X11_style : CaV yX11_style cX11_style 5 (some .int) RX11 4 := ⟨tb_at 1186 (by decide +kernel) (by decide +kernel), tb_at 64 (by decide +kernel) (by decide +kernel), tb_at 1184 (by decide +kernel) (by decide +kernel), tb_at 1185 (by decide +kernel) (by decide +kernel), by decide +kernel⟩
theorem ca_X11_points : CaV yX11_points cX11_points 3 (some .int) RX11 2 := ⟨tb_at 1190 (by decide +kernel) (by decide +kernel), tb_at 64 (by decide +kernel) (by decide +kernel), tb_at 1188 (by decide +kernel) (by decide +kernel), tb_at 1189 (by decide +kernel) (by decide +kernel), by decide +kernel⟩
theorem ca_X11_pointsOf : CaV yX11_pointsOf cX11_pointsOf 9 (some .int) RX11 2 := ⟨tb_at 1194 (by decide +kernel) (by decide +kernel), tb_at 64 (by decide +kernel) (by decide +kernel), tb_at 1193 (by decide +kernel) (by decide +kernel), tb_at 39 (by decide +kernel) (by decide +kernel), by decide +kernel⟩
theorem ca_X11_root : CaS yX11_root cX11_root 8 (some .long) 1 := ⟨tb_at 1197 (by decide +kernel) (by decide +kernel), tb_at 64 (by decide +kernel) (by decide +kernel), tb_at 1196 (by decide +kernel) (by decide +kernel), by decide +kernel⟩
theorem ca_X11_best : CaV yX11_best cX11_best 1 (some .int) RX11 0 := ⟨tb_at 1203 (by decide +kernel) (by decide +kernel), tb_at 64 (by decide +kernel) (by decide +kernel), tb_at 1201 (by decide +kernel) (by decide +kernel), tb_at 1202 (by decide +kernel) (by decide +kernel), by decide +kernel⟩
theorem ca_X11_orders : CaV yX11_orders cX11_orders 3 (some .int) RX11 0 := ⟨tb_at 1207 (by decide +kernel) (by decide +kernel), tb_at 64 (by decide +kernel) (by decide +kernel), tb_at 1206 (by decide +kernel) (by decide +kernel), tb_at 40 (by decide +kernel) (by decide +kernel), by decide +kernel⟩
theorem ca_X11_inBag : CaV yX11_inBag cX11_inBag 3 (some .int) RX11 0 := ⟨tb_at 1211 (by decide +kernel) (by decide +kernel), tb_at 64 (by decide +kernel) (by decide +kernel), tb_at 1210 (by decide +kernel) (by decide +kernel), tb_at 41 (by decide +kernel) (by decide +kernel), by decide +kernel⟩
theorem ca_X11_isFree : CaV yX11_isFree cX11_isFree 5 (some .boolean) RX11 2 := ⟨tb_at 1215 (by decide +kernel) (by decide +kernel), tb_at 64 (by decide +kernel) (by decide +kernel), tb_at 1214 (by decide +kernel) (by decide +kernel), tb_at 42 (by decide +kernel) (by decide +kernel), by decide +kernel⟩
theorem ca_X11_compares : CaV yX11_compares cX11_compares 3 none RX11 0 := ⟨tb_at 1219 (by decide +kernel) (by decide +kernel), tb_at 64 (by decide +kernel) (by decide +kernel), tb_at 1218 (by decide +kernel) (by decide +kernel), tb_at 43 (by decide +kernel) (by decide +kernel), by decide +kernel⟩
theorem ca_X11_order : CaV yX11_order cX11_order 4 (some .int) RX11 1 := ⟨tb_at 1223 (by decide +kernel) (by decide +kernel), tb_at 64 (by decide +kernel) (by decide +kernel), tb_at 1221 (by decide +kernel) (by decide +kernel), tb_at 1222 (by decide +kernel) (by decide +kernel), by decide +kernel⟩
theorem ca_X11_row : CaV yX11_row cX11_row 8 (some .int) RX11 7 := ⟨tb_at 1227 (by decide +kernel) (by decide +kernel), tb_at 64 (by decide +kernel) (by decide +kernel), tb_at 1225 (by decide +kernel) (by decide +kernel), tb_at 1226 (by decide +kernel) (by decide +kernel), by decide +kernel⟩
theorem ca_X11_isRow : CaV yX11_isRow cX11_isRow 15 (some .boolean) RX11 7 := ⟨tb_at 1231 (by decide +kernel) (by decide +kernel), tb_at 64 (by decide +kernel) (by decide +kernel), tb_at 1230 (by decide +kernel) (by decide +kernel), tb_at 44 (by decide +kernel) (by decide +kernel), by decide +kernel⟩
theorem ca_X11_put : CaV yX11_put cX11_put 9 none RX11 7 := ⟨tb_at 1237 (by decide +kernel) (by decide +kernel), tb_at 64 (by decide +kernel) (by decide +kernel), tb_at 1236 (by decide +kernel) (by decide +kernel), tb_at 45 (by decide +kernel) (by decide +kernel), by decide +kernel⟩
theorem ca_X11_miss : CaV yX11_miss cX11_miss 3 (some .int) RX11 2 := ⟨tb_at 1241 (by decide +kernel) (by decide +kernel), tb_at 64 (by decide +kernel) (by decide +kernel), tb_at 1239 (by decide +kernel) (by decide +kernel), tb_at 1240 (by decide +kernel) (by decide +kernel), by decide +kernel⟩
theorem ca_X11_missOf : CaV yX11_missOf cX11_missOf 6 (some .int) RX11 2 := ⟨tb_at 1245 (by decide +kernel) (by decide +kernel), tb_at 64 (by decide +kernel) (by decide +kernel), tb_at 1244 (by decide +kernel) (by decide +kernel), tb_at 46 (by decide +kernel) (by decide +kernel), by decide +kernel⟩
theorem ca_X11_size : CaS yX11_size cX11_size 1 (some .int) 1 := ⟨tb_at 1248 (by decide +kernel) (by decide +kernel), tb_at 64 (by decide +kernel) (by decide +kernel), tb_at 1247 (by decide +kernel) (by decide +kernel), by decide +kernel⟩
theorem ca_X11_explain : CaV yX11_explain cX11_explain 2 (some .int) RX11 1 := ⟨tb_at 1252 (by decide +kernel) (by decide +kernel), tb_at 64 (by decide +kernel) (by decide +kernel), tb_at 1250 (by decide +kernel) (by decide +kernel), tb_at 1251 (by decide +kernel) (by decide +kernel), by decide +kernel⟩
theorem ca_X11_rowsOf : CaV yX11_rowsOf cX11_rowsOf 4 (some .int) RX11 1 := ⟨tb_at 1256 (by decide +kernel) (by decide +kernel), tb_at 64 (by decide +kernel) (by decide +kernel), tb_at 1255 (by decide +kernel) (by decide +kernel), tb_at 47 (by decide +kernel) (by decide +kernel), by decide +kernel⟩
theorem ca_X11_explained : CaV yX11_explained cX11_explained 7 (some .int) RX11 1 := ⟨tb_at 1260 (by decide +kernel) (by decide +kernel), tb_at 64 (by decide +kernel) (by decide +kernel), tb_at 1259 (by decide +kernel) (by decide +kernel), tb_at 48 (by decide +kernel) (by decide +kernel), by decide +kernel⟩
theorem ca_X11_missAll : CaV yX11_missAll cX11_missAll 5 (some .int) RX11 2 := ⟨tb_at 1264 (by decide +kernel) (by decide +kernel), tb_at 64 (by decide +kernel) (by decide +kernel), tb_at 1263 (by decide +kernel) (by decide +kernel), tb_at 49 (by decide +kernel) (by decide +kernel), by decide +kernel⟩
theorem ca_X11_sure : CaV yX11_sure cX11_sure 3 (some .int) RX11 1 := ⟨tb_at 1268 (by decide +kernel) (by decide +kernel), tb_at 64 (by decide +kernel) (by decide +kernel), tb_at 1266 (by decide +kernel) (by decide +kernel), tb_at 1267 (by decide +kernel) (by decide +kernel), by decide +kernel⟩
theorem ca_X11_unrow : CaV yX11_unrow cX11_unrow 1 (some .int) RX11 0 := ⟨tb_at 1272 (by decide +kernel) (by decide +kernel), tb_at 64 (by decide +kernel) (by decide +kernel), tb_at 1270 (by decide +kernel) (by decide +kernel), tb_at 1271 (by decide +kernel) (by decide +kernel), by decide +kernel⟩
theorem ca_X11_seen : CaV yX11_seen cX11_seen 5 (some .int) RX11 1 := ⟨tb_at 1276 (by decide +kernel) (by decide +kernel), tb_at 64 (by decide +kernel) (by decide +kernel), tb_at 1274 (by decide +kernel) (by decide +kernel), tb_at 1275 (by decide +kernel) (by decide +kernel), by decide +kernel⟩
theorem ca_X11_column : CaS yX11_column cX11_column 2 (some .int) 1 := ⟨tb_at 1279 (by decide +kernel) (by decide +kernel), tb_at 64 (by decide +kernel) (by decide +kernel), tb_at 1278 (by decide +kernel) (by decide +kernel), by decide +kernel⟩
theorem ca_X11_patch : CaV yX11_patch cX11_patch 5 (some .int) RX11 3 := ⟨tb_at 1283 (by decide +kernel) (by decide +kernel), tb_at 64 (by decide +kernel) (by decide +kernel), tb_at 1281 (by decide +kernel) (by decide +kernel), tb_at 1282 (by decide +kernel) (by decide +kernel), by decide +kernel⟩
theorem ca_X11_isPatch : CaS yX11_isPatch cX11_isPatch 1 (some .boolean) 1 := ⟨tb_at 1286 (by decide +kernel) (by decide +kernel), tb_at 64 (by decide +kernel) (by decide +kernel), tb_at 1285 (by decide +kernel) (by decide +kernel), by decide +kernel⟩
theorem ca_X11_grass : CaV yX11_grass cX11_grass 3 (some .int) RX11 2 := ⟨tb_at 1291 (by decide +kernel) (by decide +kernel), tb_at 64 (by decide +kernel) (by decide +kernel), tb_at 1289 (by decide +kernel) (by decide +kernel), tb_at 1290 (by decide +kernel) (by decide +kernel), by decide +kernel⟩
theorem ca_X11_next : CaV yX11_next cX11_next 5 (some .int) RX11 0 := ⟨tb_at 1295 (by decide +kernel) (by decide +kernel), tb_at 64 (by decide +kernel) (by decide +kernel), tb_at 1293 (by decide +kernel) (by decide +kernel), tb_at 1294 (by decide +kernel) (by decide +kernel), by decide +kernel⟩
theorem ca_X11_search : CaV yX11_search cX11_search 2 (some .int) RX11 1 := ⟨tb_at 1299 (by decide +kernel) (by decide +kernel), tb_at 64 (by decide +kernel) (by decide +kernel), tb_at 1297 (by decide +kernel) (by decide +kernel), tb_at 1298 (by decide +kernel) (by decide +kernel), by decide +kernel⟩
theorem ca_X11_count : CaV yX11_count cX11_count 4 (some .int) RX11 1 := ⟨tb_at 1303 (by decide +kernel) (by decide +kernel), tb_at 64 (by decide +kernel) (by decide +kernel), tb_at 1301 (by decide +kernel) (by decide +kernel), tb_at 1302 (by decide +kernel) (by decide +kernel), by decide +kernel⟩
theorem ca_X11_sheet : CaV yX11_sheet cX11_sheet 5 (some .int) RX11 3 := ⟨tb_at 1307 (by decide +kernel) (by decide +kernel), tb_at 64 (by decide +kernel) (by decide +kernel), tb_at 1305 (by decide +kernel) (by decide +kernel), tb_at 1306 (by decide +kernel) (by decide +kernel), by decide +kernel⟩
theorem ca_X11_isSheet : CaS yX11_isSheet cX11_isSheet 1 (some .boolean) 1 := ⟨tb_at 1310 (by decide +kernel) (by decide +kernel), tb_at 64 (by decide +kernel) (by decide +kernel), tb_at 1309 (by decide +kernel) (by decide +kernel), by decide +kernel⟩
theorem ca_X11_isLane : CaS yX11_isLane cX11_isLane 1 (some .boolean) 1 := ⟨tb_at 1313 (by decide +kernel) (by decide +kernel), tb_at 64 (by decide +kernel) (by decide +kernel), tb_at 1312 (by decide +kernel) (by decide +kernel), by decide +kernel⟩
theorem ca_X11_drop : CaV yX11_drop cX11_drop 2 (some .int) RX11 1 := ⟨tb_at 1317 (by decide +kernel) (by decide +kernel), tb_at 64 (by decide +kernel) (by decide +kernel), tb_at 1315 (by decide +kernel) (by decide +kernel), tb_at 1316 (by decide +kernel) (by decide +kernel), by decide +kernel⟩
theorem ca_X11_item : CaV yX11_item cX11_item 6 (some .int) RX11 4 := ⟨tb_at 1321 (by decide +kernel) (by decide +kernel), tb_at 64 (by decide +kernel) (by decide +kernel), tb_at 1319 (by decide +kernel) (by decide +kernel), tb_at 1320 (by decide +kernel) (by decide +kernel), by decide +kernel⟩
theorem ca_X11_finds : CaV yX11_finds cX11_finds 5 (some .int) RX11 4 := ⟨tb_at 1325 (by decide +kernel) (by decide +kernel), tb_at 64 (by decide +kernel) (by decide +kernel), tb_at 1324 (by decide +kernel) (by decide +kernel), tb_at 50 (by decide +kernel) (by decide +kernel), by decide +kernel⟩
theorem ca_X11_rows : CaV yX11_rows cX11_rows 9 (some .int) RX11 4 := ⟨tb_at 1329 (by decide +kernel) (by decide +kernel), tb_at 64 (by decide +kernel) (by decide +kernel), tb_at 1327 (by decide +kernel) (by decide +kernel), tb_at 1328 (by decide +kernel) (by decide +kernel), by decide +kernel⟩
theorem ca_X11_copy : CaV yX11_copy cX11_copy 7 (some .int) RX11 5 := ⟨tb_at 1334 (by decide +kernel) (by decide +kernel), tb_at 64 (by decide +kernel) (by decide +kernel), tb_at 1332 (by decide +kernel) (by decide +kernel), tb_at 1333 (by decide +kernel) (by decide +kernel), by decide +kernel⟩
end
