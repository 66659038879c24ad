section
-- ===== PART A: goes FIRST, ahead of the names: the tables' words, and 'selects' of the private methods out of them =====
/-- a private method of a class that the tables say can be made, by its rows of tables_1 -/
def lw_okq (q : MethodName × Nat) : Prop := (q.1.cls ≠ "java/lang/invoke/MethodHandle" ∧ q.1.cls ≠ "java/lang/invoke/VarHandle") ∧ Cond.instantiable q.1.cls q.2 ∈ tables_1 ∧ Cond.privateMethod q.1 ∈ tables_1 ∧ Cond.instanceMethod q.1 ∈ tables_1
theorem lw_p0 : lw_okq (⟨"ModeDesk", "isAnyChannelSound", "()Z"⟩, 12) := ⟨⟨by decide +kernel, by decide +kernel⟩, List.mem_of_getElem? (i := 9) (by decide +kernel), List.mem_of_getElem? (i := 60) (by decide +kernel), List.mem_of_getElem? (i := 61) (by decide +kernel)⟩
theorem lw_p1 : lw_okq (⟨"ModeDesk", "isAroundAnywhere", "()Z"⟩, 12) := ⟨⟨by decide +kernel, by decide +kernel⟩, List.mem_of_getElem? (i := 9) (by decide +kernel), List.mem_of_getElem? (i := 64) (by decide +kernel), List.mem_of_getElem? (i := 65) (by decide +kernel)⟩
theorem lw_p2 : lw_okq (⟨"ModeDesk", "isTooFast", "()Z"⟩, 12) := ⟨⟨by decide +kernel, by decide +kernel⟩, List.mem_of_getElem? (i := 9) (by decide +kernel), List.mem_of_getElem? (i := 68) (by decide +kernel), List.mem_of_getElem? (i := 69) (by decide +kernel)⟩
theorem lw_p3 : lw_okq (⟨"ModeDesk", "turnOnIfOff", "()V"⟩, 12) := ⟨⟨by decide +kernel, by decide +kernel⟩, List.mem_of_getElem? (i := 9) (by decide +kernel), List.mem_of_getElem? (i := 72) (by decide +kernel), List.mem_of_getElem? (i := 73) (by decide +kernel)⟩
theorem lw_p4 : lw_okq (⟨"ModeDesk", "isOn", "()Z"⟩, 12) := ⟨⟨by decide +kernel, by decide +kernel⟩, List.mem_of_getElem? (i := 9) (by decide +kernel), List.mem_of_getElem? (i := 76) (by decide +kernel), List.mem_of_getElem? (i := 77) (by decide +kernel)⟩
theorem lw_p5 : lw_okq (⟨"ModeDesk", "goToBase", "()V"⟩, 12) := ⟨⟨by decide +kernel, by decide +kernel⟩, List.mem_of_getElem? (i := 9) (by decide +kernel), List.mem_of_getElem? (i := 80) (by decide +kernel), List.mem_of_getElem? (i := 81) (by decide +kernel)⟩
theorem lw_p6 : lw_okq (⟨"ModeDesk", "change", "(IIZ)V"⟩, 12) := ⟨⟨by decide +kernel, by decide +kernel⟩, List.mem_of_getElem? (i := 9) (by decide +kernel), List.mem_of_getElem? (i := 84) (by decide +kernel), List.mem_of_getElem? (i := 85) (by decide +kernel)⟩
theorem lw_p7 : lw_okq (⟨"ModeDesk", "disarmAll", "()V"⟩, 12) := ⟨⟨by decide +kernel, by decide +kernel⟩, List.mem_of_getElem? (i := 9) (by decide +kernel), List.mem_of_getElem? (i := 91) (by decide +kernel), List.mem_of_getElem? (i := 92) (by decide +kernel)⟩
theorem lw_p8 : lw_okq (⟨"ModeDesk", "settle", "()I"⟩, 12) := ⟨⟨by decide +kernel, by decide +kernel⟩, List.mem_of_getElem? (i := 9) (by decide +kernel), List.mem_of_getElem? (i := 95) (by decide +kernel), List.mem_of_getElem? (i := 96) (by decide +kernel)⟩
theorem lw_p9 : lw_okq (⟨"ModeDesk", "comesAboutByItself", "()Z"⟩, 12) := ⟨⟨by decide +kernel, by decide +kernel⟩, List.mem_of_getElem? (i := 9) (by decide +kernel), List.mem_of_getElem? (i := 99) (by decide +kernel), List.mem_of_getElem? (i := 100) (by decide +kernel)⟩
theorem lw_p10 : lw_okq (⟨"ModeDesk", "leaderFails", "()Z"⟩, 12) := ⟨⟨by decide +kernel, by decide +kernel⟩, List.mem_of_getElem? (i := 9) (by decide +kernel), List.mem_of_getElem? (i := 103) (by decide +kernel), List.mem_of_getElem? (i := 104) (by decide +kernel)⟩
theorem lw_p11 : lw_okq (⟨"ModeDesk", "turnOff", "(Z)V"⟩, 12) := ⟨⟨by decide +kernel, by decide +kernel⟩, List.mem_of_getElem? (i := 9) (by decide +kernel), List.mem_of_getElem? (i := 107) (by decide +kernel), List.mem_of_getElem? (i := 108) (by decide +kernel)⟩
theorem lw_p12 : lw_okq (⟨"ModeDesk", "disengageWithWarning", "()V"⟩, 12) := ⟨⟨by decide +kernel, by decide +kernel⟩, List.mem_of_getElem? (i := 9) (by decide +kernel), List.mem_of_getElem? (i := 111) (by decide +kernel), List.mem_of_getElem? (i := 112) (by decide +kernel)⟩
theorem lw_p13 : lw_okq (⟨"ModeDesk", "stopFlashing", "()V"⟩, 12) := ⟨⟨by decide +kernel, by decide +kernel⟩, List.mem_of_getElem? (i := 9) (by decide +kernel), List.mem_of_getElem? (i := 115) (by decide +kernel), List.mem_of_getElem? (i := 116) (by decide +kernel)⟩
theorem lw_p14 : lw_okq (⟨"ModeDesk", "courseIsLost", "()Z"⟩, 12) := ⟨⟨by decide +kernel, by decide +kernel⟩, List.mem_of_getElem? (i := 9) (by decide +kernel), List.mem_of_getElem? (i := 119) (by decide +kernel), List.mem_of_getElem? (i := 120) (by decide +kernel)⟩
theorem lw_p15 : lw_okq (⟨"ModeDesk", "leaveCourseFor", "(IZ)V"⟩, 12) := ⟨⟨by decide +kernel, by decide +kernel⟩, List.mem_of_getElem? (i := 9) (by decide +kernel), List.mem_of_getElem? (i := 123) (by decide +kernel), List.mem_of_getElem? (i := 124) (by decide +kernel)⟩
def lw_privs_1 : List (MethodName × Nat) := [(⟨"ModeDesk", "isAnyChannelSound", "()Z"⟩, 12), (⟨"ModeDesk", "isAroundAnywhere", "()Z"⟩, 12), (⟨"ModeDesk", "isTooFast", "()Z"⟩, 12), (⟨"ModeDesk", "turnOnIfOff", "()V"⟩, 12), (⟨"ModeDesk", "isOn", "()Z"⟩, 12), (⟨"ModeDesk", "goToBase", "()V"⟩, 12), (⟨"ModeDesk", "change", "(IIZ)V"⟩, 12), (⟨"ModeDesk", "disarmAll", "()V"⟩, 12), (⟨"ModeDesk", "settle", "()I"⟩, 12), (⟨"ModeDesk", "comesAboutByItself", "()Z"⟩, 12), (⟨"ModeDesk", "leaderFails", "()Z"⟩, 12), (⟨"ModeDesk", "turnOff", "(Z)V"⟩, 12), (⟨"ModeDesk", "disengageWithWarning", "()V"⟩, 12), (⟨"ModeDesk", "stopFlashing", "()V"⟩, 12), (⟨"ModeDesk", "courseIsLost", "()Z"⟩, 12), (⟨"ModeDesk", "leaveCourseFor", "(IZ)V"⟩, 12)]
theorem lw_r1 : ∀ q ∈ lw_privs_1, lw_okq q := List.forall_mem_cons.mpr ⟨lw_p0, List.forall_mem_cons.mpr ⟨lw_p1, List.forall_mem_cons.mpr ⟨lw_p2, List.forall_mem_cons.mpr ⟨lw_p3, List.forall_mem_cons.mpr ⟨lw_p4, List.forall_mem_cons.mpr ⟨lw_p5, List.forall_mem_cons.mpr ⟨lw_p6, List.forall_mem_cons.mpr ⟨lw_p7, List.forall_mem_cons.mpr ⟨lw_p8, List.forall_mem_cons.mpr ⟨lw_p9, List.forall_mem_cons.mpr ⟨lw_p10, List.forall_mem_cons.mpr ⟨lw_p11, List.forall_mem_cons.mpr ⟨lw_p12, List.forall_mem_cons.mpr ⟨lw_p13, List.forall_mem_cons.mpr ⟨lw_p14, List.forall_mem_cons.mpr ⟨lw_p15, fun _ h => absurd h List.not_mem_nil⟩⟩⟩⟩⟩⟩⟩⟩⟩⟩⟩⟩⟩⟩⟩⟩
theorem lw_p16 : lw_okq (⟨"ModeDesk", "pathIsLost", "()Z"⟩, 12) := ⟨⟨by decide +kernel, by decide +kernel⟩, List.mem_of_getElem? (i := 9) (by decide +kernel), List.mem_of_getElem? (i := 127) (by decide +kernel), List.mem_of_getElem? (i := 128) (by decide +kernel)⟩
theorem lw_p17 : lw_okq (⟨"ModeDesk", "navIsReached", "()Z"⟩, 12) := ⟨⟨by decide +kernel, by decide +kernel⟩, List.mem_of_getElem? (i := 9) (by decide +kernel), List.mem_of_getElem? (i := 131) (by decide +kernel), List.mem_of_getElem? (i := 132) (by decide +kernel)⟩
theorem lw_p18 : lw_okq (⟨"ModeDesk", "isCourseWithin", "(I)Z"⟩, 12) := ⟨⟨by decide +kernel, by decide +kernel⟩, List.mem_of_getElem? (i := 9) (by decide +kernel), List.mem_of_getElem? (i := 135) (by decide +kernel), List.mem_of_getElem? (i := 136) (by decide +kernel)⟩
theorem lw_p19 : lw_okq (⟨"ModeDesk", "approachIsReached", "()Z"⟩, 12) := ⟨⟨by decide +kernel, by decide +kernel⟩, List.mem_of_getElem? (i := 9) (by decide +kernel), List.mem_of_getElem? (i := 142) (by decide +kernel), List.mem_of_getElem? (i := 143) (by decide +kernel)⟩
theorem lw_p20 : lw_okq (⟨"ModeDesk", "glideIsReached", "()Z"⟩, 12) := ⟨⟨by decide +kernel, by decide +kernel⟩, List.mem_of_getElem? (i := 9) (by decide +kernel), List.mem_of_getElem? (i := 146) (by decide +kernel), List.mem_of_getElem? (i := 147) (by decide +kernel)⟩
theorem lw_p21 : lw_okq (⟨"ModeDesk", "isPathWithin", "(I)Z"⟩, 12) := ⟨⟨by decide +kernel, by decide +kernel⟩, List.mem_of_getElem? (i := 9) (by decide +kernel), List.mem_of_getElem? (i := 150) (by decide +kernel), List.mem_of_getElem? (i := 151) (by decide +kernel)⟩
theorem lw_p22 : lw_okq (⟨"ModeDesk", "heightComesNear", "()Z"⟩, 12) := ⟨⟨by decide +kernel, by decide +kernel⟩, List.mem_of_getElem? (i := 9) (by decide +kernel), List.mem_of_getElem? (i := 154) (by decide +kernel), List.mem_of_getElem? (i := 155) (by decide +kernel)⟩
theorem lw_p23 : lw_okq (⟨"ModeDesk", "isCaptureArmed", "()Z"⟩, 12) := ⟨⟨by decide +kernel, by decide +kernel⟩, List.mem_of_getElem? (i := 9) (by decide +kernel), List.mem_of_getElem? (i := 158) (by decide +kernel), List.mem_of_getElem? (i := 159) (by decide +kernel)⟩
theorem lw_p24 : lw_okq (⟨"ModeDesk", "isHeightWithin", "(I)Z"⟩, 12) := ⟨⟨by decide +kernel, by decide +kernel⟩, List.mem_of_getElem? (i := 9) (by decide +kernel), List.mem_of_getElem? (i := 162) (by decide +kernel), List.mem_of_getElem? (i := 163) (by decide +kernel)⟩
theorem lw_p25 : lw_okq (⟨"ModeDesk", "heightIsReached", "()Z"⟩, 12) := ⟨⟨by decide +kernel, by decide +kernel⟩, List.mem_of_getElem? (i := 9) (by decide +kernel), List.mem_of_getElem? (i := 166) (by decide +kernel), List.mem_of_getElem? (i := 167) (by decide +kernel)⟩
theorem lw_p26 : lw_okq (⟨"ModeDesk", "heightIsLost", "()Z"⟩, 12) := ⟨⟨by decide +kernel, by decide +kernel⟩, List.mem_of_getElem? (i := 9) (by decide +kernel), List.mem_of_getElem? (i := 170) (by decide +kernel), List.mem_of_getElem? (i := 171) (by decide +kernel)⟩
theorem lw_p27 : lw_okq (⟨"ModeDesk", "climbIsTooFast", "()Z"⟩, 12) := ⟨⟨by decide +kernel, by decide +kernel⟩, List.mem_of_getElem? (i := 9) (by decide +kernel), List.mem_of_getElem? (i := 174) (by decide +kernel), List.mem_of_getElem? (i := 175) (by decide +kernel)⟩
theorem lw_p28 : lw_okq (⟨"java/lang/Throwable", "fillInStackTrace", "(I)Ljava/lang/Throwable;"⟩, 6) := ⟨⟨by decide +kernel, by decide +kernel⟩, List.mem_of_getElem? (i := 234) (by decide +kernel), List.mem_of_getElem? (i := 232) (by decide +kernel), List.mem_of_getElem? (i := 233) (by decide +kernel)⟩
theorem lw_p29 : lw_okq (⟨"ModeDesk", "stateAsNumber", "()I"⟩, 12) := ⟨⟨by decide +kernel, by decide +kernel⟩, List.mem_of_getElem? (i := 9) (by decide +kernel), List.mem_of_getElem? (i := 264) (by decide +kernel), List.mem_of_getElem? (i := 265) (by decide +kernel)⟩
theorem lw_p30 : lw_okq (⟨"ModeDesk", "obey", "(I)V"⟩, 12) := ⟨⟨by decide +kernel, by decide +kernel⟩, List.mem_of_getElem? (i := 9) (by decide +kernel), List.mem_of_getElem? (i := 268) (by decide +kernel), List.mem_of_getElem? (i := 269) (by decide +kernel)⟩
theorem lw_p31 : lw_okq (⟨"ModeDesk", "obeyHeading", "()V"⟩, 12) := ⟨⟨by decide +kernel, by decide +kernel⟩, List.mem_of_getElem? (i := 9) (by decide +kernel), List.mem_of_getElem? (i := 272) (by decide +kernel), List.mem_of_getElem? (i := 273) (by decide +kernel)⟩
def lw_privs_2 : List (MethodName × Nat) := [(⟨"ModeDesk", "pathIsLost", "()Z"⟩, 12), (⟨"ModeDesk", "navIsReached", "()Z"⟩, 12), (⟨"ModeDesk", "isCourseWithin", "(I)Z"⟩, 12), (⟨"ModeDesk", "approachIsReached", "()Z"⟩, 12), (⟨"ModeDesk", "glideIsReached", "()Z"⟩, 12), (⟨"ModeDesk", "isPathWithin", "(I)Z"⟩, 12), (⟨"ModeDesk", "heightComesNear", "()Z"⟩, 12), (⟨"ModeDesk", "isCaptureArmed", "()Z"⟩, 12), (⟨"ModeDesk", "isHeightWithin", "(I)Z"⟩, 12), (⟨"ModeDesk", "heightIsReached", "()Z"⟩, 12), (⟨"ModeDesk", "heightIsLost", "()Z"⟩, 12), (⟨"ModeDesk", "climbIsTooFast", "()Z"⟩, 12), (⟨"java/lang/Throwable", "fillInStackTrace", "(I)Ljava/lang/Throwable;"⟩, 6), (⟨"ModeDesk", "stateAsNumber", "()I"⟩, 12), (⟨"ModeDesk", "obey", "(I)V"⟩, 12), (⟨"ModeDesk", "obeyHeading", "()V"⟩, 12)]
theorem lw_r2 : ∀ q ∈ lw_privs_2, lw_okq q := List.forall_mem_cons.mpr ⟨lw_p16, List.forall_mem_cons.mpr ⟨lw_p17, List.forall_mem_cons.mpr ⟨lw_p18, List.forall_mem_cons.mpr ⟨lw_p19, List.forall_mem_cons.mpr ⟨lw_p20, List.forall_mem_cons.mpr ⟨lw_p21, List.forall_mem_cons.mpr ⟨lw_p22, List.forall_mem_cons.mpr ⟨lw_p23, List.forall_mem_cons.mpr ⟨lw_p24, List.forall_mem_cons.mpr ⟨lw_p25, List.forall_mem_cons.mpr ⟨lw_p26, List.forall_mem_cons.mpr ⟨lw_p27, List.forall_mem_cons.mpr ⟨lw_p28, List.forall_mem_cons.mpr ⟨lw_p29, List.forall_mem_cons.mpr ⟨lw_p30, List.forall_mem_cons.mpr ⟨lw_p31, fun _ h => absurd h List.not_mem_nil⟩⟩⟩⟩⟩⟩⟩⟩⟩⟩⟩⟩⟩⟩⟩⟩
theorem lw_p32 : lw_okq (⟨"ModeDesk", "obeyNav", "()V"⟩, 12) := ⟨⟨by decide +kernel, by decide +kernel⟩, List.mem_of_getElem? (i := 9) (by decide +kernel), List.mem_of_getElem? (i := 276) (by decide +kernel), List.mem_of_getElem? (i := 277) (by decide +kernel)⟩
theorem lw_p33 : lw_okq (⟨"ModeDesk", "obeyApproach", "()V"⟩, 12) := ⟨⟨by decide +kernel, by decide +kernel⟩, List.mem_of_getElem? (i := 9) (by decide +kernel), List.mem_of_getElem? (i := 280) (by decide +kernel), List.mem_of_getElem? (i := 281) (by decide +kernel)⟩
theorem lw_p34 : lw_okq (⟨"ModeDesk", "obeyVertical", "(I)V"⟩, 12) := ⟨⟨by decide +kernel, by decide +kernel⟩, List.mem_of_getElem? (i := 9) (by decide +kernel), List.mem_of_getElem? (i := 284) (by decide +kernel), List.mem_of_getElem? (i := 285) (by decide +kernel)⟩
theorem lw_p35 : lw_okq (⟨"ModeDesk", "obeyAround", "()V"⟩, 12) := ⟨⟨by decide +kernel, by decide +kernel⟩, List.mem_of_getElem? (i := 9) (by decide +kernel), List.mem_of_getElem? (i := 288) (by decide +kernel), List.mem_of_getElem? (i := 289) (by decide +kernel)⟩
theorem lw_p36 : lw_okq (⟨"ModeDesk", "obeySync", "()V"⟩, 12) := ⟨⟨by decide +kernel, by decide +kernel⟩, List.mem_of_getElem? (i := 9) (by decide +kernel), List.mem_of_getElem? (i := 292) (by decide +kernel), List.mem_of_getElem? (i := 293) (by decide +kernel)⟩
theorem lw_p37 : lw_okq (⟨"ModeDesk", "obeyTransfer", "()V"⟩, 12) := ⟨⟨by decide +kernel, by decide +kernel⟩, List.mem_of_getElem? (i := 9) (by decide +kernel), List.mem_of_getElem? (i := 296) (by decide +kernel), List.mem_of_getElem? (i := 297) (by decide +kernel)⟩
theorem lw_p38 : lw_okq (⟨"ModeDesk", "obeyDirector", "()V"⟩, 12) := ⟨⟨by decide +kernel, by decide +kernel⟩, List.mem_of_getElem? (i := 9) (by decide +kernel), List.mem_of_getElem? (i := 300) (by decide +kernel), List.mem_of_getElem? (i := 301) (by decide +kernel)⟩
theorem lw_p39 : lw_okq (⟨"ModeDeskModel", "good", "(Z)Z"⟩, 15) := ⟨⟨by decide +kernel, by decide +kernel⟩, List.mem_of_getElem? (i := 359) (by decide +kernel), List.mem_of_getElem? (i := 419) (by decide +kernel), List.mem_of_getElem? (i := 420) (by decide +kernel)⟩
theorem lw_p40 : lw_okq (⟨"ModeDeskModel", "sum", "()I"⟩, 15) := ⟨⟨by decide +kernel, by decide +kernel⟩, List.mem_of_getElem? (i := 359) (by decide +kernel), List.mem_of_getElem? (i := 423) (by decide +kernel), List.mem_of_getElem? (i := 424) (by decide +kernel)⟩
theorem lw_p41 : lw_okq (⟨"ModeDeskModel", "base", "(I)V"⟩, 15) := ⟨⟨by decide +kernel, by decide +kernel⟩, List.mem_of_getElem? (i := 359) (by decide +kernel), List.mem_of_getElem? (i := 427) (by decide +kernel), List.mem_of_getElem? (i := 428) (by decide +kernel)⟩
theorem lw_p42 : lw_okq (⟨"ModeDeskModel", "noneArmed", "()V"⟩, 15) := ⟨⟨by decide +kernel, by decide +kernel⟩, List.mem_of_getElem? (i := 359) (by decide +kernel), List.mem_of_getElem? (i := 431) (by decide +kernel), List.mem_of_getElem? (i := 432) (by decide +kernel)⟩
theorem lw_p43 : lw_okq (⟨"ModeDeskModel", "lateralTo", "(II)V"⟩, 15) := ⟨⟨by decide +kernel, by decide +kernel⟩, List.mem_of_getElem? (i := 359) (by decide +kernel), List.mem_of_getElem? (i := 435) (by decide +kernel), List.mem_of_getElem? (i := 436) (by decide +kernel)⟩
theorem lw_p44 : lw_okq (⟨"ModeDeskModel", "keep", "(IIII)V"⟩, 15) := ⟨⟨by decide +kernel, by decide +kernel⟩, List.mem_of_getElem? (i := 359) (by decide +kernel), List.mem_of_getElem? (i := 439) (by decide +kernel), List.mem_of_getElem? (i := 440) (by decide +kernel)⟩
theorem lw_p45 : lw_okq (⟨"ModeDeskModel", "verticalTo", "(II)V"⟩, 15) := ⟨⟨by decide +kernel, by decide +kernel⟩, List.mem_of_getElem? (i := 359) (by decide +kernel), List.mem_of_getElem? (i := 443) (by decide +kernel), List.mem_of_getElem? (i := 444) (by decide +kernel)⟩
theorem lw_p46 : lw_okq (⟨"ModeDeskModel", "button", "(I)V"⟩, 15) := ⟨⟨by decide +kernel, by decide +kernel⟩, List.mem_of_getElem? (i := 359) (by decide +kernel), List.mem_of_getElem? (i := 447) (by decide +kernel), List.mem_of_getElem? (i := 448) (by decide +kernel)⟩
theorem lw_p47 : lw_okq (⟨"ModeDeskModel", "outOfApproach", "(I)V"⟩, 15) := ⟨⟨by decide +kernel, by decide +kernel⟩, List.mem_of_getElem? (i := 359) (by decide +kernel), List.mem_of_getElem? (i := 451) (by decide +kernel), List.mem_of_getElem? (i := 452) (by decide +kernel)⟩
def lw_privs_3 : List (MethodName × Nat) := [(⟨"ModeDesk", "obeyNav", "()V"⟩, 12), (⟨"ModeDesk", "obeyApproach", "()V"⟩, 12), (⟨"ModeDesk", "obeyVertical", "(I)V"⟩, 12), (⟨"ModeDesk", "obeyAround", "()V"⟩, 12), (⟨"ModeDesk", "obeySync", "()V"⟩, 12), (⟨"ModeDesk", "obeyTransfer", "()V"⟩, 12), (⟨"ModeDesk", "obeyDirector", "()V"⟩, 12), (⟨"ModeDeskModel", "good", "(Z)Z"⟩, 15), (⟨"ModeDeskModel", "sum", "()I"⟩, 15), (⟨"ModeDeskModel", "base", "(I)V"⟩, 15), (⟨"ModeDeskModel", "noneArmed", "()V"⟩, 15), (⟨"ModeDeskModel", "lateralTo", "(II)V"⟩, 15), (⟨"ModeDeskModel", "keep", "(IIII)V"⟩, 15), (⟨"ModeDeskModel", "verticalTo", "(II)V"⟩, 15), (⟨"ModeDeskModel", "button", "(I)V"⟩, 15), (⟨"ModeDeskModel", "outOfApproach", "(I)V"⟩, 15)]
theorem lw_r3 : ∀ q ∈ lw_privs_3, lw_okq q := List.forall_mem_cons.mpr ⟨lw_p32, List.forall_mem_cons.mpr ⟨lw_p33, List.forall_mem_cons.mpr ⟨lw_p34, List.forall_mem_cons.mpr ⟨lw_p35, List.forall_mem_cons.mpr ⟨lw_p36, List.forall_mem_cons.mpr ⟨lw_p37, List.forall_mem_cons.mpr ⟨lw_p38, List.forall_mem_cons.mpr ⟨lw_p39, List.forall_mem_cons.mpr ⟨lw_p40, List.forall_mem_cons.mpr ⟨lw_p41, List.forall_mem_cons.mpr ⟨lw_p42, List.forall_mem_cons.mpr ⟨lw_p43, List.forall_mem_cons.mpr ⟨lw_p44, List.forall_mem_cons.mpr ⟨lw_p45, List.forall_mem_cons.mpr ⟨lw_p46, List.forall_mem_cons.mpr ⟨lw_p47, fun _ h => absurd h List.not_mem_nil⟩⟩⟩⟩⟩⟩⟩⟩⟩⟩⟩⟩⟩⟩⟩⟩
theorem lw_p48 : lw_okq (⟨"ModeDeskModel", "navButton", "()V"⟩, 15) := ⟨⟨by decide +kernel, by decide +kernel⟩, List.mem_of_getElem? (i := 359) (by decide +kernel), List.mem_of_getElem? (i := 455) (by decide +kernel), List.mem_of_getElem? (i := 456) (by decide +kernel)⟩
theorem lw_p49 : lw_okq (⟨"ModeDeskModel", "approachButton", "()V"⟩, 15) := ⟨⟨by decide +kernel, by decide +kernel⟩, List.mem_of_getElem? (i := 359) (by decide +kernel), List.mem_of_getElem? (i := 459) (by decide +kernel), List.mem_of_getElem? (i := 460) (by decide +kernel)⟩
theorem lw_p50 : lw_okq (⟨"ModeDeskModel", "isBad", "(I)Z"⟩, 15) := ⟨⟨by decide +kernel, by decide +kernel⟩, List.mem_of_getElem? (i := 359) (by decide +kernel), List.mem_of_getElem? (i := 463) (by decide +kernel), List.mem_of_getElem? (i := 464) (by decide +kernel)⟩
theorem lw_p51 : lw_okq (⟨"ModeDeskModel", "goOff", "(I)V"⟩, 15) := ⟨⟨by decide +kernel, by decide +kernel⟩, List.mem_of_getElem? (i := 359) (by decide +kernel), List.mem_of_getElem? (i := 467) (by decide +kernel), List.mem_of_getElem? (i := 468) (by decide +kernel)⟩
theorem lw_p52 : lw_okq (⟨"ModeDeskModel", "settle", "()I"⟩, 15) := ⟨⟨by decide +kernel, by decide +kernel⟩, List.mem_of_getElem? (i := 359) (by decide +kernel), List.mem_of_getElem? (i := 471) (by decide +kernel), List.mem_of_getElem? (i := 472) (by decide +kernel)⟩
theorem lw_p53 : lw_okq (⟨"ModeDeskModel", "rule", "()I"⟩, 15) := ⟨⟨by decide +kernel, by decide +kernel⟩, List.mem_of_getElem? (i := 359) (by decide +kernel), List.mem_of_getElem? (i := 475) (by decide +kernel), List.mem_of_getElem? (i := 476) (by decide +kernel)⟩
theorem lw_p54 : lw_okq (⟨"ModeDeskModel", "apart", "()I"⟩, 15) := ⟨⟨by decide +kernel, by decide +kernel⟩, List.mem_of_getElem? (i := 359) (by decide +kernel), List.mem_of_getElem? (i := 482) (by decide +kernel), List.mem_of_getElem? (i := 483) (by decide +kernel)⟩
theorem lw_p55 : lw_okq (⟨"ModeDeskModel", "comes", "(I)V"⟩, 15) := ⟨⟨by decide +kernel, by decide +kernel⟩, List.mem_of_getElem? (i := 359) (by decide +kernel), List.mem_of_getElem? (i := 486) (by decide +kernel), List.mem_of_getElem? (i := 487) (by decide +kernel)⟩
def lw_privs_4 : List (MethodName × Nat) := [(⟨"ModeDeskModel", "navButton", "()V"⟩, 15), (⟨"ModeDeskModel", "approachButton", "()V"⟩, 15), (⟨"ModeDeskModel", "isBad", "(I)Z"⟩, 15), (⟨"ModeDeskModel", "goOff", "(I)V"⟩, 15), (⟨"ModeDeskModel", "settle", "()I"⟩, 15), (⟨"ModeDeskModel", "rule", "()I"⟩, 15), (⟨"ModeDeskModel", "apart", "()I"⟩, 15), (⟨"ModeDeskModel", "comes", "(I)V"⟩, 15)]
theorem lw_r4 : ∀ q ∈ lw_privs_4, lw_okq q := List.forall_mem_cons.mpr ⟨lw_p48, List.forall_mem_cons.mpr ⟨lw_p49, List.forall_mem_cons.mpr ⟨lw_p50, List.forall_mem_cons.mpr ⟨lw_p51, List.forall_mem_cons.mpr ⟨lw_p52, List.forall_mem_cons.mpr ⟨lw_p53, List.forall_mem_cons.mpr ⟨lw_p54, List.forall_mem_cons.mpr ⟨lw_p55, fun _ h => absurd h List.not_mem_nil⟩⟩⟩⟩⟩⟩⟩⟩
def lw_privs : List (MethodName × Nat) := lw_privs_1 ++ (lw_privs_2 ++ (lw_privs_3 ++ (lw_privs_4)))
def lw_tbl : List Cond := k2_sels lw_privs ++ tables_1
theorem lw_privs_ok : ∀ q ∈ lw_privs, lw_okq q := by
  show ∀ q ∈ lw_privs_1 ++ (lw_privs_2 ++ (lw_privs_3 ++ (lw_privs_4))), lw_okq q
  exact List.forall_mem_append.mpr ⟨lw_r1, List.forall_mem_append.mpr ⟨lw_r2, List.forall_mem_append.mpr ⟨lw_r3, lw_r4⟩⟩⟩
end
section
/-! ===== BEGIN words of one list among another's, by their places ===== -/
theorem goodIn_r {big : List Cond} (ws : List Cond) (ps : List Nat) (hp : ws = ps.filterMap (fun i => big[i]?)) (h : ws.all goodWord = true) : GoodIn big ws := by
  intro w hw
  have h1 := List.all_eq_true.mp h w hw
  rw [hp] at hw
  obtain ⟨i, -, hi⟩ := List.mem_filterMap.mp hw
  have hm : w ∈ big := by first | exact List.mem_of_getElem? hi | exact List.getElem?_mem hi
  exact ⟨hm, good_of_word h1⟩
theorem goodIn_app {big a b : List Cond} (ha : GoodIn big a) (hb : GoodIn big b) : GoodIn big (a ++ b) := fun w h => (List.mem_append.mp h).elim (ha w) (hb w)
theorem goodIn_ca {big a b : List Cond} {c : Cond} (ha : GoodIn big (c :: a)) (hb : GoodIn big b) : GoodIn big (c :: (a ++ b)) := fun w h => (List.mem_cons.mp h).elim (fun e => ha w (List.mem_cons.mpr (Or.inl e))) (fun h => (List.mem_append.mp h).elim (fun h => ha w (List.mem_cons.mpr (Or.inr h))) (hb w))
theorem goodIn_sub {big ws : List Cond} (hm : ∀ w ∈ ws, w ∈ big) (h : ws.all goodWord = true) : GoodIn big ws := fun w hw => ⟨hm w hw, good_of_word (List.all_eq_true.mp h w hw)⟩
/-! ===== END ===== -/

/-! ===== BEGIN exceptions that leave a method, and their catching by the caller (launches without stack traces) ===== -/
section VXA
/-! The laws vx_back, vx_callV, vx_callS, vx_callSW, vx_throw0, vx_throwS follow proofs of the library, with one case more: JvmDerived/Free/Laws.lean (Back.of_free), Shelf42/LK1.lean (callV, callS), Shelf/KitTraced.lean (throwNew0V, throwNewS). -/
/-- where a method has thrown q: the class by its name, the cell, what was written, the world -/
def vx_T (XC : String → State → State → Prop) (st : State) (q : Addr) (t : State) (mc ms : Nat) (free : Addr → Prop) : Prop :=
  ∃ (E : String) (ce : Cell) (L : List Loc), XC E st t ∧ t.heap[q]? = some ce ∧ ce.vm = .none ∧ st.vm.findClass E = some ce.cls ∧ st.WarmedH t.vm ∧ st.sameButNew ({ t with vm := st.vm } : State) L mc ms ∧ ∀ z ∈ L, free z.base
def vx_Q (Qc : Array Value → State → Outcome → State → Prop) (XC : String → State → State → Prop) (mc ms : Nat) (free : Addr → Prop) : Array Value → State → Outcome → State → Prop := fun a st o t =>
  (Qc a st o t ∧ ∃ L, FrameEnd st o t L mc ms ∧ ∀ q ∈ L, free q.base) ∨ ∃ q, o = .threw q ∧ vx_T XC st q t mc ms free
/-- a callee that returns or throws -/
def vx_Met (l : Launch) (y : MethodName) (ws : List Cond) (rm : Room) (Pc : Array Value → State → Prop) (Qc : Array Value → State → Outcome → State → Prop) (XC : String → State → State → Prop) (mc ms : Nat) (free : Addr → Prop) : Prop :=
  MetFree l y (headSpec ws rm) Pc (fun _ _ _ _ _ => True) (vx_Q Qc XC mc ms free)
def vx_Post (XC : String → State → State → Prop) (mc ms : Nat) (free : Addr → Prop) : Pt → Array Value → Addr → Pt → Prop := fun A a q B =>
  ∃ (g : JFrame) (mk : MethodId) (t : State) (L : List Loc) (E : String) (ce : Cell), B.U.heap = t.heap ∧ B.U.vm = t.vm ∧ XC E (A.U.calling g mk a) t ∧ t.heap[q]? = some ce ∧ ce.vm = .none ∧ A.U.vm.findClass E = some ce.cls ∧ B.locs = A.locs ++ L ∧ (∀ z ∈ L, free z.base) ∧ B.cells = A.cells + mc ∧ B.slots = A.slots + ms
def vx_Back (l : Launch) (R : Room) (p : Program) (e : Env) (below : List Frame) (s : State) (sargs : Array Value) (y : MethodName) (len W9 : Nat)
    (Pre : Pt → Array Value → Prop) (Post : Pt → Array Value → Option Value → Pt → Prop) (PostX : Pt → Array Value → Addr → Pt → Prop) : Prop :=
  ∀ (m : MethodId) (meth : Method) (c : Code) (A : Pt) (g : JFrame) (ig : Instr) (mk : MethodId) (a : Array Value),
    Stand p l e R s m sargs below meth c A.U A.locs A.cells A.slots → g.method = m → g.locals.size = c.maxLocals → decode c.code g.pc = .ok (ig, len) →
    2 * g.monitorRoom + (g.stack.map fun v => v.category).sum ≤ W9 → A.U.methodNamed? y = some mk → Pre A a →
    (∃ (v : Option Value) (B : Pt), Stand p l e R s m sargs below meth c B.U B.locs B.cells B.slots ∧ Post A a v B ∧
      Steps p.tables e below (doInvoke e (A.U.setTop g) [] mk a).1 (B.U.setTop { g with pc := g.pc + len, stack := v.toList ++ g.stack })) ∨
    (∃ (q : Addr) (B : Pt), Stand p l e R s m sargs below meth c B.U B.locs B.cells B.slots ∧ PostX A a q B ∧
      Steps p.tables e below (doInvoke e (A.U.setTop g) [] mk a).1 ((B.U.setTop g).pushFrame (.throwing q)))
section Payer
variable {l : Launch} {R : Room} {p : Program} {e : Env} {below : List Frame} {s : State} {sargs : Array Value} {y : MethodName} {len W9 : Nat}
theorem vx_back {ws : List Cond} {rm : Room} {Pc : Array Value → State → Prop} {Qc : Array Value → State → Outcome → State → Prop} {XC : String → State → State → Prop} {mc ms : Nat} {free : Addr → Prop} {bytes : ByteArray} {maxL : Nat} {ret : Option FieldType}
    (hM : vx_Met l y ws rm Pc Qc XC mc ms free) (hblind : FrameBlind Pc) (hrc : rm.cells = mc) (hrs : rm.slots = ms)
    (hframes : rm.frames + 1 ≤ R.frames) (hlocals : W9 + (maxL + 11) + rm.locals ≤ R.locals)
    (hws : ∀ w ∈ ws, ∀ a' U, s.WarmedH U.vm → w.before a' U = true) (hcode : Cond.code y bytes maxL ret ∈ ws) (hinit : ∀ a' U, s.WarmedH U.vm → (Cond.initialized y.cls).before a' U = true) :
    vx_Back l R p e below s sargs y len W9 (PreOf R mc ms Pc) (PostOf Qc mc ms free) (vx_Post XC mc ms free) := by
  intro m meth c A g ig mk a X hg hsize hdg hW hn hp
  have h1 : (headSpec ws rm).pre.before a A.U = true := atoms_intro fun w hw => hws w hw _ _ X.warmed
  have h2 : (Cond.code y bytes maxL ret).before a A.U = true := hws _ hcode _ _ X.warmed
  have h3 : (Cond.initialized y.cls).before a A.U = true := hinit _ _ X.warmed
  have h4 : A.cells + (headSpec ws rm).room.cells ≤ R.cells := by rw [show (headSpec ws rm).room.cells = mc from hrc]; exact hp.1
  have h5 : A.slots + (headSpec ws rm).room.slots ≤ R.slots := by rw [show (headSpec ws rm).room.slots = ms from hrs]; exact hp.2.1
  have hPc : Pc a (A.U.calling g mk a) := hblind _ _ _ _ hp.2.2
  obtain ⟨U, Ls, c0, s0⟩ := A
  dsimp only [Pt.U, Pt.locs, Pt.cells, Pt.slots] at h1 h2 h3 h4 h5 X hn hPc ⊢
  obtain ⟨methY, cY, hmY, hcY, -, hlY, -, -, -, -⟩ := Cond.code_spec hn h2
  obtain ⟨kY, hkY, -⟩ := className_of_methodNamed hn
  have hinitY : kY.init = .initialized := Cond.initialized_spec (findClass_of_methodNamed hn) hkY h3
  have h : At U g.method c below := by rw [hg]; exact X.here
  have hlocals9 : W9 + (maxL + 11) + (headSpec ws rm).room.locals ≤ R.locals := hlocals
  have happ : (headSpec ws rm).appliesLoose y e.platform (U.calling g mk a) = true :=
    Spec.appliesLoose_calling (g := g) h hdg hn hkY hinitY
      (X.room_calling (g := g) (R' := (headSpec ws rm).room) hsize hmY hcY hframes (by rw [hlY]; omega) h4 h5) h1
  obtain ⟨mid, hmid⟩ := h.above
  have hfr : (U.setTop g).frames = (.java g :: mid) ++ below := by rw [State.frames_setTop' g h.top, hmid]; rfl
  obtain ⟨o, s₂, hsteps, -, hend, hq⟩ := Steps.callFree hM p X.admits X.cas X.clock (acts := []) hfr happ hPc trivial
  have hq' : vx_Q Qc XC mc ms free a (U.calling g mk a) o s₂ := hq
  rw [State.frames_setTop' g h.top] at hend
  obtain ⟨g₀, hg0⟩ := Option.isSome_iff_exists.mp h.top
  obtain ⟨r, hr⟩ := State.topJava?_eq_some.mp hg0
  have hr' : (({ U with heap := s₂.heap, slotsUsed := s₂.slotsUsed } : State).setVm s₂.vm).frames = .java g₀ :: r := hr
  rcases hq' with ⟨hqc, L, hfe, hL⟩ | ⟨q, rfl, E, ce, L, hx, hce, hcv, hcl, hW₂, hsm, hL⟩
  · obtain ⟨⟨v, rfl⟩, hW₂, e2, q2, q3, q4, q5, q6⟩ := id hfe
    have e3 : s₂ = ({ (U.calling g mk a).setFrames s₂.frames with heap := s₂.heap, slotsUsed := s₂.slotsUsed } : State).setVm s₂.vm := by
      have : s₂ = ({ s₂ with vm := (U.calling g mk a).vm } : State).setVm s₂.vm := rfl
      rw [e2] at this
      exact this
    obtain ⟨c₂, i₂, len₂, hc₂, hd₂, hf₂⟩ := hend
    have hW' : U.WarmedH s₂.vm := hW₂
    have hcc : c₂ = c := by
      have h1 : s₂.code? g.method = U.code? g.method := by
        rw [State.code?_eq, State.code?_eq, hW'.alike.method?]
      exact Option.some.inj (hc₂.symm.trans (h1.trans h.code))
    subst hcc
    have hlen : len₂ = len := by rw [hdg] at hd₂; cases hd₂; rfl
    subst hlen
    have hs₂ : s₂ = (({ U with heap := s₂.heap, slotsUsed := s₂.slotsUsed } : State).setVm s₂.vm).setTop { g with pc := g.pc + len₂, stack := v.toList ++ g.stack } := by
      refine e3.trans ?_
      rw [hf₂, State.calling_eq h.top, State.setFrames_setFrames, State.setTop_of_frames _ hr', hr]
      rfl
    have hsame : U.sameButNew ({ U with heap := s₂.heap, slotsUsed := s₂.slotsUsed } : State) L mc ms := by
      refine ⟨?_, q2, q3, q4, q5, q6⟩
      obtain ⟨t, ht, -⟩ := State.frames_cons hr
      show ({ U with heap := s₂.heap, slotsUsed := s₂.slotsUsed } : State) = { U.setFrames U.frames with heap := s₂.heap, slotsUsed := s₂.slotsUsed }
      rw [State.setFrames_self ht]
    subst hg
    refine Or.inl ⟨v, ⟨(({ U with heap := s₂.heap, slotsUsed := s₂.slotsUsed } : State).setVm s₂.vm), Ls ++ L, c0 + mc, s0 + ms⟩,
      ⟨X.admits, X.cas, X.clock, X.frames, X.room, X.hears, X.method, X.code, (X.here.setHeapUsed s₂.heap s₂.slotsUsed).setVm hW'.alike, X.tail, State.WarmedH.trans X.warmed hW', X.limits, X.bytes, X.same.trans (hsame.setVm s.vm)⟩,
      ⟨g, mk, s₂, L, rfl, rfl, hqc, rfl, hL, rfl, rfl⟩, ?_⟩
    show Steps p.tables e below _ ((({ U with heap := s₂.heap, slotsUsed := s₂.slotsUsed } : State).setVm s₂.vm).setTop { g with pc := g.pc + len₂, stack := v.toList ++ g.stack })
    rw [← hs₂]
    exact hsteps
  · obtain ⟨e2, q2, q3, q4, q5, q6⟩ := id hsm
    have e3 : s₂ = ({ (U.calling g mk a).setFrames s₂.frames with heap := s₂.heap, slotsUsed := s₂.slotsUsed } : State).setVm s₂.vm := by
      have : s₂ = ({ s₂ with vm := (U.calling g mk a).vm } : State).setVm s₂.vm := rfl
      rw [e2] at this
      exact this
    have hf₂ : s₂.frames = .throwing q :: .java g :: U.frames.tail := hend
    have hW' : U.WarmedH s₂.vm := hW₂
    have hs₂ : s₂ = ((({ U with heap := s₂.heap, slotsUsed := s₂.slotsUsed } : State).setVm s₂.vm).setTop g).pushFrame (.throwing q) := by
      refine e3.trans ?_
      rw [hf₂, State.calling_eq h.top, State.setFrames_setFrames, State.pushFrame, State.frames_setTop _ hr', State.setTop_of_frames _ hr', State.setFrames_setFrames, hr]
      rfl
    have hsame : U.sameButNew ({ U with heap := s₂.heap, slotsUsed := s₂.slotsUsed } : State) L mc ms := by
      refine ⟨?_, q2, q3, q4, q5, q6⟩
      obtain ⟨t, ht, -⟩ := State.frames_cons hr
      show ({ U with heap := s₂.heap, slotsUsed := s₂.slotsUsed } : State) = { U.setFrames U.frames with heap := s₂.heap, slotsUsed := s₂.slotsUsed }
      rw [State.setFrames_self ht]
    subst hg
    refine Or.inr ⟨q, ⟨(({ U with heap := s₂.heap, slotsUsed := s₂.slotsUsed } : State).setVm s₂.vm), Ls ++ L, c0 + mc, s0 + ms⟩,
      ⟨X.admits, X.cas, X.clock, X.frames, X.room, X.hears, X.method, X.code, (X.here.setHeapUsed s₂.heap s₂.slotsUsed).setVm hW'.alike, X.tail, State.WarmedH.trans X.warmed hW', X.limits, X.bytes, X.same.trans (hsame.setVm s.vm)⟩,
      ⟨g, mk, s₂, L, E, ce, rfl, rfl, hx, hce, hcv, hcl, rfl, hL, rfl, rfl⟩, ?_⟩
    show Steps p.tables e below _ (((({ U with heap := s₂.heap, slotsUsed := s₂.slotsUsed } : State).setVm s₂.vm).setTop g).pushFrame (.throwing q))
    rw [← hs₂]
    exact hsteps
end Payer
section Calls
variable {p : Program} {l : Launch} {e : Env} {R : Room} {s : State} {m : MethodId} {args : Array Value} {below : List Frame} {meth : Method} {c : Code} {T : State} {locs : List Loc} {cells slots : Nat}
theorem vx_callV (X : Stand p l e R s m args below meth c T locs cells slots) (hexec : p.tables.exec = Jvm.exec) {own C : String} {index : Nat} {y : MethodName} {bytes : ByteArray} {maxL : Nat} {ret : Option FieldType}
    (hown : s.vm.findClass own = some m.cls) (hlink : (Cond.methodLink own index y).before args s = true) (hinst : (Cond.instanceMethod y).before args s = true) (hsel : (Cond.selects C y y).before args s = true)
    (hcode : (Cond.code y bytes maxL ret).before args s = true) (hy : y.cls ≠ "java/lang/invoke/MethodHandle" ∧ y.cls ≠ "java/lang/invoke/VarHandle")
    {W9 : Nat} {Pre : Pt → Array Value → Prop} {Post : Pt → Array Value → Option Value → Pt → Prop} {PostX : Pt → Array Value → Addr → Pt → Prop} (hK : vx_Back l R p e below s args y 3 W9 Pre Post PostX)
    {b : Addr} {cellB : Cell} (hcell : T.heap[b]? = some cellB) (hobj : cellB.vm.isStatics = false) (hcls : s.vm.findClass C = some cellB.cls)
    {g : JFrame} (hg : g.method = m) (hsize : g.locals.size = c.maxLocals) {argsL rest : List Value} (hlen : ∀ sig, parseMethodDescriptor y.desc = some sig → argsL.length = sig.parameters.length)
    (hstack : g.stack = argsL.reverse ++ .ref b :: rest) (hW : 2 * g.monitorRoom + (rest.map fun v => v.category).sum ≤ W9) (hdg : decode c.code g.pc = .ok (.invokevirtual index, 3))
    (hpre : ∀ vm₁, s.WarmedH vm₁ → Pre ⟨T.setVm vm₁, locs, cells, slots⟩ (Value.ref b :: argsL).toArray) :
    (∃ (v : Option Value) (vm₁ : Vm) (B : Pt), s.WarmedH vm₁ ∧ Stand p l e R s m args below meth c B.U B.locs B.cells B.slots ∧ Post ⟨T.setVm vm₁, locs, cells, slots⟩ (Value.ref b :: argsL).toArray v B ∧
      ∀ target, Steps p.tables e below (B.U.setTop { g with pc := g.pc + 3, stack := v.toList ++ rest }) target → Steps p.tables e below (T.setTop g) target) ∨
    (∃ (q : Addr) (vm₁ : Vm) (B : Pt), s.WarmedH vm₁ ∧ Stand p l e R s m args below meth c B.U B.locs B.cells B.slots ∧ PostX ⟨T.setVm vm₁, locs, cells, slots⟩ (Value.ref b :: argsL).toArray q B ∧
      Steps p.tables e below (T.setTop g) ((B.U.setTop { g with stack := rest }).pushFrame (.throwing q))) := by
  obtain ⟨mk, methM, hnamed, hmethM, hstM, habM⟩ := Cond.instanceMethod_spec hinst
  obtain ⟨methM', cM, hmethM', -, -, -, -, -, -, hsigM⟩ := Cond.code_spec hnamed hcode
  cases hmethM.symm.trans hmethM'
  obtain ⟨c2, r2, m2, q1, q2, q3, q4, kP, hkP, hkPi⟩ := Cond.selects_spec hsel
  cases hcls.symm.trans q1
  cases (State.methodFound?_of_named hnamed hy).symm.trans q2
  cases hnamed.symm.trans q3
  have hselP : selectMethod e.platform s.vm cellB.cls mk = .method mk := by rw [Launch.admits_selectMethod X.admits]; exact q4
  obtain ⟨vm₁, X₁, hstep₁⟩ := X.invokevirtual hexec hown hlink hnamed hmethM hstM hkP hkPi hy (a := b) (cell := cellB) hcell
    (fun z h => by rw [h] at hobj; cases hobj) hselP hmethM habM hkP hkPi (g := g) hg (argsL := argsL) (rest := rest) (hlen _ hsigM) hstack hdg
  rcases hK m meth c ⟨T.setVm vm₁, locs, cells, slots⟩ { g with stack := rest } (.invokevirtual index) mk (Value.ref b :: argsL).toArray X₁ hg hsize hdg hW (X₁.named hnamed) (hpre vm₁ X₁.warmed) with ⟨v, B, X', hpost, hsteps⟩ | ⟨q, B, X', hpost, hsteps⟩
  · exact Or.inl ⟨v, vm₁, B, X₁.warmed, X', hpost, fun target h => hstep₁ _ fun acts => by rw [doInvoke_state]; exact hsteps.trans h⟩
  · exact Or.inr ⟨q, vm₁, B, X₁.warmed, X', hpost, hstep₁ _ fun acts => by rw [doInvoke_state]; exact hsteps⟩
theorem vx_callS (X : Stand p l e R s m args below meth c T locs cells slots) (hexec : p.tables.exec = Jvm.exec) {own : String} {index : Nat} {y : MethodName} {bytes : ByteArray} {maxL : Nat} {ret : Option FieldType}
    (hown : s.vm.findClass own = some m.cls) (hlink : (Cond.methodLink own index y).before args s = true) (hstat : (Cond.static y).before args s = true) (hinit : (Cond.initialized y.cls).before args s = true)
    (hcode : (Cond.code y bytes maxL ret).before args s = true) (hy : y.cls ≠ "java/lang/invoke/MethodHandle" ∧ y.cls ≠ "java/lang/invoke/VarHandle")
    {W9 : Nat} {Pre : Pt → Array Value → Prop} {Post : Pt → Array Value → Option Value → Pt → Prop} {PostX : Pt → Array Value → Addr → Pt → Prop} (hK : vx_Back l R p e below s args y 3 W9 Pre Post PostX)
    {g : JFrame} (hg : g.method = m) (hsize : g.locals.size = c.maxLocals) {argsL rest : List Value} (hlen : ∀ sig, parseMethodDescriptor y.desc = some sig → argsL.length = sig.parameters.length)
    (hstack : g.stack = argsL.reverse ++ rest) (hW : 2 * g.monitorRoom + (rest.map fun v => v.category).sum ≤ W9) (hdg : decode c.code g.pc = .ok (.invokestatic index, 3))
    (hpre : ∀ vm₁, s.WarmedH vm₁ → Pre ⟨T.setVm vm₁, locs, cells, slots⟩ argsL.toArray) :
    (∃ (v : Option Value) (vm₁ : Vm) (B : Pt), s.WarmedH vm₁ ∧ Stand p l e R s m args below meth c B.U B.locs B.cells B.slots ∧ Post ⟨T.setVm vm₁, locs, cells, slots⟩ argsL.toArray v B ∧
      ∀ target, Steps p.tables e below (B.U.setTop { g with pc := g.pc + 3, stack := v.toList ++ rest }) target → Steps p.tables e below (T.setTop g) target) ∨
    (∃ (q : Addr) (vm₁ : Vm) (B : Pt), s.WarmedH vm₁ ∧ Stand p l e R s m args below meth c B.U B.locs B.cells B.slots ∧ PostX ⟨T.setVm vm₁, locs, cells, slots⟩ argsL.toArray q B ∧
      Steps p.tables e below (T.setTop g) ((B.U.setTop { g with stack := rest }).pushFrame (.throwing q))) := by
  obtain ⟨mk, hnamed⟩ := Cond.code_named hcode
  obtain ⟨methM, cM, hmethM, -, -, -, -, -, -, hsigM⟩ := Cond.code_spec hnamed hcode
  have hstatic : methM.isStatic = true := Cond.static_spec hnamed hmethM hstat
  obtain ⟨kP, hkP, -⟩ := className_of_methodNamed hnamed
  have hinitP : kP.init = .initialized := Cond.initialized_spec (findClass_of_methodNamed hnamed) hkP hinit
  obtain ⟨vm₁, X₁, hstep₁⟩ := X.invokestatic hexec hown hlink hnamed hmethM hstatic hkP hinitP hy (g := g) hg (argsL := argsL) (rest := rest) (hlen _ hsigM) hstack hdg
  rcases hK m meth c ⟨T.setVm vm₁, locs, cells, slots⟩ { g with stack := rest } (.invokestatic index) mk argsL.toArray X₁ hg hsize hdg hW (X₁.named hnamed) (hpre vm₁ X₁.warmed) with ⟨v, B, X', hpost, hsteps⟩ | ⟨q, B, X', hpost, hsteps⟩
  · exact Or.inl ⟨v, vm₁, B, X₁.warmed, X', hpost, fun target h => hstep₁ _ fun acts => by rw [doInvoke_state]; exact hsteps.trans h⟩
  · exact Or.inr ⟨q, vm₁, B, X₁.warmed, X', hpost, hstep₁ _ fun acts => by rw [doInvoke_state]; exact hsteps⟩
end Calls
theorem vx_cls {s : State} {T : State} {vm₁ : Vm} {E : String} {k : ClassId} (hW : s.WarmedH vm₁) (h : (T.setVm vm₁).vm.findClass E = some k) : s.vm.findClass E = some k := by
  have h1 : vm₁.findClass E = some k := h
  rw [hW.alike.findClass] at h1
  exact h1
/-- the method's frame g, with q thrown over it -/
def vx_W (p : Program) (l : Launch) (e : Env) (R : Room) (s : State) (m : MethodId) (args : Array Value) (below : List Frame) (meth : Method) (c : Code) (H : Heap) (locs : List Loc) (cells slots : Nat) (Q : State → Prop) (g : JFrame) (q : Addr) : Prop :=
  ∀ T : State, T.heap = H → Stand p l e R s m args below meth c T locs cells slots → ∃ t, Steps p.tables e below ((T.setTop g).pushFrame (.throwing q)) t ∧ Q t
def vx_Run (p : Program) (l : Launch) (e : Env) (R : Room) (s : State) (m : MethodId) (args : Array Value) (below : List Frame) (meth : Method) (c : Code) (H : Heap) (locs : List Loc) (cells slots mc ms : Nat) (g : JFrame) (rest : List Value) (Qa : State → Outcome → State → Prop) (XC : String → State → State → Prop) (free : Addr → Prop) : Prop :=
  ∀ T : State, T.heap = H → Stand p l e R s m args below meth c T locs cells slots →
    (∃ (v : Option Value) (st₀ t T' : State) (L : List Loc), st₀.heap = H ∧ Stand p l e R s m args below meth c T' (locs ++ L) (cells + mc) (slots + ms) ∧ (∀ q ∈ L, free q.base) ∧ T'.heap = t.heap ∧ T'.vm = t.vm ∧ Qa st₀ (.returned v) t ∧
      Goes p e below T g T' { g with pc := g.pc + 3, stack := v.toList ++ rest }) ∨
    (∃ (q : Addr) (st₀ t T' : State) (L : List Loc) (E : String) (ce : Cell), st₀.heap = H ∧ Stand p l e R s m args below meth c T' (locs ++ L) (cells + mc) (slots + ms) ∧ (∀ z ∈ L, free z.base) ∧ T'.heap = t.heap ∧ T'.vm = t.vm ∧ XC E st₀ t ∧ t.heap[q]? = some ce ∧ ce.vm = .none ∧ s.vm.findClass E = some ce.cls ∧
      Steps p.tables e below (T.setTop g) ((T'.setTop { g with stack := rest }).pushFrame (.throwing q)))
def vx_X {S : Type} (px : S → Prop) (B : String → S → State → Prop) (A : Nat → Prop) : String → State → State → Prop := fun E st t => ∃ u : S, px u ∧ B E u t ∧ va_F A st t
section Runs
variable {p : Program} {l : Launch} {e : Env} {R : Room} {s : State} {m : MethodId} {args : Array Value} {below : List Frame} {meth : Method} {c : Code} {H : Heap} {locs : List Loc} {cells slots : Nat}
variable {y : MethodName} {bytes cc : ByteArray} {maxL nL mc ms n index : Nat} {ret : Option FieldType} {ws : List Cond} {rm : Room} {Pc : Array Value → State → Prop} {Qc : Array Value → State → Outcome → State → Prop} {XC : String → State → State → Prop} {free : Addr → Prop} {Ts : List Cond} {own C : String} {b : Addr} {As rest : List Value} {g : JFrame}
theorem vx_callBack (cb : CallB R s args own index y bytes maxL ret ws rm mc ms n) (hM : vx_Met l y ws rm Pc Qc XC mc ms free) (hbl : FrameBlind Pc) : vx_Back l R p e below s args y 3 8 (PreOf R mc ms Pc) (PostOf Qc mc ms free) (vx_Post XC mc ms free) := by
  obtain ⟨hrc, hrs, hfr, hlo, hws, hcw, -, hini, -⟩ := cb
  exact vx_back (bytes := bytes) (maxL := maxL) (ret := ret) hM hbl hrc hrs hfr hlo hws hcw (fun a' U hW => word_at hW (Or.inl (by first | rfl | simp [Cond.onTables, Cond.keeps, Cond.steady])) hini)
theorem vx_runV (S : CallFix p m c cc nL s args Ts own) (hM : vx_Met l y ws rm Pc Qc XC mc ms free) (cw : CallW R s args own C index y bytes maxL ret ws rm mc ms n) (hp : PreV s H C b Pc As)
    (hg : g.method = m) (hn : As.length = n) (hsize : g.locals.size = nL) (hstack : g.stack = As.reverse ++ .ref b :: rest) (hW : 2 * g.monitorRoom + (rest.map fun v => v.category).sum ≤ 8) (hdg : decode cc g.pc = .ok (.invokevirtual index, 3)) (hf : cells + mc ≤ R.cells ∧ slots + ms ≤ R.slots) :
    vx_Run p l e R s m args below meth c H locs cells slots mc ms g rest (Qc (Value.ref b :: As).toArray) XC free := by
  have hK : vx_Back l R p e below s args y 3 8 (PreOf R mc ms Pc) (PostOf Qc mc ms free) (vx_Post XC mc ms free) := vx_callBack cw.1 hM hp.1
  obtain ⟨⟨-, -, -, -, -, -, hcode, -, hy, hlen, hl⟩, hin, hse⟩ := cw
  obtain ⟨hx, hb, hml, ho, -⟩ := S
  obtain ⟨-, ⟨cellB, hcB, hoB, hclB⟩, hPc⟩ := hp
  intro T hT X
  rcases vx_callV X hx (C := C) (bytes := bytes) (maxL := maxL) (ret := ret) ho hl hin hse hcode hy hK (by rw [hT]; exact hcB) hoB hclB hg (hsize.trans hml.symm) (argsL := As) (rest := rest) (fun sig h => hn.trans (hlen sig h)) hstack hW (by rw [hb]; exact hdg)
    (fun vm₁ hW₁ => ⟨hf.1, hf.2, hPc (T.setVm vm₁) hT hW₁⟩) with ⟨v, vm₁, ⟨U', l2, c2, s2⟩, hW₁, X', ⟨g', mk, t, L, e1, e2, hq, h1, hL, h2, h3⟩, st⟩ | ⟨q, vm₁, ⟨U', l2, c2, s2⟩, hW₁, X', ⟨g', mk, t, L, E, ce, e1, e2, hq, hce, hcv, hcl, h1, hL, h2, h3⟩, st⟩
  · dsimp only [Pt.U, Pt.locs, Pt.cells, Pt.slots] at X' e1 e2 h1 h2 h3 st
    subst h1; subst h2; subst h3
    exact Or.inl ⟨v, (T.setVm vm₁).calling g' mk (Value.ref b :: As).toArray, t, U', L, hT, X', hL, e1, e2, hq, st⟩
  · dsimp only [Pt.U, Pt.locs, Pt.cells, Pt.slots] at X' e1 e2 h1 h2 h3 st hcl
    subst h1; subst h2; subst h3
    exact Or.inr ⟨q, (T.setVm vm₁).calling g' mk (Value.ref b :: As).toArray, t, U', L, E, ce, hT, X', hL, e1, e2, hq, hce, hcv, vx_cls hW₁ hcl, st⟩
theorem vx_runS (S : CallFix p m c cc nL s args Ts own) (hM : vx_Met l y ws rm Pc Qc XC mc ms free) (cw : CallB R s args own index y bytes maxL ret ws rm mc ms n ∧ (Cond.static y).before args s = true) (hp : PreS s H Pc As)
    (hg : g.method = m) (hn : As.length = n) (hsize : g.locals.size = nL) (hstack : g.stack = As.reverse ++ rest) (hW : 2 * g.monitorRoom + (rest.map fun v => v.category).sum ≤ 8) (hdg : decode cc g.pc = .ok (.invokestatic index, 3)) (hf : cells + mc ≤ R.cells ∧ slots + ms ≤ R.slots) :
    vx_Run p l e R s m args below meth c H locs cells slots mc ms g rest (Qc As.toArray) XC free := by
  have hK : vx_Back l R p e below s args y 3 8 (PreOf R mc ms Pc) (PostOf Qc mc ms free) (vx_Post XC mc ms free) := vx_callBack cw.1 hM hp.1
  obtain ⟨⟨-, -, -, -, -, -, hcode, hini, hy, hlen, hl⟩, hstt⟩ := cw
  obtain ⟨hx, hb, hml, ho, -⟩ := S
  intro T hT X
  rcases vx_callS X hx (bytes := bytes) (maxL := maxL) (ret := ret) ho hl hstt hini hcode hy hK hg (hsize.trans hml.symm) (argsL := As) (rest := rest) (fun sig h => hn.trans (hlen sig h)) hstack hW (by rw [hb]; exact hdg)
    (fun vm₁ hW₁ => ⟨hf.1, hf.2, hp.2 (T.setVm vm₁) hT hW₁⟩) with ⟨v, vm₁, ⟨U', l2, c2, s2⟩, hW₁, X', ⟨g', mk, t, L, e1, e2, hq, h1, hL, h2, h3⟩, st⟩ | ⟨q, vm₁, ⟨U', l2, c2, s2⟩, hW₁, X', ⟨g', mk, t, L, E, ce, e1, e2, hq, hce, hcv, hcl, h1, hL, h2, h3⟩, st⟩
  · dsimp only [Pt.U, Pt.locs, Pt.cells, Pt.slots] at X' e1 e2 h1 h2 h3 st
    subst h1; subst h2; subst h3
    exact Or.inl ⟨v, (T.setVm vm₁).calling g' mk As.toArray, t, U', L, hT, X', hL, e1, e2, hq, st⟩
  · dsimp only [Pt.U, Pt.locs, Pt.cells, Pt.slots] at X' e1 e2 h1 h2 h3 st hcl
    subst h1; subst h2; subst h3
    exact Or.inr ⟨q, (T.setVm vm₁).calling g' mk As.toArray, t, U', L, E, ce, hT, X', hL, e1, e2, hq, hce, hcv, vx_cls hW₁ hcl, st⟩
end Runs
section Rows
variable {p : Program} {l : Launch} {e : Env} {R : Room} {s : State} {m : MethodId} {args : Array Value} {below : List Frame} {meth : Method} {c : Code} {H : Heap} {locs : List Loc} {cells slots : Nat} {Q : State → Prop}
variable {mc ms : Nat} {free : Addr → Prop} {A0 A1 : Nat → Prop} {H0 : Heap} {a : Array Value} {pc : Nat} {ls : Array Slot} {st0 rest : List Value}
theorem vx_keep {st₀ t T' : State} {L : List Loc} (h0 : st₀.heap = H) (e1 : T'.heap = t.heap) (hS : va_S A0 H0 H locs) (hA : ∀ q, q < H.size → A1 q → A0 q) (hf : ∀ q, free q → A0 q) (hL : ∀ q ∈ L, free q.base) (hF : va_F A1 st₀ t) :
    H.size ≤ T'.heap.size ∧ (∀ q : Nat, q < H.size → ¬ A1 q → T'.heap[q]? = H[q]?) ∧ va_S A0 H0 T'.heap (locs ++ L) := by
  obtain ⟨hz, hk⟩ := hF
  rw [h0] at hz hk
  exact ⟨by rw [e1]; exact hz, fun q h1 h2 => by rw [e1]; exact hk q h1 h2,
    ⟨Nat.le_trans hS.1 (by rw [e1]; exact hz), fun q h1 h2 => by rw [e1, hk q (Nat.lt_of_lt_of_le h1 hS.1) (fun z => h2 (hA q (Nat.lt_of_lt_of_le h1 hS.1) z))]; exact hS.2.1 q h1 h2, fun q hq => by
      rcases List.mem_append.mp hq with h | h
      · exact hS.2.2 q h
      · exact hf _ (hL q h)⟩⟩
theorem vx_calli {S SX : Type} {post : Int32 → S → Prop} {px : SX → Prop} {B : S → State → Prop} {BX : String → SX → State → Prop} {AX : Nat → Prop} (hr : vx_Run p l e R s m args below meth c H locs cells slots mc ms (F0 m pc ls st0) rest (va_Qi post B A1 a) (vx_X px BX AX) free) (hS : va_S A0 H0 H locs) (hA : ∀ q, q < H.size → A1 q → A0 q) (hf : ∀ q, free q → A0 q) (hAX : ∀ q, q < H.size → AX q → A0 q)
    (kx : ∀ (E : String) (ce : Cell) (q9 : Addr) (u : SX) (t : State) (H1 : Heap) (locs1 : List Loc), t.heap = H1 → s.vm.Alike t.vm → px u → BX E u t → H.size ≤ H1.size → (∀ q : Nat, q < H.size → ¬ AX q → H1[q]? = H[q]?) → va_S A0 H0 H1 locs1 → H1[q9]? = some ce → ce.vm = .none → s.vm.findClass E = some ce.cls → vx_W p l e R s m args below meth c H1 locs1 (cells + mc) (slots + ms) Q (F0 m pc ls rest) q9)
    (kk : ∀ (r : Int32) (u : S) (t : State) (H1 : Heap) (locs1 : List Loc), t.heap = H1 → s.vm.Alike t.vm → post r u → B u t → H.size ≤ H1.size → (∀ q : Nat, q < H.size → ¬ A1 q → H1[q]? = H[q]?) → va_S A0 H0 H1 locs1 → W p l e R s m args below meth c H1 locs1 (cells + mc) (slots + ms) Q (F0 m (pc + 3) ls (.int r :: rest))) : W p l e R s m args below meth c H locs cells slots Q (F0 m pc ls st0) := by
  intro T hT X
  rcases hr T hT X with ⟨v, st₀, t, T', L, h0, X', hL, e1, e2, ⟨⟨r, u, hv, hp, hb⟩, hF⟩, st⟩ | ⟨q, st₀, t, T', L, E, ce, h0, X', hL, e1, e2, ⟨u, hp, hb, hF⟩, hce, hcv, hcl, st⟩
  · cases hv
    obtain ⟨k1, k2, k3⟩ := vx_keep h0 e1 hS hA hf hL hF
    obtain ⟨t2, a1, b1⟩ := kk r u t T'.heap (locs ++ L) e1.symm (by rw [← e2]; exact X'.warmed.alike) hp hb k1 k2 k3 T' rfl X'
    exact ⟨t2, st t2 a1, b1⟩
  · obtain ⟨k1, k2, k3⟩ := vx_keep h0 e1 hS hAX hf hL hF
    obtain ⟨t2, a1, b1⟩ := kx E ce q u t T'.heap (locs ++ L) e1.symm (by rw [← e2]; exact X'.warmed.alike) hp hb k1 k2 k3 (by rw [e1]; exact hce) hcv hcl T' rfl X'
    exact ⟨t2, st.trans a1, b1⟩
theorem vx_calll {S SX : Type} {post : Int64 → S → Prop} {px : SX → Prop} {B : S → State → Prop} {BX : String → SX → State → Prop} {AX : Nat → Prop} (hr : vx_Run p l e R s m args below meth c H locs cells slots mc ms (F0 m pc ls st0) rest (va_Ql post B A1 a) (vx_X px BX AX) free) (hS : va_S A0 H0 H locs) (hA : ∀ q, q < H.size → A1 q → A0 q) (hf : ∀ q, free q → A0 q) (hAX : ∀ q, q < H.size → AX q → A0 q)
    (kx : ∀ (E : String) (ce : Cell) (q9 : Addr) (u : SX) (t : State) (H1 : Heap) (locs1 : List Loc), t.heap = H1 → s.vm.Alike t.vm → px u → BX E u t → H.size ≤ H1.size → (∀ q : Nat, q < H.size → ¬ AX q → H1[q]? = H[q]?) → va_S A0 H0 H1 locs1 → H1[q9]? = some ce → ce.vm = .none → s.vm.findClass E = some ce.cls → vx_W p l e R s m args below meth c H1 locs1 (cells + mc) (slots + ms) Q (F0 m pc ls rest) q9)
    (kk : ∀ (r : Int64) (u : S) (t : State) (H1 : Heap) (locs1 : List Loc), t.heap = H1 → s.vm.Alike t.vm → post r u → B u t → H.size ≤ H1.size → (∀ q : Nat, q < H.size → ¬ A1 q → H1[q]? = H[q]?) → va_S A0 H0 H1 locs1 → W p l e R s m args below meth c H1 locs1 (cells + mc) (slots + ms) Q (F0 m (pc + 3) ls (.long r :: rest))) : W p l e R s m args below meth c H locs cells slots Q (F0 m pc ls st0) := by
  intro T hT X
  rcases hr T hT X with ⟨v, st₀, t, T', L, h0, X', hL, e1, e2, ⟨⟨r, u, hv, hp, hb⟩, hF⟩, st⟩ | ⟨q, st₀, t, T', L, E, ce, h0, X', hL, e1, e2, ⟨u, hp, hb, hF⟩, hce, hcv, hcl, st⟩
  · cases hv
    obtain ⟨k1, k2, k3⟩ := vx_keep h0 e1 hS hA hf hL hF
    obtain ⟨t2, a1, b1⟩ := kk r u t T'.heap (locs ++ L) e1.symm (by rw [← e2]; exact X'.warmed.alike) hp hb k1 k2 k3 T' rfl X'
    exact ⟨t2, st t2 a1, b1⟩
  · obtain ⟨k1, k2, k3⟩ := vx_keep h0 e1 hS hAX hf hL hF
    obtain ⟨t2, a1, b1⟩ := kx E ce q u t T'.heap (locs ++ L) e1.symm (by rw [← e2]; exact X'.warmed.alike) hp hb k1 k2 k3 (by rw [e1]; exact hce) hcv hcl T' rfl X'
    exact ⟨t2, st.trans a1, b1⟩
theorem vx_callf {S SX : Type} {post : UInt32 → S → Prop} {px : SX → Prop} {B : S → State → Prop} {BX : String → SX → State → Prop} {AX : Nat → Prop} (hr : vx_Run p l e R s m args below meth c H locs cells slots mc ms (F0 m pc ls st0) rest (va_Qf post B A1 a) (vx_X px BX AX) free) (hS : va_S A0 H0 H locs) (hA : ∀ q, q < H.size → A1 q → A0 q) (hf : ∀ q, free q → A0 q) (hAX : ∀ q, q < H.size → AX q → A0 q)
    (kx : ∀ (E : String) (ce : Cell) (q9 : Addr) (u : SX) (t : State) (H1 : Heap) (locs1 : List Loc), t.heap = H1 → s.vm.Alike t.vm → px u → BX E u t → H.size ≤ H1.size → (∀ q : Nat, q < H.size → ¬ AX q → H1[q]? = H[q]?) → va_S A0 H0 H1 locs1 → H1[q9]? = some ce → ce.vm = .none → s.vm.findClass E = some ce.cls → vx_W p l e R s m args below meth c H1 locs1 (cells + mc) (slots + ms) Q (F0 m pc ls rest) q9)
    (kk : ∀ (r : UInt32) (u : S) (t : State) (H1 : Heap) (locs1 : List Loc), t.heap = H1 → s.vm.Alike t.vm → post r u → B u t → H.size ≤ H1.size → (∀ q : Nat, q < H.size → ¬ A1 q → H1[q]? = H[q]?) → va_S A0 H0 H1 locs1 → W p l e R s m args below meth c H1 locs1 (cells + mc) (slots + ms) Q (F0 m (pc + 3) ls (.float r :: rest))) : W p l e R s m args below meth c H locs cells slots Q (F0 m pc ls st0) := by
  intro T hT X
  rcases hr T hT X with ⟨v, st₀, t, T', L, h0, X', hL, e1, e2, ⟨⟨r, u, hv, hp, hb⟩, hF⟩, st⟩ | ⟨q, st₀, t, T', L, E, ce, h0, X', hL, e1, e2, ⟨u, hp, hb, hF⟩, hce, hcv, hcl, st⟩
  · cases hv
    obtain ⟨k1, k2, k3⟩ := vx_keep h0 e1 hS hA hf hL hF
    obtain ⟨t2, a1, b1⟩ := kk r u t T'.heap (locs ++ L) e1.symm (by rw [← e2]; exact X'.warmed.alike) hp hb k1 k2 k3 T' rfl X'
    exact ⟨t2, st t2 a1, b1⟩
  · obtain ⟨k1, k2, k3⟩ := vx_keep h0 e1 hS hAX hf hL hF
    obtain ⟨t2, a1, b1⟩ := kx E ce q u t T'.heap (locs ++ L) e1.symm (by rw [← e2]; exact X'.warmed.alike) hp hb k1 k2 k3 (by rw [e1]; exact hce) hcv hcl T' rfl X'
    exact ⟨t2, st.trans a1, b1⟩
theorem vx_calld {S SX : Type} {post : UInt64 → S → Prop} {px : SX → Prop} {B : S → State → Prop} {BX : String → SX → State → Prop} {AX : Nat → Prop} (hr : vx_Run p l e R s m args below meth c H locs cells slots mc ms (F0 m pc ls st0) rest (va_Qd post B A1 a) (vx_X px BX AX) free) (hS : va_S A0 H0 H locs) (hA : ∀ q, q < H.size → A1 q → A0 q) (hf : ∀ q, free q → A0 q) (hAX : ∀ q, q < H.size → AX q → A0 q)
    (kx : ∀ (E : String) (ce : Cell) (q9 : Addr) (u : SX) (t : State) (H1 : Heap) (locs1 : List Loc), t.heap = H1 → s.vm.Alike t.vm → px u → BX E u t → H.size ≤ H1.size → (∀ q : Nat, q < H.size → ¬ AX q → H1[q]? = H[q]?) → va_S A0 H0 H1 locs1 → H1[q9]? = some ce → ce.vm = .none → s.vm.findClass E = some ce.cls → vx_W p l e R s m args below meth c H1 locs1 (cells + mc) (slots + ms) Q (F0 m pc ls rest) q9)
    (kk : ∀ (r : UInt64) (u : S) (t : State) (H1 : Heap) (locs1 : List Loc), t.heap = H1 → s.vm.Alike t.vm → post r u → B u t → H.size ≤ H1.size → (∀ q : Nat, q < H.size → ¬ A1 q → H1[q]? = H[q]?) → va_S A0 H0 H1 locs1 → W p l e R s m args below meth c H1 locs1 (cells + mc) (slots + ms) Q (F0 m (pc + 3) ls (.double r :: rest))) : W p l e R s m args below meth c H locs cells slots Q (F0 m pc ls st0) := by
  intro T hT X
  rcases hr T hT X with ⟨v, st₀, t, T', L, h0, X', hL, e1, e2, ⟨⟨r, u, hv, hp, hb⟩, hF⟩, st⟩ | ⟨q, st₀, t, T', L, E, ce, h0, X', hL, e1, e2, ⟨u, hp, hb, hF⟩, hce, hcv, hcl, st⟩
  · cases hv
    obtain ⟨k1, k2, k3⟩ := vx_keep h0 e1 hS hA hf hL hF
    obtain ⟨t2, a1, b1⟩ := kk r u t T'.heap (locs ++ L) e1.symm (by rw [← e2]; exact X'.warmed.alike) hp hb k1 k2 k3 T' rfl X'
    exact ⟨t2, st t2 a1, b1⟩
  · obtain ⟨k1, k2, k3⟩ := vx_keep h0 e1 hS hAX hf hL hF
    obtain ⟨t2, a1, b1⟩ := kx E ce q u t T'.heap (locs ++ L) e1.symm (by rw [← e2]; exact X'.warmed.alike) hp hb k1 k2 k3 (by rw [e1]; exact hce) hcv hcl T' rfl X'
    exact ⟨t2, st.trans a1, b1⟩
theorem vx_callv {S SX : Type} {post : S → Prop} {px : SX → Prop} {B : S → State → Prop} {BX : String → SX → State → Prop} {AX : Nat → Prop} (hr : vx_Run p l e R s m args below meth c H locs cells slots mc ms (F0 m pc ls st0) rest (va_Qv post B A1 a) (vx_X px BX AX) free) (hS : va_S A0 H0 H locs) (hA : ∀ q, q < H.size → A1 q → A0 q) (hf : ∀ q, free q → A0 q) (hAX : ∀ q, q < H.size → AX q → A0 q)
    (kx : ∀ (E : String) (ce : Cell) (q9 : Addr) (u : SX) (t : State) (H1 : Heap) (locs1 : List Loc), t.heap = H1 → s.vm.Alike t.vm → px u → BX E u t → H.size ≤ H1.size → (∀ q : Nat, q < H.size → ¬ AX q → H1[q]? = H[q]?) → va_S A0 H0 H1 locs1 → H1[q9]? = some ce → ce.vm = .none → s.vm.findClass E = some ce.cls → vx_W p l e R s m args below meth c H1 locs1 (cells + mc) (slots + ms) Q (F0 m pc ls rest) q9)
    (kk : ∀ (u : S) (t : State) (H1 : Heap) (locs1 : List Loc), t.heap = H1 → s.vm.Alike t.vm → post u → B u t → H.size ≤ H1.size → (∀ q : Nat, q < H.size → ¬ A1 q → H1[q]? = H[q]?) → va_S A0 H0 H1 locs1 → W p l e R s m args below meth c H1 locs1 (cells + mc) (slots + ms) Q (F0 m (pc + 3) ls (rest))) : W p l e R s m args below meth c H locs cells slots Q (F0 m pc ls st0) := by
  intro T hT X
  rcases hr T hT X with ⟨v, st₀, t, T', L, h0, X', hL, e1, e2, ⟨⟨u, hv, hp, hb⟩, hF⟩, st⟩ | ⟨q, st₀, t, T', L, E, ce, h0, X', hL, e1, e2, ⟨u, hp, hb, hF⟩, hce, hcv, hcl, st⟩
  · cases hv
    obtain ⟨k1, k2, k3⟩ := vx_keep h0 e1 hS hA hf hL hF
    obtain ⟨t2, a1, b1⟩ := kk u t T'.heap (locs ++ L) e1.symm (by rw [← e2]; exact X'.warmed.alike) hp hb k1 k2 k3 T' rfl X'
    exact ⟨t2, st t2 a1, b1⟩
  · obtain ⟨k1, k2, k3⟩ := vx_keep h0 e1 hS hAX hf hL hF
    obtain ⟨t2, a1, b1⟩ := kx E ce q u t T'.heap (locs ++ L) e1.symm (by rw [← e2]; exact X'.warmed.alike) hp hb k1 k2 k3 (by rw [e1]; exact hce) hcv hcl T' rfl X'
    exact ⟨t2, st.trans a1, b1⟩
end Rows
section Ends
variable {p : Program} {l : Launch} {e : Env} {R : Room} {s : State} {m : MethodId} {args : Array Value} {below : List Frame} {meth : Method} {c : Code} {H : Heap} {locs : List Loc} {cells slots : Nat} {Q : State → Prop}
variable {mc ms : Nat} {free : Addr → Prop} {A0 A1 : Nat → Prop} {H0 : Heap} {a : Array Value} {ls : Array Slot} {st0 rest : List Value}
variable {Qc : Array Value → State → Outcome → State → Prop} {XC : String → State → State → Prop}
/-- what a body that may throw owes at its end -/
def vx_MQ (below : List Frame) (Qc : Array Value → State → Outcome → State → Prop) (XC : String → State → State → Prop) (a : Array Value) (s : State) (mc ms : Nat) (free : Addr → Prop) : State → Prop := fun t =>
  ∃ o, t.status = .running ∧ Ended t below o ∧ vx_Q Qc XC mc ms free a s o t
theorem vx_ret {g : JFrame} {mc ms : Nat} (k : W p l e R s m args below meth c H locs cells slots (MQ below Qc args s mc ms free) g) : W p l e R s m args below meth c H locs cells slots (vx_MQ below Qc XC args s mc ms free) g := by
  intro T hT X
  obtain ⟨t, a1, o, b1, b2, b3, b4⟩ := k T hT X
  exact ⟨t, a1, o, b1, b2, Or.inl ⟨b3, b4⟩⟩
/-- not caught here: it goes on to the caller -/
theorem vx_widen {g : JFrame} {q : Addr} {k n : Nat} (h1 : cells ≤ k) (h2 : slots ≤ n) (kk : vx_W p l e R s m args below meth c H locs k n Q g q) : vx_W p l e R s m args below meth c H locs cells slots Q g q := fun T hT X => kk T hT (stand_widen X h1 h2)
theorem vx_out {pc : Nat} {E : String} {ce : Cell} {q : Addr} {mc ms : Nat} (hout : ∀ x ∈ c.exceptionTable.toList, covers x pc = false) (hlocks : meth.locks = false) (hcell : H[q]? = some ce) (hv : ce.vm = .none) (hcl : s.vm.findClass E = some ce.cls)
    (hx : ∀ t : State, t.heap = H → s.vm.Alike t.vm → XC E s t) (hf : ∀ z ∈ locs, free z.base) (hc : cells ≤ mc) (hs : slots ≤ ms) :
    vx_W p l e R s m args below meth c H locs cells slots (vx_MQ below Qc XC args s mc ms free) (F0 m pc ls rest) q := by
  intro T hT X
  obtain ⟨st1, hrun, hend, hW, hsm⟩ := X.leaveThrown q (g := F0 m pc ls rest) rfl rfl rfl hout hlocks
  have hcell9 : (T.setFrames (.throwing q :: below)).heap[q]? = some ce := by
    show T.heap[q]? = some ce
    rw [hT]; exact hcell
  exact ⟨_, st1, .threw q, hrun, hend, Or.inr ⟨q, rfl, E, ce, locs, hx _ hT hW.alike, hcell9, hv, hcl, hW, hsm.mono hc hs, hf⟩⟩
theorem vx_frame {U : State} {k n : Nat} (h : s.sameButNew ({ U with vm := s.vm } : State) locs k n) : s.heap.size ≤ U.heap.size ∧ ∀ q : Nat, q < s.heap.size → (∀ z ∈ locs, z.base ≠ q) → U.heap[q]? = s.heap[q]? := by
  obtain ⟨-, h2, -, -, -, h6⟩ := h
  refine ⟨h2, fun q hq hz => ?_⟩
  obtain ⟨c9, e1, e2, e3, e4⟩ := h6 q _ (Array.getElem?_eq_getElem hq)
  have hs : c9.slots = (s.heap[q]).slots := Array.ext_getElem? fun i => e4 i fun hm => hz _ hm rfl
  have h9 : c9 = s.heap[q] := by
    rw [hs] at e2
    exact e2
  have e5 : U.heap[q]? = some c9 := e1
  rw [e5, h9, Array.getElem?_eq_getElem hq]
/-- the words of a throw but the four that speak of the heap -/
def vx_no (w : Cond) : Bool := decide (w ≠ .isRef (.static Bundle.tN "UNASSIGNED_STACK" Bundle.steD)) && decide (w ≠ .isRef (.static Bundle.tN "SUPPRESSED_SENTINEL" Bundle.listD)) && decide (w ≠ .laysStatic Bundle.tN "UNASSIGNED_STACK" Bundle.steD) && decide (w ≠ .laysStatic Bundle.tN "SUPPRESSED_SENTINEL" Bundle.listD)
def vx_at0 (own : String) (ic : Nat) (X : String) (names : List String) : List Cond := (Bundle.ownAtoms0 own ic X names).filter vx_no
def vx_atS (own : String) (ic : Nat) (X : String) (names : List String) : List Cond := (Bundle.ownAtoms own ic X names).filter vx_no
/-- a word that the tables alone decide, or a good one -/
def vx_ot (w : Cond) : Bool := w.onTables || goodWord w
theorem vx_ot_at {args a' : Array Value} {s U : State} {w : Cond} (hW : s.WarmedH U.vm) (hvm : s.vm = U.vm) (hg : vx_ot w = true) (h : w.before args s = true) : w.before a' U = true := by
  simp only [vx_ot, Bool.or_eq_true] at hg
  rcases hg with hg | hg
  · exact va_tabs hg hvm h
  · exact word_at hW (good_of_word hg) h
/-- a list's words: the good ones out of the method's own list, the others by premises of their own -/
theorem vx_hat {args : Array Value} {s : State} {L B : List Cond} (h1 : ∀ w ∈ L.filter goodWord, w.before args s = true) (h2 : ∀ w ∈ L.filter (fun w => !goodWord w), w ∈ B) (h3 : ∀ w ∈ B, w.before args s = true) : ∀ w ∈ L, w.before args s = true := by
  intro w hw
  by_cases g : goodWord w = true
  · exact h1 w (List.mem_filter.mpr ⟨hw, g⟩)
  · refine h3 w (h2 w (List.mem_filter.mpr ⟨hw, ?_⟩))
    show (!goodWord w) = true
    cases hgw : goodWord w
    · rfl
    · exact absurd hgw g
theorem vx_c {args : Array Value} {s : State} {w : Cond} {B : List Cond} (h : w.before args s = true) (t : ∀ w ∈ B, w.before args s = true) : ∀ w' ∈ w :: B, w'.before args s = true := fun w' h' => (List.mem_cons.mp h').elim (fun e => by rw [e]; exact h) (t w')
theorem vx_n {args : Array Value} {s : State} : ∀ w ∈ ([] : List Cond), w.before args s = true := fun _ h => nomatch h
theorem vx_own {args : Array Value} {s : State} {L : List Cond} (h1 : ∀ w ∈ L.filter vx_no, w.before args s = true)
    (hU : (Cond.isRef (.static Bundle.tN "UNASSIGNED_STACK" Bundle.steD)).before args s = true) (hN : (Cond.isRef (.static Bundle.tN "SUPPRESSED_SENTINEL" Bundle.listD)).before args s = true)
    (lU : (Cond.laysStatic Bundle.tN "UNASSIGNED_STACK" Bundle.steD).before args s = true) (lN : (Cond.laysStatic Bundle.tN "SUPPRESSED_SENTINEL" Bundle.listD).before args s = true) : ∀ w ∈ L, w.before args s = true := by
  intro w hw
  by_cases e1 : w = .isRef (.static Bundle.tN "UNASSIGNED_STACK" Bundle.steD)
  · rw [e1]; exact hU
  · by_cases e2 : w = .isRef (.static Bundle.tN "SUPPRESSED_SENTINEL" Bundle.listD)
    · rw [e2]; exact hN
    · by_cases e3 : w = .laysStatic Bundle.tN "UNASSIGNED_STACK" Bundle.steD
      · rw [e3]; exact lU
      · by_cases e4 : w = .laysStatic Bundle.tN "SUPPRESSED_SENTINEL" Bundle.listD
        · rw [e4]; exact lN
        · exact h1 w (List.mem_filter.mpr ⟨hw, by unfold vx_no; rw [decide_eq_true e1, decide_eq_true e2, decide_eq_true e3, decide_eq_true e4]; rfl⟩)
/-- where a static field lies, its class's statics cell in H -/
def vx_L (C n d : String) (A : Nat → Prop) (U : State) (H : Heap) : Prop := ∃ (c : ClassId) (k : Class) (i : Nat) (f : Field) (a : Nat) (cell : Cell), U.vm.findClass C = some c ∧ U.fieldFound? C n d = some (c, k, i, f) ∧ f.isStatic = true ∧ k.statics = some a ∧ H[a]? = some cell ∧ cell.vm.isStatics = true ∧ cell.cls = c ∧ f.slot < cell.slots.size ∧ k.staticTypes[f.slot]? = some f.type ∧ ¬ A a
theorem vx_L.moved {C n d : String} {A : Nat → Prop} {u U : State} {H : Heap} (hvm : u.vm.Alike U.vm) (h : vx_L C n d A u H) : vx_L C n d A U H := by
  obtain ⟨c, k, i, f, a, cell, h1, h2, h3, h4, h5, h6, h7, h8, h9, h10⟩ := h
  obtain ⟨k', hi', he⟩ := State.fieldFound?_setVm hvm h2
  exact ⟨c, k', i, f, a, cell, by rw [hvm.findClass]; exact h1, hi', h3, by rw [he]; exact h4, h5, h6, h7, h8, by rw [he]; exact h9, h10⟩
theorem vx_L.kept {C n d : String} {A : Nat → Prop} {U : State} {H H1 : Heap} (h : vx_L C n d A U H) (hq : ∀ a : Nat, a < H.size → ¬ A a → H1[a]? = H[a]?) : vx_L C n d A U H1 := by
  obtain ⟨c, k, i, f, a, cell, h1, h2, h3, h4, h5, h6, h7, h8, h9, h10⟩ := h
  exact ⟨c, k, i, f, a, cell, h1, h2, h3, h4, by rw [hq a (Array.getElem?_eq_some_iff.mp h5).1 h10]; exact h5, h6, h7, h8, h9, h10⟩
theorem vx_L.narrow {C n d : String} {A B : Nat → Prop} {U : State} {H : Heap} (h : vx_L C n d A U H) (hAB : ∀ q, B q → A q) : vx_L C n d B U H := by
  obtain ⟨c, k, i, f, a, cell, h1, h2, h3, h4, h5, h6, h7, h8, h9, h10⟩ := h
  exact ⟨c, k, i, f, a, cell, h1, h2, h3, h4, h5, h6, h7, h8, h9, fun z => h10 (hAB _ z)⟩
theorem vx_L.word {C n d : String} {A : Nat → Prop} {s : State} {args : Array Value} (h : vx_L C n d A s s.heap) : (Cond.laysStatic C n d).before args s = true := by
  obtain ⟨c, k, i, f, a, cell, h1, h2, h3, h4, h5, h6, h7, h8, h9, -⟩ := h
  show (Cond.laysStatic C n d).holds args s none s [] = true
  exact Cond.laysStatic_of h1 h2 h3 h4 h5 h6 h7 h8 h9
/-- .. and what it holds: null or some reference -/
def vx_Zq (C n d : String) (A : Nat → Prop) (U : State) (H : Heap) : Prop := va_Zq C n d A U H ∧ vx_L C n d A U H
theorem vx_Zq.moved {C n d : String} {A : Nat → Prop} {u U : State} {H : Heap} (hvm : u.vm.Alike U.vm) (h : vx_Zq C n d A u H) : vx_Zq C n d A U H := ⟨va_Zq.moved hvm h.1, vx_L.moved hvm h.2⟩
theorem vx_Zq.kept {C n d : String} {A : Nat → Prop} {U : State} {H H1 : Heap} (h : vx_Zq C n d A U H) (hq : ∀ a : Nat, a < H.size → ¬ A a → H1[a]? = H[a]?) : vx_Zq C n d A U H1 := ⟨va_Zq.kept h.1 hq, vx_L.kept h.2 hq⟩
theorem vx_Zq.narrow {C n d : String} {A B : Nat → Prop} {U : State} {H : Heap} (h : vx_Zq C n d A U H) (hAB : ∀ q, B q → A q) : vx_Zq C n d B U H := ⟨va_Zq.narrow h.1 hAB, vx_L.narrow h.2 hAB⟩
theorem vx_Zqof {args : Array Value} {s : State} {C n d : String} {A : Nat → Prop} (hl : (Cond.laysStatic C n d).before args s = true) (hini : (Cond.initialized C).before args s = true) (h : (Cond.isRef (.static C n d)).before args s = true) (hA : ∀ a : Nat, a < s.heap.size → ¬ A a) : vx_Zq C n d A s s.heap := by
  refine ⟨va_Zqof hl hini h hA, ?_⟩
  obtain ⟨c, k, i, f, a, cell, h1, h2, h3, h4, h5, h6, h7, h8, h9⟩ := Cond.laysStatic_spec hl
  exact ⟨c, k, i, f, a, cell, h1, h2, h3, h4, h5, h6, h7, h8, h9, hA a (Array.getElem?_eq_some_iff.mp h5).1⟩
theorem vx_isRef {C n d : String} {v : Value} {A : Nat → Prop} {s : State} {args : Array Value} (h : va_Z C n d v A s s.heap) (hv : v.isRef = true) : (Cond.isRef (.static C n d)).before args s = true := by
  obtain ⟨cf, kf, fi, f, a, cell, h1, h2, h3, h4, h5, h6, h7, -⟩ := h
  have he : (Term.static C n d).eval args s none [] s = some v := by
    simp [Term.eval, State.fieldNamed?, h1, h2, h4, h5, h6, h7]
  simp only [Cond.before, Cond.holds, Cond.value, he]
  cases v <;> simp_all [Value.isRef]
theorem vx_isRefq {C n d : String} {A : Nat → Prop} {s : State} {args : Array Value} (h : va_Zq C n d A s s.heap) : (Cond.isRef (.static C n d)).before args s = true := by
  rcases h with h | ⟨t, h⟩
  · exact vx_isRef h rfl
  · exact vx_isRef h rfl
/-- the same frame, seen from here: as if the method were called anew in this heap -/
theorem vx_rebase {T : State} (X : Stand p l e R s m args below meth c T locs cells slots) {R' : Room} (hf : R'.frames ≤ R.frames) (hl : R'.locals ≤ R.locals) (hc : cells + R'.cells ≤ R.cells) (hs : slots + R'.slots ≤ R.slots) :
    Stand p l e R' ((T.setVm s.vm).setFrames (.invoking m args :: below)) m args below meth c T [] 0 0 := by
  have htop : (T.setVm s.vm).topJava?.isSome := X.here.top
  have hF : ((T.setVm s.vm).setFrames (.invoking m args :: below)).frames = .invoking m args :: below := State.frames_setFrames _ (State.cur_lt_of_top htop)
  obtain ⟨g₀, hg0⟩ := Option.isSome_iff_exists.mp htop
  obtain ⟨r, hr⟩ := State.topJava?_eq_some.mp hg0
  have hl9 : e.platform.stackLimits (T.setVm s.vm).me = e.platform.stackLimits s.me := X.limits
  have hb9 : (T.setVm s.vm).me.stackBytes = s.me.stackBytes := X.bytes
  refine ⟨X.admits, X.cas, X.clock, hF, ?_, X.hears, X.method, X.code, X.here, X.tail, X.warmed, ?_, ?_, ?_⟩
  · have h := X.room
    have hU : ((T.setVm s.vm).setFrames (.invoking m args :: below)).localsInUse = s.localsInUse := by
      rw [State.localsInUse_invoking hF (meth := meth) (c := c) X.method X.code, State.localsInUse_invoking X.frames X.method X.code]
    simp only [State.hasRoom, Bool.and_eq_true, decide_eq_true_eq] at h ⊢
    obtain ⟨⟨⟨⟨h1, h2, h3, h4, h5, h6⟩, h7⟩, h8⟩, h9⟩ := h
    rw [X.frames, List.length_cons] at h2 h3
    have q1 := X.heapSize
    have q2 := X.used
    simp only [hF, hU, List.length_cons, State.stackLimits_setFrames, State.stackBytes_setFrames, hl9, hb9]
    refine ⟨⟨⟨⟨by omega, by omega, by omega, by omega, by omega, h6⟩, ?_⟩, ?_⟩, X.book⟩
    · show T.heap.size + R'.cells ≤ e.platform.maxCells
      omega
    · show T.slotsUsed + R'.slots ≤ e.platform.maxSlots
      omega
  · rw [State.stackLimits_setFrames]; rfl
  · rw [State.stackBytes_setFrames]; rfl
  · refine ⟨?_, Nat.le_refl _, Nat.le_refl _, ?_, ?_, fun a c9 h9 => ⟨c9, h9, rfl, rfl, fun _ _ => rfl⟩⟩
    · obtain ⟨t, ht, -⟩ := State.frames_cons hr
      show T.setVm s.vm = { ((T.setVm s.vm).setFrames (.invoking m args :: below)).setFrames (T.setVm s.vm).frames with heap := T.heap, slotsUsed := T.slotsUsed }
      rw [State.setFrames_setFrames, State.setFrames_self ht]
      rfl
    · show T.slotsUsed = T.slotsUsed + ((T.heap.toList.drop T.heap.size).map (·.slots.size)).sum
      rw [List.drop_eq_nil_of_le (Nat.le_of_eq Array.length_toList)]
      rfl
    · show ((T.heap.toList.drop T.heap.size).map (·.slots.size)).sum ≤ 0
      rw [List.drop_eq_nil_of_le (Nat.le_of_eq Array.length_toList)]
      exact Nat.le_refl _
/-- 'throw new E()': new; dup; invokespecial; athrow -/
theorem vx_throw0 {cc : ByteArray} {pc : Nat} (hexec : p.tables.exec = Jvm.exec) (hb : c.code = cc) (hl : l.stackTraces = false) {own cls : String} {names : List String} {ik ic mc ms : Nat} {A : Nat → Prop}
    (hown : s.vm.findClass own = some m.cls) (hcls : Bundle.fit cls = true) (hnames : ∀ n ∈ names, Bundle.fit n = true)
    (hk : (Cond.classLink own ik cls).before args s = true) (hini : (Cond.initialized cls).before args s = true) (hat : ∀ w ∈ vx_at0 own ic cls names, w.before args s = true)
    (hgood : ∀ w ∈ Cond.classLink own ik cls :: Cond.initialized cls :: vx_at0 own ic cls names, vx_ot w = true)
    (hU : vx_Zq Bundle.tN "UNASSIGNED_STACK" Bundle.steD A s s.heap) (hN : vx_Zq Bundle.tN "SUPPRESSED_SENTINEL" Bundle.listD A s s.heap) (hS : va_S A s.heap H locs) (hsize : ls.size = c.maxLocals)
    (d0 : decode cc pc = .ok (.new ik, 3)) (d3 : decode cc (pc + 3) = .ok (.dup, 1)) (d4 : decode cc (pc + 4) = .ok (.invokespecial ic, 3)) (d7 : decode cc (pc + 7) = .ok (.athrow, 1))
    (hout : ∀ x ∈ c.exceptionTable.toList, covers x (pc + 7) = false)
    (hRframes : names.length + 3 < R.frames) (hRlocals : (rest.map fun v => v.category).sum + (13 * (names.length + 1) + 42) ≤ R.locals) (hRcells : cells + 1 ≤ R.cells) (hRslots : slots + 6 ≤ R.slots) (hlocks : meth.locks = false)
    (hx : ∀ t : State, s.vm.Alike t.vm → H.size ≤ t.heap.size → (∀ q : Nat, q < H.size → t.heap[q]? = H[q]?) → XC cls s t)
    (hf : ∀ z ∈ locs, free z.base) (hc : cells + 1 ≤ mc) (hs : slots + 6 ≤ ms) :
    W p l e R s m args below meth c H locs cells slots (vx_MQ below Qc XC args s mc ms free) (F0 m pc ls rest) := by
  intro T hT X
  have htr : e.platform.stackTraces = false := (show e.platform.stackTraces = l.stackTraces by rw [X.admits.platform]).trans hl
  have Y := vx_rebase X (R' := { frames := R.frames, locals := R.locals, cells := 1, slots := 6 }) (Nat.le_refl _) (Nat.le_refl _) hRcells hRslots
  obtain ⟨s', hA⟩ : ∃ z, z = (T.setVm s.vm).setFrames (.invoking m args :: below) := ⟨_, rfl⟩
  rw [← hA] at Y
  have hvm : s'.vm = s.vm := by rw [hA]; rfl
  have hhp : s'.heap = H := by rw [hA]; exact hT
  have hW0 : s.WarmedH s'.vm := by rw [hvm]; exact State.WarmedH.refl s
  have hat' : ∀ w ∈ vx_at0 own ic cls names, w.before args s' = true := fun w hw => vx_ot_at hW0 hvm.symm (hgood w (List.mem_cons_of_mem _ (List.mem_cons_of_mem _ hw))) (hat w hw)
  have hk' : (Cond.classLink own ik cls).before args s' = true := vx_ot_at hW0 hvm.symm (hgood _ List.mem_cons_self) hk
  have hini' : (Cond.initialized cls).before args s' = true := vx_ot_at hW0 hvm.symm (hgood _ (List.mem_cons_of_mem _ List.mem_cons_self)) hini
  have hU' : vx_Zq Bundle.tN "UNASSIGNED_STACK" Bundle.steD A s' s'.heap := by rw [hhp]; exact vx_Zq.moved hW0.alike (hU.kept hS.2.1)
  have hN' : vx_Zq Bundle.tN "SUPPRESSED_SENTINEL" Bundle.listD A s' s'.heap := by rw [hhp]; exact vx_Zq.moved hW0.alike (hN.kept hS.2.1)
  have h : ∀ w ∈ Bundle.ownAtoms0 own ic cls names, w.before args s' = true := vx_own hat' (vx_isRefq hU'.1) (vx_isRefq hN'.1) hU'.2.word hN'.2.word
  have hown' : s'.vm.findClass own = some m.cls := by rw [hvm]; exact hown
  have hins : (Cond.instantiable cls 6).before args s' = true := h _ (by simp [Bundle.ownAtoms0])
  obtain ⟨vm₁, cX, kX, hfX, hkX, -, -, X₁, st1⟩ := Y.newCold hexec (own := own) (C := cls) (index := ik) (n := 6) hown' hk' hins hini'
    (g := F0 m pc ls rest) rfl (by rw [hb]; exact d0) (Nat.le_refl _) (Nat.le_refl _)
  generalize hT1 : (T.setVm vm₁).pushCell { cls := cX, slots := kX.instanceTypes.map defaultValue, vm := .none } = T1 at X₁ st1
  have hcat : (Value.ref T.heap.size).category = 1 := rfl
  have hcellA : T1.heap[T.heap.size]? = some (freshCell cX kX) := by rw [← hT1]; exact State.heap_pushCell_size _ _
  have d3' : decode c.code (pc + 3) = .ok (.dup, 1) := by rw [hb]; exact d3
  obtain ⟨U, hsteps, hrun, hend, hW, hsame, ce, hce, hO⟩ := X₁.ctorThrow0 hexec htr (own := own) (cls := cls) (names := names) (ic := ic) hown' hcls hnames h (fun x hx => nomatch hx) hfX hkX hcellA (by rw [hhp, hT]; exact Nat.le_refl _)
    (g := { method := m, pc := pc + 4, locals := ls, stack := .ref T.heap.size :: .ref T.heap.size :: rest, locked := none }) rfl hsize rfl rfl (rest := rest) rfl
    (by rw [hb]; exact d4) (by rw [hb]; exact d7) hout hRframes (by simp only [List.map_cons, List.sum_cons, hcat]; omega) hlocks
  obtain ⟨f1, f2⟩ := vx_frame hsame
  rw [hhp] at f1 f2
  have hWs : s.WarmedH U.vm := State.WarmedH.trans hW0 hW
  have hcl : s.vm.findClass cls = some ce.cls := by
    have h9 := hO.cls
    rw [hvm] at h9
    exact h9
  have hall : s.sameButNew ({ U with vm := s.vm } : State) locs mc ms := by
    subst hA
    obtain ⟨e1, e2⟩ := hsame
    rw [State.setFrames_setFrames] at e1
    have h2 : (T.setVm s.vm).sameButNew ({ U with vm := s.vm } : State) [] (0 + 1) (0 + 6) := ⟨e1, e2⟩
    have h3 := X.same.trans h2
    rw [List.append_nil] at h3
    exact h3.mono hc hs
  refine ⟨U, ?_, .threw T.heap.size, hrun, hend, Or.inr ⟨T.heap.size, rfl, cls, ce, locs, hx U hWs.alike f1 (fun q hq => f2 q hq (fun z hz => nomatch hz)), hce, hO.vm, hcl, hWs, hall, hf⟩⟩
  refine st1 _ ?_
  show Steps p.tables e below (T1.setTop { method := m, pc := pc + 3, locals := ls, stack := .ref T.heap.size :: rest, locked := none }) _
  jvm_step X₁.here [X₁.here.top, hexec, d3', Value.category]
  exact hsteps
/-- 'throw new E("text")': new; dup; ldc; invokespecial; athrow -/
theorem vx_throwS {cc : ByteArray} {pc : Nat} (hexec : p.tables.exec = Jvm.exec) (hb : c.code = cc) (hl : l.stackTraces = false) {own cls text : String} {names : List String} {ik is ic mc ms sa : Nat} {A : Nat → Prop}
    (hown : s.vm.findClass own = some m.cls) (hcls : Bundle.fit cls = true) (hnames : ∀ n ∈ names, Bundle.fit n = true)
    (hk : (Cond.classLink own ik cls).before args s = true) (hini : (Cond.initialized cls).before args s = true) (hstr : vk_R own is text sa s) (hat : ∀ w ∈ vx_atS own ic cls names, w.before args s = true)
    (hgood : ∀ w ∈ Cond.classLink own ik cls :: Cond.initialized cls :: vx_atS own ic cls names, vx_ot w = true)
    (hU : vx_Zq Bundle.tN "UNASSIGNED_STACK" Bundle.steD A s s.heap) (hN : vx_Zq Bundle.tN "SUPPRESSED_SENTINEL" Bundle.listD A s s.heap) (hS : va_S A s.heap H locs) (hsize : ls.size = c.maxLocals)
    (d0 : decode cc pc = .ok (.new ik, 3)) (d3 : decode cc (pc + 3) = .ok (.dup, 1)) (d4 : decode cc (pc + 4) = .ok (.ldc is, 2)) (d6 : decode cc (pc + 6) = .ok (.invokespecial ic, 3)) (d9 : decode cc (pc + 9) = .ok (.athrow, 1))
    (hout : ∀ x ∈ c.exceptionTable.toList, covers x (pc + 9) = false)
    (hRframes : names.length + 3 < R.frames) (hRlocals : (rest.map fun v => v.category).sum + (13 * (names.length + 1) + 43) ≤ R.locals) (hRcells : cells + 1 ≤ R.cells) (hRslots : slots + 6 ≤ R.slots) (hlocks : meth.locks = false)
    (hx : ∀ t : State, s.vm.Alike t.vm → H.size ≤ t.heap.size → (∀ q : Nat, q < H.size → t.heap[q]? = H[q]?) → XC cls s t)
    (hf : ∀ z ∈ locs, free z.base) (hc : cells + 1 ≤ mc) (hs : slots + 6 ≤ ms) :
    W p l e R s m args below meth c H locs cells slots (vx_MQ below Qc XC args s mc ms free) (F0 m pc ls rest) := by
  intro T hT X
  have htr : e.platform.stackTraces = false := (show e.platform.stackTraces = l.stackTraces by rw [X.admits.platform]).trans hl
  have Y := vx_rebase X (R' := { frames := R.frames, locals := R.locals, cells := 1, slots := 6 }) (Nat.le_refl _) (Nat.le_refl _) hRcells hRslots
  obtain ⟨s', hA⟩ : ∃ z, z = (T.setVm s.vm).setFrames (.invoking m args :: below) := ⟨_, rfl⟩
  rw [← hA] at Y
  have hvm : s'.vm = s.vm := by rw [hA]; rfl
  have hhp : s'.heap = H := by rw [hA]; exact hT
  have hW0 : s.WarmedH s'.vm := by rw [hvm]; exact State.WarmedH.refl s
  have hat' : ∀ w ∈ vx_atS own ic cls names, w.before args s' = true := fun w hw => vx_ot_at hW0 hvm.symm (hgood w (List.mem_cons_of_mem _ (List.mem_cons_of_mem _ hw))) (hat w hw)
  have hk' : (Cond.classLink own ik cls).before args s' = true := vx_ot_at hW0 hvm.symm (hgood _ List.mem_cons_self) hk
  have hini' : (Cond.initialized cls).before args s' = true := vx_ot_at hW0 hvm.symm (hgood _ (List.mem_cons_of_mem _ List.mem_cons_self)) hini
  have hU' : vx_Zq Bundle.tN "UNASSIGNED_STACK" Bundle.steD A s' s'.heap := by rw [hhp]; exact vx_Zq.moved hW0.alike (hU.kept hS.2.1)
  have hN' : vx_Zq Bundle.tN "SUPPRESSED_SENTINEL" Bundle.listD A s' s'.heap := by rw [hhp]; exact vx_Zq.moved hW0.alike (hN.kept hS.2.1)
  have h : ∀ w ∈ Bundle.ownAtoms own ic cls names, w.before args s' = true := vx_own hat' (vx_isRefq hU'.1) (vx_isRefq hN'.1) hU'.2.word hN'.2.word
  have hown' : s'.vm.findClass own = some m.cls := by rw [hvm]; exact hown
  have hins : (Cond.instantiable cls 6).before args s' = true := h _ (by simp [Bundle.ownAtoms])
  obtain ⟨vm₁, cX, kX, hfX, hkX, -, -, X₁, st1⟩ := Y.newCold hexec (own := own) (C := cls) (index := ik) (n := 6) hown' hk' hins hini'
    (g := F0 m pc ls rest) rfl (by rw [hb]; exact d0) (Nat.le_refl _) (Nat.le_refl _)
  generalize hT1 : (T.setVm vm₁).pushCell { cls := cX, slots := kX.instanceTypes.map defaultValue, vm := .none } = T1 at X₁ st1
  have hcat : (Value.ref T.heap.size).category = 1 := rfl
  have hcellA : T1.heap[T.heap.size]? = some (freshCell cX kX) := by rw [← hT1]; exact State.heap_pushCell_size _ _
  have d3' : decode c.code (pc + 3) = .ok (.dup, 1) := by rw [hb]; exact d3
  have d4' : decode c.code (pc + 4) = .ok (.ldc is, 2) := by rw [hb]; exact d4
  have hstr' : vk_R own is text sa s' := vk_R.warm hW0 hstr
  obtain ⟨U, hsteps, hrun, hend, hW, hsame, ce, hce, hO⟩ := X₁.ctorThrowS hexec htr (own := own) (cls := cls) (names := names) (ic := ic) hown' hcls hnames h (fun x hx => nomatch hx) hfX hkX hcellA (by rw [hhp, hT]; exact Nat.le_refl _) (msg := .ref sa) rfl
    (g := { method := m, pc := pc + 6, locals := ls, stack := .ref sa :: .ref T.heap.size :: .ref T.heap.size :: rest, locked := none }) rfl hsize rfl rfl (rest := rest) rfl
    (by rw [hb]; exact d6) (by rw [hb]; exact d9) hout hRframes (by simp only [List.map_cons, List.sum_cons, hcat]; omega) hlocks
  obtain ⟨f1, f2⟩ := vx_frame hsame
  rw [hhp] at f1 f2
  have hWs : s.WarmedH U.vm := State.WarmedH.trans hW0 hW
  have hcl : s.vm.findClass cls = some ce.cls := by
    have h9 := hO.cls
    rw [hvm] at h9
    exact h9
  have hall : s.sameButNew ({ U with vm := s.vm } : State) locs mc ms := by
    subst hA
    obtain ⟨e1, e2⟩ := hsame
    rw [State.setFrames_setFrames] at e1
    have h2 : (T.setVm s.vm).sameButNew ({ U with vm := s.vm } : State) [] (0 + 1) (0 + 6) := ⟨e1, e2⟩
    have h3 := X.same.trans h2
    rw [List.append_nil] at h3
    exact h3.mono hc hs
  refine ⟨U, ?_, .threw T.heap.size, hrun, hend, Or.inr ⟨T.heap.size, rfl, cls, ce, locs, hx U hWs.alike f1 (fun q hq => f2 q hq (fun z hz => nomatch hz)), hce, hO.vm, hcl, hWs, hall, hf⟩⟩
  refine st1 _ ?_
  show Steps p.tables e below (T1.setTop { method := m, pc := pc + 3, locals := ls, stack := .ref T.heap.size :: rest, locked := none }) _
  jvm_step X₁.here [X₁.here.top, hexec, d3', Value.category]
  exact X₁.ldcString hexec (own := own) (text := text) (index := is) (a := sa) hown' hstr'.1 hstr'.2
    (g := { method := m, pc := pc + 4, locals := ls, stack := .ref T.heap.size :: .ref T.heap.size :: rest, locked := none }) rfl d4' _ hsteps
/-- 'throw new E("text")', the text by a wide index -/
theorem vx_throwSW {cc : ByteArray} {pc : Nat} (hexec : p.tables.exec = Jvm.exec) (hb : c.code = cc) (hl : l.stackTraces = false) {own cls text : String} {names : List String} {ik is ic mc ms sa : Nat} {A : Nat → Prop}
    (hown : s.vm.findClass own = some m.cls) (hcls : Bundle.fit cls = true) (hnames : ∀ n ∈ names, Bundle.fit n = true)
    (hk : (Cond.classLink own ik cls).before args s = true) (hini : (Cond.initialized cls).before args s = true) (hstr : vk_R own is text sa s) (hat : ∀ w ∈ vx_atS own ic cls names, w.before args s = true)
    (hgood : ∀ w ∈ Cond.classLink own ik cls :: Cond.initialized cls :: vx_atS own ic cls names, vx_ot w = true)
    (hU : vx_Zq Bundle.tN "UNASSIGNED_STACK" Bundle.steD A s s.heap) (hN : vx_Zq Bundle.tN "SUPPRESSED_SENTINEL" Bundle.listD A s s.heap) (hS : va_S A s.heap H locs) (hsize : ls.size = c.maxLocals)
    (d0 : decode cc pc = .ok (.new ik, 3)) (d3 : decode cc (pc + 3) = .ok (.dup, 1)) (d4 : decode cc (pc + 4) = .ok (.ldc_w is, 3)) (d7 : decode cc (pc + 7) = .ok (.invokespecial ic, 3)) (d10 : decode cc (pc + 10) = .ok (.athrow, 1))
    (hout : ∀ x ∈ c.exceptionTable.toList, covers x (pc + 10) = false)
    (hRframes : names.length + 3 < R.frames) (hRlocals : (rest.map fun v => v.category).sum + (13 * (names.length + 1) + 43) ≤ R.locals) (hRcells : cells + 1 ≤ R.cells) (hRslots : slots + 6 ≤ R.slots) (hlocks : meth.locks = false)
    (hx : ∀ t : State, s.vm.Alike t.vm → H.size ≤ t.heap.size → (∀ q : Nat, q < H.size → t.heap[q]? = H[q]?) → XC cls s t)
    (hf : ∀ z ∈ locs, free z.base) (hc : cells + 1 ≤ mc) (hs : slots + 6 ≤ ms) :
    W p l e R s m args below meth c H locs cells slots (vx_MQ below Qc XC args s mc ms free) (F0 m pc ls rest) := by
  intro T hT X
  have htr : e.platform.stackTraces = false := (show e.platform.stackTraces = l.stackTraces by rw [X.admits.platform]).trans hl
  have Y := vx_rebase X (R' := { frames := R.frames, locals := R.locals, cells := 1, slots := 6 }) (Nat.le_refl _) (Nat.le_refl _) hRcells hRslots
  obtain ⟨s', hA⟩ : ∃ z, z = (T.setVm s.vm).setFrames (.invoking m args :: below) := ⟨_, rfl⟩
  rw [← hA] at Y
  have hvm : s'.vm = s.vm := by rw [hA]; rfl
  have hhp : s'.heap = H := by rw [hA]; exact hT
  have hW0 : s.WarmedH s'.vm := by rw [hvm]; exact State.WarmedH.refl s
  have hat' : ∀ w ∈ vx_atS own ic cls names, w.before args s' = true := fun w hw => vx_ot_at hW0 hvm.symm (hgood w (List.mem_cons_of_mem _ (List.mem_cons_of_mem _ hw))) (hat w hw)
  have hk' : (Cond.classLink own ik cls).before args s' = true := vx_ot_at hW0 hvm.symm (hgood _ List.mem_cons_self) hk
  have hini' : (Cond.initialized cls).before args s' = true := vx_ot_at hW0 hvm.symm (hgood _ (List.mem_cons_of_mem _ List.mem_cons_self)) hini
  have hU' : vx_Zq Bundle.tN "UNASSIGNED_STACK" Bundle.steD A s' s'.heap := by rw [hhp]; exact vx_Zq.moved hW0.alike (hU.kept hS.2.1)
  have hN' : vx_Zq Bundle.tN "SUPPRESSED_SENTINEL" Bundle.listD A s' s'.heap := by rw [hhp]; exact vx_Zq.moved hW0.alike (hN.kept hS.2.1)
  have h : ∀ w ∈ Bundle.ownAtoms own ic cls names, w.before args s' = true := vx_own hat' (vx_isRefq hU'.1) (vx_isRefq hN'.1) hU'.2.word hN'.2.word
  have hown' : s'.vm.findClass own = some m.cls := by rw [hvm]; exact hown
  have hins : (Cond.instantiable cls 6).before args s' = true := h _ (by simp [Bundle.ownAtoms])
  obtain ⟨vm₁, cX, kX, hfX, hkX, -, -, X₁, st1⟩ := Y.newCold hexec (own := own) (C := cls) (index := ik) (n := 6) hown' hk' hins hini'
    (g := F0 m pc ls rest) rfl (by rw [hb]; exact d0) (Nat.le_refl _) (Nat.le_refl _)
  generalize hT1 : (T.setVm vm₁).pushCell { cls := cX, slots := kX.instanceTypes.map defaultValue, vm := .none } = T1 at X₁ st1
  have hcat : (Value.ref T.heap.size).category = 1 := rfl
  have hcellA : T1.heap[T.heap.size]? = some (freshCell cX kX) := by rw [← hT1]; exact State.heap_pushCell_size _ _
  have d3' : decode c.code (pc + 3) = .ok (.dup, 1) := by rw [hb]; exact d3
  have d4' : decode c.code (pc + 4) = .ok (.ldc_w is, 3) := by rw [hb]; exact d4
  have hstr' : vk_R own is text sa s' := vk_R.warm hW0 hstr
  obtain ⟨U, hsteps, hrun, hend, hW, hsame, ce, hce, hO⟩ := X₁.ctorThrowS hexec htr (own := own) (cls := cls) (names := names) (ic := ic) hown' hcls hnames h (fun x hx => nomatch hx) hfX hkX hcellA (by rw [hhp, hT]; exact Nat.le_refl _) (msg := .ref sa) rfl
    (g := { method := m, pc := pc + 7, locals := ls, stack := .ref sa :: .ref T.heap.size :: .ref T.heap.size :: rest, locked := none }) rfl hsize rfl rfl (rest := rest) rfl
    (by rw [hb]; exact d7) (by rw [hb]; exact d10) hout hRframes (by simp only [List.map_cons, List.sum_cons, hcat]; omega) hlocks
  obtain ⟨f1, f2⟩ := vx_frame hsame
  rw [hhp] at f1 f2
  have hWs : s.WarmedH U.vm := State.WarmedH.trans hW0 hW
  have hcl : s.vm.findClass cls = some ce.cls := by
    have h9 := hO.cls
    rw [hvm] at h9
    exact h9
  have hall : s.sameButNew ({ U with vm := s.vm } : State) locs mc ms := by
    subst hA
    obtain ⟨e1, e2⟩ := hsame
    rw [State.setFrames_setFrames] at e1
    have h2 : (T.setVm s.vm).sameButNew ({ U with vm := s.vm } : State) [] (0 + 1) (0 + 6) := ⟨e1, e2⟩
    have h3 := X.same.trans h2
    rw [List.append_nil] at h3
    exact h3.mono hc hs
  refine ⟨U, ?_, .threw T.heap.size, hrun, hend, Or.inr ⟨T.heap.size, rfl, cls, ce, locs, hx U hWs.alike f1 (fun q hq => f2 q hq (fun z hz => nomatch hz)), hce, hO.vm, hcl, hWs, hall, hf⟩⟩
  refine st1 _ ?_
  show Steps p.tables e below (T1.setTop { method := m, pc := pc + 3, locals := ls, stack := .ref T.heap.size :: rest, locked := none }) _
  jvm_step X₁.here [X₁.here.top, hexec, d3', Value.category]
  exact X₁.ldcStringW hexec (own := own) (text := text) (index := is) (a := sa) hown' hstr'.1 hstr'.2
    (g := { method := m, pc := pc + 4, locals := ls, stack := .ref T.heap.size :: .ref T.heap.size :: rest, locked := none }) rfl d4' _ hsteps
end Ends
section Bodies
variable {l : Launch}
theorem vx_ofW {y : MethodName} {ws ws' : List Cond} {rm : Room} {Pc : Array Value → State → Prop} {Qc : Array Value → State → Outcome → State → Prop} {XC : String → State → State → Prop} {mc ms : Nat} {free : Addr → Prop} {cc : ByteArray} {maxL : Nat} {ret : Option FieldType}
    (hy : plainName y.cls = true) (hw : ws = Cond.code y cc maxL ret :: ws')
    (body : ∀ p e s m args below meth c s₁, BodyLoose p l y (headSpec ws rm) cc maxL ret e s m args below meth c s₁ → c.maxLocals = maxL → (∀ x ∈ c.exceptionTable.toList, False) → Pc args s →
      W p l e (headSpec ws rm).room s m args below meth c s.heap [] 0 0 (vx_MQ below Qc XC args s mc ms free) (entryFrame m args maxL)) : vx_Met l y ws rm Pc Qc XC mc ms free := by
  refine MetFree.of_bodyS (code := cc) (maxLocals := maxL) (ret := ret) hy ?_ ?_
  · intro args s m h hn
    obtain ⟨meth, c, h1, h2, h3, h4, h5, h6, -, -⟩ := Cond.code_spec hn (atoms_spec (ws := ws) h _ (by rw [hw]; exact List.mem_cons_self))
    exact ⟨meth, c, h1, h2, h3, h4, h5, h6⟩
  · intro p e s m args below meth c s₁ B hml hP _
    have hh0 : s₁.heap = s.heap := by rw [B.state]; rfl
    have ht : ∀ x ∈ c.exceptionTable.toList, False := by
      obtain ⟨meth9, c9, h1, h2, -, -, -, -, h7, -⟩ := Cond.code_spec B.named (atoms_spec (ws := ws) B.pre _ (by rw [hw]; exact List.mem_cons_self))
      cases Option.some.inj (h1.symm.trans B.method)
      cases Option.some.inj (h2.symm.trans (Stand.of_body B).code)
      intro x hx
      rw [Array.isEmpty_iff.mp h7] at hx
      cases hx
    obtain ⟨t, a1, o, b1, b2, b3⟩ := body p e s m args below meth c s₁ B hml ht hP s₁ hh0 (Stand.of_body B)
    exact ⟨t, o, a1, b1, b2, b3⟩
/-- the table of a body with handlers -/
theorem vx_table {p : Program} {x y : MethodName} {S : Spec} {cc bytes : ByteArray} {maxL maxL' : Nat} {ret ret' : Option FieldType} {e : Env} {s s₁ : State} {m : MethodId} {args : Array Value} {below : List Frame} {meth : Method} {c : Code} {hh : List (Nat × Nat × Nat × Nat)}
    (B : BodyLoose p l y S cc maxL ret e s m args below meth c s₁) (h : (Cond.codeWith y bytes maxL' ret' hh).before args s = true) : c.exceptionTable.toList = tableOf hh := by
  obtain ⟨m9, meth9, c9, hn9, h1, h2, -, -, h6, -⟩ := Cond.codeWith_spec h
  cases Option.some.inj (hn9.symm.trans B.named)
  cases Option.some.inj (h1.symm.trans B.method)
  cases Option.some.inj (h2.symm.trans (Stand.of_body B).code)
  rw [← h6, table_eq]
end Bodies
end VXA
/-! ===== END ===== -/
/-! ===== BEGIN a static call of a method with an exception table ===== -/
section VXS
variable {p : Program} {l : Launch} {e : Env} {R : Room} {s : State} {m : MethodId} {args : Array Value} {below : List Frame} {meth : Method} {c : Code} {T : State} {H : Heap} {locs : List Loc} {cells slots : Nat}
abbrev vx_CSW (R : Room) (s : State) (args : Array Value) (own : String) (index : Nat) (y : MethodName) (bytes : ByteArray) (maxL : Nat) (ret : Option FieldType) (hh : List (Nat × Nat × Nat × Nat)) (ws : List Cond) (rm : Room) (mc ms n : Nat) : Prop :=
  (rm.cells = mc ∧ rm.slots = ms ∧ rm.frames + 1 ≤ R.frames ∧ 8 + (maxL + 11) + rm.locals ≤ R.locals ∧ (∀ w ∈ ws, ∀ (a' : Array Value) (U : State), s.WarmedH U.vm → w.before a' U = true) ∧ Cond.codeWith y bytes maxL ret hh ∈ ws) ∧
  (Cond.codeWith y bytes maxL ret hh).before args s = true ∧ (Cond.initialized y.cls).before args s = true ∧ (y.cls ≠ "java/lang/invoke/MethodHandle" ∧ y.cls ≠ "java/lang/invoke/VarHandle") ∧
  (∀ sig, parseMethodDescriptor y.desc = some sig → n = sig.parameters.length) ∧ (Cond.methodLink own index y).before args s = true ∧ (Cond.static y).before args s = true
theorem vx_cwSW {own : String} {index maxL mc ms : Nat} {y : MethodName} {bytes : ByteArray} {ret : Option FieldType} {hh : List (Nat × Nat × Nat × Nat)} {Ts ws ws' : List Cond} {rm : Room} (n : Nat) (ht : ∀ w ∈ Ts, w.before args s = true) (hT : GoodIn Ts (va_wsS own index y ws)) (hw : ws = Cond.codeWith y bytes maxL ret hh :: ws') (hrc : rm.cells = mc) (hrs : rm.slots = ms)
    (hd : y.cls ≠ "java/lang/invoke/MethodHandle" ∧ y.cls ≠ "java/lang/invoke/VarHandle" ∧ (parseMethodDescriptor y.desc).map (fun d => d.parameters.length) = some n) (hR : rm.frames + 1 ≤ R.frames ∧ 8 + (maxL + 11) + rm.locals ≤ R.locals) :
    vx_CSW R s args own index y bytes maxL ret hh ws rm mc ms n := by
  have ok : ∀ w ∈ va_wsS own index y ws, w.before args s = true := fun w h => ht w (hT w h).1
  have hG : GoodIn Ts ws := fun w h => hT w (by unfold va_wsS; exact List.mem_append_right _ h)
  have hc : Cond.codeWith y bytes maxL ret hh ∈ ws := by rw [hw]; exact List.mem_cons_self
  refine ⟨⟨hrc, hrs, hR.1, hR.2, pay_in ht hG, hc⟩, ht _ (hG _ hc).1, ok _ (by simp [va_wsS]), ⟨hd.1, hd.2.1⟩, fun sig h => ?_, ok _ (by simp [va_wsS]), ok _ (by simp [va_wsS])⟩
  have h2 := hd.2.2
  rw [h] at h2
  exact (Option.some.inj h2).symm
theorem vx_callSW (X : Stand p l e R s m args below meth c T locs cells slots) (hexec : p.tables.exec = Jvm.exec) {own : String} {index : Nat} {y : MethodName} {bytes : ByteArray} {maxL : Nat} {ret : Option FieldType} {hh : List (Nat × Nat × Nat × Nat)}
    (hown : s.vm.findClass own = some m.cls) (hlink : (Cond.methodLink own index y).before args s = true) (hstat : (Cond.static y).before args s = true) (hinit : (Cond.initialized y.cls).before args s = true)
    (hcode : (Cond.codeWith y bytes maxL ret hh).before args s = true) (hy : y.cls ≠ "java/lang/invoke/MethodHandle" ∧ y.cls ≠ "java/lang/invoke/VarHandle")
    {W9 : Nat} {Pre : Pt → Array Value → Prop} {Post : Pt → Array Value → Option Value → Pt → Prop} (hK : Back l R p e below s args y 3 W9 Pre Post)
    {g : JFrame} (hg : g.method = m) (hsize : g.locals.size = c.maxLocals) {argsL rest : List Value} (hlen : ∀ sig, parseMethodDescriptor y.desc = some sig → argsL.length = sig.parameters.length)
    (hstack : g.stack = argsL.reverse ++ rest) (hW : 2 * g.monitorRoom + (rest.map fun v => v.category).sum ≤ W9) (hdg : decode c.code g.pc = .ok (.invokestatic index, 3))
    (hpre : ∀ vm₁, s.WarmedH vm₁ → Pre ⟨T.setVm vm₁, locs, cells, slots⟩ argsL.toArray) :
    ∃ (v : Option Value) (vm₁ : Vm) (B : Pt), s.WarmedH vm₁ ∧ Stand p l e R s m args below meth c B.U B.locs B.cells B.slots ∧ Post ⟨T.setVm vm₁, locs, cells, slots⟩ argsL.toArray v B ∧
      ∀ target, Steps p.tables e below (B.U.setTop { g with pc := g.pc + 3, stack := v.toList ++ rest }) target → Steps p.tables e below (T.setTop g) target := by
  obtain ⟨mk, methM, cM, hnamed, hmethM, -, -, -, -, -, -, hsigM⟩ := Cond.codeWith_spec hcode
  have hstatic : methM.isStatic = true := Cond.static_spec hnamed hmethM hstat
  obtain ⟨kP, hkP, -⟩ := className_of_methodNamed hnamed
  have hinitP : kP.init = .initialized := Cond.initialized_spec (findClass_of_methodNamed hnamed) hkP hinit
  obtain ⟨vm₁, X₁, hstep₁⟩ := X.invokestatic hexec hown hlink hnamed hmethM hstatic hkP hinitP hy (g := g) hg (argsL := argsL) (rest := rest) (hlen _ hsigM) hstack hdg
  obtain ⟨v, B, X', hpost, hsteps⟩ := hK m meth c ⟨T.setVm vm₁, locs, cells, slots⟩ { g with stack := rest } (.invokestatic index) mk argsL.toArray X₁ hg hsize hdg hW (X₁.named hnamed) (hpre vm₁ X₁.warmed)
  exact ⟨v, vm₁, B, X₁.warmed, X', hpost, fun target h => hstep₁ _ fun acts => by rw [doInvoke_state]; exact hsteps.trans h⟩
theorem vx_runSW {y : MethodName} {bytes cc : ByteArray} {maxL nL mc ms n index : Nat} {ret : Option FieldType} {hh : List (Nat × Nat × Nat × Nat)} {ws : List Cond} {rm : Room} {Pc : Array Value → State → Prop} {Qc : Array Value → State → Outcome → State → Prop} {free : Addr → Prop} {Ts : List Cond} {own : String} {As rest : List Value} {g : JFrame}
    (S : CallFix p m c cc nL s args Ts own) (hM : Met l y ws rm Pc Qc mc ms free) (cw : vx_CSW R s args own index y bytes maxL ret hh ws rm mc ms n) (hp : PreS s H Pc As)
    (hg : g.method = m) (hn : As.length = n) (hsize : g.locals.size = nL) (hstack : g.stack = As.reverse ++ rest) (hW : 2 * g.monitorRoom + (rest.map fun v => v.category).sum ≤ 8) (hdg : decode cc g.pc = .ok (.invokestatic index, 3)) (hf : cells + mc ≤ R.cells ∧ slots + ms ≤ R.slots) :
    va_Run p l e R s m args below meth c H locs cells slots mc ms g rest (Qc As.toArray) (free) := by
  obtain ⟨⟨hrc, hrs, hfr, hlo, hws, hcw⟩, hcode, hini, hy, hlen, hl, hstt⟩ := cw
  have hK : Back l R p e below s args y 3 8 (PreOf R mc ms Pc) (PostOf Qc mc ms free) := va_backW (hh := hh) (bytes := bytes) (maxL := maxL) (ret := ret) hM hp.1 hrc hrs hfr hlo hws hcw (fun a' U hW => word_at hW (Or.inl (by first | rfl | simp [Cond.onTables, Cond.keeps, Cond.steady])) hini)
  obtain ⟨hx, hb, hml, ho, -⟩ := S
  intro T hT X
  obtain ⟨v, vm₁, ⟨U', l2, c2, s2⟩, hW₁, X', ⟨g', mk, t, L, e1, e2, hq, h1, hL, h2, h3⟩, st⟩ := vx_callSW X hx (hh := hh) (bytes := bytes) (maxL := maxL) (ret := ret) ho hl hstt hini hcode hy hK hg (hsize.trans hml.symm) (argsL := As) (rest := rest) (fun sig h => hn.trans (hlen sig h)) hstack hW (by rw [hb]; exact hdg)
    (fun vm₁ hW₁ => ⟨hf.1, hf.2, hp.2 (T.setVm vm₁) hT hW₁⟩)
  dsimp only [Pt.U, Pt.locs, Pt.cells, Pt.slots] at X' e1 e2 h1 h2 h3 st
  subst h1; subst h2; subst h3
  exact ⟨v, (T.setVm vm₁).calling g' mk As.toArray, t, U', L, hT, X', hL, e1, e2, hq, st⟩
/-- a thing of a world lies in the heap -/
theorem vx_lt {D : va_G} {cl : List vw_C} {ws : va_W} {H1 : Heap} (h : va_P D cl ws H1) {k : Nat} {q : Nat × va_E} (hk : ws[k]? = some q) : q.1 < H1.size := (h k q hk).lt
end VXS
/-! ===== END ===== -/
/-! ===== BEGIN methods with a table of their own: called by a name, returning or throwing ===== -/
section VXH
/-! vx_backW, vx_callVX, vx_callSX, vx_callVW, vx_runVW, vx_runVX, vx_runSX, vx_ofWH follow the same proofs as their sisters above (Free/Laws.lean, Shelf42/LK1.lean); vx_outP calls Shelf42/NT130.lean (outThrough). -/
section
variable {l : Launch} {R : Room} {p : Program} {e : Env} {below : List Frame} {s : State} {sargs : Array Value} {y : MethodName} {len W9 : Nat}
theorem vx_backW {ws : List Cond} {rm : Room} {Pc : Array Value → State → Prop} {Qc : Array Value → State → Outcome → State → Prop} {XC : String → State → State → Prop} {mc ms : Nat} {free : Addr → Prop} {bytes : ByteArray} {maxL : Nat} {ret : Option FieldType} {hh : List (Nat × Nat × Nat × Nat)}
    (hM : vx_Met l y ws rm Pc Qc XC mc ms free) (hblind : FrameBlind Pc) (hrc : rm.cells = mc) (hrs : rm.slots = ms)
    (hframes : rm.frames + 1 ≤ R.frames) (hlocals : W9 + (maxL + 11) + rm.locals ≤ R.locals)
    (hws : ∀ w ∈ ws, ∀ a' U, s.WarmedH U.vm → w.before a' U = true) (hcode : Cond.codeWith y bytes maxL ret hh ∈ ws) (hinit : ∀ a' U, s.WarmedH U.vm → (Cond.initialized y.cls).before a' U = true) :
    vx_Back l R p e below s sargs y len W9 (PreOf R mc ms Pc) (PostOf Qc mc ms free) (vx_Post XC mc ms free) := by
  intro m meth c A g ig mk a X hg hsize hdg hW hn hp
  have h1 : (headSpec ws rm).pre.before a A.U = true := atoms_intro fun w hw => hws w hw _ _ X.warmed
  have h2 : (Cond.codeWith y bytes maxL ret hh).before a A.U = true := hws _ hcode _ _ X.warmed
  have h3 : (Cond.initialized y.cls).before a A.U = true := hinit _ _ X.warmed
  have h4 : A.cells + (headSpec ws rm).room.cells ≤ R.cells := by rw [show (headSpec ws rm).room.cells = mc from hrc]; exact hp.1
  have h5 : A.slots + (headSpec ws rm).room.slots ≤ R.slots := by rw [show (headSpec ws rm).room.slots = ms from hrs]; exact hp.2.1
  have hPc : Pc a (A.U.calling g mk a) := hblind _ _ _ _ hp.2.2
  obtain ⟨U, Ls, c0, s0⟩ := A
  dsimp only [Pt.U, Pt.locs, Pt.cells, Pt.slots] at h1 h2 h3 h4 h5 X hn hPc ⊢
  obtain ⟨m9, methY, cY, hn9, hmY, hcY, -, hlY, -⟩ := Cond.codeWith_spec h2
  cases Option.some.inj (hn9.symm.trans hn)
  obtain ⟨kY, hkY, -⟩ := className_of_methodNamed hn
  have hinitY : kY.init = .initialized := Cond.initialized_spec (findClass_of_methodNamed hn) hkY h3
  have h : At U g.method c below := by rw [hg]; exact X.here
  have hlocals9 : W9 + (maxL + 11) + (headSpec ws rm).room.locals ≤ R.locals := hlocals
  have happ : (headSpec ws rm).appliesLoose y e.platform (U.calling g mk a) = true :=
    Spec.appliesLoose_calling (g := g) h hdg hn hkY hinitY
      (X.room_calling (g := g) (R' := (headSpec ws rm).room) hsize hmY hcY hframes (by rw [hlY]; omega) h4 h5) h1
  obtain ⟨mid, hmid⟩ := h.above
  have hfr : (U.setTop g).frames = (.java g :: mid) ++ below := by rw [State.frames_setTop' g h.top, hmid]; rfl
  obtain ⟨o, s₂, hsteps, -, hend, hq⟩ := Steps.callFree hM p X.admits X.cas X.clock (acts := []) hfr happ hPc trivial
  have hq' : vx_Q Qc XC mc ms free a (U.calling g mk a) o s₂ := hq
  rw [State.frames_setTop' g h.top] at hend
  obtain ⟨g₀, hg0⟩ := Option.isSome_iff_exists.mp h.top
  obtain ⟨r, hr⟩ := State.topJava?_eq_some.mp hg0
  have hr' : (({ U with heap := s₂.heap, slotsUsed := s₂.slotsUsed } : State).setVm s₂.vm).frames = .java g₀ :: r := hr
  rcases hq' with ⟨hqc, L, hfe, hL⟩ | ⟨q, rfl, E, ce, L, hx, hce, hcv, hcl, hW₂, hsm, hL⟩
  · obtain ⟨⟨v, rfl⟩, hW₂, e2, q2, q3, q4, q5, q6⟩ := id hfe
    have e3 : s₂ = ({ (U.calling g mk a).setFrames s₂.frames with heap := s₂.heap, slotsUsed := s₂.slotsUsed } : State).setVm s₂.vm := by
      have : s₂ = ({ s₂ with vm := (U.calling g mk a).vm } : State).setVm s₂.vm := rfl
      rw [e2] at this
      exact this
    obtain ⟨c₂, i₂, len₂, hc₂, hd₂, hf₂⟩ := hend
    have hW' : U.WarmedH s₂.vm := hW₂
    have hcc : c₂ = c := by
      have h1 : s₂.code? g.method = U.code? g.method := by
        rw [State.code?_eq, State.code?_eq, hW'.alike.method?]
      exact Option.some.inj (hc₂.symm.trans (h1.trans h.code))
    subst hcc
    have hlen : len₂ = len := by rw [hdg] at hd₂; cases hd₂; rfl
    subst hlen
    have hs₂ : s₂ = (({ U with heap := s₂.heap, slotsUsed := s₂.slotsUsed } : State).setVm s₂.vm).setTop { g with pc := g.pc + len₂, stack := v.toList ++ g.stack } := by
      refine e3.trans ?_
      rw [hf₂, State.calling_eq h.top, State.setFrames_setFrames, State.setTop_of_frames _ hr', hr]
      rfl
    have hsame : U.sameButNew ({ U with heap := s₂.heap, slotsUsed := s₂.slotsUsed } : State) L mc ms := by
      refine ⟨?_, q2, q3, q4, q5, q6⟩
      obtain ⟨t, ht, -⟩ := State.frames_cons hr
      show ({ U with heap := s₂.heap, slotsUsed := s₂.slotsUsed } : State) = { U.setFrames U.frames with heap := s₂.heap, slotsUsed := s₂.slotsUsed }
      rw [State.setFrames_self ht]
    subst hg
    refine Or.inl ⟨v, ⟨(({ U with heap := s₂.heap, slotsUsed := s₂.slotsUsed } : State).setVm s₂.vm), Ls ++ L, c0 + mc, s0 + ms⟩,
      ⟨X.admits, X.cas, X.clock, X.frames, X.room, X.hears, X.method, X.code, (X.here.setHeapUsed s₂.heap s₂.slotsUsed).setVm hW'.alike, X.tail, State.WarmedH.trans X.warmed hW', X.limits, X.bytes, X.same.trans (hsame.setVm s.vm)⟩,
      ⟨g, mk, s₂, L, rfl, rfl, hqc, rfl, hL, rfl, rfl⟩, ?_⟩
    show Steps p.tables e below _ ((({ U with heap := s₂.heap, slotsUsed := s₂.slotsUsed } : State).setVm s₂.vm).setTop { g with pc := g.pc + len₂, stack := v.toList ++ g.stack })
    rw [← hs₂]
    exact hsteps
  · obtain ⟨e2, q2, q3, q4, q5, q6⟩ := id hsm
    have e3 : s₂ = ({ (U.calling g mk a).setFrames s₂.frames with heap := s₂.heap, slotsUsed := s₂.slotsUsed } : State).setVm s₂.vm := by
      have : s₂ = ({ s₂ with vm := (U.calling g mk a).vm } : State).setVm s₂.vm := rfl
      rw [e2] at this
      exact this
    have hf₂ : s₂.frames = .throwing q :: .java g :: U.frames.tail := hend
    have hW' : U.WarmedH s₂.vm := hW₂
    have hs₂ : s₂ = ((({ U with heap := s₂.heap, slotsUsed := s₂.slotsUsed } : State).setVm s₂.vm).setTop g).pushFrame (.throwing q) := by
      refine e3.trans ?_
      rw [hf₂, State.calling_eq h.top, State.setFrames_setFrames, State.pushFrame, State.frames_setTop _ hr', State.setTop_of_frames _ hr', State.setFrames_setFrames, hr]
      rfl
    have hsame : U.sameButNew ({ U with heap := s₂.heap, slotsUsed := s₂.slotsUsed } : State) L mc ms := by
      refine ⟨?_, q2, q3, q4, q5, q6⟩
      obtain ⟨t, ht, -⟩ := State.frames_cons hr
      show ({ U with heap := s₂.heap, slotsUsed := s₂.slotsUsed } : State) = { U.setFrames U.frames with heap := s₂.heap, slotsUsed := s₂.slotsUsed }
      rw [State.setFrames_self ht]
    subst hg
    refine Or.inr ⟨q, ⟨(({ U with heap := s₂.heap, slotsUsed := s₂.slotsUsed } : State).setVm s₂.vm), Ls ++ L, c0 + mc, s0 + ms⟩,
      ⟨X.admits, X.cas, X.clock, X.frames, X.room, X.hears, X.method, X.code, (X.here.setHeapUsed s₂.heap s₂.slotsUsed).setVm hW'.alike, X.tail, State.WarmedH.trans X.warmed hW', X.limits, X.bytes, X.same.trans (hsame.setVm s.vm)⟩,
      ⟨g, mk, s₂, L, E, ce, rfl, rfl, hx, hce, hcv, hcl, rfl, hL, rfl, rfl⟩, ?_⟩
    show Steps p.tables e below _ (((({ U with heap := s₂.heap, slotsUsed := s₂.slotsUsed } : State).setVm s₂.vm).setTop g).pushFrame (.throwing q))
    rw [← hs₂]
    exact hsteps
end
variable {p : Program} {l : Launch} {e : Env} {R : Room} {s : State} {m : MethodId} {args : Array Value} {below : List Frame} {meth : Method} {c : Code} {T : State} {H : Heap} {locs : List Loc} {cells slots : Nat}
theorem vx_callVX (X : Stand p l e R s m args below meth c T locs cells slots) (hexec : p.tables.exec = Jvm.exec) {own C : String} {index : Nat} {y : MethodName} {bytes : ByteArray} {maxL : Nat} {ret : Option FieldType} {hh : List (Nat × Nat × Nat × Nat)}
    (hown : s.vm.findClass own = some m.cls) (hlink : (Cond.methodLink own index y).before args s = true) (hinst : (Cond.instanceMethod y).before args s = true) (hsel : (Cond.selects C y y).before args s = true)
    (hcode : (Cond.codeWith y bytes maxL ret hh).before args s = true) (hy : y.cls ≠ "java/lang/invoke/MethodHandle" ∧ y.cls ≠ "java/lang/invoke/VarHandle")
    {W9 : Nat} {Pre : Pt → Array Value → Prop} {Post : Pt → Array Value → Option Value → Pt → Prop} {PostX : Pt → Array Value → Addr → Pt → Prop} (hK : vx_Back l R p e below s args y 3 W9 Pre Post PostX)
    {b : Addr} {cellB : Cell} (hcell : T.heap[b]? = some cellB) (hobj : cellB.vm.isStatics = false) (hcls : s.vm.findClass C = some cellB.cls)
    {g : JFrame} (hg : g.method = m) (hsize : g.locals.size = c.maxLocals) {argsL rest : List Value} (hlen : ∀ sig, parseMethodDescriptor y.desc = some sig → argsL.length = sig.parameters.length)
    (hstack : g.stack = argsL.reverse ++ .ref b :: rest) (hW : 2 * g.monitorRoom + (rest.map fun v => v.category).sum ≤ W9) (hdg : decode c.code g.pc = .ok (.invokevirtual index, 3))
    (hpre : ∀ vm₁, s.WarmedH vm₁ → Pre ⟨T.setVm vm₁, locs, cells, slots⟩ (Value.ref b :: argsL).toArray) :
    (∃ (v : Option Value) (vm₁ : Vm) (B : Pt), s.WarmedH vm₁ ∧ Stand p l e R s m args below meth c B.U B.locs B.cells B.slots ∧ Post ⟨T.setVm vm₁, locs, cells, slots⟩ (Value.ref b :: argsL).toArray v B ∧
      ∀ target, Steps p.tables e below (B.U.setTop { g with pc := g.pc + 3, stack := v.toList ++ rest }) target → Steps p.tables e below (T.setTop g) target) ∨
    (∃ (q : Addr) (vm₁ : Vm) (B : Pt), s.WarmedH vm₁ ∧ Stand p l e R s m args below meth c B.U B.locs B.cells B.slots ∧ PostX ⟨T.setVm vm₁, locs, cells, slots⟩ (Value.ref b :: argsL).toArray q B ∧
      Steps p.tables e below (T.setTop g) ((B.U.setTop { g with stack := rest }).pushFrame (.throwing q))) := by
  obtain ⟨mk, methM, hnamed, hmethM, hstM, habM⟩ := Cond.instanceMethod_spec hinst
  obtain ⟨m8, methM', cM, hn8, hmethM', -, -, -, -, -, -, hsigM⟩ := Cond.codeWith_spec hcode
  cases Option.some.inj (hn8.symm.trans hnamed)
  cases hmethM.symm.trans hmethM'
  obtain ⟨c2, r2, m2, q1, q2, q3, q4, kP, hkP, hkPi⟩ := Cond.selects_spec hsel
  cases hcls.symm.trans q1
  cases (State.methodFound?_of_named hnamed hy).symm.trans q2
  cases hnamed.symm.trans q3
  have hselP : selectMethod e.platform s.vm cellB.cls mk = .method mk := by rw [Launch.admits_selectMethod X.admits]; exact q4
  obtain ⟨vm₁, X₁, hstep₁⟩ := X.invokevirtual hexec hown hlink hnamed hmethM hstM hkP hkPi hy (a := b) (cell := cellB) hcell
    (fun z h => by rw [h] at hobj; cases hobj) hselP hmethM habM hkP hkPi (g := g) hg (argsL := argsL) (rest := rest) (hlen _ hsigM) hstack hdg
  rcases hK m meth c ⟨T.setVm vm₁, locs, cells, slots⟩ { g with stack := rest } (.invokevirtual index) mk (Value.ref b :: argsL).toArray X₁ hg hsize hdg hW (X₁.named hnamed) (hpre vm₁ X₁.warmed) with ⟨v, B, X', hpost, hsteps⟩ | ⟨q, B, X', hpost, hsteps⟩
  · exact Or.inl ⟨v, vm₁, B, X₁.warmed, X', hpost, fun target h => hstep₁ _ fun acts => by rw [doInvoke_state]; exact hsteps.trans h⟩
  · exact Or.inr ⟨q, vm₁, B, X₁.warmed, X', hpost, hstep₁ _ fun acts => by rw [doInvoke_state]; exact hsteps⟩
theorem vx_callSX (X : Stand p l e R s m args below meth c T locs cells slots) (hexec : p.tables.exec = Jvm.exec) {own : String} {index : Nat} {y : MethodName} {bytes : ByteArray} {maxL : Nat} {ret : Option FieldType} {hh : List (Nat × Nat × Nat × Nat)}
    (hown : s.vm.findClass own = some m.cls) (hlink : (Cond.methodLink own index y).before args s = true) (hstat : (Cond.static y).before args s = true) (hinit : (Cond.initialized y.cls).before args s = true)
    (hcode : (Cond.codeWith y bytes maxL ret hh).before args s = true) (hy : y.cls ≠ "java/lang/invoke/MethodHandle" ∧ y.cls ≠ "java/lang/invoke/VarHandle")
    {W9 : Nat} {Pre : Pt → Array Value → Prop} {Post : Pt → Array Value → Option Value → Pt → Prop} {PostX : Pt → Array Value → Addr → Pt → Prop} (hK : vx_Back l R p e below s args y 3 W9 Pre Post PostX)
    {g : JFrame} (hg : g.method = m) (hsize : g.locals.size = c.maxLocals) {argsL rest : List Value} (hlen : ∀ sig, parseMethodDescriptor y.desc = some sig → argsL.length = sig.parameters.length)
    (hstack : g.stack = argsL.reverse ++ rest) (hW : 2 * g.monitorRoom + (rest.map fun v => v.category).sum ≤ W9) (hdg : decode c.code g.pc = .ok (.invokestatic index, 3))
    (hpre : ∀ vm₁, s.WarmedH vm₁ → Pre ⟨T.setVm vm₁, locs, cells, slots⟩ argsL.toArray) :
    (∃ (v : Option Value) (vm₁ : Vm) (B : Pt), s.WarmedH vm₁ ∧ Stand p l e R s m args below meth c B.U B.locs B.cells B.slots ∧ Post ⟨T.setVm vm₁, locs, cells, slots⟩ argsL.toArray v B ∧
      ∀ target, Steps p.tables e below (B.U.setTop { g with pc := g.pc + 3, stack := v.toList ++ rest }) target → Steps p.tables e below (T.setTop g) target) ∨
    (∃ (q : Addr) (vm₁ : Vm) (B : Pt), s.WarmedH vm₁ ∧ Stand p l e R s m args below meth c B.U B.locs B.cells B.slots ∧ PostX ⟨T.setVm vm₁, locs, cells, slots⟩ argsL.toArray q B ∧
      Steps p.tables e below (T.setTop g) ((B.U.setTop { g with stack := rest }).pushFrame (.throwing q))) := by
  obtain ⟨mk, methM, cM, hnamed, hmethM, -, -, -, -, -, -, hsigM⟩ := Cond.codeWith_spec hcode
  have hstatic : methM.isStatic = true := Cond.static_spec hnamed hmethM hstat
  obtain ⟨kP, hkP, -⟩ := className_of_methodNamed hnamed
  have hinitP : kP.init = .initialized := Cond.initialized_spec (findClass_of_methodNamed hnamed) hkP hinit
  obtain ⟨vm₁, X₁, hstep₁⟩ := X.invokestatic hexec hown hlink hnamed hmethM hstatic hkP hinitP hy (g := g) hg (argsL := argsL) (rest := rest) (hlen _ hsigM) hstack hdg
  rcases hK m meth c ⟨T.setVm vm₁, locs, cells, slots⟩ { g with stack := rest } (.invokestatic index) mk argsL.toArray X₁ hg hsize hdg hW (X₁.named hnamed) (hpre vm₁ X₁.warmed) with ⟨v, B, X', hpost, hsteps⟩ | ⟨q, B, X', hpost, hsteps⟩
  · exact Or.inl ⟨v, vm₁, B, X₁.warmed, X', hpost, fun target h => hstep₁ _ fun acts => by rw [doInvoke_state]; exact hsteps.trans h⟩
  · exact Or.inr ⟨q, vm₁, B, X₁.warmed, X', hpost, hstep₁ _ fun acts => by rw [doInvoke_state]; exact hsteps⟩
theorem vx_callVW (X : Stand p l e R s m args below meth c T locs cells slots) (hexec : p.tables.exec = Jvm.exec) {own C : String} {index : Nat} {y : MethodName} {bytes : ByteArray} {maxL : Nat} {ret : Option FieldType} {hh : List (Nat × Nat × Nat × Nat)}
    (hown : s.vm.findClass own = some m.cls) (hlink : (Cond.methodLink own index y).before args s = true) (hinst : (Cond.instanceMethod y).before args s = true) (hsel : (Cond.selects C y y).before args s = true)
    (hcode : (Cond.codeWith y bytes maxL ret hh).before args s = true) (hy : y.cls ≠ "java/lang/invoke/MethodHandle" ∧ y.cls ≠ "java/lang/invoke/VarHandle")
    {W9 : Nat} {Pre : Pt → Array Value → Prop} {Post : Pt → Array Value → Option Value → Pt → Prop} (hK : Back l R p e below s args y 3 W9 Pre Post)
    {b : Addr} {cellB : Cell} (hcell : T.heap[b]? = some cellB) (hobj : cellB.vm.isStatics = false) (hcls : s.vm.findClass C = some cellB.cls)
    {g : JFrame} (hg : g.method = m) (hsize : g.locals.size = c.maxLocals) {argsL rest : List Value} (hlen : ∀ sig, parseMethodDescriptor y.desc = some sig → argsL.length = sig.parameters.length)
    (hstack : g.stack = argsL.reverse ++ .ref b :: rest) (hW : 2 * g.monitorRoom + (rest.map fun v => v.category).sum ≤ W9) (hdg : decode c.code g.pc = .ok (.invokevirtual index, 3))
    (hpre : ∀ vm₁, s.WarmedH vm₁ → Pre ⟨T.setVm vm₁, locs, cells, slots⟩ (Value.ref b :: argsL).toArray) :
    ∃ (v : Option Value) (vm₁ : Vm) (B : Pt), s.WarmedH vm₁ ∧ Stand p l e R s m args below meth c B.U B.locs B.cells B.slots ∧ Post ⟨T.setVm vm₁, locs, cells, slots⟩ (Value.ref b :: argsL).toArray v B ∧
      ∀ target, Steps p.tables e below (B.U.setTop { g with pc := g.pc + 3, stack := v.toList ++ rest }) target → Steps p.tables e below (T.setTop g) target := by
  obtain ⟨mk, methM, hnamed, hmethM, hstM, habM⟩ := Cond.instanceMethod_spec hinst
  obtain ⟨m8, methM', cM, hn8, hmethM', -, -, -, -, -, -, hsigM⟩ := Cond.codeWith_spec hcode
  cases Option.some.inj (hn8.symm.trans hnamed)
  cases hmethM.symm.trans hmethM'
  obtain ⟨c2, r2, m2, q1, q2, q3, q4, kP, hkP, hkPi⟩ := Cond.selects_spec hsel
  cases hcls.symm.trans q1
  cases (State.methodFound?_of_named hnamed hy).symm.trans q2
  cases hnamed.symm.trans q3
  have hselP : selectMethod e.platform s.vm cellB.cls mk = .method mk := by rw [Launch.admits_selectMethod X.admits]; exact q4
  obtain ⟨vm₁, X₁, hstep₁⟩ := X.invokevirtual hexec hown hlink hnamed hmethM hstM hkP hkPi hy (a := b) (cell := cellB) hcell
    (fun z h => by rw [h] at hobj; cases hobj) hselP hmethM habM hkP hkPi (g := g) hg (argsL := argsL) (rest := rest) (hlen _ hsigM) hstack hdg
  obtain ⟨v, B, X', hpost, hsteps⟩ := hK m meth c ⟨T.setVm vm₁, locs, cells, slots⟩ { g with stack := rest } (.invokevirtual index) mk (Value.ref b :: argsL).toArray X₁ hg hsize hdg hW (X₁.named hnamed) (hpre vm₁ X₁.warmed)
  exact ⟨v, vm₁, B, X₁.warmed, X', hpost, fun target h => hstep₁ _ fun acts => by rw [doInvoke_state]; exact hsteps.trans h⟩
abbrev vx_CVW (R : Room) (s : State) (args : Array Value) (own C : String) (index : Nat) (y : MethodName) (bytes : ByteArray) (maxL : Nat) (ret : Option FieldType) (hh : List (Nat × Nat × Nat × Nat)) (ws : List Cond) (rm : Room) (mc ms n : Nat) : Prop :=
  (rm.cells = mc ∧ rm.slots = ms ∧ rm.frames + 1 ≤ R.frames ∧ 8 + (maxL + 11) + rm.locals ≤ R.locals ∧ (∀ w ∈ ws, ∀ (a' : Array Value) (U : State), s.WarmedH U.vm → w.before a' U = true) ∧ Cond.codeWith y bytes maxL ret hh ∈ ws) ∧
  (Cond.codeWith y bytes maxL ret hh).before args s = true ∧ (Cond.initialized y.cls).before args s = true ∧ (y.cls ≠ "java/lang/invoke/MethodHandle" ∧ y.cls ≠ "java/lang/invoke/VarHandle") ∧
  (∀ sig, parseMethodDescriptor y.desc = some sig → n = sig.parameters.length) ∧ (Cond.methodLink own index y).before args s = true ∧ (Cond.instanceMethod y).before args s = true ∧ (Cond.selects C y y).before args s = true
theorem vx_cwVW {own C : String} {index maxL mc ms : Nat} {y : MethodName} {bytes : ByteArray} {ret : Option FieldType} {hh : List (Nat × Nat × Nat × Nat)} {Ts ws ws' : List Cond} {rm : Room} (n : Nat) (ht : ∀ w ∈ Ts, w.before args s = true) (hT : GoodIn Ts (wsV own index C y ws)) (hw : ws = Cond.codeWith y bytes maxL ret hh :: ws') (hrc : rm.cells = mc) (hrs : rm.slots = ms)
    (hd : y.cls = C ∧ y.cls ≠ "java/lang/invoke/MethodHandle" ∧ y.cls ≠ "java/lang/invoke/VarHandle" ∧ (parseMethodDescriptor y.desc).map (fun d => d.parameters.length) = some n) (hR : rm.frames + 1 ≤ R.frames ∧ 8 + (maxL + 11) + rm.locals ≤ R.locals) :
    vx_CVW R s args own C index y bytes maxL ret hh ws rm mc ms n := by
  obtain ⟨hC, hd⟩ := hd
  subst hC
  have ok : ∀ w ∈ wsV own index y.cls y ws, w.before args s = true := fun w h => ht w (hT w h).1
  have hG : GoodIn Ts ws := fun w h => hT w (by unfold wsV; exact List.mem_append_right _ h)
  have hc : Cond.codeWith y bytes maxL ret hh ∈ ws := by rw [hw]; exact List.mem_cons_self
  refine ⟨⟨hrc, hrs, hR.1, hR.2, pay_in ht hG, hc⟩, ht _ (hG _ hc).1, ok _ (by simp [wsV]), ⟨hd.1, hd.2.1⟩, fun sig h => ?_, ok _ (by simp [wsV]), ok _ (by simp [wsV]), ok _ (by simp [wsV])⟩
  have h2 := hd.2.2
  rw [h] at h2
  exact (Option.some.inj h2).symm
theorem vx_runVW {y : MethodName} {bytes cc : ByteArray} {maxL nL mc ms n index : Nat} {ret : Option FieldType} {hh : List (Nat × Nat × Nat × Nat)} {ws : List Cond} {rm : Room} {Pc : Array Value → State → Prop} {Qc : Array Value → State → Outcome → State → Prop} {free : Addr → Prop} {Ts : List Cond} {own C : String} {b : Addr} {As rest : List Value} {g : JFrame}
    (S : CallFix p m c cc nL s args Ts own) (hM : Met l y ws rm Pc Qc mc ms free) (cw : vx_CVW R s args own C index y bytes maxL ret hh ws rm mc ms n) (hp : PreV s H C b Pc As)
    (hg : g.method = m) (hn : As.length = n) (hsize : g.locals.size = nL) (hstack : g.stack = As.reverse ++ .ref b :: rest) (hW : 2 * g.monitorRoom + (rest.map fun v => v.category).sum ≤ 8) (hdg : decode cc g.pc = .ok (.invokevirtual index, 3)) (hf : cells + mc ≤ R.cells ∧ slots + ms ≤ R.slots) :
    va_Run p l e R s m args below meth c H locs cells slots mc ms g rest (Qc (Value.ref b :: As).toArray) free := by
  obtain ⟨⟨hrc, hrs, hfr, hlo, hws, hcw⟩, hcode, hini, hy, hlen, hl, hin, hse⟩ := cw
  have hK : Back l R p e below s args y 3 8 (PreOf R mc ms Pc) (PostOf Qc mc ms free) := va_backW (hh := hh) (bytes := bytes) (maxL := maxL) (ret := ret) hM hp.1 hrc hrs hfr hlo hws hcw (fun a' U hW => word_at hW (Or.inl (by first | rfl | simp [Cond.onTables, Cond.keeps, Cond.steady])) hini)
  obtain ⟨hx, hb, hml, ho, -⟩ := S
  obtain ⟨-, ⟨cellB, hcB, hoB, hclB⟩, hPc⟩ := hp
  intro T hT X
  obtain ⟨v, vm₁, ⟨U', l2, c2, s2⟩, hW₁, X', ⟨g', mk, t, L, e1, e2, hq, h1, hL, h2, h3⟩, st⟩ := vx_callVW X hx (C := C) (hh := hh) (bytes := bytes) (maxL := maxL) (ret := ret) ho hl hin hse hcode hy hK (by rw [hT]; exact hcB) hoB hclB hg (hsize.trans hml.symm) (argsL := As) (rest := rest) (fun sig h => hn.trans (hlen sig h)) hstack hW (by rw [hb]; exact hdg)
    (fun vm₁ hW₁ => ⟨hf.1, hf.2, hPc (T.setVm vm₁) hT hW₁⟩)
  dsimp only [Pt.U, Pt.locs, Pt.cells, Pt.slots] at X' e1 e2 h1 h2 h3 st
  subst h1; subst h2; subst h3
  exact ⟨v, (T.setVm vm₁).calling g' mk (Value.ref b :: As).toArray, t, U', L, hT, X', hL, e1, e2, hq, st⟩
section
variable {y : MethodName} {bytes cc : ByteArray} {maxL nL mc ms n index : Nat} {ret : Option FieldType} {ws : List Cond} {rm : Room} {Pc : Array Value → State → Prop} {Qc : Array Value → State → Outcome → State → Prop} {XC : String → State → State → Prop} {free : Addr → Prop} {Ts : List Cond} {own C : String} {b : Addr} {As rest : List Value} {g : JFrame}
theorem vx_runVX {hh : List (Nat × Nat × Nat × Nat)} (S : CallFix p m c cc nL s args Ts own) (hM : vx_Met l y ws rm Pc Qc XC mc ms free) (cw : vx_CVW R s args own C index y bytes maxL ret hh ws rm mc ms n) (hp : PreV s H C b Pc As)
    (hg : g.method = m) (hn : As.length = n) (hsize : g.locals.size = nL) (hstack : g.stack = As.reverse ++ .ref b :: rest) (hW : 2 * g.monitorRoom + (rest.map fun v => v.category).sum ≤ 8) (hdg : decode cc g.pc = .ok (.invokevirtual index, 3)) (hf : cells + mc ≤ R.cells ∧ slots + ms ≤ R.slots) :
    vx_Run p l e R s m args below meth c H locs cells slots mc ms g rest (Qc (Value.ref b :: As).toArray) XC free := by
  obtain ⟨⟨hrc, hrs, hfr, hlo, hws, hcw⟩, hcode, hini, hy, hlen, hl, hin, hse⟩ := cw
  have hK : vx_Back l R p e below s args y 3 8 (PreOf R mc ms Pc) (PostOf Qc mc ms free) (vx_Post XC mc ms free) := vx_backW (hh := hh) (bytes := bytes) (maxL := maxL) (ret := ret) hM hp.1 hrc hrs hfr hlo hws hcw (fun a' U hW => word_at hW (Or.inl (by first | rfl | simp [Cond.onTables, Cond.keeps, Cond.steady])) hini)
  obtain ⟨hx, hb, hml, ho, -⟩ := S
  obtain ⟨-, ⟨cellB, hcB, hoB, hclB⟩, hPc⟩ := hp
  intro T hT X
  rcases vx_callVX X hx (C := C) (hh := hh) (bytes := bytes) (maxL := maxL) (ret := ret) ho hl hin hse hcode hy hK (by rw [hT]; exact hcB) hoB hclB hg (hsize.trans hml.symm) (argsL := As) (rest := rest) (fun sig h => hn.trans (hlen sig h)) hstack hW (by rw [hb]; exact hdg)
    (fun vm₁ hW₁ => ⟨hf.1, hf.2, hPc (T.setVm vm₁) hT hW₁⟩) with ⟨v, vm₁, ⟨U', l2, c2, s2⟩, hW₁, X', ⟨g', mk, t, L, e1, e2, hq, h1, hL, h2, h3⟩, st⟩ | ⟨q, vm₁, ⟨U', l2, c2, s2⟩, hW₁, X', ⟨g', mk, t, L, E, ce, e1, e2, hq, hce, hcv, hcl, h1, hL, h2, h3⟩, st⟩
  · dsimp only [Pt.U, Pt.locs, Pt.cells, Pt.slots] at X' e1 e2 h1 h2 h3 st
    subst h1; subst h2; subst h3
    exact Or.inl ⟨v, (T.setVm vm₁).calling g' mk (Value.ref b :: As).toArray, t, U', L, hT, X', hL, e1, e2, hq, st⟩
  · dsimp only [Pt.U, Pt.locs, Pt.cells, Pt.slots] at X' e1 e2 h1 h2 h3 st hcl
    subst h1; subst h2; subst h3
    exact Or.inr ⟨q, (T.setVm vm₁).calling g' mk (Value.ref b :: As).toArray, t, U', L, E, ce, hT, X', hL, e1, e2, hq, hce, hcv, vx_cls hW₁ hcl, st⟩
theorem vx_runSX {hh : List (Nat × Nat × Nat × Nat)} (S : CallFix p m c cc nL s args Ts own) (hM : vx_Met l y ws rm Pc Qc XC mc ms free) (cw : vx_CSW R s args own index y bytes maxL ret hh ws rm mc ms n) (hp : PreS s H Pc As)
    (hg : g.method = m) (hn : As.length = n) (hsize : g.locals.size = nL) (hstack : g.stack = As.reverse ++ rest) (hW : 2 * g.monitorRoom + (rest.map fun v => v.category).sum ≤ 8) (hdg : decode cc g.pc = .ok (.invokestatic index, 3)) (hf : cells + mc ≤ R.cells ∧ slots + ms ≤ R.slots) :
    vx_Run p l e R s m args below meth c H locs cells slots mc ms g rest (Qc As.toArray) XC free := by
  obtain ⟨⟨hrc, hrs, hfr, hlo, hws, hcw⟩, hcode, hini, hy, hlen, hl, hstt⟩ := cw
  have hK : vx_Back l R p e below s args y 3 8 (PreOf R mc ms Pc) (PostOf Qc mc ms free) (vx_Post XC mc ms free) := vx_backW (hh := hh) (bytes := bytes) (maxL := maxL) (ret := ret) hM hp.1 hrc hrs hfr hlo hws hcw (fun a' U hW => word_at hW (Or.inl (by first | rfl | simp [Cond.onTables, Cond.keeps, Cond.steady])) hini)
  obtain ⟨hx, hb, hml, ho, -⟩ := S
  intro T hT X
  rcases vx_callSX X hx (hh := hh) (bytes := bytes) (maxL := maxL) (ret := ret) ho hl hstt hini hcode hy hK hg (hsize.trans hml.symm) (argsL := As) (rest := rest) (fun sig h => hn.trans (hlen sig h)) hstack hW (by rw [hb]; exact hdg)
    (fun vm₁ hW₁ => ⟨hf.1, hf.2, hp.2 (T.setVm vm₁) hT hW₁⟩) with ⟨v, vm₁, ⟨U', l2, c2, s2⟩, hW₁, X', ⟨g', mk, t, L, e1, e2, hq, h1, hL, h2, h3⟩, st⟩ | ⟨q, vm₁, ⟨U', l2, c2, s2⟩, hW₁, X', ⟨g', mk, t, L, E, ce, e1, e2, hq, hce, hcv, hcl, h1, hL, h2, h3⟩, st⟩
  · dsimp only [Pt.U, Pt.locs, Pt.cells, Pt.slots] at X' e1 e2 h1 h2 h3 st
    subst h1; subst h2; subst h3
    exact Or.inl ⟨v, (T.setVm vm₁).calling g' mk As.toArray, t, U', L, hT, X', hL, e1, e2, hq, st⟩
  · dsimp only [Pt.U, Pt.locs, Pt.cells, Pt.slots] at X' e1 e2 h1 h2 h3 st hcl
    subst h1; subst h2; subst h3
    exact Or.inr ⟨q, (T.setVm vm₁).calling g' mk As.toArray, t, U', L, E, ce, hT, X', hL, e1, e2, hq, hce, hcv, vx_cls hW₁ hcl, st⟩
end
end VXH
theorem vx_ofWH {l : Launch} {y : MethodName} {ws ws' : List Cond} {rm : Room} {Pc : Array Value → State → Prop} {Qc : Array Value → State → Outcome → State → Prop} {XC : String → State → State → Prop} {mc ms : Nat} {free : Addr → Prop} {cc : ByteArray} {maxL : Nat} {ret : Option FieldType} {hh : List (Nat × Nat × Nat × Nat)}
    (hy : plainName y.cls = true) (hw : ws = Cond.codeWith y cc maxL ret hh :: ws')
    (body : ∀ p e s m args below meth c s₁, BodyLoose p l y (headSpec ws rm) cc maxL ret e s m args below meth c s₁ → c.maxLocals = maxL → Pc args s →
      W p l e (headSpec ws rm).room s m args below meth c s.heap [] 0 0 (vx_MQ below Qc XC args s mc ms free) (entryFrame m args maxL)) : vx_Met l y ws rm Pc Qc XC mc ms free := by
  refine MetFree.of_bodyS (code := cc) (maxLocals := maxL) (ret := ret) hy ?_ ?_
  · intro args s m h hn
    obtain ⟨m9, meth, c, hn9, h1, h2, h3, h4, -, h5, h6, -⟩ := Cond.codeWith_spec (atoms_spec (ws := ws) h _ (by rw [hw]; exact List.mem_cons_self))
    cases hn.symm.trans hn9
    exact ⟨meth, c, h1, h2, h3, h4, h5, h6⟩
  · intro p e s m args below meth c s₁ B hml hP _
    have hh0 : s₁.heap = s.heap := by rw [B.state]; rfl
    obtain ⟨t, a1, o, b1, b2, b3⟩ := body p e s m args below meth c s₁ B hml hP s₁ hh0 (Stand.of_body B)
    exact ⟨t, o, a1, b1, b2, b3⟩
/-! ===== END ===== -/
end
section
def RX0 : String := "ModeDesk"
def TX0 : u_T := fun k => match k with
  | 0 => ("ModeDesk", "active", "[I", true)
  | 1 => ("ModeDesk", "flashing", "[I", true)
  | 2 => ("ModeDesk", "measures", "[I", true)
  | 3 => ("ModeDesk", "soundness", "[Z", true)
  | 4 => ("ModeDesk", "leader", "I", false)
  | 5 => ("ModeDesk", "navArmed", "Z", false)
  | 6 => ("ModeDesk", "approachArmed", "Z", false)
  | 7 => ("ModeDesk", "glideArmed", "Z", false)
  | 8 => ("ModeDesk", "engaged", "Z", false)
  | 9 => ("ModeDesk", "warning", "Z", false)
  | 10 => ("ModeDesk", "changes", "[I", true)
  | _ => ("ModeDesk", "changeCount", "I", false)
def tyX0 : Nat → FieldType := fun k => match k with
  | 0 => .array .int
  | 1 => .array .int
  | 2 => .array .int
  | 3 => .array .boolean
  | 4 => .int
  | 5 => .boolean
  | 6 => .boolean
  | 7 => .boolean
  | 8 => .boolean
  | 9 => .boolean
  | 10 => .array .int
  | _ => .int
abbrev wsX00 : List Cond := u_ws RX0 TX0 12
theorem nmX0 : ∀ a, a < 12 → ∀ b, b < 12 → a ≠ b → (TX0 a).2.1 ≠ (TX0 b).2.1 := by decide +kernel
theorem tyX0_ok : ∀ k, k < 12 → parseFieldDescriptor (TX0 k).2.2.1 = some (tyX0 k) := by decide +kernel
abbrev cX0_init : ByteArray := prog_1_method_1_code
def yX0_init : MethodName := ⟨RX0, "<init>", "()V"⟩
abbrev cX0_press : ByteArray := prog_1_method_2_code
def yX0_press : MethodName := ⟨RX0, "press", "(I)I"⟩
abbrev cX0_sense : ByteArray := prog_1_method_3_code
def yX0_sense : MethodName := ⟨RX0, "sense", "(II)I"⟩
abbrev cX0_channel : ByteArray := prog_1_method_4_code
def yX0_channel : MethodName := ⟨RX0, "channel", "(IZ)I"⟩
abbrev cX0_engage : ByteArray := prog_1_method_5_code
def yX0_engage : MethodName := ⟨RX0, "engage", "()I"⟩
abbrev cX0_disconnect : ByteArray := prog_1_method_6_code
def yX0_disconnect : MethodName := ⟨RX0, "disconnect", "()I"⟩
abbrev cX0_step : ByteArray := prog_1_method_7_code
def yX0_step : MethodName := ⟨RX0, "step", "(I)I"⟩
abbrev cX0_mode : ByteArray := prog_1_method_8_code
def yX0_mode : MethodName := ⟨RX0, "mode", "(I)I"⟩
abbrev cX0_armed : ByteArray := prog_1_method_9_code
def yX0_armed : MethodName := ⟨RX0, "armed", "(I)Z"⟩
abbrev cX0_shown : ByteArray := prog_1_method_10_code
def yX0_shown : MethodName := ⟨RX0, "shown", "()I"⟩
abbrev cX0_kept : ByteArray := prog_1_method_11_code
def yX0_kept : MethodName := ⟨RX0, "kept", "(II)I"⟩
abbrev cX0_measure : ByteArray := prog_1_method_12_code
def yX0_measure : MethodName := ⟨RX0, "measure", "(I)I"⟩
abbrev cX0_isMeasure : ByteArray := prog_1_method_13_code
def yX0_isMeasure : MethodName := ⟨RX0, "isMeasure", "(I)Z"⟩
abbrev cX0_isOn : ByteArray := prog_1_method_14_code
def yX0_isOn : MethodName := ⟨RX0, "isOn", "()Z"⟩
abbrev cX0_isAnyChannelSound : ByteArray := prog_1_method_15_code
def yX0_isAnyChannelSound : MethodName := ⟨RX0, "isAnyChannelSound", "()Z"⟩
abbrev cX0_isAroundAnywhere : ByteArray := prog_1_method_16_code
def yX0_isAroundAnywhere : MethodName := ⟨RX0, "isAroundAnywhere", "()Z"⟩
abbrev cX0_isTooFast : ByteArray := prog_1_method_17_code
def yX0_isTooFast : MethodName := ⟨RX0, "isTooFast", "()Z"⟩
abbrev cX0_isCaptureArmed : ByteArray := prog_1_method_18_code
def yX0_isCaptureArmed : MethodName := ⟨RX0, "isCaptureArmed", "()Z"⟩
abbrev cX0_isCourseWithin : ByteArray := prog_1_method_19_code
def yX0_isCourseWithin : MethodName := ⟨RX0, "isCourseWithin", "(I)Z"⟩
abbrev cX0_isPathWithin : ByteArray := prog_1_method_20_code
def yX0_isPathWithin : MethodName := ⟨RX0, "isPathWithin", "(I)Z"⟩
abbrev cX0_isHeightWithin : ByteArray := prog_1_method_21_code
def yX0_isHeightWithin : MethodName := ⟨RX0, "isHeightWithin", "(I)Z"⟩
abbrev cX0_bit : ByteArray := prog_1_method_22_code
def yX0_bit : MethodName := ⟨RX0, "bit", "(ZI)I"⟩
abbrev cX0_stateAsNumber : ByteArray := prog_1_method_23_code
def yX0_stateAsNumber : MethodName := ⟨RX0, "stateAsNumber", "()I"⟩
abbrev cX0_change : ByteArray := prog_1_method_24_code
def yX0_change : MethodName := ⟨RX0, "change", "(IIZ)V"⟩
abbrev cX0_stopFlashing : ByteArray := prog_1_method_25_code
def yX0_stopFlashing : MethodName := ⟨RX0, "stopFlashing", "()V"⟩
abbrev cX0_disarmAll : ByteArray := prog_1_method_26_code
def yX0_disarmAll : MethodName := ⟨RX0, "disarmAll", "()V"⟩
abbrev cX0_goToBase : ByteArray := prog_1_method_27_code
def yX0_goToBase : MethodName := ⟨RX0, "goToBase", "()V"⟩
abbrev cX0_turnOnIfOff : ByteArray := prog_1_method_28_code
def yX0_turnOnIfOff : MethodName := ⟨RX0, "turnOnIfOff", "()V"⟩
abbrev cX0_turnOff : ByteArray := prog_1_method_29_code
def yX0_turnOff : MethodName := ⟨RX0, "turnOff", "(Z)V"⟩
abbrev cX0_disengageWithWarning : ByteArray := prog_1_method_30_code
def yX0_disengageWithWarning : MethodName := ⟨RX0, "disengageWithWarning", "()V"⟩
abbrev cX0_leaveCourseFor : ByteArray := prog_1_method_31_code
def yX0_leaveCourseFor : MethodName := ⟨RX0, "leaveCourseFor", "(IZ)V"⟩
abbrev cX0_obey : ByteArray := prog_1_method_32_code
def yX0_obey : MethodName := ⟨RX0, "obey", "(I)V"⟩
abbrev cX0_obeyHeading : ByteArray := prog_1_method_33_code
def yX0_obeyHeading : MethodName := ⟨RX0, "obeyHeading", "()V"⟩
abbrev cX0_obeyNav : ByteArray := prog_1_method_34_code
def yX0_obeyNav : MethodName := ⟨RX0, "obeyNav", "()V"⟩
abbrev cX0_obeyApproach : ByteArray := prog_1_method_35_code
def yX0_obeyApproach : MethodName := ⟨RX0, "obeyApproach", "()V"⟩
abbrev cX0_obeyVertical : ByteArray := prog_1_method_36_code
def yX0_obeyVertical : MethodName := ⟨RX0, "obeyVertical", "(I)V"⟩
abbrev cX0_obeyAround : ByteArray := prog_1_method_37_code
def yX0_obeyAround : MethodName := ⟨RX0, "obeyAround", "()V"⟩
abbrev cX0_obeySync : ByteArray := prog_1_method_38_code
def yX0_obeySync : MethodName := ⟨RX0, "obeySync", "()V"⟩
abbrev cX0_obeyTransfer : ByteArray := prog_1_method_39_code
def yX0_obeyTransfer : MethodName := ⟨RX0, "obeyTransfer", "()V"⟩
abbrev cX0_obeyDirector : ByteArray := prog_1_method_40_code
def yX0_obeyDirector : MethodName := ⟨RX0, "obeyDirector", "()V"⟩
abbrev cX0_settle : ByteArray := prog_1_method_41_code
def yX0_settle : MethodName := ⟨RX0, "settle", "()I"⟩
abbrev cX0_comesAboutByItself : ByteArray := prog_1_method_42_code
def yX0_comesAboutByItself : MethodName := ⟨RX0, "comesAboutByItself", "()Z"⟩
abbrev cX0_leaderFails : ByteArray := prog_1_method_43_code
def yX0_leaderFails : MethodName := ⟨RX0, "leaderFails", "()Z"⟩
abbrev cX0_courseIsLost : ByteArray := prog_1_method_44_code
def yX0_courseIsLost : MethodName := ⟨RX0, "courseIsLost", "()Z"⟩
abbrev cX0_pathIsLost : ByteArray := prog_1_method_45_code
def yX0_pathIsLost : MethodName := ⟨RX0, "pathIsLost", "()Z"⟩
abbrev cX0_navIsReached : ByteArray := prog_1_method_46_code
def yX0_navIsReached : MethodName := ⟨RX0, "navIsReached", "()Z"⟩
abbrev cX0_approachIsReached : ByteArray := prog_1_method_47_code
def yX0_approachIsReached : MethodName := ⟨RX0, "approachIsReached", "()Z"⟩
abbrev cX0_glideIsReached : ByteArray := prog_1_method_48_code
def yX0_glideIsReached : MethodName := ⟨RX0, "glideIsReached", "()Z"⟩
abbrev cX0_heightComesNear : ByteArray := prog_1_method_49_code
def yX0_heightComesNear : MethodName := ⟨RX0, "heightComesNear", "()Z"⟩
abbrev cX0_heightIsReached : ByteArray := prog_1_method_50_code
def yX0_heightIsReached : MethodName := ⟨RX0, "heightIsReached", "()Z"⟩
abbrev cX0_heightIsLost : ByteArray := prog_1_method_51_code
def yX0_heightIsLost : MethodName := ⟨RX0, "heightIsLost", "()Z"⟩
abbrev cX0_climbIsTooFast : ByteArray := prog_1_method_52_code
def yX0_climbIsTooFast : MethodName := ⟨RX0, "climbIsTooFast", "()Z"⟩
def RX1 : String := "ModeDeskModel"
def TX1 : u_T := fun k => match k with
  | 0 => ("ModeDeskModel", "thrown", "I", false)
  | 1 => ("ModeDeskModel", "lateral", "I", false)
  | 2 => ("ModeDeskModel", "vertical", "I", false)
  | 3 => ("ModeDeskModel", "armedLateral", "I", false)
  | 4 => ("ModeDeskModel", "armedGlide", "Z", false)
  | 5 => ("ModeDeskModel", "engaged", "Z", false)
  | 6 => ("ModeDeskModel", "warning", "Z", false)
  | 7 => ("ModeDeskModel", "bad0", "Z", false)
  | 8 => ("ModeDeskModel", "bad1", "Z", false)
  | 9 => ("ModeDeskModel", "leader", "I", false)
  | 10 => ("ModeDeskModel", "values", "[I", true)
  | 11 => ("ModeDeskModel", "flash0", "I", false)
  | 12 => ("ModeDeskModel", "flash1", "I", false)
  | 13 => ("ModeDeskModel", "kept", "I", false)
  | _ => ("ModeDeskModel", "rows", "[I", true)
def tyX1 : Nat → FieldType := fun k => match k with
  | 0 => .int
  | 1 => .int
  | 2 => .int
  | 3 => .int
  | 4 => .boolean
  | 5 => .boolean
  | 6 => .boolean
  | 7 => .boolean
  | 8 => .boolean
  | 9 => .int
  | 10 => .array .int
  | 11 => .int
  | 12 => .int
  | 13 => .int
  | _ => .array .int
abbrev wsX10 : List Cond := u_ws RX1 TX1 15
theorem nmX1 : ∀ a, a < 15 → ∀ b, b < 15 → a ≠ b → (TX1 a).2.1 ≠ (TX1 b).2.1 := by decide +kernel
theorem tyX1_ok : ∀ k, k < 15 → parseFieldDescriptor (TX1 k).2.2.1 = some (tyX1 k) := by decide +kernel
abbrev cX1_init : ByteArray := prog_3_method_1_code
def yX1_init : MethodName := ⟨RX1, "<init>", "()V"⟩
abbrev cX1_thrown : ByteArray := prog_3_method_2_code
def yX1_thrown : MethodName := ⟨RX1, "thrown", "()I"⟩
abbrev cX1_good : ByteArray := prog_3_method_3_code
def yX1_good : MethodName := ⟨RX1, "good", "(Z)Z"⟩
abbrev cX1_keep : ByteArray := prog_3_method_4_code
def yX1_keep : MethodName := ⟨RX1, "keep", "(IIII)V"⟩
abbrev cX1_lateralTo : ByteArray := prog_3_method_5_code
def yX1_lateralTo : MethodName := ⟨RX1, "lateralTo", "(II)V"⟩
abbrev cX1_verticalTo : ByteArray := prog_3_method_6_code
def yX1_verticalTo : MethodName := ⟨RX1, "verticalTo", "(II)V"⟩
abbrev cX1_noneArmed : ByteArray := prog_3_method_7_code
def yX1_noneArmed : MethodName := ⟨RX1, "noneArmed", "()V"⟩
abbrev cX1_base : ByteArray := prog_3_method_8_code
def yX1_base : MethodName := ⟨RX1, "base", "(I)V"⟩
abbrev cX1_goOff : ByteArray := prog_3_method_9_code
def yX1_goOff : MethodName := ⟨RX1, "goOff", "(I)V"⟩
abbrev cX1_isBad : ByteArray := prog_3_method_10_code
def yX1_isBad : MethodName := ⟨RX1, "isBad", "(I)Z"⟩
abbrev cX1_size : ByteArray := prog_3_method_11_code
def yX1_size : MethodName := ⟨RX1, "size", "(I)I"⟩
abbrev cX1_apart : ByteArray := prog_3_method_12_code
def yX1_apart : MethodName := ⟨RX1, "apart", "()I"⟩
abbrev cX1_rule : ByteArray := prog_3_method_13_code
def yX1_rule : MethodName := ⟨RX1, "rule", "()I"⟩
abbrev cX1_comes : ByteArray := prog_3_method_14_code
def yX1_comes : MethodName := ⟨RX1, "comes", "(I)V"⟩
abbrev cX1_settle : ByteArray := prog_3_method_15_code
def yX1_settle : MethodName := ⟨RX1, "settle", "()I"⟩
abbrev cX1_outOfApproach : ByteArray := prog_3_method_16_code
def yX1_outOfApproach : MethodName := ⟨RX1, "outOfApproach", "(I)V"⟩
abbrev cX1_navButton : ByteArray := prog_3_method_17_code
def yX1_navButton : MethodName := ⟨RX1, "navButton", "()V"⟩
abbrev cX1_approachButton : ByteArray := prog_3_method_18_code
def yX1_approachButton : MethodName := ⟨RX1, "approachButton", "()V"⟩
abbrev cX1_button : ByteArray := prog_3_method_19_code
def yX1_button : MethodName := ⟨RX1, "button", "(I)V"⟩
abbrev cX1_sum : ByteArray := prog_3_method_20_code
def yX1_sum : MethodName := ⟨RX1, "sum", "()I"⟩
abbrev cX1_press : ByteArray := prog_3_method_21_code
def yX1_press : MethodName := ⟨RX1, "press", "(I)I"⟩
abbrev cX1_sense : ByteArray := prog_3_method_22_code
def yX1_sense : MethodName := ⟨RX1, "sense", "(II)I"⟩
abbrev cX1_channel : ByteArray := prog_3_method_23_code
def yX1_channel : MethodName := ⟨RX1, "channel", "(IZ)I"⟩
abbrev cX1_engage : ByteArray := prog_3_method_24_code
def yX1_engage : MethodName := ⟨RX1, "engage", "()I"⟩
abbrev cX1_disconnect : ByteArray := prog_3_method_25_code
def yX1_disconnect : MethodName := ⟨RX1, "disconnect", "()I"⟩
abbrev cX1_step : ByteArray := prog_3_method_26_code
def yX1_step : MethodName := ⟨RX1, "step", "(I)I"⟩
abbrev cX1_mode : ByteArray := prog_3_method_27_code
def yX1_mode : MethodName := ⟨RX1, "mode", "(I)I"⟩
abbrev cX1_armed : ByteArray := prog_3_method_28_code
def yX1_armed : MethodName := ⟨RX1, "armed", "(I)Z"⟩
abbrev cX1_shown : ByteArray := prog_3_method_29_code
def yX1_shown : MethodName := ⟨RX1, "shown", "()I"⟩
abbrev cX1_kept : ByteArray := prog_3_method_30_code
def yX1_kept : MethodName := ⟨RX1, "kept", "(II)I"⟩
abbrev cX1_measure : ByteArray := prog_3_method_31_code
def yX1_measure : MethodName := ⟨RX1, "measure", "(I)I"⟩
def RJ9 : String := "java/lang/Math"
def TJ9 : u_T := fun k => match k with
  | _ => ("", "", "", false)
def tyJ9 : Nat → FieldType := fun k => match k with
  | _ => .int
abbrev wsJ90 : List Cond := u_ws RJ9 TJ9 0
theorem nmJ9 : ∀ a, a < 0 → ∀ b, b < 0 → a ≠ b → (TJ9 a).2.1 ≠ (TJ9 b).2.1 := by decide +kernel
theorem tyJ9_ok : ∀ k, k < 0 → parseFieldDescriptor (TJ9 k).2.2.1 = some (tyJ9 k) := by decide +kernel
abbrev cJ9_abs_0f7a4 : ByteArray := prog_6_method_59_code
def yJ9_abs_0f7a4 : MethodName := ⟨RJ9, "abs", "(I)I"⟩
def RJ0 : String := "java/lang/String"
def TJ0 : u_T := fun k => match k with
  | _ => ("", "", "", false)
def tyJ0 : Nat → FieldType := fun k => match k with
  | _ => .int
abbrev wsJ00 : List Cond := u_ws RJ0 TJ0 0
theorem nmJ0 : ∀ a, a < 0 → ∀ b, b < 0 → a ≠ b → (TJ0 a).2.1 ≠ (TJ0 b).2.1 := by decide +kernel
theorem tyJ0_ok : ∀ k, k < 0 → parseFieldDescriptor (TJ0 k).2.2.1 = some (tyJ0 k) := by decide +kernel
def RL : String := "ModeDeskLaw"
abbrev cL_press : ByteArray := method_3_code
def yL_press : MethodName := ⟨RL, "press", "(LModeDesk;I[J)I"⟩
abbrev cL_sense : ByteArray := method_4_code
def yL_sense : MethodName := ⟨RL, "sense", "(LModeDesk;II[J)I"⟩
abbrev cL_channel : ByteArray := method_5_code
def yL_channel : MethodName := ⟨RL, "channel", "(LModeDesk;IZ[J)I"⟩
abbrev cL_step : ByteArray := method_6_code
def yL_step : MethodName := ⟨RL, "step", "(LModeDesk;I[J)I"⟩
abbrev cL_mode : ByteArray := method_7_code
def yL_mode : MethodName := ⟨RL, "mode", "(LModeDesk;I[J)I"⟩
abbrev cL_armed : ByteArray := method_8_code
def yL_armed : MethodName := ⟨RL, "armed", "(LModeDesk;I[J)I"⟩
abbrev cL_measure : ByteArray := method_9_code
def yL_measure : MethodName := ⟨RL, "measure", "(LModeDesk;I[J)I"⟩
abbrev cL_law : ByteArray := code
def yL_law : MethodName := ⟨RL, "law", "([I)Z"⟩
def wsX0_init : List Cond := .code yX0_init cX0_init 1 none :: ([.methodLink RX0 1 objectInit, .instanceMethod objectInit, .code objectInit ⟨#[0xb1]⟩ 1 none, .arrayClass .int, .fieldLink RX0 7 "ModeDesk" "active" "[I", .fieldLink RX0 13 "ModeDesk" "flashing" "[I", .fieldLink RX0 16 "ModeDesk" "measures" "[I", .arrayClass .boolean, .fieldLink RX0 19 "ModeDesk" "soundness" "[Z", .fieldLink RX0 23 "ModeDesk" "changes" "[I"] ++ wsX00)
def wsX0_bit : List Cond := .code yX0_bit cX0_bit 2 (some .int) :: ([])
def wsX0_stateAsNumber : List Cond := .code yX0_stateAsNumber cX0_stateAsNumber 1 (some .int) :: ([.fieldLink RX0 7 "ModeDesk" "active" "[I", .fieldLink RX0 90 "ModeDesk" "navArmed" "Z", .fieldLink RX0 93 "ModeDesk" "approachArmed" "Z", .fieldLink RX0 96 "ModeDesk" "glideArmed" "Z", .fieldLink RX0 63 "ModeDesk" "engaged" "Z", .fieldLink RX0 111 "ModeDesk" "leader" "I", .methodLink RX0 107 yX0_bit, .static yX0_bit, .initialized RX0, .code yX0_bit cX0_bit 2 (some .int)] ++ wsX00)
def wsX0_stopFlashing : List Cond := .code yX0_stopFlashing cX0_stopFlashing 1 none :: ([.fieldLink RX0 13 "ModeDesk" "flashing" "[I"] ++ wsX00)
def wsX0_isAnyChannelSound : List Cond := .code yX0_isAnyChannelSound cX0_isAnyChannelSound 1 (some .boolean) :: ([.fieldLink RX0 19 "ModeDesk" "soundness" "[Z"] ++ wsX00)
def wsX0_isOn : List Cond := .code yX0_isOn cX0_isOn 1 (some .boolean) :: ([.fieldLink RX0 7 "ModeDesk" "active" "[I"] ++ wsX00)
def wsX0_change : List Cond := .code yX0_change cX0_change 5 none :: ([.fieldLink RX0 7 "ModeDesk" "active" "[I", .fieldLink RX0 13 "ModeDesk" "flashing" "[I", .fieldLink RX0 115 "ModeDesk" "changeCount" "I", .fieldLink RX0 23 "ModeDesk" "changes" "[I", .methodLink RX0 107 yX0_bit, .static yX0_bit, .initialized RX0, .code yX0_bit cX0_bit 2 (some .int)] ++ wsX00)
def wsX0_disarmAll : List Cond := .code yX0_disarmAll cX0_disarmAll 1 none :: ([.fieldLink RX0 90 "ModeDesk" "navArmed" "Z", .fieldLink RX0 93 "ModeDesk" "approachArmed" "Z", .fieldLink RX0 96 "ModeDesk" "glideArmed" "Z"] ++ wsX00)
def wsX0_goToBase : List Cond := .code yX0_goToBase cX0_goToBase 1 none :: ([.methodLink RX0 124 yX0_change, .instanceMethod yX0_change, .selects RX0 yX0_change yX0_change, .initialized RX0, .code yX0_change cX0_change 5 none, .fieldLink RX0 7 "ModeDesk" "active" "[I", .fieldLink RX0 13 "ModeDesk" "flashing" "[I", .fieldLink RX0 115 "ModeDesk" "changeCount" "I", .fieldLink RX0 23 "ModeDesk" "changes" "[I", .methodLink RX0 107 yX0_bit, .static yX0_bit, .code yX0_bit cX0_bit 2 (some .int), .methodLink RX0 128 yX0_disarmAll, .instanceMethod yX0_disarmAll, .selects RX0 yX0_disarmAll yX0_disarmAll, .code yX0_disarmAll cX0_disarmAll 1 none, .fieldLink RX0 90 "ModeDesk" "navArmed" "Z", .fieldLink RX0 93 "ModeDesk" "approachArmed" "Z", .fieldLink RX0 96 "ModeDesk" "glideArmed" "Z"] ++ wsX00)
def wsX0_turnOnIfOff_r1 : List Cond := [Cond.methodLink RX0 104 yX0_isOn, Cond.instanceMethod yX0_isOn, Cond.selects RX0 yX0_isOn yX0_isOn, Cond.initialized RX0, Cond.code yX0_isOn cX0_isOn 1 (some .boolean), Cond.fieldLink RX0 7 "ModeDesk" "active" "[I", Cond.methodLink RX0 131 yX0_goToBase, Cond.instanceMethod yX0_goToBase, Cond.selects RX0 yX0_goToBase yX0_goToBase, Cond.code yX0_goToBase cX0_goToBase 1 none, Cond.methodLink RX0 124 yX0_change, Cond.instanceMethod yX0_change, Cond.selects RX0 yX0_change yX0_change, Cond.code yX0_change cX0_change 5 none, Cond.fieldLink RX0 13 "ModeDesk" "flashing" "[I", Cond.fieldLink RX0 115 "ModeDesk" "changeCount" "I", Cond.fieldLink RX0 23 "ModeDesk" "changes" "[I", Cond.methodLink RX0 107 yX0_bit, Cond.static yX0_bit, Cond.code yX0_bit cX0_bit 2 (some .int), Cond.methodLink RX0 128 yX0_disarmAll, Cond.instanceMethod yX0_disarmAll, Cond.selects RX0 yX0_disarmAll yX0_disarmAll, Cond.code yX0_disarmAll cX0_disarmAll 1 none]
def wsX0_turnOnIfOff_r2 : List Cond := [Cond.fieldLink RX0 90 "ModeDesk" "navArmed" "Z", Cond.fieldLink RX0 93 "ModeDesk" "approachArmed" "Z", Cond.fieldLink RX0 96 "ModeDesk" "glideArmed" "Z"]
def wsX0_turnOnIfOff : List Cond := .code yX0_turnOnIfOff cX0_turnOnIfOff 1 none :: ((wsX0_turnOnIfOff_r1 ++ wsX0_turnOnIfOff_r2) ++ wsX00)
def wsX0_leaveCourseFor : List Cond := .code yX0_leaveCourseFor cX0_leaveCourseFor 3 none :: ([.fieldLink RX0 7 "ModeDesk" "active" "[I", .fieldLink RX0 93 "ModeDesk" "approachArmed" "Z", .fieldLink RX0 96 "ModeDesk" "glideArmed" "Z", .methodLink RX0 124 yX0_change, .instanceMethod yX0_change, .selects RX0 yX0_change yX0_change, .initialized RX0, .code yX0_change cX0_change 5 none, .fieldLink RX0 13 "ModeDesk" "flashing" "[I", .fieldLink RX0 115 "ModeDesk" "changeCount" "I", .fieldLink RX0 23 "ModeDesk" "changes" "[I", .methodLink RX0 107 yX0_bit, .static yX0_bit, .code yX0_bit cX0_bit 2 (some .int)] ++ wsX00)
def wsX0_obeyHeading : List Cond := .code yX0_obeyHeading cX0_obeyHeading 1 none :: ([.fieldLink RX0 7 "ModeDesk" "active" "[I", .methodLink RX0 124 yX0_change, .instanceMethod yX0_change, .selects RX0 yX0_change yX0_change, .initialized RX0, .code yX0_change cX0_change 5 none, .fieldLink RX0 13 "ModeDesk" "flashing" "[I", .fieldLink RX0 115 "ModeDesk" "changeCount" "I", .fieldLink RX0 23 "ModeDesk" "changes" "[I", .methodLink RX0 107 yX0_bit, .static yX0_bit, .code yX0_bit cX0_bit 2 (some .int), .methodLink RX0 158 yX0_leaveCourseFor, .instanceMethod yX0_leaveCourseFor, .selects RX0 yX0_leaveCourseFor yX0_leaveCourseFor, .code yX0_leaveCourseFor cX0_leaveCourseFor 3 none, .fieldLink RX0 93 "ModeDesk" "approachArmed" "Z", .fieldLink RX0 96 "ModeDesk" "glideArmed" "Z"] ++ wsX00)
def wsX0_obeyNav : List Cond := .code yX0_obeyNav cX0_obeyNav 1 none :: ([.fieldLink RX0 7 "ModeDesk" "active" "[I", .fieldLink RX0 90 "ModeDesk" "navArmed" "Z", .fieldLink RX0 93 "ModeDesk" "approachArmed" "Z", .fieldLink RX0 96 "ModeDesk" "glideArmed" "Z", .methodLink RX0 124 yX0_change, .instanceMethod yX0_change, .selects RX0 yX0_change yX0_change, .initialized RX0, .code yX0_change cX0_change 5 none, .fieldLink RX0 13 "ModeDesk" "flashing" "[I", .fieldLink RX0 115 "ModeDesk" "changeCount" "I", .fieldLink RX0 23 "ModeDesk" "changes" "[I", .methodLink RX0 107 yX0_bit, .static yX0_bit, .code yX0_bit cX0_bit 2 (some .int)] ++ wsX00)
def wsX0_obeyApproach : List Cond := .code yX0_obeyApproach cX0_obeyApproach 1 none :: ([.fieldLink RX0 7 "ModeDesk" "active" "[I", .fieldLink RX0 93 "ModeDesk" "approachArmed" "Z", .fieldLink RX0 96 "ModeDesk" "glideArmed" "Z", .fieldLink RX0 90 "ModeDesk" "navArmed" "Z", .methodLink RX0 158 yX0_leaveCourseFor, .instanceMethod yX0_leaveCourseFor, .selects RX0 yX0_leaveCourseFor yX0_leaveCourseFor, .initialized RX0, .code yX0_leaveCourseFor cX0_leaveCourseFor 3 none, .methodLink RX0 124 yX0_change, .instanceMethod yX0_change, .selects RX0 yX0_change yX0_change, .code yX0_change cX0_change 5 none, .fieldLink RX0 13 "ModeDesk" "flashing" "[I", .fieldLink RX0 115 "ModeDesk" "changeCount" "I", .fieldLink RX0 23 "ModeDesk" "changes" "[I", .methodLink RX0 107 yX0_bit, .static yX0_bit, .code yX0_bit cX0_bit 2 (some .int)] ++ wsX00)
def wsX0_obeyVertical : List Cond := .code yX0_obeyVertical cX0_obeyVertical 2 none :: ([.fieldLink RX0 7 "ModeDesk" "active" "[I", .methodLink RX0 124 yX0_change, .instanceMethod yX0_change, .selects RX0 yX0_change yX0_change, .initialized RX0, .code yX0_change cX0_change 5 none, .fieldLink RX0 13 "ModeDesk" "flashing" "[I", .fieldLink RX0 115 "ModeDesk" "changeCount" "I", .fieldLink RX0 23 "ModeDesk" "changes" "[I", .methodLink RX0 107 yX0_bit, .static yX0_bit, .code yX0_bit cX0_bit 2 (some .int)] ++ wsX00)
def wsX0_disengageWithWarning : List Cond := .code yX0_disengageWithWarning cX0_disengageWithWarning 1 none :: ([.fieldLink RX0 63 "ModeDesk" "engaged" "Z", .fieldLink RX0 83 "ModeDesk" "warning" "Z"] ++ wsX00)
def wsX0_obeyAround_r1 : List Cond := [Cond.methodLink RX0 124 yX0_change, Cond.instanceMethod yX0_change, Cond.selects RX0 yX0_change yX0_change, Cond.initialized RX0, Cond.code yX0_change cX0_change 5 none, Cond.fieldLink RX0 7 "ModeDesk" "active" "[I", Cond.fieldLink RX0 13 "ModeDesk" "flashing" "[I", Cond.fieldLink RX0 115 "ModeDesk" "changeCount" "I", Cond.fieldLink RX0 23 "ModeDesk" "changes" "[I", Cond.methodLink RX0 107 yX0_bit, Cond.static yX0_bit, Cond.code yX0_bit cX0_bit 2 (some .int), Cond.methodLink RX0 128 yX0_disarmAll, Cond.instanceMethod yX0_disarmAll, Cond.selects RX0 yX0_disarmAll yX0_disarmAll, Cond.code yX0_disarmAll cX0_disarmAll 1 none, Cond.fieldLink RX0 90 "ModeDesk" "navArmed" "Z", Cond.fieldLink RX0 93 "ModeDesk" "approachArmed" "Z", Cond.fieldLink RX0 96 "ModeDesk" "glideArmed" "Z", Cond.methodLink RX0 80 yX0_disengageWithWarning, Cond.instanceMethod yX0_disengageWithWarning, Cond.selects RX0 yX0_disengageWithWarning yX0_disengageWithWarning, Cond.code yX0_disengageWithWarning cX0_disengageWithWarning 1 none, Cond.fieldLink RX0 63 "ModeDesk" "engaged" "Z"]
def wsX0_obeyAround_r2 : List Cond := [Cond.fieldLink RX0 83 "ModeDesk" "warning" "Z"]
def wsX0_obeyAround : List Cond := .code yX0_obeyAround cX0_obeyAround 1 none :: ((wsX0_obeyAround_r1 ++ wsX0_obeyAround_r2) ++ wsX00)
def wsX0_obeySync : List Cond := .code yX0_obeySync cX0_obeySync 1 none :: ([.fieldLink RX0 7 "ModeDesk" "active" "[I", .methodLink RX0 124 yX0_change, .instanceMethod yX0_change, .selects RX0 yX0_change yX0_change, .initialized RX0, .code yX0_change cX0_change 5 none, .fieldLink RX0 13 "ModeDesk" "flashing" "[I", .fieldLink RX0 115 "ModeDesk" "changeCount" "I", .fieldLink RX0 23 "ModeDesk" "changes" "[I", .methodLink RX0 107 yX0_bit, .static yX0_bit, .code yX0_bit cX0_bit 2 (some .int)] ++ wsX00)
def wsX0_obeyTransfer_r1 : List Cond := [Cond.fieldLink RX0 111 "ModeDesk" "leader" "I", Cond.fieldLink RX0 19 "ModeDesk" "soundness" "[Z", Cond.methodLink RX0 104 yX0_isOn, Cond.instanceMethod yX0_isOn, Cond.selects RX0 yX0_isOn yX0_isOn, Cond.initialized RX0, Cond.code yX0_isOn cX0_isOn 1 (some .boolean), Cond.fieldLink RX0 7 "ModeDesk" "active" "[I", Cond.methodLink RX0 131 yX0_goToBase, Cond.instanceMethod yX0_goToBase, Cond.selects RX0 yX0_goToBase yX0_goToBase, Cond.code yX0_goToBase cX0_goToBase 1 none, Cond.methodLink RX0 124 yX0_change, Cond.instanceMethod yX0_change, Cond.selects RX0 yX0_change yX0_change, Cond.code yX0_change cX0_change 5 none, Cond.fieldLink RX0 13 "ModeDesk" "flashing" "[I", Cond.fieldLink RX0 115 "ModeDesk" "changeCount" "I", Cond.fieldLink RX0 23 "ModeDesk" "changes" "[I", Cond.methodLink RX0 107 yX0_bit, Cond.static yX0_bit, Cond.code yX0_bit cX0_bit 2 (some .int), Cond.methodLink RX0 128 yX0_disarmAll, Cond.instanceMethod yX0_disarmAll]
def wsX0_obeyTransfer_r2 : List Cond := [Cond.selects RX0 yX0_disarmAll yX0_disarmAll, Cond.code yX0_disarmAll cX0_disarmAll 1 none, Cond.fieldLink RX0 90 "ModeDesk" "navArmed" "Z", Cond.fieldLink RX0 93 "ModeDesk" "approachArmed" "Z", Cond.fieldLink RX0 96 "ModeDesk" "glideArmed" "Z"]
def wsX0_obeyTransfer : List Cond := .code yX0_obeyTransfer cX0_obeyTransfer 2 none :: ((wsX0_obeyTransfer_r1 ++ wsX0_obeyTransfer_r2) ++ wsX00)
def wsX0_turnOff_r1 : List Cond := [Cond.methodLink RX0 124 yX0_change, Cond.instanceMethod yX0_change, Cond.selects RX0 yX0_change yX0_change, Cond.initialized RX0, Cond.code yX0_change cX0_change 5 none, Cond.fieldLink RX0 7 "ModeDesk" "active" "[I", Cond.fieldLink RX0 13 "ModeDesk" "flashing" "[I", Cond.fieldLink RX0 115 "ModeDesk" "changeCount" "I", Cond.fieldLink RX0 23 "ModeDesk" "changes" "[I", Cond.methodLink RX0 107 yX0_bit, Cond.static yX0_bit, Cond.code yX0_bit cX0_bit 2 (some .int), Cond.methodLink RX0 128 yX0_disarmAll, Cond.instanceMethod yX0_disarmAll, Cond.selects RX0 yX0_disarmAll yX0_disarmAll, Cond.code yX0_disarmAll cX0_disarmAll 1 none, Cond.fieldLink RX0 90 "ModeDesk" "navArmed" "Z", Cond.fieldLink RX0 93 "ModeDesk" "approachArmed" "Z", Cond.fieldLink RX0 96 "ModeDesk" "glideArmed" "Z", Cond.methodLink RX0 80 yX0_disengageWithWarning, Cond.instanceMethod yX0_disengageWithWarning, Cond.selects RX0 yX0_disengageWithWarning yX0_disengageWithWarning, Cond.code yX0_disengageWithWarning cX0_disengageWithWarning 1 none, Cond.fieldLink RX0 63 "ModeDesk" "engaged" "Z"]
def wsX0_turnOff_r2 : List Cond := [Cond.fieldLink RX0 83 "ModeDesk" "warning" "Z", Cond.methodLink RX0 37 yX0_stopFlashing, Cond.instanceMethod yX0_stopFlashing, Cond.selects RX0 yX0_stopFlashing yX0_stopFlashing, Cond.code yX0_stopFlashing cX0_stopFlashing 1 none]
def wsX0_turnOff : List Cond := .code yX0_turnOff cX0_turnOff 2 none :: ((wsX0_turnOff_r1 ++ wsX0_turnOff_r2) ++ wsX00)
def wsX0_obeyDirector_r1 : List Cond := [Cond.fieldLink RX0 63 "ModeDesk" "engaged" "Z", Cond.methodLink RX0 104 yX0_isOn, Cond.instanceMethod yX0_isOn, Cond.selects RX0 yX0_isOn yX0_isOn, Cond.initialized RX0, Cond.code yX0_isOn cX0_isOn 1 (some .boolean), Cond.fieldLink RX0 7 "ModeDesk" "active" "[I", Cond.methodLink RX0 67 yX0_isAnyChannelSound, Cond.instanceMethod yX0_isAnyChannelSound, Cond.selects RX0 yX0_isAnyChannelSound yX0_isAnyChannelSound, Cond.code yX0_isAnyChannelSound cX0_isAnyChannelSound 1 (some .boolean), Cond.fieldLink RX0 19 "ModeDesk" "soundness" "[Z", Cond.methodLink RX0 131 yX0_goToBase, Cond.instanceMethod yX0_goToBase, Cond.selects RX0 yX0_goToBase yX0_goToBase, Cond.code yX0_goToBase cX0_goToBase 1 none, Cond.methodLink RX0 124 yX0_change, Cond.instanceMethod yX0_change, Cond.selects RX0 yX0_change yX0_change, Cond.code yX0_change cX0_change 5 none, Cond.fieldLink RX0 13 "ModeDesk" "flashing" "[I", Cond.fieldLink RX0 115 "ModeDesk" "changeCount" "I", Cond.fieldLink RX0 23 "ModeDesk" "changes" "[I", Cond.methodLink RX0 107 yX0_bit]
def wsX0_obeyDirector_r2 : List Cond := [Cond.static yX0_bit, Cond.code yX0_bit cX0_bit 2 (some .int), Cond.methodLink RX0 128 yX0_disarmAll, Cond.instanceMethod yX0_disarmAll, Cond.selects RX0 yX0_disarmAll yX0_disarmAll, Cond.code yX0_disarmAll cX0_disarmAll 1 none, Cond.fieldLink RX0 90 "ModeDesk" "navArmed" "Z", Cond.fieldLink RX0 93 "ModeDesk" "approachArmed" "Z", Cond.fieldLink RX0 96 "ModeDesk" "glideArmed" "Z", Cond.methodLink RX0 162 yX0_turnOff, Cond.instanceMethod yX0_turnOff, Cond.selects RX0 yX0_turnOff yX0_turnOff, Cond.code yX0_turnOff cX0_turnOff 2 none, Cond.methodLink RX0 80 yX0_disengageWithWarning, Cond.instanceMethod yX0_disengageWithWarning, Cond.selects RX0 yX0_disengageWithWarning yX0_disengageWithWarning, Cond.code yX0_disengageWithWarning cX0_disengageWithWarning 1 none, Cond.fieldLink RX0 83 "ModeDesk" "warning" "Z", Cond.methodLink RX0 37 yX0_stopFlashing, Cond.instanceMethod yX0_stopFlashing, Cond.selects RX0 yX0_stopFlashing yX0_stopFlashing, Cond.code yX0_stopFlashing cX0_stopFlashing 1 none]
def wsX0_obeyDirector : List Cond := .code yX0_obeyDirector cX0_obeyDirector 1 none :: ((wsX0_obeyDirector_r1 ++ wsX0_obeyDirector_r2) ++ wsX00)
def wsX0_obey_r1 : List Cond := [Cond.methodLink RX0 67 yX0_isAnyChannelSound, Cond.instanceMethod yX0_isAnyChannelSound, Cond.selects RX0 yX0_isAnyChannelSound yX0_isAnyChannelSound, Cond.initialized RX0, Cond.code yX0_isAnyChannelSound cX0_isAnyChannelSound 1 (some .boolean), Cond.fieldLink RX0 19 "ModeDesk" "soundness" "[Z", Cond.methodLink RX0 77 yX0_turnOnIfOff, Cond.instanceMethod yX0_turnOnIfOff, Cond.selects RX0 yX0_turnOnIfOff yX0_turnOnIfOff, Cond.code yX0_turnOnIfOff cX0_turnOnIfOff 1 none, Cond.methodLink RX0 104 yX0_isOn, Cond.instanceMethod yX0_isOn, Cond.selects RX0 yX0_isOn yX0_isOn, Cond.code yX0_isOn cX0_isOn 1 (some .boolean), Cond.fieldLink RX0 7 "ModeDesk" "active" "[I", Cond.methodLink RX0 131 yX0_goToBase, Cond.instanceMethod yX0_goToBase, Cond.selects RX0 yX0_goToBase yX0_goToBase, Cond.code yX0_goToBase cX0_goToBase 1 none, Cond.methodLink RX0 124 yX0_change, Cond.instanceMethod yX0_change, Cond.selects RX0 yX0_change yX0_change, Cond.code yX0_change cX0_change 5 none, Cond.fieldLink RX0 13 "ModeDesk" "flashing" "[I"]
def wsX0_obey_r2 : List Cond := [Cond.fieldLink RX0 115 "ModeDesk" "changeCount" "I", Cond.fieldLink RX0 23 "ModeDesk" "changes" "[I", Cond.methodLink RX0 107 yX0_bit, Cond.static yX0_bit, Cond.code yX0_bit cX0_bit 2 (some .int), Cond.methodLink RX0 128 yX0_disarmAll, Cond.instanceMethod yX0_disarmAll, Cond.selects RX0 yX0_disarmAll yX0_disarmAll, Cond.code yX0_disarmAll cX0_disarmAll 1 none, Cond.fieldLink RX0 90 "ModeDesk" "navArmed" "Z", Cond.fieldLink RX0 93 "ModeDesk" "approachArmed" "Z", Cond.fieldLink RX0 96 "ModeDesk" "glideArmed" "Z", Cond.methodLink RX0 134 yX0_obeyHeading, Cond.instanceMethod yX0_obeyHeading, Cond.selects RX0 yX0_obeyHeading yX0_obeyHeading, Cond.code yX0_obeyHeading cX0_obeyHeading 1 none, Cond.methodLink RX0 158 yX0_leaveCourseFor, Cond.instanceMethod yX0_leaveCourseFor, Cond.selects RX0 yX0_leaveCourseFor yX0_leaveCourseFor, Cond.code yX0_leaveCourseFor cX0_leaveCourseFor 3 none, Cond.methodLink RX0 137 yX0_obeyNav, Cond.instanceMethod yX0_obeyNav, Cond.selects RX0 yX0_obeyNav yX0_obeyNav, Cond.code yX0_obeyNav cX0_obeyNav 1 none]
def wsX0_obey_r3 : List Cond := [Cond.methodLink RX0 140 yX0_obeyApproach, Cond.instanceMethod yX0_obeyApproach, Cond.selects RX0 yX0_obeyApproach yX0_obeyApproach, Cond.code yX0_obeyApproach cX0_obeyApproach 1 none, Cond.methodLink RX0 143 yX0_obeyVertical, Cond.instanceMethod yX0_obeyVertical, Cond.selects RX0 yX0_obeyVertical yX0_obeyVertical, Cond.code yX0_obeyVertical cX0_obeyVertical 2 none, Cond.methodLink RX0 146 yX0_obeyAround, Cond.instanceMethod yX0_obeyAround, Cond.selects RX0 yX0_obeyAround yX0_obeyAround, Cond.code yX0_obeyAround cX0_obeyAround 1 none, Cond.methodLink RX0 80 yX0_disengageWithWarning, Cond.instanceMethod yX0_disengageWithWarning, Cond.selects RX0 yX0_disengageWithWarning yX0_disengageWithWarning, Cond.code yX0_disengageWithWarning cX0_disengageWithWarning 1 none, Cond.fieldLink RX0 63 "ModeDesk" "engaged" "Z", Cond.fieldLink RX0 83 "ModeDesk" "warning" "Z", Cond.methodLink RX0 149 yX0_obeySync, Cond.instanceMethod yX0_obeySync, Cond.selects RX0 yX0_obeySync yX0_obeySync, Cond.code yX0_obeySync cX0_obeySync 1 none, Cond.methodLink RX0 152 yX0_obeyTransfer, Cond.instanceMethod yX0_obeyTransfer]
def wsX0_obey_r4 : List Cond := [Cond.selects RX0 yX0_obeyTransfer yX0_obeyTransfer, Cond.code yX0_obeyTransfer cX0_obeyTransfer 2 none, Cond.fieldLink RX0 111 "ModeDesk" "leader" "I", Cond.methodLink RX0 155 yX0_obeyDirector, Cond.instanceMethod yX0_obeyDirector, Cond.selects RX0 yX0_obeyDirector yX0_obeyDirector, Cond.code yX0_obeyDirector cX0_obeyDirector 1 none, Cond.methodLink RX0 162 yX0_turnOff, Cond.instanceMethod yX0_turnOff, Cond.selects RX0 yX0_turnOff yX0_turnOff, Cond.code yX0_turnOff cX0_turnOff 2 none, Cond.methodLink RX0 37 yX0_stopFlashing, Cond.instanceMethod yX0_stopFlashing, Cond.selects RX0 yX0_stopFlashing yX0_stopFlashing, Cond.code yX0_stopFlashing cX0_stopFlashing 1 none]
def wsX0_obey : List Cond := .code yX0_obey cX0_obey 2 none :: ((wsX0_obey_r1 ++ (wsX0_obey_r2 ++ (wsX0_obey_r3 ++ wsX0_obey_r4))) ++ wsX00)
def wsX0_leaderFails_r1 : List Cond := [Cond.fieldLink RX0 19 "ModeDesk" "soundness" "[Z", Cond.fieldLink RX0 111 "ModeDesk" "leader" "I", Cond.methodLink RX0 104 yX0_isOn, Cond.instanceMethod yX0_isOn, Cond.selects RX0 yX0_isOn yX0_isOn, Cond.initialized RX0, Cond.code yX0_isOn cX0_isOn 1 (some .boolean), Cond.fieldLink RX0 7 "ModeDesk" "active" "[I", Cond.methodLink RX0 162 yX0_turnOff, Cond.instanceMethod yX0_turnOff, Cond.selects RX0 yX0_turnOff yX0_turnOff, Cond.code yX0_turnOff cX0_turnOff 2 none, Cond.methodLink RX0 124 yX0_change, Cond.instanceMethod yX0_change, Cond.selects RX0 yX0_change yX0_change, Cond.code yX0_change cX0_change 5 none, Cond.fieldLink RX0 13 "ModeDesk" "flashing" "[I", Cond.fieldLink RX0 115 "ModeDesk" "changeCount" "I", Cond.fieldLink RX0 23 "ModeDesk" "changes" "[I", Cond.methodLink RX0 107 yX0_bit, Cond.static yX0_bit, Cond.code yX0_bit cX0_bit 2 (some .int), Cond.methodLink RX0 128 yX0_disarmAll, Cond.instanceMethod yX0_disarmAll]
def wsX0_leaderFails_r2 : List Cond := [Cond.selects RX0 yX0_disarmAll yX0_disarmAll, Cond.code yX0_disarmAll cX0_disarmAll 1 none, Cond.fieldLink RX0 90 "ModeDesk" "navArmed" "Z", Cond.fieldLink RX0 93 "ModeDesk" "approachArmed" "Z", Cond.fieldLink RX0 96 "ModeDesk" "glideArmed" "Z", Cond.methodLink RX0 80 yX0_disengageWithWarning, Cond.instanceMethod yX0_disengageWithWarning, Cond.selects RX0 yX0_disengageWithWarning yX0_disengageWithWarning, Cond.code yX0_disengageWithWarning cX0_disengageWithWarning 1 none, Cond.fieldLink RX0 63 "ModeDesk" "engaged" "Z", Cond.fieldLink RX0 83 "ModeDesk" "warning" "Z", Cond.methodLink RX0 37 yX0_stopFlashing, Cond.instanceMethod yX0_stopFlashing, Cond.selects RX0 yX0_stopFlashing yX0_stopFlashing, Cond.code yX0_stopFlashing cX0_stopFlashing 1 none]
def wsX0_leaderFails : List Cond := .code yX0_leaderFails cX0_leaderFails 2 (some .boolean) :: ((wsX0_leaderFails_r1 ++ wsX0_leaderFails_r2) ++ wsX00)
def wsX0_courseIsLost : List Cond := .code yX0_courseIsLost cX0_courseIsLost 2 (some .boolean) :: ([.fieldLink RX0 7 "ModeDesk" "active" "[I", .fieldLink RX0 16 "ModeDesk" "measures" "[I", .methodLink RX0 158 yX0_leaveCourseFor, .instanceMethod yX0_leaveCourseFor, .selects RX0 yX0_leaveCourseFor yX0_leaveCourseFor, .initialized RX0, .code yX0_leaveCourseFor cX0_leaveCourseFor 3 none, .fieldLink RX0 93 "ModeDesk" "approachArmed" "Z", .fieldLink RX0 96 "ModeDesk" "glideArmed" "Z", .methodLink RX0 124 yX0_change, .instanceMethod yX0_change, .selects RX0 yX0_change yX0_change, .code yX0_change cX0_change 5 none, .fieldLink RX0 13 "ModeDesk" "flashing" "[I", .fieldLink RX0 115 "ModeDesk" "changeCount" "I", .fieldLink RX0 23 "ModeDesk" "changes" "[I", .methodLink RX0 107 yX0_bit, .static yX0_bit, .code yX0_bit cX0_bit 2 (some .int)] ++ wsX00)
def wsX0_pathIsLost : List Cond := .code yX0_pathIsLost cX0_pathIsLost 2 (some .boolean) :: ([.fieldLink RX0 16 "ModeDesk" "measures" "[I", .fieldLink RX0 7 "ModeDesk" "active" "[I", .methodLink RX0 124 yX0_change, .instanceMethod yX0_change, .selects RX0 yX0_change yX0_change, .initialized RX0, .code yX0_change cX0_change 5 none, .fieldLink RX0 13 "ModeDesk" "flashing" "[I", .fieldLink RX0 115 "ModeDesk" "changeCount" "I", .fieldLink RX0 23 "ModeDesk" "changes" "[I", .methodLink RX0 107 yX0_bit, .static yX0_bit, .code yX0_bit cX0_bit 2 (some .int)] ++ wsX00)
def wsX0_isCourseWithin : List Cond := .code yX0_isCourseWithin cX0_isCourseWithin 2 (some .boolean) :: ([.fieldLink RX0 16 "ModeDesk" "measures" "[I", .methodLink RX0 118 Lib.Math.abs.name, .static Lib.Math.abs.name, .initialized "java/lang/Math", .code Lib.Math.abs.name Lib.Math.abs.code 1 (some .int)] ++ wsX00)
def wsX0_navIsReached : List Cond := .code yX0_navIsReached cX0_navIsReached 1 (some .boolean) :: ([.fieldLink RX0 90 "ModeDesk" "navArmed" "Z", .methodLink RX0 199 yX0_isCourseWithin, .instanceMethod yX0_isCourseWithin, .selects RX0 yX0_isCourseWithin yX0_isCourseWithin, .initialized RX0, .code yX0_isCourseWithin cX0_isCourseWithin 2 (some .boolean), .fieldLink RX0 16 "ModeDesk" "measures" "[I", .methodLink RX0 118 Lib.Math.abs.name, .static Lib.Math.abs.name, .initialized "java/lang/Math", .code Lib.Math.abs.name Lib.Math.abs.code 1 (some .int), .methodLink RX0 124 yX0_change, .instanceMethod yX0_change, .selects RX0 yX0_change yX0_change, .code yX0_change cX0_change 5 none, .fieldLink RX0 7 "ModeDesk" "active" "[I", .fieldLink RX0 13 "ModeDesk" "flashing" "[I", .fieldLink RX0 115 "ModeDesk" "changeCount" "I", .fieldLink RX0 23 "ModeDesk" "changes" "[I", .methodLink RX0 107 yX0_bit, .static yX0_bit, .code yX0_bit cX0_bit 2 (some .int)] ++ wsX00)
def wsX0_approachIsReached : List Cond := .code yX0_approachIsReached cX0_approachIsReached 1 (some .boolean) :: ([.fieldLink RX0 93 "ModeDesk" "approachArmed" "Z", .methodLink RX0 199 yX0_isCourseWithin, .instanceMethod yX0_isCourseWithin, .selects RX0 yX0_isCourseWithin yX0_isCourseWithin, .initialized RX0, .code yX0_isCourseWithin cX0_isCourseWithin 2 (some .boolean), .fieldLink RX0 16 "ModeDesk" "measures" "[I", .methodLink RX0 118 Lib.Math.abs.name, .static Lib.Math.abs.name, .initialized "java/lang/Math", .code Lib.Math.abs.name Lib.Math.abs.code 1 (some .int), .methodLink RX0 124 yX0_change, .instanceMethod yX0_change, .selects RX0 yX0_change yX0_change, .code yX0_change cX0_change 5 none, .fieldLink RX0 7 "ModeDesk" "active" "[I", .fieldLink RX0 13 "ModeDesk" "flashing" "[I", .fieldLink RX0 115 "ModeDesk" "changeCount" "I", .fieldLink RX0 23 "ModeDesk" "changes" "[I", .methodLink RX0 107 yX0_bit, .static yX0_bit, .code yX0_bit cX0_bit 2 (some .int)] ++ wsX00)
def wsX0_isPathWithin : List Cond := .code yX0_isPathWithin cX0_isPathWithin 2 (some .boolean) :: ([.fieldLink RX0 16 "ModeDesk" "measures" "[I", .methodLink RX0 118 Lib.Math.abs.name, .static Lib.Math.abs.name, .initialized "java/lang/Math", .code Lib.Math.abs.name Lib.Math.abs.code 1 (some .int)] ++ wsX00)
def wsX0_glideIsReached : List Cond := .code yX0_glideIsReached cX0_glideIsReached 1 (some .boolean) :: ([.fieldLink RX0 96 "ModeDesk" "glideArmed" "Z", .fieldLink RX0 7 "ModeDesk" "active" "[I", .methodLink RX0 202 yX0_isPathWithin, .instanceMethod yX0_isPathWithin, .selects RX0 yX0_isPathWithin yX0_isPathWithin, .initialized RX0, .code yX0_isPathWithin cX0_isPathWithin 2 (some .boolean), .fieldLink RX0 16 "ModeDesk" "measures" "[I", .methodLink RX0 118 Lib.Math.abs.name, .static Lib.Math.abs.name, .initialized "java/lang/Math", .code Lib.Math.abs.name Lib.Math.abs.code 1 (some .int), .methodLink RX0 124 yX0_change, .instanceMethod yX0_change, .selects RX0 yX0_change yX0_change, .code yX0_change cX0_change 5 none, .fieldLink RX0 13 "ModeDesk" "flashing" "[I", .fieldLink RX0 115 "ModeDesk" "changeCount" "I", .fieldLink RX0 23 "ModeDesk" "changes" "[I", .methodLink RX0 107 yX0_bit, .static yX0_bit, .code yX0_bit cX0_bit 2 (some .int)] ++ wsX00)
def wsX0_isCaptureArmed : List Cond := .code yX0_isCaptureArmed cX0_isCaptureArmed 2 (some .boolean) :: ([.fieldLink RX0 7 "ModeDesk" "active" "[I"] ++ wsX00)
def wsX0_isHeightWithin : List Cond := .code yX0_isHeightWithin cX0_isHeightWithin 2 (some .boolean) :: ([.fieldLink RX0 16 "ModeDesk" "measures" "[I", .methodLink RX0 118 Lib.Math.abs.name, .static Lib.Math.abs.name, .initialized "java/lang/Math", .code Lib.Math.abs.name Lib.Math.abs.code 1 (some .int)] ++ wsX00)
def wsX0_heightComesNear_r1 : List Cond := [Cond.methodLink RX0 99 yX0_isCaptureArmed, Cond.instanceMethod yX0_isCaptureArmed, Cond.selects RX0 yX0_isCaptureArmed yX0_isCaptureArmed, Cond.initialized RX0, Cond.code yX0_isCaptureArmed cX0_isCaptureArmed 2 (some .boolean), Cond.fieldLink RX0 7 "ModeDesk" "active" "[I", Cond.methodLink RX0 205 yX0_isHeightWithin, Cond.instanceMethod yX0_isHeightWithin, Cond.selects RX0 yX0_isHeightWithin yX0_isHeightWithin, Cond.code yX0_isHeightWithin cX0_isHeightWithin 2 (some .boolean), Cond.fieldLink RX0 16 "ModeDesk" "measures" "[I", Cond.methodLink RX0 118 Lib.Math.abs.name, Cond.static Lib.Math.abs.name, Cond.initialized "java/lang/Math", Cond.code Lib.Math.abs.name Lib.Math.abs.code 1 (some .int), Cond.methodLink RX0 124 yX0_change, Cond.instanceMethod yX0_change, Cond.selects RX0 yX0_change yX0_change, Cond.code yX0_change cX0_change 5 none, Cond.fieldLink RX0 13 "ModeDesk" "flashing" "[I", Cond.fieldLink RX0 115 "ModeDesk" "changeCount" "I", Cond.fieldLink RX0 23 "ModeDesk" "changes" "[I", Cond.methodLink RX0 107 yX0_bit, Cond.static yX0_bit]
def wsX0_heightComesNear_r2 : List Cond := [Cond.code yX0_bit cX0_bit 2 (some .int)]
def wsX0_heightComesNear : List Cond := .code yX0_heightComesNear cX0_heightComesNear 1 (some .boolean) :: ((wsX0_heightComesNear_r1 ++ wsX0_heightComesNear_r2) ++ wsX00)
def wsX0_heightIsReached : List Cond := .code yX0_heightIsReached cX0_heightIsReached 1 (some .boolean) :: ([.fieldLink RX0 7 "ModeDesk" "active" "[I", .methodLink RX0 205 yX0_isHeightWithin, .instanceMethod yX0_isHeightWithin, .selects RX0 yX0_isHeightWithin yX0_isHeightWithin, .initialized RX0, .code yX0_isHeightWithin cX0_isHeightWithin 2 (some .boolean), .fieldLink RX0 16 "ModeDesk" "measures" "[I", .methodLink RX0 118 Lib.Math.abs.name, .static Lib.Math.abs.name, .initialized "java/lang/Math", .code Lib.Math.abs.name Lib.Math.abs.code 1 (some .int), .methodLink RX0 124 yX0_change, .instanceMethod yX0_change, .selects RX0 yX0_change yX0_change, .code yX0_change cX0_change 5 none, .fieldLink RX0 13 "ModeDesk" "flashing" "[I", .fieldLink RX0 115 "ModeDesk" "changeCount" "I", .fieldLink RX0 23 "ModeDesk" "changes" "[I", .methodLink RX0 107 yX0_bit, .static yX0_bit, .code yX0_bit cX0_bit 2 (some .int)] ++ wsX00)
def wsX0_heightIsLost : List Cond := .code yX0_heightIsLost cX0_heightIsLost 1 (some .boolean) :: ([.fieldLink RX0 7 "ModeDesk" "active" "[I", .methodLink RX0 205 yX0_isHeightWithin, .instanceMethod yX0_isHeightWithin, .selects RX0 yX0_isHeightWithin yX0_isHeightWithin, .initialized RX0, .code yX0_isHeightWithin cX0_isHeightWithin 2 (some .boolean), .fieldLink RX0 16 "ModeDesk" "measures" "[I", .methodLink RX0 118 Lib.Math.abs.name, .static Lib.Math.abs.name, .initialized "java/lang/Math", .code Lib.Math.abs.name Lib.Math.abs.code 1 (some .int), .methodLink RX0 124 yX0_change, .instanceMethod yX0_change, .selects RX0 yX0_change yX0_change, .code yX0_change cX0_change 5 none, .fieldLink RX0 13 "ModeDesk" "flashing" "[I", .fieldLink RX0 115 "ModeDesk" "changeCount" "I", .fieldLink RX0 23 "ModeDesk" "changes" "[I", .methodLink RX0 107 yX0_bit, .static yX0_bit, .code yX0_bit cX0_bit 2 (some .int)] ++ wsX00)
def wsX0_isTooFast : List Cond := .code yX0_isTooFast cX0_isTooFast 1 (some .boolean) :: ([.fieldLink RX0 16 "ModeDesk" "measures" "[I"] ++ wsX00)
def wsX0_climbIsTooFast : List Cond := .code yX0_climbIsTooFast cX0_climbIsTooFast 1 (some .boolean) :: ([.fieldLink RX0 7 "ModeDesk" "active" "[I", .methodLink RX0 74 yX0_isTooFast, .instanceMethod yX0_isTooFast, .selects RX0 yX0_isTooFast yX0_isTooFast, .initialized RX0, .code yX0_isTooFast cX0_isTooFast 1 (some .boolean), .fieldLink RX0 16 "ModeDesk" "measures" "[I", .methodLink RX0 124 yX0_change, .instanceMethod yX0_change, .selects RX0 yX0_change yX0_change, .code yX0_change cX0_change 5 none, .fieldLink RX0 13 "ModeDesk" "flashing" "[I", .fieldLink RX0 115 "ModeDesk" "changeCount" "I", .fieldLink RX0 23 "ModeDesk" "changes" "[I", .methodLink RX0 107 yX0_bit, .static yX0_bit, .code yX0_bit cX0_bit 2 (some .int)] ++ wsX00)
def wsX0_comesAboutByItself_r1 : List Cond := [Cond.methodLink RX0 169 yX0_leaderFails, Cond.instanceMethod yX0_leaderFails, Cond.selects RX0 yX0_leaderFails yX0_leaderFails, Cond.initialized RX0, Cond.code yX0_leaderFails cX0_leaderFails 2 (some .boolean), Cond.fieldLink RX0 19 "ModeDesk" "soundness" "[Z", Cond.fieldLink RX0 111 "ModeDesk" "leader" "I", Cond.methodLink RX0 104 yX0_isOn, Cond.instanceMethod yX0_isOn, Cond.selects RX0 yX0_isOn yX0_isOn, Cond.code yX0_isOn cX0_isOn 1 (some .boolean), Cond.fieldLink RX0 7 "ModeDesk" "active" "[I", Cond.methodLink RX0 162 yX0_turnOff, Cond.instanceMethod yX0_turnOff, Cond.selects RX0 yX0_turnOff yX0_turnOff, Cond.code yX0_turnOff cX0_turnOff 2 none, Cond.methodLink RX0 124 yX0_change, Cond.instanceMethod yX0_change, Cond.selects RX0 yX0_change yX0_change, Cond.code yX0_change cX0_change 5 none, Cond.fieldLink RX0 13 "ModeDesk" "flashing" "[I", Cond.fieldLink RX0 115 "ModeDesk" "changeCount" "I", Cond.fieldLink RX0 23 "ModeDesk" "changes" "[I", Cond.methodLink RX0 107 yX0_bit]
def wsX0_comesAboutByItself_r2 : List Cond := [Cond.static yX0_bit, Cond.code yX0_bit cX0_bit 2 (some .int), Cond.methodLink RX0 128 yX0_disarmAll, Cond.instanceMethod yX0_disarmAll, Cond.selects RX0 yX0_disarmAll yX0_disarmAll, Cond.code yX0_disarmAll cX0_disarmAll 1 none, Cond.fieldLink RX0 90 "ModeDesk" "navArmed" "Z", Cond.fieldLink RX0 93 "ModeDesk" "approachArmed" "Z", Cond.fieldLink RX0 96 "ModeDesk" "glideArmed" "Z", Cond.methodLink RX0 80 yX0_disengageWithWarning, Cond.instanceMethod yX0_disengageWithWarning, Cond.selects RX0 yX0_disengageWithWarning yX0_disengageWithWarning, Cond.code yX0_disengageWithWarning cX0_disengageWithWarning 1 none, Cond.fieldLink RX0 63 "ModeDesk" "engaged" "Z", Cond.fieldLink RX0 83 "ModeDesk" "warning" "Z", Cond.methodLink RX0 37 yX0_stopFlashing, Cond.instanceMethod yX0_stopFlashing, Cond.selects RX0 yX0_stopFlashing yX0_stopFlashing, Cond.code yX0_stopFlashing cX0_stopFlashing 1 none, Cond.methodLink RX0 172 yX0_courseIsLost, Cond.instanceMethod yX0_courseIsLost, Cond.selects RX0 yX0_courseIsLost yX0_courseIsLost, Cond.code yX0_courseIsLost cX0_courseIsLost 2 (some .boolean), Cond.fieldLink RX0 16 "ModeDesk" "measures" "[I"]
def wsX0_comesAboutByItself_r3 : List Cond := [Cond.methodLink RX0 158 yX0_leaveCourseFor, Cond.instanceMethod yX0_leaveCourseFor, Cond.selects RX0 yX0_leaveCourseFor yX0_leaveCourseFor, Cond.code yX0_leaveCourseFor cX0_leaveCourseFor 3 none, Cond.methodLink RX0 175 yX0_pathIsLost, Cond.instanceMethod yX0_pathIsLost, Cond.selects RX0 yX0_pathIsLost yX0_pathIsLost, Cond.code yX0_pathIsLost cX0_pathIsLost 2 (some .boolean), Cond.methodLink RX0 178 yX0_navIsReached, Cond.instanceMethod yX0_navIsReached, Cond.selects RX0 yX0_navIsReached yX0_navIsReached, Cond.code yX0_navIsReached cX0_navIsReached 1 (some .boolean), Cond.methodLink RX0 199 yX0_isCourseWithin, Cond.instanceMethod yX0_isCourseWithin, Cond.selects RX0 yX0_isCourseWithin yX0_isCourseWithin, Cond.code yX0_isCourseWithin cX0_isCourseWithin 2 (some .boolean), Cond.methodLink RX0 118 Lib.Math.abs.name, Cond.static Lib.Math.abs.name, Cond.initialized "java/lang/Math", Cond.code Lib.Math.abs.name Lib.Math.abs.code 1 (some .int), Cond.methodLink RX0 181 yX0_approachIsReached, Cond.instanceMethod yX0_approachIsReached, Cond.selects RX0 yX0_approachIsReached yX0_approachIsReached, Cond.code yX0_approachIsReached cX0_approachIsReached 1 (some .boolean)]
def wsX0_comesAboutByItself_r4 : List Cond := [Cond.methodLink RX0 184 yX0_glideIsReached, Cond.instanceMethod yX0_glideIsReached, Cond.selects RX0 yX0_glideIsReached yX0_glideIsReached, Cond.code yX0_glideIsReached cX0_glideIsReached 1 (some .boolean), Cond.methodLink RX0 202 yX0_isPathWithin, Cond.instanceMethod yX0_isPathWithin, Cond.selects RX0 yX0_isPathWithin yX0_isPathWithin, Cond.code yX0_isPathWithin cX0_isPathWithin 2 (some .boolean), Cond.methodLink RX0 187 yX0_heightComesNear, Cond.instanceMethod yX0_heightComesNear, Cond.selects RX0 yX0_heightComesNear yX0_heightComesNear, Cond.code yX0_heightComesNear cX0_heightComesNear 1 (some .boolean), Cond.methodLink RX0 99 yX0_isCaptureArmed, Cond.instanceMethod yX0_isCaptureArmed, Cond.selects RX0 yX0_isCaptureArmed yX0_isCaptureArmed, Cond.code yX0_isCaptureArmed cX0_isCaptureArmed 2 (some .boolean), Cond.methodLink RX0 205 yX0_isHeightWithin, Cond.instanceMethod yX0_isHeightWithin, Cond.selects RX0 yX0_isHeightWithin yX0_isHeightWithin, Cond.code yX0_isHeightWithin cX0_isHeightWithin 2 (some .boolean), Cond.methodLink RX0 190 yX0_heightIsReached, Cond.instanceMethod yX0_heightIsReached, Cond.selects RX0 yX0_heightIsReached yX0_heightIsReached, Cond.code yX0_heightIsReached cX0_heightIsReached 1 (some .boolean)]
def wsX0_comesAboutByItself_r5 : List Cond := [Cond.methodLink RX0 193 yX0_heightIsLost, Cond.instanceMethod yX0_heightIsLost, Cond.selects RX0 yX0_heightIsLost yX0_heightIsLost, Cond.code yX0_heightIsLost cX0_heightIsLost 1 (some .boolean), Cond.methodLink RX0 196 yX0_climbIsTooFast, Cond.instanceMethod yX0_climbIsTooFast, Cond.selects RX0 yX0_climbIsTooFast yX0_climbIsTooFast, Cond.code yX0_climbIsTooFast cX0_climbIsTooFast 1 (some .boolean), Cond.methodLink RX0 74 yX0_isTooFast, Cond.instanceMethod yX0_isTooFast, Cond.selects RX0 yX0_isTooFast yX0_isTooFast, Cond.code yX0_isTooFast cX0_isTooFast 1 (some .boolean)]
def wsX0_comesAboutByItself : List Cond := .code yX0_comesAboutByItself cX0_comesAboutByItself 1 (some .boolean) :: ((wsX0_comesAboutByItself_r1 ++ (wsX0_comesAboutByItself_r2 ++ (wsX0_comesAboutByItself_r3 ++ (wsX0_comesAboutByItself_r4 ++ wsX0_comesAboutByItself_r5)))) ++ wsX00)
def wsX0_settle_r1 : List Cond := [Cond.methodLink RX0 166 yX0_comesAboutByItself, Cond.instanceMethod yX0_comesAboutByItself, Cond.selects RX0 yX0_comesAboutByItself yX0_comesAboutByItself, Cond.initialized RX0, Cond.code yX0_comesAboutByItself cX0_comesAboutByItself 1 (some .boolean), Cond.methodLink RX0 169 yX0_leaderFails, Cond.instanceMethod yX0_leaderFails, Cond.selects RX0 yX0_leaderFails yX0_leaderFails, Cond.code yX0_leaderFails cX0_leaderFails 2 (some .boolean), Cond.fieldLink RX0 19 "ModeDesk" "soundness" "[Z", Cond.fieldLink RX0 111 "ModeDesk" "leader" "I", Cond.methodLink RX0 104 yX0_isOn, Cond.instanceMethod yX0_isOn, Cond.selects RX0 yX0_isOn yX0_isOn, Cond.code yX0_isOn cX0_isOn 1 (some .boolean), Cond.fieldLink RX0 7 "ModeDesk" "active" "[I", Cond.methodLink RX0 162 yX0_turnOff, Cond.instanceMethod yX0_turnOff, Cond.selects RX0 yX0_turnOff yX0_turnOff, Cond.code yX0_turnOff cX0_turnOff 2 none, Cond.methodLink RX0 124 yX0_change, Cond.instanceMethod yX0_change, Cond.selects RX0 yX0_change yX0_change, Cond.code yX0_change cX0_change 5 none]
def wsX0_settle_r2 : List Cond := [Cond.fieldLink RX0 13 "ModeDesk" "flashing" "[I", Cond.fieldLink RX0 115 "ModeDesk" "changeCount" "I", Cond.fieldLink RX0 23 "ModeDesk" "changes" "[I", Cond.methodLink RX0 107 yX0_bit, Cond.static yX0_bit, Cond.code yX0_bit cX0_bit 2 (some .int), Cond.methodLink RX0 128 yX0_disarmAll, Cond.instanceMethod yX0_disarmAll, Cond.selects RX0 yX0_disarmAll yX0_disarmAll, Cond.code yX0_disarmAll cX0_disarmAll 1 none, Cond.fieldLink RX0 90 "ModeDesk" "navArmed" "Z", Cond.fieldLink RX0 93 "ModeDesk" "approachArmed" "Z", Cond.fieldLink RX0 96 "ModeDesk" "glideArmed" "Z", Cond.methodLink RX0 80 yX0_disengageWithWarning, Cond.instanceMethod yX0_disengageWithWarning, Cond.selects RX0 yX0_disengageWithWarning yX0_disengageWithWarning, Cond.code yX0_disengageWithWarning cX0_disengageWithWarning 1 none, Cond.fieldLink RX0 63 "ModeDesk" "engaged" "Z", Cond.fieldLink RX0 83 "ModeDesk" "warning" "Z", Cond.methodLink RX0 37 yX0_stopFlashing, Cond.instanceMethod yX0_stopFlashing, Cond.selects RX0 yX0_stopFlashing yX0_stopFlashing, Cond.code yX0_stopFlashing cX0_stopFlashing 1 none, Cond.methodLink RX0 172 yX0_courseIsLost]
def wsX0_settle_r3 : List Cond := [Cond.instanceMethod yX0_courseIsLost, Cond.selects RX0 yX0_courseIsLost yX0_courseIsLost, Cond.code yX0_courseIsLost cX0_courseIsLost 2 (some .boolean), Cond.fieldLink RX0 16 "ModeDesk" "measures" "[I", Cond.methodLink RX0 158 yX0_leaveCourseFor, Cond.instanceMethod yX0_leaveCourseFor, Cond.selects RX0 yX0_leaveCourseFor yX0_leaveCourseFor, Cond.code yX0_leaveCourseFor cX0_leaveCourseFor 3 none, Cond.methodLink RX0 175 yX0_pathIsLost, Cond.instanceMethod yX0_pathIsLost, Cond.selects RX0 yX0_pathIsLost yX0_pathIsLost, Cond.code yX0_pathIsLost cX0_pathIsLost 2 (some .boolean), Cond.methodLink RX0 178 yX0_navIsReached, Cond.instanceMethod yX0_navIsReached, Cond.selects RX0 yX0_navIsReached yX0_navIsReached, Cond.code yX0_navIsReached cX0_navIsReached 1 (some .boolean), Cond.methodLink RX0 199 yX0_isCourseWithin, Cond.instanceMethod yX0_isCourseWithin, Cond.selects RX0 yX0_isCourseWithin yX0_isCourseWithin, Cond.code yX0_isCourseWithin cX0_isCourseWithin 2 (some .boolean), Cond.methodLink RX0 118 Lib.Math.abs.name, Cond.static Lib.Math.abs.name, Cond.initialized "java/lang/Math", Cond.code Lib.Math.abs.name Lib.Math.abs.code 1 (some .int)]
def wsX0_settle_r4 : List Cond := [Cond.methodLink RX0 181 yX0_approachIsReached, Cond.instanceMethod yX0_approachIsReached, Cond.selects RX0 yX0_approachIsReached yX0_approachIsReached, Cond.code yX0_approachIsReached cX0_approachIsReached 1 (some .boolean), Cond.methodLink RX0 184 yX0_glideIsReached, Cond.instanceMethod yX0_glideIsReached, Cond.selects RX0 yX0_glideIsReached yX0_glideIsReached, Cond.code yX0_glideIsReached cX0_glideIsReached 1 (some .boolean), Cond.methodLink RX0 202 yX0_isPathWithin, Cond.instanceMethod yX0_isPathWithin, Cond.selects RX0 yX0_isPathWithin yX0_isPathWithin, Cond.code yX0_isPathWithin cX0_isPathWithin 2 (some .boolean), Cond.methodLink RX0 187 yX0_heightComesNear, Cond.instanceMethod yX0_heightComesNear, Cond.selects RX0 yX0_heightComesNear yX0_heightComesNear, Cond.code yX0_heightComesNear cX0_heightComesNear 1 (some .boolean), Cond.methodLink RX0 99 yX0_isCaptureArmed, Cond.instanceMethod yX0_isCaptureArmed, Cond.selects RX0 yX0_isCaptureArmed yX0_isCaptureArmed, Cond.code yX0_isCaptureArmed cX0_isCaptureArmed 2 (some .boolean), Cond.methodLink RX0 205 yX0_isHeightWithin, Cond.instanceMethod yX0_isHeightWithin, Cond.selects RX0 yX0_isHeightWithin yX0_isHeightWithin, Cond.code yX0_isHeightWithin cX0_isHeightWithin 2 (some .boolean)]
def wsX0_settle_r5 : List Cond := [Cond.methodLink RX0 190 yX0_heightIsReached, Cond.instanceMethod yX0_heightIsReached, Cond.selects RX0 yX0_heightIsReached yX0_heightIsReached, Cond.code yX0_heightIsReached cX0_heightIsReached 1 (some .boolean), Cond.methodLink RX0 193 yX0_heightIsLost, Cond.instanceMethod yX0_heightIsLost, Cond.selects RX0 yX0_heightIsLost yX0_heightIsLost, Cond.code yX0_heightIsLost cX0_heightIsLost 1 (some .boolean), Cond.methodLink RX0 196 yX0_climbIsTooFast, Cond.instanceMethod yX0_climbIsTooFast, Cond.selects RX0 yX0_climbIsTooFast yX0_climbIsTooFast, Cond.code yX0_climbIsTooFast cX0_climbIsTooFast 1 (some .boolean), Cond.methodLink RX0 74 yX0_isTooFast, Cond.instanceMethod yX0_isTooFast, Cond.selects RX0 yX0_isTooFast yX0_isTooFast, Cond.code yX0_isTooFast cX0_isTooFast 1 (some .boolean)]
def wsX0_settle : List Cond := .code yX0_settle cX0_settle 2 (some .int) :: ((wsX0_settle_r1 ++ (wsX0_settle_r2 ++ (wsX0_settle_r3 ++ (wsX0_settle_r4 ++ wsX0_settle_r5)))) ++ wsX00)
def wsX0_press_r1 : List Cond := [Cond.classLink RX0 26 "java/lang/IllegalArgumentException", Cond.initialized "java/lang/IllegalArgumentException", Cond.methodLink RX0 33 yX0_stateAsNumber, Cond.instanceMethod yX0_stateAsNumber, Cond.selects RX0 yX0_stateAsNumber yX0_stateAsNumber, Cond.initialized RX0, Cond.code yX0_stateAsNumber cX0_stateAsNumber 1 (some .int), Cond.fieldLink RX0 7 "ModeDesk" "active" "[I", Cond.fieldLink RX0 90 "ModeDesk" "navArmed" "Z", Cond.fieldLink RX0 93 "ModeDesk" "approachArmed" "Z", Cond.fieldLink RX0 96 "ModeDesk" "glideArmed" "Z", Cond.fieldLink RX0 63 "ModeDesk" "engaged" "Z", Cond.fieldLink RX0 111 "ModeDesk" "leader" "I", Cond.methodLink RX0 107 yX0_bit, Cond.static yX0_bit, Cond.code yX0_bit cX0_bit 2 (some .int), Cond.methodLink RX0 37 yX0_stopFlashing, Cond.instanceMethod yX0_stopFlashing, Cond.selects RX0 yX0_stopFlashing yX0_stopFlashing, Cond.code yX0_stopFlashing cX0_stopFlashing 1 none, Cond.fieldLink RX0 13 "ModeDesk" "flashing" "[I", Cond.methodLink RX0 40 yX0_obey, Cond.instanceMethod yX0_obey, Cond.selects RX0 yX0_obey yX0_obey]
def wsX0_press_r2 : List Cond := [Cond.code yX0_obey cX0_obey 2 none, Cond.methodLink RX0 67 yX0_isAnyChannelSound, Cond.instanceMethod yX0_isAnyChannelSound, Cond.selects RX0 yX0_isAnyChannelSound yX0_isAnyChannelSound, Cond.code yX0_isAnyChannelSound cX0_isAnyChannelSound 1 (some .boolean), Cond.fieldLink RX0 19 "ModeDesk" "soundness" "[Z", Cond.methodLink RX0 77 yX0_turnOnIfOff, Cond.instanceMethod yX0_turnOnIfOff, Cond.selects RX0 yX0_turnOnIfOff yX0_turnOnIfOff, Cond.code yX0_turnOnIfOff cX0_turnOnIfOff 1 none, Cond.methodLink RX0 104 yX0_isOn, Cond.instanceMethod yX0_isOn, Cond.selects RX0 yX0_isOn yX0_isOn, Cond.code yX0_isOn cX0_isOn 1 (some .boolean), Cond.methodLink RX0 131 yX0_goToBase, Cond.instanceMethod yX0_goToBase, Cond.selects RX0 yX0_goToBase yX0_goToBase, Cond.code yX0_goToBase cX0_goToBase 1 none, Cond.methodLink RX0 124 yX0_change, Cond.instanceMethod yX0_change, Cond.selects RX0 yX0_change yX0_change, Cond.code yX0_change cX0_change 5 none, Cond.fieldLink RX0 115 "ModeDesk" "changeCount" "I", Cond.fieldLink RX0 23 "ModeDesk" "changes" "[I"]
def wsX0_press_r3 : List Cond := [Cond.methodLink RX0 128 yX0_disarmAll, Cond.instanceMethod yX0_disarmAll, Cond.selects RX0 yX0_disarmAll yX0_disarmAll, Cond.code yX0_disarmAll cX0_disarmAll 1 none, Cond.methodLink RX0 134 yX0_obeyHeading, Cond.instanceMethod yX0_obeyHeading, Cond.selects RX0 yX0_obeyHeading yX0_obeyHeading, Cond.code yX0_obeyHeading cX0_obeyHeading 1 none, Cond.methodLink RX0 158 yX0_leaveCourseFor, Cond.instanceMethod yX0_leaveCourseFor, Cond.selects RX0 yX0_leaveCourseFor yX0_leaveCourseFor, Cond.code yX0_leaveCourseFor cX0_leaveCourseFor 3 none, Cond.methodLink RX0 137 yX0_obeyNav, Cond.instanceMethod yX0_obeyNav, Cond.selects RX0 yX0_obeyNav yX0_obeyNav, Cond.code yX0_obeyNav cX0_obeyNav 1 none, Cond.methodLink RX0 140 yX0_obeyApproach, Cond.instanceMethod yX0_obeyApproach, Cond.selects RX0 yX0_obeyApproach yX0_obeyApproach, Cond.code yX0_obeyApproach cX0_obeyApproach 1 none, Cond.methodLink RX0 143 yX0_obeyVertical, Cond.instanceMethod yX0_obeyVertical, Cond.selects RX0 yX0_obeyVertical yX0_obeyVertical, Cond.code yX0_obeyVertical cX0_obeyVertical 2 none]
def wsX0_press_r4 : List Cond := [Cond.methodLink RX0 146 yX0_obeyAround, Cond.instanceMethod yX0_obeyAround, Cond.selects RX0 yX0_obeyAround yX0_obeyAround, Cond.code yX0_obeyAround cX0_obeyAround 1 none, Cond.methodLink RX0 80 yX0_disengageWithWarning, Cond.instanceMethod yX0_disengageWithWarning, Cond.selects RX0 yX0_disengageWithWarning yX0_disengageWithWarning, Cond.code yX0_disengageWithWarning cX0_disengageWithWarning 1 none, Cond.fieldLink RX0 83 "ModeDesk" "warning" "Z", Cond.methodLink RX0 149 yX0_obeySync, Cond.instanceMethod yX0_obeySync, Cond.selects RX0 yX0_obeySync yX0_obeySync, Cond.code yX0_obeySync cX0_obeySync 1 none, Cond.methodLink RX0 152 yX0_obeyTransfer, Cond.instanceMethod yX0_obeyTransfer, Cond.selects RX0 yX0_obeyTransfer yX0_obeyTransfer, Cond.code yX0_obeyTransfer cX0_obeyTransfer 2 none, Cond.methodLink RX0 155 yX0_obeyDirector, Cond.instanceMethod yX0_obeyDirector, Cond.selects RX0 yX0_obeyDirector yX0_obeyDirector, Cond.code yX0_obeyDirector cX0_obeyDirector 1 none, Cond.methodLink RX0 162 yX0_turnOff, Cond.instanceMethod yX0_turnOff, Cond.selects RX0 yX0_turnOff yX0_turnOff]
def wsX0_press_r5 : List Cond := [Cond.code yX0_turnOff cX0_turnOff 2 none, Cond.methodLink RX0 44 yX0_settle, Cond.instanceMethod yX0_settle, Cond.selects RX0 yX0_settle yX0_settle, Cond.code yX0_settle cX0_settle 2 (some .int), Cond.methodLink RX0 166 yX0_comesAboutByItself, Cond.instanceMethod yX0_comesAboutByItself, Cond.selects RX0 yX0_comesAboutByItself yX0_comesAboutByItself, Cond.code yX0_comesAboutByItself cX0_comesAboutByItself 1 (some .boolean), Cond.methodLink RX0 169 yX0_leaderFails, Cond.instanceMethod yX0_leaderFails, Cond.selects RX0 yX0_leaderFails yX0_leaderFails, Cond.code yX0_leaderFails cX0_leaderFails 2 (some .boolean), Cond.methodLink RX0 172 yX0_courseIsLost, Cond.instanceMethod yX0_courseIsLost, Cond.selects RX0 yX0_courseIsLost yX0_courseIsLost, Cond.code yX0_courseIsLost cX0_courseIsLost 2 (some .boolean), Cond.fieldLink RX0 16 "ModeDesk" "measures" "[I", Cond.methodLink RX0 175 yX0_pathIsLost, Cond.instanceMethod yX0_pathIsLost, Cond.selects RX0 yX0_pathIsLost yX0_pathIsLost, Cond.code yX0_pathIsLost cX0_pathIsLost 2 (some .boolean), Cond.methodLink RX0 178 yX0_navIsReached, Cond.instanceMethod yX0_navIsReached]
def wsX0_press_r6 : List Cond := [Cond.selects RX0 yX0_navIsReached yX0_navIsReached, Cond.code yX0_navIsReached cX0_navIsReached 1 (some .boolean), Cond.methodLink RX0 199 yX0_isCourseWithin, Cond.instanceMethod yX0_isCourseWithin, Cond.selects RX0 yX0_isCourseWithin yX0_isCourseWithin, Cond.code yX0_isCourseWithin cX0_isCourseWithin 2 (some .boolean), Cond.methodLink RX0 118 Lib.Math.abs.name, Cond.static Lib.Math.abs.name, Cond.initialized "java/lang/Math", Cond.code Lib.Math.abs.name Lib.Math.abs.code 1 (some .int), Cond.methodLink RX0 181 yX0_approachIsReached, Cond.instanceMethod yX0_approachIsReached, Cond.selects RX0 yX0_approachIsReached yX0_approachIsReached, Cond.code yX0_approachIsReached cX0_approachIsReached 1 (some .boolean), Cond.methodLink RX0 184 yX0_glideIsReached, Cond.instanceMethod yX0_glideIsReached, Cond.selects RX0 yX0_glideIsReached yX0_glideIsReached, Cond.code yX0_glideIsReached cX0_glideIsReached 1 (some .boolean), Cond.methodLink RX0 202 yX0_isPathWithin, Cond.instanceMethod yX0_isPathWithin, Cond.selects RX0 yX0_isPathWithin yX0_isPathWithin, Cond.code yX0_isPathWithin cX0_isPathWithin 2 (some .boolean), Cond.methodLink RX0 187 yX0_heightComesNear, Cond.instanceMethod yX0_heightComesNear]
def wsX0_press_r7 : List Cond := [Cond.selects RX0 yX0_heightComesNear yX0_heightComesNear, Cond.code yX0_heightComesNear cX0_heightComesNear 1 (some .boolean), Cond.methodLink RX0 99 yX0_isCaptureArmed, Cond.instanceMethod yX0_isCaptureArmed, Cond.selects RX0 yX0_isCaptureArmed yX0_isCaptureArmed, Cond.code yX0_isCaptureArmed cX0_isCaptureArmed 2 (some .boolean), Cond.methodLink RX0 205 yX0_isHeightWithin, Cond.instanceMethod yX0_isHeightWithin, Cond.selects RX0 yX0_isHeightWithin yX0_isHeightWithin, Cond.code yX0_isHeightWithin cX0_isHeightWithin 2 (some .boolean), Cond.methodLink RX0 190 yX0_heightIsReached, Cond.instanceMethod yX0_heightIsReached, Cond.selects RX0 yX0_heightIsReached yX0_heightIsReached, Cond.code yX0_heightIsReached cX0_heightIsReached 1 (some .boolean), Cond.methodLink RX0 193 yX0_heightIsLost, Cond.instanceMethod yX0_heightIsLost, Cond.selects RX0 yX0_heightIsLost yX0_heightIsLost, Cond.code yX0_heightIsLost cX0_heightIsLost 1 (some .boolean), Cond.methodLink RX0 196 yX0_climbIsTooFast, Cond.instanceMethod yX0_climbIsTooFast, Cond.selects RX0 yX0_climbIsTooFast yX0_climbIsTooFast, Cond.code yX0_climbIsTooFast cX0_climbIsTooFast 1 (some .boolean), Cond.methodLink RX0 74 yX0_isTooFast, Cond.instanceMethod yX0_isTooFast]
def wsX0_press_r8 : List Cond := [Cond.selects RX0 yX0_isTooFast yX0_isTooFast, Cond.code yX0_isTooFast cX0_isTooFast 1 (some .boolean)]
def wsX0_press : List Cond := .code yX0_press cX0_press 3 (some .int) :: ((wsX0_press_r1 ++ (wsX0_press_r2 ++ (wsX0_press_r3 ++ (wsX0_press_r4 ++ (wsX0_press_r5 ++ (wsX0_press_r6 ++ (wsX0_press_r7 ++ wsX0_press_r8))))))) ++ wsX00 ++ (vx_atS RX0 30 "java/lang/IllegalArgumentException" ["java/lang/RuntimeException", "java/lang/Exception"]).filter goodWord)
def wsX0_isMeasure : List Cond := .code yX0_isMeasure cX0_isMeasure 1 (some .boolean) :: ([])
def wsX0_sense_r1 : List Cond := [Cond.classLink RX0 26 "java/lang/IllegalArgumentException", Cond.initialized "java/lang/IllegalArgumentException", Cond.fieldLink RX0 53 "ModeDesk" "LOWEST" "[I", Cond.fieldLink RX0 56 "ModeDesk" "HIGHEST" "[I", Cond.fieldLink RX0 16 "ModeDesk" "measures" "[I", Cond.methodLink RX0 47 yX0_isMeasure, Cond.static yX0_isMeasure, Cond.initialized RX0, Cond.code yX0_isMeasure cX0_isMeasure 1 (some .boolean), Cond.methodLink RX0 44 yX0_settle, Cond.instanceMethod yX0_settle, Cond.selects RX0 yX0_settle yX0_settle, Cond.code yX0_settle cX0_settle 2 (some .int), Cond.methodLink RX0 166 yX0_comesAboutByItself, Cond.instanceMethod yX0_comesAboutByItself, Cond.selects RX0 yX0_comesAboutByItself yX0_comesAboutByItself, Cond.code yX0_comesAboutByItself cX0_comesAboutByItself 1 (some .boolean), Cond.methodLink RX0 169 yX0_leaderFails, Cond.instanceMethod yX0_leaderFails, Cond.selects RX0 yX0_leaderFails yX0_leaderFails, Cond.code yX0_leaderFails cX0_leaderFails 2 (some .boolean), Cond.fieldLink RX0 19 "ModeDesk" "soundness" "[Z", Cond.fieldLink RX0 111 "ModeDesk" "leader" "I", Cond.methodLink RX0 104 yX0_isOn]
def wsX0_sense_r2 : List Cond := [Cond.instanceMethod yX0_isOn, Cond.selects RX0 yX0_isOn yX0_isOn, Cond.code yX0_isOn cX0_isOn 1 (some .boolean), Cond.fieldLink RX0 7 "ModeDesk" "active" "[I", Cond.methodLink RX0 162 yX0_turnOff, Cond.instanceMethod yX0_turnOff, Cond.selects RX0 yX0_turnOff yX0_turnOff, Cond.code yX0_turnOff cX0_turnOff 2 none, Cond.methodLink RX0 124 yX0_change, Cond.instanceMethod yX0_change, Cond.selects RX0 yX0_change yX0_change, Cond.code yX0_change cX0_change 5 none, Cond.fieldLink RX0 13 "ModeDesk" "flashing" "[I", Cond.fieldLink RX0 115 "ModeDesk" "changeCount" "I", Cond.fieldLink RX0 23 "ModeDesk" "changes" "[I", Cond.methodLink RX0 107 yX0_bit, Cond.static yX0_bit, Cond.code yX0_bit cX0_bit 2 (some .int), Cond.methodLink RX0 128 yX0_disarmAll, Cond.instanceMethod yX0_disarmAll, Cond.selects RX0 yX0_disarmAll yX0_disarmAll, Cond.code yX0_disarmAll cX0_disarmAll 1 none, Cond.fieldLink RX0 90 "ModeDesk" "navArmed" "Z", Cond.fieldLink RX0 93 "ModeDesk" "approachArmed" "Z"]
def wsX0_sense_r3 : List Cond := [Cond.fieldLink RX0 96 "ModeDesk" "glideArmed" "Z", Cond.methodLink RX0 80 yX0_disengageWithWarning, Cond.instanceMethod yX0_disengageWithWarning, Cond.selects RX0 yX0_disengageWithWarning yX0_disengageWithWarning, Cond.code yX0_disengageWithWarning cX0_disengageWithWarning 1 none, Cond.fieldLink RX0 63 "ModeDesk" "engaged" "Z", Cond.fieldLink RX0 83 "ModeDesk" "warning" "Z", Cond.methodLink RX0 37 yX0_stopFlashing, Cond.instanceMethod yX0_stopFlashing, Cond.selects RX0 yX0_stopFlashing yX0_stopFlashing, Cond.code yX0_stopFlashing cX0_stopFlashing 1 none, Cond.methodLink RX0 172 yX0_courseIsLost, Cond.instanceMethod yX0_courseIsLost, Cond.selects RX0 yX0_courseIsLost yX0_courseIsLost, Cond.code yX0_courseIsLost cX0_courseIsLost 2 (some .boolean), Cond.methodLink RX0 158 yX0_leaveCourseFor, Cond.instanceMethod yX0_leaveCourseFor, Cond.selects RX0 yX0_leaveCourseFor yX0_leaveCourseFor, Cond.code yX0_leaveCourseFor cX0_leaveCourseFor 3 none, Cond.methodLink RX0 175 yX0_pathIsLost, Cond.instanceMethod yX0_pathIsLost, Cond.selects RX0 yX0_pathIsLost yX0_pathIsLost, Cond.code yX0_pathIsLost cX0_pathIsLost 2 (some .boolean), Cond.methodLink RX0 178 yX0_navIsReached]
def wsX0_sense_r4 : List Cond := [Cond.instanceMethod yX0_navIsReached, Cond.selects RX0 yX0_navIsReached yX0_navIsReached, Cond.code yX0_navIsReached cX0_navIsReached 1 (some .boolean), Cond.methodLink RX0 199 yX0_isCourseWithin, Cond.instanceMethod yX0_isCourseWithin, Cond.selects RX0 yX0_isCourseWithin yX0_isCourseWithin, Cond.code yX0_isCourseWithin cX0_isCourseWithin 2 (some .boolean), Cond.methodLink RX0 118 Lib.Math.abs.name, Cond.static Lib.Math.abs.name, Cond.initialized "java/lang/Math", Cond.code Lib.Math.abs.name Lib.Math.abs.code 1 (some .int), Cond.methodLink RX0 181 yX0_approachIsReached, Cond.instanceMethod yX0_approachIsReached, Cond.selects RX0 yX0_approachIsReached yX0_approachIsReached, Cond.code yX0_approachIsReached cX0_approachIsReached 1 (some .boolean), Cond.methodLink RX0 184 yX0_glideIsReached, Cond.instanceMethod yX0_glideIsReached, Cond.selects RX0 yX0_glideIsReached yX0_glideIsReached, Cond.code yX0_glideIsReached cX0_glideIsReached 1 (some .boolean), Cond.methodLink RX0 202 yX0_isPathWithin, Cond.instanceMethod yX0_isPathWithin, Cond.selects RX0 yX0_isPathWithin yX0_isPathWithin, Cond.code yX0_isPathWithin cX0_isPathWithin 2 (some .boolean), Cond.methodLink RX0 187 yX0_heightComesNear]
def wsX0_sense_r5 : List Cond := [Cond.instanceMethod yX0_heightComesNear, Cond.selects RX0 yX0_heightComesNear yX0_heightComesNear, Cond.code yX0_heightComesNear cX0_heightComesNear 1 (some .boolean), Cond.methodLink RX0 99 yX0_isCaptureArmed, Cond.instanceMethod yX0_isCaptureArmed, Cond.selects RX0 yX0_isCaptureArmed yX0_isCaptureArmed, Cond.code yX0_isCaptureArmed cX0_isCaptureArmed 2 (some .boolean), Cond.methodLink RX0 205 yX0_isHeightWithin, Cond.instanceMethod yX0_isHeightWithin, Cond.selects RX0 yX0_isHeightWithin yX0_isHeightWithin, Cond.code yX0_isHeightWithin cX0_isHeightWithin 2 (some .boolean), Cond.methodLink RX0 190 yX0_heightIsReached, Cond.instanceMethod yX0_heightIsReached, Cond.selects RX0 yX0_heightIsReached yX0_heightIsReached, Cond.code yX0_heightIsReached cX0_heightIsReached 1 (some .boolean), Cond.methodLink RX0 193 yX0_heightIsLost, Cond.instanceMethod yX0_heightIsLost, Cond.selects RX0 yX0_heightIsLost yX0_heightIsLost, Cond.code yX0_heightIsLost cX0_heightIsLost 1 (some .boolean), Cond.methodLink RX0 196 yX0_climbIsTooFast, Cond.instanceMethod yX0_climbIsTooFast, Cond.selects RX0 yX0_climbIsTooFast yX0_climbIsTooFast, Cond.code yX0_climbIsTooFast cX0_climbIsTooFast 1 (some .boolean), Cond.methodLink RX0 74 yX0_isTooFast]
def wsX0_sense_r6 : List Cond := [Cond.instanceMethod yX0_isTooFast, Cond.selects RX0 yX0_isTooFast yX0_isTooFast, Cond.code yX0_isTooFast cX0_isTooFast 1 (some .boolean)]
def wsX0_sense : List Cond := .code yX0_sense cX0_sense 3 (some .int) :: ((wsX0_sense_r1 ++ (wsX0_sense_r2 ++ (wsX0_sense_r3 ++ (wsX0_sense_r4 ++ (wsX0_sense_r5 ++ wsX0_sense_r6))))) ++ wsX00 ++ (vx_atS RX0 30 "java/lang/IllegalArgumentException" ["java/lang/RuntimeException", "java/lang/Exception"]).filter goodWord)
def wsX0_channel_r1 : List Cond := [Cond.classLink RX0 26 "java/lang/IllegalArgumentException", Cond.initialized "java/lang/IllegalArgumentException", Cond.fieldLink RX0 19 "ModeDesk" "soundness" "[Z", Cond.methodLink RX0 44 yX0_settle, Cond.instanceMethod yX0_settle, Cond.selects RX0 yX0_settle yX0_settle, Cond.initialized RX0, Cond.code yX0_settle cX0_settle 2 (some .int), Cond.methodLink RX0 166 yX0_comesAboutByItself, Cond.instanceMethod yX0_comesAboutByItself, Cond.selects RX0 yX0_comesAboutByItself yX0_comesAboutByItself, Cond.code yX0_comesAboutByItself cX0_comesAboutByItself 1 (some .boolean), Cond.methodLink RX0 169 yX0_leaderFails, Cond.instanceMethod yX0_leaderFails, Cond.selects RX0 yX0_leaderFails yX0_leaderFails, Cond.code yX0_leaderFails cX0_leaderFails 2 (some .boolean), Cond.fieldLink RX0 111 "ModeDesk" "leader" "I", Cond.methodLink RX0 104 yX0_isOn, Cond.instanceMethod yX0_isOn, Cond.selects RX0 yX0_isOn yX0_isOn, Cond.code yX0_isOn cX0_isOn 1 (some .boolean), Cond.fieldLink RX0 7 "ModeDesk" "active" "[I", Cond.methodLink RX0 162 yX0_turnOff, Cond.instanceMethod yX0_turnOff]
def wsX0_channel_r2 : List Cond := [Cond.selects RX0 yX0_turnOff yX0_turnOff, Cond.code yX0_turnOff cX0_turnOff 2 none, Cond.methodLink RX0 124 yX0_change, Cond.instanceMethod yX0_change, Cond.selects RX0 yX0_change yX0_change, Cond.code yX0_change cX0_change 5 none, Cond.fieldLink RX0 13 "ModeDesk" "flashing" "[I", Cond.fieldLink RX0 115 "ModeDesk" "changeCount" "I", Cond.fieldLink RX0 23 "ModeDesk" "changes" "[I", Cond.methodLink RX0 107 yX0_bit, Cond.static yX0_bit, Cond.code yX0_bit cX0_bit 2 (some .int), Cond.methodLink RX0 128 yX0_disarmAll, Cond.instanceMethod yX0_disarmAll, Cond.selects RX0 yX0_disarmAll yX0_disarmAll, Cond.code yX0_disarmAll cX0_disarmAll 1 none, Cond.fieldLink RX0 90 "ModeDesk" "navArmed" "Z", Cond.fieldLink RX0 93 "ModeDesk" "approachArmed" "Z", Cond.fieldLink RX0 96 "ModeDesk" "glideArmed" "Z", Cond.methodLink RX0 80 yX0_disengageWithWarning, Cond.instanceMethod yX0_disengageWithWarning, Cond.selects RX0 yX0_disengageWithWarning yX0_disengageWithWarning, Cond.code yX0_disengageWithWarning cX0_disengageWithWarning 1 none, Cond.fieldLink RX0 63 "ModeDesk" "engaged" "Z"]
def wsX0_channel_r3 : List Cond := [Cond.fieldLink RX0 83 "ModeDesk" "warning" "Z", Cond.methodLink RX0 37 yX0_stopFlashing, Cond.instanceMethod yX0_stopFlashing, Cond.selects RX0 yX0_stopFlashing yX0_stopFlashing, Cond.code yX0_stopFlashing cX0_stopFlashing 1 none, Cond.methodLink RX0 172 yX0_courseIsLost, Cond.instanceMethod yX0_courseIsLost, Cond.selects RX0 yX0_courseIsLost yX0_courseIsLost, Cond.code yX0_courseIsLost cX0_courseIsLost 2 (some .boolean), Cond.fieldLink RX0 16 "ModeDesk" "measures" "[I", Cond.methodLink RX0 158 yX0_leaveCourseFor, Cond.instanceMethod yX0_leaveCourseFor, Cond.selects RX0 yX0_leaveCourseFor yX0_leaveCourseFor, Cond.code yX0_leaveCourseFor cX0_leaveCourseFor 3 none, Cond.methodLink RX0 175 yX0_pathIsLost, Cond.instanceMethod yX0_pathIsLost, Cond.selects RX0 yX0_pathIsLost yX0_pathIsLost, Cond.code yX0_pathIsLost cX0_pathIsLost 2 (some .boolean), Cond.methodLink RX0 178 yX0_navIsReached, Cond.instanceMethod yX0_navIsReached, Cond.selects RX0 yX0_navIsReached yX0_navIsReached, Cond.code yX0_navIsReached cX0_navIsReached 1 (some .boolean), Cond.methodLink RX0 199 yX0_isCourseWithin, Cond.instanceMethod yX0_isCourseWithin]
def wsX0_channel_r4 : List Cond := [Cond.selects RX0 yX0_isCourseWithin yX0_isCourseWithin, Cond.code yX0_isCourseWithin cX0_isCourseWithin 2 (some .boolean), Cond.methodLink RX0 118 Lib.Math.abs.name, Cond.static Lib.Math.abs.name, Cond.initialized "java/lang/Math", Cond.code Lib.Math.abs.name Lib.Math.abs.code 1 (some .int), Cond.methodLink RX0 181 yX0_approachIsReached, Cond.instanceMethod yX0_approachIsReached, Cond.selects RX0 yX0_approachIsReached yX0_approachIsReached, Cond.code yX0_approachIsReached cX0_approachIsReached 1 (some .boolean), Cond.methodLink RX0 184 yX0_glideIsReached, Cond.instanceMethod yX0_glideIsReached, Cond.selects RX0 yX0_glideIsReached yX0_glideIsReached, Cond.code yX0_glideIsReached cX0_glideIsReached 1 (some .boolean), Cond.methodLink RX0 202 yX0_isPathWithin, Cond.instanceMethod yX0_isPathWithin, Cond.selects RX0 yX0_isPathWithin yX0_isPathWithin, Cond.code yX0_isPathWithin cX0_isPathWithin 2 (some .boolean), Cond.methodLink RX0 187 yX0_heightComesNear, Cond.instanceMethod yX0_heightComesNear, Cond.selects RX0 yX0_heightComesNear yX0_heightComesNear, Cond.code yX0_heightComesNear cX0_heightComesNear 1 (some .boolean), Cond.methodLink RX0 99 yX0_isCaptureArmed, Cond.instanceMethod yX0_isCaptureArmed]
def wsX0_channel_r5 : List Cond := [Cond.selects RX0 yX0_isCaptureArmed yX0_isCaptureArmed, Cond.code yX0_isCaptureArmed cX0_isCaptureArmed 2 (some .boolean), Cond.methodLink RX0 205 yX0_isHeightWithin, Cond.instanceMethod yX0_isHeightWithin, Cond.selects RX0 yX0_isHeightWithin yX0_isHeightWithin, Cond.code yX0_isHeightWithin cX0_isHeightWithin 2 (some .boolean), Cond.methodLink RX0 190 yX0_heightIsReached, Cond.instanceMethod yX0_heightIsReached, Cond.selects RX0 yX0_heightIsReached yX0_heightIsReached, Cond.code yX0_heightIsReached cX0_heightIsReached 1 (some .boolean), Cond.methodLink RX0 193 yX0_heightIsLost, Cond.instanceMethod yX0_heightIsLost, Cond.selects RX0 yX0_heightIsLost yX0_heightIsLost, Cond.code yX0_heightIsLost cX0_heightIsLost 1 (some .boolean), Cond.methodLink RX0 196 yX0_climbIsTooFast, Cond.instanceMethod yX0_climbIsTooFast, Cond.selects RX0 yX0_climbIsTooFast yX0_climbIsTooFast, Cond.code yX0_climbIsTooFast cX0_climbIsTooFast 1 (some .boolean), Cond.methodLink RX0 74 yX0_isTooFast, Cond.instanceMethod yX0_isTooFast, Cond.selects RX0 yX0_isTooFast yX0_isTooFast, Cond.code yX0_isTooFast cX0_isTooFast 1 (some .boolean)]
def wsX0_channel : List Cond := .code yX0_channel cX0_channel 3 (some .int) :: ((wsX0_channel_r1 ++ (wsX0_channel_r2 ++ (wsX0_channel_r3 ++ (wsX0_channel_r4 ++ wsX0_channel_r5)))) ++ wsX00 ++ (vx_atS RX0 30 "java/lang/IllegalArgumentException" ["java/lang/RuntimeException", "java/lang/Exception"]).filter goodWord)
def wsX0_isAroundAnywhere : List Cond := .code yX0_isAroundAnywhere cX0_isAroundAnywhere 1 (some .boolean) :: ([.fieldLink RX0 7 "ModeDesk" "active" "[I"] ++ wsX00)
def wsX0_engage_r1 : List Cond := [Cond.fieldLink RX0 63 "ModeDesk" "engaged" "Z", Cond.methodLink RX0 67 yX0_isAnyChannelSound, Cond.instanceMethod yX0_isAnyChannelSound, Cond.selects RX0 yX0_isAnyChannelSound yX0_isAnyChannelSound, Cond.initialized RX0, Cond.code yX0_isAnyChannelSound cX0_isAnyChannelSound 1 (some .boolean), Cond.fieldLink RX0 19 "ModeDesk" "soundness" "[Z", Cond.methodLink RX0 71 yX0_isAroundAnywhere, Cond.instanceMethod yX0_isAroundAnywhere, Cond.selects RX0 yX0_isAroundAnywhere yX0_isAroundAnywhere, Cond.code yX0_isAroundAnywhere cX0_isAroundAnywhere 1 (some .boolean), Cond.fieldLink RX0 7 "ModeDesk" "active" "[I", Cond.methodLink RX0 74 yX0_isTooFast, Cond.instanceMethod yX0_isTooFast, Cond.selects RX0 yX0_isTooFast yX0_isTooFast, Cond.code yX0_isTooFast cX0_isTooFast 1 (some .boolean), Cond.fieldLink RX0 16 "ModeDesk" "measures" "[I", Cond.methodLink RX0 77 yX0_turnOnIfOff, Cond.instanceMethod yX0_turnOnIfOff, Cond.selects RX0 yX0_turnOnIfOff yX0_turnOnIfOff, Cond.code yX0_turnOnIfOff cX0_turnOnIfOff 1 none, Cond.methodLink RX0 104 yX0_isOn, Cond.instanceMethod yX0_isOn, Cond.selects RX0 yX0_isOn yX0_isOn]
def wsX0_engage_r2 : List Cond := [Cond.code yX0_isOn cX0_isOn 1 (some .boolean), Cond.methodLink RX0 131 yX0_goToBase, Cond.instanceMethod yX0_goToBase, Cond.selects RX0 yX0_goToBase yX0_goToBase, Cond.code yX0_goToBase cX0_goToBase 1 none, Cond.methodLink RX0 124 yX0_change, Cond.instanceMethod yX0_change, Cond.selects RX0 yX0_change yX0_change, Cond.code yX0_change cX0_change 5 none, Cond.fieldLink RX0 13 "ModeDesk" "flashing" "[I", Cond.fieldLink RX0 115 "ModeDesk" "changeCount" "I", Cond.fieldLink RX0 23 "ModeDesk" "changes" "[I", Cond.methodLink RX0 107 yX0_bit, Cond.static yX0_bit, Cond.code yX0_bit cX0_bit 2 (some .int), Cond.methodLink RX0 128 yX0_disarmAll, Cond.instanceMethod yX0_disarmAll, Cond.selects RX0 yX0_disarmAll yX0_disarmAll, Cond.code yX0_disarmAll cX0_disarmAll 1 none, Cond.fieldLink RX0 90 "ModeDesk" "navArmed" "Z", Cond.fieldLink RX0 93 "ModeDesk" "approachArmed" "Z", Cond.fieldLink RX0 96 "ModeDesk" "glideArmed" "Z", Cond.methodLink RX0 44 yX0_settle, Cond.instanceMethod yX0_settle]
def wsX0_engage_r3 : List Cond := [Cond.selects RX0 yX0_settle yX0_settle, Cond.code yX0_settle cX0_settle 2 (some .int), Cond.methodLink RX0 166 yX0_comesAboutByItself, Cond.instanceMethod yX0_comesAboutByItself, Cond.selects RX0 yX0_comesAboutByItself yX0_comesAboutByItself, Cond.code yX0_comesAboutByItself cX0_comesAboutByItself 1 (some .boolean), Cond.methodLink RX0 169 yX0_leaderFails, Cond.instanceMethod yX0_leaderFails, Cond.selects RX0 yX0_leaderFails yX0_leaderFails, Cond.code yX0_leaderFails cX0_leaderFails 2 (some .boolean), Cond.fieldLink RX0 111 "ModeDesk" "leader" "I", Cond.methodLink RX0 162 yX0_turnOff, Cond.instanceMethod yX0_turnOff, Cond.selects RX0 yX0_turnOff yX0_turnOff, Cond.code yX0_turnOff cX0_turnOff 2 none, Cond.methodLink RX0 80 yX0_disengageWithWarning, Cond.instanceMethod yX0_disengageWithWarning, Cond.selects RX0 yX0_disengageWithWarning yX0_disengageWithWarning, Cond.code yX0_disengageWithWarning cX0_disengageWithWarning 1 none, Cond.fieldLink RX0 83 "ModeDesk" "warning" "Z", Cond.methodLink RX0 37 yX0_stopFlashing, Cond.instanceMethod yX0_stopFlashing, Cond.selects RX0 yX0_stopFlashing yX0_stopFlashing, Cond.code yX0_stopFlashing cX0_stopFlashing 1 none]
def wsX0_engage_r4 : List Cond := [Cond.methodLink RX0 172 yX0_courseIsLost, Cond.instanceMethod yX0_courseIsLost, Cond.selects RX0 yX0_courseIsLost yX0_courseIsLost, Cond.code yX0_courseIsLost cX0_courseIsLost 2 (some .boolean), Cond.methodLink RX0 158 yX0_leaveCourseFor, Cond.instanceMethod yX0_leaveCourseFor, Cond.selects RX0 yX0_leaveCourseFor yX0_leaveCourseFor, Cond.code yX0_leaveCourseFor cX0_leaveCourseFor 3 none, Cond.methodLink RX0 175 yX0_pathIsLost, Cond.instanceMethod yX0_pathIsLost, Cond.selects RX0 yX0_pathIsLost yX0_pathIsLost, Cond.code yX0_pathIsLost cX0_pathIsLost 2 (some .boolean), Cond.methodLink RX0 178 yX0_navIsReached, Cond.instanceMethod yX0_navIsReached, Cond.selects RX0 yX0_navIsReached yX0_navIsReached, Cond.code yX0_navIsReached cX0_navIsReached 1 (some .boolean), Cond.methodLink RX0 199 yX0_isCourseWithin, Cond.instanceMethod yX0_isCourseWithin, Cond.selects RX0 yX0_isCourseWithin yX0_isCourseWithin, Cond.code yX0_isCourseWithin cX0_isCourseWithin 2 (some .boolean), Cond.methodLink RX0 118 Lib.Math.abs.name, Cond.static Lib.Math.abs.name, Cond.initialized "java/lang/Math", Cond.code Lib.Math.abs.name Lib.Math.abs.code 1 (some .int)]
def wsX0_engage_r5 : List Cond := [Cond.methodLink RX0 181 yX0_approachIsReached, Cond.instanceMethod yX0_approachIsReached, Cond.selects RX0 yX0_approachIsReached yX0_approachIsReached, Cond.code yX0_approachIsReached cX0_approachIsReached 1 (some .boolean), Cond.methodLink RX0 184 yX0_glideIsReached, Cond.instanceMethod yX0_glideIsReached, Cond.selects RX0 yX0_glideIsReached yX0_glideIsReached, Cond.code yX0_glideIsReached cX0_glideIsReached 1 (some .boolean), Cond.methodLink RX0 202 yX0_isPathWithin, Cond.instanceMethod yX0_isPathWithin, Cond.selects RX0 yX0_isPathWithin yX0_isPathWithin, Cond.code yX0_isPathWithin cX0_isPathWithin 2 (some .boolean), Cond.methodLink RX0 187 yX0_heightComesNear, Cond.instanceMethod yX0_heightComesNear, Cond.selects RX0 yX0_heightComesNear yX0_heightComesNear, Cond.code yX0_heightComesNear cX0_heightComesNear 1 (some .boolean), Cond.methodLink RX0 99 yX0_isCaptureArmed, Cond.instanceMethod yX0_isCaptureArmed, Cond.selects RX0 yX0_isCaptureArmed yX0_isCaptureArmed, Cond.code yX0_isCaptureArmed cX0_isCaptureArmed 2 (some .boolean), Cond.methodLink RX0 205 yX0_isHeightWithin, Cond.instanceMethod yX0_isHeightWithin, Cond.selects RX0 yX0_isHeightWithin yX0_isHeightWithin, Cond.code yX0_isHeightWithin cX0_isHeightWithin 2 (some .boolean)]
def wsX0_engage_r6 : List Cond := [Cond.methodLink RX0 190 yX0_heightIsReached, Cond.instanceMethod yX0_heightIsReached, Cond.selects RX0 yX0_heightIsReached yX0_heightIsReached, Cond.code yX0_heightIsReached cX0_heightIsReached 1 (some .boolean), Cond.methodLink RX0 193 yX0_heightIsLost, Cond.instanceMethod yX0_heightIsLost, Cond.selects RX0 yX0_heightIsLost yX0_heightIsLost, Cond.code yX0_heightIsLost cX0_heightIsLost 1 (some .boolean), Cond.methodLink RX0 196 yX0_climbIsTooFast, Cond.instanceMethod yX0_climbIsTooFast, Cond.selects RX0 yX0_climbIsTooFast yX0_climbIsTooFast, Cond.code yX0_climbIsTooFast cX0_climbIsTooFast 1 (some .boolean)]
def wsX0_engage : List Cond := .code yX0_engage cX0_engage 1 (some .int) :: ((wsX0_engage_r1 ++ (wsX0_engage_r2 ++ (wsX0_engage_r3 ++ (wsX0_engage_r4 ++ (wsX0_engage_r5 ++ wsX0_engage_r6))))) ++ wsX00)
def wsX0_disconnect : List Cond := .code yX0_disconnect cX0_disconnect 1 (some .int) :: ([.fieldLink RX0 63 "ModeDesk" "engaged" "Z", .fieldLink RX0 83 "ModeDesk" "warning" "Z", .methodLink RX0 80 yX0_disengageWithWarning, .instanceMethod yX0_disengageWithWarning, .selects RX0 yX0_disengageWithWarning yX0_disengageWithWarning, .initialized RX0, .code yX0_disengageWithWarning cX0_disengageWithWarning 1 none] ++ wsX00)
def wsX0_step : List Cond := .code yX0_step cX0_step 4 (some .int) :: ([.classLink RX0 26 "java/lang/IllegalArgumentException", .initialized "java/lang/IllegalArgumentException", .fieldLink RX0 13 "ModeDesk" "flashing" "[I"] ++ wsX00 ++ (vx_atS RX0 30 "java/lang/IllegalArgumentException" ["java/lang/RuntimeException", "java/lang/Exception"]).filter goodWord)
def wsX0_mode : List Cond := .code yX0_mode cX0_mode 2 (some .int) :: ([.classLink RX0 26 "java/lang/IllegalArgumentException", .initialized "java/lang/IllegalArgumentException", .fieldLink RX0 7 "ModeDesk" "active" "[I"] ++ wsX00 ++ (vx_atS RX0 30 "java/lang/IllegalArgumentException" ["java/lang/RuntimeException", "java/lang/Exception"]).filter goodWord)
def wsX0_armed : List Cond := .code yX0_armed cX0_armed 2 (some .boolean) :: ([.classLink RX0 26 "java/lang/IllegalArgumentException", .initialized "java/lang/IllegalArgumentException", .fieldLink RX0 90 "ModeDesk" "navArmed" "Z", .fieldLink RX0 93 "ModeDesk" "approachArmed" "Z", .fieldLink RX0 96 "ModeDesk" "glideArmed" "Z", .methodLink RX0 99 yX0_isCaptureArmed, .instanceMethod yX0_isCaptureArmed, .selects RX0 yX0_isCaptureArmed yX0_isCaptureArmed, .initialized RX0, .code yX0_isCaptureArmed cX0_isCaptureArmed 2 (some .boolean), .fieldLink RX0 7 "ModeDesk" "active" "[I"] ++ wsX00 ++ (vx_atS RX0 30 "java/lang/IllegalArgumentException" ["java/lang/RuntimeException", "java/lang/Exception"]).filter goodWord)
def wsX0_shown : List Cond := .code yX0_shown cX0_shown 1 (some .int) :: ([.fieldLink RX0 63 "ModeDesk" "engaged" "Z", .fieldLink RX0 83 "ModeDesk" "warning" "Z", .fieldLink RX0 13 "ModeDesk" "flashing" "[I", .fieldLink RX0 111 "ModeDesk" "leader" "I", .methodLink RX0 104 yX0_isOn, .instanceMethod yX0_isOn, .selects RX0 yX0_isOn yX0_isOn, .initialized RX0, .code yX0_isOn cX0_isOn 1 (some .boolean), .fieldLink RX0 7 "ModeDesk" "active" "[I", .methodLink RX0 107 yX0_bit, .static yX0_bit, .code yX0_bit cX0_bit 2 (some .int)] ++ wsX00)
def wsX0_kept : List Cond := .code yX0_kept cX0_kept 4 (some .int) :: ([.fieldLink RX0 115 "ModeDesk" "changeCount" "I", .fieldLink RX0 23 "ModeDesk" "changes" "[I"] ++ wsX00)
def wsX0_measure : List Cond := .code yX0_measure cX0_measure 2 (some .int) :: ([.classLink RX0 26 "java/lang/IllegalArgumentException", .initialized "java/lang/IllegalArgumentException", .fieldLink RX0 16 "ModeDesk" "measures" "[I", .methodLink RX0 47 yX0_isMeasure, .static yX0_isMeasure, .initialized RX0, .code yX0_isMeasure cX0_isMeasure 1 (some .boolean)] ++ wsX00 ++ (vx_atS RX0 30 "java/lang/IllegalArgumentException" ["java/lang/RuntimeException", "java/lang/Exception"]).filter goodWord)
def wsX1_init : List Cond := .code yX1_init cX1_init 1 none :: ([.methodLink RX1 1 objectInit, .instanceMethod objectInit, .code objectInit ⟨#[0xb1]⟩ 1 none, .arrayClass .int, .fieldLink RX1 7 "ModeDeskModel" "values" "[I", .fieldLink RX1 13 "ModeDeskModel" "rows" "[I", .fieldLink RX1 16 "ModeDeskModel" "leader" "I"] ++ wsX10)
def wsX1_thrown : List Cond := .code yX1_thrown cX1_thrown 1 (some .int) :: ([.fieldLink RX1 20 "ModeDeskModel" "thrown" "I"] ++ wsX10)
def wsX1_good : List Cond := .code yX1_good cX1_good 2 (some .boolean) :: ([.fieldLink RX1 20 "ModeDeskModel" "thrown" "I"] ++ wsX10)
def wsX1_keep : List Cond := .code yX1_keep cX1_keep 5 none :: ([.fieldLink RX1 23 "ModeDeskModel" "kept" "I", .fieldLink RX1 13 "ModeDeskModel" "rows" "[I"] ++ wsX10)
def wsX1_lateralTo : List Cond := .code yX1_lateralTo cX1_lateralTo 3 none :: ([.fieldLink RX1 26 "ModeDeskModel" "lateral" "I", .fieldLink RX1 33 "ModeDeskModel" "flash0" "I", .methodLink RX1 29 yX1_keep, .instanceMethod yX1_keep, .selects RX1 yX1_keep yX1_keep, .initialized RX1, .code yX1_keep cX1_keep 5 none, .fieldLink RX1 23 "ModeDeskModel" "kept" "I", .fieldLink RX1 13 "ModeDeskModel" "rows" "[I"] ++ wsX10)
def wsX1_verticalTo : List Cond := .code yX1_verticalTo cX1_verticalTo 3 none :: ([.fieldLink RX1 36 "ModeDeskModel" "vertical" "I", .fieldLink RX1 39 "ModeDeskModel" "flash1" "I", .methodLink RX1 29 yX1_keep, .instanceMethod yX1_keep, .selects RX1 yX1_keep yX1_keep, .initialized RX1, .code yX1_keep cX1_keep 5 none, .fieldLink RX1 23 "ModeDeskModel" "kept" "I", .fieldLink RX1 13 "ModeDeskModel" "rows" "[I"] ++ wsX10)
def wsX1_noneArmed : List Cond := .code yX1_noneArmed cX1_noneArmed 1 none :: ([.fieldLink RX1 42 "ModeDeskModel" "armedLateral" "I", .fieldLink RX1 45 "ModeDeskModel" "armedGlide" "Z"] ++ wsX10)
def wsX1_base_r1 : List Cond := [Cond.methodLink RX1 49 yX1_noneArmed, Cond.instanceMethod yX1_noneArmed, Cond.selects RX1 yX1_noneArmed yX1_noneArmed, Cond.initialized RX1, Cond.code yX1_noneArmed cX1_noneArmed 1 none, Cond.fieldLink RX1 42 "ModeDeskModel" "armedLateral" "I", Cond.fieldLink RX1 45 "ModeDeskModel" "armedGlide" "Z", Cond.methodLink RX1 52 yX1_lateralTo, Cond.instanceMethod yX1_lateralTo, Cond.selects RX1 yX1_lateralTo yX1_lateralTo, Cond.code yX1_lateralTo cX1_lateralTo 3 none, Cond.fieldLink RX1 26 "ModeDeskModel" "lateral" "I", Cond.fieldLink RX1 33 "ModeDeskModel" "flash0" "I", Cond.methodLink RX1 29 yX1_keep, Cond.instanceMethod yX1_keep, Cond.selects RX1 yX1_keep yX1_keep, Cond.code yX1_keep cX1_keep 5 none, Cond.fieldLink RX1 23 "ModeDeskModel" "kept" "I", Cond.fieldLink RX1 13 "ModeDeskModel" "rows" "[I", Cond.methodLink RX1 56 yX1_verticalTo, Cond.instanceMethod yX1_verticalTo, Cond.selects RX1 yX1_verticalTo yX1_verticalTo, Cond.code yX1_verticalTo cX1_verticalTo 3 none, Cond.fieldLink RX1 36 "ModeDeskModel" "vertical" "I"]
def wsX1_base_r2 : List Cond := [Cond.fieldLink RX1 39 "ModeDeskModel" "flash1" "I"]
def wsX1_base : List Cond := .code yX1_base cX1_base 2 none :: ((wsX1_base_r1 ++ wsX1_base_r2) ++ wsX10)
def wsX1_goOff_r1 : List Cond := [Cond.fieldLink RX1 59 "ModeDeskModel" "warning" "Z", Cond.fieldLink RX1 62 "ModeDeskModel" "engaged" "Z", Cond.fieldLink RX1 33 "ModeDeskModel" "flash0" "I", Cond.fieldLink RX1 39 "ModeDeskModel" "flash1" "I", Cond.methodLink RX1 49 yX1_noneArmed, Cond.instanceMethod yX1_noneArmed, Cond.selects RX1 yX1_noneArmed yX1_noneArmed, Cond.initialized RX1, Cond.code yX1_noneArmed cX1_noneArmed 1 none, Cond.fieldLink RX1 42 "ModeDeskModel" "armedLateral" "I", Cond.fieldLink RX1 45 "ModeDeskModel" "armedGlide" "Z", Cond.methodLink RX1 52 yX1_lateralTo, Cond.instanceMethod yX1_lateralTo, Cond.selects RX1 yX1_lateralTo yX1_lateralTo, Cond.code yX1_lateralTo cX1_lateralTo 3 none, Cond.fieldLink RX1 26 "ModeDeskModel" "lateral" "I", Cond.methodLink RX1 29 yX1_keep, Cond.instanceMethod yX1_keep, Cond.selects RX1 yX1_keep yX1_keep, Cond.code yX1_keep cX1_keep 5 none, Cond.fieldLink RX1 23 "ModeDeskModel" "kept" "I", Cond.fieldLink RX1 13 "ModeDeskModel" "rows" "[I", Cond.methodLink RX1 56 yX1_verticalTo, Cond.instanceMethod yX1_verticalTo]
def wsX1_goOff_r2 : List Cond := [Cond.selects RX1 yX1_verticalTo yX1_verticalTo, Cond.code yX1_verticalTo cX1_verticalTo 3 none, Cond.fieldLink RX1 36 "ModeDeskModel" "vertical" "I"]
def wsX1_goOff : List Cond := .code yX1_goOff cX1_goOff 2 none :: ((wsX1_goOff_r1 ++ wsX1_goOff_r2) ++ wsX10)
def wsX1_isBad : List Cond := .code yX1_isBad cX1_isBad 2 (some .boolean) :: ([.fieldLink RX1 65 "ModeDeskModel" "bad0" "Z", .fieldLink RX1 68 "ModeDeskModel" "bad1" "Z"] ++ wsX10)
def wsX1_size : List Cond := .code yX1_size cX1_size 1 (some .int) :: ([])
def wsX1_apart : List Cond := .code yX1_apart cX1_apart 1 (some .int) :: ([.fieldLink RX1 7 "ModeDeskModel" "values" "[I", .methodLink RX1 71 yX1_size, .static yX1_size, .initialized RX1, .code yX1_size cX1_size 1 (some .int)] ++ wsX10)
def wsX1_rule : List Cond := .code yX1_rule cX1_rule 3 (some .int) :: ([.fieldLink RX1 7 "ModeDeskModel" "values" "[I", .fieldLink RX1 26 "ModeDeskModel" "lateral" "I", .fieldLink RX1 16 "ModeDeskModel" "leader" "I", .fieldLink RX1 36 "ModeDeskModel" "vertical" "I", .fieldLink RX1 42 "ModeDeskModel" "armedLateral" "I", .fieldLink RX1 45 "ModeDeskModel" "armedGlide" "Z", .methodLink RX1 75 yX1_isBad, .instanceMethod yX1_isBad, .selects RX1 yX1_isBad yX1_isBad, .initialized RX1, .code yX1_isBad cX1_isBad 2 (some .boolean), .fieldLink RX1 65 "ModeDeskModel" "bad0" "Z", .fieldLink RX1 68 "ModeDeskModel" "bad1" "Z", .methodLink RX1 71 yX1_size, .static yX1_size, .code yX1_size cX1_size 1 (some .int), .methodLink RX1 79 yX1_apart, .instanceMethod yX1_apart, .selects RX1 yX1_apart yX1_apart, .code yX1_apart cX1_apart 1 (some .int)] ++ wsX10)
def wsX1_comes_r1 : List Cond := [Cond.fieldLink RX1 16 "ModeDeskModel" "leader" "I", Cond.fieldLink RX1 36 "ModeDeskModel" "vertical" "I", Cond.fieldLink RX1 45 "ModeDeskModel" "armedGlide" "Z", Cond.fieldLink RX1 42 "ModeDeskModel" "armedLateral" "I", Cond.methodLink RX1 75 yX1_isBad, Cond.instanceMethod yX1_isBad, Cond.selects RX1 yX1_isBad yX1_isBad, Cond.initialized RX1, Cond.code yX1_isBad cX1_isBad 2 (some .boolean), Cond.fieldLink RX1 65 "ModeDeskModel" "bad0" "Z", Cond.fieldLink RX1 68 "ModeDeskModel" "bad1" "Z", Cond.methodLink RX1 83 yX1_goOff, Cond.instanceMethod yX1_goOff, Cond.selects RX1 yX1_goOff yX1_goOff, Cond.code yX1_goOff cX1_goOff 2 none, Cond.fieldLink RX1 59 "ModeDeskModel" "warning" "Z", Cond.fieldLink RX1 62 "ModeDeskModel" "engaged" "Z", Cond.fieldLink RX1 33 "ModeDeskModel" "flash0" "I", Cond.fieldLink RX1 39 "ModeDeskModel" "flash1" "I", Cond.methodLink RX1 49 yX1_noneArmed, Cond.instanceMethod yX1_noneArmed, Cond.selects RX1 yX1_noneArmed yX1_noneArmed, Cond.code yX1_noneArmed cX1_noneArmed 1 none, Cond.methodLink RX1 52 yX1_lateralTo]
def wsX1_comes_r2 : List Cond := [Cond.instanceMethod yX1_lateralTo, Cond.selects RX1 yX1_lateralTo yX1_lateralTo, Cond.code yX1_lateralTo cX1_lateralTo 3 none, Cond.fieldLink RX1 26 "ModeDeskModel" "lateral" "I", Cond.methodLink RX1 29 yX1_keep, Cond.instanceMethod yX1_keep, Cond.selects RX1 yX1_keep yX1_keep, Cond.code yX1_keep cX1_keep 5 none, Cond.fieldLink RX1 23 "ModeDeskModel" "kept" "I", Cond.fieldLink RX1 13 "ModeDeskModel" "rows" "[I", Cond.methodLink RX1 56 yX1_verticalTo, Cond.instanceMethod yX1_verticalTo, Cond.selects RX1 yX1_verticalTo yX1_verticalTo, Cond.code yX1_verticalTo cX1_verticalTo 3 none]
def wsX1_comes : List Cond := .code yX1_comes cX1_comes 2 none :: ((wsX1_comes_r1 ++ wsX1_comes_r2) ++ wsX10)
def wsX1_settle_r1 : List Cond := [Cond.methodLink RX1 87 yX1_rule, Cond.instanceMethod yX1_rule, Cond.selects RX1 yX1_rule yX1_rule, Cond.initialized RX1, Cond.code yX1_rule cX1_rule 3 (some .int), Cond.fieldLink RX1 7 "ModeDeskModel" "values" "[I", Cond.fieldLink RX1 26 "ModeDeskModel" "lateral" "I", Cond.fieldLink RX1 16 "ModeDeskModel" "leader" "I", Cond.fieldLink RX1 36 "ModeDeskModel" "vertical" "I", Cond.fieldLink RX1 42 "ModeDeskModel" "armedLateral" "I", Cond.fieldLink RX1 45 "ModeDeskModel" "armedGlide" "Z", Cond.methodLink RX1 75 yX1_isBad, Cond.instanceMethod yX1_isBad, Cond.selects RX1 yX1_isBad yX1_isBad, Cond.code yX1_isBad cX1_isBad 2 (some .boolean), Cond.fieldLink RX1 65 "ModeDeskModel" "bad0" "Z", Cond.fieldLink RX1 68 "ModeDeskModel" "bad1" "Z", Cond.methodLink RX1 71 yX1_size, Cond.static yX1_size, Cond.code yX1_size cX1_size 1 (some .int), Cond.methodLink RX1 79 yX1_apart, Cond.instanceMethod yX1_apart, Cond.selects RX1 yX1_apart yX1_apart, Cond.code yX1_apart cX1_apart 1 (some .int)]
def wsX1_settle_r2 : List Cond := [Cond.methodLink RX1 90 yX1_comes, Cond.instanceMethod yX1_comes, Cond.selects RX1 yX1_comes yX1_comes, Cond.code yX1_comes cX1_comes 2 none, Cond.methodLink RX1 83 yX1_goOff, Cond.instanceMethod yX1_goOff, Cond.selects RX1 yX1_goOff yX1_goOff, Cond.code yX1_goOff cX1_goOff 2 none, Cond.fieldLink RX1 59 "ModeDeskModel" "warning" "Z", Cond.fieldLink RX1 62 "ModeDeskModel" "engaged" "Z", Cond.fieldLink RX1 33 "ModeDeskModel" "flash0" "I", Cond.fieldLink RX1 39 "ModeDeskModel" "flash1" "I", Cond.methodLink RX1 49 yX1_noneArmed, Cond.instanceMethod yX1_noneArmed, Cond.selects RX1 yX1_noneArmed yX1_noneArmed, Cond.code yX1_noneArmed cX1_noneArmed 1 none, Cond.methodLink RX1 52 yX1_lateralTo, Cond.instanceMethod yX1_lateralTo, Cond.selects RX1 yX1_lateralTo yX1_lateralTo, Cond.code yX1_lateralTo cX1_lateralTo 3 none, Cond.methodLink RX1 29 yX1_keep, Cond.instanceMethod yX1_keep, Cond.selects RX1 yX1_keep yX1_keep, Cond.code yX1_keep cX1_keep 5 none]
def wsX1_settle_r3 : List Cond := [Cond.fieldLink RX1 23 "ModeDeskModel" "kept" "I", Cond.fieldLink RX1 13 "ModeDeskModel" "rows" "[I", Cond.methodLink RX1 56 yX1_verticalTo, Cond.instanceMethod yX1_verticalTo, Cond.selects RX1 yX1_verticalTo yX1_verticalTo, Cond.code yX1_verticalTo cX1_verticalTo 3 none]
def wsX1_settle : List Cond := .code yX1_settle cX1_settle 3 (some .int) :: ((wsX1_settle_r1 ++ (wsX1_settle_r2 ++ wsX1_settle_r3)) ++ wsX10)
def wsX1_outOfApproach : List Cond := .code yX1_outOfApproach cX1_outOfApproach 3 none :: ([.fieldLink RX1 26 "ModeDeskModel" "lateral" "I", .fieldLink RX1 36 "ModeDeskModel" "vertical" "I", .fieldLink RX1 45 "ModeDeskModel" "armedGlide" "Z", .fieldLink RX1 42 "ModeDeskModel" "armedLateral" "I", .methodLink RX1 52 yX1_lateralTo, .instanceMethod yX1_lateralTo, .selects RX1 yX1_lateralTo yX1_lateralTo, .initialized RX1, .code yX1_lateralTo cX1_lateralTo 3 none, .fieldLink RX1 33 "ModeDeskModel" "flash0" "I", .methodLink RX1 29 yX1_keep, .instanceMethod yX1_keep, .selects RX1 yX1_keep yX1_keep, .code yX1_keep cX1_keep 5 none, .fieldLink RX1 23 "ModeDeskModel" "kept" "I", .fieldLink RX1 13 "ModeDeskModel" "rows" "[I", .methodLink RX1 56 yX1_verticalTo, .instanceMethod yX1_verticalTo, .selects RX1 yX1_verticalTo yX1_verticalTo, .code yX1_verticalTo cX1_verticalTo 3 none, .fieldLink RX1 39 "ModeDeskModel" "flash1" "I"] ++ wsX10)
def wsX1_navButton : List Cond := .code yX1_navButton cX1_navButton 1 none :: ([.fieldLink RX1 26 "ModeDeskModel" "lateral" "I", .fieldLink RX1 42 "ModeDeskModel" "armedLateral" "I", .fieldLink RX1 45 "ModeDeskModel" "armedGlide" "Z", .methodLink RX1 52 yX1_lateralTo, .instanceMethod yX1_lateralTo, .selects RX1 yX1_lateralTo yX1_lateralTo, .initialized RX1, .code yX1_lateralTo cX1_lateralTo 3 none, .fieldLink RX1 33 "ModeDeskModel" "flash0" "I", .methodLink RX1 29 yX1_keep, .instanceMethod yX1_keep, .selects RX1 yX1_keep yX1_keep, .code yX1_keep cX1_keep 5 none, .fieldLink RX1 23 "ModeDeskModel" "kept" "I", .fieldLink RX1 13 "ModeDeskModel" "rows" "[I"] ++ wsX10)
def wsX1_approachButton_r1 : List Cond := [Cond.fieldLink RX1 26 "ModeDeskModel" "lateral" "I", Cond.fieldLink RX1 45 "ModeDeskModel" "armedGlide" "Z", Cond.fieldLink RX1 42 "ModeDeskModel" "armedLateral" "I", Cond.methodLink RX1 93 yX1_outOfApproach, Cond.instanceMethod yX1_outOfApproach, Cond.selects RX1 yX1_outOfApproach yX1_outOfApproach, Cond.initialized RX1, Cond.code yX1_outOfApproach cX1_outOfApproach 3 none, Cond.fieldLink RX1 36 "ModeDeskModel" "vertical" "I", Cond.methodLink RX1 52 yX1_lateralTo, Cond.instanceMethod yX1_lateralTo, Cond.selects RX1 yX1_lateralTo yX1_lateralTo, Cond.code yX1_lateralTo cX1_lateralTo 3 none, Cond.fieldLink RX1 33 "ModeDeskModel" "flash0" "I", Cond.methodLink RX1 29 yX1_keep, Cond.instanceMethod yX1_keep, Cond.selects RX1 yX1_keep yX1_keep, Cond.code yX1_keep cX1_keep 5 none, Cond.fieldLink RX1 23 "ModeDeskModel" "kept" "I", Cond.fieldLink RX1 13 "ModeDeskModel" "rows" "[I", Cond.methodLink RX1 56 yX1_verticalTo, Cond.instanceMethod yX1_verticalTo, Cond.selects RX1 yX1_verticalTo yX1_verticalTo, Cond.code yX1_verticalTo cX1_verticalTo 3 none]
def wsX1_approachButton_r2 : List Cond := [Cond.fieldLink RX1 39 "ModeDeskModel" "flash1" "I", Cond.methodLink RX1 49 yX1_noneArmed, Cond.instanceMethod yX1_noneArmed, Cond.selects RX1 yX1_noneArmed yX1_noneArmed, Cond.code yX1_noneArmed cX1_noneArmed 1 none]
def wsX1_approachButton : List Cond := .code yX1_approachButton cX1_approachButton 1 none :: ((wsX1_approachButton_r1 ++ wsX1_approachButton_r2) ++ wsX10)
def wsX1_button_r1 : List Cond := [Cond.fieldLink RX1 26 "ModeDeskModel" "lateral" "I", Cond.fieldLink RX1 36 "ModeDeskModel" "vertical" "I", Cond.fieldLink RX1 59 "ModeDeskModel" "warning" "Z", Cond.fieldLink RX1 62 "ModeDeskModel" "engaged" "Z", Cond.fieldLink RX1 16 "ModeDeskModel" "leader" "I", Cond.fieldLink RX1 65 "ModeDeskModel" "bad0" "Z", Cond.fieldLink RX1 68 "ModeDeskModel" "bad1" "Z", Cond.methodLink RX1 93 yX1_outOfApproach, Cond.instanceMethod yX1_outOfApproach, Cond.selects RX1 yX1_outOfApproach yX1_outOfApproach, Cond.initialized RX1, Cond.code yX1_outOfApproach cX1_outOfApproach 3 none, Cond.fieldLink RX1 45 "ModeDeskModel" "armedGlide" "Z", Cond.fieldLink RX1 42 "ModeDeskModel" "armedLateral" "I", Cond.methodLink RX1 52 yX1_lateralTo, Cond.instanceMethod yX1_lateralTo, Cond.selects RX1 yX1_lateralTo yX1_lateralTo, Cond.code yX1_lateralTo cX1_lateralTo 3 none, Cond.fieldLink RX1 33 "ModeDeskModel" "flash0" "I", Cond.methodLink RX1 29 yX1_keep, Cond.instanceMethod yX1_keep, Cond.selects RX1 yX1_keep yX1_keep, Cond.code yX1_keep cX1_keep 5 none, Cond.fieldLink RX1 23 "ModeDeskModel" "kept" "I"]
def wsX1_button_r2 : List Cond := [Cond.fieldLink RX1 13 "ModeDeskModel" "rows" "[I", Cond.methodLink RX1 56 yX1_verticalTo, Cond.instanceMethod yX1_verticalTo, Cond.selects RX1 yX1_verticalTo yX1_verticalTo, Cond.code yX1_verticalTo cX1_verticalTo 3 none, Cond.fieldLink RX1 39 "ModeDeskModel" "flash1" "I", Cond.methodLink RX1 96 yX1_navButton, Cond.instanceMethod yX1_navButton, Cond.selects RX1 yX1_navButton yX1_navButton, Cond.code yX1_navButton cX1_navButton 1 none, Cond.methodLink RX1 99 yX1_approachButton, Cond.instanceMethod yX1_approachButton, Cond.selects RX1 yX1_approachButton yX1_approachButton, Cond.code yX1_approachButton cX1_approachButton 1 none, Cond.methodLink RX1 49 yX1_noneArmed, Cond.instanceMethod yX1_noneArmed, Cond.selects RX1 yX1_noneArmed yX1_noneArmed, Cond.code yX1_noneArmed cX1_noneArmed 1 none, Cond.methodLink RX1 75 yX1_isBad, Cond.instanceMethod yX1_isBad, Cond.selects RX1 yX1_isBad yX1_isBad, Cond.code yX1_isBad cX1_isBad 2 (some .boolean), Cond.methodLink RX1 102 yX1_base, Cond.instanceMethod yX1_base]
def wsX1_button_r3 : List Cond := [Cond.selects RX1 yX1_base yX1_base, Cond.code yX1_base cX1_base 2 none, Cond.methodLink RX1 83 yX1_goOff, Cond.instanceMethod yX1_goOff, Cond.selects RX1 yX1_goOff yX1_goOff, Cond.code yX1_goOff cX1_goOff 2 none]
def wsX1_button : List Cond := .code yX1_button cX1_button 2 none :: ((wsX1_button_r1 ++ (wsX1_button_r2 ++ wsX1_button_r3)) ++ wsX10)
def wsX1_sum : List Cond := .code yX1_sum cX1_sum 1 (some .int) :: ([.fieldLink RX1 26 "ModeDeskModel" "lateral" "I", .fieldLink RX1 36 "ModeDeskModel" "vertical" "I", .fieldLink RX1 42 "ModeDeskModel" "armedLateral" "I", .fieldLink RX1 45 "ModeDeskModel" "armedGlide" "Z", .fieldLink RX1 62 "ModeDeskModel" "engaged" "Z", .fieldLink RX1 16 "ModeDeskModel" "leader" "I"] ++ wsX10)
def wsX1_press_r1 : List Cond := [Cond.fieldLink RX1 33 "ModeDeskModel" "flash0" "I", Cond.fieldLink RX1 39 "ModeDeskModel" "flash1" "I", Cond.fieldLink RX1 65 "ModeDeskModel" "bad0" "Z", Cond.fieldLink RX1 68 "ModeDeskModel" "bad1" "Z", Cond.fieldLink RX1 26 "ModeDeskModel" "lateral" "I", Cond.methodLink RX1 105 yX1_good, Cond.instanceMethod yX1_good, Cond.selects RX1 yX1_good yX1_good, Cond.initialized RX1, Cond.code yX1_good cX1_good 2 (some .boolean), Cond.fieldLink RX1 20 "ModeDeskModel" "thrown" "I", Cond.methodLink RX1 109 yX1_sum, Cond.instanceMethod yX1_sum, Cond.selects RX1 yX1_sum yX1_sum, Cond.code yX1_sum cX1_sum 1 (some .int), Cond.fieldLink RX1 36 "ModeDeskModel" "vertical" "I", Cond.fieldLink RX1 42 "ModeDeskModel" "armedLateral" "I", Cond.fieldLink RX1 45 "ModeDeskModel" "armedGlide" "Z", Cond.fieldLink RX1 62 "ModeDeskModel" "engaged" "Z", Cond.fieldLink RX1 16 "ModeDeskModel" "leader" "I", Cond.methodLink RX1 102 yX1_base, Cond.instanceMethod yX1_base, Cond.selects RX1 yX1_base yX1_base, Cond.code yX1_base cX1_base 2 none]
def wsX1_press_r2 : List Cond := [Cond.methodLink RX1 49 yX1_noneArmed, Cond.instanceMethod yX1_noneArmed, Cond.selects RX1 yX1_noneArmed yX1_noneArmed, Cond.code yX1_noneArmed cX1_noneArmed 1 none, Cond.methodLink RX1 52 yX1_lateralTo, Cond.instanceMethod yX1_lateralTo, Cond.selects RX1 yX1_lateralTo yX1_lateralTo, Cond.code yX1_lateralTo cX1_lateralTo 3 none, Cond.methodLink RX1 29 yX1_keep, Cond.instanceMethod yX1_keep, Cond.selects RX1 yX1_keep yX1_keep, Cond.code yX1_keep cX1_keep 5 none, Cond.fieldLink RX1 23 "ModeDeskModel" "kept" "I", Cond.fieldLink RX1 13 "ModeDeskModel" "rows" "[I", Cond.methodLink RX1 56 yX1_verticalTo, Cond.instanceMethod yX1_verticalTo, Cond.selects RX1 yX1_verticalTo yX1_verticalTo, Cond.code yX1_verticalTo cX1_verticalTo 3 none, Cond.methodLink RX1 112 yX1_button, Cond.instanceMethod yX1_button, Cond.selects RX1 yX1_button yX1_button, Cond.code yX1_button cX1_button 2 none, Cond.fieldLink RX1 59 "ModeDeskModel" "warning" "Z", Cond.methodLink RX1 93 yX1_outOfApproach]
def wsX1_press_r3 : List Cond := [Cond.instanceMethod yX1_outOfApproach, Cond.selects RX1 yX1_outOfApproach yX1_outOfApproach, Cond.code yX1_outOfApproach cX1_outOfApproach 3 none, Cond.methodLink RX1 96 yX1_navButton, Cond.instanceMethod yX1_navButton, Cond.selects RX1 yX1_navButton yX1_navButton, Cond.code yX1_navButton cX1_navButton 1 none, Cond.methodLink RX1 99 yX1_approachButton, Cond.instanceMethod yX1_approachButton, Cond.selects RX1 yX1_approachButton yX1_approachButton, Cond.code yX1_approachButton cX1_approachButton 1 none, Cond.methodLink RX1 75 yX1_isBad, Cond.instanceMethod yX1_isBad, Cond.selects RX1 yX1_isBad yX1_isBad, Cond.code yX1_isBad cX1_isBad 2 (some .boolean), Cond.methodLink RX1 83 yX1_goOff, Cond.instanceMethod yX1_goOff, Cond.selects RX1 yX1_goOff yX1_goOff, Cond.code yX1_goOff cX1_goOff 2 none, Cond.methodLink RX1 115 yX1_settle, Cond.instanceMethod yX1_settle, Cond.selects RX1 yX1_settle yX1_settle, Cond.code yX1_settle cX1_settle 3 (some .int), Cond.methodLink RX1 87 yX1_rule]
def wsX1_press_r4 : List Cond := [Cond.instanceMethod yX1_rule, Cond.selects RX1 yX1_rule yX1_rule, Cond.code yX1_rule cX1_rule 3 (some .int), Cond.fieldLink RX1 7 "ModeDeskModel" "values" "[I", Cond.methodLink RX1 71 yX1_size, Cond.static yX1_size, Cond.code yX1_size cX1_size 1 (some .int), Cond.methodLink RX1 79 yX1_apart, Cond.instanceMethod yX1_apart, Cond.selects RX1 yX1_apart yX1_apart, Cond.code yX1_apart cX1_apart 1 (some .int), Cond.methodLink RX1 90 yX1_comes, Cond.instanceMethod yX1_comes, Cond.selects RX1 yX1_comes yX1_comes, Cond.code yX1_comes cX1_comes 2 none]
def wsX1_press : List Cond := .code yX1_press cX1_press 5 (some .int) :: ((wsX1_press_r1 ++ (wsX1_press_r2 ++ (wsX1_press_r3 ++ wsX1_press_r4))) ++ wsX10)
def wsX1_sense_r1 : List Cond := [Cond.constant RX1 118 (50000), Cond.fieldLink RX1 7 "ModeDeskModel" "values" "[I", Cond.methodLink RX1 105 yX1_good, Cond.instanceMethod yX1_good, Cond.selects RX1 yX1_good yX1_good, Cond.initialized RX1, Cond.code yX1_good cX1_good 2 (some .boolean), Cond.fieldLink RX1 20 "ModeDeskModel" "thrown" "I", Cond.methodLink RX1 115 yX1_settle, Cond.instanceMethod yX1_settle, Cond.selects RX1 yX1_settle yX1_settle, Cond.code yX1_settle cX1_settle 3 (some .int), Cond.methodLink RX1 87 yX1_rule, Cond.instanceMethod yX1_rule, Cond.selects RX1 yX1_rule yX1_rule, Cond.code yX1_rule cX1_rule 3 (some .int), Cond.fieldLink RX1 26 "ModeDeskModel" "lateral" "I", Cond.fieldLink RX1 16 "ModeDeskModel" "leader" "I", Cond.fieldLink RX1 36 "ModeDeskModel" "vertical" "I", Cond.fieldLink RX1 42 "ModeDeskModel" "armedLateral" "I", Cond.fieldLink RX1 45 "ModeDeskModel" "armedGlide" "Z", Cond.methodLink RX1 75 yX1_isBad, Cond.instanceMethod yX1_isBad, Cond.selects RX1 yX1_isBad yX1_isBad]
def wsX1_sense_r2 : List Cond := [Cond.code yX1_isBad cX1_isBad 2 (some .boolean), Cond.fieldLink RX1 65 "ModeDeskModel" "bad0" "Z", Cond.fieldLink RX1 68 "ModeDeskModel" "bad1" "Z", Cond.methodLink RX1 71 yX1_size, Cond.static yX1_size, Cond.code yX1_size cX1_size 1 (some .int), Cond.methodLink RX1 79 yX1_apart, Cond.instanceMethod yX1_apart, Cond.selects RX1 yX1_apart yX1_apart, Cond.code yX1_apart cX1_apart 1 (some .int), Cond.methodLink RX1 90 yX1_comes, Cond.instanceMethod yX1_comes, Cond.selects RX1 yX1_comes yX1_comes, Cond.code yX1_comes cX1_comes 2 none, Cond.methodLink RX1 83 yX1_goOff, Cond.instanceMethod yX1_goOff, Cond.selects RX1 yX1_goOff yX1_goOff, Cond.code yX1_goOff cX1_goOff 2 none, Cond.fieldLink RX1 59 "ModeDeskModel" "warning" "Z", Cond.fieldLink RX1 62 "ModeDeskModel" "engaged" "Z", Cond.fieldLink RX1 33 "ModeDeskModel" "flash0" "I", Cond.fieldLink RX1 39 "ModeDeskModel" "flash1" "I", Cond.methodLink RX1 49 yX1_noneArmed, Cond.instanceMethod yX1_noneArmed]
def wsX1_sense_r3 : List Cond := [Cond.selects RX1 yX1_noneArmed yX1_noneArmed, Cond.code yX1_noneArmed cX1_noneArmed 1 none, Cond.methodLink RX1 52 yX1_lateralTo, Cond.instanceMethod yX1_lateralTo, Cond.selects RX1 yX1_lateralTo yX1_lateralTo, Cond.code yX1_lateralTo cX1_lateralTo 3 none, Cond.methodLink RX1 29 yX1_keep, Cond.instanceMethod yX1_keep, Cond.selects RX1 yX1_keep yX1_keep, Cond.code yX1_keep cX1_keep 5 none, Cond.fieldLink RX1 23 "ModeDeskModel" "kept" "I", Cond.fieldLink RX1 13 "ModeDeskModel" "rows" "[I", Cond.methodLink RX1 56 yX1_verticalTo, Cond.instanceMethod yX1_verticalTo, Cond.selects RX1 yX1_verticalTo yX1_verticalTo, Cond.code yX1_verticalTo cX1_verticalTo 3 none]
def wsX1_sense : List Cond := .code yX1_sense cX1_sense 5 (some .int) :: ((wsX1_sense_r1 ++ (wsX1_sense_r2 ++ wsX1_sense_r3)) ++ wsX10)
def wsX1_channel_r1 : List Cond := [Cond.fieldLink RX1 65 "ModeDeskModel" "bad0" "Z", Cond.fieldLink RX1 68 "ModeDeskModel" "bad1" "Z", Cond.methodLink RX1 105 yX1_good, Cond.instanceMethod yX1_good, Cond.selects RX1 yX1_good yX1_good, Cond.initialized RX1, Cond.code yX1_good cX1_good 2 (some .boolean), Cond.fieldLink RX1 20 "ModeDeskModel" "thrown" "I", Cond.methodLink RX1 115 yX1_settle, Cond.instanceMethod yX1_settle, Cond.selects RX1 yX1_settle yX1_settle, Cond.code yX1_settle cX1_settle 3 (some .int), Cond.methodLink RX1 87 yX1_rule, Cond.instanceMethod yX1_rule, Cond.selects RX1 yX1_rule yX1_rule, Cond.code yX1_rule cX1_rule 3 (some .int), Cond.fieldLink RX1 7 "ModeDeskModel" "values" "[I", Cond.fieldLink RX1 26 "ModeDeskModel" "lateral" "I", Cond.fieldLink RX1 16 "ModeDeskModel" "leader" "I", Cond.fieldLink RX1 36 "ModeDeskModel" "vertical" "I", Cond.fieldLink RX1 42 "ModeDeskModel" "armedLateral" "I", Cond.fieldLink RX1 45 "ModeDeskModel" "armedGlide" "Z", Cond.methodLink RX1 75 yX1_isBad, Cond.instanceMethod yX1_isBad]
def wsX1_channel_r2 : List Cond := [Cond.selects RX1 yX1_isBad yX1_isBad, Cond.code yX1_isBad cX1_isBad 2 (some .boolean), Cond.methodLink RX1 71 yX1_size, Cond.static yX1_size, Cond.code yX1_size cX1_size 1 (some .int), Cond.methodLink RX1 79 yX1_apart, Cond.instanceMethod yX1_apart, Cond.selects RX1 yX1_apart yX1_apart, Cond.code yX1_apart cX1_apart 1 (some .int), Cond.methodLink RX1 90 yX1_comes, Cond.instanceMethod yX1_comes, Cond.selects RX1 yX1_comes yX1_comes, Cond.code yX1_comes cX1_comes 2 none, Cond.methodLink RX1 83 yX1_goOff, Cond.instanceMethod yX1_goOff, Cond.selects RX1 yX1_goOff yX1_goOff, Cond.code yX1_goOff cX1_goOff 2 none, Cond.fieldLink RX1 59 "ModeDeskModel" "warning" "Z", Cond.fieldLink RX1 62 "ModeDeskModel" "engaged" "Z", Cond.fieldLink RX1 33 "ModeDeskModel" "flash0" "I", Cond.fieldLink RX1 39 "ModeDeskModel" "flash1" "I", Cond.methodLink RX1 49 yX1_noneArmed, Cond.instanceMethod yX1_noneArmed, Cond.selects RX1 yX1_noneArmed yX1_noneArmed]
def wsX1_channel_r3 : List Cond := [Cond.code yX1_noneArmed cX1_noneArmed 1 none, Cond.methodLink RX1 52 yX1_lateralTo, Cond.instanceMethod yX1_lateralTo, Cond.selects RX1 yX1_lateralTo yX1_lateralTo, Cond.code yX1_lateralTo cX1_lateralTo 3 none, Cond.methodLink RX1 29 yX1_keep, Cond.instanceMethod yX1_keep, Cond.selects RX1 yX1_keep yX1_keep, Cond.code yX1_keep cX1_keep 5 none, Cond.fieldLink RX1 23 "ModeDeskModel" "kept" "I", Cond.fieldLink RX1 13 "ModeDeskModel" "rows" "[I", Cond.methodLink RX1 56 yX1_verticalTo, Cond.instanceMethod yX1_verticalTo, Cond.selects RX1 yX1_verticalTo yX1_verticalTo, Cond.code yX1_verticalTo cX1_verticalTo 3 none]
def wsX1_channel : List Cond := .code yX1_channel cX1_channel 3 (some .int) :: ((wsX1_channel_r1 ++ (wsX1_channel_r2 ++ wsX1_channel_r3)) ++ wsX10)
def wsX1_engage_r1 : List Cond := [Cond.fieldLink RX1 20 "ModeDeskModel" "thrown" "I", Cond.fieldLink RX1 62 "ModeDeskModel" "engaged" "Z", Cond.fieldLink RX1 65 "ModeDeskModel" "bad0" "Z", Cond.fieldLink RX1 68 "ModeDeskModel" "bad1" "Z", Cond.fieldLink RX1 26 "ModeDeskModel" "lateral" "I", Cond.fieldLink RX1 36 "ModeDeskModel" "vertical" "I", Cond.fieldLink RX1 7 "ModeDeskModel" "values" "[I", Cond.methodLink RX1 102 yX1_base, Cond.instanceMethod yX1_base, Cond.selects RX1 yX1_base yX1_base, Cond.initialized RX1, Cond.code yX1_base cX1_base 2 none, Cond.methodLink RX1 49 yX1_noneArmed, Cond.instanceMethod yX1_noneArmed, Cond.selects RX1 yX1_noneArmed yX1_noneArmed, Cond.code yX1_noneArmed cX1_noneArmed 1 none, Cond.fieldLink RX1 42 "ModeDeskModel" "armedLateral" "I", Cond.fieldLink RX1 45 "ModeDeskModel" "armedGlide" "Z", Cond.methodLink RX1 52 yX1_lateralTo, Cond.instanceMethod yX1_lateralTo, Cond.selects RX1 yX1_lateralTo yX1_lateralTo, Cond.code yX1_lateralTo cX1_lateralTo 3 none, Cond.fieldLink RX1 33 "ModeDeskModel" "flash0" "I", Cond.methodLink RX1 29 yX1_keep]
def wsX1_engage_r2 : List Cond := [Cond.instanceMethod yX1_keep, Cond.selects RX1 yX1_keep yX1_keep, Cond.code yX1_keep cX1_keep 5 none, Cond.fieldLink RX1 23 "ModeDeskModel" "kept" "I", Cond.fieldLink RX1 13 "ModeDeskModel" "rows" "[I", Cond.methodLink RX1 56 yX1_verticalTo, Cond.instanceMethod yX1_verticalTo, Cond.selects RX1 yX1_verticalTo yX1_verticalTo, Cond.code yX1_verticalTo cX1_verticalTo 3 none, Cond.fieldLink RX1 39 "ModeDeskModel" "flash1" "I", Cond.methodLink RX1 115 yX1_settle, Cond.instanceMethod yX1_settle, Cond.selects RX1 yX1_settle yX1_settle, Cond.code yX1_settle cX1_settle 3 (some .int), Cond.methodLink RX1 87 yX1_rule, Cond.instanceMethod yX1_rule, Cond.selects RX1 yX1_rule yX1_rule, Cond.code yX1_rule cX1_rule 3 (some .int), Cond.fieldLink RX1 16 "ModeDeskModel" "leader" "I", Cond.methodLink RX1 75 yX1_isBad, Cond.instanceMethod yX1_isBad, Cond.selects RX1 yX1_isBad yX1_isBad, Cond.code yX1_isBad cX1_isBad 2 (some .boolean), Cond.methodLink RX1 71 yX1_size]
def wsX1_engage_r3 : List Cond := [Cond.static yX1_size, Cond.code yX1_size cX1_size 1 (some .int), Cond.methodLink RX1 79 yX1_apart, Cond.instanceMethod yX1_apart, Cond.selects RX1 yX1_apart yX1_apart, Cond.code yX1_apart cX1_apart 1 (some .int), Cond.methodLink RX1 90 yX1_comes, Cond.instanceMethod yX1_comes, Cond.selects RX1 yX1_comes yX1_comes, Cond.code yX1_comes cX1_comes 2 none, Cond.methodLink RX1 83 yX1_goOff, Cond.instanceMethod yX1_goOff, Cond.selects RX1 yX1_goOff yX1_goOff, Cond.code yX1_goOff cX1_goOff 2 none, Cond.fieldLink RX1 59 "ModeDeskModel" "warning" "Z"]
def wsX1_engage : List Cond := .code yX1_engage cX1_engage 2 (some .int) :: ((wsX1_engage_r1 ++ (wsX1_engage_r2 ++ wsX1_engage_r3)) ++ wsX10)
def wsX1_disconnect : List Cond := .code yX1_disconnect cX1_disconnect 2 (some .int) :: ([.fieldLink RX1 20 "ModeDeskModel" "thrown" "I", .fieldLink RX1 62 "ModeDeskModel" "engaged" "Z", .fieldLink RX1 59 "ModeDeskModel" "warning" "Z"] ++ wsX10)
def wsX1_step : List Cond := .code yX1_step cX1_step 3 (some .int) :: ([.fieldLink RX1 33 "ModeDeskModel" "flash0" "I", .fieldLink RX1 39 "ModeDeskModel" "flash1" "I", .methodLink RX1 105 yX1_good, .instanceMethod yX1_good, .selects RX1 yX1_good yX1_good, .initialized RX1, .code yX1_good cX1_good 2 (some .boolean), .fieldLink RX1 20 "ModeDeskModel" "thrown" "I"] ++ wsX10)
def wsX1_mode : List Cond := .code yX1_mode cX1_mode 2 (some .int) :: ([.fieldLink RX1 26 "ModeDeskModel" "lateral" "I", .fieldLink RX1 36 "ModeDeskModel" "vertical" "I", .methodLink RX1 105 yX1_good, .instanceMethod yX1_good, .selects RX1 yX1_good yX1_good, .initialized RX1, .code yX1_good cX1_good 2 (some .boolean), .fieldLink RX1 20 "ModeDeskModel" "thrown" "I"] ++ wsX10)
def wsX1_armed : List Cond := .code yX1_armed cX1_armed 2 (some .boolean) :: ([.fieldLink RX1 42 "ModeDeskModel" "armedLateral" "I", .fieldLink RX1 45 "ModeDeskModel" "armedGlide" "Z", .fieldLink RX1 36 "ModeDeskModel" "vertical" "I", .methodLink RX1 105 yX1_good, .instanceMethod yX1_good, .selects RX1 yX1_good yX1_good, .initialized RX1, .code yX1_good cX1_good 2 (some .boolean), .fieldLink RX1 20 "ModeDeskModel" "thrown" "I"] ++ wsX10)
def wsX1_shown : List Cond := .code yX1_shown cX1_shown 2 (some .int) :: ([.fieldLink RX1 20 "ModeDeskModel" "thrown" "I", .fieldLink RX1 26 "ModeDeskModel" "lateral" "I", .fieldLink RX1 62 "ModeDeskModel" "engaged" "Z", .fieldLink RX1 59 "ModeDeskModel" "warning" "Z", .fieldLink RX1 33 "ModeDeskModel" "flash0" "I", .fieldLink RX1 39 "ModeDeskModel" "flash1" "I", .fieldLink RX1 16 "ModeDeskModel" "leader" "I"] ++ wsX10)
def wsX1_kept : List Cond := .code yX1_kept cX1_kept 3 (some .int) :: ([.fieldLink RX1 20 "ModeDeskModel" "thrown" "I", .fieldLink RX1 23 "ModeDeskModel" "kept" "I", .fieldLink RX1 13 "ModeDeskModel" "rows" "[I"] ++ wsX10)
def wsX1_measure : List Cond := .code yX1_measure cX1_measure 2 (some .int) :: ([.fieldLink RX1 7 "ModeDeskModel" "values" "[I", .methodLink RX1 105 yX1_good, .instanceMethod yX1_good, .selects RX1 yX1_good yX1_good, .initialized RX1, .code yX1_good cX1_good 2 (some .boolean), .fieldLink RX1 20 "ModeDeskModel" "thrown" "I"] ++ wsX10)
def wsJ9_abs_0f7a4 : List Cond := .code yJ9_abs_0f7a4 cJ9_abs_0f7a4 1 (some .int) :: ([])
def wsL_press_r1 : List Cond := [Cond.classLink RL 13 "java/lang/IllegalArgumentException", Cond.methodLink RL 7 yX0_press, Cond.instanceMethod yX0_press, Cond.selects RX0 yX0_press yX0_press, Cond.initialized RX0, Cond.code yX0_press cX0_press 3 (some .int), Cond.classLink RX0 26 "java/lang/IllegalArgumentException", Cond.initialized "java/lang/IllegalArgumentException", Cond.methodLink RX0 33 yX0_stateAsNumber, Cond.instanceMethod yX0_stateAsNumber, Cond.selects RX0 yX0_stateAsNumber yX0_stateAsNumber, Cond.code yX0_stateAsNumber cX0_stateAsNumber 1 (some .int), Cond.fieldLink RX0 7 "ModeDesk" "active" "[I", Cond.fieldLink RX0 90 "ModeDesk" "navArmed" "Z", Cond.fieldLink RX0 93 "ModeDesk" "approachArmed" "Z", Cond.fieldLink RX0 96 "ModeDesk" "glideArmed" "Z", Cond.fieldLink RX0 63 "ModeDesk" "engaged" "Z", Cond.fieldLink RX0 111 "ModeDesk" "leader" "I", Cond.methodLink RX0 107 yX0_bit, Cond.static yX0_bit, Cond.code yX0_bit cX0_bit 2 (some .int), Cond.methodLink RX0 37 yX0_stopFlashing, Cond.instanceMethod yX0_stopFlashing, Cond.selects RX0 yX0_stopFlashing yX0_stopFlashing]
def wsL_press_r2 : List Cond := [Cond.code yX0_stopFlashing cX0_stopFlashing 1 none, Cond.fieldLink RX0 13 "ModeDesk" "flashing" "[I", Cond.methodLink RX0 40 yX0_obey, Cond.instanceMethod yX0_obey, Cond.selects RX0 yX0_obey yX0_obey, Cond.code yX0_obey cX0_obey 2 none, Cond.methodLink RX0 67 yX0_isAnyChannelSound, Cond.instanceMethod yX0_isAnyChannelSound, Cond.selects RX0 yX0_isAnyChannelSound yX0_isAnyChannelSound, Cond.code yX0_isAnyChannelSound cX0_isAnyChannelSound 1 (some .boolean), Cond.fieldLink RX0 19 "ModeDesk" "soundness" "[Z", Cond.methodLink RX0 77 yX0_turnOnIfOff, Cond.instanceMethod yX0_turnOnIfOff, Cond.selects RX0 yX0_turnOnIfOff yX0_turnOnIfOff, Cond.code yX0_turnOnIfOff cX0_turnOnIfOff 1 none, Cond.methodLink RX0 104 yX0_isOn, Cond.instanceMethod yX0_isOn, Cond.selects RX0 yX0_isOn yX0_isOn, Cond.code yX0_isOn cX0_isOn 1 (some .boolean), Cond.methodLink RX0 131 yX0_goToBase, Cond.instanceMethod yX0_goToBase, Cond.selects RX0 yX0_goToBase yX0_goToBase, Cond.code yX0_goToBase cX0_goToBase 1 none, Cond.methodLink RX0 124 yX0_change]
def wsL_press_r3 : List Cond := [Cond.instanceMethod yX0_change, Cond.selects RX0 yX0_change yX0_change, Cond.code yX0_change cX0_change 5 none, Cond.fieldLink RX0 115 "ModeDesk" "changeCount" "I", Cond.fieldLink RX0 23 "ModeDesk" "changes" "[I", Cond.methodLink RX0 128 yX0_disarmAll, Cond.instanceMethod yX0_disarmAll, Cond.selects RX0 yX0_disarmAll yX0_disarmAll, Cond.code yX0_disarmAll cX0_disarmAll 1 none, Cond.methodLink RX0 134 yX0_obeyHeading, Cond.instanceMethod yX0_obeyHeading, Cond.selects RX0 yX0_obeyHeading yX0_obeyHeading, Cond.code yX0_obeyHeading cX0_obeyHeading 1 none, Cond.methodLink RX0 158 yX0_leaveCourseFor, Cond.instanceMethod yX0_leaveCourseFor, Cond.selects RX0 yX0_leaveCourseFor yX0_leaveCourseFor, Cond.code yX0_leaveCourseFor cX0_leaveCourseFor 3 none, Cond.methodLink RX0 137 yX0_obeyNav, Cond.instanceMethod yX0_obeyNav, Cond.selects RX0 yX0_obeyNav yX0_obeyNav, Cond.code yX0_obeyNav cX0_obeyNav 1 none, Cond.methodLink RX0 140 yX0_obeyApproach, Cond.instanceMethod yX0_obeyApproach, Cond.selects RX0 yX0_obeyApproach yX0_obeyApproach]
def wsL_press_r4 : List Cond := [Cond.code yX0_obeyApproach cX0_obeyApproach 1 none, Cond.methodLink RX0 143 yX0_obeyVertical, Cond.instanceMethod yX0_obeyVertical, Cond.selects RX0 yX0_obeyVertical yX0_obeyVertical, Cond.code yX0_obeyVertical cX0_obeyVertical 2 none, Cond.methodLink RX0 146 yX0_obeyAround, Cond.instanceMethod yX0_obeyAround, Cond.selects RX0 yX0_obeyAround yX0_obeyAround, Cond.code yX0_obeyAround cX0_obeyAround 1 none, Cond.methodLink RX0 80 yX0_disengageWithWarning, Cond.instanceMethod yX0_disengageWithWarning, Cond.selects RX0 yX0_disengageWithWarning yX0_disengageWithWarning, Cond.code yX0_disengageWithWarning cX0_disengageWithWarning 1 none, Cond.fieldLink RX0 83 "ModeDesk" "warning" "Z", Cond.methodLink RX0 149 yX0_obeySync, Cond.instanceMethod yX0_obeySync, Cond.selects RX0 yX0_obeySync yX0_obeySync, Cond.code yX0_obeySync cX0_obeySync 1 none, Cond.methodLink RX0 152 yX0_obeyTransfer, Cond.instanceMethod yX0_obeyTransfer, Cond.selects RX0 yX0_obeyTransfer yX0_obeyTransfer, Cond.code yX0_obeyTransfer cX0_obeyTransfer 2 none, Cond.methodLink RX0 155 yX0_obeyDirector, Cond.instanceMethod yX0_obeyDirector]
def wsL_press_r5 : List Cond := [Cond.selects RX0 yX0_obeyDirector yX0_obeyDirector, Cond.code yX0_obeyDirector cX0_obeyDirector 1 none, Cond.methodLink RX0 162 yX0_turnOff, Cond.instanceMethod yX0_turnOff, Cond.selects RX0 yX0_turnOff yX0_turnOff, Cond.code yX0_turnOff cX0_turnOff 2 none, Cond.methodLink RX0 44 yX0_settle, Cond.instanceMethod yX0_settle, Cond.selects RX0 yX0_settle yX0_settle, Cond.code yX0_settle cX0_settle 2 (some .int), Cond.methodLink RX0 166 yX0_comesAboutByItself, Cond.instanceMethod yX0_comesAboutByItself, Cond.selects RX0 yX0_comesAboutByItself yX0_comesAboutByItself, Cond.code yX0_comesAboutByItself cX0_comesAboutByItself 1 (some .boolean), Cond.methodLink RX0 169 yX0_leaderFails, Cond.instanceMethod yX0_leaderFails, Cond.selects RX0 yX0_leaderFails yX0_leaderFails, Cond.code yX0_leaderFails cX0_leaderFails 2 (some .boolean), Cond.methodLink RX0 172 yX0_courseIsLost, Cond.instanceMethod yX0_courseIsLost, Cond.selects RX0 yX0_courseIsLost yX0_courseIsLost, Cond.code yX0_courseIsLost cX0_courseIsLost 2 (some .boolean), Cond.fieldLink RX0 16 "ModeDesk" "measures" "[I", Cond.methodLink RX0 175 yX0_pathIsLost]
def wsL_press_r6 : List Cond := [Cond.instanceMethod yX0_pathIsLost, Cond.selects RX0 yX0_pathIsLost yX0_pathIsLost, Cond.code yX0_pathIsLost cX0_pathIsLost 2 (some .boolean), Cond.methodLink RX0 178 yX0_navIsReached, Cond.instanceMethod yX0_navIsReached, Cond.selects RX0 yX0_navIsReached yX0_navIsReached, Cond.code yX0_navIsReached cX0_navIsReached 1 (some .boolean), Cond.methodLink RX0 199 yX0_isCourseWithin, Cond.instanceMethod yX0_isCourseWithin, Cond.selects RX0 yX0_isCourseWithin yX0_isCourseWithin, Cond.code yX0_isCourseWithin cX0_isCourseWithin 2 (some .boolean), Cond.methodLink RX0 118 Lib.Math.abs.name, Cond.static Lib.Math.abs.name, Cond.initialized "java/lang/Math", Cond.code Lib.Math.abs.name Lib.Math.abs.code 1 (some .int), Cond.methodLink RX0 181 yX0_approachIsReached, Cond.instanceMethod yX0_approachIsReached, Cond.selects RX0 yX0_approachIsReached yX0_approachIsReached, Cond.code yX0_approachIsReached cX0_approachIsReached 1 (some .boolean), Cond.methodLink RX0 184 yX0_glideIsReached, Cond.instanceMethod yX0_glideIsReached, Cond.selects RX0 yX0_glideIsReached yX0_glideIsReached, Cond.code yX0_glideIsReached cX0_glideIsReached 1 (some .boolean), Cond.methodLink RX0 202 yX0_isPathWithin]
def wsL_press_r7 : List Cond := [Cond.instanceMethod yX0_isPathWithin, Cond.selects RX0 yX0_isPathWithin yX0_isPathWithin, Cond.code yX0_isPathWithin cX0_isPathWithin 2 (some .boolean), Cond.methodLink RX0 187 yX0_heightComesNear, Cond.instanceMethod yX0_heightComesNear, Cond.selects RX0 yX0_heightComesNear yX0_heightComesNear, Cond.code yX0_heightComesNear cX0_heightComesNear 1 (some .boolean), Cond.methodLink RX0 99 yX0_isCaptureArmed, Cond.instanceMethod yX0_isCaptureArmed, Cond.selects RX0 yX0_isCaptureArmed yX0_isCaptureArmed, Cond.code yX0_isCaptureArmed cX0_isCaptureArmed 2 (some .boolean), Cond.methodLink RX0 205 yX0_isHeightWithin, Cond.instanceMethod yX0_isHeightWithin, Cond.selects RX0 yX0_isHeightWithin yX0_isHeightWithin, Cond.code yX0_isHeightWithin cX0_isHeightWithin 2 (some .boolean), Cond.methodLink RX0 190 yX0_heightIsReached, Cond.instanceMethod yX0_heightIsReached, Cond.selects RX0 yX0_heightIsReached yX0_heightIsReached, Cond.code yX0_heightIsReached cX0_heightIsReached 1 (some .boolean), Cond.methodLink RX0 193 yX0_heightIsLost, Cond.instanceMethod yX0_heightIsLost, Cond.selects RX0 yX0_heightIsLost yX0_heightIsLost, Cond.code yX0_heightIsLost cX0_heightIsLost 1 (some .boolean), Cond.methodLink RX0 196 yX0_climbIsTooFast]
def wsL_press_r8 : List Cond := [Cond.instanceMethod yX0_climbIsTooFast, Cond.selects RX0 yX0_climbIsTooFast yX0_climbIsTooFast, Cond.code yX0_climbIsTooFast cX0_climbIsTooFast 1 (some .boolean), Cond.methodLink RX0 74 yX0_isTooFast, Cond.instanceMethod yX0_isTooFast, Cond.selects RX0 yX0_isTooFast yX0_isTooFast, Cond.code yX0_isTooFast cX0_isTooFast 1 (some .boolean)]
def wsL_press : List Cond := .codeWith yL_press cL_press 4 (some .int) [(0, 9, 12, 13)] :: ((wsL_press_r1 ++ (wsL_press_r2 ++ (wsL_press_r3 ++ (wsL_press_r4 ++ (wsL_press_r5 ++ (wsL_press_r6 ++ (wsL_press_r7 ++ wsL_press_r8))))))) ++ wsX00 ++ (vx_atS RX0 30 "java/lang/IllegalArgumentException" ["java/lang/RuntimeException", "java/lang/Exception"]).filter goodWord)
def wsL_sense_r1 : List Cond := [Cond.classLink RL 13 "java/lang/IllegalArgumentException", Cond.methodLink RL 15 yX0_sense, Cond.instanceMethod yX0_sense, Cond.selects RX0 yX0_sense yX0_sense, Cond.initialized RX0, Cond.code yX0_sense cX0_sense 3 (some .int), Cond.classLink RX0 26 "java/lang/IllegalArgumentException", Cond.initialized "java/lang/IllegalArgumentException", Cond.fieldLink RX0 53 "ModeDesk" "LOWEST" "[I", Cond.fieldLink RX0 56 "ModeDesk" "HIGHEST" "[I", Cond.fieldLink RX0 16 "ModeDesk" "measures" "[I", Cond.methodLink RX0 47 yX0_isMeasure, Cond.static yX0_isMeasure, Cond.code yX0_isMeasure cX0_isMeasure 1 (some .boolean), Cond.methodLink RX0 44 yX0_settle, Cond.instanceMethod yX0_settle, Cond.selects RX0 yX0_settle yX0_settle, Cond.code yX0_settle cX0_settle 2 (some .int), Cond.methodLink RX0 166 yX0_comesAboutByItself, Cond.instanceMethod yX0_comesAboutByItself, Cond.selects RX0 yX0_comesAboutByItself yX0_comesAboutByItself, Cond.code yX0_comesAboutByItself cX0_comesAboutByItself 1 (some .boolean), Cond.methodLink RX0 169 yX0_leaderFails, Cond.instanceMethod yX0_leaderFails]
def wsL_sense_r2 : List Cond := [Cond.selects RX0 yX0_leaderFails yX0_leaderFails, Cond.code yX0_leaderFails cX0_leaderFails 2 (some .boolean), Cond.fieldLink RX0 19 "ModeDesk" "soundness" "[Z", Cond.fieldLink RX0 111 "ModeDesk" "leader" "I", Cond.methodLink RX0 104 yX0_isOn, Cond.instanceMethod yX0_isOn, Cond.selects RX0 yX0_isOn yX0_isOn, Cond.code yX0_isOn cX0_isOn 1 (some .boolean), Cond.fieldLink RX0 7 "ModeDesk" "active" "[I", Cond.methodLink RX0 162 yX0_turnOff, Cond.instanceMethod yX0_turnOff, Cond.selects RX0 yX0_turnOff yX0_turnOff, Cond.code yX0_turnOff cX0_turnOff 2 none, Cond.methodLink RX0 124 yX0_change, Cond.instanceMethod yX0_change, Cond.selects RX0 yX0_change yX0_change, Cond.code yX0_change cX0_change 5 none, Cond.fieldLink RX0 13 "ModeDesk" "flashing" "[I", Cond.fieldLink RX0 115 "ModeDesk" "changeCount" "I", Cond.fieldLink RX0 23 "ModeDesk" "changes" "[I", Cond.methodLink RX0 107 yX0_bit, Cond.static yX0_bit, Cond.code yX0_bit cX0_bit 2 (some .int), Cond.methodLink RX0 128 yX0_disarmAll]
def wsL_sense_r3 : List Cond := [Cond.instanceMethod yX0_disarmAll, Cond.selects RX0 yX0_disarmAll yX0_disarmAll, Cond.code yX0_disarmAll cX0_disarmAll 1 none, Cond.fieldLink RX0 90 "ModeDesk" "navArmed" "Z", Cond.fieldLink RX0 93 "ModeDesk" "approachArmed" "Z", Cond.fieldLink RX0 96 "ModeDesk" "glideArmed" "Z", Cond.methodLink RX0 80 yX0_disengageWithWarning, Cond.instanceMethod yX0_disengageWithWarning, Cond.selects RX0 yX0_disengageWithWarning yX0_disengageWithWarning, Cond.code yX0_disengageWithWarning cX0_disengageWithWarning 1 none, Cond.fieldLink RX0 63 "ModeDesk" "engaged" "Z", Cond.fieldLink RX0 83 "ModeDesk" "warning" "Z", Cond.methodLink RX0 37 yX0_stopFlashing, Cond.instanceMethod yX0_stopFlashing, Cond.selects RX0 yX0_stopFlashing yX0_stopFlashing, Cond.code yX0_stopFlashing cX0_stopFlashing 1 none, Cond.methodLink RX0 172 yX0_courseIsLost, Cond.instanceMethod yX0_courseIsLost, Cond.selects RX0 yX0_courseIsLost yX0_courseIsLost, Cond.code yX0_courseIsLost cX0_courseIsLost 2 (some .boolean), Cond.methodLink RX0 158 yX0_leaveCourseFor, Cond.instanceMethod yX0_leaveCourseFor, Cond.selects RX0 yX0_leaveCourseFor yX0_leaveCourseFor, Cond.code yX0_leaveCourseFor cX0_leaveCourseFor 3 none]
def wsL_sense_r4 : List Cond := [Cond.methodLink RX0 175 yX0_pathIsLost, Cond.instanceMethod yX0_pathIsLost, Cond.selects RX0 yX0_pathIsLost yX0_pathIsLost, Cond.code yX0_pathIsLost cX0_pathIsLost 2 (some .boolean), Cond.methodLink RX0 178 yX0_navIsReached, Cond.instanceMethod yX0_navIsReached, Cond.selects RX0 yX0_navIsReached yX0_navIsReached, Cond.code yX0_navIsReached cX0_navIsReached 1 (some .boolean), Cond.methodLink RX0 199 yX0_isCourseWithin, Cond.instanceMethod yX0_isCourseWithin, Cond.selects RX0 yX0_isCourseWithin yX0_isCourseWithin, Cond.code yX0_isCourseWithin cX0_isCourseWithin 2 (some .boolean), Cond.methodLink RX0 118 Lib.Math.abs.name, Cond.static Lib.Math.abs.name, Cond.initialized "java/lang/Math", Cond.code Lib.Math.abs.name Lib.Math.abs.code 1 (some .int), Cond.methodLink RX0 181 yX0_approachIsReached, Cond.instanceMethod yX0_approachIsReached, Cond.selects RX0 yX0_approachIsReached yX0_approachIsReached, Cond.code yX0_approachIsReached cX0_approachIsReached 1 (some .boolean), Cond.methodLink RX0 184 yX0_glideIsReached, Cond.instanceMethod yX0_glideIsReached, Cond.selects RX0 yX0_glideIsReached yX0_glideIsReached, Cond.code yX0_glideIsReached cX0_glideIsReached 1 (some .boolean)]
def wsL_sense_r5 : List Cond := [Cond.methodLink RX0 202 yX0_isPathWithin, Cond.instanceMethod yX0_isPathWithin, Cond.selects RX0 yX0_isPathWithin yX0_isPathWithin, Cond.code yX0_isPathWithin cX0_isPathWithin 2 (some .boolean), Cond.methodLink RX0 187 yX0_heightComesNear, Cond.instanceMethod yX0_heightComesNear, Cond.selects RX0 yX0_heightComesNear yX0_heightComesNear, Cond.code yX0_heightComesNear cX0_heightComesNear 1 (some .boolean), Cond.methodLink RX0 99 yX0_isCaptureArmed, Cond.instanceMethod yX0_isCaptureArmed, Cond.selects RX0 yX0_isCaptureArmed yX0_isCaptureArmed, Cond.code yX0_isCaptureArmed cX0_isCaptureArmed 2 (some .boolean), Cond.methodLink RX0 205 yX0_isHeightWithin, Cond.instanceMethod yX0_isHeightWithin, Cond.selects RX0 yX0_isHeightWithin yX0_isHeightWithin, Cond.code yX0_isHeightWithin cX0_isHeightWithin 2 (some .boolean), Cond.methodLink RX0 190 yX0_heightIsReached, Cond.instanceMethod yX0_heightIsReached, Cond.selects RX0 yX0_heightIsReached yX0_heightIsReached, Cond.code yX0_heightIsReached cX0_heightIsReached 1 (some .boolean), Cond.methodLink RX0 193 yX0_heightIsLost, Cond.instanceMethod yX0_heightIsLost, Cond.selects RX0 yX0_heightIsLost yX0_heightIsLost, Cond.code yX0_heightIsLost cX0_heightIsLost 1 (some .boolean)]
def wsL_sense_r6 : List Cond := [Cond.methodLink RX0 196 yX0_climbIsTooFast, Cond.instanceMethod yX0_climbIsTooFast, Cond.selects RX0 yX0_climbIsTooFast yX0_climbIsTooFast, Cond.code yX0_climbIsTooFast cX0_climbIsTooFast 1 (some .boolean), Cond.methodLink RX0 74 yX0_isTooFast, Cond.instanceMethod yX0_isTooFast, Cond.selects RX0 yX0_isTooFast yX0_isTooFast, Cond.code yX0_isTooFast cX0_isTooFast 1 (some .boolean)]
def wsL_sense : List Cond := .codeWith yL_sense cL_sense 5 (some .int) [(0, 10, 13, 13)] :: ((wsL_sense_r1 ++ (wsL_sense_r2 ++ (wsL_sense_r3 ++ (wsL_sense_r4 ++ (wsL_sense_r5 ++ wsL_sense_r6))))) ++ wsX00 ++ (vx_atS RX0 30 "java/lang/IllegalArgumentException" ["java/lang/RuntimeException", "java/lang/Exception"]).filter goodWord)
def wsL_channel_r1 : List Cond := [Cond.classLink RL 13 "java/lang/IllegalArgumentException", Cond.methodLink RL 19 yX0_channel, Cond.instanceMethod yX0_channel, Cond.selects RX0 yX0_channel yX0_channel, Cond.initialized RX0, Cond.code yX0_channel cX0_channel 3 (some .int), Cond.classLink RX0 26 "java/lang/IllegalArgumentException", Cond.initialized "java/lang/IllegalArgumentException", Cond.fieldLink RX0 19 "ModeDesk" "soundness" "[Z", Cond.methodLink RX0 44 yX0_settle, Cond.instanceMethod yX0_settle, Cond.selects RX0 yX0_settle yX0_settle, Cond.code yX0_settle cX0_settle 2 (some .int), Cond.methodLink RX0 166 yX0_comesAboutByItself, Cond.instanceMethod yX0_comesAboutByItself, Cond.selects RX0 yX0_comesAboutByItself yX0_comesAboutByItself, Cond.code yX0_comesAboutByItself cX0_comesAboutByItself 1 (some .boolean), Cond.methodLink RX0 169 yX0_leaderFails, Cond.instanceMethod yX0_leaderFails, Cond.selects RX0 yX0_leaderFails yX0_leaderFails, Cond.code yX0_leaderFails cX0_leaderFails 2 (some .boolean), Cond.fieldLink RX0 111 "ModeDesk" "leader" "I", Cond.methodLink RX0 104 yX0_isOn, Cond.instanceMethod yX0_isOn]
def wsL_channel_r2 : List Cond := [Cond.selects RX0 yX0_isOn yX0_isOn, Cond.code yX0_isOn cX0_isOn 1 (some .boolean), Cond.fieldLink RX0 7 "ModeDesk" "active" "[I", Cond.methodLink RX0 162 yX0_turnOff, Cond.instanceMethod yX0_turnOff, Cond.selects RX0 yX0_turnOff yX0_turnOff, Cond.code yX0_turnOff cX0_turnOff 2 none, Cond.methodLink RX0 124 yX0_change, Cond.instanceMethod yX0_change, Cond.selects RX0 yX0_change yX0_change, Cond.code yX0_change cX0_change 5 none, Cond.fieldLink RX0 13 "ModeDesk" "flashing" "[I", Cond.fieldLink RX0 115 "ModeDesk" "changeCount" "I", Cond.fieldLink RX0 23 "ModeDesk" "changes" "[I", Cond.methodLink RX0 107 yX0_bit, Cond.static yX0_bit, Cond.code yX0_bit cX0_bit 2 (some .int), Cond.methodLink RX0 128 yX0_disarmAll, Cond.instanceMethod yX0_disarmAll, Cond.selects RX0 yX0_disarmAll yX0_disarmAll, Cond.code yX0_disarmAll cX0_disarmAll 1 none, Cond.fieldLink RX0 90 "ModeDesk" "navArmed" "Z", Cond.fieldLink RX0 93 "ModeDesk" "approachArmed" "Z", Cond.fieldLink RX0 96 "ModeDesk" "glideArmed" "Z"]
def wsL_channel_r3 : List Cond := [Cond.methodLink RX0 80 yX0_disengageWithWarning, Cond.instanceMethod yX0_disengageWithWarning, Cond.selects RX0 yX0_disengageWithWarning yX0_disengageWithWarning, Cond.code yX0_disengageWithWarning cX0_disengageWithWarning 1 none, Cond.fieldLink RX0 63 "ModeDesk" "engaged" "Z", Cond.fieldLink RX0 83 "ModeDesk" "warning" "Z", Cond.methodLink RX0 37 yX0_stopFlashing, Cond.instanceMethod yX0_stopFlashing, Cond.selects RX0 yX0_stopFlashing yX0_stopFlashing, Cond.code yX0_stopFlashing cX0_stopFlashing 1 none, Cond.methodLink RX0 172 yX0_courseIsLost, Cond.instanceMethod yX0_courseIsLost, Cond.selects RX0 yX0_courseIsLost yX0_courseIsLost, Cond.code yX0_courseIsLost cX0_courseIsLost 2 (some .boolean), Cond.fieldLink RX0 16 "ModeDesk" "measures" "[I", Cond.methodLink RX0 158 yX0_leaveCourseFor, Cond.instanceMethod yX0_leaveCourseFor, Cond.selects RX0 yX0_leaveCourseFor yX0_leaveCourseFor, Cond.code yX0_leaveCourseFor cX0_leaveCourseFor 3 none, Cond.methodLink RX0 175 yX0_pathIsLost, Cond.instanceMethod yX0_pathIsLost, Cond.selects RX0 yX0_pathIsLost yX0_pathIsLost, Cond.code yX0_pathIsLost cX0_pathIsLost 2 (some .boolean), Cond.methodLink RX0 178 yX0_navIsReached]
def wsL_channel_r4 : List Cond := [Cond.instanceMethod yX0_navIsReached, Cond.selects RX0 yX0_navIsReached yX0_navIsReached, Cond.code yX0_navIsReached cX0_navIsReached 1 (some .boolean), Cond.methodLink RX0 199 yX0_isCourseWithin, Cond.instanceMethod yX0_isCourseWithin, Cond.selects RX0 yX0_isCourseWithin yX0_isCourseWithin, Cond.code yX0_isCourseWithin cX0_isCourseWithin 2 (some .boolean), Cond.methodLink RX0 118 Lib.Math.abs.name, Cond.static Lib.Math.abs.name, Cond.initialized "java/lang/Math", Cond.code Lib.Math.abs.name Lib.Math.abs.code 1 (some .int), Cond.methodLink RX0 181 yX0_approachIsReached, Cond.instanceMethod yX0_approachIsReached, Cond.selects RX0 yX0_approachIsReached yX0_approachIsReached, Cond.code yX0_approachIsReached cX0_approachIsReached 1 (some .boolean), Cond.methodLink RX0 184 yX0_glideIsReached, Cond.instanceMethod yX0_glideIsReached, Cond.selects RX0 yX0_glideIsReached yX0_glideIsReached, Cond.code yX0_glideIsReached cX0_glideIsReached 1 (some .boolean), Cond.methodLink RX0 202 yX0_isPathWithin, Cond.instanceMethod yX0_isPathWithin, Cond.selects RX0 yX0_isPathWithin yX0_isPathWithin, Cond.code yX0_isPathWithin cX0_isPathWithin 2 (some .boolean), Cond.methodLink RX0 187 yX0_heightComesNear]
def wsL_channel_r5 : List Cond := [Cond.instanceMethod yX0_heightComesNear, Cond.selects RX0 yX0_heightComesNear yX0_heightComesNear, Cond.code yX0_heightComesNear cX0_heightComesNear 1 (some .boolean), Cond.methodLink RX0 99 yX0_isCaptureArmed, Cond.instanceMethod yX0_isCaptureArmed, Cond.selects RX0 yX0_isCaptureArmed yX0_isCaptureArmed, Cond.code yX0_isCaptureArmed cX0_isCaptureArmed 2 (some .boolean), Cond.methodLink RX0 205 yX0_isHeightWithin, Cond.instanceMethod yX0_isHeightWithin, Cond.selects RX0 yX0_isHeightWithin yX0_isHeightWithin, Cond.code yX0_isHeightWithin cX0_isHeightWithin 2 (some .boolean), Cond.methodLink RX0 190 yX0_heightIsReached, Cond.instanceMethod yX0_heightIsReached, Cond.selects RX0 yX0_heightIsReached yX0_heightIsReached, Cond.code yX0_heightIsReached cX0_heightIsReached 1 (some .boolean), Cond.methodLink RX0 193 yX0_heightIsLost, Cond.instanceMethod yX0_heightIsLost, Cond.selects RX0 yX0_heightIsLost yX0_heightIsLost, Cond.code yX0_heightIsLost cX0_heightIsLost 1 (some .boolean), Cond.methodLink RX0 196 yX0_climbIsTooFast, Cond.instanceMethod yX0_climbIsTooFast, Cond.selects RX0 yX0_climbIsTooFast yX0_climbIsTooFast, Cond.code yX0_climbIsTooFast cX0_climbIsTooFast 1 (some .boolean), Cond.methodLink RX0 74 yX0_isTooFast]
def wsL_channel_r6 : List Cond := [Cond.instanceMethod yX0_isTooFast, Cond.selects RX0 yX0_isTooFast yX0_isTooFast, Cond.code yX0_isTooFast cX0_isTooFast 1 (some .boolean)]
def wsL_channel : List Cond := .codeWith yL_channel cL_channel 5 (some .int) [(0, 10, 13, 13)] :: ((wsL_channel_r1 ++ (wsL_channel_r2 ++ (wsL_channel_r3 ++ (wsL_channel_r4 ++ (wsL_channel_r5 ++ wsL_channel_r6))))) ++ wsX00 ++ (vx_atS RX0 30 "java/lang/IllegalArgumentException" ["java/lang/RuntimeException", "java/lang/Exception"]).filter goodWord)
def wsL_step : List Cond := .codeWith yL_step cL_step 4 (some .int) [(0, 9, 12, 13)] :: ([.classLink RL 13 "java/lang/IllegalArgumentException", .methodLink RL 23 yX0_step, .instanceMethod yX0_step, .selects RX0 yX0_step yX0_step, .initialized RX0, .code yX0_step cX0_step 4 (some .int), .classLink RX0 26 "java/lang/IllegalArgumentException", .initialized "java/lang/IllegalArgumentException", .fieldLink RX0 13 "ModeDesk" "flashing" "[I"] ++ wsX00 ++ (vx_atS RX0 30 "java/lang/IllegalArgumentException" ["java/lang/RuntimeException", "java/lang/Exception"]).filter goodWord)
def wsL_mode : List Cond := .codeWith yL_mode cL_mode 4 (some .int) [(0, 9, 12, 13)] :: ([.classLink RL 13 "java/lang/IllegalArgumentException", .methodLink RL 26 yX0_mode, .instanceMethod yX0_mode, .selects RX0 yX0_mode yX0_mode, .initialized RX0, .code yX0_mode cX0_mode 2 (some .int), .classLink RX0 26 "java/lang/IllegalArgumentException", .initialized "java/lang/IllegalArgumentException", .fieldLink RX0 7 "ModeDesk" "active" "[I"] ++ wsX00 ++ (vx_atS RX0 30 "java/lang/IllegalArgumentException" ["java/lang/RuntimeException", "java/lang/Exception"]).filter goodWord)
def wsL_armed : List Cond := .codeWith yL_armed cL_armed 4 (some .int) [(0, 16, 19, 13)] :: ([.classLink RL 13 "java/lang/IllegalArgumentException", .methodLink RL 29 yX0_armed, .instanceMethod yX0_armed, .selects RX0 yX0_armed yX0_armed, .initialized RX0, .code yX0_armed cX0_armed 2 (some .boolean), .classLink RX0 26 "java/lang/IllegalArgumentException", .initialized "java/lang/IllegalArgumentException", .fieldLink RX0 90 "ModeDesk" "navArmed" "Z", .fieldLink RX0 93 "ModeDesk" "approachArmed" "Z", .fieldLink RX0 96 "ModeDesk" "glideArmed" "Z", .methodLink RX0 99 yX0_isCaptureArmed, .instanceMethod yX0_isCaptureArmed, .selects RX0 yX0_isCaptureArmed yX0_isCaptureArmed, .code yX0_isCaptureArmed cX0_isCaptureArmed 2 (some .boolean), .fieldLink RX0 7 "ModeDesk" "active" "[I"] ++ wsX00 ++ (vx_atS RX0 30 "java/lang/IllegalArgumentException" ["java/lang/RuntimeException", "java/lang/Exception"]).filter goodWord)
def wsL_measure : List Cond := .codeWith yL_measure cL_measure 4 (some .int) [(0, 9, 12, 13)] :: ([.classLink RL 13 "java/lang/IllegalArgumentException", .methodLink RL 33 yX0_measure, .instanceMethod yX0_measure, .selects RX0 yX0_measure yX0_measure, .initialized RX0, .code yX0_measure cX0_measure 2 (some .int), .classLink RX0 26 "java/lang/IllegalArgumentException", .initialized "java/lang/IllegalArgumentException", .fieldLink RX0 16 "ModeDesk" "measures" "[I", .methodLink RX0 47 yX0_isMeasure, .static yX0_isMeasure, .code yX0_isMeasure cX0_isMeasure 1 (some .boolean)] ++ wsX00 ++ (vx_atS RX0 30 "java/lang/IllegalArgumentException" ["java/lang/RuntimeException", "java/lang/Exception"]).filter goodWord)
def wsL_law0_r1 : List Cond := [Cond.classLink RL 8 RX0, Cond.instantiable RX0 12, Cond.initialized RX0, Cond.classLink RL 37 RX1, Cond.instantiable RX1 15, Cond.initialized RX1, Cond.arrayClass .long, Cond.methodLink RL 36 yX0_init, Cond.instanceMethod yX0_init, Cond.code yX0_init cX0_init 1 none, Cond.methodLink RX0 1 objectInit, Cond.instanceMethod objectInit, Cond.code objectInit ⟨#[0xb1]⟩ 1 none, Cond.arrayClass .int, Cond.fieldLink RX0 7 "ModeDesk" "active" "[I", Cond.fieldLink RX0 13 "ModeDesk" "flashing" "[I", Cond.fieldLink RX0 16 "ModeDesk" "measures" "[I", Cond.arrayClass .boolean, Cond.fieldLink RX0 19 "ModeDesk" "soundness" "[Z", Cond.fieldLink RX0 23 "ModeDesk" "changes" "[I", Cond.methodLink RL 39 yX1_init, Cond.instanceMethod yX1_init, Cond.code yX1_init cX1_init 1 none, Cond.methodLink RX1 1 objectInit]
def wsL_law0_r2 : List Cond := [Cond.fieldLink RX1 7 "ModeDeskModel" "values" "[I", Cond.fieldLink RX1 13 "ModeDeskModel" "rows" "[I", Cond.fieldLink RX1 16 "ModeDeskModel" "leader" "I", Cond.methodLink RL 40 yL_press, Cond.static yL_press, Cond.initialized RL, Cond.codeWith yL_press cL_press 4 (some .int) [(0, 9, 12, 13)], Cond.classLink RL 13 "java/lang/IllegalArgumentException", Cond.methodLink RL 7 yX0_press, Cond.instanceMethod yX0_press, Cond.selects RX0 yX0_press yX0_press, Cond.code yX0_press cX0_press 3 (some .int), Cond.classLink RX0 26 "java/lang/IllegalArgumentException", Cond.initialized "java/lang/IllegalArgumentException", Cond.methodLink RX0 33 yX0_stateAsNumber, Cond.instanceMethod yX0_stateAsNumber, Cond.selects RX0 yX0_stateAsNumber yX0_stateAsNumber, Cond.code yX0_stateAsNumber cX0_stateAsNumber 1 (some .int), Cond.fieldLink RX0 90 "ModeDesk" "navArmed" "Z", Cond.fieldLink RX0 93 "ModeDesk" "approachArmed" "Z", Cond.fieldLink RX0 96 "ModeDesk" "glideArmed" "Z", Cond.fieldLink RX0 63 "ModeDesk" "engaged" "Z", Cond.fieldLink RX0 111 "ModeDesk" "leader" "I", Cond.methodLink RX0 107 yX0_bit]
def wsL_law0_r3 : List Cond := [Cond.static yX0_bit, Cond.code yX0_bit cX0_bit 2 (some .int), Cond.methodLink RX0 37 yX0_stopFlashing, Cond.instanceMethod yX0_stopFlashing, Cond.selects RX0 yX0_stopFlashing yX0_stopFlashing, Cond.code yX0_stopFlashing cX0_stopFlashing 1 none, Cond.methodLink RX0 40 yX0_obey, Cond.instanceMethod yX0_obey, Cond.selects RX0 yX0_obey yX0_obey, Cond.code yX0_obey cX0_obey 2 none, Cond.methodLink RX0 67 yX0_isAnyChannelSound, Cond.instanceMethod yX0_isAnyChannelSound, Cond.selects RX0 yX0_isAnyChannelSound yX0_isAnyChannelSound, Cond.code yX0_isAnyChannelSound cX0_isAnyChannelSound 1 (some .boolean), Cond.methodLink RX0 77 yX0_turnOnIfOff, Cond.instanceMethod yX0_turnOnIfOff, Cond.selects RX0 yX0_turnOnIfOff yX0_turnOnIfOff, Cond.code yX0_turnOnIfOff cX0_turnOnIfOff 1 none, Cond.methodLink RX0 104 yX0_isOn, Cond.instanceMethod yX0_isOn, Cond.selects RX0 yX0_isOn yX0_isOn, Cond.code yX0_isOn cX0_isOn 1 (some .boolean), Cond.methodLink RX0 131 yX0_goToBase, Cond.instanceMethod yX0_goToBase]
def wsL_law0_r4 : List Cond := [Cond.selects RX0 yX0_goToBase yX0_goToBase, Cond.code yX0_goToBase cX0_goToBase 1 none, Cond.methodLink RX0 124 yX0_change, Cond.instanceMethod yX0_change, Cond.selects RX0 yX0_change yX0_change, Cond.code yX0_change cX0_change 5 none, Cond.fieldLink RX0 115 "ModeDesk" "changeCount" "I", Cond.methodLink RX0 128 yX0_disarmAll, Cond.instanceMethod yX0_disarmAll, Cond.selects RX0 yX0_disarmAll yX0_disarmAll, Cond.code yX0_disarmAll cX0_disarmAll 1 none, Cond.methodLink RX0 134 yX0_obeyHeading, Cond.instanceMethod yX0_obeyHeading, Cond.selects RX0 yX0_obeyHeading yX0_obeyHeading, Cond.code yX0_obeyHeading cX0_obeyHeading 1 none, Cond.methodLink RX0 158 yX0_leaveCourseFor, Cond.instanceMethod yX0_leaveCourseFor, Cond.selects RX0 yX0_leaveCourseFor yX0_leaveCourseFor, Cond.code yX0_leaveCourseFor cX0_leaveCourseFor 3 none, Cond.methodLink RX0 137 yX0_obeyNav, Cond.instanceMethod yX0_obeyNav, Cond.selects RX0 yX0_obeyNav yX0_obeyNav, Cond.code yX0_obeyNav cX0_obeyNav 1 none, Cond.methodLink RX0 140 yX0_obeyApproach]
def wsL_law0_r5 : List Cond := [Cond.instanceMethod yX0_obeyApproach, Cond.selects RX0 yX0_obeyApproach yX0_obeyApproach, Cond.code yX0_obeyApproach cX0_obeyApproach 1 none, Cond.methodLink RX0 143 yX0_obeyVertical, Cond.instanceMethod yX0_obeyVertical, Cond.selects RX0 yX0_obeyVertical yX0_obeyVertical, Cond.code yX0_obeyVertical cX0_obeyVertical 2 none, Cond.methodLink RX0 146 yX0_obeyAround, Cond.instanceMethod yX0_obeyAround, Cond.selects RX0 yX0_obeyAround yX0_obeyAround, Cond.code yX0_obeyAround cX0_obeyAround 1 none, Cond.methodLink RX0 80 yX0_disengageWithWarning, Cond.instanceMethod yX0_disengageWithWarning, Cond.selects RX0 yX0_disengageWithWarning yX0_disengageWithWarning, Cond.code yX0_disengageWithWarning cX0_disengageWithWarning 1 none, Cond.fieldLink RX0 83 "ModeDesk" "warning" "Z", Cond.methodLink RX0 149 yX0_obeySync, Cond.instanceMethod yX0_obeySync, Cond.selects RX0 yX0_obeySync yX0_obeySync, Cond.code yX0_obeySync cX0_obeySync 1 none, Cond.methodLink RX0 152 yX0_obeyTransfer, Cond.instanceMethod yX0_obeyTransfer, Cond.selects RX0 yX0_obeyTransfer yX0_obeyTransfer, Cond.code yX0_obeyTransfer cX0_obeyTransfer 2 none]
def wsL_law0_r6 : List Cond := [Cond.methodLink RX0 155 yX0_obeyDirector, Cond.instanceMethod yX0_obeyDirector, Cond.selects RX0 yX0_obeyDirector yX0_obeyDirector, Cond.code yX0_obeyDirector cX0_obeyDirector 1 none, Cond.methodLink RX0 162 yX0_turnOff, Cond.instanceMethod yX0_turnOff, Cond.selects RX0 yX0_turnOff yX0_turnOff, Cond.code yX0_turnOff cX0_turnOff 2 none, Cond.methodLink RX0 44 yX0_settle, Cond.instanceMethod yX0_settle, Cond.selects RX0 yX0_settle yX0_settle, Cond.code yX0_settle cX0_settle 2 (some .int), Cond.methodLink RX0 166 yX0_comesAboutByItself, Cond.instanceMethod yX0_comesAboutByItself, Cond.selects RX0 yX0_comesAboutByItself yX0_comesAboutByItself, Cond.code yX0_comesAboutByItself cX0_comesAboutByItself 1 (some .boolean), Cond.methodLink RX0 169 yX0_leaderFails, Cond.instanceMethod yX0_leaderFails, Cond.selects RX0 yX0_leaderFails yX0_leaderFails, Cond.code yX0_leaderFails cX0_leaderFails 2 (some .boolean), Cond.methodLink RX0 172 yX0_courseIsLost, Cond.instanceMethod yX0_courseIsLost, Cond.selects RX0 yX0_courseIsLost yX0_courseIsLost, Cond.code yX0_courseIsLost cX0_courseIsLost 2 (some .boolean)]
def wsL_law0_r7 : List Cond := [Cond.methodLink RX0 175 yX0_pathIsLost, Cond.instanceMethod yX0_pathIsLost, Cond.selects RX0 yX0_pathIsLost yX0_pathIsLost, Cond.code yX0_pathIsLost cX0_pathIsLost 2 (some .boolean), Cond.methodLink RX0 178 yX0_navIsReached, Cond.instanceMethod yX0_navIsReached, Cond.selects RX0 yX0_navIsReached yX0_navIsReached, Cond.code yX0_navIsReached cX0_navIsReached 1 (some .boolean), Cond.methodLink RX0 199 yX0_isCourseWithin, Cond.instanceMethod yX0_isCourseWithin, Cond.selects RX0 yX0_isCourseWithin yX0_isCourseWithin, Cond.code yX0_isCourseWithin cX0_isCourseWithin 2 (some .boolean), Cond.methodLink RX0 118 Lib.Math.abs.name, Cond.static Lib.Math.abs.name, Cond.initialized "java/lang/Math", Cond.code Lib.Math.abs.name Lib.Math.abs.code 1 (some .int), Cond.methodLink RX0 181 yX0_approachIsReached, Cond.instanceMethod yX0_approachIsReached, Cond.selects RX0 yX0_approachIsReached yX0_approachIsReached, Cond.code yX0_approachIsReached cX0_approachIsReached 1 (some .boolean), Cond.methodLink RX0 184 yX0_glideIsReached, Cond.instanceMethod yX0_glideIsReached, Cond.selects RX0 yX0_glideIsReached yX0_glideIsReached, Cond.code yX0_glideIsReached cX0_glideIsReached 1 (some .boolean)]
def wsL_law0_r8 : List Cond := [Cond.methodLink RX0 202 yX0_isPathWithin, Cond.instanceMethod yX0_isPathWithin, Cond.selects RX0 yX0_isPathWithin yX0_isPathWithin, Cond.code yX0_isPathWithin cX0_isPathWithin 2 (some .boolean), Cond.methodLink RX0 187 yX0_heightComesNear, Cond.instanceMethod yX0_heightComesNear, Cond.selects RX0 yX0_heightComesNear yX0_heightComesNear, Cond.code yX0_heightComesNear cX0_heightComesNear 1 (some .boolean), Cond.methodLink RX0 99 yX0_isCaptureArmed, Cond.instanceMethod yX0_isCaptureArmed, Cond.selects RX0 yX0_isCaptureArmed yX0_isCaptureArmed, Cond.code yX0_isCaptureArmed cX0_isCaptureArmed 2 (some .boolean), Cond.methodLink RX0 205 yX0_isHeightWithin, Cond.instanceMethod yX0_isHeightWithin, Cond.selects RX0 yX0_isHeightWithin yX0_isHeightWithin, Cond.code yX0_isHeightWithin cX0_isHeightWithin 2 (some .boolean), Cond.methodLink RX0 190 yX0_heightIsReached, Cond.instanceMethod yX0_heightIsReached, Cond.selects RX0 yX0_heightIsReached yX0_heightIsReached, Cond.code yX0_heightIsReached cX0_heightIsReached 1 (some .boolean), Cond.methodLink RX0 193 yX0_heightIsLost, Cond.instanceMethod yX0_heightIsLost, Cond.selects RX0 yX0_heightIsLost yX0_heightIsLost, Cond.code yX0_heightIsLost cX0_heightIsLost 1 (some .boolean)]
def wsL_law0_r9 : List Cond := [Cond.methodLink RX0 196 yX0_climbIsTooFast, Cond.instanceMethod yX0_climbIsTooFast, Cond.selects RX0 yX0_climbIsTooFast yX0_climbIsTooFast, Cond.code yX0_climbIsTooFast cX0_climbIsTooFast 1 (some .boolean), Cond.methodLink RX0 74 yX0_isTooFast, Cond.instanceMethod yX0_isTooFast, Cond.selects RX0 yX0_isTooFast yX0_isTooFast, Cond.code yX0_isTooFast cX0_isTooFast 1 (some .boolean), Cond.methodLink RL 45 yX1_press, Cond.instanceMethod yX1_press, Cond.selects RX1 yX1_press yX1_press, Cond.code yX1_press cX1_press 5 (some .int), Cond.fieldLink RX1 33 "ModeDeskModel" "flash0" "I", Cond.fieldLink RX1 39 "ModeDeskModel" "flash1" "I", Cond.fieldLink RX1 65 "ModeDeskModel" "bad0" "Z", Cond.fieldLink RX1 68 "ModeDeskModel" "bad1" "Z", Cond.fieldLink RX1 26 "ModeDeskModel" "lateral" "I", Cond.methodLink RX1 105 yX1_good, Cond.instanceMethod yX1_good, Cond.selects RX1 yX1_good yX1_good, Cond.code yX1_good cX1_good 2 (some .boolean), Cond.fieldLink RX1 20 "ModeDeskModel" "thrown" "I", Cond.methodLink RX1 109 yX1_sum, Cond.instanceMethod yX1_sum]
def wsL_law0_r10 : List Cond := [Cond.selects RX1 yX1_sum yX1_sum, Cond.code yX1_sum cX1_sum 1 (some .int), Cond.fieldLink RX1 36 "ModeDeskModel" "vertical" "I", Cond.fieldLink RX1 42 "ModeDeskModel" "armedLateral" "I", Cond.fieldLink RX1 45 "ModeDeskModel" "armedGlide" "Z", Cond.fieldLink RX1 62 "ModeDeskModel" "engaged" "Z", Cond.methodLink RX1 102 yX1_base, Cond.instanceMethod yX1_base, Cond.selects RX1 yX1_base yX1_base, Cond.code yX1_base cX1_base 2 none, Cond.methodLink RX1 49 yX1_noneArmed, Cond.instanceMethod yX1_noneArmed, Cond.selects RX1 yX1_noneArmed yX1_noneArmed, Cond.code yX1_noneArmed cX1_noneArmed 1 none, Cond.methodLink RX1 52 yX1_lateralTo, Cond.instanceMethod yX1_lateralTo, Cond.selects RX1 yX1_lateralTo yX1_lateralTo, Cond.code yX1_lateralTo cX1_lateralTo 3 none, Cond.methodLink RX1 29 yX1_keep, Cond.instanceMethod yX1_keep, Cond.selects RX1 yX1_keep yX1_keep, Cond.code yX1_keep cX1_keep 5 none, Cond.fieldLink RX1 23 "ModeDeskModel" "kept" "I", Cond.methodLink RX1 56 yX1_verticalTo]
def wsL_law0_r11 : List Cond := [Cond.instanceMethod yX1_verticalTo, Cond.selects RX1 yX1_verticalTo yX1_verticalTo, Cond.code yX1_verticalTo cX1_verticalTo 3 none, Cond.methodLink RX1 112 yX1_button, Cond.instanceMethod yX1_button, Cond.selects RX1 yX1_button yX1_button, Cond.code yX1_button cX1_button 2 none, Cond.fieldLink RX1 59 "ModeDeskModel" "warning" "Z", Cond.methodLink RX1 93 yX1_outOfApproach, Cond.instanceMethod yX1_outOfApproach, Cond.selects RX1 yX1_outOfApproach yX1_outOfApproach, Cond.code yX1_outOfApproach cX1_outOfApproach 3 none, Cond.methodLink RX1 96 yX1_navButton, Cond.instanceMethod yX1_navButton, Cond.selects RX1 yX1_navButton yX1_navButton, Cond.code yX1_navButton cX1_navButton 1 none, Cond.methodLink RX1 99 yX1_approachButton, Cond.instanceMethod yX1_approachButton, Cond.selects RX1 yX1_approachButton yX1_approachButton, Cond.code yX1_approachButton cX1_approachButton 1 none, Cond.methodLink RX1 75 yX1_isBad, Cond.instanceMethod yX1_isBad, Cond.selects RX1 yX1_isBad yX1_isBad, Cond.code yX1_isBad cX1_isBad 2 (some .boolean)]
def wsL_law0_r12 : List Cond := [Cond.methodLink RX1 83 yX1_goOff, Cond.instanceMethod yX1_goOff, Cond.selects RX1 yX1_goOff yX1_goOff, Cond.code yX1_goOff cX1_goOff 2 none, Cond.methodLink RX1 115 yX1_settle, Cond.instanceMethod yX1_settle, Cond.selects RX1 yX1_settle yX1_settle, Cond.code yX1_settle cX1_settle 3 (some .int), Cond.methodLink RX1 87 yX1_rule, Cond.instanceMethod yX1_rule, Cond.selects RX1 yX1_rule yX1_rule, Cond.code yX1_rule cX1_rule 3 (some .int), Cond.methodLink RX1 71 yX1_size, Cond.static yX1_size, Cond.code yX1_size cX1_size 1 (some .int), Cond.methodLink RX1 79 yX1_apart, Cond.instanceMethod yX1_apart, Cond.selects RX1 yX1_apart yX1_apart, Cond.code yX1_apart cX1_apart 1 (some .int), Cond.methodLink RX1 90 yX1_comes, Cond.instanceMethod yX1_comes, Cond.selects RX1 yX1_comes yX1_comes, Cond.code yX1_comes cX1_comes 2 none, Cond.methodLink RL 46 yX1_thrown]
def wsL_law0_r13 : List Cond := [Cond.instanceMethod yX1_thrown, Cond.selects RX1 yX1_thrown yX1_thrown, Cond.code yX1_thrown cX1_thrown 1 (some .int), Cond.methodLink RL 50 yL_sense, Cond.static yL_sense, Cond.codeWith yL_sense cL_sense 5 (some .int) [(0, 10, 13, 13)], Cond.methodLink RL 15 yX0_sense, Cond.instanceMethod yX0_sense, Cond.selects RX0 yX0_sense yX0_sense, Cond.code yX0_sense cX0_sense 3 (some .int), Cond.fieldLink RX0 53 "ModeDesk" "LOWEST" "[I", Cond.fieldLink RX0 56 "ModeDesk" "HIGHEST" "[I", Cond.methodLink RX0 47 yX0_isMeasure, Cond.static yX0_isMeasure, Cond.code yX0_isMeasure cX0_isMeasure 1 (some .boolean), Cond.methodLink RL 53 yX1_sense, Cond.instanceMethod yX1_sense, Cond.selects RX1 yX1_sense yX1_sense, Cond.code yX1_sense cX1_sense 5 (some .int), Cond.constant RX1 118 (50000), Cond.methodLink RL 54 yL_channel, Cond.static yL_channel, Cond.codeWith yL_channel cL_channel 5 (some .int) [(0, 10, 13, 13)], Cond.methodLink RL 19 yX0_channel]
def wsL_law0_r14 : List Cond := [Cond.instanceMethod yX0_channel, Cond.selects RX0 yX0_channel yX0_channel, Cond.code yX0_channel cX0_channel 3 (some .int), Cond.methodLink RL 57 yX1_channel, Cond.instanceMethod yX1_channel, Cond.selects RX1 yX1_channel yX1_channel, Cond.code yX1_channel cX1_channel 3 (some .int), Cond.methodLink RL 58 yX0_engage, Cond.instanceMethod yX0_engage, Cond.selects RX0 yX0_engage yX0_engage, Cond.code yX0_engage cX0_engage 1 (some .int), Cond.methodLink RX0 71 yX0_isAroundAnywhere, Cond.instanceMethod yX0_isAroundAnywhere, Cond.selects RX0 yX0_isAroundAnywhere yX0_isAroundAnywhere, Cond.code yX0_isAroundAnywhere cX0_isAroundAnywhere 1 (some .boolean), Cond.methodLink RL 61 yX1_engage, Cond.instanceMethod yX1_engage, Cond.selects RX1 yX1_engage yX1_engage, Cond.code yX1_engage cX1_engage 2 (some .int), Cond.methodLink RL 62 yX0_disconnect, Cond.instanceMethod yX0_disconnect, Cond.selects RX0 yX0_disconnect yX0_disconnect, Cond.code yX0_disconnect cX0_disconnect 1 (some .int), Cond.methodLink RL 65 yX1_disconnect]
def wsL_law0_r15 : List Cond := [Cond.instanceMethod yX1_disconnect, Cond.selects RX1 yX1_disconnect yX1_disconnect, Cond.code yX1_disconnect cX1_disconnect 2 (some .int), Cond.methodLink RL 66 yL_step, Cond.static yL_step, Cond.codeWith yL_step cL_step 4 (some .int) [(0, 9, 12, 13)], Cond.methodLink RL 23 yX0_step, Cond.instanceMethod yX0_step, Cond.selects RX0 yX0_step yX0_step, Cond.code yX0_step cX0_step 4 (some .int), Cond.methodLink RL 68 yX1_step, Cond.instanceMethod yX1_step, Cond.selects RX1 yX1_step yX1_step, Cond.code yX1_step cX1_step 3 (some .int), Cond.methodLink RL 69 yL_mode, Cond.static yL_mode, Cond.codeWith yL_mode cL_mode 4 (some .int) [(0, 9, 12, 13)], Cond.methodLink RL 26 yX0_mode, Cond.instanceMethod yX0_mode, Cond.selects RX0 yX0_mode yX0_mode, Cond.code yX0_mode cX0_mode 2 (some .int), Cond.methodLink RL 71 yX1_mode, Cond.instanceMethod yX1_mode, Cond.selects RX1 yX1_mode yX1_mode]
def wsL_law0_r16 : List Cond := [Cond.code yX1_mode cX1_mode 2 (some .int), Cond.methodLink RL 72 yL_armed, Cond.static yL_armed, Cond.codeWith yL_armed cL_armed 4 (some .int) [(0, 16, 19, 13)], Cond.methodLink RL 29 yX0_armed, Cond.instanceMethod yX0_armed, Cond.selects RX0 yX0_armed yX0_armed, Cond.code yX0_armed cX0_armed 2 (some .boolean), Cond.methodLink RL 74 yX1_armed, Cond.instanceMethod yX1_armed, Cond.selects RX1 yX1_armed yX1_armed, Cond.code yX1_armed cX1_armed 2 (some .boolean), Cond.methodLink RL 75 yX0_shown, Cond.instanceMethod yX0_shown, Cond.selects RX0 yX0_shown yX0_shown, Cond.code yX0_shown cX0_shown 1 (some .int), Cond.methodLink RL 78 yX1_shown, Cond.instanceMethod yX1_shown, Cond.selects RX1 yX1_shown yX1_shown, Cond.code yX1_shown cX1_shown 2 (some .int), Cond.methodLink RL 79 yX0_kept, Cond.instanceMethod yX0_kept, Cond.selects RX0 yX0_kept yX0_kept, Cond.code yX0_kept cX0_kept 4 (some .int)]
def wsL_law0_r17 : List Cond := [Cond.methodLink RL 82 yX1_kept, Cond.instanceMethod yX1_kept, Cond.selects RX1 yX1_kept yX1_kept, Cond.code yX1_kept cX1_kept 3 (some .int), Cond.methodLink RL 83 yL_measure, Cond.static yL_measure, Cond.codeWith yL_measure cL_measure 4 (some .int) [(0, 9, 12, 13)], Cond.methodLink RL 33 yX0_measure, Cond.instanceMethod yX0_measure, Cond.selects RX0 yX0_measure yX0_measure, Cond.code yX0_measure cX0_measure 2 (some .int), Cond.methodLink RL 85 yX1_measure, Cond.instanceMethod yX1_measure, Cond.selects RX1 yX1_measure yX1_measure, Cond.code yX1_measure cX1_measure 2 (some .int)]
def wsL_law0 : List Cond := (wsL_law0_r1 ++ (wsL_law0_r2 ++ (wsL_law0_r3 ++ (wsL_law0_r4 ++ (wsL_law0_r5 ++ (wsL_law0_r6 ++ (wsL_law0_r7 ++ (wsL_law0_r8 ++ (wsL_law0_r9 ++ (wsL_law0_r10 ++ (wsL_law0_r11 ++ (wsL_law0_r12 ++ (wsL_law0_r13 ++ (wsL_law0_r14 ++ (wsL_law0_r15 ++ (wsL_law0_r16 ++ wsL_law0_r17)))))))))))))))) ++ wsX00 ++ wsX10 ++ ([] : List Cond)
def wsL_law : List Cond := wsL_law0 ++ (vx_atS RX0 30 "java/lang/IllegalArgumentException" ["java/lang/RuntimeException", "java/lang/Exception"]).filter goodWord
theorem dX0_init_0 : decode cX0_init 0 = .ok (.aload_n 0, 1) := by decide +kernel
theorem dX0_init_1 : decode cX0_init 1 = .ok (.invokespecial 1, 3) := by decide +kernel
theorem dX0_init_4 : decode cX0_init 4 = .ok (.aload_n 0, 1) := by decide +kernel
theorem dX0_init_5 : decode cX0_init 5 = .ok (.iconst 2, 1) := by decide +kernel
theorem dX0_init_6 : decode cX0_init 6 = .ok (.newarray .int, 2) := by decide +kernel
theorem dX0_init_8 : decode cX0_init 8 = .ok (.putfield 7, 3) := by decide +kernel
theorem dX0_init_11 : decode cX0_init 11 = .ok (.aload_n 0, 1) := by decide +kernel
theorem dX0_init_12 : decode cX0_init 12 = .ok (.iconst 2, 1) := by decide +kernel
theorem dX0_init_13 : decode cX0_init 13 = .ok (.newarray .int, 2) := by decide +kernel
theorem dX0_init_15 : decode cX0_init 15 = .ok (.putfield 13, 3) := by decide +kernel
theorem dX0_init_18 : decode cX0_init 18 = .ok (.aload_n 0, 1) := by decide +kernel
theorem dX0_init_19 : decode cX0_init 19 = .ok (.bipush 7, 2) := by decide +kernel
theorem dX0_init_21 : decode cX0_init 21 = .ok (.newarray .int, 2) := by decide +kernel
theorem dX0_init_23 : decode cX0_init 23 = .ok (.putfield 16, 3) := by decide +kernel
theorem dX0_init_26 : decode cX0_init 26 = .ok (.aload_n 0, 1) := by decide +kernel
theorem dX0_init_27 : decode cX0_init 27 = .ok (.iconst 2, 1) := by decide +kernel
theorem dX0_init_28 : decode cX0_init 28 = .ok (.newarray .boolean, 2) := by decide +kernel
theorem dX0_init_30 : decode cX0_init 30 = .ok (.putfield 19, 3) := by decide +kernel
theorem dX0_init_33 : decode cX0_init 33 = .ok (.aload_n 0, 1) := by decide +kernel
theorem dX0_init_34 : decode cX0_init 34 = .ok (.sipush 300, 3) := by decide +kernel
theorem dX0_init_37 : decode cX0_init 37 = .ok (.newarray .int, 2) := by decide +kernel
theorem dX0_init_39 : decode cX0_init 39 = .ok (.putfield 23, 3) := by decide +kernel
theorem dX0_init_42 : decode cX0_init 42 = .ok (.aload_n 0, 1) := by decide +kernel
theorem dX0_init_43 : decode cX0_init 43 = .ok (.getfield 19, 3) := by decide +kernel
theorem dX0_init_46 : decode cX0_init 46 = .ok (.iconst 0, 1) := by decide +kernel
theorem dX0_init_47 : decode cX0_init 47 = .ok (.iconst 1, 1) := by decide +kernel
theorem dX0_init_48 : decode cX0_init 48 = .ok (.bastore, 1) := by decide +kernel
theorem dX0_init_49 : decode cX0_init 49 = .ok (.aload_n 0, 1) := by decide +kernel
theorem dX0_init_50 : decode cX0_init 50 = .ok (.getfield 19, 3) := by decide +kernel
theorem dX0_init_53 : decode cX0_init 53 = .ok (.iconst 1, 1) := by decide +kernel
theorem dX0_init_54 : decode cX0_init 54 = .ok (.iconst 1, 1) := by decide +kernel
theorem dX0_init_55 : decode cX0_init 55 = .ok (.bastore, 1) := by decide +kernel
theorem dX0_init_56 : decode cX0_init 56 = .ok (.return_, 1) := by decide +kernel
set_option maxRecDepth 20000 in
theorem ggX0_press_X0_stateAsNumber : GoodIn wsX0_press wsX0_stateAsNumber := goodIn_r _ [7, 8, 9, 10, 11, 12, 13, 14, 15, 6, 16, 171, 172, 173, 174, 175, 176, 177, 178, 179, 180, 181, 182] (by decide +kernel) (by decide +kernel)
set_option maxRecDepth 20000 in
theorem gX0_press_X0_stateAsNumber : GoodIn wsX0_press (wsV RX0 33 RX0 yX0_stateAsNumber wsX0_stateAsNumber) := goodIn_app (goodIn_of _ (by decide +kernel)) ggX0_press_X0_stateAsNumber
set_option maxRecDepth 20000 in
theorem ggX0_press_X0_stopFlashing : GoodIn wsX0_press wsX0_stopFlashing := goodIn_r _ [20, 21, 171, 172, 173, 174, 175, 176, 177, 178, 179, 180, 181, 182] (by decide +kernel) (by decide +kernel)
set_option maxRecDepth 20000 in
theorem gX0_press_X0_stopFlashing : GoodIn wsX0_press (wsV RX0 37 RX0 yX0_stopFlashing wsX0_stopFlashing) := goodIn_app (goodIn_of _ (by decide +kernel)) ggX0_press_X0_stopFlashing
set_option maxRecDepth 20000 in
theorem ggX0_press_X0_obey : GoodIn wsX0_press wsX0_obey := goodIn_r _ [25, 26, 27, 28, 6, 29, 30, 31, 32, 33, 34, 35, 36, 37, 38, 8, 39, 40, 41, 42, 43, 44, 45, 46, 21, 47, 48, 14, 15, 16, 49, 50, 51, 52, 9, 10, 11, 53, 54, 55, 56, 57, 58, 59, 60, 61, 62, 63, 64, 65, 66, 67, 68, 69, 70, 71, 72, 73, 74, 75, 76, 77, 78, 79, 80, 12, 81, 82, 83, 84, 85, 86, 87, 88, 89, 13, 90, 91, 92, 93, 94, 95, 96, 97, 17, 18, 19, 20, 171, 172, 173, 174, 175, 176, 177, 178, 179, 180, 181, 182] (by decide +kernel) (by decide +kernel)
set_option maxRecDepth 20000 in
theorem gX0_press_X0_obey : GoodIn wsX0_press (wsV RX0 40 RX0 yX0_obey wsX0_obey) := goodIn_app (goodIn_of _ (by decide +kernel)) ggX0_press_X0_obey
set_option maxRecDepth 20000 in
theorem ggX0_press_X0_settle : GoodIn wsX0_press wsX0_settle := goodIn_r _ [101, 102, 103, 104, 6, 105, 106, 107, 108, 109, 30, 13, 35, 36, 37, 38, 8, 94, 95, 96, 97, 43, 44, 45, 46, 21, 47, 48, 14, 15, 16, 49, 50, 51, 52, 9, 10, 11, 77, 78, 79, 80, 12, 81, 17, 18, 19, 20, 110, 111, 112, 113, 114, 57, 58, 59, 60, 115, 116, 117, 118, 119, 120, 121, 122, 123, 124, 125, 126, 127, 128, 129, 130, 131, 132, 133, 134, 135, 136, 137, 138, 139, 140, 141, 142, 143, 144, 145, 146, 147, 148, 149, 150, 151, 152, 153, 154, 155, 156, 157, 158, 159, 160, 161, 162, 163, 164, 165, 166, 167, 168, 169, 170, 171, 172, 173, 174, 175, 176, 177, 178, 179, 180, 181, 182] (by decide +kernel) (by decide +kernel)
set_option maxRecDepth 20000 in
theorem gX0_press_X0_settle : GoodIn wsX0_press (wsV RX0 44 RX0 yX0_settle wsX0_settle) := goodIn_app (goodIn_of _ (by decide +kernel)) ggX0_press_X0_settle
theorem dX0_press_0 : decode cX0_press 0 = .ok (.iload_n 1, 1) := by decide +kernel
theorem dX0_press_1 : decode cX0_press 1 = .ok (.ifCond .lt 9, 3) := by decide +kernel
theorem dX0_press_4 : decode cX0_press 4 = .ok (.iload_n 1, 1) := by decide +kernel
theorem dX0_press_5 : decode cX0_press 5 = .ok (.bipush 10, 2) := by decide +kernel
theorem dX0_press_7 : decode cX0_press 7 = .ok (.if_icmp .lt 13, 3) := by decide +kernel
theorem dX0_press_10 : decode cX0_press 10 = .ok (.new 26, 3) := by decide +kernel
theorem dX0_press_13 : decode cX0_press 13 = .ok (.dup, 1) := by decide +kernel
theorem dX0_press_14 : decode cX0_press 14 = .ok (.ldc 28, 2) := by decide +kernel
theorem dX0_press_16 : decode cX0_press 16 = .ok (.invokespecial 30, 3) := by decide +kernel
theorem dX0_press_19 : decode cX0_press 19 = .ok (.athrow, 1) := by decide +kernel
theorem dX0_press_20 : decode cX0_press 20 = .ok (.aload_n 0, 1) := by decide +kernel
theorem dX0_press_21 : decode cX0_press 21 = .ok (.invokevirtual 33, 3) := by decide +kernel
theorem dX0_press_24 : decode cX0_press 24 = .ok (.istore_n 2, 1) := by decide +kernel
theorem dX0_press_25 : decode cX0_press 25 = .ok (.aload_n 0, 1) := by decide +kernel
theorem dX0_press_26 : decode cX0_press 26 = .ok (.invokevirtual 37, 3) := by decide +kernel
theorem dX0_press_29 : decode cX0_press 29 = .ok (.aload_n 0, 1) := by decide +kernel
theorem dX0_press_30 : decode cX0_press 30 = .ok (.iload_n 1, 1) := by decide +kernel
theorem dX0_press_31 : decode cX0_press 31 = .ok (.invokevirtual 40, 3) := by decide +kernel
theorem dX0_press_34 : decode cX0_press 34 = .ok (.aload_n 0, 1) := by decide +kernel
theorem dX0_press_35 : decode cX0_press 35 = .ok (.invokevirtual 44, 3) := by decide +kernel
theorem dX0_press_38 : decode cX0_press 38 = .ok (.pop, 1) := by decide +kernel
theorem dX0_press_39 : decode cX0_press 39 = .ok (.aload_n 0, 1) := by decide +kernel
theorem dX0_press_40 : decode cX0_press 40 = .ok (.invokevirtual 33, 3) := by decide +kernel
theorem dX0_press_43 : decode cX0_press 43 = .ok (.iload_n 2, 1) := by decide +kernel
theorem dX0_press_44 : decode cX0_press 44 = .ok (.if_icmp .ne 7, 3) := by decide +kernel
theorem dX0_press_47 : decode cX0_press 47 = .ok (.iconst 0, 1) := by decide +kernel
theorem dX0_press_48 : decode cX0_press 48 = .ok (.goto 4, 3) := by decide +kernel
theorem dX0_press_51 : decode cX0_press 51 = .ok (.iconst 1, 1) := by decide +kernel
theorem dX0_press_52 : decode cX0_press 52 = .ok (.ireturn, 1) := by decide +kernel
set_option maxRecDepth 20000 in
theorem ggX0_sense_X0_isMeasure : GoodIn wsX0_sense wsX0_isMeasure := goodIn_r _ [9] (by decide +kernel) (by decide +kernel)
set_option maxRecDepth 20000 in
theorem gX0_sense_X0_isMeasure : GoodIn wsX0_sense (va_wsS RX0 47 yX0_isMeasure wsX0_isMeasure) := goodIn_app (goodIn_of _ (by decide +kernel)) ggX0_sense_X0_isMeasure
set_option maxRecDepth 20000 in
theorem ggX0_sense_X0_settle : GoodIn wsX0_sense wsX0_settle := goodIn_r _ [13, 14, 15, 16, 8, 17, 18, 19, 20, 21, 22, 23, 24, 25, 26, 27, 28, 29, 30, 31, 32, 33, 34, 35, 36, 37, 38, 39, 40, 41, 42, 43, 44, 45, 46, 47, 48, 49, 50, 51, 52, 53, 54, 55, 56, 57, 58, 59, 60, 61, 62, 63, 5, 64, 65, 66, 67, 68, 69, 70, 71, 72, 73, 74, 75, 76, 77, 78, 79, 80, 81, 82, 83, 84, 85, 86, 87, 88, 89, 90, 91, 92, 93, 94, 95, 96, 97, 98, 99, 100, 101, 102, 103, 104, 105, 106, 107, 108, 109, 110, 111, 112, 113, 114, 115, 116, 117, 118, 119, 120, 121, 122, 123, 124, 125, 126, 127, 128, 129, 130, 131, 132, 133, 134, 135] (by decide +kernel) (by decide +kernel)
set_option maxRecDepth 20000 in
theorem gX0_sense_X0_settle : GoodIn wsX0_sense (wsV RX0 44 RX0 yX0_settle wsX0_settle) := goodIn_app (goodIn_of _ (by decide +kernel)) ggX0_sense_X0_settle
theorem dX0_sense_0 : decode cX0_sense 0 = .ok (.iload_n 1, 1) := by decide +kernel
theorem dX0_sense_1 : decode cX0_sense 1 = .ok (.invokestatic 47, 3) := by decide +kernel
theorem dX0_sense_4 : decode cX0_sense 4 = .ok (.ifCond .ne 13, 3) := by decide +kernel
theorem dX0_sense_7 : decode cX0_sense 7 = .ok (.new 26, 3) := by decide +kernel
theorem dX0_sense_10 : decode cX0_sense 10 = .ok (.dup, 1) := by decide +kernel
theorem dX0_sense_11 : decode cX0_sense 11 = .ok (.ldc 51, 2) := by decide +kernel
theorem dX0_sense_13 : decode cX0_sense 13 = .ok (.invokespecial 30, 3) := by decide +kernel
theorem dX0_sense_16 : decode cX0_sense 16 = .ok (.athrow, 1) := by decide +kernel
theorem dX0_sense_17 : decode cX0_sense 17 = .ok (.iload_n 2, 1) := by decide +kernel
theorem dX0_sense_18 : decode cX0_sense 18 = .ok (.getstatic 53, 3) := by decide +kernel
theorem dX0_sense_21 : decode cX0_sense 21 = .ok (.iload_n 1, 1) := by decide +kernel
theorem dX0_sense_22 : decode cX0_sense 22 = .ok (.iaload, 1) := by decide +kernel
theorem dX0_sense_23 : decode cX0_sense 23 = .ok (.if_icmp .lt 12, 3) := by decide +kernel
theorem dX0_sense_26 : decode cX0_sense 26 = .ok (.iload_n 2, 1) := by decide +kernel
theorem dX0_sense_27 : decode cX0_sense 27 = .ok (.getstatic 56, 3) := by decide +kernel
theorem dX0_sense_30 : decode cX0_sense 30 = .ok (.iload_n 1, 1) := by decide +kernel
theorem dX0_sense_31 : decode cX0_sense 31 = .ok (.iaload, 1) := by decide +kernel
theorem dX0_sense_32 : decode cX0_sense 32 = .ok (.if_icmp .le 13, 3) := by decide +kernel
theorem dX0_sense_35 : decode cX0_sense 35 = .ok (.new 26, 3) := by decide +kernel
theorem dX0_sense_38 : decode cX0_sense 38 = .ok (.dup, 1) := by decide +kernel
theorem dX0_sense_39 : decode cX0_sense 39 = .ok (.ldc 59, 2) := by decide +kernel
theorem dX0_sense_41 : decode cX0_sense 41 = .ok (.invokespecial 30, 3) := by decide +kernel
theorem dX0_sense_44 : decode cX0_sense 44 = .ok (.athrow, 1) := by decide +kernel
theorem dX0_sense_45 : decode cX0_sense 45 = .ok (.aload_n 0, 1) := by decide +kernel
theorem dX0_sense_46 : decode cX0_sense 46 = .ok (.getfield 16, 3) := by decide +kernel
theorem dX0_sense_49 : decode cX0_sense 49 = .ok (.iload_n 1, 1) := by decide +kernel
theorem dX0_sense_50 : decode cX0_sense 50 = .ok (.iload_n 2, 1) := by decide +kernel
theorem dX0_sense_51 : decode cX0_sense 51 = .ok (.iastore, 1) := by decide +kernel
theorem dX0_sense_52 : decode cX0_sense 52 = .ok (.aload_n 0, 1) := by decide +kernel
theorem dX0_sense_53 : decode cX0_sense 53 = .ok (.invokevirtual 44, 3) := by decide +kernel
theorem dX0_sense_56 : decode cX0_sense 56 = .ok (.ireturn, 1) := by decide +kernel
set_option maxRecDepth 20000 in
theorem ggX0_channel_X0_settle : GoodIn wsX0_channel wsX0_settle := goodIn_r _ [8, 9, 10, 11, 7, 12, 13, 14, 15, 16, 3, 17, 18, 19, 20, 21, 22, 23, 24, 25, 26, 27, 28, 29, 30, 31, 32, 33, 34, 35, 36, 37, 38, 39, 40, 41, 42, 43, 44, 45, 46, 47, 48, 49, 50, 51, 52, 53, 54, 55, 56, 57, 58, 59, 60, 61, 62, 63, 64, 65, 66, 67, 68, 69, 70, 71, 72, 73, 74, 75, 76, 77, 78, 79, 80, 81, 82, 83, 84, 85, 86, 87, 88, 89, 90, 91, 92, 93, 94, 95, 96, 97, 98, 99, 100, 101, 102, 103, 104, 105, 106, 107, 108, 109, 110, 111, 112, 113, 114, 115, 116, 117, 118, 119, 120, 121, 122, 123, 124, 125, 126, 127, 128, 129, 130] (by decide +kernel) (by decide +kernel)
set_option maxRecDepth 20000 in
theorem gX0_channel_X0_settle : GoodIn wsX0_channel (wsV RX0 44 RX0 yX0_settle wsX0_settle) := goodIn_app (goodIn_of _ (by decide +kernel)) ggX0_channel_X0_settle
theorem dX0_channel_0 : decode cX0_channel 0 = .ok (.iload_n 1, 1) := by decide +kernel
theorem dX0_channel_1 : decode cX0_channel 1 = .ok (.ifCond .eq 18, 3) := by decide +kernel
theorem dX0_channel_4 : decode cX0_channel 4 = .ok (.iload_n 1, 1) := by decide +kernel
theorem dX0_channel_5 : decode cX0_channel 5 = .ok (.iconst 1, 1) := by decide +kernel
theorem dX0_channel_6 : decode cX0_channel 6 = .ok (.if_icmp .eq 13, 3) := by decide +kernel
theorem dX0_channel_9 : decode cX0_channel 9 = .ok (.new 26, 3) := by decide +kernel
theorem dX0_channel_12 : decode cX0_channel 12 = .ok (.dup, 1) := by decide +kernel
theorem dX0_channel_13 : decode cX0_channel 13 = .ok (.ldc 61, 2) := by decide +kernel
theorem dX0_channel_15 : decode cX0_channel 15 = .ok (.invokespecial 30, 3) := by decide +kernel
theorem dX0_channel_18 : decode cX0_channel 18 = .ok (.athrow, 1) := by decide +kernel
theorem dX0_channel_19 : decode cX0_channel 19 = .ok (.aload_n 0, 1) := by decide +kernel
theorem dX0_channel_20 : decode cX0_channel 20 = .ok (.getfield 19, 3) := by decide +kernel
theorem dX0_channel_23 : decode cX0_channel 23 = .ok (.iload_n 1, 1) := by decide +kernel
theorem dX0_channel_24 : decode cX0_channel 24 = .ok (.iload_n 2, 1) := by decide +kernel
theorem dX0_channel_25 : decode cX0_channel 25 = .ok (.bastore, 1) := by decide +kernel
theorem dX0_channel_26 : decode cX0_channel 26 = .ok (.aload_n 0, 1) := by decide +kernel
theorem dX0_channel_27 : decode cX0_channel 27 = .ok (.invokevirtual 44, 3) := by decide +kernel
theorem dX0_channel_30 : decode cX0_channel 30 = .ok (.ireturn, 1) := by decide +kernel
set_option maxRecDepth 20000 in
theorem ggX0_engage_X0_isAnyChannelSound : GoodIn wsX0_engage wsX0_isAnyChannelSound := goodIn_r _ [6, 7, 133, 134, 135, 136, 137, 138, 139, 140, 141, 142, 143, 144] (by decide +kernel) (by decide +kernel)
set_option maxRecDepth 20000 in
theorem gX0_engage_X0_isAnyChannelSound : GoodIn wsX0_engage (wsV RX0 67 RX0 yX0_isAnyChannelSound wsX0_isAnyChannelSound) := goodIn_app (goodIn_of _ (by decide +kernel)) ggX0_engage_X0_isAnyChannelSound
set_option maxRecDepth 20000 in
theorem ggX0_engage_X0_isAroundAnywhere : GoodIn wsX0_engage wsX0_isAroundAnywhere := goodIn_r _ [11, 12, 133, 134, 135, 136, 137, 138, 139, 140, 141, 142, 143, 144] (by decide +kernel) (by decide +kernel)
set_option maxRecDepth 20000 in
theorem gX0_engage_X0_isAroundAnywhere : GoodIn wsX0_engage (wsV RX0 71 RX0 yX0_isAroundAnywhere wsX0_isAroundAnywhere) := goodIn_app (goodIn_of _ (by decide +kernel)) ggX0_engage_X0_isAroundAnywhere
set_option maxRecDepth 20000 in
theorem ggX0_engage_X0_isTooFast : GoodIn wsX0_engage wsX0_isTooFast := goodIn_r _ [16, 17, 133, 134, 135, 136, 137, 138, 139, 140, 141, 142, 143, 144] (by decide +kernel) (by decide +kernel)
set_option maxRecDepth 20000 in
theorem gX0_engage_X0_isTooFast : GoodIn wsX0_engage (wsV RX0 74 RX0 yX0_isTooFast wsX0_isTooFast) := goodIn_app (goodIn_of _ (by decide +kernel)) ggX0_engage_X0_isTooFast
set_option maxRecDepth 20000 in
theorem ggX0_engage_X0_turnOnIfOff : GoodIn wsX0_engage wsX0_turnOnIfOff := goodIn_r _ [21, 22, 23, 24, 5, 25, 12, 26, 27, 28, 29, 30, 31, 32, 33, 34, 35, 36, 37, 38, 39, 40, 41, 42, 43, 44, 45, 46, 133, 134, 135, 136, 137, 138, 139, 140, 141, 142, 143, 144] (by decide +kernel) (by decide +kernel)
set_option maxRecDepth 20000 in
theorem gX0_engage_X0_turnOnIfOff : GoodIn wsX0_engage (wsV RX0 77 RX0 yX0_turnOnIfOff wsX0_turnOnIfOff) := goodIn_app (goodIn_of _ (by decide +kernel)) ggX0_engage_X0_turnOnIfOff
set_option maxRecDepth 20000 in
theorem ggX0_engage_X0_settle : GoodIn wsX0_engage wsX0_settle := goodIn_r _ [50, 51, 52, 53, 5, 54, 55, 56, 57, 58, 7, 59, 22, 23, 24, 25, 12, 60, 61, 62, 63, 30, 31, 32, 33, 34, 35, 36, 37, 38, 39, 40, 41, 42, 43, 44, 45, 46, 64, 65, 66, 67, 1, 68, 69, 70, 71, 72, 73, 74, 75, 76, 17, 77, 78, 79, 80, 81, 82, 83, 84, 85, 86, 87, 88, 89, 90, 91, 92, 93, 94, 95, 96, 97, 98, 99, 100, 101, 102, 103, 104, 105, 106, 107, 108, 109, 110, 111, 112, 113, 114, 115, 116, 117, 118, 119, 120, 121, 122, 123, 124, 125, 126, 127, 128, 129, 130, 131, 132, 13, 14, 15, 16, 133, 134, 135, 136, 137, 138, 139, 140, 141, 142, 143, 144] (by decide +kernel) (by decide +kernel)
set_option maxRecDepth 20000 in
theorem gX0_engage_X0_settle : GoodIn wsX0_engage (wsV RX0 44 RX0 yX0_settle wsX0_settle) := goodIn_app (goodIn_of _ (by decide +kernel)) ggX0_engage_X0_settle
theorem dX0_engage_0 : decode cX0_engage 0 = .ok (.aload_n 0, 1) := by decide +kernel
theorem dX0_engage_1 : decode cX0_engage 1 = .ok (.getfield 63, 3) := by decide +kernel
theorem dX0_engage_4 : decode cX0_engage 4 = .ok (.ifCond .ne 24, 3) := by decide +kernel
theorem dX0_engage_7 : decode cX0_engage 7 = .ok (.aload_n 0, 1) := by decide +kernel
theorem dX0_engage_8 : decode cX0_engage 8 = .ok (.invokevirtual 67, 3) := by decide +kernel
theorem dX0_engage_11 : decode cX0_engage 11 = .ok (.ifCond .eq 17, 3) := by decide +kernel
theorem dX0_engage_14 : decode cX0_engage 14 = .ok (.aload_n 0, 1) := by decide +kernel
theorem dX0_engage_15 : decode cX0_engage 15 = .ok (.invokevirtual 71, 3) := by decide +kernel
theorem dX0_engage_18 : decode cX0_engage 18 = .ok (.ifCond .ne 10, 3) := by decide +kernel
theorem dX0_engage_21 : decode cX0_engage 21 = .ok (.aload_n 0, 1) := by decide +kernel
theorem dX0_engage_22 : decode cX0_engage 22 = .ok (.invokevirtual 74, 3) := by decide +kernel
theorem dX0_engage_25 : decode cX0_engage 25 = .ok (.ifCond .eq 5, 3) := by decide +kernel
theorem dX0_engage_28 : decode cX0_engage 28 = .ok (.iconst 0, 1) := by decide +kernel
theorem dX0_engage_29 : decode cX0_engage 29 = .ok (.ireturn, 1) := by decide +kernel
theorem dX0_engage_30 : decode cX0_engage 30 = .ok (.aload_n 0, 1) := by decide +kernel
theorem dX0_engage_31 : decode cX0_engage 31 = .ok (.invokevirtual 77, 3) := by decide +kernel
theorem dX0_engage_34 : decode cX0_engage 34 = .ok (.aload_n 0, 1) := by decide +kernel
theorem dX0_engage_35 : decode cX0_engage 35 = .ok (.iconst 1, 1) := by decide +kernel
theorem dX0_engage_36 : decode cX0_engage 36 = .ok (.putfield 63, 3) := by decide +kernel
theorem dX0_engage_39 : decode cX0_engage 39 = .ok (.aload_n 0, 1) := by decide +kernel
theorem dX0_engage_40 : decode cX0_engage 40 = .ok (.invokevirtual 44, 3) := by decide +kernel
theorem dX0_engage_43 : decode cX0_engage 43 = .ok (.pop, 1) := by decide +kernel
theorem dX0_engage_44 : decode cX0_engage 44 = .ok (.iconst 1, 1) := by decide +kernel
theorem dX0_engage_45 : decode cX0_engage 45 = .ok (.ireturn, 1) := by decide +kernel
set_option maxRecDepth 20000 in
theorem ggX0_disconnect_X0_disengageWithWarning : GoodIn wsX0_disconnect wsX0_disengageWithWarning := goodIn_r _ [7, 1, 2, 8, 9, 10, 11, 12, 13, 14, 15, 16, 17, 18, 19] (by decide +kernel) (by decide +kernel)
set_option maxRecDepth 20000 in
theorem gX0_disconnect_X0_disengageWithWarning : GoodIn wsX0_disconnect (wsV RX0 80 RX0 yX0_disengageWithWarning wsX0_disengageWithWarning) := goodIn_app (goodIn_of _ (by decide +kernel)) ggX0_disconnect_X0_disengageWithWarning
theorem dX0_disconnect_0 : decode cX0_disconnect 0 = .ok (.aload_n 0, 1) := by decide +kernel
theorem dX0_disconnect_1 : decode cX0_disconnect 1 = .ok (.getfield 63, 3) := by decide +kernel
theorem dX0_disconnect_4 : decode cX0_disconnect 4 = .ok (.ifCond .eq 9, 3) := by decide +kernel
theorem dX0_disconnect_7 : decode cX0_disconnect 7 = .ok (.aload_n 0, 1) := by decide +kernel
theorem dX0_disconnect_8 : decode cX0_disconnect 8 = .ok (.invokevirtual 80, 3) := by decide +kernel
theorem dX0_disconnect_11 : decode cX0_disconnect 11 = .ok (.iconst 2, 1) := by decide +kernel
theorem dX0_disconnect_12 : decode cX0_disconnect 12 = .ok (.ireturn, 1) := by decide +kernel
theorem dX0_disconnect_13 : decode cX0_disconnect 13 = .ok (.aload_n 0, 1) := by decide +kernel
theorem dX0_disconnect_14 : decode cX0_disconnect 14 = .ok (.getfield 83, 3) := by decide +kernel
theorem dX0_disconnect_17 : decode cX0_disconnect 17 = .ok (.ifCond .eq 10, 3) := by decide +kernel
theorem dX0_disconnect_20 : decode cX0_disconnect 20 = .ok (.aload_n 0, 1) := by decide +kernel
theorem dX0_disconnect_21 : decode cX0_disconnect 21 = .ok (.iconst 0, 1) := by decide +kernel
theorem dX0_disconnect_22 : decode cX0_disconnect 22 = .ok (.putfield 83, 3) := by decide +kernel
theorem dX0_disconnect_25 : decode cX0_disconnect 25 = .ok (.iconst 1, 1) := by decide +kernel
theorem dX0_disconnect_26 : decode cX0_disconnect 26 = .ok (.ireturn, 1) := by decide +kernel
theorem dX0_disconnect_27 : decode cX0_disconnect 27 = .ok (.iconst 0, 1) := by decide +kernel
theorem dX0_disconnect_28 : decode cX0_disconnect 28 = .ok (.ireturn, 1) := by decide +kernel
theorem dX0_step_0 : decode cX0_step 0 = .ok (.iload_n 1, 1) := by decide +kernel
theorem dX0_step_1 : decode cX0_step 1 = .ok (.iconst 1, 1) := by decide +kernel
theorem dX0_step_2 : decode cX0_step 2 = .ok (.if_icmp .ge 13, 3) := by decide +kernel
theorem dX0_step_5 : decode cX0_step 5 = .ok (.new 26, 3) := by decide +kernel
theorem dX0_step_8 : decode cX0_step 8 = .ok (.dup, 1) := by decide +kernel
theorem dX0_step_9 : decode cX0_step 9 = .ok (.ldc 86, 2) := by decide +kernel
theorem dX0_step_11 : decode cX0_step 11 = .ok (.invokespecial 30, 3) := by decide +kernel
theorem dX0_step_14 : decode cX0_step 14 = .ok (.athrow, 1) := by decide +kernel
theorem dX0_step_15 : decode cX0_step 15 = .ok (.iconst 0, 1) := by decide +kernel
theorem dX0_step_16 : decode cX0_step 16 = .ok (.istore_n 2, 1) := by decide +kernel
theorem dX0_step_17 : decode cX0_step 17 = .ok (.iconst 0, 1) := by decide +kernel
theorem dX0_step_18 : decode cX0_step 18 = .ok (.istore_n 3, 1) := by decide +kernel
theorem dX0_step_19 : decode cX0_step 19 = .ok (.iload_n 3, 1) := by decide +kernel
theorem dX0_step_20 : decode cX0_step 20 = .ok (.iconst 1, 1) := by decide +kernel
theorem dX0_step_21 : decode cX0_step 21 = .ok (.if_icmp .gt 49, 3) := by decide +kernel
theorem dX0_step_24 : decode cX0_step 24 = .ok (.aload_n 0, 1) := by decide +kernel
theorem dX0_step_25 : decode cX0_step 25 = .ok (.getfield 13, 3) := by decide +kernel
theorem dX0_step_28 : decode cX0_step 28 = .ok (.iload_n 3, 1) := by decide +kernel
theorem dX0_step_29 : decode cX0_step 29 = .ok (.iload_n 1, 1) := by decide +kernel
theorem dX0_step_30 : decode cX0_step 30 = .ok (.aload_n 0, 1) := by decide +kernel
theorem dX0_step_31 : decode cX0_step 31 = .ok (.getfield 13, 3) := by decide +kernel
theorem dX0_step_34 : decode cX0_step 34 = .ok (.iload_n 3, 1) := by decide +kernel
theorem dX0_step_35 : decode cX0_step 35 = .ok (.iaload, 1) := by decide +kernel
theorem dX0_step_36 : decode cX0_step 36 = .ok (.if_icmp .lt 7, 3) := by decide +kernel
theorem dX0_step_39 : decode cX0_step 39 = .ok (.iconst 0, 1) := by decide +kernel
theorem dX0_step_40 : decode cX0_step 40 = .ok (.goto 11, 3) := by decide +kernel
theorem dX0_step_43 : decode cX0_step 43 = .ok (.aload_n 0, 1) := by decide +kernel
theorem dX0_step_44 : decode cX0_step 44 = .ok (.getfield 13, 3) := by decide +kernel
theorem dX0_step_47 : decode cX0_step 47 = .ok (.iload_n 3, 1) := by decide +kernel
theorem dX0_step_48 : decode cX0_step 48 = .ok (.iaload, 1) := by decide +kernel
theorem dX0_step_49 : decode cX0_step 49 = .ok (.iload_n 1, 1) := by decide +kernel
theorem dX0_step_50 : decode cX0_step 50 = .ok (.isub, 1) := by decide +kernel
theorem dX0_step_51 : decode cX0_step 51 = .ok (.iastore, 1) := by decide +kernel
theorem dX0_step_52 : decode cX0_step 52 = .ok (.aload_n 0, 1) := by decide +kernel
theorem dX0_step_53 : decode cX0_step 53 = .ok (.getfield 13, 3) := by decide +kernel
theorem dX0_step_56 : decode cX0_step 56 = .ok (.iload_n 3, 1) := by decide +kernel
theorem dX0_step_57 : decode cX0_step 57 = .ok (.iaload, 1) := by decide +kernel
theorem dX0_step_58 : decode cX0_step 58 = .ok (.ifCond .le 6, 3) := by decide +kernel
theorem dX0_step_61 : decode cX0_step 61 = .ok (.iinc 2 1, 3) := by decide +kernel
theorem dX0_step_64 : decode cX0_step 64 = .ok (.iinc 3 1, 3) := by decide +kernel
theorem dX0_step_67 : decode cX0_step 67 = .ok (.goto (-48), 3) := by decide +kernel
theorem dX0_step_70 : decode cX0_step 70 = .ok (.iload_n 2, 1) := by decide +kernel
theorem dX0_step_71 : decode cX0_step 71 = .ok (.ireturn, 1) := by decide +kernel
theorem dX0_mode_0 : decode cX0_mode 0 = .ok (.iload_n 1, 1) := by decide +kernel
theorem dX0_mode_1 : decode cX0_mode 1 = .ok (.ifCond .eq 18, 3) := by decide +kernel
theorem dX0_mode_4 : decode cX0_mode 4 = .ok (.iload_n 1, 1) := by decide +kernel
theorem dX0_mode_5 : decode cX0_mode 5 = .ok (.iconst 1, 1) := by decide +kernel
theorem dX0_mode_6 : decode cX0_mode 6 = .ok (.if_icmp .eq 13, 3) := by decide +kernel
theorem dX0_mode_9 : decode cX0_mode 9 = .ok (.new 26, 3) := by decide +kernel
theorem dX0_mode_12 : decode cX0_mode 12 = .ok (.dup, 1) := by decide +kernel
theorem dX0_mode_13 : decode cX0_mode 13 = .ok (.ldc 88, 2) := by decide +kernel
theorem dX0_mode_15 : decode cX0_mode 15 = .ok (.invokespecial 30, 3) := by decide +kernel
theorem dX0_mode_18 : decode cX0_mode 18 = .ok (.athrow, 1) := by decide +kernel
theorem dX0_mode_19 : decode cX0_mode 19 = .ok (.aload_n 0, 1) := by decide +kernel
theorem dX0_mode_20 : decode cX0_mode 20 = .ok (.getfield 7, 3) := by decide +kernel
theorem dX0_mode_23 : decode cX0_mode 23 = .ok (.iload_n 1, 1) := by decide +kernel
theorem dX0_mode_24 : decode cX0_mode 24 = .ok (.iaload, 1) := by decide +kernel
theorem dX0_mode_25 : decode cX0_mode 25 = .ok (.ireturn, 1) := by decide +kernel
set_option maxRecDepth 20000 in
theorem ggX0_armed_X0_isCaptureArmed : GoodIn wsX0_armed wsX0_isCaptureArmed := goodIn_r _ [10, 11, 12, 13, 14, 15, 16, 17, 18, 19, 20, 21, 22, 23] (by decide +kernel) (by decide +kernel)
set_option maxRecDepth 20000 in
theorem gX0_armed_X0_isCaptureArmed : GoodIn wsX0_armed (wsV RX0 99 RX0 yX0_isCaptureArmed wsX0_isCaptureArmed) := goodIn_app (goodIn_of _ (by decide +kernel)) ggX0_armed_X0_isCaptureArmed
theorem dX0_armed_0 : decode cX0_armed 0 = .ok (.iload_n 1, 1) := by decide +kernel
theorem dX0_armed_1 : decode cX0_armed 1 = .ok (.tableswitch 51 0 3 #[31, 36, 41, 46], 31) := by decide +kernel
theorem dX0_armed_32 : decode cX0_armed 32 = .ok (.aload_n 0, 1) := by decide +kernel
theorem dX0_armed_33 : decode cX0_armed 33 = .ok (.getfield 90, 3) := by decide +kernel
theorem dX0_armed_36 : decode cX0_armed 36 = .ok (.ireturn, 1) := by decide +kernel
theorem dX0_armed_37 : decode cX0_armed 37 = .ok (.aload_n 0, 1) := by decide +kernel
theorem dX0_armed_38 : decode cX0_armed 38 = .ok (.getfield 93, 3) := by decide +kernel
theorem dX0_armed_41 : decode cX0_armed 41 = .ok (.ireturn, 1) := by decide +kernel
theorem dX0_armed_42 : decode cX0_armed 42 = .ok (.aload_n 0, 1) := by decide +kernel
theorem dX0_armed_43 : decode cX0_armed 43 = .ok (.getfield 96, 3) := by decide +kernel
theorem dX0_armed_46 : decode cX0_armed 46 = .ok (.ireturn, 1) := by decide +kernel
theorem dX0_armed_47 : decode cX0_armed 47 = .ok (.aload_n 0, 1) := by decide +kernel
theorem dX0_armed_48 : decode cX0_armed 48 = .ok (.invokevirtual 99, 3) := by decide +kernel
theorem dX0_armed_51 : decode cX0_armed 51 = .ok (.ireturn, 1) := by decide +kernel
theorem dX0_armed_52 : decode cX0_armed 52 = .ok (.new 26, 3) := by decide +kernel
theorem dX0_armed_55 : decode cX0_armed 55 = .ok (.dup, 1) := by decide +kernel
theorem dX0_armed_56 : decode cX0_armed 56 = .ok (.ldc 102, 2) := by decide +kernel
theorem dX0_armed_58 : decode cX0_armed 58 = .ok (.invokespecial 30, 3) := by decide +kernel
theorem dX0_armed_61 : decode cX0_armed 61 = .ok (.athrow, 1) := by decide +kernel
set_option maxRecDepth 20000 in
theorem ggX0_shown_X0_isOn : GoodIn wsX0_shown wsX0_isOn := goodIn_r _ [9, 10, 14, 15, 16, 17, 18, 19, 20, 21, 22, 23, 24, 25] (by decide +kernel) (by decide +kernel)
set_option maxRecDepth 20000 in
theorem gX0_shown_X0_isOn : GoodIn wsX0_shown (wsV RX0 104 RX0 yX0_isOn wsX0_isOn) := goodIn_app (goodIn_of _ (by decide +kernel)) ggX0_shown_X0_isOn
set_option maxRecDepth 20000 in
theorem ggX0_shown_X0_bit : GoodIn wsX0_shown wsX0_bit := goodIn_r _ [13] (by decide +kernel) (by decide +kernel)
set_option maxRecDepth 20000 in
theorem gX0_shown_X0_bit : GoodIn wsX0_shown (va_wsS RX0 107 yX0_bit wsX0_bit) := goodIn_app (goodIn_of _ (by decide +kernel)) ggX0_shown_X0_bit
theorem dX0_shown_0 : decode cX0_shown 0 = .ok (.aload_n 0, 1) := by decide +kernel
theorem dX0_shown_1 : decode cX0_shown 1 = .ok (.invokevirtual 104, 3) := by decide +kernel
theorem dX0_shown_4 : decode cX0_shown 4 = .ok (.iconst 1, 1) := by decide +kernel
theorem dX0_shown_5 : decode cX0_shown 5 = .ok (.invokestatic 107, 3) := by decide +kernel
theorem dX0_shown_8 : decode cX0_shown 8 = .ok (.aload_n 0, 1) := by decide +kernel
theorem dX0_shown_9 : decode cX0_shown 9 = .ok (.getfield 63, 3) := by decide +kernel
theorem dX0_shown_12 : decode cX0_shown 12 = .ok (.iconst 2, 1) := by decide +kernel
theorem dX0_shown_13 : decode cX0_shown 13 = .ok (.invokestatic 107, 3) := by decide +kernel
theorem dX0_shown_16 : decode cX0_shown 16 = .ok (.ior, 1) := by decide +kernel
theorem dX0_shown_17 : decode cX0_shown 17 = .ok (.aload_n 0, 1) := by decide +kernel
theorem dX0_shown_18 : decode cX0_shown 18 = .ok (.getfield 83, 3) := by decide +kernel
theorem dX0_shown_21 : decode cX0_shown 21 = .ok (.iconst 4, 1) := by decide +kernel
theorem dX0_shown_22 : decode cX0_shown 22 = .ok (.invokestatic 107, 3) := by decide +kernel
theorem dX0_shown_25 : decode cX0_shown 25 = .ok (.ior, 1) := by decide +kernel
theorem dX0_shown_26 : decode cX0_shown 26 = .ok (.aload_n 0, 1) := by decide +kernel
theorem dX0_shown_27 : decode cX0_shown 27 = .ok (.getfield 13, 3) := by decide +kernel
theorem dX0_shown_30 : decode cX0_shown 30 = .ok (.iconst 0, 1) := by decide +kernel
theorem dX0_shown_31 : decode cX0_shown 31 = .ok (.iaload, 1) := by decide +kernel
theorem dX0_shown_32 : decode cX0_shown 32 = .ok (.ifCond .le 7, 3) := by decide +kernel
theorem dX0_shown_35 : decode cX0_shown 35 = .ok (.iconst 1, 1) := by decide +kernel
theorem dX0_shown_36 : decode cX0_shown 36 = .ok (.goto 4, 3) := by decide +kernel
theorem dX0_shown_39 : decode cX0_shown 39 = .ok (.iconst 0, 1) := by decide +kernel
theorem dX0_shown_40 : decode cX0_shown 40 = .ok (.bipush 8, 2) := by decide +kernel
theorem dX0_shown_42 : decode cX0_shown 42 = .ok (.invokestatic 107, 3) := by decide +kernel
theorem dX0_shown_45 : decode cX0_shown 45 = .ok (.ior, 1) := by decide +kernel
theorem dX0_shown_46 : decode cX0_shown 46 = .ok (.aload_n 0, 1) := by decide +kernel
theorem dX0_shown_47 : decode cX0_shown 47 = .ok (.getfield 13, 3) := by decide +kernel
theorem dX0_shown_50 : decode cX0_shown 50 = .ok (.iconst 1, 1) := by decide +kernel
theorem dX0_shown_51 : decode cX0_shown 51 = .ok (.iaload, 1) := by decide +kernel
theorem dX0_shown_52 : decode cX0_shown 52 = .ok (.ifCond .le 7, 3) := by decide +kernel
theorem dX0_shown_55 : decode cX0_shown 55 = .ok (.iconst 1, 1) := by decide +kernel
theorem dX0_shown_56 : decode cX0_shown 56 = .ok (.goto 4, 3) := by decide +kernel
theorem dX0_shown_59 : decode cX0_shown 59 = .ok (.iconst 0, 1) := by decide +kernel
theorem dX0_shown_60 : decode cX0_shown 60 = .ok (.bipush 16, 2) := by decide +kernel
theorem dX0_shown_62 : decode cX0_shown 62 = .ok (.invokestatic 107, 3) := by decide +kernel
theorem dX0_shown_65 : decode cX0_shown 65 = .ok (.ior, 1) := by decide +kernel
theorem dX0_shown_66 : decode cX0_shown 66 = .ok (.aload_n 0, 1) := by decide +kernel
theorem dX0_shown_67 : decode cX0_shown 67 = .ok (.getfield 111, 3) := by decide +kernel
theorem dX0_shown_70 : decode cX0_shown 70 = .ok (.iconst 1, 1) := by decide +kernel
theorem dX0_shown_71 : decode cX0_shown 71 = .ok (.if_icmp .ne 7, 3) := by decide +kernel
theorem dX0_shown_74 : decode cX0_shown 74 = .ok (.iconst 1, 1) := by decide +kernel
theorem dX0_shown_75 : decode cX0_shown 75 = .ok (.goto 4, 3) := by decide +kernel
theorem dX0_shown_78 : decode cX0_shown 78 = .ok (.iconst 0, 1) := by decide +kernel
theorem dX0_shown_79 : decode cX0_shown 79 = .ok (.bipush 32, 2) := by decide +kernel
theorem dX0_shown_81 : decode cX0_shown 81 = .ok (.invokestatic 107, 3) := by decide +kernel
theorem dX0_shown_84 : decode cX0_shown 84 = .ok (.ior, 1) := by decide +kernel
theorem dX0_shown_85 : decode cX0_shown 85 = .ok (.ireturn, 1) := by decide +kernel
theorem dX0_kept_0 : decode cX0_kept 0 = .ok (.iload_n 1, 1) := by decide +kernel
theorem dX0_kept_1 : decode cX0_kept 1 = .ok (.ifCond .lt 11, 3) := by decide +kernel
theorem dX0_kept_4 : decode cX0_kept 4 = .ok (.iload_n 1, 1) := by decide +kernel
theorem dX0_kept_5 : decode cX0_kept 5 = .ok (.aload_n 0, 1) := by decide +kernel
theorem dX0_kept_6 : decode cX0_kept 6 = .ok (.getfield 115, 3) := by decide +kernel
theorem dX0_kept_9 : decode cX0_kept 9 = .ok (.if_icmp .lt 5, 3) := by decide +kernel
theorem dX0_kept_12 : decode cX0_kept 12 = .ok (.iconst (-1), 1) := by decide +kernel
theorem dX0_kept_13 : decode cX0_kept 13 = .ok (.ireturn, 1) := by decide +kernel
theorem dX0_kept_14 : decode cX0_kept 14 = .ok (.aload_n 0, 1) := by decide +kernel
theorem dX0_kept_15 : decode cX0_kept 15 = .ok (.getfield 23, 3) := by decide +kernel
theorem dX0_kept_18 : decode cX0_kept 18 = .ok (.iload_n 1, 1) := by decide +kernel
theorem dX0_kept_19 : decode cX0_kept 19 = .ok (.iaload, 1) := by decide +kernel
theorem dX0_kept_20 : decode cX0_kept 20 = .ok (.istore_n 3, 1) := by decide +kernel
theorem dX0_kept_21 : decode cX0_kept 21 = .ok (.iload_n 2, 1) := by decide +kernel
theorem dX0_kept_22 : decode cX0_kept 22 = .ok (.tableswitch 55 0 3 #[30, 34, 41, 48], 30) := by decide +kernel
theorem dX0_kept_52 : decode cX0_kept 52 = .ok (.iload_n 3, 1) := by decide +kernel
theorem dX0_kept_53 : decode cX0_kept 53 = .ok (.iconst 1, 1) := by decide +kernel
theorem dX0_kept_54 : decode cX0_kept 54 = .ok (.iand, 1) := by decide +kernel
theorem dX0_kept_55 : decode cX0_kept 55 = .ok (.ireturn, 1) := by decide +kernel
theorem dX0_kept_56 : decode cX0_kept 56 = .ok (.iload_n 3, 1) := by decide +kernel
theorem dX0_kept_57 : decode cX0_kept 57 = .ok (.iconst 1, 1) := by decide +kernel
theorem dX0_kept_58 : decode cX0_kept 58 = .ok (.ishr, 1) := by decide +kernel
theorem dX0_kept_59 : decode cX0_kept 59 = .ok (.bipush 7, 2) := by decide +kernel
theorem dX0_kept_61 : decode cX0_kept 61 = .ok (.iand, 1) := by decide +kernel
theorem dX0_kept_62 : decode cX0_kept 62 = .ok (.ireturn, 1) := by decide +kernel
theorem dX0_kept_63 : decode cX0_kept 63 = .ok (.iload_n 3, 1) := by decide +kernel
theorem dX0_kept_64 : decode cX0_kept 64 = .ok (.iconst 4, 1) := by decide +kernel
theorem dX0_kept_65 : decode cX0_kept 65 = .ok (.ishr, 1) := by decide +kernel
theorem dX0_kept_66 : decode cX0_kept 66 = .ok (.bipush 7, 2) := by decide +kernel
theorem dX0_kept_68 : decode cX0_kept 68 = .ok (.iand, 1) := by decide +kernel
theorem dX0_kept_69 : decode cX0_kept 69 = .ok (.ireturn, 1) := by decide +kernel
theorem dX0_kept_70 : decode cX0_kept 70 = .ok (.iload_n 3, 1) := by decide +kernel
theorem dX0_kept_71 : decode cX0_kept 71 = .ok (.bipush 7, 2) := by decide +kernel
theorem dX0_kept_73 : decode cX0_kept 73 = .ok (.ishr, 1) := by decide +kernel
theorem dX0_kept_74 : decode cX0_kept 74 = .ok (.iconst 1, 1) := by decide +kernel
theorem dX0_kept_75 : decode cX0_kept 75 = .ok (.iand, 1) := by decide +kernel
theorem dX0_kept_76 : decode cX0_kept 76 = .ok (.ireturn, 1) := by decide +kernel
theorem dX0_kept_77 : decode cX0_kept 77 = .ok (.iconst (-1), 1) := by decide +kernel
theorem dX0_kept_78 : decode cX0_kept 78 = .ok (.ireturn, 1) := by decide +kernel
set_option maxRecDepth 20000 in
theorem ggX0_measure_X0_isMeasure : GoodIn wsX0_measure wsX0_isMeasure := goodIn_r _ [7] (by decide +kernel) (by decide +kernel)
set_option maxRecDepth 20000 in
theorem gX0_measure_X0_isMeasure : GoodIn wsX0_measure (va_wsS RX0 47 yX0_isMeasure wsX0_isMeasure) := goodIn_app (goodIn_of _ (by decide +kernel)) ggX0_measure_X0_isMeasure
theorem dX0_measure_0 : decode cX0_measure 0 = .ok (.iload_n 1, 1) := by decide +kernel
theorem dX0_measure_1 : decode cX0_measure 1 = .ok (.invokestatic 47, 3) := by decide +kernel
theorem dX0_measure_4 : decode cX0_measure 4 = .ok (.ifCond .ne 13, 3) := by decide +kernel
theorem dX0_measure_7 : decode cX0_measure 7 = .ok (.new 26, 3) := by decide +kernel
theorem dX0_measure_10 : decode cX0_measure 10 = .ok (.dup, 1) := by decide +kernel
theorem dX0_measure_11 : decode cX0_measure 11 = .ok (.ldc 51, 2) := by decide +kernel
theorem dX0_measure_13 : decode cX0_measure 13 = .ok (.invokespecial 30, 3) := by decide +kernel
theorem dX0_measure_16 : decode cX0_measure 16 = .ok (.athrow, 1) := by decide +kernel
theorem dX0_measure_17 : decode cX0_measure 17 = .ok (.aload_n 0, 1) := by decide +kernel
theorem dX0_measure_18 : decode cX0_measure 18 = .ok (.getfield 16, 3) := by decide +kernel
theorem dX0_measure_21 : decode cX0_measure 21 = .ok (.iload_n 1, 1) := by decide +kernel
theorem dX0_measure_22 : decode cX0_measure 22 = .ok (.iaload, 1) := by decide +kernel
theorem dX0_measure_23 : decode cX0_measure 23 = .ok (.ireturn, 1) := by decide +kernel
theorem dX0_isMeasure_0 : decode cX0_isMeasure 0 = .ok (.iload_n 0, 1) := by decide +kernel
theorem dX0_isMeasure_1 : decode cX0_isMeasure 1 = .ok (.ifCond .lt 13, 3) := by decide +kernel
theorem dX0_isMeasure_4 : decode cX0_isMeasure 4 = .ok (.iload_n 0, 1) := by decide +kernel
theorem dX0_isMeasure_5 : decode cX0_isMeasure 5 = .ok (.bipush 7, 2) := by decide +kernel
theorem dX0_isMeasure_7 : decode cX0_isMeasure 7 = .ok (.if_icmp .ge 7, 3) := by decide +kernel
theorem dX0_isMeasure_10 : decode cX0_isMeasure 10 = .ok (.iconst 1, 1) := by decide +kernel
theorem dX0_isMeasure_11 : decode cX0_isMeasure 11 = .ok (.goto 4, 3) := by decide +kernel
theorem dX0_isMeasure_14 : decode cX0_isMeasure 14 = .ok (.iconst 0, 1) := by decide +kernel
theorem dX0_isMeasure_15 : decode cX0_isMeasure 15 = .ok (.ireturn, 1) := by decide +kernel
theorem dX0_isOn_0 : decode cX0_isOn 0 = .ok (.aload_n 0, 1) := by decide +kernel
theorem dX0_isOn_1 : decode cX0_isOn 1 = .ok (.getfield 7, 3) := by decide +kernel
theorem dX0_isOn_4 : decode cX0_isOn 4 = .ok (.iconst 0, 1) := by decide +kernel
theorem dX0_isOn_5 : decode cX0_isOn 5 = .ok (.iaload, 1) := by decide +kernel
theorem dX0_isOn_6 : decode cX0_isOn 6 = .ok (.ifCond .eq 7, 3) := by decide +kernel
theorem dX0_isOn_9 : decode cX0_isOn 9 = .ok (.iconst 1, 1) := by decide +kernel
theorem dX0_isOn_10 : decode cX0_isOn 10 = .ok (.goto 4, 3) := by decide +kernel
theorem dX0_isOn_13 : decode cX0_isOn 13 = .ok (.iconst 0, 1) := by decide +kernel
theorem dX0_isOn_14 : decode cX0_isOn 14 = .ok (.ireturn, 1) := by decide +kernel
theorem dX0_isAnyChannelSound_0 : decode cX0_isAnyChannelSound 0 = .ok (.aload_n 0, 1) := by decide +kernel
theorem dX0_isAnyChannelSound_1 : decode cX0_isAnyChannelSound 1 = .ok (.getfield 19, 3) := by decide +kernel
theorem dX0_isAnyChannelSound_4 : decode cX0_isAnyChannelSound 4 = .ok (.iconst 0, 1) := by decide +kernel
theorem dX0_isAnyChannelSound_5 : decode cX0_isAnyChannelSound 5 = .ok (.baload, 1) := by decide +kernel
theorem dX0_isAnyChannelSound_6 : decode cX0_isAnyChannelSound 6 = .ok (.ifCond .ne 12, 3) := by decide +kernel
theorem dX0_isAnyChannelSound_9 : decode cX0_isAnyChannelSound 9 = .ok (.aload_n 0, 1) := by decide +kernel
theorem dX0_isAnyChannelSound_10 : decode cX0_isAnyChannelSound 10 = .ok (.getfield 19, 3) := by decide +kernel
theorem dX0_isAnyChannelSound_13 : decode cX0_isAnyChannelSound 13 = .ok (.iconst 1, 1) := by decide +kernel
theorem dX0_isAnyChannelSound_14 : decode cX0_isAnyChannelSound 14 = .ok (.baload, 1) := by decide +kernel
theorem dX0_isAnyChannelSound_15 : decode cX0_isAnyChannelSound 15 = .ok (.ifCond .eq 7, 3) := by decide +kernel
theorem dX0_isAnyChannelSound_18 : decode cX0_isAnyChannelSound 18 = .ok (.iconst 1, 1) := by decide +kernel
theorem dX0_isAnyChannelSound_19 : decode cX0_isAnyChannelSound 19 = .ok (.goto 4, 3) := by decide +kernel
theorem dX0_isAnyChannelSound_22 : decode cX0_isAnyChannelSound 22 = .ok (.iconst 0, 1) := by decide +kernel
theorem dX0_isAnyChannelSound_23 : decode cX0_isAnyChannelSound 23 = .ok (.ireturn, 1) := by decide +kernel
theorem dX0_isAroundAnywhere_0 : decode cX0_isAroundAnywhere 0 = .ok (.aload_n 0, 1) := by decide +kernel
theorem dX0_isAroundAnywhere_1 : decode cX0_isAroundAnywhere 1 = .ok (.getfield 7, 3) := by decide +kernel
theorem dX0_isAroundAnywhere_4 : decode cX0_isAroundAnywhere 4 = .ok (.iconst 0, 1) := by decide +kernel
theorem dX0_isAroundAnywhere_5 : decode cX0_isAroundAnywhere 5 = .ok (.iaload, 1) := by decide +kernel
theorem dX0_isAroundAnywhere_6 : decode cX0_isAroundAnywhere 6 = .ok (.iconst 5, 1) := by decide +kernel
theorem dX0_isAroundAnywhere_7 : decode cX0_isAroundAnywhere 7 = .ok (.if_icmp .eq 14, 3) := by decide +kernel
theorem dX0_isAroundAnywhere_10 : decode cX0_isAroundAnywhere 10 = .ok (.aload_n 0, 1) := by decide +kernel
theorem dX0_isAroundAnywhere_11 : decode cX0_isAroundAnywhere 11 = .ok (.getfield 7, 3) := by decide +kernel
theorem dX0_isAroundAnywhere_14 : decode cX0_isAroundAnywhere 14 = .ok (.iconst 1, 1) := by decide +kernel
theorem dX0_isAroundAnywhere_15 : decode cX0_isAroundAnywhere 15 = .ok (.iaload, 1) := by decide +kernel
theorem dX0_isAroundAnywhere_16 : decode cX0_isAroundAnywhere 16 = .ok (.bipush 7, 2) := by decide +kernel
theorem dX0_isAroundAnywhere_18 : decode cX0_isAroundAnywhere 18 = .ok (.if_icmp .ne 7, 3) := by decide +kernel
theorem dX0_isAroundAnywhere_21 : decode cX0_isAroundAnywhere 21 = .ok (.iconst 1, 1) := by decide +kernel
theorem dX0_isAroundAnywhere_22 : decode cX0_isAroundAnywhere 22 = .ok (.goto 4, 3) := by decide +kernel
theorem dX0_isAroundAnywhere_25 : decode cX0_isAroundAnywhere 25 = .ok (.iconst 0, 1) := by decide +kernel
theorem dX0_isAroundAnywhere_26 : decode cX0_isAroundAnywhere 26 = .ok (.ireturn, 1) := by decide +kernel
theorem dX0_isTooFast_0 : decode cX0_isTooFast 0 = .ok (.aload_n 0, 1) := by decide +kernel
theorem dX0_isTooFast_1 : decode cX0_isTooFast 1 = .ok (.getfield 16, 3) := by decide +kernel
theorem dX0_isTooFast_4 : decode cX0_isTooFast 4 = .ok (.iconst 4, 1) := by decide +kernel
theorem dX0_isTooFast_5 : decode cX0_isTooFast 5 = .ok (.iaload, 1) := by decide +kernel
theorem dX0_isTooFast_6 : decode cX0_isTooFast 6 = .ok (.sipush 400, 3) := by decide +kernel
theorem dX0_isTooFast_9 : decode cX0_isTooFast 9 = .ok (.if_icmp .le 7, 3) := by decide +kernel
theorem dX0_isTooFast_12 : decode cX0_isTooFast 12 = .ok (.iconst 1, 1) := by decide +kernel
theorem dX0_isTooFast_13 : decode cX0_isTooFast 13 = .ok (.goto 4, 3) := by decide +kernel
theorem dX0_isTooFast_16 : decode cX0_isTooFast 16 = .ok (.iconst 0, 1) := by decide +kernel
theorem dX0_isTooFast_17 : decode cX0_isTooFast 17 = .ok (.ireturn, 1) := by decide +kernel
theorem dX0_isCaptureArmed_0 : decode cX0_isCaptureArmed 0 = .ok (.aload_n 0, 1) := by decide +kernel
theorem dX0_isCaptureArmed_1 : decode cX0_isCaptureArmed 1 = .ok (.getfield 7, 3) := by decide +kernel
theorem dX0_isCaptureArmed_4 : decode cX0_isCaptureArmed 4 = .ok (.iconst 1, 1) := by decide +kernel
theorem dX0_isCaptureArmed_5 : decode cX0_isCaptureArmed 5 = .ok (.iaload, 1) := by decide +kernel
theorem dX0_isCaptureArmed_6 : decode cX0_isCaptureArmed 6 = .ok (.istore_n 1, 1) := by decide +kernel
theorem dX0_isCaptureArmed_7 : decode cX0_isCaptureArmed 7 = .ok (.iload_n 1, 1) := by decide +kernel
theorem dX0_isCaptureArmed_8 : decode cX0_isCaptureArmed 8 = .ok (.iconst 1, 1) := by decide +kernel
theorem dX0_isCaptureArmed_9 : decode cX0_isCaptureArmed 9 = .ok (.if_icmp .eq 13, 3) := by decide +kernel
theorem dX0_isCaptureArmed_12 : decode cX0_isCaptureArmed 12 = .ok (.iload_n 1, 1) := by decide +kernel
theorem dX0_isCaptureArmed_13 : decode cX0_isCaptureArmed 13 = .ok (.iconst 2, 1) := by decide +kernel
theorem dX0_isCaptureArmed_14 : decode cX0_isCaptureArmed 14 = .ok (.if_icmp .eq 8, 3) := by decide +kernel
theorem dX0_isCaptureArmed_17 : decode cX0_isCaptureArmed 17 = .ok (.iload_n 1, 1) := by decide +kernel
theorem dX0_isCaptureArmed_18 : decode cX0_isCaptureArmed 18 = .ok (.iconst 3, 1) := by decide +kernel
theorem dX0_isCaptureArmed_19 : decode cX0_isCaptureArmed 19 = .ok (.if_icmp .ne 7, 3) := by decide +kernel
theorem dX0_isCaptureArmed_22 : decode cX0_isCaptureArmed 22 = .ok (.iconst 1, 1) := by decide +kernel
theorem dX0_isCaptureArmed_23 : decode cX0_isCaptureArmed 23 = .ok (.goto 4, 3) := by decide +kernel
theorem dX0_isCaptureArmed_26 : decode cX0_isCaptureArmed 26 = .ok (.iconst 0, 1) := by decide +kernel
theorem dX0_isCaptureArmed_27 : decode cX0_isCaptureArmed 27 = .ok (.ireturn, 1) := by decide +kernel
theorem dX0_isCourseWithin_0 : decode cX0_isCourseWithin 0 = .ok (.aload_n 0, 1) := by decide +kernel
theorem dX0_isCourseWithin_1 : decode cX0_isCourseWithin 1 = .ok (.getfield 16, 3) := by decide +kernel
theorem dX0_isCourseWithin_4 : decode cX0_isCourseWithin 4 = .ok (.iconst 5, 1) := by decide +kernel
theorem dX0_isCourseWithin_5 : decode cX0_isCourseWithin 5 = .ok (.iaload, 1) := by decide +kernel
theorem dX0_isCourseWithin_6 : decode cX0_isCourseWithin 6 = .ok (.iconst 1, 1) := by decide +kernel
theorem dX0_isCourseWithin_7 : decode cX0_isCourseWithin 7 = .ok (.if_icmp .ne 20, 3) := by decide +kernel
theorem dX0_isCourseWithin_10 : decode cX0_isCourseWithin 10 = .ok (.aload_n 0, 1) := by decide +kernel
theorem dX0_isCourseWithin_11 : decode cX0_isCourseWithin 11 = .ok (.getfield 16, 3) := by decide +kernel
theorem dX0_isCourseWithin_14 : decode cX0_isCourseWithin 14 = .ok (.iconst 0, 1) := by decide +kernel
theorem dX0_isCourseWithin_15 : decode cX0_isCourseWithin 15 = .ok (.iaload, 1) := by decide +kernel
theorem dX0_isCourseWithin_16 : decode cX0_isCourseWithin 16 = .ok (.invokestatic 118, 3) := by decide +kernel
theorem dX0_isCourseWithin_19 : decode cX0_isCourseWithin 19 = .ok (.iload_n 1, 1) := by decide +kernel
theorem dX0_isCourseWithin_20 : decode cX0_isCourseWithin 20 = .ok (.if_icmp .gt 7, 3) := by decide +kernel
theorem dX0_isCourseWithin_23 : decode cX0_isCourseWithin 23 = .ok (.iconst 1, 1) := by decide +kernel
theorem dX0_isCourseWithin_24 : decode cX0_isCourseWithin 24 = .ok (.goto 4, 3) := by decide +kernel
theorem dX0_isCourseWithin_27 : decode cX0_isCourseWithin 27 = .ok (.iconst 0, 1) := by decide +kernel
theorem dX0_isCourseWithin_28 : decode cX0_isCourseWithin 28 = .ok (.ireturn, 1) := by decide +kernel
theorem dX0_isPathWithin_0 : decode cX0_isPathWithin 0 = .ok (.aload_n 0, 1) := by decide +kernel
theorem dX0_isPathWithin_1 : decode cX0_isPathWithin 1 = .ok (.getfield 16, 3) := by decide +kernel
theorem dX0_isPathWithin_4 : decode cX0_isPathWithin 4 = .ok (.bipush 6, 2) := by decide +kernel
theorem dX0_isPathWithin_6 : decode cX0_isPathWithin 6 = .ok (.iaload, 1) := by decide +kernel
theorem dX0_isPathWithin_7 : decode cX0_isPathWithin 7 = .ok (.iconst 1, 1) := by decide +kernel
theorem dX0_isPathWithin_8 : decode cX0_isPathWithin 8 = .ok (.if_icmp .ne 20, 3) := by decide +kernel
theorem dX0_isPathWithin_11 : decode cX0_isPathWithin 11 = .ok (.aload_n 0, 1) := by decide +kernel
theorem dX0_isPathWithin_12 : decode cX0_isPathWithin 12 = .ok (.getfield 16, 3) := by decide +kernel
theorem dX0_isPathWithin_15 : decode cX0_isPathWithin 15 = .ok (.iconst 1, 1) := by decide +kernel
theorem dX0_isPathWithin_16 : decode cX0_isPathWithin 16 = .ok (.iaload, 1) := by decide +kernel
theorem dX0_isPathWithin_17 : decode cX0_isPathWithin 17 = .ok (.invokestatic 118, 3) := by decide +kernel
theorem dX0_isPathWithin_20 : decode cX0_isPathWithin 20 = .ok (.iload_n 1, 1) := by decide +kernel
theorem dX0_isPathWithin_21 : decode cX0_isPathWithin 21 = .ok (.if_icmp .gt 7, 3) := by decide +kernel
theorem dX0_isPathWithin_24 : decode cX0_isPathWithin 24 = .ok (.iconst 1, 1) := by decide +kernel
theorem dX0_isPathWithin_25 : decode cX0_isPathWithin 25 = .ok (.goto 4, 3) := by decide +kernel
theorem dX0_isPathWithin_28 : decode cX0_isPathWithin 28 = .ok (.iconst 0, 1) := by decide +kernel
theorem dX0_isPathWithin_29 : decode cX0_isPathWithin 29 = .ok (.ireturn, 1) := by decide +kernel
theorem dX0_isHeightWithin_0 : decode cX0_isHeightWithin 0 = .ok (.aload_n 0, 1) := by decide +kernel
theorem dX0_isHeightWithin_1 : decode cX0_isHeightWithin 1 = .ok (.getfield 16, 3) := by decide +kernel
theorem dX0_isHeightWithin_4 : decode cX0_isHeightWithin 4 = .ok (.iconst 2, 1) := by decide +kernel
theorem dX0_isHeightWithin_5 : decode cX0_isHeightWithin 5 = .ok (.iaload, 1) := by decide +kernel
theorem dX0_isHeightWithin_6 : decode cX0_isHeightWithin 6 = .ok (.aload_n 0, 1) := by decide +kernel
theorem dX0_isHeightWithin_7 : decode cX0_isHeightWithin 7 = .ok (.getfield 16, 3) := by decide +kernel
theorem dX0_isHeightWithin_10 : decode cX0_isHeightWithin 10 = .ok (.iconst 3, 1) := by decide +kernel
theorem dX0_isHeightWithin_11 : decode cX0_isHeightWithin 11 = .ok (.iaload, 1) := by decide +kernel
theorem dX0_isHeightWithin_12 : decode cX0_isHeightWithin 12 = .ok (.isub, 1) := by decide +kernel
theorem dX0_isHeightWithin_13 : decode cX0_isHeightWithin 13 = .ok (.invokestatic 118, 3) := by decide +kernel
theorem dX0_isHeightWithin_16 : decode cX0_isHeightWithin 16 = .ok (.iload_n 1, 1) := by decide +kernel
theorem dX0_isHeightWithin_17 : decode cX0_isHeightWithin 17 = .ok (.if_icmp .gt 7, 3) := by decide +kernel
theorem dX0_isHeightWithin_20 : decode cX0_isHeightWithin 20 = .ok (.iconst 1, 1) := by decide +kernel
theorem dX0_isHeightWithin_21 : decode cX0_isHeightWithin 21 = .ok (.goto 4, 3) := by decide +kernel
theorem dX0_isHeightWithin_24 : decode cX0_isHeightWithin 24 = .ok (.iconst 0, 1) := by decide +kernel
theorem dX0_isHeightWithin_25 : decode cX0_isHeightWithin 25 = .ok (.ireturn, 1) := by decide +kernel
theorem dX0_bit_0 : decode cX0_bit 0 = .ok (.iload_n 0, 1) := by decide +kernel
theorem dX0_bit_1 : decode cX0_bit 1 = .ok (.ifCond .eq 7, 3) := by decide +kernel
theorem dX0_bit_4 : decode cX0_bit 4 = .ok (.iload_n 1, 1) := by decide +kernel
theorem dX0_bit_5 : decode cX0_bit 5 = .ok (.goto 4, 3) := by decide +kernel
theorem dX0_bit_8 : decode cX0_bit 8 = .ok (.iconst 0, 1) := by decide +kernel
theorem dX0_bit_9 : decode cX0_bit 9 = .ok (.ireturn, 1) := by decide +kernel
set_option maxRecDepth 20000 in
theorem ggX0_stateAsNumber_X0_bit : GoodIn wsX0_stateAsNumber wsX0_bit := goodIn_r _ [10] (by decide +kernel) (by decide +kernel)
set_option maxRecDepth 20000 in
theorem gX0_stateAsNumber_X0_bit : GoodIn wsX0_stateAsNumber (va_wsS RX0 107 yX0_bit wsX0_bit) := goodIn_app (goodIn_of _ (by decide +kernel)) ggX0_stateAsNumber_X0_bit
theorem dX0_stateAsNumber_0 : decode cX0_stateAsNumber 0 = .ok (.aload_n 0, 1) := by decide +kernel
theorem dX0_stateAsNumber_1 : decode cX0_stateAsNumber 1 = .ok (.getfield 7, 3) := by decide +kernel
theorem dX0_stateAsNumber_4 : decode cX0_stateAsNumber 4 = .ok (.iconst 0, 1) := by decide +kernel
theorem dX0_stateAsNumber_5 : decode cX0_stateAsNumber 5 = .ok (.iaload, 1) := by decide +kernel
theorem dX0_stateAsNumber_6 : decode cX0_stateAsNumber 6 = .ok (.aload_n 0, 1) := by decide +kernel
theorem dX0_stateAsNumber_7 : decode cX0_stateAsNumber 7 = .ok (.getfield 7, 3) := by decide +kernel
theorem dX0_stateAsNumber_10 : decode cX0_stateAsNumber 10 = .ok (.iconst 1, 1) := by decide +kernel
theorem dX0_stateAsNumber_11 : decode cX0_stateAsNumber 11 = .ok (.iaload, 1) := by decide +kernel
theorem dX0_stateAsNumber_12 : decode cX0_stateAsNumber 12 = .ok (.iconst 3, 1) := by decide +kernel
theorem dX0_stateAsNumber_13 : decode cX0_stateAsNumber 13 = .ok (.ishl, 1) := by decide +kernel
theorem dX0_stateAsNumber_14 : decode cX0_stateAsNumber 14 = .ok (.ior, 1) := by decide +kernel
theorem dX0_stateAsNumber_15 : decode cX0_stateAsNumber 15 = .ok (.aload_n 0, 1) := by decide +kernel
theorem dX0_stateAsNumber_16 : decode cX0_stateAsNumber 16 = .ok (.getfield 90, 3) := by decide +kernel
theorem dX0_stateAsNumber_19 : decode cX0_stateAsNumber 19 = .ok (.bipush 64, 2) := by decide +kernel
theorem dX0_stateAsNumber_21 : decode cX0_stateAsNumber 21 = .ok (.invokestatic 107, 3) := by decide +kernel
theorem dX0_stateAsNumber_24 : decode cX0_stateAsNumber 24 = .ok (.ior, 1) := by decide +kernel
theorem dX0_stateAsNumber_25 : decode cX0_stateAsNumber 25 = .ok (.aload_n 0, 1) := by decide +kernel
theorem dX0_stateAsNumber_26 : decode cX0_stateAsNumber 26 = .ok (.getfield 93, 3) := by decide +kernel
theorem dX0_stateAsNumber_29 : decode cX0_stateAsNumber 29 = .ok (.sipush 128, 3) := by decide +kernel
theorem dX0_stateAsNumber_32 : decode cX0_stateAsNumber 32 = .ok (.invokestatic 107, 3) := by decide +kernel
theorem dX0_stateAsNumber_35 : decode cX0_stateAsNumber 35 = .ok (.ior, 1) := by decide +kernel
theorem dX0_stateAsNumber_36 : decode cX0_stateAsNumber 36 = .ok (.aload_n 0, 1) := by decide +kernel
theorem dX0_stateAsNumber_37 : decode cX0_stateAsNumber 37 = .ok (.getfield 96, 3) := by decide +kernel
theorem dX0_stateAsNumber_40 : decode cX0_stateAsNumber 40 = .ok (.sipush 256, 3) := by decide +kernel
theorem dX0_stateAsNumber_43 : decode cX0_stateAsNumber 43 = .ok (.invokestatic 107, 3) := by decide +kernel
theorem dX0_stateAsNumber_46 : decode cX0_stateAsNumber 46 = .ok (.ior, 1) := by decide +kernel
theorem dX0_stateAsNumber_47 : decode cX0_stateAsNumber 47 = .ok (.aload_n 0, 1) := by decide +kernel
theorem dX0_stateAsNumber_48 : decode cX0_stateAsNumber 48 = .ok (.getfield 63, 3) := by decide +kernel
theorem dX0_stateAsNumber_51 : decode cX0_stateAsNumber 51 = .ok (.sipush 512, 3) := by decide +kernel
theorem dX0_stateAsNumber_54 : decode cX0_stateAsNumber 54 = .ok (.invokestatic 107, 3) := by decide +kernel
theorem dX0_stateAsNumber_57 : decode cX0_stateAsNumber 57 = .ok (.ior, 1) := by decide +kernel
theorem dX0_stateAsNumber_58 : decode cX0_stateAsNumber 58 = .ok (.aload_n 0, 1) := by decide +kernel
theorem dX0_stateAsNumber_59 : decode cX0_stateAsNumber 59 = .ok (.getfield 111, 3) := by decide +kernel
theorem dX0_stateAsNumber_62 : decode cX0_stateAsNumber 62 = .ok (.iconst 1, 1) := by decide +kernel
theorem dX0_stateAsNumber_63 : decode cX0_stateAsNumber 63 = .ok (.if_icmp .ne 7, 3) := by decide +kernel
theorem dX0_stateAsNumber_66 : decode cX0_stateAsNumber 66 = .ok (.iconst 1, 1) := by decide +kernel
theorem dX0_stateAsNumber_67 : decode cX0_stateAsNumber 67 = .ok (.goto 4, 3) := by decide +kernel
theorem dX0_stateAsNumber_70 : decode cX0_stateAsNumber 70 = .ok (.iconst 0, 1) := by decide +kernel
theorem dX0_stateAsNumber_71 : decode cX0_stateAsNumber 71 = .ok (.sipush 1024, 3) := by decide +kernel
theorem dX0_stateAsNumber_74 : decode cX0_stateAsNumber 74 = .ok (.invokestatic 107, 3) := by decide +kernel
theorem dX0_stateAsNumber_77 : decode cX0_stateAsNumber 77 = .ok (.ior, 1) := by decide +kernel
theorem dX0_stateAsNumber_78 : decode cX0_stateAsNumber 78 = .ok (.ireturn, 1) := by decide +kernel
set_option maxRecDepth 20000 in
theorem ggX0_change_X0_bit : GoodIn wsX0_change wsX0_bit := goodIn_r _ [8] (by decide +kernel) (by decide +kernel)
set_option maxRecDepth 20000 in
theorem gX0_change_X0_bit : GoodIn wsX0_change (va_wsS RX0 107 yX0_bit wsX0_bit) := goodIn_app (goodIn_of _ (by decide +kernel)) ggX0_change_X0_bit
theorem dX0_change_0 : decode cX0_change 0 = .ok (.aload_n 0, 1) := by decide +kernel
theorem dX0_change_1 : decode cX0_change 1 = .ok (.getfield 7, 3) := by decide +kernel
theorem dX0_change_4 : decode cX0_change 4 = .ok (.iload_n 1, 1) := by decide +kernel
theorem dX0_change_5 : decode cX0_change 5 = .ok (.iaload, 1) := by decide +kernel
theorem dX0_change_6 : decode cX0_change 6 = .ok (.istore 4, 2) := by decide +kernel
theorem dX0_change_8 : decode cX0_change 8 = .ok (.iload 4, 2) := by decide +kernel
theorem dX0_change_10 : decode cX0_change 10 = .ok (.iload_n 2, 1) := by decide +kernel
theorem dX0_change_11 : decode cX0_change 11 = .ok (.if_icmp .ne 4, 3) := by decide +kernel
theorem dX0_change_14 : decode cX0_change 14 = .ok (.return_, 1) := by decide +kernel
theorem dX0_change_15 : decode cX0_change 15 = .ok (.aload_n 0, 1) := by decide +kernel
theorem dX0_change_16 : decode cX0_change 16 = .ok (.getfield 7, 3) := by decide +kernel
theorem dX0_change_19 : decode cX0_change 19 = .ok (.iload_n 1, 1) := by decide +kernel
theorem dX0_change_20 : decode cX0_change 20 = .ok (.iload_n 2, 1) := by decide +kernel
theorem dX0_change_21 : decode cX0_change 21 = .ok (.iastore, 1) := by decide +kernel
theorem dX0_change_22 : decode cX0_change 22 = .ok (.iload_n 3, 1) := by decide +kernel
theorem dX0_change_23 : decode cX0_change 23 = .ok (.ifCond .eq 11, 3) := by decide +kernel
theorem dX0_change_26 : decode cX0_change 26 = .ok (.aload_n 0, 1) := by decide +kernel
theorem dX0_change_27 : decode cX0_change 27 = .ok (.getfield 13, 3) := by decide +kernel
theorem dX0_change_30 : decode cX0_change 30 = .ok (.iload_n 1, 1) := by decide +kernel
theorem dX0_change_31 : decode cX0_change 31 = .ok (.bipush 10, 2) := by decide +kernel
theorem dX0_change_33 : decode cX0_change 33 = .ok (.iastore, 1) := by decide +kernel
theorem dX0_change_34 : decode cX0_change 34 = .ok (.aload_n 0, 1) := by decide +kernel
theorem dX0_change_35 : decode cX0_change 35 = .ok (.getfield 115, 3) := by decide +kernel
theorem dX0_change_38 : decode cX0_change 38 = .ok (.sipush 300, 3) := by decide +kernel
theorem dX0_change_41 : decode cX0_change 41 = .ok (.if_icmp .ge 40, 3) := by decide +kernel
theorem dX0_change_44 : decode cX0_change 44 = .ok (.aload_n 0, 1) := by decide +kernel
theorem dX0_change_45 : decode cX0_change 45 = .ok (.getfield 23, 3) := by decide +kernel
theorem dX0_change_48 : decode cX0_change 48 = .ok (.aload_n 0, 1) := by decide +kernel
theorem dX0_change_49 : decode cX0_change 49 = .ok (.getfield 115, 3) := by decide +kernel
theorem dX0_change_52 : decode cX0_change 52 = .ok (.iload_n 1, 1) := by decide +kernel
theorem dX0_change_53 : decode cX0_change 53 = .ok (.iload 4, 2) := by decide +kernel
theorem dX0_change_55 : decode cX0_change 55 = .ok (.iconst 1, 1) := by decide +kernel
theorem dX0_change_56 : decode cX0_change 56 = .ok (.ishl, 1) := by decide +kernel
theorem dX0_change_57 : decode cX0_change 57 = .ok (.ior, 1) := by decide +kernel
theorem dX0_change_58 : decode cX0_change 58 = .ok (.iload_n 2, 1) := by decide +kernel
theorem dX0_change_59 : decode cX0_change 59 = .ok (.iconst 4, 1) := by decide +kernel
theorem dX0_change_60 : decode cX0_change 60 = .ok (.ishl, 1) := by decide +kernel
theorem dX0_change_61 : decode cX0_change 61 = .ok (.ior, 1) := by decide +kernel
theorem dX0_change_62 : decode cX0_change 62 = .ok (.iload_n 3, 1) := by decide +kernel
theorem dX0_change_63 : decode cX0_change 63 = .ok (.sipush 128, 3) := by decide +kernel
theorem dX0_change_66 : decode cX0_change 66 = .ok (.invokestatic 107, 3) := by decide +kernel
theorem dX0_change_69 : decode cX0_change 69 = .ok (.ior, 1) := by decide +kernel
theorem dX0_change_70 : decode cX0_change 70 = .ok (.iastore, 1) := by decide +kernel
theorem dX0_change_71 : decode cX0_change 71 = .ok (.aload_n 0, 1) := by decide +kernel
theorem dX0_change_72 : decode cX0_change 72 = .ok (.dup, 1) := by decide +kernel
theorem dX0_change_73 : decode cX0_change 73 = .ok (.getfield 115, 3) := by decide +kernel
theorem dX0_change_76 : decode cX0_change 76 = .ok (.iconst 1, 1) := by decide +kernel
theorem dX0_change_77 : decode cX0_change 77 = .ok (.iadd, 1) := by decide +kernel
theorem dX0_change_78 : decode cX0_change 78 = .ok (.putfield 115, 3) := by decide +kernel
theorem dX0_change_81 : decode cX0_change 81 = .ok (.return_, 1) := by decide +kernel
theorem dX0_stopFlashing_0 : decode cX0_stopFlashing 0 = .ok (.aload_n 0, 1) := by decide +kernel
theorem dX0_stopFlashing_1 : decode cX0_stopFlashing 1 = .ok (.getfield 13, 3) := by decide +kernel
theorem dX0_stopFlashing_4 : decode cX0_stopFlashing 4 = .ok (.iconst 0, 1) := by decide +kernel
theorem dX0_stopFlashing_5 : decode cX0_stopFlashing 5 = .ok (.iconst 0, 1) := by decide +kernel
theorem dX0_stopFlashing_6 : decode cX0_stopFlashing 6 = .ok (.iastore, 1) := by decide +kernel
theorem dX0_stopFlashing_7 : decode cX0_stopFlashing 7 = .ok (.aload_n 0, 1) := by decide +kernel
theorem dX0_stopFlashing_8 : decode cX0_stopFlashing 8 = .ok (.getfield 13, 3) := by decide +kernel
theorem dX0_stopFlashing_11 : decode cX0_stopFlashing 11 = .ok (.iconst 1, 1) := by decide +kernel
theorem dX0_stopFlashing_12 : decode cX0_stopFlashing 12 = .ok (.iconst 0, 1) := by decide +kernel
theorem dX0_stopFlashing_13 : decode cX0_stopFlashing 13 = .ok (.iastore, 1) := by decide +kernel
theorem dX0_stopFlashing_14 : decode cX0_stopFlashing 14 = .ok (.return_, 1) := by decide +kernel
theorem dX0_disarmAll_0 : decode cX0_disarmAll 0 = .ok (.aload_n 0, 1) := by decide +kernel
theorem dX0_disarmAll_1 : decode cX0_disarmAll 1 = .ok (.iconst 0, 1) := by decide +kernel
theorem dX0_disarmAll_2 : decode cX0_disarmAll 2 = .ok (.putfield 90, 3) := by decide +kernel
theorem dX0_disarmAll_5 : decode cX0_disarmAll 5 = .ok (.aload_n 0, 1) := by decide +kernel
theorem dX0_disarmAll_6 : decode cX0_disarmAll 6 = .ok (.iconst 0, 1) := by decide +kernel
theorem dX0_disarmAll_7 : decode cX0_disarmAll 7 = .ok (.putfield 93, 3) := by decide +kernel
theorem dX0_disarmAll_10 : decode cX0_disarmAll 10 = .ok (.aload_n 0, 1) := by decide +kernel
theorem dX0_disarmAll_11 : decode cX0_disarmAll 11 = .ok (.iconst 0, 1) := by decide +kernel
theorem dX0_disarmAll_12 : decode cX0_disarmAll 12 = .ok (.putfield 96, 3) := by decide +kernel
theorem dX0_disarmAll_15 : decode cX0_disarmAll 15 = .ok (.return_, 1) := by decide +kernel
set_option maxRecDepth 20000 in
theorem ggX0_goToBase_X0_change : GoodIn wsX0_goToBase wsX0_change := goodIn_r _ [5, 6, 7, 8, 9, 10, 11, 4, 12, 20, 21, 22, 23, 24, 25, 26, 27, 28, 29, 30, 31] (by decide +kernel) (by decide +kernel)
set_option maxRecDepth 20000 in
theorem gX0_goToBase_X0_change : GoodIn wsX0_goToBase (wsV RX0 124 RX0 yX0_change wsX0_change) := goodIn_app (goodIn_of _ (by decide +kernel)) ggX0_goToBase_X0_change
set_option maxRecDepth 20000 in
theorem ggX0_goToBase_X0_disarmAll : GoodIn wsX0_goToBase wsX0_disarmAll := goodIn_r _ [16, 17, 18, 19, 20, 21, 22, 23, 24, 25, 26, 27, 28, 29, 30, 31] (by decide +kernel) (by decide +kernel)
set_option maxRecDepth 20000 in
theorem gX0_goToBase_X0_disarmAll : GoodIn wsX0_goToBase (wsV RX0 128 RX0 yX0_disarmAll wsX0_disarmAll) := goodIn_app (goodIn_of _ (by decide +kernel)) ggX0_goToBase_X0_disarmAll
theorem dX0_goToBase_0 : decode cX0_goToBase 0 = .ok (.aload_n 0, 1) := by decide +kernel
theorem dX0_goToBase_1 : decode cX0_goToBase 1 = .ok (.iconst 0, 1) := by decide +kernel
theorem dX0_goToBase_2 : decode cX0_goToBase 2 = .ok (.iconst 1, 1) := by decide +kernel
theorem dX0_goToBase_3 : decode cX0_goToBase 3 = .ok (.iconst 0, 1) := by decide +kernel
theorem dX0_goToBase_4 : decode cX0_goToBase 4 = .ok (.invokevirtual 124, 3) := by decide +kernel
theorem dX0_goToBase_7 : decode cX0_goToBase 7 = .ok (.aload_n 0, 1) := by decide +kernel
theorem dX0_goToBase_8 : decode cX0_goToBase 8 = .ok (.iconst 1, 1) := by decide +kernel
theorem dX0_goToBase_9 : decode cX0_goToBase 9 = .ok (.iconst 1, 1) := by decide +kernel
theorem dX0_goToBase_10 : decode cX0_goToBase 10 = .ok (.iconst 0, 1) := by decide +kernel
theorem dX0_goToBase_11 : decode cX0_goToBase 11 = .ok (.invokevirtual 124, 3) := by decide +kernel
theorem dX0_goToBase_14 : decode cX0_goToBase 14 = .ok (.aload_n 0, 1) := by decide +kernel
theorem dX0_goToBase_15 : decode cX0_goToBase 15 = .ok (.invokevirtual 128, 3) := by decide +kernel
theorem dX0_goToBase_18 : decode cX0_goToBase 18 = .ok (.return_, 1) := by decide +kernel
set_option maxRecDepth 20000 in
theorem ggX0_turnOnIfOff_X0_isOn : GoodIn wsX0_turnOnIfOff wsX0_isOn := goodIn_r _ [5, 6, 28, 29, 30, 31, 32, 33, 34, 35, 36, 37, 38, 39] (by decide +kernel) (by decide +kernel)
set_option maxRecDepth 20000 in
theorem gX0_turnOnIfOff_X0_isOn : GoodIn wsX0_turnOnIfOff (wsV RX0 104 RX0 yX0_isOn wsX0_isOn) := goodIn_app (goodIn_of _ (by decide +kernel)) ggX0_turnOnIfOff_X0_isOn
set_option maxRecDepth 20000 in
theorem ggX0_turnOnIfOff_X0_goToBase : GoodIn wsX0_turnOnIfOff wsX0_goToBase := goodIn_r _ [10, 11, 12, 13, 4, 14, 6, 15, 16, 17, 18, 19, 20, 21, 22, 23, 24, 25, 26, 27, 28, 29, 30, 31, 32, 33, 34, 35, 36, 37, 38, 39] (by decide +kernel) (by decide +kernel)
set_option maxRecDepth 20000 in
theorem gX0_turnOnIfOff_X0_goToBase : GoodIn wsX0_turnOnIfOff (wsV RX0 131 RX0 yX0_goToBase wsX0_goToBase) := goodIn_app (goodIn_of _ (by decide +kernel)) ggX0_turnOnIfOff_X0_goToBase
theorem dX0_turnOnIfOff_0 : decode cX0_turnOnIfOff 0 = .ok (.aload_n 0, 1) := by decide +kernel
theorem dX0_turnOnIfOff_1 : decode cX0_turnOnIfOff 1 = .ok (.invokevirtual 104, 3) := by decide +kernel
theorem dX0_turnOnIfOff_4 : decode cX0_turnOnIfOff 4 = .ok (.ifCond .ne 7, 3) := by decide +kernel
theorem dX0_turnOnIfOff_7 : decode cX0_turnOnIfOff 7 = .ok (.aload_n 0, 1) := by decide +kernel
theorem dX0_turnOnIfOff_8 : decode cX0_turnOnIfOff 8 = .ok (.invokevirtual 131, 3) := by decide +kernel
theorem dX0_turnOnIfOff_11 : decode cX0_turnOnIfOff 11 = .ok (.return_, 1) := by decide +kernel
set_option maxRecDepth 20000 in
theorem ggX0_turnOff_X0_change : GoodIn wsX0_turnOff wsX0_change := goodIn_r _ [5, 6, 7, 8, 9, 10, 11, 4, 12, 30, 31, 32, 33, 34, 35, 36, 37, 38, 39, 40, 41] (by decide +kernel) (by decide +kernel)
set_option maxRecDepth 20000 in
theorem gX0_turnOff_X0_change : GoodIn wsX0_turnOff (wsV RX0 124 RX0 yX0_change wsX0_change) := goodIn_app (goodIn_of _ (by decide +kernel)) ggX0_turnOff_X0_change
set_option maxRecDepth 20000 in
theorem ggX0_turnOff_X0_disarmAll : GoodIn wsX0_turnOff wsX0_disarmAll := goodIn_r _ [16, 17, 18, 19, 30, 31, 32, 33, 34, 35, 36, 37, 38, 39, 40, 41] (by decide +kernel) (by decide +kernel)
set_option maxRecDepth 20000 in
theorem gX0_turnOff_X0_disarmAll : GoodIn wsX0_turnOff (wsV RX0 128 RX0 yX0_disarmAll wsX0_disarmAll) := goodIn_app (goodIn_of _ (by decide +kernel)) ggX0_turnOff_X0_disarmAll
set_option maxRecDepth 20000 in
theorem ggX0_turnOff_X0_disengageWithWarning : GoodIn wsX0_turnOff wsX0_disengageWithWarning := goodIn_r _ [23, 24, 25, 30, 31, 32, 33, 34, 35, 36, 37, 38, 39, 40, 41] (by decide +kernel) (by decide +kernel)
set_option maxRecDepth 20000 in
theorem gX0_turnOff_X0_disengageWithWarning : GoodIn wsX0_turnOff (wsV RX0 80 RX0 yX0_disengageWithWarning wsX0_disengageWithWarning) := goodIn_app (goodIn_of _ (by decide +kernel)) ggX0_turnOff_X0_disengageWithWarning
set_option maxRecDepth 20000 in
theorem ggX0_turnOff_X0_stopFlashing : GoodIn wsX0_turnOff wsX0_stopFlashing := goodIn_r _ [29, 7, 30, 31, 32, 33, 34, 35, 36, 37, 38, 39, 40, 41] (by decide +kernel) (by decide +kernel)
set_option maxRecDepth 20000 in
theorem gX0_turnOff_X0_stopFlashing : GoodIn wsX0_turnOff (wsV RX0 37 RX0 yX0_stopFlashing wsX0_stopFlashing) := goodIn_app (goodIn_of _ (by decide +kernel)) ggX0_turnOff_X0_stopFlashing
theorem dX0_turnOff_0 : decode cX0_turnOff 0 = .ok (.aload_n 0, 1) := by decide +kernel
theorem dX0_turnOff_1 : decode cX0_turnOff 1 = .ok (.iconst 0, 1) := by decide +kernel
theorem dX0_turnOff_2 : decode cX0_turnOff 2 = .ok (.iconst 0, 1) := by decide +kernel
theorem dX0_turnOff_3 : decode cX0_turnOff 3 = .ok (.iload_n 1, 1) := by decide +kernel
theorem dX0_turnOff_4 : decode cX0_turnOff 4 = .ok (.invokevirtual 124, 3) := by decide +kernel
theorem dX0_turnOff_7 : decode cX0_turnOff 7 = .ok (.aload_n 0, 1) := by decide +kernel
theorem dX0_turnOff_8 : decode cX0_turnOff 8 = .ok (.iconst 1, 1) := by decide +kernel
theorem dX0_turnOff_9 : decode cX0_turnOff 9 = .ok (.iconst 0, 1) := by decide +kernel
theorem dX0_turnOff_10 : decode cX0_turnOff 10 = .ok (.iload_n 1, 1) := by decide +kernel
theorem dX0_turnOff_11 : decode cX0_turnOff 11 = .ok (.invokevirtual 124, 3) := by decide +kernel
theorem dX0_turnOff_14 : decode cX0_turnOff 14 = .ok (.aload_n 0, 1) := by decide +kernel
theorem dX0_turnOff_15 : decode cX0_turnOff 15 = .ok (.invokevirtual 128, 3) := by decide +kernel
theorem dX0_turnOff_18 : decode cX0_turnOff 18 = .ok (.aload_n 0, 1) := by decide +kernel
theorem dX0_turnOff_19 : decode cX0_turnOff 19 = .ok (.invokevirtual 80, 3) := by decide +kernel
theorem dX0_turnOff_22 : decode cX0_turnOff 22 = .ok (.aload_n 0, 1) := by decide +kernel
theorem dX0_turnOff_23 : decode cX0_turnOff 23 = .ok (.invokevirtual 37, 3) := by decide +kernel
theorem dX0_turnOff_26 : decode cX0_turnOff 26 = .ok (.return_, 1) := by decide +kernel
theorem dX0_disengageWithWarning_0 : decode cX0_disengageWithWarning 0 = .ok (.aload_n 0, 1) := by decide +kernel
theorem dX0_disengageWithWarning_1 : decode cX0_disengageWithWarning 1 = .ok (.getfield 63, 3) := by decide +kernel
theorem dX0_disengageWithWarning_4 : decode cX0_disengageWithWarning 4 = .ok (.ifCond .eq 13, 3) := by decide +kernel
theorem dX0_disengageWithWarning_7 : decode cX0_disengageWithWarning 7 = .ok (.aload_n 0, 1) := by decide +kernel
theorem dX0_disengageWithWarning_8 : decode cX0_disengageWithWarning 8 = .ok (.iconst 0, 1) := by decide +kernel
theorem dX0_disengageWithWarning_9 : decode cX0_disengageWithWarning 9 = .ok (.putfield 63, 3) := by decide +kernel
theorem dX0_disengageWithWarning_12 : decode cX0_disengageWithWarning 12 = .ok (.aload_n 0, 1) := by decide +kernel
theorem dX0_disengageWithWarning_13 : decode cX0_disengageWithWarning 13 = .ok (.iconst 1, 1) := by decide +kernel
theorem dX0_disengageWithWarning_14 : decode cX0_disengageWithWarning 14 = .ok (.putfield 83, 3) := by decide +kernel
theorem dX0_disengageWithWarning_17 : decode cX0_disengageWithWarning 17 = .ok (.return_, 1) := by decide +kernel
set_option maxRecDepth 20000 in
theorem ggX0_leaveCourseFor_X0_change : GoodIn wsX0_leaveCourseFor wsX0_change := goodIn_r _ [8, 1, 9, 10, 11, 12, 13, 7, 14, 15, 16, 17, 18, 19, 20, 21, 22, 23, 24, 25, 26] (by decide +kernel) (by decide +kernel)
set_option maxRecDepth 20000 in
theorem gX0_leaveCourseFor_X0_change : GoodIn wsX0_leaveCourseFor (wsV RX0 124 RX0 yX0_change wsX0_change) := goodIn_app (goodIn_of _ (by decide +kernel)) ggX0_leaveCourseFor_X0_change
theorem dX0_leaveCourseFor_0 : decode cX0_leaveCourseFor 0 = .ok (.aload_n 0, 1) := by decide +kernel
theorem dX0_leaveCourseFor_1 : decode cX0_leaveCourseFor 1 = .ok (.iconst 0, 1) := by decide +kernel
theorem dX0_leaveCourseFor_2 : decode cX0_leaveCourseFor 2 = .ok (.iload_n 1, 1) := by decide +kernel
theorem dX0_leaveCourseFor_3 : decode cX0_leaveCourseFor 3 = .ok (.iload_n 2, 1) := by decide +kernel
theorem dX0_leaveCourseFor_4 : decode cX0_leaveCourseFor 4 = .ok (.invokevirtual 124, 3) := by decide +kernel
theorem dX0_leaveCourseFor_7 : decode cX0_leaveCourseFor 7 = .ok (.aload_n 0, 1) := by decide +kernel
theorem dX0_leaveCourseFor_8 : decode cX0_leaveCourseFor 8 = .ok (.getfield 7, 3) := by decide +kernel
theorem dX0_leaveCourseFor_11 : decode cX0_leaveCourseFor 11 = .ok (.iconst 1, 1) := by decide +kernel
theorem dX0_leaveCourseFor_12 : decode cX0_leaveCourseFor 12 = .ok (.iaload, 1) := by decide +kernel
theorem dX0_leaveCourseFor_13 : decode cX0_leaveCourseFor 13 = .ok (.bipush 6, 2) := by decide +kernel
theorem dX0_leaveCourseFor_15 : decode cX0_leaveCourseFor 15 = .ok (.if_icmp .ne 10, 3) := by decide +kernel
theorem dX0_leaveCourseFor_18 : decode cX0_leaveCourseFor 18 = .ok (.aload_n 0, 1) := by decide +kernel
theorem dX0_leaveCourseFor_19 : decode cX0_leaveCourseFor 19 = .ok (.iconst 1, 1) := by decide +kernel
theorem dX0_leaveCourseFor_20 : decode cX0_leaveCourseFor 20 = .ok (.iconst 1, 1) := by decide +kernel
theorem dX0_leaveCourseFor_21 : decode cX0_leaveCourseFor 21 = .ok (.iload_n 2, 1) := by decide +kernel
theorem dX0_leaveCourseFor_22 : decode cX0_leaveCourseFor 22 = .ok (.invokevirtual 124, 3) := by decide +kernel
theorem dX0_leaveCourseFor_25 : decode cX0_leaveCourseFor 25 = .ok (.aload_n 0, 1) := by decide +kernel
theorem dX0_leaveCourseFor_26 : decode cX0_leaveCourseFor 26 = .ok (.getfield 93, 3) := by decide +kernel
theorem dX0_leaveCourseFor_29 : decode cX0_leaveCourseFor 29 = .ok (.ifCond .ne 8, 3) := by decide +kernel
theorem dX0_leaveCourseFor_32 : decode cX0_leaveCourseFor 32 = .ok (.aload_n 0, 1) := by decide +kernel
theorem dX0_leaveCourseFor_33 : decode cX0_leaveCourseFor 33 = .ok (.iconst 0, 1) := by decide +kernel
theorem dX0_leaveCourseFor_34 : decode cX0_leaveCourseFor 34 = .ok (.putfield 96, 3) := by decide +kernel
theorem dX0_leaveCourseFor_37 : decode cX0_leaveCourseFor 37 = .ok (.return_, 1) := by decide +kernel
set_option maxRecDepth 20000 in
theorem ggX0_obey_X0_isAnyChannelSound : GoodIn wsX0_obey wsX0_isAnyChannelSound := goodIn_r _ [5, 6, 88, 89, 90, 91, 92, 93, 94, 95, 96, 97, 98, 99] (by decide +kernel) (by decide +kernel)
set_option maxRecDepth 20000 in
theorem gX0_obey_X0_isAnyChannelSound : GoodIn wsX0_obey (wsV RX0 67 RX0 yX0_isAnyChannelSound wsX0_isAnyChannelSound) := goodIn_app (goodIn_of _ (by decide +kernel)) ggX0_obey_X0_isAnyChannelSound
set_option maxRecDepth 20000 in
theorem ggX0_obey_X0_turnOnIfOff : GoodIn wsX0_obey wsX0_turnOnIfOff := goodIn_r _ [10, 11, 12, 13, 4, 14, 15, 16, 17, 18, 19, 20, 21, 22, 23, 24, 25, 26, 27, 28, 29, 30, 31, 32, 33, 34, 35, 36, 88, 89, 90, 91, 92, 93, 94, 95, 96, 97, 98, 99] (by decide +kernel) (by decide +kernel)
set_option maxRecDepth 20000 in
theorem gX0_obey_X0_turnOnIfOff : GoodIn wsX0_obey (wsV RX0 77 RX0 yX0_turnOnIfOff wsX0_turnOnIfOff) := goodIn_app (goodIn_of _ (by decide +kernel)) ggX0_obey_X0_turnOnIfOff
set_option maxRecDepth 20000 in
theorem ggX0_obey_X0_obeyHeading : GoodIn wsX0_obey wsX0_obeyHeading := goodIn_r _ [40, 15, 20, 21, 22, 4, 23, 24, 25, 26, 27, 28, 29, 41, 42, 43, 44, 35, 36, 88, 89, 90, 91, 92, 93, 94, 95, 96, 97, 98, 99] (by decide +kernel) (by decide +kernel)
set_option maxRecDepth 20000 in
theorem gX0_obey_X0_obeyHeading : GoodIn wsX0_obey (wsV RX0 134 RX0 yX0_obeyHeading wsX0_obeyHeading) := goodIn_app (goodIn_of _ (by decide +kernel)) ggX0_obey_X0_obeyHeading
set_option maxRecDepth 20000 in
theorem ggX0_obey_X0_obeyNav : GoodIn wsX0_obey wsX0_obeyNav := goodIn_r _ [48, 15, 34, 35, 36, 20, 21, 22, 4, 23, 24, 25, 26, 27, 28, 29, 88, 89, 90, 91, 92, 93, 94, 95, 96, 97, 98, 99] (by decide +kernel) (by decide +kernel)
set_option maxRecDepth 20000 in
theorem gX0_obey_X0_obeyNav : GoodIn wsX0_obey (wsV RX0 137 RX0 yX0_obeyNav wsX0_obeyNav) := goodIn_app (goodIn_of _ (by decide +kernel)) ggX0_obey_X0_obeyNav
set_option maxRecDepth 20000 in
theorem ggX0_obey_X0_obeyApproach : GoodIn wsX0_obey wsX0_obeyApproach := goodIn_r _ [52, 15, 35, 36, 34, 41, 42, 43, 4, 44, 20, 21, 22, 23, 24, 25, 26, 27, 28, 29, 88, 89, 90, 91, 92, 93, 94, 95, 96, 97, 98, 99] (by decide +kernel) (by decide +kernel)
set_option maxRecDepth 20000 in
theorem gX0_obey_X0_obeyApproach : GoodIn wsX0_obey (wsV RX0 140 RX0 yX0_obeyApproach wsX0_obeyApproach) := goodIn_app (goodIn_of _ (by decide +kernel)) ggX0_obey_X0_obeyApproach
set_option maxRecDepth 20000 in
theorem ggX0_obey_X0_obeyVertical : GoodIn wsX0_obey wsX0_obeyVertical := goodIn_r _ [56, 15, 20, 21, 22, 4, 23, 24, 25, 26, 27, 28, 29, 88, 89, 90, 91, 92, 93, 94, 95, 96, 97, 98, 99] (by decide +kernel) (by decide +kernel)
set_option maxRecDepth 20000 in
theorem gX0_obey_X0_obeyVertical : GoodIn wsX0_obey (wsV RX0 143 RX0 yX0_obeyVertical wsX0_obeyVertical) := goodIn_app (goodIn_of _ (by decide +kernel)) ggX0_obey_X0_obeyVertical
set_option maxRecDepth 20000 in
theorem ggX0_obey_X0_obeyAround : GoodIn wsX0_obey wsX0_obeyAround := goodIn_r _ [60, 20, 21, 22, 4, 23, 15, 24, 25, 26, 27, 28, 29, 30, 31, 32, 33, 34, 35, 36, 61, 62, 63, 64, 65, 66, 88, 89, 90, 91, 92, 93, 94, 95, 96, 97, 98, 99] (by decide +kernel) (by decide +kernel)
set_option maxRecDepth 20000 in
theorem gX0_obey_X0_obeyAround : GoodIn wsX0_obey (wsV RX0 146 RX0 yX0_obeyAround wsX0_obeyAround) := goodIn_app (goodIn_of _ (by decide +kernel)) ggX0_obey_X0_obeyAround
set_option maxRecDepth 20000 in
theorem ggX0_obey_X0_obeySync : GoodIn wsX0_obey wsX0_obeySync := goodIn_r _ [70, 15, 20, 21, 22, 4, 23, 24, 25, 26, 27, 28, 29, 88, 89, 90, 91, 92, 93, 94, 95, 96, 97, 98, 99] (by decide +kernel) (by decide +kernel)
set_option maxRecDepth 20000 in
theorem gX0_obey_X0_obeySync : GoodIn wsX0_obey (wsV RX0 149 RX0 yX0_obeySync wsX0_obeySync) := goodIn_app (goodIn_of _ (by decide +kernel)) ggX0_obey_X0_obeySync
set_option maxRecDepth 20000 in
theorem ggX0_obey_X0_obeyTransfer : GoodIn wsX0_obey wsX0_obeyTransfer := goodIn_r _ [74, 75, 6, 11, 12, 13, 4, 14, 15, 16, 17, 18, 19, 20, 21, 22, 23, 24, 25, 26, 27, 28, 29, 30, 31, 32, 33, 34, 35, 36, 88, 89, 90, 91, 92, 93, 94, 95, 96, 97, 98, 99] (by decide +kernel) (by decide +kernel)
set_option maxRecDepth 20000 in
theorem gX0_obey_X0_obeyTransfer : GoodIn wsX0_obey (wsV RX0 152 RX0 yX0_obeyTransfer wsX0_obeyTransfer) := goodIn_app (goodIn_of _ (by decide +kernel)) ggX0_obey_X0_obeyTransfer
set_option maxRecDepth 20000 in
theorem ggX0_obey_X0_obeyDirector : GoodIn wsX0_obey wsX0_obeyDirector := goodIn_r _ [79, 65, 11, 12, 13, 4, 14, 15, 1, 2, 3, 5, 6, 16, 17, 18, 19, 20, 21, 22, 23, 24, 25, 26, 27, 28, 29, 30, 31, 32, 33, 34, 35, 36, 80, 81, 82, 83, 61, 62, 63, 64, 66, 84, 85, 86, 87, 88, 89, 90, 91, 92, 93, 94, 95, 96, 97, 98, 99] (by decide +kernel) (by decide +kernel)
set_option maxRecDepth 20000 in
theorem gX0_obey_X0_obeyDirector : GoodIn wsX0_obey (wsV RX0 155 RX0 yX0_obeyDirector wsX0_obeyDirector) := goodIn_app (goodIn_of _ (by decide +kernel)) ggX0_obey_X0_obeyDirector
theorem dX0_obey_0 : decode cX0_obey 0 = .ok (.iload_n 1, 1) := by decide +kernel
theorem dX0_obey_1 : decode cX0_obey 1 = .ok (.bipush 7, 2) := by decide +kernel
theorem dX0_obey_3 : decode cX0_obey 3 = .ok (.if_icmp .gt 15, 3) := by decide +kernel
theorem dX0_obey_6 : decode cX0_obey 6 = .ok (.aload_n 0, 1) := by decide +kernel
theorem dX0_obey_7 : decode cX0_obey 7 = .ok (.invokevirtual 67, 3) := by decide +kernel
theorem dX0_obey_10 : decode cX0_obey 10 = .ok (.ifCond .ne 4, 3) := by decide +kernel
theorem dX0_obey_13 : decode cX0_obey 13 = .ok (.return_, 1) := by decide +kernel
theorem dX0_obey_14 : decode cX0_obey 14 = .ok (.aload_n 0, 1) := by decide +kernel
theorem dX0_obey_15 : decode cX0_obey 15 = .ok (.invokevirtual 77, 3) := by decide +kernel
theorem dX0_obey_18 : decode cX0_obey 18 = .ok (.iload_n 1, 1) := by decide +kernel
theorem dX0_obey_19 : decode cX0_obey 19 = .ok (.tableswitch 115 0 8 #[49, 56, 63, 70, 78, 86, 94, 101, 108], 49) := by decide +kernel
theorem dX0_obey_68 : decode cX0_obey 68 = .ok (.aload_n 0, 1) := by decide +kernel
theorem dX0_obey_69 : decode cX0_obey 69 = .ok (.invokevirtual 134, 3) := by decide +kernel
theorem dX0_obey_72 : decode cX0_obey 72 = .ok (.goto 66, 3) := by decide +kernel
theorem dX0_obey_75 : decode cX0_obey 75 = .ok (.aload_n 0, 1) := by decide +kernel
theorem dX0_obey_76 : decode cX0_obey 76 = .ok (.invokevirtual 137, 3) := by decide +kernel
theorem dX0_obey_79 : decode cX0_obey 79 = .ok (.goto 59, 3) := by decide +kernel
theorem dX0_obey_82 : decode cX0_obey 82 = .ok (.aload_n 0, 1) := by decide +kernel
theorem dX0_obey_83 : decode cX0_obey 83 = .ok (.invokevirtual 140, 3) := by decide +kernel
theorem dX0_obey_86 : decode cX0_obey 86 = .ok (.goto 52, 3) := by decide +kernel
theorem dX0_obey_89 : decode cX0_obey 89 = .ok (.aload_n 0, 1) := by decide +kernel
theorem dX0_obey_90 : decode cX0_obey 90 = .ok (.iconst 2, 1) := by decide +kernel
theorem dX0_obey_91 : decode cX0_obey 91 = .ok (.invokevirtual 143, 3) := by decide +kernel
theorem dX0_obey_94 : decode cX0_obey 94 = .ok (.goto 44, 3) := by decide +kernel
theorem dX0_obey_97 : decode cX0_obey 97 = .ok (.aload_n 0, 1) := by decide +kernel
theorem dX0_obey_98 : decode cX0_obey 98 = .ok (.iconst 3, 1) := by decide +kernel
theorem dX0_obey_99 : decode cX0_obey 99 = .ok (.invokevirtual 143, 3) := by decide +kernel
theorem dX0_obey_102 : decode cX0_obey 102 = .ok (.goto 36, 3) := by decide +kernel
theorem dX0_obey_105 : decode cX0_obey 105 = .ok (.aload_n 0, 1) := by decide +kernel
theorem dX0_obey_106 : decode cX0_obey 106 = .ok (.iconst 4, 1) := by decide +kernel
theorem dX0_obey_107 : decode cX0_obey 107 = .ok (.invokevirtual 143, 3) := by decide +kernel
theorem dX0_obey_110 : decode cX0_obey 110 = .ok (.goto 28, 3) := by decide +kernel
theorem dX0_obey_113 : decode cX0_obey 113 = .ok (.aload_n 0, 1) := by decide +kernel
theorem dX0_obey_114 : decode cX0_obey 114 = .ok (.invokevirtual 146, 3) := by decide +kernel
theorem dX0_obey_117 : decode cX0_obey 117 = .ok (.goto 21, 3) := by decide +kernel
theorem dX0_obey_120 : decode cX0_obey 120 = .ok (.aload_n 0, 1) := by decide +kernel
theorem dX0_obey_121 : decode cX0_obey 121 = .ok (.invokevirtual 149, 3) := by decide +kernel
theorem dX0_obey_124 : decode cX0_obey 124 = .ok (.goto 14, 3) := by decide +kernel
theorem dX0_obey_127 : decode cX0_obey 127 = .ok (.aload_n 0, 1) := by decide +kernel
theorem dX0_obey_128 : decode cX0_obey 128 = .ok (.invokevirtual 152, 3) := by decide +kernel
theorem dX0_obey_131 : decode cX0_obey 131 = .ok (.goto 7, 3) := by decide +kernel
theorem dX0_obey_134 : decode cX0_obey 134 = .ok (.aload_n 0, 1) := by decide +kernel
theorem dX0_obey_135 : decode cX0_obey 135 = .ok (.invokevirtual 155, 3) := by decide +kernel
theorem dX0_obey_138 : decode cX0_obey 138 = .ok (.return_, 1) := by decide +kernel
set_option maxRecDepth 20000 in
theorem ggX0_obeyHeading_X0_change : GoodIn wsX0_obeyHeading wsX0_change := goodIn_r _ [6, 1, 7, 8, 9, 10, 11, 5, 12, 19, 20, 21, 22, 23, 24, 25, 26, 27, 28, 29, 30] (by decide +kernel) (by decide +kernel)
set_option maxRecDepth 20000 in
theorem gX0_obeyHeading_X0_change : GoodIn wsX0_obeyHeading (wsV RX0 124 RX0 yX0_change wsX0_change) := goodIn_app (goodIn_of _ (by decide +kernel)) ggX0_obeyHeading_X0_change
set_option maxRecDepth 20000 in
theorem ggX0_obeyHeading_X0_leaveCourseFor : GoodIn wsX0_obeyHeading wsX0_leaveCourseFor := goodIn_r _ [16, 1, 17, 18, 2, 3, 4, 5, 6, 7, 8, 9, 10, 11, 12, 19, 20, 21, 22, 23, 24, 25, 26, 27, 28, 29, 30] (by decide +kernel) (by decide +kernel)
set_option maxRecDepth 20000 in
theorem gX0_obeyHeading_X0_leaveCourseFor : GoodIn wsX0_obeyHeading (wsV RX0 158 RX0 yX0_leaveCourseFor wsX0_leaveCourseFor) := goodIn_app (goodIn_of _ (by decide +kernel)) ggX0_obeyHeading_X0_leaveCourseFor
theorem dX0_obeyHeading_0 : decode cX0_obeyHeading 0 = .ok (.aload_n 0, 1) := by decide +kernel
end
section
theorem dX0_obeyHeading_1 : decode cX0_obeyHeading 1 = .ok (.getfield 7, 3) := by decide +kernel
theorem dX0_obeyHeading_4 : decode cX0_obeyHeading 4 = .ok (.iconst 0, 1) := by decide +kernel
theorem dX0_obeyHeading_5 : decode cX0_obeyHeading 5 = .ok (.iaload, 1) := by decide +kernel
theorem dX0_obeyHeading_6 : decode cX0_obeyHeading 6 = .ok (.iconst 2, 1) := by decide +kernel
theorem dX0_obeyHeading_7 : decode cX0_obeyHeading 7 = .ok (.if_icmp .ne 13, 3) := by decide +kernel
theorem dX0_obeyHeading_10 : decode cX0_obeyHeading 10 = .ok (.aload_n 0, 1) := by decide +kernel
theorem dX0_obeyHeading_11 : decode cX0_obeyHeading 11 = .ok (.iconst 0, 1) := by decide +kernel
theorem dX0_obeyHeading_12 : decode cX0_obeyHeading 12 = .ok (.iconst 1, 1) := by decide +kernel
theorem dX0_obeyHeading_13 : decode cX0_obeyHeading 13 = .ok (.iconst 0, 1) := by decide +kernel
theorem dX0_obeyHeading_14 : decode cX0_obeyHeading 14 = .ok (.invokevirtual 124, 3) := by decide +kernel
theorem dX0_obeyHeading_17 : decode cX0_obeyHeading 17 = .ok (.goto 9, 3) := by decide +kernel
theorem dX0_obeyHeading_20 : decode cX0_obeyHeading 20 = .ok (.aload_n 0, 1) := by decide +kernel
theorem dX0_obeyHeading_21 : decode cX0_obeyHeading 21 = .ok (.iconst 2, 1) := by decide +kernel
theorem dX0_obeyHeading_22 : decode cX0_obeyHeading 22 = .ok (.iconst 0, 1) := by decide +kernel
theorem dX0_obeyHeading_23 : decode cX0_obeyHeading 23 = .ok (.invokevirtual 158, 3) := by decide +kernel
theorem dX0_obeyHeading_26 : decode cX0_obeyHeading 26 = .ok (.return_, 1) := by decide +kernel
set_option maxRecDepth 20000 in
theorem ggX0_obeyNav_X0_change : GoodIn wsX0_obeyNav wsX0_change := goodIn_r _ [9, 1, 10, 11, 12, 13, 14, 8, 15, 16, 17, 18, 19, 20, 21, 22, 23, 24, 25, 26, 27] (by decide +kernel) (by decide +kernel)
set_option maxRecDepth 20000 in
theorem gX0_obeyNav_X0_change : GoodIn wsX0_obeyNav (wsV RX0 124 RX0 yX0_change wsX0_change) := goodIn_app (goodIn_of _ (by decide +kernel)) ggX0_obeyNav_X0_change
theorem dX0_obeyNav_0 : decode cX0_obeyNav 0 = .ok (.aload_n 0, 1) := by decide +kernel
theorem dX0_obeyNav_1 : decode cX0_obeyNav 1 = .ok (.getfield 7, 3) := by decide +kernel
theorem dX0_obeyNav_4 : decode cX0_obeyNav 4 = .ok (.iconst 0, 1) := by decide +kernel
theorem dX0_obeyNav_5 : decode cX0_obeyNav 5 = .ok (.iaload, 1) := by decide +kernel
theorem dX0_obeyNav_6 : decode cX0_obeyNav 6 = .ok (.iconst 4, 1) := by decide +kernel
theorem dX0_obeyNav_7 : decode cX0_obeyNav 7 = .ok (.if_icmp .ne 4, 3) := by decide +kernel
theorem dX0_obeyNav_10 : decode cX0_obeyNav 10 = .ok (.return_, 1) := by decide +kernel
theorem dX0_obeyNav_11 : decode cX0_obeyNav 11 = .ok (.aload_n 0, 1) := by decide +kernel
theorem dX0_obeyNav_12 : decode cX0_obeyNav 12 = .ok (.getfield 7, 3) := by decide +kernel
theorem dX0_obeyNav_15 : decode cX0_obeyNav 15 = .ok (.iconst 0, 1) := by decide +kernel
theorem dX0_obeyNav_16 : decode cX0_obeyNav 16 = .ok (.iaload, 1) := by decide +kernel
theorem dX0_obeyNav_17 : decode cX0_obeyNav 17 = .ok (.iconst 3, 1) := by decide +kernel
theorem dX0_obeyNav_18 : decode cX0_obeyNav 18 = .ok (.if_icmp .ne 13, 3) := by decide +kernel
theorem dX0_obeyNav_21 : decode cX0_obeyNav 21 = .ok (.aload_n 0, 1) := by decide +kernel
theorem dX0_obeyNav_22 : decode cX0_obeyNav 22 = .ok (.iconst 0, 1) := by decide +kernel
theorem dX0_obeyNav_23 : decode cX0_obeyNav 23 = .ok (.iconst 1, 1) := by decide +kernel
theorem dX0_obeyNav_24 : decode cX0_obeyNav 24 = .ok (.iconst 0, 1) := by decide +kernel
theorem dX0_obeyNav_25 : decode cX0_obeyNav 25 = .ok (.invokevirtual 124, 3) := by decide +kernel
theorem dX0_obeyNav_28 : decode cX0_obeyNav 28 = .ok (.goto 33, 3) := by decide +kernel
theorem dX0_obeyNav_31 : decode cX0_obeyNav 31 = .ok (.aload_n 0, 1) := by decide +kernel
theorem dX0_obeyNav_32 : decode cX0_obeyNav 32 = .ok (.getfield 90, 3) := by decide +kernel
theorem dX0_obeyNav_35 : decode cX0_obeyNav 35 = .ok (.ifCond .eq 11, 3) := by decide +kernel
theorem dX0_obeyNav_38 : decode cX0_obeyNav 38 = .ok (.aload_n 0, 1) := by decide +kernel
theorem dX0_obeyNav_39 : decode cX0_obeyNav 39 = .ok (.iconst 0, 1) := by decide +kernel
theorem dX0_obeyNav_40 : decode cX0_obeyNav 40 = .ok (.putfield 90, 3) := by decide +kernel
theorem dX0_obeyNav_43 : decode cX0_obeyNav 43 = .ok (.goto 18, 3) := by decide +kernel
theorem dX0_obeyNav_46 : decode cX0_obeyNav 46 = .ok (.aload_n 0, 1) := by decide +kernel
theorem dX0_obeyNav_47 : decode cX0_obeyNav 47 = .ok (.iconst 1, 1) := by decide +kernel
theorem dX0_obeyNav_48 : decode cX0_obeyNav 48 = .ok (.putfield 90, 3) := by decide +kernel
theorem dX0_obeyNav_51 : decode cX0_obeyNav 51 = .ok (.aload_n 0, 1) := by decide +kernel
theorem dX0_obeyNav_52 : decode cX0_obeyNav 52 = .ok (.iconst 0, 1) := by decide +kernel
theorem dX0_obeyNav_53 : decode cX0_obeyNav 53 = .ok (.putfield 93, 3) := by decide +kernel
theorem dX0_obeyNav_56 : decode cX0_obeyNav 56 = .ok (.aload_n 0, 1) := by decide +kernel
theorem dX0_obeyNav_57 : decode cX0_obeyNav 57 = .ok (.iconst 0, 1) := by decide +kernel
theorem dX0_obeyNav_58 : decode cX0_obeyNav 58 = .ok (.putfield 96, 3) := by decide +kernel
theorem dX0_obeyNav_61 : decode cX0_obeyNav 61 = .ok (.return_, 1) := by decide +kernel
set_option maxRecDepth 20000 in
theorem ggX0_obeyApproach_X0_leaveCourseFor : GoodIn wsX0_obeyApproach wsX0_leaveCourseFor := goodIn_r _ [9, 1, 2, 3, 10, 11, 12, 8, 13, 14, 15, 16, 17, 18, 19, 20, 21, 22, 23, 24, 25, 26, 27, 28, 29, 30, 31] (by decide +kernel) (by decide +kernel)
set_option maxRecDepth 20000 in
theorem gX0_obeyApproach_X0_leaveCourseFor : GoodIn wsX0_obeyApproach (wsV RX0 158 RX0 yX0_leaveCourseFor wsX0_leaveCourseFor) := goodIn_app (goodIn_of _ (by decide +kernel)) ggX0_obeyApproach_X0_leaveCourseFor
theorem dX0_obeyApproach_0 : decode cX0_obeyApproach 0 = .ok (.aload_n 0, 1) := by decide +kernel
theorem dX0_obeyApproach_1 : decode cX0_obeyApproach 1 = .ok (.getfield 7, 3) := by decide +kernel
theorem dX0_obeyApproach_4 : decode cX0_obeyApproach 4 = .ok (.iconst 0, 1) := by decide +kernel
theorem dX0_obeyApproach_5 : decode cX0_obeyApproach 5 = .ok (.iaload, 1) := by decide +kernel
theorem dX0_obeyApproach_6 : decode cX0_obeyApproach 6 = .ok (.iconst 4, 1) := by decide +kernel
theorem dX0_obeyApproach_7 : decode cX0_obeyApproach 7 = .ok (.if_icmp .ne 12, 3) := by decide +kernel
theorem dX0_obeyApproach_10 : decode cX0_obeyApproach 10 = .ok (.aload_n 0, 1) := by decide +kernel
theorem dX0_obeyApproach_11 : decode cX0_obeyApproach 11 = .ok (.iconst 1, 1) := by decide +kernel
theorem dX0_obeyApproach_12 : decode cX0_obeyApproach 12 = .ok (.iconst 0, 1) := by decide +kernel
theorem dX0_obeyApproach_13 : decode cX0_obeyApproach 13 = .ok (.invokevirtual 158, 3) := by decide +kernel
theorem dX0_obeyApproach_16 : decode cX0_obeyApproach 16 = .ok (.goto 38, 3) := by decide +kernel
theorem dX0_obeyApproach_19 : decode cX0_obeyApproach 19 = .ok (.aload_n 0, 1) := by decide +kernel
theorem dX0_obeyApproach_20 : decode cX0_obeyApproach 20 = .ok (.getfield 93, 3) := by decide +kernel
theorem dX0_obeyApproach_23 : decode cX0_obeyApproach 23 = .ok (.ifCond .eq 16, 3) := by decide +kernel
theorem dX0_obeyApproach_26 : decode cX0_obeyApproach 26 = .ok (.aload_n 0, 1) := by decide +kernel
theorem dX0_obeyApproach_27 : decode cX0_obeyApproach 27 = .ok (.iconst 0, 1) := by decide +kernel
theorem dX0_obeyApproach_28 : decode cX0_obeyApproach 28 = .ok (.putfield 93, 3) := by decide +kernel
theorem dX0_obeyApproach_31 : decode cX0_obeyApproach 31 = .ok (.aload_n 0, 1) := by decide +kernel
theorem dX0_obeyApproach_32 : decode cX0_obeyApproach 32 = .ok (.iconst 0, 1) := by decide +kernel
theorem dX0_obeyApproach_33 : decode cX0_obeyApproach 33 = .ok (.putfield 96, 3) := by decide +kernel
theorem dX0_obeyApproach_36 : decode cX0_obeyApproach 36 = .ok (.goto 18, 3) := by decide +kernel
theorem dX0_obeyApproach_39 : decode cX0_obeyApproach 39 = .ok (.aload_n 0, 1) := by decide +kernel
theorem dX0_obeyApproach_40 : decode cX0_obeyApproach 40 = .ok (.iconst 1, 1) := by decide +kernel
theorem dX0_obeyApproach_41 : decode cX0_obeyApproach 41 = .ok (.putfield 93, 3) := by decide +kernel
theorem dX0_obeyApproach_44 : decode cX0_obeyApproach 44 = .ok (.aload_n 0, 1) := by decide +kernel
theorem dX0_obeyApproach_45 : decode cX0_obeyApproach 45 = .ok (.iconst 1, 1) := by decide +kernel
theorem dX0_obeyApproach_46 : decode cX0_obeyApproach 46 = .ok (.putfield 96, 3) := by decide +kernel
theorem dX0_obeyApproach_49 : decode cX0_obeyApproach 49 = .ok (.aload_n 0, 1) := by decide +kernel
theorem dX0_obeyApproach_50 : decode cX0_obeyApproach 50 = .ok (.iconst 0, 1) := by decide +kernel
theorem dX0_obeyApproach_51 : decode cX0_obeyApproach 51 = .ok (.putfield 90, 3) := by decide +kernel
theorem dX0_obeyApproach_54 : decode cX0_obeyApproach 54 = .ok (.return_, 1) := by decide +kernel
set_option maxRecDepth 20000 in
theorem ggX0_obeyVertical_X0_change : GoodIn wsX0_obeyVertical wsX0_change := goodIn_r _ [6, 1, 7, 8, 9, 10, 11, 5, 12, 13, 14, 15, 16, 17, 18, 19, 20, 21, 22, 23, 24] (by decide +kernel) (by decide +kernel)
set_option maxRecDepth 20000 in
theorem gX0_obeyVertical_X0_change : GoodIn wsX0_obeyVertical (wsV RX0 124 RX0 yX0_change wsX0_change) := goodIn_app (goodIn_of _ (by decide +kernel)) ggX0_obeyVertical_X0_change
theorem dX0_obeyVertical_0 : decode cX0_obeyVertical 0 = .ok (.aload_n 0, 1) := by decide +kernel
theorem dX0_obeyVertical_1 : decode cX0_obeyVertical 1 = .ok (.getfield 7, 3) := by decide +kernel
theorem dX0_obeyVertical_4 : decode cX0_obeyVertical 4 = .ok (.iconst 1, 1) := by decide +kernel
theorem dX0_obeyVertical_5 : decode cX0_obeyVertical 5 = .ok (.iaload, 1) := by decide +kernel
theorem dX0_obeyVertical_6 : decode cX0_obeyVertical 6 = .ok (.bipush 6, 2) := by decide +kernel
theorem dX0_obeyVertical_8 : decode cX0_obeyVertical 8 = .ok (.if_icmp .ne 4, 3) := by decide +kernel
theorem dX0_obeyVertical_11 : decode cX0_obeyVertical 11 = .ok (.return_, 1) := by decide +kernel
theorem dX0_obeyVertical_12 : decode cX0_obeyVertical 12 = .ok (.aload_n 0, 1) := by decide +kernel
theorem dX0_obeyVertical_13 : decode cX0_obeyVertical 13 = .ok (.iconst 1, 1) := by decide +kernel
theorem dX0_obeyVertical_14 : decode cX0_obeyVertical 14 = .ok (.aload_n 0, 1) := by decide +kernel
theorem dX0_obeyVertical_15 : decode cX0_obeyVertical 15 = .ok (.getfield 7, 3) := by decide +kernel
theorem dX0_obeyVertical_18 : decode cX0_obeyVertical 18 = .ok (.iconst 1, 1) := by decide +kernel
theorem dX0_obeyVertical_19 : decode cX0_obeyVertical 19 = .ok (.iaload, 1) := by decide +kernel
theorem dX0_obeyVertical_20 : decode cX0_obeyVertical 20 = .ok (.iload_n 1, 1) := by decide +kernel
theorem dX0_obeyVertical_21 : decode cX0_obeyVertical 21 = .ok (.if_icmp .ne 7, 3) := by decide +kernel
theorem dX0_obeyVertical_24 : decode cX0_obeyVertical 24 = .ok (.iconst 1, 1) := by decide +kernel
theorem dX0_obeyVertical_25 : decode cX0_obeyVertical 25 = .ok (.goto 4, 3) := by decide +kernel
theorem dX0_obeyVertical_28 : decode cX0_obeyVertical 28 = .ok (.iload_n 1, 1) := by decide +kernel
theorem dX0_obeyVertical_29 : decode cX0_obeyVertical 29 = .ok (.iconst 0, 1) := by decide +kernel
theorem dX0_obeyVertical_30 : decode cX0_obeyVertical 30 = .ok (.invokevirtual 124, 3) := by decide +kernel
theorem dX0_obeyVertical_33 : decode cX0_obeyVertical 33 = .ok (.return_, 1) := by decide +kernel
set_option maxRecDepth 20000 in
theorem ggX0_obeyAround_X0_change : GoodIn wsX0_obeyAround wsX0_change := goodIn_r _ [5, 6, 7, 8, 9, 10, 11, 4, 12, 26, 27, 28, 29, 30, 31, 32, 33, 34, 35, 36, 37] (by decide +kernel) (by decide +kernel)
set_option maxRecDepth 20000 in
theorem gX0_obeyAround_X0_change : GoodIn wsX0_obeyAround (wsV RX0 124 RX0 yX0_change wsX0_change) := goodIn_app (goodIn_of _ (by decide +kernel)) ggX0_obeyAround_X0_change
set_option maxRecDepth 20000 in
theorem ggX0_obeyAround_X0_disarmAll : GoodIn wsX0_obeyAround wsX0_disarmAll := goodIn_r _ [16, 17, 18, 19, 26, 27, 28, 29, 30, 31, 32, 33, 34, 35, 36, 37] (by decide +kernel) (by decide +kernel)
set_option maxRecDepth 20000 in
theorem gX0_obeyAround_X0_disarmAll : GoodIn wsX0_obeyAround (wsV RX0 128 RX0 yX0_disarmAll wsX0_disarmAll) := goodIn_app (goodIn_of _ (by decide +kernel)) ggX0_obeyAround_X0_disarmAll
set_option maxRecDepth 20000 in
theorem ggX0_obeyAround_X0_disengageWithWarning : GoodIn wsX0_obeyAround wsX0_disengageWithWarning := goodIn_r _ [23, 24, 25, 26, 27, 28, 29, 30, 31, 32, 33, 34, 35, 36, 37] (by decide +kernel) (by decide +kernel)
set_option maxRecDepth 20000 in
theorem gX0_obeyAround_X0_disengageWithWarning : GoodIn wsX0_obeyAround (wsV RX0 80 RX0 yX0_disengageWithWarning wsX0_disengageWithWarning) := goodIn_app (goodIn_of _ (by decide +kernel)) ggX0_obeyAround_X0_disengageWithWarning
theorem dX0_obeyAround_0 : decode cX0_obeyAround 0 = .ok (.aload_n 0, 1) := by decide +kernel
theorem dX0_obeyAround_1 : decode cX0_obeyAround 1 = .ok (.iconst 0, 1) := by decide +kernel
theorem dX0_obeyAround_2 : decode cX0_obeyAround 2 = .ok (.iconst 5, 1) := by decide +kernel
theorem dX0_obeyAround_3 : decode cX0_obeyAround 3 = .ok (.iconst 0, 1) := by decide +kernel
theorem dX0_obeyAround_4 : decode cX0_obeyAround 4 = .ok (.invokevirtual 124, 3) := by decide +kernel
theorem dX0_obeyAround_7 : decode cX0_obeyAround 7 = .ok (.aload_n 0, 1) := by decide +kernel
theorem dX0_obeyAround_8 : decode cX0_obeyAround 8 = .ok (.iconst 1, 1) := by decide +kernel
theorem dX0_obeyAround_9 : decode cX0_obeyAround 9 = .ok (.bipush 7, 2) := by decide +kernel
theorem dX0_obeyAround_11 : decode cX0_obeyAround 11 = .ok (.iconst 0, 1) := by decide +kernel
theorem dX0_obeyAround_12 : decode cX0_obeyAround 12 = .ok (.invokevirtual 124, 3) := by decide +kernel
theorem dX0_obeyAround_15 : decode cX0_obeyAround 15 = .ok (.aload_n 0, 1) := by decide +kernel
theorem dX0_obeyAround_16 : decode cX0_obeyAround 16 = .ok (.invokevirtual 128, 3) := by decide +kernel
theorem dX0_obeyAround_19 : decode cX0_obeyAround 19 = .ok (.aload_n 0, 1) := by decide +kernel
theorem dX0_obeyAround_20 : decode cX0_obeyAround 20 = .ok (.invokevirtual 80, 3) := by decide +kernel
theorem dX0_obeyAround_23 : decode cX0_obeyAround 23 = .ok (.return_, 1) := by decide +kernel
set_option maxRecDepth 20000 in
theorem ggX0_obeySync_X0_change : GoodIn wsX0_obeySync wsX0_change := goodIn_r _ [6, 1, 7, 8, 9, 10, 11, 5, 12, 13, 14, 15, 16, 17, 18, 19, 20, 21, 22, 23, 24] (by decide +kernel) (by decide +kernel)
set_option maxRecDepth 20000 in
theorem gX0_obeySync_X0_change : GoodIn wsX0_obeySync (wsV RX0 124 RX0 yX0_change wsX0_change) := goodIn_app (goodIn_of _ (by decide +kernel)) ggX0_obeySync_X0_change
theorem dX0_obeySync_0 : decode cX0_obeySync 0 = .ok (.aload_n 0, 1) := by decide +kernel
theorem dX0_obeySync_1 : decode cX0_obeySync 1 = .ok (.getfield 7, 3) := by decide +kernel
theorem dX0_obeySync_4 : decode cX0_obeySync 4 = .ok (.iconst 0, 1) := by decide +kernel
theorem dX0_obeySync_5 : decode cX0_obeySync 5 = .ok (.iaload, 1) := by decide +kernel
theorem dX0_obeySync_6 : decode cX0_obeySync 6 = .ok (.iconst 5, 1) := by decide +kernel
theorem dX0_obeySync_7 : decode cX0_obeySync 7 = .ok (.if_icmp .ne 10, 3) := by decide +kernel
theorem dX0_obeySync_10 : decode cX0_obeySync 10 = .ok (.aload_n 0, 1) := by decide +kernel
theorem dX0_obeySync_11 : decode cX0_obeySync 11 = .ok (.iconst 0, 1) := by decide +kernel
theorem dX0_obeySync_12 : decode cX0_obeySync 12 = .ok (.iconst 1, 1) := by decide +kernel
theorem dX0_obeySync_13 : decode cX0_obeySync 13 = .ok (.iconst 0, 1) := by decide +kernel
theorem dX0_obeySync_14 : decode cX0_obeySync 14 = .ok (.invokevirtual 124, 3) := by decide +kernel
theorem dX0_obeySync_17 : decode cX0_obeySync 17 = .ok (.aload_n 0, 1) := by decide +kernel
theorem dX0_obeySync_18 : decode cX0_obeySync 18 = .ok (.getfield 7, 3) := by decide +kernel
theorem dX0_obeySync_21 : decode cX0_obeySync 21 = .ok (.iconst 1, 1) := by decide +kernel
theorem dX0_obeySync_22 : decode cX0_obeySync 22 = .ok (.iaload, 1) := by decide +kernel
theorem dX0_obeySync_23 : decode cX0_obeySync 23 = .ok (.bipush 7, 2) := by decide +kernel
theorem dX0_obeySync_25 : decode cX0_obeySync 25 = .ok (.if_icmp .ne 10, 3) := by decide +kernel
theorem dX0_obeySync_28 : decode cX0_obeySync 28 = .ok (.aload_n 0, 1) := by decide +kernel
theorem dX0_obeySync_29 : decode cX0_obeySync 29 = .ok (.iconst 1, 1) := by decide +kernel
theorem dX0_obeySync_30 : decode cX0_obeySync 30 = .ok (.iconst 1, 1) := by decide +kernel
theorem dX0_obeySync_31 : decode cX0_obeySync 31 = .ok (.iconst 0, 1) := by decide +kernel
theorem dX0_obeySync_32 : decode cX0_obeySync 32 = .ok (.invokevirtual 124, 3) := by decide +kernel
theorem dX0_obeySync_35 : decode cX0_obeySync 35 = .ok (.return_, 1) := by decide +kernel
set_option maxRecDepth 20000 in
theorem ggX0_obeyTransfer_X0_isOn : GoodIn wsX0_obeyTransfer wsX0_isOn := goodIn_r _ [7, 8, 30, 31, 32, 33, 34, 35, 36, 37, 38, 39, 40, 41] (by decide +kernel) (by decide +kernel)
set_option maxRecDepth 20000 in
theorem gX0_obeyTransfer_X0_isOn : GoodIn wsX0_obeyTransfer (wsV RX0 104 RX0 yX0_isOn wsX0_isOn) := goodIn_app (goodIn_of _ (by decide +kernel)) ggX0_obeyTransfer_X0_isOn
set_option maxRecDepth 20000 in
theorem ggX0_obeyTransfer_X0_goToBase : GoodIn wsX0_obeyTransfer wsX0_goToBase := goodIn_r _ [12, 13, 14, 15, 6, 16, 8, 17, 18, 19, 20, 21, 22, 23, 24, 25, 26, 27, 28, 29, 30, 31, 32, 33, 34, 35, 36, 37, 38, 39, 40, 41] (by decide +kernel) (by decide +kernel)
set_option maxRecDepth 20000 in
theorem gX0_obeyTransfer_X0_goToBase : GoodIn wsX0_obeyTransfer (wsV RX0 131 RX0 yX0_goToBase wsX0_goToBase) := goodIn_app (goodIn_of _ (by decide +kernel)) ggX0_obeyTransfer_X0_goToBase
theorem dX0_obeyTransfer_0 : decode cX0_obeyTransfer 0 = .ok (.iconst 1, 1) := by decide +kernel
theorem dX0_obeyTransfer_1 : decode cX0_obeyTransfer 1 = .ok (.aload_n 0, 1) := by decide +kernel
theorem dX0_obeyTransfer_2 : decode cX0_obeyTransfer 2 = .ok (.getfield 111, 3) := by decide +kernel
theorem dX0_obeyTransfer_5 : decode cX0_obeyTransfer 5 = .ok (.isub, 1) := by decide +kernel
theorem dX0_obeyTransfer_6 : decode cX0_obeyTransfer 6 = .ok (.istore_n 1, 1) := by decide +kernel
theorem dX0_obeyTransfer_7 : decode cX0_obeyTransfer 7 = .ok (.aload_n 0, 1) := by decide +kernel
theorem dX0_obeyTransfer_8 : decode cX0_obeyTransfer 8 = .ok (.getfield 19, 3) := by decide +kernel
theorem dX0_obeyTransfer_11 : decode cX0_obeyTransfer 11 = .ok (.iload_n 1, 1) := by decide +kernel
theorem dX0_obeyTransfer_12 : decode cX0_obeyTransfer 12 = .ok (.baload, 1) := by decide +kernel
theorem dX0_obeyTransfer_13 : decode cX0_obeyTransfer 13 = .ok (.ifCond .ne 4, 3) := by decide +kernel
theorem dX0_obeyTransfer_16 : decode cX0_obeyTransfer 16 = .ok (.return_, 1) := by decide +kernel
theorem dX0_obeyTransfer_17 : decode cX0_obeyTransfer 17 = .ok (.aload_n 0, 1) := by decide +kernel
theorem dX0_obeyTransfer_18 : decode cX0_obeyTransfer 18 = .ok (.iload_n 1, 1) := by decide +kernel
theorem dX0_obeyTransfer_19 : decode cX0_obeyTransfer 19 = .ok (.putfield 111, 3) := by decide +kernel
theorem dX0_obeyTransfer_22 : decode cX0_obeyTransfer 22 = .ok (.aload_n 0, 1) := by decide +kernel
theorem dX0_obeyTransfer_23 : decode cX0_obeyTransfer 23 = .ok (.invokevirtual 104, 3) := by decide +kernel
theorem dX0_obeyTransfer_26 : decode cX0_obeyTransfer 26 = .ok (.ifCond .eq 7, 3) := by decide +kernel
theorem dX0_obeyTransfer_29 : decode cX0_obeyTransfer 29 = .ok (.aload_n 0, 1) := by decide +kernel
theorem dX0_obeyTransfer_30 : decode cX0_obeyTransfer 30 = .ok (.invokevirtual 131, 3) := by decide +kernel
theorem dX0_obeyTransfer_33 : decode cX0_obeyTransfer 33 = .ok (.return_, 1) := by decide +kernel
set_option maxRecDepth 20000 in
theorem ggX0_obeyDirector_X0_isOn : GoodIn wsX0_obeyDirector wsX0_isOn := goodIn_r _ [6, 7, 47, 48, 49, 50, 51, 52, 53, 54, 55, 56, 57, 58] (by decide +kernel) (by decide +kernel)
set_option maxRecDepth 20000 in
theorem gX0_obeyDirector_X0_isOn : GoodIn wsX0_obeyDirector (wsV RX0 104 RX0 yX0_isOn wsX0_isOn) := goodIn_app (goodIn_of _ (by decide +kernel)) ggX0_obeyDirector_X0_isOn
set_option maxRecDepth 20000 in
theorem ggX0_obeyDirector_X0_isAnyChannelSound : GoodIn wsX0_obeyDirector wsX0_isAnyChannelSound := goodIn_r _ [11, 12, 47, 48, 49, 50, 51, 52, 53, 54, 55, 56, 57, 58] (by decide +kernel) (by decide +kernel)
set_option maxRecDepth 20000 in
theorem gX0_obeyDirector_X0_isAnyChannelSound : GoodIn wsX0_obeyDirector (wsV RX0 67 RX0 yX0_isAnyChannelSound wsX0_isAnyChannelSound) := goodIn_app (goodIn_of _ (by decide +kernel)) ggX0_obeyDirector_X0_isAnyChannelSound
set_option maxRecDepth 20000 in
theorem ggX0_obeyDirector_X0_goToBase : GoodIn wsX0_obeyDirector wsX0_goToBase := goodIn_r _ [16, 17, 18, 19, 5, 20, 7, 21, 22, 23, 24, 25, 26, 27, 28, 29, 30, 31, 32, 33, 47, 48, 49, 50, 51, 52, 53, 54, 55, 56, 57, 58] (by decide +kernel) (by decide +kernel)
set_option maxRecDepth 20000 in
theorem gX0_obeyDirector_X0_goToBase : GoodIn wsX0_obeyDirector (wsV RX0 131 RX0 yX0_goToBase wsX0_goToBase) := goodIn_app (goodIn_of _ (by decide +kernel)) ggX0_obeyDirector_X0_goToBase
set_option maxRecDepth 20000 in
theorem ggX0_obeyDirector_X0_turnOff : GoodIn wsX0_obeyDirector wsX0_turnOff := goodIn_r _ [37, 17, 18, 19, 5, 20, 7, 21, 22, 23, 24, 25, 26, 27, 28, 29, 30, 31, 32, 33, 38, 39, 40, 41, 1, 42, 43, 44, 45, 46, 47, 48, 49, 50, 51, 52, 53, 54, 55, 56, 57, 58] (by decide +kernel) (by decide +kernel)
set_option maxRecDepth 20000 in
theorem gX0_obeyDirector_X0_turnOff : GoodIn wsX0_obeyDirector (wsV RX0 162 RX0 yX0_turnOff wsX0_turnOff) := goodIn_app (goodIn_of _ (by decide +kernel)) ggX0_obeyDirector_X0_turnOff
theorem dX0_obeyDirector_0 : decode cX0_obeyDirector 0 = .ok (.aload_n 0, 1) := by decide +kernel
theorem dX0_obeyDirector_1 : decode cX0_obeyDirector 1 = .ok (.invokevirtual 104, 3) := by decide +kernel
theorem dX0_obeyDirector_4 : decode cX0_obeyDirector 4 = .ok (.ifCond .ne 17, 3) := by decide +kernel
theorem dX0_obeyDirector_7 : decode cX0_obeyDirector 7 = .ok (.aload_n 0, 1) := by decide +kernel
theorem dX0_obeyDirector_8 : decode cX0_obeyDirector 8 = .ok (.invokevirtual 67, 3) := by decide +kernel
theorem dX0_obeyDirector_11 : decode cX0_obeyDirector 11 = .ok (.ifCond .eq 22, 3) := by decide +kernel
theorem dX0_obeyDirector_14 : decode cX0_obeyDirector 14 = .ok (.aload_n 0, 1) := by decide +kernel
theorem dX0_obeyDirector_15 : decode cX0_obeyDirector 15 = .ok (.invokevirtual 131, 3) := by decide +kernel
theorem dX0_obeyDirector_18 : decode cX0_obeyDirector 18 = .ok (.goto 15, 3) := by decide +kernel
theorem dX0_obeyDirector_21 : decode cX0_obeyDirector 21 = .ok (.aload_n 0, 1) := by decide +kernel
theorem dX0_obeyDirector_22 : decode cX0_obeyDirector 22 = .ok (.getfield 63, 3) := by decide +kernel
theorem dX0_obeyDirector_25 : decode cX0_obeyDirector 25 = .ok (.ifCond .ne 8, 3) := by decide +kernel
theorem dX0_obeyDirector_28 : decode cX0_obeyDirector 28 = .ok (.aload_n 0, 1) := by decide +kernel
theorem dX0_obeyDirector_29 : decode cX0_obeyDirector 29 = .ok (.iconst 0, 1) := by decide +kernel
theorem dX0_obeyDirector_30 : decode cX0_obeyDirector 30 = .ok (.invokevirtual 162, 3) := by decide +kernel
theorem dX0_obeyDirector_33 : decode cX0_obeyDirector 33 = .ok (.return_, 1) := by decide +kernel
set_option maxRecDepth 20000 in
theorem ggX0_settle_X0_comesAboutByItself : GoodIn wsX0_settle wsX0_comesAboutByItself := goodIn_r _ [5, 6, 7, 8, 4, 9, 10, 11, 12, 13, 14, 15, 16, 17, 18, 19, 20, 21, 22, 23, 24, 25, 26, 27, 28, 29, 30, 31, 32, 33, 34, 35, 36, 37, 38, 39, 40, 41, 42, 43, 44, 45, 46, 47, 48, 49, 50, 51, 52, 53, 54, 55, 56, 57, 58, 59, 60, 61, 62, 63, 64, 65, 66, 67, 68, 69, 70, 71, 72, 73, 74, 75, 76, 77, 78, 79, 80, 81, 82, 83, 84, 85, 86, 87, 88, 89, 90, 91, 92, 93, 94, 95, 96, 97, 98, 99, 100, 101, 102, 103, 104, 105, 106, 107, 108, 109, 110, 111, 112, 113, 114, 115, 116, 117, 118, 119, 120, 121, 122, 123, 124] (by decide +kernel) (by decide +kernel)
set_option maxRecDepth 20000 in
theorem gX0_settle_X0_comesAboutByItself : GoodIn wsX0_settle (wsV RX0 166 RX0 yX0_comesAboutByItself wsX0_comesAboutByItself) := goodIn_app (goodIn_of _ (by decide +kernel)) ggX0_settle_X0_comesAboutByItself
theorem dX0_settle_0 : decode cX0_settle 0 = .ok (.iconst 0, 1) := by decide +kernel
theorem dX0_settle_1 : decode cX0_settle 1 = .ok (.istore_n 1, 1) := by decide +kernel
theorem dX0_settle_2 : decode cX0_settle 2 = .ok (.iload_n 1, 1) := by decide +kernel
theorem dX0_settle_3 : decode cX0_settle 3 = .ok (.sipush 1000, 3) := by decide +kernel
theorem dX0_settle_6 : decode cX0_settle 6 = .ok (.if_icmp .ge 16, 3) := by decide +kernel
theorem dX0_settle_9 : decode cX0_settle 9 = .ok (.aload_n 0, 1) := by decide +kernel
theorem dX0_settle_10 : decode cX0_settle 10 = .ok (.invokevirtual 166, 3) := by decide +kernel
theorem dX0_settle_13 : decode cX0_settle 13 = .ok (.ifCond .eq 9, 3) := by decide +kernel
theorem dX0_settle_16 : decode cX0_settle 16 = .ok (.iinc 1 1, 3) := by decide +kernel
theorem dX0_settle_19 : decode cX0_settle 19 = .ok (.goto (-17), 3) := by decide +kernel
theorem dX0_settle_22 : decode cX0_settle 22 = .ok (.iload_n 1, 1) := by decide +kernel
theorem dX0_settle_23 : decode cX0_settle 23 = .ok (.ireturn, 1) := by decide +kernel
set_option maxRecDepth 20000 in
theorem ggX0_comesAboutByItself_X0_leaderFails : GoodIn wsX0_comesAboutByItself wsX0_leaderFails := goodIn_r _ [5, 6, 7, 8, 9, 10, 4, 11, 12, 13, 14, 15, 16, 17, 18, 19, 20, 21, 22, 23, 24, 25, 26, 27, 28, 29, 30, 31, 32, 33, 34, 35, 36, 37, 38, 39, 40, 41, 42, 43, 109, 110, 111, 112, 113, 114, 115, 116, 117, 118, 119, 120] (by decide +kernel) (by decide +kernel)
set_option maxRecDepth 20000 in
theorem gX0_comesAboutByItself_X0_leaderFails : GoodIn wsX0_comesAboutByItself (wsV RX0 169 RX0 yX0_leaderFails wsX0_leaderFails) := goodIn_app (goodIn_of _ (by decide +kernel)) ggX0_comesAboutByItself_X0_leaderFails
set_option maxRecDepth 20000 in
theorem ggX0_comesAboutByItself_X0_courseIsLost : GoodIn wsX0_comesAboutByItself wsX0_courseIsLost := goodIn_r _ [47, 12, 48, 49, 50, 51, 4, 52, 32, 33, 17, 18, 19, 20, 21, 22, 23, 24, 25, 26, 109, 110, 111, 112, 113, 114, 115, 116, 117, 118, 119, 120] (by decide +kernel) (by decide +kernel)
set_option maxRecDepth 20000 in
theorem gX0_comesAboutByItself_X0_courseIsLost : GoodIn wsX0_comesAboutByItself (wsV RX0 172 RX0 yX0_courseIsLost wsX0_courseIsLost) := goodIn_app (goodIn_of _ (by decide +kernel)) ggX0_comesAboutByItself_X0_courseIsLost
set_option maxRecDepth 20000 in
theorem ggX0_comesAboutByItself_X0_pathIsLost : GoodIn wsX0_comesAboutByItself wsX0_pathIsLost := goodIn_r _ [56, 48, 12, 17, 18, 19, 4, 20, 21, 22, 23, 24, 25, 26, 109, 110, 111, 112, 113, 114, 115, 116, 117, 118, 119, 120] (by decide +kernel) (by decide +kernel)
set_option maxRecDepth 20000 in
theorem gX0_comesAboutByItself_X0_pathIsLost : GoodIn wsX0_comesAboutByItself (wsV RX0 175 RX0 yX0_pathIsLost wsX0_pathIsLost) := goodIn_app (goodIn_of _ (by decide +kernel)) ggX0_comesAboutByItself_X0_pathIsLost
set_option maxRecDepth 20000 in
theorem ggX0_comesAboutByItself_X0_navIsReached : GoodIn wsX0_comesAboutByItself wsX0_navIsReached := goodIn_r _ [60, 31, 61, 62, 63, 4, 64, 48, 65, 66, 67, 68, 17, 18, 19, 20, 12, 21, 22, 23, 24, 25, 26, 109, 110, 111, 112, 113, 114, 115, 116, 117, 118, 119, 120] (by decide +kernel) (by decide +kernel)
set_option maxRecDepth 20000 in
theorem gX0_comesAboutByItself_X0_navIsReached : GoodIn wsX0_comesAboutByItself (wsV RX0 178 RX0 yX0_navIsReached wsX0_navIsReached) := goodIn_app (goodIn_of _ (by decide +kernel)) ggX0_comesAboutByItself_X0_navIsReached
set_option maxRecDepth 20000 in
theorem ggX0_comesAboutByItself_X0_approachIsReached : GoodIn wsX0_comesAboutByItself wsX0_approachIsReached := goodIn_r _ [72, 32, 61, 62, 63, 4, 64, 48, 65, 66, 67, 68, 17, 18, 19, 20, 12, 21, 22, 23, 24, 25, 26, 109, 110, 111, 112, 113, 114, 115, 116, 117, 118, 119, 120] (by decide +kernel) (by decide +kernel)
set_option maxRecDepth 20000 in
theorem gX0_comesAboutByItself_X0_approachIsReached : GoodIn wsX0_comesAboutByItself (wsV RX0 181 RX0 yX0_approachIsReached wsX0_approachIsReached) := goodIn_app (goodIn_of _ (by decide +kernel)) ggX0_comesAboutByItself_X0_approachIsReached
set_option maxRecDepth 20000 in
theorem ggX0_comesAboutByItself_X0_glideIsReached : GoodIn wsX0_comesAboutByItself wsX0_glideIsReached := goodIn_r _ [76, 33, 12, 77, 78, 79, 4, 80, 48, 65, 66, 67, 68, 17, 18, 19, 20, 21, 22, 23, 24, 25, 26, 109, 110, 111, 112, 113, 114, 115, 116, 117, 118, 119, 120] (by decide +kernel) (by decide +kernel)
set_option maxRecDepth 20000 in
theorem gX0_comesAboutByItself_X0_glideIsReached : GoodIn wsX0_comesAboutByItself (wsV RX0 184 RX0 yX0_glideIsReached wsX0_glideIsReached) := goodIn_app (goodIn_of _ (by decide +kernel)) ggX0_comesAboutByItself_X0_glideIsReached
set_option maxRecDepth 20000 in
theorem ggX0_comesAboutByItself_X0_heightComesNear : GoodIn wsX0_comesAboutByItself wsX0_heightComesNear := goodIn_r _ [84, 85, 86, 87, 4, 88, 12, 89, 90, 91, 92, 48, 65, 66, 67, 68, 17, 18, 19, 20, 21, 22, 23, 24, 25, 26, 109, 110, 111, 112, 113, 114, 115, 116, 117, 118, 119, 120] (by decide +kernel) (by decide +kernel)
set_option maxRecDepth 20000 in
theorem gX0_comesAboutByItself_X0_heightComesNear : GoodIn wsX0_comesAboutByItself (wsV RX0 187 RX0 yX0_heightComesNear wsX0_heightComesNear) := goodIn_app (goodIn_of _ (by decide +kernel)) ggX0_comesAboutByItself_X0_heightComesNear
set_option maxRecDepth 20000 in
theorem ggX0_comesAboutByItself_X0_heightIsReached : GoodIn wsX0_comesAboutByItself wsX0_heightIsReached := goodIn_r _ [96, 12, 89, 90, 91, 4, 92, 48, 65, 66, 67, 68, 17, 18, 19, 20, 21, 22, 23, 24, 25, 26, 109, 110, 111, 112, 113, 114, 115, 116, 117, 118, 119, 120] (by decide +kernel) (by decide +kernel)
set_option maxRecDepth 20000 in
theorem gX0_comesAboutByItself_X0_heightIsReached : GoodIn wsX0_comesAboutByItself (wsV RX0 190 RX0 yX0_heightIsReached wsX0_heightIsReached) := goodIn_app (goodIn_of _ (by decide +kernel)) ggX0_comesAboutByItself_X0_heightIsReached
set_option maxRecDepth 20000 in
theorem ggX0_comesAboutByItself_X0_heightIsLost : GoodIn wsX0_comesAboutByItself wsX0_heightIsLost := goodIn_r _ [100, 12, 89, 90, 91, 4, 92, 48, 65, 66, 67, 68, 17, 18, 19, 20, 21, 22, 23, 24, 25, 26, 109, 110, 111, 112, 113, 114, 115, 116, 117, 118, 119, 120] (by decide +kernel) (by decide +kernel)
set_option maxRecDepth 20000 in
theorem gX0_comesAboutByItself_X0_heightIsLost : GoodIn wsX0_comesAboutByItself (wsV RX0 193 RX0 yX0_heightIsLost wsX0_heightIsLost) := goodIn_app (goodIn_of _ (by decide +kernel)) ggX0_comesAboutByItself_X0_heightIsLost
set_option maxRecDepth 20000 in
theorem ggX0_comesAboutByItself_X0_climbIsTooFast : GoodIn wsX0_comesAboutByItself wsX0_climbIsTooFast := goodIn_r _ [104, 12, 105, 106, 107, 4, 108, 48, 17, 18, 19, 20, 21, 22, 23, 24, 25, 26, 109, 110, 111, 112, 113, 114, 115, 116, 117, 118, 119, 120] (by decide +kernel) (by decide +kernel)
set_option maxRecDepth 20000 in
theorem gX0_comesAboutByItself_X0_climbIsTooFast : GoodIn wsX0_comesAboutByItself (wsV RX0 196 RX0 yX0_climbIsTooFast wsX0_climbIsTooFast) := goodIn_app (goodIn_of _ (by decide +kernel)) ggX0_comesAboutByItself_X0_climbIsTooFast
theorem dX0_comesAboutByItself_0 : decode cX0_comesAboutByItself 0 = .ok (.aload_n 0, 1) := by decide +kernel
theorem dX0_comesAboutByItself_1 : decode cX0_comesAboutByItself 1 = .ok (.invokevirtual 169, 3) := by decide +kernel
theorem dX0_comesAboutByItself_4 : decode cX0_comesAboutByItself 4 = .ok (.ifCond .ne 66, 3) := by decide +kernel
theorem dX0_comesAboutByItself_7 : decode cX0_comesAboutByItself 7 = .ok (.aload_n 0, 1) := by decide +kernel
theorem dX0_comesAboutByItself_8 : decode cX0_comesAboutByItself 8 = .ok (.invokevirtual 172, 3) := by decide +kernel
theorem dX0_comesAboutByItself_11 : decode cX0_comesAboutByItself 11 = .ok (.ifCond .ne 59, 3) := by decide +kernel
theorem dX0_comesAboutByItself_14 : decode cX0_comesAboutByItself 14 = .ok (.aload_n 0, 1) := by decide +kernel
theorem dX0_comesAboutByItself_15 : decode cX0_comesAboutByItself 15 = .ok (.invokevirtual 175, 3) := by decide +kernel
theorem dX0_comesAboutByItself_18 : decode cX0_comesAboutByItself 18 = .ok (.ifCond .ne 52, 3) := by decide +kernel
theorem dX0_comesAboutByItself_21 : decode cX0_comesAboutByItself 21 = .ok (.aload_n 0, 1) := by decide +kernel
theorem dX0_comesAboutByItself_22 : decode cX0_comesAboutByItself 22 = .ok (.invokevirtual 178, 3) := by decide +kernel
theorem dX0_comesAboutByItself_25 : decode cX0_comesAboutByItself 25 = .ok (.ifCond .ne 45, 3) := by decide +kernel
theorem dX0_comesAboutByItself_28 : decode cX0_comesAboutByItself 28 = .ok (.aload_n 0, 1) := by decide +kernel
theorem dX0_comesAboutByItself_29 : decode cX0_comesAboutByItself 29 = .ok (.invokevirtual 181, 3) := by decide +kernel
theorem dX0_comesAboutByItself_32 : decode cX0_comesAboutByItself 32 = .ok (.ifCond .ne 38, 3) := by decide +kernel
theorem dX0_comesAboutByItself_35 : decode cX0_comesAboutByItself 35 = .ok (.aload_n 0, 1) := by decide +kernel
theorem dX0_comesAboutByItself_36 : decode cX0_comesAboutByItself 36 = .ok (.invokevirtual 184, 3) := by decide +kernel
theorem dX0_comesAboutByItself_39 : decode cX0_comesAboutByItself 39 = .ok (.ifCond .ne 31, 3) := by decide +kernel
theorem dX0_comesAboutByItself_42 : decode cX0_comesAboutByItself 42 = .ok (.aload_n 0, 1) := by decide +kernel
theorem dX0_comesAboutByItself_43 : decode cX0_comesAboutByItself 43 = .ok (.invokevirtual 187, 3) := by decide +kernel
theorem dX0_comesAboutByItself_46 : decode cX0_comesAboutByItself 46 = .ok (.ifCond .ne 24, 3) := by decide +kernel
theorem dX0_comesAboutByItself_49 : decode cX0_comesAboutByItself 49 = .ok (.aload_n 0, 1) := by decide +kernel
theorem dX0_comesAboutByItself_50 : decode cX0_comesAboutByItself 50 = .ok (.invokevirtual 190, 3) := by decide +kernel
theorem dX0_comesAboutByItself_53 : decode cX0_comesAboutByItself 53 = .ok (.ifCond .ne 17, 3) := by decide +kernel
theorem dX0_comesAboutByItself_56 : decode cX0_comesAboutByItself 56 = .ok (.aload_n 0, 1) := by decide +kernel
theorem dX0_comesAboutByItself_57 : decode cX0_comesAboutByItself 57 = .ok (.invokevirtual 193, 3) := by decide +kernel
theorem dX0_comesAboutByItself_60 : decode cX0_comesAboutByItself 60 = .ok (.ifCond .ne 10, 3) := by decide +kernel
theorem dX0_comesAboutByItself_63 : decode cX0_comesAboutByItself 63 = .ok (.aload_n 0, 1) := by decide +kernel
theorem dX0_comesAboutByItself_64 : decode cX0_comesAboutByItself 64 = .ok (.invokevirtual 196, 3) := by decide +kernel
theorem dX0_comesAboutByItself_67 : decode cX0_comesAboutByItself 67 = .ok (.ifCond .eq 7, 3) := by decide +kernel
theorem dX0_comesAboutByItself_70 : decode cX0_comesAboutByItself 70 = .ok (.iconst 1, 1) := by decide +kernel
theorem dX0_comesAboutByItself_71 : decode cX0_comesAboutByItself 71 = .ok (.goto 4, 3) := by decide +kernel
theorem dX0_comesAboutByItself_74 : decode cX0_comesAboutByItself 74 = .ok (.iconst 0, 1) := by decide +kernel
theorem dX0_comesAboutByItself_75 : decode cX0_comesAboutByItself 75 = .ok (.ireturn, 1) := by decide +kernel
set_option maxRecDepth 20000 in
theorem ggX0_leaderFails_X0_isOn : GoodIn wsX0_leaderFails wsX0_isOn := goodIn_r _ [7, 8, 40, 41, 42, 43, 44, 45, 46, 47, 48, 49, 50, 51] (by decide +kernel) (by decide +kernel)
set_option maxRecDepth 20000 in
theorem gX0_leaderFails_X0_isOn : GoodIn wsX0_leaderFails (wsV RX0 104 RX0 yX0_isOn wsX0_isOn) := goodIn_app (goodIn_of _ (by decide +kernel)) ggX0_leaderFails_X0_isOn
set_option maxRecDepth 20000 in
theorem ggX0_leaderFails_X0_turnOff : GoodIn wsX0_leaderFails wsX0_turnOff := goodIn_r _ [12, 13, 14, 15, 6, 16, 8, 17, 18, 19, 20, 21, 22, 23, 24, 25, 26, 27, 28, 29, 30, 31, 32, 33, 34, 35, 36, 37, 38, 39, 40, 41, 42, 43, 44, 45, 46, 47, 48, 49, 50, 51] (by decide +kernel) (by decide +kernel)
set_option maxRecDepth 20000 in
theorem gX0_leaderFails_X0_turnOff : GoodIn wsX0_leaderFails (wsV RX0 162 RX0 yX0_turnOff wsX0_turnOff) := goodIn_app (goodIn_of _ (by decide +kernel)) ggX0_leaderFails_X0_turnOff
theorem dX0_leaderFails_0 : decode cX0_leaderFails 0 = .ok (.aload_n 0, 1) := by decide +kernel
theorem dX0_leaderFails_1 : decode cX0_leaderFails 1 = .ok (.invokevirtual 104, 3) := by decide +kernel
theorem dX0_leaderFails_4 : decode cX0_leaderFails 4 = .ok (.ifCond .eq 15, 3) := by decide +kernel
theorem dX0_leaderFails_7 : decode cX0_leaderFails 7 = .ok (.aload_n 0, 1) := by decide +kernel
theorem dX0_leaderFails_8 : decode cX0_leaderFails 8 = .ok (.getfield 19, 3) := by decide +kernel
theorem dX0_leaderFails_11 : decode cX0_leaderFails 11 = .ok (.aload_n 0, 1) := by decide +kernel
theorem dX0_leaderFails_12 : decode cX0_leaderFails 12 = .ok (.getfield 111, 3) := by decide +kernel
theorem dX0_leaderFails_15 : decode cX0_leaderFails 15 = .ok (.baload, 1) := by decide +kernel
theorem dX0_leaderFails_16 : decode cX0_leaderFails 16 = .ok (.ifCond .eq 5, 3) := by decide +kernel
theorem dX0_leaderFails_19 : decode cX0_leaderFails 19 = .ok (.iconst 0, 1) := by decide +kernel
theorem dX0_leaderFails_20 : decode cX0_leaderFails 20 = .ok (.ireturn, 1) := by decide +kernel
theorem dX0_leaderFails_21 : decode cX0_leaderFails 21 = .ok (.iconst 1, 1) := by decide +kernel
theorem dX0_leaderFails_22 : decode cX0_leaderFails 22 = .ok (.aload_n 0, 1) := by decide +kernel
theorem dX0_leaderFails_23 : decode cX0_leaderFails 23 = .ok (.getfield 111, 3) := by decide +kernel
theorem dX0_leaderFails_26 : decode cX0_leaderFails 26 = .ok (.isub, 1) := by decide +kernel
theorem dX0_leaderFails_27 : decode cX0_leaderFails 27 = .ok (.istore_n 1, 1) := by decide +kernel
theorem dX0_leaderFails_28 : decode cX0_leaderFails 28 = .ok (.aload_n 0, 1) := by decide +kernel
theorem dX0_leaderFails_29 : decode cX0_leaderFails 29 = .ok (.getfield 19, 3) := by decide +kernel
theorem dX0_leaderFails_32 : decode cX0_leaderFails 32 = .ok (.iload_n 1, 1) := by decide +kernel
theorem dX0_leaderFails_33 : decode cX0_leaderFails 33 = .ok (.baload, 1) := by decide +kernel
theorem dX0_leaderFails_34 : decode cX0_leaderFails 34 = .ok (.ifCond .eq 11, 3) := by decide +kernel
theorem dX0_leaderFails_37 : decode cX0_leaderFails 37 = .ok (.aload_n 0, 1) := by decide +kernel
theorem dX0_leaderFails_38 : decode cX0_leaderFails 38 = .ok (.iload_n 1, 1) := by decide +kernel
theorem dX0_leaderFails_39 : decode cX0_leaderFails 39 = .ok (.putfield 111, 3) := by decide +kernel
theorem dX0_leaderFails_42 : decode cX0_leaderFails 42 = .ok (.goto 8, 3) := by decide +kernel
theorem dX0_leaderFails_45 : decode cX0_leaderFails 45 = .ok (.aload_n 0, 1) := by decide +kernel
theorem dX0_leaderFails_46 : decode cX0_leaderFails 46 = .ok (.iconst 1, 1) := by decide +kernel
theorem dX0_leaderFails_47 : decode cX0_leaderFails 47 = .ok (.invokevirtual 162, 3) := by decide +kernel
theorem dX0_leaderFails_50 : decode cX0_leaderFails 50 = .ok (.iconst 1, 1) := by decide +kernel
theorem dX0_leaderFails_51 : decode cX0_leaderFails 51 = .ok (.ireturn, 1) := by decide +kernel
set_option maxRecDepth 20000 in
theorem ggX0_courseIsLost_X0_leaveCourseFor : GoodIn wsX0_courseIsLost wsX0_leaveCourseFor := goodIn_r _ [7, 1, 8, 9, 10, 11, 12, 6, 13, 14, 15, 16, 17, 18, 19, 20, 21, 22, 23, 24, 25, 26, 27, 28, 29, 30, 31] (by decide +kernel) (by decide +kernel)
set_option maxRecDepth 20000 in
theorem gX0_courseIsLost_X0_leaveCourseFor : GoodIn wsX0_courseIsLost (wsV RX0 158 RX0 yX0_leaveCourseFor wsX0_leaveCourseFor) := goodIn_app (goodIn_of _ (by decide +kernel)) ggX0_courseIsLost_X0_leaveCourseFor
theorem dX0_courseIsLost_0 : decode cX0_courseIsLost 0 = .ok (.aload_n 0, 1) := by decide +kernel
theorem dX0_courseIsLost_1 : decode cX0_courseIsLost 1 = .ok (.getfield 7, 3) := by decide +kernel
theorem dX0_courseIsLost_4 : decode cX0_courseIsLost 4 = .ok (.iconst 0, 1) := by decide +kernel
theorem dX0_courseIsLost_5 : decode cX0_courseIsLost 5 = .ok (.iaload, 1) := by decide +kernel
theorem dX0_courseIsLost_6 : decode cX0_courseIsLost 6 = .ok (.iconst 3, 1) := by decide +kernel
theorem dX0_courseIsLost_7 : decode cX0_courseIsLost 7 = .ok (.if_icmp .eq 13, 3) := by decide +kernel
theorem dX0_courseIsLost_10 : decode cX0_courseIsLost 10 = .ok (.aload_n 0, 1) := by decide +kernel
theorem dX0_courseIsLost_11 : decode cX0_courseIsLost 11 = .ok (.getfield 7, 3) := by decide +kernel
theorem dX0_courseIsLost_14 : decode cX0_courseIsLost 14 = .ok (.iconst 0, 1) := by decide +kernel
theorem dX0_courseIsLost_15 : decode cX0_courseIsLost 15 = .ok (.iaload, 1) := by decide +kernel
theorem dX0_courseIsLost_16 : decode cX0_courseIsLost 16 = .ok (.iconst 4, 1) := by decide +kernel
theorem dX0_courseIsLost_17 : decode cX0_courseIsLost 17 = .ok (.if_icmp .ne 7, 3) := by decide +kernel
theorem dX0_courseIsLost_20 : decode cX0_courseIsLost 20 = .ok (.iconst 1, 1) := by decide +kernel
theorem dX0_courseIsLost_21 : decode cX0_courseIsLost 21 = .ok (.goto 4, 3) := by decide +kernel
theorem dX0_courseIsLost_24 : decode cX0_courseIsLost 24 = .ok (.iconst 0, 1) := by decide +kernel
theorem dX0_courseIsLost_25 : decode cX0_courseIsLost 25 = .ok (.istore_n 1, 1) := by decide +kernel
theorem dX0_courseIsLost_26 : decode cX0_courseIsLost 26 = .ok (.iload_n 1, 1) := by decide +kernel
theorem dX0_courseIsLost_27 : decode cX0_courseIsLost 27 = .ok (.ifCond .eq 13, 3) := by decide +kernel
theorem dX0_courseIsLost_30 : decode cX0_courseIsLost 30 = .ok (.aload_n 0, 1) := by decide +kernel
theorem dX0_courseIsLost_31 : decode cX0_courseIsLost 31 = .ok (.getfield 16, 3) := by decide +kernel
theorem dX0_courseIsLost_34 : decode cX0_courseIsLost 34 = .ok (.iconst 5, 1) := by decide +kernel
theorem dX0_courseIsLost_35 : decode cX0_courseIsLost 35 = .ok (.iaload, 1) := by decide +kernel
theorem dX0_courseIsLost_36 : decode cX0_courseIsLost 36 = .ok (.iconst 1, 1) := by decide +kernel
theorem dX0_courseIsLost_37 : decode cX0_courseIsLost 37 = .ok (.if_icmp .ne 5, 3) := by decide +kernel
theorem dX0_courseIsLost_40 : decode cX0_courseIsLost 40 = .ok (.iconst 0, 1) := by decide +kernel
theorem dX0_courseIsLost_41 : decode cX0_courseIsLost 41 = .ok (.ireturn, 1) := by decide +kernel
theorem dX0_courseIsLost_42 : decode cX0_courseIsLost 42 = .ok (.aload_n 0, 1) := by decide +kernel
theorem dX0_courseIsLost_43 : decode cX0_courseIsLost 43 = .ok (.iconst 1, 1) := by decide +kernel
theorem dX0_courseIsLost_44 : decode cX0_courseIsLost 44 = .ok (.iconst 1, 1) := by decide +kernel
theorem dX0_courseIsLost_45 : decode cX0_courseIsLost 45 = .ok (.invokevirtual 158, 3) := by decide +kernel
theorem dX0_courseIsLost_48 : decode cX0_courseIsLost 48 = .ok (.iconst 1, 1) := by decide +kernel
theorem dX0_courseIsLost_49 : decode cX0_courseIsLost 49 = .ok (.ireturn, 1) := by decide +kernel
set_option maxRecDepth 20000 in
theorem ggX0_pathIsLost_X0_change : GoodIn wsX0_pathIsLost wsX0_change := goodIn_r _ [7, 2, 8, 9, 10, 11, 12, 6, 13, 14, 15, 16, 17, 18, 19, 20, 21, 22, 23, 24, 25] (by decide +kernel) (by decide +kernel)
set_option maxRecDepth 20000 in
theorem gX0_pathIsLost_X0_change : GoodIn wsX0_pathIsLost (wsV RX0 124 RX0 yX0_change wsX0_change) := goodIn_app (goodIn_of _ (by decide +kernel)) ggX0_pathIsLost_X0_change
theorem dX0_pathIsLost_0 : decode cX0_pathIsLost 0 = .ok (.aload_n 0, 1) := by decide +kernel
theorem dX0_pathIsLost_1 : decode cX0_pathIsLost 1 = .ok (.getfield 16, 3) := by decide +kernel
theorem dX0_pathIsLost_4 : decode cX0_pathIsLost 4 = .ok (.bipush 6, 2) := by decide +kernel
theorem dX0_pathIsLost_6 : decode cX0_pathIsLost 6 = .ok (.iaload, 1) := by decide +kernel
theorem dX0_pathIsLost_7 : decode cX0_pathIsLost 7 = .ok (.iconst 1, 1) := by decide +kernel
theorem dX0_pathIsLost_8 : decode cX0_pathIsLost 8 = .ok (.if_icmp .ne 17, 3) := by decide +kernel
theorem dX0_pathIsLost_11 : decode cX0_pathIsLost 11 = .ok (.aload_n 0, 1) := by decide +kernel
theorem dX0_pathIsLost_12 : decode cX0_pathIsLost 12 = .ok (.getfield 7, 3) := by decide +kernel
theorem dX0_pathIsLost_15 : decode cX0_pathIsLost 15 = .ok (.iconst 0, 1) := by decide +kernel
theorem dX0_pathIsLost_16 : decode cX0_pathIsLost 16 = .ok (.iaload, 1) := by decide +kernel
theorem dX0_pathIsLost_17 : decode cX0_pathIsLost 17 = .ok (.iconst 4, 1) := by decide +kernel
theorem dX0_pathIsLost_18 : decode cX0_pathIsLost 18 = .ok (.if_icmp .ne 7, 3) := by decide +kernel
theorem dX0_pathIsLost_21 : decode cX0_pathIsLost 21 = .ok (.iconst 1, 1) := by decide +kernel
theorem dX0_pathIsLost_22 : decode cX0_pathIsLost 22 = .ok (.goto 4, 3) := by decide +kernel
theorem dX0_pathIsLost_25 : decode cX0_pathIsLost 25 = .ok (.iconst 0, 1) := by decide +kernel
theorem dX0_pathIsLost_26 : decode cX0_pathIsLost 26 = .ok (.istore_n 1, 1) := by decide +kernel
theorem dX0_pathIsLost_27 : decode cX0_pathIsLost 27 = .ok (.aload_n 0, 1) := by decide +kernel
theorem dX0_pathIsLost_28 : decode cX0_pathIsLost 28 = .ok (.getfield 7, 3) := by decide +kernel
theorem dX0_pathIsLost_31 : decode cX0_pathIsLost 31 = .ok (.iconst 1, 1) := by decide +kernel
theorem dX0_pathIsLost_32 : decode cX0_pathIsLost 32 = .ok (.iaload, 1) := by decide +kernel
theorem dX0_pathIsLost_33 : decode cX0_pathIsLost 33 = .ok (.bipush 6, 2) := by decide +kernel
theorem dX0_pathIsLost_35 : decode cX0_pathIsLost 35 = .ok (.if_icmp .ne 7, 3) := by decide +kernel
theorem dX0_pathIsLost_38 : decode cX0_pathIsLost 38 = .ok (.iload_n 1, 1) := by decide +kernel
theorem dX0_pathIsLost_39 : decode cX0_pathIsLost 39 = .ok (.ifCond .eq 5, 3) := by decide +kernel
theorem dX0_pathIsLost_42 : decode cX0_pathIsLost 42 = .ok (.iconst 0, 1) := by decide +kernel
theorem dX0_pathIsLost_43 : decode cX0_pathIsLost 43 = .ok (.ireturn, 1) := by decide +kernel
theorem dX0_pathIsLost_44 : decode cX0_pathIsLost 44 = .ok (.aload_n 0, 1) := by decide +kernel
theorem dX0_pathIsLost_45 : decode cX0_pathIsLost 45 = .ok (.iconst 1, 1) := by decide +kernel
theorem dX0_pathIsLost_46 : decode cX0_pathIsLost 46 = .ok (.iconst 1, 1) := by decide +kernel
theorem dX0_pathIsLost_47 : decode cX0_pathIsLost 47 = .ok (.iconst 1, 1) := by decide +kernel
theorem dX0_pathIsLost_48 : decode cX0_pathIsLost 48 = .ok (.invokevirtual 124, 3) := by decide +kernel
theorem dX0_pathIsLost_51 : decode cX0_pathIsLost 51 = .ok (.iconst 1, 1) := by decide +kernel
theorem dX0_pathIsLost_52 : decode cX0_pathIsLost 52 = .ok (.ireturn, 1) := by decide +kernel
set_option maxRecDepth 20000 in
theorem ggX0_navIsReached_X0_isCourseWithin : GoodIn wsX0_navIsReached wsX0_isCourseWithin := goodIn_r _ [6, 7, 8, 9, 10, 11, 23, 24, 25, 26, 27, 28, 29, 30, 31, 32, 33, 34] (by decide +kernel) (by decide +kernel)
set_option maxRecDepth 20000 in
theorem gX0_navIsReached_X0_isCourseWithin : GoodIn wsX0_navIsReached (wsV RX0 199 RX0 yX0_isCourseWithin wsX0_isCourseWithin) := goodIn_app (goodIn_of _ (by decide +kernel)) ggX0_navIsReached_X0_isCourseWithin
set_option maxRecDepth 20000 in
theorem ggX0_navIsReached_X0_change : GoodIn wsX0_navIsReached wsX0_change := goodIn_r _ [15, 16, 17, 18, 19, 20, 21, 5, 22, 23, 24, 25, 26, 27, 28, 29, 30, 31, 32, 33, 34] (by decide +kernel) (by decide +kernel)
set_option maxRecDepth 20000 in
theorem gX0_navIsReached_X0_change : GoodIn wsX0_navIsReached (wsV RX0 124 RX0 yX0_change wsX0_change) := goodIn_app (goodIn_of _ (by decide +kernel)) ggX0_navIsReached_X0_change
theorem dX0_navIsReached_0 : decode cX0_navIsReached 0 = .ok (.aload_n 0, 1) := by decide +kernel
theorem dX0_navIsReached_1 : decode cX0_navIsReached 1 = .ok (.getfield 90, 3) := by decide +kernel
theorem dX0_navIsReached_4 : decode cX0_navIsReached 4 = .ok (.ifCond .eq 13, 3) := by decide +kernel
theorem dX0_navIsReached_7 : decode cX0_navIsReached 7 = .ok (.aload_n 0, 1) := by decide +kernel
theorem dX0_navIsReached_8 : decode cX0_navIsReached 8 = .ok (.sipush 150, 3) := by decide +kernel
theorem dX0_navIsReached_11 : decode cX0_navIsReached 11 = .ok (.invokevirtual 199, 3) := by decide +kernel
theorem dX0_navIsReached_14 : decode cX0_navIsReached 14 = .ok (.ifCond .ne 5, 3) := by decide +kernel
theorem dX0_navIsReached_17 : decode cX0_navIsReached 17 = .ok (.iconst 0, 1) := by decide +kernel
theorem dX0_navIsReached_18 : decode cX0_navIsReached 18 = .ok (.ireturn, 1) := by decide +kernel
theorem dX0_navIsReached_19 : decode cX0_navIsReached 19 = .ok (.aload_n 0, 1) := by decide +kernel
theorem dX0_navIsReached_20 : decode cX0_navIsReached 20 = .ok (.iconst 0, 1) := by decide +kernel
theorem dX0_navIsReached_21 : decode cX0_navIsReached 21 = .ok (.iconst 3, 1) := by decide +kernel
theorem dX0_navIsReached_22 : decode cX0_navIsReached 22 = .ok (.iconst 1, 1) := by decide +kernel
theorem dX0_navIsReached_23 : decode cX0_navIsReached 23 = .ok (.invokevirtual 124, 3) := by decide +kernel
theorem dX0_navIsReached_26 : decode cX0_navIsReached 26 = .ok (.aload_n 0, 1) := by decide +kernel
theorem dX0_navIsReached_27 : decode cX0_navIsReached 27 = .ok (.iconst 0, 1) := by decide +kernel
theorem dX0_navIsReached_28 : decode cX0_navIsReached 28 = .ok (.putfield 90, 3) := by decide +kernel
theorem dX0_navIsReached_31 : decode cX0_navIsReached 31 = .ok (.iconst 1, 1) := by decide +kernel
theorem dX0_navIsReached_32 : decode cX0_navIsReached 32 = .ok (.ireturn, 1) := by decide +kernel
set_option maxRecDepth 20000 in
theorem ggX0_approachIsReached_X0_isCourseWithin : GoodIn wsX0_approachIsReached wsX0_isCourseWithin := goodIn_r _ [6, 7, 8, 9, 10, 11, 23, 24, 25, 26, 27, 28, 29, 30, 31, 32, 33, 34] (by decide +kernel) (by decide +kernel)
set_option maxRecDepth 20000 in
theorem gX0_approachIsReached_X0_isCourseWithin : GoodIn wsX0_approachIsReached (wsV RX0 199 RX0 yX0_isCourseWithin wsX0_isCourseWithin) := goodIn_app (goodIn_of _ (by decide +kernel)) ggX0_approachIsReached_X0_isCourseWithin
set_option maxRecDepth 20000 in
theorem ggX0_approachIsReached_X0_change : GoodIn wsX0_approachIsReached wsX0_change := goodIn_r _ [15, 16, 17, 18, 19, 20, 21, 5, 22, 23, 24, 25, 26, 27, 28, 29, 30, 31, 32, 33, 34] (by decide +kernel) (by decide +kernel)
set_option maxRecDepth 20000 in
theorem gX0_approachIsReached_X0_change : GoodIn wsX0_approachIsReached (wsV RX0 124 RX0 yX0_change wsX0_change) := goodIn_app (goodIn_of _ (by decide +kernel)) ggX0_approachIsReached_X0_change
theorem dX0_approachIsReached_0 : decode cX0_approachIsReached 0 = .ok (.aload_n 0, 1) := by decide +kernel
theorem dX0_approachIsReached_1 : decode cX0_approachIsReached 1 = .ok (.getfield 93, 3) := by decide +kernel
theorem dX0_approachIsReached_4 : decode cX0_approachIsReached 4 = .ok (.ifCond .eq 12, 3) := by decide +kernel
theorem dX0_approachIsReached_7 : decode cX0_approachIsReached 7 = .ok (.aload_n 0, 1) := by decide +kernel
theorem dX0_approachIsReached_8 : decode cX0_approachIsReached 8 = .ok (.bipush 100, 2) := by decide +kernel
theorem dX0_approachIsReached_10 : decode cX0_approachIsReached 10 = .ok (.invokevirtual 199, 3) := by decide +kernel
theorem dX0_approachIsReached_13 : decode cX0_approachIsReached 13 = .ok (.ifCond .ne 5, 3) := by decide +kernel
theorem dX0_approachIsReached_16 : decode cX0_approachIsReached 16 = .ok (.iconst 0, 1) := by decide +kernel
theorem dX0_approachIsReached_17 : decode cX0_approachIsReached 17 = .ok (.ireturn, 1) := by decide +kernel
theorem dX0_approachIsReached_18 : decode cX0_approachIsReached 18 = .ok (.aload_n 0, 1) := by decide +kernel
theorem dX0_approachIsReached_19 : decode cX0_approachIsReached 19 = .ok (.iconst 0, 1) := by decide +kernel
theorem dX0_approachIsReached_20 : decode cX0_approachIsReached 20 = .ok (.iconst 4, 1) := by decide +kernel
theorem dX0_approachIsReached_21 : decode cX0_approachIsReached 21 = .ok (.iconst 1, 1) := by decide +kernel
theorem dX0_approachIsReached_22 : decode cX0_approachIsReached 22 = .ok (.invokevirtual 124, 3) := by decide +kernel
theorem dX0_approachIsReached_25 : decode cX0_approachIsReached 25 = .ok (.aload_n 0, 1) := by decide +kernel
theorem dX0_approachIsReached_26 : decode cX0_approachIsReached 26 = .ok (.iconst 0, 1) := by decide +kernel
theorem dX0_approachIsReached_27 : decode cX0_approachIsReached 27 = .ok (.putfield 93, 3) := by decide +kernel
theorem dX0_approachIsReached_30 : decode cX0_approachIsReached 30 = .ok (.iconst 1, 1) := by decide +kernel
theorem dX0_approachIsReached_31 : decode cX0_approachIsReached 31 = .ok (.ireturn, 1) := by decide +kernel
set_option maxRecDepth 20000 in
theorem ggX0_glideIsReached_X0_isPathWithin : GoodIn wsX0_glideIsReached wsX0_isPathWithin := goodIn_r _ [7, 8, 9, 10, 11, 12, 23, 24, 25, 26, 27, 28, 29, 30, 31, 32, 33, 34] (by decide +kernel) (by decide +kernel)
set_option maxRecDepth 20000 in
theorem gX0_glideIsReached_X0_isPathWithin : GoodIn wsX0_glideIsReached (wsV RX0 202 RX0 yX0_isPathWithin wsX0_isPathWithin) := goodIn_app (goodIn_of _ (by decide +kernel)) ggX0_glideIsReached_X0_isPathWithin
set_option maxRecDepth 20000 in
theorem ggX0_glideIsReached_X0_change : GoodIn wsX0_glideIsReached wsX0_change := goodIn_r _ [16, 2, 17, 18, 19, 20, 21, 6, 22, 23, 24, 25, 26, 27, 28, 29, 30, 31, 32, 33, 34] (by decide +kernel) (by decide +kernel)
set_option maxRecDepth 20000 in
theorem gX0_glideIsReached_X0_change : GoodIn wsX0_glideIsReached (wsV RX0 124 RX0 yX0_change wsX0_change) := goodIn_app (goodIn_of _ (by decide +kernel)) ggX0_glideIsReached_X0_change
theorem dX0_glideIsReached_0 : decode cX0_glideIsReached 0 = .ok (.aload_n 0, 1) := by decide +kernel
theorem dX0_glideIsReached_1 : decode cX0_glideIsReached 1 = .ok (.getfield 96, 3) := by decide +kernel
theorem dX0_glideIsReached_4 : decode cX0_glideIsReached 4 = .ok (.ifCond .eq 22, 3) := by decide +kernel
theorem dX0_glideIsReached_7 : decode cX0_glideIsReached 7 = .ok (.aload_n 0, 1) := by decide +kernel
theorem dX0_glideIsReached_8 : decode cX0_glideIsReached 8 = .ok (.getfield 7, 3) := by decide +kernel
theorem dX0_glideIsReached_11 : decode cX0_glideIsReached 11 = .ok (.iconst 0, 1) := by decide +kernel
theorem dX0_glideIsReached_12 : decode cX0_glideIsReached 12 = .ok (.iaload, 1) := by decide +kernel
theorem dX0_glideIsReached_13 : decode cX0_glideIsReached 13 = .ok (.iconst 4, 1) := by decide +kernel
theorem dX0_glideIsReached_14 : decode cX0_glideIsReached 14 = .ok (.if_icmp .ne 12, 3) := by decide +kernel
theorem dX0_glideIsReached_17 : decode cX0_glideIsReached 17 = .ok (.aload_n 0, 1) := by decide +kernel
theorem dX0_glideIsReached_18 : decode cX0_glideIsReached 18 = .ok (.bipush 80, 2) := by decide +kernel
theorem dX0_glideIsReached_20 : decode cX0_glideIsReached 20 = .ok (.invokevirtual 202, 3) := by decide +kernel
theorem dX0_glideIsReached_23 : decode cX0_glideIsReached 23 = .ok (.ifCond .ne 5, 3) := by decide +kernel
theorem dX0_glideIsReached_26 : decode cX0_glideIsReached 26 = .ok (.iconst 0, 1) := by decide +kernel
theorem dX0_glideIsReached_27 : decode cX0_glideIsReached 27 = .ok (.ireturn, 1) := by decide +kernel
theorem dX0_glideIsReached_28 : decode cX0_glideIsReached 28 = .ok (.aload_n 0, 1) := by decide +kernel
theorem dX0_glideIsReached_29 : decode cX0_glideIsReached 29 = .ok (.iconst 1, 1) := by decide +kernel
theorem dX0_glideIsReached_30 : decode cX0_glideIsReached 30 = .ok (.bipush 6, 2) := by decide +kernel
theorem dX0_glideIsReached_32 : decode cX0_glideIsReached 32 = .ok (.iconst 1, 1) := by decide +kernel
theorem dX0_glideIsReached_33 : decode cX0_glideIsReached 33 = .ok (.invokevirtual 124, 3) := by decide +kernel
theorem dX0_glideIsReached_36 : decode cX0_glideIsReached 36 = .ok (.aload_n 0, 1) := by decide +kernel
theorem dX0_glideIsReached_37 : decode cX0_glideIsReached 37 = .ok (.iconst 0, 1) := by decide +kernel
theorem dX0_glideIsReached_38 : decode cX0_glideIsReached 38 = .ok (.putfield 96, 3) := by decide +kernel
theorem dX0_glideIsReached_41 : decode cX0_glideIsReached 41 = .ok (.iconst 1, 1) := by decide +kernel
theorem dX0_glideIsReached_42 : decode cX0_glideIsReached 42 = .ok (.ireturn, 1) := by decide +kernel
set_option maxRecDepth 20000 in
theorem ggX0_heightComesNear_X0_isCaptureArmed : GoodIn wsX0_heightComesNear wsX0_isCaptureArmed := goodIn_r _ [5, 6, 26, 27, 28, 29, 30, 31, 32, 33, 34, 35, 36, 37] (by decide +kernel) (by decide +kernel)
set_option maxRecDepth 20000 in
theorem gX0_heightComesNear_X0_isCaptureArmed : GoodIn wsX0_heightComesNear (wsV RX0 99 RX0 yX0_isCaptureArmed wsX0_isCaptureArmed) := goodIn_app (goodIn_of _ (by decide +kernel)) ggX0_heightComesNear_X0_isCaptureArmed
set_option maxRecDepth 20000 in
theorem ggX0_heightComesNear_X0_isHeightWithin : GoodIn wsX0_heightComesNear wsX0_isHeightWithin := goodIn_r _ [10, 11, 12, 13, 14, 15, 26, 27, 28, 29, 30, 31, 32, 33, 34, 35, 36, 37] (by decide +kernel) (by decide +kernel)
set_option maxRecDepth 20000 in
theorem gX0_heightComesNear_X0_isHeightWithin : GoodIn wsX0_heightComesNear (wsV RX0 205 RX0 yX0_isHeightWithin wsX0_isHeightWithin) := goodIn_app (goodIn_of _ (by decide +kernel)) ggX0_heightComesNear_X0_isHeightWithin
set_option maxRecDepth 20000 in
theorem ggX0_heightComesNear_X0_change : GoodIn wsX0_heightComesNear wsX0_change := goodIn_r _ [19, 6, 20, 21, 22, 23, 24, 4, 25, 26, 27, 28, 29, 30, 31, 32, 33, 34, 35, 36, 37] (by decide +kernel) (by decide +kernel)
set_option maxRecDepth 20000 in
theorem gX0_heightComesNear_X0_change : GoodIn wsX0_heightComesNear (wsV RX0 124 RX0 yX0_change wsX0_change) := goodIn_app (goodIn_of _ (by decide +kernel)) ggX0_heightComesNear_X0_change
theorem dX0_heightComesNear_0 : decode cX0_heightComesNear 0 = .ok (.aload_n 0, 1) := by decide +kernel
theorem dX0_heightComesNear_1 : decode cX0_heightComesNear 1 = .ok (.invokevirtual 99, 3) := by decide +kernel
theorem dX0_heightComesNear_4 : decode cX0_heightComesNear 4 = .ok (.ifCond .eq 13, 3) := by decide +kernel
theorem dX0_heightComesNear_7 : decode cX0_heightComesNear 7 = .ok (.aload_n 0, 1) := by decide +kernel
theorem dX0_heightComesNear_8 : decode cX0_heightComesNear 8 = .ok (.sipush 400, 3) := by decide +kernel
theorem dX0_heightComesNear_11 : decode cX0_heightComesNear 11 = .ok (.invokevirtual 205, 3) := by decide +kernel
theorem dX0_heightComesNear_14 : decode cX0_heightComesNear 14 = .ok (.ifCond .ne 5, 3) := by decide +kernel
theorem dX0_heightComesNear_17 : decode cX0_heightComesNear 17 = .ok (.iconst 0, 1) := by decide +kernel
theorem dX0_heightComesNear_18 : decode cX0_heightComesNear 18 = .ok (.ireturn, 1) := by decide +kernel
theorem dX0_heightComesNear_19 : decode cX0_heightComesNear 19 = .ok (.aload_n 0, 1) := by decide +kernel
theorem dX0_heightComesNear_20 : decode cX0_heightComesNear 20 = .ok (.iconst 1, 1) := by decide +kernel
theorem dX0_heightComesNear_21 : decode cX0_heightComesNear 21 = .ok (.iconst 5, 1) := by decide +kernel
theorem dX0_heightComesNear_22 : decode cX0_heightComesNear 22 = .ok (.iconst 1, 1) := by decide +kernel
theorem dX0_heightComesNear_23 : decode cX0_heightComesNear 23 = .ok (.invokevirtual 124, 3) := by decide +kernel
theorem dX0_heightComesNear_26 : decode cX0_heightComesNear 26 = .ok (.iconst 1, 1) := by decide +kernel
theorem dX0_heightComesNear_27 : decode cX0_heightComesNear 27 = .ok (.ireturn, 1) := by decide +kernel
set_option maxRecDepth 20000 in
theorem ggX0_heightIsReached_X0_isHeightWithin : GoodIn wsX0_heightIsReached wsX0_isHeightWithin := goodIn_r _ [6, 7, 8, 9, 10, 11, 22, 23, 24, 25, 26, 27, 28, 29, 30, 31, 32, 33] (by decide +kernel) (by decide +kernel)
set_option maxRecDepth 20000 in
theorem gX0_heightIsReached_X0_isHeightWithin : GoodIn wsX0_heightIsReached (wsV RX0 205 RX0 yX0_isHeightWithin wsX0_isHeightWithin) := goodIn_app (goodIn_of _ (by decide +kernel)) ggX0_heightIsReached_X0_isHeightWithin
set_option maxRecDepth 20000 in
theorem ggX0_heightIsReached_X0_change : GoodIn wsX0_heightIsReached wsX0_change := goodIn_r _ [15, 1, 16, 17, 18, 19, 20, 5, 21, 22, 23, 24, 25, 26, 27, 28, 29, 30, 31, 32, 33] (by decide +kernel) (by decide +kernel)
set_option maxRecDepth 20000 in
theorem gX0_heightIsReached_X0_change : GoodIn wsX0_heightIsReached (wsV RX0 124 RX0 yX0_change wsX0_change) := goodIn_app (goodIn_of _ (by decide +kernel)) ggX0_heightIsReached_X0_change
theorem dX0_heightIsReached_0 : decode cX0_heightIsReached 0 = .ok (.aload_n 0, 1) := by decide +kernel
theorem dX0_heightIsReached_1 : decode cX0_heightIsReached 1 = .ok (.getfield 7, 3) := by decide +kernel
theorem dX0_heightIsReached_4 : decode cX0_heightIsReached 4 = .ok (.iconst 1, 1) := by decide +kernel
theorem dX0_heightIsReached_5 : decode cX0_heightIsReached 5 = .ok (.iaload, 1) := by decide +kernel
theorem dX0_heightIsReached_6 : decode cX0_heightIsReached 6 = .ok (.iconst 5, 1) := by decide +kernel
theorem dX0_heightIsReached_7 : decode cX0_heightIsReached 7 = .ok (.if_icmp .ne 12, 3) := by decide +kernel
theorem dX0_heightIsReached_10 : decode cX0_heightIsReached 10 = .ok (.aload_n 0, 1) := by decide +kernel
theorem dX0_heightIsReached_11 : decode cX0_heightIsReached 11 = .ok (.bipush 20, 2) := by decide +kernel
theorem dX0_heightIsReached_13 : decode cX0_heightIsReached 13 = .ok (.invokevirtual 205, 3) := by decide +kernel
theorem dX0_heightIsReached_16 : decode cX0_heightIsReached 16 = .ok (.ifCond .ne 5, 3) := by decide +kernel
theorem dX0_heightIsReached_19 : decode cX0_heightIsReached 19 = .ok (.iconst 0, 1) := by decide +kernel
theorem dX0_heightIsReached_20 : decode cX0_heightIsReached 20 = .ok (.ireturn, 1) := by decide +kernel
theorem dX0_heightIsReached_21 : decode cX0_heightIsReached 21 = .ok (.aload_n 0, 1) := by decide +kernel
theorem dX0_heightIsReached_22 : decode cX0_heightIsReached 22 = .ok (.iconst 1, 1) := by decide +kernel
theorem dX0_heightIsReached_23 : decode cX0_heightIsReached 23 = .ok (.iconst 4, 1) := by decide +kernel
theorem dX0_heightIsReached_24 : decode cX0_heightIsReached 24 = .ok (.iconst 1, 1) := by decide +kernel
theorem dX0_heightIsReached_25 : decode cX0_heightIsReached 25 = .ok (.invokevirtual 124, 3) := by decide +kernel
theorem dX0_heightIsReached_28 : decode cX0_heightIsReached 28 = .ok (.iconst 1, 1) := by decide +kernel
theorem dX0_heightIsReached_29 : decode cX0_heightIsReached 29 = .ok (.ireturn, 1) := by decide +kernel
set_option maxRecDepth 20000 in
theorem ggX0_heightIsLost_X0_isHeightWithin : GoodIn wsX0_heightIsLost wsX0_isHeightWithin := goodIn_r _ [6, 7, 8, 9, 10, 11, 22, 23, 24, 25, 26, 27, 28, 29, 30, 31, 32, 33] (by decide +kernel) (by decide +kernel)
set_option maxRecDepth 20000 in
theorem gX0_heightIsLost_X0_isHeightWithin : GoodIn wsX0_heightIsLost (wsV RX0 205 RX0 yX0_isHeightWithin wsX0_isHeightWithin) := goodIn_app (goodIn_of _ (by decide +kernel)) ggX0_heightIsLost_X0_isHeightWithin
set_option maxRecDepth 20000 in
theorem ggX0_heightIsLost_X0_change : GoodIn wsX0_heightIsLost wsX0_change := goodIn_r _ [15, 1, 16, 17, 18, 19, 20, 5, 21, 22, 23, 24, 25, 26, 27, 28, 29, 30, 31, 32, 33] (by decide +kernel) (by decide +kernel)
set_option maxRecDepth 20000 in
theorem gX0_heightIsLost_X0_change : GoodIn wsX0_heightIsLost (wsV RX0 124 RX0 yX0_change wsX0_change) := goodIn_app (goodIn_of _ (by decide +kernel)) ggX0_heightIsLost_X0_change
theorem dX0_heightIsLost_0 : decode cX0_heightIsLost 0 = .ok (.aload_n 0, 1) := by decide +kernel
theorem dX0_heightIsLost_1 : decode cX0_heightIsLost 1 = .ok (.getfield 7, 3) := by decide +kernel
theorem dX0_heightIsLost_4 : decode cX0_heightIsLost 4 = .ok (.iconst 1, 1) := by decide +kernel
theorem dX0_heightIsLost_5 : decode cX0_heightIsLost 5 = .ok (.iaload, 1) := by decide +kernel
theorem dX0_heightIsLost_6 : decode cX0_heightIsLost 6 = .ok (.iconst 5, 1) := by decide +kernel
theorem dX0_heightIsLost_7 : decode cX0_heightIsLost 7 = .ok (.if_icmp .ne 13, 3) := by decide +kernel
theorem dX0_heightIsLost_10 : decode cX0_heightIsLost 10 = .ok (.aload_n 0, 1) := by decide +kernel
theorem dX0_heightIsLost_11 : decode cX0_heightIsLost 11 = .ok (.sipush 400, 3) := by decide +kernel
theorem dX0_heightIsLost_14 : decode cX0_heightIsLost 14 = .ok (.invokevirtual 205, 3) := by decide +kernel
theorem dX0_heightIsLost_17 : decode cX0_heightIsLost 17 = .ok (.ifCond .eq 5, 3) := by decide +kernel
theorem dX0_heightIsLost_20 : decode cX0_heightIsLost 20 = .ok (.iconst 0, 1) := by decide +kernel
theorem dX0_heightIsLost_21 : decode cX0_heightIsLost 21 = .ok (.ireturn, 1) := by decide +kernel
theorem dX0_heightIsLost_22 : decode cX0_heightIsLost 22 = .ok (.aload_n 0, 1) := by decide +kernel
theorem dX0_heightIsLost_23 : decode cX0_heightIsLost 23 = .ok (.iconst 1, 1) := by decide +kernel
theorem dX0_heightIsLost_24 : decode cX0_heightIsLost 24 = .ok (.iconst 1, 1) := by decide +kernel
theorem dX0_heightIsLost_25 : decode cX0_heightIsLost 25 = .ok (.iconst 1, 1) := by decide +kernel
theorem dX0_heightIsLost_26 : decode cX0_heightIsLost 26 = .ok (.invokevirtual 124, 3) := by decide +kernel
theorem dX0_heightIsLost_29 : decode cX0_heightIsLost 29 = .ok (.iconst 1, 1) := by decide +kernel
theorem dX0_heightIsLost_30 : decode cX0_heightIsLost 30 = .ok (.ireturn, 1) := by decide +kernel
set_option maxRecDepth 20000 in
theorem ggX0_climbIsTooFast_X0_isTooFast : GoodIn wsX0_climbIsTooFast wsX0_isTooFast := goodIn_r _ [6, 7, 18, 19, 20, 21, 22, 23, 24, 25, 26, 27, 28, 29] (by decide +kernel) (by decide +kernel)
set_option maxRecDepth 20000 in
theorem gX0_climbIsTooFast_X0_isTooFast : GoodIn wsX0_climbIsTooFast (wsV RX0 74 RX0 yX0_isTooFast wsX0_isTooFast) := goodIn_app (goodIn_of _ (by decide +kernel)) ggX0_climbIsTooFast_X0_isTooFast
set_option maxRecDepth 20000 in
theorem ggX0_climbIsTooFast_X0_change : GoodIn wsX0_climbIsTooFast wsX0_change := goodIn_r _ [11, 1, 12, 13, 14, 15, 16, 5, 17, 18, 19, 20, 21, 22, 23, 24, 25, 26, 27, 28, 29] (by decide +kernel) (by decide +kernel)
set_option maxRecDepth 20000 in
theorem gX0_climbIsTooFast_X0_change : GoodIn wsX0_climbIsTooFast (wsV RX0 124 RX0 yX0_change wsX0_change) := goodIn_app (goodIn_of _ (by decide +kernel)) ggX0_climbIsTooFast_X0_change
theorem dX0_climbIsTooFast_0 : decode cX0_climbIsTooFast 0 = .ok (.aload_n 0, 1) := by decide +kernel
theorem dX0_climbIsTooFast_1 : decode cX0_climbIsTooFast 1 = .ok (.getfield 7, 3) := by decide +kernel
theorem dX0_climbIsTooFast_4 : decode cX0_climbIsTooFast 4 = .ok (.iconst 1, 1) := by decide +kernel
theorem dX0_climbIsTooFast_5 : decode cX0_climbIsTooFast 5 = .ok (.iaload, 1) := by decide +kernel
theorem dX0_climbIsTooFast_6 : decode cX0_climbIsTooFast 6 = .ok (.iconst 2, 1) := by decide +kernel
theorem dX0_climbIsTooFast_7 : decode cX0_climbIsTooFast 7 = .ok (.if_icmp .ne 10, 3) := by decide +kernel
theorem dX0_climbIsTooFast_10 : decode cX0_climbIsTooFast 10 = .ok (.aload_n 0, 1) := by decide +kernel
theorem dX0_climbIsTooFast_11 : decode cX0_climbIsTooFast 11 = .ok (.invokevirtual 74, 3) := by decide +kernel
theorem dX0_climbIsTooFast_14 : decode cX0_climbIsTooFast 14 = .ok (.ifCond .ne 5, 3) := by decide +kernel
theorem dX0_climbIsTooFast_17 : decode cX0_climbIsTooFast 17 = .ok (.iconst 0, 1) := by decide +kernel
theorem dX0_climbIsTooFast_18 : decode cX0_climbIsTooFast 18 = .ok (.ireturn, 1) := by decide +kernel
theorem dX0_climbIsTooFast_19 : decode cX0_climbIsTooFast 19 = .ok (.aload_n 0, 1) := by decide +kernel
theorem dX0_climbIsTooFast_20 : decode cX0_climbIsTooFast 20 = .ok (.iconst 1, 1) := by decide +kernel
theorem dX0_climbIsTooFast_21 : decode cX0_climbIsTooFast 21 = .ok (.iconst 3, 1) := by decide +kernel
theorem dX0_climbIsTooFast_22 : decode cX0_climbIsTooFast 22 = .ok (.iconst 1, 1) := by decide +kernel
theorem dX0_climbIsTooFast_23 : decode cX0_climbIsTooFast 23 = .ok (.invokevirtual 124, 3) := by decide +kernel
theorem dX0_climbIsTooFast_26 : decode cX0_climbIsTooFast 26 = .ok (.iconst 1, 1) := by decide +kernel
theorem dX0_climbIsTooFast_27 : decode cX0_climbIsTooFast 27 = .ok (.ireturn, 1) := by decide +kernel
theorem dX1_init_0 : decode cX1_init 0 = .ok (.aload_n 0, 1) := by decide +kernel
theorem dX1_init_1 : decode cX1_init 1 = .ok (.invokespecial 1, 3) := by decide +kernel
theorem dX1_init_4 : decode cX1_init 4 = .ok (.aload_n 0, 1) := by decide +kernel
theorem dX1_init_5 : decode cX1_init 5 = .ok (.bipush 7, 2) := by decide +kernel
theorem dX1_init_7 : decode cX1_init 7 = .ok (.newarray .int, 2) := by decide +kernel
theorem dX1_init_9 : decode cX1_init 9 = .ok (.putfield 7, 3) := by decide +kernel
theorem dX1_init_12 : decode cX1_init 12 = .ok (.aload_n 0, 1) := by decide +kernel
theorem dX1_init_13 : decode cX1_init 13 = .ok (.sipush 1200, 3) := by decide +kernel
theorem dX1_init_16 : decode cX1_init 16 = .ok (.newarray .int, 2) := by decide +kernel
theorem dX1_init_18 : decode cX1_init 18 = .ok (.putfield 13, 3) := by decide +kernel
theorem dX1_init_21 : decode cX1_init 21 = .ok (.aload_n 0, 1) := by decide +kernel
theorem dX1_init_22 : decode cX1_init 22 = .ok (.iconst 0, 1) := by decide +kernel
theorem dX1_init_23 : decode cX1_init 23 = .ok (.putfield 16, 3) := by decide +kernel
theorem dX1_init_26 : decode cX1_init 26 = .ok (.return_, 1) := by decide +kernel
theorem dX1_thrown_0 : decode cX1_thrown 0 = .ok (.aload_n 0, 1) := by decide +kernel
theorem dX1_thrown_1 : decode cX1_thrown 1 = .ok (.getfield 20, 3) := by decide +kernel
theorem dX1_thrown_4 : decode cX1_thrown 4 = .ok (.ireturn, 1) := by decide +kernel
theorem dX1_good_0 : decode cX1_good 0 = .ok (.aload_n 0, 1) := by decide +kernel
theorem dX1_good_1 : decode cX1_good 1 = .ok (.iload_n 1, 1) := by decide +kernel
theorem dX1_good_2 : decode cX1_good 2 = .ok (.ifCond .eq 7, 3) := by decide +kernel
theorem dX1_good_5 : decode cX1_good 5 = .ok (.iconst 0, 1) := by decide +kernel
theorem dX1_good_6 : decode cX1_good 6 = .ok (.goto 4, 3) := by decide +kernel
theorem dX1_good_9 : decode cX1_good 9 = .ok (.iconst 1, 1) := by decide +kernel
theorem dX1_good_10 : decode cX1_good 10 = .ok (.putfield 20, 3) := by decide +kernel
theorem dX1_good_13 : decode cX1_good 13 = .ok (.iload_n 1, 1) := by decide +kernel
theorem dX1_good_14 : decode cX1_good 14 = .ok (.ireturn, 1) := by decide +kernel
theorem dX1_keep_0 : decode cX1_keep 0 = .ok (.aload_n 0, 1) := by decide +kernel
theorem dX1_keep_1 : decode cX1_keep 1 = .ok (.getfield 23, 3) := by decide +kernel
theorem dX1_keep_4 : decode cX1_keep 4 = .ok (.sipush 300, 3) := by decide +kernel
theorem dX1_keep_7 : decode cX1_keep 7 = .ok (.if_icmp .ge 58, 3) := by decide +kernel
theorem dX1_keep_10 : decode cX1_keep 10 = .ok (.aload_n 0, 1) := by decide +kernel
theorem dX1_keep_11 : decode cX1_keep 11 = .ok (.getfield 13, 3) := by decide +kernel
theorem dX1_keep_14 : decode cX1_keep 14 = .ok (.iconst 4, 1) := by decide +kernel
theorem dX1_keep_15 : decode cX1_keep 15 = .ok (.aload_n 0, 1) := by decide +kernel
theorem dX1_keep_16 : decode cX1_keep 16 = .ok (.getfield 23, 3) := by decide +kernel
theorem dX1_keep_19 : decode cX1_keep 19 = .ok (.imul, 1) := by decide +kernel
theorem dX1_keep_20 : decode cX1_keep 20 = .ok (.iload_n 1, 1) := by decide +kernel
theorem dX1_keep_21 : decode cX1_keep 21 = .ok (.iastore, 1) := by decide +kernel
theorem dX1_keep_22 : decode cX1_keep 22 = .ok (.aload_n 0, 1) := by decide +kernel
theorem dX1_keep_23 : decode cX1_keep 23 = .ok (.getfield 13, 3) := by decide +kernel
theorem dX1_keep_26 : decode cX1_keep 26 = .ok (.iconst 4, 1) := by decide +kernel
theorem dX1_keep_27 : decode cX1_keep 27 = .ok (.aload_n 0, 1) := by decide +kernel
theorem dX1_keep_28 : decode cX1_keep 28 = .ok (.getfield 23, 3) := by decide +kernel
theorem dX1_keep_31 : decode cX1_keep 31 = .ok (.imul, 1) := by decide +kernel
theorem dX1_keep_32 : decode cX1_keep 32 = .ok (.iconst 1, 1) := by decide +kernel
theorem dX1_keep_33 : decode cX1_keep 33 = .ok (.iadd, 1) := by decide +kernel
theorem dX1_keep_34 : decode cX1_keep 34 = .ok (.iload_n 2, 1) := by decide +kernel
theorem dX1_keep_35 : decode cX1_keep 35 = .ok (.iastore, 1) := by decide +kernel
theorem dX1_keep_36 : decode cX1_keep 36 = .ok (.aload_n 0, 1) := by decide +kernel
theorem dX1_keep_37 : decode cX1_keep 37 = .ok (.getfield 13, 3) := by decide +kernel
theorem dX1_keep_40 : decode cX1_keep 40 = .ok (.iconst 4, 1) := by decide +kernel
theorem dX1_keep_41 : decode cX1_keep 41 = .ok (.aload_n 0, 1) := by decide +kernel
theorem dX1_keep_42 : decode cX1_keep 42 = .ok (.getfield 23, 3) := by decide +kernel
theorem dX1_keep_45 : decode cX1_keep 45 = .ok (.imul, 1) := by decide +kernel
theorem dX1_keep_46 : decode cX1_keep 46 = .ok (.iconst 2, 1) := by decide +kernel
theorem dX1_keep_47 : decode cX1_keep 47 = .ok (.iadd, 1) := by decide +kernel
theorem dX1_keep_48 : decode cX1_keep 48 = .ok (.iload_n 3, 1) := by decide +kernel
theorem dX1_keep_49 : decode cX1_keep 49 = .ok (.iastore, 1) := by decide +kernel
theorem dX1_keep_50 : decode cX1_keep 50 = .ok (.aload_n 0, 1) := by decide +kernel
theorem dX1_keep_51 : decode cX1_keep 51 = .ok (.getfield 13, 3) := by decide +kernel
theorem dX1_keep_54 : decode cX1_keep 54 = .ok (.iconst 4, 1) := by decide +kernel
theorem dX1_keep_55 : decode cX1_keep 55 = .ok (.aload_n 0, 1) := by decide +kernel
theorem dX1_keep_56 : decode cX1_keep 56 = .ok (.getfield 23, 3) := by decide +kernel
theorem dX1_keep_59 : decode cX1_keep 59 = .ok (.imul, 1) := by decide +kernel
theorem dX1_keep_60 : decode cX1_keep 60 = .ok (.iconst 3, 1) := by decide +kernel
theorem dX1_keep_61 : decode cX1_keep 61 = .ok (.iadd, 1) := by decide +kernel
theorem dX1_keep_62 : decode cX1_keep 62 = .ok (.iload 4, 2) := by decide +kernel
theorem dX1_keep_64 : decode cX1_keep 64 = .ok (.iastore, 1) := by decide +kernel
theorem dX1_keep_65 : decode cX1_keep 65 = .ok (.aload_n 0, 1) := by decide +kernel
theorem dX1_keep_66 : decode cX1_keep 66 = .ok (.dup, 1) := by decide +kernel
theorem dX1_keep_67 : decode cX1_keep 67 = .ok (.getfield 23, 3) := by decide +kernel
theorem dX1_keep_70 : decode cX1_keep 70 = .ok (.iconst 1, 1) := by decide +kernel
theorem dX1_keep_71 : decode cX1_keep 71 = .ok (.iadd, 1) := by decide +kernel
theorem dX1_keep_72 : decode cX1_keep 72 = .ok (.putfield 23, 3) := by decide +kernel
theorem dX1_keep_75 : decode cX1_keep 75 = .ok (.return_, 1) := by decide +kernel
set_option maxRecDepth 20000 in
theorem ggX1_lateralTo_X1_keep : GoodIn wsX1_lateralTo wsX1_keep := goodIn_r _ [7, 8, 9, 10, 11, 12, 13, 14, 15, 16, 17, 18, 19, 20, 21, 22, 23, 24] (by decide +kernel) (by decide +kernel)
set_option maxRecDepth 20000 in
theorem gX1_lateralTo_X1_keep : GoodIn wsX1_lateralTo (wsV RX1 29 RX1 yX1_keep wsX1_keep) := goodIn_app (goodIn_of _ (by decide +kernel)) ggX1_lateralTo_X1_keep
theorem dX1_lateralTo_0 : decode cX1_lateralTo 0 = .ok (.aload_n 0, 1) := by decide +kernel
theorem dX1_lateralTo_1 : decode cX1_lateralTo 1 = .ok (.getfield 26, 3) := by decide +kernel
theorem dX1_lateralTo_4 : decode cX1_lateralTo 4 = .ok (.iload_n 1, 1) := by decide +kernel
theorem dX1_lateralTo_5 : decode cX1_lateralTo 5 = .ok (.if_icmp .eq 37, 3) := by decide +kernel
theorem dX1_lateralTo_8 : decode cX1_lateralTo 8 = .ok (.aload_n 0, 1) := by decide +kernel
theorem dX1_lateralTo_9 : decode cX1_lateralTo 9 = .ok (.iconst 0, 1) := by decide +kernel
theorem dX1_lateralTo_10 : decode cX1_lateralTo 10 = .ok (.aload_n 0, 1) := by decide +kernel
theorem dX1_lateralTo_11 : decode cX1_lateralTo 11 = .ok (.getfield 26, 3) := by decide +kernel
theorem dX1_lateralTo_14 : decode cX1_lateralTo 14 = .ok (.iload_n 1, 1) := by decide +kernel
theorem dX1_lateralTo_15 : decode cX1_lateralTo 15 = .ok (.iload_n 2, 1) := by decide +kernel
theorem dX1_lateralTo_16 : decode cX1_lateralTo 16 = .ok (.invokevirtual 29, 3) := by decide +kernel
theorem dX1_lateralTo_19 : decode cX1_lateralTo 19 = .ok (.aload_n 0, 1) := by decide +kernel
theorem dX1_lateralTo_20 : decode cX1_lateralTo 20 = .ok (.iload_n 1, 1) := by decide +kernel
theorem dX1_lateralTo_21 : decode cX1_lateralTo 21 = .ok (.putfield 26, 3) := by decide +kernel
theorem dX1_lateralTo_24 : decode cX1_lateralTo 24 = .ok (.aload_n 0, 1) := by decide +kernel
theorem dX1_lateralTo_25 : decode cX1_lateralTo 25 = .ok (.iload_n 2, 1) := by decide +kernel
theorem dX1_lateralTo_26 : decode cX1_lateralTo 26 = .ok (.iconst 1, 1) := by decide +kernel
theorem dX1_lateralTo_27 : decode cX1_lateralTo 27 = .ok (.if_icmp .ne 8, 3) := by decide +kernel
theorem dX1_lateralTo_30 : decode cX1_lateralTo 30 = .ok (.bipush 10, 2) := by decide +kernel
theorem dX1_lateralTo_32 : decode cX1_lateralTo 32 = .ok (.goto 7, 3) := by decide +kernel
theorem dX1_lateralTo_35 : decode cX1_lateralTo 35 = .ok (.aload_n 0, 1) := by decide +kernel
theorem dX1_lateralTo_36 : decode cX1_lateralTo 36 = .ok (.getfield 33, 3) := by decide +kernel
theorem dX1_lateralTo_39 : decode cX1_lateralTo 39 = .ok (.putfield 33, 3) := by decide +kernel
theorem dX1_lateralTo_42 : decode cX1_lateralTo 42 = .ok (.return_, 1) := by decide +kernel
set_option maxRecDepth 20000 in
theorem ggX1_verticalTo_X1_keep : GoodIn wsX1_verticalTo wsX1_keep := goodIn_r _ [7, 8, 9, 10, 11, 12, 13, 14, 15, 16, 17, 18, 19, 20, 21, 22, 23, 24] (by decide +kernel) (by decide +kernel)
set_option maxRecDepth 20000 in
theorem gX1_verticalTo_X1_keep : GoodIn wsX1_verticalTo (wsV RX1 29 RX1 yX1_keep wsX1_keep) := goodIn_app (goodIn_of _ (by decide +kernel)) ggX1_verticalTo_X1_keep
theorem dX1_verticalTo_0 : decode cX1_verticalTo 0 = .ok (.aload_n 0, 1) := by decide +kernel
theorem dX1_verticalTo_1 : decode cX1_verticalTo 1 = .ok (.getfield 36, 3) := by decide +kernel
theorem dX1_verticalTo_4 : decode cX1_verticalTo 4 = .ok (.iload_n 1, 1) := by decide +kernel
theorem dX1_verticalTo_5 : decode cX1_verticalTo 5 = .ok (.if_icmp .eq 37, 3) := by decide +kernel
theorem dX1_verticalTo_8 : decode cX1_verticalTo 8 = .ok (.aload_n 0, 1) := by decide +kernel
theorem dX1_verticalTo_9 : decode cX1_verticalTo 9 = .ok (.iconst 1, 1) := by decide +kernel
theorem dX1_verticalTo_10 : decode cX1_verticalTo 10 = .ok (.aload_n 0, 1) := by decide +kernel
theorem dX1_verticalTo_11 : decode cX1_verticalTo 11 = .ok (.getfield 36, 3) := by decide +kernel
theorem dX1_verticalTo_14 : decode cX1_verticalTo 14 = .ok (.iload_n 1, 1) := by decide +kernel
theorem dX1_verticalTo_15 : decode cX1_verticalTo 15 = .ok (.iload_n 2, 1) := by decide +kernel
theorem dX1_verticalTo_16 : decode cX1_verticalTo 16 = .ok (.invokevirtual 29, 3) := by decide +kernel
theorem dX1_verticalTo_19 : decode cX1_verticalTo 19 = .ok (.aload_n 0, 1) := by decide +kernel
theorem dX1_verticalTo_20 : decode cX1_verticalTo 20 = .ok (.iload_n 1, 1) := by decide +kernel
theorem dX1_verticalTo_21 : decode cX1_verticalTo 21 = .ok (.putfield 36, 3) := by decide +kernel
theorem dX1_verticalTo_24 : decode cX1_verticalTo 24 = .ok (.aload_n 0, 1) := by decide +kernel
theorem dX1_verticalTo_25 : decode cX1_verticalTo 25 = .ok (.iload_n 2, 1) := by decide +kernel
theorem dX1_verticalTo_26 : decode cX1_verticalTo 26 = .ok (.iconst 1, 1) := by decide +kernel
theorem dX1_verticalTo_27 : decode cX1_verticalTo 27 = .ok (.if_icmp .ne 8, 3) := by decide +kernel
theorem dX1_verticalTo_30 : decode cX1_verticalTo 30 = .ok (.bipush 10, 2) := by decide +kernel
theorem dX1_verticalTo_32 : decode cX1_verticalTo 32 = .ok (.goto 7, 3) := by decide +kernel
theorem dX1_verticalTo_35 : decode cX1_verticalTo 35 = .ok (.aload_n 0, 1) := by decide +kernel
theorem dX1_verticalTo_36 : decode cX1_verticalTo 36 = .ok (.getfield 39, 3) := by decide +kernel
theorem dX1_verticalTo_39 : decode cX1_verticalTo 39 = .ok (.putfield 39, 3) := by decide +kernel
theorem dX1_verticalTo_42 : decode cX1_verticalTo 42 = .ok (.return_, 1) := by decide +kernel
theorem dX1_noneArmed_0 : decode cX1_noneArmed 0 = .ok (.aload_n 0, 1) := by decide +kernel
theorem dX1_noneArmed_1 : decode cX1_noneArmed 1 = .ok (.iconst 0, 1) := by decide +kernel
theorem dX1_noneArmed_2 : decode cX1_noneArmed 2 = .ok (.putfield 42, 3) := by decide +kernel
theorem dX1_noneArmed_5 : decode cX1_noneArmed 5 = .ok (.aload_n 0, 1) := by decide +kernel
theorem dX1_noneArmed_6 : decode cX1_noneArmed 6 = .ok (.iconst 0, 1) := by decide +kernel
theorem dX1_noneArmed_7 : decode cX1_noneArmed 7 = .ok (.putfield 45, 3) := by decide +kernel
theorem dX1_noneArmed_10 : decode cX1_noneArmed 10 = .ok (.return_, 1) := by decide +kernel
set_option maxRecDepth 20000 in
theorem ggX1_base_X1_noneArmed : GoodIn wsX1_base wsX1_noneArmed := goodIn_r _ [5, 6, 7, 26, 27, 28, 29, 30, 31, 32, 33, 34, 35, 36, 37, 38, 39, 40] (by decide +kernel) (by decide +kernel)
set_option maxRecDepth 20000 in
theorem gX1_base_X1_noneArmed : GoodIn wsX1_base (wsV RX1 49 RX1 yX1_noneArmed wsX1_noneArmed) := goodIn_app (goodIn_of _ (by decide +kernel)) ggX1_base_X1_noneArmed
set_option maxRecDepth 20000 in
theorem ggX1_base_X1_lateralTo : GoodIn wsX1_base wsX1_lateralTo := goodIn_r _ [11, 12, 13, 14, 15, 16, 4, 17, 18, 19, 26, 27, 28, 29, 30, 31, 32, 33, 34, 35, 36, 37, 38, 39, 40] (by decide +kernel) (by decide +kernel)
set_option maxRecDepth 20000 in
theorem gX1_base_X1_lateralTo : GoodIn wsX1_base (wsV RX1 52 RX1 yX1_lateralTo wsX1_lateralTo) := goodIn_app (goodIn_of _ (by decide +kernel)) ggX1_base_X1_lateralTo
set_option maxRecDepth 20000 in
theorem ggX1_base_X1_verticalTo : GoodIn wsX1_base wsX1_verticalTo := goodIn_r _ [23, 24, 25, 14, 15, 16, 4, 17, 18, 19, 26, 27, 28, 29, 30, 31, 32, 33, 34, 35, 36, 37, 38, 39, 40] (by decide +kernel) (by decide +kernel)
set_option maxRecDepth 20000 in
theorem gX1_base_X1_verticalTo : GoodIn wsX1_base (wsV RX1 56 RX1 yX1_verticalTo wsX1_verticalTo) := goodIn_app (goodIn_of _ (by decide +kernel)) ggX1_base_X1_verticalTo
theorem dX1_base_0 : decode cX1_base 0 = .ok (.aload_n 0, 1) := by decide +kernel
theorem dX1_base_1 : decode cX1_base 1 = .ok (.invokevirtual 49, 3) := by decide +kernel
theorem dX1_base_4 : decode cX1_base 4 = .ok (.aload_n 0, 1) := by decide +kernel
theorem dX1_base_5 : decode cX1_base 5 = .ok (.iconst 1, 1) := by decide +kernel
theorem dX1_base_6 : decode cX1_base 6 = .ok (.iload_n 1, 1) := by decide +kernel
theorem dX1_base_7 : decode cX1_base 7 = .ok (.invokevirtual 52, 3) := by decide +kernel
theorem dX1_base_10 : decode cX1_base 10 = .ok (.aload_n 0, 1) := by decide +kernel
theorem dX1_base_11 : decode cX1_base 11 = .ok (.iconst 1, 1) := by decide +kernel
theorem dX1_base_12 : decode cX1_base 12 = .ok (.iload_n 1, 1) := by decide +kernel
theorem dX1_base_13 : decode cX1_base 13 = .ok (.invokevirtual 56, 3) := by decide +kernel
theorem dX1_base_16 : decode cX1_base 16 = .ok (.return_, 1) := by decide +kernel
set_option maxRecDepth 20000 in
theorem ggX1_goOff_X1_noneArmed : GoodIn wsX1_goOff wsX1_noneArmed := goodIn_r _ [9, 10, 11, 28, 29, 30, 31, 32, 33, 34, 35, 36, 37, 38, 39, 40, 41, 42] (by decide +kernel) (by decide +kernel)
set_option maxRecDepth 20000 in
theorem gX1_goOff_X1_noneArmed : GoodIn wsX1_goOff (wsV RX1 49 RX1 yX1_noneArmed wsX1_noneArmed) := goodIn_app (goodIn_of _ (by decide +kernel)) ggX1_goOff_X1_noneArmed
set_option maxRecDepth 20000 in
theorem ggX1_goOff_X1_lateralTo : GoodIn wsX1_goOff wsX1_lateralTo := goodIn_r _ [15, 16, 3, 17, 18, 19, 8, 20, 21, 22, 28, 29, 30, 31, 32, 33, 34, 35, 36, 37, 38, 39, 40, 41, 42] (by decide +kernel) (by decide +kernel)
set_option maxRecDepth 20000 in
theorem gX1_goOff_X1_lateralTo : GoodIn wsX1_goOff (wsV RX1 52 RX1 yX1_lateralTo wsX1_lateralTo) := goodIn_app (goodIn_of _ (by decide +kernel)) ggX1_goOff_X1_lateralTo
set_option maxRecDepth 20000 in
theorem ggX1_goOff_X1_verticalTo : GoodIn wsX1_goOff wsX1_verticalTo := goodIn_r _ [26, 27, 4, 17, 18, 19, 8, 20, 21, 22, 28, 29, 30, 31, 32, 33, 34, 35, 36, 37, 38, 39, 40, 41, 42] (by decide +kernel) (by decide +kernel)
set_option maxRecDepth 20000 in
theorem gX1_goOff_X1_verticalTo : GoodIn wsX1_goOff (wsV RX1 56 RX1 yX1_verticalTo wsX1_verticalTo) := goodIn_app (goodIn_of _ (by decide +kernel)) ggX1_goOff_X1_verticalTo
theorem dX1_goOff_0 : decode cX1_goOff 0 = .ok (.aload_n 0, 1) := by decide +kernel
theorem dX1_goOff_1 : decode cX1_goOff 1 = .ok (.invokevirtual 49, 3) := by decide +kernel
theorem dX1_goOff_4 : decode cX1_goOff 4 = .ok (.aload_n 0, 1) := by decide +kernel
theorem dX1_goOff_5 : decode cX1_goOff 5 = .ok (.aload_n 0, 1) := by decide +kernel
theorem dX1_goOff_6 : decode cX1_goOff 6 = .ok (.getfield 59, 3) := by decide +kernel
theorem dX1_goOff_9 : decode cX1_goOff 9 = .ok (.ifCond .ne 10, 3) := by decide +kernel
theorem dX1_goOff_12 : decode cX1_goOff 12 = .ok (.aload_n 0, 1) := by decide +kernel
theorem dX1_goOff_13 : decode cX1_goOff 13 = .ok (.getfield 62, 3) := by decide +kernel
theorem dX1_goOff_16 : decode cX1_goOff 16 = .ok (.ifCond .eq 7, 3) := by decide +kernel
theorem dX1_goOff_19 : decode cX1_goOff 19 = .ok (.iconst 1, 1) := by decide +kernel
theorem dX1_goOff_20 : decode cX1_goOff 20 = .ok (.goto 4, 3) := by decide +kernel
theorem dX1_goOff_23 : decode cX1_goOff 23 = .ok (.iconst 0, 1) := by decide +kernel
theorem dX1_goOff_24 : decode cX1_goOff 24 = .ok (.putfield 59, 3) := by decide +kernel
theorem dX1_goOff_27 : decode cX1_goOff 27 = .ok (.aload_n 0, 1) := by decide +kernel
theorem dX1_goOff_28 : decode cX1_goOff 28 = .ok (.iconst 0, 1) := by decide +kernel
theorem dX1_goOff_29 : decode cX1_goOff 29 = .ok (.putfield 62, 3) := by decide +kernel
theorem dX1_goOff_32 : decode cX1_goOff 32 = .ok (.aload_n 0, 1) := by decide +kernel
theorem dX1_goOff_33 : decode cX1_goOff 33 = .ok (.iconst 0, 1) := by decide +kernel
theorem dX1_goOff_34 : decode cX1_goOff 34 = .ok (.iload_n 1, 1) := by decide +kernel
theorem dX1_goOff_35 : decode cX1_goOff 35 = .ok (.invokevirtual 52, 3) := by decide +kernel
theorem dX1_goOff_38 : decode cX1_goOff 38 = .ok (.aload_n 0, 1) := by decide +kernel
theorem dX1_goOff_39 : decode cX1_goOff 39 = .ok (.iconst 0, 1) := by decide +kernel
theorem dX1_goOff_40 : decode cX1_goOff 40 = .ok (.iload_n 1, 1) := by decide +kernel
theorem dX1_goOff_41 : decode cX1_goOff 41 = .ok (.invokevirtual 56, 3) := by decide +kernel
theorem dX1_goOff_44 : decode cX1_goOff 44 = .ok (.aload_n 0, 1) := by decide +kernel
theorem dX1_goOff_45 : decode cX1_goOff 45 = .ok (.iconst 0, 1) := by decide +kernel
theorem dX1_goOff_46 : decode cX1_goOff 46 = .ok (.putfield 33, 3) := by decide +kernel
theorem dX1_goOff_49 : decode cX1_goOff 49 = .ok (.aload_n 0, 1) := by decide +kernel
theorem dX1_goOff_50 : decode cX1_goOff 50 = .ok (.iconst 0, 1) := by decide +kernel
theorem dX1_goOff_51 : decode cX1_goOff 51 = .ok (.putfield 39, 3) := by decide +kernel
theorem dX1_goOff_54 : decode cX1_goOff 54 = .ok (.return_, 1) := by decide +kernel
theorem dX1_isBad_0 : decode cX1_isBad 0 = .ok (.iload_n 1, 1) := by decide +kernel
theorem dX1_isBad_1 : decode cX1_isBad 1 = .ok (.ifCond .ne 10, 3) := by decide +kernel
theorem dX1_isBad_4 : decode cX1_isBad 4 = .ok (.aload_n 0, 1) := by decide +kernel
theorem dX1_isBad_5 : decode cX1_isBad 5 = .ok (.getfield 65, 3) := by decide +kernel
theorem dX1_isBad_8 : decode cX1_isBad 8 = .ok (.goto 7, 3) := by decide +kernel
theorem dX1_isBad_11 : decode cX1_isBad 11 = .ok (.aload_n 0, 1) := by decide +kernel
theorem dX1_isBad_12 : decode cX1_isBad 12 = .ok (.getfield 68, 3) := by decide +kernel
theorem dX1_isBad_15 : decode cX1_isBad 15 = .ok (.ireturn, 1) := by decide +kernel
theorem dX1_size_0 : decode cX1_size 0 = .ok (.iload_n 0, 1) := by decide +kernel
theorem dX1_size_1 : decode cX1_size 1 = .ok (.ifCond .ge 8, 3) := by decide +kernel
theorem dX1_size_4 : decode cX1_size 4 = .ok (.iload_n 0, 1) := by decide +kernel
theorem dX1_size_5 : decode cX1_size 5 = .ok (.ineg, 1) := by decide +kernel
theorem dX1_size_6 : decode cX1_size 6 = .ok (.goto 4, 3) := by decide +kernel
theorem dX1_size_9 : decode cX1_size 9 = .ok (.iload_n 0, 1) := by decide +kernel
theorem dX1_size_10 : decode cX1_size 10 = .ok (.ireturn, 1) := by decide +kernel
set_option maxRecDepth 20000 in
theorem ggX1_apart_X1_size : GoodIn wsX1_apart wsX1_size := goodIn_r _ [5] (by decide +kernel) (by decide +kernel)
set_option maxRecDepth 20000 in
theorem gX1_apart_X1_size : GoodIn wsX1_apart (va_wsS RX1 71 yX1_size wsX1_size) := goodIn_app (goodIn_of _ (by decide +kernel)) ggX1_apart_X1_size
theorem dX1_apart_0 : decode cX1_apart 0 = .ok (.aload_n 0, 1) := by decide +kernel
theorem dX1_apart_1 : decode cX1_apart 1 = .ok (.getfield 7, 3) := by decide +kernel
theorem dX1_apart_4 : decode cX1_apart 4 = .ok (.iconst 2, 1) := by decide +kernel
theorem dX1_apart_5 : decode cX1_apart 5 = .ok (.iaload, 1) := by decide +kernel
theorem dX1_apart_6 : decode cX1_apart 6 = .ok (.aload_n 0, 1) := by decide +kernel
theorem dX1_apart_7 : decode cX1_apart 7 = .ok (.getfield 7, 3) := by decide +kernel
theorem dX1_apart_10 : decode cX1_apart 10 = .ok (.iconst 3, 1) := by decide +kernel
theorem dX1_apart_11 : decode cX1_apart 11 = .ok (.iaload, 1) := by decide +kernel
theorem dX1_apart_12 : decode cX1_apart 12 = .ok (.isub, 1) := by decide +kernel
theorem dX1_apart_13 : decode cX1_apart 13 = .ok (.invokestatic 71, 3) := by decide +kernel
theorem dX1_apart_16 : decode cX1_apart 16 = .ok (.ireturn, 1) := by decide +kernel
set_option maxRecDepth 20000 in
theorem ggX1_rule_X1_isBad : GoodIn wsX1_rule wsX1_isBad := goodIn_r _ [11, 12, 13, 21, 22, 23, 24, 25, 26, 27, 28, 29, 30, 31, 32, 33, 34, 35] (by decide +kernel) (by decide +kernel)
set_option maxRecDepth 20000 in
theorem gX1_rule_X1_isBad : GoodIn wsX1_rule (wsV RX1 75 RX1 yX1_isBad wsX1_isBad) := goodIn_app (goodIn_of _ (by decide +kernel)) ggX1_rule_X1_isBad
set_option maxRecDepth 20000 in
theorem ggX1_rule_X1_size : GoodIn wsX1_rule wsX1_size := goodIn_r _ [16] (by decide +kernel) (by decide +kernel)
set_option maxRecDepth 20000 in
theorem gX1_rule_X1_size : GoodIn wsX1_rule (va_wsS RX1 71 yX1_size wsX1_size) := goodIn_app (goodIn_of _ (by decide +kernel)) ggX1_rule_X1_size
set_option maxRecDepth 20000 in
theorem ggX1_rule_X1_apart : GoodIn wsX1_rule wsX1_apart := goodIn_r _ [20, 1, 14, 15, 10, 16, 21, 22, 23, 24, 25, 26, 27, 28, 29, 30, 31, 32, 33, 34, 35] (by decide +kernel) (by decide +kernel)
set_option maxRecDepth 20000 in
theorem gX1_rule_X1_apart : GoodIn wsX1_rule (wsV RX1 79 RX1 yX1_apart wsX1_apart) := goodIn_app (goodIn_of _ (by decide +kernel)) ggX1_rule_X1_apart
theorem dX1_rule_0 : decode cX1_rule 0 = .ok (.aload_n 0, 1) := by decide +kernel
theorem dX1_rule_1 : decode cX1_rule 1 = .ok (.getfield 7, 3) := by decide +kernel
theorem dX1_rule_4 : decode cX1_rule 4 = .ok (.iconst 5, 1) := by decide +kernel
theorem dX1_rule_5 : decode cX1_rule 5 = .ok (.iaload, 1) := by decide +kernel
theorem dX1_rule_6 : decode cX1_rule 6 = .ok (.iconst 1, 1) := by decide +kernel
theorem dX1_rule_7 : decode cX1_rule 7 = .ok (.if_icmp .ne 7, 3) := by decide +kernel
theorem dX1_rule_10 : decode cX1_rule 10 = .ok (.iconst 1, 1) := by decide +kernel
theorem dX1_rule_11 : decode cX1_rule 11 = .ok (.goto 4, 3) := by decide +kernel
theorem dX1_rule_14 : decode cX1_rule 14 = .ok (.iconst 0, 1) := by decide +kernel
theorem dX1_rule_15 : decode cX1_rule 15 = .ok (.istore_n 1, 1) := by decide +kernel
theorem dX1_rule_16 : decode cX1_rule 16 = .ok (.aload_n 0, 1) := by decide +kernel
theorem dX1_rule_17 : decode cX1_rule 17 = .ok (.getfield 7, 3) := by decide +kernel
theorem dX1_rule_20 : decode cX1_rule 20 = .ok (.bipush 6, 2) := by decide +kernel
theorem dX1_rule_22 : decode cX1_rule 22 = .ok (.iaload, 1) := by decide +kernel
theorem dX1_rule_23 : decode cX1_rule 23 = .ok (.iconst 1, 1) := by decide +kernel
theorem dX1_rule_24 : decode cX1_rule 24 = .ok (.if_icmp .ne 7, 3) := by decide +kernel
theorem dX1_rule_27 : decode cX1_rule 27 = .ok (.iconst 1, 1) := by decide +kernel
theorem dX1_rule_28 : decode cX1_rule 28 = .ok (.goto 4, 3) := by decide +kernel
theorem dX1_rule_31 : decode cX1_rule 31 = .ok (.iconst 0, 1) := by decide +kernel
theorem dX1_rule_32 : decode cX1_rule 32 = .ok (.istore_n 2, 1) := by decide +kernel
theorem dX1_rule_33 : decode cX1_rule 33 = .ok (.aload_n 0, 1) := by decide +kernel
theorem dX1_rule_34 : decode cX1_rule 34 = .ok (.getfield 26, 3) := by decide +kernel
theorem dX1_rule_37 : decode cX1_rule 37 = .ok (.ifCond .le 16, 3) := by decide +kernel
theorem dX1_rule_40 : decode cX1_rule 40 = .ok (.aload_n 0, 1) := by decide +kernel
theorem dX1_rule_41 : decode cX1_rule 41 = .ok (.aload_n 0, 1) := by decide +kernel
theorem dX1_rule_42 : decode cX1_rule 42 = .ok (.getfield 16, 3) := by decide +kernel
theorem dX1_rule_45 : decode cX1_rule 45 = .ok (.invokevirtual 75, 3) := by decide +kernel
theorem dX1_rule_48 : decode cX1_rule 48 = .ok (.ifCond .eq 5, 3) := by decide +kernel
theorem dX1_rule_51 : decode cX1_rule 51 = .ok (.iconst 1, 1) := by decide +kernel
theorem dX1_rule_52 : decode cX1_rule 52 = .ok (.ireturn, 1) := by decide +kernel
theorem dX1_rule_53 : decode cX1_rule 53 = .ok (.aload_n 0, 1) := by decide +kernel
theorem dX1_rule_54 : decode cX1_rule 54 = .ok (.getfield 26, 3) := by decide +kernel
theorem dX1_rule_57 : decode cX1_rule 57 = .ok (.iconst 3, 1) := by decide +kernel
theorem dX1_rule_58 : decode cX1_rule 58 = .ok (.if_icmp .eq 11, 3) := by decide +kernel
theorem dX1_rule_61 : decode cX1_rule 61 = .ok (.aload_n 0, 1) := by decide +kernel
theorem dX1_rule_62 : decode cX1_rule 62 = .ok (.getfield 26, 3) := by decide +kernel
theorem dX1_rule_65 : decode cX1_rule 65 = .ok (.iconst 4, 1) := by decide +kernel
theorem dX1_rule_66 : decode cX1_rule 66 = .ok (.if_icmp .ne 9, 3) := by decide +kernel
theorem dX1_rule_69 : decode cX1_rule 69 = .ok (.iload_n 1, 1) := by decide +kernel
theorem dX1_rule_70 : decode cX1_rule 70 = .ok (.ifCond .ne 5, 3) := by decide +kernel
theorem dX1_rule_73 : decode cX1_rule 73 = .ok (.iconst 2, 1) := by decide +kernel
theorem dX1_rule_74 : decode cX1_rule 74 = .ok (.ireturn, 1) := by decide +kernel
theorem dX1_rule_75 : decode cX1_rule 75 = .ok (.aload_n 0, 1) := by decide +kernel
theorem dX1_rule_76 : decode cX1_rule 76 = .ok (.getfield 36, 3) := by decide +kernel
theorem dX1_rule_79 : decode cX1_rule 79 = .ok (.bipush 6, 2) := by decide +kernel
theorem dX1_rule_81 : decode cX1_rule 81 = .ok (.if_icmp .ne 17, 3) := by decide +kernel
theorem dX1_rule_84 : decode cX1_rule 84 = .ok (.iload_n 2, 1) := by decide +kernel
theorem dX1_rule_85 : decode cX1_rule 85 = .ok (.ifCond .eq 11, 3) := by decide +kernel
theorem dX1_rule_88 : decode cX1_rule 88 = .ok (.aload_n 0, 1) := by decide +kernel
theorem dX1_rule_89 : decode cX1_rule 89 = .ok (.getfield 26, 3) := by decide +kernel
theorem dX1_rule_92 : decode cX1_rule 92 = .ok (.iconst 4, 1) := by decide +kernel
theorem dX1_rule_93 : decode cX1_rule 93 = .ok (.if_icmp .eq 5, 3) := by decide +kernel
theorem dX1_rule_96 : decode cX1_rule 96 = .ok (.iconst 3, 1) := by decide +kernel
theorem dX1_rule_97 : decode cX1_rule 97 = .ok (.ireturn, 1) := by decide +kernel
theorem dX1_rule_98 : decode cX1_rule 98 = .ok (.aload_n 0, 1) := by decide +kernel
theorem dX1_rule_99 : decode cX1_rule 99 = .ok (.getfield 42, 3) := by decide +kernel
theorem dX1_rule_102 : decode cX1_rule 102 = .ok (.iconst 1, 1) := by decide +kernel
theorem dX1_rule_103 : decode cX1_rule 103 = .ok (.if_icmp .ne 24, 3) := by decide +kernel
theorem dX1_rule_106 : decode cX1_rule 106 = .ok (.iload_n 1, 1) := by decide +kernel
theorem dX1_rule_107 : decode cX1_rule 107 = .ok (.ifCond .eq 20, 3) := by decide +kernel
theorem dX1_rule_110 : decode cX1_rule 110 = .ok (.aload_n 0, 1) := by decide +kernel
theorem dX1_rule_111 : decode cX1_rule 111 = .ok (.getfield 7, 3) := by decide +kernel
theorem dX1_rule_114 : decode cX1_rule 114 = .ok (.iconst 0, 1) := by decide +kernel
theorem dX1_rule_115 : decode cX1_rule 115 = .ok (.iaload, 1) := by decide +kernel
theorem dX1_rule_116 : decode cX1_rule 116 = .ok (.invokestatic 71, 3) := by decide +kernel
theorem dX1_rule_119 : decode cX1_rule 119 = .ok (.sipush 150, 3) := by decide +kernel
theorem dX1_rule_122 : decode cX1_rule 122 = .ok (.if_icmp .gt 5, 3) := by decide +kernel
theorem dX1_rule_125 : decode cX1_rule 125 = .ok (.iconst 4, 1) := by decide +kernel
theorem dX1_rule_126 : decode cX1_rule 126 = .ok (.ireturn, 1) := by decide +kernel
theorem dX1_rule_127 : decode cX1_rule 127 = .ok (.aload_n 0, 1) := by decide +kernel
theorem dX1_rule_128 : decode cX1_rule 128 = .ok (.getfield 42, 3) := by decide +kernel
theorem dX1_rule_131 : decode cX1_rule 131 = .ok (.iconst 2, 1) := by decide +kernel
theorem dX1_rule_132 : decode cX1_rule 132 = .ok (.if_icmp .ne 23, 3) := by decide +kernel
theorem dX1_rule_135 : decode cX1_rule 135 = .ok (.iload_n 1, 1) := by decide +kernel
theorem dX1_rule_136 : decode cX1_rule 136 = .ok (.ifCond .eq 19, 3) := by decide +kernel
theorem dX1_rule_139 : decode cX1_rule 139 = .ok (.aload_n 0, 1) := by decide +kernel
theorem dX1_rule_140 : decode cX1_rule 140 = .ok (.getfield 7, 3) := by decide +kernel
theorem dX1_rule_143 : decode cX1_rule 143 = .ok (.iconst 0, 1) := by decide +kernel
theorem dX1_rule_144 : decode cX1_rule 144 = .ok (.iaload, 1) := by decide +kernel
theorem dX1_rule_145 : decode cX1_rule 145 = .ok (.invokestatic 71, 3) := by decide +kernel
theorem dX1_rule_148 : decode cX1_rule 148 = .ok (.bipush 100, 2) := by decide +kernel
theorem dX1_rule_150 : decode cX1_rule 150 = .ok (.if_icmp .gt 5, 3) := by decide +kernel
theorem dX1_rule_153 : decode cX1_rule 153 = .ok (.iconst 5, 1) := by decide +kernel
theorem dX1_rule_154 : decode cX1_rule 154 = .ok (.ireturn, 1) := by decide +kernel
theorem dX1_rule_155 : decode cX1_rule 155 = .ok (.aload_n 0, 1) := by decide +kernel
theorem dX1_rule_156 : decode cX1_rule 156 = .ok (.getfield 45, 3) := by decide +kernel
theorem dX1_rule_159 : decode cX1_rule 159 = .ok (.ifCond .eq 32, 3) := by decide +kernel
theorem dX1_rule_162 : decode cX1_rule 162 = .ok (.aload_n 0, 1) := by decide +kernel
theorem dX1_rule_163 : decode cX1_rule 163 = .ok (.getfield 26, 3) := by decide +kernel
theorem dX1_rule_166 : decode cX1_rule 166 = .ok (.iconst 4, 1) := by decide +kernel
theorem dX1_rule_167 : decode cX1_rule 167 = .ok (.if_icmp .ne 24, 3) := by decide +kernel
theorem dX1_rule_170 : decode cX1_rule 170 = .ok (.iload_n 2, 1) := by decide +kernel
theorem dX1_rule_171 : decode cX1_rule 171 = .ok (.ifCond .eq 20, 3) := by decide +kernel
theorem dX1_rule_174 : decode cX1_rule 174 = .ok (.aload_n 0, 1) := by decide +kernel
theorem dX1_rule_175 : decode cX1_rule 175 = .ok (.getfield 7, 3) := by decide +kernel
theorem dX1_rule_178 : decode cX1_rule 178 = .ok (.iconst 1, 1) := by decide +kernel
theorem dX1_rule_179 : decode cX1_rule 179 = .ok (.iaload, 1) := by decide +kernel
theorem dX1_rule_180 : decode cX1_rule 180 = .ok (.invokestatic 71, 3) := by decide +kernel
theorem dX1_rule_183 : decode cX1_rule 183 = .ok (.bipush 80, 2) := by decide +kernel
theorem dX1_rule_185 : decode cX1_rule 185 = .ok (.if_icmp .gt 6, 3) := by decide +kernel
theorem dX1_rule_188 : decode cX1_rule 188 = .ok (.bipush 6, 2) := by decide +kernel
theorem dX1_rule_190 : decode cX1_rule 190 = .ok (.ireturn, 1) := by decide +kernel
theorem dX1_rule_191 : decode cX1_rule 191 = .ok (.aload_n 0, 1) := by decide +kernel
theorem dX1_rule_192 : decode cX1_rule 192 = .ok (.getfield 36, 3) := by decide +kernel
theorem dX1_rule_195 : decode cX1_rule 195 = .ok (.ifCond .le 24, 3) := by decide +kernel
theorem dX1_rule_198 : decode cX1_rule 198 = .ok (.aload_n 0, 1) := by decide +kernel
theorem dX1_rule_199 : decode cX1_rule 199 = .ok (.getfield 36, 3) := by decide +kernel
theorem dX1_rule_202 : decode cX1_rule 202 = .ok (.iconst 4, 1) := by decide +kernel
theorem dX1_rule_203 : decode cX1_rule 203 = .ok (.if_icmp .ge 16, 3) := by decide +kernel
theorem dX1_rule_206 : decode cX1_rule 206 = .ok (.aload_n 0, 1) := by decide +kernel
theorem dX1_rule_207 : decode cX1_rule 207 = .ok (.invokevirtual 79, 3) := by decide +kernel
theorem dX1_rule_210 : decode cX1_rule 210 = .ok (.sipush 400, 3) := by decide +kernel
theorem dX1_rule_213 : decode cX1_rule 213 = .ok (.if_icmp .gt 6, 3) := by decide +kernel
theorem dX1_rule_216 : decode cX1_rule 216 = .ok (.bipush 7, 2) := by decide +kernel
theorem dX1_rule_218 : decode cX1_rule 218 = .ok (.ireturn, 1) := by decide +kernel
theorem dX1_rule_219 : decode cX1_rule 219 = .ok (.aload_n 0, 1) := by decide +kernel
theorem dX1_rule_220 : decode cX1_rule 220 = .ok (.getfield 36, 3) := by decide +kernel
theorem dX1_rule_223 : decode cX1_rule 223 = .ok (.iconst 5, 1) := by decide +kernel
theorem dX1_rule_224 : decode cX1_rule 224 = .ok (.if_icmp .ne 15, 3) := by decide +kernel
theorem dX1_rule_227 : decode cX1_rule 227 = .ok (.aload_n 0, 1) := by decide +kernel
theorem dX1_rule_228 : decode cX1_rule 228 = .ok (.invokevirtual 79, 3) := by decide +kernel
theorem dX1_rule_231 : decode cX1_rule 231 = .ok (.bipush 20, 2) := by decide +kernel
theorem dX1_rule_233 : decode cX1_rule 233 = .ok (.if_icmp .gt 6, 3) := by decide +kernel
theorem dX1_rule_236 : decode cX1_rule 236 = .ok (.bipush 8, 2) := by decide +kernel
theorem dX1_rule_238 : decode cX1_rule 238 = .ok (.ireturn, 1) := by decide +kernel
theorem dX1_rule_239 : decode cX1_rule 239 = .ok (.aload_n 0, 1) := by decide +kernel
theorem dX1_rule_240 : decode cX1_rule 240 = .ok (.getfield 36, 3) := by decide +kernel
theorem dX1_rule_243 : decode cX1_rule 243 = .ok (.iconst 5, 1) := by decide +kernel
theorem dX1_rule_244 : decode cX1_rule 244 = .ok (.if_icmp .ne 16, 3) := by decide +kernel
theorem dX1_rule_247 : decode cX1_rule 247 = .ok (.aload_n 0, 1) := by decide +kernel
theorem dX1_rule_248 : decode cX1_rule 248 = .ok (.invokevirtual 79, 3) := by decide +kernel
theorem dX1_rule_251 : decode cX1_rule 251 = .ok (.sipush 400, 3) := by decide +kernel
theorem dX1_rule_254 : decode cX1_rule 254 = .ok (.if_icmp .le 6, 3) := by decide +kernel
theorem dX1_rule_257 : decode cX1_rule 257 = .ok (.bipush 9, 2) := by decide +kernel
theorem dX1_rule_259 : decode cX1_rule 259 = .ok (.ireturn, 1) := by decide +kernel
theorem dX1_rule_260 : decode cX1_rule 260 = .ok (.aload_n 0, 1) := by decide +kernel
theorem dX1_rule_261 : decode cX1_rule 261 = .ok (.getfield 36, 3) := by decide +kernel
theorem dX1_rule_264 : decode cX1_rule 264 = .ok (.iconst 2, 1) := by decide +kernel
theorem dX1_rule_265 : decode cX1_rule 265 = .ok (.if_icmp .ne 20, 3) := by decide +kernel
theorem dX1_rule_268 : decode cX1_rule 268 = .ok (.aload_n 0, 1) := by decide +kernel
theorem dX1_rule_269 : decode cX1_rule 269 = .ok (.getfield 7, 3) := by decide +kernel
theorem dX1_rule_272 : decode cX1_rule 272 = .ok (.iconst 4, 1) := by decide +kernel
theorem dX1_rule_273 : decode cX1_rule 273 = .ok (.iaload, 1) := by decide +kernel
theorem dX1_rule_274 : decode cX1_rule 274 = .ok (.sipush 400, 3) := by decide +kernel
theorem dX1_rule_277 : decode cX1_rule 277 = .ok (.if_icmp .le 8, 3) := by decide +kernel
theorem dX1_rule_280 : decode cX1_rule 280 = .ok (.bipush 10, 2) := by decide +kernel
theorem dX1_rule_282 : decode cX1_rule 282 = .ok (.goto 4, 3) := by decide +kernel
theorem dX1_rule_285 : decode cX1_rule 285 = .ok (.iconst 0, 1) := by decide +kernel
theorem dX1_rule_286 : decode cX1_rule 286 = .ok (.ireturn, 1) := by decide +kernel
set_option maxRecDepth 20000 in
theorem ggX1_comes_X1_isBad : GoodIn wsX1_comes wsX1_isBad := goodIn_r _ [9, 10, 11, 39, 40, 41, 42, 43, 44, 45, 46, 47, 48, 49, 50, 51, 52, 53] (by decide +kernel) (by decide +kernel)
set_option maxRecDepth 20000 in
theorem gX1_comes_X1_isBad : GoodIn wsX1_comes (wsV RX1 75 RX1 yX1_isBad wsX1_isBad) := goodIn_app (goodIn_of _ (by decide +kernel)) ggX1_comes_X1_isBad
set_option maxRecDepth 20000 in
theorem ggX1_comes_X1_goOff : GoodIn wsX1_comes wsX1_goOff := goodIn_r _ [15, 16, 17, 18, 19, 20, 21, 22, 8, 23, 4, 3, 24, 25, 26, 27, 28, 29, 30, 31, 32, 33, 34, 35, 36, 37, 38, 2, 39, 40, 41, 42, 43, 44, 45, 46, 47, 48, 49, 50, 51, 52, 53] (by decide +kernel) (by decide +kernel)
set_option maxRecDepth 20000 in
theorem gX1_comes_X1_goOff : GoodIn wsX1_comes (wsV RX1 83 RX1 yX1_goOff wsX1_goOff) := goodIn_app (goodIn_of _ (by decide +kernel)) ggX1_comes_X1_goOff
set_option maxRecDepth 20000 in
theorem ggX1_comes_X1_lateralTo : GoodIn wsX1_comes wsX1_lateralTo := goodIn_r _ [27, 28, 18, 29, 30, 31, 8, 32, 33, 34, 39, 40, 41, 42, 43, 44, 45, 46, 47, 48, 49, 50, 51, 52, 53] (by decide +kernel) (by decide +kernel)
set_option maxRecDepth 20000 in
theorem gX1_comes_X1_lateralTo : GoodIn wsX1_comes (wsV RX1 52 RX1 yX1_lateralTo wsX1_lateralTo) := goodIn_app (goodIn_of _ (by decide +kernel)) ggX1_comes_X1_lateralTo
set_option maxRecDepth 20000 in
theorem ggX1_comes_X1_verticalTo : GoodIn wsX1_comes wsX1_verticalTo := goodIn_r _ [38, 2, 19, 29, 30, 31, 8, 32, 33, 34, 39, 40, 41, 42, 43, 44, 45, 46, 47, 48, 49, 50, 51, 52, 53] (by decide +kernel) (by decide +kernel)
set_option maxRecDepth 20000 in
theorem gX1_comes_X1_verticalTo : GoodIn wsX1_comes (wsV RX1 56 RX1 yX1_verticalTo wsX1_verticalTo) := goodIn_app (goodIn_of _ (by decide +kernel)) ggX1_comes_X1_verticalTo
theorem dX1_comes_0 : decode cX1_comes 0 = .ok (.iload_n 1, 1) := by decide +kernel
theorem dX1_comes_1 : decode cX1_comes 1 = .ok (.tableswitch 212 1 9 #[51, 85, 133, 142, 156, 170, 185, 194, 203], 51) := by decide +kernel
theorem dX1_comes_52 : decode cX1_comes 52 = .ok (.aload_n 0, 1) := by decide +kernel
theorem dX1_comes_53 : decode cX1_comes 53 = .ok (.iconst 1, 1) := by decide +kernel
theorem dX1_comes_54 : decode cX1_comes 54 = .ok (.aload_n 0, 1) := by decide +kernel
theorem dX1_comes_55 : decode cX1_comes 55 = .ok (.getfield 16, 3) := by decide +kernel
theorem dX1_comes_58 : decode cX1_comes 58 = .ok (.isub, 1) := by decide +kernel
theorem dX1_comes_59 : decode cX1_comes 59 = .ok (.invokevirtual 75, 3) := by decide +kernel
theorem dX1_comes_62 : decode cX1_comes 62 = .ok (.ifCond .eq 11, 3) := by decide +kernel
theorem dX1_comes_65 : decode cX1_comes 65 = .ok (.aload_n 0, 1) := by decide +kernel
theorem dX1_comes_66 : decode cX1_comes 66 = .ok (.iconst 1, 1) := by decide +kernel
theorem dX1_comes_67 : decode cX1_comes 67 = .ok (.invokevirtual 83, 3) := by decide +kernel
theorem dX1_comes_70 : decode cX1_comes 70 = .ok (.goto 149, 3) := by decide +kernel
theorem dX1_comes_73 : decode cX1_comes 73 = .ok (.aload_n 0, 1) := by decide +kernel
theorem dX1_comes_74 : decode cX1_comes 74 = .ok (.iconst 1, 1) := by decide +kernel
theorem dX1_comes_75 : decode cX1_comes 75 = .ok (.aload_n 0, 1) := by decide +kernel
theorem dX1_comes_76 : decode cX1_comes 76 = .ok (.getfield 16, 3) := by decide +kernel
theorem dX1_comes_79 : decode cX1_comes 79 = .ok (.isub, 1) := by decide +kernel
theorem dX1_comes_80 : decode cX1_comes 80 = .ok (.putfield 16, 3) := by decide +kernel
theorem dX1_comes_83 : decode cX1_comes 83 = .ok (.goto 136, 3) := by decide +kernel
theorem dX1_comes_86 : decode cX1_comes 86 = .ok (.aload_n 0, 1) := by decide +kernel
theorem dX1_comes_87 : decode cX1_comes 87 = .ok (.iconst 1, 1) := by decide +kernel
theorem dX1_comes_88 : decode cX1_comes 88 = .ok (.iconst 1, 1) := by decide +kernel
theorem dX1_comes_89 : decode cX1_comes 89 = .ok (.invokevirtual 52, 3) := by decide +kernel
theorem dX1_comes_92 : decode cX1_comes 92 = .ok (.aload_n 0, 1) := by decide +kernel
theorem dX1_comes_93 : decode cX1_comes 93 = .ok (.getfield 36, 3) := by decide +kernel
theorem dX1_comes_96 : decode cX1_comes 96 = .ok (.bipush 6, 2) := by decide +kernel
theorem dX1_comes_98 : decode cX1_comes 98 = .ok (.if_icmp .ne 9, 3) := by decide +kernel
theorem dX1_comes_101 : decode cX1_comes 101 = .ok (.aload_n 0, 1) := by decide +kernel
theorem dX1_comes_102 : decode cX1_comes 102 = .ok (.iconst 1, 1) := by decide +kernel
theorem dX1_comes_103 : decode cX1_comes 103 = .ok (.iconst 1, 1) := by decide +kernel
theorem dX1_comes_104 : decode cX1_comes 104 = .ok (.invokevirtual 56, 3) := by decide +kernel
theorem dX1_comes_107 : decode cX1_comes 107 = .ok (.aload_n 0, 1) := by decide +kernel
theorem dX1_comes_108 : decode cX1_comes 108 = .ok (.aload_n 0, 1) := by decide +kernel
theorem dX1_comes_109 : decode cX1_comes 109 = .ok (.getfield 45, 3) := by decide +kernel
theorem dX1_comes_112 : decode cX1_comes 112 = .ok (.ifCond .eq 15, 3) := by decide +kernel
theorem dX1_comes_115 : decode cX1_comes 115 = .ok (.aload_n 0, 1) := by decide +kernel
theorem dX1_comes_116 : decode cX1_comes 116 = .ok (.getfield 42, 3) := by decide +kernel
theorem dX1_comes_119 : decode cX1_comes 119 = .ok (.iconst 2, 1) := by decide +kernel
theorem dX1_comes_120 : decode cX1_comes 120 = .ok (.if_icmp .ne 7, 3) := by decide +kernel
theorem dX1_comes_123 : decode cX1_comes 123 = .ok (.iconst 1, 1) := by decide +kernel
theorem dX1_comes_124 : decode cX1_comes 124 = .ok (.goto 4, 3) := by decide +kernel
theorem dX1_comes_127 : decode cX1_comes 127 = .ok (.iconst 0, 1) := by decide +kernel
theorem dX1_comes_128 : decode cX1_comes 128 = .ok (.putfield 45, 3) := by decide +kernel
theorem dX1_comes_131 : decode cX1_comes 131 = .ok (.goto 88, 3) := by decide +kernel
theorem dX1_comes_134 : decode cX1_comes 134 = .ok (.aload_n 0, 1) := by decide +kernel
theorem dX1_comes_135 : decode cX1_comes 135 = .ok (.iconst 1, 1) := by decide +kernel
theorem dX1_comes_136 : decode cX1_comes 136 = .ok (.iconst 1, 1) := by decide +kernel
theorem dX1_comes_137 : decode cX1_comes 137 = .ok (.invokevirtual 56, 3) := by decide +kernel
theorem dX1_comes_140 : decode cX1_comes 140 = .ok (.goto 79, 3) := by decide +kernel
theorem dX1_comes_143 : decode cX1_comes 143 = .ok (.aload_n 0, 1) := by decide +kernel
theorem dX1_comes_144 : decode cX1_comes 144 = .ok (.iconst 0, 1) := by decide +kernel
theorem dX1_comes_145 : decode cX1_comes 145 = .ok (.putfield 42, 3) := by decide +kernel
theorem dX1_comes_148 : decode cX1_comes 148 = .ok (.aload_n 0, 1) := by decide +kernel
theorem dX1_comes_149 : decode cX1_comes 149 = .ok (.iconst 3, 1) := by decide +kernel
theorem dX1_comes_150 : decode cX1_comes 150 = .ok (.iconst 1, 1) := by decide +kernel
theorem dX1_comes_151 : decode cX1_comes 151 = .ok (.invokevirtual 52, 3) := by decide +kernel
theorem dX1_comes_154 : decode cX1_comes 154 = .ok (.goto 65, 3) := by decide +kernel
theorem dX1_comes_157 : decode cX1_comes 157 = .ok (.aload_n 0, 1) := by decide +kernel
theorem dX1_comes_158 : decode cX1_comes 158 = .ok (.iconst 0, 1) := by decide +kernel
theorem dX1_comes_159 : decode cX1_comes 159 = .ok (.putfield 42, 3) := by decide +kernel
theorem dX1_comes_162 : decode cX1_comes 162 = .ok (.aload_n 0, 1) := by decide +kernel
theorem dX1_comes_163 : decode cX1_comes 163 = .ok (.iconst 4, 1) := by decide +kernel
theorem dX1_comes_164 : decode cX1_comes 164 = .ok (.iconst 1, 1) := by decide +kernel
theorem dX1_comes_165 : decode cX1_comes 165 = .ok (.invokevirtual 52, 3) := by decide +kernel
theorem dX1_comes_168 : decode cX1_comes 168 = .ok (.goto 51, 3) := by decide +kernel
theorem dX1_comes_171 : decode cX1_comes 171 = .ok (.aload_n 0, 1) := by decide +kernel
theorem dX1_comes_172 : decode cX1_comes 172 = .ok (.iconst 0, 1) := by decide +kernel
theorem dX1_comes_173 : decode cX1_comes 173 = .ok (.putfield 45, 3) := by decide +kernel
theorem dX1_comes_176 : decode cX1_comes 176 = .ok (.aload_n 0, 1) := by decide +kernel
theorem dX1_comes_177 : decode cX1_comes 177 = .ok (.bipush 6, 2) := by decide +kernel
theorem dX1_comes_179 : decode cX1_comes 179 = .ok (.iconst 1, 1) := by decide +kernel
theorem dX1_comes_180 : decode cX1_comes 180 = .ok (.invokevirtual 56, 3) := by decide +kernel
theorem dX1_comes_183 : decode cX1_comes 183 = .ok (.goto 36, 3) := by decide +kernel
theorem dX1_comes_186 : decode cX1_comes 186 = .ok (.aload_n 0, 1) := by decide +kernel
theorem dX1_comes_187 : decode cX1_comes 187 = .ok (.iconst 5, 1) := by decide +kernel
theorem dX1_comes_188 : decode cX1_comes 188 = .ok (.iconst 1, 1) := by decide +kernel
theorem dX1_comes_189 : decode cX1_comes 189 = .ok (.invokevirtual 56, 3) := by decide +kernel
theorem dX1_comes_192 : decode cX1_comes 192 = .ok (.goto 27, 3) := by decide +kernel
theorem dX1_comes_195 : decode cX1_comes 195 = .ok (.aload_n 0, 1) := by decide +kernel
theorem dX1_comes_196 : decode cX1_comes 196 = .ok (.iconst 4, 1) := by decide +kernel
theorem dX1_comes_197 : decode cX1_comes 197 = .ok (.iconst 1, 1) := by decide +kernel
theorem dX1_comes_198 : decode cX1_comes 198 = .ok (.invokevirtual 56, 3) := by decide +kernel
theorem dX1_comes_201 : decode cX1_comes 201 = .ok (.goto 18, 3) := by decide +kernel
theorem dX1_comes_204 : decode cX1_comes 204 = .ok (.aload_n 0, 1) := by decide +kernel
theorem dX1_comes_205 : decode cX1_comes 205 = .ok (.iconst 1, 1) := by decide +kernel
theorem dX1_comes_206 : decode cX1_comes 206 = .ok (.iconst 1, 1) := by decide +kernel
theorem dX1_comes_207 : decode cX1_comes 207 = .ok (.invokevirtual 56, 3) := by decide +kernel
theorem dX1_comes_210 : decode cX1_comes 210 = .ok (.goto 9, 3) := by decide +kernel
theorem dX1_comes_213 : decode cX1_comes 213 = .ok (.aload_n 0, 1) := by decide +kernel
theorem dX1_comes_214 : decode cX1_comes 214 = .ok (.iconst 3, 1) := by decide +kernel
theorem dX1_comes_215 : decode cX1_comes 215 = .ok (.iconst 1, 1) := by decide +kernel
theorem dX1_comes_216 : decode cX1_comes 216 = .ok (.invokevirtual 56, 3) := by decide +kernel
theorem dX1_comes_219 : decode cX1_comes 219 = .ok (.return_, 1) := by decide +kernel
set_option maxRecDepth 20000 in
theorem ggX1_settle_X1_rule : GoodIn wsX1_settle wsX1_rule := goodIn_r _ [5, 6, 7, 8, 9, 10, 11, 12, 13, 14, 4, 15, 16, 17, 18, 19, 20, 21, 22, 23, 24, 55, 56, 57, 58, 59, 60, 61, 62, 63, 64, 65, 66, 67, 68, 69] (by decide +kernel) (by decide +kernel)
set_option maxRecDepth 20000 in
theorem gX1_settle_X1_rule : GoodIn wsX1_settle (wsV RX1 87 RX1 yX1_rule wsX1_rule) := goodIn_app (goodIn_of _ (by decide +kernel)) ggX1_settle_X1_rule
set_option maxRecDepth 20000 in
theorem ggX1_settle_X1_comes : GoodIn wsX1_settle wsX1_comes := goodIn_r _ [28, 8, 9, 11, 10, 12, 13, 14, 4, 15, 16, 17, 29, 30, 31, 32, 33, 34, 35, 36, 37, 38, 39, 40, 41, 42, 43, 44, 7, 45, 46, 47, 48, 49, 50, 51, 52, 53, 54, 55, 56, 57, 58, 59, 60, 61, 62, 63, 64, 65, 66, 67, 68, 69] (by decide +kernel) (by decide +kernel)
set_option maxRecDepth 20000 in
theorem gX1_settle_X1_comes : GoodIn wsX1_settle (wsV RX1 90 RX1 yX1_comes wsX1_comes) := goodIn_app (goodIn_of _ (by decide +kernel)) ggX1_settle_X1_comes
theorem dX1_settle_0 : decode cX1_settle 0 = .ok (.iconst 0, 1) := by decide +kernel
theorem dX1_settle_1 : decode cX1_settle 1 = .ok (.istore_n 1, 1) := by decide +kernel
theorem dX1_settle_2 : decode cX1_settle 2 = .ok (.aload_n 0, 1) := by decide +kernel
theorem dX1_settle_3 : decode cX1_settle 3 = .ok (.invokevirtual 87, 3) := by decide +kernel
theorem dX1_settle_6 : decode cX1_settle 6 = .ok (.istore_n 2, 1) := by decide +kernel
theorem dX1_settle_7 : decode cX1_settle 7 = .ok (.iload_n 2, 1) := by decide +kernel
theorem dX1_settle_8 : decode cX1_settle 8 = .ok (.ifCond .le 19, 3) := by decide +kernel
theorem dX1_settle_11 : decode cX1_settle 11 = .ok (.aload_n 0, 1) := by decide +kernel
theorem dX1_settle_12 : decode cX1_settle 12 = .ok (.iload_n 2, 1) := by decide +kernel
theorem dX1_settle_13 : decode cX1_settle 13 = .ok (.invokevirtual 90, 3) := by decide +kernel
theorem dX1_settle_16 : decode cX1_settle 16 = .ok (.iinc 1 1, 3) := by decide +kernel
theorem dX1_settle_19 : decode cX1_settle 19 = .ok (.aload_n 0, 1) := by decide +kernel
theorem dX1_settle_20 : decode cX1_settle 20 = .ok (.invokevirtual 87, 3) := by decide +kernel
theorem dX1_settle_23 : decode cX1_settle 23 = .ok (.istore_n 2, 1) := by decide +kernel
theorem dX1_settle_24 : decode cX1_settle 24 = .ok (.goto (-17), 3) := by decide +kernel
theorem dX1_settle_27 : decode cX1_settle 27 = .ok (.iload_n 1, 1) := by decide +kernel
theorem dX1_settle_28 : decode cX1_settle 28 = .ok (.ireturn, 1) := by decide +kernel
set_option maxRecDepth 20000 in
theorem ggX1_outOfApproach_X1_lateralTo : GoodIn wsX1_outOfApproach wsX1_lateralTo := goodIn_r _ [9, 1, 10, 11, 12, 13, 8, 14, 15, 16, 22, 23, 24, 25, 26, 27, 28, 29, 30, 31, 32, 33, 34, 35, 36] (by decide +kernel) (by decide +kernel)
set_option maxRecDepth 20000 in
theorem gX1_outOfApproach_X1_lateralTo : GoodIn wsX1_outOfApproach (wsV RX1 52 RX1 yX1_lateralTo wsX1_lateralTo) := goodIn_app (goodIn_of _ (by decide +kernel)) ggX1_outOfApproach_X1_lateralTo
set_option maxRecDepth 20000 in
theorem ggX1_outOfApproach_X1_verticalTo : GoodIn wsX1_outOfApproach wsX1_verticalTo := goodIn_r _ [20, 2, 21, 11, 12, 13, 8, 14, 15, 16, 22, 23, 24, 25, 26, 27, 28, 29, 30, 31, 32, 33, 34, 35, 36] (by decide +kernel) (by decide +kernel)
set_option maxRecDepth 20000 in
theorem gX1_outOfApproach_X1_verticalTo : GoodIn wsX1_outOfApproach (wsV RX1 56 RX1 yX1_verticalTo wsX1_verticalTo) := goodIn_app (goodIn_of _ (by decide +kernel)) ggX1_outOfApproach_X1_verticalTo
theorem dX1_outOfApproach_0 : decode cX1_outOfApproach 0 = .ok (.aload_n 0, 1) := by decide +kernel
theorem dX1_outOfApproach_1 : decode cX1_outOfApproach 1 = .ok (.getfield 26, 3) := by decide +kernel
theorem dX1_outOfApproach_4 : decode cX1_outOfApproach 4 = .ok (.iconst 4, 1) := by decide +kernel
theorem dX1_outOfApproach_5 : decode cX1_outOfApproach 5 = .ok (.if_icmp .ne 7, 3) := by decide +kernel
theorem dX1_outOfApproach_8 : decode cX1_outOfApproach 8 = .ok (.iconst 1, 1) := by decide +kernel
theorem dX1_outOfApproach_9 : decode cX1_outOfApproach 9 = .ok (.goto 4, 3) := by decide +kernel
theorem dX1_outOfApproach_12 : decode cX1_outOfApproach 12 = .ok (.iconst 0, 1) := by decide +kernel
theorem dX1_outOfApproach_13 : decode cX1_outOfApproach 13 = .ok (.istore_n 2, 1) := by decide +kernel
theorem dX1_outOfApproach_14 : decode cX1_outOfApproach 14 = .ok (.aload_n 0, 1) := by decide +kernel
theorem dX1_outOfApproach_15 : decode cX1_outOfApproach 15 = .ok (.iload_n 1, 1) := by decide +kernel
theorem dX1_outOfApproach_16 : decode cX1_outOfApproach 16 = .ok (.iconst 0, 1) := by decide +kernel
theorem dX1_outOfApproach_17 : decode cX1_outOfApproach 17 = .ok (.invokevirtual 52, 3) := by decide +kernel
theorem dX1_outOfApproach_20 : decode cX1_outOfApproach 20 = .ok (.iload_n 2, 1) := by decide +kernel
theorem dX1_outOfApproach_21 : decode cX1_outOfApproach 21 = .ok (.ifCond .eq 18, 3) := by decide +kernel
theorem dX1_outOfApproach_24 : decode cX1_outOfApproach 24 = .ok (.aload_n 0, 1) := by decide +kernel
theorem dX1_outOfApproach_25 : decode cX1_outOfApproach 25 = .ok (.getfield 36, 3) := by decide +kernel
theorem dX1_outOfApproach_28 : decode cX1_outOfApproach 28 = .ok (.bipush 6, 2) := by decide +kernel
theorem dX1_outOfApproach_30 : decode cX1_outOfApproach 30 = .ok (.if_icmp .ne 9, 3) := by decide +kernel
theorem dX1_outOfApproach_33 : decode cX1_outOfApproach 33 = .ok (.aload_n 0, 1) := by decide +kernel
theorem dX1_outOfApproach_34 : decode cX1_outOfApproach 34 = .ok (.iconst 1, 1) := by decide +kernel
theorem dX1_outOfApproach_35 : decode cX1_outOfApproach 35 = .ok (.iconst 0, 1) := by decide +kernel
theorem dX1_outOfApproach_36 : decode cX1_outOfApproach 36 = .ok (.invokevirtual 56, 3) := by decide +kernel
theorem dX1_outOfApproach_39 : decode cX1_outOfApproach 39 = .ok (.aload_n 0, 1) := by decide +kernel
theorem dX1_outOfApproach_40 : decode cX1_outOfApproach 40 = .ok (.aload_n 0, 1) := by decide +kernel
theorem dX1_outOfApproach_41 : decode cX1_outOfApproach 41 = .ok (.getfield 45, 3) := by decide +kernel
theorem dX1_outOfApproach_44 : decode cX1_outOfApproach 44 = .ok (.ifCond .eq 19, 3) := by decide +kernel
theorem dX1_outOfApproach_47 : decode cX1_outOfApproach 47 = .ok (.iload_n 2, 1) := by decide +kernel
theorem dX1_outOfApproach_48 : decode cX1_outOfApproach 48 = .ok (.ifCond .eq 11, 3) := by decide +kernel
theorem dX1_outOfApproach_51 : decode cX1_outOfApproach 51 = .ok (.aload_n 0, 1) := by decide +kernel
theorem dX1_outOfApproach_52 : decode cX1_outOfApproach 52 = .ok (.getfield 42, 3) := by decide +kernel
theorem dX1_outOfApproach_55 : decode cX1_outOfApproach 55 = .ok (.iconst 2, 1) := by decide +kernel
theorem dX1_outOfApproach_56 : decode cX1_outOfApproach 56 = .ok (.if_icmp .ne 7, 3) := by decide +kernel
theorem dX1_outOfApproach_59 : decode cX1_outOfApproach 59 = .ok (.iconst 1, 1) := by decide +kernel
theorem dX1_outOfApproach_60 : decode cX1_outOfApproach 60 = .ok (.goto 4, 3) := by decide +kernel
theorem dX1_outOfApproach_63 : decode cX1_outOfApproach 63 = .ok (.iconst 0, 1) := by decide +kernel
theorem dX1_outOfApproach_64 : decode cX1_outOfApproach 64 = .ok (.putfield 45, 3) := by decide +kernel
theorem dX1_outOfApproach_67 : decode cX1_outOfApproach 67 = .ok (.return_, 1) := by decide +kernel
set_option maxRecDepth 20000 in
theorem ggX1_navButton_X1_lateralTo : GoodIn wsX1_navButton wsX1_lateralTo := goodIn_r _ [8, 1, 9, 10, 11, 12, 7, 13, 14, 15, 16, 17, 18, 19, 20, 21, 22, 23, 24, 25, 26, 27, 28, 29, 30] (by decide +kernel) (by decide +kernel)
set_option maxRecDepth 20000 in
theorem gX1_navButton_X1_lateralTo : GoodIn wsX1_navButton (wsV RX1 52 RX1 yX1_lateralTo wsX1_lateralTo) := goodIn_app (goodIn_of _ (by decide +kernel)) ggX1_navButton_X1_lateralTo
theorem dX1_navButton_0 : decode cX1_navButton 0 = .ok (.aload_n 0, 1) := by decide +kernel
theorem dX1_navButton_1 : decode cX1_navButton 1 = .ok (.getfield 26, 3) := by decide +kernel
theorem dX1_navButton_4 : decode cX1_navButton 4 = .ok (.iconst 3, 1) := by decide +kernel
theorem dX1_navButton_5 : decode cX1_navButton 5 = .ok (.if_icmp .ne 12, 3) := by decide +kernel
theorem dX1_navButton_8 : decode cX1_navButton 8 = .ok (.aload_n 0, 1) := by decide +kernel
theorem dX1_navButton_9 : decode cX1_navButton 9 = .ok (.iconst 1, 1) := by decide +kernel
theorem dX1_navButton_10 : decode cX1_navButton 10 = .ok (.iconst 0, 1) := by decide +kernel
theorem dX1_navButton_11 : decode cX1_navButton 11 = .ok (.invokevirtual 52, 3) := by decide +kernel
theorem dX1_navButton_14 : decode cX1_navButton 14 = .ok (.goto 37, 3) := by decide +kernel
theorem dX1_navButton_17 : decode cX1_navButton 17 = .ok (.aload_n 0, 1) := by decide +kernel
theorem dX1_navButton_18 : decode cX1_navButton 18 = .ok (.getfield 26, 3) := by decide +kernel
theorem dX1_navButton_21 : decode cX1_navButton 21 = .ok (.iconst 4, 1) := by decide +kernel
theorem dX1_navButton_22 : decode cX1_navButton 22 = .ok (.if_icmp .eq 29, 3) := by decide +kernel
theorem dX1_navButton_25 : decode cX1_navButton 25 = .ok (.aload_n 0, 1) := by decide +kernel
theorem dX1_navButton_26 : decode cX1_navButton 26 = .ok (.getfield 42, 3) := by decide +kernel
theorem dX1_navButton_29 : decode cX1_navButton 29 = .ok (.iconst 1, 1) := by decide +kernel
theorem dX1_navButton_30 : decode cX1_navButton 30 = .ok (.if_icmp .ne 11, 3) := by decide +kernel
theorem dX1_navButton_33 : decode cX1_navButton 33 = .ok (.aload_n 0, 1) := by decide +kernel
theorem dX1_navButton_34 : decode cX1_navButton 34 = .ok (.iconst 0, 1) := by decide +kernel
theorem dX1_navButton_35 : decode cX1_navButton 35 = .ok (.putfield 42, 3) := by decide +kernel
theorem dX1_navButton_38 : decode cX1_navButton 38 = .ok (.goto 13, 3) := by decide +kernel
theorem dX1_navButton_41 : decode cX1_navButton 41 = .ok (.aload_n 0, 1) := by decide +kernel
theorem dX1_navButton_42 : decode cX1_navButton 42 = .ok (.iconst 1, 1) := by decide +kernel
theorem dX1_navButton_43 : decode cX1_navButton 43 = .ok (.putfield 42, 3) := by decide +kernel
theorem dX1_navButton_46 : decode cX1_navButton 46 = .ok (.aload_n 0, 1) := by decide +kernel
theorem dX1_navButton_47 : decode cX1_navButton 47 = .ok (.iconst 0, 1) := by decide +kernel
theorem dX1_navButton_48 : decode cX1_navButton 48 = .ok (.putfield 45, 3) := by decide +kernel
theorem dX1_navButton_51 : decode cX1_navButton 51 = .ok (.return_, 1) := by decide +kernel
set_option maxRecDepth 20000 in
theorem ggX1_approachButton_X1_outOfApproach : GoodIn wsX1_approachButton wsX1_outOfApproach := goodIn_r _ [8, 1, 9, 2, 3, 10, 11, 12, 7, 13, 14, 15, 16, 17, 18, 19, 20, 21, 22, 23, 24, 25, 30, 31, 32, 33, 34, 35, 36, 37, 38, 39, 40, 41, 42, 43, 44] (by decide +kernel) (by decide +kernel)
set_option maxRecDepth 20000 in
theorem gX1_approachButton_X1_outOfApproach : GoodIn wsX1_approachButton (wsV RX1 93 RX1 yX1_outOfApproach wsX1_outOfApproach) := goodIn_app (goodIn_of _ (by decide +kernel)) ggX1_approachButton_X1_outOfApproach
set_option maxRecDepth 20000 in
theorem ggX1_approachButton_X1_noneArmed : GoodIn wsX1_approachButton wsX1_noneArmed := goodIn_r _ [29, 3, 2, 30, 31, 32, 33, 34, 35, 36, 37, 38, 39, 40, 41, 42, 43, 44] (by decide +kernel) (by decide +kernel)
set_option maxRecDepth 20000 in
theorem gX1_approachButton_X1_noneArmed : GoodIn wsX1_approachButton (wsV RX1 49 RX1 yX1_noneArmed wsX1_noneArmed) := goodIn_app (goodIn_of _ (by decide +kernel)) ggX1_approachButton_X1_noneArmed
theorem dX1_approachButton_0 : decode cX1_approachButton 0 = .ok (.aload_n 0, 1) := by decide +kernel
theorem dX1_approachButton_1 : decode cX1_approachButton 1 = .ok (.getfield 26, 3) := by decide +kernel
theorem dX1_approachButton_4 : decode cX1_approachButton 4 = .ok (.iconst 4, 1) := by decide +kernel
theorem dX1_approachButton_5 : decode cX1_approachButton 5 = .ok (.if_icmp .ne 16, 3) := by decide +kernel
theorem dX1_approachButton_8 : decode cX1_approachButton 8 = .ok (.aload_n 0, 1) := by decide +kernel
theorem dX1_approachButton_9 : decode cX1_approachButton 9 = .ok (.iconst 1, 1) := by decide +kernel
theorem dX1_approachButton_10 : decode cX1_approachButton 10 = .ok (.invokevirtual 93, 3) := by decide +kernel
theorem dX1_approachButton_13 : decode cX1_approachButton 13 = .ok (.aload_n 0, 1) := by decide +kernel
theorem dX1_approachButton_14 : decode cX1_approachButton 14 = .ok (.iconst 0, 1) := by decide +kernel
theorem dX1_approachButton_15 : decode cX1_approachButton 15 = .ok (.putfield 45, 3) := by decide +kernel
theorem dX1_approachButton_18 : decode cX1_approachButton 18 = .ok (.goto 28, 3) := by decide +kernel
theorem dX1_approachButton_21 : decode cX1_approachButton 21 = .ok (.aload_n 0, 1) := by decide +kernel
theorem dX1_approachButton_22 : decode cX1_approachButton 22 = .ok (.getfield 42, 3) := by decide +kernel
theorem dX1_approachButton_25 : decode cX1_approachButton 25 = .ok (.iconst 2, 1) := by decide +kernel
theorem dX1_approachButton_26 : decode cX1_approachButton 26 = .ok (.if_icmp .ne 10, 3) := by decide +kernel
theorem dX1_approachButton_29 : decode cX1_approachButton 29 = .ok (.aload_n 0, 1) := by decide +kernel
theorem dX1_approachButton_30 : decode cX1_approachButton 30 = .ok (.invokevirtual 49, 3) := by decide +kernel
theorem dX1_approachButton_33 : decode cX1_approachButton 33 = .ok (.goto 13, 3) := by decide +kernel
theorem dX1_approachButton_36 : decode cX1_approachButton 36 = .ok (.aload_n 0, 1) := by decide +kernel
theorem dX1_approachButton_37 : decode cX1_approachButton 37 = .ok (.iconst 2, 1) := by decide +kernel
theorem dX1_approachButton_38 : decode cX1_approachButton 38 = .ok (.putfield 42, 3) := by decide +kernel
theorem dX1_approachButton_41 : decode cX1_approachButton 41 = .ok (.aload_n 0, 1) := by decide +kernel
theorem dX1_approachButton_42 : decode cX1_approachButton 42 = .ok (.iconst 1, 1) := by decide +kernel
theorem dX1_approachButton_43 : decode cX1_approachButton 43 = .ok (.putfield 45, 3) := by decide +kernel
theorem dX1_approachButton_46 : decode cX1_approachButton 46 = .ok (.return_, 1) := by decide +kernel
set_option maxRecDepth 20000 in
theorem ggX1_button_X1_outOfApproach : GoodIn wsX1_button wsX1_outOfApproach := goodIn_r _ [12, 1, 2, 13, 14, 15, 16, 17, 11, 18, 19, 20, 21, 22, 23, 24, 25, 26, 27, 28, 29, 30, 55, 56, 57, 58, 59, 60, 61, 62, 63, 64, 65, 66, 67, 68, 69] (by decide +kernel) (by decide +kernel)
set_option maxRecDepth 20000 in
theorem gX1_button_X1_outOfApproach : GoodIn wsX1_button (wsV RX1 93 RX1 yX1_outOfApproach wsX1_outOfApproach) := goodIn_app (goodIn_of _ (by decide +kernel)) ggX1_button_X1_outOfApproach
set_option maxRecDepth 20000 in
theorem ggX1_button_X1_navButton : GoodIn wsX1_button wsX1_navButton := goodIn_r _ [34, 1, 14, 13, 15, 16, 17, 11, 18, 19, 20, 21, 22, 23, 24, 25, 55, 56, 57, 58, 59, 60, 61, 62, 63, 64, 65, 66, 67, 68, 69] (by decide +kernel) (by decide +kernel)
set_option maxRecDepth 20000 in
theorem gX1_button_X1_navButton : GoodIn wsX1_button (wsV RX1 96 RX1 yX1_navButton wsX1_navButton) := goodIn_app (goodIn_of _ (by decide +kernel)) ggX1_button_X1_navButton
set_option maxRecDepth 20000 in
theorem ggX1_button_X1_approachButton : GoodIn wsX1_button wsX1_approachButton := goodIn_r _ [38, 1, 13, 14, 8, 9, 10, 11, 12, 2, 15, 16, 17, 18, 19, 20, 21, 22, 23, 24, 25, 26, 27, 28, 29, 30, 39, 40, 41, 42, 55, 56, 57, 58, 59, 60, 61, 62, 63, 64, 65, 66, 67, 68, 69] (by decide +kernel) (by decide +kernel)
set_option maxRecDepth 20000 in
theorem gX1_button_X1_approachButton : GoodIn wsX1_button (wsV RX1 99 RX1 yX1_approachButton wsX1_approachButton) := goodIn_app (goodIn_of _ (by decide +kernel)) ggX1_button_X1_approachButton
set_option maxRecDepth 20000 in
theorem ggX1_button_X1_verticalTo : GoodIn wsX1_button wsX1_verticalTo := goodIn_r _ [29, 2, 30, 20, 21, 22, 11, 23, 24, 25, 55, 56, 57, 58, 59, 60, 61, 62, 63, 64, 65, 66, 67, 68, 69] (by decide +kernel) (by decide +kernel)
set_option maxRecDepth 20000 in
theorem gX1_button_X1_verticalTo : GoodIn wsX1_button (wsV RX1 56 RX1 yX1_verticalTo wsX1_verticalTo) := goodIn_app (goodIn_of _ (by decide +kernel)) ggX1_button_X1_verticalTo
set_option maxRecDepth 20000 in
theorem ggX1_button_X1_noneArmed : GoodIn wsX1_button wsX1_noneArmed := goodIn_r _ [42, 14, 13, 55, 56, 57, 58, 59, 60, 61, 62, 63, 64, 65, 66, 67, 68, 69] (by decide +kernel) (by decide +kernel)
set_option maxRecDepth 20000 in
theorem gX1_button_X1_noneArmed : GoodIn wsX1_button (wsV RX1 49 RX1 yX1_noneArmed wsX1_noneArmed) := goodIn_app (goodIn_of _ (by decide +kernel)) ggX1_button_X1_noneArmed
set_option maxRecDepth 20000 in
theorem ggX1_button_X1_lateralTo : GoodIn wsX1_button wsX1_lateralTo := goodIn_r _ [18, 1, 19, 20, 21, 22, 11, 23, 24, 25, 55, 56, 57, 58, 59, 60, 61, 62, 63, 64, 65, 66, 67, 68, 69] (by decide +kernel) (by decide +kernel)
set_option maxRecDepth 20000 in
theorem gX1_button_X1_lateralTo : GoodIn wsX1_button (wsV RX1 52 RX1 yX1_lateralTo wsX1_lateralTo) := goodIn_app (goodIn_of _ (by decide +kernel)) ggX1_button_X1_lateralTo
set_option maxRecDepth 20000 in
theorem ggX1_button_X1_isBad : GoodIn wsX1_button wsX1_isBad := goodIn_r _ [46, 6, 7, 55, 56, 57, 58, 59, 60, 61, 62, 63, 64, 65, 66, 67, 68, 69] (by decide +kernel) (by decide +kernel)
set_option maxRecDepth 20000 in
theorem gX1_button_X1_isBad : GoodIn wsX1_button (wsV RX1 75 RX1 yX1_isBad wsX1_isBad) := goodIn_app (goodIn_of _ (by decide +kernel)) ggX1_button_X1_isBad
set_option maxRecDepth 20000 in
theorem ggX1_button_X1_base : GoodIn wsX1_button wsX1_base := goodIn_r _ [50, 39, 40, 41, 11, 42, 14, 13, 15, 16, 17, 18, 1, 19, 20, 21, 22, 23, 24, 25, 26, 27, 28, 29, 2, 30, 55, 56, 57, 58, 59, 60, 61, 62, 63, 64, 65, 66, 67, 68, 69] (by decide +kernel) (by decide +kernel)
set_option maxRecDepth 20000 in
theorem gX1_button_X1_base : GoodIn wsX1_button (wsV RX1 102 RX1 yX1_base wsX1_base) := goodIn_app (goodIn_of _ (by decide +kernel)) ggX1_button_X1_base
set_option maxRecDepth 20000 in
theorem ggX1_button_X1_goOff : GoodIn wsX1_button wsX1_goOff := goodIn_r _ [54, 3, 4, 19, 30, 39, 40, 41, 11, 42, 14, 13, 15, 16, 17, 18, 1, 20, 21, 22, 23, 24, 25, 26, 27, 28, 29, 2, 55, 56, 57, 58, 59, 60, 61, 62, 63, 64, 65, 66, 67, 68, 69] (by decide +kernel) (by decide +kernel)
set_option maxRecDepth 20000 in
theorem gX1_button_X1_goOff : GoodIn wsX1_button (wsV RX1 83 RX1 yX1_goOff wsX1_goOff) := goodIn_app (goodIn_of _ (by decide +kernel)) ggX1_button_X1_goOff
end
section
theorem dX1_button_0 : decode cX1_button 0 = .ok (.iload_n 1, 1) := by decide +kernel
theorem dX1_button_1 : decode cX1_button 1 = .ok (.ifCond .ne 23, 3) := by decide +kernel
theorem dX1_button_4 : decode cX1_button 4 = .ok (.aload_n 0, 1) := by decide +kernel
theorem dX1_button_5 : decode cX1_button 5 = .ok (.aload_n 0, 1) := by decide +kernel
theorem dX1_button_6 : decode cX1_button 6 = .ok (.getfield 26, 3) := by decide +kernel
theorem dX1_button_9 : decode cX1_button 9 = .ok (.iconst 2, 1) := by decide +kernel
theorem dX1_button_10 : decode cX1_button 10 = .ok (.if_icmp .ne 7, 3) := by decide +kernel
theorem dX1_button_13 : decode cX1_button 13 = .ok (.iconst 1, 1) := by decide +kernel
theorem dX1_button_14 : decode cX1_button 14 = .ok (.goto 4, 3) := by decide +kernel
theorem dX1_button_17 : decode cX1_button 17 = .ok (.iconst 2, 1) := by decide +kernel
theorem dX1_button_18 : decode cX1_button 18 = .ok (.invokevirtual 93, 3) := by decide +kernel
theorem dX1_button_21 : decode cX1_button 21 = .ok (.goto 258, 3) := by decide +kernel
theorem dX1_button_24 : decode cX1_button 24 = .ok (.iload_n 1, 1) := by decide +kernel
theorem dX1_button_25 : decode cX1_button 25 = .ok (.iconst 1, 1) := by decide +kernel
theorem dX1_button_26 : decode cX1_button 26 = .ok (.if_icmp .ne 10, 3) := by decide +kernel
theorem dX1_button_29 : decode cX1_button 29 = .ok (.aload_n 0, 1) := by decide +kernel
theorem dX1_button_30 : decode cX1_button 30 = .ok (.invokevirtual 96, 3) := by decide +kernel
theorem dX1_button_33 : decode cX1_button 33 = .ok (.goto 246, 3) := by decide +kernel
theorem dX1_button_36 : decode cX1_button 36 = .ok (.iload_n 1, 1) := by decide +kernel
theorem dX1_button_37 : decode cX1_button 37 = .ok (.iconst 2, 1) := by decide +kernel
theorem dX1_button_38 : decode cX1_button 38 = .ok (.if_icmp .ne 10, 3) := by decide +kernel
theorem dX1_button_41 : decode cX1_button 41 = .ok (.aload_n 0, 1) := by decide +kernel
theorem dX1_button_42 : decode cX1_button 42 = .ok (.invokevirtual 99, 3) := by decide +kernel
theorem dX1_button_45 : decode cX1_button 45 = .ok (.goto 234, 3) := by decide +kernel
theorem dX1_button_48 : decode cX1_button 48 = .ok (.iload_n 1, 1) := by decide +kernel
theorem dX1_button_49 : decode cX1_button 49 = .ok (.bipush 6, 2) := by decide +kernel
theorem dX1_button_51 : decode cX1_button 51 = .ok (.if_icmp .ge 37, 3) := by decide +kernel
theorem dX1_button_54 : decode cX1_button 54 = .ok (.aload_n 0, 1) := by decide +kernel
theorem dX1_button_55 : decode cX1_button 55 = .ok (.getfield 36, 3) := by decide +kernel
theorem dX1_button_58 : decode cX1_button 58 = .ok (.bipush 6, 2) := by decide +kernel
theorem dX1_button_60 : decode cX1_button 60 = .ok (.if_icmp .eq 219, 3) := by decide +kernel
theorem dX1_button_63 : decode cX1_button 63 = .ok (.aload_n 0, 1) := by decide +kernel
theorem dX1_button_64 : decode cX1_button 64 = .ok (.aload_n 0, 1) := by decide +kernel
theorem dX1_button_65 : decode cX1_button 65 = .ok (.getfield 36, 3) := by decide +kernel
theorem dX1_button_68 : decode cX1_button 68 = .ok (.iload_n 1, 1) := by decide +kernel
theorem dX1_button_69 : decode cX1_button 69 = .ok (.iconst 1, 1) := by decide +kernel
theorem dX1_button_70 : decode cX1_button 70 = .ok (.isub, 1) := by decide +kernel
theorem dX1_button_71 : decode cX1_button 71 = .ok (.if_icmp .ne 7, 3) := by decide +kernel
theorem dX1_button_74 : decode cX1_button 74 = .ok (.iconst 1, 1) := by decide +kernel
theorem dX1_button_75 : decode cX1_button 75 = .ok (.goto 6, 3) := by decide +kernel
theorem dX1_button_78 : decode cX1_button 78 = .ok (.iload_n 1, 1) := by decide +kernel
theorem dX1_button_79 : decode cX1_button 79 = .ok (.iconst 1, 1) := by decide +kernel
theorem dX1_button_80 : decode cX1_button 80 = .ok (.isub, 1) := by decide +kernel
theorem dX1_button_81 : decode cX1_button 81 = .ok (.iconst 0, 1) := by decide +kernel
theorem dX1_button_82 : decode cX1_button 82 = .ok (.invokevirtual 56, 3) := by decide +kernel
theorem dX1_button_85 : decode cX1_button 85 = .ok (.goto 194, 3) := by decide +kernel
theorem dX1_button_88 : decode cX1_button 88 = .ok (.iload_n 1, 1) := by decide +kernel
theorem dX1_button_89 : decode cX1_button 89 = .ok (.bipush 6, 2) := by decide +kernel
theorem dX1_button_91 : decode cX1_button 91 = .ok (.if_icmp .ne 51, 3) := by decide +kernel
theorem dX1_button_94 : decode cX1_button 94 = .ok (.aload_n 0, 1) := by decide +kernel
theorem dX1_button_95 : decode cX1_button 95 = .ok (.invokevirtual 49, 3) := by decide +kernel
theorem dX1_button_98 : decode cX1_button 98 = .ok (.aload_n 0, 1) := by decide +kernel
theorem dX1_button_99 : decode cX1_button 99 = .ok (.aload_n 0, 1) := by decide +kernel
theorem dX1_button_100 : decode cX1_button 100 = .ok (.getfield 59, 3) := by decide +kernel
theorem dX1_button_103 : decode cX1_button 103 = .ok (.ifCond .ne 10, 3) := by decide +kernel
theorem dX1_button_106 : decode cX1_button 106 = .ok (.aload_n 0, 1) := by decide +kernel
theorem dX1_button_107 : decode cX1_button 107 = .ok (.getfield 62, 3) := by decide +kernel
theorem dX1_button_110 : decode cX1_button 110 = .ok (.ifCond .eq 7, 3) := by decide +kernel
theorem dX1_button_113 : decode cX1_button 113 = .ok (.iconst 1, 1) := by decide +kernel
theorem dX1_button_114 : decode cX1_button 114 = .ok (.goto 4, 3) := by decide +kernel
theorem dX1_button_117 : decode cX1_button 117 = .ok (.iconst 0, 1) := by decide +kernel
theorem dX1_button_118 : decode cX1_button 118 = .ok (.putfield 59, 3) := by decide +kernel
theorem dX1_button_121 : decode cX1_button 121 = .ok (.aload_n 0, 1) := by decide +kernel
theorem dX1_button_122 : decode cX1_button 122 = .ok (.iconst 0, 1) := by decide +kernel
theorem dX1_button_123 : decode cX1_button 123 = .ok (.putfield 62, 3) := by decide +kernel
theorem dX1_button_126 : decode cX1_button 126 = .ok (.aload_n 0, 1) := by decide +kernel
theorem dX1_button_127 : decode cX1_button 127 = .ok (.iconst 5, 1) := by decide +kernel
theorem dX1_button_128 : decode cX1_button 128 = .ok (.iconst 0, 1) := by decide +kernel
theorem dX1_button_129 : decode cX1_button 129 = .ok (.invokevirtual 52, 3) := by decide +kernel
theorem dX1_button_132 : decode cX1_button 132 = .ok (.aload_n 0, 1) := by decide +kernel
theorem dX1_button_133 : decode cX1_button 133 = .ok (.bipush 7, 2) := by decide +kernel
theorem dX1_button_135 : decode cX1_button 135 = .ok (.iconst 0, 1) := by decide +kernel
theorem dX1_button_136 : decode cX1_button 136 = .ok (.invokevirtual 56, 3) := by decide +kernel
theorem dX1_button_139 : decode cX1_button 139 = .ok (.goto 140, 3) := by decide +kernel
theorem dX1_button_142 : decode cX1_button 142 = .ok (.iload_n 1, 1) := by decide +kernel
theorem dX1_button_143 : decode cX1_button 143 = .ok (.bipush 7, 2) := by decide +kernel
theorem dX1_button_145 : decode cX1_button 145 = .ok (.if_icmp .ne 49, 3) := by decide +kernel
theorem dX1_button_148 : decode cX1_button 148 = .ok (.aload_n 0, 1) := by decide +kernel
theorem dX1_button_149 : decode cX1_button 149 = .ok (.aload_n 0, 1) := by decide +kernel
theorem dX1_button_150 : decode cX1_button 150 = .ok (.getfield 26, 3) := by decide +kernel
theorem dX1_button_153 : decode cX1_button 153 = .ok (.iconst 5, 1) := by decide +kernel
theorem dX1_button_154 : decode cX1_button 154 = .ok (.if_icmp .ne 7, 3) := by decide +kernel
theorem dX1_button_157 : decode cX1_button 157 = .ok (.iconst 1, 1) := by decide +kernel
theorem dX1_button_158 : decode cX1_button 158 = .ok (.goto 7, 3) := by decide +kernel
theorem dX1_button_161 : decode cX1_button 161 = .ok (.aload_n 0, 1) := by decide +kernel
theorem dX1_button_162 : decode cX1_button 162 = .ok (.getfield 26, 3) := by decide +kernel
theorem dX1_button_165 : decode cX1_button 165 = .ok (.iconst 0, 1) := by decide +kernel
theorem dX1_button_166 : decode cX1_button 166 = .ok (.invokevirtual 52, 3) := by decide +kernel
theorem dX1_button_169 : decode cX1_button 169 = .ok (.aload_n 0, 1) := by decide +kernel
theorem dX1_button_170 : decode cX1_button 170 = .ok (.aload_n 0, 1) := by decide +kernel
theorem dX1_button_171 : decode cX1_button 171 = .ok (.getfield 36, 3) := by decide +kernel
theorem dX1_button_174 : decode cX1_button 174 = .ok (.bipush 7, 2) := by decide +kernel
theorem dX1_button_176 : decode cX1_button 176 = .ok (.if_icmp .ne 7, 3) := by decide +kernel
theorem dX1_button_179 : decode cX1_button 179 = .ok (.iconst 1, 1) := by decide +kernel
theorem dX1_button_180 : decode cX1_button 180 = .ok (.goto 7, 3) := by decide +kernel
theorem dX1_button_183 : decode cX1_button 183 = .ok (.aload_n 0, 1) := by decide +kernel
theorem dX1_button_184 : decode cX1_button 184 = .ok (.getfield 36, 3) := by decide +kernel
theorem dX1_button_187 : decode cX1_button 187 = .ok (.iconst 0, 1) := by decide +kernel
theorem dX1_button_188 : decode cX1_button 188 = .ok (.invokevirtual 56, 3) := by decide +kernel
theorem dX1_button_191 : decode cX1_button 191 = .ok (.goto 88, 3) := by decide +kernel
theorem dX1_button_194 : decode cX1_button 194 = .ok (.iload_n 1, 1) := by decide +kernel
theorem dX1_button_195 : decode cX1_button 195 = .ok (.bipush 8, 2) := by decide +kernel
theorem dX1_button_197 : decode cX1_button 197 = .ok (.if_icmp .ne 41, 3) := by decide +kernel
theorem dX1_button_200 : decode cX1_button 200 = .ok (.aload_n 0, 1) := by decide +kernel
theorem dX1_button_201 : decode cX1_button 201 = .ok (.iconst 1, 1) := by decide +kernel
theorem dX1_button_202 : decode cX1_button 202 = .ok (.aload_n 0, 1) := by decide +kernel
theorem dX1_button_203 : decode cX1_button 203 = .ok (.getfield 16, 3) := by decide +kernel
theorem dX1_button_206 : decode cX1_button 206 = .ok (.isub, 1) := by decide +kernel
theorem dX1_button_207 : decode cX1_button 207 = .ok (.invokevirtual 75, 3) := by decide +kernel
theorem dX1_button_210 : decode cX1_button 210 = .ok (.ifCond .ne 69, 3) := by decide +kernel
theorem dX1_button_213 : decode cX1_button 213 = .ok (.aload_n 0, 1) := by decide +kernel
theorem dX1_button_214 : decode cX1_button 214 = .ok (.iconst 1, 1) := by decide +kernel
theorem dX1_button_215 : decode cX1_button 215 = .ok (.aload_n 0, 1) := by decide +kernel
theorem dX1_button_216 : decode cX1_button 216 = .ok (.getfield 16, 3) := by decide +kernel
theorem dX1_button_219 : decode cX1_button 219 = .ok (.isub, 1) := by decide +kernel
theorem dX1_button_220 : decode cX1_button 220 = .ok (.putfield 16, 3) := by decide +kernel
theorem dX1_button_223 : decode cX1_button 223 = .ok (.aload_n 0, 1) := by decide +kernel
theorem dX1_button_224 : decode cX1_button 224 = .ok (.getfield 26, 3) := by decide +kernel
theorem dX1_button_227 : decode cX1_button 227 = .ok (.ifCond .le 52, 3) := by decide +kernel
theorem dX1_button_230 : decode cX1_button 230 = .ok (.aload_n 0, 1) := by decide +kernel
theorem dX1_button_231 : decode cX1_button 231 = .ok (.iconst 0, 1) := by decide +kernel
theorem dX1_button_232 : decode cX1_button 232 = .ok (.invokevirtual 102, 3) := by decide +kernel
theorem dX1_button_235 : decode cX1_button 235 = .ok (.goto 44, 3) := by decide +kernel
theorem dX1_button_238 : decode cX1_button 238 = .ok (.aload_n 0, 1) := by decide +kernel
theorem dX1_button_239 : decode cX1_button 239 = .ok (.getfield 26, 3) := by decide +kernel
theorem dX1_button_242 : decode cX1_button 242 = .ok (.ifCond .ne 25, 3) := by decide +kernel
theorem dX1_button_245 : decode cX1_button 245 = .ok (.aload_n 0, 1) := by decide +kernel
theorem dX1_button_246 : decode cX1_button 246 = .ok (.getfield 65, 3) := by decide +kernel
theorem dX1_button_249 : decode cX1_button 249 = .ok (.ifCond .eq 10, 3) := by decide +kernel
theorem dX1_button_252 : decode cX1_button 252 = .ok (.aload_n 0, 1) := by decide +kernel
theorem dX1_button_253 : decode cX1_button 253 = .ok (.getfield 68, 3) := by decide +kernel
theorem dX1_button_256 : decode cX1_button 256 = .ok (.ifCond .ne 23, 3) := by decide +kernel
theorem dX1_button_259 : decode cX1_button 259 = .ok (.aload_n 0, 1) := by decide +kernel
theorem dX1_button_260 : decode cX1_button 260 = .ok (.iconst 0, 1) := by decide +kernel
theorem dX1_button_261 : decode cX1_button 261 = .ok (.invokevirtual 102, 3) := by decide +kernel
theorem dX1_button_264 : decode cX1_button 264 = .ok (.goto 15, 3) := by decide +kernel
theorem dX1_button_267 : decode cX1_button 267 = .ok (.aload_n 0, 1) := by decide +kernel
theorem dX1_button_268 : decode cX1_button 268 = .ok (.getfield 62, 3) := by decide +kernel
theorem dX1_button_271 : decode cX1_button 271 = .ok (.ifCond .ne 8, 3) := by decide +kernel
theorem dX1_button_274 : decode cX1_button 274 = .ok (.aload_n 0, 1) := by decide +kernel
theorem dX1_button_275 : decode cX1_button 275 = .ok (.iconst 0, 1) := by decide +kernel
theorem dX1_button_276 : decode cX1_button 276 = .ok (.invokevirtual 83, 3) := by decide +kernel
theorem dX1_button_279 : decode cX1_button 279 = .ok (.return_, 1) := by decide +kernel
theorem dX1_sum_0 : decode cX1_sum 0 = .ok (.aload_n 0, 1) := by decide +kernel
theorem dX1_sum_1 : decode cX1_sum 1 = .ok (.getfield 26, 3) := by decide +kernel
theorem dX1_sum_4 : decode cX1_sum 4 = .ok (.bipush 8, 2) := by decide +kernel
theorem dX1_sum_6 : decode cX1_sum 6 = .ok (.aload_n 0, 1) := by decide +kernel
theorem dX1_sum_7 : decode cX1_sum 7 = .ok (.getfield 36, 3) := by decide +kernel
theorem dX1_sum_10 : decode cX1_sum 10 = .ok (.imul, 1) := by decide +kernel
theorem dX1_sum_11 : decode cX1_sum 11 = .ok (.iadd, 1) := by decide +kernel
theorem dX1_sum_12 : decode cX1_sum 12 = .ok (.bipush 64, 2) := by decide +kernel
theorem dX1_sum_14 : decode cX1_sum 14 = .ok (.aload_n 0, 1) := by decide +kernel
theorem dX1_sum_15 : decode cX1_sum 15 = .ok (.getfield 42, 3) := by decide +kernel
theorem dX1_sum_18 : decode cX1_sum 18 = .ok (.imul, 1) := by decide +kernel
theorem dX1_sum_19 : decode cX1_sum 19 = .ok (.iadd, 1) := by decide +kernel
theorem dX1_sum_20 : decode cX1_sum 20 = .ok (.aload_n 0, 1) := by decide +kernel
theorem dX1_sum_21 : decode cX1_sum 21 = .ok (.getfield 45, 3) := by decide +kernel
theorem dX1_sum_24 : decode cX1_sum 24 = .ok (.ifCond .eq 9, 3) := by decide +kernel
theorem dX1_sum_27 : decode cX1_sum 27 = .ok (.sipush 256, 3) := by decide +kernel
theorem dX1_sum_30 : decode cX1_sum 30 = .ok (.goto 4, 3) := by decide +kernel
theorem dX1_sum_33 : decode cX1_sum 33 = .ok (.iconst 0, 1) := by decide +kernel
theorem dX1_sum_34 : decode cX1_sum 34 = .ok (.iadd, 1) := by decide +kernel
theorem dX1_sum_35 : decode cX1_sum 35 = .ok (.aload_n 0, 1) := by decide +kernel
theorem dX1_sum_36 : decode cX1_sum 36 = .ok (.getfield 62, 3) := by decide +kernel
theorem dX1_sum_39 : decode cX1_sum 39 = .ok (.ifCond .eq 9, 3) := by decide +kernel
theorem dX1_sum_42 : decode cX1_sum 42 = .ok (.sipush 512, 3) := by decide +kernel
theorem dX1_sum_45 : decode cX1_sum 45 = .ok (.goto 4, 3) := by decide +kernel
theorem dX1_sum_48 : decode cX1_sum 48 = .ok (.iconst 0, 1) := by decide +kernel
theorem dX1_sum_49 : decode cX1_sum 49 = .ok (.iadd, 1) := by decide +kernel
theorem dX1_sum_50 : decode cX1_sum 50 = .ok (.sipush 1024, 3) := by decide +kernel
theorem dX1_sum_53 : decode cX1_sum 53 = .ok (.aload_n 0, 1) := by decide +kernel
theorem dX1_sum_54 : decode cX1_sum 54 = .ok (.getfield 16, 3) := by decide +kernel
theorem dX1_sum_57 : decode cX1_sum 57 = .ok (.imul, 1) := by decide +kernel
theorem dX1_sum_58 : decode cX1_sum 58 = .ok (.iadd, 1) := by decide +kernel
theorem dX1_sum_59 : decode cX1_sum 59 = .ok (.ireturn, 1) := by decide +kernel
set_option maxRecDepth 20000 in
theorem ggX1_press_X1_good : GoodIn wsX1_press wsX1_good := goodIn_r _ [10, 11, 88, 89, 90, 91, 92, 93, 94, 95, 96, 97, 98, 99, 100, 101, 102] (by decide +kernel) (by decide +kernel)
set_option maxRecDepth 20000 in
theorem gX1_press_X1_good : GoodIn wsX1_press (wsV RX1 105 RX1 yX1_good wsX1_good) := goodIn_app (goodIn_of _ (by decide +kernel)) ggX1_press_X1_good
set_option maxRecDepth 20000 in
theorem ggX1_press_X1_sum : GoodIn wsX1_press wsX1_sum := goodIn_r _ [15, 5, 16, 17, 18, 19, 20, 88, 89, 90, 91, 92, 93, 94, 95, 96, 97, 98, 99, 100, 101, 102] (by decide +kernel) (by decide +kernel)
set_option maxRecDepth 20000 in
theorem gX1_press_X1_sum : GoodIn wsX1_press (wsV RX1 109 RX1 yX1_sum wsX1_sum) := goodIn_app (goodIn_of _ (by decide +kernel)) ggX1_press_X1_sum
set_option maxRecDepth 20000 in
theorem ggX1_press_X1_base : GoodIn wsX1_press wsX1_base := goodIn_r _ [24, 25, 26, 27, 9, 28, 17, 18, 29, 30, 31, 32, 5, 1, 33, 34, 35, 36, 37, 38, 39, 40, 41, 42, 16, 2, 88, 89, 90, 91, 92, 93, 94, 95, 96, 97, 98, 99, 100, 101, 102] (by decide +kernel) (by decide +kernel)
set_option maxRecDepth 20000 in
theorem gX1_press_X1_base : GoodIn wsX1_press (wsV RX1 102 RX1 yX1_base wsX1_base) := goodIn_app (goodIn_of _ (by decide +kernel)) ggX1_press_X1_base
set_option maxRecDepth 20000 in
theorem ggX1_press_X1_button : GoodIn wsX1_press wsX1_button := goodIn_r _ [46, 5, 16, 47, 19, 20, 3, 4, 48, 49, 50, 9, 51, 18, 17, 29, 30, 31, 32, 1, 33, 34, 35, 36, 37, 38, 39, 40, 41, 42, 2, 52, 53, 54, 55, 56, 57, 58, 59, 25, 26, 27, 28, 60, 61, 62, 63, 21, 22, 23, 24, 64, 65, 66, 67, 88, 89, 90, 91, 92, 93, 94, 95, 96, 97, 98, 99, 100, 101, 102] (by decide +kernel) (by decide +kernel)
set_option maxRecDepth 20000 in
theorem gX1_press_X1_button : GoodIn wsX1_press (wsV RX1 112 RX1 yX1_button wsX1_button) := goodIn_app (goodIn_of _ (by decide +kernel)) ggX1_press_X1_button
set_option maxRecDepth 20000 in
theorem ggX1_press_X1_settle : GoodIn wsX1_press wsX1_settle := goodIn_r _ [71, 72, 73, 74, 9, 75, 76, 5, 20, 16, 17, 18, 60, 61, 62, 63, 3, 4, 77, 78, 79, 80, 81, 82, 83, 84, 85, 86, 87, 64, 65, 66, 67, 47, 19, 1, 2, 25, 26, 27, 28, 29, 30, 31, 32, 33, 34, 35, 36, 37, 38, 39, 40, 41, 42, 88, 89, 90, 91, 92, 93, 94, 95, 96, 97, 98, 99, 100, 101, 102] (by decide +kernel) (by decide +kernel)
set_option maxRecDepth 20000 in
theorem gX1_press_X1_settle : GoodIn wsX1_press (wsV RX1 115 RX1 yX1_settle wsX1_settle) := goodIn_app (goodIn_of _ (by decide +kernel)) ggX1_press_X1_settle
theorem dX1_press_0 : decode cX1_press 0 = .ok (.aload_n 0, 1) := by decide +kernel
theorem dX1_press_1 : decode cX1_press 1 = .ok (.iload_n 1, 1) := by decide +kernel
theorem dX1_press_2 : decode cX1_press 2 = .ok (.ifCond .lt 13, 3) := by decide +kernel
theorem dX1_press_5 : decode cX1_press 5 = .ok (.iload_n 1, 1) := by decide +kernel
theorem dX1_press_6 : decode cX1_press 6 = .ok (.bipush 9, 2) := by decide +kernel
theorem dX1_press_8 : decode cX1_press 8 = .ok (.if_icmp .gt 7, 3) := by decide +kernel
theorem dX1_press_11 : decode cX1_press 11 = .ok (.iconst 1, 1) := by decide +kernel
theorem dX1_press_12 : decode cX1_press 12 = .ok (.goto 4, 3) := by decide +kernel
theorem dX1_press_15 : decode cX1_press 15 = .ok (.iconst 0, 1) := by decide +kernel
theorem dX1_press_16 : decode cX1_press 16 = .ok (.invokevirtual 105, 3) := by decide +kernel
theorem dX1_press_19 : decode cX1_press 19 = .ok (.ifCond .ne 5, 3) := by decide +kernel
theorem dX1_press_22 : decode cX1_press 22 = .ok (.iconst 0, 1) := by decide +kernel
theorem dX1_press_23 : decode cX1_press 23 = .ok (.ireturn, 1) := by decide +kernel
theorem dX1_press_24 : decode cX1_press 24 = .ok (.aload_n 0, 1) := by decide +kernel
theorem dX1_press_25 : decode cX1_press 25 = .ok (.invokevirtual 109, 3) := by decide +kernel
theorem dX1_press_28 : decode cX1_press 28 = .ok (.istore_n 2, 1) := by decide +kernel
theorem dX1_press_29 : decode cX1_press 29 = .ok (.aload_n 0, 1) := by decide +kernel
theorem dX1_press_30 : decode cX1_press 30 = .ok (.iconst 0, 1) := by decide +kernel
theorem dX1_press_31 : decode cX1_press 31 = .ok (.putfield 33, 3) := by decide +kernel
theorem dX1_press_34 : decode cX1_press 34 = .ok (.aload_n 0, 1) := by decide +kernel
theorem dX1_press_35 : decode cX1_press 35 = .ok (.iconst 0, 1) := by decide +kernel
theorem dX1_press_36 : decode cX1_press 36 = .ok (.putfield 39, 3) := by decide +kernel
theorem dX1_press_39 : decode cX1_press 39 = .ok (.iload_n 1, 1) := by decide +kernel
theorem dX1_press_40 : decode cX1_press 40 = .ok (.bipush 7, 2) := by decide +kernel
theorem dX1_press_42 : decode cX1_press 42 = .ok (.if_icmp .gt 17, 3) := by decide +kernel
theorem dX1_press_45 : decode cX1_press 45 = .ok (.aload_n 0, 1) := by decide +kernel
theorem dX1_press_46 : decode cX1_press 46 = .ok (.getfield 65, 3) := by decide +kernel
theorem dX1_press_49 : decode cX1_press 49 = .ok (.ifCond .eq 10, 3) := by decide +kernel
theorem dX1_press_52 : decode cX1_press 52 = .ok (.aload_n 0, 1) := by decide +kernel
theorem dX1_press_53 : decode cX1_press 53 = .ok (.getfield 68, 3) := by decide +kernel
theorem dX1_press_56 : decode cX1_press 56 = .ok (.ifCond .ne 7, 3) := by decide +kernel
theorem dX1_press_59 : decode cX1_press 59 = .ok (.iconst 1, 1) := by decide +kernel
theorem dX1_press_60 : decode cX1_press 60 = .ok (.goto 4, 3) := by decide +kernel
theorem dX1_press_63 : decode cX1_press 63 = .ok (.iconst 0, 1) := by decide +kernel
theorem dX1_press_64 : decode cX1_press 64 = .ok (.istore_n 3, 1) := by decide +kernel
theorem dX1_press_65 : decode cX1_press 65 = .ok (.iload_n 3, 1) := by decide +kernel
theorem dX1_press_66 : decode cX1_press 66 = .ok (.ifCond .eq 21, 3) := by decide +kernel
theorem dX1_press_69 : decode cX1_press 69 = .ok (.iload_n 1, 1) := by decide +kernel
theorem dX1_press_70 : decode cX1_press 70 = .ok (.bipush 8, 2) := by decide +kernel
theorem dX1_press_72 : decode cX1_press 72 = .ok (.if_icmp .ge 15, 3) := by decide +kernel
theorem dX1_press_75 : decode cX1_press 75 = .ok (.aload_n 0, 1) := by decide +kernel
theorem dX1_press_76 : decode cX1_press 76 = .ok (.getfield 26, 3) := by decide +kernel
theorem dX1_press_79 : decode cX1_press 79 = .ok (.ifCond .ne 8, 3) := by decide +kernel
theorem dX1_press_82 : decode cX1_press 82 = .ok (.aload_n 0, 1) := by decide +kernel
theorem dX1_press_83 : decode cX1_press 83 = .ok (.iconst 0, 1) := by decide +kernel
theorem dX1_press_84 : decode cX1_press 84 = .ok (.invokevirtual 102, 3) := by decide +kernel
theorem dX1_press_87 : decode cX1_press 87 = .ok (.iload_n 3, 1) := by decide +kernel
theorem dX1_press_88 : decode cX1_press 88 = .ok (.ifCond .eq 8, 3) := by decide +kernel
theorem dX1_press_91 : decode cX1_press 91 = .ok (.aload_n 0, 1) := by decide +kernel
theorem dX1_press_92 : decode cX1_press 92 = .ok (.iload_n 1, 1) := by decide +kernel
theorem dX1_press_93 : decode cX1_press 93 = .ok (.invokevirtual 112, 3) := by decide +kernel
theorem dX1_press_96 : decode cX1_press 96 = .ok (.aload_n 0, 1) := by decide +kernel
theorem dX1_press_97 : decode cX1_press 97 = .ok (.invokevirtual 115, 3) := by decide +kernel
theorem dX1_press_100 : decode cX1_press 100 = .ok (.istore 4, 2) := by decide +kernel
theorem dX1_press_102 : decode cX1_press 102 = .ok (.aload_n 0, 1) := by decide +kernel
theorem dX1_press_103 : decode cX1_press 103 = .ok (.invokevirtual 109, 3) := by decide +kernel
theorem dX1_press_106 : decode cX1_press 106 = .ok (.iload_n 2, 1) := by decide +kernel
theorem dX1_press_107 : decode cX1_press 107 = .ok (.if_icmp .ne 7, 3) := by decide +kernel
theorem dX1_press_110 : decode cX1_press 110 = .ok (.iconst 0, 1) := by decide +kernel
theorem dX1_press_111 : decode cX1_press 111 = .ok (.goto 4, 3) := by decide +kernel
theorem dX1_press_114 : decode cX1_press 114 = .ok (.iconst 1, 1) := by decide +kernel
theorem dX1_press_115 : decode cX1_press 115 = .ok (.ireturn, 1) := by decide +kernel
set_option maxRecDepth 20000 in
theorem ggX1_sense_X1_good : GoodIn wsX1_sense wsX1_good := goodIn_r _ [7, 8, 65, 66, 67, 68, 69, 70, 71, 72, 73, 74, 75, 76, 77, 78, 79] (by decide +kernel) (by decide +kernel)
set_option maxRecDepth 20000 in
theorem gX1_sense_X1_good : GoodIn wsX1_sense (wsV RX1 105 RX1 yX1_good wsX1_good) := goodIn_app (goodIn_of _ (by decide +kernel)) ggX1_sense_X1_good
set_option maxRecDepth 20000 in
theorem ggX1_sense_X1_settle : GoodIn wsX1_sense wsX1_settle := goodIn_r _ [12, 13, 14, 15, 6, 16, 2, 17, 18, 19, 20, 21, 22, 23, 24, 25, 26, 27, 28, 29, 30, 31, 32, 33, 34, 35, 36, 37, 38, 39, 40, 41, 42, 43, 44, 45, 46, 47, 48, 49, 50, 51, 52, 53, 54, 55, 56, 57, 58, 59, 60, 61, 62, 63, 64, 65, 66, 67, 68, 69, 70, 71, 72, 73, 74, 75, 76, 77, 78, 79] (by decide +kernel) (by decide +kernel)
set_option maxRecDepth 20000 in
theorem gX1_sense_X1_settle : GoodIn wsX1_sense (wsV RX1 115 RX1 yX1_settle wsX1_settle) := goodIn_app (goodIn_of _ (by decide +kernel)) ggX1_sense_X1_settle
theorem dX1_sense_0 : decode cX1_sense 0 = .ok (.iload_n 1, 1) := by decide +kernel
theorem dX1_sense_1 : decode cX1_sense 1 = .ok (.ifCond .eq 8, 3) := by decide +kernel
theorem dX1_sense_4 : decode cX1_sense 4 = .ok (.iload_n 1, 1) := by decide +kernel
theorem dX1_sense_5 : decode cX1_sense 5 = .ok (.iconst 1, 1) := by decide +kernel
theorem dX1_sense_6 : decode cX1_sense 6 = .ok (.if_icmp .ne 9, 3) := by decide +kernel
theorem dX1_sense_9 : decode cX1_sense 9 = .ok (.sipush (-1000), 3) := by decide +kernel
theorem dX1_sense_12 : decode cX1_sense 12 = .ok (.goto 4, 3) := by decide +kernel
theorem dX1_sense_15 : decode cX1_sense 15 = .ok (.iconst 0, 1) := by decide +kernel
theorem dX1_sense_16 : decode cX1_sense 16 = .ok (.istore_n 3, 1) := by decide +kernel
theorem dX1_sense_17 : decode cX1_sense 17 = .ok (.iload_n 1, 1) := by decide +kernel
theorem dX1_sense_18 : decode cX1_sense 18 = .ok (.iconst 2, 1) := by decide +kernel
theorem dX1_sense_19 : decode cX1_sense 19 = .ok (.if_icmp .ge 9, 3) := by decide +kernel
theorem dX1_sense_22 : decode cX1_sense 22 = .ok (.sipush 1000, 3) := by decide +kernel
theorem dX1_sense_25 : decode cX1_sense 25 = .ok (.goto 25, 3) := by decide +kernel
theorem dX1_sense_28 : decode cX1_sense 28 = .ok (.iload_n 1, 1) := by decide +kernel
theorem dX1_sense_29 : decode cX1_sense 29 = .ok (.iconst 4, 1) := by decide +kernel
theorem dX1_sense_30 : decode cX1_sense 30 = .ok (.if_icmp .ge 8, 3) := by decide +kernel
theorem dX1_sense_33 : decode cX1_sense 33 = .ok (.ldc 118, 2) := by decide +kernel
theorem dX1_sense_35 : decode cX1_sense 35 = .ok (.goto 15, 3) := by decide +kernel
theorem dX1_sense_38 : decode cX1_sense 38 = .ok (.iload_n 1, 1) := by decide +kernel
theorem dX1_sense_39 : decode cX1_sense 39 = .ok (.iconst 4, 1) := by decide +kernel
theorem dX1_sense_40 : decode cX1_sense 40 = .ok (.if_icmp .ne 9, 3) := by decide +kernel
theorem dX1_sense_43 : decode cX1_sense 43 = .ok (.sipush 600, 3) := by decide +kernel
theorem dX1_sense_46 : decode cX1_sense 46 = .ok (.goto 4, 3) := by decide +kernel
theorem dX1_sense_49 : decode cX1_sense 49 = .ok (.iconst 1, 1) := by decide +kernel
theorem dX1_sense_50 : decode cX1_sense 50 = .ok (.istore 4, 2) := by decide +kernel
theorem dX1_sense_52 : decode cX1_sense 52 = .ok (.aload_n 0, 1) := by decide +kernel
theorem dX1_sense_53 : decode cX1_sense 53 = .ok (.iload_n 1, 1) := by decide +kernel
theorem dX1_sense_54 : decode cX1_sense 54 = .ok (.ifCond .lt 24, 3) := by decide +kernel
theorem dX1_sense_57 : decode cX1_sense 57 = .ok (.iload_n 1, 1) := by decide +kernel
theorem dX1_sense_58 : decode cX1_sense 58 = .ok (.bipush 6, 2) := by decide +kernel
theorem dX1_sense_60 : decode cX1_sense 60 = .ok (.if_icmp .gt 18, 3) := by decide +kernel
theorem dX1_sense_63 : decode cX1_sense 63 = .ok (.iload_n 2, 1) := by decide +kernel
theorem dX1_sense_64 : decode cX1_sense 64 = .ok (.iload_n 3, 1) := by decide +kernel
theorem dX1_sense_65 : decode cX1_sense 65 = .ok (.if_icmp .lt 13, 3) := by decide +kernel
theorem dX1_sense_68 : decode cX1_sense 68 = .ok (.iload_n 2, 1) := by decide +kernel
theorem dX1_sense_69 : decode cX1_sense 69 = .ok (.iload 4, 2) := by decide +kernel
theorem dX1_sense_71 : decode cX1_sense 71 = .ok (.if_icmp .gt 7, 3) := by decide +kernel
theorem dX1_sense_74 : decode cX1_sense 74 = .ok (.iconst 1, 1) := by decide +kernel
theorem dX1_sense_75 : decode cX1_sense 75 = .ok (.goto 4, 3) := by decide +kernel
theorem dX1_sense_78 : decode cX1_sense 78 = .ok (.iconst 0, 1) := by decide +kernel
theorem dX1_sense_79 : decode cX1_sense 79 = .ok (.invokevirtual 105, 3) := by decide +kernel
theorem dX1_sense_82 : decode cX1_sense 82 = .ok (.ifCond .ne 5, 3) := by decide +kernel
theorem dX1_sense_85 : decode cX1_sense 85 = .ok (.iconst 0, 1) := by decide +kernel
theorem dX1_sense_86 : decode cX1_sense 86 = .ok (.ireturn, 1) := by decide +kernel
theorem dX1_sense_87 : decode cX1_sense 87 = .ok (.aload_n 0, 1) := by decide +kernel
theorem dX1_sense_88 : decode cX1_sense 88 = .ok (.getfield 7, 3) := by decide +kernel
theorem dX1_sense_91 : decode cX1_sense 91 = .ok (.iload_n 1, 1) := by decide +kernel
theorem dX1_sense_92 : decode cX1_sense 92 = .ok (.iload_n 2, 1) := by decide +kernel
theorem dX1_sense_93 : decode cX1_sense 93 = .ok (.iastore, 1) := by decide +kernel
theorem dX1_sense_94 : decode cX1_sense 94 = .ok (.aload_n 0, 1) := by decide +kernel
theorem dX1_sense_95 : decode cX1_sense 95 = .ok (.invokevirtual 115, 3) := by decide +kernel
theorem dX1_sense_98 : decode cX1_sense 98 = .ok (.ireturn, 1) := by decide +kernel
set_option maxRecDepth 20000 in
theorem ggX1_channel_X1_good : GoodIn wsX1_channel wsX1_good := goodIn_r _ [7, 8, 64, 65, 66, 67, 68, 69, 70, 71, 72, 73, 74, 75, 76, 77, 78] (by decide +kernel) (by decide +kernel)
set_option maxRecDepth 20000 in
theorem gX1_channel_X1_good : GoodIn wsX1_channel (wsV RX1 105 RX1 yX1_good wsX1_good) := goodIn_app (goodIn_of _ (by decide +kernel)) ggX1_channel_X1_good
set_option maxRecDepth 20000 in
theorem ggX1_channel_X1_settle : GoodIn wsX1_channel wsX1_settle := goodIn_r _ [12, 13, 14, 15, 6, 16, 17, 18, 19, 20, 21, 22, 23, 24, 25, 26, 1, 2, 27, 28, 29, 30, 31, 32, 33, 34, 35, 36, 37, 38, 39, 40, 41, 42, 43, 44, 45, 46, 47, 48, 49, 50, 51, 52, 53, 54, 55, 56, 57, 58, 59, 60, 61, 62, 63, 64, 65, 66, 67, 68, 69, 70, 71, 72, 73, 74, 75, 76, 77, 78] (by decide +kernel) (by decide +kernel)
set_option maxRecDepth 20000 in
theorem gX1_channel_X1_settle : GoodIn wsX1_channel (wsV RX1 115 RX1 yX1_settle wsX1_settle) := goodIn_app (goodIn_of _ (by decide +kernel)) ggX1_channel_X1_settle
theorem dX1_channel_0 : decode cX1_channel 0 = .ok (.aload_n 0, 1) := by decide +kernel
theorem dX1_channel_1 : decode cX1_channel 1 = .ok (.iload_n 1, 1) := by decide +kernel
theorem dX1_channel_2 : decode cX1_channel 2 = .ok (.ifCond .eq 8, 3) := by decide +kernel
theorem dX1_channel_5 : decode cX1_channel 5 = .ok (.iload_n 1, 1) := by decide +kernel
theorem dX1_channel_6 : decode cX1_channel 6 = .ok (.iconst 1, 1) := by decide +kernel
theorem dX1_channel_7 : decode cX1_channel 7 = .ok (.if_icmp .ne 7, 3) := by decide +kernel
theorem dX1_channel_10 : decode cX1_channel 10 = .ok (.iconst 1, 1) := by decide +kernel
theorem dX1_channel_11 : decode cX1_channel 11 = .ok (.goto 4, 3) := by decide +kernel
theorem dX1_channel_14 : decode cX1_channel 14 = .ok (.iconst 0, 1) := by decide +kernel
theorem dX1_channel_15 : decode cX1_channel 15 = .ok (.invokevirtual 105, 3) := by decide +kernel
theorem dX1_channel_18 : decode cX1_channel 18 = .ok (.ifCond .ne 5, 3) := by decide +kernel
theorem dX1_channel_21 : decode cX1_channel 21 = .ok (.iconst 0, 1) := by decide +kernel
theorem dX1_channel_22 : decode cX1_channel 22 = .ok (.ireturn, 1) := by decide +kernel
theorem dX1_channel_23 : decode cX1_channel 23 = .ok (.aload_n 0, 1) := by decide +kernel
theorem dX1_channel_24 : decode cX1_channel 24 = .ok (.iload_n 1, 1) := by decide +kernel
theorem dX1_channel_25 : decode cX1_channel 25 = .ok (.ifCond .ne 15, 3) := by decide +kernel
theorem dX1_channel_28 : decode cX1_channel 28 = .ok (.iload_n 2, 1) := by decide +kernel
theorem dX1_channel_29 : decode cX1_channel 29 = .ok (.ifCond .ne 7, 3) := by decide +kernel
theorem dX1_channel_32 : decode cX1_channel 32 = .ok (.iconst 1, 1) := by decide +kernel
theorem dX1_channel_33 : decode cX1_channel 33 = .ok (.goto 11, 3) := by decide +kernel
theorem dX1_channel_36 : decode cX1_channel 36 = .ok (.iconst 0, 1) := by decide +kernel
theorem dX1_channel_37 : decode cX1_channel 37 = .ok (.goto 7, 3) := by decide +kernel
theorem dX1_channel_40 : decode cX1_channel 40 = .ok (.aload_n 0, 1) := by decide +kernel
theorem dX1_channel_41 : decode cX1_channel 41 = .ok (.getfield 65, 3) := by decide +kernel
theorem dX1_channel_44 : decode cX1_channel 44 = .ok (.putfield 65, 3) := by decide +kernel
theorem dX1_channel_47 : decode cX1_channel 47 = .ok (.aload_n 0, 1) := by decide +kernel
theorem dX1_channel_48 : decode cX1_channel 48 = .ok (.iload_n 1, 1) := by decide +kernel
theorem dX1_channel_49 : decode cX1_channel 49 = .ok (.iconst 1, 1) := by decide +kernel
theorem dX1_channel_50 : decode cX1_channel 50 = .ok (.if_icmp .ne 15, 3) := by decide +kernel
theorem dX1_channel_53 : decode cX1_channel 53 = .ok (.iload_n 2, 1) := by decide +kernel
theorem dX1_channel_54 : decode cX1_channel 54 = .ok (.ifCond .ne 7, 3) := by decide +kernel
theorem dX1_channel_57 : decode cX1_channel 57 = .ok (.iconst 1, 1) := by decide +kernel
theorem dX1_channel_58 : decode cX1_channel 58 = .ok (.goto 11, 3) := by decide +kernel
theorem dX1_channel_61 : decode cX1_channel 61 = .ok (.iconst 0, 1) := by decide +kernel
theorem dX1_channel_62 : decode cX1_channel 62 = .ok (.goto 7, 3) := by decide +kernel
theorem dX1_channel_65 : decode cX1_channel 65 = .ok (.aload_n 0, 1) := by decide +kernel
theorem dX1_channel_66 : decode cX1_channel 66 = .ok (.getfield 68, 3) := by decide +kernel
theorem dX1_channel_69 : decode cX1_channel 69 = .ok (.putfield 68, 3) := by decide +kernel
theorem dX1_channel_72 : decode cX1_channel 72 = .ok (.aload_n 0, 1) := by decide +kernel
theorem dX1_channel_73 : decode cX1_channel 73 = .ok (.invokevirtual 115, 3) := by decide +kernel
theorem dX1_channel_76 : decode cX1_channel 76 = .ok (.ireturn, 1) := by decide +kernel
set_option maxRecDepth 20000 in
theorem ggX1_engage_X1_base : GoodIn wsX1_engage wsX1_base := goodIn_r _ [12, 13, 14, 15, 11, 16, 17, 18, 19, 20, 21, 22, 5, 23, 24, 25, 26, 27, 28, 29, 30, 31, 32, 33, 6, 34, 64, 65, 66, 67, 68, 69, 70, 71, 72, 73, 74, 75, 76, 77, 78] (by decide +kernel) (by decide +kernel)
set_option maxRecDepth 20000 in
theorem gX1_engage_X1_base : GoodIn wsX1_engage (wsV RX1 102 RX1 yX1_base wsX1_base) := goodIn_app (goodIn_of _ (by decide +kernel)) ggX1_engage_X1_base
set_option maxRecDepth 20000 in
theorem ggX1_engage_X1_settle : GoodIn wsX1_engage wsX1_settle := goodIn_r _ [38, 39, 40, 41, 11, 42, 7, 5, 43, 6, 17, 18, 44, 45, 46, 47, 3, 4, 48, 49, 50, 51, 52, 53, 54, 55, 56, 57, 58, 59, 60, 61, 62, 63, 2, 23, 34, 13, 14, 15, 16, 19, 20, 21, 22, 24, 25, 26, 27, 28, 29, 30, 31, 32, 33, 64, 65, 66, 67, 68, 69, 70, 71, 72, 73, 74, 75, 76, 77, 78] (by decide +kernel) (by decide +kernel)
set_option maxRecDepth 20000 in
theorem gX1_engage_X1_settle : GoodIn wsX1_engage (wsV RX1 115 RX1 yX1_settle wsX1_settle) := goodIn_app (goodIn_of _ (by decide +kernel)) ggX1_engage_X1_settle
theorem dX1_engage_0 : decode cX1_engage 0 = .ok (.aload_n 0, 1) := by decide +kernel
theorem dX1_engage_1 : decode cX1_engage 1 = .ok (.iconst 0, 1) := by decide +kernel
theorem dX1_engage_2 : decode cX1_engage 2 = .ok (.putfield 20, 3) := by decide +kernel
theorem dX1_engage_5 : decode cX1_engage 5 = .ok (.aload_n 0, 1) := by decide +kernel
theorem dX1_engage_6 : decode cX1_engage 6 = .ok (.getfield 62, 3) := by decide +kernel
theorem dX1_engage_9 : decode cX1_engage 9 = .ok (.ifCond .ne 46, 3) := by decide +kernel
theorem dX1_engage_12 : decode cX1_engage 12 = .ok (.aload_n 0, 1) := by decide +kernel
theorem dX1_engage_13 : decode cX1_engage 13 = .ok (.getfield 65, 3) := by decide +kernel
theorem dX1_engage_16 : decode cX1_engage 16 = .ok (.ifCond .eq 10, 3) := by decide +kernel
theorem dX1_engage_19 : decode cX1_engage 19 = .ok (.aload_n 0, 1) := by decide +kernel
theorem dX1_engage_20 : decode cX1_engage 20 = .ok (.getfield 68, 3) := by decide +kernel
theorem dX1_engage_23 : decode cX1_engage 23 = .ok (.ifCond .ne 32, 3) := by decide +kernel
theorem dX1_engage_26 : decode cX1_engage 26 = .ok (.aload_n 0, 1) := by decide +kernel
theorem dX1_engage_27 : decode cX1_engage 27 = .ok (.getfield 26, 3) := by decide +kernel
theorem dX1_engage_30 : decode cX1_engage 30 = .ok (.iconst 5, 1) := by decide +kernel
theorem dX1_engage_31 : decode cX1_engage 31 = .ok (.if_icmp .eq 24, 3) := by decide +kernel
theorem dX1_engage_34 : decode cX1_engage 34 = .ok (.aload_n 0, 1) := by decide +kernel
theorem dX1_engage_35 : decode cX1_engage 35 = .ok (.getfield 36, 3) := by decide +kernel
theorem dX1_engage_38 : decode cX1_engage 38 = .ok (.bipush 7, 2) := by decide +kernel
theorem dX1_engage_40 : decode cX1_engage 40 = .ok (.if_icmp .eq 15, 3) := by decide +kernel
theorem dX1_engage_43 : decode cX1_engage 43 = .ok (.aload_n 0, 1) := by decide +kernel
theorem dX1_engage_44 : decode cX1_engage 44 = .ok (.getfield 7, 3) := by decide +kernel
theorem dX1_engage_47 : decode cX1_engage 47 = .ok (.iconst 4, 1) := by decide +kernel
theorem dX1_engage_48 : decode cX1_engage 48 = .ok (.iaload, 1) := by decide +kernel
theorem dX1_engage_49 : decode cX1_engage 49 = .ok (.sipush 400, 3) := by decide +kernel
theorem dX1_engage_52 : decode cX1_engage 52 = .ok (.if_icmp .le 5, 3) := by decide +kernel
theorem dX1_engage_55 : decode cX1_engage 55 = .ok (.iconst 0, 1) := by decide +kernel
theorem dX1_engage_56 : decode cX1_engage 56 = .ok (.ireturn, 1) := by decide +kernel
theorem dX1_engage_57 : decode cX1_engage 57 = .ok (.aload_n 0, 1) := by decide +kernel
theorem dX1_engage_58 : decode cX1_engage 58 = .ok (.getfield 26, 3) := by decide +kernel
theorem dX1_engage_61 : decode cX1_engage 61 = .ok (.ifCond .ne 8, 3) := by decide +kernel
theorem dX1_engage_64 : decode cX1_engage 64 = .ok (.aload_n 0, 1) := by decide +kernel
theorem dX1_engage_65 : decode cX1_engage 65 = .ok (.iconst 0, 1) := by decide +kernel
theorem dX1_engage_66 : decode cX1_engage 66 = .ok (.invokevirtual 102, 3) := by decide +kernel
theorem dX1_engage_69 : decode cX1_engage 69 = .ok (.aload_n 0, 1) := by decide +kernel
theorem dX1_engage_70 : decode cX1_engage 70 = .ok (.iconst 1, 1) := by decide +kernel
theorem dX1_engage_71 : decode cX1_engage 71 = .ok (.putfield 62, 3) := by decide +kernel
theorem dX1_engage_74 : decode cX1_engage 74 = .ok (.aload_n 0, 1) := by decide +kernel
theorem dX1_engage_75 : decode cX1_engage 75 = .ok (.invokevirtual 115, 3) := by decide +kernel
theorem dX1_engage_78 : decode cX1_engage 78 = .ok (.istore_n 1, 1) := by decide +kernel
theorem dX1_engage_79 : decode cX1_engage 79 = .ok (.iconst 1, 1) := by decide +kernel
theorem dX1_engage_80 : decode cX1_engage 80 = .ok (.ireturn, 1) := by decide +kernel
theorem dX1_disconnect_0 : decode cX1_disconnect 0 = .ok (.aload_n 0, 1) := by decide +kernel
theorem dX1_disconnect_1 : decode cX1_disconnect 1 = .ok (.iconst 0, 1) := by decide +kernel
theorem dX1_disconnect_2 : decode cX1_disconnect 2 = .ok (.putfield 20, 3) := by decide +kernel
theorem dX1_disconnect_5 : decode cX1_disconnect 5 = .ok (.aload_n 0, 1) := by decide +kernel
theorem dX1_disconnect_6 : decode cX1_disconnect 6 = .ok (.getfield 62, 3) := by decide +kernel
theorem dX1_disconnect_9 : decode cX1_disconnect 9 = .ok (.ifCond .eq 7, 3) := by decide +kernel
theorem dX1_disconnect_12 : decode cX1_disconnect 12 = .ok (.iconst 2, 1) := by decide +kernel
theorem dX1_disconnect_13 : decode cX1_disconnect 13 = .ok (.goto 15, 3) := by decide +kernel
theorem dX1_disconnect_16 : decode cX1_disconnect 16 = .ok (.aload_n 0, 1) := by decide +kernel
theorem dX1_disconnect_17 : decode cX1_disconnect 17 = .ok (.getfield 59, 3) := by decide +kernel
theorem dX1_disconnect_20 : decode cX1_disconnect 20 = .ok (.ifCond .eq 7, 3) := by decide +kernel
theorem dX1_disconnect_23 : decode cX1_disconnect 23 = .ok (.iconst 1, 1) := by decide +kernel
theorem dX1_disconnect_24 : decode cX1_disconnect 24 = .ok (.goto 4, 3) := by decide +kernel
theorem dX1_disconnect_27 : decode cX1_disconnect 27 = .ok (.iconst 0, 1) := by decide +kernel
theorem dX1_disconnect_28 : decode cX1_disconnect 28 = .ok (.istore_n 1, 1) := by decide +kernel
theorem dX1_disconnect_29 : decode cX1_disconnect 29 = .ok (.aload_n 0, 1) := by decide +kernel
theorem dX1_disconnect_30 : decode cX1_disconnect 30 = .ok (.aload_n 0, 1) := by decide +kernel
theorem dX1_disconnect_31 : decode cX1_disconnect 31 = .ok (.getfield 62, 3) := by decide +kernel
theorem dX1_disconnect_34 : decode cX1_disconnect 34 = .ok (.putfield 59, 3) := by decide +kernel
theorem dX1_disconnect_37 : decode cX1_disconnect 37 = .ok (.aload_n 0, 1) := by decide +kernel
theorem dX1_disconnect_38 : decode cX1_disconnect 38 = .ok (.iconst 0, 1) := by decide +kernel
theorem dX1_disconnect_39 : decode cX1_disconnect 39 = .ok (.putfield 62, 3) := by decide +kernel
theorem dX1_disconnect_42 : decode cX1_disconnect 42 = .ok (.iload_n 1, 1) := by decide +kernel
theorem dX1_disconnect_43 : decode cX1_disconnect 43 = .ok (.ireturn, 1) := by decide +kernel
set_option maxRecDepth 20000 in
theorem ggX1_step_X1_good : GoodIn wsX1_step wsX1_good := goodIn_r _ [7, 8, 9, 10, 11, 12, 13, 14, 15, 16, 17, 18, 19, 20, 21, 22, 23] (by decide +kernel) (by decide +kernel)
set_option maxRecDepth 20000 in
theorem gX1_step_X1_good : GoodIn wsX1_step (wsV RX1 105 RX1 yX1_good wsX1_good) := goodIn_app (goodIn_of _ (by decide +kernel)) ggX1_step_X1_good
theorem dX1_step_0 : decode cX1_step 0 = .ok (.aload_n 0, 1) := by decide +kernel
theorem dX1_step_1 : decode cX1_step 1 = .ok (.iload_n 1, 1) := by decide +kernel
theorem dX1_step_2 : decode cX1_step 2 = .ok (.iconst 1, 1) := by decide +kernel
theorem dX1_step_3 : decode cX1_step 3 = .ok (.if_icmp .lt 7, 3) := by decide +kernel
theorem dX1_step_6 : decode cX1_step 6 = .ok (.iconst 1, 1) := by decide +kernel
theorem dX1_step_7 : decode cX1_step 7 = .ok (.goto 4, 3) := by decide +kernel
theorem dX1_step_10 : decode cX1_step 10 = .ok (.iconst 0, 1) := by decide +kernel
theorem dX1_step_11 : decode cX1_step 11 = .ok (.invokevirtual 105, 3) := by decide +kernel
theorem dX1_step_14 : decode cX1_step 14 = .ok (.ifCond .ne 5, 3) := by decide +kernel
theorem dX1_step_17 : decode cX1_step 17 = .ok (.iconst 0, 1) := by decide +kernel
theorem dX1_step_18 : decode cX1_step 18 = .ok (.ireturn, 1) := by decide +kernel
theorem dX1_step_19 : decode cX1_step 19 = .ok (.iload_n 1, 1) := by decide +kernel
theorem dX1_step_20 : decode cX1_step 20 = .ok (.bipush 10, 2) := by decide +kernel
theorem dX1_step_22 : decode cX1_step 22 = .ok (.if_icmp .le 8, 3) := by decide +kernel
theorem dX1_step_25 : decode cX1_step 25 = .ok (.bipush 10, 2) := by decide +kernel
theorem dX1_step_27 : decode cX1_step 27 = .ok (.goto 4, 3) := by decide +kernel
theorem dX1_step_30 : decode cX1_step 30 = .ok (.iload_n 1, 1) := by decide +kernel
theorem dX1_step_31 : decode cX1_step 31 = .ok (.istore_n 2, 1) := by decide +kernel
theorem dX1_step_32 : decode cX1_step 32 = .ok (.aload_n 0, 1) := by decide +kernel
theorem dX1_step_33 : decode cX1_step 33 = .ok (.aload_n 0, 1) := by decide +kernel
theorem dX1_step_34 : decode cX1_step 34 = .ok (.getfield 33, 3) := by decide +kernel
theorem dX1_step_37 : decode cX1_step 37 = .ok (.iload_n 2, 1) := by decide +kernel
theorem dX1_step_38 : decode cX1_step 38 = .ok (.if_icmp .le 12, 3) := by decide +kernel
theorem dX1_step_41 : decode cX1_step 41 = .ok (.aload_n 0, 1) := by decide +kernel
theorem dX1_step_42 : decode cX1_step 42 = .ok (.getfield 33, 3) := by decide +kernel
theorem dX1_step_45 : decode cX1_step 45 = .ok (.iload_n 2, 1) := by decide +kernel
theorem dX1_step_46 : decode cX1_step 46 = .ok (.isub, 1) := by decide +kernel
theorem dX1_step_47 : decode cX1_step 47 = .ok (.goto 4, 3) := by decide +kernel
theorem dX1_step_50 : decode cX1_step 50 = .ok (.iconst 0, 1) := by decide +kernel
theorem dX1_step_51 : decode cX1_step 51 = .ok (.putfield 33, 3) := by decide +kernel
theorem dX1_step_54 : decode cX1_step 54 = .ok (.aload_n 0, 1) := by decide +kernel
theorem dX1_step_55 : decode cX1_step 55 = .ok (.aload_n 0, 1) := by decide +kernel
theorem dX1_step_56 : decode cX1_step 56 = .ok (.getfield 39, 3) := by decide +kernel
theorem dX1_step_59 : decode cX1_step 59 = .ok (.iload_n 2, 1) := by decide +kernel
theorem dX1_step_60 : decode cX1_step 60 = .ok (.if_icmp .le 12, 3) := by decide +kernel
theorem dX1_step_63 : decode cX1_step 63 = .ok (.aload_n 0, 1) := by decide +kernel
theorem dX1_step_64 : decode cX1_step 64 = .ok (.getfield 39, 3) := by decide +kernel
theorem dX1_step_67 : decode cX1_step 67 = .ok (.iload_n 2, 1) := by decide +kernel
theorem dX1_step_68 : decode cX1_step 68 = .ok (.isub, 1) := by decide +kernel
theorem dX1_step_69 : decode cX1_step 69 = .ok (.goto 4, 3) := by decide +kernel
theorem dX1_step_72 : decode cX1_step 72 = .ok (.iconst 0, 1) := by decide +kernel
theorem dX1_step_73 : decode cX1_step 73 = .ok (.putfield 39, 3) := by decide +kernel
theorem dX1_step_76 : decode cX1_step 76 = .ok (.aload_n 0, 1) := by decide +kernel
theorem dX1_step_77 : decode cX1_step 77 = .ok (.getfield 33, 3) := by decide +kernel
theorem dX1_step_80 : decode cX1_step 80 = .ok (.ifCond .le 7, 3) := by decide +kernel
theorem dX1_step_83 : decode cX1_step 83 = .ok (.iconst 1, 1) := by decide +kernel
theorem dX1_step_84 : decode cX1_step 84 = .ok (.goto 4, 3) := by decide +kernel
theorem dX1_step_87 : decode cX1_step 87 = .ok (.iconst 0, 1) := by decide +kernel
theorem dX1_step_88 : decode cX1_step 88 = .ok (.aload_n 0, 1) := by decide +kernel
theorem dX1_step_89 : decode cX1_step 89 = .ok (.getfield 39, 3) := by decide +kernel
theorem dX1_step_92 : decode cX1_step 92 = .ok (.ifCond .le 7, 3) := by decide +kernel
theorem dX1_step_95 : decode cX1_step 95 = .ok (.iconst 1, 1) := by decide +kernel
theorem dX1_step_96 : decode cX1_step 96 = .ok (.goto 4, 3) := by decide +kernel
theorem dX1_step_99 : decode cX1_step 99 = .ok (.iconst 0, 1) := by decide +kernel
theorem dX1_step_100 : decode cX1_step 100 = .ok (.iadd, 1) := by decide +kernel
theorem dX1_step_101 : decode cX1_step 101 = .ok (.ireturn, 1) := by decide +kernel
set_option maxRecDepth 20000 in
theorem ggX1_mode_X1_good : GoodIn wsX1_mode wsX1_good := goodIn_r _ [7, 8, 9, 10, 11, 12, 13, 14, 15, 16, 17, 18, 19, 20, 21, 22, 23] (by decide +kernel) (by decide +kernel)
set_option maxRecDepth 20000 in
theorem gX1_mode_X1_good : GoodIn wsX1_mode (wsV RX1 105 RX1 yX1_good wsX1_good) := goodIn_app (goodIn_of _ (by decide +kernel)) ggX1_mode_X1_good
theorem dX1_mode_0 : decode cX1_mode 0 = .ok (.aload_n 0, 1) := by decide +kernel
theorem dX1_mode_1 : decode cX1_mode 1 = .ok (.iload_n 1, 1) := by decide +kernel
theorem dX1_mode_2 : decode cX1_mode 2 = .ok (.ifCond .eq 8, 3) := by decide +kernel
theorem dX1_mode_5 : decode cX1_mode 5 = .ok (.iload_n 1, 1) := by decide +kernel
theorem dX1_mode_6 : decode cX1_mode 6 = .ok (.iconst 1, 1) := by decide +kernel
theorem dX1_mode_7 : decode cX1_mode 7 = .ok (.if_icmp .ne 7, 3) := by decide +kernel
theorem dX1_mode_10 : decode cX1_mode 10 = .ok (.iconst 1, 1) := by decide +kernel
theorem dX1_mode_11 : decode cX1_mode 11 = .ok (.goto 4, 3) := by decide +kernel
theorem dX1_mode_14 : decode cX1_mode 14 = .ok (.iconst 0, 1) := by decide +kernel
theorem dX1_mode_15 : decode cX1_mode 15 = .ok (.invokevirtual 105, 3) := by decide +kernel
theorem dX1_mode_18 : decode cX1_mode 18 = .ok (.ifCond .ne 7, 3) := by decide +kernel
theorem dX1_mode_21 : decode cX1_mode 21 = .ok (.iconst 0, 1) := by decide +kernel
theorem dX1_mode_22 : decode cX1_mode 22 = .ok (.goto 18, 3) := by decide +kernel
theorem dX1_mode_25 : decode cX1_mode 25 = .ok (.iload_n 1, 1) := by decide +kernel
theorem dX1_mode_26 : decode cX1_mode 26 = .ok (.ifCond .ne 10, 3) := by decide +kernel
theorem dX1_mode_29 : decode cX1_mode 29 = .ok (.aload_n 0, 1) := by decide +kernel
theorem dX1_mode_30 : decode cX1_mode 30 = .ok (.getfield 26, 3) := by decide +kernel
theorem dX1_mode_33 : decode cX1_mode 33 = .ok (.goto 7, 3) := by decide +kernel
theorem dX1_mode_36 : decode cX1_mode 36 = .ok (.aload_n 0, 1) := by decide +kernel
theorem dX1_mode_37 : decode cX1_mode 37 = .ok (.getfield 36, 3) := by decide +kernel
theorem dX1_mode_40 : decode cX1_mode 40 = .ok (.ireturn, 1) := by decide +kernel
set_option maxRecDepth 20000 in
theorem ggX1_armed_X1_good : GoodIn wsX1_armed wsX1_good := goodIn_r _ [8, 9, 10, 11, 12, 13, 14, 15, 16, 17, 18, 19, 20, 21, 22, 23, 24] (by decide +kernel) (by decide +kernel)
set_option maxRecDepth 20000 in
theorem gX1_armed_X1_good : GoodIn wsX1_armed (wsV RX1 105 RX1 yX1_good wsX1_good) := goodIn_app (goodIn_of _ (by decide +kernel)) ggX1_armed_X1_good
theorem dX1_armed_0 : decode cX1_armed 0 = .ok (.aload_n 0, 1) := by decide +kernel
theorem dX1_armed_1 : decode cX1_armed 1 = .ok (.iload_n 1, 1) := by decide +kernel
theorem dX1_armed_2 : decode cX1_armed 2 = .ok (.ifCond .lt 12, 3) := by decide +kernel
theorem dX1_armed_5 : decode cX1_armed 5 = .ok (.iload_n 1, 1) := by decide +kernel
theorem dX1_armed_6 : decode cX1_armed 6 = .ok (.iconst 3, 1) := by decide +kernel
theorem dX1_armed_7 : decode cX1_armed 7 = .ok (.if_icmp .gt 7, 3) := by decide +kernel
theorem dX1_armed_10 : decode cX1_armed 10 = .ok (.iconst 1, 1) := by decide +kernel
theorem dX1_armed_11 : decode cX1_armed 11 = .ok (.goto 4, 3) := by decide +kernel
theorem dX1_armed_14 : decode cX1_armed 14 = .ok (.iconst 0, 1) := by decide +kernel
theorem dX1_armed_15 : decode cX1_armed 15 = .ok (.invokevirtual 105, 3) := by decide +kernel
theorem dX1_armed_18 : decode cX1_armed 18 = .ok (.ifCond .ne 5, 3) := by decide +kernel
theorem dX1_armed_21 : decode cX1_armed 21 = .ok (.iconst 0, 1) := by decide +kernel
theorem dX1_armed_22 : decode cX1_armed 22 = .ok (.ireturn, 1) := by decide +kernel
theorem dX1_armed_23 : decode cX1_armed 23 = .ok (.iload_n 1, 1) := by decide +kernel
theorem dX1_armed_24 : decode cX1_armed 24 = .ok (.ifCond .ne 19, 3) := by decide +kernel
theorem dX1_armed_27 : decode cX1_armed 27 = .ok (.aload_n 0, 1) := by decide +kernel
theorem dX1_armed_28 : decode cX1_armed 28 = .ok (.getfield 42, 3) := by decide +kernel
theorem dX1_armed_31 : decode cX1_armed 31 = .ok (.iconst 1, 1) := by decide +kernel
theorem dX1_armed_32 : decode cX1_armed 32 = .ok (.if_icmp .ne 7, 3) := by decide +kernel
theorem dX1_armed_35 : decode cX1_armed 35 = .ok (.iconst 1, 1) := by decide +kernel
theorem dX1_armed_36 : decode cX1_armed 36 = .ok (.goto 60, 3) := by decide +kernel
theorem dX1_armed_39 : decode cX1_armed 39 = .ok (.iconst 0, 1) := by decide +kernel
theorem dX1_armed_40 : decode cX1_armed 40 = .ok (.goto 56, 3) := by decide +kernel
theorem dX1_armed_43 : decode cX1_armed 43 = .ok (.iload_n 1, 1) := by decide +kernel
theorem dX1_armed_44 : decode cX1_armed 44 = .ok (.iconst 1, 1) := by decide +kernel
theorem dX1_armed_45 : decode cX1_armed 45 = .ok (.if_icmp .ne 19, 3) := by decide +kernel
theorem dX1_armed_48 : decode cX1_armed 48 = .ok (.aload_n 0, 1) := by decide +kernel
theorem dX1_armed_49 : decode cX1_armed 49 = .ok (.getfield 42, 3) := by decide +kernel
theorem dX1_armed_52 : decode cX1_armed 52 = .ok (.iconst 2, 1) := by decide +kernel
theorem dX1_armed_53 : decode cX1_armed 53 = .ok (.if_icmp .ne 7, 3) := by decide +kernel
theorem dX1_armed_56 : decode cX1_armed 56 = .ok (.iconst 1, 1) := by decide +kernel
theorem dX1_armed_57 : decode cX1_armed 57 = .ok (.goto 39, 3) := by decide +kernel
theorem dX1_armed_60 : decode cX1_armed 60 = .ok (.iconst 0, 1) := by decide +kernel
theorem dX1_armed_61 : decode cX1_armed 61 = .ok (.goto 35, 3) := by decide +kernel
theorem dX1_armed_64 : decode cX1_armed 64 = .ok (.iload_n 1, 1) := by decide +kernel
theorem dX1_armed_65 : decode cX1_armed 65 = .ok (.iconst 2, 1) := by decide +kernel
theorem dX1_armed_66 : decode cX1_armed 66 = .ok (.if_icmp .ne 10, 3) := by decide +kernel
theorem dX1_armed_69 : decode cX1_armed 69 = .ok (.aload_n 0, 1) := by decide +kernel
theorem dX1_armed_70 : decode cX1_armed 70 = .ok (.getfield 45, 3) := by decide +kernel
theorem dX1_armed_73 : decode cX1_armed 73 = .ok (.goto 23, 3) := by decide +kernel
theorem dX1_armed_76 : decode cX1_armed 76 = .ok (.aload_n 0, 1) := by decide +kernel
theorem dX1_armed_77 : decode cX1_armed 77 = .ok (.getfield 36, 3) := by decide +kernel
theorem dX1_armed_80 : decode cX1_armed 80 = .ok (.ifCond .le 15, 3) := by decide +kernel
theorem dX1_armed_83 : decode cX1_armed 83 = .ok (.aload_n 0, 1) := by decide +kernel
theorem dX1_armed_84 : decode cX1_armed 84 = .ok (.getfield 36, 3) := by decide +kernel
theorem dX1_armed_87 : decode cX1_armed 87 = .ok (.iconst 4, 1) := by decide +kernel
theorem dX1_armed_88 : decode cX1_armed 88 = .ok (.if_icmp .ge 7, 3) := by decide +kernel
theorem dX1_armed_91 : decode cX1_armed 91 = .ok (.iconst 1, 1) := by decide +kernel
theorem dX1_armed_92 : decode cX1_armed 92 = .ok (.goto 4, 3) := by decide +kernel
theorem dX1_armed_95 : decode cX1_armed 95 = .ok (.iconst 0, 1) := by decide +kernel
theorem dX1_armed_96 : decode cX1_armed 96 = .ok (.ireturn, 1) := by decide +kernel
theorem dX1_shown_0 : decode cX1_shown 0 = .ok (.aload_n 0, 1) := by decide +kernel
theorem dX1_shown_1 : decode cX1_shown 1 = .ok (.iconst 0, 1) := by decide +kernel
theorem dX1_shown_2 : decode cX1_shown 2 = .ok (.putfield 20, 3) := by decide +kernel
theorem dX1_shown_5 : decode cX1_shown 5 = .ok (.aload_n 0, 1) := by decide +kernel
theorem dX1_shown_6 : decode cX1_shown 6 = .ok (.getfield 26, 3) := by decide +kernel
theorem dX1_shown_9 : decode cX1_shown 9 = .ok (.ifCond .le 7, 3) := by decide +kernel
theorem dX1_shown_12 : decode cX1_shown 12 = .ok (.iconst 1, 1) := by decide +kernel
theorem dX1_shown_13 : decode cX1_shown 13 = .ok (.goto 4, 3) := by decide +kernel
theorem dX1_shown_16 : decode cX1_shown 16 = .ok (.iconst 0, 1) := by decide +kernel
theorem dX1_shown_17 : decode cX1_shown 17 = .ok (.istore_n 1, 1) := by decide +kernel
theorem dX1_shown_18 : decode cX1_shown 18 = .ok (.aload_n 0, 1) := by decide +kernel
theorem dX1_shown_19 : decode cX1_shown 19 = .ok (.getfield 62, 3) := by decide +kernel
theorem dX1_shown_22 : decode cX1_shown 22 = .ok (.ifCond .eq 9, 3) := by decide +kernel
theorem dX1_shown_25 : decode cX1_shown 25 = .ok (.iload_n 1, 1) := by decide +kernel
theorem dX1_shown_26 : decode cX1_shown 26 = .ok (.iconst 2, 1) := by decide +kernel
theorem dX1_shown_27 : decode cX1_shown 27 = .ok (.iadd, 1) := by decide +kernel
theorem dX1_shown_28 : decode cX1_shown 28 = .ok (.goto 4, 3) := by decide +kernel
theorem dX1_shown_31 : decode cX1_shown 31 = .ok (.iload_n 1, 1) := by decide +kernel
theorem dX1_shown_32 : decode cX1_shown 32 = .ok (.istore_n 1, 1) := by decide +kernel
theorem dX1_shown_33 : decode cX1_shown 33 = .ok (.aload_n 0, 1) := by decide +kernel
theorem dX1_shown_34 : decode cX1_shown 34 = .ok (.getfield 59, 3) := by decide +kernel
theorem dX1_shown_37 : decode cX1_shown 37 = .ok (.ifCond .eq 9, 3) := by decide +kernel
theorem dX1_shown_40 : decode cX1_shown 40 = .ok (.iload_n 1, 1) := by decide +kernel
theorem dX1_shown_41 : decode cX1_shown 41 = .ok (.iconst 4, 1) := by decide +kernel
theorem dX1_shown_42 : decode cX1_shown 42 = .ok (.iadd, 1) := by decide +kernel
theorem dX1_shown_43 : decode cX1_shown 43 = .ok (.goto 4, 3) := by decide +kernel
theorem dX1_shown_46 : decode cX1_shown 46 = .ok (.iload_n 1, 1) := by decide +kernel
theorem dX1_shown_47 : decode cX1_shown 47 = .ok (.istore_n 1, 1) := by decide +kernel
theorem dX1_shown_48 : decode cX1_shown 48 = .ok (.aload_n 0, 1) := by decide +kernel
theorem dX1_shown_49 : decode cX1_shown 49 = .ok (.getfield 33, 3) := by decide +kernel
theorem dX1_shown_52 : decode cX1_shown 52 = .ok (.ifCond .le 10, 3) := by decide +kernel
theorem dX1_shown_55 : decode cX1_shown 55 = .ok (.iload_n 1, 1) := by decide +kernel
theorem dX1_shown_56 : decode cX1_shown 56 = .ok (.bipush 8, 2) := by decide +kernel
theorem dX1_shown_58 : decode cX1_shown 58 = .ok (.iadd, 1) := by decide +kernel
theorem dX1_shown_59 : decode cX1_shown 59 = .ok (.goto 4, 3) := by decide +kernel
theorem dX1_shown_62 : decode cX1_shown 62 = .ok (.iload_n 1, 1) := by decide +kernel
theorem dX1_shown_63 : decode cX1_shown 63 = .ok (.istore_n 1, 1) := by decide +kernel
theorem dX1_shown_64 : decode cX1_shown 64 = .ok (.aload_n 0, 1) := by decide +kernel
theorem dX1_shown_65 : decode cX1_shown 65 = .ok (.getfield 39, 3) := by decide +kernel
theorem dX1_shown_68 : decode cX1_shown 68 = .ok (.ifCond .le 10, 3) := by decide +kernel
theorem dX1_shown_71 : decode cX1_shown 71 = .ok (.iload_n 1, 1) := by decide +kernel
theorem dX1_shown_72 : decode cX1_shown 72 = .ok (.bipush 16, 2) := by decide +kernel
theorem dX1_shown_74 : decode cX1_shown 74 = .ok (.iadd, 1) := by decide +kernel
theorem dX1_shown_75 : decode cX1_shown 75 = .ok (.goto 4, 3) := by decide +kernel
theorem dX1_shown_78 : decode cX1_shown 78 = .ok (.iload_n 1, 1) := by decide +kernel
theorem dX1_shown_79 : decode cX1_shown 79 = .ok (.istore_n 1, 1) := by decide +kernel
theorem dX1_shown_80 : decode cX1_shown 80 = .ok (.iload_n 1, 1) := by decide +kernel
theorem dX1_shown_81 : decode cX1_shown 81 = .ok (.bipush 32, 2) := by decide +kernel
theorem dX1_shown_83 : decode cX1_shown 83 = .ok (.aload_n 0, 1) := by decide +kernel
theorem dX1_shown_84 : decode cX1_shown 84 = .ok (.getfield 16, 3) := by decide +kernel
theorem dX1_shown_87 : decode cX1_shown 87 = .ok (.imul, 1) := by decide +kernel
theorem dX1_shown_88 : decode cX1_shown 88 = .ok (.iadd, 1) := by decide +kernel
theorem dX1_shown_89 : decode cX1_shown 89 = .ok (.ireturn, 1) := by decide +kernel
theorem dX1_kept_0 : decode cX1_kept 0 = .ok (.aload_n 0, 1) := by decide +kernel
theorem dX1_kept_1 : decode cX1_kept 1 = .ok (.iconst 0, 1) := by decide +kernel
theorem dX1_kept_2 : decode cX1_kept 2 = .ok (.putfield 20, 3) := by decide +kernel
theorem dX1_kept_5 : decode cX1_kept 5 = .ok (.iload_n 1, 1) := by decide +kernel
theorem dX1_kept_6 : decode cX1_kept 6 = .ok (.ifCond .lt 27, 3) := by decide +kernel
theorem dX1_kept_9 : decode cX1_kept 9 = .ok (.iload_n 1, 1) := by decide +kernel
theorem dX1_kept_10 : decode cX1_kept 10 = .ok (.aload_n 0, 1) := by decide +kernel
theorem dX1_kept_11 : decode cX1_kept 11 = .ok (.getfield 23, 3) := by decide +kernel
theorem dX1_kept_14 : decode cX1_kept 14 = .ok (.if_icmp .ge 19, 3) := by decide +kernel
theorem dX1_kept_17 : decode cX1_kept 17 = .ok (.iload_n 1, 1) := by decide +kernel
theorem dX1_kept_18 : decode cX1_kept 18 = .ok (.sipush 299, 3) := by decide +kernel
theorem dX1_kept_21 : decode cX1_kept 21 = .ok (.if_icmp .gt 12, 3) := by decide +kernel
theorem dX1_kept_24 : decode cX1_kept 24 = .ok (.iload_n 2, 1) := by decide +kernel
theorem dX1_kept_25 : decode cX1_kept 25 = .ok (.ifCond .lt 8, 3) := by decide +kernel
theorem dX1_kept_28 : decode cX1_kept 28 = .ok (.iload_n 2, 1) := by decide +kernel
theorem dX1_kept_29 : decode cX1_kept 29 = .ok (.iconst 3, 1) := by decide +kernel
theorem dX1_kept_30 : decode cX1_kept 30 = .ok (.if_icmp .le 7, 3) := by decide +kernel
theorem dX1_kept_33 : decode cX1_kept 33 = .ok (.iconst (-1), 1) := by decide +kernel
theorem dX1_kept_34 : decode cX1_kept 34 = .ok (.goto 13, 3) := by decide +kernel
theorem dX1_kept_37 : decode cX1_kept 37 = .ok (.aload_n 0, 1) := by decide +kernel
theorem dX1_kept_38 : decode cX1_kept 38 = .ok (.getfield 13, 3) := by decide +kernel
theorem dX1_kept_41 : decode cX1_kept 41 = .ok (.iconst 4, 1) := by decide +kernel
theorem dX1_kept_42 : decode cX1_kept 42 = .ok (.iload_n 1, 1) := by decide +kernel
theorem dX1_kept_43 : decode cX1_kept 43 = .ok (.imul, 1) := by decide +kernel
theorem dX1_kept_44 : decode cX1_kept 44 = .ok (.iload_n 2, 1) := by decide +kernel
theorem dX1_kept_45 : decode cX1_kept 45 = .ok (.iadd, 1) := by decide +kernel
theorem dX1_kept_46 : decode cX1_kept 46 = .ok (.iaload, 1) := by decide +kernel
theorem dX1_kept_47 : decode cX1_kept 47 = .ok (.ireturn, 1) := by decide +kernel
set_option maxRecDepth 20000 in
theorem ggX1_measure_X1_good : GoodIn wsX1_measure wsX1_good := goodIn_r _ [6, 7, 8, 9, 10, 11, 12, 13, 14, 15, 16, 17, 18, 19, 20, 21, 22] (by decide +kernel) (by decide +kernel)
set_option maxRecDepth 20000 in
theorem gX1_measure_X1_good : GoodIn wsX1_measure (wsV RX1 105 RX1 yX1_good wsX1_good) := goodIn_app (goodIn_of _ (by decide +kernel)) ggX1_measure_X1_good
theorem dX1_measure_0 : decode cX1_measure 0 = .ok (.aload_n 0, 1) := by decide +kernel
theorem dX1_measure_1 : decode cX1_measure 1 = .ok (.iload_n 1, 1) := by decide +kernel
theorem dX1_measure_2 : decode cX1_measure 2 = .ok (.ifCond .lt 13, 3) := by decide +kernel
theorem dX1_measure_5 : decode cX1_measure 5 = .ok (.iload_n 1, 1) := by decide +kernel
theorem dX1_measure_6 : decode cX1_measure 6 = .ok (.bipush 6, 2) := by decide +kernel
theorem dX1_measure_8 : decode cX1_measure 8 = .ok (.if_icmp .gt 7, 3) := by decide +kernel
theorem dX1_measure_11 : decode cX1_measure 11 = .ok (.iconst 1, 1) := by decide +kernel
theorem dX1_measure_12 : decode cX1_measure 12 = .ok (.goto 4, 3) := by decide +kernel
theorem dX1_measure_15 : decode cX1_measure 15 = .ok (.iconst 0, 1) := by decide +kernel
theorem dX1_measure_16 : decode cX1_measure 16 = .ok (.invokevirtual 105, 3) := by decide +kernel
theorem dX1_measure_19 : decode cX1_measure 19 = .ok (.ifCond .eq 12, 3) := by decide +kernel
theorem dX1_measure_22 : decode cX1_measure 22 = .ok (.aload_n 0, 1) := by decide +kernel
theorem dX1_measure_23 : decode cX1_measure 23 = .ok (.getfield 7, 3) := by decide +kernel
theorem dX1_measure_26 : decode cX1_measure 26 = .ok (.iload_n 1, 1) := by decide +kernel
theorem dX1_measure_27 : decode cX1_measure 27 = .ok (.iaload, 1) := by decide +kernel
theorem dX1_measure_28 : decode cX1_measure 28 = .ok (.goto 4, 3) := by decide +kernel
theorem dX1_measure_31 : decode cX1_measure 31 = .ok (.iconst 0, 1) := by decide +kernel
theorem dX1_measure_32 : decode cX1_measure 32 = .ok (.ireturn, 1) := by decide +kernel
theorem dJ9_abs_0f7a4_0 : decode cJ9_abs_0f7a4 0 = .ok (.iload_n 0, 1) := by decide +kernel
theorem dJ9_abs_0f7a4_1 : decode cJ9_abs_0f7a4 1 = .ok (.ifCond .ge 8, 3) := by decide +kernel
theorem dJ9_abs_0f7a4_4 : decode cJ9_abs_0f7a4 4 = .ok (.iload_n 0, 1) := by decide +kernel
theorem dJ9_abs_0f7a4_5 : decode cJ9_abs_0f7a4 5 = .ok (.ineg, 1) := by decide +kernel
theorem dJ9_abs_0f7a4_6 : decode cJ9_abs_0f7a4 6 = .ok (.goto 4, 3) := by decide +kernel
theorem dJ9_abs_0f7a4_9 : decode cJ9_abs_0f7a4 9 = .ok (.iload_n 0, 1) := by decide +kernel
theorem dJ9_abs_0f7a4_10 : decode cJ9_abs_0f7a4 10 = .ok (.ireturn, 1) := by decide +kernel
set_option maxRecDepth 20000 in
theorem ggL_press_X0_press : GoodIn wsL_press wsX0_press := goodIn_ca (goodIn_r _ [6, 7, 8, 9, 10, 11, 5, 12, 13, 14, 15, 16, 17, 18, 19, 20, 21, 22, 23, 24, 25, 26, 27, 28, 29, 30, 31, 32, 33, 34, 35, 36, 37, 38, 39, 40, 41, 42, 43, 44, 45, 46, 47, 48, 49, 50, 51, 52, 53, 54, 55, 56, 57, 58, 59, 60, 61, 62, 63, 64, 65, 66, 67, 68, 69, 70, 71, 72, 73, 74, 75, 76, 77, 78, 79, 80, 81, 82, 83, 84, 85, 86, 87, 88, 89, 90, 91, 92, 93, 94, 95, 96, 97, 98, 99, 100, 101, 102, 103, 104, 105, 106, 107, 108, 109, 110, 111, 112, 113, 114, 115, 116, 117, 118, 119, 120, 121, 122, 123, 124, 125, 126, 127, 128, 129, 130, 131, 132, 133, 134, 135, 136, 137, 138, 139, 140, 141, 142, 143, 144, 145, 146, 147, 148, 149, 150, 151, 152, 153, 154, 155, 156, 157, 158, 159, 160, 161, 162, 163, 164, 165, 166, 167, 168, 169, 170, 171, 172, 173, 174, 175, 176, 177, 178, 179, 180, 181, 182, 183, 184, 185, 186, 187] (by decide +kernel) (by decide +kernel)) (goodIn_sub (fun _ h => List.mem_cons_of_mem _ (List.mem_append_right _ h)) (by decide +kernel))
set_option maxRecDepth 20000 in
theorem gL_press_X0_press : GoodIn wsL_press (wsV RL 7 RX0 yX0_press wsX0_press) := goodIn_app (goodIn_of _ (by decide +kernel)) ggL_press_X0_press
theorem dL_press_0 : decode cL_press 0 = .ok (.aload_n 2, 1) := by decide +kernel
theorem dL_press_1 : decode cL_press 1 = .ok (.iconst 0, 1) := by decide +kernel
theorem dL_press_2 : decode cL_press 2 = .ok (.aload_n 0, 1) := by decide +kernel
theorem dL_press_3 : decode cL_press 3 = .ok (.iload_n 1, 1) := by decide +kernel
theorem dL_press_4 : decode cL_press 4 = .ok (.invokevirtual 7, 3) := by decide +kernel
theorem dL_press_7 : decode cL_press 7 = .ok (.i2l, 1) := by decide +kernel
theorem dL_press_8 : decode cL_press 8 = .ok (.lastore, 1) := by decide +kernel
theorem dL_press_9 : decode cL_press 9 = .ok (.goto 6, 3) := by decide +kernel
theorem dL_press_12 : decode cL_press 12 = .ok (.astore_n 3, 1) := by decide +kernel
theorem dL_press_13 : decode cL_press 13 = .ok (.iconst 1, 1) := by decide +kernel
theorem dL_press_14 : decode cL_press 14 = .ok (.ireturn, 1) := by decide +kernel
theorem dL_press_15 : decode cL_press 15 = .ok (.iconst 0, 1) := by decide +kernel
theorem dL_press_16 : decode cL_press 16 = .ok (.ireturn, 1) := by decide +kernel
set_option maxRecDepth 20000 in
theorem ggL_sense_X0_sense : GoodIn wsL_sense wsX0_sense := goodIn_ca (goodIn_r _ [6, 7, 8, 9, 10, 11, 12, 13, 5, 14, 15, 16, 17, 18, 19, 20, 21, 22, 23, 24, 25, 26, 27, 28, 29, 30, 31, 32, 33, 34, 35, 36, 37, 38, 39, 40, 41, 42, 43, 44, 45, 46, 47, 48, 49, 50, 51, 52, 53, 54, 55, 56, 57, 58, 59, 60, 61, 62, 63, 64, 65, 66, 67, 68, 69, 70, 71, 72, 73, 74, 75, 76, 77, 78, 79, 80, 81, 82, 83, 84, 85, 86, 87, 88, 89, 90, 91, 92, 93, 94, 95, 96, 97, 98, 99, 100, 101, 102, 103, 104, 105, 106, 107, 108, 109, 110, 111, 112, 113, 114, 115, 116, 117, 118, 119, 120, 121, 122, 123, 124, 125, 126, 127, 128, 129, 130, 131, 132, 133, 134, 135, 136, 137, 138, 139, 140] (by decide +kernel) (by decide +kernel)) (goodIn_sub (fun _ h => List.mem_cons_of_mem _ (List.mem_append_right _ h)) (by decide +kernel))
set_option maxRecDepth 20000 in
theorem gL_sense_X0_sense : GoodIn wsL_sense (wsV RL 15 RX0 yX0_sense wsX0_sense) := goodIn_app (goodIn_of _ (by decide +kernel)) ggL_sense_X0_sense
theorem dL_sense_0 : decode cL_sense 0 = .ok (.aload_n 3, 1) := by decide +kernel
theorem dL_sense_1 : decode cL_sense 1 = .ok (.iconst 0, 1) := by decide +kernel
theorem dL_sense_2 : decode cL_sense 2 = .ok (.aload_n 0, 1) := by decide +kernel
theorem dL_sense_3 : decode cL_sense 3 = .ok (.iload_n 1, 1) := by decide +kernel
theorem dL_sense_4 : decode cL_sense 4 = .ok (.iload_n 2, 1) := by decide +kernel
theorem dL_sense_5 : decode cL_sense 5 = .ok (.invokevirtual 15, 3) := by decide +kernel
theorem dL_sense_8 : decode cL_sense 8 = .ok (.i2l, 1) := by decide +kernel
theorem dL_sense_9 : decode cL_sense 9 = .ok (.lastore, 1) := by decide +kernel
theorem dL_sense_10 : decode cL_sense 10 = .ok (.goto 7, 3) := by decide +kernel
theorem dL_sense_13 : decode cL_sense 13 = .ok (.astore 4, 2) := by decide +kernel
theorem dL_sense_15 : decode cL_sense 15 = .ok (.iconst 1, 1) := by decide +kernel
theorem dL_sense_16 : decode cL_sense 16 = .ok (.ireturn, 1) := by decide +kernel
theorem dL_sense_17 : decode cL_sense 17 = .ok (.iconst 0, 1) := by decide +kernel
theorem dL_sense_18 : decode cL_sense 18 = .ok (.ireturn, 1) := by decide +kernel
set_option maxRecDepth 20000 in
theorem ggL_channel_X0_channel : GoodIn wsL_channel wsX0_channel := goodIn_ca (goodIn_r _ [6, 7, 8, 9, 10, 11, 12, 5, 13, 14, 15, 16, 17, 18, 19, 20, 21, 22, 23, 24, 25, 26, 27, 28, 29, 30, 31, 32, 33, 34, 35, 36, 37, 38, 39, 40, 41, 42, 43, 44, 45, 46, 47, 48, 49, 50, 51, 52, 53, 54, 55, 56, 57, 58, 59, 60, 61, 62, 63, 64, 65, 66, 67, 68, 69, 70, 71, 72, 73, 74, 75, 76, 77, 78, 79, 80, 81, 82, 83, 84, 85, 86, 87, 88, 89, 90, 91, 92, 93, 94, 95, 96, 97, 98, 99, 100, 101, 102, 103, 104, 105, 106, 107, 108, 109, 110, 111, 112, 113, 114, 115, 116, 117, 118, 119, 120, 121, 122, 123, 124, 125, 126, 127, 128, 129, 130, 131, 132, 133, 134, 135] (by decide +kernel) (by decide +kernel)) (goodIn_sub (fun _ h => List.mem_cons_of_mem _ (List.mem_append_right _ h)) (by decide +kernel))
set_option maxRecDepth 20000 in
theorem gL_channel_X0_channel : GoodIn wsL_channel (wsV RL 19 RX0 yX0_channel wsX0_channel) := goodIn_app (goodIn_of _ (by decide +kernel)) ggL_channel_X0_channel
theorem dL_channel_0 : decode cL_channel 0 = .ok (.aload_n 3, 1) := by decide +kernel
theorem dL_channel_1 : decode cL_channel 1 = .ok (.iconst 0, 1) := by decide +kernel
theorem dL_channel_2 : decode cL_channel 2 = .ok (.aload_n 0, 1) := by decide +kernel
theorem dL_channel_3 : decode cL_channel 3 = .ok (.iload_n 1, 1) := by decide +kernel
theorem dL_channel_4 : decode cL_channel 4 = .ok (.iload_n 2, 1) := by decide +kernel
theorem dL_channel_5 : decode cL_channel 5 = .ok (.invokevirtual 19, 3) := by decide +kernel
theorem dL_channel_8 : decode cL_channel 8 = .ok (.i2l, 1) := by decide +kernel
theorem dL_channel_9 : decode cL_channel 9 = .ok (.lastore, 1) := by decide +kernel
theorem dL_channel_10 : decode cL_channel 10 = .ok (.goto 7, 3) := by decide +kernel
theorem dL_channel_13 : decode cL_channel 13 = .ok (.astore 4, 2) := by decide +kernel
theorem dL_channel_15 : decode cL_channel 15 = .ok (.iconst 1, 1) := by decide +kernel
theorem dL_channel_16 : decode cL_channel 16 = .ok (.ireturn, 1) := by decide +kernel
theorem dL_channel_17 : decode cL_channel 17 = .ok (.iconst 0, 1) := by decide +kernel
theorem dL_channel_18 : decode cL_channel 18 = .ok (.ireturn, 1) := by decide +kernel
set_option maxRecDepth 20000 in
theorem ggL_step_X0_step : GoodIn wsL_step wsX0_step := goodIn_ca (goodIn_r _ [6, 7, 8, 9, 10, 11, 12, 13, 14, 15, 16, 17, 18, 19, 20, 21] (by decide +kernel) (by decide +kernel)) (goodIn_sub (fun _ h => List.mem_cons_of_mem _ (List.mem_append_right _ h)) (by decide +kernel))
set_option maxRecDepth 20000 in
theorem gL_step_X0_step : GoodIn wsL_step (wsV RL 23 RX0 yX0_step wsX0_step) := goodIn_app (goodIn_of _ (by decide +kernel)) ggL_step_X0_step
theorem dL_step_0 : decode cL_step 0 = .ok (.aload_n 2, 1) := by decide +kernel
theorem dL_step_1 : decode cL_step 1 = .ok (.iconst 0, 1) := by decide +kernel
theorem dL_step_2 : decode cL_step 2 = .ok (.aload_n 0, 1) := by decide +kernel
theorem dL_step_3 : decode cL_step 3 = .ok (.iload_n 1, 1) := by decide +kernel
theorem dL_step_4 : decode cL_step 4 = .ok (.invokevirtual 23, 3) := by decide +kernel
theorem dL_step_7 : decode cL_step 7 = .ok (.i2l, 1) := by decide +kernel
theorem dL_step_8 : decode cL_step 8 = .ok (.lastore, 1) := by decide +kernel
theorem dL_step_9 : decode cL_step 9 = .ok (.goto 6, 3) := by decide +kernel
theorem dL_step_12 : decode cL_step 12 = .ok (.astore_n 3, 1) := by decide +kernel
theorem dL_step_13 : decode cL_step 13 = .ok (.iconst 1, 1) := by decide +kernel
theorem dL_step_14 : decode cL_step 14 = .ok (.ireturn, 1) := by decide +kernel
theorem dL_step_15 : decode cL_step 15 = .ok (.iconst 0, 1) := by decide +kernel
theorem dL_step_16 : decode cL_step 16 = .ok (.ireturn, 1) := by decide +kernel
set_option maxRecDepth 20000 in
theorem ggL_mode_X0_mode : GoodIn wsL_mode wsX0_mode := goodIn_ca (goodIn_r _ [6, 7, 8, 9, 10, 11, 12, 13, 14, 15, 16, 17, 18, 19, 20, 21] (by decide +kernel) (by decide +kernel)) (goodIn_sub (fun _ h => List.mem_cons_of_mem _ (List.mem_append_right _ h)) (by decide +kernel))
set_option maxRecDepth 20000 in
theorem gL_mode_X0_mode : GoodIn wsL_mode (wsV RL 26 RX0 yX0_mode wsX0_mode) := goodIn_app (goodIn_of _ (by decide +kernel)) ggL_mode_X0_mode
theorem dL_mode_0 : decode cL_mode 0 = .ok (.aload_n 2, 1) := by decide +kernel
theorem dL_mode_1 : decode cL_mode 1 = .ok (.iconst 0, 1) := by decide +kernel
theorem dL_mode_2 : decode cL_mode 2 = .ok (.aload_n 0, 1) := by decide +kernel
theorem dL_mode_3 : decode cL_mode 3 = .ok (.iload_n 1, 1) := by decide +kernel
theorem dL_mode_4 : decode cL_mode 4 = .ok (.invokevirtual 26, 3) := by decide +kernel
theorem dL_mode_7 : decode cL_mode 7 = .ok (.i2l, 1) := by decide +kernel
theorem dL_mode_8 : decode cL_mode 8 = .ok (.lastore, 1) := by decide +kernel
theorem dL_mode_9 : decode cL_mode 9 = .ok (.goto 6, 3) := by decide +kernel
theorem dL_mode_12 : decode cL_mode 12 = .ok (.astore_n 3, 1) := by decide +kernel
theorem dL_mode_13 : decode cL_mode 13 = .ok (.iconst 1, 1) := by decide +kernel
theorem dL_mode_14 : decode cL_mode 14 = .ok (.ireturn, 1) := by decide +kernel
theorem dL_mode_15 : decode cL_mode 15 = .ok (.iconst 0, 1) := by decide +kernel
theorem dL_mode_16 : decode cL_mode 16 = .ok (.ireturn, 1) := by decide +kernel
set_option maxRecDepth 20000 in
theorem ggL_armed_X0_armed : GoodIn wsL_armed wsX0_armed := goodIn_ca (goodIn_r _ [6, 7, 8, 9, 10, 11, 12, 13, 14, 5, 15, 16, 17, 18, 19, 20, 21, 22, 23, 24, 25, 26, 27, 28] (by decide +kernel) (by decide +kernel)) (goodIn_sub (fun _ h => List.mem_cons_of_mem _ (List.mem_append_right _ h)) (by decide +kernel))
set_option maxRecDepth 20000 in
theorem gL_armed_X0_armed : GoodIn wsL_armed (wsV RL 29 RX0 yX0_armed wsX0_armed) := goodIn_app (goodIn_of _ (by decide +kernel)) ggL_armed_X0_armed
theorem dL_armed_0 : decode cL_armed 0 = .ok (.aload_n 2, 1) := by decide +kernel
theorem dL_armed_1 : decode cL_armed 1 = .ok (.iconst 0, 1) := by decide +kernel
theorem dL_armed_2 : decode cL_armed 2 = .ok (.aload_n 0, 1) := by decide +kernel
theorem dL_armed_3 : decode cL_armed 3 = .ok (.iload_n 1, 1) := by decide +kernel
theorem dL_armed_4 : decode cL_armed 4 = .ok (.invokevirtual 29, 3) := by decide +kernel
theorem dL_armed_7 : decode cL_armed 7 = .ok (.ifCond .eq 7, 3) := by decide +kernel
theorem dL_armed_10 : decode cL_armed 10 = .ok (.lconst 1, 1) := by decide +kernel
theorem dL_armed_11 : decode cL_armed 11 = .ok (.goto 4, 3) := by decide +kernel
theorem dL_armed_14 : decode cL_armed 14 = .ok (.lconst 0, 1) := by decide +kernel
theorem dL_armed_15 : decode cL_armed 15 = .ok (.lastore, 1) := by decide +kernel
theorem dL_armed_16 : decode cL_armed 16 = .ok (.goto 6, 3) := by decide +kernel
theorem dL_armed_19 : decode cL_armed 19 = .ok (.astore_n 3, 1) := by decide +kernel
theorem dL_armed_20 : decode cL_armed 20 = .ok (.iconst 1, 1) := by decide +kernel
theorem dL_armed_21 : decode cL_armed 21 = .ok (.ireturn, 1) := by decide +kernel
theorem dL_armed_22 : decode cL_armed 22 = .ok (.iconst 0, 1) := by decide +kernel
theorem dL_armed_23 : decode cL_armed 23 = .ok (.ireturn, 1) := by decide +kernel
set_option maxRecDepth 20000 in
theorem ggL_measure_X0_measure : GoodIn wsL_measure wsX0_measure := goodIn_ca (goodIn_r _ [6, 7, 8, 9, 10, 11, 5, 12, 13, 14, 15, 16, 17, 18, 19, 20, 21, 22, 23, 24] (by decide +kernel) (by decide +kernel)) (goodIn_sub (fun _ h => List.mem_cons_of_mem _ (List.mem_append_right _ h)) (by decide +kernel))
set_option maxRecDepth 20000 in
theorem gL_measure_X0_measure : GoodIn wsL_measure (wsV RL 33 RX0 yX0_measure wsX0_measure) := goodIn_app (goodIn_of _ (by decide +kernel)) ggL_measure_X0_measure
theorem dL_measure_0 : decode cL_measure 0 = .ok (.aload_n 2, 1) := by decide +kernel
theorem dL_measure_1 : decode cL_measure 1 = .ok (.iconst 0, 1) := by decide +kernel
theorem dL_measure_2 : decode cL_measure 2 = .ok (.aload_n 0, 1) := by decide +kernel
theorem dL_measure_3 : decode cL_measure 3 = .ok (.iload_n 1, 1) := by decide +kernel
theorem dL_measure_4 : decode cL_measure 4 = .ok (.invokevirtual 33, 3) := by decide +kernel
theorem dL_measure_7 : decode cL_measure 7 = .ok (.i2l, 1) := by decide +kernel
theorem dL_measure_8 : decode cL_measure 8 = .ok (.lastore, 1) := by decide +kernel
theorem dL_measure_9 : decode cL_measure 9 = .ok (.goto 6, 3) := by decide +kernel
theorem dL_measure_12 : decode cL_measure 12 = .ok (.astore_n 3, 1) := by decide +kernel
theorem dL_measure_13 : decode cL_measure 13 = .ok (.iconst 1, 1) := by decide +kernel
theorem dL_measure_14 : decode cL_measure 14 = .ok (.ireturn, 1) := by decide +kernel
theorem dL_measure_15 : decode cL_measure 15 = .ok (.iconst 0, 1) := by decide +kernel
theorem dL_measure_16 : decode cL_measure 16 = .ok (.ireturn, 1) := by decide +kernel
set_option maxRecDepth 20000 in
theorem ggL_law_X0_init : GoodIn wsL_law wsX0_init := goodIn_r _ [9, 10, 11, 12, 13, 14, 15, 16, 17, 18, 19, 399, 400, 401, 402, 403, 404, 405, 406, 407, 408, 409, 410] (by decide +kernel) (by decide +kernel)
set_option maxRecDepth 20000 in
theorem gL_law_X0_init : GoodIn wsL_law (wsX0_init) := ggL_law_X0_init
set_option maxRecDepth 20000 in
theorem ggL_law_X1_init : GoodIn wsL_law wsX1_init := goodIn_r _ [22, 23, 11, 12, 13, 24, 25, 26, 411, 412, 413, 414, 415, 416, 417, 418, 419, 420, 421, 422, 423, 424, 425] (by decide +kernel) (by decide +kernel)
set_option maxRecDepth 20000 in
theorem gL_law_X1_init : GoodIn wsL_law (wsX1_init) := ggL_law_X1_init
set_option maxRecDepth 20000 in
theorem ggL_law_L_press : GoodIn wsL_law wsL_press := goodIn_ca (goodIn_r _ [30, 31, 32, 33, 34, 2, 35, 36, 37, 38, 39, 40, 41, 14, 42, 43, 44, 45, 46, 47, 48, 49, 50, 51, 52, 53, 15, 54, 55, 56, 57, 58, 59, 60, 61, 18, 62, 63, 64, 65, 66, 67, 68, 69, 70, 71, 72, 73, 74, 75, 76, 77, 78, 19, 79, 80, 81, 82, 83, 84, 85, 86, 87, 88, 89, 90, 91, 92, 93, 94, 95, 96, 97, 98, 99, 100, 101, 102, 103, 104, 105, 106, 107, 108, 109, 110, 111, 112, 113, 114, 115, 116, 117, 118, 119, 120, 121, 122, 123, 124, 125, 126, 127, 128, 129, 130, 131, 132, 133, 134, 135, 136, 137, 138, 139, 140, 141, 142, 143, 16, 144, 145, 146, 147, 148, 149, 150, 151, 152, 153, 154, 155, 156, 157, 158, 159, 160, 161, 162, 163, 164, 165, 166, 167, 168, 169, 170, 171, 172, 173, 174, 175, 176, 177, 178, 179, 180, 181, 182, 183, 184, 185, 186, 187, 188, 189, 190, 191, 192, 193, 194, 195, 196, 197, 198, 199, 399, 400, 401, 402, 403, 404, 405, 406, 407, 408, 409, 410] (by decide +kernel) (by decide +kernel)) (goodIn_sub (fun _ h => List.mem_append_right _ h) (by decide +kernel))
set_option maxRecDepth 20000 in
theorem gL_law_L_press : GoodIn wsL_law (va_wsS RL 40 yL_press wsL_press) := goodIn_app (goodIn_of _ (by decide +kernel)) ggL_law_L_press
set_option maxRecDepth 20000 in
theorem ggL_law_X1_press : GoodIn wsL_law wsX1_press := goodIn_r _ [203, 204, 205, 206, 207, 208, 209, 210, 211, 5, 212, 213, 214, 215, 216, 217, 218, 219, 220, 221, 26, 222, 223, 224, 225, 226, 227, 228, 229, 230, 231, 232, 233, 234, 235, 236, 237, 238, 25, 239, 240, 241, 242, 243, 244, 245, 246, 247, 248, 249, 250, 251, 252, 253, 254, 255, 256, 257, 258, 259, 260, 261, 262, 263, 264, 265, 266, 267, 268, 269, 270, 271, 272, 273, 274, 275, 24, 276, 277, 278, 279, 280, 281, 282, 283, 284, 285, 286, 411, 412, 413, 414, 415, 416, 417, 418, 419, 420, 421, 422, 423, 424, 425] (by decide +kernel) (by decide +kernel)
set_option maxRecDepth 20000 in
theorem gL_law_X1_press : GoodIn wsL_law (wsV RL 45 RX1 yX1_press wsX1_press) := goodIn_app (goodIn_of _ (by decide +kernel)) ggL_law_X1_press
set_option maxRecDepth 20000 in
theorem ggL_law_X1_thrown : GoodIn wsL_law wsX1_thrown := goodIn_r _ [290, 213, 411, 412, 413, 414, 415, 416, 417, 418, 419, 420, 421, 422, 423, 424, 425] (by decide +kernel) (by decide +kernel)
set_option maxRecDepth 20000 in
theorem gL_law_X1_thrown : GoodIn wsL_law (wsV RL 46 RX1 yX1_thrown wsX1_thrown) := goodIn_app (goodIn_of _ (by decide +kernel)) ggL_law_X1_thrown
set_option maxRecDepth 20000 in
theorem ggL_law_L_sense : GoodIn wsL_law wsL_sense := goodIn_ca (goodIn_r _ [293, 31, 294, 295, 296, 2, 297, 36, 37, 298, 299, 16, 300, 301, 302, 128, 129, 130, 131, 132, 133, 134, 135, 136, 137, 138, 139, 18, 46, 66, 67, 68, 69, 14, 124, 125, 126, 127, 74, 75, 76, 77, 15, 78, 19, 47, 48, 49, 79, 80, 81, 82, 42, 43, 44, 107, 108, 109, 110, 45, 111, 50, 51, 52, 53, 140, 141, 142, 143, 87, 88, 89, 90, 144, 145, 146, 147, 148, 149, 150, 151, 152, 153, 154, 155, 156, 157, 158, 159, 160, 161, 162, 163, 164, 165, 166, 167, 168, 169, 170, 171, 172, 173, 174, 175, 176, 177, 178, 179, 180, 181, 182, 183, 184, 185, 186, 187, 188, 189, 190, 191, 192, 193, 194, 195, 196, 197, 198, 199, 399, 400, 401, 402, 403, 404, 405, 406, 407, 408, 409, 410] (by decide +kernel) (by decide +kernel)) (goodIn_sub (fun _ h => List.mem_append_right _ h) (by decide +kernel))
set_option maxRecDepth 20000 in
theorem gL_law_L_sense : GoodIn wsL_law (va_wsS RL 50 yL_sense wsL_sense) := goodIn_app (goodIn_of _ (by decide +kernel)) ggL_law_L_sense
set_option maxRecDepth 20000 in
theorem ggL_law_X1_sense : GoodIn wsL_law wsX1_sense := goodIn_r _ [306, 307, 24, 209, 210, 211, 5, 212, 213, 268, 269, 270, 271, 272, 273, 274, 275, 208, 26, 218, 219, 220, 260, 261, 262, 263, 206, 207, 276, 277, 278, 279, 280, 281, 282, 283, 284, 285, 286, 264, 265, 266, 267, 247, 221, 204, 205, 226, 227, 228, 229, 230, 231, 232, 233, 234, 235, 236, 237, 238, 25, 239, 240, 241, 242, 411, 412, 413, 414, 415, 416, 417, 418, 419, 420, 421, 422, 423, 424, 425] (by decide +kernel) (by decide +kernel)
set_option maxRecDepth 20000 in
theorem gL_law_X1_sense : GoodIn wsL_law (wsV RL 53 RX1 yX1_sense wsX1_sense) := goodIn_app (goodIn_of _ (by decide +kernel)) ggL_law_X1_sense
set_option maxRecDepth 20000 in
theorem ggL_law_L_channel : GoodIn wsL_law wsL_channel := goodIn_ca (goodIn_r _ [310, 31, 311, 312, 313, 2, 314, 36, 37, 18, 128, 129, 130, 131, 132, 133, 134, 135, 136, 137, 138, 139, 46, 66, 67, 68, 69, 14, 124, 125, 126, 127, 74, 75, 76, 77, 15, 78, 19, 47, 48, 49, 79, 80, 81, 82, 42, 43, 44, 107, 108, 109, 110, 45, 111, 50, 51, 52, 53, 140, 141, 142, 143, 16, 87, 88, 89, 90, 144, 145, 146, 147, 148, 149, 150, 151, 152, 153, 154, 155, 156, 157, 158, 159, 160, 161, 162, 163, 164, 165, 166, 167, 168, 169, 170, 171, 172, 173, 174, 175, 176, 177, 178, 179, 180, 181, 182, 183, 184, 185, 186, 187, 188, 189, 190, 191, 192, 193, 194, 195, 196, 197, 198, 199, 399, 400, 401, 402, 403, 404, 405, 406, 407, 408, 409, 410] (by decide +kernel) (by decide +kernel)) (goodIn_sub (fun _ h => List.mem_append_right _ h) (by decide +kernel))
set_option maxRecDepth 20000 in
theorem gL_law_L_channel : GoodIn wsL_law (va_wsS RL 54 yL_channel wsL_channel) := goodIn_app (goodIn_of _ (by decide +kernel)) ggL_law_L_channel
set_option maxRecDepth 20000 in
theorem ggL_law_X1_channel : GoodIn wsL_law wsX1_channel := goodIn_r _ [318, 206, 207, 209, 210, 211, 5, 212, 213, 268, 269, 270, 271, 272, 273, 274, 275, 24, 208, 26, 218, 219, 220, 260, 261, 262, 263, 276, 277, 278, 279, 280, 281, 282, 283, 284, 285, 286, 264, 265, 266, 267, 247, 221, 204, 205, 226, 227, 228, 229, 230, 231, 232, 233, 234, 235, 236, 237, 238, 25, 239, 240, 241, 242, 411, 412, 413, 414, 415, 416, 417, 418, 419, 420, 421, 422, 423, 424, 425] (by decide +kernel) (by decide +kernel)
set_option maxRecDepth 20000 in
theorem gL_law_X1_channel : GoodIn wsL_law (wsV RL 57 RX1 yX1_channel wsX1_channel) := goodIn_app (goodIn_of _ (by decide +kernel)) ggL_law_X1_channel
set_option maxRecDepth 20000 in
theorem ggL_law_X0_engage : GoodIn wsL_law wsX0_engage := goodIn_r _ [322, 45, 58, 59, 60, 2, 61, 18, 323, 324, 325, 326, 14, 196, 197, 198, 199, 16, 62, 63, 64, 65, 66, 67, 68, 69, 70, 71, 72, 73, 74, 75, 76, 77, 15, 78, 19, 47, 48, 49, 79, 80, 81, 82, 42, 43, 44, 128, 129, 130, 131, 132, 133, 134, 135, 136, 137, 138, 139, 46, 124, 125, 126, 127, 107, 108, 109, 110, 111, 50, 51, 52, 53, 140, 141, 142, 143, 87, 88, 89, 90, 144, 145, 146, 147, 148, 149, 150, 151, 152, 153, 154, 155, 156, 157, 158, 159, 160, 161, 162, 163, 164, 165, 166, 167, 168, 169, 170, 171, 172, 173, 174, 175, 176, 177, 178, 179, 180, 181, 182, 183, 184, 185, 186, 187, 188, 189, 190, 191, 192, 193, 194, 195, 399, 400, 401, 402, 403, 404, 405, 406, 407, 408, 409, 410] (by decide +kernel) (by decide +kernel)
set_option maxRecDepth 20000 in
theorem gL_law_X0_engage : GoodIn wsL_law (wsV RL 58 RX0 yX0_engage wsX0_engage) := goodIn_app (goodIn_of _ (by decide +kernel)) ggL_law_X0_engage
set_option maxRecDepth 20000 in
theorem ggL_law_X1_engage : GoodIn wsL_law wsX1_engage := goodIn_r _ [330, 213, 221, 206, 207, 208, 218, 24, 222, 223, 224, 5, 225, 226, 227, 228, 229, 219, 220, 230, 231, 232, 233, 204, 234, 235, 236, 237, 238, 25, 239, 240, 241, 242, 205, 268, 269, 270, 271, 272, 273, 274, 275, 26, 260, 261, 262, 263, 276, 277, 278, 279, 280, 281, 282, 283, 284, 285, 286, 264, 265, 266, 267, 247, 411, 412, 413, 414, 415, 416, 417, 418, 419, 420, 421, 422, 423, 424, 425] (by decide +kernel) (by decide +kernel)
set_option maxRecDepth 20000 in
theorem gL_law_X1_engage : GoodIn wsL_law (wsV RL 61 RX1 yX1_engage wsX1_engage) := goodIn_app (goodIn_of _ (by decide +kernel)) ggL_law_X1_engage
set_option maxRecDepth 20000 in
theorem ggL_law_X0_disconnect : GoodIn wsL_law wsX0_disconnect := goodIn_r _ [334, 45, 111, 107, 108, 109, 2, 110, 399, 400, 401, 402, 403, 404, 405, 406, 407, 408, 409, 410] (by decide +kernel) (by decide +kernel)
set_option maxRecDepth 20000 in
theorem gL_law_X0_disconnect : GoodIn wsL_law (wsV RL 62 RX0 yX0_disconnect wsX0_disconnect) := goodIn_app (goodIn_of _ (by decide +kernel)) ggL_law_X0_disconnect
set_option maxRecDepth 20000 in
theorem ggL_law_X1_disconnect : GoodIn wsL_law wsX1_disconnect := goodIn_r _ [338, 213, 221, 247, 411, 412, 413, 414, 415, 416, 417, 418, 419, 420, 421, 422, 423, 424, 425] (by decide +kernel) (by decide +kernel)
set_option maxRecDepth 20000 in
theorem gL_law_X1_disconnect : GoodIn wsL_law (wsV RL 65 RX1 yX1_disconnect wsX1_disconnect) := goodIn_app (goodIn_of _ (by decide +kernel)) ggL_law_X1_disconnect
set_option maxRecDepth 20000 in
theorem ggL_law_L_step : GoodIn wsL_law wsL_step := goodIn_ca (goodIn_r _ [341, 31, 342, 343, 344, 2, 345, 36, 37, 15, 399, 400, 401, 402, 403, 404, 405, 406, 407, 408, 409, 410] (by decide +kernel) (by decide +kernel)) (goodIn_sub (fun _ h => List.mem_append_right _ h) (by decide +kernel))
set_option maxRecDepth 20000 in
theorem gL_law_L_step : GoodIn wsL_law (va_wsS RL 66 yL_step wsL_step) := goodIn_app (goodIn_of _ (by decide +kernel)) ggL_law_L_step
set_option maxRecDepth 20000 in
theorem ggL_law_X1_step : GoodIn wsL_law wsX1_step := goodIn_r _ [349, 204, 205, 209, 210, 211, 5, 212, 213, 411, 412, 413, 414, 415, 416, 417, 418, 419, 420, 421, 422, 423, 424, 425] (by decide +kernel) (by decide +kernel)
set_option maxRecDepth 20000 in
theorem gL_law_X1_step : GoodIn wsL_law (wsV RL 68 RX1 yX1_step wsX1_step) := goodIn_app (goodIn_of _ (by decide +kernel)) ggL_law_X1_step
set_option maxRecDepth 20000 in
theorem ggL_law_L_mode : GoodIn wsL_law wsL_mode := goodIn_ca (goodIn_r _ [352, 31, 353, 354, 355, 2, 356, 36, 37, 14, 399, 400, 401, 402, 403, 404, 405, 406, 407, 408, 409, 410] (by decide +kernel) (by decide +kernel)) (goodIn_sub (fun _ h => List.mem_append_right _ h) (by decide +kernel))
set_option maxRecDepth 20000 in
theorem gL_law_L_mode : GoodIn wsL_law (va_wsS RL 69 yL_mode wsL_mode) := goodIn_app (goodIn_of _ (by decide +kernel)) ggL_law_L_mode
set_option maxRecDepth 20000 in
theorem ggL_law_X1_mode : GoodIn wsL_law wsX1_mode := goodIn_r _ [360, 208, 218, 209, 210, 211, 5, 212, 213, 411, 412, 413, 414, 415, 416, 417, 418, 419, 420, 421, 422, 423, 424, 425] (by decide +kernel) (by decide +kernel)
set_option maxRecDepth 20000 in
theorem gL_law_X1_mode : GoodIn wsL_law (wsV RL 71 RX1 yX1_mode wsX1_mode) := goodIn_app (goodIn_of _ (by decide +kernel)) ggL_law_X1_mode
set_option maxRecDepth 20000 in
theorem ggL_law_L_armed : GoodIn wsL_law wsL_armed := goodIn_ca (goodIn_r _ [363, 31, 364, 365, 366, 2, 367, 36, 37, 42, 43, 44, 176, 177, 178, 179, 14, 399, 400, 401, 402, 403, 404, 405, 406, 407, 408, 409, 410] (by decide +kernel) (by decide +kernel)) (goodIn_sub (fun _ h => List.mem_append_right _ h) (by decide +kernel))
set_option maxRecDepth 20000 in
theorem gL_law_L_armed : GoodIn wsL_law (va_wsS RL 72 yL_armed wsL_armed) := goodIn_app (goodIn_of _ (by decide +kernel)) ggL_law_L_armed
set_option maxRecDepth 20000 in
theorem ggL_law_X1_armed : GoodIn wsL_law wsX1_armed := goodIn_r _ [371, 219, 220, 218, 209, 210, 211, 5, 212, 213, 411, 412, 413, 414, 415, 416, 417, 418, 419, 420, 421, 422, 423, 424, 425] (by decide +kernel) (by decide +kernel)
set_option maxRecDepth 20000 in
theorem gL_law_X1_armed : GoodIn wsL_law (wsV RL 74 RX1 yX1_armed wsX1_armed) := goodIn_app (goodIn_of _ (by decide +kernel)) ggL_law_X1_armed
set_option maxRecDepth 20000 in
theorem ggL_law_X0_shown : GoodIn wsL_law wsX0_shown := goodIn_r _ [375, 45, 111, 15, 46, 66, 67, 68, 2, 69, 14, 47, 48, 49, 399, 400, 401, 402, 403, 404, 405, 406, 407, 408, 409, 410] (by decide +kernel) (by decide +kernel)
set_option maxRecDepth 20000 in
theorem gL_law_X0_shown : GoodIn wsL_law (wsV RL 75 RX0 yX0_shown wsX0_shown) := goodIn_app (goodIn_of _ (by decide +kernel)) ggL_law_X0_shown
set_option maxRecDepth 20000 in
theorem ggL_law_X1_shown : GoodIn wsL_law wsX1_shown := goodIn_r _ [379, 213, 208, 221, 247, 204, 205, 26, 411, 412, 413, 414, 415, 416, 417, 418, 419, 420, 421, 422, 423, 424, 425] (by decide +kernel) (by decide +kernel)
set_option maxRecDepth 20000 in
theorem gL_law_X1_shown : GoodIn wsL_law (wsV RL 78 RX1 yX1_shown wsX1_shown) := goodIn_app (goodIn_of _ (by decide +kernel)) ggL_law_X1_shown
set_option maxRecDepth 20000 in
theorem ggL_law_X0_kept : GoodIn wsL_law wsX0_kept := goodIn_r _ [383, 78, 19, 399, 400, 401, 402, 403, 404, 405, 406, 407, 408, 409, 410] (by decide +kernel) (by decide +kernel)
set_option maxRecDepth 20000 in
theorem gL_law_X0_kept : GoodIn wsL_law (wsV RL 79 RX0 yX0_kept wsX0_kept) := goodIn_app (goodIn_of _ (by decide +kernel)) ggL_law_X0_kept
set_option maxRecDepth 20000 in
theorem ggL_law_X1_kept : GoodIn wsL_law wsX1_kept := goodIn_r _ [387, 213, 238, 25, 411, 412, 413, 414, 415, 416, 417, 418, 419, 420, 421, 422, 423, 424, 425] (by decide +kernel) (by decide +kernel)
set_option maxRecDepth 20000 in
theorem gL_law_X1_kept : GoodIn wsL_law (wsV RL 82 RX1 yX1_kept wsX1_kept) := goodIn_app (goodIn_of _ (by decide +kernel)) ggL_law_X1_kept
set_option maxRecDepth 20000 in
theorem ggL_law_L_measure : GoodIn wsL_law wsL_measure := goodIn_ca (goodIn_r _ [390, 31, 391, 392, 393, 2, 394, 36, 37, 16, 300, 301, 302, 399, 400, 401, 402, 403, 404, 405, 406, 407, 408, 409, 410] (by decide +kernel) (by decide +kernel)) (goodIn_sub (fun _ h => List.mem_append_right _ h) (by decide +kernel))
set_option maxRecDepth 20000 in
theorem gL_law_L_measure : GoodIn wsL_law (va_wsS RL 83 yL_measure wsL_measure) := goodIn_app (goodIn_of _ (by decide +kernel)) ggL_law_L_measure
set_option maxRecDepth 20000 in
theorem ggL_law_X1_measure : GoodIn wsL_law wsX1_measure := goodIn_r _ [398, 24, 209, 210, 211, 5, 212, 213, 411, 412, 413, 414, 415, 416, 417, 418, 419, 420, 421, 422, 423, 424, 425] (by decide +kernel) (by decide +kernel)
set_option maxRecDepth 20000 in
theorem gL_law_X1_measure : GoodIn wsL_law (wsV RL 85 RX1 yX1_measure wsX1_measure) := goodIn_app (goodIn_of _ (by decide +kernel)) ggL_law_X1_measure
theorem dL_law_0 : decode cL_law 0 = .ok (.new 8, 3) := by decide +kernel
theorem dL_law_3 : decode cL_law 3 = .ok (.dup, 1) := by decide +kernel
theorem dL_law_4 : decode cL_law 4 = .ok (.invokespecial 36, 3) := by decide +kernel
theorem dL_law_7 : decode cL_law 7 = .ok (.astore_n 1, 1) := by decide +kernel
theorem dL_law_8 : decode cL_law 8 = .ok (.new 37, 3) := by decide +kernel
theorem dL_law_11 : decode cL_law 11 = .ok (.dup, 1) := by decide +kernel
theorem dL_law_12 : decode cL_law 12 = .ok (.invokespecial 39, 3) := by decide +kernel
theorem dL_law_15 : decode cL_law 15 = .ok (.astore_n 2, 1) := by decide +kernel
theorem dL_law_16 : decode cL_law 16 = .ok (.iconst 1, 1) := by decide +kernel
theorem dL_law_17 : decode cL_law 17 = .ok (.newarray .long, 2) := by decide +kernel
theorem dL_law_19 : decode cL_law 19 = .ok (.astore_n 3, 1) := by decide +kernel
theorem dL_law_20 : decode cL_law 20 = .ok (.iconst 0, 1) := by decide +kernel
theorem dL_law_21 : decode cL_law 21 = .ok (.istore 4, 2) := by decide +kernel
theorem dL_law_23 : decode cL_law 23 = .ok (.iload 4, 2) := by decide +kernel
theorem dL_law_25 : decode cL_law 25 = .ok (.aload_n 0, 1) := by decide +kernel
theorem dL_law_26 : decode cL_law 26 = .ok (.arraylength, 1) := by decide +kernel
theorem dL_law_27 : decode cL_law 27 = .ok (.iconst 3, 1) := by decide +kernel
theorem dL_law_28 : decode cL_law 28 = .ok (.isub, 1) := by decide +kernel
theorem dL_law_29 : decode cL_law 29 = .ok (.if_icmp .gt 588, 3) := by decide +kernel
theorem dL_law_32 : decode cL_law 32 = .ok (.aload_n 0, 1) := by decide +kernel
theorem dL_law_33 : decode cL_law 33 = .ok (.iload 4, 2) := by decide +kernel
theorem dL_law_35 : decode cL_law 35 = .ok (.iaload, 1) := by decide +kernel
theorem dL_law_36 : decode cL_law 36 = .ok (.bipush 15, 2) := by decide +kernel
theorem dL_law_38 : decode cL_law 38 = .ok (.iand, 1) := by decide +kernel
theorem dL_law_39 : decode cL_law 39 = .ok (.tableswitch 572 0 10 #[57, 113, 181, 265, 278, 291, 347, 403, 466, 479, 516], 57) := by decide +kernel
theorem dL_law_96 : decode cL_law 96 = .ok (.aload_n 1, 1) := by decide +kernel
theorem dL_law_97 : decode cL_law 97 = .ok (.aload_n 0, 1) := by decide +kernel
theorem dL_law_98 : decode cL_law 98 = .ok (.iload 4, 2) := by decide +kernel
theorem dL_law_100 : decode cL_law 100 = .ok (.iconst 1, 1) := by decide +kernel
theorem dL_law_101 : decode cL_law 101 = .ok (.iadd, 1) := by decide +kernel
theorem dL_law_102 : decode cL_law 102 = .ok (.iaload, 1) := by decide +kernel
theorem dL_law_103 : decode cL_law 103 = .ok (.aload_n 3, 1) := by decide +kernel
theorem dL_law_104 : decode cL_law 104 = .ok (.invokestatic 40, 3) := by decide +kernel
theorem dL_law_107 : decode cL_law 107 = .ok (.istore 5, 2) := by decide +kernel
theorem dL_law_109 : decode cL_law 109 = .ok (.aload_n 2, 1) := by decide +kernel
theorem dL_law_110 : decode cL_law 110 = .ok (.aload_n 0, 1) := by decide +kernel
theorem dL_law_111 : decode cL_law 111 = .ok (.iload 4, 2) := by decide +kernel
theorem dL_law_113 : decode cL_law 113 = .ok (.iconst 1, 1) := by decide +kernel
theorem dL_law_114 : decode cL_law 114 = .ok (.iadd, 1) := by decide +kernel
theorem dL_law_115 : decode cL_law 115 = .ok (.iaload, 1) := by decide +kernel
theorem dL_law_116 : decode cL_law 116 = .ok (.invokevirtual 45, 3) := by decide +kernel
theorem dL_law_119 : decode cL_law 119 = .ok (.istore 6, 2) := by decide +kernel
theorem dL_law_121 : decode cL_law 121 = .ok (.aload_n 2, 1) := by decide +kernel
theorem dL_law_122 : decode cL_law 122 = .ok (.invokevirtual 46, 3) := by decide +kernel
theorem dL_law_125 : decode cL_law 125 = .ok (.iload 5, 2) := by decide +kernel
theorem dL_law_127 : decode cL_law 127 = .ok (.if_icmp .eq 5, 3) := by decide +kernel
theorem dL_law_130 : decode cL_law 130 = .ok (.iconst 0, 1) := by decide +kernel
theorem dL_law_131 : decode cL_law 131 = .ok (.ireturn, 1) := by decide +kernel
theorem dL_law_132 : decode cL_law 132 = .ok (.iload 5, 2) := by decide +kernel
theorem dL_law_134 : decode cL_law 134 = .ok (.ifCond .ne 15, 3) := by decide +kernel
theorem dL_law_137 : decode cL_law 137 = .ok (.aload_n 3, 1) := by decide +kernel
theorem dL_law_138 : decode cL_law 138 = .ok (.iconst 0, 1) := by decide +kernel
theorem dL_law_139 : decode cL_law 139 = .ok (.laload, 1) := by decide +kernel
theorem dL_law_140 : decode cL_law 140 = .ok (.iload 6, 2) := by decide +kernel
theorem dL_law_142 : decode cL_law 142 = .ok (.i2l, 1) := by decide +kernel
theorem dL_law_143 : decode cL_law 143 = .ok (.lcmp, 1) := by decide +kernel
theorem dL_law_144 : decode cL_law 144 = .ok (.ifCond .eq 5, 3) := by decide +kernel
theorem dL_law_147 : decode cL_law 147 = .ok (.iconst 0, 1) := by decide +kernel
theorem dL_law_148 : decode cL_law 148 = .ok (.ireturn, 1) := by decide +kernel
theorem dL_law_149 : decode cL_law 149 = .ok (.goto 462, 3) := by decide +kernel
theorem dL_law_152 : decode cL_law 152 = .ok (.aload_n 1, 1) := by decide +kernel
theorem dL_law_153 : decode cL_law 153 = .ok (.aload_n 0, 1) := by decide +kernel
theorem dL_law_154 : decode cL_law 154 = .ok (.iload 4, 2) := by decide +kernel
theorem dL_law_156 : decode cL_law 156 = .ok (.iconst 1, 1) := by decide +kernel
theorem dL_law_157 : decode cL_law 157 = .ok (.iadd, 1) := by decide +kernel
theorem dL_law_158 : decode cL_law 158 = .ok (.iaload, 1) := by decide +kernel
theorem dL_law_159 : decode cL_law 159 = .ok (.aload_n 0, 1) := by decide +kernel
theorem dL_law_160 : decode cL_law 160 = .ok (.iload 4, 2) := by decide +kernel
theorem dL_law_162 : decode cL_law 162 = .ok (.iconst 2, 1) := by decide +kernel
theorem dL_law_163 : decode cL_law 163 = .ok (.iadd, 1) := by decide +kernel
theorem dL_law_164 : decode cL_law 164 = .ok (.iaload, 1) := by decide +kernel
theorem dL_law_165 : decode cL_law 165 = .ok (.aload_n 3, 1) := by decide +kernel
theorem dL_law_166 : decode cL_law 166 = .ok (.invokestatic 50, 3) := by decide +kernel
theorem dL_law_169 : decode cL_law 169 = .ok (.istore 5, 2) := by decide +kernel
theorem dL_law_171 : decode cL_law 171 = .ok (.aload_n 2, 1) := by decide +kernel
theorem dL_law_172 : decode cL_law 172 = .ok (.aload_n 0, 1) := by decide +kernel
theorem dL_law_173 : decode cL_law 173 = .ok (.iload 4, 2) := by decide +kernel
theorem dL_law_175 : decode cL_law 175 = .ok (.iconst 1, 1) := by decide +kernel
theorem dL_law_176 : decode cL_law 176 = .ok (.iadd, 1) := by decide +kernel
theorem dL_law_177 : decode cL_law 177 = .ok (.iaload, 1) := by decide +kernel
theorem dL_law_178 : decode cL_law 178 = .ok (.aload_n 0, 1) := by decide +kernel
theorem dL_law_179 : decode cL_law 179 = .ok (.iload 4, 2) := by decide +kernel
theorem dL_law_181 : decode cL_law 181 = .ok (.iconst 2, 1) := by decide +kernel
theorem dL_law_182 : decode cL_law 182 = .ok (.iadd, 1) := by decide +kernel
theorem dL_law_183 : decode cL_law 183 = .ok (.iaload, 1) := by decide +kernel
theorem dL_law_184 : decode cL_law 184 = .ok (.invokevirtual 53, 3) := by decide +kernel
theorem dL_law_187 : decode cL_law 187 = .ok (.istore 6, 2) := by decide +kernel
theorem dL_law_189 : decode cL_law 189 = .ok (.aload_n 2, 1) := by decide +kernel
theorem dL_law_190 : decode cL_law 190 = .ok (.invokevirtual 46, 3) := by decide +kernel
theorem dL_law_193 : decode cL_law 193 = .ok (.iload 5, 2) := by decide +kernel
theorem dL_law_195 : decode cL_law 195 = .ok (.if_icmp .eq 5, 3) := by decide +kernel
theorem dL_law_198 : decode cL_law 198 = .ok (.iconst 0, 1) := by decide +kernel
theorem dL_law_199 : decode cL_law 199 = .ok (.ireturn, 1) := by decide +kernel
theorem dL_law_200 : decode cL_law 200 = .ok (.iload 5, 2) := by decide +kernel
theorem dL_law_202 : decode cL_law 202 = .ok (.ifCond .ne 15, 3) := by decide +kernel
theorem dL_law_205 : decode cL_law 205 = .ok (.aload_n 3, 1) := by decide +kernel
theorem dL_law_206 : decode cL_law 206 = .ok (.iconst 0, 1) := by decide +kernel
theorem dL_law_207 : decode cL_law 207 = .ok (.laload, 1) := by decide +kernel
theorem dL_law_208 : decode cL_law 208 = .ok (.iload 6, 2) := by decide +kernel
theorem dL_law_210 : decode cL_law 210 = .ok (.i2l, 1) := by decide +kernel
theorem dL_law_211 : decode cL_law 211 = .ok (.lcmp, 1) := by decide +kernel
theorem dL_law_212 : decode cL_law 212 = .ok (.ifCond .eq 5, 3) := by decide +kernel
theorem dL_law_215 : decode cL_law 215 = .ok (.iconst 0, 1) := by decide +kernel
theorem dL_law_216 : decode cL_law 216 = .ok (.ireturn, 1) := by decide +kernel
theorem dL_law_217 : decode cL_law 217 = .ok (.goto 394, 3) := by decide +kernel
theorem dL_law_220 : decode cL_law 220 = .ok (.aload_n 1, 1) := by decide +kernel
theorem dL_law_221 : decode cL_law 221 = .ok (.aload_n 0, 1) := by decide +kernel
theorem dL_law_222 : decode cL_law 222 = .ok (.iload 4, 2) := by decide +kernel
theorem dL_law_224 : decode cL_law 224 = .ok (.iconst 1, 1) := by decide +kernel
theorem dL_law_225 : decode cL_law 225 = .ok (.iadd, 1) := by decide +kernel
theorem dL_law_226 : decode cL_law 226 = .ok (.iaload, 1) := by decide +kernel
theorem dL_law_227 : decode cL_law 227 = .ok (.aload_n 0, 1) := by decide +kernel
theorem dL_law_228 : decode cL_law 228 = .ok (.iload 4, 2) := by decide +kernel
theorem dL_law_230 : decode cL_law 230 = .ok (.iconst 2, 1) := by decide +kernel
theorem dL_law_231 : decode cL_law 231 = .ok (.iadd, 1) := by decide +kernel
theorem dL_law_232 : decode cL_law 232 = .ok (.iaload, 1) := by decide +kernel
theorem dL_law_233 : decode cL_law 233 = .ok (.ifCond .eq 7, 3) := by decide +kernel
theorem dL_law_236 : decode cL_law 236 = .ok (.iconst 1, 1) := by decide +kernel
theorem dL_law_237 : decode cL_law 237 = .ok (.goto 4, 3) := by decide +kernel
theorem dL_law_240 : decode cL_law 240 = .ok (.iconst 0, 1) := by decide +kernel
theorem dL_law_241 : decode cL_law 241 = .ok (.aload_n 3, 1) := by decide +kernel
theorem dL_law_242 : decode cL_law 242 = .ok (.invokestatic 54, 3) := by decide +kernel
theorem dL_law_245 : decode cL_law 245 = .ok (.istore 5, 2) := by decide +kernel
theorem dL_law_247 : decode cL_law 247 = .ok (.aload_n 2, 1) := by decide +kernel
theorem dL_law_248 : decode cL_law 248 = .ok (.aload_n 0, 1) := by decide +kernel
theorem dL_law_249 : decode cL_law 249 = .ok (.iload 4, 2) := by decide +kernel
theorem dL_law_251 : decode cL_law 251 = .ok (.iconst 1, 1) := by decide +kernel
theorem dL_law_252 : decode cL_law 252 = .ok (.iadd, 1) := by decide +kernel
theorem dL_law_253 : decode cL_law 253 = .ok (.iaload, 1) := by decide +kernel
theorem dL_law_254 : decode cL_law 254 = .ok (.aload_n 0, 1) := by decide +kernel
theorem dL_law_255 : decode cL_law 255 = .ok (.iload 4, 2) := by decide +kernel
theorem dL_law_257 : decode cL_law 257 = .ok (.iconst 2, 1) := by decide +kernel
theorem dL_law_258 : decode cL_law 258 = .ok (.iadd, 1) := by decide +kernel
theorem dL_law_259 : decode cL_law 259 = .ok (.iaload, 1) := by decide +kernel
theorem dL_law_260 : decode cL_law 260 = .ok (.ifCond .eq 7, 3) := by decide +kernel
theorem dL_law_263 : decode cL_law 263 = .ok (.iconst 1, 1) := by decide +kernel
theorem dL_law_264 : decode cL_law 264 = .ok (.goto 4, 3) := by decide +kernel
theorem dL_law_267 : decode cL_law 267 = .ok (.iconst 0, 1) := by decide +kernel
theorem dL_law_268 : decode cL_law 268 = .ok (.invokevirtual 57, 3) := by decide +kernel
theorem dL_law_271 : decode cL_law 271 = .ok (.istore 6, 2) := by decide +kernel
theorem dL_law_273 : decode cL_law 273 = .ok (.aload_n 2, 1) := by decide +kernel
theorem dL_law_274 : decode cL_law 274 = .ok (.invokevirtual 46, 3) := by decide +kernel
theorem dL_law_277 : decode cL_law 277 = .ok (.iload 5, 2) := by decide +kernel
theorem dL_law_279 : decode cL_law 279 = .ok (.if_icmp .eq 5, 3) := by decide +kernel
theorem dL_law_282 : decode cL_law 282 = .ok (.iconst 0, 1) := by decide +kernel
theorem dL_law_283 : decode cL_law 283 = .ok (.ireturn, 1) := by decide +kernel
theorem dL_law_284 : decode cL_law 284 = .ok (.iload 5, 2) := by decide +kernel
theorem dL_law_286 : decode cL_law 286 = .ok (.ifCond .ne 15, 3) := by decide +kernel
theorem dL_law_289 : decode cL_law 289 = .ok (.aload_n 3, 1) := by decide +kernel
theorem dL_law_290 : decode cL_law 290 = .ok (.iconst 0, 1) := by decide +kernel
theorem dL_law_291 : decode cL_law 291 = .ok (.laload, 1) := by decide +kernel
theorem dL_law_292 : decode cL_law 292 = .ok (.iload 6, 2) := by decide +kernel
theorem dL_law_294 : decode cL_law 294 = .ok (.i2l, 1) := by decide +kernel
theorem dL_law_295 : decode cL_law 295 = .ok (.lcmp, 1) := by decide +kernel
theorem dL_law_296 : decode cL_law 296 = .ok (.ifCond .eq 5, 3) := by decide +kernel
theorem dL_law_299 : decode cL_law 299 = .ok (.iconst 0, 1) := by decide +kernel
theorem dL_law_300 : decode cL_law 300 = .ok (.ireturn, 1) := by decide +kernel
theorem dL_law_301 : decode cL_law 301 = .ok (.goto 310, 3) := by decide +kernel
theorem dL_law_304 : decode cL_law 304 = .ok (.aload_n 1, 1) := by decide +kernel
theorem dL_law_305 : decode cL_law 305 = .ok (.invokevirtual 58, 3) := by decide +kernel
theorem dL_law_308 : decode cL_law 308 = .ok (.aload_n 2, 1) := by decide +kernel
theorem dL_law_309 : decode cL_law 309 = .ok (.invokevirtual 61, 3) := by decide +kernel
theorem dL_law_312 : decode cL_law 312 = .ok (.if_icmp .eq 299, 3) := by decide +kernel
theorem dL_law_315 : decode cL_law 315 = .ok (.iconst 0, 1) := by decide +kernel
theorem dL_law_316 : decode cL_law 316 = .ok (.ireturn, 1) := by decide +kernel
theorem dL_law_317 : decode cL_law 317 = .ok (.aload_n 1, 1) := by decide +kernel
theorem dL_law_318 : decode cL_law 318 = .ok (.invokevirtual 62, 3) := by decide +kernel
theorem dL_law_321 : decode cL_law 321 = .ok (.aload_n 2, 1) := by decide +kernel
theorem dL_law_322 : decode cL_law 322 = .ok (.invokevirtual 65, 3) := by decide +kernel
theorem dL_law_325 : decode cL_law 325 = .ok (.if_icmp .eq 286, 3) := by decide +kernel
theorem dL_law_328 : decode cL_law 328 = .ok (.iconst 0, 1) := by decide +kernel
theorem dL_law_329 : decode cL_law 329 = .ok (.ireturn, 1) := by decide +kernel
theorem dL_law_330 : decode cL_law 330 = .ok (.aload_n 1, 1) := by decide +kernel
theorem dL_law_331 : decode cL_law 331 = .ok (.aload_n 0, 1) := by decide +kernel
theorem dL_law_332 : decode cL_law 332 = .ok (.iload 4, 2) := by decide +kernel
theorem dL_law_334 : decode cL_law 334 = .ok (.iconst 1, 1) := by decide +kernel
theorem dL_law_335 : decode cL_law 335 = .ok (.iadd, 1) := by decide +kernel
theorem dL_law_336 : decode cL_law 336 = .ok (.iaload, 1) := by decide +kernel
theorem dL_law_337 : decode cL_law 337 = .ok (.aload_n 3, 1) := by decide +kernel
theorem dL_law_338 : decode cL_law 338 = .ok (.invokestatic 66, 3) := by decide +kernel
theorem dL_law_341 : decode cL_law 341 = .ok (.istore 5, 2) := by decide +kernel
theorem dL_law_343 : decode cL_law 343 = .ok (.aload_n 2, 1) := by decide +kernel
theorem dL_law_344 : decode cL_law 344 = .ok (.aload_n 0, 1) := by decide +kernel
theorem dL_law_345 : decode cL_law 345 = .ok (.iload 4, 2) := by decide +kernel
theorem dL_law_347 : decode cL_law 347 = .ok (.iconst 1, 1) := by decide +kernel
theorem dL_law_348 : decode cL_law 348 = .ok (.iadd, 1) := by decide +kernel
theorem dL_law_349 : decode cL_law 349 = .ok (.iaload, 1) := by decide +kernel
theorem dL_law_350 : decode cL_law 350 = .ok (.invokevirtual 68, 3) := by decide +kernel
theorem dL_law_353 : decode cL_law 353 = .ok (.istore 6, 2) := by decide +kernel
theorem dL_law_355 : decode cL_law 355 = .ok (.aload_n 2, 1) := by decide +kernel
theorem dL_law_356 : decode cL_law 356 = .ok (.invokevirtual 46, 3) := by decide +kernel
theorem dL_law_359 : decode cL_law 359 = .ok (.iload 5, 2) := by decide +kernel
theorem dL_law_361 : decode cL_law 361 = .ok (.if_icmp .eq 5, 3) := by decide +kernel
theorem dL_law_364 : decode cL_law 364 = .ok (.iconst 0, 1) := by decide +kernel
theorem dL_law_365 : decode cL_law 365 = .ok (.ireturn, 1) := by decide +kernel
theorem dL_law_366 : decode cL_law 366 = .ok (.iload 5, 2) := by decide +kernel
theorem dL_law_368 : decode cL_law 368 = .ok (.ifCond .ne 15, 3) := by decide +kernel
theorem dL_law_371 : decode cL_law 371 = .ok (.aload_n 3, 1) := by decide +kernel
theorem dL_law_372 : decode cL_law 372 = .ok (.iconst 0, 1) := by decide +kernel
theorem dL_law_373 : decode cL_law 373 = .ok (.laload, 1) := by decide +kernel
theorem dL_law_374 : decode cL_law 374 = .ok (.iload 6, 2) := by decide +kernel
theorem dL_law_376 : decode cL_law 376 = .ok (.i2l, 1) := by decide +kernel
theorem dL_law_377 : decode cL_law 377 = .ok (.lcmp, 1) := by decide +kernel
theorem dL_law_378 : decode cL_law 378 = .ok (.ifCond .eq 5, 3) := by decide +kernel
theorem dL_law_381 : decode cL_law 381 = .ok (.iconst 0, 1) := by decide +kernel
theorem dL_law_382 : decode cL_law 382 = .ok (.ireturn, 1) := by decide +kernel
theorem dL_law_383 : decode cL_law 383 = .ok (.goto 228, 3) := by decide +kernel
theorem dL_law_386 : decode cL_law 386 = .ok (.aload_n 1, 1) := by decide +kernel
theorem dL_law_387 : decode cL_law 387 = .ok (.aload_n 0, 1) := by decide +kernel
theorem dL_law_388 : decode cL_law 388 = .ok (.iload 4, 2) := by decide +kernel
theorem dL_law_390 : decode cL_law 390 = .ok (.iconst 1, 1) := by decide +kernel
theorem dL_law_391 : decode cL_law 391 = .ok (.iadd, 1) := by decide +kernel
theorem dL_law_392 : decode cL_law 392 = .ok (.iaload, 1) := by decide +kernel
theorem dL_law_393 : decode cL_law 393 = .ok (.aload_n 3, 1) := by decide +kernel
theorem dL_law_394 : decode cL_law 394 = .ok (.invokestatic 69, 3) := by decide +kernel
theorem dL_law_397 : decode cL_law 397 = .ok (.istore 5, 2) := by decide +kernel
theorem dL_law_399 : decode cL_law 399 = .ok (.aload_n 2, 1) := by decide +kernel
theorem dL_law_400 : decode cL_law 400 = .ok (.aload_n 0, 1) := by decide +kernel
theorem dL_law_401 : decode cL_law 401 = .ok (.iload 4, 2) := by decide +kernel
theorem dL_law_403 : decode cL_law 403 = .ok (.iconst 1, 1) := by decide +kernel
theorem dL_law_404 : decode cL_law 404 = .ok (.iadd, 1) := by decide +kernel
theorem dL_law_405 : decode cL_law 405 = .ok (.iaload, 1) := by decide +kernel
theorem dL_law_406 : decode cL_law 406 = .ok (.invokevirtual 71, 3) := by decide +kernel
theorem dL_law_409 : decode cL_law 409 = .ok (.istore 6, 2) := by decide +kernel
theorem dL_law_411 : decode cL_law 411 = .ok (.aload_n 2, 1) := by decide +kernel
theorem dL_law_412 : decode cL_law 412 = .ok (.invokevirtual 46, 3) := by decide +kernel
theorem dL_law_415 : decode cL_law 415 = .ok (.iload 5, 2) := by decide +kernel
theorem dL_law_417 : decode cL_law 417 = .ok (.if_icmp .eq 5, 3) := by decide +kernel
theorem dL_law_420 : decode cL_law 420 = .ok (.iconst 0, 1) := by decide +kernel
theorem dL_law_421 : decode cL_law 421 = .ok (.ireturn, 1) := by decide +kernel
theorem dL_law_422 : decode cL_law 422 = .ok (.iload 5, 2) := by decide +kernel
theorem dL_law_424 : decode cL_law 424 = .ok (.ifCond .ne 15, 3) := by decide +kernel
theorem dL_law_427 : decode cL_law 427 = .ok (.aload_n 3, 1) := by decide +kernel
theorem dL_law_428 : decode cL_law 428 = .ok (.iconst 0, 1) := by decide +kernel
theorem dL_law_429 : decode cL_law 429 = .ok (.laload, 1) := by decide +kernel
theorem dL_law_430 : decode cL_law 430 = .ok (.iload 6, 2) := by decide +kernel
theorem dL_law_432 : decode cL_law 432 = .ok (.i2l, 1) := by decide +kernel
theorem dL_law_433 : decode cL_law 433 = .ok (.lcmp, 1) := by decide +kernel
theorem dL_law_434 : decode cL_law 434 = .ok (.ifCond .eq 5, 3) := by decide +kernel
theorem dL_law_437 : decode cL_law 437 = .ok (.iconst 0, 1) := by decide +kernel
theorem dL_law_438 : decode cL_law 438 = .ok (.ireturn, 1) := by decide +kernel
theorem dL_law_439 : decode cL_law 439 = .ok (.goto 172, 3) := by decide +kernel
theorem dL_law_442 : decode cL_law 442 = .ok (.aload_n 1, 1) := by decide +kernel
theorem dL_law_443 : decode cL_law 443 = .ok (.aload_n 0, 1) := by decide +kernel
theorem dL_law_444 : decode cL_law 444 = .ok (.iload 4, 2) := by decide +kernel
theorem dL_law_446 : decode cL_law 446 = .ok (.iconst 1, 1) := by decide +kernel
theorem dL_law_447 : decode cL_law 447 = .ok (.iadd, 1) := by decide +kernel
theorem dL_law_448 : decode cL_law 448 = .ok (.iaload, 1) := by decide +kernel
theorem dL_law_449 : decode cL_law 449 = .ok (.aload_n 3, 1) := by decide +kernel
theorem dL_law_450 : decode cL_law 450 = .ok (.invokestatic 72, 3) := by decide +kernel
theorem dL_law_453 : decode cL_law 453 = .ok (.istore 5, 2) := by decide +kernel
theorem dL_law_455 : decode cL_law 455 = .ok (.aload_n 2, 1) := by decide +kernel
theorem dL_law_456 : decode cL_law 456 = .ok (.aload_n 0, 1) := by decide +kernel
theorem dL_law_457 : decode cL_law 457 = .ok (.iload 4, 2) := by decide +kernel
theorem dL_law_459 : decode cL_law 459 = .ok (.iconst 1, 1) := by decide +kernel
theorem dL_law_460 : decode cL_law 460 = .ok (.iadd, 1) := by decide +kernel
theorem dL_law_461 : decode cL_law 461 = .ok (.iaload, 1) := by decide +kernel
theorem dL_law_462 : decode cL_law 462 = .ok (.invokevirtual 74, 3) := by decide +kernel
theorem dL_law_465 : decode cL_law 465 = .ok (.istore 6, 2) := by decide +kernel
theorem dL_law_467 : decode cL_law 467 = .ok (.aload_n 2, 1) := by decide +kernel
theorem dL_law_468 : decode cL_law 468 = .ok (.invokevirtual 46, 3) := by decide +kernel
theorem dL_law_471 : decode cL_law 471 = .ok (.iload 5, 2) := by decide +kernel
theorem dL_law_473 : decode cL_law 473 = .ok (.if_icmp .eq 5, 3) := by decide +kernel
theorem dL_law_476 : decode cL_law 476 = .ok (.iconst 0, 1) := by decide +kernel
theorem dL_law_477 : decode cL_law 477 = .ok (.ireturn, 1) := by decide +kernel
theorem dL_law_478 : decode cL_law 478 = .ok (.iload 5, 2) := by decide +kernel
theorem dL_law_480 : decode cL_law 480 = .ok (.ifCond .ne 22, 3) := by decide +kernel
theorem dL_law_483 : decode cL_law 483 = .ok (.aload_n 3, 1) := by decide +kernel
theorem dL_law_484 : decode cL_law 484 = .ok (.iconst 0, 1) := by decide +kernel
theorem dL_law_485 : decode cL_law 485 = .ok (.laload, 1) := by decide +kernel
theorem dL_law_486 : decode cL_law 486 = .ok (.iload 6, 2) := by decide +kernel
theorem dL_law_488 : decode cL_law 488 = .ok (.ifCond .eq 7, 3) := by decide +kernel
theorem dL_law_491 : decode cL_law 491 = .ok (.lconst 1, 1) := by decide +kernel
theorem dL_law_492 : decode cL_law 492 = .ok (.goto 4, 3) := by decide +kernel
theorem dL_law_495 : decode cL_law 495 = .ok (.lconst 0, 1) := by decide +kernel
theorem dL_law_496 : decode cL_law 496 = .ok (.lcmp, 1) := by decide +kernel
theorem dL_law_497 : decode cL_law 497 = .ok (.ifCond .eq 5, 3) := by decide +kernel
theorem dL_law_500 : decode cL_law 500 = .ok (.iconst 0, 1) := by decide +kernel
theorem dL_law_501 : decode cL_law 501 = .ok (.ireturn, 1) := by decide +kernel
theorem dL_law_502 : decode cL_law 502 = .ok (.goto 109, 3) := by decide +kernel
theorem dL_law_505 : decode cL_law 505 = .ok (.aload_n 1, 1) := by decide +kernel
theorem dL_law_506 : decode cL_law 506 = .ok (.invokevirtual 75, 3) := by decide +kernel
theorem dL_law_509 : decode cL_law 509 = .ok (.aload_n 2, 1) := by decide +kernel
theorem dL_law_510 : decode cL_law 510 = .ok (.invokevirtual 78, 3) := by decide +kernel
theorem dL_law_513 : decode cL_law 513 = .ok (.if_icmp .eq 98, 3) := by decide +kernel
theorem dL_law_516 : decode cL_law 516 = .ok (.iconst 0, 1) := by decide +kernel
theorem dL_law_517 : decode cL_law 517 = .ok (.ireturn, 1) := by decide +kernel
theorem dL_law_518 : decode cL_law 518 = .ok (.aload_n 1, 1) := by decide +kernel
theorem dL_law_519 : decode cL_law 519 = .ok (.aload_n 0, 1) := by decide +kernel
theorem dL_law_520 : decode cL_law 520 = .ok (.iload 4, 2) := by decide +kernel
theorem dL_law_522 : decode cL_law 522 = .ok (.iconst 1, 1) := by decide +kernel
theorem dL_law_523 : decode cL_law 523 = .ok (.iadd, 1) := by decide +kernel
theorem dL_law_524 : decode cL_law 524 = .ok (.iaload, 1) := by decide +kernel
theorem dL_law_525 : decode cL_law 525 = .ok (.aload_n 0, 1) := by decide +kernel
theorem dL_law_526 : decode cL_law 526 = .ok (.iload 4, 2) := by decide +kernel
theorem dL_law_528 : decode cL_law 528 = .ok (.iconst 2, 1) := by decide +kernel
theorem dL_law_529 : decode cL_law 529 = .ok (.iadd, 1) := by decide +kernel
theorem dL_law_530 : decode cL_law 530 = .ok (.iaload, 1) := by decide +kernel
theorem dL_law_531 : decode cL_law 531 = .ok (.invokevirtual 79, 3) := by decide +kernel
theorem dL_law_534 : decode cL_law 534 = .ok (.aload_n 2, 1) := by decide +kernel
theorem dL_law_535 : decode cL_law 535 = .ok (.aload_n 0, 1) := by decide +kernel
theorem dL_law_536 : decode cL_law 536 = .ok (.iload 4, 2) := by decide +kernel
theorem dL_law_538 : decode cL_law 538 = .ok (.iconst 1, 1) := by decide +kernel
theorem dL_law_539 : decode cL_law 539 = .ok (.iadd, 1) := by decide +kernel
theorem dL_law_540 : decode cL_law 540 = .ok (.iaload, 1) := by decide +kernel
theorem dL_law_541 : decode cL_law 541 = .ok (.aload_n 0, 1) := by decide +kernel
theorem dL_law_542 : decode cL_law 542 = .ok (.iload 4, 2) := by decide +kernel
theorem dL_law_544 : decode cL_law 544 = .ok (.iconst 2, 1) := by decide +kernel
theorem dL_law_545 : decode cL_law 545 = .ok (.iadd, 1) := by decide +kernel
theorem dL_law_546 : decode cL_law 546 = .ok (.iaload, 1) := by decide +kernel
theorem dL_law_547 : decode cL_law 547 = .ok (.invokevirtual 82, 3) := by decide +kernel
theorem dL_law_550 : decode cL_law 550 = .ok (.if_icmp .eq 61, 3) := by decide +kernel
theorem dL_law_553 : decode cL_law 553 = .ok (.iconst 0, 1) := by decide +kernel
theorem dL_law_554 : decode cL_law 554 = .ok (.ireturn, 1) := by decide +kernel
theorem dL_law_555 : decode cL_law 555 = .ok (.aload_n 1, 1) := by decide +kernel
theorem dL_law_556 : decode cL_law 556 = .ok (.aload_n 0, 1) := by decide +kernel
theorem dL_law_557 : decode cL_law 557 = .ok (.iload 4, 2) := by decide +kernel
theorem dL_law_559 : decode cL_law 559 = .ok (.iconst 1, 1) := by decide +kernel
theorem dL_law_560 : decode cL_law 560 = .ok (.iadd, 1) := by decide +kernel
theorem dL_law_561 : decode cL_law 561 = .ok (.iaload, 1) := by decide +kernel
theorem dL_law_562 : decode cL_law 562 = .ok (.aload_n 3, 1) := by decide +kernel
theorem dL_law_563 : decode cL_law 563 = .ok (.invokestatic 83, 3) := by decide +kernel
theorem dL_law_566 : decode cL_law 566 = .ok (.istore 5, 2) := by decide +kernel
theorem dL_law_568 : decode cL_law 568 = .ok (.aload_n 2, 1) := by decide +kernel
theorem dL_law_569 : decode cL_law 569 = .ok (.aload_n 0, 1) := by decide +kernel
theorem dL_law_570 : decode cL_law 570 = .ok (.iload 4, 2) := by decide +kernel
theorem dL_law_572 : decode cL_law 572 = .ok (.iconst 1, 1) := by decide +kernel
theorem dL_law_573 : decode cL_law 573 = .ok (.iadd, 1) := by decide +kernel
theorem dL_law_574 : decode cL_law 574 = .ok (.iaload, 1) := by decide +kernel
theorem dL_law_575 : decode cL_law 575 = .ok (.invokevirtual 85, 3) := by decide +kernel
theorem dL_law_578 : decode cL_law 578 = .ok (.istore 6, 2) := by decide +kernel
theorem dL_law_580 : decode cL_law 580 = .ok (.aload_n 2, 1) := by decide +kernel
theorem dL_law_581 : decode cL_law 581 = .ok (.invokevirtual 46, 3) := by decide +kernel
theorem dL_law_584 : decode cL_law 584 = .ok (.iload 5, 2) := by decide +kernel
theorem dL_law_586 : decode cL_law 586 = .ok (.if_icmp .eq 5, 3) := by decide +kernel
theorem dL_law_589 : decode cL_law 589 = .ok (.iconst 0, 1) := by decide +kernel
theorem dL_law_590 : decode cL_law 590 = .ok (.ireturn, 1) := by decide +kernel
theorem dL_law_591 : decode cL_law 591 = .ok (.iload 5, 2) := by decide +kernel
theorem dL_law_593 : decode cL_law 593 = .ok (.ifCond .ne 15, 3) := by decide +kernel
theorem dL_law_596 : decode cL_law 596 = .ok (.aload_n 3, 1) := by decide +kernel
theorem dL_law_597 : decode cL_law 597 = .ok (.iconst 0, 1) := by decide +kernel
theorem dL_law_598 : decode cL_law 598 = .ok (.laload, 1) := by decide +kernel
theorem dL_law_599 : decode cL_law 599 = .ok (.iload 6, 2) := by decide +kernel
theorem dL_law_601 : decode cL_law 601 = .ok (.i2l, 1) := by decide +kernel
theorem dL_law_602 : decode cL_law 602 = .ok (.lcmp, 1) := by decide +kernel
theorem dL_law_603 : decode cL_law 603 = .ok (.ifCond .eq 5, 3) := by decide +kernel
theorem dL_law_606 : decode cL_law 606 = .ok (.iconst 0, 1) := by decide +kernel
theorem dL_law_607 : decode cL_law 607 = .ok (.ireturn, 1) := by decide +kernel
theorem dL_law_608 : decode cL_law 608 = .ok (.goto 3, 3) := by decide +kernel
theorem dL_law_611 : decode cL_law 611 = .ok (.iinc 4 3, 3) := by decide +kernel
theorem dL_law_614 : decode cL_law 614 = .ok (.goto (-591), 3) := by decide +kernel
theorem dL_law_617 : decode cL_law 617 = .ok (.iconst 1, 1) := by decide +kernel
theorem dL_law_618 : decode cL_law 618 = .ok (.ireturn, 1) := by decide +kernel
abbrev vwCl : List vw_C := [(RX0, TX0, 12), (RX1, TX1, 15)]
end
section
abbrev XS : Type := (Nat → Int32) × (Nat → Int32) × (Nat → Int32) × (Nat → Int32) × Int32 × Int32 × Int32 × Int32 × Int32 × Int32 × (Nat → Int32) × Int32
def xA (u : XS) : Nat → Int32 := u.1
def xF (u : XS) : Nat → Int32 := u.2.1
def xM (u : XS) : Nat → Int32 := u.2.2.1
def xS (u : XS) : Nat → Int32 := u.2.2.2.1
def xl (u : XS) : Int32 := u.2.2.2.2.1
def xn (u : XS) : Int32 := u.2.2.2.2.2.1
def xa (u : XS) : Int32 := u.2.2.2.2.2.2.1
def xg (u : XS) : Int32 := u.2.2.2.2.2.2.2.1
def xe (u : XS) : Int32 := u.2.2.2.2.2.2.2.2.1
def xw (u : XS) : Int32 := u.2.2.2.2.2.2.2.2.2.1
def xC (u : XS) : Nat → Int32 := u.2.2.2.2.2.2.2.2.2.2.1
def xc (u : XS) : Int32 := u.2.2.2.2.2.2.2.2.2.2.2
def xA_ (u : XS) (v : Nat → Int32) : XS := (v, xF u, xM u, xS u, xl u, xn u, xa u, xg u, xe u, xw u, xC u, xc u)
def xF_ (u : XS) (v : Nat → Int32) : XS := (xA u, v, xM u, xS u, xl u, xn u, xa u, xg u, xe u, xw u, xC u, xc u)
def xM_ (u : XS) (v : Nat → Int32) : XS := (xA u, xF u, v, xS u, xl u, xn u, xa u, xg u, xe u, xw u, xC u, xc u)
def xS_ (u : XS) (v : Nat → Int32) : XS := (xA u, xF u, xM u, v, xl u, xn u, xa u, xg u, xe u, xw u, xC u, xc u)
def xl_ (u : XS) (v : Int32) : XS := (xA u, xF u, xM u, xS u, v, xn u, xa u, xg u, xe u, xw u, xC u, xc u)
def xn_ (u : XS) (v : Int32) : XS := (xA u, xF u, xM u, xS u, xl u, v, xa u, xg u, xe u, xw u, xC u, xc u)
def xa_ (u : XS) (v : Int32) : XS := (xA u, xF u, xM u, xS u, xl u, xn u, v, xg u, xe u, xw u, xC u, xc u)
def xg_ (u : XS) (v : Int32) : XS := (xA u, xF u, xM u, xS u, xl u, xn u, xa u, v, xe u, xw u, xC u, xc u)
def xe_ (u : XS) (v : Int32) : XS := (xA u, xF u, xM u, xS u, xl u, xn u, xa u, xg u, v, xw u, xC u, xc u)
def xw_ (u : XS) (v : Int32) : XS := (xA u, xF u, xM u, xS u, xl u, xn u, xa u, xg u, xe u, v, xC u, xc u)
def xC_ (u : XS) (v : Nat → Int32) : XS := (xA u, xF u, xM u, xS u, xl u, xn u, xa u, xg u, xe u, xw u, v, xc u)
def xc_ (u : XS) (v : Int32) : XS := (xA u, xF u, xM u, xS u, xl u, xn u, xa u, xg u, xe u, xw u, xC u, v)
theorem xA_xA_ (u : XS) (v : Nat → Int32) : xA (xA_ u v) = v := rfl
theorem xF_xA_ (u : XS) (v : Nat → Int32) : xF (xA_ u v) = xF u := rfl
theorem xM_xA_ (u : XS) (v : Nat → Int32) : xM (xA_ u v) = xM u := rfl
theorem xS_xA_ (u : XS) (v : Nat → Int32) : xS (xA_ u v) = xS u := rfl
theorem xl_xA_ (u : XS) (v : Nat → Int32) : xl (xA_ u v) = xl u := rfl
theorem xn_xA_ (u : XS) (v : Nat → Int32) : xn (xA_ u v) = xn u := rfl
theorem xa_xA_ (u : XS) (v : Nat → Int32) : xa (xA_ u v) = xa u := rfl
theorem xg_xA_ (u : XS) (v : Nat → Int32) : xg (xA_ u v) = xg u := rfl
theorem xe_xA_ (u : XS) (v : Nat → Int32) : xe (xA_ u v) = xe u := rfl
theorem xw_xA_ (u : XS) (v : Nat → Int32) : xw (xA_ u v) = xw u := rfl
theorem xC_xA_ (u : XS) (v : Nat → Int32) : xC (xA_ u v) = xC u := rfl
theorem xc_xA_ (u : XS) (v : Nat → Int32) : xc (xA_ u v) = xc u := rfl
theorem xA_xF_ (u : XS) (v : Nat → Int32) : xA (xF_ u v) = xA u := rfl
theorem xF_xF_ (u : XS) (v : Nat → Int32) : xF (xF_ u v) = v := rfl
theorem xM_xF_ (u : XS) (v : Nat → Int32) : xM (xF_ u v) = xM u := rfl
theorem xS_xF_ (u : XS) (v : Nat → Int32) : xS (xF_ u v) = xS u := rfl
theorem xl_xF_ (u : XS) (v : Nat → Int32) : xl (xF_ u v) = xl u := rfl
theorem xn_xF_ (u : XS) (v : Nat → Int32) : xn (xF_ u v) = xn u := rfl
theorem xa_xF_ (u : XS) (v : Nat → Int32) : xa (xF_ u v) = xa u := rfl
theorem xg_xF_ (u : XS) (v : Nat → Int32) : xg (xF_ u v) = xg u := rfl
theorem xe_xF_ (u : XS) (v : Nat → Int32) : xe (xF_ u v) = xe u := rfl
theorem xw_xF_ (u : XS) (v : Nat → Int32) : xw (xF_ u v) = xw u := rfl
theorem xC_xF_ (u : XS) (v : Nat → Int32) : xC (xF_ u v) = xC u := rfl
theorem xc_xF_ (u : XS) (v : Nat → Int32) : xc (xF_ u v) = xc u := rfl
theorem xA_xM_ (u : XS) (v : Nat → Int32) : xA (xM_ u v) = xA u := rfl
theorem xF_xM_ (u : XS) (v : Nat → Int32) : xF (xM_ u v) = xF u := rfl
theorem xM_xM_ (u : XS) (v : Nat → Int32) : xM (xM_ u v) = v := rfl
theorem xS_xM_ (u : XS) (v : Nat → Int32) : xS (xM_ u v) = xS u := rfl
theorem xl_xM_ (u : XS) (v : Nat → Int32) : xl (xM_ u v) = xl u := rfl
theorem xn_xM_ (u : XS) (v : Nat → Int32) : xn (xM_ u v) = xn u := rfl
theorem xa_xM_ (u : XS) (v : Nat → Int32) : xa (xM_ u v) = xa u := rfl
theorem xg_xM_ (u : XS) (v : Nat → Int32) : xg (xM_ u v) = xg u := rfl
theorem xe_xM_ (u : XS) (v : Nat → Int32) : xe (xM_ u v) = xe u := rfl
theorem xw_xM_ (u : XS) (v : Nat → Int32) : xw (xM_ u v) = xw u := rfl
theorem xC_xM_ (u : XS) (v : Nat → Int32) : xC (xM_ u v) = xC u := rfl
theorem xc_xM_ (u : XS) (v : Nat → Int32) : xc (xM_ u v) = xc u := rfl
theorem xA_xS_ (u : XS) (v : Nat → Int32) : xA (xS_ u v) = xA u := rfl
theorem xF_xS_ (u : XS) (v : Nat → Int32) : xF (xS_ u v) = xF u := rfl
theorem xM_xS_ (u : XS) (v : Nat → Int32) : xM (xS_ u v) = xM u := rfl
theorem xS_xS_ (u : XS) (v : Nat → Int32) : xS (xS_ u v) = v := rfl
theorem xl_xS_ (u : XS) (v : Nat → Int32) : xl (xS_ u v) = xl u := rfl
theorem xn_xS_ (u : XS) (v : Nat → Int32) : xn (xS_ u v) = xn u := rfl
theorem xa_xS_ (u : XS) (v : Nat → Int32) : xa (xS_ u v) = xa u := rfl
theorem xg_xS_ (u : XS) (v : Nat → Int32) : xg (xS_ u v) = xg u := rfl
theorem xe_xS_ (u : XS) (v : Nat → Int32) : xe (xS_ u v) = xe u := rfl
theorem xw_xS_ (u : XS) (v : Nat → Int32) : xw (xS_ u v) = xw u := rfl
theorem xC_xS_ (u : XS) (v : Nat → Int32) : xC (xS_ u v) = xC u := rfl
theorem xc_xS_ (u : XS) (v : Nat → Int32) : xc (xS_ u v) = xc u := rfl
theorem xA_xl_ (u : XS) (v : Int32) : xA (xl_ u v) = xA u := rfl
theorem xF_xl_ (u : XS) (v : Int32) : xF (xl_ u v) = xF u := rfl
theorem xM_xl_ (u : XS) (v : Int32) : xM (xl_ u v) = xM u := rfl
theorem xS_xl_ (u : XS) (v : Int32) : xS (xl_ u v) = xS u := rfl
theorem xl_xl_ (u : XS) (v : Int32) : xl (xl_ u v) = v := rfl
theorem xn_xl_ (u : XS) (v : Int32) : xn (xl_ u v) = xn u := rfl
theorem xa_xl_ (u : XS) (v : Int32) : xa (xl_ u v) = xa u := rfl
theorem xg_xl_ (u : XS) (v : Int32) : xg (xl_ u v) = xg u := rfl
theorem xe_xl_ (u : XS) (v : Int32) : xe (xl_ u v) = xe u := rfl
theorem xw_xl_ (u : XS) (v : Int32) : xw (xl_ u v) = xw u := rfl
theorem xC_xl_ (u : XS) (v : Int32) : xC (xl_ u v) = xC u := rfl
theorem xc_xl_ (u : XS) (v : Int32) : xc (xl_ u v) = xc u := rfl
theorem xA_xn_ (u : XS) (v : Int32) : xA (xn_ u v) = xA u := rfl
theorem xF_xn_ (u : XS) (v : Int32) : xF (xn_ u v) = xF u := rfl
theorem xM_xn_ (u : XS) (v : Int32) : xM (xn_ u v) = xM u := rfl
theorem xS_xn_ (u : XS) (v : Int32) : xS (xn_ u v) = xS u := rfl
theorem xl_xn_ (u : XS) (v : Int32) : xl (xn_ u v) = xl u := rfl
theorem xn_xn_ (u : XS) (v : Int32) : xn (xn_ u v) = v := rfl
theorem xa_xn_ (u : XS) (v : Int32) : xa (xn_ u v) = xa u := rfl
theorem xg_xn_ (u : XS) (v : Int32) : xg (xn_ u v) = xg u := rfl
theorem xe_xn_ (u : XS) (v : Int32) : xe (xn_ u v) = xe u := rfl
theorem xw_xn_ (u : XS) (v : Int32) : xw (xn_ u v) = xw u := rfl
theorem xC_xn_ (u : XS) (v : Int32) : xC (xn_ u v) = xC u := rfl
theorem xc_xn_ (u : XS) (v : Int32) : xc (xn_ u v) = xc u := rfl
theorem xA_xa_ (u : XS) (v : Int32) : xA (xa_ u v) = xA u := rfl
theorem xF_xa_ (u : XS) (v : Int32) : xF (xa_ u v) = xF u := rfl
theorem xM_xa_ (u : XS) (v : Int32) : xM (xa_ u v) = xM u := rfl
theorem xS_xa_ (u : XS) (v : Int32) : xS (xa_ u v) = xS u := rfl
theorem xl_xa_ (u : XS) (v : Int32) : xl (xa_ u v) = xl u := rfl
theorem xn_xa_ (u : XS) (v : Int32) : xn (xa_ u v) = xn u := rfl
theorem xa_xa_ (u : XS) (v : Int32) : xa (xa_ u v) = v := rfl
theorem xg_xa_ (u : XS) (v : Int32) : xg (xa_ u v) = xg u := rfl
theorem xe_xa_ (u : XS) (v : Int32) : xe (xa_ u v) = xe u := rfl
theorem xw_xa_ (u : XS) (v : Int32) : xw (xa_ u v) = xw u := rfl
theorem xC_xa_ (u : XS) (v : Int32) : xC (xa_ u v) = xC u := rfl
theorem xc_xa_ (u : XS) (v : Int32) : xc (xa_ u v) = xc u := rfl
theorem xA_xg_ (u : XS) (v : Int32) : xA (xg_ u v) = xA u := rfl
theorem xF_xg_ (u : XS) (v : Int32) : xF (xg_ u v) = xF u := rfl
theorem xM_xg_ (u : XS) (v : Int32) : xM (xg_ u v) = xM u := rfl
theorem xS_xg_ (u : XS) (v : Int32) : xS (xg_ u v) = xS u := rfl
theorem xl_xg_ (u : XS) (v : Int32) : xl (xg_ u v) = xl u := rfl
theorem xn_xg_ (u : XS) (v : Int32) : xn (xg_ u v) = xn u := rfl
theorem xa_xg_ (u : XS) (v : Int32) : xa (xg_ u v) = xa u := rfl
theorem xg_xg_ (u : XS) (v : Int32) : xg (xg_ u v) = v := rfl
theorem xe_xg_ (u : XS) (v : Int32) : xe (xg_ u v) = xe u := rfl
theorem xw_xg_ (u : XS) (v : Int32) : xw (xg_ u v) = xw u := rfl
theorem xC_xg_ (u : XS) (v : Int32) : xC (xg_ u v) = xC u := rfl
theorem xc_xg_ (u : XS) (v : Int32) : xc (xg_ u v) = xc u := rfl
theorem xA_xe_ (u : XS) (v : Int32) : xA (xe_ u v) = xA u := rfl
theorem xF_xe_ (u : XS) (v : Int32) : xF (xe_ u v) = xF u := rfl
theorem xM_xe_ (u : XS) (v : Int32) : xM (xe_ u v) = xM u := rfl
theorem xS_xe_ (u : XS) (v : Int32) : xS (xe_ u v) = xS u := rfl
theorem xl_xe_ (u : XS) (v : Int32) : xl (xe_ u v) = xl u := rfl
theorem xn_xe_ (u : XS) (v : Int32) : xn (xe_ u v) = xn u := rfl
theorem xa_xe_ (u : XS) (v : Int32) : xa (xe_ u v) = xa u := rfl
theorem xg_xe_ (u : XS) (v : Int32) : xg (xe_ u v) = xg u := rfl
theorem xe_xe_ (u : XS) (v : Int32) : xe (xe_ u v) = v := rfl
theorem xw_xe_ (u : XS) (v : Int32) : xw (xe_ u v) = xw u := rfl
theorem xC_xe_ (u : XS) (v : Int32) : xC (xe_ u v) = xC u := rfl
theorem xc_xe_ (u : XS) (v : Int32) : xc (xe_ u v) = xc u := rfl
theorem xA_xw_ (u : XS) (v : Int32) : xA (xw_ u v) = xA u := rfl
theorem xF_xw_ (u : XS) (v : Int32) : xF (xw_ u v) = xF u := rfl
theorem xM_xw_ (u : XS) (v : Int32) : xM (xw_ u v) = xM u := rfl
theorem xS_xw_ (u : XS) (v : Int32) : xS (xw_ u v) = xS u := rfl
theorem xl_xw_ (u : XS) (v : Int32) : xl (xw_ u v) = xl u := rfl
theorem xn_xw_ (u : XS) (v : Int32) : xn (xw_ u v) = xn u := rfl
theorem xa_xw_ (u : XS) (v : Int32) : xa (xw_ u v) = xa u := rfl
theorem xg_xw_ (u : XS) (v : Int32) : xg (xw_ u v) = xg u := rfl
theorem xe_xw_ (u : XS) (v : Int32) : xe (xw_ u v) = xe u := rfl
theorem xw_xw_ (u : XS) (v : Int32) : xw (xw_ u v) = v := rfl
theorem xC_xw_ (u : XS) (v : Int32) : xC (xw_ u v) = xC u := rfl
theorem xc_xw_ (u : XS) (v : Int32) : xc (xw_ u v) = xc u := rfl
theorem xA_xC_ (u : XS) (v : Nat → Int32) : xA (xC_ u v) = xA u := rfl
theorem xF_xC_ (u : XS) (v : Nat → Int32) : xF (xC_ u v) = xF u := rfl
theorem xM_xC_ (u : XS) (v : Nat → Int32) : xM (xC_ u v) = xM u := rfl
theorem xS_xC_ (u : XS) (v : Nat → Int32) : xS (xC_ u v) = xS u := rfl
theorem xl_xC_ (u : XS) (v : Nat → Int32) : xl (xC_ u v) = xl u := rfl
theorem xn_xC_ (u : XS) (v : Nat → Int32) : xn (xC_ u v) = xn u := rfl
theorem xa_xC_ (u : XS) (v : Nat → Int32) : xa (xC_ u v) = xa u := rfl
theorem xg_xC_ (u : XS) (v : Nat → Int32) : xg (xC_ u v) = xg u := rfl
theorem xe_xC_ (u : XS) (v : Nat → Int32) : xe (xC_ u v) = xe u := rfl
theorem xw_xC_ (u : XS) (v : Nat → Int32) : xw (xC_ u v) = xw u := rfl
theorem xC_xC_ (u : XS) (v : Nat → Int32) : xC (xC_ u v) = v := rfl
theorem xc_xC_ (u : XS) (v : Nat → Int32) : xc (xC_ u v) = xc u := rfl
theorem xA_xc_ (u : XS) (v : Int32) : xA (xc_ u v) = xA u := rfl
theorem xF_xc_ (u : XS) (v : Int32) : xF (xc_ u v) = xF u := rfl
theorem xM_xc_ (u : XS) (v : Int32) : xM (xc_ u v) = xM u := rfl
theorem xS_xc_ (u : XS) (v : Int32) : xS (xc_ u v) = xS u := rfl
theorem xl_xc_ (u : XS) (v : Int32) : xl (xc_ u v) = xl u := rfl
theorem xn_xc_ (u : XS) (v : Int32) : xn (xc_ u v) = xn u := rfl
theorem xa_xc_ (u : XS) (v : Int32) : xa (xc_ u v) = xa u := rfl
theorem xg_xc_ (u : XS) (v : Int32) : xg (xc_ u v) = xg u := rfl
theorem xe_xc_ (u : XS) (v : Int32) : xe (xc_ u v) = xe u := rfl
theorem xw_xc_ (u : XS) (v : Int32) : xw (xc_ u v) = xw u := rfl
theorem xC_xc_ (u : XS) (v : Int32) : xC (xc_ u v) = xC u := rfl
theorem xc_xc_ (u : XS) (v : Int32) : xc (xc_ u v) = v := rfl
theorem XS_ext {u v : XS} (h0 : xA u = xA v) (h1 : xF u = xF v) (h2 : xM u = xM v) (h3 : xS u = xS v) (h4 : xl u = xl v) (h5 : xn u = xn v) (h6 : xa u = xa v) (h7 : xg u = xg v) (h8 : xe u = xe v) (h9 : xw u = xw v) (h10 : xC u = xC v) (h11 : xc u = xc v) : u = v := by
  obtain ⟨a0, a1, a2, a3, a4, a5, a6, a7, a8, a9, a10, a11⟩ := u
  obtain ⟨b0, b1, b2, b3, b4, b5, b6, b7, b8, b9, b10, b11⟩ := v
  cases (show a0 = b0 from h0)
  cases (show a1 = b1 from h1)
  cases (show a2 = b2 from h2)
  cases (show a3 = b3 from h3)
  cases (show a4 = b4 from h4)
  cases (show a5 = b5 from h5)
  cases (show a6 = b6 from h6)
  cases (show a7 = b7 from h7)
  cases (show a8 = b8 from h8)
  cases (show a9 = b9 from h9)
  cases (show a10 = b10 from h10)
  cases (show a11 = b11 from h11)
  rfl
abbrev MS : Type := Int32 × Int32 × Int32 × Int32 × Int32 × Int32 × Int32 × Int32 × Int32 × Int32 × (Nat → Int32) × Int32 × Int32 × Int32 × (Nat → Int32)
def mt (u : MS) : Int32 := u.1
def ml (u : MS) : Int32 := u.2.1
def mv (u : MS) : Int32 := u.2.2.1
def ma (u : MS) : Int32 := u.2.2.2.1
def mg (u : MS) : Int32 := u.2.2.2.2.1
def me (u : MS) : Int32 := u.2.2.2.2.2.1
def mw (u : MS) : Int32 := u.2.2.2.2.2.2.1
def mb (u : MS) : Int32 := u.2.2.2.2.2.2.2.1
def md (u : MS) : Int32 := u.2.2.2.2.2.2.2.2.1
def mr (u : MS) : Int32 := u.2.2.2.2.2.2.2.2.2.1
def mV (u : MS) : Nat → Int32 := u.2.2.2.2.2.2.2.2.2.2.1
def mf (u : MS) : Int32 := u.2.2.2.2.2.2.2.2.2.2.2.1
def mh (u : MS) : Int32 := u.2.2.2.2.2.2.2.2.2.2.2.2.1
def mk (u : MS) : Int32 := u.2.2.2.2.2.2.2.2.2.2.2.2.2.1
def mR (u : MS) : Nat → Int32 := u.2.2.2.2.2.2.2.2.2.2.2.2.2.2
def mt_ (u : MS) (v : Int32) : MS := (v, ml u, mv u, ma u, mg u, me u, mw u, mb u, md u, mr u, mV u, mf u, mh u, mk u, mR u)
def ml_ (u : MS) (v : Int32) : MS := (mt u, v, mv u, ma u, mg u, me u, mw u, mb u, md u, mr u, mV u, mf u, mh u, mk u, mR u)
def mv_ (u : MS) (v : Int32) : MS := (mt u, ml u, v, ma u, mg u, me u, mw u, mb u, md u, mr u, mV u, mf u, mh u, mk u, mR u)
def ma_ (u : MS) (v : Int32) : MS := (mt u, ml u, mv u, v, mg u, me u, mw u, mb u, md u, mr u, mV u, mf u, mh u, mk u, mR u)
def mg_ (u : MS) (v : Int32) : MS := (mt u, ml u, mv u, ma u, v, me u, mw u, mb u, md u, mr u, mV u, mf u, mh u, mk u, mR u)
def me_ (u : MS) (v : Int32) : MS := (mt u, ml u, mv u, ma u, mg u, v, mw u, mb u, md u, mr u, mV u, mf u, mh u, mk u, mR u)
def mw_ (u : MS) (v : Int32) : MS := (mt u, ml u, mv u, ma u, mg u, me u, v, mb u, md u, mr u, mV u, mf u, mh u, mk u, mR u)
def mb_ (u : MS) (v : Int32) : MS := (mt u, ml u, mv u, ma u, mg u, me u, mw u, v, md u, mr u, mV u, mf u, mh u, mk u, mR u)
def md_ (u : MS) (v : Int32) : MS := (mt u, ml u, mv u, ma u, mg u, me u, mw u, mb u, v, mr u, mV u, mf u, mh u, mk u, mR u)
def mr_ (u : MS) (v : Int32) : MS := (mt u, ml u, mv u, ma u, mg u, me u, mw u, mb u, md u, v, mV u, mf u, mh u, mk u, mR u)
def mV_ (u : MS) (v : Nat → Int32) : MS := (mt u, ml u, mv u, ma u, mg u, me u, mw u, mb u, md u, mr u, v, mf u, mh u, mk u, mR u)
def mf_ (u : MS) (v : Int32) : MS := (mt u, ml u, mv u, ma u, mg u, me u, mw u, mb u, md u, mr u, mV u, v, mh u, mk u, mR u)
def mh_ (u : MS) (v : Int32) : MS := (mt u, ml u, mv u, ma u, mg u, me u, mw u, mb u, md u, mr u, mV u, mf u, v, mk u, mR u)
def mk_ (u : MS) (v : Int32) : MS := (mt u, ml u, mv u, ma u, mg u, me u, mw u, mb u, md u, mr u, mV u, mf u, mh u, v, mR u)
def mR_ (u : MS) (v : Nat → Int32) : MS := (mt u, ml u, mv u, ma u, mg u, me u, mw u, mb u, md u, mr u, mV u, mf u, mh u, mk u, v)
theorem mt_mt_ (u : MS) (v : Int32) : mt (mt_ u v) = v := rfl
theorem ml_mt_ (u : MS) (v : Int32) : ml (mt_ u v) = ml u := rfl
theorem mv_mt_ (u : MS) (v : Int32) : mv (mt_ u v) = mv u := rfl
theorem ma_mt_ (u : MS) (v : Int32) : ma (mt_ u v) = ma u := rfl
theorem mg_mt_ (u : MS) (v : Int32) : mg (mt_ u v) = mg u := rfl
theorem me_mt_ (u : MS) (v : Int32) : me (mt_ u v) = me u := rfl
theorem mw_mt_ (u : MS) (v : Int32) : mw (mt_ u v) = mw u := rfl
theorem mb_mt_ (u : MS) (v : Int32) : mb (mt_ u v) = mb u := rfl
theorem md_mt_ (u : MS) (v : Int32) : md (mt_ u v) = md u := rfl
theorem mr_mt_ (u : MS) (v : Int32) : mr (mt_ u v) = mr u := rfl
theorem mV_mt_ (u : MS) (v : Int32) : mV (mt_ u v) = mV u := rfl
theorem mf_mt_ (u : MS) (v : Int32) : mf (mt_ u v) = mf u := rfl
theorem mh_mt_ (u : MS) (v : Int32) : mh (mt_ u v) = mh u := rfl
theorem mk_mt_ (u : MS) (v : Int32) : mk (mt_ u v) = mk u := rfl
theorem mR_mt_ (u : MS) (v : Int32) : mR (mt_ u v) = mR u := rfl
theorem mt_ml_ (u : MS) (v : Int32) : mt (ml_ u v) = mt u := rfl
theorem ml_ml_ (u : MS) (v : Int32) : ml (ml_ u v) = v := rfl
theorem mv_ml_ (u : MS) (v : Int32) : mv (ml_ u v) = mv u := rfl
theorem ma_ml_ (u : MS) (v : Int32) : ma (ml_ u v) = ma u := rfl
theorem mg_ml_ (u : MS) (v : Int32) : mg (ml_ u v) = mg u := rfl
theorem me_ml_ (u : MS) (v : Int32) : me (ml_ u v) = me u := rfl
theorem mw_ml_ (u : MS) (v : Int32) : mw (ml_ u v) = mw u := rfl
theorem mb_ml_ (u : MS) (v : Int32) : mb (ml_ u v) = mb u := rfl
theorem md_ml_ (u : MS) (v : Int32) : md (ml_ u v) = md u := rfl
theorem mr_ml_ (u : MS) (v : Int32) : mr (ml_ u v) = mr u := rfl
theorem mV_ml_ (u : MS) (v : Int32) : mV (ml_ u v) = mV u := rfl
theorem mf_ml_ (u : MS) (v : Int32) : mf (ml_ u v) = mf u := rfl
theorem mh_ml_ (u : MS) (v : Int32) : mh (ml_ u v) = mh u := rfl
theorem mk_ml_ (u : MS) (v : Int32) : mk (ml_ u v) = mk u := rfl
theorem mR_ml_ (u : MS) (v : Int32) : mR (ml_ u v) = mR u := rfl
theorem mt_mv_ (u : MS) (v : Int32) : mt (mv_ u v) = mt u := rfl
theorem ml_mv_ (u : MS) (v : Int32) : ml (mv_ u v) = ml u := rfl
theorem mv_mv_ (u : MS) (v : Int32) : mv (mv_ u v) = v := rfl
theorem ma_mv_ (u : MS) (v : Int32) : ma (mv_ u v) = ma u := rfl
theorem mg_mv_ (u : MS) (v : Int32) : mg (mv_ u v) = mg u := rfl
theorem me_mv_ (u : MS) (v : Int32) : me (mv_ u v) = me u := rfl
theorem mw_mv_ (u : MS) (v : Int32) : mw (mv_ u v) = mw u := rfl
theorem mb_mv_ (u : MS) (v : Int32) : mb (mv_ u v) = mb u := rfl
theorem md_mv_ (u : MS) (v : Int32) : md (mv_ u v) = md u := rfl
theorem mr_mv_ (u : MS) (v : Int32) : mr (mv_ u v) = mr u := rfl
theorem mV_mv_ (u : MS) (v : Int32) : mV (mv_ u v) = mV u := rfl
theorem mf_mv_ (u : MS) (v : Int32) : mf (mv_ u v) = mf u := rfl
theorem mh_mv_ (u : MS) (v : Int32) : mh (mv_ u v) = mh u := rfl
theorem mk_mv_ (u : MS) (v : Int32) : mk (mv_ u v) = mk u := rfl
theorem mR_mv_ (u : MS) (v : Int32) : mR (mv_ u v) = mR u := rfl
theorem mt_ma_ (u : MS) (v : Int32) : mt (ma_ u v) = mt u := rfl
theorem ml_ma_ (u : MS) (v : Int32) : ml (ma_ u v) = ml u := rfl
theorem mv_ma_ (u : MS) (v : Int32) : mv (ma_ u v) = mv u := rfl
theorem ma_ma_ (u : MS) (v : Int32) : ma (ma_ u v) = v := rfl
theorem mg_ma_ (u : MS) (v : Int32) : mg (ma_ u v) = mg u := rfl
theorem me_ma_ (u : MS) (v : Int32) : me (ma_ u v) = me u := rfl
theorem mw_ma_ (u : MS) (v : Int32) : mw (ma_ u v) = mw u := rfl
theorem mb_ma_ (u : MS) (v : Int32) : mb (ma_ u v) = mb u := rfl
theorem md_ma_ (u : MS) (v : Int32) : md (ma_ u v) = md u := rfl
theorem mr_ma_ (u : MS) (v : Int32) : mr (ma_ u v) = mr u := rfl
theorem mV_ma_ (u : MS) (v : Int32) : mV (ma_ u v) = mV u := rfl
theorem mf_ma_ (u : MS) (v : Int32) : mf (ma_ u v) = mf u := rfl
theorem mh_ma_ (u : MS) (v : Int32) : mh (ma_ u v) = mh u := rfl
theorem mk_ma_ (u : MS) (v : Int32) : mk (ma_ u v) = mk u := rfl
theorem mR_ma_ (u : MS) (v : Int32) : mR (ma_ u v) = mR u := rfl
theorem mt_mg_ (u : MS) (v : Int32) : mt (mg_ u v) = mt u := rfl
theorem ml_mg_ (u : MS) (v : Int32) : ml (mg_ u v) = ml u := rfl
theorem mv_mg_ (u : MS) (v : Int32) : mv (mg_ u v) = mv u := rfl
theorem ma_mg_ (u : MS) (v : Int32) : ma (mg_ u v) = ma u := rfl
theorem mg_mg_ (u : MS) (v : Int32) : mg (mg_ u v) = v := rfl
theorem me_mg_ (u : MS) (v : Int32) : me (mg_ u v) = me u := rfl
theorem mw_mg_ (u : MS) (v : Int32) : mw (mg_ u v) = mw u := rfl
theorem mb_mg_ (u : MS) (v : Int32) : mb (mg_ u v) = mb u := rfl
theorem md_mg_ (u : MS) (v : Int32) : md (mg_ u v) = md u := rfl
theorem mr_mg_ (u : MS) (v : Int32) : mr (mg_ u v) = mr u := rfl
theorem mV_mg_ (u : MS) (v : Int32) : mV (mg_ u v) = mV u := rfl
theorem mf_mg_ (u : MS) (v : Int32) : mf (mg_ u v) = mf u := rfl
theorem mh_mg_ (u : MS) (v : Int32) : mh (mg_ u v) = mh u := rfl
theorem mk_mg_ (u : MS) (v : Int32) : mk (mg_ u v) = mk u := rfl
theorem mR_mg_ (u : MS) (v : Int32) : mR (mg_ u v) = mR u := rfl
theorem mt_me_ (u : MS) (v : Int32) : mt (me_ u v) = mt u := rfl
theorem ml_me_ (u : MS) (v : Int32) : ml (me_ u v) = ml u := rfl
theorem mv_me_ (u : MS) (v : Int32) : mv (me_ u v) = mv u := rfl
theorem ma_me_ (u : MS) (v : Int32) : ma (me_ u v) = ma u := rfl
theorem mg_me_ (u : MS) (v : Int32) : mg (me_ u v) = mg u := rfl
theorem me_me_ (u : MS) (v : Int32) : me (me_ u v) = v := rfl
theorem mw_me_ (u : MS) (v : Int32) : mw (me_ u v) = mw u := rfl
theorem mb_me_ (u : MS) (v : Int32) : mb (me_ u v) = mb u := rfl
theorem md_me_ (u : MS) (v : Int32) : md (me_ u v) = md u := rfl
theorem mr_me_ (u : MS) (v : Int32) : mr (me_ u v) = mr u := rfl
theorem mV_me_ (u : MS) (v : Int32) : mV (me_ u v) = mV u := rfl
theorem mf_me_ (u : MS) (v : Int32) : mf (me_ u v) = mf u := rfl
theorem mh_me_ (u : MS) (v : Int32) : mh (me_ u v) = mh u := rfl
theorem mk_me_ (u : MS) (v : Int32) : mk (me_ u v) = mk u := rfl
theorem mR_me_ (u : MS) (v : Int32) : mR (me_ u v) = mR u := rfl
theorem mt_mw_ (u : MS) (v : Int32) : mt (mw_ u v) = mt u := rfl
theorem ml_mw_ (u : MS) (v : Int32) : ml (mw_ u v) = ml u := rfl
theorem mv_mw_ (u : MS) (v : Int32) : mv (mw_ u v) = mv u := rfl
theorem ma_mw_ (u : MS) (v : Int32) : ma (mw_ u v) = ma u := rfl
theorem mg_mw_ (u : MS) (v : Int32) : mg (mw_ u v) = mg u := rfl
theorem me_mw_ (u : MS) (v : Int32) : me (mw_ u v) = me u := rfl
theorem mw_mw_ (u : MS) (v : Int32) : mw (mw_ u v) = v := rfl
theorem mb_mw_ (u : MS) (v : Int32) : mb (mw_ u v) = mb u := rfl
theorem md_mw_ (u : MS) (v : Int32) : md (mw_ u v) = md u := rfl
theorem mr_mw_ (u : MS) (v : Int32) : mr (mw_ u v) = mr u := rfl
theorem mV_mw_ (u : MS) (v : Int32) : mV (mw_ u v) = mV u := rfl
theorem mf_mw_ (u : MS) (v : Int32) : mf (mw_ u v) = mf u := rfl
theorem mh_mw_ (u : MS) (v : Int32) : mh (mw_ u v) = mh u := rfl
theorem mk_mw_ (u : MS) (v : Int32) : mk (mw_ u v) = mk u := rfl
theorem mR_mw_ (u : MS) (v : Int32) : mR (mw_ u v) = mR u := rfl
theorem mt_mb_ (u : MS) (v : Int32) : mt (mb_ u v) = mt u := rfl
theorem ml_mb_ (u : MS) (v : Int32) : ml (mb_ u v) = ml u := rfl
theorem mv_mb_ (u : MS) (v : Int32) : mv (mb_ u v) = mv u := rfl
theorem ma_mb_ (u : MS) (v : Int32) : ma (mb_ u v) = ma u := rfl
theorem mg_mb_ (u : MS) (v : Int32) : mg (mb_ u v) = mg u := rfl
theorem me_mb_ (u : MS) (v : Int32) : me (mb_ u v) = me u := rfl
theorem mw_mb_ (u : MS) (v : Int32) : mw (mb_ u v) = mw u := rfl
theorem mb_mb_ (u : MS) (v : Int32) : mb (mb_ u v) = v := rfl
theorem md_mb_ (u : MS) (v : Int32) : md (mb_ u v) = md u := rfl
theorem mr_mb_ (u : MS) (v : Int32) : mr (mb_ u v) = mr u := rfl
theorem mV_mb_ (u : MS) (v : Int32) : mV (mb_ u v) = mV u := rfl
theorem mf_mb_ (u : MS) (v : Int32) : mf (mb_ u v) = mf u := rfl
theorem mh_mb_ (u : MS) (v : Int32) : mh (mb_ u v) = mh u := rfl
theorem mk_mb_ (u : MS) (v : Int32) : mk (mb_ u v) = mk u := rfl
theorem mR_mb_ (u : MS) (v : Int32) : mR (mb_ u v) = mR u := rfl
theorem mt_md_ (u : MS) (v : Int32) : mt (md_ u v) = mt u := rfl
theorem ml_md_ (u : MS) (v : Int32) : ml (md_ u v) = ml u := rfl
theorem mv_md_ (u : MS) (v : Int32) : mv (md_ u v) = mv u := rfl
theorem ma_md_ (u : MS) (v : Int32) : ma (md_ u v) = ma u := rfl
theorem mg_md_ (u : MS) (v : Int32) : mg (md_ u v) = mg u := rfl
theorem me_md_ (u : MS) (v : Int32) : me (md_ u v) = me u := rfl
theorem mw_md_ (u : MS) (v : Int32) : mw (md_ u v) = mw u := rfl
theorem mb_md_ (u : MS) (v : Int32) : mb (md_ u v) = mb u := rfl
theorem md_md_ (u : MS) (v : Int32) : md (md_ u v) = v := rfl
theorem mr_md_ (u : MS) (v : Int32) : mr (md_ u v) = mr u := rfl
theorem mV_md_ (u : MS) (v : Int32) : mV (md_ u v) = mV u := rfl
theorem mf_md_ (u : MS) (v : Int32) : mf (md_ u v) = mf u := rfl
theorem mh_md_ (u : MS) (v : Int32) : mh (md_ u v) = mh u := rfl
theorem mk_md_ (u : MS) (v : Int32) : mk (md_ u v) = mk u := rfl
theorem mR_md_ (u : MS) (v : Int32) : mR (md_ u v) = mR u := rfl
theorem mt_mr_ (u : MS) (v : Int32) : mt (mr_ u v) = mt u := rfl
theorem ml_mr_ (u : MS) (v : Int32) : ml (mr_ u v) = ml u := rfl
theorem mv_mr_ (u : MS) (v : Int32) : mv (mr_ u v) = mv u := rfl
theorem ma_mr_ (u : MS) (v : Int32) : ma (mr_ u v) = ma u := rfl
theorem mg_mr_ (u : MS) (v : Int32) : mg (mr_ u v) = mg u := rfl
theorem me_mr_ (u : MS) (v : Int32) : me (mr_ u v) = me u := rfl
theorem mw_mr_ (u : MS) (v : Int32) : mw (mr_ u v) = mw u := rfl
theorem mb_mr_ (u : MS) (v : Int32) : mb (mr_ u v) = mb u := rfl
theorem md_mr_ (u : MS) (v : Int32) : md (mr_ u v) = md u := rfl
theorem mr_mr_ (u : MS) (v : Int32) : mr (mr_ u v) = v := rfl
theorem mV_mr_ (u : MS) (v : Int32) : mV (mr_ u v) = mV u := rfl
theorem mf_mr_ (u : MS) (v : Int32) : mf (mr_ u v) = mf u := rfl
theorem mh_mr_ (u : MS) (v : Int32) : mh (mr_ u v) = mh u := rfl
theorem mk_mr_ (u : MS) (v : Int32) : mk (mr_ u v) = mk u := rfl
theorem mR_mr_ (u : MS) (v : Int32) : mR (mr_ u v) = mR u := rfl
theorem mt_mV_ (u : MS) (v : Nat → Int32) : mt (mV_ u v) = mt u := rfl
theorem ml_mV_ (u : MS) (v : Nat → Int32) : ml (mV_ u v) = ml u := rfl
theorem mv_mV_ (u : MS) (v : Nat → Int32) : mv (mV_ u v) = mv u := rfl
theorem ma_mV_ (u : MS) (v : Nat → Int32) : ma (mV_ u v) = ma u := rfl
theorem mg_mV_ (u : MS) (v : Nat → Int32) : mg (mV_ u v) = mg u := rfl
theorem me_mV_ (u : MS) (v : Nat → Int32) : me (mV_ u v) = me u := rfl
theorem mw_mV_ (u : MS) (v : Nat → Int32) : mw (mV_ u v) = mw u := rfl
theorem mb_mV_ (u : MS) (v : Nat → Int32) : mb (mV_ u v) = mb u := rfl
theorem md_mV_ (u : MS) (v : Nat → Int32) : md (mV_ u v) = md u := rfl
theorem mr_mV_ (u : MS) (v : Nat → Int32) : mr (mV_ u v) = mr u := rfl
theorem mV_mV_ (u : MS) (v : Nat → Int32) : mV (mV_ u v) = v := rfl
theorem mf_mV_ (u : MS) (v : Nat → Int32) : mf (mV_ u v) = mf u := rfl
theorem mh_mV_ (u : MS) (v : Nat → Int32) : mh (mV_ u v) = mh u := rfl
theorem mk_mV_ (u : MS) (v : Nat → Int32) : mk (mV_ u v) = mk u := rfl
theorem mR_mV_ (u : MS) (v : Nat → Int32) : mR (mV_ u v) = mR u := rfl
theorem mt_mf_ (u : MS) (v : Int32) : mt (mf_ u v) = mt u := rfl
theorem ml_mf_ (u : MS) (v : Int32) : ml (mf_ u v) = ml u := rfl
theorem mv_mf_ (u : MS) (v : Int32) : mv (mf_ u v) = mv u := rfl
theorem ma_mf_ (u : MS) (v : Int32) : ma (mf_ u v) = ma u := rfl
theorem mg_mf_ (u : MS) (v : Int32) : mg (mf_ u v) = mg u := rfl
theorem me_mf_ (u : MS) (v : Int32) : me (mf_ u v) = me u := rfl
theorem mw_mf_ (u : MS) (v : Int32) : mw (mf_ u v) = mw u := rfl
theorem mb_mf_ (u : MS) (v : Int32) : mb (mf_ u v) = mb u := rfl
theorem md_mf_ (u : MS) (v : Int32) : md (mf_ u v) = md u := rfl
theorem mr_mf_ (u : MS) (v : Int32) : mr (mf_ u v) = mr u := rfl
theorem mV_mf_ (u : MS) (v : Int32) : mV (mf_ u v) = mV u := rfl
theorem mf_mf_ (u : MS) (v : Int32) : mf (mf_ u v) = v := rfl
theorem mh_mf_ (u : MS) (v : Int32) : mh (mf_ u v) = mh u := rfl
theorem mk_mf_ (u : MS) (v : Int32) : mk (mf_ u v) = mk u := rfl
theorem mR_mf_ (u : MS) (v : Int32) : mR (mf_ u v) = mR u := rfl
theorem mt_mh_ (u : MS) (v : Int32) : mt (mh_ u v) = mt u := rfl
theorem ml_mh_ (u : MS) (v : Int32) : ml (mh_ u v) = ml u := rfl
theorem mv_mh_ (u : MS) (v : Int32) : mv (mh_ u v) = mv u := rfl
theorem ma_mh_ (u : MS) (v : Int32) : ma (mh_ u v) = ma u := rfl
theorem mg_mh_ (u : MS) (v : Int32) : mg (mh_ u v) = mg u := rfl
theorem me_mh_ (u : MS) (v : Int32) : me (mh_ u v) = me u := rfl
theorem mw_mh_ (u : MS) (v : Int32) : mw (mh_ u v) = mw u := rfl
theorem mb_mh_ (u : MS) (v : Int32) : mb (mh_ u v) = mb u := rfl
theorem md_mh_ (u : MS) (v : Int32) : md (mh_ u v) = md u := rfl
theorem mr_mh_ (u : MS) (v : Int32) : mr (mh_ u v) = mr u := rfl
theorem mV_mh_ (u : MS) (v : Int32) : mV (mh_ u v) = mV u := rfl
theorem mf_mh_ (u : MS) (v : Int32) : mf (mh_ u v) = mf u := rfl
theorem mh_mh_ (u : MS) (v : Int32) : mh (mh_ u v) = v := rfl
theorem mk_mh_ (u : MS) (v : Int32) : mk (mh_ u v) = mk u := rfl
theorem mR_mh_ (u : MS) (v : Int32) : mR (mh_ u v) = mR u := rfl
theorem mt_mk_ (u : MS) (v : Int32) : mt (mk_ u v) = mt u := rfl
theorem ml_mk_ (u : MS) (v : Int32) : ml (mk_ u v) = ml u := rfl
theorem mv_mk_ (u : MS) (v : Int32) : mv (mk_ u v) = mv u := rfl
theorem ma_mk_ (u : MS) (v : Int32) : ma (mk_ u v) = ma u := rfl
theorem mg_mk_ (u : MS) (v : Int32) : mg (mk_ u v) = mg u := rfl
theorem me_mk_ (u : MS) (v : Int32) : me (mk_ u v) = me u := rfl
theorem mw_mk_ (u : MS) (v : Int32) : mw (mk_ u v) = mw u := rfl
theorem mb_mk_ (u : MS) (v : Int32) : mb (mk_ u v) = mb u := rfl
theorem md_mk_ (u : MS) (v : Int32) : md (mk_ u v) = md u := rfl
theorem mr_mk_ (u : MS) (v : Int32) : mr (mk_ u v) = mr u := rfl
theorem mV_mk_ (u : MS) (v : Int32) : mV (mk_ u v) = mV u := rfl
theorem mf_mk_ (u : MS) (v : Int32) : mf (mk_ u v) = mf u := rfl
theorem mh_mk_ (u : MS) (v : Int32) : mh (mk_ u v) = mh u := rfl
theorem mk_mk_ (u : MS) (v : Int32) : mk (mk_ u v) = v := rfl
theorem mR_mk_ (u : MS) (v : Int32) : mR (mk_ u v) = mR u := rfl
theorem mt_mR_ (u : MS) (v : Nat → Int32) : mt (mR_ u v) = mt u := rfl
theorem ml_mR_ (u : MS) (v : Nat → Int32) : ml (mR_ u v) = ml u := rfl
theorem mv_mR_ (u : MS) (v : Nat → Int32) : mv (mR_ u v) = mv u := rfl
theorem ma_mR_ (u : MS) (v : Nat → Int32) : ma (mR_ u v) = ma u := rfl
theorem mg_mR_ (u : MS) (v : Nat → Int32) : mg (mR_ u v) = mg u := rfl
theorem me_mR_ (u : MS) (v : Nat → Int32) : me (mR_ u v) = me u := rfl
theorem mw_mR_ (u : MS) (v : Nat → Int32) : mw (mR_ u v) = mw u := rfl
theorem mb_mR_ (u : MS) (v : Nat → Int32) : mb (mR_ u v) = mb u := rfl
theorem md_mR_ (u : MS) (v : Nat → Int32) : md (mR_ u v) = md u := rfl
theorem mr_mR_ (u : MS) (v : Nat → Int32) : mr (mR_ u v) = mr u := rfl
theorem mV_mR_ (u : MS) (v : Nat → Int32) : mV (mR_ u v) = mV u := rfl
theorem mf_mR_ (u : MS) (v : Nat → Int32) : mf (mR_ u v) = mf u := rfl
theorem mh_mR_ (u : MS) (v : Nat → Int32) : mh (mR_ u v) = mh u := rfl
theorem mk_mR_ (u : MS) (v : Nat → Int32) : mk (mR_ u v) = mk u := rfl
theorem mR_mR_ (u : MS) (v : Nat → Int32) : mR (mR_ u v) = v := rfl
theorem MS_ext {u v : MS} (h0 : mt u = mt v) (h1 : ml u = ml v) (h2 : mv u = mv v) (h3 : ma u = ma v) (h4 : mg u = mg v) (h5 : me u = me v) (h6 : mw u = mw v) (h7 : mb u = mb v) (h8 : md u = md v) (h9 : mr u = mr v) (h10 : mV u = mV v) (h11 : mf u = mf v) (h12 : mh u = mh v) (h13 : mk u = mk v) (h14 : mR u = mR v) : u = v := by
  obtain ⟨a0, a1, a2, a3, a4, a5, a6, a7, a8, a9, a10, a11, a12, a13, a14⟩ := u
  obtain ⟨b0, b1, b2, b3, b4, b5, b6, b7, b8, b9, b10, b11, b12, b13, b14⟩ := v
  cases (show a0 = b0 from h0)
  cases (show a1 = b1 from h1)
  cases (show a2 = b2 from h2)
  cases (show a3 = b3 from h3)
  cases (show a4 = b4 from h4)
  cases (show a5 = b5 from h5)
  cases (show a6 = b6 from h6)
  cases (show a7 = b7 from h7)
  cases (show a8 = b8 from h8)
  cases (show a9 = b9 from h9)
  cases (show a10 = b10 from h10)
  cases (show a11 = b11 from h11)
  cases (show a12 = b12 from h12)
  cases (show a13 = b13 from h13)
  cases (show a14 = b14 from h14)
  rfl
abbrev tyl (cI cZ : ClassId) : List (ClassId × FieldType) := [(cI, .int), (cZ, .boolean)]
/-- the class's six cells: h 0 the object, h 1 active, h 2 flashing, h 3 measures, h 4 soundness, h 5 changes -/
abbrev wX (cI cZ : ClassId) (h : Nat → Nat) (u : XS) : va_W := [(h 0, .inr (0, [.ref (h 1), .ref (h 2), .ref (h 3), .ref (h 4), .int (xl u), .int (xn u), .int (xa u), .int (xg u), .int (xe u), .int (xw u), .ref (h 5), .int (xc u)])), (h 1, .inl (cI, 2, .inl (xA u))), (h 2, .inl (cI, 2, .inl (xF u))), (h 3, .inl (cI, 7, .inl (xM u))), (h 4, .inl (cZ, 2, .inl (xS u))), (h 5, .inl (cI, 300, .inl (xC u)))]
/-- the reference's three cells: h 0 the object, h 1 values, h 2 rows -/
abbrev wM (cI _cZ : ClassId) (h : Nat → Nat) (u : MS) : va_W := [(h 0, .inr (1, [.int (mt u), .int (ml u), .int (mv u), .int (ma u), .int (mg u), .int (me u), .int (mw u), .int (mb u), .int (md u), .int (mr u), .ref (h 1), .int (mf u), .int (mh u), .int (mk u), .ref (h 2)])), (h 1, .inl (cI, 7, .inl (mV u))), (h 2, .inl (cI, 1200, .inl (mR u)))]
abbrev wE (_ : Unit) : va_W := []
/-- a contract's start over a world -/
def PcW (D : va_G) (tys : List (ClassId × FieldType)) (ws : va_W) (sz : Nat) : State → Prop := fun U => U.heap.size = sz ∧ va_P D vwCl ws U.heap ∧ va_K D vwCl tys U ∧ va_D (fun _ => True) ws
/-- the world behind a method -/
def BW {S : Type} (D : va_G) (tys : List (ClassId × FieldType)) (A : Nat → Prop) (wf : S → va_W) : S → State → Prop := fun u t => va_P D vwCl (wf u) t.heap ∧ va_K D vwCl tys t ∧ va_D A (wf u)
abbrev Mi {S : Type} (l : Launch) (y : MethodName) (ws : List Cond) (rm : Room) (D : va_G) (tys : List (ClassId × FieldType)) (wf : S → va_W) (sz : Nat) (u : S) (av : List Value) (post : Int32 → S → Prop) : Prop :=
  Met l y ws rm (va_Pc av (PcW D tys (wf u) sz)) (va_Qi post (BW D tys (va_A (wf u) sz) wf) (va_A (wf u) sz)) 0 0 (va_A (wf u) sz)
abbrev Mv {S : Type} (l : Launch) (y : MethodName) (ws : List Cond) (rm : Room) (D : va_G) (tys : List (ClassId × FieldType)) (wf : S → va_W) (sz : Nat) (u : S) (av : List Value) (post : S → Prop) : Prop :=
  Met l y ws rm (va_Pc av (PcW D tys (wf u) sz)) (va_Qv post (BW D tys (va_A (wf u) sz) wf) (va_A (wf u) sz)) 0 0 (va_A (wf u) sz)
theorem bl_W {D : va_G} {tys : List (ClassId × FieldType)} {ws : va_W} {sz : Nat} {av : List Value} : FrameBlind (va_Pc av (PcW D tys ws sz)) := fun a U g mk q => by
  obtain ⟨q0, q1, qP, qK, qD⟩ := q
  exact ⟨q0, q1, qP, va_K.moved (u := U) (U := U.calling g mk a) (Vm.Alike.refl U.vm) qK, qD⟩
theorem pr_W {D : va_G} {tys : List (ClassId × FieldType)} {ws : va_W} {av : List Value} {s : State} {H : Heap} {A : Nat → Prop} (hP : va_P D vwCl ws H) (hK : va_K D vwCl tys s) (hD : va_D A ws) : ∀ U : State, U.heap = H → s.WarmedH U.vm → va_Pc av (PcW D tys ws H.size) av.toArray U := fun U hU hW =>
  ⟨rfl, by rw [hU], by rw [hU]; exact hP, va_K.moved hW.alike hK, hD.weaken (fun _ _ _ _ => trivial)⟩
theorem af_W {S : Type} {D : va_G} {tys : List (ClassId × FieldType)} {wf : S → va_W} {u : S} {s t : State} {H1 : Heap} {A A1 : Nat → Prop} (hB : BW D tys A1 wf u t) (ht : t.heap = H1) (hvm : s.vm.Alike t.vm) (hF : ∀ q, A1 q → A q) : va_P D vwCl (wf u) H1 ∧ va_K D vwCl tys s ∧ va_D A (wf u) := by
  obtain ⟨hP1, hK1, hD1⟩ := hB
  rw [ht] at hP1
  exact ⟨hP1, va_K.moved hvm.symm hK1, hD1.weaken (fun _ q _ h => hF q.1 h)⟩
theorem af_E {D : va_G} {ws : va_W} {H H1 : Heap} (hP : va_P D vwCl ws H) (hk : ∀ q : Nat, q < H.size → ¬ va_A (wE ()) H.size q → H1[q]? = H[q]?) : va_P D vwCl ws H1 :=
  hP.kept (fun k q hq => hk q.1 (hP k q hq).lt (fun hA => by
    rcases hA with ⟨k9, e9, h9⟩ | h9
    · simp [wE] at h9
    · exact absurd (hP k q hq).lt (Nat.not_lt.mpr h9)))
theorem fr_E {A : Nat → Prop} {H0 H : Heap} {locs : List Loc} (hS : va_S A H0 H locs) (hA : ∀ q, H0.size ≤ q → A q) : ∀ q, va_A (wE ()) H.size q → A q := fun q h => by
  rcases h with ⟨k9, e9, h9⟩ | h9
  · simp [wE] at h9
  · exact hA q (Nat.le_trans hS.1 h9)
theorem pE {D : va_G} {H : Heap} : va_P D vwCl (wE ()) H := fun k q h => by simp [wE] at h
theorem dE {A : Nat → Prop} : va_D A (wE ()) := ⟨fun i j p q h => by simp [wE] at h, fun k q h => by simp [wE] at h⟩
theorem vi_c {x : Int32} {n : Nat} (h : decide (¬ (x < 0 ∨ n ≤ x.toNatClampNeg)) = true) : vp_in x n := of_decide_eq_true (p := ¬ (x < 0 ∨ n ≤ x.toNatClampNeg)) h
theorem vi_2 {x : Int32} (h : x = 0 ∨ x = 1) : vp_in x 2 := by rcases h with rfl | rfl <;> exact vi_c (by decide)
def bz (x : Int32) : Prop := x = 0 ∨ x = 1
theorem bz0 : bz 0 := Or.inl rfl
theorem bz1 : bz 1 := Or.inr rfl
theorem bz_n {x : Int32} (h : bz x) : narrow .boolean (.int x) = .int x := by rcases h with rfl | rfl <;> decide
theorem bz_f {x : Int32} (h : bz x) : fits .boolean (.int x) = true := by rcases h with rfl | rfl <;> decide
theorem bz_v {x : Int32} (h : bz x) : vp_nar .boolean x = x := by rcases h with rfl | rfl <;> decide
theorem bz_s {x : Int32} (h : bz x) : bz (1 - x) := by
  rcases h with rfl | rfl
  · exact Or.inr (by decide)
  · exact Or.inl (by decide)
theorem ti_ne {x k : Int32} {n : Int} (h : ¬ x = k) (hk : k.toInt = n) : x.toInt ≠ n := fun e => h (Int32.toInt_inj.mp (e.trans hk.symm))
def InvX (u : XS) : Prop := bz (xl u) ∧ bz (xn u) ∧ bz (xa u) ∧ bz (xg u) ∧ bz (xe u) ∧ bz (xw u) ∧ ∃ k : Nat, k ≤ 300 ∧ xc u = nI k
theorem InvX.sA {u : XS} (h : InvX u) (f : Nat → Int32) : InvX (xA_ u f) := h
theorem InvX.sF {u : XS} (h : InvX u) (f : Nat → Int32) : InvX (xF_ u f) := h
theorem InvX.sM {u : XS} (h : InvX u) (f : Nat → Int32) : InvX (xM_ u f) := h
theorem InvX.sS {u : XS} (h : InvX u) (f : Nat → Int32) : InvX (xS_ u f) := h
theorem InvX.sC {u : XS} (h : InvX u) (f : Nat → Int32) : InvX (xC_ u f) := h
theorem InvX.sl {u : XS} (h : InvX u) {v : Int32} (hv : bz v) : InvX (xl_ u v) := ⟨hv, h.2⟩
theorem InvX.sn {u : XS} (h : InvX u) {v : Int32} (hv : bz v) : InvX (xn_ u v) := ⟨h.1, hv, h.2.2⟩
theorem InvX.sa {u : XS} (h : InvX u) {v : Int32} (hv : bz v) : InvX (xa_ u v) := ⟨h.1, h.2.1, hv, h.2.2.2⟩
theorem InvX.sg {u : XS} (h : InvX u) {v : Int32} (hv : bz v) : InvX (xg_ u v) := ⟨h.1, h.2.1, h.2.2.1, hv, h.2.2.2.2⟩
theorem InvX.se {u : XS} (h : InvX u) {v : Int32} (hv : bz v) : InvX (xe_ u v) := ⟨h.1, h.2.1, h.2.2.1, h.2.2.2.1, hv, h.2.2.2.2.2⟩
theorem InvX.sw {u : XS} (h : InvX u) {v : Int32} (hv : bz v) : InvX (xw_ u v) := ⟨h.1, h.2.1, h.2.2.1, h.2.2.2.1, h.2.2.2.2.1, hv, h.2.2.2.2.2.2⟩
theorem InvX.cIn {u : XS} (h : InvX u) (c : ¬ (300 : Int32) ≤ xc u) : vp_in (xc u) 300 := by
  obtain ⟨k, hk, e⟩ := h.2.2.2.2.2.2
  rw [e] at c ⊢
  rcases Nat.lt_or_ge k 300 with q | q
  · exact vp_in_nI q (by decide)
  · exact absurd (nI_le (a := 300) (b := k) q (by omega)) c
theorem InvX.sc {u : XS} (h : InvX u) (c : ¬ (300 : Int32) ≤ xc u) : InvX (xc_ u (xc u + 1)) := by
  obtain ⟨h1, h2, h3, h4, h5, h6, k, hk, e⟩ := h
  refine ⟨h1, h2, h3, h4, h5, h6, k + 1, ?_, ?_⟩
  · rcases Nat.lt_or_ge k 300 with q | q
    · exact q
    · exact absurd (by rw [e]; exact nI_le (a := 300) (b := k) q (by omega)) c
  · show xc u + 1 = nI (k + 1)
    rw [e]; exact nI_1 k
theorem InvX.kIn {u : XS} (h : InvX u) {i : Int32} (c0 : ¬ i < 0) (c : ¬ xc u ≤ i) : vp_in i 300 := by
  obtain ⟨k, hk, e⟩ := h.2.2.2.2.2.2
  obtain ⟨j, hj, rfl⟩ := nI_of c0
  rw [e] at c
  refine vp_in_nI ?_ (by decide)
  rcases Nat.lt_or_ge j k with q | q
  · omega
  · exact absurd (nI_le q hj) c
theorem InvX.kIn2 {u : XS} (h : InvX u) {i : Int32} (c0 : ¬ i < 0) (c : i < xc u) : vp_in i 300 := h.kIn c0 (Int32.not_le.mpr c)
theorem vi_7 {x : Int32} (c0 : ¬ x < 0) (c : ¬ (6 : Int32) < x) : vp_in x 7 := by
  obtain ⟨j, hj, rfl⟩ := nI_of c0
  refine vp_in_nI ?_ (by decide)
  rcases Nat.lt_or_ge j 7 with q | q
  · exact q
  · exact absurd (nI_lt (a := 6) (b := j) q hj) c
theorem vi_k {i w : Int32} (c0 : ¬ i < 0) (c1 : ¬ (299 : Int32) < i) (c2 : ¬ w < 0) (c3 : w ≤ 3) : vp_in (4 * i + w) 1200 := by
  obtain ⟨j, hj, rfl⟩ := nI_of c0
  obtain ⟨k, hk, rfl⟩ := nI_of c2
  have h1 : j < 300 := by
    rcases Nat.lt_or_ge j 300 with q | q
    · exact q
    · exact absurd (nI_lt (a := 299) (b := j) q hj) c1
  have h2 : k < 4 := by
    rcases Nat.lt_or_ge k 4 with q | q
    · exact q
    · exact absurd c3 (nI_ge (a := 3) (b := k) q hk)
  have h4 : (4 : Int32) * nI j = nI (4 * j) := pk_mul 4 j
  rw [h4, nI_add]
  exact vp_in_nI (by omega) (by decide)
theorem lx_step {k : Nat} {j : Int32} (h : j = nI (1000 - (k + 1))) (hk : k + 1 ≤ 1000) : j + 1 = nI (1000 - k) := by
  rw [h, nI_1, show 1000 - (k + 1) + 1 = 1000 - k by omega]
theorem lx_lt {k : Nat} {j : Int32} (h : j = nI (1000 - (k + 1))) (hk : k + 1 ≤ 1000) : ¬ (1000 : Int32) ≤ j := by
  rw [h]; exact nI_ge (a := 1000 - (k + 1)) (b := 1000) (by omega) (by decide)
def InvM (n : Nat) (u : MS) : Prop := bz (mg u) ∧ bz (me u) ∧ bz (mw u) ∧ bz (mb u) ∧ bz (md u) ∧ bz (mr u) ∧ ∃ k : Nat, k ≤ n ∧ mk u = nI k
theorem InvM.mono {n n' : Nat} {u : MS} (h : InvM n u) (hn : n ≤ n') : InvM n' u := by
  obtain ⟨h1, h2, h3, h4, h5, h6, k, hk, e⟩ := h
  exact ⟨h1, h2, h3, h4, h5, h6, k, Nat.le_trans hk hn, e⟩
theorem InvM.st {n : Nat} {u : MS} (h : InvM n u) (v : Int32) : InvM n (mt_ u v) := h
theorem InvM.sl {n : Nat} {u : MS} (h : InvM n u) (v : Int32) : InvM n (ml_ u v) := h
theorem InvM.sv {n : Nat} {u : MS} (h : InvM n u) (v : Int32) : InvM n (mv_ u v) := h
theorem InvM.sa {n : Nat} {u : MS} (h : InvM n u) (v : Int32) : InvM n (ma_ u v) := h
theorem InvM.sf {n : Nat} {u : MS} (h : InvM n u) (v : Int32) : InvM n (mf_ u v) := h
theorem InvM.sh {n : Nat} {u : MS} (h : InvM n u) (v : Int32) : InvM n (mh_ u v) := h
theorem InvM.sV {n : Nat} {u : MS} (h : InvM n u) (f : Nat → Int32) : InvM n (mV_ u f) := h
theorem InvM.sR {n : Nat} {u : MS} (h : InvM n u) (f : Nat → Int32) : InvM n (mR_ u f) := h
theorem InvM.sg {n : Nat} {u : MS} (h : InvM n u) {v : Int32} (hv : bz v) : InvM n (mg_ u v) := ⟨hv, h.2⟩
theorem InvM.se {n : Nat} {u : MS} (h : InvM n u) {v : Int32} (hv : bz v) : InvM n (me_ u v) := ⟨h.1, hv, h.2.2⟩
theorem InvM.sw {n : Nat} {u : MS} (h : InvM n u) {v : Int32} (hv : bz v) : InvM n (mw_ u v) := ⟨h.1, h.2.1, hv, h.2.2.2⟩
theorem InvM.sb {n : Nat} {u : MS} (h : InvM n u) {v : Int32} (hv : bz v) : InvM n (mb_ u v) := ⟨h.1, h.2.1, h.2.2.1, hv, h.2.2.2.2⟩
theorem InvM.sd {n : Nat} {u : MS} (h : InvM n u) {v : Int32} (hv : bz v) : InvM n (md_ u v) := ⟨h.1, h.2.1, h.2.2.1, h.2.2.2.1, hv, h.2.2.2.2.2⟩
theorem InvM.sr {n : Nat} {u : MS} (h : InvM n u) {v : Int32} (hv : bz v) : InvM n (mr_ u v) := ⟨h.1, h.2.1, h.2.2.1, h.2.2.2.1, h.2.2.2.2.1, hv, h.2.2.2.2.2.2⟩
theorem InvM.sk {n : Nat} {u : MS} (h : InvM n u) : InvM (n + 1) (mk_ u (mk u + 1)) := by
  obtain ⟨h1, h2, h3, h4, h5, h6, k, hk, e⟩ := h
  refine ⟨h1, h2, h3, h4, h5, h6, k + 1, by omega, ?_⟩
  show mk u + 1 = nI (k + 1)
  rw [e]; exact nI_1 k
theorem InvM.kIn0 {n : Nat} {u : MS} (h : InvM n u) (hn : n ≤ 2000000) (c : ¬ (300 : Int32) ≤ mk u) : vp_in (4 * mk u) 1200 := by
  obtain ⟨k, hk, e⟩ := h.2.2.2.2.2.2
  rw [e] at c ⊢
  have h4 : (4 : Int32) * nI k = nI (4 * k) := pk_mul 4 k
  rw [h4]
  rcases Nat.lt_or_ge k 300 with q | q
  · exact vp_in_nI (by omega) (by decide)
  · exact absurd (nI_le (a := 300) (b := k) q (by omega)) c
theorem InvM.kIn {n : Nat} {u : MS} (h : InvM n u) (hn : n ≤ 2000000) (c : ¬ (300 : Int32) ≤ mk u) (j : Nat) (hj : j < 4) : vp_in (4 * mk u + nI j) 1200 := by
  obtain ⟨k, hk, e⟩ := h.2.2.2.2.2.2
  rw [e] at c ⊢
  have h4 : (4 : Int32) * nI k = nI (4 * k) := pk_mul 4 k
  rw [h4, nI_add]
  rcases Nat.lt_or_ge k 300 with q | q
  · exact vp_in_nI (by omega) (by decide)
  · exact absurd (nI_le (a := 300) (b := k) q (by omega)) c
end
section
abbrev iaeN : String := "java/lang/IllegalArgumentException"
abbrev iaeU : List String := ["java/lang/RuntimeException", "java/lang/Exception"]
abbrev vxA : List Cond := vx_atS RX0 30 iaeN iaeU
/-- the words of the throw that the lists of words don't carry -/
def vxN : List Cond := [.castable iaeN iaeN, .declares (Bundle.initS "java/lang/RuntimeException"), .declares (Bundle.initS "java/lang/Exception"), .declares (Bundle.initS Bundle.tN)]
set_option maxRecDepth 100000 in
theorem vxB_in : ∀ w ∈ vxA.filter (fun w => !goodWord w), w ∈ vxN := by decide +kernel
set_option maxRecDepth 100000 in
theorem vxA_ot : ∀ w ∈ Cond.classLink RX0 26 iaeN :: Cond.initialized iaeN :: vxA, vx_ot w = true := by decide +kernel
theorem vxN_on : ∀ w ∈ vxN, w.onTables = true := by decide +kernel
theorem vxN_face : ∀ w ∈ vxN, w.keepsFace = true := by decide +kernel
theorem vxN_any {A A' : Array Value} {U : State} (h : ∀ w ∈ vxN, w.before A U = true) : ∀ w ∈ vxN, w.before A' U = true := fun w hw => va_any (vxN_on w hw) (h w hw)
theorem vxN_moved {s U : State} (hW : s.WarmedH U.vm) (h : ∀ w ∈ vxN, w.before #[] s = true) : ∀ w ∈ vxN, w.before #[] U = true := fun w hw => by
  have h1 : w.before #[] (s.setVm U.vm) = true := Cond.before_shiftedFace (State.Shifted.of_warmed hW) w (vxN_face w hw) (h w hw)
  rw [Cond.onTables_vm (A' := #[]) (U' := U) U.vm w (vxN_on w hw), State.setVm_self] at h1
  exact h1
theorem vxA_all {args : Array Value} {s : State} (h : ∀ w ∈ vxA.filter goodWord, w.before args s = true) (h2 : ∀ w ∈ vxN, w.before #[] s = true) : ∀ w ∈ vxA, w.before args s = true :=
  vx_hat (B := vxN) h vxB_in (vxN_any h2)
def loV : Nat → Int32 := fun j => ([-1000, -1000, 0, 0, 0, 0, 0] : List Int32).getD j 0
def hiV : Nat → Int32 := fun j => ([1000, 1000, 50000, 50000, 600, 1, 1] : List Int32).getD j 0
/-- what the class's throwing methods need of the start: Throwable's two statics, the texts, the two tables -/
def TW (A : Nat → Prop) (sa : Nat → Nat) (tL tH : Nat) (U : State) : Prop :=
  vx_Zq Bundle.tN "UNASSIGNED_STACK" Bundle.steD A U U.heap ∧ vx_Zq Bundle.tN "SUPPRESSED_SENTINEL" Bundle.listD A U U.heap ∧
  vk_R RX0 28 "no such button" (sa 28) U ∧ vk_R RX0 51 "no such measure" (sa 51) U ∧ vk_R RX0 59 "out of the measure's range" (sa 59) U ∧ vk_R RX0 61 "no such channel" (sa 61) U ∧ vk_R RX0 86 "at least one step" (sa 86) U ∧ vk_R RX0 88 "no such place" (sa 88) U ∧ vk_R RX0 102 "no such mode to arm" (sa 102) U ∧
  va_Z "ModeDesk" "LOWEST" "[I" (.ref tL) A U U.heap ∧ va_T .int tL 7 (fun j => .int (loV j)) A U U.heap ∧ va_Z "ModeDesk" "HIGHEST" "[I" (.ref tH) A U U.heap ∧ va_T .int tH 7 (fun j => .int (hiV j)) A U U.heap ∧ ∀ w ∈ vxN, w.before #[] U = true
theorem TW.moved {A A' : Nat → Prop} {sa : Nat → Nat} {tL tH : Nat} {s U : State} {H0 : Heap} {locs : List Loc} (h : TW A sa tL tH s) (hW : s.WarmedH U.vm) (hS : va_S A s.heap U.heap locs) (hA : ∀ q, A' q → A q) : TW A' sa tL tH U := by
  obtain ⟨h1, h2, s1, s2, s3, s4, s5, s6, s7, z1, t1, z2, t2, n1⟩ := h
  exact ⟨vx_Zq.narrow (vx_Zq.moved hW.alike (h1.kept hS.2.1)) hA, vx_Zq.narrow (vx_Zq.moved hW.alike (h2.kept hS.2.1)) hA, vk_R.warm hW s1, vk_R.warm hW s2, vk_R.warm hW s3, vk_R.warm hW s4, vk_R.warm hW s5, vk_R.warm hW s6, vk_R.warm hW s7,
    va_Z.narrow (va_Z.moved hW.alike (z1.kept hS.2.1)) hA, va_T.narrow (va_T.moved hW.alike (t1.kept hS.2.1)) hA, va_Z.narrow (va_Z.moved hW.alike (z2.kept hS.2.1)) hA, va_T.narrow (va_T.moved hW.alike (t2.kept hS.2.1)) hA, vxN_moved hW n1⟩
theorem TW.same {A : Nat → Prop} {sa : Nat → Nat} {tL tH : Nat} {u U : State} (h : TW A sa tL tH u) (hv : U.vm = u.vm) (hh : U.heap = u.heap) : TW A sa tL tH U := by
  obtain ⟨h1, h2, s1, s2, s3, s4, s5, s6, s7, z1, t1, z2, t2, n1⟩ := h
  have ha : u.vm.Alike U.vm := by rw [hv]; exact Vm.Alike.refl _
  refine ⟨?_, ?_, s1.same hv, s2.same hv, s3.same hv, s4.same hv, s5.same hv, s6.same hv, s7.same hv, ?_, ?_, ?_, ?_, ?_⟩
  · rw [hh]; exact vx_Zq.moved ha h1
  · rw [hh]; exact vx_Zq.moved ha h2
  · rw [hh]; exact va_Z.moved ha z1
  · rw [hh]; exact va_T.moved ha t1
  · rw [hh]; exact va_Z.moved ha z2
  · rw [hh]; exact va_T.moved ha t2
  · intro w hw
    have h9 := n1 w hw
    rw [← State.setVm_self u, ← hv, Cond.onTables_vm (A' := #[]) (U' := U) U.vm w (vxN_on w hw), State.setVm_self] at h9
    exact h9
def PcT (D : va_G) (tys : List (ClassId × FieldType)) (ws : va_W) (sz : Nat) (sa : Nat → Nat) (tL tH : Nat) : State → Prop := fun U => PcW D tys ws sz U ∧ TW (va_A ws sz) sa tL tH U
abbrev Mt {S : Type} (l : Launch) (y : MethodName) (ws : List Cond) (rm : Room) (D : va_G) (tys : List (ClassId × FieldType)) (wf : S → va_W) (sz : Nat) (u : S) (av : List Value) (sa : Nat → Nat) (tL tH : Nat) (post : Int32 → S → Prop) (px : S → Prop) : Prop :=
  vx_Met l y ws rm (va_Pc av (PcT D tys (wf u) sz sa tL tH)) (va_Qi post (BW D tys (va_A (wf u) sz) wf) (va_A (wf u) sz)) (vx_X px (fun E u9 t => E = iaeN ∧ BW D tys (va_A (wf u) sz) wf u9 t) (va_A (wf u) sz)) 1 6 (va_A (wf u) sz)
theorem bl_T {D : va_G} {tys : List (ClassId × FieldType)} {ws : va_W} {sz : Nat} {av : List Value} {sa : Nat → Nat} {tL tH : Nat} : FrameBlind (va_Pc av (PcT D tys ws sz sa tL tH)) := fun a U g mk q => by
  obtain ⟨q0, qw, qt⟩ := q
  exact ⟨q0, (bl_W (av := av) a U g mk ⟨q0, qw⟩).2, qt.same rfl rfl⟩
theorem th_X {S : Type} {D : va_G} {tys : List (ClassId × FieldType)} {A : Nat → Prop} {wf : S → va_W} {u : S} {s : State} {H : Heap} {locs : List Loc} {px : S → Prop} (hP : va_P D vwCl (wf u) H) (hK : va_K D vwCl tys s) (hD : va_D A (wf u)) (hS : va_S A s.heap H locs) (hp : px u) :
    ∀ t : State, s.vm.Alike t.vm → H.size ≤ t.heap.size → (∀ q : Nat, q < H.size → t.heap[q]? = H[q]?) → vx_X px (fun E u9 t => E = iaeN ∧ BW D tys A wf u9 t) A iaeN s t := fun t hvm hz hk =>
  ⟨u, hp, ⟨rfl, hP.kept (fun k q hq => hk q.1 (hP k q hq).lt), va_K.moved hvm hK, hD⟩, Nat.le_trans hS.1 hz, fun q h1 h2 => by rw [hk q (Nat.lt_of_lt_of_le h1 hS.1)]; exact hS.2.1 q h1 h2⟩
end
section
def pX0_bit (a1 a2 : Int32) : Int32 := if a1 = 0 then (0) else (a2)
set_option maxHeartbeats 4000000 in
set_option maxRecDepth 100000 in
theorem kX0_bit (l : Launch) (D : va_G) (tys : List (ClassId × FieldType)) (sz : Nat) (a1 a2 : Int32) : Mi l yX0_bit wsX0_bit { frames := 0, cells := 0, slots := 0, locals := 0 } D tys wE sz () [.int a1, .int a2] (fun r _ => r = pX0_bit a1 a2) := by
  refine Met.ofW (cc := cX0_bit) (maxL := 2) (ret := (some .int)) (by decide) rfl ?_
  intro p e s m args below meth c s₁ B hml hv
  obtain ⟨rfl, hsz, hP, hK, hD0⟩ := hv
  have hx := B.exec
  have hb := B.bytes
  have hr := B.returns
  have hts := atoms_spec (ws := wsX0_bit) B.pre
  have hown : s.vm.findClass RX0 = some m.cls := findClass_of_methodNamed B.named
  have hlocks := B.notSynchronized
  subst hsz
  have hD : va_D (va_A (wE ()) s.heap.size) (wE ()) := hD0.self (sz := s.heap.size)
  have hA : ∀ q : Nat, s.heap.size ≤ q → va_A (wE ()) s.heap.size q := fun q h9 => Or.inr h9
  have hS : va_S (va_A (wE ()) s.heap.size) s.heap s.heap [] := va_S.rf
  have hl := lv_entry ([.int a1, .int a2]) (n := 2) (Nat.le_of_ble_eq_true rfl)
  rw [lg_entry_eq]
  generalize (lg_sl ([.int a1, .int a2]) ++ List.replicate (2 - (lg_sl ([.int a1, .int a2])).length) Slot.unset).toArray = ls at hl ⊢
  have hl : lv_has ls 2 [(0, .int a1), (1, .int a2)] := hl
  generalize va_A (wE ()) s.heap.size = A at hD hA hS ⊢
  refine lv_iload_n hx hb dX0_bit_0 rfl (lv_at hl 0 rfl) ?_
  refine lv_if_eq (tgt := 8) hx hb dX0_bit_1 (by decide) (fun c1 => ?_) (fun c1 => ?_)
  · refine lv_iconst (v := 0) hx hb dX0_bit_8 (by decide) ?_
    have hq1 : pX0_bit a1 a2 = 0 := (by unfold pX0_bit; first | (rw [if_pos c1]; done) | (rw [if_pos c1]; rfl))
    exact W.iret (v := 0) hx hb hr (fun t ht hW => ⟨⟨0, (), rfl, hq1.symm, by rw [ht]; exact hP, va_K.moved hW.alike hK, hD⟩, hS.F ht⟩) hS.2.2 dX0_bit_9
  · refine lv_iload_n hx hb dX0_bit_4 rfl (lv_at hl 1 rfl) ?_
    refine lv_goto (tgt := 9) hx hb dX0_bit_5 (by decide) ?_
    have hq1 : pX0_bit a1 a2 = a2 := (by unfold pX0_bit; first | (rw [if_neg c1]; done) | (rw [if_neg c1]; rfl))
    exact W.iret (v := a2) hx hb hr (fun t ht hW => ⟨⟨a2, (), rfl, hq1.symm, by rw [ht]; exact hP, va_K.moved hW.alike hK, hD⟩, hS.F ht⟩) hS.2.2 dX0_bit_9
def pX0_isMeasure (a1 : Int32) : Int32 := if a1 < 0 then (0) else (if 7 ≤ a1 then (0) else (1))
set_option maxHeartbeats 4000000 in
set_option maxRecDepth 100000 in
theorem kX0_isMeasure (l : Launch) (D : va_G) (tys : List (ClassId × FieldType)) (sz : Nat) (a1 : Int32) : Mi l yX0_isMeasure wsX0_isMeasure { frames := 0, cells := 0, slots := 0, locals := 0 } D tys wE sz () [.int a1] (fun r _ => r = pX0_isMeasure a1 ∧ bz r) := by
  refine Met.ofW (cc := cX0_isMeasure) (maxL := 1) (ret := (some .boolean)) (by decide) rfl ?_
  intro p e s m args below meth c s₁ B hml hv
  obtain ⟨rfl, hsz, hP, hK, hD0⟩ := hv
  have hx := B.exec
  have hb := B.bytes
  have hr := B.returns
  have hts := atoms_spec (ws := wsX0_isMeasure) B.pre
  have hown : s.vm.findClass RX0 = some m.cls := findClass_of_methodNamed B.named
  have hlocks := B.notSynchronized
  subst hsz
  have hD : va_D (va_A (wE ()) s.heap.size) (wE ()) := hD0.self (sz := s.heap.size)
  have hA : ∀ q : Nat, s.heap.size ≤ q → va_A (wE ()) s.heap.size q := fun q h9 => Or.inr h9
  have hS : va_S (va_A (wE ()) s.heap.size) s.heap s.heap [] := va_S.rf
  have hl := lv_entry ([.int a1]) (n := 1) (Nat.le_of_ble_eq_true rfl)
  rw [lg_entry_eq]
  generalize (lg_sl ([.int a1]) ++ List.replicate (1 - (lg_sl ([.int a1])).length) Slot.unset).toArray = ls at hl ⊢
  have hl : lv_has ls 1 [(0, .int a1)] := hl
  generalize va_A (wE ()) s.heap.size = A at hD hA hS ⊢
  refine lv_iload_n hx hb dX0_isMeasure_0 rfl (lv_at hl 0 rfl) ?_
  refine lv_if_lt (tgt := 14) hx hb dX0_isMeasure_1 (by decide) (fun c1 => ?_) (fun c1 => ?_)
  · refine lv_iconst (v := 0) hx hb dX0_isMeasure_14 (by decide) ?_
    have hq1 : pX0_isMeasure a1 = 0 := (by unfold pX0_isMeasure; first | (rw [if_pos c1]; done) | (rw [if_pos c1]; rfl))
    exact W.zret (v := 0) hx hb hr (bz_n bz0) (fun t ht hW => ⟨⟨0, (), rfl, ⟨hq1.symm, bz0⟩, by rw [ht]; exact hP, va_K.moved hW.alike hK, hD⟩, hS.F ht⟩) hS.2.2 dX0_isMeasure_15
  · refine lv_iload_n hx hb dX0_isMeasure_4 rfl (lv_at hl 0 rfl) ?_
    refine lv_bipush (v := 7) hx hb dX0_isMeasure_5 (by decide) ?_
    refine lv_icmp_ge (tgt := 14) hx hb dX0_isMeasure_7 (by decide) (fun c2 => ?_) (fun c2 => ?_)
    · refine lv_iconst (v := 0) hx hb dX0_isMeasure_14 (by decide) ?_
      have hq1 : pX0_isMeasure a1 = 0 := (by unfold pX0_isMeasure; first | (rw [if_neg c1, if_pos c2]; done) | (rw [if_neg c1, if_pos c2]; rfl))
      exact W.zret (v := 0) hx hb hr (bz_n bz0) (fun t ht hW => ⟨⟨0, (), rfl, ⟨hq1.symm, bz0⟩, by rw [ht]; exact hP, va_K.moved hW.alike hK, hD⟩, hS.F ht⟩) hS.2.2 dX0_isMeasure_15
    · refine lv_iconst (v := 1) hx hb dX0_isMeasure_10 (by decide) ?_
      refine lv_goto (tgt := 15) hx hb dX0_isMeasure_11 (by decide) ?_
      have hq1 : pX0_isMeasure a1 = 1 := (by unfold pX0_isMeasure; first | (rw [if_neg c1, if_neg c2]; done) | (rw [if_neg c1, if_neg c2]; rfl))
      exact W.zret (v := 1) hx hb hr (bz_n bz1) (fun t ht hW => ⟨⟨1, (), rfl, ⟨hq1.symm, bz1⟩, by rw [ht]; exact hP, va_K.moved hW.alike hK, hD⟩, hS.F ht⟩) hS.2.2 dX0_isMeasure_15
def pX0_isOn (u : XS) : Int32 := if (xA u (Int32.toNatClampNeg 0)) = 0 then (0) else (1)
set_option maxHeartbeats 4000000 in
set_option maxRecDepth 100000 in
theorem kX0_isOn (l : Launch) (D : va_G) (cI cZ : ClassId) (h : Nat → Nat) (sz : Nat) (u : XS) (hI : InvX u) : Mi l yX0_isOn wsX0_isOn { frames := 0, cells := 0, slots := 0, locals := 0 } D (tyl cI cZ) (wX cI cZ h) sz u [.ref (h 0)] (fun r u9 => r = pX0_isOn u ∧ u9 = u ∧ bz r) := by
  refine Met.ofW (cc := cX0_isOn) (maxL := 1) (ret := (some .boolean)) (by decide) rfl ?_
  intro p e s m args below meth c s₁ B hml hv
  obtain ⟨rfl, hsz, hP, hK, hD0⟩ := hv
  have hx := B.exec
  have hb := B.bytes
  have hr := B.returns
  have hts := atoms_spec (ws := wsX0_isOn) B.pre
  have hin : ∀ w ∈ wsX00, w ∈ wsX0_isOn := fun w h9 => List.mem_cons_of_mem _ (List.mem_append_right _ h9)
  have hown : s.vm.findClass RX0 = some m.cls := findClass_of_methodNamed B.named
  have hlocks := B.notSynchronized
  subst hsz
  have hD : va_D (va_A (wX cI cZ h u) s.heap.size) (wX cI cZ h u) := hD0.self (sz := s.heap.size)
  have hA : ∀ q : Nat, s.heap.size ≤ q → va_A (wX cI cZ h u) s.heap.size q := fun q h9 => Or.inr h9
  have hS : va_S (va_A (wX cI cZ h u) s.heap.size) s.heap s.heap [] := va_S.rf
  have hl := lv_entry ([.ref (h 0)]) (n := 1) (Nat.le_of_ble_eq_true rfl)
  rw [lg_entry_eq]
  generalize (lg_sl ([.ref (h 0)]) ++ List.replicate (1 - (lg_sl ([.ref (h 0)])).length) Slot.unset).toArray = ls at hl ⊢
  have hl : lv_has ls 1 [(0, .ref (h 0))] := hl
  generalize va_A (wX cI cZ h u) s.heap.size = A at hD hA hS ⊢
  refine lv_aload_n hx hb dX0_isOn_0 rfl (lv_at hl 0 rfl) ?_
  refine va_get (D := D) (ci := 0) (v := .ref (h 1)) (C := RX0) (T := TX0) (N := 12) hx hb hts hin hown hK hP 0 rfl rfl 0 (by decide) (hts (.fieldLink RX0 7 "ModeDesk" "active" "[I") (by decide +kernel)) (fun _ h9 => h9) rfl dX0_isOn_1 ?_
  refine lv_iconst (v := 0) hx hb dX0_isOn_4 (by decide) ?_
  refine va_iald hx hb hK hP 1 0 rfl rfl (vi_c (by decide)) dX0_isOn_5 ?_
  refine lv_if_eq (tgt := 13) hx hb dX0_isOn_6 (by decide) (fun c1 => ?_) (fun c1 => ?_)
  · refine lv_iconst (v := 0) hx hb dX0_isOn_13 (by decide) ?_
    have hq1 : pX0_isOn u = 0 := (by unfold pX0_isOn; first | (rw [if_pos c1]; done) | (rw [if_pos c1]; rfl))
    exact W.zret (v := 0) hx hb hr (bz_n bz0) (fun t ht hW => ⟨⟨0, u, rfl, ⟨hq1.symm, rfl, bz0⟩, by rw [ht]; exact hP, va_K.moved hW.alike hK, hD⟩, hS.F ht⟩) hS.2.2 dX0_isOn_14
  · refine lv_iconst (v := 1) hx hb dX0_isOn_9 (by decide) ?_
    refine lv_goto (tgt := 14) hx hb dX0_isOn_10 (by decide) ?_
    have hq1 : pX0_isOn u = 1 := (by unfold pX0_isOn; first | (rw [if_neg c1]; done) | (rw [if_neg c1]; rfl))
    exact W.zret (v := 1) hx hb hr (bz_n bz1) (fun t ht hW => ⟨⟨1, u, rfl, ⟨hq1.symm, rfl, bz1⟩, by rw [ht]; exact hP, va_K.moved hW.alike hK, hD⟩, hS.F ht⟩) hS.2.2 dX0_isOn_14
def pX0_isAnyChannelSound (u : XS) : Int32 := if (xS u (Int32.toNatClampNeg 0)) = 0 then (if (xS u (Int32.toNatClampNeg 1)) = 0 then (0) else (1)) else (1)
set_option maxHeartbeats 4000000 in
set_option maxRecDepth 100000 in
theorem kX0_isAnyChannelSound (l : Launch) (D : va_G) (cI cZ : ClassId) (h : Nat → Nat) (sz : Nat) (u : XS) (hI : InvX u) : Mi l yX0_isAnyChannelSound wsX0_isAnyChannelSound { frames := 0, cells := 0, slots := 0, locals := 0 } D (tyl cI cZ) (wX cI cZ h) sz u [.ref (h 0)] (fun r u9 => r = pX0_isAnyChannelSound u ∧ u9 = u ∧ bz r) := by
  refine Met.ofW (cc := cX0_isAnyChannelSound) (maxL := 1) (ret := (some .boolean)) (by decide) rfl ?_
  intro p e s m args below meth c s₁ B hml hv
  obtain ⟨rfl, hsz, hP, hK, hD0⟩ := hv
  have hx := B.exec
  have hb := B.bytes
  have hr := B.returns
  have hts := atoms_spec (ws := wsX0_isAnyChannelSound) B.pre
  have hin : ∀ w ∈ wsX00, w ∈ wsX0_isAnyChannelSound := fun w h9 => List.mem_cons_of_mem _ (List.mem_append_right _ h9)
  have hown : s.vm.findClass RX0 = some m.cls := findClass_of_methodNamed B.named
  have hlocks := B.notSynchronized
  subst hsz
  have hD : va_D (va_A (wX cI cZ h u) s.heap.size) (wX cI cZ h u) := hD0.self (sz := s.heap.size)
  have hA : ∀ q : Nat, s.heap.size ≤ q → va_A (wX cI cZ h u) s.heap.size q := fun q h9 => Or.inr h9
  have hS : va_S (va_A (wX cI cZ h u) s.heap.size) s.heap s.heap [] := va_S.rf
  have hl := lv_entry ([.ref (h 0)]) (n := 1) (Nat.le_of_ble_eq_true rfl)
  rw [lg_entry_eq]
  generalize (lg_sl ([.ref (h 0)]) ++ List.replicate (1 - (lg_sl ([.ref (h 0)])).length) Slot.unset).toArray = ls at hl ⊢
  have hl : lv_has ls 1 [(0, .ref (h 0))] := hl
  generalize va_A (wX cI cZ h u) s.heap.size = A at hD hA hS ⊢
  refine lv_aload_n hx hb dX0_isAnyChannelSound_0 rfl (lv_at hl 0 rfl) ?_
  refine va_get (D := D) (ci := 0) (v := .ref (h 4)) (C := RX0) (T := TX0) (N := 12) hx hb hts hin hown hK hP 0 rfl rfl 3 (by decide) (hts (.fieldLink RX0 19 "ModeDesk" "soundness" "[Z") (by decide +kernel)) (fun _ h9 => h9) rfl dX0_isAnyChannelSound_1 ?_
  refine lv_iconst (v := 0) hx hb dX0_isAnyChannelSound_4 (by decide) ?_
  refine va_zald hx hb hK hP 4 1 rfl rfl (vi_c (by decide)) dX0_isAnyChannelSound_5 ?_
  refine lv_if_ne (tgt := 18) hx hb dX0_isAnyChannelSound_6 (by decide) (fun c1 => ?_) (fun c1 => ?_)
  · refine lv_iconst (v := 1) hx hb dX0_isAnyChannelSound_18 (by decide) ?_
    refine lv_goto (tgt := 23) hx hb dX0_isAnyChannelSound_19 (by decide) ?_
    have hq1 : pX0_isAnyChannelSound u = 1 := (by unfold pX0_isAnyChannelSound; first | (rw [if_neg c1]; done) | (rw [if_neg c1]; rfl))
    exact W.zret (v := 1) hx hb hr (bz_n bz1) (fun t ht hW => ⟨⟨1, u, rfl, ⟨hq1.symm, rfl, bz1⟩, by rw [ht]; exact hP, va_K.moved hW.alike hK, hD⟩, hS.F ht⟩) hS.2.2 dX0_isAnyChannelSound_23
  · refine lv_aload_n hx hb dX0_isAnyChannelSound_9 rfl (lv_at hl 0 rfl) ?_
    refine va_get (D := D) (ci := 0) (v := .ref (h 4)) (C := RX0) (T := TX0) (N := 12) hx hb hts hin hown hK hP 0 rfl rfl 3 (by decide) (hts (.fieldLink RX0 19 "ModeDesk" "soundness" "[Z") (by decide +kernel)) (fun _ h9 => h9) rfl dX0_isAnyChannelSound_10 ?_
    refine lv_iconst (v := 1) hx hb dX0_isAnyChannelSound_13 (by decide) ?_
    refine va_zald hx hb hK hP 4 1 rfl rfl (vi_c (by decide)) dX0_isAnyChannelSound_14 ?_
    refine lv_if_eq (tgt := 22) hx hb dX0_isAnyChannelSound_15 (by decide) (fun c2 => ?_) (fun c2 => ?_)
    · refine lv_iconst (v := 0) hx hb dX0_isAnyChannelSound_22 (by decide) ?_
      have hq1 : pX0_isAnyChannelSound u = 0 := (by unfold pX0_isAnyChannelSound; first | (rw [if_pos c1, if_pos c2]; done) | (rw [if_pos c1, if_pos c2]; rfl))
      exact W.zret (v := 0) hx hb hr (bz_n bz0) (fun t ht hW => ⟨⟨0, u, rfl, ⟨hq1.symm, rfl, bz0⟩, by rw [ht]; exact hP, va_K.moved hW.alike hK, hD⟩, hS.F ht⟩) hS.2.2 dX0_isAnyChannelSound_23
    · refine lv_iconst (v := 1) hx hb dX0_isAnyChannelSound_18 (by decide) ?_
      refine lv_goto (tgt := 23) hx hb dX0_isAnyChannelSound_19 (by decide) ?_
      have hq1 : pX0_isAnyChannelSound u = 1 := (by unfold pX0_isAnyChannelSound; first | (rw [if_pos c1, if_neg c2]; done) | (rw [if_pos c1, if_neg c2]; rfl))
      exact W.zret (v := 1) hx hb hr (bz_n bz1) (fun t ht hW => ⟨⟨1, u, rfl, ⟨hq1.symm, rfl, bz1⟩, by rw [ht]; exact hP, va_K.moved hW.alike hK, hD⟩, hS.F ht⟩) hS.2.2 dX0_isAnyChannelSound_23
def pX0_isAroundAnywhere (u : XS) : Int32 := if (xA u (Int32.toNatClampNeg 0)) = 5 then (1) else (if (xA u (Int32.toNatClampNeg 1)) = 7 then (1) else (0))
set_option maxHeartbeats 4000000 in
set_option maxRecDepth 100000 in
theorem kX0_isAroundAnywhere (l : Launch) (D : va_G) (cI cZ : ClassId) (h : Nat → Nat) (sz : Nat) (u : XS) (hI : InvX u) : Mi l yX0_isAroundAnywhere wsX0_isAroundAnywhere { frames := 0, cells := 0, slots := 0, locals := 0 } D (tyl cI cZ) (wX cI cZ h) sz u [.ref (h 0)] (fun r u9 => r = pX0_isAroundAnywhere u ∧ u9 = u ∧ bz r) := by
  refine Met.ofW (cc := cX0_isAroundAnywhere) (maxL := 1) (ret := (some .boolean)) (by decide) rfl ?_
  intro p e s m args below meth c s₁ B hml hv
  obtain ⟨rfl, hsz, hP, hK, hD0⟩ := hv
  have hx := B.exec
  have hb := B.bytes
  have hr := B.returns
  have hts := atoms_spec (ws := wsX0_isAroundAnywhere) B.pre
  have hin : ∀ w ∈ wsX00, w ∈ wsX0_isAroundAnywhere := fun w h9 => List.mem_cons_of_mem _ (List.mem_append_right _ h9)
  have hown : s.vm.findClass RX0 = some m.cls := findClass_of_methodNamed B.named
  have hlocks := B.notSynchronized
  subst hsz
  have hD : va_D (va_A (wX cI cZ h u) s.heap.size) (wX cI cZ h u) := hD0.self (sz := s.heap.size)
  have hA : ∀ q : Nat, s.heap.size ≤ q → va_A (wX cI cZ h u) s.heap.size q := fun q h9 => Or.inr h9
  have hS : va_S (va_A (wX cI cZ h u) s.heap.size) s.heap s.heap [] := va_S.rf
  have hl := lv_entry ([.ref (h 0)]) (n := 1) (Nat.le_of_ble_eq_true rfl)
  rw [lg_entry_eq]
  generalize (lg_sl ([.ref (h 0)]) ++ List.replicate (1 - (lg_sl ([.ref (h 0)])).length) Slot.unset).toArray = ls at hl ⊢
  have hl : lv_has ls 1 [(0, .ref (h 0))] := hl
  generalize va_A (wX cI cZ h u) s.heap.size = A at hD hA hS ⊢
  refine lv_aload_n hx hb dX0_isAroundAnywhere_0 rfl (lv_at hl 0 rfl) ?_
  refine va_get (D := D) (ci := 0) (v := .ref (h 1)) (C := RX0) (T := TX0) (N := 12) hx hb hts hin hown hK hP 0 rfl rfl 0 (by decide) (hts (.fieldLink RX0 7 "ModeDesk" "active" "[I") (by decide +kernel)) (fun _ h9 => h9) rfl dX0_isAroundAnywhere_1 ?_
  refine lv_iconst (v := 0) hx hb dX0_isAroundAnywhere_4 (by decide) ?_
  refine va_iald hx hb hK hP 1 0 rfl rfl (vi_c (by decide)) dX0_isAroundAnywhere_5 ?_
  refine lv_iconst (v := 5) hx hb dX0_isAroundAnywhere_6 (by decide) ?_
  refine lv_icmp_eq (tgt := 21) hx hb dX0_isAroundAnywhere_7 (by decide) (fun c1 => ?_) (fun c1 => ?_)
  · refine lv_iconst (v := 1) hx hb dX0_isAroundAnywhere_21 (by decide) ?_
    refine lv_goto (tgt := 26) hx hb dX0_isAroundAnywhere_22 (by decide) ?_
    have hq1 : pX0_isAroundAnywhere u = 1 := (by unfold pX0_isAroundAnywhere; first | (rw [if_pos c1]; done) | (rw [if_pos c1]; rfl))
    exact W.zret (v := 1) hx hb hr (bz_n bz1) (fun t ht hW => ⟨⟨1, u, rfl, ⟨hq1.symm, rfl, bz1⟩, by rw [ht]; exact hP, va_K.moved hW.alike hK, hD⟩, hS.F ht⟩) hS.2.2 dX0_isAroundAnywhere_26
  · refine lv_aload_n hx hb dX0_isAroundAnywhere_10 rfl (lv_at hl 0 rfl) ?_
    refine va_get (D := D) (ci := 0) (v := .ref (h 1)) (C := RX0) (T := TX0) (N := 12) hx hb hts hin hown hK hP 0 rfl rfl 0 (by decide) (hts (.fieldLink RX0 7 "ModeDesk" "active" "[I") (by decide +kernel)) (fun _ h9 => h9) rfl dX0_isAroundAnywhere_11 ?_
    refine lv_iconst (v := 1) hx hb dX0_isAroundAnywhere_14 (by decide) ?_
    refine va_iald hx hb hK hP 1 0 rfl rfl (vi_c (by decide)) dX0_isAroundAnywhere_15 ?_
    refine lv_bipush (v := 7) hx hb dX0_isAroundAnywhere_16 (by decide) ?_
    refine lv_icmp_ne (tgt := 25) hx hb dX0_isAroundAnywhere_18 (by decide) (fun c2 => ?_) (fun c2 => ?_)
    · refine lv_iconst (v := 0) hx hb dX0_isAroundAnywhere_25 (by decide) ?_
      have hq1 : pX0_isAroundAnywhere u = 0 := (by unfold pX0_isAroundAnywhere; first | (rw [if_neg c1, if_neg c2]; done) | (rw [if_neg c1, if_neg c2]; rfl))
      exact W.zret (v := 0) hx hb hr (bz_n bz0) (fun t ht hW => ⟨⟨0, u, rfl, ⟨hq1.symm, rfl, bz0⟩, by rw [ht]; exact hP, va_K.moved hW.alike hK, hD⟩, hS.F ht⟩) hS.2.2 dX0_isAroundAnywhere_26
    · refine lv_iconst (v := 1) hx hb dX0_isAroundAnywhere_21 (by decide) ?_
      refine lv_goto (tgt := 26) hx hb dX0_isAroundAnywhere_22 (by decide) ?_
      have hq1 : pX0_isAroundAnywhere u = 1 := (by unfold pX0_isAroundAnywhere; first | (rw [if_neg c1, if_pos c2]; done) | (rw [if_neg c1, if_pos c2]; rfl))
      exact W.zret (v := 1) hx hb hr (bz_n bz1) (fun t ht hW => ⟨⟨1, u, rfl, ⟨hq1.symm, rfl, bz1⟩, by rw [ht]; exact hP, va_K.moved hW.alike hK, hD⟩, hS.F ht⟩) hS.2.2 dX0_isAroundAnywhere_26
def pX0_isTooFast (u : XS) : Int32 := if (xM u (Int32.toNatClampNeg 4)) ≤ 400 then (0) else (1)
set_option maxHeartbeats 4000000 in
set_option maxRecDepth 100000 in
theorem kX0_isTooFast (l : Launch) (D : va_G) (cI cZ : ClassId) (h : Nat → Nat) (sz : Nat) (u : XS) (hI : InvX u) : Mi l yX0_isTooFast wsX0_isTooFast { frames := 0, cells := 0, slots := 0, locals := 0 } D (tyl cI cZ) (wX cI cZ h) sz u [.ref (h 0)] (fun r u9 => r = pX0_isTooFast u ∧ u9 = u ∧ bz r) := by
  refine Met.ofW (cc := cX0_isTooFast) (maxL := 1) (ret := (some .boolean)) (by decide) rfl ?_
  intro p e s m args below meth c s₁ B hml hv
  obtain ⟨rfl, hsz, hP, hK, hD0⟩ := hv
  have hx := B.exec
  have hb := B.bytes
  have hr := B.returns
  have hts := atoms_spec (ws := wsX0_isTooFast) B.pre
  have hin : ∀ w ∈ wsX00, w ∈ wsX0_isTooFast := fun w h9 => List.mem_cons_of_mem _ (List.mem_append_right _ h9)
  have hown : s.vm.findClass RX0 = some m.cls := findClass_of_methodNamed B.named
  have hlocks := B.notSynchronized
  subst hsz
  have hD : va_D (va_A (wX cI cZ h u) s.heap.size) (wX cI cZ h u) := hD0.self (sz := s.heap.size)
  have hA : ∀ q : Nat, s.heap.size ≤ q → va_A (wX cI cZ h u) s.heap.size q := fun q h9 => Or.inr h9
  have hS : va_S (va_A (wX cI cZ h u) s.heap.size) s.heap s.heap [] := va_S.rf
  have hl := lv_entry ([.ref (h 0)]) (n := 1) (Nat.le_of_ble_eq_true rfl)
  rw [lg_entry_eq]
  generalize (lg_sl ([.ref (h 0)]) ++ List.replicate (1 - (lg_sl ([.ref (h 0)])).length) Slot.unset).toArray = ls at hl ⊢
  have hl : lv_has ls 1 [(0, .ref (h 0))] := hl
  generalize va_A (wX cI cZ h u) s.heap.size = A at hD hA hS ⊢
  refine lv_aload_n hx hb dX0_isTooFast_0 rfl (lv_at hl 0 rfl) ?_
  refine va_get (D := D) (ci := 0) (v := .ref (h 3)) (C := RX0) (T := TX0) (N := 12) hx hb hts hin hown hK hP 0 rfl rfl 2 (by decide) (hts (.fieldLink RX0 16 "ModeDesk" "measures" "[I") (by decide +kernel)) (fun _ h9 => h9) rfl dX0_isTooFast_1 ?_
  refine lv_iconst (v := 4) hx hb dX0_isTooFast_4 (by decide) ?_
  refine va_iald hx hb hK hP 3 0 rfl rfl (vi_c (by decide)) dX0_isTooFast_5 ?_
  refine lv_sipush (v := 400) hx hb dX0_isTooFast_6 (by decide) ?_
  refine lv_icmp_le (tgt := 16) hx hb dX0_isTooFast_9 (by decide) (fun c1 => ?_) (fun c1 => ?_)
  · refine lv_iconst (v := 0) hx hb dX0_isTooFast_16 (by decide) ?_
    have hq1 : pX0_isTooFast u = 0 := (by unfold pX0_isTooFast; first | (rw [if_pos c1]; done) | (rw [if_pos c1]; rfl))
    exact W.zret (v := 0) hx hb hr (bz_n bz0) (fun t ht hW => ⟨⟨0, u, rfl, ⟨hq1.symm, rfl, bz0⟩, by rw [ht]; exact hP, va_K.moved hW.alike hK, hD⟩, hS.F ht⟩) hS.2.2 dX0_isTooFast_17
  · refine lv_iconst (v := 1) hx hb dX0_isTooFast_12 (by decide) ?_
    refine lv_goto (tgt := 17) hx hb dX0_isTooFast_13 (by decide) ?_
    have hq1 : pX0_isTooFast u = 1 := (by unfold pX0_isTooFast; first | (rw [if_neg c1]; done) | (rw [if_neg c1]; rfl))
    exact W.zret (v := 1) hx hb hr (bz_n bz1) (fun t ht hW => ⟨⟨1, u, rfl, ⟨hq1.symm, rfl, bz1⟩, by rw [ht]; exact hP, va_K.moved hW.alike hK, hD⟩, hS.F ht⟩) hS.2.2 dX0_isTooFast_17
def pX0_isCaptureArmed (u : XS) : Int32 := if (xA u (Int32.toNatClampNeg 1)) = 1 then (1) else (if (xA u (Int32.toNatClampNeg 1)) = 2 then (1) else (if (xA u (Int32.toNatClampNeg 1)) = 3 then (1) else (0)))
set_option maxHeartbeats 4000000 in
set_option maxRecDepth 100000 in
theorem kX0_isCaptureArmed (l : Launch) (D : va_G) (cI cZ : ClassId) (h : Nat → Nat) (sz : Nat) (u : XS) (hI : InvX u) : Mi l yX0_isCaptureArmed wsX0_isCaptureArmed { frames := 0, cells := 0, slots := 0, locals := 0 } D (tyl cI cZ) (wX cI cZ h) sz u [.ref (h 0)] (fun r u9 => r = pX0_isCaptureArmed u ∧ u9 = u ∧ bz r) := by
  refine Met.ofW (cc := cX0_isCaptureArmed) (maxL := 2) (ret := (some .boolean)) (by decide) rfl ?_
  intro p e s m args below meth c s₁ B hml hv
  obtain ⟨rfl, hsz, hP, hK, hD0⟩ := hv
  have hx := B.exec
  have hb := B.bytes
  have hr := B.returns
  have hts := atoms_spec (ws := wsX0_isCaptureArmed) B.pre
  have hin : ∀ w ∈ wsX00, w ∈ wsX0_isCaptureArmed := fun w h9 => List.mem_cons_of_mem _ (List.mem_append_right _ h9)
  have hown : s.vm.findClass RX0 = some m.cls := findClass_of_methodNamed B.named
  have hlocks := B.notSynchronized
  subst hsz
  have hD : va_D (va_A (wX cI cZ h u) s.heap.size) (wX cI cZ h u) := hD0.self (sz := s.heap.size)
  have hA : ∀ q : Nat, s.heap.size ≤ q → va_A (wX cI cZ h u) s.heap.size q := fun q h9 => Or.inr h9
  have hS : va_S (va_A (wX cI cZ h u) s.heap.size) s.heap s.heap [] := va_S.rf
  have hl := lv_entry ([.ref (h 0)]) (n := 2) (Nat.le_of_ble_eq_true rfl)
  rw [lg_entry_eq]
  generalize (lg_sl ([.ref (h 0)]) ++ List.replicate (2 - (lg_sl ([.ref (h 0)])).length) Slot.unset).toArray = ls at hl ⊢
  have hl : lv_has ls 2 [(0, .ref (h 0))] := hl
  generalize va_A (wX cI cZ h u) s.heap.size = A at hD hA hS ⊢
  refine lv_aload_n hx hb dX0_isCaptureArmed_0 rfl (lv_at hl 0 rfl) ?_
  refine va_get (D := D) (ci := 0) (v := .ref (h 1)) (C := RX0) (T := TX0) (N := 12) hx hb hts hin hown hK hP 0 rfl rfl 0 (by decide) (hts (.fieldLink RX0 7 "ModeDesk" "active" "[I") (by decide +kernel)) (fun _ h9 => h9) rfl dX0_isCaptureArmed_1 ?_
  refine lv_iconst (v := 1) hx hb dX0_isCaptureArmed_4 (by decide) ?_
  refine va_iald hx hb hK hP 1 0 rfl rfl (vi_c (by decide)) dX0_isCaptureArmed_5 ?_
  refine lv_istore_n (lv' := [(1, .int (xA u (Int32.toNatClampNeg 1))), (0, .ref (h 0))]) hx hb dX0_isCaptureArmed_6 rfl hl (by decide) rfl (fun ls hl => ?_)
  refine lv_iload_n hx hb dX0_isCaptureArmed_7 rfl (lv_at hl 0 rfl) ?_
  refine lv_iconst (v := 1) hx hb dX0_isCaptureArmed_8 (by decide) ?_
  refine lv_icmp_eq (tgt := 22) hx hb dX0_isCaptureArmed_9 (by decide) (fun c1 => ?_) (fun c1 => ?_)
  · refine lv_iconst (v := 1) hx hb dX0_isCaptureArmed_22 (by decide) ?_
    refine lv_goto (tgt := 27) hx hb dX0_isCaptureArmed_23 (by decide) ?_
    have hq1 : pX0_isCaptureArmed u = 1 := (by unfold pX0_isCaptureArmed; first | (rw [if_pos c1]; done) | (rw [if_pos c1]; rfl))
    exact W.zret (v := 1) hx hb hr (bz_n bz1) (fun t ht hW => ⟨⟨1, u, rfl, ⟨hq1.symm, rfl, bz1⟩, by rw [ht]; exact hP, va_K.moved hW.alike hK, hD⟩, hS.F ht⟩) hS.2.2 dX0_isCaptureArmed_27
  · refine lv_iload_n hx hb dX0_isCaptureArmed_12 rfl (lv_at hl 0 rfl) ?_
    refine lv_iconst (v := 2) hx hb dX0_isCaptureArmed_13 (by decide) ?_
    refine lv_icmp_eq (tgt := 22) hx hb dX0_isCaptureArmed_14 (by decide) (fun c2 => ?_) (fun c2 => ?_)
    · refine lv_iconst (v := 1) hx hb dX0_isCaptureArmed_22 (by decide) ?_
      refine lv_goto (tgt := 27) hx hb dX0_isCaptureArmed_23 (by decide) ?_
      have hq1 : pX0_isCaptureArmed u = 1 := (by unfold pX0_isCaptureArmed; first | (rw [if_neg c1, if_pos c2]; done) | (rw [if_neg c1, if_pos c2]; rfl))
      exact W.zret (v := 1) hx hb hr (bz_n bz1) (fun t ht hW => ⟨⟨1, u, rfl, ⟨hq1.symm, rfl, bz1⟩, by rw [ht]; exact hP, va_K.moved hW.alike hK, hD⟩, hS.F ht⟩) hS.2.2 dX0_isCaptureArmed_27
    · refine lv_iload_n hx hb dX0_isCaptureArmed_17 rfl (lv_at hl 0 rfl) ?_
      refine lv_iconst (v := 3) hx hb dX0_isCaptureArmed_18 (by decide) ?_
      refine lv_icmp_ne (tgt := 26) hx hb dX0_isCaptureArmed_19 (by decide) (fun c3 => ?_) (fun c3 => ?_)
      · refine lv_iconst (v := 0) hx hb dX0_isCaptureArmed_26 (by decide) ?_
        have hq1 : pX0_isCaptureArmed u = 0 := (by unfold pX0_isCaptureArmed; first | (rw [if_neg c1, if_neg c2, if_neg c3]; done) | (rw [if_neg c1, if_neg c2, if_neg c3]; rfl))
        exact W.zret (v := 0) hx hb hr (bz_n bz0) (fun t ht hW => ⟨⟨0, u, rfl, ⟨hq1.symm, rfl, bz0⟩, by rw [ht]; exact hP, va_K.moved hW.alike hK, hD⟩, hS.F ht⟩) hS.2.2 dX0_isCaptureArmed_27
      · refine lv_iconst (v := 1) hx hb dX0_isCaptureArmed_22 (by decide) ?_
        refine lv_goto (tgt := 27) hx hb dX0_isCaptureArmed_23 (by decide) ?_
        have hq1 : pX0_isCaptureArmed u = 1 := (by unfold pX0_isCaptureArmed; first | (rw [if_neg c1, if_neg c2, if_pos c3]; done) | (rw [if_neg c1, if_neg c2, if_pos c3]; rfl))
        exact W.zret (v := 1) hx hb hr (bz_n bz1) (fun t ht hW => ⟨⟨1, u, rfl, ⟨hq1.symm, rfl, bz1⟩, by rw [ht]; exact hP, va_K.moved hW.alike hK, hD⟩, hS.F ht⟩) hS.2.2 dX0_isCaptureArmed_27
def pX0_isCourseWithin (u : XS) (a1 : Int32) : Int32 := if (xM u (Int32.toNatClampNeg 5)) = 1 then (if a1 < (if 0 ≤ (xM u (Int32.toNatClampNeg 0)) then (xM u (Int32.toNatClampNeg 0)) else 0 - (xM u (Int32.toNatClampNeg 0))) then (0) else (1)) else (0)
set_option maxHeartbeats 4000000 in
set_option maxRecDepth 100000 in
theorem kX0_isCourseWithin (l : Launch) (D : va_G) (cI cZ : ClassId) (h : Nat → Nat) (sz : Nat) (u : XS) (a1 : Int32) (hI : InvX u) : Mi l yX0_isCourseWithin wsX0_isCourseWithin { frames := 1, cells := 0, slots := 0, locals := 21 } D (tyl cI cZ) (wX cI cZ h) sz u [.ref (h 0), .int a1] (fun r u9 => r = pX0_isCourseWithin u a1 ∧ u9 = u ∧ bz r) := by
  refine Met.ofW (cc := cX0_isCourseWithin) (maxL := 2) (ret := (some .boolean)) (by decide) rfl ?_
  intro p e s m args below meth c s₁ B hml hv
  obtain ⟨rfl, hsz, hP, hK, hD0⟩ := hv
  have hx := B.exec
  have hb := B.bytes
  have hr := B.returns
  have hts := atoms_spec (ws := wsX0_isCourseWithin) B.pre
  have hin : ∀ w ∈ wsX00, w ∈ wsX0_isCourseWithin := fun w h9 => List.mem_cons_of_mem _ (List.mem_append_right _ h9)
  have hown : s.vm.findClass RX0 = some m.cls := findClass_of_methodNamed B.named
  have hlocks := B.notSynchronized
  subst hsz
  have hD : va_D (va_A (wX cI cZ h u) s.heap.size) (wX cI cZ h u) := hD0.self (sz := s.heap.size)
  have hA : ∀ q : Nat, s.heap.size ≤ q → va_A (wX cI cZ h u) s.heap.size q := fun q h9 => Or.inr h9
  have hS : va_S (va_A (wX cI cZ h u) s.heap.size) s.heap s.heap [] := va_S.rf
  have hl := lv_entry ([.ref (h 0), .int a1]) (n := 2) (Nat.le_of_ble_eq_true rfl)
  rw [lg_entry_eq]
  generalize (lg_sl ([.ref (h 0), .int a1]) ++ List.replicate (2 - (lg_sl ([.ref (h 0), .int a1])).length) Slot.unset).toArray = ls at hl ⊢
  have hl : lv_has ls 2 [(0, .ref (h 0)), (1, .int a1)] := hl
  generalize va_A (wX cI cZ h u) s.heap.size = A at hD hA hS ⊢
  refine lv_aload_n hx hb dX0_isCourseWithin_0 rfl (lv_at hl 0 rfl) ?_
  refine va_get (D := D) (ci := 0) (v := .ref (h 3)) (C := RX0) (T := TX0) (N := 12) hx hb hts hin hown hK hP 0 rfl rfl 2 (by decide) (hts (.fieldLink RX0 16 "ModeDesk" "measures" "[I") (by decide +kernel)) (fun _ h9 => h9) rfl dX0_isCourseWithin_1 ?_
  refine lv_iconst (v := 5) hx hb dX0_isCourseWithin_4 (by decide) ?_
  refine va_iald hx hb hK hP 3 0 rfl rfl (vi_c (by decide)) dX0_isCourseWithin_5 ?_
  refine lv_iconst (v := 1) hx hb dX0_isCourseWithin_6 (by decide) ?_
  refine lv_icmp_ne (tgt := 27) hx hb dX0_isCourseWithin_7 (by decide) (fun c1 => ?_) (fun c1 => ?_)
  · refine lv_iconst (v := 0) hx hb dX0_isCourseWithin_27 (by decide) ?_
    have hq1 : pX0_isCourseWithin u a1 = 0 := (by unfold pX0_isCourseWithin; first | (rw [if_neg c1]; done) | (rw [if_neg c1]; rfl))
    exact W.zret (v := 0) hx hb hr (bz_n bz0) (fun t ht hW => ⟨⟨0, u, rfl, ⟨hq1.symm, rfl, bz0⟩, by rw [ht]; exact hP, va_K.moved hW.alike hK, hD⟩, hS.F ht⟩) hS.2.2 dX0_isCourseWithin_28
  · refine lv_aload_n hx hb dX0_isCourseWithin_10 rfl (lv_at hl 0 rfl) ?_
    refine va_get (D := D) (ci := 0) (v := .ref (h 3)) (C := RX0) (T := TX0) (N := 12) hx hb hts hin hown hK hP 0 rfl rfl 2 (by decide) (hts (.fieldLink RX0 16 "ModeDesk" "measures" "[I") (by decide +kernel)) (fun _ h9 => h9) rfl dX0_isCourseWithin_11 ?_
    refine lv_iconst (v := 0) hx hb dX0_isCourseWithin_14 (by decide) ?_
    refine va_iald hx hb hK hP 3 0 rfl rfl (vi_c (by decide)) dX0_isCourseWithin_15 ?_
    refine va_mabs hx hb (by rw [hml]; exact hl.1.symm) hown (hts (.methodLink RX0 118 Lib.Math.abs.name) (by decide +kernel)) (hts (.static Lib.Math.abs.name) (by decide +kernel)) (hts (.initialized "java/lang/Math") (by decide +kernel)) (hts (.code Lib.Math.abs.name Lib.Math.abs.code 1 (some .int)) (by decide +kernel)) (Nat.le_of_ble_eq_true rfl) (Nat.le_of_ble_eq_true rfl) (Nat.zero_le _) (Nat.zero_le _) dX0_isCourseWithin_16 ?_
    refine lv_iload_n hx hb dX0_isCourseWithin_19 rfl (lv_at hl 1 rfl) ?_
    refine lv_icmp_gt (tgt := 27) hx hb dX0_isCourseWithin_20 (by decide) (fun c2 => ?_) (fun c2 => ?_)
    · refine lv_iconst (v := 0) hx hb dX0_isCourseWithin_27 (by decide) ?_
      have hq1 : pX0_isCourseWithin u a1 = 0 := (by unfold pX0_isCourseWithin; first | (rw [if_pos c1, if_pos c2]; done) | (rw [if_pos c1, if_pos c2]; rfl))
      exact W.zret (v := 0) hx hb hr (bz_n bz0) (fun t ht hW => ⟨⟨0, u, rfl, ⟨hq1.symm, rfl, bz0⟩, by rw [ht]; exact hP, va_K.moved hW.alike hK, hD⟩, hS.F ht⟩) hS.2.2 dX0_isCourseWithin_28
    · refine lv_iconst (v := 1) hx hb dX0_isCourseWithin_23 (by decide) ?_
      refine lv_goto (tgt := 28) hx hb dX0_isCourseWithin_24 (by decide) ?_
      have hq1 : pX0_isCourseWithin u a1 = 1 := (by unfold pX0_isCourseWithin; first | (rw [if_pos c1, if_neg c2]; done) | (rw [if_pos c1, if_neg c2]; rfl))
      exact W.zret (v := 1) hx hb hr (bz_n bz1) (fun t ht hW => ⟨⟨1, u, rfl, ⟨hq1.symm, rfl, bz1⟩, by rw [ht]; exact hP, va_K.moved hW.alike hK, hD⟩, hS.F ht⟩) hS.2.2 dX0_isCourseWithin_28
def pX0_isPathWithin (u : XS) (a1 : Int32) : Int32 := if (xM u (Int32.toNatClampNeg 6)) = 1 then (if a1 < (if 0 ≤ (xM u (Int32.toNatClampNeg 1)) then (xM u (Int32.toNatClampNeg 1)) else 0 - (xM u (Int32.toNatClampNeg 1))) then (0) else (1)) else (0)
set_option maxHeartbeats 4000000 in
set_option maxRecDepth 100000 in
theorem kX0_isPathWithin (l : Launch) (D : va_G) (cI cZ : ClassId) (h : Nat → Nat) (sz : Nat) (u : XS) (a1 : Int32) (hI : InvX u) : Mi l yX0_isPathWithin wsX0_isPathWithin { frames := 1, cells := 0, slots := 0, locals := 21 } D (tyl cI cZ) (wX cI cZ h) sz u [.ref (h 0), .int a1] (fun r u9 => r = pX0_isPathWithin u a1 ∧ u9 = u ∧ bz r) := by
  refine Met.ofW (cc := cX0_isPathWithin) (maxL := 2) (ret := (some .boolean)) (by decide) rfl ?_
  intro p e s m args below meth c s₁ B hml hv
  obtain ⟨rfl, hsz, hP, hK, hD0⟩ := hv
  have hx := B.exec
  have hb := B.bytes
  have hr := B.returns
  have hts := atoms_spec (ws := wsX0_isPathWithin) B.pre
  have hin : ∀ w ∈ wsX00, w ∈ wsX0_isPathWithin := fun w h9 => List.mem_cons_of_mem _ (List.mem_append_right _ h9)
  have hown : s.vm.findClass RX0 = some m.cls := findClass_of_methodNamed B.named
  have hlocks := B.notSynchronized
  subst hsz
  have hD : va_D (va_A (wX cI cZ h u) s.heap.size) (wX cI cZ h u) := hD0.self (sz := s.heap.size)
  have hA : ∀ q : Nat, s.heap.size ≤ q → va_A (wX cI cZ h u) s.heap.size q := fun q h9 => Or.inr h9
  have hS : va_S (va_A (wX cI cZ h u) s.heap.size) s.heap s.heap [] := va_S.rf
  have hl := lv_entry ([.ref (h 0), .int a1]) (n := 2) (Nat.le_of_ble_eq_true rfl)
  rw [lg_entry_eq]
  generalize (lg_sl ([.ref (h 0), .int a1]) ++ List.replicate (2 - (lg_sl ([.ref (h 0), .int a1])).length) Slot.unset).toArray = ls at hl ⊢
  have hl : lv_has ls 2 [(0, .ref (h 0)), (1, .int a1)] := hl
  generalize va_A (wX cI cZ h u) s.heap.size = A at hD hA hS ⊢
  refine lv_aload_n hx hb dX0_isPathWithin_0 rfl (lv_at hl 0 rfl) ?_
  refine va_get (D := D) (ci := 0) (v := .ref (h 3)) (C := RX0) (T := TX0) (N := 12) hx hb hts hin hown hK hP 0 rfl rfl 2 (by decide) (hts (.fieldLink RX0 16 "ModeDesk" "measures" "[I") (by decide +kernel)) (fun _ h9 => h9) rfl dX0_isPathWithin_1 ?_
  refine lv_bipush (v := 6) hx hb dX0_isPathWithin_4 (by decide) ?_
  refine va_iald hx hb hK hP 3 0 rfl rfl (vi_c (by decide)) dX0_isPathWithin_6 ?_
  refine lv_iconst (v := 1) hx hb dX0_isPathWithin_7 (by decide) ?_
  refine lv_icmp_ne (tgt := 28) hx hb dX0_isPathWithin_8 (by decide) (fun c1 => ?_) (fun c1 => ?_)
  · refine lv_iconst (v := 0) hx hb dX0_isPathWithin_28 (by decide) ?_
    have hq1 : pX0_isPathWithin u a1 = 0 := (by unfold pX0_isPathWithin; first | (rw [if_neg c1]; done) | (rw [if_neg c1]; rfl))
    exact W.zret (v := 0) hx hb hr (bz_n bz0) (fun t ht hW => ⟨⟨0, u, rfl, ⟨hq1.symm, rfl, bz0⟩, by rw [ht]; exact hP, va_K.moved hW.alike hK, hD⟩, hS.F ht⟩) hS.2.2 dX0_isPathWithin_29
  · refine lv_aload_n hx hb dX0_isPathWithin_11 rfl (lv_at hl 0 rfl) ?_
    refine va_get (D := D) (ci := 0) (v := .ref (h 3)) (C := RX0) (T := TX0) (N := 12) hx hb hts hin hown hK hP 0 rfl rfl 2 (by decide) (hts (.fieldLink RX0 16 "ModeDesk" "measures" "[I") (by decide +kernel)) (fun _ h9 => h9) rfl dX0_isPathWithin_12 ?_
    refine lv_iconst (v := 1) hx hb dX0_isPathWithin_15 (by decide) ?_
    refine va_iald hx hb hK hP 3 0 rfl rfl (vi_c (by decide)) dX0_isPathWithin_16 ?_
    refine va_mabs hx hb (by rw [hml]; exact hl.1.symm) hown (hts (.methodLink RX0 118 Lib.Math.abs.name) (by decide +kernel)) (hts (.static Lib.Math.abs.name) (by decide +kernel)) (hts (.initialized "java/lang/Math") (by decide +kernel)) (hts (.code Lib.Math.abs.name Lib.Math.abs.code 1 (some .int)) (by decide +kernel)) (Nat.le_of_ble_eq_true rfl) (Nat.le_of_ble_eq_true rfl) (Nat.zero_le _) (Nat.zero_le _) dX0_isPathWithin_17 ?_
    refine lv_iload_n hx hb dX0_isPathWithin_20 rfl (lv_at hl 1 rfl) ?_
    refine lv_icmp_gt (tgt := 28) hx hb dX0_isPathWithin_21 (by decide) (fun c2 => ?_) (fun c2 => ?_)
    · refine lv_iconst (v := 0) hx hb dX0_isPathWithin_28 (by decide) ?_
      have hq1 : pX0_isPathWithin u a1 = 0 := (by unfold pX0_isPathWithin; first | (rw [if_pos c1, if_pos c2]; done) | (rw [if_pos c1, if_pos c2]; rfl))
      exact W.zret (v := 0) hx hb hr (bz_n bz0) (fun t ht hW => ⟨⟨0, u, rfl, ⟨hq1.symm, rfl, bz0⟩, by rw [ht]; exact hP, va_K.moved hW.alike hK, hD⟩, hS.F ht⟩) hS.2.2 dX0_isPathWithin_29
    · refine lv_iconst (v := 1) hx hb dX0_isPathWithin_24 (by decide) ?_
      refine lv_goto (tgt := 29) hx hb dX0_isPathWithin_25 (by decide) ?_
      have hq1 : pX0_isPathWithin u a1 = 1 := (by unfold pX0_isPathWithin; first | (rw [if_pos c1, if_neg c2]; done) | (rw [if_pos c1, if_neg c2]; rfl))
      exact W.zret (v := 1) hx hb hr (bz_n bz1) (fun t ht hW => ⟨⟨1, u, rfl, ⟨hq1.symm, rfl, bz1⟩, by rw [ht]; exact hP, va_K.moved hW.alike hK, hD⟩, hS.F ht⟩) hS.2.2 dX0_isPathWithin_29
def pX0_isHeightWithin (u : XS) (a1 : Int32) : Int32 := if a1 < (if 0 ≤ ((xM u (Int32.toNatClampNeg 2)) - (xM u (Int32.toNatClampNeg 3))) then ((xM u (Int32.toNatClampNeg 2)) - (xM u (Int32.toNatClampNeg 3))) else 0 - ((xM u (Int32.toNatClampNeg 2)) - (xM u (Int32.toNatClampNeg 3)))) then (0) else (1)
set_option maxHeartbeats 4000000 in
set_option maxRecDepth 100000 in
theorem kX0_isHeightWithin (l : Launch) (D : va_G) (cI cZ : ClassId) (h : Nat → Nat) (sz : Nat) (u : XS) (a1 : Int32) (hI : InvX u) : Mi l yX0_isHeightWithin wsX0_isHeightWithin { frames := 1, cells := 0, slots := 0, locals := 21 } D (tyl cI cZ) (wX cI cZ h) sz u [.ref (h 0), .int a1] (fun r u9 => r = pX0_isHeightWithin u a1 ∧ u9 = u ∧ bz r) := by
  refine Met.ofW (cc := cX0_isHeightWithin) (maxL := 2) (ret := (some .boolean)) (by decide) rfl ?_
  intro p e s m args below meth c s₁ B hml hv
  obtain ⟨rfl, hsz, hP, hK, hD0⟩ := hv
  have hx := B.exec
  have hb := B.bytes
  have hr := B.returns
  have hts := atoms_spec (ws := wsX0_isHeightWithin) B.pre
  have hin : ∀ w ∈ wsX00, w ∈ wsX0_isHeightWithin := fun w h9 => List.mem_cons_of_mem _ (List.mem_append_right _ h9)
  have hown : s.vm.findClass RX0 = some m.cls := findClass_of_methodNamed B.named
  have hlocks := B.notSynchronized
  subst hsz
  have hD : va_D (va_A (wX cI cZ h u) s.heap.size) (wX cI cZ h u) := hD0.self (sz := s.heap.size)
  have hA : ∀ q : Nat, s.heap.size ≤ q → va_A (wX cI cZ h u) s.heap.size q := fun q h9 => Or.inr h9
  have hS : va_S (va_A (wX cI cZ h u) s.heap.size) s.heap s.heap [] := va_S.rf
  have hl := lv_entry ([.ref (h 0), .int a1]) (n := 2) (Nat.le_of_ble_eq_true rfl)
  rw [lg_entry_eq]
  generalize (lg_sl ([.ref (h 0), .int a1]) ++ List.replicate (2 - (lg_sl ([.ref (h 0), .int a1])).length) Slot.unset).toArray = ls at hl ⊢
  have hl : lv_has ls 2 [(0, .ref (h 0)), (1, .int a1)] := hl
  generalize va_A (wX cI cZ h u) s.heap.size = A at hD hA hS ⊢
  refine lv_aload_n hx hb dX0_isHeightWithin_0 rfl (lv_at hl 0 rfl) ?_
  refine va_get (D := D) (ci := 0) (v := .ref (h 3)) (C := RX0) (T := TX0) (N := 12) hx hb hts hin hown hK hP 0 rfl rfl 2 (by decide) (hts (.fieldLink RX0 16 "ModeDesk" "measures" "[I") (by decide +kernel)) (fun _ h9 => h9) rfl dX0_isHeightWithin_1 ?_
  refine lv_iconst (v := 2) hx hb dX0_isHeightWithin_4 (by decide) ?_
  refine va_iald hx hb hK hP 3 0 rfl rfl (vi_c (by decide)) dX0_isHeightWithin_5 ?_
  refine lv_aload_n hx hb dX0_isHeightWithin_6 rfl (lv_at hl 0 rfl) ?_
  refine va_get (D := D) (ci := 0) (v := .ref (h 3)) (C := RX0) (T := TX0) (N := 12) hx hb hts hin hown hK hP 0 rfl rfl 2 (by decide) (hts (.fieldLink RX0 16 "ModeDesk" "measures" "[I") (by decide +kernel)) (fun _ h9 => h9) rfl dX0_isHeightWithin_7 ?_
  refine lv_iconst (v := 3) hx hb dX0_isHeightWithin_10 (by decide) ?_
  refine va_iald hx hb hK hP 3 0 rfl rfl (vi_c (by decide)) dX0_isHeightWithin_11 ?_
  refine lv_isub hx hb dX0_isHeightWithin_12 ?_
  refine va_mabs hx hb (by rw [hml]; exact hl.1.symm) hown (hts (.methodLink RX0 118 Lib.Math.abs.name) (by decide +kernel)) (hts (.static Lib.Math.abs.name) (by decide +kernel)) (hts (.initialized "java/lang/Math") (by decide +kernel)) (hts (.code Lib.Math.abs.name Lib.Math.abs.code 1 (some .int)) (by decide +kernel)) (Nat.le_of_ble_eq_true rfl) (Nat.le_of_ble_eq_true rfl) (Nat.zero_le _) (Nat.zero_le _) dX0_isHeightWithin_13 ?_
  refine lv_iload_n hx hb dX0_isHeightWithin_16 rfl (lv_at hl 1 rfl) ?_
  refine lv_icmp_gt (tgt := 24) hx hb dX0_isHeightWithin_17 (by decide) (fun c1 => ?_) (fun c1 => ?_)
  · refine lv_iconst (v := 0) hx hb dX0_isHeightWithin_24 (by decide) ?_
    have hq1 : pX0_isHeightWithin u a1 = 0 := (by unfold pX0_isHeightWithin; first | (rw [if_pos c1]; done) | (rw [if_pos c1]; rfl))
    exact W.zret (v := 0) hx hb hr (bz_n bz0) (fun t ht hW => ⟨⟨0, u, rfl, ⟨hq1.symm, rfl, bz0⟩, by rw [ht]; exact hP, va_K.moved hW.alike hK, hD⟩, hS.F ht⟩) hS.2.2 dX0_isHeightWithin_25
  · refine lv_iconst (v := 1) hx hb dX0_isHeightWithin_20 (by decide) ?_
    refine lv_goto (tgt := 25) hx hb dX0_isHeightWithin_21 (by decide) ?_
    have hq1 : pX0_isHeightWithin u a1 = 1 := (by unfold pX0_isHeightWithin; first | (rw [if_neg c1]; done) | (rw [if_neg c1]; rfl))
    exact W.zret (v := 1) hx hb hr (bz_n bz1) (fun t ht hW => ⟨⟨1, u, rfl, ⟨hq1.symm, rfl, bz1⟩, by rw [ht]; exact hP, va_K.moved hW.alike hK, hD⟩, hS.F ht⟩) hS.2.2 dX0_isHeightWithin_25
def pX0_stopFlashing (u : XS) : XS := xF_ (xF_ u (upd (xF u) (Int32.toNatClampNeg 0) 0)) (upd (xF (xF_ u (upd (xF u) (Int32.toNatClampNeg 0) 0))) (Int32.toNatClampNeg 1) 0)
set_option maxHeartbeats 4000000 in
set_option maxRecDepth 100000 in
theorem kX0_stopFlashing (l : Launch) (D : va_G) (cI cZ : ClassId) (h : Nat → Nat) (sz : Nat) (u : XS) (hI : InvX u) : Mv l yX0_stopFlashing wsX0_stopFlashing { frames := 0, cells := 0, slots := 0, locals := 0 } D (tyl cI cZ) (wX cI cZ h) sz u [.ref (h 0)] (fun u9 => u9 = pX0_stopFlashing u ∧ InvX u9) := by
  refine Met.ofW (cc := cX0_stopFlashing) (maxL := 1) (ret := none) (by decide) rfl ?_
  intro p e s m args below meth c s₁ B hml hv
  obtain ⟨rfl, hsz, hP, hK, hD0⟩ := hv
  have hx := B.exec
  have hb := B.bytes
  have hr := B.returns
  have hts := atoms_spec (ws := wsX0_stopFlashing) B.pre
  have hin : ∀ w ∈ wsX00, w ∈ wsX0_stopFlashing := fun w h9 => List.mem_cons_of_mem _ (List.mem_append_right _ h9)
  have hown : s.vm.findClass RX0 = some m.cls := findClass_of_methodNamed B.named
  have hlocks := B.notSynchronized
  subst hsz
  have hD : va_D (va_A (wX cI cZ h u) s.heap.size) (wX cI cZ h u) := hD0.self (sz := s.heap.size)
  have hA : ∀ q : Nat, s.heap.size ≤ q → va_A (wX cI cZ h u) s.heap.size q := fun q h9 => Or.inr h9
  have hS : va_S (va_A (wX cI cZ h u) s.heap.size) s.heap s.heap [] := va_S.rf
  have hl := lv_entry ([.ref (h 0)]) (n := 1) (Nat.le_of_ble_eq_true rfl)
  rw [lg_entry_eq]
  generalize (lg_sl ([.ref (h 0)]) ++ List.replicate (1 - (lg_sl ([.ref (h 0)])).length) Slot.unset).toArray = ls at hl ⊢
  have hl : lv_has ls 1 [(0, .ref (h 0))] := hl
  generalize va_A (wX cI cZ h u) s.heap.size = A at hD hA hS ⊢
  refine lv_aload_n hx hb dX0_stopFlashing_0 rfl (lv_at hl 0 rfl) ?_
  refine va_get (D := D) (ci := 0) (v := .ref (h 2)) (C := RX0) (T := TX0) (N := 12) hx hb hts hin hown hK hP 0 rfl rfl 1 (by decide) (hts (.fieldLink RX0 13 "ModeDesk" "flashing" "[I") (by decide +kernel)) (fun _ h9 => h9) rfl dX0_stopFlashing_1 ?_
  refine lv_iconst (v := 0) hx hb dX0_stopFlashing_4 (by decide) ?_
  refine lv_iconst (v := 0) hx hb dX0_stopFlashing_5 (by decide) ?_
  refine va_iast hx hb hK hP hD hS 2 0 rfl rfl (vi_c (by decide)) dX0_stopFlashing_6 (fun H2 locs hP hD hS => ?_)
  obtain ⟨u1, eu1⟩ : ∃ y : XS, y = xF_ u (upd (xF u) (Int32.toNatClampNeg 0) 0) := ⟨_, rfl⟩
  have hP : va_P D vwCl (wX cI cZ h u1) H2 := by rw [eu1]; exact hP
  have hD : va_D A (wX cI cZ h u1) := by rw [eu1]; exact hD
  have hIu1 : InvX u1 := by rw [eu1]; exact InvX.sF hI _
  refine lv_aload_n hx hb dX0_stopFlashing_7 rfl (lv_at hl 0 rfl) ?_
  refine va_get (D := D) (ci := 0) (v := .ref (h 2)) (C := RX0) (T := TX0) (N := 12) hx hb hts hin hown hK hP 0 rfl rfl 1 (by decide) (hts (.fieldLink RX0 13 "ModeDesk" "flashing" "[I") (by decide +kernel)) (fun _ h9 => h9) rfl dX0_stopFlashing_8 ?_
  refine lv_iconst (v := 1) hx hb dX0_stopFlashing_11 (by decide) ?_
  refine lv_iconst (v := 0) hx hb dX0_stopFlashing_12 (by decide) ?_
  refine va_iast hx hb hK hP hD hS 2 0 rfl rfl (vi_c (by decide)) dX0_stopFlashing_13 (fun H4 locs hP hD hS => ?_)
  obtain ⟨u3, eu3⟩ : ∃ y : XS, y = xF_ u1 (upd (xF u1) (Int32.toNatClampNeg 1) 0) := ⟨_, rfl⟩
  have hP : va_P D vwCl (wX cI cZ h u3) H4 := by rw [eu3]; exact hP
  have hD : va_D A (wX cI cZ h u3) := by rw [eu3]; exact hD
  have hIu3 : InvX u3 := by rw [eu3]; exact InvX.sF hIu1 _
  have hq1 : pX0_stopFlashing u = u3 := (by subst eu3; subst eu1; rfl)
  exact W.vret hx hb hr (fun t ht hW => ⟨⟨u3, rfl, ⟨hq1.symm, hIu3⟩, by rw [ht]; exact hP, va_K.moved hW.alike hK, hD⟩, hS.F ht⟩) hS.2.2 dX0_stopFlashing_14
def pX0_disarmAll (u : XS) : XS := xg_ (xa_ (xn_ u 0) 0) 0
set_option maxHeartbeats 4000000 in
set_option maxRecDepth 100000 in
theorem kX0_disarmAll (l : Launch) (D : va_G) (cI cZ : ClassId) (h : Nat → Nat) (sz : Nat) (u : XS) (hI : InvX u) : Mv l yX0_disarmAll wsX0_disarmAll { frames := 0, cells := 0, slots := 0, locals := 0 } D (tyl cI cZ) (wX cI cZ h) sz u [.ref (h 0)] (fun u9 => u9 = pX0_disarmAll u ∧ InvX u9) := by
  refine Met.ofW (cc := cX0_disarmAll) (maxL := 1) (ret := none) (by decide) rfl ?_
  intro p e s m args below meth c s₁ B hml hv
  obtain ⟨rfl, hsz, hP, hK, hD0⟩ := hv
  have hx := B.exec
  have hb := B.bytes
  have hr := B.returns
  have hts := atoms_spec (ws := wsX0_disarmAll) B.pre
  have hin : ∀ w ∈ wsX00, w ∈ wsX0_disarmAll := fun w h9 => List.mem_cons_of_mem _ (List.mem_append_right _ h9)
  have hown : s.vm.findClass RX0 = some m.cls := findClass_of_methodNamed B.named
  have hlocks := B.notSynchronized
  subst hsz
  have hD : va_D (va_A (wX cI cZ h u) s.heap.size) (wX cI cZ h u) := hD0.self (sz := s.heap.size)
  have hA : ∀ q : Nat, s.heap.size ≤ q → va_A (wX cI cZ h u) s.heap.size q := fun q h9 => Or.inr h9
  have hS : va_S (va_A (wX cI cZ h u) s.heap.size) s.heap s.heap [] := va_S.rf
  have hl := lv_entry ([.ref (h 0)]) (n := 1) (Nat.le_of_ble_eq_true rfl)
  rw [lg_entry_eq]
  generalize (lg_sl ([.ref (h 0)]) ++ List.replicate (1 - (lg_sl ([.ref (h 0)])).length) Slot.unset).toArray = ls at hl ⊢
  have hl : lv_has ls 1 [(0, .ref (h 0))] := hl
  generalize va_A (wX cI cZ h u) s.heap.size = A at hD hA hS ⊢
  refine lv_aload_n hx hb dX0_disarmAll_0 rfl (lv_at hl 0 rfl) ?_
  refine lv_iconst (v := 0) hx hb dX0_disarmAll_1 (by decide) ?_
  refine va_put (D := D) (ci := 0) (v := .int 0) (ty := .boolean) (C := RX0) (T := TX0) (N := 12) hx hb hts hin tyX0 tyX0_ok nmX0 hown hK hP hD hS 0 rfl rfl 5 (by decide) (hts (.fieldLink RX0 90 "ModeDesk" "navArmed" "Z") (by decide +kernel)) (fun _ h9 => h9) rfl (by decide +kernel) (bz_n bz0) (bz_f bz0) (Nat.le_of_ble_eq_true rfl) dX0_disarmAll_2 (fun H2 locs hP hD hS => ?_)
  obtain ⟨u1, eu1⟩ : ∃ y : XS, y = xn_ u 0 := ⟨_, rfl⟩
  have hP : va_P D vwCl (wX cI cZ h u1) H2 := by rw [eu1]; exact hP
  have hD : va_D A (wX cI cZ h u1) := by rw [eu1]; exact hD
  have hIu1 : InvX u1 := by rw [eu1]; exact InvX.sn hI bz0
  refine lv_aload_n hx hb dX0_disarmAll_5 rfl (lv_at hl 0 rfl) ?_
  refine lv_iconst (v := 0) hx hb dX0_disarmAll_6 (by decide) ?_
  refine va_put (D := D) (ci := 0) (v := .int 0) (ty := .boolean) (C := RX0) (T := TX0) (N := 12) hx hb hts hin tyX0 tyX0_ok nmX0 hown hK hP hD hS 0 rfl rfl 6 (by decide) (hts (.fieldLink RX0 93 "ModeDesk" "approachArmed" "Z") (by decide +kernel)) (fun _ h9 => h9) rfl (by decide +kernel) (bz_n bz0) (bz_f bz0) (Nat.le_of_ble_eq_true rfl) dX0_disarmAll_7 (fun H4 locs hP hD hS => ?_)
  obtain ⟨u3, eu3⟩ : ∃ y : XS, y = xa_ u1 0 := ⟨_, rfl⟩
  have hP : va_P D vwCl (wX cI cZ h u3) H4 := by rw [eu3]; exact hP
  have hD : va_D A (wX cI cZ h u3) := by rw [eu3]; exact hD
  have hIu3 : InvX u3 := by rw [eu3]; exact InvX.sa hIu1 bz0
  refine lv_aload_n hx hb dX0_disarmAll_10 rfl (lv_at hl 0 rfl) ?_
  refine lv_iconst (v := 0) hx hb dX0_disarmAll_11 (by decide) ?_
  refine va_put (D := D) (ci := 0) (v := .int 0) (ty := .boolean) (C := RX0) (T := TX0) (N := 12) hx hb hts hin tyX0 tyX0_ok nmX0 hown hK hP hD hS 0 rfl rfl 7 (by decide) (hts (.fieldLink RX0 96 "ModeDesk" "glideArmed" "Z") (by decide +kernel)) (fun _ h9 => h9) rfl (by decide +kernel) (bz_n bz0) (bz_f bz0) (Nat.le_of_ble_eq_true rfl) dX0_disarmAll_12 (fun H6 locs hP hD hS => ?_)
  obtain ⟨u5, eu5⟩ : ∃ y : XS, y = xg_ u3 0 := ⟨_, rfl⟩
  have hP : va_P D vwCl (wX cI cZ h u5) H6 := by rw [eu5]; exact hP
  have hD : va_D A (wX cI cZ h u5) := by rw [eu5]; exact hD
  have hIu5 : InvX u5 := by rw [eu5]; exact InvX.sg hIu3 bz0
  have hq1 : pX0_disarmAll u = u5 := (by subst eu5; subst eu3; subst eu1; rfl)
  exact W.vret hx hb hr (fun t ht hW => ⟨⟨u5, rfl, ⟨hq1.symm, hIu5⟩, by rw [ht]; exact hP, va_K.moved hW.alike hK, hD⟩, hS.F ht⟩) hS.2.2 dX0_disarmAll_15
def pX0_disengageWithWarning (u : XS) : XS := if (xe u) = 0 then (u) else (xw_ (xe_ u 0) 1)
set_option maxHeartbeats 4000000 in
set_option maxRecDepth 100000 in
theorem kX0_disengageWithWarning (l : Launch) (D : va_G) (cI cZ : ClassId) (h : Nat → Nat) (sz : Nat) (u : XS) (hI : InvX u) : Mv l yX0_disengageWithWarning wsX0_disengageWithWarning { frames := 0, cells := 0, slots := 0, locals := 0 } D (tyl cI cZ) (wX cI cZ h) sz u [.ref (h 0)] (fun u9 => u9 = pX0_disengageWithWarning u ∧ InvX u9) := by
  refine Met.ofW (cc := cX0_disengageWithWarning) (maxL := 1) (ret := none) (by decide) rfl ?_
  intro p e s m args below meth c s₁ B hml hv
  obtain ⟨rfl, hsz, hP, hK, hD0⟩ := hv
  have hx := B.exec
  have hb := B.bytes
  have hr := B.returns
  have hts := atoms_spec (ws := wsX0_disengageWithWarning) B.pre
  have hin : ∀ w ∈ wsX00, w ∈ wsX0_disengageWithWarning := fun w h9 => List.mem_cons_of_mem _ (List.mem_append_right _ h9)
  have hown : s.vm.findClass RX0 = some m.cls := findClass_of_methodNamed B.named
  have hlocks := B.notSynchronized
  subst hsz
  have hD : va_D (va_A (wX cI cZ h u) s.heap.size) (wX cI cZ h u) := hD0.self (sz := s.heap.size)
  have hA : ∀ q : Nat, s.heap.size ≤ q → va_A (wX cI cZ h u) s.heap.size q := fun q h9 => Or.inr h9
  have hS : va_S (va_A (wX cI cZ h u) s.heap.size) s.heap s.heap [] := va_S.rf
  have hl := lv_entry ([.ref (h 0)]) (n := 1) (Nat.le_of_ble_eq_true rfl)
  rw [lg_entry_eq]
  generalize (lg_sl ([.ref (h 0)]) ++ List.replicate (1 - (lg_sl ([.ref (h 0)])).length) Slot.unset).toArray = ls at hl ⊢
  have hl : lv_has ls 1 [(0, .ref (h 0))] := hl
  generalize va_A (wX cI cZ h u) s.heap.size = A at hD hA hS ⊢
  refine lv_aload_n hx hb dX0_disengageWithWarning_0 rfl (lv_at hl 0 rfl) ?_
  refine va_get (D := D) (ci := 0) (v := .int (xe u)) (C := RX0) (T := TX0) (N := 12) hx hb hts hin hown hK hP 0 rfl rfl 8 (by decide) (hts (.fieldLink RX0 63 "ModeDesk" "engaged" "Z") (by decide +kernel)) (fun _ h9 => h9) rfl dX0_disengageWithWarning_1 ?_
  refine lv_if_eq (tgt := 17) hx hb dX0_disengageWithWarning_4 (by decide) (fun c1 => ?_) (fun c1 => ?_)
  · have hq1 : pX0_disengageWithWarning u = u := (by unfold pX0_disengageWithWarning; first | (rw [if_pos c1]; done) | (rw [if_pos c1]; rfl))
    exact W.vret hx hb hr (fun t ht hW => ⟨⟨u, rfl, ⟨hq1.symm, hI⟩, by rw [ht]; exact hP, va_K.moved hW.alike hK, hD⟩, hS.F ht⟩) hS.2.2 dX0_disengageWithWarning_17
  · refine lv_aload_n hx hb dX0_disengageWithWarning_7 rfl (lv_at hl 0 rfl) ?_
    refine lv_iconst (v := 0) hx hb dX0_disengageWithWarning_8 (by decide) ?_
    refine va_put (D := D) (ci := 0) (v := .int 0) (ty := .boolean) (C := RX0) (T := TX0) (N := 12) hx hb hts hin tyX0 tyX0_ok nmX0 hown hK hP hD hS 0 rfl rfl 8 (by decide) (hts (.fieldLink RX0 63 "ModeDesk" "engaged" "Z") (by decide +kernel)) (fun _ h9 => h9) rfl (by decide +kernel) (bz_n bz0) (bz_f bz0) (Nat.le_of_ble_eq_true rfl) dX0_disengageWithWarning_9 (fun H3 locs hP hD hS => ?_)
    obtain ⟨u2, eu2⟩ : ∃ y : XS, y = xe_ u 0 := ⟨_, rfl⟩
    have hP : va_P D vwCl (wX cI cZ h u2) H3 := by rw [eu2]; exact hP
    have hD : va_D A (wX cI cZ h u2) := by rw [eu2]; exact hD
    have hIu2 : InvX u2 := by rw [eu2]; exact InvX.se hI bz0
    refine lv_aload_n hx hb dX0_disengageWithWarning_12 rfl (lv_at hl 0 rfl) ?_
    refine lv_iconst (v := 1) hx hb dX0_disengageWithWarning_13 (by decide) ?_
    refine va_put (D := D) (ci := 0) (v := .int 1) (ty := .boolean) (C := RX0) (T := TX0) (N := 12) hx hb hts hin tyX0 tyX0_ok nmX0 hown hK hP hD hS 0 rfl rfl 9 (by decide) (hts (.fieldLink RX0 83 "ModeDesk" "warning" "Z") (by decide +kernel)) (fun _ h9 => h9) rfl (by decide +kernel) (bz_n bz1) (bz_f bz1) (Nat.le_of_ble_eq_true rfl) dX0_disengageWithWarning_14 (fun H5 locs hP hD hS => ?_)
    obtain ⟨u4, eu4⟩ : ∃ y : XS, y = xw_ u2 1 := ⟨_, rfl⟩
    have hP : va_P D vwCl (wX cI cZ h u4) H5 := by rw [eu4]; exact hP
    have hD : va_D A (wX cI cZ h u4) := by rw [eu4]; exact hD
    have hIu4 : InvX u4 := by rw [eu4]; exact InvX.sw hIu2 bz1
    have hq1 : pX0_disengageWithWarning u = u4 := (by subst eu4; subst eu2; unfold pX0_disengageWithWarning; first | (rw [if_neg c1]; done) | (rw [if_neg c1]; rfl))
    exact W.vret hx hb hr (fun t ht hW => ⟨⟨u4, rfl, ⟨hq1.symm, hIu4⟩, by rw [ht]; exact hP, va_K.moved hW.alike hK, hD⟩, hS.F ht⟩) hS.2.2 dX0_disengageWithWarning_17
def pX0_change (u : XS) (a1 a2 a3 : Int32) : XS := if (xA u (Int32.toNatClampNeg a1)) = a2 then (u) else (if a3 = 0 then (if 300 ≤ (xc (xA_ u (upd (xA u) (Int32.toNatClampNeg a1) a2))) then (xA_ u (upd (xA u) (Int32.toNatClampNeg a1) a2)) else (xc_ (xC_ (xA_ u (upd (xA u) (Int32.toNatClampNeg a1) a2)) (upd (xC (xA_ u (upd (xA u) (Int32.toNatClampNeg a1) a2))) (Int32.toNatClampNeg (xc (xA_ u (upd (xA u) (Int32.toNatClampNeg a1) a2)))) (((a1 ||| ((xA u (Int32.toNatClampNeg a1)) <<< ((1 : Int32) &&& 31))) ||| (a2 <<< ((4 : Int32) &&& 31))) ||| (pX0_bit a3 128)))) ((xc (xC_ (xA_ u (upd (xA u) (Int32.toNatClampNeg a1) a2)) (upd (xC (xA_ u (upd (xA u) (Int32.toNatClampNeg a1) a2))) (Int32.toNatClampNeg (xc (xA_ u (upd (xA u) (Int32.toNatClampNeg a1) a2)))) (((a1 ||| ((xA u (Int32.toNatClampNeg a1)) <<< ((1 : Int32) &&& 31))) ||| (a2 <<< ((4 : Int32) &&& 31))) ||| (pX0_bit a3 128))))) + 1))) else (if 300 ≤ (xc (xF_ (xA_ u (upd (xA u) (Int32.toNatClampNeg a1) a2)) (upd (xF (xA_ u (upd (xA u) (Int32.toNatClampNeg a1) a2))) (Int32.toNatClampNeg a1) 10))) then (xF_ (xA_ u (upd (xA u) (Int32.toNatClampNeg a1) a2)) (upd (xF (xA_ u (upd (xA u) (Int32.toNatClampNeg a1) a2))) (Int32.toNatClampNeg a1) 10)) else (xc_ (xC_ (xF_ (xA_ u (upd (xA u) (Int32.toNatClampNeg a1) a2)) (upd (xF (xA_ u (upd (xA u) (Int32.toNatClampNeg a1) a2))) (Int32.toNatClampNeg a1) 10)) (upd (xC (xF_ (xA_ u (upd (xA u) (Int32.toNatClampNeg a1) a2)) (upd (xF (xA_ u (upd (xA u) (Int32.toNatClampNeg a1) a2))) (Int32.toNatClampNeg a1) 10))) (Int32.toNatClampNeg (xc (xF_ (xA_ u (upd (xA u) (Int32.toNatClampNeg a1) a2)) (upd (xF (xA_ u (upd (xA u) (Int32.toNatClampNeg a1) a2))) (Int32.toNatClampNeg a1) 10)))) (((a1 ||| ((xA u (Int32.toNatClampNeg a1)) <<< ((1 : Int32) &&& 31))) ||| (a2 <<< ((4 : Int32) &&& 31))) ||| (pX0_bit a3 128)))) ((xc (xC_ (xF_ (xA_ u (upd (xA u) (Int32.toNatClampNeg a1) a2)) (upd (xF (xA_ u (upd (xA u) (Int32.toNatClampNeg a1) a2))) (Int32.toNatClampNeg a1) 10)) (upd (xC (xF_ (xA_ u (upd (xA u) (Int32.toNatClampNeg a1) a2)) (upd (xF (xA_ u (upd (xA u) (Int32.toNatClampNeg a1) a2))) (Int32.toNatClampNeg a1) 10))) (Int32.toNatClampNeg (xc (xF_ (xA_ u (upd (xA u) (Int32.toNatClampNeg a1) a2)) (upd (xF (xA_ u (upd (xA u) (Int32.toNatClampNeg a1) a2))) (Int32.toNatClampNeg a1) 10)))) (((a1 ||| ((xA u (Int32.toNatClampNeg a1)) <<< ((1 : Int32) &&& 31))) ||| (a2 <<< ((4 : Int32) &&& 31))) ||| (pX0_bit a3 128))))) + 1))))
set_option maxHeartbeats 4000000 in
set_option maxRecDepth 100000 in
theorem kX0_change (l : Launch) (D : va_G) (cI cZ : ClassId) (h : Nat → Nat) (sz : Nat) (u : XS) (a1 a2 a3 : Int32) (hI : InvX u) (hb1 : bz a1) : Mv l yX0_change wsX0_change { frames := 1, cells := 0, slots := 0, locals := 21 } D (tyl cI cZ) (wX cI cZ h) sz u [.ref (h 0), .int a1, .int a2, .int a3] (fun u9 => u9 = pX0_change u a1 a2 a3 ∧ InvX u9) := by
  refine Met.ofW (cc := cX0_change) (maxL := 5) (ret := none) (by decide) rfl ?_
  intro p e s m args below meth c s₁ B hml hv
  obtain ⟨rfl, hsz, hP, hK, hD0⟩ := hv
  have hx := B.exec
  have hb := B.bytes
  have hr := B.returns
  have hts := atoms_spec (ws := wsX0_change) B.pre
  have hin : ∀ w ∈ wsX00, w ∈ wsX0_change := fun w h9 => List.mem_cons_of_mem _ (List.mem_append_right _ h9)
  have hown : s.vm.findClass RX0 = some m.cls := findClass_of_methodNamed B.named
  have hlocks := B.notSynchronized
  subst hsz
  have hD : va_D (va_A (wX cI cZ h u) s.heap.size) (wX cI cZ h u) := hD0.self (sz := s.heap.size)
  have hA : ∀ q : Nat, s.heap.size ≤ q → va_A (wX cI cZ h u) s.heap.size q := fun q h9 => Or.inr h9
  have hS : va_S (va_A (wX cI cZ h u) s.heap.size) s.heap s.heap [] := va_S.rf
  have hl := lv_entry ([.ref (h 0), .int a1, .int a2, .int a3]) (n := 5) (Nat.le_of_ble_eq_true rfl)
  rw [lg_entry_eq]
  generalize (lg_sl ([.ref (h 0), .int a1, .int a2, .int a3]) ++ List.replicate (5 - (lg_sl ([.ref (h 0), .int a1, .int a2, .int a3])).length) Slot.unset).toArray = ls at hl ⊢
  have hl : lv_has ls 5 [(0, .ref (h 0)), (1, .int a1), (2, .int a2), (3, .int a3)] := hl
  generalize va_A (wX cI cZ h u) s.heap.size = A at hD hA hS ⊢
  refine lv_aload_n hx hb dX0_change_0 rfl (lv_at hl 0 rfl) ?_
  refine va_get (D := D) (ci := 0) (v := .ref (h 1)) (C := RX0) (T := TX0) (N := 12) hx hb hts hin hown hK hP 0 rfl rfl 0 (by decide) (hts (.fieldLink RX0 7 "ModeDesk" "active" "[I") (by decide +kernel)) (fun _ h9 => h9) rfl dX0_change_1 ?_
  refine lv_iload_n hx hb dX0_change_4 rfl (lv_at hl 1 rfl) ?_
  refine va_iald hx hb hK hP 1 0 rfl rfl (vi_2 hb1) dX0_change_5 ?_
  refine lv_istore (lv' := [(4, .int (xA u (Int32.toNatClampNeg a1))), (0, .ref (h 0)), (1, .int a1), (2, .int a2), (3, .int a3)]) hx hb dX0_change_6 hl (by decide) rfl (fun ls hl => ?_)
  refine lv_iload hx hb dX0_change_8 (lv_at hl 0 rfl) ?_
  refine lv_iload_n hx hb dX0_change_10 rfl (lv_at hl 3 rfl) ?_
  refine lv_icmp_ne (tgt := 15) hx hb dX0_change_11 (by decide) (fun c1 => ?_) (fun c1 => ?_)
  · refine lv_aload_n hx hb dX0_change_15 rfl (lv_at hl 1 rfl) ?_
    refine va_get (D := D) (ci := 0) (v := .ref (h 1)) (C := RX0) (T := TX0) (N := 12) hx hb hts hin hown hK hP 0 rfl rfl 0 (by decide) (hts (.fieldLink RX0 7 "ModeDesk" "active" "[I") (by decide +kernel)) (fun _ h9 => h9) rfl dX0_change_16 ?_
    refine lv_iload_n hx hb dX0_change_19 rfl (lv_at hl 2 rfl) ?_
    refine lv_iload_n hx hb dX0_change_20 rfl (lv_at hl 3 rfl) ?_
    refine va_iast hx hb hK hP hD hS 1 0 rfl rfl (vi_2 hb1) dX0_change_21 (fun H3 locs hP hD hS => ?_)
    obtain ⟨u2, eu2⟩ : ∃ y : XS, y = xA_ u (upd (xA u) (Int32.toNatClampNeg a1) a2) := ⟨_, rfl⟩
    have hP : va_P D vwCl (wX cI cZ h u2) H3 := by rw [eu2]; exact hP
    have hD : va_D A (wX cI cZ h u2) := by rw [eu2]; exact hD
    have hIu2 : InvX u2 := by rw [eu2]; exact InvX.sA hI _
    refine lv_iload_n hx hb dX0_change_22 rfl (lv_at hl 4 rfl) ?_
    refine lv_if_eq (tgt := 34) hx hb dX0_change_23 (by decide) (fun c4 => ?_) (fun c4 => ?_)
    · refine lv_aload_n hx hb dX0_change_34 rfl (lv_at hl 1 rfl) ?_
      refine va_get (D := D) (ci := 0) (v := .int (xc u2)) (C := RX0) (T := TX0) (N := 12) hx hb hts hin hown hK hP 0 rfl rfl 11 (by decide) (hts (.fieldLink RX0 115 "ModeDesk" "changeCount" "I") (by decide +kernel)) (fun _ h9 => h9) rfl dX0_change_35 ?_
      refine lv_sipush (v := 300) hx hb dX0_change_38 (by decide) ?_
      refine lv_icmp_ge (tgt := 81) hx hb dX0_change_41 (by decide) (fun c5 => ?_) (fun c5 => ?_)
      · have hq1 : pX0_change u a1 a2 a3 = u2 := (by subst eu2; unfold pX0_change; first | (rw [if_neg c1, if_pos c4, if_pos c5]; done) | (rw [if_neg c1, if_pos c4, if_pos c5]; rfl))
        exact W.vret hx hb hr (fun t ht hW => ⟨⟨u2, rfl, ⟨hq1.symm, hIu2⟩, by rw [ht]; exact hP, va_K.moved hW.alike hK, hD⟩, hS.F ht⟩) hS.2.2 dX0_change_81
      · refine lv_aload_n hx hb dX0_change_44 rfl (lv_at hl 1 rfl) ?_
        refine va_get (D := D) (ci := 0) (v := .ref (h 5)) (C := RX0) (T := TX0) (N := 12) hx hb hts hin hown hK hP 0 rfl rfl 10 (by decide) (hts (.fieldLink RX0 23 "ModeDesk" "changes" "[I") (by decide +kernel)) (fun _ h9 => h9) rfl dX0_change_45 ?_
        refine lv_aload_n hx hb dX0_change_48 rfl (lv_at hl 1 rfl) ?_
        refine va_get (D := D) (ci := 0) (v := .int (xc u2)) (C := RX0) (T := TX0) (N := 12) hx hb hts hin hown hK hP 0 rfl rfl 11 (by decide) (hts (.fieldLink RX0 115 "ModeDesk" "changeCount" "I") (by decide +kernel)) (fun _ h9 => h9) rfl dX0_change_49 ?_
        refine lv_iload_n hx hb dX0_change_52 rfl (lv_at hl 2 rfl) ?_
        refine lv_iload hx hb dX0_change_53 (lv_at hl 0 rfl) ?_
        refine lv_iconst (v := 1) hx hb dX0_change_55 (by decide) ?_
        refine lv_ishl hx hb dX0_change_56 ?_
        refine lv_ior hx hb dX0_change_57 ?_
        refine lv_iload_n hx hb dX0_change_58 rfl (lv_at hl 3 rfl) ?_
        refine lv_iconst (v := 4) hx hb dX0_change_59 (by decide) ?_
        refine lv_ishl hx hb dX0_change_60 ?_
        refine lv_ior hx hb dX0_change_61 ?_
        refine lv_iload_n hx hb dX0_change_62 rfl (lv_at hl 4 rfl) ?_
        refine lv_sipush (v := 128) hx hb dX0_change_63 (by decide) ?_
        refine va_calli (va_runS (As := [.int a3, .int 128]) (rest := [.int ((a1 ||| ((xA u (Int32.toNatClampNeg a1)) <<< ((1 : Int32) &&& 31))) ||| (a2 <<< ((4 : Int32) &&& 31))), .int (xc u2), .ref (h 5)]) ⟨hx, hb, hml, hown, hts⟩ (kX0_bit l D (tyl cI cZ) H3.size a3 128) (va_cwS 2 hts gX0_change_X0_bit rfl rfl rfl (by decide +kernel) ⟨Nat.le_of_ble_eq_true rfl, Nat.le_of_ble_eq_true rfl⟩) ⟨bl_W, pr_W (ws := wE ()) pE hK dE⟩ rfl rfl hl.1 rfl (lv_room (Nat.le_of_ble_eq_true rfl)) dX0_change_66 ⟨Nat.zero_le _, Nat.zero_le _⟩) hS (fun q _ h9 => fr_E hS hA q h9) (fr_E hS hA) (fun r6 u9 t H7 locs ht hvm hw hB hz1 hk1 hS => ?_)
        have hP := af_E hP hk1
        have er6 := hw
        refine lv_ior hx hb dX0_change_69 ?_
        refine va_iast hx hb hK hP hD hS 5 0 rfl rfl (InvX.cIn hIu2 (by subst er6; subst eu2; exact c5)) dX0_change_70 (fun H9 locs hP hD hS => ?_)
        obtain ⟨u8, eu8⟩ : ∃ y : XS, y = xC_ u2 (upd (xC u2) (Int32.toNatClampNeg (xc u2)) (((a1 ||| ((xA u (Int32.toNatClampNeg a1)) <<< ((1 : Int32) &&& 31))) ||| (a2 <<< ((4 : Int32) &&& 31))) ||| r6)) := ⟨_, rfl⟩
        have hP : va_P D vwCl (wX cI cZ h u8) H9 := by rw [eu8]; exact hP
        have hD : va_D A (wX cI cZ h u8) := by rw [eu8]; exact hD
        have hIu8 : InvX u8 := by rw [eu8]; exact InvX.sC hIu2 _
        refine lv_aload_n hx hb dX0_change_71 rfl (lv_at hl 1 rfl) ?_
        refine lv_dup hx hb dX0_change_72 rfl ?_
        refine va_get (D := D) (ci := 0) (v := .int (xc u8)) (C := RX0) (T := TX0) (N := 12) hx hb hts hin hown hK hP 0 rfl rfl 11 (by decide) (hts (.fieldLink RX0 115 "ModeDesk" "changeCount" "I") (by decide +kernel)) (fun _ h9 => h9) rfl dX0_change_73 ?_
        refine lv_iconst (v := 1) hx hb dX0_change_76 (by decide) ?_
        refine lv_iadd hx hb dX0_change_77 ?_
        refine va_put (D := D) (ci := 0) (v := .int ((xc u8) + 1)) (ty := .int) (C := RX0) (T := TX0) (N := 12) hx hb hts hin tyX0 tyX0_ok nmX0 hown hK hP hD hS 0 rfl rfl 11 (by decide) (hts (.fieldLink RX0 115 "ModeDesk" "changeCount" "I") (by decide +kernel)) (fun _ h9 => h9) rfl (by decide +kernel) rfl rfl (Nat.le_of_ble_eq_true rfl) dX0_change_78 (fun H11 locs hP hD hS => ?_)
        obtain ⟨u10, eu10⟩ : ∃ y : XS, y = xc_ u8 ((xc u8) + 1) := ⟨_, rfl⟩
        have hP : va_P D vwCl (wX cI cZ h u10) H11 := by rw [eu10]; exact hP
        have hD : va_D A (wX cI cZ h u10) := by rw [eu10]; exact hD
        have hIu10 : InvX u10 := by rw [eu10]; exact InvX.sc hIu8 (by subst eu8; subst er6; subst eu2; exact c5)
        have hq1 : pX0_change u a1 a2 a3 = u10 := (by subst eu10; subst eu8; subst er6; subst eu2; unfold pX0_change; first | (rw [if_neg c1, if_pos c4, if_neg c5]; done) | (rw [if_neg c1, if_pos c4, if_neg c5]; rfl))
        exact W.vret hx hb hr (fun t ht hW => ⟨⟨u10, rfl, ⟨hq1.symm, hIu10⟩, by rw [ht]; exact hP, va_K.moved hW.alike hK, hD⟩, hS.F ht⟩) hS.2.2 dX0_change_81
    · refine lv_aload_n hx hb dX0_change_26 rfl (lv_at hl 1 rfl) ?_
      refine va_get (D := D) (ci := 0) (v := .ref (h 2)) (C := RX0) (T := TX0) (N := 12) hx hb hts hin hown hK hP 0 rfl rfl 1 (by decide) (hts (.fieldLink RX0 13 "ModeDesk" "flashing" "[I") (by decide +kernel)) (fun _ h9 => h9) rfl dX0_change_27 ?_
      refine lv_iload_n hx hb dX0_change_30 rfl (lv_at hl 2 rfl) ?_
      refine lv_bipush (v := 10) hx hb dX0_change_31 (by decide) ?_
      refine va_iast hx hb hK hP hD hS 2 0 rfl rfl (vi_2 hb1) dX0_change_33 (fun H13 locs hP hD hS => ?_)
      obtain ⟨u12, eu12⟩ : ∃ y : XS, y = xF_ u2 (upd (xF u2) (Int32.toNatClampNeg a1) 10) := ⟨_, rfl⟩
      have hP : va_P D vwCl (wX cI cZ h u12) H13 := by rw [eu12]; exact hP
      have hD : va_D A (wX cI cZ h u12) := by rw [eu12]; exact hD
      have hIu12 : InvX u12 := by rw [eu12]; exact InvX.sF hIu2 _
      refine lv_aload_n hx hb dX0_change_34 rfl (lv_at hl 1 rfl) ?_
      refine va_get (D := D) (ci := 0) (v := .int (xc u12)) (C := RX0) (T := TX0) (N := 12) hx hb hts hin hown hK hP 0 rfl rfl 11 (by decide) (hts (.fieldLink RX0 115 "ModeDesk" "changeCount" "I") (by decide +kernel)) (fun _ h9 => h9) rfl dX0_change_35 ?_
      refine lv_sipush (v := 300) hx hb dX0_change_38 (by decide) ?_
      refine lv_icmp_ge (tgt := 81) hx hb dX0_change_41 (by decide) (fun c14 => ?_) (fun c14 => ?_)
      · have hq1 : pX0_change u a1 a2 a3 = u12 := (by subst eu12; subst eu2; unfold pX0_change; first | (rw [if_neg c1, if_neg c4, if_pos c14]; done) | (rw [if_neg c1, if_neg c4, if_pos c14]; rfl))
        exact W.vret hx hb hr (fun t ht hW => ⟨⟨u12, rfl, ⟨hq1.symm, hIu12⟩, by rw [ht]; exact hP, va_K.moved hW.alike hK, hD⟩, hS.F ht⟩) hS.2.2 dX0_change_81
      · refine lv_aload_n hx hb dX0_change_44 rfl (lv_at hl 1 rfl) ?_
        refine va_get (D := D) (ci := 0) (v := .ref (h 5)) (C := RX0) (T := TX0) (N := 12) hx hb hts hin hown hK hP 0 rfl rfl 10 (by decide) (hts (.fieldLink RX0 23 "ModeDesk" "changes" "[I") (by decide +kernel)) (fun _ h9 => h9) rfl dX0_change_45 ?_
        refine lv_aload_n hx hb dX0_change_48 rfl (lv_at hl 1 rfl) ?_
        refine va_get (D := D) (ci := 0) (v := .int (xc u12)) (C := RX0) (T := TX0) (N := 12) hx hb hts hin hown hK hP 0 rfl rfl 11 (by decide) (hts (.fieldLink RX0 115 "ModeDesk" "changeCount" "I") (by decide +kernel)) (fun _ h9 => h9) rfl dX0_change_49 ?_
        refine lv_iload_n hx hb dX0_change_52 rfl (lv_at hl 2 rfl) ?_
        refine lv_iload hx hb dX0_change_53 (lv_at hl 0 rfl) ?_
        refine lv_iconst (v := 1) hx hb dX0_change_55 (by decide) ?_
        refine lv_ishl hx hb dX0_change_56 ?_
        refine lv_ior hx hb dX0_change_57 ?_
        refine lv_iload_n hx hb dX0_change_58 rfl (lv_at hl 3 rfl) ?_
        refine lv_iconst (v := 4) hx hb dX0_change_59 (by decide) ?_
        refine lv_ishl hx hb dX0_change_60 ?_
        refine lv_ior hx hb dX0_change_61 ?_
        refine lv_iload_n hx hb dX0_change_62 rfl (lv_at hl 4 rfl) ?_
        refine lv_sipush (v := 128) hx hb dX0_change_63 (by decide) ?_
        refine va_calli (va_runS (As := [.int a3, .int 128]) (rest := [.int ((a1 ||| ((xA u (Int32.toNatClampNeg a1)) <<< ((1 : Int32) &&& 31))) ||| (a2 <<< ((4 : Int32) &&& 31))), .int (xc u12), .ref (h 5)]) ⟨hx, hb, hml, hown, hts⟩ (kX0_bit l D (tyl cI cZ) H13.size a3 128) (va_cwS 2 hts gX0_change_X0_bit rfl rfl rfl (by decide +kernel) ⟨Nat.le_of_ble_eq_true rfl, Nat.le_of_ble_eq_true rfl⟩) ⟨bl_W, pr_W (ws := wE ()) pE hK dE⟩ rfl rfl hl.1 rfl (lv_room (Nat.le_of_ble_eq_true rfl)) dX0_change_66 ⟨Nat.zero_le _, Nat.zero_le _⟩) hS (fun q _ h9 => fr_E hS hA q h9) (fr_E hS hA) (fun r15 u9 t H16 locs ht hvm hw hB hz1 hk1 hS => ?_)
        have hP := af_E hP hk1
        have er15 := hw
        refine lv_ior hx hb dX0_change_69 ?_
        refine va_iast hx hb hK hP hD hS 5 0 rfl rfl (InvX.cIn hIu12 (by subst er15; subst eu12; subst eu2; exact c14)) dX0_change_70 (fun H18 locs hP hD hS => ?_)
        obtain ⟨u17, eu17⟩ : ∃ y : XS, y = xC_ u12 (upd (xC u12) (Int32.toNatClampNeg (xc u12)) (((a1 ||| ((xA u (Int32.toNatClampNeg a1)) <<< ((1 : Int32) &&& 31))) ||| (a2 <<< ((4 : Int32) &&& 31))) ||| r15)) := ⟨_, rfl⟩
        have hP : va_P D vwCl (wX cI cZ h u17) H18 := by rw [eu17]; exact hP
        have hD : va_D A (wX cI cZ h u17) := by rw [eu17]; exact hD
        have hIu17 : InvX u17 := by rw [eu17]; exact InvX.sC hIu12 _
        refine lv_aload_n hx hb dX0_change_71 rfl (lv_at hl 1 rfl) ?_
        refine lv_dup hx hb dX0_change_72 rfl ?_
        refine va_get (D := D) (ci := 0) (v := .int (xc u17)) (C := RX0) (T := TX0) (N := 12) hx hb hts hin hown hK hP 0 rfl rfl 11 (by decide) (hts (.fieldLink RX0 115 "ModeDesk" "changeCount" "I") (by decide +kernel)) (fun _ h9 => h9) rfl dX0_change_73 ?_
        refine lv_iconst (v := 1) hx hb dX0_change_76 (by decide) ?_
        refine lv_iadd hx hb dX0_change_77 ?_
        refine va_put (D := D) (ci := 0) (v := .int ((xc u17) + 1)) (ty := .int) (C := RX0) (T := TX0) (N := 12) hx hb hts hin tyX0 tyX0_ok nmX0 hown hK hP hD hS 0 rfl rfl 11 (by decide) (hts (.fieldLink RX0 115 "ModeDesk" "changeCount" "I") (by decide +kernel)) (fun _ h9 => h9) rfl (by decide +kernel) rfl rfl (Nat.le_of_ble_eq_true rfl) dX0_change_78 (fun H20 locs hP hD hS => ?_)
        obtain ⟨u19, eu19⟩ : ∃ y : XS, y = xc_ u17 ((xc u17) + 1) := ⟨_, rfl⟩
        have hP : va_P D vwCl (wX cI cZ h u19) H20 := by rw [eu19]; exact hP
        have hD : va_D A (wX cI cZ h u19) := by rw [eu19]; exact hD
        have hIu19 : InvX u19 := by rw [eu19]; exact InvX.sc hIu17 (by subst eu17; subst er15; subst eu12; subst eu2; exact c14)
        have hq1 : pX0_change u a1 a2 a3 = u19 := (by subst eu19; subst eu17; subst er15; subst eu12; subst eu2; unfold pX0_change; first | (rw [if_neg c1, if_neg c4, if_neg c14]; done) | (rw [if_neg c1, if_neg c4, if_neg c14]; rfl))
        exact W.vret hx hb hr (fun t ht hW => ⟨⟨u19, rfl, ⟨hq1.symm, hIu19⟩, by rw [ht]; exact hP, va_K.moved hW.alike hK, hD⟩, hS.F ht⟩) hS.2.2 dX0_change_81
  · have hq1 : pX0_change u a1 a2 a3 = u := (by unfold pX0_change; first | (rw [if_pos c1]; done) | (rw [if_pos c1]; rfl))
    exact W.vret hx hb hr (fun t ht hW => ⟨⟨u, rfl, ⟨hq1.symm, hI⟩, by rw [ht]; exact hP, va_K.moved hW.alike hK, hD⟩, hS.F ht⟩) hS.2.2 dX0_change_14
end
