-- ===== PART A: goes FIRST, ahead of the names: the tables' words, and 'selects' of the private methods out of them =====
/-- a private method of a class that the tables say can be made, by its rows of tables_1 -/
def lw_okq (q : MethodName × Nat) : Prop := (q.1.cls ≠ "java/lang/invoke/MethodHandle" ∧ q.1.cls ≠ "java/lang/invoke/VarHandle") ∧ Cond.instantiable q.1.cls q.2 ∈ tables_1 ∧ Cond.privateMethod q.1 ∈ tables_1 ∧ Cond.instanceMethod q.1 ∈ tables_1
theorem lw_p0 : lw_okq (⟨"PulledFromUnder", "refuse", "(I)I"⟩, 11) := ⟨⟨by decide +kernel, by decide +kernel⟩, List.mem_of_getElem? (i := 12) (by decide +kernel), List.mem_of_getElem? (i := 105) (by decide +kernel), List.mem_of_getElem? (i := 106) (by decide +kernel)⟩
theorem lw_p1 : lw_okq (⟨"PulledFromUnder", "readLetters", "()I"⟩, 11) := ⟨⟨by decide +kernel, by decide +kernel⟩, List.mem_of_getElem? (i := 12) (by decide +kernel), List.mem_of_getElem? (i := 113) (by decide +kernel), List.mem_of_getElem? (i := 114) (by decide +kernel)⟩
theorem lw_p2 : lw_okq (⟨"PulledFromUnder", "firstWrongLetter", "()I"⟩, 11) := ⟨⟨by decide +kernel, by decide +kernel⟩, List.mem_of_getElem? (i := 12) (by decide +kernel), List.mem_of_getElem? (i := 117) (by decide +kernel), List.mem_of_getElem? (i := 118) (by decide +kernel)⟩
theorem lw_p3 : lw_okq (⟨"PulledFromUnder", "comesInMind", "(I)Z"⟩, 11) := ⟨⟨by decide +kernel, by decide +kernel⟩, List.mem_of_getElem? (i := 12) (by decide +kernel), List.mem_of_getElem? (i := 194) (by decide +kernel), List.mem_of_getElem? (i := 195) (by decide +kernel)⟩
theorem lw_p4 : lw_okq (⟨"PulledFromUnder", "letterAt", "(I)I"⟩, 11) := ⟨⟨by decide +kernel, by decide +kernel⟩, List.mem_of_getElem? (i := 12) (by decide +kernel), List.mem_of_getElem? (i := 198) (by decide +kernel), List.mem_of_getElem? (i := 199) (by decide +kernel)⟩
theorem lw_p5 : lw_okq (⟨"PulledFromUnder", "digitAt", "(I)I"⟩, 11) := ⟨⟨by decide +kernel, by decide +kernel⟩, List.mem_of_getElem? (i := 12) (by decide +kernel), List.mem_of_getElem? (i := 202) (by decide +kernel), List.mem_of_getElem? (i := 203) (by decide +kernel)⟩
theorem lw_p6 : lw_okq (⟨"PulledFromUnder", "pullsInMind", "(II)Z"⟩, 11) := ⟨⟨by decide +kernel, by decide +kernel⟩, List.mem_of_getElem? (i := 12) (by decide +kernel), List.mem_of_getElem? (i := 222) (by decide +kernel), List.mem_of_getElem? (i := 223) (by decide +kernel)⟩
theorem lw_p7 : lw_okq (⟨"PulledFromUnder$Scene", "layDown", "(I)V"⟩, 9) := ⟨⟨by decide +kernel, by decide +kernel⟩, List.mem_of_getElem? (i := 20) (by decide +kernel), List.mem_of_getElem? (i := 239) (by decide +kernel), List.mem_of_getElem? (i := 240) (by decide +kernel)⟩
theorem lw_p8 : lw_okq (⟨"PulledFromUnder", "floorInMind", "(I)Z"⟩, 11) := ⟨⟨by decide +kernel, by decide +kernel⟩, List.mem_of_getElem? (i := 12) (by decide +kernel), List.mem_of_getElem? (i := 243) (by decide +kernel), List.mem_of_getElem? (i := 244) (by decide +kernel)⟩
theorem lw_p9 : lw_okq (⟨"PulledFromUnder", "setsUpInMind", "(I)Z"⟩, 11) := ⟨⟨by decide +kernel, by decide +kernel⟩, List.mem_of_getElem? (i := 12) (by decide +kernel), List.mem_of_getElem? (i := 251) (by decide +kernel), List.mem_of_getElem? (i := 252) (by decide +kernel)⟩
theorem lw_p10 : lw_okq (⟨"PulledFromUnder", "minutesInMind", "(I)Z"⟩, 11) := ⟨⟨by decide +kernel, by decide +kernel⟩, List.mem_of_getElem? (i := 12) (by decide +kernel), List.mem_of_getElem? (i := 263) (by decide +kernel), List.mem_of_getElem? (i := 264) (by decide +kernel)⟩
theorem lw_p11 : lw_okq (⟨"PulledFromUnder$Scene", "hasGround", "(I)Z"⟩, 9) := ⟨⟨by decide +kernel, by decide +kernel⟩, List.mem_of_getElem? (i := 20) (by decide +kernel), List.mem_of_getElem? (i := 279) (by decide +kernel), List.mem_of_getElem? (i := 280) (by decide +kernel)⟩
theorem lw_p12 : lw_okq (⟨"PulledFromUnder", "refusalOfThing", "(II)I"⟩, 11) := ⟨⟨by decide +kernel, by decide +kernel⟩, List.mem_of_getElem? (i := 12) (by decide +kernel), List.mem_of_getElem? (i := 298) (by decide +kernel), List.mem_of_getElem? (i := 299) (by decide +kernel)⟩
theorem lw_p13 : lw_okq (⟨"PulledFromUnder", "refusalOfPull", "(II)I"⟩, 11) := ⟨⟨by decide +kernel, by decide +kernel⟩, List.mem_of_getElem? (i := 12) (by decide +kernel), List.mem_of_getElem? (i := 321) (by decide +kernel), List.mem_of_getElem? (i := 322) (by decide +kernel)⟩
theorem lw_p14 : lw_okq (⟨"PulledFromUnder", "findFallTimes", "()V"⟩, 11) := ⟨⟨by decide +kernel, by decide +kernel⟩, List.mem_of_getElem? (i := 12) (by decide +kernel), List.mem_of_getElem? (i := 372) (by decide +kernel), List.mem_of_getElem? (i := 373) (by decide +kernel)⟩
theorem lw_p15 : lw_okq (⟨"PulledFromUnder", "firstFaller", "()I"⟩, 11) := ⟨⟨by decide +kernel, by decide +kernel⟩, List.mem_of_getElem? (i := 12) (by decide +kernel), List.mem_of_getElem? (i := 381) (by decide +kernel), List.mem_of_getElem? (i := 382) (by decide +kernel)⟩
def lw_privs_1 : List (MethodName × Nat) := [(⟨"PulledFromUnder", "refuse", "(I)I"⟩, 11), (⟨"PulledFromUnder", "readLetters", "()I"⟩, 11), (⟨"PulledFromUnder", "firstWrongLetter", "()I"⟩, 11), (⟨"PulledFromUnder", "comesInMind", "(I)Z"⟩, 11), (⟨"PulledFromUnder", "letterAt", "(I)I"⟩, 11), (⟨"PulledFromUnder", "digitAt", "(I)I"⟩, 11), (⟨"PulledFromUnder", "pullsInMind", "(II)Z"⟩, 11), (⟨"PulledFromUnder$Scene", "layDown", "(I)V"⟩, 9), (⟨"PulledFromUnder", "floorInMind", "(I)Z"⟩, 11), (⟨"PulledFromUnder", "setsUpInMind", "(I)Z"⟩, 11), (⟨"PulledFromUnder", "minutesInMind", "(I)Z"⟩, 11), (⟨"PulledFromUnder$Scene", "hasGround", "(I)Z"⟩, 9), (⟨"PulledFromUnder", "refusalOfThing", "(II)I"⟩, 11), (⟨"PulledFromUnder", "refusalOfPull", "(II)I"⟩, 11), (⟨"PulledFromUnder", "findFallTimes", "()V"⟩, 11), (⟨"PulledFromUnder", "firstFaller", "()I"⟩, 11)]
theorem lw_r1 : ∀ q ∈ lw_privs_1, lw_okq q := List.forall_mem_cons.mpr ⟨lw_p0, List.forall_mem_cons.mpr ⟨lw_p1, List.forall_mem_cons.mpr ⟨lw_p2, List.forall_mem_cons.mpr ⟨lw_p3, List.forall_mem_cons.mpr ⟨lw_p4, List.forall_mem_cons.mpr ⟨lw_p5, List.forall_mem_cons.mpr ⟨lw_p6, List.forall_mem_cons.mpr ⟨lw_p7, List.forall_mem_cons.mpr ⟨lw_p8, List.forall_mem_cons.mpr ⟨lw_p9, List.forall_mem_cons.mpr ⟨lw_p10, List.forall_mem_cons.mpr ⟨lw_p11, List.forall_mem_cons.mpr ⟨lw_p12, List.forall_mem_cons.mpr ⟨lw_p13, List.forall_mem_cons.mpr ⟨lw_p14, List.forall_mem_cons.mpr ⟨lw_p15, fun _ h => absurd h List.not_mem_nil⟩⟩⟩⟩⟩⟩⟩⟩⟩⟩⟩⟩⟩⟩⟩⟩
theorem lw_p16 : lw_okq (⟨"PulledFromUnder", "standsThough", "(III)Z"⟩, 11) := ⟨⟨by decide +kernel, by decide +kernel⟩, List.mem_of_getElem? (i := 12) (by decide +kernel), List.mem_of_getElem? (i := 422) (by decide +kernel), List.mem_of_getElem? (i := 423) (by decide +kernel)⟩
theorem lw_p17 : lw_okq (⟨"PulledFromUnder", "standingByOrder", "(IIIII)I"⟩, 11) := ⟨⟨by decide +kernel, by decide +kernel⟩, List.mem_of_getElem? (i := 12) (by decide +kernel), List.mem_of_getElem? (i := 440) (by decide +kernel), List.mem_of_getElem? (i := 441) (by decide +kernel)⟩
theorem lw_p18 : lw_okq (⟨"PulledFromUnder", "standsInDraughts", "(III)Z"⟩, 11) := ⟨⟨by decide +kernel, by decide +kernel⟩, List.mem_of_getElem? (i := 12) (by decide +kernel), List.mem_of_getElem? (i := 476) (by decide +kernel), List.mem_of_getElem? (i := 477) (by decide +kernel)⟩
theorem lw_p19 : lw_okq (⟨"PulledFromUnder", "standingByTwo", "(III)I"⟩, 11) := ⟨⟨by decide +kernel, by decide +kernel⟩, List.mem_of_getElem? (i := 12) (by decide +kernel), List.mem_of_getElem? (i := 487) (by decide +kernel), List.mem_of_getElem? (i := 488) (by decide +kernel)⟩
theorem lw_p20 : lw_okq (⟨"PulledFromUnder", "kindsByRow", "(I)I"⟩, 11) := ⟨⟨by decide +kernel, by decide +kernel⟩, List.mem_of_getElem? (i := 12) (by decide +kernel), List.mem_of_getElem? (i := 498) (by decide +kernel), List.mem_of_getElem? (i := 499) (by decide +kernel)⟩
theorem lw_p21 : lw_okq (⟨"PulledFromUnder", "rowIsSoWith", "(III)Z"⟩, 11) := ⟨⟨by decide +kernel, by decide +kernel⟩, List.mem_of_getElem? (i := 12) (by decide +kernel), List.mem_of_getElem? (i := 502) (by decide +kernel), List.mem_of_getElem? (i := 503) (by decide +kernel)⟩
theorem lw_p22 : lw_okq (⟨"PulledFromUnder", "figuresByRow", "(I)I"⟩, 11) := ⟨⟨by decide +kernel, by decide +kernel⟩, List.mem_of_getElem? (i := 12) (by decide +kernel), List.mem_of_getElem? (i := 506) (by decide +kernel), List.mem_of_getElem? (i := 507) (by decide +kernel)⟩
theorem lw_p23 : lw_okq (⟨"PulledFromUnder", "firstNotSo", "()I"⟩, 11) := ⟨⟨by decide +kernel, by decide +kernel⟩, List.mem_of_getElem? (i := 12) (by decide +kernel), List.mem_of_getElem? (i := 518) (by decide +kernel), List.mem_of_getElem? (i := 519) (by decide +kernel)⟩
theorem lw_p24 : lw_okq (⟨"PulledFromUnder", "playLots", "()V"⟩, 11) := ⟨⟨by decide +kernel, by decide +kernel⟩, List.mem_of_getElem? (i := 12) (by decide +kernel), List.mem_of_getElem? (i := 530) (by decide +kernel), List.mem_of_getElem? (i := 531) (by decide +kernel)⟩
theorem lw_p25 : lw_okq (⟨"PulledFromUnder", "drawBelow", "(I)I"⟩, 11) := ⟨⟨by decide +kernel, by decide +kernel⟩, List.mem_of_getElem? (i := 12) (by decide +kernel), List.mem_of_getElem? (i := 534) (by decide +kernel), List.mem_of_getElem? (i := 535) (by decide +kernel)⟩
theorem lw_p26 : lw_okq (⟨"PulledFromUnderModel", "no", "(I)I"⟩, 13) := ⟨⟨by decide +kernel, by decide +kernel⟩, List.mem_of_getElem? (i := 557) (by decide +kernel), List.mem_of_getElem? (i := 607) (by decide +kernel), List.mem_of_getElem? (i := 608) (by decide +kernel)⟩
theorem lw_p27 : lw_okq (⟨"PulledFromUnderModel", "readsStatement", "()Z"⟩, 13) := ⟨⟨by decide +kernel, by decide +kernel⟩, List.mem_of_getElem? (i := 557) (by decide +kernel), List.mem_of_getElem? (i := 615) (by decide +kernel), List.mem_of_getElem? (i := 616) (by decide +kernel)⟩
theorem lw_p28 : lw_okq (⟨"PulledFromUnderModel", "here", "()I"⟩, 13) := ⟨⟨by decide +kernel, by decide +kernel⟩, List.mem_of_getElem? (i := 557) (by decide +kernel), List.mem_of_getElem? (i := 619) (by decide +kernel), List.mem_of_getElem? (i := 620) (by decide +kernel)⟩
theorem lw_p29 : lw_okq (⟨"PulledFromUnderModel", "readsKind", "()Z"⟩, 13) := ⟨⟨by decide +kernel, by decide +kernel⟩, List.mem_of_getElem? (i := 557) (by decide +kernel), List.mem_of_getElem? (i := 623) (by decide +kernel), List.mem_of_getElem? (i := 624) (by decide +kernel)⟩
theorem lw_p30 : lw_okq (⟨"PulledFromUnderModel", "readsNumber", "(II)Z"⟩, 13) := ⟨⟨by decide +kernel, by decide +kernel⟩, List.mem_of_getElem? (i := 557) (by decide +kernel), List.mem_of_getElem? (i := 630) (by decide +kernel), List.mem_of_getElem? (i := 631) (by decide +kernel)⟩
theorem lw_p31 : lw_okq (⟨"PulledFromUnderModel", "isDone", "(I)Z"⟩, 13) := ⟨⟨by decide +kernel, by decide +kernel⟩, List.mem_of_getElem? (i := 557) (by decide +kernel), List.mem_of_getElem? (i := 640) (by decide +kernel), List.mem_of_getElem? (i := 641) (by decide +kernel)⟩
def lw_privs_2 : List (MethodName × Nat) := [(⟨"PulledFromUnder", "standsThough", "(III)Z"⟩, 11), (⟨"PulledFromUnder", "standingByOrder", "(IIIII)I"⟩, 11), (⟨"PulledFromUnder", "standsInDraughts", "(III)Z"⟩, 11), (⟨"PulledFromUnder", "standingByTwo", "(III)I"⟩, 11), (⟨"PulledFromUnder", "kindsByRow", "(I)I"⟩, 11), (⟨"PulledFromUnder", "rowIsSoWith", "(III)Z"⟩, 11), (⟨"PulledFromUnder", "figuresByRow", "(I)I"⟩, 11), (⟨"PulledFromUnder", "firstNotSo", "()I"⟩, 11), (⟨"PulledFromUnder", "playLots", "()V"⟩, 11), (⟨"PulledFromUnder", "drawBelow", "(I)I"⟩, 11), (⟨"PulledFromUnderModel", "no", "(I)I"⟩, 13), (⟨"PulledFromUnderModel", "readsStatement", "()Z"⟩, 13), (⟨"PulledFromUnderModel", "here", "()I"⟩, 13), (⟨"PulledFromUnderModel", "readsKind", "()Z"⟩, 13), (⟨"PulledFromUnderModel", "readsNumber", "(II)Z"⟩, 13), (⟨"PulledFromUnderModel", "isDone", "(I)Z"⟩, 13)]
theorem lw_r2 : ∀ q ∈ lw_privs_2, lw_okq q := List.forall_mem_cons.mpr ⟨lw_p16, List.forall_mem_cons.mpr ⟨lw_p17, List.forall_mem_cons.mpr ⟨lw_p18, List.forall_mem_cons.mpr ⟨lw_p19, List.forall_mem_cons.mpr ⟨lw_p20, List.forall_mem_cons.mpr ⟨lw_p21, List.forall_mem_cons.mpr ⟨lw_p22, List.forall_mem_cons.mpr ⟨lw_p23, List.forall_mem_cons.mpr ⟨lw_p24, List.forall_mem_cons.mpr ⟨lw_p25, List.forall_mem_cons.mpr ⟨lw_p26, List.forall_mem_cons.mpr ⟨lw_p27, List.forall_mem_cons.mpr ⟨lw_p28, List.forall_mem_cons.mpr ⟨lw_p29, List.forall_mem_cons.mpr ⟨lw_p30, List.forall_mem_cons.mpr ⟨lw_p31, fun _ h => absurd h List.not_mem_nil⟩⟩⟩⟩⟩⟩⟩⟩⟩⟩⟩⟩⟩⟩⟩⟩
theorem lw_p32 : lw_okq (⟨"PulledFromUnderModel", "adds", "(III)Z"⟩, 13) := ⟨⟨by decide +kernel, by decide +kernel⟩, List.mem_of_getElem? (i := 557) (by decide +kernel), List.mem_of_getElem? (i := 644) (by decide +kernel), List.mem_of_getElem? (i := 645) (by decide +kernel)⟩
theorem lw_p33 : lw_okq (⟨"PulledFromUnderModel", "isThing", "(I)Z"⟩, 13) := ⟨⟨by decide +kernel, by decide +kernel⟩, List.mem_of_getElem? (i := 557) (by decide +kernel), List.mem_of_getElem? (i := 648) (by decide +kernel), List.mem_of_getElem? (i := 649) (by decide +kernel)⟩
theorem lw_p34 : lw_okq (⟨"PulledFromUnderModel", "wrongPull", "(II)I"⟩, 13) := ⟨⟨by decide +kernel, by decide +kernel⟩, List.mem_of_getElem? (i := 557) (by decide +kernel), List.mem_of_getElem? (i := 699) (by decide +kernel), List.mem_of_getElem? (i := 700) (by decide +kernel)⟩
theorem lw_p35 : lw_okq (⟨"PulledFromUnderModel", "takes", "(I)V"⟩, 13) := ⟨⟨by decide +kernel, by decide +kernel⟩, List.mem_of_getElem? (i := 557) (by decide +kernel), List.mem_of_getElem? (i := 730) (by decide +kernel), List.mem_of_getElem? (i := 731) (by decide +kernel)⟩
theorem lw_p36 : lw_okq (⟨"PulledFromUnderModel", "standingIn", "()I"⟩, 13) := ⟨⟨by decide +kernel, by decide +kernel⟩, List.mem_of_getElem? (i := 557) (by decide +kernel), List.mem_of_getElem? (i := 734) (by decide +kernel), List.mem_of_getElem? (i := 735) (by decide +kernel)⟩
theorem lw_p37 : lw_okq (⟨"PulledFromUnderModel", "fallsOf", "(I)I"⟩, 13) := ⟨⟨by decide +kernel, by decide +kernel⟩, List.mem_of_getElem? (i := 557) (by decide +kernel), List.mem_of_getElem? (i := 742) (by decide +kernel), List.mem_of_getElem? (i := 743) (by decide +kernel)⟩
theorem lw_p38 : lw_okq (⟨"PulledFromUnderModel", "fallsIn", "(I)I"⟩, 13) := ⟨⟨by decide +kernel, by decide +kernel⟩, List.mem_of_getElem? (i := 557) (by decide +kernel), List.mem_of_getElem? (i := 746) (by decide +kernel), List.mem_of_getElem? (i := 747) (by decide +kernel)⟩
theorem lw_p39 : lw_okq (⟨"PulledFromUnderModel", "isAbove", "(II)Z"⟩, 13) := ⟨⟨by decide +kernel, by decide +kernel⟩, List.mem_of_getElem? (i := 557) (by decide +kernel), List.mem_of_getElem? (i := 763) (by decide +kernel), List.mem_of_getElem? (i := 764) (by decide +kernel)⟩
theorem lw_p40 : lw_okq (⟨"PulledFromUnderModel", "pullsSet", "(I)Z"⟩, 13) := ⟨⟨by decide +kernel, by decide +kernel⟩, List.mem_of_getElem? (i := 557) (by decide +kernel), List.mem_of_getElem? (i := 783) (by decide +kernel), List.mem_of_getElem? (i := 784) (by decide +kernel)⟩
theorem lw_p41 : lw_okq (⟨"PulledFromUnderModel", "standingBy", "(IIII)I"⟩, 13) := ⟨⟨by decide +kernel, by decide +kernel⟩, List.mem_of_getElem? (i := 557) (by decide +kernel), List.mem_of_getElem? (i := 802) (by decide +kernel), List.mem_of_getElem? (i := 803) (by decide +kernel)⟩
theorem lw_p42 : lw_okq (⟨"PulledFromUnderModel", "noWide", "(I)J"⟩, 13) := ⟨⟨by decide +kernel, by decide +kernel⟩, List.mem_of_getElem? (i := 557) (by decide +kernel), List.mem_of_getElem? (i := 825) (by decide +kernel), List.mem_of_getElem? (i := 826) (by decide +kernel)⟩
theorem lw_p43 : lw_okq (⟨"PulledFromUnderModel", "standingPulled", "(IIIII)I"⟩, 13) := ⟨⟨by decide +kernel, by decide +kernel⟩, List.mem_of_getElem? (i := 557) (by decide +kernel), List.mem_of_getElem? (i := 840) (by decide +kernel), List.mem_of_getElem? (i := 841) (by decide +kernel)⟩
theorem lw_p44 : lw_okq (⟨"PulledFromUnderModel", "drawn", "(I)I"⟩, 13) := ⟨⟨by decide +kernel, by decide +kernel⟩, List.mem_of_getElem? (i := 557) (by decide +kernel), List.mem_of_getElem? (i := 864) (by decide +kernel), List.mem_of_getElem? (i := 865) (by decide +kernel)⟩
def lw_privs_3 : List (MethodName × Nat) := [(⟨"PulledFromUnderModel", "adds", "(III)Z"⟩, 13), (⟨"PulledFromUnderModel", "isThing", "(I)Z"⟩, 13), (⟨"PulledFromUnderModel", "wrongPull", "(II)I"⟩, 13), (⟨"PulledFromUnderModel", "takes", "(I)V"⟩, 13), (⟨"PulledFromUnderModel", "standingIn", "()I"⟩, 13), (⟨"PulledFromUnderModel", "fallsOf", "(I)I"⟩, 13), (⟨"PulledFromUnderModel", "fallsIn", "(I)I"⟩, 13), (⟨"PulledFromUnderModel", "isAbove", "(II)Z"⟩, 13), (⟨"PulledFromUnderModel", "pullsSet", "(I)Z"⟩, 13), (⟨"PulledFromUnderModel", "standingBy", "(IIII)I"⟩, 13), (⟨"PulledFromUnderModel", "noWide", "(I)J"⟩, 13), (⟨"PulledFromUnderModel", "standingPulled", "(IIIII)I"⟩, 13), (⟨"PulledFromUnderModel", "drawn", "(I)I"⟩, 13)]
theorem lw_r3 : ∀ q ∈ lw_privs_3, lw_okq q := List.forall_mem_cons.mpr ⟨lw_p32, List.forall_mem_cons.mpr ⟨lw_p33, List.forall_mem_cons.mpr ⟨lw_p34, List.forall_mem_cons.mpr ⟨lw_p35, List.forall_mem_cons.mpr ⟨lw_p36, List.forall_mem_cons.mpr ⟨lw_p37, List.forall_mem_cons.mpr ⟨lw_p38, List.forall_mem_cons.mpr ⟨lw_p39, List.forall_mem_cons.mpr ⟨lw_p40, List.forall_mem_cons.mpr ⟨lw_p41, List.forall_mem_cons.mpr ⟨lw_p42, List.forall_mem_cons.mpr ⟨lw_p43, List.forall_mem_cons.mpr ⟨lw_p44, fun _ h => absurd h List.not_mem_nil⟩⟩⟩⟩⟩⟩⟩⟩⟩⟩⟩⟩⟩
def lw_privs : List (MethodName × Nat) := lw_privs_1 ++ (lw_privs_2 ++ (lw_privs_3))
def lw_tbl : List Cond := k2_sels lw_privs ++ tables_1
theorem lw_privs_ok : ∀ q ∈ lw_privs, lw_okq q := by
  show ∀ q ∈ lw_privs_1 ++ (lw_privs_2 ++ (lw_privs_3)), lw_okq q
  exact List.forall_mem_append.mpr ⟨lw_r1, List.forall_mem_append.mpr ⟨lw_r2, lw_r3⟩⟩
-- ===== names, as TURN printed them =====
def RX0 : String := "PulledFromUnder$Scene"
def TX0 : u_T := fun k => match k with
  | 0 => ("PulledFromUnder$Scene", "things", "I", false)
  | 1 => ("PulledFromUnder$Scene", "minute", "I", false)
  | 2 => ("PulledFromUnder$Scene", "hasFloor", "Z", false)
  | 3 => ("PulledFromUnder$Scene", "standing", "I", false)
  | 4 => ("PulledFromUnder$Scene", "lying", "I", false)
  | 5 => ("PulledFromUnder$Scene", "kinds", "[I", true)
  | 6 => ("PulledFromUnder$Scene", "figures", "[I", true)
  | 7 => ("PulledFromUnder$Scene", "below", "[I", true)
  | _ => ("PulledFromUnder$Scene", "air", "[I", true)
def tyX0 : Nat → FieldType := fun k => match k with
  | 0 => .int
  | 1 => .int
  | 2 => .boolean
  | 3 => .int
  | 4 => .int
  | 5 => .array .int
  | 6 => .array .int
  | 7 => .array .int
  | _ => .array .int
abbrev wsX00 : List Cond := u_ws RX0 TX0 9
theorem nmX0 : ∀ a, a < 9 → ∀ b, b < 9 → a ≠ b → (TX0 a).2.1 ≠ (TX0 b).2.1 := by decide +kernel
theorem tyX0_ok : ∀ k, k < 9 → parseFieldDescriptor (TX0 k).2.2.1 = some (tyX0 k) := by decide +kernel
abbrev cX0_init : ByteArray := prog_2_method_1_code
def yX0_init : MethodName := ⟨RX0, "<init>", "()V"⟩
abbrev cX0_copyFrom : ByteArray := prog_2_method_2_code
def yX0_copyFrom : MethodName := ⟨RX0, "copyFrom", "(LPulledFromUnder$Scene;)V"⟩
abbrev cX0_isThing : ByteArray := prog_2_method_3_code
def yX0_isThing : MethodName := ⟨RX0, "isThing", "(I)Z"⟩
abbrev cX0_stands : ByteArray := prog_2_method_4_code
def yX0_stands : MethodName := ⟨RX0, "stands", "(I)Z"⟩
abbrev cX0_lies : ByteArray := prog_2_method_5_code
def yX0_lies : MethodName := ⟨RX0, "lies", "(I)Z"⟩
abbrev cX0_stateOf : ByteArray := prog_2_method_6_code
def yX0_stateOf : MethodName := ⟨RX0, "stateOf", "(I)I"⟩
abbrev cX0_allGone : ByteArray := prog_2_method_7_code
def yX0_allGone : MethodName := ⟨RX0, "allGone", "()I"⟩
abbrev cX0_countStanding : ByteArray := prog_2_method_8_code
def yX0_countStanding : MethodName := ⟨RX0, "countStanding", "()I"⟩
abbrev cX0_hasGround : ByteArray := prog_2_method_9_code
def yX0_hasGround : MethodName := ⟨RX0, "hasGround", "(I)Z"⟩
abbrev cX0_isHeld : ByteArray := prog_2_method_10_code
def yX0_isHeld : MethodName := ⟨RX0, "isHeld", "(I)Z"⟩
abbrev cX0_isSure : ByteArray := prog_2_method_11_code
def yX0_isSure : MethodName := ⟨RX0, "isSure", "()Z"⟩
abbrev cX0_countWatching : ByteArray := prog_2_method_12_code
def yX0_countWatching : MethodName := ⟨RX0, "countWatching", "()I"⟩
abbrev cX0_habitOf : ByteArray := prog_2_method_13_code
def yX0_habitOf : MethodName := ⟨RX0, "habitOf", "(I)I"⟩
abbrev cX0_gripOf : ByteArray := prog_2_method_14_code
def yX0_gripOf : MethodName := ⟨RX0, "gripOf", "(I)I"⟩
abbrev cX0_addThing : ByteArray := prog_2_method_15_code
def yX0_addThing : MethodName := ⟨RX0, "addThing", "(III)Z"⟩
abbrev cX0_become : ByteArray := prog_2_method_16_code
def yX0_become : MethodName := ⟨RX0, "become", "(III)V"⟩
abbrev cX0_setUp : ByteArray := prog_2_method_17_code
def yX0_setUp : MethodName := ⟨RX0, "setUp", "(I)V"⟩
abbrev cX0_countOnFloor : ByteArray := prog_2_method_18_code
def yX0_countOnFloor : MethodName := ⟨RX0, "countOnFloor", "()I"⟩
abbrev cX0_caughtOn : ByteArray := prog_2_method_19_code
def yX0_caughtOn : MethodName := ⟨RX0, "caughtOn", "(II)I"⟩
abbrev cX0_pullThing : ByteArray := prog_2_method_20_code
def yX0_pullThing : MethodName := ⟨RX0, "pullThing", "(II)I"⟩
abbrev cX0_pullFloor : ByteArray := prog_2_method_21_code
def yX0_pullFloor : MethodName := ⟨RX0, "pullFloor", "(I)I"⟩
abbrev cX0_layDown : ByteArray := prog_2_method_22_code
def yX0_layDown : MethodName := ⟨RX0, "layDown", "(I)V"⟩
abbrev cX0_hasTimeFor : ByteArray := prog_2_method_23_code
def yX0_hasTimeFor : MethodName := ⟨RX0, "hasTimeFor", "(I)Z"⟩
abbrev cX0_passMinutes : ByteArray := prog_2_method_24_code
def yX0_passMinutes : MethodName := ⟨RX0, "passMinutes", "(I)V"⟩
abbrev cX0_passMinute : ByteArray := prog_2_method_25_code
def yX0_passMinute : MethodName := ⟨RX0, "passMinute", "(I)Z"⟩
abbrev cX0_firstToSetUp : ByteArray := prog_2_method_26_code
def yX0_firstToSetUp : MethodName := ⟨RX0, "firstToSetUp", "()I"⟩
abbrev cX0_heightOf : ByteArray := prog_2_method_27_code
def yX0_heightOf : MethodName := ⟨RX0, "heightOf", "(I)I"⟩
abbrev cX0_bottomOf : ByteArray := prog_2_method_28_code
def yX0_bottomOf : MethodName := ⟨RX0, "bottomOf", "(I)I"⟩
abbrev cX0_allAbove : ByteArray := prog_2_method_29_code
def yX0_allAbove : MethodName := ⟨RX0, "allAbove", "(I)I"⟩
def RX1 : String := "PulledFromUnder"
def TX1 : u_T := fun k => match k with
  | 0 => ("PulledFromUnder", "now", "LPulledFromUnder$Scene;", true)
  | 1 => ("PulledFromUnder", "mind", "LPulledFromUnder$Scene;", true)
  | 2 => ("PulledFromUnder", "kept", "LPulledFromUnder$Scene;", true)
  | 3 => ("PulledFromUnder", "hasImage", "Z", false)
  | 4 => ("PulledFromUnder", "letters", "[I", true)
  | 5 => ("PulledFromUnder", "letterCount", "I", false)
  | 6 => ("PulledFromUnder", "rowNumbers", "[I", true)
  | 7 => ("PulledFromUnder", "rowCount", "I", false)
  | 8 => ("PulledFromUnder", "refusals", "[I", true)
  | 9 => ("PulledFromUnder", "fallTimes", "[I", true)
  | _ => ("PulledFromUnder", "seed", "I", false)
def tyX1 : Nat → FieldType := fun k => match k with
  | 0 => .object "PulledFromUnder$Scene"
  | 1 => .object "PulledFromUnder$Scene"
  | 2 => .object "PulledFromUnder$Scene"
  | 3 => .boolean
  | 4 => .array .int
  | 5 => .int
  | 6 => .array .int
  | 7 => .int
  | 8 => .array .int
  | 9 => .array .int
  | _ => .int
abbrev wsX10 : List Cond := u_ws RX1 TX1 11
theorem nmX1 : ∀ a, a < 11 → ∀ b, b < 11 → a ≠ b → (TX1 a).2.1 ≠ (TX1 b).2.1 := by decide +kernel
theorem tyX1_ok : ∀ k, k < 11 → parseFieldDescriptor (TX1 k).2.2.1 = some (tyX1 k) := by decide +kernel
abbrev cX1_init : ByteArray := prog_1_method_1_code
def yX1_init : MethodName := ⟨RX1, "<init>", "()V"⟩
abbrev cX1_letter : ByteArray := prog_1_method_2_code
def yX1_letter : MethodName := ⟨RX1, "letter", "(I)I"⟩
abbrev cX1_room : ByteArray := prog_1_method_3_code
def yX1_room : MethodName := ⟨RX1, "room", "()I"⟩
abbrev cX1_thing : ByteArray := prog_1_method_4_code
def yX1_thing : MethodName := ⟨RX1, "thing", "(II)I"⟩
abbrev cX1_pulls : ByteArray := prog_1_method_5_code
def yX1_pulls : MethodName := ⟨RX1, "pulls", "(II)I"⟩
abbrev cX1_floor : ByteArray := prog_1_method_6_code
def yX1_floor : MethodName := ⟨RX1, "floor", "(I)I"⟩
abbrev cX1_lays : ByteArray := prog_1_method_7_code
def yX1_lays : MethodName := ⟨RX1, "lays", "()I"⟩
abbrev cX1_setsUp : ByteArray := prog_1_method_8_code
def yX1_setsUp : MethodName := ⟨RX1, "setsUp", "(I)I"⟩
abbrev cX1_turn : ByteArray := prog_1_method_9_code
def yX1_turn : MethodName := ⟨RX1, "turn", "(III)I"⟩
abbrev cX1_minutes : ByteArray := prog_1_method_10_code
def yX1_minutes : MethodName := ⟨RX1, "minutes", "(I)I"⟩
abbrev cX1_behind : ByteArray := prog_1_method_11_code
def yX1_behind : MethodName := ⟨RX1, "behind", "(III)I"⟩
abbrev cX1_falls : ByteArray := prog_1_method_12_code
def yX1_falls : MethodName := ⟨RX1, "falls", "(I)I"⟩
abbrev cX1_first : ByteArray := prog_1_method_13_code
def yX1_first : MethodName := ⟨RX1, "first", "(I)I"⟩
abbrev cX1_allStand : ByteArray := prog_1_method_14_code
def yX1_allStand : MethodName := ⟨RX1, "allStand", "()I"⟩
abbrev cX1_tower : ByteArray := prog_1_method_15_code
def yX1_tower : MethodName := ⟨RX1, "tower", "(II)I"⟩
abbrev cX1_leastSpeed : ByteArray := prog_1_method_16_code
def yX1_leastSpeed : MethodName := ⟨RX1, "leastSpeed", "(I)I"⟩
abbrev cX1_atOnce : ByteArray := prog_1_method_17_code
def yX1_atOnce : MethodName := ⟨RX1, "atOnce", "(II)I"⟩
abbrev cX1_later : ByteArray := prog_1_method_18_code
def yX1_later : MethodName := ⟨RX1, "later", "(III)I"⟩
abbrev cX1_pullMost : ByteArray := prog_1_method_19_code
def yX1_pullMost : MethodName := ⟨RX1, "pullMost", "(III)I"⟩
abbrev cX1_key : ByteArray := prog_1_method_20_code
def yX1_key : MethodName := ⟨RX1, "key", "(I)I"⟩
abbrev cX1_prop : ByteArray := prog_1_method_21_code
def yX1_prop : MethodName := ⟨RX1, "prop", "(I)I"⟩
abbrev cX1_order : ByteArray := prog_1_method_22_code
def yX1_order : MethodName := ⟨RX1, "order", "(IIIII)I"⟩
abbrev cX1_floorFalls : ByteArray := prog_1_method_23_code
def yX1_floorFalls : MethodName := ⟨RX1, "floorFalls", "(I)I"⟩
abbrev cX1_watched : ByteArray := prog_1_method_24_code
def yX1_watched : MethodName := ⟨RX1, "watched", "(I)I"⟩
abbrev cX1_rebuild : ByteArray := prog_1_method_25_code
def yX1_rebuild : MethodName := ⟨RX1, "rebuild", "(I)I"⟩
abbrev cX1_draught : ByteArray := prog_1_method_26_code
def yX1_draught : MethodName := ⟨RX1, "draught", "(IIII)J"⟩
abbrev cX1_two : ByteArray := prog_1_method_27_code
def yX1_two : MethodName := ⟨RX1, "two", "(III)I"⟩
abbrev cX1_whatWas : ByteArray := prog_1_method_28_code
def yX1_whatWas : MethodName := ⟨RX1, "whatWas", "(II)I"⟩
abbrev cX1_row : ByteArray := prog_1_method_29_code
def yX1_row : MethodName := ⟨RX1, "row", "(I)I"⟩
abbrev cX1_judge : ByteArray := prog_1_method_30_code
def yX1_judge : MethodName := ⟨RX1, "judge", "()I"⟩
abbrev cX1_clear : ByteArray := prog_1_method_31_code
def yX1_clear : MethodName := ⟨RX1, "clear", "()I"⟩
abbrev cX1_lots : ByteArray := prog_1_method_32_code
def yX1_lots : MethodName := ⟨RX1, "lots", "(III)I"⟩
abbrev cX1_image : ByteArray := prog_1_method_33_code
def yX1_image : MethodName := ⟨RX1, "image", "()I"⟩
abbrev cX1_on : ByteArray := prog_1_method_34_code
def yX1_on : MethodName := ⟨RX1, "on", "()I"⟩
abbrev cX1_count : ByteArray := prog_1_method_35_code
def yX1_count : MethodName := ⟨RX1, "count", "(I)I"⟩
abbrev cX1_refuse : ByteArray := prog_1_method_36_code
def yX1_refuse : MethodName := ⟨RX1, "refuse", "(I)I"⟩
abbrev cX1_refusalOfThing : ByteArray := prog_1_method_37_code
def yX1_refusalOfThing : MethodName := ⟨RX1, "refusalOfThing", "(II)I"⟩
abbrev cX1_refusalOfPull : ByteArray := prog_1_method_38_code
def yX1_refusalOfPull : MethodName := ⟨RX1, "refusalOfPull", "(II)I"⟩
abbrev cX1_outside : ByteArray := prog_1_method_39_code
def yX1_outside : MethodName := ⟨RX1, "outside", "(III)I"⟩
abbrev cX1_otherThan : ByteArray := prog_1_method_40_code
def yX1_otherThan : MethodName := ⟨RX1, "otherThan", "(II)I"⟩
abbrev cX1_firstOf : ByteArray := prog_1_method_41_code
def yX1_firstOf : MethodName := ⟨RX1, "firstOf", "(II)I"⟩
abbrev cX1_bit : ByteArray := prog_1_method_42_code
def yX1_bit : MethodName := ⟨RX1, "bit", "(Z)I"⟩
abbrev cX1_readLetters : ByteArray := prog_1_method_43_code
def yX1_readLetters : MethodName := ⟨RX1, "readLetters", "()I"⟩
abbrev cX1_firstWrongLetter : ByteArray := prog_1_method_44_code
def yX1_firstWrongLetter : MethodName := ⟨RX1, "firstWrongLetter", "()I"⟩
abbrev cX1_shapeBehind : ByteArray := prog_1_method_45_code
def yX1_shapeBehind : MethodName := ⟨RX1, "shapeBehind", "(I)Ljava/lang/String;"⟩
abbrev cX1_fits : ByteArray := prog_1_method_46_code
def yX1_fits : MethodName := ⟨RX1, "fits", "(IC)Z"⟩
abbrev cX1_kindOf : ByteArray := prog_1_method_47_code
def yX1_kindOf : MethodName := ⟨RX1, "kindOf", "(I)I"⟩
abbrev cX1_letterAt : ByteArray := prog_1_method_48_code
def yX1_letterAt : MethodName := ⟨RX1, "letterAt", "(I)I"⟩
abbrev cX1_digitAt : ByteArray := prog_1_method_49_code
def yX1_digitAt : MethodName := ⟨RX1, "digitAt", "(I)I"⟩
abbrev cX1_comesInMind : ByteArray := prog_1_method_50_code
def yX1_comesInMind : MethodName := ⟨RX1, "comesInMind", "(I)Z"⟩
abbrev cX1_pullsInMind : ByteArray := prog_1_method_51_code
def yX1_pullsInMind : MethodName := ⟨RX1, "pullsInMind", "(II)Z"⟩
abbrev cX1_floorInMind : ByteArray := prog_1_method_52_code
def yX1_floorInMind : MethodName := ⟨RX1, "floorInMind", "(I)Z"⟩
abbrev cX1_setsUpInMind : ByteArray := prog_1_method_53_code
def yX1_setsUpInMind : MethodName := ⟨RX1, "setsUpInMind", "(I)Z"⟩
abbrev cX1_minutesInMind : ByteArray := prog_1_method_54_code
def yX1_minutesInMind : MethodName := ⟨RX1, "minutesInMind", "(I)Z"⟩
abbrev cX1_findFallTimes : ByteArray := prog_1_method_55_code
def yX1_findFallTimes : MethodName := ⟨RX1, "findFallTimes", "()V"⟩
abbrev cX1_firstFaller : ByteArray := prog_1_method_56_code
def yX1_firstFaller : MethodName := ⟨RX1, "firstFaller", "()I"⟩
abbrev cX1_standsThough : ByteArray := prog_1_method_57_code
def yX1_standsThough : MethodName := ⟨RX1, "standsThough", "(III)Z"⟩
abbrev cX1_standingByOrder : ByteArray := prog_1_method_58_code
def yX1_standingByOrder : MethodName := ⟨RX1, "standingByOrder", "(IIIII)I"⟩
abbrev cX1_standingByTwo : ByteArray := prog_1_method_59_code
def yX1_standingByTwo : MethodName := ⟨RX1, "standingByTwo", "(III)I"⟩
abbrev cX1_keepsBoth : ByteArray := prog_1_method_60_code
def yX1_keepsBoth : MethodName := ⟨RX1, "keepsBoth", "(III)Z"⟩
abbrev cX1_standsInDraughts : ByteArray := prog_1_method_61_code
def yX1_standsInDraughts : MethodName := ⟨RX1, "standsInDraughts", "(III)Z"⟩
abbrev cX1_power : ByteArray := prog_1_method_62_code
def yX1_power : MethodName := ⟨RX1, "power", "(II)J"⟩
abbrev cX1_greatestCommon : ByteArray := prog_1_method_63_code
def yX1_greatestCommon : MethodName := ⟨RX1, "greatestCommon", "(JJ)J"⟩
abbrev cX1_kindsByRow : ByteArray := prog_1_method_64_code
def yX1_kindsByRow : MethodName := ⟨RX1, "kindsByRow", "(I)I"⟩
abbrev cX1_figuresByRow : ByteArray := prog_1_method_65_code
def yX1_figuresByRow : MethodName := ⟨RX1, "figuresByRow", "(I)I"⟩
abbrev cX1_rowIsSoWith : ByteArray := prog_1_method_66_code
def yX1_rowIsSoWith : MethodName := ⟨RX1, "rowIsSoWith", "(III)Z"⟩
abbrev cX1_firstNotSo : ByteArray := prog_1_method_67_code
def yX1_firstNotSo : MethodName := ⟨RX1, "firstNotSo", "()I"⟩
abbrev cX1_playLots : ByteArray := prog_1_method_68_code
def yX1_playLots : MethodName := ⟨RX1, "playLots", "()V"⟩
abbrev cX1_drawBelow : ByteArray := prog_1_method_69_code
def yX1_drawBelow : MethodName := ⟨RX1, "drawBelow", "(I)I"⟩
def RX2 : String := "PulledFromUnderModel"
def TX2 : u_T := fun k => match k with
  | 0 => ("PulledFromUnderModel", "s", "[I", true)
  | 1 => ("PulledFromUnderModel", "m", "[I", true)
  | 2 => ("PulledFromUnderModel", "image", "[I", true)
  | 3 => ("PulledFromUnderModel", "was", "[I", true)
  | 4 => ("PulledFromUnderModel", "hasImage", "Z", false)
  | 5 => ("PulledFromUnderModel", "letters", "[I", true)
  | 6 => ("PulledFromUnderModel", "row", "[I", true)
  | 7 => ("PulledFromUnderModel", "refused", "[I", true)
  | 8 => ("PulledFromUnderModel", "letterMany", "I", false)
  | 9 => ("PulledFromUnderModel", "rowMany", "I", false)
  | 10 => ("PulledFromUnderModel", "place", "I", false)
  | 11 => ("PulledFromUnderModel", "numbers", "[I", true)
  | _ => ("PulledFromUnderModel", "seed", "I", false)
def tyX2 : Nat → FieldType := fun k => match k with
  | 0 => .array .int
  | 1 => .array .int
  | 2 => .array .int
  | 3 => .array .int
  | 4 => .boolean
  | 5 => .array .int
  | 6 => .array .int
  | 7 => .array .int
  | 8 => .int
  | 9 => .int
  | 10 => .int
  | 11 => .array .int
  | _ => .int
abbrev wsX20 : List Cond := u_ws RX2 TX2 13
theorem nmX2 : ∀ a, a < 13 → ∀ b, b < 13 → a ≠ b → (TX2 a).2.1 ≠ (TX2 b).2.1 := by decide +kernel
theorem tyX2_ok : ∀ k, k < 13 → parseFieldDescriptor (TX2 k).2.2.1 = some (tyX2 k) := by decide +kernel
abbrev cX2_init : ByteArray := prog_4_method_1_code
def yX2_init : MethodName := ⟨RX2, "<init>", "()V"⟩
abbrev cX2_isIn : ByteArray := prog_4_method_2_code
def yX2_isIn : MethodName := ⟨RX2, "isIn", "(III)Z"⟩
abbrev cX2_most : ByteArray := prog_4_method_3_code
def yX2_most : MethodName := ⟨RX2, "most", "(II)I"⟩
abbrev cX2_copies : ByteArray := prog_4_method_4_code
def yX2_copies : MethodName := ⟨RX2, "copies", "([I[I)V"⟩
abbrev cX2_no : ByteArray := prog_4_method_5_code
def yX2_no : MethodName := ⟨RX2, "no", "(I)I"⟩
abbrev cX2_noWide : ByteArray := prog_4_method_6_code
def yX2_noWide : MethodName := ⟨RX2, "noWide", "(I)J"⟩
abbrev cX2_of : ByteArray := prog_4_method_7_code
def yX2_of : MethodName := ⟨RX2, "of", "(II)I"⟩
abbrev cX2_isThing : ByteArray := prog_4_method_8_code
def yX2_isThing : MethodName := ⟨RX2, "isThing", "(I)Z"⟩
abbrev cX2_stands : ByteArray := prog_4_method_9_code
def yX2_stands : MethodName := ⟨RX2, "stands", "([II)Z"⟩
abbrev cX2_has : ByteArray := prog_4_method_10_code
def yX2_has : MethodName := ⟨RX2, "has", "(II)Z"⟩
abbrev cX2_bits : ByteArray := prog_4_method_11_code
def yX2_bits : MethodName := ⟨RX2, "bits", "(I)I"⟩
abbrev cX2_grip : ByteArray := prog_4_method_12_code
def yX2_grip : MethodName := ⟨RX2, "grip", "([II)I"⟩
abbrev cX2_setOf : ByteArray := prog_4_method_13_code
def yX2_setOf : MethodName := ⟨RX2, "setOf", "([II)I"⟩
abbrev cX2_habit : ByteArray := prog_4_method_14_code
def yX2_habit : MethodName := ⟨RX2, "habit", "([IIZ)I"⟩
abbrev cX2_isHeld : ByteArray := prog_4_method_15_code
def yX2_isHeld : MethodName := ⟨RX2, "isHeld", "([II)Z"⟩
abbrev cX2_shaken : ByteArray := prog_4_method_16_code
def yX2_shaken : MethodName := ⟨RX2, "shaken", "([III)I"⟩
abbrev cX2_pullsIn : ByteArray := prog_4_method_17_code
def yX2_pullsIn : MethodName := ⟨RX2, "pullsIn", "([III)I"⟩
abbrev cX2_minute : ByteArray := prog_4_method_18_code
def yX2_minute : MethodName := ⟨RX2, "minute", "([II)V"⟩
abbrev cX2_minutesOn : ByteArray := prog_4_method_19_code
def yX2_minutesOn : MethodName := ⟨RX2, "minutesOn", "([II)V"⟩
abbrev cX2_letter : ByteArray := prog_4_method_20_code
def yX2_letter : MethodName := ⟨RX2, "letter", "(I)I"⟩
abbrev cX2_here : ByteArray := prog_4_method_21_code
def yX2_here : MethodName := ⟨RX2, "here", "()I"⟩
abbrev cX2_readsNumber : ByteArray := prog_4_method_22_code
def yX2_readsNumber : MethodName := ⟨RX2, "readsNumber", "(II)Z"⟩
abbrev cX2_kindBy : ByteArray := prog_4_method_23_code
def yX2_kindBy : MethodName := ⟨RX2, "kindBy", "(I)I"⟩
abbrev cX2_readsKind : ByteArray := prog_4_method_24_code
def yX2_readsKind : MethodName := ⟨RX2, "readsKind", "()Z"⟩
abbrev cX2_readsStatement : ByteArray := prog_4_method_25_code
def yX2_readsStatement : MethodName := ⟨RX2, "readsStatement", "()Z"⟩
abbrev cX2_adds : ByteArray := prog_4_method_26_code
def yX2_adds : MethodName := ⟨RX2, "adds", "(III)Z"⟩
abbrev cX2_isDone : ByteArray := prog_4_method_27_code
def yX2_isDone : MethodName := ⟨RX2, "isDone", "(I)Z"⟩
abbrev cX2_room : ByteArray := prog_4_method_28_code
def yX2_room : MethodName := ⟨RX2, "room", "()I"⟩
abbrev cX2_thing : ByteArray := prog_4_method_29_code
def yX2_thing : MethodName := ⟨RX2, "thing", "(II)I"⟩
abbrev cX2_wrongBy : ByteArray := prog_4_method_30_code
def yX2_wrongBy : MethodName := ⟨RX2, "wrongBy", "(II)I"⟩
abbrev cX2_wrongPull : ByteArray := prog_4_method_31_code
def yX2_wrongPull : MethodName := ⟨RX2, "wrongPull", "(II)I"⟩
abbrev cX2_pulls : ByteArray := prog_4_method_32_code
def yX2_pulls : MethodName := ⟨RX2, "pulls", "(II)I"⟩
abbrev cX2_floor : ByteArray := prog_4_method_33_code
def yX2_floor : MethodName := ⟨RX2, "floor", "(I)I"⟩
abbrev cX2_lays : ByteArray := prog_4_method_34_code
def yX2_lays : MethodName := ⟨RX2, "lays", "()I"⟩
abbrev cX2_setsUp : ByteArray := prog_4_method_35_code
def yX2_setsUp : MethodName := ⟨RX2, "setsUp", "(I)I"⟩
abbrev cX2_turn : ByteArray := prog_4_method_36_code
def yX2_turn : MethodName := ⟨RX2, "turn", "(III)I"⟩
abbrev cX2_minutes : ByteArray := prog_4_method_37_code
def yX2_minutes : MethodName := ⟨RX2, "minutes", "(I)I"⟩
abbrev cX2_takes : ByteArray := prog_4_method_38_code
def yX2_takes : MethodName := ⟨RX2, "takes", "(I)V"⟩
abbrev cX2_standingIn : ByteArray := prog_4_method_39_code
def yX2_standingIn : MethodName := ⟨RX2, "standingIn", "()I"⟩
abbrev cX2_behind : ByteArray := prog_4_method_40_code
def yX2_behind : MethodName := ⟨RX2, "behind", "(III)I"⟩
abbrev cX2_fallsIn : ByteArray := prog_4_method_41_code
def yX2_fallsIn : MethodName := ⟨RX2, "fallsIn", "(I)I"⟩
abbrev cX2_fallsOf : ByteArray := prog_4_method_42_code
def yX2_fallsOf : MethodName := ⟨RX2, "fallsOf", "(I)I"⟩
abbrev cX2_falls : ByteArray := prog_4_method_43_code
def yX2_falls : MethodName := ⟨RX2, "falls", "(I)I"⟩
abbrev cX2_first : ByteArray := prog_4_method_44_code
def yX2_first : MethodName := ⟨RX2, "first", "(I)I"⟩
abbrev cX2_allStand : ByteArray := prog_4_method_45_code
def yX2_allStand : MethodName := ⟨RX2, "allStand", "()I"⟩
abbrev cX2_isAbove : ByteArray := prog_4_method_46_code
def yX2_isAbove : MethodName := ⟨RX2, "isAbove", "(II)Z"⟩
abbrev cX2_tower : ByteArray := prog_4_method_47_code
def yX2_tower : MethodName := ⟨RX2, "tower", "(II)I"⟩
abbrev cX2_leastSpeed : ByteArray := prog_4_method_48_code
def yX2_leastSpeed : MethodName := ⟨RX2, "leastSpeed", "(I)I"⟩
abbrev cX2_atOnce : ByteArray := prog_4_method_49_code
def yX2_atOnce : MethodName := ⟨RX2, "atOnce", "(II)I"⟩
abbrev cX2_later : ByteArray := prog_4_method_50_code
def yX2_later : MethodName := ⟨RX2, "later", "(III)I"⟩
abbrev cX2_pullsSet : ByteArray := prog_4_method_51_code
def yX2_pullsSet : MethodName := ⟨RX2, "pullsSet", "(I)Z"⟩
abbrev cX2_pullMost : ByteArray := prog_4_method_52_code
def yX2_pullMost : MethodName := ⟨RX2, "pullMost", "(III)I"⟩
abbrev cX2_key : ByteArray := prog_4_method_53_code
def yX2_key : MethodName := ⟨RX2, "key", "(I)I"⟩
abbrev cX2_prop : ByteArray := prog_4_method_54_code
def yX2_prop : MethodName := ⟨RX2, "prop", "(I)I"⟩
abbrev cX2_standingBy : ByteArray := prog_4_method_55_code
def yX2_standingBy : MethodName := ⟨RX2, "standingBy", "(IIII)I"⟩
abbrev cX2_placed : ByteArray := prog_4_method_56_code
def yX2_placed : MethodName := ⟨RX2, "placed", "(IIII)I"⟩
abbrev cX2_order : ByteArray := prog_4_method_57_code
def yX2_order : MethodName := ⟨RX2, "order", "(IIIII)I"⟩
abbrev cX2_floorFalls : ByteArray := prog_4_method_58_code
def yX2_floorFalls : MethodName := ⟨RX2, "floorFalls", "(I)I"⟩
abbrev cX2_watched : ByteArray := prog_4_method_59_code
def yX2_watched : MethodName := ⟨RX2, "watched", "(I)I"⟩
abbrev cX2_rebuilt : ByteArray := prog_4_method_60_code
def yX2_rebuilt : MethodName := ⟨RX2, "rebuilt", "([I)I"⟩
abbrev cX2_rebuild : ByteArray := prog_4_method_61_code
def yX2_rebuild : MethodName := ⟨RX2, "rebuild", "(I)I"⟩
abbrev cX2_gcd : ByteArray := prog_4_method_62_code
def yX2_gcd : MethodName := ⟨RX2, "gcd", "(JJ)J"⟩
abbrev cX2_partOf : ByteArray := prog_4_method_63_code
def yX2_partOf : MethodName := ⟨RX2, "partOf", "(JJI)J"⟩
abbrev cX2_draught : ByteArray := prog_4_method_64_code
def yX2_draught : MethodName := ⟨RX2, "draught", "(IIII)J"⟩
abbrev cX2_standingPulled : ByteArray := prog_4_method_65_code
def yX2_standingPulled : MethodName := ⟨RX2, "standingPulled", "(IIIII)I"⟩
abbrev cX2_two : ByteArray := prog_4_method_66_code
def yX2_two : MethodName := ⟨RX2, "two", "(III)I"⟩
abbrev cX2_whatWas : ByteArray := prog_4_method_67_code
def yX2_whatWas : MethodName := ⟨RX2, "whatWas", "(II)I"⟩
abbrev cX2_row : ByteArray := prog_4_method_68_code
def yX2_row : MethodName := ⟨RX2, "row", "(I)I"⟩
abbrev cX2_judge : ByteArray := prog_4_method_69_code
def yX2_judge : MethodName := ⟨RX2, "judge", "()I"⟩
abbrev cX2_clear : ByteArray := prog_4_method_70_code
def yX2_clear : MethodName := ⟨RX2, "clear", "()I"⟩
abbrev cX2_drawn : ByteArray := prog_4_method_71_code
def yX2_drawn : MethodName := ⟨RX2, "drawn", "(I)I"⟩
abbrev cX2_lots : ByteArray := prog_4_method_72_code
def yX2_lots : MethodName := ⟨RX2, "lots", "(III)I"⟩
abbrev cX2_image : ByteArray := prog_4_method_73_code
def yX2_image : MethodName := ⟨RX2, "image", "()I"⟩
abbrev cX2_on : ByteArray := prog_4_method_74_code
def yX2_on : MethodName := ⟨RX2, "on", "()I"⟩
abbrev cX2_count : ByteArray := prog_4_method_75_code
def yX2_count : MethodName := ⟨RX2, "count", "(I)I"⟩
def RJ6 : String := "java/lang/Integer"
def TJ6 : u_T := fun k => match k with
  | _ => ("", "", "", false)
def tyJ6 : Nat → FieldType := fun k => match k with
  | _ => .int
abbrev wsJ60 : List Cond := u_ws RJ6 TJ6 0
theorem nmJ6 : ∀ a, a < 0 → ∀ b, b < 0 → a ≠ b → (TJ6 a).2.1 ≠ (TJ6 b).2.1 := by decide +kernel
theorem tyJ6_ok : ∀ k, k < 0 → parseFieldDescriptor (TJ6 k).2.2.1 = some (tyJ6 k) := by decide +kernel
abbrev cJ6_bitCount_0f7a4 : ByteArray := prog_5_method_49_code
def yJ6_bitCount_0f7a4 : MethodName := ⟨RJ6, "bitCount", "(I)I"⟩
def RJ9 : String := "java/lang/Math"
def TJ9 : u_T := fun k => match k with
  | _ => ("", "", "", false)
def tyJ9 : Nat → FieldType := fun k => match k with
  | _ => .int
abbrev wsJ90 : List Cond := u_ws RJ9 TJ9 0
theorem nmJ9 : ∀ a, a < 0 → ∀ b, b < 0 → a ≠ b → (TJ9 a).2.1 ≠ (TJ9 b).2.1 := by decide +kernel
theorem tyJ9_ok : ∀ k, k < 0 → parseFieldDescriptor (TJ9 k).2.2.1 = some (tyJ9 k) := by decide +kernel
abbrev cJ9_max_7cf53 : ByteArray := prog_6_method_65_code
def yJ9_max_7cf53 : MethodName := ⟨RJ9, "max", "(II)I"⟩
def RJ0 : String := "java/lang/String"
def TJ0 : u_T := fun k => match k with
  | _ => ("", "", "", false)
def tyJ0 : Nat → FieldType := fun k => match k with
  | _ => .int
abbrev wsJ00 : List Cond := u_ws RJ0 TJ0 0
theorem nmJ0 : ∀ a, a < 0 → ∀ b, b < 0 → a ≠ b → (TJ0 a).2.1 ≠ (TJ0 b).2.1 := by decide +kernel
theorem tyJ0_ok : ∀ k, k < 0 → parseFieldDescriptor (TJ0 k).2.2.1 = some (tyJ0 k) := by decide +kernel
abbrev cJ0_length_8abf5 : ByteArray := prog_7_method_54_code
def yJ0_length_8abf5 : MethodName := ⟨RJ0, "length", "()I"⟩
abbrev cJ0_isEmpty_aae02 : ByteArray := prog_7_method_55_code
def yJ0_isEmpty_aae02 : MethodName := ⟨RJ0, "isEmpty", "()Z"⟩
abbrev cJ0_charAt_5068e : ByteArray := prog_7_method_56_code
def yJ0_charAt_5068e : MethodName := ⟨RJ0, "charAt", "(I)C"⟩
abbrev cJ0_coder_7d493 : ByteArray := prog_7_method_152_code
def yJ0_coder_7d493 : MethodName := ⟨RJ0, "coder", "()B"⟩
abbrev cJ0_isLatin1_aae02 : ByteArray := prog_7_method_154_code
def yJ0_isLatin1_aae02 : MethodName := ⟨RJ0, "isLatin1", "()Z"⟩
abbrev cJ0_checkIndex_df160 : ByteArray := prog_7_method_155_code
def yJ0_checkIndex_df160 : MethodName := ⟨RJ0, "checkIndex", "(II)V"⟩
def RJ1 : String := "java/lang/StringLatin1"
def TJ1 : u_T := fun k => match k with
  | _ => ("", "", "", false)
def tyJ1 : Nat → FieldType := fun k => match k with
  | _ => .int
abbrev wsJ10 : List Cond := u_ws RJ1 TJ1 0
theorem nmJ1 : ∀ a, a < 0 → ∀ b, b < 0 → a ≠ b → (TJ1 a).2.1 ≠ (TJ1 b).2.1 := by decide +kernel
theorem tyJ1_ok : ∀ k, k < 0 → parseFieldDescriptor (TJ1 k).2.2.1 = some (tyJ1 k) := by decide +kernel
abbrev cJ1_charAt_3b067 : ByteArray := prog_8_method_2_code
def yJ1_charAt_3b067 : MethodName := ⟨RJ1, "charAt", "([BI)C"⟩
def RJ2 : String := "java/lang/StringUTF16"
def TJ2 : u_T := fun k => match k with
  | _ => ("", "", "", false)
def tyJ2 : Nat → FieldType := fun k => match k with
  | _ => .int
abbrev wsJ20 : List Cond := u_ws RJ2 TJ2 0
theorem nmJ2 : ∀ a, a < 0 → ∀ b, b < 0 → a ≠ b → (TJ2 a).2.1 ≠ (TJ2 b).2.1 := by decide +kernel
theorem tyJ2_ok : ∀ k, k < 0 → parseFieldDescriptor (TJ2 k).2.2.1 = some (tyJ2 k) := by decide +kernel
abbrev cJ2_getChar_3b067 : ByteArray := prog_9_method_5_code
def yJ2_getChar_3b067 : MethodName := ⟨RJ2, "getChar", "([BI)C"⟩
abbrev cJ2_length_9d52b : ByteArray := prog_9_method_6_code
def yJ2_length_9d52b : MethodName := ⟨RJ2, "length", "([B)I"⟩
abbrev cJ2_charAt_3b067 : ByteArray := prog_9_method_83_code
def yJ2_charAt_3b067 : MethodName := ⟨RJ2, "charAt", "([BI)C"⟩
abbrev cJ2_checkIndex_2214a : ByteArray := prog_9_method_91_code
def yJ2_checkIndex_2214a : MethodName := ⟨RJ2, "checkIndex", "(I[B)V"⟩
def RJ10 : String := "java/lang/System"
def TJ10 : u_T := fun k => match k with
  | _ => ("", "", "", false)
def tyJ10 : Nat → FieldType := fun k => match k with
  | _ => .int
abbrev wsJ100 : List Cond := u_ws RJ10 TJ10 0
theorem nmJ10 : ∀ a, a < 0 → ∀ b, b < 0 → a ≠ b → (TJ10 a).2.1 ≠ (TJ10 b).2.1 := by decide +kernel
theorem tyJ10_ok : ∀ k, k < 0 → parseFieldDescriptor (TJ10 k).2.2.1 = some (tyJ10 k) := by decide +kernel
def RJ3 : String := "jdk/internal/util/Preconditions"
def TJ3 : u_T := fun k => match k with
  | _ => ("", "", "", false)
def tyJ3 : Nat → FieldType := fun k => match k with
  | _ => .int
abbrev wsJ30 : List Cond := u_ws RJ3 TJ3 0
theorem nmJ3 : ∀ a, a < 0 → ∀ b, b < 0 → a ≠ b → (TJ3 a).2.1 ≠ (TJ3 b).2.1 := by decide +kernel
theorem tyJ3_ok : ∀ k, k < 0 → parseFieldDescriptor (TJ3 k).2.2.1 = some (tyJ3 k) := by decide +kernel
abbrev cJ3_checkIndex_8e157 : ByteArray := prog_11_method_11_code
def yJ3_checkIndex_8e157 : MethodName := ⟨RJ3, "checkIndex", "(IILjava/util/function/BiFunction;)I"⟩
def RL : String := "PulledFromUnderLaw"
abbrev cL_law : ByteArray := code
def yL_law : MethodName := ⟨RL, "law", "([I)Z"⟩
abbrev vwCl : List vw_C := [(RX0, TX0, 9), (RX1, TX1, 11), (RX2, TX2, 13)]
-- ===== the words as one list =====
def TB : List Cond := lw_tbl.filter goodWord
theorem tbm {w : Cond} (i : Nat) (h : lw_tbl[i]? = some w) (g : goodWord w = true) : w ∈ TB := List.mem_filter.mpr ⟨List.mem_of_getElem? h, g⟩
theorem tb_good : ∀ w ∈ TB, goodWord w = true := fun _ h => (List.mem_filter.mp h).2
theorem tb_all {args : Array Value} {s : State} (h : ∀ w ∈ lw_tbl, w.before args s = true) : ∀ w ∈ TB, w.before args s = true := fun w q => h w (List.mem_filter.mp q).1
theorem tb_us {C : String} {T : u_T} {N : Nat} (h : (u_ws C T N).all (fun w => decide (w ∈ lw_tbl) && goodWord w) = true) : ∀ w ∈ u_ws C T N, w ∈ TB := by
  intro w hw
  have h1 := List.all_eq_true.mp h w hw
  simp only [Bool.and_eq_true, decide_eq_true_eq] at h1
  exact List.mem_filter.mpr ⟨h1.1, h1.2⟩
theorem us_X0 : ∀ w ∈ u_ws RX0 TX0 9, w ∈ TB := tb_us (by decide +kernel)
theorem us_X1 : ∀ w ∈ u_ws RX1 TX1 11, w ∈ TB := tb_us (by decide +kernel)
theorem us_X2 : ∀ w ∈ u_ws RX2 TX2 13, w ∈ TB := tb_us (by decide +kernel)
/-- a field's link: class number ci, field k -/
def FK (own : String) (index ci k : Nat) : Prop := ∃ q : vw_C, vwCl[ci]? = some q ∧ k < q.2.2 ∧ (∀ w ∈ u_ws q.1 q.2.1 q.2.2, w ∈ TB) ∧ Cond.fieldLink own index (q.2.1 k).1 (q.2.1 k).2.1 (q.2.1 k).2.2.1 ∈ TB
/-- a call's link: of a static method, of an object's method -/
def YC (y : MethodName) (bytes : ByteArray) (maxL : Nat) (ret : Option FieldType) (n : Nat) : Prop := Cond.code y bytes maxL ret ∈ TB ∧ Cond.initialized y.cls ∈ TB ∧ (y.cls ≠ "java/lang/invoke/MethodHandle" ∧ y.cls ≠ "java/lang/invoke/VarHandle" ∧ (parseMethodDescriptor y.desc).map (fun d => d.parameters.length) = some n)
def YS (y : MethodName) (bytes : ByteArray) (maxL : Nat) (ret : Option FieldType) (n : Nat) : Prop := YC y bytes maxL ret n ∧ Cond.static y ∈ TB
def YV (y : MethodName) (bytes : ByteArray) (maxL : Nat) (ret : Option FieldType) (n : Nat) : Prop := YC y bytes maxL ret n ∧ Cond.instanceMethod y ∈ TB ∧ Cond.selects y.cls y y ∈ TB
theorem fk_X1_10 : FK RX1 10 1 0 := ⟨_, rfl, by decide, us_X1, tbm 108 (by decide +kernel) (by decide +kernel)⟩
theorem fk_X1_16 : FK RX1 16 1 1 := ⟨_, rfl, by decide, us_X1, tbm 109 (by decide +kernel) (by decide +kernel)⟩
theorem fk_X1_19 : FK RX1 19 1 2 := ⟨_, rfl, by decide, us_X1, tbm 110 (by decide +kernel) (by decide +kernel)⟩
theorem fk_X1_22 : FK RX1 22 1 4 := ⟨_, rfl, by decide, us_X1, tbm 112 (by decide +kernel) (by decide +kernel)⟩
theorem fk_X1_26 : FK RX1 26 1 6 := ⟨_, rfl, by decide, us_X1, tbm 114 (by decide +kernel) (by decide +kernel)⟩
theorem fk_X1_29 : FK RX1 29 1 8 := ⟨_, rfl, by decide, us_X1, tbm 116 (by decide +kernel) (by decide +kernel)⟩
theorem fk_X1_32 : FK RX1 32 1 9 := ⟨_, rfl, by decide, us_X1, tbm 117 (by decide +kernel) (by decide +kernel)⟩
theorem fk_X1_39 : FK RX1 39 1 5 := ⟨_, rfl, by decide, us_X1, tbm 113 (by decide +kernel) (by decide +kernel)⟩
theorem fk_X1_58 : FK RX1 58 0 5 := ⟨_, rfl, by decide, us_X0, tbm 81 (by decide +kernel) (by decide +kernel)⟩
theorem fk_X1_61 : FK RX1 61 0 6 := ⟨_, rfl, by decide, us_X0, tbm 83 (by decide +kernel) (by decide +kernel)⟩
theorem fk_X1_64 : FK RX1 64 0 7 := ⟨_, rfl, by decide, us_X0, tbm 85 (by decide +kernel) (by decide +kernel)⟩
theorem fk_X1_70 : FK RX1 70 0 8 := ⟨_, rfl, by decide, us_X0, tbm 87 (by decide +kernel) (by decide +kernel)⟩
theorem fk_X1_98 : FK RX1 98 0 2 := ⟨_, rfl, by decide, us_X0, tbm 75 (by decide +kernel) (by decide +kernel)⟩
theorem fk_X1_153 : FK RX1 153 0 4 := ⟨_, rfl, by decide, us_X0, tbm 79 (by decide +kernel) (by decide +kernel)⟩
theorem fk_X1_156 : FK RX1 156 0 3 := ⟨_, rfl, by decide, us_X0, tbm 77 (by decide +kernel) (by decide +kernel)⟩
theorem fk_X1_163 : FK RX1 163 0 0 := ⟨_, rfl, by decide, us_X0, tbm 71 (by decide +kernel) (by decide +kernel)⟩
theorem fk_X1_208 : FK RX1 208 1 7 := ⟨_, rfl, by decide, us_X1, tbm 115 (by decide +kernel) (by decide +kernel)⟩
theorem fk_X1_220 : FK RX1 220 1 10 := ⟨_, rfl, by decide, us_X1, tbm 118 (by decide +kernel) (by decide +kernel)⟩
theorem fk_X1_226 : FK RX1 226 1 3 := ⟨_, rfl, by decide, us_X1, tbm 111 (by decide +kernel) (by decide +kernel)⟩
theorem fk_X1_229 : FK RX1 229 0 1 := ⟨_, rfl, by decide, us_X0, tbm 73 (by decide +kernel) (by decide +kernel)⟩
theorem fk_X0_9 : FK RX0 9 0 2 := ⟨_, rfl, by decide, us_X0, tbm 74 (by decide +kernel) (by decide +kernel)⟩
theorem fk_X0_15 : FK RX0 15 0 5 := ⟨_, rfl, by decide, us_X0, tbm 80 (by decide +kernel) (by decide +kernel)⟩
theorem fk_X0_19 : FK RX0 19 0 6 := ⟨_, rfl, by decide, us_X0, tbm 82 (by decide +kernel) (by decide +kernel)⟩
theorem fk_X0_22 : FK RX0 22 0 7 := ⟨_, rfl, by decide, us_X0, tbm 84 (by decide +kernel) (by decide +kernel)⟩
theorem fk_X0_25 : FK RX0 25 0 8 := ⟨_, rfl, by decide, us_X0, tbm 86 (by decide +kernel) (by decide +kernel)⟩
theorem fk_X0_28 : FK RX0 28 0 0 := ⟨_, rfl, by decide, us_X0, tbm 70 (by decide +kernel) (by decide +kernel)⟩
theorem fk_X0_32 : FK RX0 32 0 1 := ⟨_, rfl, by decide, us_X0, tbm 72 (by decide +kernel) (by decide +kernel)⟩
theorem fk_X0_35 : FK RX0 35 0 3 := ⟨_, rfl, by decide, us_X0, tbm 76 (by decide +kernel) (by decide +kernel)⟩
theorem fk_X0_38 : FK RX0 38 0 4 := ⟨_, rfl, by decide, us_X0, tbm 78 (by decide +kernel) (by decide +kernel)⟩
theorem fk_X2_9 : FK RX2 9 2 0 := ⟨_, rfl, by decide, us_X2, tbm 607 (by decide +kernel) (by decide +kernel)⟩
theorem fk_X2_13 : FK RX2 13 2 1 := ⟨_, rfl, by decide, us_X2, tbm 608 (by decide +kernel) (by decide +kernel)⟩
theorem fk_X2_16 : FK RX2 16 2 2 := ⟨_, rfl, by decide, us_X2, tbm 609 (by decide +kernel) (by decide +kernel)⟩
theorem fk_X2_19 : FK RX2 19 2 3 := ⟨_, rfl, by decide, us_X2, tbm 610 (by decide +kernel) (by decide +kernel)⟩
theorem fk_X2_22 : FK RX2 22 2 5 := ⟨_, rfl, by decide, us_X2, tbm 612 (by decide +kernel) (by decide +kernel)⟩
theorem fk_X2_25 : FK RX2 25 2 6 := ⟨_, rfl, by decide, us_X2, tbm 613 (by decide +kernel) (by decide +kernel)⟩
theorem fk_X2_28 : FK RX2 28 2 7 := ⟨_, rfl, by decide, us_X2, tbm 614 (by decide +kernel) (by decide +kernel)⟩
theorem fk_X2_31 : FK RX2 31 2 11 := ⟨_, rfl, by decide, us_X2, tbm 618 (by decide +kernel) (by decide +kernel)⟩
theorem fk_X2_84 : FK RX2 84 2 8 := ⟨_, rfl, by decide, us_X2, tbm 615 (by decide +kernel) (by decide +kernel)⟩
theorem fk_X2_88 : FK RX2 88 2 10 := ⟨_, rfl, by decide, us_X2, tbm 617 (by decide +kernel) (by decide +kernel)⟩
theorem fk_X2_181 : FK RX2 181 2 9 := ⟨_, rfl, by decide, us_X2, tbm 616 (by decide +kernel) (by decide +kernel)⟩
theorem fk_X2_184 : FK RX2 184 2 12 := ⟨_, rfl, by decide, us_X2, tbm 619 (by decide +kernel) (by decide +kernel)⟩
theorem fk_X2_193 : FK RX2 193 2 4 := ⟨_, rfl, by decide, us_X2, tbm 611 (by decide +kernel) (by decide +kernel)⟩
-- other: yX1_init
-- other: yX0_init
set_option maxRecDepth 100000 in
theorem yvX1_letter : YV yX1_letter cX1_letter 3 (some .int) 1 := ⟨⟨tbm 145 rfl rfl, tbm 46 rfl (by decide +kernel), ⟨by decide +kernel, by decide +kernel, by decide +kernel⟩⟩, tbm 143 (by decide +kernel) (by decide +kernel), tbm 144 (by decide +kernel) (by decide +kernel)⟩
set_option maxRecDepth 100000 in
theorem ysX1_outside : YS yX1_outside cX1_outside 3 (some .int) 3 := ⟨⟨tbm 148 rfl rfl, tbm 46 rfl (by decide +kernel), ⟨by decide +kernel, by decide +kernel, by decide +kernel⟩⟩, tbm 147 (by decide +kernel) (by decide +kernel)⟩
set_option maxRecDepth 100000 in
theorem yvX1_refuse : YV yX1_refuse cX1_refuse 2 (some .int) 1 := ⟨⟨tbm 152 rfl rfl, tbm 46 rfl (by decide +kernel), ⟨by decide +kernel, by decide +kernel, by decide +kernel⟩⟩, tbm 151 (by decide +kernel) (by decide +kernel), tbm 0 (by decide +kernel) (by decide +kernel)⟩
set_option maxRecDepth 100000 in
theorem yvX1_room : YV yX1_room cX1_room 2 (some .int) 0 := ⟨⟨tbm 156 rfl rfl, tbm 46 rfl (by decide +kernel), ⟨by decide +kernel, by decide +kernel, by decide +kernel⟩⟩, tbm 154 (by decide +kernel) (by decide +kernel), tbm 155 (by decide +kernel) (by decide +kernel)⟩
set_option maxRecDepth 100000 in
theorem yvX1_readLetters : YV yX1_readLetters cX1_readLetters 4 (some .int) 0 := ⟨⟨tbm 160 rfl rfl, tbm 46 rfl (by decide +kernel), ⟨by decide +kernel, by decide +kernel, by decide +kernel⟩⟩, tbm 159 (by decide +kernel) (by decide +kernel), tbm 1 (by decide +kernel) (by decide +kernel)⟩
set_option maxRecDepth 100000 in
theorem yvX1_firstWrongLetter : YV yX1_firstWrongLetter cX1_firstWrongLetter 4 (some .int) 0 := ⟨⟨tbm 164 rfl rfl, tbm 46 rfl (by decide +kernel), ⟨by decide +kernel, by decide +kernel, by decide +kernel⟩⟩, tbm 163 (by decide +kernel) (by decide +kernel), tbm 2 (by decide +kernel) (by decide +kernel)⟩
set_option maxRecDepth 100000 in
theorem yvJ0_length_8abf5 : YV yJ0_length_8abf5 cJ0_length_8abf5 1 (some .int) 0 := ⟨⟨tbm 169 rfl rfl, tbm 49 rfl (by decide +kernel), ⟨by decide +kernel, by decide +kernel, by decide +kernel⟩⟩, tbm 167 (by decide +kernel) (by decide +kernel), tbm 168 (by decide +kernel) (by decide +kernel)⟩
set_option maxRecDepth 100000 in
theorem yvJ0_coder_7d493 : YV yJ0_coder_7d493 cJ0_coder_7d493 1 (some .byte) 0 := ⟨⟨tbm 173 rfl rfl, tbm 49 rfl (by decide +kernel), ⟨by decide +kernel, by decide +kernel, by decide +kernel⟩⟩, tbm 171 (by decide +kernel) (by decide +kernel), tbm 172 (by decide +kernel) (by decide +kernel)⟩
set_option maxRecDepth 100000 in
theorem ysX1_shapeBehind : YS yX1_shapeBehind cX1_shapeBehind 1 (some (.object "java/lang/String")) 1 := ⟨⟨tbm 178 rfl rfl, tbm 46 rfl (by decide +kernel), ⟨by decide +kernel, by decide +kernel, by decide +kernel⟩⟩, tbm 177 (by decide +kernel) (by decide +kernel)⟩
set_option maxRecDepth 100000 in
theorem yvJ0_isEmpty_aae02 : YV yJ0_isEmpty_aae02 cJ0_isEmpty_aae02 1 (some .boolean) 0 := ⟨⟨tbm 186 rfl rfl, tbm 49 rfl (by decide +kernel), ⟨by decide +kernel, by decide +kernel, by decide +kernel⟩⟩, tbm 184 (by decide +kernel) (by decide +kernel), tbm 185 (by decide +kernel) (by decide +kernel)⟩
set_option maxRecDepth 100000 in
theorem yvJ0_charAt_5068e : YV yJ0_charAt_5068e cJ0_charAt_5068e 2 (some .char) 1 := ⟨⟨tbm 190 rfl rfl, tbm 49 rfl (by decide +kernel), ⟨by decide +kernel, by decide +kernel, by decide +kernel⟩⟩, tbm 188 (by decide +kernel) (by decide +kernel), tbm 189 (by decide +kernel) (by decide +kernel)⟩
set_option maxRecDepth 100000 in
theorem yvJ0_isLatin1_aae02 : YV yJ0_isLatin1_aae02 cJ0_isLatin1_aae02 1 (some .boolean) 0 := ⟨⟨tbm 194 rfl rfl, tbm 49 rfl (by decide +kernel), ⟨by decide +kernel, by decide +kernel, by decide +kernel⟩⟩, tbm 192 (by decide +kernel) (by decide +kernel), tbm 193 (by decide +kernel) (by decide +kernel)⟩
set_option maxRecDepth 100000 in
theorem ysJ1_charAt_3b067 : YS yJ1_charAt_3b067 cJ1_charAt_3b067 2 (some .char) 2 := ⟨⟨tbm 197 rfl rfl, tbm 50 rfl (by decide +kernel), ⟨by decide +kernel, by decide +kernel, by decide +kernel⟩⟩, tbm 196 (by decide +kernel) (by decide +kernel)⟩
set_option maxRecDepth 100000 in
theorem ysJ0_checkIndex_df160 : YS yJ0_checkIndex_df160 cJ0_checkIndex_df160 2 (none) 2 := ⟨⟨tbm 200 rfl rfl, tbm 49 rfl (by decide +kernel), ⟨by decide +kernel, by decide +kernel, by decide +kernel⟩⟩, tbm 199 (by decide +kernel) (by decide +kernel)⟩
set_option maxRecDepth 100000 in
theorem ysJ3_checkIndex_8e157 : YS yJ3_checkIndex_8e157 cJ3_checkIndex_8e157 3 (some .int) 3 := ⟨⟨tbm 205 rfl rfl, tbm 51 rfl (by decide +kernel), ⟨by decide +kernel, by decide +kernel, by decide +kernel⟩⟩, tbm 204 (by decide +kernel) (by decide +kernel)⟩
set_option maxRecDepth 100000 in
theorem ysJ2_charAt_3b067 : YS yJ2_charAt_3b067 cJ2_charAt_3b067 2 (some .char) 2 := ⟨⟨tbm 208 rfl rfl, tbm 52 rfl (by decide +kernel), ⟨by decide +kernel, by decide +kernel, by decide +kernel⟩⟩, tbm 207 (by decide +kernel) (by decide +kernel)⟩
set_option maxRecDepth 100000 in
theorem ysJ2_checkIndex_2214a : YS yJ2_checkIndex_2214a cJ2_checkIndex_2214a 2 (none) 2 := ⟨⟨tbm 211 rfl rfl, tbm 52 rfl (by decide +kernel), ⟨by decide +kernel, by decide +kernel, by decide +kernel⟩⟩, tbm 210 (by decide +kernel) (by decide +kernel)⟩
set_option maxRecDepth 100000 in
theorem ysJ2_length_9d52b : YS yJ2_length_9d52b cJ2_length_9d52b 1 (some .int) 1 := ⟨⟨tbm 214 rfl rfl, tbm 52 rfl (by decide +kernel), ⟨by decide +kernel, by decide +kernel, by decide +kernel⟩⟩, tbm 213 (by decide +kernel) (by decide +kernel)⟩
set_option maxRecDepth 100000 in
theorem ysJ2_getChar_3b067 : YS yJ2_getChar_3b067 cJ2_getChar_3b067 2 (some .char) 2 := ⟨⟨tbm 218 rfl rfl, tbm 52 rfl (by decide +kernel), ⟨by decide +kernel, by decide +kernel, by decide +kernel⟩⟩, tbm 217 (by decide +kernel) (by decide +kernel)⟩
set_option maxRecDepth 100000 in
theorem ysX1_fits : YS yX1_fits cX1_fits 2 (some .boolean) 2 := ⟨⟨tbm 227 rfl rfl, tbm 46 rfl (by decide +kernel), ⟨by decide +kernel, by decide +kernel, by decide +kernel⟩⟩, tbm 226 (by decide +kernel) (by decide +kernel)⟩
set_option maxRecDepth 100000 in
theorem ysX1_kindOf : YS yX1_kindOf cX1_kindOf 1 (some .int) 1 := ⟨⟨tbm 230 rfl rfl, tbm 46 rfl (by decide +kernel), ⟨by decide +kernel, by decide +kernel, by decide +kernel⟩⟩, tbm 229 (by decide +kernel) (by decide +kernel)⟩
set_option maxRecDepth 100000 in
theorem yvX0_copyFrom : YV yX0_copyFrom cX0_copyFrom 2 (none) 1 := ⟨⟨tbm 234 rfl rfl, tbm 47 rfl (by decide +kernel), ⟨by decide +kernel, by decide +kernel, by decide +kernel⟩⟩, tbm 232 (by decide +kernel) (by decide +kernel), tbm 233 (by decide +kernel) (by decide +kernel)⟩
set_option maxRecDepth 100000 in
theorem yvX1_comesInMind : YV yX1_comesInMind cX1_comesInMind 5 (some .boolean) 1 := ⟨⟨tbm 241 rfl rfl, tbm 46 rfl (by decide +kernel), ⟨by decide +kernel, by decide +kernel, by decide +kernel⟩⟩, tbm 240 (by decide +kernel) (by decide +kernel), tbm 3 (by decide +kernel) (by decide +kernel)⟩
set_option maxRecDepth 100000 in
theorem yvX1_letterAt : YV yX1_letterAt cX1_letterAt 2 (some .int) 1 := ⟨⟨tbm 245 rfl rfl, tbm 46 rfl (by decide +kernel), ⟨by decide +kernel, by decide +kernel, by decide +kernel⟩⟩, tbm 244 (by decide +kernel) (by decide +kernel), tbm 4 (by decide +kernel) (by decide +kernel)⟩
set_option maxRecDepth 100000 in
theorem yvX1_digitAt : YV yX1_digitAt cX1_digitAt 2 (some .int) 1 := ⟨⟨tbm 249 rfl rfl, tbm 46 rfl (by decide +kernel), ⟨by decide +kernel, by decide +kernel, by decide +kernel⟩⟩, tbm 248 (by decide +kernel) (by decide +kernel), tbm 5 (by decide +kernel) (by decide +kernel)⟩
set_option maxRecDepth 100000 in
theorem yvX0_addThing : YV yX0_addThing cX0_addThing 4 (some .boolean) 3 := ⟨⟨tbm 253 rfl rfl, tbm 47 rfl (by decide +kernel), ⟨by decide +kernel, by decide +kernel, by decide +kernel⟩⟩, tbm 251 (by decide +kernel) (by decide +kernel), tbm 252 (by decide +kernel) (by decide +kernel)⟩
set_option maxRecDepth 100000 in
theorem yvX0_become : YV yX0_become cX0_become 4 (none) 3 := ⟨⟨tbm 257 rfl rfl, tbm 47 rfl (by decide +kernel), ⟨by decide +kernel, by decide +kernel, by decide +kernel⟩⟩, tbm 255 (by decide +kernel) (by decide +kernel), tbm 256 (by decide +kernel) (by decide +kernel)⟩
set_option maxRecDepth 100000 in
theorem yvX0_isThing : YV yX0_isThing cX0_isThing 2 (some .boolean) 1 := ⟨⟨tbm 261 rfl rfl, tbm 47 rfl (by decide +kernel), ⟨by decide +kernel, by decide +kernel, by decide +kernel⟩⟩, tbm 259 (by decide +kernel) (by decide +kernel), tbm 260 (by decide +kernel) (by decide +kernel)⟩
set_option maxRecDepth 100000 in
theorem yvX0_stands : YV yX0_stands cX0_stands 2 (some .boolean) 1 := ⟨⟨tbm 265 rfl rfl, tbm 47 rfl (by decide +kernel), ⟨by decide +kernel, by decide +kernel, by decide +kernel⟩⟩, tbm 263 (by decide +kernel) (by decide +kernel), tbm 264 (by decide +kernel) (by decide +kernel)⟩
set_option maxRecDepth 100000 in
theorem yvX1_pullsInMind : YV yX1_pullsInMind cX1_pullsInMind 3 (some .boolean) 2 := ⟨⟨tbm 269 rfl rfl, tbm 46 rfl (by decide +kernel), ⟨by decide +kernel, by decide +kernel, by decide +kernel⟩⟩, tbm 268 (by decide +kernel) (by decide +kernel), tbm 6 (by decide +kernel) (by decide +kernel)⟩
set_option maxRecDepth 100000 in
theorem yvX0_pullThing : YV yX0_pullThing cX0_pullThing 4 (some .int) 2 := ⟨⟨tbm 273 rfl rfl, tbm 47 rfl (by decide +kernel), ⟨by decide +kernel, by decide +kernel, by decide +kernel⟩⟩, tbm 271 (by decide +kernel) (by decide +kernel), tbm 272 (by decide +kernel) (by decide +kernel)⟩
set_option maxRecDepth 100000 in
theorem yvX0_caughtOn : YV yX0_caughtOn cX0_caughtOn 5 (some .int) 2 := ⟨⟨tbm 277 rfl rfl, tbm 47 rfl (by decide +kernel), ⟨by decide +kernel, by decide +kernel, by decide +kernel⟩⟩, tbm 275 (by decide +kernel) (by decide +kernel), tbm 276 (by decide +kernel) (by decide +kernel)⟩
set_option maxRecDepth 100000 in
theorem yvX0_gripOf : YV yX0_gripOf cX0_gripOf 3 (some .int) 1 := ⟨⟨tbm 282 rfl rfl, tbm 47 rfl (by decide +kernel), ⟨by decide +kernel, by decide +kernel, by decide +kernel⟩⟩, tbm 280 (by decide +kernel) (by decide +kernel), tbm 281 (by decide +kernel) (by decide +kernel)⟩
set_option maxRecDepth 100000 in
theorem yvX0_layDown : YV yX0_layDown cX0_layDown 2 (none) 1 := ⟨⟨tbm 286 rfl rfl, tbm 47 rfl (by decide +kernel), ⟨by decide +kernel, by decide +kernel, by decide +kernel⟩⟩, tbm 285 (by decide +kernel) (by decide +kernel), tbm 7 (by decide +kernel) (by decide +kernel)⟩
set_option maxRecDepth 100000 in
theorem yvX1_floorInMind : YV yX1_floorInMind cX1_floorInMind 2 (some .boolean) 1 := ⟨⟨tbm 290 rfl rfl, tbm 46 rfl (by decide +kernel), ⟨by decide +kernel, by decide +kernel, by decide +kernel⟩⟩, tbm 289 (by decide +kernel) (by decide +kernel), tbm 8 (by decide +kernel) (by decide +kernel)⟩
set_option maxRecDepth 100000 in
theorem yvX0_pullFloor : YV yX0_pullFloor cX0_pullFloor 3 (some .int) 1 := ⟨⟨tbm 294 rfl rfl, tbm 47 rfl (by decide +kernel), ⟨by decide +kernel, by decide +kernel, by decide +kernel⟩⟩, tbm 292 (by decide +kernel) (by decide +kernel), tbm 293 (by decide +kernel) (by decide +kernel)⟩
set_option maxRecDepth 100000 in
theorem yvX1_setsUpInMind : YV yX1_setsUpInMind cX1_setsUpInMind 2 (some .boolean) 1 := ⟨⟨tbm 298 rfl rfl, tbm 46 rfl (by decide +kernel), ⟨by decide +kernel, by decide +kernel, by decide +kernel⟩⟩, tbm 297 (by decide +kernel) (by decide +kernel), tbm 9 (by decide +kernel) (by decide +kernel)⟩
set_option maxRecDepth 100000 in
theorem yvX0_lies : YV yX0_lies cX0_lies 2 (some .boolean) 1 := ⟨⟨tbm 302 rfl rfl, tbm 47 rfl (by decide +kernel), ⟨by decide +kernel, by decide +kernel, by decide +kernel⟩⟩, tbm 300 (by decide +kernel) (by decide +kernel), tbm 301 (by decide +kernel) (by decide +kernel)⟩
set_option maxRecDepth 100000 in
theorem yvX0_setUp : YV yX0_setUp cX0_setUp 2 (none) 1 := ⟨⟨tbm 306 rfl rfl, tbm 47 rfl (by decide +kernel), ⟨by decide +kernel, by decide +kernel, by decide +kernel⟩⟩, tbm 304 (by decide +kernel) (by decide +kernel), tbm 305 (by decide +kernel) (by decide +kernel)⟩
set_option maxRecDepth 100000 in
theorem yvX1_minutesInMind : YV yX1_minutesInMind cX1_minutesInMind 2 (some .boolean) 1 := ⟨⟨tbm 310 rfl rfl, tbm 46 rfl (by decide +kernel), ⟨by decide +kernel, by decide +kernel, by decide +kernel⟩⟩, tbm 309 (by decide +kernel) (by decide +kernel), tbm 10 (by decide +kernel) (by decide +kernel)⟩
set_option maxRecDepth 100000 in
theorem yvX0_hasTimeFor : YV yX0_hasTimeFor cX0_hasTimeFor 2 (some .boolean) 1 := ⟨⟨tbm 314 rfl rfl, tbm 47 rfl (by decide +kernel), ⟨by decide +kernel, by decide +kernel, by decide +kernel⟩⟩, tbm 312 (by decide +kernel) (by decide +kernel), tbm 313 (by decide +kernel) (by decide +kernel)⟩
set_option maxRecDepth 100000 in
theorem yvX0_passMinutes : YV yX0_passMinutes cX0_passMinutes 3 (none) 1 := ⟨⟨tbm 318 rfl rfl, tbm 47 rfl (by decide +kernel), ⟨by decide +kernel, by decide +kernel, by decide +kernel⟩⟩, tbm 316 (by decide +kernel) (by decide +kernel), tbm 317 (by decide +kernel) (by decide +kernel)⟩
set_option maxRecDepth 100000 in
theorem yvX0_passMinute : YV yX0_passMinute cX0_passMinute 5 (some .boolean) 1 := ⟨⟨tbm 322 rfl rfl, tbm 47 rfl (by decide +kernel), ⟨by decide +kernel, by decide +kernel, by decide +kernel⟩⟩, tbm 320 (by decide +kernel) (by decide +kernel), tbm 321 (by decide +kernel) (by decide +kernel)⟩
set_option maxRecDepth 100000 in
theorem yvX0_hasGround : YV yX0_hasGround cX0_hasGround 3 (some .boolean) 1 := ⟨⟨tbm 326 rfl rfl, tbm 47 rfl (by decide +kernel), ⟨by decide +kernel, by decide +kernel, by decide +kernel⟩⟩, tbm 325 (by decide +kernel) (by decide +kernel), tbm 11 (by decide +kernel) (by decide +kernel)⟩
set_option maxRecDepth 100000 in
theorem yvX0_habitOf : YV yX0_habitOf cX0_habitOf 5 (some .int) 1 := ⟨⟨tbm 330 rfl rfl, tbm 47 rfl (by decide +kernel), ⟨by decide +kernel, by decide +kernel, by decide +kernel⟩⟩, tbm 328 (by decide +kernel) (by decide +kernel), tbm 329 (by decide +kernel) (by decide +kernel)⟩
set_option maxRecDepth 100000 in
theorem ysJ9_max_7cf53 : YS yJ9_max_7cf53 cJ9_max_7cf53 2 (some .int) 2 := ⟨⟨tbm 333 rfl rfl, tbm 54 rfl (by decide +kernel), ⟨by decide +kernel, by decide +kernel, by decide +kernel⟩⟩, tbm 332 (by decide +kernel) (by decide +kernel)⟩
set_option maxRecDepth 100000 in
theorem yvX1_thing : YV yX1_thing cX1_thing 4 (some .int) 2 := ⟨⟨tbm 338 rfl rfl, tbm 46 rfl (by decide +kernel), ⟨by decide +kernel, by decide +kernel, by decide +kernel⟩⟩, tbm 336 (by decide +kernel) (by decide +kernel), tbm 337 (by decide +kernel) (by decide +kernel)⟩
set_option maxRecDepth 100000 in
theorem ysX1_otherThan : YS yX1_otherThan cX1_otherThan 2 (some .int) 2 := ⟨⟨tbm 341 rfl rfl, tbm 46 rfl (by decide +kernel), ⟨by decide +kernel, by decide +kernel, by decide +kernel⟩⟩, tbm 340 (by decide +kernel) (by decide +kernel)⟩
set_option maxRecDepth 100000 in
theorem yvX1_refusalOfThing : YV yX1_refusalOfThing cX1_refusalOfThing 3 (some .int) 2 := ⟨⟨tbm 345 rfl rfl, tbm 46 rfl (by decide +kernel), ⟨by decide +kernel, by decide +kernel, by decide +kernel⟩⟩, tbm 344 (by decide +kernel) (by decide +kernel), tbm 12 (by decide +kernel) (by decide +kernel)⟩
set_option maxRecDepth 100000 in
theorem yvX0_stateOf : YV yX0_stateOf cX0_stateOf 2 (some .int) 1 := ⟨⟨tbm 350 rfl rfl, tbm 47 rfl (by decide +kernel), ⟨by decide +kernel, by decide +kernel, by decide +kernel⟩⟩, tbm 348 (by decide +kernel) (by decide +kernel), tbm 349 (by decide +kernel) (by decide +kernel)⟩
set_option maxRecDepth 100000 in
theorem yvX0_isHeld : YV yX0_isHeld cX0_isHeld 2 (some .boolean) 1 := ⟨⟨tbm 357 rfl rfl, tbm 47 rfl (by decide +kernel), ⟨by decide +kernel, by decide +kernel, by decide +kernel⟩⟩, tbm 355 (by decide +kernel) (by decide +kernel), tbm 356 (by decide +kernel) (by decide +kernel)⟩
set_option maxRecDepth 100000 in
theorem ysX1_bit : YS yX1_bit cX1_bit 1 (some .int) 1 := ⟨⟨tbm 360 rfl rfl, tbm 46 rfl (by decide +kernel), ⟨by decide +kernel, by decide +kernel, by decide +kernel⟩⟩, tbm 359 (by decide +kernel) (by decide +kernel)⟩
set_option maxRecDepth 100000 in
theorem yvX1_pulls : YV yX1_pulls cX1_pulls 4 (some .int) 2 := ⟨⟨tbm 364 rfl rfl, tbm 46 rfl (by decide +kernel), ⟨by decide +kernel, by decide +kernel, by decide +kernel⟩⟩, tbm 362 (by decide +kernel) (by decide +kernel), tbm 363 (by decide +kernel) (by decide +kernel)⟩
set_option maxRecDepth 100000 in
theorem yvX1_refusalOfPull : YV yX1_refusalOfPull cX1_refusalOfPull 3 (some .int) 2 := ⟨⟨tbm 368 rfl rfl, tbm 46 rfl (by decide +kernel), ⟨by decide +kernel, by decide +kernel, by decide +kernel⟩⟩, tbm 367 (by decide +kernel) (by decide +kernel), tbm 13 (by decide +kernel) (by decide +kernel)⟩
set_option maxRecDepth 100000 in
theorem ysX1_firstOf : YS yX1_firstOf cX1_firstOf 2 (some .int) 2 := ⟨⟨tbm 371 rfl rfl, tbm 46 rfl (by decide +kernel), ⟨by decide +kernel, by decide +kernel, by decide +kernel⟩⟩, tbm 370 (by decide +kernel) (by decide +kernel)⟩
set_option maxRecDepth 100000 in
theorem ysJ6_bitCount_0f7a4 : YS yJ6_bitCount_0f7a4 cJ6_bitCount_0f7a4 1 (some .int) 1 := ⟨⟨tbm 374 rfl rfl, tbm 55 rfl (by decide +kernel), ⟨by decide +kernel, by decide +kernel, by decide +kernel⟩⟩, tbm 373 (by decide +kernel) (by decide +kernel)⟩
set_option maxRecDepth 100000 in
theorem yvX1_floor : YV yX1_floor cX1_floor 3 (some .int) 1 := ⟨⟨tbm 381 rfl rfl, tbm 46 rfl (by decide +kernel), ⟨by decide +kernel, by decide +kernel, by decide +kernel⟩⟩, tbm 379 (by decide +kernel) (by decide +kernel), tbm 380 (by decide +kernel) (by decide +kernel)⟩
set_option maxRecDepth 100000 in
theorem yvX1_lays : YV yX1_lays cX1_lays 1 (some .int) 0 := ⟨⟨tbm 385 rfl rfl, tbm 46 rfl (by decide +kernel), ⟨by decide +kernel, by decide +kernel, by decide +kernel⟩⟩, tbm 383 (by decide +kernel) (by decide +kernel), tbm 384 (by decide +kernel) (by decide +kernel)⟩
set_option maxRecDepth 100000 in
theorem yvX0_countOnFloor : YV yX0_countOnFloor cX0_countOnFloor 3 (some .int) 0 := ⟨⟨tbm 389 rfl rfl, tbm 47 rfl (by decide +kernel), ⟨by decide +kernel, by decide +kernel, by decide +kernel⟩⟩, tbm 387 (by decide +kernel) (by decide +kernel), tbm 388 (by decide +kernel) (by decide +kernel)⟩
set_option maxRecDepth 100000 in
theorem yvX1_setsUp : YV yX1_setsUp cX1_setsUp 3 (some .int) 1 := ⟨⟨tbm 393 rfl rfl, tbm 46 rfl (by decide +kernel), ⟨by decide +kernel, by decide +kernel, by decide +kernel⟩⟩, tbm 391 (by decide +kernel) (by decide +kernel), tbm 392 (by decide +kernel) (by decide +kernel)⟩
set_option maxRecDepth 100000 in
theorem yvX1_turn : YV yX1_turn cX1_turn 7 (some .int) 3 := ⟨⟨tbm 397 rfl rfl, tbm 46 rfl (by decide +kernel), ⟨by decide +kernel, by decide +kernel, by decide +kernel⟩⟩, tbm 395 (by decide +kernel) (by decide +kernel), tbm 396 (by decide +kernel) (by decide +kernel)⟩
set_option maxRecDepth 100000 in
theorem yvX1_minutes : YV yX1_minutes cX1_minutes 3 (some .int) 1 := ⟨⟨tbm 402 rfl rfl, tbm 46 rfl (by decide +kernel), ⟨by decide +kernel, by decide +kernel, by decide +kernel⟩⟩, tbm 400 (by decide +kernel) (by decide +kernel), tbm 401 (by decide +kernel) (by decide +kernel)⟩
set_option maxRecDepth 100000 in
theorem yvX0_countStanding : YV yX0_countStanding cX0_countStanding 1 (some .int) 0 := ⟨⟨tbm 406 rfl rfl, tbm 47 rfl (by decide +kernel), ⟨by decide +kernel, by decide +kernel, by decide +kernel⟩⟩, tbm 404 (by decide +kernel) (by decide +kernel), tbm 405 (by decide +kernel) (by decide +kernel)⟩
set_option maxRecDepth 100000 in
theorem yvX1_behind : YV yX1_behind cX1_behind 6 (some .int) 3 := ⟨⟨tbm 411 rfl rfl, tbm 46 rfl (by decide +kernel), ⟨by decide +kernel, by decide +kernel, by decide +kernel⟩⟩, tbm 409 (by decide +kernel) (by decide +kernel), tbm 410 (by decide +kernel) (by decide +kernel)⟩
set_option maxRecDepth 100000 in
theorem yvX1_falls : YV yX1_falls cX1_falls 3 (some .int) 1 := ⟨⟨tbm 415 rfl rfl, tbm 46 rfl (by decide +kernel), ⟨by decide +kernel, by decide +kernel, by decide +kernel⟩⟩, tbm 413 (by decide +kernel) (by decide +kernel), tbm 414 (by decide +kernel) (by decide +kernel)⟩
set_option maxRecDepth 100000 in
theorem yvX1_findFallTimes : YV yX1_findFallTimes cX1_findFallTimes 3 (none) 0 := ⟨⟨tbm 419 rfl rfl, tbm 46 rfl (by decide +kernel), ⟨by decide +kernel, by decide +kernel, by decide +kernel⟩⟩, tbm 418 (by decide +kernel) (by decide +kernel), tbm 14 (by decide +kernel) (by decide +kernel)⟩
set_option maxRecDepth 100000 in
theorem yvX1_first : YV yX1_first cX1_first 4 (some .int) 1 := ⟨⟨tbm 424 rfl rfl, tbm 46 rfl (by decide +kernel), ⟨by decide +kernel, by decide +kernel, by decide +kernel⟩⟩, tbm 422 (by decide +kernel) (by decide +kernel), tbm 423 (by decide +kernel) (by decide +kernel)⟩
set_option maxRecDepth 100000 in
theorem yvX1_firstFaller : YV yX1_firstFaller cX1_firstFaller 5 (some .int) 0 := ⟨⟨tbm 428 rfl rfl, tbm 46 rfl (by decide +kernel), ⟨by decide +kernel, by decide +kernel, by decide +kernel⟩⟩, tbm 427 (by decide +kernel) (by decide +kernel), tbm 15 (by decide +kernel) (by decide +kernel)⟩
set_option maxRecDepth 100000 in
theorem yvX1_allStand : YV yX1_allStand cX1_allStand 2 (some .int) 0 := ⟨⟨tbm 432 rfl rfl, tbm 46 rfl (by decide +kernel), ⟨by decide +kernel, by decide +kernel, by decide +kernel⟩⟩, tbm 430 (by decide +kernel) (by decide +kernel), tbm 431 (by decide +kernel) (by decide +kernel)⟩
set_option maxRecDepth 100000 in
theorem yvX1_tower : YV yX1_tower cX1_tower 4 (some .int) 2 := ⟨⟨tbm 436 rfl rfl, tbm 46 rfl (by decide +kernel), ⟨by decide +kernel, by decide +kernel, by decide +kernel⟩⟩, tbm 434 (by decide +kernel) (by decide +kernel), tbm 435 (by decide +kernel) (by decide +kernel)⟩
set_option maxRecDepth 100000 in
theorem yvX0_heightOf : YV yX0_heightOf cX0_heightOf 5 (some .int) 1 := ⟨⟨tbm 440 rfl rfl, tbm 47 rfl (by decide +kernel), ⟨by decide +kernel, by decide +kernel, by decide +kernel⟩⟩, tbm 438 (by decide +kernel) (by decide +kernel), tbm 439 (by decide +kernel) (by decide +kernel)⟩
set_option maxRecDepth 100000 in
theorem yvX0_allAbove : YV yX0_allAbove cX0_allAbove 6 (some .int) 1 := ⟨⟨tbm 444 rfl rfl, tbm 47 rfl (by decide +kernel), ⟨by decide +kernel, by decide +kernel, by decide +kernel⟩⟩, tbm 442 (by decide +kernel) (by decide +kernel), tbm 443 (by decide +kernel) (by decide +kernel)⟩
set_option maxRecDepth 100000 in
theorem yvX0_bottomOf : YV yX0_bottomOf cX0_bottomOf 4 (some .int) 1 := ⟨⟨tbm 448 rfl rfl, tbm 47 rfl (by decide +kernel), ⟨by decide +kernel, by decide +kernel, by decide +kernel⟩⟩, tbm 446 (by decide +kernel) (by decide +kernel), tbm 447 (by decide +kernel) (by decide +kernel)⟩
set_option maxRecDepth 100000 in
theorem yvX1_leastSpeed : YV yX1_leastSpeed cX1_leastSpeed 4 (some .int) 1 := ⟨⟨tbm 452 rfl rfl, tbm 46 rfl (by decide +kernel), ⟨by decide +kernel, by decide +kernel, by decide +kernel⟩⟩, tbm 450 (by decide +kernel) (by decide +kernel), tbm 451 (by decide +kernel) (by decide +kernel)⟩
set_option maxRecDepth 100000 in
theorem yvX1_atOnce : YV yX1_atOnce cX1_atOnce 4 (some .int) 2 := ⟨⟨tbm 457 rfl rfl, tbm 46 rfl (by decide +kernel), ⟨by decide +kernel, by decide +kernel, by decide +kernel⟩⟩, tbm 455 (by decide +kernel) (by decide +kernel), tbm 456 (by decide +kernel) (by decide +kernel)⟩
set_option maxRecDepth 100000 in
theorem yvX1_later : YV yX1_later cX1_later 9 (some .int) 3 := ⟨⟨tbm 461 rfl rfl, tbm 46 rfl (by decide +kernel), ⟨by decide +kernel, by decide +kernel, by decide +kernel⟩⟩, tbm 459 (by decide +kernel) (by decide +kernel), tbm 460 (by decide +kernel) (by decide +kernel)⟩
set_option maxRecDepth 100000 in
theorem yvX1_pullMost : YV yX1_pullMost cX1_pullMost 11 (some .int) 3 := ⟨⟨tbm 465 rfl rfl, tbm 46 rfl (by decide +kernel), ⟨by decide +kernel, by decide +kernel, by decide +kernel⟩⟩, tbm 463 (by decide +kernel) (by decide +kernel), tbm 464 (by decide +kernel) (by decide +kernel)⟩
set_option maxRecDepth 100000 in
theorem yvX1_standsThough : YV yX1_standsThough cX1_standsThough 5 (some .boolean) 3 := ⟨⟨tbm 469 rfl rfl, tbm 46 rfl (by decide +kernel), ⟨by decide +kernel, by decide +kernel, by decide +kernel⟩⟩, tbm 468 (by decide +kernel) (by decide +kernel), tbm 16 (by decide +kernel) (by decide +kernel)⟩
set_option maxRecDepth 100000 in
theorem yvX1_key : YV yX1_key cX1_key 6 (some .int) 1 := ⟨⟨tbm 473 rfl rfl, tbm 46 rfl (by decide +kernel), ⟨by decide +kernel, by decide +kernel, by decide +kernel⟩⟩, tbm 471 (by decide +kernel) (by decide +kernel), tbm 472 (by decide +kernel) (by decide +kernel)⟩
set_option maxRecDepth 100000 in
theorem yvX1_prop : YV yX1_prop cX1_prop 6 (some .int) 1 := ⟨⟨tbm 477 rfl rfl, tbm 46 rfl (by decide +kernel), ⟨by decide +kernel, by decide +kernel, by decide +kernel⟩⟩, tbm 475 (by decide +kernel) (by decide +kernel), tbm 476 (by decide +kernel) (by decide +kernel)⟩
set_option maxRecDepth 100000 in
theorem yvX1_order : YV yX1_order cX1_order 15 (some .int) 5 := ⟨⟨tbm 481 rfl rfl, tbm 46 rfl (by decide +kernel), ⟨by decide +kernel, by decide +kernel, by decide +kernel⟩⟩, tbm 479 (by decide +kernel) (by decide +kernel), tbm 480 (by decide +kernel) (by decide +kernel)⟩
set_option maxRecDepth 100000 in
theorem yvX1_standingByOrder : YV yX1_standingByOrder cX1_standingByOrder 10 (some .int) 5 := ⟨⟨tbm 487 rfl rfl, tbm 46 rfl (by decide +kernel), ⟨by decide +kernel, by decide +kernel, by decide +kernel⟩⟩, tbm 486 (by decide +kernel) (by decide +kernel), tbm 17 (by decide +kernel) (by decide +kernel)⟩
set_option maxRecDepth 100000 in
theorem yvX1_floorFalls : YV yX1_floorFalls cX1_floorFalls 3 (some .int) 1 := ⟨⟨tbm 491 rfl rfl, tbm 46 rfl (by decide +kernel), ⟨by decide +kernel, by decide +kernel, by decide +kernel⟩⟩, tbm 489 (by decide +kernel) (by decide +kernel), tbm 490 (by decide +kernel) (by decide +kernel)⟩
set_option maxRecDepth 100000 in
theorem yvX1_watched : YV yX1_watched cX1_watched 3 (some .int) 1 := ⟨⟨tbm 495 rfl rfl, tbm 46 rfl (by decide +kernel), ⟨by decide +kernel, by decide +kernel, by decide +kernel⟩⟩, tbm 493 (by decide +kernel) (by decide +kernel), tbm 494 (by decide +kernel) (by decide +kernel)⟩
set_option maxRecDepth 100000 in
theorem yvX0_countWatching : YV yX0_countWatching cX0_countWatching 3 (some .int) 0 := ⟨⟨tbm 499 rfl rfl, tbm 47 rfl (by decide +kernel), ⟨by decide +kernel, by decide +kernel, by decide +kernel⟩⟩, tbm 497 (by decide +kernel) (by decide +kernel), tbm 498 (by decide +kernel) (by decide +kernel)⟩
set_option maxRecDepth 100000 in
theorem yvX0_isSure : YV yX0_isSure cX0_isSure 2 (some .boolean) 0 := ⟨⟨tbm 503 rfl rfl, tbm 47 rfl (by decide +kernel), ⟨by decide +kernel, by decide +kernel, by decide +kernel⟩⟩, tbm 501 (by decide +kernel) (by decide +kernel), tbm 502 (by decide +kernel) (by decide +kernel)⟩
set_option maxRecDepth 100000 in
theorem yvX1_rebuild : YV yX1_rebuild cX1_rebuild 6 (some .int) 1 := ⟨⟨tbm 507 rfl rfl, tbm 46 rfl (by decide +kernel), ⟨by decide +kernel, by decide +kernel, by decide +kernel⟩⟩, tbm 505 (by decide +kernel) (by decide +kernel), tbm 506 (by decide +kernel) (by decide +kernel)⟩
set_option maxRecDepth 100000 in
theorem yvX0_firstToSetUp : YV yX0_firstToSetUp cX0_firstToSetUp 2 (some .int) 0 := ⟨⟨tbm 511 rfl rfl, tbm 47 rfl (by decide +kernel), ⟨by decide +kernel, by decide +kernel, by decide +kernel⟩⟩, tbm 509 (by decide +kernel) (by decide +kernel), tbm 510 (by decide +kernel) (by decide +kernel)⟩
set_option maxRecDepth 100000 in
theorem yvX1_draught : YV yX1_draught cX1_draught 15 (some .long) 4 := ⟨⟨tbm 515 rfl rfl, tbm 46 rfl (by decide +kernel), ⟨by decide +kernel, by decide +kernel, by decide +kernel⟩⟩, tbm 513 (by decide +kernel) (by decide +kernel), tbm 514 (by decide +kernel) (by decide +kernel)⟩
set_option maxRecDepth 100000 in
theorem ysX1_power : YS yX1_power cX1_power 5 (some .long) 2 := ⟨⟨tbm 519 rfl rfl, tbm 46 rfl (by decide +kernel), ⟨by decide +kernel, by decide +kernel, by decide +kernel⟩⟩, tbm 518 (by decide +kernel) (by decide +kernel)⟩
set_option maxRecDepth 100000 in
theorem yvX1_standsInDraughts : YV yX1_standsInDraughts cX1_standsInDraughts 5 (some .boolean) 3 := ⟨⟨tbm 523 rfl rfl, tbm 46 rfl (by decide +kernel), ⟨by decide +kernel, by decide +kernel, by decide +kernel⟩⟩, tbm 522 (by decide +kernel) (by decide +kernel), tbm 18 (by decide +kernel) (by decide +kernel)⟩
set_option maxRecDepth 100000 in
theorem ysX1_greatestCommon : YS yX1_greatestCommon cX1_greatestCommon 11 (some .long) 2 := ⟨⟨tbm 526 rfl rfl, tbm 46 rfl (by decide +kernel), ⟨by decide +kernel, by decide +kernel, by decide +kernel⟩⟩, tbm 525 (by decide +kernel) (by decide +kernel)⟩
set_option maxRecDepth 100000 in
theorem yvX1_two : YV yX1_two cX1_two 10 (some .int) 3 := ⟨⟨tbm 530 rfl rfl, tbm 46 rfl (by decide +kernel), ⟨by decide +kernel, by decide +kernel, by decide +kernel⟩⟩, tbm 528 (by decide +kernel) (by decide +kernel), tbm 529 (by decide +kernel) (by decide +kernel)⟩
set_option maxRecDepth 100000 in
theorem yvX1_standingByTwo : YV yX1_standingByTwo cX1_standingByTwo 4 (some .int) 3 := ⟨⟨tbm 534 rfl rfl, tbm 46 rfl (by decide +kernel), ⟨by decide +kernel, by decide +kernel, by decide +kernel⟩⟩, tbm 533 (by decide +kernel) (by decide +kernel), tbm 19 (by decide +kernel) (by decide +kernel)⟩
set_option maxRecDepth 100000 in
theorem ysX1_keepsBoth : YS yX1_keepsBoth cX1_keepsBoth 3 (some .boolean) 3 := ⟨⟨tbm 537 rfl rfl, tbm 46 rfl (by decide +kernel), ⟨by decide +kernel, by decide +kernel, by decide +kernel⟩⟩, tbm 536 (by decide +kernel) (by decide +kernel)⟩
set_option maxRecDepth 100000 in
theorem yvX1_whatWas : YV yX1_whatWas cX1_whatWas 5 (some .int) 2 := ⟨⟨tbm 541 rfl rfl, tbm 46 rfl (by decide +kernel), ⟨by decide +kernel, by decide +kernel, by decide +kernel⟩⟩, tbm 539 (by decide +kernel) (by decide +kernel), tbm 540 (by decide +kernel) (by decide +kernel)⟩
set_option maxRecDepth 100000 in
theorem yvX1_kindsByRow : YV yX1_kindsByRow cX1_kindsByRow 4 (some .int) 1 := ⟨⟨tbm 545 rfl rfl, tbm 46 rfl (by decide +kernel), ⟨by decide +kernel, by decide +kernel, by decide +kernel⟩⟩, tbm 544 (by decide +kernel) (by decide +kernel), tbm 20 (by decide +kernel) (by decide +kernel)⟩
set_option maxRecDepth 100000 in
theorem yvX1_rowIsSoWith : YV yX1_rowIsSoWith cX1_rowIsSoWith 6 (some .boolean) 3 := ⟨⟨tbm 549 rfl rfl, tbm 46 rfl (by decide +kernel), ⟨by decide +kernel, by decide +kernel, by decide +kernel⟩⟩, tbm 548 (by decide +kernel) (by decide +kernel), tbm 21 (by decide +kernel) (by decide +kernel)⟩
set_option maxRecDepth 100000 in
theorem yvX1_figuresByRow : YV yX1_figuresByRow cX1_figuresByRow 4 (some .int) 1 := ⟨⟨tbm 553 rfl rfl, tbm 46 rfl (by decide +kernel), ⟨by decide +kernel, by decide +kernel, by decide +kernel⟩⟩, tbm 552 (by decide +kernel) (by decide +kernel), tbm 22 (by decide +kernel) (by decide +kernel)⟩
set_option maxRecDepth 100000 in
theorem yvX1_row : YV yX1_row cX1_row 3 (some .int) 1 := ⟨⟨tbm 557 rfl rfl, tbm 46 rfl (by decide +kernel), ⟨by decide +kernel, by decide +kernel, by decide +kernel⟩⟩, tbm 555 (by decide +kernel) (by decide +kernel), tbm 556 (by decide +kernel) (by decide +kernel)⟩
set_option maxRecDepth 100000 in
theorem yvX1_judge : YV yX1_judge cX1_judge 2 (some .int) 0 := ⟨⟨tbm 561 rfl rfl, tbm 46 rfl (by decide +kernel), ⟨by decide +kernel, by decide +kernel, by decide +kernel⟩⟩, tbm 559 (by decide +kernel) (by decide +kernel), tbm 560 (by decide +kernel) (by decide +kernel)⟩
set_option maxRecDepth 100000 in
theorem yvX1_firstNotSo : YV yX1_firstNotSo cX1_firstNotSo 2 (some .int) 0 := ⟨⟨tbm 565 rfl rfl, tbm 46 rfl (by decide +kernel), ⟨by decide +kernel, by decide +kernel, by decide +kernel⟩⟩, tbm 564 (by decide +kernel) (by decide +kernel), tbm 23 (by decide +kernel) (by decide +kernel)⟩
set_option maxRecDepth 100000 in
theorem yvX1_clear : YV yX1_clear cX1_clear 2 (some .int) 0 := ⟨⟨tbm 569 rfl rfl, tbm 46 rfl (by decide +kernel), ⟨by decide +kernel, by decide +kernel, by decide +kernel⟩⟩, tbm 567 (by decide +kernel) (by decide +kernel), tbm 568 (by decide +kernel) (by decide +kernel)⟩
set_option maxRecDepth 100000 in
theorem yvX1_lots : YV yX1_lots cX1_lots 8 (some .int) 3 := ⟨⟨tbm 573 rfl rfl, tbm 46 rfl (by decide +kernel), ⟨by decide +kernel, by decide +kernel, by decide +kernel⟩⟩, tbm 571 (by decide +kernel) (by decide +kernel), tbm 572 (by decide +kernel) (by decide +kernel)⟩
set_option maxRecDepth 100000 in
theorem yvX1_playLots : YV yX1_playLots cX1_playLots 4 (none) 0 := ⟨⟨tbm 577 rfl rfl, tbm 46 rfl (by decide +kernel), ⟨by decide +kernel, by decide +kernel, by decide +kernel⟩⟩, tbm 576 (by decide +kernel) (by decide +kernel), tbm 24 (by decide +kernel) (by decide +kernel)⟩
set_option maxRecDepth 100000 in
theorem yvX1_drawBelow : YV yX1_drawBelow cX1_drawBelow 2 (some .int) 1 := ⟨⟨tbm 581 rfl rfl, tbm 46 rfl (by decide +kernel), ⟨by decide +kernel, by decide +kernel, by decide +kernel⟩⟩, tbm 580 (by decide +kernel) (by decide +kernel), tbm 25 (by decide +kernel) (by decide +kernel)⟩
set_option maxRecDepth 100000 in
theorem yvX1_image : YV yX1_image cX1_image 1 (some .int) 0 := ⟨⟨tbm 588 rfl rfl, tbm 46 rfl (by decide +kernel), ⟨by decide +kernel, by decide +kernel, by decide +kernel⟩⟩, tbm 586 (by decide +kernel) (by decide +kernel), tbm 587 (by decide +kernel) (by decide +kernel)⟩
set_option maxRecDepth 100000 in
theorem yvX1_on : YV yX1_on cX1_on 1 (some .int) 0 := ⟨⟨tbm 592 rfl rfl, tbm 46 rfl (by decide +kernel), ⟨by decide +kernel, by decide +kernel, by decide +kernel⟩⟩, tbm 590 (by decide +kernel) (by decide +kernel), tbm 591 (by decide +kernel) (by decide +kernel)⟩
set_option maxRecDepth 100000 in
theorem yvX1_count : YV yX1_count cX1_count 2 (some .int) 1 := ⟨⟨tbm 596 rfl rfl, tbm 46 rfl (by decide +kernel), ⟨by decide +kernel, by decide +kernel, by decide +kernel⟩⟩, tbm 594 (by decide +kernel) (by decide +kernel), tbm 595 (by decide +kernel) (by decide +kernel)⟩
set_option maxRecDepth 100000 in
theorem yvX0_allGone : YV yX0_allGone cX0_allGone 1 (some .int) 0 := ⟨⟨tbm 600 rfl rfl, tbm 47 rfl (by decide +kernel), ⟨by decide +kernel, by decide +kernel, by decide +kernel⟩⟩, tbm 598 (by decide +kernel) (by decide +kernel), tbm 599 (by decide +kernel) (by decide +kernel)⟩
-- other: yX2_init
set_option maxRecDepth 100000 in
theorem yvX2_letter : YV yX2_letter cX2_letter 2 (some .int) 1 := ⟨⟨tbm 650 rfl rfl, tbm 48 rfl (by decide +kernel), ⟨by decide +kernel, by decide +kernel, by decide +kernel⟩⟩, tbm 648 (by decide +kernel) (by decide +kernel), tbm 649 (by decide +kernel) (by decide +kernel)⟩
set_option maxRecDepth 100000 in
theorem yvX2_no : YV yX2_no cX2_no 2 (some .int) 1 := ⟨⟨tbm 654 rfl rfl, tbm 48 rfl (by decide +kernel), ⟨by decide +kernel, by decide +kernel, by decide +kernel⟩⟩, tbm 653 (by decide +kernel) (by decide +kernel), tbm 26 (by decide +kernel) (by decide +kernel)⟩
set_option maxRecDepth 100000 in
theorem yvX2_room : YV yX2_room cX2_room 6 (some .int) 0 := ⟨⟨tbm 658 rfl rfl, tbm 48 rfl (by decide +kernel), ⟨by decide +kernel, by decide +kernel, by decide +kernel⟩⟩, tbm 656 (by decide +kernel) (by decide +kernel), tbm 657 (by decide +kernel) (by decide +kernel)⟩
set_option maxRecDepth 100000 in
theorem yvX2_readsStatement : YV yX2_readsStatement cX2_readsStatement 3 (some .boolean) 0 := ⟨⟨tbm 662 rfl rfl, tbm 48 rfl (by decide +kernel), ⟨by decide +kernel, by decide +kernel, by decide +kernel⟩⟩, tbm 661 (by decide +kernel) (by decide +kernel), tbm 27 (by decide +kernel) (by decide +kernel)⟩
set_option maxRecDepth 100000 in
theorem yvX2_here : YV yX2_here cX2_here 1 (some .int) 0 := ⟨⟨tbm 666 rfl rfl, tbm 48 rfl (by decide +kernel), ⟨by decide +kernel, by decide +kernel, by decide +kernel⟩⟩, tbm 665 (by decide +kernel) (by decide +kernel), tbm 28 (by decide +kernel) (by decide +kernel)⟩
set_option maxRecDepth 100000 in
theorem yvX2_readsKind : YV yX2_readsKind cX2_readsKind 1 (some .boolean) 0 := ⟨⟨tbm 670 rfl rfl, tbm 48 rfl (by decide +kernel), ⟨by decide +kernel, by decide +kernel, by decide +kernel⟩⟩, tbm 669 (by decide +kernel) (by decide +kernel), tbm 29 (by decide +kernel) (by decide +kernel)⟩
set_option maxRecDepth 100000 in
theorem ysX2_kindBy : YS yX2_kindBy cX2_kindBy 1 (some .int) 1 := ⟨⟨tbm 673 rfl rfl, tbm 48 rfl (by decide +kernel), ⟨by decide +kernel, by decide +kernel, by decide +kernel⟩⟩, tbm 672 (by decide +kernel) (by decide +kernel)⟩
set_option maxRecDepth 100000 in
theorem yvX2_readsNumber : YV yX2_readsNumber cX2_readsNumber 4 (some .boolean) 2 := ⟨⟨tbm 677 rfl rfl, tbm 48 rfl (by decide +kernel), ⟨by decide +kernel, by decide +kernel, by decide +kernel⟩⟩, tbm 676 (by decide +kernel) (by decide +kernel), tbm 30 (by decide +kernel) (by decide +kernel)⟩
set_option maxRecDepth 100000 in
theorem ysX2_isIn : YS yX2_isIn cX2_isIn 3 (some .boolean) 3 := ⟨⟨tbm 680 rfl rfl, tbm 48 rfl (by decide +kernel), ⟨by decide +kernel, by decide +kernel, by decide +kernel⟩⟩, tbm 679 (by decide +kernel) (by decide +kernel)⟩
set_option maxRecDepth 100000 in
theorem ysX2_copies : YS yX2_copies cX2_copies 3 (none) 2 := ⟨⟨tbm 683 rfl rfl, tbm 48 rfl (by decide +kernel), ⟨by decide +kernel, by decide +kernel, by decide +kernel⟩⟩, tbm 682 (by decide +kernel) (by decide +kernel)⟩
set_option maxRecDepth 100000 in
theorem yvX2_isDone : YV yX2_isDone cX2_isDone 4 (some .boolean) 1 := ⟨⟨tbm 687 rfl rfl, tbm 48 rfl (by decide +kernel), ⟨by decide +kernel, by decide +kernel, by decide +kernel⟩⟩, tbm 686 (by decide +kernel) (by decide +kernel), tbm 31 (by decide +kernel) (by decide +kernel)⟩
set_option maxRecDepth 100000 in
theorem yvX2_adds : YV yX2_adds cX2_adds 6 (some .boolean) 3 := ⟨⟨tbm 691 rfl rfl, tbm 48 rfl (by decide +kernel), ⟨by decide +kernel, by decide +kernel, by decide +kernel⟩⟩, tbm 690 (by decide +kernel) (by decide +kernel), tbm 32 (by decide +kernel) (by decide +kernel)⟩
set_option maxRecDepth 100000 in
theorem yvX2_isThing : YV yX2_isThing cX2_isThing 2 (some .boolean) 1 := ⟨⟨tbm 695 rfl rfl, tbm 48 rfl (by decide +kernel), ⟨by decide +kernel, by decide +kernel, by decide +kernel⟩⟩, tbm 694 (by decide +kernel) (by decide +kernel), tbm 33 (by decide +kernel) (by decide +kernel)⟩
set_option maxRecDepth 100000 in
theorem ysX2_stands : YS yX2_stands cX2_stands 2 (some .boolean) 2 := ⟨⟨tbm 698 rfl rfl, tbm 48 rfl (by decide +kernel), ⟨by decide +kernel, by decide +kernel, by decide +kernel⟩⟩, tbm 697 (by decide +kernel) (by decide +kernel)⟩
set_option maxRecDepth 100000 in
theorem ysX2_of : YS yX2_of cX2_of 2 (some .int) 2 := ⟨⟨tbm 701 rfl rfl, tbm 48 rfl (by decide +kernel), ⟨by decide +kernel, by decide +kernel, by decide +kernel⟩⟩, tbm 700 (by decide +kernel) (by decide +kernel)⟩
set_option maxRecDepth 100000 in
theorem ysX2_pullsIn : YS yX2_pullsIn cX2_pullsIn 5 (some .int) 3 := ⟨⟨tbm 704 rfl rfl, tbm 48 rfl (by decide +kernel), ⟨by decide +kernel, by decide +kernel, by decide +kernel⟩⟩, tbm 703 (by decide +kernel) (by decide +kernel)⟩
set_option maxRecDepth 100000 in
theorem ysX2_shaken : YS yX2_shaken cX2_shaken 5 (some .int) 3 := ⟨⟨tbm 707 rfl rfl, tbm 48 rfl (by decide +kernel), ⟨by decide +kernel, by decide +kernel, by decide +kernel⟩⟩, tbm 706 (by decide +kernel) (by decide +kernel)⟩
set_option maxRecDepth 100000 in
theorem ysX2_grip : YS yX2_grip cX2_grip 3 (some .int) 2 := ⟨⟨tbm 710 rfl rfl, tbm 48 rfl (by decide +kernel), ⟨by decide +kernel, by decide +kernel, by decide +kernel⟩⟩, tbm 709 (by decide +kernel) (by decide +kernel)⟩
set_option maxRecDepth 100000 in
theorem ysX2_has : YS yX2_has cX2_has 2 (some .boolean) 2 := ⟨⟨tbm 713 rfl rfl, tbm 48 rfl (by decide +kernel), ⟨by decide +kernel, by decide +kernel, by decide +kernel⟩⟩, tbm 712 (by decide +kernel) (by decide +kernel)⟩
set_option maxRecDepth 100000 in
theorem ysX2_bits : YS yX2_bits cX2_bits 3 (some .int) 1 := ⟨⟨tbm 716 rfl rfl, tbm 48 rfl (by decide +kernel), ⟨by decide +kernel, by decide +kernel, by decide +kernel⟩⟩, tbm 715 (by decide +kernel) (by decide +kernel)⟩
set_option maxRecDepth 100000 in
theorem ysX2_minutesOn : YS yX2_minutesOn cX2_minutesOn 3 (none) 2 := ⟨⟨tbm 719 rfl rfl, tbm 48 rfl (by decide +kernel), ⟨by decide +kernel, by decide +kernel, by decide +kernel⟩⟩, tbm 718 (by decide +kernel) (by decide +kernel)⟩
set_option maxRecDepth 100000 in
theorem ysX2_minute : YS yX2_minute cX2_minute 5 (none) 2 := ⟨⟨tbm 722 rfl rfl, tbm 48 rfl (by decide +kernel), ⟨by decide +kernel, by decide +kernel, by decide +kernel⟩⟩, tbm 721 (by decide +kernel) (by decide +kernel)⟩
set_option maxRecDepth 100000 in
theorem ysX2_isHeld : YS yX2_isHeld cX2_isHeld 3 (some .boolean) 2 := ⟨⟨tbm 725 rfl rfl, tbm 48 rfl (by decide +kernel), ⟨by decide +kernel, by decide +kernel, by decide +kernel⟩⟩, tbm 724 (by decide +kernel) (by decide +kernel)⟩
set_option maxRecDepth 100000 in
theorem ysX2_setOf : YS yX2_setOf cX2_setOf 4 (some .int) 2 := ⟨⟨tbm 728 rfl rfl, tbm 48 rfl (by decide +kernel), ⟨by decide +kernel, by decide +kernel, by decide +kernel⟩⟩, tbm 727 (by decide +kernel) (by decide +kernel)⟩
set_option maxRecDepth 100000 in
theorem ysX2_habit : YS yX2_habit cX2_habit 4 (some .int) 3 := ⟨⟨tbm 731 rfl rfl, tbm 48 rfl (by decide +kernel), ⟨by decide +kernel, by decide +kernel, by decide +kernel⟩⟩, tbm 730 (by decide +kernel) (by decide +kernel)⟩
set_option maxRecDepth 100000 in
theorem ysX2_most : YS yX2_most cX2_most 2 (some .int) 2 := ⟨⟨tbm 734 rfl rfl, tbm 48 rfl (by decide +kernel), ⟨by decide +kernel, by decide +kernel, by decide +kernel⟩⟩, tbm 733 (by decide +kernel) (by decide +kernel)⟩
set_option maxRecDepth 100000 in
theorem yvX2_thing : YV yX2_thing cX2_thing 3 (some .int) 2 := ⟨⟨tbm 738 rfl rfl, tbm 48 rfl (by decide +kernel), ⟨by decide +kernel, by decide +kernel, by decide +kernel⟩⟩, tbm 736 (by decide +kernel) (by decide +kernel), tbm 737 (by decide +kernel) (by decide +kernel)⟩
set_option maxRecDepth 100000 in
theorem yvX2_pulls : YV yX2_pulls cX2_pulls 4 (some .int) 2 := ⟨⟨tbm 742 rfl rfl, tbm 48 rfl (by decide +kernel), ⟨by decide +kernel, by decide +kernel, by decide +kernel⟩⟩, tbm 740 (by decide +kernel) (by decide +kernel), tbm 741 (by decide +kernel) (by decide +kernel)⟩
set_option maxRecDepth 100000 in
theorem yvX2_wrongPull : YV yX2_wrongPull cX2_wrongPull 4 (some .int) 2 := ⟨⟨tbm 746 rfl rfl, tbm 48 rfl (by decide +kernel), ⟨by decide +kernel, by decide +kernel, by decide +kernel⟩⟩, tbm 745 (by decide +kernel) (by decide +kernel), tbm 34 (by decide +kernel) (by decide +kernel)⟩
set_option maxRecDepth 100000 in
theorem ysX2_wrongBy : YS yX2_wrongBy cX2_wrongBy 2 (some .int) 2 := ⟨⟨tbm 749 rfl rfl, tbm 48 rfl (by decide +kernel), ⟨by decide +kernel, by decide +kernel, by decide +kernel⟩⟩, tbm 748 (by decide +kernel) (by decide +kernel)⟩
set_option maxRecDepth 100000 in
theorem yvX2_floor : YV yX2_floor cX2_floor 3 (some .int) 1 := ⟨⟨tbm 753 rfl rfl, tbm 48 rfl (by decide +kernel), ⟨by decide +kernel, by decide +kernel, by decide +kernel⟩⟩, tbm 751 (by decide +kernel) (by decide +kernel), tbm 752 (by decide +kernel) (by decide +kernel)⟩
set_option maxRecDepth 100000 in
theorem yvX2_lays : YV yX2_lays cX2_lays 3 (some .int) 0 := ⟨⟨tbm 757 rfl rfl, tbm 48 rfl (by decide +kernel), ⟨by decide +kernel, by decide +kernel, by decide +kernel⟩⟩, tbm 755 (by decide +kernel) (by decide +kernel), tbm 756 (by decide +kernel) (by decide +kernel)⟩
set_option maxRecDepth 100000 in
theorem yvX2_setsUp : YV yX2_setsUp cX2_setsUp 2 (some .int) 1 := ⟨⟨tbm 761 rfl rfl, tbm 48 rfl (by decide +kernel), ⟨by decide +kernel, by decide +kernel, by decide +kernel⟩⟩, tbm 759 (by decide +kernel) (by decide +kernel), tbm 760 (by decide +kernel) (by decide +kernel)⟩
set_option maxRecDepth 100000 in
theorem yvX2_turn : YV yX2_turn cX2_turn 6 (some .int) 3 := ⟨⟨tbm 765 rfl rfl, tbm 48 rfl (by decide +kernel), ⟨by decide +kernel, by decide +kernel, by decide +kernel⟩⟩, tbm 763 (by decide +kernel) (by decide +kernel), tbm 764 (by decide +kernel) (by decide +kernel)⟩
set_option maxRecDepth 100000 in
theorem yvX2_minutes : YV yX2_minutes cX2_minutes 2 (some .int) 1 := ⟨⟨tbm 769 rfl rfl, tbm 48 rfl (by decide +kernel), ⟨by decide +kernel, by decide +kernel, by decide +kernel⟩⟩, tbm 767 (by decide +kernel) (by decide +kernel), tbm 768 (by decide +kernel) (by decide +kernel)⟩
set_option maxRecDepth 100000 in
theorem yvX2_behind : YV yX2_behind cX2_behind 5 (some .int) 3 := ⟨⟨tbm 773 rfl rfl, tbm 48 rfl (by decide +kernel), ⟨by decide +kernel, by decide +kernel, by decide +kernel⟩⟩, tbm 771 (by decide +kernel) (by decide +kernel), tbm 772 (by decide +kernel) (by decide +kernel)⟩
set_option maxRecDepth 100000 in
theorem yvX2_takes : YV yX2_takes cX2_takes 2 (none) 1 := ⟨⟨tbm 777 rfl rfl, tbm 48 rfl (by decide +kernel), ⟨by decide +kernel, by decide +kernel, by decide +kernel⟩⟩, tbm 776 (by decide +kernel) (by decide +kernel), tbm 35 (by decide +kernel) (by decide +kernel)⟩
set_option maxRecDepth 100000 in
theorem yvX2_standingIn : YV yX2_standingIn cX2_standingIn 1 (some .int) 0 := ⟨⟨tbm 781 rfl rfl, tbm 48 rfl (by decide +kernel), ⟨by decide +kernel, by decide +kernel, by decide +kernel⟩⟩, tbm 780 (by decide +kernel) (by decide +kernel), tbm 36 (by decide +kernel) (by decide +kernel)⟩
set_option maxRecDepth 100000 in
theorem yvX2_falls : YV yX2_falls cX2_falls 2 (some .int) 1 := ⟨⟨tbm 785 rfl rfl, tbm 48 rfl (by decide +kernel), ⟨by decide +kernel, by decide +kernel, by decide +kernel⟩⟩, tbm 783 (by decide +kernel) (by decide +kernel), tbm 784 (by decide +kernel) (by decide +kernel)⟩
set_option maxRecDepth 100000 in
theorem yvX2_fallsOf : YV yX2_fallsOf cX2_fallsOf 2 (some .int) 1 := ⟨⟨tbm 789 rfl rfl, tbm 48 rfl (by decide +kernel), ⟨by decide +kernel, by decide +kernel, by decide +kernel⟩⟩, tbm 788 (by decide +kernel) (by decide +kernel), tbm 37 (by decide +kernel) (by decide +kernel)⟩
set_option maxRecDepth 100000 in
theorem yvX2_fallsIn : YV yX2_fallsIn cX2_fallsIn 3 (some .int) 1 := ⟨⟨tbm 793 rfl rfl, tbm 48 rfl (by decide +kernel), ⟨by decide +kernel, by decide +kernel, by decide +kernel⟩⟩, tbm 792 (by decide +kernel) (by decide +kernel), tbm 38 (by decide +kernel) (by decide +kernel)⟩
set_option maxRecDepth 100000 in
theorem yvX2_first : YV yX2_first cX2_first 6 (some .int) 1 := ⟨⟨tbm 797 rfl rfl, tbm 48 rfl (by decide +kernel), ⟨by decide +kernel, by decide +kernel, by decide +kernel⟩⟩, tbm 795 (by decide +kernel) (by decide +kernel), tbm 796 (by decide +kernel) (by decide +kernel)⟩
set_option maxRecDepth 100000 in
theorem yvX2_allStand : YV yX2_allStand cX2_allStand 3 (some .int) 0 := ⟨⟨tbm 802 rfl rfl, tbm 48 rfl (by decide +kernel), ⟨by decide +kernel, by decide +kernel, by decide +kernel⟩⟩, tbm 800 (by decide +kernel) (by decide +kernel), tbm 801 (by decide +kernel) (by decide +kernel)⟩
set_option maxRecDepth 100000 in
theorem yvX2_tower : YV yX2_tower cX2_tower 7 (some .int) 2 := ⟨⟨tbm 806 rfl rfl, tbm 48 rfl (by decide +kernel), ⟨by decide +kernel, by decide +kernel, by decide +kernel⟩⟩, tbm 804 (by decide +kernel) (by decide +kernel), tbm 805 (by decide +kernel) (by decide +kernel)⟩
set_option maxRecDepth 100000 in
theorem yvX2_isAbove : YV yX2_isAbove cX2_isAbove 4 (some .boolean) 2 := ⟨⟨tbm 810 rfl rfl, tbm 48 rfl (by decide +kernel), ⟨by decide +kernel, by decide +kernel, by decide +kernel⟩⟩, tbm 809 (by decide +kernel) (by decide +kernel), tbm 39 (by decide +kernel) (by decide +kernel)⟩
set_option maxRecDepth 100000 in
theorem yvX2_leastSpeed : YV yX2_leastSpeed cX2_leastSpeed 4 (some .int) 1 := ⟨⟨tbm 814 rfl rfl, tbm 48 rfl (by decide +kernel), ⟨by decide +kernel, by decide +kernel, by decide +kernel⟩⟩, tbm 812 (by decide +kernel) (by decide +kernel), tbm 813 (by decide +kernel) (by decide +kernel)⟩
set_option maxRecDepth 100000 in
theorem yvX2_atOnce : YV yX2_atOnce cX2_atOnce 4 (some .int) 2 := ⟨⟨tbm 818 rfl rfl, tbm 48 rfl (by decide +kernel), ⟨by decide +kernel, by decide +kernel, by decide +kernel⟩⟩, tbm 816 (by decide +kernel) (by decide +kernel), tbm 817 (by decide +kernel) (by decide +kernel)⟩
set_option maxRecDepth 100000 in
theorem yvX2_later : YV yX2_later cX2_later 8 (some .int) 3 := ⟨⟨tbm 822 rfl rfl, tbm 48 rfl (by decide +kernel), ⟨by decide +kernel, by decide +kernel, by decide +kernel⟩⟩, tbm 820 (by decide +kernel) (by decide +kernel), tbm 821 (by decide +kernel) (by decide +kernel)⟩
set_option maxRecDepth 100000 in
theorem yvX2_pullMost : YV yX2_pullMost cX2_pullMost 7 (some .int) 3 := ⟨⟨tbm 826 rfl rfl, tbm 48 rfl (by decide +kernel), ⟨by decide +kernel, by decide +kernel, by decide +kernel⟩⟩, tbm 824 (by decide +kernel) (by decide +kernel), tbm 825 (by decide +kernel) (by decide +kernel)⟩
set_option maxRecDepth 100000 in
theorem yvX2_pullsSet : YV yX2_pullsSet cX2_pullsSet 4 (some .boolean) 1 := ⟨⟨tbm 830 rfl rfl, tbm 48 rfl (by decide +kernel), ⟨by decide +kernel, by decide +kernel, by decide +kernel⟩⟩, tbm 829 (by decide +kernel) (by decide +kernel), tbm 40 (by decide +kernel) (by decide +kernel)⟩
set_option maxRecDepth 100000 in
theorem yvX2_key : YV yX2_key cX2_key 6 (some .int) 1 := ⟨⟨tbm 834 rfl rfl, tbm 48 rfl (by decide +kernel), ⟨by decide +kernel, by decide +kernel, by decide +kernel⟩⟩, tbm 832 (by decide +kernel) (by decide +kernel), tbm 833 (by decide +kernel) (by decide +kernel)⟩
set_option maxRecDepth 100000 in
theorem yvX2_prop : YV yX2_prop cX2_prop 6 (some .int) 1 := ⟨⟨tbm 838 rfl rfl, tbm 48 rfl (by decide +kernel), ⟨by decide +kernel, by decide +kernel, by decide +kernel⟩⟩, tbm 836 (by decide +kernel) (by decide +kernel), tbm 837 (by decide +kernel) (by decide +kernel)⟩
set_option maxRecDepth 100000 in
theorem yvX2_order : YV yX2_order cX2_order 13 (some .int) 5 := ⟨⟨tbm 842 rfl rfl, tbm 48 rfl (by decide +kernel), ⟨by decide +kernel, by decide +kernel, by decide +kernel⟩⟩, tbm 840 (by decide +kernel) (by decide +kernel), tbm 841 (by decide +kernel) (by decide +kernel)⟩
set_option maxRecDepth 100000 in
theorem ysX2_placed : YS yX2_placed cX2_placed 4 (some .int) 4 := ⟨⟨tbm 845 rfl rfl, tbm 48 rfl (by decide +kernel), ⟨by decide +kernel, by decide +kernel, by decide +kernel⟩⟩, tbm 844 (by decide +kernel) (by decide +kernel)⟩
set_option maxRecDepth 100000 in
theorem yvX2_standingBy : YV yX2_standingBy cX2_standingBy 8 (some .int) 4 := ⟨⟨tbm 849 rfl rfl, tbm 48 rfl (by decide +kernel), ⟨by decide +kernel, by decide +kernel, by decide +kernel⟩⟩, tbm 848 (by decide +kernel) (by decide +kernel), tbm 41 (by decide +kernel) (by decide +kernel)⟩
set_option maxRecDepth 100000 in
theorem yvX2_floorFalls : YV yX2_floorFalls cX2_floorFalls 3 (some .int) 1 := ⟨⟨tbm 853 rfl rfl, tbm 48 rfl (by decide +kernel), ⟨by decide +kernel, by decide +kernel, by decide +kernel⟩⟩, tbm 851 (by decide +kernel) (by decide +kernel), tbm 852 (by decide +kernel) (by decide +kernel)⟩
set_option maxRecDepth 100000 in
theorem yvX2_watched : YV yX2_watched cX2_watched 5 (some .int) 1 := ⟨⟨tbm 857 rfl rfl, tbm 48 rfl (by decide +kernel), ⟨by decide +kernel, by decide +kernel, by decide +kernel⟩⟩, tbm 855 (by decide +kernel) (by decide +kernel), tbm 856 (by decide +kernel) (by decide +kernel)⟩
set_option maxRecDepth 100000 in
theorem yvX2_rebuild : YV yX2_rebuild cX2_rebuild 4 (some .int) 1 := ⟨⟨tbm 861 rfl rfl, tbm 48 rfl (by decide +kernel), ⟨by decide +kernel, by decide +kernel, by decide +kernel⟩⟩, tbm 859 (by decide +kernel) (by decide +kernel), tbm 860 (by decide +kernel) (by decide +kernel)⟩
set_option maxRecDepth 100000 in
theorem ysX2_rebuilt : YS yX2_rebuilt cX2_rebuilt 2 (some .int) 1 := ⟨⟨tbm 864 rfl rfl, tbm 48 rfl (by decide +kernel), ⟨by decide +kernel, by decide +kernel, by decide +kernel⟩⟩, tbm 863 (by decide +kernel) (by decide +kernel)⟩
set_option maxRecDepth 100000 in
theorem yvX2_draught : YV yX2_draught cX2_draught 13 (some .long) 4 := ⟨⟨tbm 868 rfl rfl, tbm 48 rfl (by decide +kernel), ⟨by decide +kernel, by decide +kernel, by decide +kernel⟩⟩, tbm 866 (by decide +kernel) (by decide +kernel), tbm 867 (by decide +kernel) (by decide +kernel)⟩
set_option maxRecDepth 100000 in
theorem yvX2_noWide : YV yX2_noWide cX2_noWide 2 (some .long) 1 := ⟨⟨tbm 872 rfl rfl, tbm 48 rfl (by decide +kernel), ⟨by decide +kernel, by decide +kernel, by decide +kernel⟩⟩, tbm 871 (by decide +kernel) (by decide +kernel), tbm 42 (by decide +kernel) (by decide +kernel)⟩
set_option maxRecDepth 100000 in
theorem ysX2_partOf : YS yX2_partOf cX2_partOf 5 (some .long) 3 := ⟨⟨tbm 876 rfl rfl, tbm 48 rfl (by decide +kernel), ⟨by decide +kernel, by decide +kernel, by decide +kernel⟩⟩, tbm 875 (by decide +kernel) (by decide +kernel)⟩
set_option maxRecDepth 100000 in
theorem ysX2_gcd : YS yX2_gcd cX2_gcd 10 (some .long) 2 := ⟨⟨tbm 879 rfl rfl, tbm 48 rfl (by decide +kernel), ⟨by decide +kernel, by decide +kernel, by decide +kernel⟩⟩, tbm 878 (by decide +kernel) (by decide +kernel)⟩
set_option maxRecDepth 100000 in
theorem yvX2_two : YV yX2_two cX2_two 9 (some .int) 3 := ⟨⟨tbm 883 rfl rfl, tbm 48 rfl (by decide +kernel), ⟨by decide +kernel, by decide +kernel, by decide +kernel⟩⟩, tbm 881 (by decide +kernel) (by decide +kernel), tbm 882 (by decide +kernel) (by decide +kernel)⟩
set_option maxRecDepth 100000 in
theorem yvX2_standingPulled : YV yX2_standingPulled cX2_standingPulled 8 (some .int) 5 := ⟨⟨tbm 887 rfl rfl, tbm 48 rfl (by decide +kernel), ⟨by decide +kernel, by decide +kernel, by decide +kernel⟩⟩, tbm 886 (by decide +kernel) (by decide +kernel), tbm 43 (by decide +kernel) (by decide +kernel)⟩
set_option maxRecDepth 100000 in
theorem yvX2_whatWas : YV yX2_whatWas cX2_whatWas 9 (some .int) 2 := ⟨⟨tbm 891 rfl rfl, tbm 48 rfl (by decide +kernel), ⟨by decide +kernel, by decide +kernel, by decide +kernel⟩⟩, tbm 889 (by decide +kernel) (by decide +kernel), tbm 890 (by decide +kernel) (by decide +kernel)⟩
set_option maxRecDepth 100000 in
theorem yvX2_row : YV yX2_row cX2_row 3 (some .int) 1 := ⟨⟨tbm 895 rfl rfl, tbm 48 rfl (by decide +kernel), ⟨by decide +kernel, by decide +kernel, by decide +kernel⟩⟩, tbm 893 (by decide +kernel) (by decide +kernel), tbm 894 (by decide +kernel) (by decide +kernel)⟩
set_option maxRecDepth 100000 in
theorem yvX2_judge : YV yX2_judge cX2_judge 3 (some .int) 0 := ⟨⟨tbm 899 rfl rfl, tbm 48 rfl (by decide +kernel), ⟨by decide +kernel, by decide +kernel, by decide +kernel⟩⟩, tbm 897 (by decide +kernel) (by decide +kernel), tbm 898 (by decide +kernel) (by decide +kernel)⟩
set_option maxRecDepth 100000 in
theorem yvX2_clear : YV yX2_clear cX2_clear 2 (some .int) 0 := ⟨⟨tbm 903 rfl rfl, tbm 48 rfl (by decide +kernel), ⟨by decide +kernel, by decide +kernel, by decide +kernel⟩⟩, tbm 901 (by decide +kernel) (by decide +kernel), tbm 902 (by decide +kernel) (by decide +kernel)⟩
set_option maxRecDepth 100000 in
theorem yvX2_lots : YV yX2_lots cX2_lots 10 (some .int) 3 := ⟨⟨tbm 907 rfl rfl, tbm 48 rfl (by decide +kernel), ⟨by decide +kernel, by decide +kernel, by decide +kernel⟩⟩, tbm 905 (by decide +kernel) (by decide +kernel), tbm 906 (by decide +kernel) (by decide +kernel)⟩
set_option maxRecDepth 100000 in
theorem yvX2_drawn : YV yX2_drawn cX2_drawn 2 (some .int) 1 := ⟨⟨tbm 911 rfl rfl, tbm 48 rfl (by decide +kernel), ⟨by decide +kernel, by decide +kernel, by decide +kernel⟩⟩, tbm 910 (by decide +kernel) (by decide +kernel), tbm 44 (by decide +kernel) (by decide +kernel)⟩
set_option maxRecDepth 100000 in
theorem yvX2_image : YV yX2_image cX2_image 1 (some .int) 0 := ⟨⟨tbm 918 rfl rfl, tbm 48 rfl (by decide +kernel), ⟨by decide +kernel, by decide +kernel, by decide +kernel⟩⟩, tbm 916 (by decide +kernel) (by decide +kernel), tbm 917 (by decide +kernel) (by decide +kernel)⟩
set_option maxRecDepth 100000 in
theorem yvX2_on : YV yX2_on cX2_on 1 (some .int) 0 := ⟨⟨tbm 922 rfl rfl, tbm 48 rfl (by decide +kernel), ⟨by decide +kernel, by decide +kernel, by decide +kernel⟩⟩, tbm 920 (by decide +kernel) (by decide +kernel), tbm 921 (by decide +kernel) (by decide +kernel)⟩
set_option maxRecDepth 100000 in
theorem yvX2_count : YV yX2_count cX2_count 2 (some .int) 1 := ⟨⟨tbm 926 rfl rfl, tbm 48 rfl (by decide +kernel), ⟨by decide +kernel, by decide +kernel, by decide +kernel⟩⟩, tbm 924 (by decide +kernel) (by decide +kernel), tbm 925 (by decide +kernel) (by decide +kernel)⟩
-- link PulledFromUnder 1 ('java/lang/Object', '<init>', '()V')
theorem ml_X1_9 : Cond.methodLink RX1 9 yX0_init ∈ TB := tbm 66 (by decide +kernel) (by decide +kernel)
theorem ml_X1_35 : Cond.methodLink RX1 35 yX1_outside ∈ TB := tbm 146 (by decide +kernel) (by decide +kernel)
theorem ml_X1_43 : Cond.methodLink RX1 43 yX1_refuse ∈ TB := tbm 149 (by decide +kernel) (by decide +kernel)
theorem ml_X1_47 : Cond.methodLink RX1 47 yX1_readLetters ∈ TB := tbm 157 (by decide +kernel) (by decide +kernel)
theorem ml_X1_51 : Cond.methodLink RX1 51 yX1_otherThan ∈ TB := tbm 339 (by decide +kernel) (by decide +kernel)
theorem ml_X1_55 : Cond.methodLink RX1 55 yX1_refusalOfThing ∈ TB := tbm 342 (by decide +kernel) (by decide +kernel)
theorem ml_X1_67 : Cond.methodLink RX1 67 yX0_stateOf ∈ TB := tbm 347 (by decide +kernel) (by decide +kernel)
theorem ml_X1_73 : Cond.methodLink RX1 73 yX0_habitOf ∈ TB := tbm 352 (by decide +kernel) (by decide +kernel)
theorem ml_X1_76 : Cond.methodLink RX1 76 yX0_gripOf ∈ TB := tbm 353 (by decide +kernel) (by decide +kernel)
theorem ml_X1_79 : Cond.methodLink RX1 79 yX0_isHeld ∈ TB := tbm 354 (by decide +kernel) (by decide +kernel)
theorem ml_X1_83 : Cond.methodLink RX1 83 yX1_bit ∈ TB := tbm 358 (by decide +kernel) (by decide +kernel)
theorem ml_X1_87 : Cond.methodLink RX1 87 yX1_refusalOfPull ∈ TB := tbm 365 (by decide +kernel) (by decide +kernel)
theorem ml_X1_90 : Cond.methodLink RX1 90 yX0_pullThing ∈ TB := tbm 270 (by decide +kernel) (by decide +kernel)
theorem ml_X1_93 : Cond.methodLink RX1 93 yJ6_bitCount_0f7a4 ∈ TB := tbm 372 (by decide +kernel) (by decide +kernel)
theorem ml_X1_102 : Cond.methodLink RX1 102 yX0_pullFloor ∈ TB := tbm 291 (by decide +kernel) (by decide +kernel)
theorem ml_X1_105 : Cond.methodLink RX1 105 yX0_countOnFloor ∈ TB := tbm 386 (by decide +kernel) (by decide +kernel)
theorem ml_X1_108 : Cond.methodLink RX1 108 yX0_lies ∈ TB := tbm 299 (by decide +kernel) (by decide +kernel)
theorem ml_X1_111 : Cond.methodLink RX1 111 yX0_setUp ∈ TB := tbm 303 (by decide +kernel) (by decide +kernel)
theorem ml_X1_115 : Cond.methodLink RX1 115 yX1_firstOf ∈ TB := tbm 369 (by decide +kernel) (by decide +kernel)
theorem ml_X1_118 : Cond.methodLink RX1 118 yX0_become ∈ TB := tbm 398 (by decide +kernel) (by decide +kernel)
theorem ml_X1_122 : Cond.methodLink RX1 122 yX0_hasTimeFor ∈ TB := tbm 311 (by decide +kernel) (by decide +kernel)
theorem ml_X1_125 : Cond.methodLink RX1 125 yX0_passMinutes ∈ TB := tbm 315 (by decide +kernel) (by decide +kernel)
theorem ml_X1_128 : Cond.methodLink RX1 128 yX0_countStanding ∈ TB := tbm 403 (by decide +kernel) (by decide +kernel)
theorem ml_X1_131 : Cond.methodLink RX1 131 yX0_copyFrom ∈ TB := tbm 231 (by decide +kernel) (by decide +kernel)
theorem ml_X1_135 : Cond.methodLink RX1 135 yX1_findFallTimes ∈ TB := tbm 416 (by decide +kernel) (by decide +kernel)
theorem ml_X1_138 : Cond.methodLink RX1 138 yX1_firstFaller ∈ TB := tbm 425 (by decide +kernel) (by decide +kernel)
theorem ml_X1_141 : Cond.methodLink RX1 141 yX0_heightOf ∈ TB := tbm 437 (by decide +kernel) (by decide +kernel)
theorem ml_X1_144 : Cond.methodLink RX1 144 yX0_allAbove ∈ TB := tbm 441 (by decide +kernel) (by decide +kernel)
theorem ml_X1_147 : Cond.methodLink RX1 147 yX0_bottomOf ∈ TB := tbm 445 (by decide +kernel) (by decide +kernel)
theorem ml_X1_150 : Cond.methodLink RX1 150 yX0_caughtOn ∈ TB := tbm 453 (by decide +kernel) (by decide +kernel)
theorem ml_X1_159 : Cond.methodLink RX1 159 yX1_standsThough ∈ TB := tbm 466 (by decide +kernel) (by decide +kernel)
theorem ml_X1_166 : Cond.methodLink RX1 166 yX0_stands ∈ TB := tbm 262 (by decide +kernel) (by decide +kernel)
theorem ml_X1_169 : Cond.methodLink RX1 169 yX0_isThing ∈ TB := tbm 346 (by decide +kernel) (by decide +kernel)
theorem ml_X1_175 : Cond.methodLink RX1 175 yX1_standingByOrder ∈ TB := tbm 484 (by decide +kernel) (by decide +kernel)
theorem ml_X1_179 : Cond.methodLink RX1 179 yX0_countWatching ∈ TB := tbm 496 (by decide +kernel) (by decide +kernel)
theorem ml_X1_182 : Cond.methodLink RX1 182 yX0_isSure ∈ TB := tbm 500 (by decide +kernel) (by decide +kernel)
theorem ml_X1_186 : Cond.methodLink RX1 186 yX0_firstToSetUp ∈ TB := tbm 508 (by decide +kernel) (by decide +kernel)
theorem ml_X1_191 : Cond.methodLink RX1 191 yX1_power ∈ TB := tbm 517 (by decide +kernel) (by decide +kernel)
theorem ml_X1_195 : Cond.methodLink RX1 195 yX1_standsInDraughts ∈ TB := tbm 520 (by decide +kernel) (by decide +kernel)
theorem ml_X1_198 : Cond.methodLink RX1 198 yX1_greatestCommon ∈ TB := tbm 524 (by decide +kernel) (by decide +kernel)
theorem ml_X1_202 : Cond.methodLink RX1 202 yX1_standingByTwo ∈ TB := tbm 531 (by decide +kernel) (by decide +kernel)
theorem ml_X1_205 : Cond.methodLink RX1 205 yX1_keepsBoth ∈ TB := tbm 535 (by decide +kernel) (by decide +kernel)
theorem ml_X1_211 : Cond.methodLink RX1 211 yX1_kindsByRow ∈ TB := tbm 542 (by decide +kernel) (by decide +kernel)
theorem ml_X1_214 : Cond.methodLink RX1 214 yX1_figuresByRow ∈ TB := tbm 550 (by decide +kernel) (by decide +kernel)
theorem ml_X1_217 : Cond.methodLink RX1 217 yX1_firstNotSo ∈ TB := tbm 562 (by decide +kernel) (by decide +kernel)
theorem ml_X1_223 : Cond.methodLink RX1 223 yX1_playLots ∈ TB := tbm 574 (by decide +kernel) (by decide +kernel)
theorem ml_X1_232 : Cond.methodLink RX1 232 yX0_allGone ∈ TB := tbm 597 (by decide +kernel) (by decide +kernel)
theorem ml_X1_235 : Cond.methodLink RX1 235 yX1_firstWrongLetter ∈ TB := tbm 161 (by decide +kernel) (by decide +kernel)
theorem ml_X1_238 : Cond.methodLink RX1 238 yX1_comesInMind ∈ TB := tbm 238 (by decide +kernel) (by decide +kernel)
theorem ml_X1_241 : Cond.methodLink RX1 241 yX1_shapeBehind ∈ TB := tbm 176 (by decide +kernel) (by decide +kernel)
theorem ml_X1_245 : Cond.methodLink RX1 245 yJ0_length_8abf5 ∈ TB := tbm 166 (by decide +kernel) (by decide +kernel)
theorem ml_X1_252 : Cond.methodLink RX1 252 yJ0_isEmpty_aae02 ∈ TB := tbm 183 (by decide +kernel) (by decide +kernel)
theorem ml_X1_255 : Cond.methodLink RX1 255 yJ0_charAt_5068e ∈ TB := tbm 187 (by decide +kernel) (by decide +kernel)
theorem ml_X1_259 : Cond.methodLink RX1 259 yX1_fits ∈ TB := tbm 225 (by decide +kernel) (by decide +kernel)
theorem ml_X1_271 : Cond.methodLink RX1 271 yX1_kindOf ∈ TB := tbm 228 (by decide +kernel) (by decide +kernel)
theorem ml_X1_274 : Cond.methodLink RX1 274 yX1_letterAt ∈ TB := tbm 242 (by decide +kernel) (by decide +kernel)
theorem ml_X1_277 : Cond.methodLink RX1 277 yX1_digitAt ∈ TB := tbm 246 (by decide +kernel) (by decide +kernel)
theorem ml_X1_280 : Cond.methodLink RX1 280 yX0_addThing ∈ TB := tbm 250 (by decide +kernel) (by decide +kernel)
theorem ml_X1_283 : Cond.methodLink RX1 283 yX1_pullsInMind ∈ TB := tbm 266 (by decide +kernel) (by decide +kernel)
theorem ml_X1_287 : Cond.methodLink RX1 287 yX1_floorInMind ∈ TB := tbm 287 (by decide +kernel) (by decide +kernel)
theorem ml_X1_290 : Cond.methodLink RX1 290 yX1_setsUpInMind ∈ TB := tbm 295 (by decide +kernel) (by decide +kernel)
theorem ml_X1_293 : Cond.methodLink RX1 293 yX1_minutesInMind ∈ TB := tbm 307 (by decide +kernel) (by decide +kernel)
theorem ml_X1_296 : Cond.methodLink RX1 296 yX0_passMinute ∈ TB := tbm 420 (by decide +kernel) (by decide +kernel)
theorem ml_X1_299 : Cond.methodLink RX1 299 yX1_rowIsSoWith ∈ TB := tbm 546 (by decide +kernel) (by decide +kernel)
theorem ml_X1_302 : Cond.methodLink RX1 302 yX1_drawBelow ∈ TB := tbm 578 (by decide +kernel) (by decide +kernel)
-- link PulledFromUnder$Scene 3 ('java/lang/Object', '<init>', '()V')
-- link PulledFromUnder$Scene 41 ('java/lang/System', 'arraycopy', '(Ljava/lang/Object;ILjava/lang/Object;II)V')
theorem ml_X0_47 : Cond.methodLink RX0 47 yX0_stands ∈ TB := tbm 278 (by decide +kernel) (by decide +kernel)
theorem ml_X0_51 : Cond.methodLink RX0 51 yX0_lies ∈ TB := tbm 351 (by decide +kernel) (by decide +kernel)
theorem ml_X0_54 : Cond.methodLink RX0 54 yJ6_bitCount_0f7a4 ∈ TB := tbm 407 (by decide +kernel) (by decide +kernel)
theorem ml_X0_60 : Cond.methodLink RX0 60 yX0_hasGround ∈ TB := tbm 323 (by decide +kernel) (by decide +kernel)
theorem ml_X0_63 : Cond.methodLink RX0 63 yJ9_max_7cf53 ∈ TB := tbm 331 (by decide +kernel) (by decide +kernel)
theorem ml_X0_69 : Cond.methodLink RX0 69 yX0_become ∈ TB := tbm 254 (by decide +kernel) (by decide +kernel)
theorem ml_X0_73 : Cond.methodLink RX0 73 yX0_isThing ∈ TB := tbm 258 (by decide +kernel) (by decide +kernel)
theorem ml_X0_76 : Cond.methodLink RX0 76 yX0_gripOf ∈ TB := tbm 279 (by decide +kernel) (by decide +kernel)
theorem ml_X0_79 : Cond.methodLink RX0 79 yX0_caughtOn ∈ TB := tbm 274 (by decide +kernel) (by decide +kernel)
theorem ml_X0_82 : Cond.methodLink RX0 82 yX0_layDown ∈ TB := tbm 283 (by decide +kernel) (by decide +kernel)
theorem ml_X0_86 : Cond.methodLink RX0 86 yX0_passMinute ∈ TB := tbm 319 (by decide +kernel) (by decide +kernel)
theorem ml_X0_89 : Cond.methodLink RX0 89 yX0_habitOf ∈ TB := tbm 327 (by decide +kernel) (by decide +kernel)
theorem ml_L_9 : Cond.methodLink RL 9 yX1_init ∈ TB := tbm 58 (by decide +kernel) (by decide +kernel)
theorem ml_L_12 : Cond.methodLink RL 12 yX2_init ∈ TB := tbm 603 (by decide +kernel) (by decide +kernel)
theorem ml_L_13 : Cond.methodLink RL 13 yX1_letter ∈ TB := tbm 142 (by decide +kernel) (by decide +kernel)
theorem ml_L_17 : Cond.methodLink RL 17 yX2_letter ∈ TB := tbm 647 (by decide +kernel) (by decide +kernel)
theorem ml_L_18 : Cond.methodLink RL 18 yX1_room ∈ TB := tbm 153 (by decide +kernel) (by decide +kernel)
theorem ml_L_22 : Cond.methodLink RL 22 yX2_room ∈ TB := tbm 655 (by decide +kernel) (by decide +kernel)
theorem ml_L_23 : Cond.methodLink RL 23 yX1_thing ∈ TB := tbm 335 (by decide +kernel) (by decide +kernel)
theorem ml_L_27 : Cond.methodLink RL 27 yX2_thing ∈ TB := tbm 735 (by decide +kernel) (by decide +kernel)
theorem ml_L_28 : Cond.methodLink RL 28 yX1_pulls ∈ TB := tbm 361 (by decide +kernel) (by decide +kernel)
theorem ml_L_31 : Cond.methodLink RL 31 yX2_pulls ∈ TB := tbm 739 (by decide +kernel) (by decide +kernel)
theorem ml_L_32 : Cond.methodLink RL 32 yX1_floor ∈ TB := tbm 378 (by decide +kernel) (by decide +kernel)
theorem ml_L_35 : Cond.methodLink RL 35 yX2_floor ∈ TB := tbm 750 (by decide +kernel) (by decide +kernel)
theorem ml_L_36 : Cond.methodLink RL 36 yX1_lays ∈ TB := tbm 382 (by decide +kernel) (by decide +kernel)
theorem ml_L_39 : Cond.methodLink RL 39 yX2_lays ∈ TB := tbm 754 (by decide +kernel) (by decide +kernel)
theorem ml_L_40 : Cond.methodLink RL 40 yX1_setsUp ∈ TB := tbm 390 (by decide +kernel) (by decide +kernel)
theorem ml_L_43 : Cond.methodLink RL 43 yX2_setsUp ∈ TB := tbm 758 (by decide +kernel) (by decide +kernel)
theorem ml_L_44 : Cond.methodLink RL 44 yX1_turn ∈ TB := tbm 394 (by decide +kernel) (by decide +kernel)
theorem ml_L_48 : Cond.methodLink RL 48 yX2_turn ∈ TB := tbm 762 (by decide +kernel) (by decide +kernel)
theorem ml_L_49 : Cond.methodLink RL 49 yX1_minutes ∈ TB := tbm 399 (by decide +kernel) (by decide +kernel)
theorem ml_L_52 : Cond.methodLink RL 52 yX2_minutes ∈ TB := tbm 766 (by decide +kernel) (by decide +kernel)
theorem ml_L_53 : Cond.methodLink RL 53 yX1_behind ∈ TB := tbm 408 (by decide +kernel) (by decide +kernel)
theorem ml_L_56 : Cond.methodLink RL 56 yX2_behind ∈ TB := tbm 770 (by decide +kernel) (by decide +kernel)
theorem ml_L_57 : Cond.methodLink RL 57 yX1_falls ∈ TB := tbm 412 (by decide +kernel) (by decide +kernel)
theorem ml_L_60 : Cond.methodLink RL 60 yX2_falls ∈ TB := tbm 782 (by decide +kernel) (by decide +kernel)
theorem ml_L_61 : Cond.methodLink RL 61 yX1_first ∈ TB := tbm 421 (by decide +kernel) (by decide +kernel)
theorem ml_L_64 : Cond.methodLink RL 64 yX2_first ∈ TB := tbm 794 (by decide +kernel) (by decide +kernel)
theorem ml_L_65 : Cond.methodLink RL 65 yX1_allStand ∈ TB := tbm 429 (by decide +kernel) (by decide +kernel)
theorem ml_L_68 : Cond.methodLink RL 68 yX2_allStand ∈ TB := tbm 799 (by decide +kernel) (by decide +kernel)
theorem ml_L_69 : Cond.methodLink RL 69 yX1_tower ∈ TB := tbm 433 (by decide +kernel) (by decide +kernel)
theorem ml_L_72 : Cond.methodLink RL 72 yX2_tower ∈ TB := tbm 803 (by decide +kernel) (by decide +kernel)
theorem ml_L_73 : Cond.methodLink RL 73 yX1_leastSpeed ∈ TB := tbm 449 (by decide +kernel) (by decide +kernel)
theorem ml_L_76 : Cond.methodLink RL 76 yX2_leastSpeed ∈ TB := tbm 811 (by decide +kernel) (by decide +kernel)
theorem ml_L_77 : Cond.methodLink RL 77 yX1_atOnce ∈ TB := tbm 454 (by decide +kernel) (by decide +kernel)
theorem ml_L_80 : Cond.methodLink RL 80 yX2_atOnce ∈ TB := tbm 815 (by decide +kernel) (by decide +kernel)
theorem ml_L_81 : Cond.methodLink RL 81 yX1_later ∈ TB := tbm 458 (by decide +kernel) (by decide +kernel)
theorem ml_L_84 : Cond.methodLink RL 84 yX2_later ∈ TB := tbm 819 (by decide +kernel) (by decide +kernel)
theorem ml_L_85 : Cond.methodLink RL 85 yX1_pullMost ∈ TB := tbm 462 (by decide +kernel) (by decide +kernel)
theorem ml_L_88 : Cond.methodLink RL 88 yX2_pullMost ∈ TB := tbm 823 (by decide +kernel) (by decide +kernel)
theorem ml_L_89 : Cond.methodLink RL 89 yX1_key ∈ TB := tbm 470 (by decide +kernel) (by decide +kernel)
theorem ml_L_92 : Cond.methodLink RL 92 yX2_key ∈ TB := tbm 831 (by decide +kernel) (by decide +kernel)
theorem ml_L_93 : Cond.methodLink RL 93 yX1_prop ∈ TB := tbm 474 (by decide +kernel) (by decide +kernel)
theorem ml_L_96 : Cond.methodLink RL 96 yX2_prop ∈ TB := tbm 835 (by decide +kernel) (by decide +kernel)
theorem ml_L_97 : Cond.methodLink RL 97 yX1_order ∈ TB := tbm 478 (by decide +kernel) (by decide +kernel)
theorem ml_L_101 : Cond.methodLink RL 101 yX2_order ∈ TB := tbm 839 (by decide +kernel) (by decide +kernel)
theorem ml_L_102 : Cond.methodLink RL 102 yX1_floorFalls ∈ TB := tbm 488 (by decide +kernel) (by decide +kernel)
theorem ml_L_105 : Cond.methodLink RL 105 yX2_floorFalls ∈ TB := tbm 850 (by decide +kernel) (by decide +kernel)
theorem ml_L_106 : Cond.methodLink RL 106 yX1_watched ∈ TB := tbm 492 (by decide +kernel) (by decide +kernel)
theorem ml_L_109 : Cond.methodLink RL 109 yX2_watched ∈ TB := tbm 854 (by decide +kernel) (by decide +kernel)
theorem ml_L_110 : Cond.methodLink RL 110 yX1_rebuild ∈ TB := tbm 504 (by decide +kernel) (by decide +kernel)
theorem ml_L_113 : Cond.methodLink RL 113 yX2_rebuild ∈ TB := tbm 858 (by decide +kernel) (by decide +kernel)
theorem ml_L_114 : Cond.methodLink RL 114 yX1_draught ∈ TB := tbm 512 (by decide +kernel) (by decide +kernel)
theorem ml_L_118 : Cond.methodLink RL 118 yX2_draught ∈ TB := tbm 865 (by decide +kernel) (by decide +kernel)
theorem ml_L_119 : Cond.methodLink RL 119 yX1_two ∈ TB := tbm 527 (by decide +kernel) (by decide +kernel)
theorem ml_L_122 : Cond.methodLink RL 122 yX2_two ∈ TB := tbm 880 (by decide +kernel) (by decide +kernel)
theorem ml_L_123 : Cond.methodLink RL 123 yX1_whatWas ∈ TB := tbm 538 (by decide +kernel) (by decide +kernel)
theorem ml_L_126 : Cond.methodLink RL 126 yX2_whatWas ∈ TB := tbm 888 (by decide +kernel) (by decide +kernel)
theorem ml_L_127 : Cond.methodLink RL 127 yX1_row ∈ TB := tbm 554 (by decide +kernel) (by decide +kernel)
theorem ml_L_130 : Cond.methodLink RL 130 yX2_row ∈ TB := tbm 892 (by decide +kernel) (by decide +kernel)
theorem ml_L_131 : Cond.methodLink RL 131 yX1_judge ∈ TB := tbm 558 (by decide +kernel) (by decide +kernel)
theorem ml_L_134 : Cond.methodLink RL 134 yX2_judge ∈ TB := tbm 896 (by decide +kernel) (by decide +kernel)
theorem ml_L_135 : Cond.methodLink RL 135 yX1_clear ∈ TB := tbm 566 (by decide +kernel) (by decide +kernel)
theorem ml_L_138 : Cond.methodLink RL 138 yX2_clear ∈ TB := tbm 900 (by decide +kernel) (by decide +kernel)
theorem ml_L_139 : Cond.methodLink RL 139 yX1_lots ∈ TB := tbm 570 (by decide +kernel) (by decide +kernel)
theorem ml_L_142 : Cond.methodLink RL 142 yX2_lots ∈ TB := tbm 904 (by decide +kernel) (by decide +kernel)
theorem ml_L_143 : Cond.methodLink RL 143 yX1_image ∈ TB := tbm 585 (by decide +kernel) (by decide +kernel)
theorem ml_L_146 : Cond.methodLink RL 146 yX2_image ∈ TB := tbm 915 (by decide +kernel) (by decide +kernel)
theorem ml_L_147 : Cond.methodLink RL 147 yX1_on ∈ TB := tbm 589 (by decide +kernel) (by decide +kernel)
theorem ml_L_150 : Cond.methodLink RL 150 yX2_on ∈ TB := tbm 919 (by decide +kernel) (by decide +kernel)
theorem ml_L_151 : Cond.methodLink RL 151 yX1_count ∈ TB := tbm 593 (by decide +kernel) (by decide +kernel)
theorem ml_L_154 : Cond.methodLink RL 154 yX2_count ∈ TB := tbm 923 (by decide +kernel) (by decide +kernel)
-- link PulledFromUnderModel 1 ('java/lang/Object', '<init>', '()V')
theorem ml_X2_36 : Cond.methodLink RX2 36 yX2_no ∈ TB := tbm 651 (by decide +kernel) (by decide +kernel)
theorem ml_X2_40 : Cond.methodLink RX2 40 yX2_isIn ∈ TB := tbm 678 (by decide +kernel) (by decide +kernel)
theorem ml_X2_44 : Cond.methodLink RX2 44 yX2_of ∈ TB := tbm 699 (by decide +kernel) (by decide +kernel)
theorem ml_X2_48 : Cond.methodLink RX2 48 yX2_most ∈ TB := tbm 732 (by decide +kernel) (by decide +kernel)
theorem ml_X2_51 : Cond.methodLink RX2 51 yX2_has ∈ TB := tbm 711 (by decide +kernel) (by decide +kernel)
theorem ml_X2_55 : Cond.methodLink RX2 55 yX2_stands ∈ TB := tbm 696 (by decide +kernel) (by decide +kernel)
theorem ml_X2_59 : Cond.methodLink RX2 59 yX2_grip ∈ TB := tbm 708 (by decide +kernel) (by decide +kernel)
theorem ml_X2_63 : Cond.methodLink RX2 63 yX2_shaken ∈ TB := tbm 705 (by decide +kernel) (by decide +kernel)
theorem ml_X2_67 : Cond.methodLink RX2 67 yX2_bits ∈ TB := tbm 714 (by decide +kernel) (by decide +kernel)
theorem ml_X2_70 : Cond.methodLink RX2 70 yX2_isHeld ∈ TB := tbm 723 (by decide +kernel) (by decide +kernel)
theorem ml_X2_73 : Cond.methodLink RX2 73 yX2_setOf ∈ TB := tbm 726 (by decide +kernel) (by decide +kernel)
theorem ml_X2_76 : Cond.methodLink RX2 76 yX2_habit ∈ TB := tbm 729 (by decide +kernel) (by decide +kernel)
theorem ml_X2_80 : Cond.methodLink RX2 80 yX2_minute ∈ TB := tbm 720 (by decide +kernel) (by decide +kernel)
theorem ml_X2_91 : Cond.methodLink RX2 91 yX2_here ∈ TB := tbm 663 (by decide +kernel) (by decide +kernel)
theorem ml_X2_95 : Cond.methodLink RX2 95 yX2_kindBy ∈ TB := tbm 671 (by decide +kernel) (by decide +kernel)
theorem ml_X2_98 : Cond.methodLink RX2 98 yX2_readsKind ∈ TB := tbm 667 (by decide +kernel) (by decide +kernel)
theorem ml_X2_102 : Cond.methodLink RX2 102 yX2_readsNumber ∈ TB := tbm 674 (by decide +kernel) (by decide +kernel)
theorem ml_X2_105 : Cond.methodLink RX2 105 yX2_isThing ∈ TB := tbm 692 (by decide +kernel) (by decide +kernel)
theorem ml_X2_109 : Cond.methodLink RX2 109 yX2_adds ∈ TB := tbm 688 (by decide +kernel) (by decide +kernel)
theorem ml_X2_112 : Cond.methodLink RX2 112 yX2_pullsIn ∈ TB := tbm 702 (by decide +kernel) (by decide +kernel)
theorem ml_X2_115 : Cond.methodLink RX2 115 yX2_minutesOn ∈ TB := tbm 717 (by decide +kernel) (by decide +kernel)
theorem ml_X2_118 : Cond.methodLink RX2 118 yX2_readsStatement ∈ TB := tbm 659 (by decide +kernel) (by decide +kernel)
theorem ml_X2_121 : Cond.methodLink RX2 121 yX2_copies ∈ TB := tbm 681 (by decide +kernel) (by decide +kernel)
theorem ml_X2_125 : Cond.methodLink RX2 125 yX2_isDone ∈ TB := tbm 684 (by decide +kernel) (by decide +kernel)
theorem ml_X2_128 : Cond.methodLink RX2 128 yX2_wrongBy ∈ TB := tbm 747 (by decide +kernel) (by decide +kernel)
theorem ml_X2_131 : Cond.methodLink RX2 131 yX2_wrongPull ∈ TB := tbm 743 (by decide +kernel) (by decide +kernel)
theorem ml_X2_134 : Cond.methodLink RX2 134 yX2_takes ∈ TB := tbm 774 (by decide +kernel) (by decide +kernel)
theorem ml_X2_138 : Cond.methodLink RX2 138 yX2_standingIn ∈ TB := tbm 778 (by decide +kernel) (by decide +kernel)
theorem ml_X2_141 : Cond.methodLink RX2 141 yX2_fallsIn ∈ TB := tbm 790 (by decide +kernel) (by decide +kernel)
theorem ml_X2_144 : Cond.methodLink RX2 144 yX2_fallsOf ∈ TB := tbm 786 (by decide +kernel) (by decide +kernel)
theorem ml_X2_148 : Cond.methodLink RX2 148 yX2_isAbove ∈ TB := tbm 807 (by decide +kernel) (by decide +kernel)
theorem ml_X2_151 : Cond.methodLink RX2 151 yX2_pullsSet ∈ TB := tbm 827 (by decide +kernel) (by decide +kernel)
theorem ml_X2_154 : Cond.methodLink RX2 154 yX2_placed ∈ TB := tbm 843 (by decide +kernel) (by decide +kernel)
theorem ml_X2_158 : Cond.methodLink RX2 158 yX2_standingBy ∈ TB := tbm 846 (by decide +kernel) (by decide +kernel)
theorem ml_X2_161 : Cond.methodLink RX2 161 yX2_rebuilt ∈ TB := tbm 862 (by decide +kernel) (by decide +kernel)
theorem ml_X2_165 : Cond.methodLink RX2 165 yX2_gcd ∈ TB := tbm 877 (by decide +kernel) (by decide +kernel)
theorem ml_X2_169 : Cond.methodLink RX2 169 yX2_noWide ∈ TB := tbm 869 (by decide +kernel) (by decide +kernel)
theorem ml_X2_173 : Cond.methodLink RX2 173 yX2_partOf ∈ TB := tbm 874 (by decide +kernel) (by decide +kernel)
theorem ml_X2_177 : Cond.methodLink RX2 177 yX2_standingPulled ∈ TB := tbm 884 (by decide +kernel) (by decide +kernel)
theorem ml_X2_190 : Cond.methodLink RX2 190 yX2_drawn ∈ TB := tbm 908 (by decide +kernel) (by decide +kernel)
theorem ml_J0_335 : Cond.methodLink RJ0 335 yJ0_coder_7d493 ∈ TB := tbm 170 (by decide +kernel) (by decide +kernel)
theorem ml_J0_492 : Cond.methodLink RJ0 492 yJ0_isLatin1_aae02 ∈ TB := tbm 191 (by decide +kernel) (by decide +kernel)
theorem ml_J0_495 : Cond.methodLink RJ0 495 yJ1_charAt_3b067 ∈ TB := tbm 195 (by decide +kernel) (by decide +kernel)
theorem ml_J0_498 : Cond.methodLink RJ0 498 yJ2_charAt_3b067 ∈ TB := tbm 206 (by decide +kernel) (by decide +kernel)
theorem ml_J0_1059 : Cond.methodLink RJ0 1059 yJ3_checkIndex_8e157 ∈ TB := tbm 203 (by decide +kernel) (by decide +kernel)
theorem ml_J1_9 : Cond.methodLink RJ1 9 yJ0_checkIndex_df160 ∈ TB := tbm 198 (by decide +kernel) (by decide +kernel)
theorem ml_J2_48 : Cond.methodLink RJ2 48 yJ2_length_9d52b ∈ TB := tbm 212 (by decide +kernel) (by decide +kernel)
theorem ml_J2_67 : Cond.methodLink RJ2 67 yJ2_checkIndex_2214a ∈ TB := tbm 209 (by decide +kernel) (by decide +kernel)
theorem ml_J2_71 : Cond.methodLink RJ2 71 yJ2_getChar_3b067 ∈ TB := tbm 216 (by decide +kernel) (by decide +kernel)
theorem ml_J2_414 : Cond.methodLink RJ2 414 yJ0_checkIndex_df160 ∈ TB := tbm 215 (by decide +kernel) (by decide +kernel)
theorem kc_X1_305 : Cond.constant RX1 305 (1664525) ∈ TB := tbm 582 (by decide +kernel) (by decide +kernel)
theorem kc_X1_306 : Cond.constant RX1 306 (1013904223) ∈ TB := tbm 583 (by decide +kernel) (by decide +kernel)
theorem kc_X1_307 : Cond.constant RX1 307 (2147483647) ∈ TB := tbm 584 (by decide +kernel) (by decide +kernel)
theorem kc_X2_147 : Cond.constant RX2 147 (1000000000) ∈ TB := tbm 798 (by decide +kernel) (by decide +kernel)
theorem kc_X2_187 : Cond.constant RX2 187 (1664525) ∈ TB := tbm 912 (by decide +kernel) (by decide +kernel)
theorem kc_X2_188 : Cond.constant RX2 188 (1013904223) ∈ TB := tbm 913 (by decide +kernel) (by decide +kernel)
theorem kc_X2_189 : Cond.constant RX2 189 (2147483647) ∈ TB := tbm 914 (by decide +kernel) (by decide +kernel)
theorem kc_J6_265 : Cond.constant RJ6 265 (1431655765) ∈ TB := tbm 375 (by decide +kernel) (by decide +kernel)
theorem kc_J6_266 : Cond.constant RJ6 266 (858993459) ∈ TB := tbm 376 (by decide +kernel) (by decide +kernel)
theorem kc_J6_267 : Cond.constant RJ6 267 (252645135) ∈ TB := tbm 377 (by decide +kernel) (by decide +kernel)
theorem kl_X1_189 : Cond.constantLong RX1 189 (4000000000000000000) ∈ TB := tbm 516 (by decide +kernel) (by decide +kernel)
theorem kl_X2_34 : Cond.constantLong RX2 34 (4000000000000000000) ∈ TB := tbm 873 (by decide +kernel) (by decide +kernel)
