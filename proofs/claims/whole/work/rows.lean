section
-- ===== PART A: goes FIRST, ahead of the names: the tables' words, and 'selects' of the private methods out of them =====
/-- a private method of a class that the tables say can be made, by its rows of tables_1 -/
def lw_okq (q : MethodName × Nat) : Prop := (q.1.cls ≠ "java/lang/invoke/MethodHandle" ∧ q.1.cls ≠ "java/lang/invoke/VarHandle") ∧ Cond.instantiable q.1.cls q.2 ∈ tables_1 ∧ Cond.privateMethod q.1 ∈ tables_1 ∧ Cond.instanceMethod q.1 ∈ tables_1
theorem lw_p0 : lw_okq (⟨"WheelStand$Wheel", "between", "(II)I"⟩, 6) := ⟨⟨by decide +kernel, by decide +kernel⟩, List.mem_of_getElem? (i := 38) (by decide +kernel), List.mem_of_getElem? (i := 264) (by decide +kernel), List.mem_of_getElem? (i := 265) (by decide +kernel)⟩
theorem lw_p1 : lw_okq (⟨"WheelStand$Wheel", "stepsToRead", "(III)I"⟩, 6) := ⟨⟨by decide +kernel, by decide +kernel⟩, List.mem_of_getElem? (i := 38) (by decide +kernel), List.mem_of_getElem? (i := 268) (by decide +kernel), List.mem_of_getElem? (i := 269) (by decide +kernel)⟩
theorem lw_p2 : lw_okq (⟨"WheelStand$Gauge", "greatestSize", "(I)I"⟩, 9) := ⟨⟨by decide +kernel, by decide +kernel⟩, List.mem_of_getElem? (i := 75) (by decide +kernel), List.mem_of_getElem? (i := 377) (by decide +kernel), List.mem_of_getElem? (i := 378) (by decide +kernel)⟩
theorem lw_p3 : lw_okq (⟨"WheelStand$Gauge", "shiftAt", "(II)I"⟩, 9) := ⟨⟨by decide +kernel, by decide +kernel⟩, List.mem_of_getElem? (i := 75) (by decide +kernel), List.mem_of_getElem? (i := 385) (by decide +kernel), List.mem_of_getElem? (i := 386) (by decide +kernel)⟩
theorem lw_p4 : lw_okq (⟨"WheelStand$Gauge", "share", "(II)J"⟩, 9) := ⟨⟨by decide +kernel, by decide +kernel⟩, List.mem_of_getElem? (i := 75) (by decide +kernel), List.mem_of_getElem? (i := 390) (by decide +kernel), List.mem_of_getElem? (i := 391) (by decide +kernel)⟩
theorem lw_p5 : lw_okq (⟨"WheelStand$Gauge", "isLoose", "(I)Z"⟩, 9) := ⟨⟨by decide +kernel, by decide +kernel⟩, List.mem_of_getElem? (i := 75) (by decide +kernel), List.mem_of_getElem? (i := 408) (by decide +kernel), List.mem_of_getElem? (i := 409) (by decide +kernel)⟩
theorem lw_p6 : lw_okq (⟨"WheelStand$Gauge", "isBent", "(II)Z"⟩, 9) := ⟨⟨by decide +kernel, by decide +kernel⟩, List.mem_of_getElem? (i := 75) (by decide +kernel), List.mem_of_getElem? (i := 416) (by decide +kernel), List.mem_of_getElem? (i := 417) (by decide +kernel)⟩
theorem lw_p7 : lw_okq (⟨"WheelStand$Gauge", "isOffMiddle", "()Z"⟩, 9) := ⟨⟨by decide +kernel, by decide +kernel⟩, List.mem_of_getElem? (i := 75) (by decide +kernel), List.mem_of_getElem? (i := 420) (by decide +kernel), List.mem_of_getElem? (i := 421) (by decide +kernel)⟩
theorem lw_p8 : lw_okq (⟨"WheelStand$Gauge", "isSpread", "(I)Z"⟩, 9) := ⟨⟨by decide +kernel, by decide +kernel⟩, List.mem_of_getElem? (i := 75) (by decide +kernel), List.mem_of_getElem? (i := 424) (by decide +kernel), List.mem_of_getElem? (i := 425) (by decide +kernel)⟩
theorem lw_p9 : lw_okq (⟨"WheelStand$Gauge", "bearsTooMuch", "(I)Z"⟩, 9) := ⟨⟨by decide +kernel, by decide +kernel⟩, List.mem_of_getElem? (i := 75) (by decide +kernel), List.mem_of_getElem? (i := 447) (by decide +kernel), List.mem_of_getElem? (i := 448) (by decide +kernel)⟩
theorem lw_p10 : lw_okq (⟨"WheelStand$Search", "findsOne", "(II)Z"⟩, 4) := ⟨⟨by decide +kernel, by decide +kernel⟩, List.mem_of_getElem? (i := 109) (by decide +kernel), List.mem_of_getElem? (i := 492) (by decide +kernel), List.mem_of_getElem? (i := 493) (by decide +kernel)⟩
theorem lw_p11 : lw_okq (⟨"WheelStand$Search", "bringsWithin", "()Z"⟩, 4) := ⟨⟨by decide +kernel, by decide +kernel⟩, List.mem_of_getElem? (i := 109) (by decide +kernel), List.mem_of_getElem? (i := 500) (by decide +kernel), List.mem_of_getElem? (i := 501) (by decide +kernel)⟩
theorem lw_p12 : lw_okq (⟨"WheelStand$Search", "findsTwo", "()Z"⟩, 4) := ⟨⟨by decide +kernel, by decide +kernel⟩, List.mem_of_getElem? (i := 109) (by decide +kernel), List.mem_of_getElem? (i := 509) (by decide +kernel), List.mem_of_getElem? (i := 510) (by decide +kernel)⟩
theorem lw_p13 : lw_okq (⟨"WheelStand", "breaksTooMuch", "(I)Z"⟩, 7) := ⟨⟨by decide +kernel, by decide +kernel⟩, List.mem_of_getElem? (i := 11) (by decide +kernel), List.mem_of_getElem? (i := 526) (by decide +kernel), List.mem_of_getElem? (i := 527) (by decide +kernel)⟩
theorem lw_p14 : lw_okq (⟨"WheelStand", "pullAfterBreak", "(II)J"⟩, 7) := ⟨⟨by decide +kernel, by decide +kernel⟩, List.mem_of_getElem? (i := 11) (by decide +kernel), List.mem_of_getElem? (i := 530) (by decide +kernel), List.mem_of_getElem? (i := 531) (by decide +kernel)⟩
theorem lw_p15 : lw_okq (⟨"WheelStand", "pullUnder", "(III)I"⟩, 7) := ⟨⟨by decide +kernel, by decide +kernel⟩, List.mem_of_getElem? (i := 11) (by decide +kernel), List.mem_of_getElem? (i := 549) (by decide +kernel), List.mem_of_getElem? (i := 550) (by decide +kernel)⟩
def lw_privs_1 : List (MethodName × Nat) := [(⟨"WheelStand$Wheel", "between", "(II)I"⟩, 6), (⟨"WheelStand$Wheel", "stepsToRead", "(III)I"⟩, 6), (⟨"WheelStand$Gauge", "greatestSize", "(I)I"⟩, 9), (⟨"WheelStand$Gauge", "shiftAt", "(II)I"⟩, 9), (⟨"WheelStand$Gauge", "share", "(II)J"⟩, 9), (⟨"WheelStand$Gauge", "isLoose", "(I)Z"⟩, 9), (⟨"WheelStand$Gauge", "isBent", "(II)Z"⟩, 9), (⟨"WheelStand$Gauge", "isOffMiddle", "()Z"⟩, 9), (⟨"WheelStand$Gauge", "isSpread", "(I)Z"⟩, 9), (⟨"WheelStand$Gauge", "bearsTooMuch", "(I)Z"⟩, 9), (⟨"WheelStand$Search", "findsOne", "(II)Z"⟩, 4), (⟨"WheelStand$Search", "bringsWithin", "()Z"⟩, 4), (⟨"WheelStand$Search", "findsTwo", "()Z"⟩, 4), (⟨"WheelStand", "breaksTooMuch", "(I)Z"⟩, 7), (⟨"WheelStand", "pullAfterBreak", "(II)J"⟩, 7), (⟨"WheelStand", "pullUnder", "(III)I"⟩, 7)]
theorem lw_r1 : ∀ q ∈ lw_privs_1, lw_okq q := List.forall_mem_cons.mpr ⟨lw_p0, List.forall_mem_cons.mpr ⟨lw_p1, List.forall_mem_cons.mpr ⟨lw_p2, List.forall_mem_cons.mpr ⟨lw_p3, List.forall_mem_cons.mpr ⟨lw_p4, List.forall_mem_cons.mpr ⟨lw_p5, List.forall_mem_cons.mpr ⟨lw_p6, List.forall_mem_cons.mpr ⟨lw_p7, List.forall_mem_cons.mpr ⟨lw_p8, List.forall_mem_cons.mpr ⟨lw_p9, List.forall_mem_cons.mpr ⟨lw_p10, List.forall_mem_cons.mpr ⟨lw_p11, List.forall_mem_cons.mpr ⟨lw_p12, List.forall_mem_cons.mpr ⟨lw_p13, List.forall_mem_cons.mpr ⟨lw_p14, List.forall_mem_cons.mpr ⟨lw_p15, fun _ h => absurd h List.not_mem_nil⟩⟩⟩⟩⟩⟩⟩⟩⟩⟩⟩⟩⟩⟩⟩⟩
theorem lw_p16 : lw_okq (⟨"WheelStand", "howManyLooseUnder", "(II)I"⟩, 7) := ⟨⟨by decide +kernel, by decide +kernel⟩, List.mem_of_getElem? (i := 11) (by decide +kernel), List.mem_of_getElem? (i := 558) (by decide +kernel), List.mem_of_getElem? (i := 559) (by decide +kernel)⟩
theorem lw_p17 : lw_okq (⟨"WheelStandModel", "begin", "(I)V"⟩, 22) := ⟨⟨by decide +kernel, by decide +kernel⟩, List.mem_of_getElem? (i := 639) (by decide +kernel), List.mem_of_getElem? (i := 645) (by decide +kernel), List.mem_of_getElem? (i := 646) (by decide +kernel)⟩
theorem lw_p18 : lw_okq (⟨"WheelStandModel", "isHole", "(I)Z"⟩, 22) := ⟨⟨by decide +kernel, by decide +kernel⟩, List.mem_of_getElem? (i := 639) (by decide +kernel), List.mem_of_getElem? (i := 727) (by decide +kernel), List.mem_of_getElem? (i := 728) (by decide +kernel)⟩
theorem lw_p19 : lw_okq (⟨"WheelStandModel", "isGone", "(I)Z"⟩, 22) := ⟨⟨by decide +kernel, by decide +kernel⟩, List.mem_of_getElem? (i := 639) (by decide +kernel), List.mem_of_getElem? (i := 737) (by decide +kernel), List.mem_of_getElem? (i := 738) (by decide +kernel)⟩
theorem lw_p20 : lw_okq (⟨"WheelStandModel", "leans", "(I)I"⟩, 22) := ⟨⟨by decide +kernel, by decide +kernel⟩, List.mem_of_getElem? (i := 639) (by decide +kernel), List.mem_of_getElem? (i := 775) (by decide +kernel), List.mem_of_getElem? (i := 776) (by decide +kernel)⟩
theorem lw_p21 : lw_okq (⟨"WheelStandModel", "force", "(I)I"⟩, 22) := ⟨⟨by decide +kernel, by decide +kernel⟩, List.mem_of_getElem? (i := 639) (by decide +kernel), List.mem_of_getElem? (i := 779) (by decide +kernel), List.mem_of_getElem? (i := 780) (by decide +kernel)⟩
theorem lw_p22 : lw_okq (⟨"WheelStandModel", "tell", "(II)I"⟩, 22) := ⟨⟨by decide +kernel, by decide +kernel⟩, List.mem_of_getElem? (i := 639) (by decide +kernel), List.mem_of_getElem? (i := 791) (by decide +kernel), List.mem_of_getElem? (i := 792) (by decide +kernel)⟩
theorem lw_p23 : lw_okq (⟨"WheelStandModel", "unbentAt", "(II)J"⟩, 22) := ⟨⟨by decide +kernel, by decide +kernel⟩, List.mem_of_getElem? (i := 639) (by decide +kernel), List.mem_of_getElem? (i := 799) (by decide +kernel), List.mem_of_getElem? (i := 800) (by decide +kernel)⟩
theorem lw_p24 : lw_okq (⟨"WheelStandModel", "between", "(II)J"⟩, 22) := ⟨⟨by decide +kernel, by decide +kernel⟩, List.mem_of_getElem? (i := 639) (by decide +kernel), List.mem_of_getElem? (i := 803) (by decide +kernel), List.mem_of_getElem? (i := 804) (by decide +kernel)⟩
theorem lw_p25 : lw_okq (⟨"WheelStandModel", "next", "(III)I"⟩, 22) := ⟨⟨by decide +kernel, by decide +kernel⟩, List.mem_of_getElem? (i := 639) (by decide +kernel), List.mem_of_getElem? (i := 807) (by decide +kernel), List.mem_of_getElem? (i := 808) (by decide +kernel)⟩
theorem lw_p26 : lw_okq (⟨"WheelStandModel", "readingAt", "(II)J"⟩, 22) := ⟨⟨by decide +kernel, by decide +kernel⟩, List.mem_of_getElem? (i := 639) (by decide +kernel), List.mem_of_getElem? (i := 818) (by decide +kernel), List.mem_of_getElem? (i := 819) (by decide +kernel)⟩
theorem lw_p27 : lw_okq (⟨"WheelStandModel", "middle", "()J"⟩, 22) := ⟨⟨by decide +kernel, by decide +kernel⟩, List.mem_of_getElem? (i := 639) (by decide +kernel), List.mem_of_getElem? (i := 826) (by decide +kernel), List.mem_of_getElem? (i := 827) (by decide +kernel)⟩
theorem lw_p28 : lw_okq (⟨"WheelStandModel", "spread", "(I)J"⟩, 22) := ⟨⟨by decide +kernel, by decide +kernel⟩, List.mem_of_getElem? (i := 639) (by decide +kernel), List.mem_of_getElem? (i := 830) (by decide +kernel), List.mem_of_getElem? (i := 831) (by decide +kernel)⟩
theorem lw_p29 : lw_okq (⟨"WheelStandModel", "worst", "()J"⟩, 22) := ⟨⟨by decide +kernel, by decide +kernel⟩, List.mem_of_getElem? (i := 639) (by decide +kernel), List.mem_of_getElem? (i := 834) (by decide +kernel), List.mem_of_getElem? (i := 835) (by decide +kernel)⟩
theorem lw_p30 : lw_okq (⟨"WheelStandModel", "share", "(JI)J"⟩, 22) := ⟨⟨by decide +kernel, by decide +kernel⟩, List.mem_of_getElem? (i := 639) (by decide +kernel), List.mem_of_getElem? (i := 838) (by decide +kernel), List.mem_of_getElem? (i := 839) (by decide +kernel)⟩
theorem lw_p31 : lw_okq (⟨"WheelStandModel", "isLoose", "(I)Z"⟩, 22) := ⟨⟨by decide +kernel, by decide +kernel⟩, List.mem_of_getElem? (i := 639) (by decide +kernel), List.mem_of_getElem? (i := 850) (by decide +kernel), List.mem_of_getElem? (i := 851) (by decide +kernel)⟩
def lw_privs_2 : List (MethodName × Nat) := [(⟨"WheelStand", "howManyLooseUnder", "(II)I"⟩, 7), (⟨"WheelStandModel", "begin", "(I)V"⟩, 22), (⟨"WheelStandModel", "isHole", "(I)Z"⟩, 22), (⟨"WheelStandModel", "isGone", "(I)Z"⟩, 22), (⟨"WheelStandModel", "leans", "(I)I"⟩, 22), (⟨"WheelStandModel", "force", "(I)I"⟩, 22), (⟨"WheelStandModel", "tell", "(II)I"⟩, 22), (⟨"WheelStandModel", "unbentAt", "(II)J"⟩, 22), (⟨"WheelStandModel", "between", "(II)J"⟩, 22), (⟨"WheelStandModel", "next", "(III)I"⟩, 22), (⟨"WheelStandModel", "readingAt", "(II)J"⟩, 22), (⟨"WheelStandModel", "middle", "()J"⟩, 22), (⟨"WheelStandModel", "spread", "(I)J"⟩, 22), (⟨"WheelStandModel", "worst", "()J"⟩, 22), (⟨"WheelStandModel", "share", "(JI)J"⟩, 22), (⟨"WheelStandModel", "isLoose", "(I)Z"⟩, 22)]
theorem lw_r2 : ∀ q ∈ lw_privs_2, lw_okq q := List.forall_mem_cons.mpr ⟨lw_p16, List.forall_mem_cons.mpr ⟨lw_p17, List.forall_mem_cons.mpr ⟨lw_p18, List.forall_mem_cons.mpr ⟨lw_p19, List.forall_mem_cons.mpr ⟨lw_p20, List.forall_mem_cons.mpr ⟨lw_p21, List.forall_mem_cons.mpr ⟨lw_p22, List.forall_mem_cons.mpr ⟨lw_p23, List.forall_mem_cons.mpr ⟨lw_p24, List.forall_mem_cons.mpr ⟨lw_p25, List.forall_mem_cons.mpr ⟨lw_p26, List.forall_mem_cons.mpr ⟨lw_p27, List.forall_mem_cons.mpr ⟨lw_p28, List.forall_mem_cons.mpr ⟨lw_p29, List.forall_mem_cons.mpr ⟨lw_p30, List.forall_mem_cons.mpr ⟨lw_p31, fun _ h => absurd h List.not_mem_nil⟩⟩⟩⟩⟩⟩⟩⟩⟩⟩⟩⟩⟩⟩⟩⟩
theorem lw_p32 : lw_okq (⟨"WheelStandModel", "fault", "()I"⟩, 22) := ⟨⟨by decide +kernel, by decide +kernel⟩, List.mem_of_getElem? (i := 639) (by decide +kernel), List.mem_of_getElem? (i := 854) (by decide +kernel), List.mem_of_getElem? (i := 855) (by decide +kernel)⟩
theorem lw_p33 : lw_okq (⟨"WheelStandModel", "tries", "(III)Z"⟩, 22) := ⟨⟨by decide +kernel, by decide +kernel⟩, List.mem_of_getElem? (i := 639) (by decide +kernel), List.mem_of_getElem? (i := 867) (by decide +kernel), List.mem_of_getElem? (i := 868) (by decide +kernel)⟩
theorem lw_p34 : lw_okq (⟨"WheelStandModel", "lay", "(I)V"⟩, 22) := ⟨⟨by decide +kernel, by decide +kernel⟩, List.mem_of_getElem? (i := 639) (by decide +kernel), List.mem_of_getElem? (i := 871) (by decide +kernel), List.mem_of_getElem? (i := 872) (by decide +kernel)⟩
theorem lw_p35 : lw_okq (⟨"WheelStandModel", "make", "(II)V"⟩, 22) := ⟨⟨by decide +kernel, by decide +kernel⟩, List.mem_of_getElem? (i := 639) (by decide +kernel), List.mem_of_getElem? (i := 875) (by decide +kernel), List.mem_of_getElem? (i := 876) (by decide +kernel)⟩
theorem lw_p36 : lw_okq (⟨"WheelStandModel", "steps", "(II)I"⟩, 22) := ⟨⟨by decide +kernel, by decide +kernel⟩, List.mem_of_getElem? (i := 639) (by decide +kernel), List.mem_of_getElem? (i := 879) (by decide +kernel), List.mem_of_getElem? (i := 880) (by decide +kernel)⟩
theorem lw_p37 : lw_okq (⟨"WheelStandModel", "bring", "(I)V"⟩, 22) := ⟨⟨by decide +kernel, by decide +kernel⟩, List.mem_of_getElem? (i := 639) (by decide +kernel), List.mem_of_getElem? (i := 883) (by decide +kernel), List.mem_of_getElem? (i := 884) (by decide +kernel)⟩
theorem lw_p38 : lw_okq (⟨"WheelStandModel", "enterLog", "(II)V"⟩, 22) := ⟨⟨by decide +kernel, by decide +kernel⟩, List.mem_of_getElem? (i := 639) (by decide +kernel), List.mem_of_getElem? (i := 888) (by decide +kernel), List.mem_of_getElem? (i := 889) (by decide +kernel)⟩
theorem lw_p39 : lw_okq (⟨"WheelStandModel", "nextQuarter", "()I"⟩, 22) := ⟨⟨by decide +kernel, by decide +kernel⟩, List.mem_of_getElem? (i := 639) (by decide +kernel), List.mem_of_getElem? (i := 896) (by decide +kernel), List.mem_of_getElem? (i := 897) (by decide +kernel)⟩
theorem lw_p40 : lw_okq (⟨"WheelStandModel", "byOne", "()Z"⟩, 22) := ⟨⟨by decide +kernel, by decide +kernel⟩, List.mem_of_getElem? (i := 639) (by decide +kernel), List.mem_of_getElem? (i := 908) (by decide +kernel), List.mem_of_getElem? (i := 909) (by decide +kernel)⟩
theorem lw_p41 : lw_okq (⟨"WheelStandModel", "byTwo", "()Z"⟩, 22) := ⟨⟨by decide +kernel, by decide +kernel⟩, List.mem_of_getElem? (i := 639) (by decide +kernel), List.mem_of_getElem? (i := 915) (by decide +kernel), List.mem_of_getElem? (i := 916) (by decide +kernel)⟩
theorem lw_p42 : lw_okq (⟨"WheelStandModel", "bySecond", "(II)Z"⟩, 22) := ⟨⟨by decide +kernel, by decide +kernel⟩, List.mem_of_getElem? (i := 639) (by decide +kernel), List.mem_of_getElem? (i := 919) (by decide +kernel), List.mem_of_getElem? (i := 920) (by decide +kernel)⟩
theorem lw_p43 : lw_okq (⟨"WheelStandModel", "pullWith", "(III)J"⟩, 22) := ⟨⟨by decide +kernel, by decide +kernel⟩, List.mem_of_getElem? (i := 639) (by decide +kernel), List.mem_of_getElem? (i := 944) (by decide +kernel), List.mem_of_getElem? (i := 945) (by decide +kernel)⟩
theorem lw_p44 : lw_okq (⟨"WheelStandModel", "round", "(I)I"⟩, 22) := ⟨⟨by decide +kernel, by decide +kernel⟩, List.mem_of_getElem? (i := 639) (by decide +kernel), List.mem_of_getElem? (i := 962) (by decide +kernel), List.mem_of_getElem? (i := 963) (by decide +kernel)⟩
theorem lw_p45 : lw_okq (⟨"WheelStandModel", "sine", "(I)I"⟩, 22) := ⟨⟨by decide +kernel, by decide +kernel⟩, List.mem_of_getElem? (i := 639) (by decide +kernel), List.mem_of_getElem? (i := 966) (by decide +kernel), List.mem_of_getElem? (i := 967) (by decide +kernel)⟩
theorem lw_p46 : lw_okq (⟨"WheelStandModel", "sine16", "(I)I"⟩, 22) := ⟨⟨by decide +kernel, by decide +kernel⟩, List.mem_of_getElem? (i := 639) (by decide +kernel), List.mem_of_getElem? (i := 970) (by decide +kernel), List.mem_of_getElem? (i := 971) (by decide +kernel)⟩
theorem lw_p47 : lw_okq (⟨"WheelStandModel", "isCross", "(II)Z"⟩, 22) := ⟨⟨by decide +kernel, by decide +kernel⟩, List.mem_of_getElem? (i := 639) (by decide +kernel), List.mem_of_getElem? (i := 983) (by decide +kernel), List.mem_of_getElem? (i := 984) (by decide +kernel)⟩
def lw_privs_3 : List (MethodName × Nat) := [(⟨"WheelStandModel", "fault", "()I"⟩, 22), (⟨"WheelStandModel", "tries", "(III)Z"⟩, 22), (⟨"WheelStandModel", "lay", "(I)V"⟩, 22), (⟨"WheelStandModel", "make", "(II)V"⟩, 22), (⟨"WheelStandModel", "steps", "(II)I"⟩, 22), (⟨"WheelStandModel", "bring", "(I)V"⟩, 22), (⟨"WheelStandModel", "enterLog", "(II)V"⟩, 22), (⟨"WheelStandModel", "nextQuarter", "()I"⟩, 22), (⟨"WheelStandModel", "byOne", "()Z"⟩, 22), (⟨"WheelStandModel", "byTwo", "()Z"⟩, 22), (⟨"WheelStandModel", "bySecond", "(II)Z"⟩, 22), (⟨"WheelStandModel", "pullWith", "(III)J"⟩, 22), (⟨"WheelStandModel", "round", "(I)I"⟩, 22), (⟨"WheelStandModel", "sine", "(I)I"⟩, 22), (⟨"WheelStandModel", "sine16", "(I)I"⟩, 22), (⟨"WheelStandModel", "isCross", "(II)Z"⟩, 22)]
theorem lw_r3 : ∀ q ∈ lw_privs_3, lw_okq q := List.forall_mem_cons.mpr ⟨lw_p32, List.forall_mem_cons.mpr ⟨lw_p33, List.forall_mem_cons.mpr ⟨lw_p34, List.forall_mem_cons.mpr ⟨lw_p35, List.forall_mem_cons.mpr ⟨lw_p36, List.forall_mem_cons.mpr ⟨lw_p37, List.forall_mem_cons.mpr ⟨lw_p38, List.forall_mem_cons.mpr ⟨lw_p39, List.forall_mem_cons.mpr ⟨lw_p40, List.forall_mem_cons.mpr ⟨lw_p41, List.forall_mem_cons.mpr ⟨lw_p42, List.forall_mem_cons.mpr ⟨lw_p43, List.forall_mem_cons.mpr ⟨lw_p44, List.forall_mem_cons.mpr ⟨lw_p45, List.forall_mem_cons.mpr ⟨lw_p46, List.forall_mem_cons.mpr ⟨lw_p47, fun _ h => absurd h List.not_mem_nil⟩⟩⟩⟩⟩⟩⟩⟩⟩⟩⟩⟩⟩⟩⟩⟩
def lw_privs : List (MethodName × Nat) := lw_privs_1 ++ (lw_privs_2 ++ (lw_privs_3))
def lw_tbl : List Cond := k2_sels lw_privs ++ tables_1
theorem lw_privs_ok : ∀ q ∈ lw_privs, lw_okq q := by
  show ∀ q ∈ lw_privs_1 ++ (lw_privs_2 ++ (lw_privs_3)), lw_okq q
  exact List.forall_mem_append.mpr ⟨lw_r1, List.forall_mem_append.mpr ⟨lw_r2, lw_r3⟩⟩
end
section
/-! ===== BEGIN words of one list among another's, by their places ===== -/
theorem goodIn_r {big : List Cond} (ws : List Cond) (ps : List Nat) (hp : ws = ps.filterMap (fun i => big[i]?)) (h : ws.all goodWord = true) : GoodIn big ws := by
  intro w hw
  have h1 := List.all_eq_true.mp h w hw
  rw [hp] at hw
  obtain ⟨i, -, hi⟩ := List.mem_filterMap.mp hw
  have hm : w ∈ big := by first | exact List.mem_of_getElem? hi | exact List.getElem?_mem hi
  exact ⟨hm, good_of_word h1⟩
theorem goodIn_app {big a b : List Cond} (ha : GoodIn big a) (hb : GoodIn big b) : GoodIn big (a ++ b) := fun w h => (List.mem_append.mp h).elim (ha w) (hb w)
theorem goodIn_ca {big a b : List Cond} {c : Cond} (ha : GoodIn big (c :: a)) (hb : GoodIn big b) : GoodIn big (c :: (a ++ b)) := fun w h => (List.mem_cons.mp h).elim (fun e => ha w (List.mem_cons.mpr (Or.inl e))) (fun h => (List.mem_append.mp h).elim (fun h => ha w (List.mem_cons.mpr (Or.inr h))) (hb w))
theorem goodIn_sub {big ws : List Cond} (hm : ∀ w ∈ ws, w ∈ big) (h : ws.all goodWord = true) : GoodIn big ws := fun w hw => ⟨hm w hw, good_of_word (List.all_eq_true.mp h w hw)⟩
/-! ===== END ===== -/

def RX0 : String := "WheelStand$Gauge"
def TX0 : u_T := fun k => match k with
  | 0 => ("WheelStand$Gauge", "rig", "LWheelStand$Wheel;", true)
  | 1 => ("WheelStand$Gauge", "tables", "LWheelStand$Tables;", true)
  | 2 => ("WheelStand$Gauge", "limits", "[I", true)
  | 3 => ("WheelStand$Gauge", "spoke", "I", false)
  | 4 => ("WheelStand$Gauge", "lean", "I", false)
  | 5 => ("WheelStand$Gauge", "sideways", "I", false)
  | 6 => ("WheelStand$Gauge", "force", "I", false)
  | 7 => ("WheelStand$Gauge", "sideTotal", "J", false)
  | _ => ("WheelStand$Gauge", "quarterTotal", "J", false)
def tyX0 : Nat → FieldType := fun k => match k with
  | 0 => .object "WheelStand$Wheel"
  | 1 => .object "WheelStand$Tables"
  | 2 => .array .int
  | 3 => .int
  | 4 => .int
  | 5 => .int
  | 6 => .int
  | 7 => .long
  | _ => .long
abbrev wsX00 : List Cond := u_ws RX0 TX0 9
theorem nmX0 : ∀ a, a < 9 → ∀ b, b < 9 → a ≠ b → (TX0 a).2.1 ≠ (TX0 b).2.1 := by decide +kernel
theorem tyX0_ok : ∀ k, k < 9 → parseFieldDescriptor (TX0 k).2.2.1 = some (tyX0 k) := by decide +kernel
abbrev cX0_init : ByteArray := prog_2_method_1_code
def yX0_init : MethodName := ⟨RX0, "<init>", "(LWheelStand$Wheel;LWheelStand$Tables;[I)V"⟩
abbrev cX0_rest : ByteArray := prog_2_method_2_code
def yX0_rest : MethodName := ⟨RX0, "rest", "()V"⟩
abbrev cX0_suppose : ByteArray := prog_2_method_3_code
def yX0_suppose : MethodName := ⟨RX0, "suppose", "(II)V"⟩
abbrev cX0_keep : ByteArray := prog_2_method_4_code
def yX0_keep : MethodName := ⟨RX0, "keep", "()V"⟩
abbrev cX0_shiftAt : ByteArray := prog_2_method_5_code
def yX0_shiftAt : MethodName := ⟨RX0, "shiftAt", "(II)I"⟩
abbrev cX0_readingAt : ByteArray := prog_2_method_6_code
def yX0_readingAt : MethodName := ⟨RX0, "readingAt", "(II)I"⟩
abbrev cX0_pullOf : ByteArray := prog_2_method_7_code
def yX0_pullOf : MethodName := ⟨RX0, "pullOf", "(I)I"⟩
abbrev cX0_middle : ByteArray := prog_2_method_8_code
def yX0_middle : MethodName := ⟨RX0, "middle", "()I"⟩
abbrev cX0_spreadOf : ByteArray := prog_2_method_9_code
def yX0_spreadOf : MethodName := ⟨RX0, "spreadOf", "(I)I"⟩
abbrev cX0_worst : ByteArray := prog_2_method_10_code
def yX0_worst : MethodName := ⟨RX0, "worst", "()I"⟩
abbrev cX0_share : ByteArray := prog_2_method_11_code
def yX0_share : MethodName := ⟨RX0, "share", "(II)J"⟩
abbrev cX0_greatestSize : ByteArray := prog_2_method_12_code
def yX0_greatestSize : MethodName := ⟨RX0, "greatestSize", "(I)I"⟩
abbrev cX0_howManyLoose : ByteArray := prog_2_method_13_code
def yX0_howManyLoose : MethodName := ⟨RX0, "howManyLoose", "()I"⟩
abbrev cX0_isLoose : ByteArray := prog_2_method_14_code
def yX0_isLoose : MethodName := ⟨RX0, "isLoose", "(I)Z"⟩
abbrev cX0_isBent : ByteArray := prog_2_method_15_code
def yX0_isBent : MethodName := ⟨RX0, "isBent", "(II)Z"⟩
abbrev cX0_isOffMiddle : ByteArray := prog_2_method_16_code
def yX0_isOffMiddle : MethodName := ⟨RX0, "isOffMiddle", "()Z"⟩
abbrev cX0_isSpread : ByteArray := prog_2_method_17_code
def yX0_isSpread : MethodName := ⟨RX0, "isSpread", "(I)Z"⟩
abbrev cX0_bearsTooMuch : ByteArray := prog_2_method_18_code
def yX0_bearsTooMuch : MethodName := ⟨RX0, "bearsTooMuch", "(I)Z"⟩
abbrev cX0_firstFault : ByteArray := prog_2_method_19_code
def yX0_firstFault : MethodName := ⟨RX0, "firstFault", "()I"⟩
abbrev cX0_firstOverload : ByteArray := prog_2_method_20_code
def yX0_firstOverload : MethodName := ⟨RX0, "firstOverload", "()I"⟩
abbrev cX0_hasFault : ByteArray := prog_2_method_21_code
def yX0_hasFault : MethodName := ⟨RX0, "hasFault", "(I)Z"⟩
abbrev cX0_isRefused : ByteArray := prog_2_method_22_code
def yX0_isRefused : MethodName := ⟨RX0, "isRefused", "()Z"⟩
def RX1 : String := "WheelStand$Lacing"
def TX1 : u_T := fun k => match k with
  | 0 => ("WheelStand$Lacing", "flange", "I", false)
  | 1 => ("WheelStand$Lacing", "off", "I", false)
  | 2 => ("WheelStand$Lacing", "rim", "I", false)
  | _ => ("WheelStand$Lacing", "crossed", "I", false)
def tyX1 : Nat → FieldType := fun k => match k with
  | 0 => .int
  | 1 => .int
  | 2 => .int
  | _ => .int
abbrev wsX10 : List Cond := u_ws RX1 TX1 4
theorem nmX1 : ∀ a, a < 4 → ∀ b, b < 4 → a ≠ b → (TX1 a).2.1 ≠ (TX1 b).2.1 := by decide +kernel
theorem tyX1_ok : ∀ k, k < 4 → parseFieldDescriptor (TX1 k).2.2.1 = some (tyX1 k) := by decide +kernel
abbrev cX1_init : ByteArray := prog_3_method_1_code
def yX1_init : MethodName := ⟨RX1, "<init>", "()V"⟩
abbrev cX1_rimHole : ByteArray := prog_3_method_2_code
def yX1_rimHole : MethodName := ⟨RX1, "rimHole", "(LWheelStand$Wheel;I)I"⟩
abbrev cX1_ahead : ByteArray := prog_3_method_3_code
def yX1_ahead : MethodName := ⟨RX1, "ahead", "(LWheelStand$Wheel;I)I"⟩
abbrev cX1_tenths : ByteArray := prog_3_method_4_code
def yX1_tenths : MethodName := ⟨RX1, "tenths", "(I)I"⟩
abbrev cX1_sine : ByteArray := prog_3_method_5_code
def yX1_sine : MethodName := ⟨RX1, "sine", "(I)I"⟩
abbrev cX1_halfSine : ByteArray := prog_3_method_6_code
def yX1_halfSine : MethodName := ⟨RX1, "halfSine", "(I)I"⟩
abbrev cX1_wholeRoot : ByteArray := prog_3_method_7_code
def yX1_wholeRoot : MethodName := ⟨RX1, "wholeRoot", "(J)I"⟩
abbrev cX1_doCross : ByteArray := prog_3_method_8_code
def yX1_doCross : MethodName := ⟨RX1, "doCross", "(LWheelStand$Wheel;II)Z"⟩
def RX2 : String := "WheelStand$Search"
def TX2 : u_T := fun k => match k with
  | 0 => ("WheelStand$Search", "rig", "LWheelStand$Wheel;", true)
  | 1 => ("WheelStand$Search", "gauge", "LWheelStand$Gauge;", true)
  | 2 => ("WheelStand$Search", "found", "[I", true)
  | _ => ("WheelStand$Search", "suspect", "I", false)
def tyX2 : Nat → FieldType := fun k => match k with
  | 0 => .object "WheelStand$Wheel"
  | 1 => .object "WheelStand$Gauge"
  | 2 => .array .int
  | _ => .int
abbrev wsX20 : List Cond := u_ws RX2 TX2 4
theorem nmX2 : ∀ a, a < 4 → ∀ b, b < 4 → a ≠ b → (TX2 a).2.1 ≠ (TX2 b).2.1 := by decide +kernel
theorem tyX2_ok : ∀ k, k < 4 → parseFieldDescriptor (TX2 k).2.2.1 = some (tyX2 k) := by decide +kernel
abbrev cX2_init : ByteArray := prog_4_method_1_code
def yX2_init : MethodName := ⟨RX2, "<init>", "(LWheelStand$Wheel;LWheelStand$Gauge;)V"⟩
abbrev cX2_bestQuarter : ByteArray := prog_4_method_2_code
def yX2_bestQuarter : MethodName := ⟨RX2, "bestQuarter", "()I"⟩
abbrev cX2_fewestSpokes : ByteArray := prog_4_method_3_code
def yX2_fewestSpokes : MethodName := ⟨RX2, "fewestSpokes", "()I"⟩
abbrev cX2_findsTwo : ByteArray := prog_4_method_4_code
def yX2_findsTwo : MethodName := ⟨RX2, "findsTwo", "()Z"⟩
abbrev cX2_findsOne : ByteArray := prog_4_method_5_code
def yX2_findsOne : MethodName := ⟨RX2, "findsOne", "(II)Z"⟩
abbrev cX2_bringsWithin : ByteArray := prog_4_method_6_code
def yX2_bringsWithin : MethodName := ⟨RX2, "bringsWithin", "()Z"⟩
abbrev cX2_nearest : ByteArray := prog_4_method_7_code
def yX2_nearest : MethodName := ⟨RX2, "nearest", "(I)I"⟩
def RX3 : String := "WheelStand$Tables"
def TX3 : u_T := fun k => match k with
  | 0 => ("WheelStand$Tables", "rows", "[[I", true)
  | _ => ("WheelStand$Tables", "sizes", "[I", true)
def tyX3 : Nat → FieldType := fun k => match k with
  | 0 => .array (.array .int)
  | _ => .array .int
abbrev wsX30 : List Cond := u_ws RX3 TX3 2
theorem nmX3 : ∀ a, a < 2 → ∀ b, b < 2 → a ≠ b → (TX3 a).2.1 ≠ (TX3 b).2.1 := by decide +kernel
theorem tyX3_ok : ∀ k, k < 2 → parseFieldDescriptor (TX3 k).2.2.1 = some (tyX3 k) := by decide +kernel
abbrev cX3_init : ByteArray := prog_5_method_1_code
def yX3_init : MethodName := ⟨RX3, "<init>", "()V"⟩
abbrev cX3_begin : ByteArray := prog_5_method_2_code
def yX3_begin : MethodName := ⟨RX3, "begin", "(II)V"⟩
abbrev cX3_isMissing : ByteArray := prog_5_method_3_code
def yX3_isMissing : MethodName := ⟨RX3, "isMissing", "(I)Z"⟩
def RX4 : String := "WheelStand$TurnLog"
def TX4 : u_T := fun k => match k with
  | 0 => ("WheelStand$TurnLog", "spokes", "[I", true)
  | 1 => ("WheelStand$TurnLog", "quarters", "[I", true)
  | _ => ("WheelStand$TurnLog", "many", "I", false)
def tyX4 : Nat → FieldType := fun k => match k with
  | 0 => .array .int
  | 1 => .array .int
  | _ => .int
abbrev wsX40 : List Cond := u_ws RX4 TX4 3
theorem nmX4 : ∀ a, a < 3 → ∀ b, b < 3 → a ≠ b → (TX4 a).2.1 ≠ (TX4 b).2.1 := by decide +kernel
theorem tyX4_ok : ∀ k, k < 3 → parseFieldDescriptor (TX4 k).2.2.1 = some (tyX4 k) := by decide +kernel
abbrev cX4_init : ByteArray := prog_6_method_1_code
def yX4_init : MethodName := ⟨RX4, "<init>", "()V"⟩
abbrev cX4_isFull : ByteArray := prog_6_method_2_code
def yX4_isFull : MethodName := ⟨RX4, "isFull", "()Z"⟩
abbrev cX4_add : ByteArray := prog_6_method_3_code
def yX4_add : MethodName := ⟨RX4, "add", "(II)V"⟩
abbrev cX4_allQuarters : ByteArray := prog_6_method_4_code
def yX4_allQuarters : MethodName := ⟨RX4, "allQuarters", "()I"⟩
def RX5 : String := "WheelStand$Wheel"
def TX5 : u_T := fun k => match k with
  | 0 => ("WheelStand$Wheel", "kinds", "[I", true)
  | 1 => ("WheelStand$Wheel", "pulls", "[I", true)
  | 2 => ("WheelStand$Wheel", "readings", "[[I", true)
  | 3 => ("WheelStand$Wheel", "straight", "[[I", true)
  | 4 => ("WheelStand$Wheel", "made", "[[I", true)
  | _ => ("WheelStand$Wheel", "holes", "I", false)
def tyX5 : Nat → FieldType := fun k => match k with
  | 0 => .array .int
  | 1 => .array .int
  | 2 => .array (.array .int)
  | 3 => .array (.array .int)
  | 4 => .array (.array .int)
  | _ => .int
abbrev wsX50 : List Cond := u_ws RX5 TX5 6
theorem nmX5 : ∀ a, a < 6 → ∀ b, b < 6 → a ≠ b → (TX5 a).2.1 ≠ (TX5 b).2.1 := by decide +kernel
theorem tyX5_ok : ∀ k, k < 6 → parseFieldDescriptor (TX5 k).2.2.1 = some (tyX5 k) := by decide +kernel
abbrev cX5_init : ByteArray := prog_7_method_1_code
def yX5_init : MethodName := ⟨RX5, "<init>", "()V"⟩
abbrev cX5_begin : ByteArray := prog_7_method_2_code
def yX5_begin : MethodName := ⟨RX5, "begin", "(I)V"⟩
abbrev cX5_hasHole : ByteArray := prog_7_method_3_code
def yX5_hasHole : MethodName := ⟨RX5, "hasHole", "(I)Z"⟩
abbrev cX5_isGone : ByteArray := prog_7_method_4_code
def yX5_isGone : MethodName := ⟨RX5, "isGone", "(I)Z"⟩
abbrev cX5_leanOf : ByteArray := prog_7_method_5_code
def yX5_leanOf : MethodName := ⟨RX5, "leanOf", "(I)I"⟩
abbrev cX5_forceOf : ByteArray := prog_7_method_6_code
def yX5_forceOf : MethodName := ⟨RX5, "forceOf", "(I)I"⟩
abbrev cX5_steps : ByteArray := prog_7_method_7_code
def yX5_steps : MethodName := ⟨RX5, "steps", "(II)I"⟩
abbrev cX5_bentAt : ByteArray := prog_7_method_8_code
def yX5_bentAt : MethodName := ⟨RX5, "bentAt", "(II)I"⟩
abbrev cX5_layStraight : ByteArray := prog_7_method_9_code
def yX5_layStraight : MethodName := ⟨RX5, "layStraight", "(I)V"⟩
abbrev cX5_between : ByteArray := prog_7_method_10_code
def yX5_between : MethodName := ⟨RX5, "between", "(II)I"⟩
abbrev cX5_stepsToRead : ByteArray := prog_7_method_11_code
def yX5_stepsToRead : MethodName := ⟨RX5, "stepsToRead", "(III)I"⟩
abbrev cX5_howManyStand : ByteArray := prog_7_method_12_code
def yX5_howManyStand : MethodName := ⟨RX5, "howManyStand", "()I"⟩
abbrev cX5_howManyRead : ByteArray := prog_7_method_13_code
def yX5_howManyRead : MethodName := ⟨RX5, "howManyRead", "(I)I"⟩
def RX6 : String := "WheelStand"
def TX6 : u_T := fun k => match k with
  | 0 => ("WheelStand", "tables", "LWheelStand$Tables;", true)
  | 1 => ("WheelStand", "rig", "LWheelStand$Wheel;", true)
  | 2 => ("WheelStand", "limits", "[I", true)
  | 3 => ("WheelStand", "gauge", "LWheelStand$Gauge;", true)
  | 4 => ("WheelStand", "search", "LWheelStand$Search;", true)
  | 5 => ("WheelStand", "turns", "LWheelStand$TurnLog;", true)
  | _ => ("WheelStand", "lacing", "LWheelStand$Lacing;", true)
def tyX6 : Nat → FieldType := fun k => match k with
  | 0 => .object "WheelStand$Tables"
  | 1 => .object "WheelStand$Wheel"
  | 2 => .array .int
  | 3 => .object "WheelStand$Gauge"
  | 4 => .object "WheelStand$Search"
  | 5 => .object "WheelStand$TurnLog"
  | _ => .object "WheelStand$Lacing"
abbrev wsX60 : List Cond := u_ws RX6 TX6 7
theorem nmX6 : ∀ a, a < 7 → ∀ b, b < 7 → a ≠ b → (TX6 a).2.1 ≠ (TX6 b).2.1 := by decide +kernel
theorem tyX6_ok : ∀ k, k < 7 → parseFieldDescriptor (TX6 k).2.2.1 = some (tyX6 k) := by decide +kernel
abbrev cX6_init : ByteArray := prog_1_method_1_code
def yX6_init : MethodName := ⟨RX6, "<init>", "()V"⟩
abbrev cX6_wheel : ByteArray := prog_1_method_2_code
def yX6_wheel : MethodName := ⟨RX6, "wheel", "(I)I"⟩
abbrev cX6_kind : ByteArray := prog_1_method_3_code
def yX6_kind : MethodName := ⟨RX6, "kind", "(II)I"⟩
abbrev cX6_table : ByteArray := prog_1_method_4_code
def yX6_table : MethodName := ⟨RX6, "table", "(II)I"⟩
abbrev cX6_enter : ByteArray := prog_1_method_5_code
def yX6_enter : MethodName := ⟨RX6, "enter", "(III)I"⟩
abbrev cX6_copy : ByteArray := prog_1_method_6_code
def yX6_copy : MethodName := ⟨RX6, "copy", "(III)I"⟩
abbrev cX6_read : ByteArray := prog_1_method_7_code
def yX6_read : MethodName := ⟨RX6, "read", "(III)I"⟩
abbrev cX6_limit : ByteArray := prog_1_method_8_code
def yX6_limit : MethodName := ⟨RX6, "limit", "(II)I"⟩
abbrev cX6_tune : ByteArray := prog_1_method_9_code
def yX6_tune : MethodName := ⟨RX6, "tune", "(II)I"⟩
abbrev cX6_about : ByteArray := prog_1_method_10_code
def yX6_about : MethodName := ⟨RX6, "about", "(II)I"⟩
abbrev cX6_isOf : ByteArray := prog_1_method_11_code
def yX6_isOf : MethodName := ⟨RX6, "isOf", "(II)I"⟩
abbrev cX6_tells : ByteArray := prog_1_method_12_code
def yX6_tells : MethodName := ⟨RX6, "tells", "(II)I"⟩
abbrev cX6_unbent : ByteArray := prog_1_method_13_code
def yX6_unbent : MethodName := ⟨RX6, "unbent", "(II)I"⟩
abbrev cX6_reading : ByteArray := prog_1_method_14_code
def yX6_reading : MethodName := ⟨RX6, "reading", "(II)I"⟩
abbrev cX6_state : ByteArray := prog_1_method_15_code
def yX6_state : MethodName := ⟨RX6, "state", "(I)I"⟩
abbrev cX6_why : ByteArray := prog_1_method_16_code
def yX6_why : MethodName := ⟨RX6, "why", "()I"⟩
abbrev cX6_turn : ByteArray := prog_1_method_17_code
def yX6_turn : MethodName := ⟨RX6, "turn", "(II)I"⟩
abbrev cX6_next : ByteArray := prog_1_method_18_code
def yX6_next : MethodName := ⟨RX6, "next", "()I"⟩
abbrev cX6_plan : ByteArray := prog_1_method_19_code
def yX6_plan : MethodName := ⟨RX6, "plan", "(I)I"⟩
abbrev cX6_fewest : ByteArray := prog_1_method_20_code
def yX6_fewest : MethodName := ⟨RX6, "fewest", "(I)I"⟩
abbrev cX6_log : ByteArray := prog_1_method_21_code
def yX6_log : MethodName := ⟨RX6, "log", "(II)I"⟩
abbrev cX6_undo : ByteArray := prog_1_method_22_code
def yX6_undo : MethodName := ⟨RX6, "undo", "()I"⟩
abbrev cX6_snap : ByteArray := prog_1_method_23_code
def yX6_snap : MethodName := ⟨RX6, "snap", "(I)I"⟩
abbrev cX6_anew : ByteArray := prog_1_method_24_code
def yX6_anew : MethodName := ⟨RX6, "anew", "(III)I"⟩
abbrev cX6_loaded : ByteArray := prog_1_method_25_code
def yX6_loaded : MethodName := ⟨RX6, "loaded", "(III)I"⟩
abbrev cX6_worstAt : ByteArray := prog_1_method_26_code
def yX6_worstAt : MethodName := ⟨RX6, "worstAt", "(I)I"⟩
abbrev cX6_lace : ByteArray := prog_1_method_27_code
def yX6_lace : MethodName := ⟨RX6, "lace", "(IIII)I"⟩
abbrev cX6_length : ByteArray := prog_1_method_28_code
def yX6_length : MethodName := ⟨RX6, "length", "(I)I"⟩
abbrev cX6_hub : ByteArray := prog_1_method_29_code
def yX6_hub : MethodName := ⟨RX6, "hub", "(I)I"⟩
abbrev cX6_crosses : ByteArray := prog_1_method_30_code
def yX6_crosses : MethodName := ⟨RX6, "crosses", "(II)I"⟩
abbrev cX6_crossings : ByteArray := prog_1_method_31_code
def yX6_crossings : MethodName := ⟨RX6, "crossings", "(I)I"⟩
abbrev cX6_count : ByteArray := prog_1_method_32_code
def yX6_count : MethodName := ⟨RX6, "count", "(I)I"⟩
abbrev cX6_lies : ByteArray := prog_1_method_33_code
def yX6_lies : MethodName := ⟨RX6, "lies", "(III)Z"⟩
abbrev cX6_isTable : ByteArray := prog_1_method_34_code
def yX6_isTable : MethodName := ⟨RX6, "isTable", "(I)Z"⟩
abbrev cX6_isRow : ByteArray := prog_1_method_35_code
def yX6_isRow : MethodName := ⟨RX6, "isRow", "(I)Z"⟩
abbrev cX6_canBePut : ByteArray := prog_1_method_36_code
def yX6_canBePut : MethodName := ⟨RX6, "canBePut", "(I)Z"⟩
abbrev cX6_asNumber : ByteArray := prog_1_method_37_code
def yX6_asNumber : MethodName := ⟨RX6, "asNumber", "(Z)I"⟩
abbrev cX6_pullAfterBreak : ByteArray := prog_1_method_38_code
def yX6_pullAfterBreak : MethodName := ⟨RX6, "pullAfterBreak", "(II)J"⟩
abbrev cX6_breaksTooMuch : ByteArray := prog_1_method_39_code
def yX6_breaksTooMuch : MethodName := ⟨RX6, "breaksTooMuch", "(I)Z"⟩
abbrev cX6_pullUnder : ByteArray := prog_1_method_40_code
def yX6_pullUnder : MethodName := ⟨RX6, "pullUnder", "(III)I"⟩
abbrev cX6_howManyLooseUnder : ByteArray := prog_1_method_41_code
def yX6_howManyLooseUnder : MethodName := ⟨RX6, "howManyLooseUnder", "(II)I"⟩
def RX7 : String := "WheelStandModel"
def TX7 : u_T := fun k => match k with
  | 0 => ("WheelStandModel", "holes", "I", false)
  | 1 => ("WheelStandModel", "kinds", "[I", true)
  | 2 => ("WheelStandModel", "pulls", "[J", true)
  | 3 => ("WheelStandModel", "made", "[J", true)
  | 4 => ("WheelStandModel", "read", "[I", true)
  | 5 => ("WheelStandModel", "places", "[I", true)
  | 6 => ("WheelStandModel", "tables", "[I", true)
  | 7 => ("WheelStandModel", "limits", "[I", true)
  | 8 => ("WheelStandModel", "log", "[I", true)
  | 9 => ("WheelStandModel", "logged", "I", false)
  | 10 => ("WheelStandModel", "radius", "I", false)
  | 11 => ("WheelStandModel", "off", "I", false)
  | 12 => ("WheelStandModel", "rim", "I", false)
  | 13 => ("WheelStandModel", "cross", "I", false)
  | 14 => ("WheelStandModel", "rims", "[J", true)
  | 15 => ("WheelStandModel", "isWorkedOut", "Z", false)
  | 16 => ("WheelStandModel", "aside", "[J", true)
  | 17 => ("WheelStandModel", "found", "I", false)
  | 18 => ("WheelStandModel", "foundS", "I", false)
  | 19 => ("WheelStandModel", "foundN", "I", false)
  | 20 => ("WheelStandModel", "foundT", "I", false)
  | _ => ("WheelStandModel", "foundM", "I", false)
def tyX7 : Nat → FieldType := fun k => match k with
  | 0 => .int
  | 1 => .array .int
  | 2 => .array .long
  | 3 => .array .long
  | 4 => .array .int
  | 5 => .array .int
  | 6 => .array .int
  | 7 => .array .int
  | 8 => .array .int
  | 9 => .int
  | 10 => .int
  | 11 => .int
  | 12 => .int
  | 13 => .int
  | 14 => .array .long
  | 15 => .boolean
  | 16 => .array .long
  | 17 => .int
  | 18 => .int
  | 19 => .int
  | 20 => .int
  | _ => .int
abbrev wsX70 : List Cond := u_ws RX7 TX7 22
theorem nmX7 : ∀ a, a < 22 → ∀ b, b < 22 → a ≠ b → (TX7 a).2.1 ≠ (TX7 b).2.1 := by decide +kernel
theorem tyX7_ok : ∀ k, k < 22 → parseFieldDescriptor (TX7 k).2.2.1 = some (tyX7 k) := by decide +kernel
abbrev cX7_init : ByteArray := prog_9_method_1_code
def yX7_init : MethodName := ⟨RX7, "<init>", "()V"⟩
abbrev cX7_begin : ByteArray := prog_9_method_2_code
def yX7_begin : MethodName := ⟨RX7, "begin", "(I)V"⟩
abbrev cX7_isIn : ByteArray := prog_9_method_3_code
def yX7_isIn : MethodName := ⟨RX7, "isIn", "(III)Z"⟩
abbrev cX7_isHole : ByteArray := prog_9_method_4_code
def yX7_isHole : MethodName := ⟨RX7, "isHole", "(I)Z"⟩
abbrev cX7_isGone : ByteArray := prog_9_method_5_code
def yX7_isGone : MethodName := ⟨RX7, "isGone", "(I)Z"⟩
abbrev cX7_isKind : ByteArray := prog_9_method_6_code
def yX7_isKind : MethodName := ⟨RX7, "isKind", "(I)Z"⟩
abbrev cX7_leans : ByteArray := prog_9_method_7_code
def yX7_leans : MethodName := ⟨RX7, "leans", "(I)I"⟩
abbrev cX7_force : ByteArray := prog_9_method_8_code
def yX7_force : MethodName := ⟨RX7, "force", "(I)I"⟩
abbrev cX7_steps : ByteArray := prog_9_method_9_code
def yX7_steps : MethodName := ⟨RX7, "steps", "(II)I"⟩
abbrev cX7_tell : ByteArray := prog_9_method_10_code
def yX7_tell : MethodName := ⟨RX7, "tell", "(II)I"⟩
abbrev cX7_cut : ByteArray := prog_9_method_11_code
def yX7_cut : MethodName := ⟨RX7, "cut", "(JJ)J"⟩
abbrev cX7_wheel : ByteArray := prog_9_method_12_code
def yX7_wheel : MethodName := ⟨RX7, "wheel", "(I)I"⟩
abbrev cX7_kind : ByteArray := prog_9_method_13_code
def yX7_kind : MethodName := ⟨RX7, "kind", "(II)I"⟩
abbrev cX7_table : ByteArray := prog_9_method_14_code
def yX7_table : MethodName := ⟨RX7, "table", "(II)I"⟩
abbrev cX7_enter : ByteArray := prog_9_method_15_code
def yX7_enter : MethodName := ⟨RX7, "enter", "(III)I"⟩
abbrev cX7_copy : ByteArray := prog_9_method_16_code
def yX7_copy : MethodName := ⟨RX7, "copy", "(III)I"⟩
abbrev cX7_read : ByteArray := prog_9_method_17_code
def yX7_read : MethodName := ⟨RX7, "read", "(III)I"⟩
abbrev cX7_limit : ByteArray := prog_9_method_18_code
def yX7_limit : MethodName := ⟨RX7, "limit", "(II)I"⟩
abbrev cX7_tune : ByteArray := prog_9_method_19_code
def yX7_tune : MethodName := ⟨RX7, "tune", "(II)I"⟩
abbrev cX7_about : ByteArray := prog_9_method_20_code
def yX7_about : MethodName := ⟨RX7, "about", "(II)I"⟩
abbrev cX7_isOf : ByteArray := prog_9_method_21_code
def yX7_isOf : MethodName := ⟨RX7, "isOf", "(II)I"⟩
abbrev cX7_tells : ByteArray := prog_9_method_22_code
def yX7_tells : MethodName := ⟨RX7, "tells", "(II)I"⟩
abbrev cX7_next : ByteArray := prog_9_method_23_code
def yX7_next : MethodName := ⟨RX7, "next", "(III)I"⟩
abbrev cX7_unbentAt : ByteArray := prog_9_method_24_code
def yX7_unbentAt : MethodName := ⟨RX7, "unbentAt", "(II)J"⟩
abbrev cX7_between : ByteArray := prog_9_method_25_code
def yX7_between : MethodName := ⟨RX7, "between", "(II)J"⟩
abbrev cX7_readingAt : ByteArray := prog_9_method_26_code
def yX7_readingAt : MethodName := ⟨RX7, "readingAt", "(II)J"⟩
abbrev cX7_unbent : ByteArray := prog_9_method_27_code
def yX7_unbent : MethodName := ⟨RX7, "unbent", "(II)I"⟩
abbrev cX7_reading : ByteArray := prog_9_method_28_code
def yX7_reading : MethodName := ⟨RX7, "reading", "(II)I"⟩
abbrev cX7_middle : ByteArray := prog_9_method_29_code
def yX7_middle : MethodName := ⟨RX7, "middle", "()J"⟩
abbrev cX7_spread : ByteArray := prog_9_method_30_code
def yX7_spread : MethodName := ⟨RX7, "spread", "(I)J"⟩
abbrev cX7_isLoose : ByteArray := prog_9_method_31_code
def yX7_isLoose : MethodName := ⟨RX7, "isLoose", "(I)Z"⟩
abbrev cX7_size : ByteArray := prog_9_method_32_code
def yX7_size : MethodName := ⟨RX7, "size", "(J)J"⟩
abbrev cX7_share : ByteArray := prog_9_method_33_code
def yX7_share : MethodName := ⟨RX7, "share", "(JI)J"⟩
abbrev cX7_greater : ByteArray := prog_9_method_34_code
def yX7_greater : MethodName := ⟨RX7, "greater", "(JJ)J"⟩
abbrev cX7_worst : ByteArray := prog_9_method_35_code
def yX7_worst : MethodName := ⟨RX7, "worst", "()J"⟩
abbrev cX7_fault : ByteArray := prog_9_method_36_code
def yX7_fault : MethodName := ⟨RX7, "fault", "()I"⟩
abbrev cX7_state : ByteArray := prog_9_method_37_code
def yX7_state : MethodName := ⟨RX7, "state", "(I)I"⟩
abbrev cX7_why : ByteArray := prog_9_method_38_code
def yX7_why : MethodName := ⟨RX7, "why", "()I"⟩
abbrev cX7_make : ByteArray := prog_9_method_39_code
def yX7_make : MethodName := ⟨RX7, "make", "(II)V"⟩
abbrev cX7_lay : ByteArray := prog_9_method_40_code
def yX7_lay : MethodName := ⟨RX7, "lay", "(I)V"⟩
abbrev cX7_bring : ByteArray := prog_9_method_41_code
def yX7_bring : MethodName := ⟨RX7, "bring", "(I)V"⟩
abbrev cX7_tries : ByteArray := prog_9_method_42_code
def yX7_tries : MethodName := ⟨RX7, "tries", "(III)Z"⟩
abbrev cX7_enterLog : ByteArray := prog_9_method_43_code
def yX7_enterLog : MethodName := ⟨RX7, "enterLog", "(II)V"⟩
abbrev cX7_turn : ByteArray := prog_9_method_44_code
def yX7_turn : MethodName := ⟨RX7, "turn", "(II)I"⟩
abbrev cX7_nextQuarter : ByteArray := prog_9_method_45_code
def yX7_nextQuarter : MethodName := ⟨RX7, "nextQuarter", "()I"⟩
abbrev cX7_next_ : ByteArray := prog_9_method_46_code
def yX7_next_ : MethodName := ⟨RX7, "next", "()I"⟩
abbrev cX7_plan : ByteArray := prog_9_method_47_code
def yX7_plan : MethodName := ⟨RX7, "plan", "(I)I"⟩
abbrev cX7_quarters : ByteArray := prog_9_method_48_code
def yX7_quarters : MethodName := ⟨RX7, "quarters", "(I)I"⟩
abbrev cX7_byOne : ByteArray := prog_9_method_49_code
def yX7_byOne : MethodName := ⟨RX7, "byOne", "()Z"⟩
abbrev cX7_bySecond : ByteArray := prog_9_method_50_code
def yX7_bySecond : MethodName := ⟨RX7, "bySecond", "(II)Z"⟩
abbrev cX7_byTwo : ByteArray := prog_9_method_51_code
def yX7_byTwo : MethodName := ⟨RX7, "byTwo", "()Z"⟩
abbrev cX7_fewest : ByteArray := prog_9_method_52_code
def yX7_fewest : MethodName := ⟨RX7, "fewest", "(I)I"⟩
abbrev cX7_log : ByteArray := prog_9_method_53_code
def yX7_log : MethodName := ⟨RX7, "log", "(II)I"⟩
abbrev cX7_undo : ByteArray := prog_9_method_54_code
def yX7_undo : MethodName := ⟨RX7, "undo", "()I"⟩
abbrev cX7_snap : ByteArray := prog_9_method_55_code
def yX7_snap : MethodName := ⟨RX7, "snap", "(I)I"⟩
abbrev cX7_anew : ByteArray := prog_9_method_56_code
def yX7_anew : MethodName := ⟨RX7, "anew", "(III)I"⟩
abbrev cX7_pullWith : ByteArray := prog_9_method_57_code
def yX7_pullWith : MethodName := ⟨RX7, "pullWith", "(III)J"⟩
abbrev cX7_loaded : ByteArray := prog_9_method_58_code
def yX7_loaded : MethodName := ⟨RX7, "loaded", "(III)I"⟩
abbrev cX7_worstAt : ByteArray := prog_9_method_59_code
def yX7_worstAt : MethodName := ⟨RX7, "worstAt", "(I)I"⟩
abbrev cX7_lace : ByteArray := prog_9_method_60_code
def yX7_lace : MethodName := ⟨RX7, "lace", "(IIII)I"⟩
abbrev cX7_sine16 : ByteArray := prog_9_method_61_code
def yX7_sine16 : MethodName := ⟨RX7, "sine16", "(I)I"⟩
abbrev cX7_sine : ByteArray := prog_9_method_62_code
def yX7_sine : MethodName := ⟨RX7, "sine", "(I)I"⟩
abbrev cX7_round : ByteArray := prog_9_method_63_code
def yX7_round : MethodName := ⟨RX7, "round", "(I)I"⟩
abbrev cX7_length : ByteArray := prog_9_method_64_code
def yX7_length : MethodName := ⟨RX7, "length", "(I)I"⟩
abbrev cX7_hub : ByteArray := prog_9_method_65_code
def yX7_hub : MethodName := ⟨RX7, "hub", "(I)I"⟩
abbrev cX7_isCross : ByteArray := prog_9_method_66_code
def yX7_isCross : MethodName := ⟨RX7, "isCross", "(II)Z"⟩
abbrev cX7_crosses : ByteArray := prog_9_method_67_code
def yX7_crosses : MethodName := ⟨RX7, "crosses", "(II)I"⟩
abbrev cX7_crossings : ByteArray := prog_9_method_68_code
def yX7_crossings : MethodName := ⟨RX7, "crossings", "(I)I"⟩
abbrev cX7_count : ByteArray := prog_9_method_69_code
def yX7_count : MethodName := ⟨RX7, "count", "(I)I"⟩
def RJ9 : String := "java/lang/Math"
def TJ9 : u_T := fun k => match k with
  | _ => ("", "", "", false)
abbrev cJ9_floorDiv_7cf53 : ByteArray := prog_10_method_47_code
def yJ9_floorDiv_7cf53 : MethodName := ⟨RJ9, "floorDiv", "(II)I"⟩
abbrev cJ9_floorDiv_f86c9 : ByteArray := prog_10_method_49_code
def yJ9_floorDiv_f86c9 : MethodName := ⟨RJ9, "floorDiv", "(JJ)J"⟩
abbrev cJ9_floorMod_7cf53 : ByteArray := prog_10_method_50_code
def yJ9_floorMod_7cf53 : MethodName := ⟨RJ9, "floorMod", "(II)I"⟩
abbrev cJ9_abs_0f7a4 : ByteArray := prog_10_method_59_code
def yJ9_abs_0f7a4 : MethodName := ⟨RJ9, "abs", "(I)I"⟩
abbrev cJ9_abs_067f4 : ByteArray := prog_10_method_61_code
def yJ9_abs_067f4 : MethodName := ⟨RJ9, "abs", "(J)J"⟩
abbrev cJ9_max_7cf53 : ByteArray := prog_10_method_65_code
def yJ9_max_7cf53 : MethodName := ⟨RJ9, "max", "(II)I"⟩
abbrev cJ9_max_f86c9 : ByteArray := prog_10_method_66_code
def yJ9_max_f86c9 : MethodName := ⟨RJ9, "max", "(JJ)J"⟩
abbrev cJ9_min_7cf53 : ByteArray := prog_10_method_69_code
def yJ9_min_7cf53 : MethodName := ⟨RJ9, "min", "(II)I"⟩
abbrev cJ9_min_f86c9 : ByteArray := prog_10_method_70_code
def yJ9_min_f86c9 : MethodName := ⟨RJ9, "min", "(JJ)J"⟩
def RL : String := "WheelStandLaw"
abbrev cL_law : ByteArray := code
def yL_law : MethodName := ⟨RL, "law", "([I)Z"⟩
end
section
theorem dX0_init_0 : decode cX0_init 0 = .ok (.aload_n 0, 1) := by decide +kernel
theorem dX0_init_1 : decode cX0_init 1 = .ok (.invokespecial 3, 3) := by decide +kernel
theorem dX0_init_4 : decode cX0_init 4 = .ok (.aload_n 0, 1) := by decide +kernel
theorem dX0_init_5 : decode cX0_init 5 = .ok (.aload_n 1, 1) := by decide +kernel
theorem dX0_init_6 : decode cX0_init 6 = .ok (.putfield 9, 3) := by decide +kernel
theorem dX0_init_9 : decode cX0_init 9 = .ok (.aload_n 0, 1) := by decide +kernel
theorem dX0_init_10 : decode cX0_init 10 = .ok (.aload_n 2, 1) := by decide +kernel
theorem dX0_init_11 : decode cX0_init 11 = .ok (.putfield 15, 3) := by decide +kernel
theorem dX0_init_14 : decode cX0_init 14 = .ok (.aload_n 0, 1) := by decide +kernel
theorem dX0_init_15 : decode cX0_init 15 = .ok (.aload_n 3, 1) := by decide +kernel
theorem dX0_init_16 : decode cX0_init 16 = .ok (.putfield 19, 3) := by decide +kernel
theorem dX0_init_19 : decode cX0_init 19 = .ok (.return_, 1) := by decide +kernel
theorem dX0_rest_0 : decode cX0_rest 0 = .ok (.aload_n 0, 1) := by decide +kernel
theorem dX0_rest_1 : decode cX0_rest 1 = .ok (.iconst 0, 1) := by decide +kernel
theorem dX0_rest_2 : decode cX0_rest 2 = .ok (.iconst 0, 1) := by decide +kernel
theorem dX0_rest_3 : decode cX0_rest 3 = .ok (.invokevirtual 23, 3) := by decide +kernel
theorem dX0_rest_6 : decode cX0_rest 6 = .ok (.aload_n 0, 1) := by decide +kernel
theorem dX0_rest_7 : decode cX0_rest 7 = .ok (.lconst 0, 1) := by decide +kernel
theorem dX0_rest_8 : decode cX0_rest 8 = .ok (.putfield 27, 3) := by decide +kernel
theorem dX0_rest_11 : decode cX0_rest 11 = .ok (.aload_n 0, 1) := by decide +kernel
theorem dX0_rest_12 : decode cX0_rest 12 = .ok (.lconst 0, 1) := by decide +kernel
theorem dX0_rest_13 : decode cX0_rest 13 = .ok (.putfield 31, 3) := by decide +kernel
theorem dX0_rest_16 : decode cX0_rest 16 = .ok (.iconst 0, 1) := by decide +kernel
theorem dX0_rest_17 : decode cX0_rest 17 = .ok (.istore_n 1, 1) := by decide +kernel
theorem dX0_rest_18 : decode cX0_rest 18 = .ok (.iload_n 1, 1) := by decide +kernel
theorem dX0_rest_19 : decode cX0_rest 19 = .ok (.aload_n 0, 1) := by decide +kernel
theorem dX0_rest_20 : decode cX0_rest 20 = .ok (.getfield 9, 3) := by decide +kernel
theorem dX0_rest_23 : decode cX0_rest 23 = .ok (.getfield 34, 3) := by decide +kernel
theorem dX0_rest_26 : decode cX0_rest 26 = .ok (.if_icmp .ge 57, 3) := by decide +kernel
theorem dX0_rest_29 : decode cX0_rest 29 = .ok (.aload_n 0, 1) := by decide +kernel
theorem dX0_rest_30 : decode cX0_rest 30 = .ok (.dup, 1) := by decide +kernel
theorem dX0_rest_31 : decode cX0_rest 31 = .ok (.getfield 27, 3) := by decide +kernel
theorem dX0_rest_34 : decode cX0_rest 34 = .ok (.aload_n 0, 1) := by decide +kernel
theorem dX0_rest_35 : decode cX0_rest 35 = .ok (.getfield 9, 3) := by decide +kernel
theorem dX0_rest_38 : decode cX0_rest 38 = .ok (.iconst 0, 1) := by decide +kernel
theorem dX0_rest_39 : decode cX0_rest 39 = .ok (.iload_n 1, 1) := by decide +kernel
theorem dX0_rest_40 : decode cX0_rest 40 = .ok (.invokevirtual 40, 3) := by decide +kernel
theorem dX0_rest_43 : decode cX0_rest 43 = .ok (.i2l, 1) := by decide +kernel
theorem dX0_rest_44 : decode cX0_rest 44 = .ok (.ladd, 1) := by decide +kernel
theorem dX0_rest_45 : decode cX0_rest 45 = .ok (.putfield 27, 3) := by decide +kernel
theorem dX0_rest_48 : decode cX0_rest 48 = .ok (.aload_n 0, 1) := by decide +kernel
theorem dX0_rest_49 : decode cX0_rest 49 = .ok (.dup, 1) := by decide +kernel
theorem dX0_rest_50 : decode cX0_rest 50 = .ok (.getfield 31, 3) := by decide +kernel
theorem dX0_rest_53 : decode cX0_rest 53 = .ok (.aload_n 0, 1) := by decide +kernel
theorem dX0_rest_54 : decode cX0_rest 54 = .ok (.getfield 15, 3) := by decide +kernel
theorem dX0_rest_57 : decode cX0_rest 57 = .ok (.getfield 44, 3) := by decide +kernel
theorem dX0_rest_60 : decode cX0_rest 60 = .ok (.iconst 0, 1) := by decide +kernel
theorem dX0_rest_61 : decode cX0_rest 61 = .ok (.aaload, 1) := by decide +kernel
theorem dX0_rest_62 : decode cX0_rest 62 = .ok (.aload_n 0, 1) := by decide +kernel
theorem dX0_rest_63 : decode cX0_rest 63 = .ok (.getfield 9, 3) := by decide +kernel
theorem dX0_rest_66 : decode cX0_rest 66 = .ok (.iconst 0, 1) := by decide +kernel
theorem dX0_rest_67 : decode cX0_rest 67 = .ok (.iload_n 1, 1) := by decide +kernel
theorem dX0_rest_68 : decode cX0_rest 68 = .ok (.invokevirtual 50, 3) := by decide +kernel
theorem dX0_rest_71 : decode cX0_rest 71 = .ok (.iaload, 1) := by decide +kernel
theorem dX0_rest_72 : decode cX0_rest 72 = .ok (.i2l, 1) := by decide +kernel
theorem dX0_rest_73 : decode cX0_rest 73 = .ok (.ladd, 1) := by decide +kernel
theorem dX0_rest_74 : decode cX0_rest 74 = .ok (.putfield 31, 3) := by decide +kernel
theorem dX0_rest_77 : decode cX0_rest 77 = .ok (.iinc 1 1, 3) := by decide +kernel
theorem dX0_rest_80 : decode cX0_rest 80 = .ok (.goto (-62), 3) := by decide +kernel
theorem dX0_rest_83 : decode cX0_rest 83 = .ok (.return_, 1) := by decide +kernel
theorem dX0_suppose_0 : decode cX0_suppose 0 = .ok (.aload_n 0, 1) := by decide +kernel
theorem dX0_suppose_1 : decode cX0_suppose 1 = .ok (.iload_n 1, 1) := by decide +kernel
theorem dX0_suppose_2 : decode cX0_suppose 2 = .ok (.putfield 53, 3) := by decide +kernel
theorem dX0_suppose_5 : decode cX0_suppose 5 = .ok (.aload_n 0, 1) := by decide +kernel
theorem dX0_suppose_6 : decode cX0_suppose 6 = .ok (.aload_n 0, 1) := by decide +kernel
theorem dX0_suppose_7 : decode cX0_suppose 7 = .ok (.getfield 9, 3) := by decide +kernel
theorem dX0_suppose_10 : decode cX0_suppose 10 = .ok (.iload_n 1, 1) := by decide +kernel
theorem dX0_suppose_11 : decode cX0_suppose 11 = .ok (.invokevirtual 56, 3) := by decide +kernel
theorem dX0_suppose_14 : decode cX0_suppose 14 = .ok (.putfield 60, 3) := by decide +kernel
theorem dX0_suppose_17 : decode cX0_suppose 17 = .ok (.aload_n 0, 1) := by decide +kernel
theorem dX0_suppose_18 : decode cX0_suppose 18 = .ok (.iload_n 2, 1) := by decide +kernel
theorem dX0_suppose_19 : decode cX0_suppose 19 = .ok (.aload_n 0, 1) := by decide +kernel
theorem dX0_suppose_20 : decode cX0_suppose 20 = .ok (.getfield 9, 3) := by decide +kernel
theorem dX0_suppose_23 : decode cX0_suppose 23 = .ok (.iload_n 1, 1) := by decide +kernel
theorem dX0_suppose_24 : decode cX0_suppose 24 = .ok (.invokevirtual 63, 3) := by decide +kernel
theorem dX0_suppose_27 : decode cX0_suppose 27 = .ok (.imul, 1) := by decide +kernel
theorem dX0_suppose_28 : decode cX0_suppose 28 = .ok (.putfield 66, 3) := by decide +kernel
theorem dX0_suppose_31 : decode cX0_suppose 31 = .ok (.aload_n 0, 1) := by decide +kernel
theorem dX0_suppose_32 : decode cX0_suppose 32 = .ok (.aload_n 0, 1) := by decide +kernel
theorem dX0_suppose_33 : decode cX0_suppose 33 = .ok (.getfield 66, 3) := by decide +kernel
theorem dX0_suppose_36 : decode cX0_suppose 36 = .ok (.aload_n 0, 1) := by decide +kernel
theorem dX0_suppose_37 : decode cX0_suppose 37 = .ok (.getfield 60, 3) := by decide +kernel
theorem dX0_suppose_40 : decode cX0_suppose 40 = .ok (.imul, 1) := by decide +kernel
theorem dX0_suppose_41 : decode cX0_suppose 41 = .ok (.putfield 69, 3) := by decide +kernel
theorem dX0_suppose_44 : decode cX0_suppose 44 = .ok (.return_, 1) := by decide +kernel
theorem dX0_keep_0 : decode cX0_keep 0 = .ok (.iconst 0, 1) := by decide +kernel
theorem dX0_keep_1 : decode cX0_keep 1 = .ok (.istore_n 1, 1) := by decide +kernel
theorem dX0_keep_2 : decode cX0_keep 2 = .ok (.iload_n 1, 1) := by decide +kernel
theorem dX0_keep_3 : decode cX0_keep 3 = .ok (.aload_n 0, 1) := by decide +kernel
theorem dX0_keep_4 : decode cX0_keep 4 = .ok (.getfield 9, 3) := by decide +kernel
theorem dX0_keep_7 : decode cX0_keep 7 = .ok (.getfield 34, 3) := by decide +kernel
theorem dX0_keep_10 : decode cX0_keep 10 = .ok (.if_icmp .ge 63, 3) := by decide +kernel
theorem dX0_keep_13 : decode cX0_keep 13 = .ok (.aload_n 0, 1) := by decide +kernel
theorem dX0_keep_14 : decode cX0_keep 14 = .ok (.getfield 9, 3) := by decide +kernel
theorem dX0_keep_17 : decode cX0_keep 17 = .ok (.getfield 72, 3) := by decide +kernel
theorem dX0_keep_20 : decode cX0_keep 20 = .ok (.iconst 0, 1) := by decide +kernel
theorem dX0_keep_21 : decode cX0_keep 21 = .ok (.aaload, 1) := by decide +kernel
theorem dX0_keep_22 : decode cX0_keep 22 = .ok (.iload_n 1, 1) := by decide +kernel
theorem dX0_keep_23 : decode cX0_keep 23 = .ok (.dup2, 1) := by decide +kernel
theorem dX0_keep_24 : decode cX0_keep 24 = .ok (.iaload, 1) := by decide +kernel
theorem dX0_keep_25 : decode cX0_keep 25 = .ok (.aload_n 0, 1) := by decide +kernel
theorem dX0_keep_26 : decode cX0_keep 26 = .ok (.iconst 0, 1) := by decide +kernel
theorem dX0_keep_27 : decode cX0_keep 27 = .ok (.iload_n 1, 1) := by decide +kernel
theorem dX0_keep_28 : decode cX0_keep 28 = .ok (.invokevirtual 75, 3) := by decide +kernel
theorem dX0_keep_31 : decode cX0_keep 31 = .ok (.iadd, 1) := by decide +kernel
theorem dX0_keep_32 : decode cX0_keep 32 = .ok (.iastore, 1) := by decide +kernel
theorem dX0_keep_33 : decode cX0_keep 33 = .ok (.aload_n 0, 1) := by decide +kernel
theorem dX0_keep_34 : decode cX0_keep 34 = .ok (.getfield 9, 3) := by decide +kernel
theorem dX0_keep_37 : decode cX0_keep 37 = .ok (.getfield 72, 3) := by decide +kernel
theorem dX0_keep_40 : decode cX0_keep 40 = .ok (.iconst 1, 1) := by decide +kernel
theorem dX0_keep_41 : decode cX0_keep 41 = .ok (.aaload, 1) := by decide +kernel
theorem dX0_keep_42 : decode cX0_keep 42 = .ok (.iload_n 1, 1) := by decide +kernel
theorem dX0_keep_43 : decode cX0_keep 43 = .ok (.dup2, 1) := by decide +kernel
theorem dX0_keep_44 : decode cX0_keep 44 = .ok (.iaload, 1) := by decide +kernel
theorem dX0_keep_45 : decode cX0_keep 45 = .ok (.aload_n 0, 1) := by decide +kernel
theorem dX0_keep_46 : decode cX0_keep 46 = .ok (.iconst 1, 1) := by decide +kernel
theorem dX0_keep_47 : decode cX0_keep 47 = .ok (.iload_n 1, 1) := by decide +kernel
theorem dX0_keep_48 : decode cX0_keep 48 = .ok (.invokevirtual 75, 3) := by decide +kernel
theorem dX0_keep_51 : decode cX0_keep 51 = .ok (.iadd, 1) := by decide +kernel
theorem dX0_keep_52 : decode cX0_keep 52 = .ok (.iastore, 1) := by decide +kernel
theorem dX0_keep_53 : decode cX0_keep 53 = .ok (.aload_n 0, 1) := by decide +kernel
theorem dX0_keep_54 : decode cX0_keep 54 = .ok (.getfield 9, 3) := by decide +kernel
theorem dX0_keep_57 : decode cX0_keep 57 = .ok (.getfield 78, 3) := by decide +kernel
theorem dX0_keep_60 : decode cX0_keep 60 = .ok (.iload_n 1, 1) := by decide +kernel
theorem dX0_keep_61 : decode cX0_keep 61 = .ok (.aload_n 0, 1) := by decide +kernel
theorem dX0_keep_62 : decode cX0_keep 62 = .ok (.iload_n 1, 1) := by decide +kernel
theorem dX0_keep_63 : decode cX0_keep 63 = .ok (.invokevirtual 81, 3) := by decide +kernel
theorem dX0_keep_66 : decode cX0_keep 66 = .ok (.iastore, 1) := by decide +kernel
theorem dX0_keep_67 : decode cX0_keep 67 = .ok (.iinc 1 1, 3) := by decide +kernel
theorem dX0_keep_70 : decode cX0_keep 70 = .ok (.goto (-68), 3) := by decide +kernel
theorem dX0_keep_73 : decode cX0_keep 73 = .ok (.aload_n 0, 1) := by decide +kernel
theorem dX0_keep_74 : decode cX0_keep 74 = .ok (.invokevirtual 84, 3) := by decide +kernel
theorem dX0_keep_77 : decode cX0_keep 77 = .ok (.return_, 1) := by decide +kernel
theorem dX0_shiftAt_0 : decode cX0_shiftAt 0 = .ok (.iload_n 1, 1) := by decide +kernel
theorem dX0_shiftAt_1 : decode cX0_shiftAt 1 = .ok (.ifCond .ne 10, 3) := by decide +kernel
theorem dX0_shiftAt_4 : decode cX0_shiftAt 4 = .ok (.aload_n 0, 1) := by decide +kernel
theorem dX0_shiftAt_5 : decode cX0_shiftAt 5 = .ok (.getfield 69, 3) := by decide +kernel
theorem dX0_shiftAt_8 : decode cX0_shiftAt 8 = .ok (.goto 7, 3) := by decide +kernel
theorem dX0_shiftAt_11 : decode cX0_shiftAt 11 = .ok (.aload_n 0, 1) := by decide +kernel
theorem dX0_shiftAt_12 : decode cX0_shiftAt 12 = .ok (.getfield 66, 3) := by decide +kernel
theorem dX0_shiftAt_15 : decode cX0_shiftAt 15 = .ok (.istore_n 3, 1) := by decide +kernel
theorem dX0_shiftAt_16 : decode cX0_shiftAt 16 = .ok (.iload_n 3, 1) := by decide +kernel
theorem dX0_shiftAt_17 : decode cX0_shiftAt 17 = .ok (.aload_n 0, 1) := by decide +kernel
theorem dX0_shiftAt_18 : decode cX0_shiftAt 18 = .ok (.getfield 15, 3) := by decide +kernel
theorem dX0_shiftAt_21 : decode cX0_shiftAt 21 = .ok (.getfield 44, 3) := by decide +kernel
theorem dX0_shiftAt_24 : decode cX0_shiftAt 24 = .ok (.iload_n 1, 1) := by decide +kernel
theorem dX0_shiftAt_25 : decode cX0_shiftAt 25 = .ok (.aaload, 1) := by decide +kernel
theorem dX0_shiftAt_26 : decode cX0_shiftAt 26 = .ok (.aload_n 0, 1) := by decide +kernel
theorem dX0_shiftAt_27 : decode cX0_shiftAt 27 = .ok (.getfield 9, 3) := by decide +kernel
theorem dX0_shiftAt_30 : decode cX0_shiftAt 30 = .ok (.aload_n 0, 1) := by decide +kernel
theorem dX0_shiftAt_31 : decode cX0_shiftAt 31 = .ok (.getfield 53, 3) := by decide +kernel
theorem dX0_shiftAt_34 : decode cX0_shiftAt 34 = .ok (.iload_n 2, 1) := by decide +kernel
theorem dX0_shiftAt_35 : decode cX0_shiftAt 35 = .ok (.invokevirtual 50, 3) := by decide +kernel
theorem dX0_shiftAt_38 : decode cX0_shiftAt 38 = .ok (.iaload, 1) := by decide +kernel
theorem dX0_shiftAt_39 : decode cX0_shiftAt 39 = .ok (.imul, 1) := by decide +kernel
theorem dX0_shiftAt_40 : decode cX0_shiftAt 40 = .ok (.ireturn, 1) := by decide +kernel
theorem dX0_readingAt_0 : decode cX0_readingAt 0 = .ok (.aload_n 0, 1) := by decide +kernel
theorem dX0_readingAt_1 : decode cX0_readingAt 1 = .ok (.getfield 9, 3) := by decide +kernel
theorem dX0_readingAt_4 : decode cX0_readingAt 4 = .ok (.iload_n 1, 1) := by decide +kernel
theorem dX0_readingAt_5 : decode cX0_readingAt 5 = .ok (.iload_n 2, 1) := by decide +kernel
theorem dX0_readingAt_6 : decode cX0_readingAt 6 = .ok (.invokevirtual 40, 3) := by decide +kernel
theorem dX0_readingAt_9 : decode cX0_readingAt 9 = .ok (.aload_n 0, 1) := by decide +kernel
theorem dX0_readingAt_10 : decode cX0_readingAt 10 = .ok (.iload_n 1, 1) := by decide +kernel
theorem dX0_readingAt_11 : decode cX0_readingAt 11 = .ok (.iload_n 2, 1) := by decide +kernel
theorem dX0_readingAt_12 : decode cX0_readingAt 12 = .ok (.invokevirtual 75, 3) := by decide +kernel
theorem dX0_readingAt_15 : decode cX0_readingAt 15 = .ok (.iadd, 1) := by decide +kernel
theorem dX0_readingAt_16 : decode cX0_readingAt 16 = .ok (.ireturn, 1) := by decide +kernel
theorem dX0_pullOf_0 : decode cX0_pullOf 0 = .ok (.aload_n 0, 1) := by decide +kernel
theorem dX0_pullOf_1 : decode cX0_pullOf 1 = .ok (.getfield 66, 3) := by decide +kernel
theorem dX0_pullOf_4 : decode cX0_pullOf 4 = .ok (.ifCond .eq 14, 3) := by decide +kernel
theorem dX0_pullOf_7 : decode cX0_pullOf 7 = .ok (.aload_n 0, 1) := by decide +kernel
theorem dX0_pullOf_8 : decode cX0_pullOf 8 = .ok (.getfield 9, 3) := by decide +kernel
theorem dX0_pullOf_11 : decode cX0_pullOf 11 = .ok (.iload_n 1, 1) := by decide +kernel
theorem dX0_pullOf_12 : decode cX0_pullOf 12 = .ok (.invokevirtual 87, 3) := by decide +kernel
theorem dX0_pullOf_15 : decode cX0_pullOf 15 = .ok (.ifCond .eq 13, 3) := by decide +kernel
theorem dX0_pullOf_18 : decode cX0_pullOf 18 = .ok (.aload_n 0, 1) := by decide +kernel
theorem dX0_pullOf_19 : decode cX0_pullOf 19 = .ok (.getfield 9, 3) := by decide +kernel
theorem dX0_pullOf_22 : decode cX0_pullOf 22 = .ok (.getfield 78, 3) := by decide +kernel
theorem dX0_pullOf_25 : decode cX0_pullOf 25 = .ok (.iload_n 1, 1) := by decide +kernel
theorem dX0_pullOf_26 : decode cX0_pullOf 26 = .ok (.iaload, 1) := by decide +kernel
theorem dX0_pullOf_27 : decode cX0_pullOf 27 = .ok (.ireturn, 1) := by decide +kernel
theorem dX0_pullOf_28 : decode cX0_pullOf 28 = .ok (.aload_n 0, 1) := by decide +kernel
theorem dX0_pullOf_29 : decode cX0_pullOf 29 = .ok (.getfield 9, 3) := by decide +kernel
theorem dX0_pullOf_32 : decode cX0_pullOf 32 = .ok (.iload_n 1, 1) := by decide +kernel
theorem dX0_pullOf_33 : decode cX0_pullOf 33 = .ok (.invokevirtual 56, 3) := by decide +kernel
theorem dX0_pullOf_36 : decode cX0_pullOf 36 = .ok (.aload_n 0, 1) := by decide +kernel
theorem dX0_pullOf_37 : decode cX0_pullOf 37 = .ok (.getfield 60, 3) := by decide +kernel
theorem dX0_pullOf_40 : decode cX0_pullOf 40 = .ok (.if_icmp .ne 7, 3) := by decide +kernel
theorem dX0_pullOf_43 : decode cX0_pullOf 43 = .ok (.iconst 2, 1) := by decide +kernel
theorem dX0_pullOf_44 : decode cX0_pullOf 44 = .ok (.goto 4, 3) := by decide +kernel
theorem dX0_pullOf_47 : decode cX0_pullOf 47 = .ok (.iconst 3, 1) := by decide +kernel
theorem dX0_pullOf_48 : decode cX0_pullOf 48 = .ok (.istore_n 2, 1) := by decide +kernel
theorem dX0_pullOf_49 : decode cX0_pullOf 49 = .ok (.aload_n 0, 1) := by decide +kernel
theorem dX0_pullOf_50 : decode cX0_pullOf 50 = .ok (.getfield 9, 3) := by decide +kernel
theorem dX0_pullOf_53 : decode cX0_pullOf 53 = .ok (.getfield 78, 3) := by decide +kernel
theorem dX0_pullOf_56 : decode cX0_pullOf 56 = .ok (.iload_n 1, 1) := by decide +kernel
theorem dX0_pullOf_57 : decode cX0_pullOf 57 = .ok (.iaload, 1) := by decide +kernel
theorem dX0_pullOf_58 : decode cX0_pullOf 58 = .ok (.aload_n 0, 1) := by decide +kernel
theorem dX0_pullOf_59 : decode cX0_pullOf 59 = .ok (.getfield 66, 3) := by decide +kernel
theorem dX0_pullOf_62 : decode cX0_pullOf 62 = .ok (.aload_n 0, 1) := by decide +kernel
theorem dX0_pullOf_63 : decode cX0_pullOf 63 = .ok (.getfield 15, 3) := by decide +kernel
theorem dX0_pullOf_66 : decode cX0_pullOf 66 = .ok (.getfield 44, 3) := by decide +kernel
theorem dX0_pullOf_69 : decode cX0_pullOf 69 = .ok (.iload_n 2, 1) := by decide +kernel
theorem dX0_pullOf_70 : decode cX0_pullOf 70 = .ok (.aaload, 1) := by decide +kernel
theorem dX0_pullOf_71 : decode cX0_pullOf 71 = .ok (.aload_n 0, 1) := by decide +kernel
theorem dX0_pullOf_72 : decode cX0_pullOf 72 = .ok (.getfield 9, 3) := by decide +kernel
theorem dX0_pullOf_75 : decode cX0_pullOf 75 = .ok (.aload_n 0, 1) := by decide +kernel
theorem dX0_pullOf_76 : decode cX0_pullOf 76 = .ok (.getfield 53, 3) := by decide +kernel
theorem dX0_pullOf_79 : decode cX0_pullOf 79 = .ok (.iload_n 1, 1) := by decide +kernel
theorem dX0_pullOf_80 : decode cX0_pullOf 80 = .ok (.invokevirtual 50, 3) := by decide +kernel
theorem dX0_pullOf_83 : decode cX0_pullOf 83 = .ok (.iaload, 1) := by decide +kernel
theorem dX0_pullOf_84 : decode cX0_pullOf 84 = .ok (.imul, 1) := by decide +kernel
theorem dX0_pullOf_85 : decode cX0_pullOf 85 = .ok (.iadd, 1) := by decide +kernel
theorem dX0_pullOf_86 : decode cX0_pullOf 86 = .ok (.ireturn, 1) := by decide +kernel
theorem dX0_middle_0 : decode cX0_middle 0 = .ok (.aload_n 0, 1) := by decide +kernel
theorem dX0_middle_1 : decode cX0_middle 1 = .ok (.getfield 27, 3) := by decide +kernel
theorem dX0_middle_4 : decode cX0_middle 4 = .ok (.aload_n 0, 1) := by decide +kernel
theorem dX0_middle_5 : decode cX0_middle 5 = .ok (.getfield 69, 3) := by decide +kernel
theorem dX0_middle_8 : decode cX0_middle 8 = .ok (.i2l, 1) := by decide +kernel
theorem dX0_middle_9 : decode cX0_middle 9 = .ok (.aload_n 0, 1) := by decide +kernel
theorem dX0_middle_10 : decode cX0_middle 10 = .ok (.getfield 31, 3) := by decide +kernel
theorem dX0_middle_13 : decode cX0_middle 13 = .ok (.lmul, 1) := by decide +kernel
theorem dX0_middle_14 : decode cX0_middle 14 = .ok (.ladd, 1) := by decide +kernel
theorem dX0_middle_15 : decode cX0_middle 15 = .ok (.aload_n 0, 1) := by decide +kernel
theorem dX0_middle_16 : decode cX0_middle 16 = .ok (.getfield 9, 3) := by decide +kernel
theorem dX0_middle_19 : decode cX0_middle 19 = .ok (.getfield 34, 3) := by decide +kernel
theorem dX0_middle_22 : decode cX0_middle 22 = .ok (.i2l, 1) := by decide +kernel
theorem dX0_middle_23 : decode cX0_middle 23 = .ok (.invokestatic 91, 3) := by decide +kernel
theorem dX0_middle_26 : decode cX0_middle 26 = .ok (.l2i, 1) := by decide +kernel
theorem dX0_middle_27 : decode cX0_middle 27 = .ok (.ireturn, 1) := by decide +kernel
theorem dX0_spreadOf_0 : decode cX0_spreadOf 0 = .ok (.ldc 99, 2) := by decide +kernel
theorem dX0_spreadOf_2 : decode cX0_spreadOf 2 = .ok (.istore_n 2, 1) := by decide +kernel
theorem dX0_spreadOf_3 : decode cX0_spreadOf 3 = .ok (.ldc 100, 2) := by decide +kernel
theorem dX0_spreadOf_5 : decode cX0_spreadOf 5 = .ok (.istore_n 3, 1) := by decide +kernel
theorem dX0_spreadOf_6 : decode cX0_spreadOf 6 = .ok (.iconst 0, 1) := by decide +kernel
theorem dX0_spreadOf_7 : decode cX0_spreadOf 7 = .ok (.istore 4, 2) := by decide +kernel
theorem dX0_spreadOf_9 : decode cX0_spreadOf 9 = .ok (.iload 4, 2) := by decide +kernel
theorem dX0_spreadOf_11 : decode cX0_spreadOf 11 = .ok (.aload_n 0, 1) := by decide +kernel
theorem dX0_spreadOf_12 : decode cX0_spreadOf 12 = .ok (.getfield 9, 3) := by decide +kernel
theorem dX0_spreadOf_15 : decode cX0_spreadOf 15 = .ok (.getfield 34, 3) := by decide +kernel
theorem dX0_spreadOf_18 : decode cX0_spreadOf 18 = .ok (.if_icmp .ge 44, 3) := by decide +kernel
theorem dX0_spreadOf_21 : decode cX0_spreadOf 21 = .ok (.aload_n 0, 1) := by decide +kernel
theorem dX0_spreadOf_22 : decode cX0_spreadOf 22 = .ok (.getfield 9, 3) := by decide +kernel
theorem dX0_spreadOf_25 : decode cX0_spreadOf 25 = .ok (.iload 4, 2) := by decide +kernel
theorem dX0_spreadOf_27 : decode cX0_spreadOf 27 = .ok (.invokevirtual 56, 3) := by decide +kernel
theorem dX0_spreadOf_30 : decode cX0_spreadOf 30 = .ok (.iload_n 1, 1) := by decide +kernel
theorem dX0_spreadOf_31 : decode cX0_spreadOf 31 = .ok (.if_icmp .ne 25, 3) := by decide +kernel
theorem dX0_spreadOf_34 : decode cX0_spreadOf 34 = .ok (.aload_n 0, 1) := by decide +kernel
theorem dX0_spreadOf_35 : decode cX0_spreadOf 35 = .ok (.iload 4, 2) := by decide +kernel
theorem dX0_spreadOf_37 : decode cX0_spreadOf 37 = .ok (.invokevirtual 81, 3) := by decide +kernel
theorem dX0_spreadOf_40 : decode cX0_spreadOf 40 = .ok (.istore 5, 2) := by decide +kernel
theorem dX0_spreadOf_42 : decode cX0_spreadOf 42 = .ok (.iload_n 2, 1) := by decide +kernel
theorem dX0_spreadOf_43 : decode cX0_spreadOf 43 = .ok (.iload 5, 2) := by decide +kernel
theorem dX0_spreadOf_45 : decode cX0_spreadOf 45 = .ok (.invokestatic 101, 3) := by decide +kernel
theorem dX0_spreadOf_48 : decode cX0_spreadOf 48 = .ok (.istore_n 2, 1) := by decide +kernel
theorem dX0_spreadOf_49 : decode cX0_spreadOf 49 = .ok (.iload_n 3, 1) := by decide +kernel
theorem dX0_spreadOf_50 : decode cX0_spreadOf 50 = .ok (.iload 5, 2) := by decide +kernel
theorem dX0_spreadOf_52 : decode cX0_spreadOf 52 = .ok (.invokestatic 104, 3) := by decide +kernel
theorem dX0_spreadOf_55 : decode cX0_spreadOf 55 = .ok (.istore_n 3, 1) := by decide +kernel
theorem dX0_spreadOf_56 : decode cX0_spreadOf 56 = .ok (.iinc 4 1, 3) := by decide +kernel
theorem dX0_spreadOf_59 : decode cX0_spreadOf 59 = .ok (.goto (-50), 3) := by decide +kernel
theorem dX0_spreadOf_62 : decode cX0_spreadOf 62 = .ok (.iload_n 3, 1) := by decide +kernel
theorem dX0_spreadOf_63 : decode cX0_spreadOf 63 = .ok (.iload_n 2, 1) := by decide +kernel
theorem dX0_spreadOf_64 : decode cX0_spreadOf 64 = .ok (.if_icmp .ge 7, 3) := by decide +kernel
theorem dX0_spreadOf_67 : decode cX0_spreadOf 67 = .ok (.iconst 0, 1) := by decide +kernel
theorem dX0_spreadOf_68 : decode cX0_spreadOf 68 = .ok (.goto 6, 3) := by decide +kernel
theorem dX0_spreadOf_71 : decode cX0_spreadOf 71 = .ok (.iload_n 3, 1) := by decide +kernel
theorem dX0_spreadOf_72 : decode cX0_spreadOf 72 = .ok (.iload_n 2, 1) := by decide +kernel
theorem dX0_spreadOf_73 : decode cX0_spreadOf 73 = .ok (.isub, 1) := by decide +kernel
theorem dX0_spreadOf_74 : decode cX0_spreadOf 74 = .ok (.ireturn, 1) := by decide +kernel
theorem dX0_worst_0 : decode cX0_worst 0 = .ok (.aload_n 0, 1) := by decide +kernel
theorem dX0_worst_1 : decode cX0_worst 1 = .ok (.aload_n 0, 1) := by decide +kernel
theorem dX0_worst_2 : decode cX0_worst 2 = .ok (.iconst 0, 1) := by decide +kernel
theorem dX0_worst_3 : decode cX0_worst 3 = .ok (.invokevirtual 107, 3) := by decide +kernel
theorem dX0_worst_6 : decode cX0_worst 6 = .ok (.iconst 0, 1) := by decide +kernel
theorem dX0_worst_7 : decode cX0_worst 7 = .ok (.invokevirtual 110, 3) := by decide +kernel
theorem dX0_worst_10 : decode cX0_worst 10 = .ok (.aload_n 0, 1) := by decide +kernel
theorem dX0_worst_11 : decode cX0_worst 11 = .ok (.aload_n 0, 1) := by decide +kernel
theorem dX0_worst_12 : decode cX0_worst 12 = .ok (.iconst 1, 1) := by decide +kernel
theorem dX0_worst_13 : decode cX0_worst 13 = .ok (.invokevirtual 107, 3) := by decide +kernel
theorem dX0_worst_16 : decode cX0_worst 16 = .ok (.iconst 1, 1) := by decide +kernel
theorem dX0_worst_17 : decode cX0_worst 17 = .ok (.invokevirtual 110, 3) := by decide +kernel
theorem dX0_worst_20 : decode cX0_worst 20 = .ok (.invokestatic 114, 3) := by decide +kernel
theorem dX0_worst_23 : decode cX0_worst 23 = .ok (.lstore_n 1, 1) := by decide +kernel
theorem dX0_worst_24 : decode cX0_worst 24 = .ok (.lload_n 1, 1) := by decide +kernel
theorem dX0_worst_25 : decode cX0_worst 25 = .ok (.aload_n 0, 1) := by decide +kernel
theorem dX0_worst_26 : decode cX0_worst 26 = .ok (.aload_n 0, 1) := by decide +kernel
theorem dX0_worst_27 : decode cX0_worst 27 = .ok (.invokevirtual 116, 3) := by decide +kernel
theorem dX0_worst_30 : decode cX0_worst 30 = .ok (.invokestatic 120, 3) := by decide +kernel
theorem dX0_worst_33 : decode cX0_worst 33 = .ok (.iconst 2, 1) := by decide +kernel
theorem dX0_worst_34 : decode cX0_worst 34 = .ok (.invokevirtual 110, 3) := by decide +kernel
theorem dX0_worst_37 : decode cX0_worst 37 = .ok (.invokestatic 114, 3) := by decide +kernel
theorem dX0_worst_40 : decode cX0_worst 40 = .ok (.lstore_n 1, 1) := by decide +kernel
theorem dX0_worst_41 : decode cX0_worst 41 = .ok (.lload_n 1, 1) := by decide +kernel
theorem dX0_worst_42 : decode cX0_worst 42 = .ok (.aload_n 0, 1) := by decide +kernel
theorem dX0_worst_43 : decode cX0_worst 43 = .ok (.aload_n 0, 1) := by decide +kernel
theorem dX0_worst_44 : decode cX0_worst 44 = .ok (.iconst 1, 1) := by decide +kernel
theorem dX0_worst_45 : decode cX0_worst 45 = .ok (.invokevirtual 123, 3) := by decide +kernel
theorem dX0_worst_48 : decode cX0_worst 48 = .ok (.aload_n 0, 1) := by decide +kernel
theorem dX0_worst_49 : decode cX0_worst 49 = .ok (.iconst (-1), 1) := by decide +kernel
theorem dX0_worst_50 : decode cX0_worst 50 = .ok (.invokevirtual 123, 3) := by decide +kernel
theorem dX0_worst_53 : decode cX0_worst 53 = .ok (.invokestatic 104, 3) := by decide +kernel
theorem dX0_worst_56 : decode cX0_worst 56 = .ok (.iconst 3, 1) := by decide +kernel
theorem dX0_worst_57 : decode cX0_worst 57 = .ok (.invokevirtual 110, 3) := by decide +kernel
theorem dX0_worst_60 : decode cX0_worst 60 = .ok (.invokestatic 114, 3) := by decide +kernel
theorem dX0_worst_63 : decode cX0_worst 63 = .ok (.lstore_n 1, 1) := by decide +kernel
theorem dX0_worst_64 : decode cX0_worst 64 = .ok (.lload_n 1, 1) := by decide +kernel
theorem dX0_worst_65 : decode cX0_worst 65 = .ok (.ldc2_w 126, 3) := by decide +kernel
theorem dX0_worst_68 : decode cX0_worst 68 = .ok (.invokestatic 128, 3) := by decide +kernel
theorem dX0_worst_71 : decode cX0_worst 71 = .ok (.l2i, 1) := by decide +kernel
theorem dX0_worst_72 : decode cX0_worst 72 = .ok (.ireturn, 1) := by decide +kernel
theorem dX0_share_0 : decode cX0_share 0 = .ok (.ldc2_w 130, 3) := by decide +kernel
theorem dX0_share_3 : decode cX0_share 3 = .ok (.iload_n 1, 1) := by decide +kernel
theorem dX0_share_4 : decode cX0_share 4 = .ok (.i2l, 1) := by decide +kernel
theorem dX0_share_5 : decode cX0_share 5 = .ok (.lmul, 1) := by decide +kernel
theorem dX0_share_6 : decode cX0_share 6 = .ok (.aload_n 0, 1) := by decide +kernel
theorem dX0_share_7 : decode cX0_share 7 = .ok (.getfield 19, 3) := by decide +kernel
theorem dX0_share_10 : decode cX0_share 10 = .ok (.iload_n 2, 1) := by decide +kernel
theorem dX0_share_11 : decode cX0_share 11 = .ok (.iaload, 1) := by decide +kernel
theorem dX0_share_12 : decode cX0_share 12 = .ok (.i2l, 1) := by decide +kernel
theorem dX0_share_13 : decode cX0_share 13 = .ok (.invokestatic 91, 3) := by decide +kernel
theorem dX0_share_16 : decode cX0_share 16 = .ok (.lreturn, 1) := by decide +kernel
theorem dX0_greatestSize_0 : decode cX0_greatestSize 0 = .ok (.iconst 0, 1) := by decide +kernel
theorem dX0_greatestSize_1 : decode cX0_greatestSize 1 = .ok (.istore_n 2, 1) := by decide +kernel
theorem dX0_greatestSize_2 : decode cX0_greatestSize 2 = .ok (.iconst 0, 1) := by decide +kernel
theorem dX0_greatestSize_3 : decode cX0_greatestSize 3 = .ok (.istore_n 3, 1) := by decide +kernel
theorem dX0_greatestSize_4 : decode cX0_greatestSize 4 = .ok (.iload_n 3, 1) := by decide +kernel
theorem dX0_greatestSize_5 : decode cX0_greatestSize 5 = .ok (.aload_n 0, 1) := by decide +kernel
theorem dX0_greatestSize_6 : decode cX0_greatestSize 6 = .ok (.getfield 9, 3) := by decide +kernel
theorem dX0_greatestSize_9 : decode cX0_greatestSize 9 = .ok (.getfield 34, 3) := by decide +kernel
theorem dX0_greatestSize_12 : decode cX0_greatestSize 12 = .ok (.if_icmp .ge 23, 3) := by decide +kernel
theorem dX0_greatestSize_15 : decode cX0_greatestSize 15 = .ok (.iload_n 2, 1) := by decide +kernel
theorem dX0_greatestSize_16 : decode cX0_greatestSize 16 = .ok (.aload_n 0, 1) := by decide +kernel
theorem dX0_greatestSize_17 : decode cX0_greatestSize 17 = .ok (.iload_n 1, 1) := by decide +kernel
theorem dX0_greatestSize_18 : decode cX0_greatestSize 18 = .ok (.iload_n 3, 1) := by decide +kernel
theorem dX0_greatestSize_19 : decode cX0_greatestSize 19 = .ok (.invokevirtual 132, 3) := by decide +kernel
theorem dX0_greatestSize_22 : decode cX0_greatestSize 22 = .ok (.invokestatic 120, 3) := by decide +kernel
theorem dX0_greatestSize_25 : decode cX0_greatestSize 25 = .ok (.invokestatic 104, 3) := by decide +kernel
theorem dX0_greatestSize_28 : decode cX0_greatestSize 28 = .ok (.istore_n 2, 1) := by decide +kernel
theorem dX0_greatestSize_29 : decode cX0_greatestSize 29 = .ok (.iinc 3 1, 3) := by decide +kernel
theorem dX0_greatestSize_32 : decode cX0_greatestSize 32 = .ok (.goto (-28), 3) := by decide +kernel
theorem dX0_greatestSize_35 : decode cX0_greatestSize 35 = .ok (.iload_n 2, 1) := by decide +kernel
theorem dX0_greatestSize_36 : decode cX0_greatestSize 36 = .ok (.ireturn, 1) := by decide +kernel
theorem dX0_howManyLoose_0 : decode cX0_howManyLoose 0 = .ok (.iconst 0, 1) := by decide +kernel
theorem dX0_howManyLoose_1 : decode cX0_howManyLoose 1 = .ok (.istore_n 1, 1) := by decide +kernel
theorem dX0_howManyLoose_2 : decode cX0_howManyLoose 2 = .ok (.iconst 0, 1) := by decide +kernel
theorem dX0_howManyLoose_3 : decode cX0_howManyLoose 3 = .ok (.istore_n 2, 1) := by decide +kernel
theorem dX0_howManyLoose_4 : decode cX0_howManyLoose 4 = .ok (.iload_n 2, 1) := by decide +kernel
theorem dX0_howManyLoose_5 : decode cX0_howManyLoose 5 = .ok (.aload_n 0, 1) := by decide +kernel
theorem dX0_howManyLoose_6 : decode cX0_howManyLoose 6 = .ok (.getfield 9, 3) := by decide +kernel
theorem dX0_howManyLoose_9 : decode cX0_howManyLoose 9 = .ok (.getfield 34, 3) := by decide +kernel
theorem dX0_howManyLoose_12 : decode cX0_howManyLoose 12 = .ok (.if_icmp .ge 20, 3) := by decide +kernel
theorem dX0_howManyLoose_15 : decode cX0_howManyLoose 15 = .ok (.aload_n 0, 1) := by decide +kernel
theorem dX0_howManyLoose_16 : decode cX0_howManyLoose 16 = .ok (.iload_n 2, 1) := by decide +kernel
theorem dX0_howManyLoose_17 : decode cX0_howManyLoose 17 = .ok (.invokevirtual 135, 3) := by decide +kernel
theorem dX0_howManyLoose_20 : decode cX0_howManyLoose 20 = .ok (.ifCond .eq 6, 3) := by decide +kernel
theorem dX0_howManyLoose_23 : decode cX0_howManyLoose 23 = .ok (.iinc 1 1, 3) := by decide +kernel
theorem dX0_howManyLoose_26 : decode cX0_howManyLoose 26 = .ok (.iinc 2 1, 3) := by decide +kernel
theorem dX0_howManyLoose_29 : decode cX0_howManyLoose 29 = .ok (.goto (-25), 3) := by decide +kernel
theorem dX0_howManyLoose_32 : decode cX0_howManyLoose 32 = .ok (.iload_n 1, 1) := by decide +kernel
theorem dX0_howManyLoose_33 : decode cX0_howManyLoose 33 = .ok (.ireturn, 1) := by decide +kernel
theorem dX0_isLoose_0 : decode cX0_isLoose 0 = .ok (.aload_n 0, 1) := by decide +kernel
theorem dX0_isLoose_1 : decode cX0_isLoose 1 = .ok (.iload_n 1, 1) := by decide +kernel
theorem dX0_isLoose_2 : decode cX0_isLoose 2 = .ok (.invokevirtual 81, 3) := by decide +kernel
theorem dX0_isLoose_5 : decode cX0_isLoose 5 = .ok (.ifCond .ge 7, 3) := by decide +kernel
theorem dX0_isLoose_8 : decode cX0_isLoose 8 = .ok (.iconst 1, 1) := by decide +kernel
theorem dX0_isLoose_9 : decode cX0_isLoose 9 = .ok (.goto 4, 3) := by decide +kernel
theorem dX0_isLoose_12 : decode cX0_isLoose 12 = .ok (.iconst 0, 1) := by decide +kernel
theorem dX0_isLoose_13 : decode cX0_isLoose 13 = .ok (.ireturn, 1) := by decide +kernel
theorem dX0_isBent_0 : decode cX0_isBent 0 = .ok (.aload_n 0, 1) := by decide +kernel
theorem dX0_isBent_1 : decode cX0_isBent 1 = .ok (.iload_n 1, 1) := by decide +kernel
theorem dX0_isBent_2 : decode cX0_isBent 2 = .ok (.iload_n 2, 1) := by decide +kernel
theorem dX0_isBent_3 : decode cX0_isBent 3 = .ok (.invokevirtual 132, 3) := by decide +kernel
theorem dX0_isBent_6 : decode cX0_isBent 6 = .ok (.invokestatic 120, 3) := by decide +kernel
theorem dX0_isBent_9 : decode cX0_isBent 9 = .ok (.aload_n 0, 1) := by decide +kernel
theorem dX0_isBent_10 : decode cX0_isBent 10 = .ok (.getfield 19, 3) := by decide +kernel
theorem dX0_isBent_13 : decode cX0_isBent 13 = .ok (.iload_n 1, 1) := by decide +kernel
theorem dX0_isBent_14 : decode cX0_isBent 14 = .ok (.iaload, 1) := by decide +kernel
theorem dX0_isBent_15 : decode cX0_isBent 15 = .ok (.if_icmp .le 7, 3) := by decide +kernel
theorem dX0_isBent_18 : decode cX0_isBent 18 = .ok (.iconst 1, 1) := by decide +kernel
theorem dX0_isBent_19 : decode cX0_isBent 19 = .ok (.goto 4, 3) := by decide +kernel
theorem dX0_isBent_22 : decode cX0_isBent 22 = .ok (.iconst 0, 1) := by decide +kernel
theorem dX0_isBent_23 : decode cX0_isBent 23 = .ok (.ireturn, 1) := by decide +kernel
theorem dX0_isOffMiddle_0 : decode cX0_isOffMiddle 0 = .ok (.aload_n 0, 1) := by decide +kernel
theorem dX0_isOffMiddle_1 : decode cX0_isOffMiddle 1 = .ok (.invokevirtual 116, 3) := by decide +kernel
theorem dX0_isOffMiddle_4 : decode cX0_isOffMiddle 4 = .ok (.invokestatic 120, 3) := by decide +kernel
theorem dX0_isOffMiddle_7 : decode cX0_isOffMiddle 7 = .ok (.aload_n 0, 1) := by decide +kernel
theorem dX0_isOffMiddle_8 : decode cX0_isOffMiddle 8 = .ok (.getfield 19, 3) := by decide +kernel
theorem dX0_isOffMiddle_11 : decode cX0_isOffMiddle 11 = .ok (.iconst 2, 1) := by decide +kernel
theorem dX0_isOffMiddle_12 : decode cX0_isOffMiddle 12 = .ok (.iaload, 1) := by decide +kernel
theorem dX0_isOffMiddle_13 : decode cX0_isOffMiddle 13 = .ok (.if_icmp .le 7, 3) := by decide +kernel
theorem dX0_isOffMiddle_16 : decode cX0_isOffMiddle 16 = .ok (.iconst 1, 1) := by decide +kernel
theorem dX0_isOffMiddle_17 : decode cX0_isOffMiddle 17 = .ok (.goto 4, 3) := by decide +kernel
theorem dX0_isOffMiddle_20 : decode cX0_isOffMiddle 20 = .ok (.iconst 0, 1) := by decide +kernel
theorem dX0_isOffMiddle_21 : decode cX0_isOffMiddle 21 = .ok (.ireturn, 1) := by decide +kernel
theorem dX0_isSpread_0 : decode cX0_isSpread 0 = .ok (.aload_n 0, 1) := by decide +kernel
theorem dX0_isSpread_1 : decode cX0_isSpread 1 = .ok (.iload_n 1, 1) := by decide +kernel
theorem dX0_isSpread_2 : decode cX0_isSpread 2 = .ok (.invokevirtual 123, 3) := by decide +kernel
theorem dX0_isSpread_5 : decode cX0_isSpread 5 = .ok (.aload_n 0, 1) := by decide +kernel
theorem dX0_isSpread_6 : decode cX0_isSpread 6 = .ok (.getfield 19, 3) := by decide +kernel
theorem dX0_isSpread_9 : decode cX0_isSpread 9 = .ok (.iconst 3, 1) := by decide +kernel
theorem dX0_isSpread_10 : decode cX0_isSpread 10 = .ok (.iaload, 1) := by decide +kernel
theorem dX0_isSpread_11 : decode cX0_isSpread 11 = .ok (.if_icmp .le 7, 3) := by decide +kernel
theorem dX0_isSpread_14 : decode cX0_isSpread 14 = .ok (.iconst 1, 1) := by decide +kernel
theorem dX0_isSpread_15 : decode cX0_isSpread 15 = .ok (.goto 4, 3) := by decide +kernel
theorem dX0_isSpread_18 : decode cX0_isSpread 18 = .ok (.iconst 0, 1) := by decide +kernel
theorem dX0_isSpread_19 : decode cX0_isSpread 19 = .ok (.ireturn, 1) := by decide +kernel
theorem dX0_bearsTooMuch_0 : decode cX0_bearsTooMuch 0 = .ok (.aload_n 0, 1) := by decide +kernel
theorem dX0_bearsTooMuch_1 : decode cX0_bearsTooMuch 1 = .ok (.iload_n 1, 1) := by decide +kernel
theorem dX0_bearsTooMuch_2 : decode cX0_bearsTooMuch 2 = .ok (.invokevirtual 81, 3) := by decide +kernel
theorem dX0_bearsTooMuch_5 : decode cX0_bearsTooMuch 5 = .ok (.aload_n 0, 1) := by decide +kernel
theorem dX0_bearsTooMuch_6 : decode cX0_bearsTooMuch 6 = .ok (.getfield 19, 3) := by decide +kernel
theorem dX0_bearsTooMuch_9 : decode cX0_bearsTooMuch 9 = .ok (.iconst 4, 1) := by decide +kernel
theorem dX0_bearsTooMuch_10 : decode cX0_bearsTooMuch 10 = .ok (.iaload, 1) := by decide +kernel
theorem dX0_bearsTooMuch_11 : decode cX0_bearsTooMuch 11 = .ok (.if_icmp .le 7, 3) := by decide +kernel
theorem dX0_bearsTooMuch_14 : decode cX0_bearsTooMuch 14 = .ok (.iconst 1, 1) := by decide +kernel
theorem dX0_bearsTooMuch_15 : decode cX0_bearsTooMuch 15 = .ok (.goto 4, 3) := by decide +kernel
theorem dX0_bearsTooMuch_18 : decode cX0_bearsTooMuch 18 = .ok (.iconst 0, 1) := by decide +kernel
theorem dX0_bearsTooMuch_19 : decode cX0_bearsTooMuch 19 = .ok (.ireturn, 1) := by decide +kernel
theorem dX0_firstFault_0 : decode cX0_firstFault 0 = .ok (.iconst 0, 1) := by decide +kernel
theorem dX0_firstFault_1 : decode cX0_firstFault 1 = .ok (.istore_n 1, 1) := by decide +kernel
theorem dX0_firstFault_2 : decode cX0_firstFault 2 = .ok (.iload_n 1, 1) := by decide +kernel
theorem dX0_firstFault_3 : decode cX0_firstFault 3 = .ok (.iconst 2, 1) := by decide +kernel
theorem dX0_firstFault_4 : decode cX0_firstFault 4 = .ok (.if_icmp .ge 44, 3) := by decide +kernel
theorem dX0_firstFault_7 : decode cX0_firstFault 7 = .ok (.iconst 0, 1) := by decide +kernel
theorem dX0_firstFault_8 : decode cX0_firstFault 8 = .ok (.istore_n 2, 1) := by decide +kernel
theorem dX0_firstFault_9 : decode cX0_firstFault 9 = .ok (.iload_n 2, 1) := by decide +kernel
theorem dX0_firstFault_10 : decode cX0_firstFault 10 = .ok (.aload_n 0, 1) := by decide +kernel
theorem dX0_firstFault_11 : decode cX0_firstFault 11 = .ok (.getfield 9, 3) := by decide +kernel
theorem dX0_firstFault_14 : decode cX0_firstFault 14 = .ok (.getfield 34, 3) := by decide +kernel
theorem dX0_firstFault_17 : decode cX0_firstFault 17 = .ok (.if_icmp .ge 25, 3) := by decide +kernel
theorem dX0_firstFault_20 : decode cX0_firstFault 20 = .ok (.aload_n 0, 1) := by decide +kernel
theorem dX0_firstFault_21 : decode cX0_firstFault 21 = .ok (.iload_n 1, 1) := by decide +kernel
theorem dX0_firstFault_22 : decode cX0_firstFault 22 = .ok (.iload_n 2, 1) := by decide +kernel
theorem dX0_firstFault_23 : decode cX0_firstFault 23 = .ok (.invokevirtual 138, 3) := by decide +kernel
theorem dX0_firstFault_26 : decode cX0_firstFault 26 = .ok (.ifCond .eq 10, 3) := by decide +kernel
theorem dX0_firstFault_29 : decode cX0_firstFault 29 = .ok (.bipush 100, 2) := by decide +kernel
theorem dX0_firstFault_31 : decode cX0_firstFault 31 = .ok (.iload_n 1, 1) := by decide +kernel
theorem dX0_firstFault_32 : decode cX0_firstFault 32 = .ok (.imul, 1) := by decide +kernel
theorem dX0_firstFault_33 : decode cX0_firstFault 33 = .ok (.iload_n 2, 1) := by decide +kernel
theorem dX0_firstFault_34 : decode cX0_firstFault 34 = .ok (.iadd, 1) := by decide +kernel
theorem dX0_firstFault_35 : decode cX0_firstFault 35 = .ok (.ireturn, 1) := by decide +kernel
theorem dX0_firstFault_36 : decode cX0_firstFault 36 = .ok (.iinc 2 1, 3) := by decide +kernel
theorem dX0_firstFault_39 : decode cX0_firstFault 39 = .ok (.goto (-30), 3) := by decide +kernel
theorem dX0_firstFault_42 : decode cX0_firstFault 42 = .ok (.iinc 1 1, 3) := by decide +kernel
theorem dX0_firstFault_45 : decode cX0_firstFault 45 = .ok (.goto (-43), 3) := by decide +kernel
theorem dX0_firstFault_48 : decode cX0_firstFault 48 = .ok (.aload_n 0, 1) := by decide +kernel
theorem dX0_firstFault_49 : decode cX0_firstFault 49 = .ok (.invokevirtual 142, 3) := by decide +kernel
theorem dX0_firstFault_52 : decode cX0_firstFault 52 = .ok (.ifCond .eq 7, 3) := by decide +kernel
theorem dX0_firstFault_55 : decode cX0_firstFault 55 = .ok (.sipush 200, 3) := by decide +kernel
theorem dX0_firstFault_58 : decode cX0_firstFault 58 = .ok (.ireturn, 1) := by decide +kernel
theorem dX0_firstFault_59 : decode cX0_firstFault 59 = .ok (.aload_n 0, 1) := by decide +kernel
theorem dX0_firstFault_60 : decode cX0_firstFault 60 = .ok (.iconst 1, 1) := by decide +kernel
theorem dX0_firstFault_61 : decode cX0_firstFault 61 = .ok (.invokevirtual 146, 3) := by decide +kernel
theorem dX0_firstFault_64 : decode cX0_firstFault 64 = .ok (.ifCond .eq 7, 3) := by decide +kernel
theorem dX0_firstFault_67 : decode cX0_firstFault 67 = .ok (.sipush 300, 3) := by decide +kernel
theorem dX0_firstFault_70 : decode cX0_firstFault 70 = .ok (.ireturn, 1) := by decide +kernel
theorem dX0_firstFault_71 : decode cX0_firstFault 71 = .ok (.aload_n 0, 1) := by decide +kernel
theorem dX0_firstFault_72 : decode cX0_firstFault 72 = .ok (.iconst (-1), 1) := by decide +kernel
theorem dX0_firstFault_73 : decode cX0_firstFault 73 = .ok (.invokevirtual 146, 3) := by decide +kernel
theorem dX0_firstFault_76 : decode cX0_firstFault 76 = .ok (.ifCond .eq 7, 3) := by decide +kernel
theorem dX0_firstFault_79 : decode cX0_firstFault 79 = .ok (.sipush 301, 3) := by decide +kernel
theorem dX0_firstFault_82 : decode cX0_firstFault 82 = .ok (.ireturn, 1) := by decide +kernel
theorem dX0_firstFault_83 : decode cX0_firstFault 83 = .ok (.iconst 0, 1) := by decide +kernel
theorem dX0_firstFault_84 : decode cX0_firstFault 84 = .ok (.istore_n 1, 1) := by decide +kernel
theorem dX0_firstFault_85 : decode cX0_firstFault 85 = .ok (.iload_n 1, 1) := by decide +kernel
theorem dX0_firstFault_86 : decode cX0_firstFault 86 = .ok (.aload_n 0, 1) := by decide +kernel
theorem dX0_firstFault_87 : decode cX0_firstFault 87 = .ok (.getfield 9, 3) := by decide +kernel
theorem dX0_firstFault_90 : decode cX0_firstFault 90 = .ok (.getfield 34, 3) := by decide +kernel
theorem dX0_firstFault_93 : decode cX0_firstFault 93 = .ok (.if_icmp .ge 23, 3) := by decide +kernel
theorem dX0_firstFault_96 : decode cX0_firstFault 96 = .ok (.aload_n 0, 1) := by decide +kernel
theorem dX0_firstFault_97 : decode cX0_firstFault 97 = .ok (.iload_n 1, 1) := by decide +kernel
theorem dX0_firstFault_98 : decode cX0_firstFault 98 = .ok (.invokevirtual 135, 3) := by decide +kernel
theorem dX0_firstFault_101 : decode cX0_firstFault 101 = .ok (.ifCond .eq 9, 3) := by decide +kernel
theorem dX0_firstFault_104 : decode cX0_firstFault 104 = .ok (.sipush 400, 3) := by decide +kernel
theorem dX0_firstFault_107 : decode cX0_firstFault 107 = .ok (.iload_n 1, 1) := by decide +kernel
theorem dX0_firstFault_108 : decode cX0_firstFault 108 = .ok (.iadd, 1) := by decide +kernel
theorem dX0_firstFault_109 : decode cX0_firstFault 109 = .ok (.ireturn, 1) := by decide +kernel
theorem dX0_firstFault_110 : decode cX0_firstFault 110 = .ok (.iinc 1 1, 3) := by decide +kernel
theorem dX0_firstFault_113 : decode cX0_firstFault 113 = .ok (.goto (-28), 3) := by decide +kernel
theorem dX0_firstFault_116 : decode cX0_firstFault 116 = .ok (.ldc 149, 2) := by decide +kernel
theorem dX0_firstFault_118 : decode cX0_firstFault 118 = .ok (.ireturn, 1) := by decide +kernel
theorem dX0_firstOverload_0 : decode cX0_firstOverload 0 = .ok (.iconst 0, 1) := by decide +kernel
theorem dX0_firstOverload_1 : decode cX0_firstOverload 1 = .ok (.istore_n 1, 1) := by decide +kernel
theorem dX0_firstOverload_2 : decode cX0_firstOverload 2 = .ok (.iload_n 1, 1) := by decide +kernel
theorem dX0_firstOverload_3 : decode cX0_firstOverload 3 = .ok (.aload_n 0, 1) := by decide +kernel
theorem dX0_firstOverload_4 : decode cX0_firstOverload 4 = .ok (.getfield 9, 3) := by decide +kernel
theorem dX0_firstOverload_7 : decode cX0_firstOverload 7 = .ok (.getfield 34, 3) := by decide +kernel
theorem dX0_firstOverload_10 : decode cX0_firstOverload 10 = .ok (.if_icmp .ge 23, 3) := by decide +kernel
theorem dX0_firstOverload_13 : decode cX0_firstOverload 13 = .ok (.aload_n 0, 1) := by decide +kernel
theorem dX0_firstOverload_14 : decode cX0_firstOverload 14 = .ok (.iload_n 1, 1) := by decide +kernel
theorem dX0_firstOverload_15 : decode cX0_firstOverload 15 = .ok (.invokevirtual 150, 3) := by decide +kernel
theorem dX0_firstOverload_18 : decode cX0_firstOverload 18 = .ok (.ifCond .eq 9, 3) := by decide +kernel
theorem dX0_firstOverload_21 : decode cX0_firstOverload 21 = .ok (.sipush 500, 3) := by decide +kernel
theorem dX0_firstOverload_24 : decode cX0_firstOverload 24 = .ok (.iload_n 1, 1) := by decide +kernel
theorem dX0_firstOverload_25 : decode cX0_firstOverload 25 = .ok (.iadd, 1) := by decide +kernel
theorem dX0_firstOverload_26 : decode cX0_firstOverload 26 = .ok (.ireturn, 1) := by decide +kernel
theorem dX0_firstOverload_27 : decode cX0_firstOverload 27 = .ok (.iinc 1 1, 3) := by decide +kernel
theorem dX0_firstOverload_30 : decode cX0_firstOverload 30 = .ok (.goto (-28), 3) := by decide +kernel
theorem dX0_firstOverload_33 : decode cX0_firstOverload 33 = .ok (.ldc 149, 2) := by decide +kernel
theorem dX0_firstOverload_35 : decode cX0_firstOverload 35 = .ok (.ireturn, 1) := by decide +kernel
theorem dX0_hasFault_0 : decode cX0_hasFault 0 = .ok (.iload_n 1, 1) := by decide +kernel
theorem dX0_hasFault_1 : decode cX0_hasFault 1 = .ok (.bipush 100, 2) := by decide +kernel
theorem dX0_hasFault_3 : decode cX0_hasFault 3 = .ok (.irem, 1) := by decide +kernel
theorem dX0_hasFault_4 : decode cX0_hasFault 4 = .ok (.istore_n 2, 1) := by decide +kernel
theorem dX0_hasFault_5 : decode cX0_hasFault 5 = .ok (.iload_n 1, 1) := by decide +kernel
theorem dX0_hasFault_6 : decode cX0_hasFault 6 = .ok (.bipush 100, 2) := by decide +kernel
theorem dX0_hasFault_8 : decode cX0_hasFault 8 = .ok (.idiv, 1) := by decide +kernel
theorem dX0_hasFault_9 : decode cX0_hasFault 9 = .ok (.tableswitch 84 0 5 #[39, 46, 53, 58, 72, 78], 39) := by decide +kernel
theorem dX0_hasFault_48 : decode cX0_hasFault 48 = .ok (.aload_n 0, 1) := by decide +kernel
theorem dX0_hasFault_49 : decode cX0_hasFault 49 = .ok (.iconst 0, 1) := by decide +kernel
theorem dX0_hasFault_50 : decode cX0_hasFault 50 = .ok (.iload_n 2, 1) := by decide +kernel
theorem dX0_hasFault_51 : decode cX0_hasFault 51 = .ok (.invokevirtual 138, 3) := by decide +kernel
theorem dX0_hasFault_54 : decode cX0_hasFault 54 = .ok (.ireturn, 1) := by decide +kernel
theorem dX0_hasFault_55 : decode cX0_hasFault 55 = .ok (.aload_n 0, 1) := by decide +kernel
theorem dX0_hasFault_56 : decode cX0_hasFault 56 = .ok (.iconst 1, 1) := by decide +kernel
theorem dX0_hasFault_57 : decode cX0_hasFault 57 = .ok (.iload_n 2, 1) := by decide +kernel
theorem dX0_hasFault_58 : decode cX0_hasFault 58 = .ok (.invokevirtual 138, 3) := by decide +kernel
theorem dX0_hasFault_61 : decode cX0_hasFault 61 = .ok (.ireturn, 1) := by decide +kernel
theorem dX0_hasFault_62 : decode cX0_hasFault 62 = .ok (.aload_n 0, 1) := by decide +kernel
theorem dX0_hasFault_63 : decode cX0_hasFault 63 = .ok (.invokevirtual 142, 3) := by decide +kernel
theorem dX0_hasFault_66 : decode cX0_hasFault 66 = .ok (.ireturn, 1) := by decide +kernel
theorem dX0_hasFault_67 : decode cX0_hasFault 67 = .ok (.aload_n 0, 1) := by decide +kernel
theorem dX0_hasFault_68 : decode cX0_hasFault 68 = .ok (.iload_n 2, 1) := by decide +kernel
theorem dX0_hasFault_69 : decode cX0_hasFault 69 = .ok (.ifCond .ne 7, 3) := by decide +kernel
theorem dX0_hasFault_72 : decode cX0_hasFault 72 = .ok (.iconst 1, 1) := by decide +kernel
theorem dX0_hasFault_73 : decode cX0_hasFault 73 = .ok (.goto 4, 3) := by decide +kernel
theorem dX0_hasFault_76 : decode cX0_hasFault 76 = .ok (.iconst (-1), 1) := by decide +kernel
theorem dX0_hasFault_77 : decode cX0_hasFault 77 = .ok (.invokevirtual 146, 3) := by decide +kernel
theorem dX0_hasFault_80 : decode cX0_hasFault 80 = .ok (.ireturn, 1) := by decide +kernel
theorem dX0_hasFault_81 : decode cX0_hasFault 81 = .ok (.aload_n 0, 1) := by decide +kernel
theorem dX0_hasFault_82 : decode cX0_hasFault 82 = .ok (.iload_n 2, 1) := by decide +kernel
theorem dX0_hasFault_83 : decode cX0_hasFault 83 = .ok (.invokevirtual 135, 3) := by decide +kernel
theorem dX0_hasFault_86 : decode cX0_hasFault 86 = .ok (.ireturn, 1) := by decide +kernel
theorem dX0_hasFault_87 : decode cX0_hasFault 87 = .ok (.aload_n 0, 1) := by decide +kernel
theorem dX0_hasFault_88 : decode cX0_hasFault 88 = .ok (.iload_n 2, 1) := by decide +kernel
theorem dX0_hasFault_89 : decode cX0_hasFault 89 = .ok (.invokevirtual 150, 3) := by decide +kernel
theorem dX0_hasFault_92 : decode cX0_hasFault 92 = .ok (.ireturn, 1) := by decide +kernel
theorem dX0_hasFault_93 : decode cX0_hasFault 93 = .ok (.iconst 0, 1) := by decide +kernel
theorem dX0_hasFault_94 : decode cX0_hasFault 94 = .ok (.ireturn, 1) := by decide +kernel
theorem dX0_isRefused_0 : decode cX0_isRefused 0 = .ok (.aload_n 0, 1) := by decide +kernel
theorem dX0_isRefused_1 : decode cX0_isRefused 1 = .ok (.getfield 9, 3) := by decide +kernel
theorem dX0_isRefused_4 : decode cX0_isRefused 4 = .ok (.aload_n 0, 1) := by decide +kernel
theorem dX0_isRefused_5 : decode cX0_isRefused 5 = .ok (.getfield 53, 3) := by decide +kernel
theorem dX0_isRefused_8 : decode cX0_isRefused 8 = .ok (.invokevirtual 87, 3) := by decide +kernel
theorem dX0_isRefused_11 : decode cX0_isRefused 11 = .ok (.ifCond .ne 12, 3) := by decide +kernel
theorem dX0_isRefused_14 : decode cX0_isRefused 14 = .ok (.aload_n 0, 1) := by decide +kernel
theorem dX0_isRefused_15 : decode cX0_isRefused 15 = .ok (.invokevirtual 153, 3) := by decide +kernel
theorem dX0_isRefused_18 : decode cX0_isRefused 18 = .ok (.ldc 149, 2) := by decide +kernel
theorem dX0_isRefused_20 : decode cX0_isRefused 20 = .ok (.if_icmp .eq 7, 3) := by decide +kernel
theorem dX0_isRefused_23 : decode cX0_isRefused 23 = .ok (.iconst 1, 1) := by decide +kernel
theorem dX0_isRefused_24 : decode cX0_isRefused 24 = .ok (.goto 4, 3) := by decide +kernel
theorem dX0_isRefused_27 : decode cX0_isRefused 27 = .ok (.iconst 0, 1) := by decide +kernel
theorem dX0_isRefused_28 : decode cX0_isRefused 28 = .ok (.ireturn, 1) := by decide +kernel
theorem dX1_init_0 : decode cX1_init 0 = .ok (.aload_n 0, 1) := by decide +kernel
theorem dX1_init_1 : decode cX1_init 1 = .ok (.invokespecial 3, 3) := by decide +kernel
theorem dX1_init_4 : decode cX1_init 4 = .ok (.aload_n 0, 1) := by decide +kernel
theorem dX1_init_5 : decode cX1_init 5 = .ok (.bipush 20, 2) := by decide +kernel
theorem dX1_init_7 : decode cX1_init 7 = .ok (.putfield 9, 3) := by decide +kernel
theorem dX1_init_10 : decode cX1_init 10 = .ok (.aload_n 0, 1) := by decide +kernel
theorem dX1_init_11 : decode cX1_init 11 = .ok (.bipush 30, 2) := by decide +kernel
theorem dX1_init_13 : decode cX1_init 13 = .ok (.putfield 15, 3) := by decide +kernel
theorem dX1_init_16 : decode cX1_init 16 = .ok (.aload_n 0, 1) := by decide +kernel
theorem dX1_init_17 : decode cX1_init 17 = .ok (.sipush 300, 3) := by decide +kernel
theorem dX1_init_20 : decode cX1_init 20 = .ok (.putfield 18, 3) := by decide +kernel
theorem dX1_init_23 : decode cX1_init 23 = .ok (.aload_n 0, 1) := by decide +kernel
theorem dX1_init_24 : decode cX1_init 24 = .ok (.iconst 3, 1) := by decide +kernel
theorem dX1_init_25 : decode cX1_init 25 = .ok (.putfield 21, 3) := by decide +kernel
theorem dX1_init_28 : decode cX1_init 28 = .ok (.return_, 1) := by decide +kernel
theorem dX1_rimHole_0 : decode cX1_rimHole 0 = .ok (.iload_n 2, 1) := by decide +kernel
theorem dX1_rimHole_1 : decode cX1_rimHole 1 = .ok (.bipush 64, 2) := by decide +kernel
theorem dX1_rimHole_3 : decode cX1_rimHole 3 = .ok (.imul, 1) := by decide +kernel
theorem dX1_rimHole_4 : decode cX1_rimHole 4 = .ok (.aload_n 1, 1) := by decide +kernel
theorem dX1_rimHole_5 : decode cX1_rimHole 5 = .ok (.getfield 24, 3) := by decide +kernel
theorem dX1_rimHole_8 : decode cX1_rimHole 8 = .ok (.idiv, 1) := by decide +kernel
theorem dX1_rimHole_9 : decode cX1_rimHole 9 = .ok (.ireturn, 1) := by decide +kernel
theorem dX1_ahead_0 : decode cX1_ahead 0 = .ok (.aload_n 1, 1) := by decide +kernel
theorem dX1_ahead_1 : decode cX1_ahead 1 = .ok (.getfield 29, 3) := by decide +kernel
theorem dX1_ahead_4 : decode cX1_ahead 4 = .ok (.iload_n 2, 1) := by decide +kernel
theorem dX1_ahead_5 : decode cX1_ahead 5 = .ok (.iaload, 1) := by decide +kernel
theorem dX1_ahead_6 : decode cX1_ahead 6 = .ok (.iconst 5, 1) := by decide +kernel
theorem dX1_ahead_7 : decode cX1_ahead 7 = .ok (.if_icmp .ne 5, 3) := by decide +kernel
theorem dX1_ahead_10 : decode cX1_ahead 10 = .ok (.iconst 0, 1) := by decide +kernel
theorem dX1_ahead_11 : decode cX1_ahead 11 = .ok (.ireturn, 1) := by decide +kernel
theorem dX1_ahead_12 : decode cX1_ahead 12 = .ok (.iconst 2, 1) := by decide +kernel
theorem dX1_ahead_13 : decode cX1_ahead 13 = .ok (.aload_n 0, 1) := by decide +kernel
theorem dX1_ahead_14 : decode cX1_ahead 14 = .ok (.getfield 21, 3) := by decide +kernel
theorem dX1_ahead_17 : decode cX1_ahead 17 = .ok (.imul, 1) := by decide +kernel
theorem dX1_ahead_18 : decode cX1_ahead 18 = .ok (.bipush 64, 2) := by decide +kernel
theorem dX1_ahead_20 : decode cX1_ahead 20 = .ok (.imul, 1) := by decide +kernel
theorem dX1_ahead_21 : decode cX1_ahead 21 = .ok (.aload_n 1, 1) := by decide +kernel
theorem dX1_ahead_22 : decode cX1_ahead 22 = .ok (.getfield 24, 3) := by decide +kernel
theorem dX1_ahead_25 : decode cX1_ahead 25 = .ok (.idiv, 1) := by decide +kernel
theorem dX1_ahead_26 : decode cX1_ahead 26 = .ok (.istore_n 3, 1) := by decide +kernel
theorem dX1_ahead_27 : decode cX1_ahead 27 = .ok (.iload_n 2, 1) := by decide +kernel
theorem dX1_ahead_28 : decode cX1_ahead 28 = .ok (.iconst 2, 1) := by decide +kernel
theorem dX1_ahead_29 : decode cX1_ahead 29 = .ok (.idiv, 1) := by decide +kernel
theorem dX1_ahead_30 : decode cX1_ahead 30 = .ok (.iconst 2, 1) := by decide +kernel
theorem dX1_ahead_31 : decode cX1_ahead 31 = .ok (.irem, 1) := by decide +kernel
theorem dX1_ahead_32 : decode cX1_ahead 32 = .ok (.ifCond .ne 7, 3) := by decide +kernel
theorem dX1_ahead_35 : decode cX1_ahead 35 = .ok (.iload_n 3, 1) := by decide +kernel
theorem dX1_ahead_36 : decode cX1_ahead 36 = .ok (.goto 5, 3) := by decide +kernel
theorem dX1_ahead_39 : decode cX1_ahead 39 = .ok (.iload_n 3, 1) := by decide +kernel
theorem dX1_ahead_40 : decode cX1_ahead 40 = .ok (.ineg, 1) := by decide +kernel
theorem dX1_ahead_41 : decode cX1_ahead 41 = .ok (.ireturn, 1) := by decide +kernel
theorem dX1_tenths_0 : decode cX1_tenths 0 = .ok (.ldc2_w 33, 3) := by decide +kernel
theorem dX1_tenths_3 : decode cX1_tenths 3 = .ok (.aload_n 0, 1) := by decide +kernel
theorem dX1_tenths_4 : decode cX1_tenths 4 = .ok (.getfield 18, 3) := by decide +kernel
theorem dX1_tenths_7 : decode cX1_tenths 7 = .ok (.aload_n 0, 1) := by decide +kernel
theorem dX1_tenths_8 : decode cX1_tenths 8 = .ok (.getfield 18, 3) := by decide +kernel
theorem dX1_tenths_11 : decode cX1_tenths 11 = .ok (.imul, 1) := by decide +kernel
theorem dX1_tenths_12 : decode cX1_tenths 12 = .ok (.aload_n 0, 1) := by decide +kernel
theorem dX1_tenths_13 : decode cX1_tenths 13 = .ok (.getfield 9, 3) := by decide +kernel
theorem dX1_tenths_16 : decode cX1_tenths 16 = .ok (.aload_n 0, 1) := by decide +kernel
theorem dX1_tenths_17 : decode cX1_tenths 17 = .ok (.getfield 9, 3) := by decide +kernel
theorem dX1_tenths_20 : decode cX1_tenths 20 = .ok (.imul, 1) := by decide +kernel
theorem dX1_tenths_21 : decode cX1_tenths 21 = .ok (.iadd, 1) := by decide +kernel
theorem dX1_tenths_22 : decode cX1_tenths 22 = .ok (.aload_n 0, 1) := by decide +kernel
theorem dX1_tenths_23 : decode cX1_tenths 23 = .ok (.getfield 15, 3) := by decide +kernel
theorem dX1_tenths_26 : decode cX1_tenths 26 = .ok (.aload_n 0, 1) := by decide +kernel
theorem dX1_tenths_27 : decode cX1_tenths 27 = .ok (.getfield 15, 3) := by decide +kernel
theorem dX1_tenths_30 : decode cX1_tenths 30 = .ok (.imul, 1) := by decide +kernel
theorem dX1_tenths_31 : decode cX1_tenths 31 = .ok (.iadd, 1) := by decide +kernel
theorem dX1_tenths_32 : decode cX1_tenths 32 = .ok (.i2l, 1) := by decide +kernel
theorem dX1_tenths_33 : decode cX1_tenths 33 = .ok (.lmul, 1) := by decide +kernel
theorem dX1_tenths_34 : decode cX1_tenths 34 = .ok (.lstore_n 2, 1) := by decide +kernel
theorem dX1_tenths_35 : decode cX1_tenths 35 = .ok (.ldc2_w 35, 3) := by decide +kernel
theorem dX1_tenths_38 : decode cX1_tenths 38 = .ok (.aload_n 0, 1) := by decide +kernel
theorem dX1_tenths_39 : decode cX1_tenths 39 = .ok (.getfield 18, 3) := by decide +kernel
theorem dX1_tenths_42 : decode cX1_tenths 42 = .ok (.i2l, 1) := by decide +kernel
theorem dX1_tenths_43 : decode cX1_tenths 43 = .ok (.lmul, 1) := by decide +kernel
theorem dX1_tenths_44 : decode cX1_tenths 44 = .ok (.aload_n 0, 1) := by decide +kernel
theorem dX1_tenths_45 : decode cX1_tenths 45 = .ok (.getfield 9, 3) := by decide +kernel
theorem dX1_tenths_48 : decode cX1_tenths 48 = .ok (.i2l, 1) := by decide +kernel
theorem dX1_tenths_49 : decode cX1_tenths 49 = .ok (.lmul, 1) := by decide +kernel
theorem dX1_tenths_50 : decode cX1_tenths 50 = .ok (.bipush 16, 2) := by decide +kernel
theorem dX1_tenths_52 : decode cX1_tenths 52 = .ok (.iload_n 1, 1) := by decide +kernel
theorem dX1_tenths_53 : decode cX1_tenths 53 = .ok (.iadd, 1) := by decide +kernel
theorem dX1_tenths_54 : decode cX1_tenths 54 = .ok (.invokestatic 37, 3) := by decide +kernel
theorem dX1_tenths_57 : decode cX1_tenths 57 = .ok (.i2l, 1) := by decide +kernel
theorem dX1_tenths_58 : decode cX1_tenths 58 = .ok (.lmul, 1) := by decide +kernel
theorem dX1_tenths_59 : decode cX1_tenths 59 = .ok (.ldc2_w 41, 3) := by decide +kernel
theorem dX1_tenths_62 : decode cX1_tenths 62 = .ok (.invokestatic 43, 3) := by decide +kernel
theorem dX1_tenths_65 : decode cX1_tenths 65 = .ok (.lstore 4, 2) := by decide +kernel
theorem dX1_tenths_67 : decode cX1_tenths 67 = .ok (.lconst 0, 1) := by decide +kernel
theorem dX1_tenths_68 : decode cX1_tenths 68 = .ok (.lload_n 2, 1) := by decide +kernel
theorem dX1_tenths_69 : decode cX1_tenths 69 = .ok (.lload 4, 2) := by decide +kernel
theorem dX1_tenths_71 : decode cX1_tenths 71 = .ok (.lsub, 1) := by decide +kernel
theorem dX1_tenths_72 : decode cX1_tenths 72 = .ok (.invokestatic 49, 3) := by decide +kernel
theorem dX1_tenths_75 : decode cX1_tenths 75 = .ok (.invokestatic 52, 3) := by decide +kernel
theorem dX1_tenths_78 : decode cX1_tenths 78 = .ok (.ireturn, 1) := by decide +kernel
theorem dX1_sine_0 : decode cX1_sine 0 = .ok (.iload_n 0, 1) := by decide +kernel
theorem dX1_sine_1 : decode cX1_sine 1 = .ok (.bipush 64, 2) := by decide +kernel
theorem dX1_sine_3 : decode cX1_sine 3 = .ok (.invokestatic 56, 3) := by decide +kernel
theorem dX1_sine_6 : decode cX1_sine 6 = .ok (.istore_n 1, 1) := by decide +kernel
theorem dX1_sine_7 : decode cX1_sine 7 = .ok (.iload_n 1, 1) := by decide +kernel
theorem dX1_sine_8 : decode cX1_sine 8 = .ok (.bipush 32, 2) := by decide +kernel
theorem dX1_sine_10 : decode cX1_sine 10 = .ok (.if_icmp .le 12, 3) := by decide +kernel
theorem dX1_sine_13 : decode cX1_sine 13 = .ok (.bipush 64, 2) := by decide +kernel
theorem dX1_sine_15 : decode cX1_sine 15 = .ok (.iload_n 1, 1) := by decide +kernel
theorem dX1_sine_16 : decode cX1_sine 16 = .ok (.isub, 1) := by decide +kernel
theorem dX1_sine_17 : decode cX1_sine 17 = .ok (.invokestatic 60, 3) := by decide +kernel
theorem dX1_sine_20 : decode cX1_sine 20 = .ok (.ineg, 1) := by decide +kernel
theorem dX1_sine_21 : decode cX1_sine 21 = .ok (.ireturn, 1) := by decide +kernel
theorem dX1_sine_22 : decode cX1_sine 22 = .ok (.iload_n 1, 1) := by decide +kernel
theorem dX1_sine_23 : decode cX1_sine 23 = .ok (.invokestatic 60, 3) := by decide +kernel
theorem dX1_sine_26 : decode cX1_sine 26 = .ok (.ireturn, 1) := by decide +kernel
theorem dX1_halfSine_0 : decode cX1_halfSine 0 = .ok (.getstatic 63, 3) := by decide +kernel
theorem dX1_halfSine_3 : decode cX1_halfSine 3 = .ok (.iload_n 0, 1) := by decide +kernel
theorem dX1_halfSine_4 : decode cX1_halfSine 4 = .ok (.bipush 16, 2) := by decide +kernel
theorem dX1_halfSine_6 : decode cX1_halfSine 6 = .ok (.if_icmp .le 10, 3) := by decide +kernel
theorem dX1_halfSine_9 : decode cX1_halfSine 9 = .ok (.bipush 32, 2) := by decide +kernel
theorem dX1_halfSine_11 : decode cX1_halfSine 11 = .ok (.iload_n 0, 1) := by decide +kernel
theorem dX1_halfSine_12 : decode cX1_halfSine 12 = .ok (.isub, 1) := by decide +kernel
theorem dX1_halfSine_13 : decode cX1_halfSine 13 = .ok (.goto 4, 3) := by decide +kernel
theorem dX1_halfSine_16 : decode cX1_halfSine 16 = .ok (.iload_n 0, 1) := by decide +kernel
theorem dX1_halfSine_17 : decode cX1_halfSine 17 = .ok (.iaload, 1) := by decide +kernel
theorem dX1_halfSine_18 : decode cX1_halfSine 18 = .ok (.ireturn, 1) := by decide +kernel
theorem dX1_wholeRoot_0 : decode cX1_wholeRoot 0 = .ok (.lconst 0, 1) := by decide +kernel
theorem dX1_wholeRoot_1 : decode cX1_wholeRoot 1 = .ok (.lstore_n 2, 1) := by decide +kernel
theorem dX1_wholeRoot_2 : decode cX1_wholeRoot 2 = .ok (.ldc2_w 66, 3) := by decide +kernel
theorem dX1_wholeRoot_5 : decode cX1_wholeRoot 5 = .ok (.lstore 4, 2) := by decide +kernel
theorem dX1_wholeRoot_7 : decode cX1_wholeRoot 7 = .ok (.lload 4, 2) := by decide +kernel
theorem dX1_wholeRoot_9 : decode cX1_wholeRoot 9 = .ok (.lconst 0, 1) := by decide +kernel
theorem dX1_wholeRoot_10 : decode cX1_wholeRoot 10 = .ok (.lcmp, 1) := by decide +kernel
theorem dX1_wholeRoot_11 : decode cX1_wholeRoot 11 = .ok (.ifCond .le 33, 3) := by decide +kernel
theorem dX1_wholeRoot_14 : decode cX1_wholeRoot 14 = .ok (.lload_n 2, 1) := by decide +kernel
theorem dX1_wholeRoot_15 : decode cX1_wholeRoot 15 = .ok (.lload 4, 2) := by decide +kernel
theorem dX1_wholeRoot_17 : decode cX1_wholeRoot 17 = .ok (.ladd, 1) := by decide +kernel
theorem dX1_wholeRoot_18 : decode cX1_wholeRoot 18 = .ok (.lstore 6, 2) := by decide +kernel
theorem dX1_wholeRoot_20 : decode cX1_wholeRoot 20 = .ok (.lload 6, 2) := by decide +kernel
theorem dX1_wholeRoot_22 : decode cX1_wholeRoot 22 = .ok (.lload 6, 2) := by decide +kernel
theorem dX1_wholeRoot_24 : decode cX1_wholeRoot 24 = .ok (.lmul, 1) := by decide +kernel
theorem dX1_wholeRoot_25 : decode cX1_wholeRoot 25 = .ok (.lload_n 0, 1) := by decide +kernel
theorem dX1_wholeRoot_26 : decode cX1_wholeRoot 26 = .ok (.lcmp, 1) := by decide +kernel
theorem dX1_wholeRoot_27 : decode cX1_wholeRoot 27 = .ok (.ifCond .gt 6, 3) := by decide +kernel
theorem dX1_wholeRoot_30 : decode cX1_wholeRoot 30 = .ok (.lload 6, 2) := by decide +kernel
theorem dX1_wholeRoot_32 : decode cX1_wholeRoot 32 = .ok (.lstore_n 2, 1) := by decide +kernel
theorem dX1_wholeRoot_33 : decode cX1_wholeRoot 33 = .ok (.lload 4, 2) := by decide +kernel
theorem dX1_wholeRoot_35 : decode cX1_wholeRoot 35 = .ok (.ldc2_w 68, 3) := by decide +kernel
theorem dX1_wholeRoot_38 : decode cX1_wholeRoot 38 = .ok (.ldiv, 1) := by decide +kernel
theorem dX1_wholeRoot_39 : decode cX1_wholeRoot 39 = .ok (.lstore 4, 2) := by decide +kernel
theorem dX1_wholeRoot_41 : decode cX1_wholeRoot 41 = .ok (.goto (-34), 3) := by decide +kernel
theorem dX1_wholeRoot_44 : decode cX1_wholeRoot 44 = .ok (.lload_n 2, 1) := by decide +kernel
theorem dX1_wholeRoot_45 : decode cX1_wholeRoot 45 = .ok (.l2i, 1) := by decide +kernel
theorem dX1_wholeRoot_46 : decode cX1_wholeRoot 46 = .ok (.ireturn, 1) := by decide +kernel
theorem dX1_doCross_0 : decode cX1_doCross 0 = .ok (.aload_n 1, 1) := by decide +kernel
theorem dX1_doCross_1 : decode cX1_doCross 1 = .ok (.iload_n 2, 1) := by decide +kernel
theorem dX1_doCross_2 : decode cX1_doCross 2 = .ok (.invokevirtual 70, 3) := by decide +kernel
theorem dX1_doCross_5 : decode cX1_doCross 5 = .ok (.istore 4, 2) := by decide +kernel
theorem dX1_doCross_7 : decode cX1_doCross 7 = .ok (.iload 4, 2) := by decide +kernel
theorem dX1_doCross_9 : decode cX1_doCross 9 = .ok (.ifCond .eq 13, 3) := by decide +kernel
theorem dX1_doCross_12 : decode cX1_doCross 12 = .ok (.iload 4, 2) := by decide +kernel
theorem dX1_doCross_14 : decode cX1_doCross 14 = .ok (.aload_n 1, 1) := by decide +kernel
theorem dX1_doCross_15 : decode cX1_doCross 15 = .ok (.iload_n 3, 1) := by decide +kernel
theorem dX1_doCross_16 : decode cX1_doCross 16 = .ok (.invokevirtual 70, 3) := by decide +kernel
theorem dX1_doCross_19 : decode cX1_doCross 19 = .ok (.if_icmp .eq 5, 3) := by decide +kernel
theorem dX1_doCross_22 : decode cX1_doCross 22 = .ok (.iconst 0, 1) := by decide +kernel
theorem dX1_doCross_23 : decode cX1_doCross 23 = .ok (.ireturn, 1) := by decide +kernel
theorem dX1_doCross_24 : decode cX1_doCross 24 = .ok (.aload_n 0, 1) := by decide +kernel
theorem dX1_doCross_25 : decode cX1_doCross 25 = .ok (.aload_n 1, 1) := by decide +kernel
theorem dX1_doCross_26 : decode cX1_doCross 26 = .ok (.iload_n 3, 1) := by decide +kernel
theorem dX1_doCross_27 : decode cX1_doCross 27 = .ok (.invokevirtual 73, 3) := by decide +kernel
theorem dX1_doCross_30 : decode cX1_doCross 30 = .ok (.aload_n 0, 1) := by decide +kernel
theorem dX1_doCross_31 : decode cX1_doCross 31 = .ok (.aload_n 1, 1) := by decide +kernel
theorem dX1_doCross_32 : decode cX1_doCross 32 = .ok (.iload_n 2, 1) := by decide +kernel
theorem dX1_doCross_33 : decode cX1_doCross 33 = .ok (.invokevirtual 73, 3) := by decide +kernel
theorem dX1_doCross_36 : decode cX1_doCross 36 = .ok (.isub, 1) := by decide +kernel
theorem dX1_doCross_37 : decode cX1_doCross 37 = .ok (.bipush 64, 2) := by decide +kernel
theorem dX1_doCross_39 : decode cX1_doCross 39 = .ok (.invokestatic 56, 3) := by decide +kernel
theorem dX1_doCross_42 : decode cX1_doCross 42 = .ok (.istore 5, 2) := by decide +kernel
theorem dX1_doCross_44 : decode cX1_doCross 44 = .ok (.iload 5, 2) := by decide +kernel
theorem dX1_doCross_46 : decode cX1_doCross 46 = .ok (.aload_n 0, 1) := by decide +kernel
theorem dX1_doCross_47 : decode cX1_doCross 47 = .ok (.aload_n 1, 1) := by decide +kernel
theorem dX1_doCross_48 : decode cX1_doCross 48 = .ok (.iload_n 3, 1) := by decide +kernel
theorem dX1_doCross_49 : decode cX1_doCross 49 = .ok (.invokevirtual 77, 3) := by decide +kernel
theorem dX1_doCross_52 : decode cX1_doCross 52 = .ok (.iadd, 1) := by decide +kernel
theorem dX1_doCross_53 : decode cX1_doCross 53 = .ok (.aload_n 0, 1) := by decide +kernel
theorem dX1_doCross_54 : decode cX1_doCross 54 = .ok (.aload_n 1, 1) := by decide +kernel
theorem dX1_doCross_55 : decode cX1_doCross 55 = .ok (.iload_n 2, 1) := by decide +kernel
theorem dX1_doCross_56 : decode cX1_doCross 56 = .ok (.invokevirtual 77, 3) := by decide +kernel
theorem dX1_doCross_59 : decode cX1_doCross 59 = .ok (.isub, 1) := by decide +kernel
theorem dX1_doCross_60 : decode cX1_doCross 60 = .ok (.istore 6, 2) := by decide +kernel
theorem dX1_doCross_62 : decode cX1_doCross 62 = .ok (.iload 6, 2) := by decide +kernel
theorem dX1_doCross_64 : decode cX1_doCross 64 = .ok (.ifCond .lt 10, 3) := by decide +kernel
theorem dX1_doCross_67 : decode cX1_doCross 67 = .ok (.iload 6, 2) := by decide +kernel
theorem dX1_doCross_69 : decode cX1_doCross 69 = .ok (.bipush 64, 2) := by decide +kernel
theorem dX1_doCross_71 : decode cX1_doCross 71 = .ok (.if_icmp .le 7, 3) := by decide +kernel
theorem dX1_doCross_74 : decode cX1_doCross 74 = .ok (.iconst 1, 1) := by decide +kernel
theorem dX1_doCross_75 : decode cX1_doCross 75 = .ok (.goto 4, 3) := by decide +kernel
theorem dX1_doCross_78 : decode cX1_doCross 78 = .ok (.iconst 0, 1) := by decide +kernel
theorem dX1_doCross_79 : decode cX1_doCross 79 = .ok (.ireturn, 1) := by decide +kernel
theorem dX2_init_0 : decode cX2_init 0 = .ok (.aload_n 0, 1) := by decide +kernel
theorem dX2_init_1 : decode cX2_init 1 = .ok (.invokespecial 3, 3) := by decide +kernel
theorem dX2_init_4 : decode cX2_init 4 = .ok (.aload_n 0, 1) := by decide +kernel
theorem dX2_init_5 : decode cX2_init 5 = .ok (.iconst 5, 1) := by decide +kernel
theorem dX2_init_6 : decode cX2_init 6 = .ok (.newarray .int, 2) := by decide +kernel
theorem dX2_init_8 : decode cX2_init 8 = .ok (.putfield 9, 3) := by decide +kernel
theorem dX2_init_11 : decode cX2_init 11 = .ok (.aload_n 0, 1) := by decide +kernel
theorem dX2_init_12 : decode cX2_init 12 = .ok (.aload_n 1, 1) := by decide +kernel
theorem dX2_init_13 : decode cX2_init 13 = .ok (.putfield 15, 3) := by decide +kernel
theorem dX2_init_16 : decode cX2_init 16 = .ok (.aload_n 0, 1) := by decide +kernel
theorem dX2_init_17 : decode cX2_init 17 = .ok (.aload_n 2, 1) := by decide +kernel
theorem dX2_init_18 : decode cX2_init 18 = .ok (.putfield 19, 3) := by decide +kernel
theorem dX2_init_21 : decode cX2_init 21 = .ok (.return_, 1) := by decide +kernel
theorem dX2_bestQuarter_0 : decode cX2_bestQuarter 0 = .ok (.aload_n 0, 1) := by decide +kernel
theorem dX2_bestQuarter_1 : decode cX2_bestQuarter 1 = .ok (.getfield 19, 3) := by decide +kernel
theorem dX2_bestQuarter_4 : decode cX2_bestQuarter 4 = .ok (.invokevirtual 23, 3) := by decide +kernel
theorem dX2_bestQuarter_7 : decode cX2_bestQuarter 7 = .ok (.aload_n 0, 1) := by decide +kernel
theorem dX2_bestQuarter_8 : decode cX2_bestQuarter 8 = .ok (.getfield 19, 3) := by decide +kernel
theorem dX2_bestQuarter_11 : decode cX2_bestQuarter 11 = .ok (.invokevirtual 28, 3) := by decide +kernel
theorem dX2_bestQuarter_14 : decode cX2_bestQuarter 14 = .ok (.istore_n 1, 1) := by decide +kernel
theorem dX2_bestQuarter_15 : decode cX2_bestQuarter 15 = .ok (.ldc 32, 2) := by decide +kernel
theorem dX2_bestQuarter_17 : decode cX2_bestQuarter 17 = .ok (.istore_n 2, 1) := by decide +kernel
theorem dX2_bestQuarter_18 : decode cX2_bestQuarter 18 = .ok (.iconst 0, 1) := by decide +kernel
theorem dX2_bestQuarter_19 : decode cX2_bestQuarter 19 = .ok (.istore_n 3, 1) := by decide +kernel
theorem dX2_bestQuarter_20 : decode cX2_bestQuarter 20 = .ok (.iload_n 3, 1) := by decide +kernel
theorem dX2_bestQuarter_21 : decode cX2_bestQuarter 21 = .ok (.iconst 2, 1) := by decide +kernel
theorem dX2_bestQuarter_22 : decode cX2_bestQuarter 22 = .ok (.aload_n 0, 1) := by decide +kernel
theorem dX2_bestQuarter_23 : decode cX2_bestQuarter 23 = .ok (.getfield 15, 3) := by decide +kernel
theorem dX2_bestQuarter_26 : decode cX2_bestQuarter 26 = .ok (.getfield 33, 3) := by decide +kernel
theorem dX2_bestQuarter_29 : decode cX2_bestQuarter 29 = .ok (.imul, 1) := by decide +kernel
theorem dX2_bestQuarter_30 : decode cX2_bestQuarter 30 = .ok (.if_icmp .ge 60, 3) := by decide +kernel
theorem dX2_bestQuarter_33 : decode cX2_bestQuarter 33 = .ok (.aload_n 0, 1) := by decide +kernel
theorem dX2_bestQuarter_34 : decode cX2_bestQuarter 34 = .ok (.getfield 19, 3) := by decide +kernel
theorem dX2_bestQuarter_37 : decode cX2_bestQuarter 37 = .ok (.iload_n 3, 1) := by decide +kernel
theorem dX2_bestQuarter_38 : decode cX2_bestQuarter 38 = .ok (.iconst 1, 1) := by decide +kernel
theorem dX2_bestQuarter_39 : decode cX2_bestQuarter 39 = .ok (.ishr, 1) := by decide +kernel
theorem dX2_bestQuarter_40 : decode cX2_bestQuarter 40 = .ok (.iload_n 3, 1) := by decide +kernel
theorem dX2_bestQuarter_41 : decode cX2_bestQuarter 41 = .ok (.iconst 1, 1) := by decide +kernel
theorem dX2_bestQuarter_42 : decode cX2_bestQuarter 42 = .ok (.iand, 1) := by decide +kernel
theorem dX2_bestQuarter_43 : decode cX2_bestQuarter 43 = .ok (.ifCond .ne 7, 3) := by decide +kernel
theorem dX2_bestQuarter_46 : decode cX2_bestQuarter 46 = .ok (.iconst 1, 1) := by decide +kernel
theorem dX2_bestQuarter_47 : decode cX2_bestQuarter 47 = .ok (.goto 4, 3) := by decide +kernel
theorem dX2_bestQuarter_50 : decode cX2_bestQuarter 50 = .ok (.iconst (-1), 1) := by decide +kernel
theorem dX2_bestQuarter_51 : decode cX2_bestQuarter 51 = .ok (.invokevirtual 39, 3) := by decide +kernel
theorem dX2_bestQuarter_54 : decode cX2_bestQuarter 54 = .ok (.aload_n 0, 1) := by decide +kernel
theorem dX2_bestQuarter_55 : decode cX2_bestQuarter 55 = .ok (.getfield 19, 3) := by decide +kernel
theorem dX2_bestQuarter_58 : decode cX2_bestQuarter 58 = .ok (.invokevirtual 43, 3) := by decide +kernel
theorem dX2_bestQuarter_61 : decode cX2_bestQuarter 61 = .ok (.ifCond .ne 23, 3) := by decide +kernel
theorem dX2_bestQuarter_64 : decode cX2_bestQuarter 64 = .ok (.aload_n 0, 1) := by decide +kernel
theorem dX2_bestQuarter_65 : decode cX2_bestQuarter 65 = .ok (.getfield 19, 3) := by decide +kernel
theorem dX2_bestQuarter_68 : decode cX2_bestQuarter 68 = .ok (.invokevirtual 28, 3) := by decide +kernel
theorem dX2_bestQuarter_71 : decode cX2_bestQuarter 71 = .ok (.istore 4, 2) := by decide +kernel
theorem dX2_bestQuarter_73 : decode cX2_bestQuarter 73 = .ok (.iload 4, 2) := by decide +kernel
theorem dX2_bestQuarter_75 : decode cX2_bestQuarter 75 = .ok (.iload_n 1, 1) := by decide +kernel
theorem dX2_bestQuarter_76 : decode cX2_bestQuarter 76 = .ok (.if_icmp .ge 8, 3) := by decide +kernel
theorem dX2_bestQuarter_79 : decode cX2_bestQuarter 79 = .ok (.iload 4, 2) := by decide +kernel
theorem dX2_bestQuarter_81 : decode cX2_bestQuarter 81 = .ok (.istore_n 1, 1) := by decide +kernel
theorem dX2_bestQuarter_82 : decode cX2_bestQuarter 82 = .ok (.iload_n 3, 1) := by decide +kernel
theorem dX2_bestQuarter_83 : decode cX2_bestQuarter 83 = .ok (.istore_n 2, 1) := by decide +kernel
theorem dX2_bestQuarter_84 : decode cX2_bestQuarter 84 = .ok (.iinc 3 1, 3) := by decide +kernel
theorem dX2_bestQuarter_87 : decode cX2_bestQuarter 87 = .ok (.goto (-67), 3) := by decide +kernel
theorem dX2_bestQuarter_90 : decode cX2_bestQuarter 90 = .ok (.iload_n 2, 1) := by decide +kernel
theorem dX2_bestQuarter_91 : decode cX2_bestQuarter 91 = .ok (.ireturn, 1) := by decide +kernel
theorem dX2_fewestSpokes_0 : decode cX2_fewestSpokes 0 = .ok (.aload_n 0, 1) := by decide +kernel
theorem dX2_fewestSpokes_1 : decode cX2_fewestSpokes 1 = .ok (.getfield 19, 3) := by decide +kernel
theorem dX2_fewestSpokes_4 : decode cX2_fewestSpokes 4 = .ok (.invokevirtual 23, 3) := by decide +kernel
theorem dX2_fewestSpokes_7 : decode cX2_fewestSpokes 7 = .ok (.aload_n 0, 1) := by decide +kernel
theorem dX2_fewestSpokes_8 : decode cX2_fewestSpokes 8 = .ok (.aload_n 0, 1) := by decide +kernel
theorem dX2_fewestSpokes_9 : decode cX2_fewestSpokes 9 = .ok (.getfield 19, 3) := by decide +kernel
theorem dX2_fewestSpokes_12 : decode cX2_fewestSpokes 12 = .ok (.invokevirtual 47, 3) := by decide +kernel
theorem dX2_fewestSpokes_15 : decode cX2_fewestSpokes 15 = .ok (.putfield 50, 3) := by decide +kernel
theorem dX2_fewestSpokes_18 : decode cX2_fewestSpokes 18 = .ok (.aload_n 0, 1) := by decide +kernel
theorem dX2_fewestSpokes_19 : decode cX2_fewestSpokes 19 = .ok (.getfield 50, 3) := by decide +kernel
theorem dX2_fewestSpokes_22 : decode cX2_fewestSpokes 22 = .ok (.ldc 32, 2) := by decide +kernel
theorem dX2_fewestSpokes_24 : decode cX2_fewestSpokes 24 = .ok (.if_icmp .ne 5, 3) := by decide +kernel
theorem dX2_fewestSpokes_27 : decode cX2_fewestSpokes 27 = .ok (.iconst 0, 1) := by decide +kernel
theorem dX2_fewestSpokes_28 : decode cX2_fewestSpokes 28 = .ok (.ireturn, 1) := by decide +kernel
theorem dX2_fewestSpokes_29 : decode cX2_fewestSpokes 29 = .ok (.aload_n 0, 1) := by decide +kernel
theorem dX2_fewestSpokes_30 : decode cX2_fewestSpokes 30 = .ok (.iconst 0, 1) := by decide +kernel
theorem dX2_fewestSpokes_31 : decode cX2_fewestSpokes 31 = .ok (.iconst 1, 1) := by decide +kernel
theorem dX2_fewestSpokes_32 : decode cX2_fewestSpokes 32 = .ok (.invokevirtual 53, 3) := by decide +kernel
theorem dX2_fewestSpokes_35 : decode cX2_fewestSpokes 35 = .ok (.ifCond .eq 5, 3) := by decide +kernel
theorem dX2_fewestSpokes_38 : decode cX2_fewestSpokes 38 = .ok (.iconst 1, 1) := by decide +kernel
theorem dX2_fewestSpokes_39 : decode cX2_fewestSpokes 39 = .ok (.ireturn, 1) := by decide +kernel
theorem dX2_fewestSpokes_40 : decode cX2_fewestSpokes 40 = .ok (.aload_n 0, 1) := by decide +kernel
theorem dX2_fewestSpokes_41 : decode cX2_fewestSpokes 41 = .ok (.invokevirtual 57, 3) := by decide +kernel
theorem dX2_fewestSpokes_44 : decode cX2_fewestSpokes 44 = .ok (.ifCond .eq 7, 3) := by decide +kernel
theorem dX2_fewestSpokes_47 : decode cX2_fewestSpokes 47 = .ok (.iconst 2, 1) := by decide +kernel
theorem dX2_fewestSpokes_48 : decode cX2_fewestSpokes 48 = .ok (.goto 5, 3) := by decide +kernel
theorem dX2_fewestSpokes_51 : decode cX2_fewestSpokes 51 = .ok (.ldc 32, 2) := by decide +kernel
theorem dX2_fewestSpokes_53 : decode cX2_fewestSpokes 53 = .ok (.ireturn, 1) := by decide +kernel
theorem dX2_findsTwo_0 : decode cX2_findsTwo 0 = .ok (.iconst 0, 1) := by decide +kernel
theorem dX2_findsTwo_1 : decode cX2_findsTwo 1 = .ok (.istore_n 1, 1) := by decide +kernel
theorem dX2_findsTwo_2 : decode cX2_findsTwo 2 = .ok (.iload_n 1, 1) := by decide +kernel
theorem dX2_findsTwo_3 : decode cX2_findsTwo 3 = .ok (.aload_n 0, 1) := by decide +kernel
theorem dX2_findsTwo_4 : decode cX2_findsTwo 4 = .ok (.getfield 15, 3) := by decide +kernel
theorem dX2_findsTwo_7 : decode cX2_findsTwo 7 = .ok (.getfield 33, 3) := by decide +kernel
theorem dX2_findsTwo_10 : decode cX2_findsTwo 10 = .ok (.if_icmp .ge 104, 3) := by decide +kernel
theorem dX2_findsTwo_13 : decode cX2_findsTwo 13 = .ok (.iconst 0, 1) := by decide +kernel
theorem dX2_findsTwo_14 : decode cX2_findsTwo 14 = .ok (.istore_n 2, 1) := by decide +kernel
theorem dX2_findsTwo_15 : decode cX2_findsTwo 15 = .ok (.iload_n 2, 1) := by decide +kernel
theorem dX2_findsTwo_16 : decode cX2_findsTwo 16 = .ok (.bipush 8, 2) := by decide +kernel
theorem dX2_findsTwo_18 : decode cX2_findsTwo 18 = .ok (.if_icmp .ge 90, 3) := by decide +kernel
theorem dX2_findsTwo_21 : decode cX2_findsTwo 21 = .ok (.aload_n 0, 1) := by decide +kernel
theorem dX2_findsTwo_22 : decode cX2_findsTwo 22 = .ok (.getfield 19, 3) := by decide +kernel
theorem dX2_findsTwo_25 : decode cX2_findsTwo 25 = .ok (.iload_n 1, 1) := by decide +kernel
theorem dX2_findsTwo_26 : decode cX2_findsTwo 26 = .ok (.iload_n 2, 1) := by decide +kernel
theorem dX2_findsTwo_27 : decode cX2_findsTwo 27 = .ok (.invokestatic 60, 3) := by decide +kernel
theorem dX2_findsTwo_30 : decode cX2_findsTwo 30 = .ok (.invokevirtual 39, 3) := by decide +kernel
theorem dX2_findsTwo_33 : decode cX2_findsTwo 33 = .ok (.aload_n 0, 1) := by decide +kernel
theorem dX2_findsTwo_34 : decode cX2_findsTwo 34 = .ok (.getfield 19, 3) := by decide +kernel
theorem dX2_findsTwo_37 : decode cX2_findsTwo 37 = .ok (.invokevirtual 43, 3) := by decide +kernel
theorem dX2_findsTwo_40 : decode cX2_findsTwo 40 = .ok (.ifCond .ne 62, 3) := by decide +kernel
theorem dX2_findsTwo_43 : decode cX2_findsTwo 43 = .ok (.aload_n 0, 1) := by decide +kernel
theorem dX2_findsTwo_44 : decode cX2_findsTwo 44 = .ok (.getfield 19, 3) := by decide +kernel
theorem dX2_findsTwo_47 : decode cX2_findsTwo 47 = .ok (.invokevirtual 64, 3) := by decide +kernel
theorem dX2_findsTwo_50 : decode cX2_findsTwo 50 = .ok (.aload_n 0, 1) := by decide +kernel
theorem dX2_findsTwo_51 : decode cX2_findsTwo 51 = .ok (.iload_n 1, 1) := by decide +kernel
theorem dX2_findsTwo_52 : decode cX2_findsTwo 52 = .ok (.iconst 1, 1) := by decide +kernel
theorem dX2_findsTwo_53 : decode cX2_findsTwo 53 = .ok (.iadd, 1) := by decide +kernel
theorem dX2_findsTwo_54 : decode cX2_findsTwo 54 = .ok (.iconst 3, 1) := by decide +kernel
theorem dX2_findsTwo_55 : decode cX2_findsTwo 55 = .ok (.invokevirtual 53, 3) := by decide +kernel
theorem dX2_findsTwo_58 : decode cX2_findsTwo 58 = .ok (.istore_n 3, 1) := by decide +kernel
theorem dX2_findsTwo_59 : decode cX2_findsTwo 59 = .ok (.aload_n 0, 1) := by decide +kernel
theorem dX2_findsTwo_60 : decode cX2_findsTwo 60 = .ok (.getfield 19, 3) := by decide +kernel
theorem dX2_findsTwo_63 : decode cX2_findsTwo 63 = .ok (.iload_n 1, 1) := by decide +kernel
theorem dX2_findsTwo_64 : decode cX2_findsTwo 64 = .ok (.iload_n 2, 1) := by decide +kernel
theorem dX2_findsTwo_65 : decode cX2_findsTwo 65 = .ok (.invokestatic 60, 3) := by decide +kernel
theorem dX2_findsTwo_68 : decode cX2_findsTwo 68 = .ok (.ineg, 1) := by decide +kernel
theorem dX2_findsTwo_69 : decode cX2_findsTwo 69 = .ok (.invokevirtual 39, 3) := by decide +kernel
theorem dX2_findsTwo_72 : decode cX2_findsTwo 72 = .ok (.aload_n 0, 1) := by decide +kernel
theorem dX2_findsTwo_73 : decode cX2_findsTwo 73 = .ok (.getfield 19, 3) := by decide +kernel
theorem dX2_findsTwo_76 : decode cX2_findsTwo 76 = .ok (.invokevirtual 64, 3) := by decide +kernel
theorem dX2_findsTwo_79 : decode cX2_findsTwo 79 = .ok (.iload_n 3, 1) := by decide +kernel
theorem dX2_findsTwo_80 : decode cX2_findsTwo 80 = .ok (.ifCond .eq 22, 3) := by decide +kernel
theorem dX2_findsTwo_83 : decode cX2_findsTwo 83 = .ok (.aload_n 0, 1) := by decide +kernel
theorem dX2_findsTwo_84 : decode cX2_findsTwo 84 = .ok (.getfield 9, 3) := by decide +kernel
theorem dX2_findsTwo_87 : decode cX2_findsTwo 87 = .ok (.iconst 1, 1) := by decide +kernel
theorem dX2_findsTwo_88 : decode cX2_findsTwo 88 = .ok (.iload_n 1, 1) := by decide +kernel
theorem dX2_findsTwo_89 : decode cX2_findsTwo 89 = .ok (.iastore, 1) := by decide +kernel
theorem dX2_findsTwo_90 : decode cX2_findsTwo 90 = .ok (.aload_n 0, 1) := by decide +kernel
theorem dX2_findsTwo_91 : decode cX2_findsTwo 91 = .ok (.getfield 9, 3) := by decide +kernel
theorem dX2_findsTwo_94 : decode cX2_findsTwo 94 = .ok (.iconst 2, 1) := by decide +kernel
theorem dX2_findsTwo_95 : decode cX2_findsTwo 95 = .ok (.iload_n 2, 1) := by decide +kernel
theorem dX2_findsTwo_96 : decode cX2_findsTwo 96 = .ok (.invokestatic 60, 3) := by decide +kernel
theorem dX2_findsTwo_99 : decode cX2_findsTwo 99 = .ok (.iastore, 1) := by decide +kernel
theorem dX2_findsTwo_100 : decode cX2_findsTwo 100 = .ok (.iconst 1, 1) := by decide +kernel
theorem dX2_findsTwo_101 : decode cX2_findsTwo 101 = .ok (.ireturn, 1) := by decide +kernel
theorem dX2_findsTwo_102 : decode cX2_findsTwo 102 = .ok (.iinc 2 1, 3) := by decide +kernel
theorem dX2_findsTwo_105 : decode cX2_findsTwo 105 = .ok (.goto (-90), 3) := by decide +kernel
theorem dX2_findsTwo_108 : decode cX2_findsTwo 108 = .ok (.iinc 1 1, 3) := by decide +kernel
theorem dX2_findsTwo_111 : decode cX2_findsTwo 111 = .ok (.goto (-109), 3) := by decide +kernel
theorem dX2_findsTwo_114 : decode cX2_findsTwo 114 = .ok (.iconst 0, 1) := by decide +kernel
theorem dX2_findsTwo_115 : decode cX2_findsTwo 115 = .ok (.ireturn, 1) := by decide +kernel
theorem dX2_findsOne_0 : decode cX2_findsOne 0 = .ok (.iload_n 1, 1) := by decide +kernel
theorem dX2_findsOne_1 : decode cX2_findsOne 1 = .ok (.istore_n 3, 1) := by decide +kernel
theorem dX2_findsOne_2 : decode cX2_findsOne 2 = .ok (.iload_n 3, 1) := by decide +kernel
theorem dX2_findsOne_3 : decode cX2_findsOne 3 = .ok (.aload_n 0, 1) := by decide +kernel
theorem dX2_findsOne_4 : decode cX2_findsOne 4 = .ok (.getfield 15, 3) := by decide +kernel
theorem dX2_findsOne_7 : decode cX2_findsOne 7 = .ok (.getfield 33, 3) := by decide +kernel
theorem dX2_findsOne_10 : decode cX2_findsOne 10 = .ok (.if_icmp .ge 78, 3) := by decide +kernel
theorem dX2_findsOne_13 : decode cX2_findsOne 13 = .ok (.iconst 0, 1) := by decide +kernel
theorem dX2_findsOne_14 : decode cX2_findsOne 14 = .ok (.istore 4, 2) := by decide +kernel
theorem dX2_findsOne_16 : decode cX2_findsOne 16 = .ok (.iload 4, 2) := by decide +kernel
theorem dX2_findsOne_18 : decode cX2_findsOne 18 = .ok (.bipush 8, 2) := by decide +kernel
theorem dX2_findsOne_20 : decode cX2_findsOne 20 = .ok (.if_icmp .ge 62, 3) := by decide +kernel
theorem dX2_findsOne_23 : decode cX2_findsOne 23 = .ok (.aload_n 0, 1) := by decide +kernel
theorem dX2_findsOne_24 : decode cX2_findsOne 24 = .ok (.getfield 15, 3) := by decide +kernel
theorem dX2_findsOne_27 : decode cX2_findsOne 27 = .ok (.iload_n 3, 1) := by decide +kernel
theorem dX2_findsOne_28 : decode cX2_findsOne 28 = .ok (.invokevirtual 67, 3) := by decide +kernel
theorem dX2_findsOne_31 : decode cX2_findsOne 31 = .ok (.ifCond .ne 51, 3) := by decide +kernel
theorem dX2_findsOne_34 : decode cX2_findsOne 34 = .ok (.aload_n 0, 1) := by decide +kernel
theorem dX2_findsOne_35 : decode cX2_findsOne 35 = .ok (.getfield 19, 3) := by decide +kernel
theorem dX2_findsOne_38 : decode cX2_findsOne 38 = .ok (.iload_n 3, 1) := by decide +kernel
theorem dX2_findsOne_39 : decode cX2_findsOne 39 = .ok (.iload 4, 2) := by decide +kernel
theorem dX2_findsOne_41 : decode cX2_findsOne 41 = .ok (.invokestatic 60, 3) := by decide +kernel
theorem dX2_findsOne_44 : decode cX2_findsOne 44 = .ok (.invokevirtual 39, 3) := by decide +kernel
theorem dX2_findsOne_47 : decode cX2_findsOne 47 = .ok (.aload_n 0, 1) := by decide +kernel
theorem dX2_findsOne_48 : decode cX2_findsOne 48 = .ok (.invokevirtual 71, 3) := by decide +kernel
theorem dX2_findsOne_51 : decode cX2_findsOne 51 = .ok (.ifCond .eq 25, 3) := by decide +kernel
theorem dX2_findsOne_54 : decode cX2_findsOne 54 = .ok (.aload_n 0, 1) := by decide +kernel
theorem dX2_findsOne_55 : decode cX2_findsOne 55 = .ok (.getfield 9, 3) := by decide +kernel
theorem dX2_findsOne_58 : decode cX2_findsOne 58 = .ok (.iload_n 2, 1) := by decide +kernel
theorem dX2_findsOne_59 : decode cX2_findsOne 59 = .ok (.iload_n 3, 1) := by decide +kernel
theorem dX2_findsOne_60 : decode cX2_findsOne 60 = .ok (.iastore, 1) := by decide +kernel
theorem dX2_findsOne_61 : decode cX2_findsOne 61 = .ok (.aload_n 0, 1) := by decide +kernel
theorem dX2_findsOne_62 : decode cX2_findsOne 62 = .ok (.getfield 9, 3) := by decide +kernel
theorem dX2_findsOne_65 : decode cX2_findsOne 65 = .ok (.iload_n 2, 1) := by decide +kernel
theorem dX2_findsOne_66 : decode cX2_findsOne 66 = .ok (.iconst 1, 1) := by decide +kernel
theorem dX2_findsOne_67 : decode cX2_findsOne 67 = .ok (.iadd, 1) := by decide +kernel
theorem dX2_findsOne_68 : decode cX2_findsOne 68 = .ok (.iload 4, 2) := by decide +kernel
theorem dX2_findsOne_70 : decode cX2_findsOne 70 = .ok (.invokestatic 60, 3) := by decide +kernel
theorem dX2_findsOne_73 : decode cX2_findsOne 73 = .ok (.iastore, 1) := by decide +kernel
theorem dX2_findsOne_74 : decode cX2_findsOne 74 = .ok (.iconst 1, 1) := by decide +kernel
theorem dX2_findsOne_75 : decode cX2_findsOne 75 = .ok (.ireturn, 1) := by decide +kernel
theorem dX2_findsOne_76 : decode cX2_findsOne 76 = .ok (.iinc 4 1, 3) := by decide +kernel
theorem dX2_findsOne_79 : decode cX2_findsOne 79 = .ok (.goto (-63), 3) := by decide +kernel
theorem dX2_findsOne_82 : decode cX2_findsOne 82 = .ok (.iinc 3 1, 3) := by decide +kernel
theorem dX2_findsOne_85 : decode cX2_findsOne 85 = .ok (.goto (-83), 3) := by decide +kernel
theorem dX2_findsOne_88 : decode cX2_findsOne 88 = .ok (.iconst 0, 1) := by decide +kernel
theorem dX2_findsOne_89 : decode cX2_findsOne 89 = .ok (.ireturn, 1) := by decide +kernel
theorem dX2_bringsWithin_0 : decode cX2_bringsWithin 0 = .ok (.aload_n 0, 1) := by decide +kernel
theorem dX2_bringsWithin_1 : decode cX2_bringsWithin 1 = .ok (.getfield 19, 3) := by decide +kernel
theorem dX2_bringsWithin_4 : decode cX2_bringsWithin 4 = .ok (.aload_n 0, 1) := by decide +kernel
theorem dX2_bringsWithin_5 : decode cX2_bringsWithin 5 = .ok (.getfield 50, 3) := by decide +kernel
theorem dX2_bringsWithin_8 : decode cX2_bringsWithin 8 = .ok (.invokevirtual 74, 3) := by decide +kernel
theorem dX2_bringsWithin_11 : decode cX2_bringsWithin 11 = .ok (.ifCond .eq 5, 3) := by decide +kernel
theorem dX2_bringsWithin_14 : decode cX2_bringsWithin 14 = .ok (.iconst 0, 1) := by decide +kernel
theorem dX2_bringsWithin_15 : decode cX2_bringsWithin 15 = .ok (.ireturn, 1) := by decide +kernel
theorem dX2_bringsWithin_16 : decode cX2_bringsWithin 16 = .ok (.aload_n 0, 1) := by decide +kernel
theorem dX2_bringsWithin_17 : decode cX2_bringsWithin 17 = .ok (.getfield 19, 3) := by decide +kernel
theorem dX2_bringsWithin_20 : decode cX2_bringsWithin 20 = .ok (.invokevirtual 47, 3) := by decide +kernel
theorem dX2_bringsWithin_23 : decode cX2_bringsWithin 23 = .ok (.istore_n 1, 1) := by decide +kernel
theorem dX2_bringsWithin_24 : decode cX2_bringsWithin 24 = .ok (.iload_n 1, 1) := by decide +kernel
theorem dX2_bringsWithin_25 : decode cX2_bringsWithin 25 = .ok (.ldc 32, 2) := by decide +kernel
theorem dX2_bringsWithin_27 : decode cX2_bringsWithin 27 = .ok (.if_icmp .ne 11, 3) := by decide +kernel
theorem dX2_bringsWithin_30 : decode cX2_bringsWithin 30 = .ok (.aload_n 0, 1) := by decide +kernel
theorem dX2_bringsWithin_31 : decode cX2_bringsWithin 31 = .ok (.getfield 19, 3) := by decide +kernel
theorem dX2_bringsWithin_34 : decode cX2_bringsWithin 34 = .ok (.invokevirtual 77, 3) := by decide +kernel
theorem dX2_bringsWithin_37 : decode cX2_bringsWithin 37 = .ok (.istore_n 1, 1) := by decide +kernel
theorem dX2_bringsWithin_38 : decode cX2_bringsWithin 38 = .ok (.iload_n 1, 1) := by decide +kernel
theorem dX2_bringsWithin_39 : decode cX2_bringsWithin 39 = .ok (.ldc 32, 2) := by decide +kernel
theorem dX2_bringsWithin_41 : decode cX2_bringsWithin 41 = .ok (.if_icmp .ne 5, 3) := by decide +kernel
theorem dX2_bringsWithin_44 : decode cX2_bringsWithin 44 = .ok (.iconst 1, 1) := by decide +kernel
theorem dX2_bringsWithin_45 : decode cX2_bringsWithin 45 = .ok (.ireturn, 1) := by decide +kernel
theorem dX2_bringsWithin_46 : decode cX2_bringsWithin 46 = .ok (.aload_n 0, 1) := by decide +kernel
theorem dX2_bringsWithin_47 : decode cX2_bringsWithin 47 = .ok (.iload_n 1, 1) := by decide +kernel
theorem dX2_bringsWithin_48 : decode cX2_bringsWithin 48 = .ok (.putfield 50, 3) := by decide +kernel
theorem dX2_bringsWithin_51 : decode cX2_bringsWithin 51 = .ok (.iconst 0, 1) := by decide +kernel
theorem dX2_bringsWithin_52 : decode cX2_bringsWithin 52 = .ok (.ireturn, 1) := by decide +kernel
theorem dX2_nearest_0 : decode cX2_nearest 0 = .ok (.iload_n 0, 1) := by decide +kernel
theorem dX2_nearest_1 : decode cX2_nearest 1 = .ok (.iconst 1, 1) := by decide +kernel
theorem dX2_nearest_2 : decode cX2_nearest 2 = .ok (.ishr, 1) := by decide +kernel
theorem dX2_nearest_3 : decode cX2_nearest 3 = .ok (.iconst 1, 1) := by decide +kernel
theorem dX2_nearest_4 : decode cX2_nearest 4 = .ok (.iadd, 1) := by decide +kernel
theorem dX2_nearest_5 : decode cX2_nearest 5 = .ok (.istore_n 1, 1) := by decide +kernel
theorem dX2_nearest_6 : decode cX2_nearest 6 = .ok (.iload_n 0, 1) := by decide +kernel
theorem dX2_nearest_7 : decode cX2_nearest 7 = .ok (.iconst 1, 1) := by decide +kernel
theorem dX2_nearest_8 : decode cX2_nearest 8 = .ok (.iand, 1) := by decide +kernel
theorem dX2_nearest_9 : decode cX2_nearest 9 = .ok (.ifCond .ne 7, 3) := by decide +kernel
theorem dX2_nearest_12 : decode cX2_nearest 12 = .ok (.iload_n 1, 1) := by decide +kernel
theorem dX2_nearest_13 : decode cX2_nearest 13 = .ok (.goto 5, 3) := by decide +kernel
theorem dX2_nearest_16 : decode cX2_nearest 16 = .ok (.iload_n 1, 1) := by decide +kernel
theorem dX2_nearest_17 : decode cX2_nearest 17 = .ok (.ineg, 1) := by decide +kernel
theorem dX2_nearest_18 : decode cX2_nearest 18 = .ok (.ireturn, 1) := by decide +kernel
theorem dX3_init_0 : decode cX3_init 0 = .ok (.aload_n 0, 1) := by decide +kernel
theorem dX3_init_1 : decode cX3_init 1 = .ok (.invokespecial 3, 3) := by decide +kernel
theorem dX3_init_4 : decode cX3_init 4 = .ok (.aload_n 0, 1) := by decide +kernel
theorem dX3_init_5 : decode cX3_init 5 = .ok (.bipush 6, 2) := by decide +kernel
theorem dX3_init_7 : decode cX3_init 7 = .ok (.bipush 17, 2) := by decide +kernel
theorem dX3_init_9 : decode cX3_init 9 = .ok (.multianewarray 9 2, 4) := by decide +kernel
theorem dX3_init_13 : decode cX3_init 13 = .ok (.putfield 11, 3) := by decide +kernel
theorem dX3_init_16 : decode cX3_init 16 = .ok (.aload_n 0, 1) := by decide +kernel
theorem dX3_init_17 : decode cX3_init 17 = .ok (.bipush 6, 2) := by decide +kernel
theorem dX3_init_19 : decode cX3_init 19 = .ok (.newarray .int, 2) := by decide +kernel
theorem dX3_init_21 : decode cX3_init 21 = .ok (.dup, 1) := by decide +kernel
theorem dX3_init_22 : decode cX3_init 22 = .ok (.iconst 0, 1) := by decide +kernel
theorem dX3_init_23 : decode cX3_init 23 = .ok (.iconst (-1), 1) := by decide +kernel
theorem dX3_init_24 : decode cX3_init 24 = .ok (.iastore, 1) := by decide +kernel
theorem dX3_init_25 : decode cX3_init 25 = .ok (.dup, 1) := by decide +kernel
theorem dX3_init_26 : decode cX3_init 26 = .ok (.iconst 1, 1) := by decide +kernel
theorem dX3_init_27 : decode cX3_init 27 = .ok (.iconst (-1), 1) := by decide +kernel
theorem dX3_init_28 : decode cX3_init 28 = .ok (.iastore, 1) := by decide +kernel
theorem dX3_init_29 : decode cX3_init 29 = .ok (.dup, 1) := by decide +kernel
theorem dX3_init_30 : decode cX3_init 30 = .ok (.iconst 2, 1) := by decide +kernel
theorem dX3_init_31 : decode cX3_init 31 = .ok (.iconst (-1), 1) := by decide +kernel
theorem dX3_init_32 : decode cX3_init 32 = .ok (.iastore, 1) := by decide +kernel
theorem dX3_init_33 : decode cX3_init 33 = .ok (.dup, 1) := by decide +kernel
theorem dX3_init_34 : decode cX3_init 34 = .ok (.iconst 3, 1) := by decide +kernel
theorem dX3_init_35 : decode cX3_init 35 = .ok (.iconst (-1), 1) := by decide +kernel
theorem dX3_init_36 : decode cX3_init 36 = .ok (.iastore, 1) := by decide +kernel
theorem dX3_init_37 : decode cX3_init 37 = .ok (.dup, 1) := by decide +kernel
theorem dX3_init_38 : decode cX3_init 38 = .ok (.iconst 4, 1) := by decide +kernel
theorem dX3_init_39 : decode cX3_init 39 = .ok (.iconst (-1), 1) := by decide +kernel
theorem dX3_init_40 : decode cX3_init 40 = .ok (.iastore, 1) := by decide +kernel
theorem dX3_init_41 : decode cX3_init 41 = .ok (.dup, 1) := by decide +kernel
theorem dX3_init_42 : decode cX3_init 42 = .ok (.iconst 5, 1) := by decide +kernel
theorem dX3_init_43 : decode cX3_init 43 = .ok (.iconst (-1), 1) := by decide +kernel
theorem dX3_init_44 : decode cX3_init 44 = .ok (.iastore, 1) := by decide +kernel
theorem dX3_init_45 : decode cX3_init 45 = .ok (.putfield 16, 3) := by decide +kernel
theorem dX3_init_48 : decode cX3_init 48 = .ok (.return_, 1) := by decide +kernel
theorem dX3_begin_0 : decode cX3_begin 0 = .ok (.aload_n 0, 1) := by decide +kernel
theorem dX3_begin_1 : decode cX3_begin 1 = .ok (.getfield 16, 3) := by decide +kernel
theorem dX3_begin_4 : decode cX3_begin 4 = .ok (.iload_n 1, 1) := by decide +kernel
theorem dX3_begin_5 : decode cX3_begin 5 = .ok (.iload_n 2, 1) := by decide +kernel
theorem dX3_begin_6 : decode cX3_begin 6 = .ok (.iastore, 1) := by decide +kernel
theorem dX3_begin_7 : decode cX3_begin 7 = .ok (.iconst 0, 1) := by decide +kernel
theorem dX3_begin_8 : decode cX3_begin 8 = .ok (.istore_n 3, 1) := by decide +kernel
theorem dX3_begin_9 : decode cX3_begin 9 = .ok (.iload_n 3, 1) := by decide +kernel
theorem dX3_begin_10 : decode cX3_begin 10 = .ok (.bipush 17, 2) := by decide +kernel
theorem dX3_begin_12 : decode cX3_begin 12 = .ok (.if_icmp .ge 18, 3) := by decide +kernel
theorem dX3_begin_15 : decode cX3_begin 15 = .ok (.aload_n 0, 1) := by decide +kernel
theorem dX3_begin_16 : decode cX3_begin 16 = .ok (.getfield 11, 3) := by decide +kernel
theorem dX3_begin_19 : decode cX3_begin 19 = .ok (.iload_n 1, 1) := by decide +kernel
theorem dX3_begin_20 : decode cX3_begin 20 = .ok (.aaload, 1) := by decide +kernel
theorem dX3_begin_21 : decode cX3_begin 21 = .ok (.iload_n 3, 1) := by decide +kernel
theorem dX3_begin_22 : decode cX3_begin 22 = .ok (.iconst 0, 1) := by decide +kernel
theorem dX3_begin_23 : decode cX3_begin 23 = .ok (.iastore, 1) := by decide +kernel
theorem dX3_begin_24 : decode cX3_begin 24 = .ok (.iinc 3 1, 3) := by decide +kernel
theorem dX3_begin_27 : decode cX3_begin 27 = .ok (.goto (-18), 3) := by decide +kernel
theorem dX3_begin_30 : decode cX3_begin 30 = .ok (.return_, 1) := by decide +kernel
theorem dX3_isMissing_0 : decode cX3_isMissing 0 = .ok (.aload_n 0, 1) := by decide +kernel
theorem dX3_isMissing_1 : decode cX3_isMissing 1 = .ok (.getfield 16, 3) := by decide +kernel
theorem dX3_isMissing_4 : decode cX3_isMissing 4 = .ok (.iload_n 1, 1) := by decide +kernel
theorem dX3_isMissing_5 : decode cX3_isMissing 5 = .ok (.iaload, 1) := by decide +kernel
theorem dX3_isMissing_6 : decode cX3_isMissing 6 = .ok (.iconst (-1), 1) := by decide +kernel
theorem dX3_isMissing_7 : decode cX3_isMissing 7 = .ok (.if_icmp .ne 7, 3) := by decide +kernel
theorem dX3_isMissing_10 : decode cX3_isMissing 10 = .ok (.iconst 1, 1) := by decide +kernel
theorem dX3_isMissing_11 : decode cX3_isMissing 11 = .ok (.goto 4, 3) := by decide +kernel
theorem dX3_isMissing_14 : decode cX3_isMissing 14 = .ok (.iconst 0, 1) := by decide +kernel
theorem dX3_isMissing_15 : decode cX3_isMissing 15 = .ok (.ireturn, 1) := by decide +kernel
theorem dX4_init_0 : decode cX4_init 0 = .ok (.aload_n 0, 1) := by decide +kernel
theorem dX4_init_1 : decode cX4_init 1 = .ok (.invokespecial 3, 3) := by decide +kernel
theorem dX4_init_4 : decode cX4_init 4 = .ok (.aload_n 0, 1) := by decide +kernel
theorem dX4_init_5 : decode cX4_init 5 = .ok (.bipush 60, 2) := by decide +kernel
theorem dX4_init_7 : decode cX4_init 7 = .ok (.newarray .int, 2) := by decide +kernel
theorem dX4_init_9 : decode cX4_init 9 = .ok (.putfield 9, 3) := by decide +kernel
theorem dX4_init_12 : decode cX4_init 12 = .ok (.aload_n 0, 1) := by decide +kernel
theorem dX4_init_13 : decode cX4_init 13 = .ok (.bipush 60, 2) := by decide +kernel
theorem dX4_init_15 : decode cX4_init 15 = .ok (.newarray .int, 2) := by decide +kernel
theorem dX4_init_17 : decode cX4_init 17 = .ok (.putfield 15, 3) := by decide +kernel
theorem dX4_init_20 : decode cX4_init 20 = .ok (.return_, 1) := by decide +kernel
theorem dX4_isFull_0 : decode cX4_isFull 0 = .ok (.aload_n 0, 1) := by decide +kernel
theorem dX4_isFull_1 : decode cX4_isFull 1 = .ok (.getfield 18, 3) := by decide +kernel
theorem dX4_isFull_4 : decode cX4_isFull 4 = .ok (.bipush 60, 2) := by decide +kernel
theorem dX4_isFull_6 : decode cX4_isFull 6 = .ok (.if_icmp .lt 7, 3) := by decide +kernel
theorem dX4_isFull_9 : decode cX4_isFull 9 = .ok (.iconst 1, 1) := by decide +kernel
theorem dX4_isFull_10 : decode cX4_isFull 10 = .ok (.goto 4, 3) := by decide +kernel
theorem dX4_isFull_13 : decode cX4_isFull 13 = .ok (.iconst 0, 1) := by decide +kernel
theorem dX4_isFull_14 : decode cX4_isFull 14 = .ok (.ireturn, 1) := by decide +kernel
theorem dX4_add_0 : decode cX4_add 0 = .ok (.aload_n 0, 1) := by decide +kernel
theorem dX4_add_1 : decode cX4_add 1 = .ok (.invokevirtual 22, 3) := by decide +kernel
theorem dX4_add_4 : decode cX4_add 4 = .ok (.ifCond .eq 4, 3) := by decide +kernel
theorem dX4_add_7 : decode cX4_add 7 = .ok (.return_, 1) := by decide +kernel
theorem dX4_add_8 : decode cX4_add 8 = .ok (.aload_n 0, 1) := by decide +kernel
theorem dX4_add_9 : decode cX4_add 9 = .ok (.getfield 9, 3) := by decide +kernel
theorem dX4_add_12 : decode cX4_add 12 = .ok (.aload_n 0, 1) := by decide +kernel
theorem dX4_add_13 : decode cX4_add 13 = .ok (.getfield 18, 3) := by decide +kernel
theorem dX4_add_16 : decode cX4_add 16 = .ok (.iload_n 1, 1) := by decide +kernel
theorem dX4_add_17 : decode cX4_add 17 = .ok (.iastore, 1) := by decide +kernel
theorem dX4_add_18 : decode cX4_add 18 = .ok (.aload_n 0, 1) := by decide +kernel
theorem dX4_add_19 : decode cX4_add 19 = .ok (.getfield 15, 3) := by decide +kernel
theorem dX4_add_22 : decode cX4_add 22 = .ok (.aload_n 0, 1) := by decide +kernel
theorem dX4_add_23 : decode cX4_add 23 = .ok (.getfield 18, 3) := by decide +kernel
theorem dX4_add_26 : decode cX4_add 26 = .ok (.iload_n 2, 1) := by decide +kernel
theorem dX4_add_27 : decode cX4_add 27 = .ok (.iastore, 1) := by decide +kernel
theorem dX4_add_28 : decode cX4_add 28 = .ok (.aload_n 0, 1) := by decide +kernel
theorem dX4_add_29 : decode cX4_add 29 = .ok (.dup, 1) := by decide +kernel
theorem dX4_add_30 : decode cX4_add 30 = .ok (.getfield 18, 3) := by decide +kernel
theorem dX4_add_33 : decode cX4_add 33 = .ok (.iconst 1, 1) := by decide +kernel
theorem dX4_add_34 : decode cX4_add 34 = .ok (.iadd, 1) := by decide +kernel
theorem dX4_add_35 : decode cX4_add 35 = .ok (.putfield 18, 3) := by decide +kernel
theorem dX4_add_38 : decode cX4_add 38 = .ok (.return_, 1) := by decide +kernel
theorem dX4_allQuarters_0 : decode cX4_allQuarters 0 = .ok (.iconst 0, 1) := by decide +kernel
theorem dX4_allQuarters_1 : decode cX4_allQuarters 1 = .ok (.istore_n 1, 1) := by decide +kernel
theorem dX4_allQuarters_2 : decode cX4_allQuarters 2 = .ok (.iconst 0, 1) := by decide +kernel
theorem dX4_allQuarters_3 : decode cX4_allQuarters 3 = .ok (.istore_n 2, 1) := by decide +kernel
theorem dX4_allQuarters_4 : decode cX4_allQuarters 4 = .ok (.iload_n 2, 1) := by decide +kernel
theorem dX4_allQuarters_5 : decode cX4_allQuarters 5 = .ok (.aload_n 0, 1) := by decide +kernel
theorem dX4_allQuarters_6 : decode cX4_allQuarters 6 = .ok (.getfield 18, 3) := by decide +kernel
theorem dX4_allQuarters_9 : decode cX4_allQuarters 9 = .ok (.if_icmp .ge 21, 3) := by decide +kernel
theorem dX4_allQuarters_12 : decode cX4_allQuarters 12 = .ok (.iload_n 1, 1) := by decide +kernel
theorem dX4_allQuarters_13 : decode cX4_allQuarters 13 = .ok (.aload_n 0, 1) := by decide +kernel
theorem dX4_allQuarters_14 : decode cX4_allQuarters 14 = .ok (.getfield 15, 3) := by decide +kernel
theorem dX4_allQuarters_17 : decode cX4_allQuarters 17 = .ok (.iload_n 2, 1) := by decide +kernel
theorem dX4_allQuarters_18 : decode cX4_allQuarters 18 = .ok (.iaload, 1) := by decide +kernel
theorem dX4_allQuarters_19 : decode cX4_allQuarters 19 = .ok (.invokestatic 26, 3) := by decide +kernel
theorem dX4_allQuarters_22 : decode cX4_allQuarters 22 = .ok (.iadd, 1) := by decide +kernel
theorem dX4_allQuarters_23 : decode cX4_allQuarters 23 = .ok (.istore_n 1, 1) := by decide +kernel
theorem dX4_allQuarters_24 : decode cX4_allQuarters 24 = .ok (.iinc 2 1, 3) := by decide +kernel
theorem dX4_allQuarters_27 : decode cX4_allQuarters 27 = .ok (.goto (-23), 3) := by decide +kernel
theorem dX4_allQuarters_30 : decode cX4_allQuarters 30 = .ok (.iload_n 1, 1) := by decide +kernel
theorem dX4_allQuarters_31 : decode cX4_allQuarters 31 = .ok (.ireturn, 1) := by decide +kernel
theorem dX5_init_0 : decode cX5_init 0 = .ok (.aload_n 0, 1) := by decide +kernel
theorem dX5_init_1 : decode cX5_init 1 = .ok (.invokespecial 3, 3) := by decide +kernel
theorem dX5_init_4 : decode cX5_init 4 = .ok (.aload_n 0, 1) := by decide +kernel
theorem dX5_init_5 : decode cX5_init 5 = .ok (.bipush 32, 2) := by decide +kernel
theorem dX5_init_7 : decode cX5_init 7 = .ok (.newarray .int, 2) := by decide +kernel
theorem dX5_init_9 : decode cX5_init 9 = .ok (.putfield 9, 3) := by decide +kernel
theorem dX5_init_12 : decode cX5_init 12 = .ok (.aload_n 0, 1) := by decide +kernel
theorem dX5_init_13 : decode cX5_init 13 = .ok (.bipush 32, 2) := by decide +kernel
theorem dX5_init_15 : decode cX5_init 15 = .ok (.newarray .int, 2) := by decide +kernel
theorem dX5_init_17 : decode cX5_init 17 = .ok (.putfield 15, 3) := by decide +kernel
theorem dX5_init_20 : decode cX5_init 20 = .ok (.aload_n 0, 1) := by decide +kernel
theorem dX5_init_21 : decode cX5_init 21 = .ok (.iconst 2, 1) := by decide +kernel
theorem dX5_init_22 : decode cX5_init 22 = .ok (.bipush 32, 2) := by decide +kernel
theorem dX5_init_24 : decode cX5_init 24 = .ok (.multianewarray 18 2, 4) := by decide +kernel
theorem dX5_init_28 : decode cX5_init 28 = .ok (.putfield 20, 3) := by decide +kernel
theorem dX5_init_31 : decode cX5_init 31 = .ok (.aload_n 0, 1) := by decide +kernel
theorem dX5_init_32 : decode cX5_init 32 = .ok (.iconst 2, 1) := by decide +kernel
theorem dX5_init_33 : decode cX5_init 33 = .ok (.bipush 32, 2) := by decide +kernel
theorem dX5_init_35 : decode cX5_init 35 = .ok (.multianewarray 18 2, 4) := by decide +kernel
theorem dX5_init_39 : decode cX5_init 39 = .ok (.putfield 23, 3) := by decide +kernel
theorem dX5_init_42 : decode cX5_init 42 = .ok (.aload_n 0, 1) := by decide +kernel
theorem dX5_init_43 : decode cX5_init 43 = .ok (.iconst 2, 1) := by decide +kernel
theorem dX5_init_44 : decode cX5_init 44 = .ok (.bipush 32, 2) := by decide +kernel
theorem dX5_init_46 : decode cX5_init 46 = .ok (.multianewarray 18 2, 4) := by decide +kernel
theorem dX5_init_50 : decode cX5_init 50 = .ok (.putfield 26, 3) := by decide +kernel
theorem dX5_init_53 : decode cX5_init 53 = .ok (.aload_n 0, 1) := by decide +kernel
theorem dX5_init_54 : decode cX5_init 54 = .ok (.bipush 8, 2) := by decide +kernel
theorem dX5_init_56 : decode cX5_init 56 = .ok (.putfield 29, 3) := by decide +kernel
theorem dX5_init_59 : decode cX5_init 59 = .ok (.return_, 1) := by decide +kernel
theorem dX5_begin_0 : decode cX5_begin 0 = .ok (.aload_n 0, 1) := by decide +kernel
theorem dX5_begin_1 : decode cX5_begin 1 = .ok (.iload_n 1, 1) := by decide +kernel
theorem dX5_begin_2 : decode cX5_begin 2 = .ok (.putfield 29, 3) := by decide +kernel
theorem dX5_begin_5 : decode cX5_begin 5 = .ok (.iconst 0, 1) := by decide +kernel
theorem dX5_begin_6 : decode cX5_begin 6 = .ok (.istore_n 2, 1) := by decide +kernel
theorem dX5_begin_7 : decode cX5_begin 7 = .ok (.iload_n 2, 1) := by decide +kernel
theorem dX5_begin_8 : decode cX5_begin 8 = .ok (.iload_n 1, 1) := by decide +kernel
theorem dX5_begin_9 : decode cX5_begin 9 = .ok (.if_icmp .ge 77, 3) := by decide +kernel
theorem dX5_begin_12 : decode cX5_begin 12 = .ok (.aload_n 0, 1) := by decide +kernel
theorem dX5_begin_13 : decode cX5_begin 13 = .ok (.getfield 9, 3) := by decide +kernel
theorem dX5_begin_16 : decode cX5_begin 16 = .ok (.iload_n 2, 1) := by decide +kernel
theorem dX5_begin_17 : decode cX5_begin 17 = .ok (.iload_n 2, 1) := by decide +kernel
theorem dX5_begin_18 : decode cX5_begin 18 = .ok (.iconst 2, 1) := by decide +kernel
theorem dX5_begin_19 : decode cX5_begin 19 = .ok (.irem, 1) := by decide +kernel
theorem dX5_begin_20 : decode cX5_begin 20 = .ok (.ifCond .ne 7, 3) := by decide +kernel
theorem dX5_begin_23 : decode cX5_begin 23 = .ok (.iconst 1, 1) := by decide +kernel
theorem dX5_begin_24 : decode cX5_begin 24 = .ok (.goto 4, 3) := by decide +kernel
theorem dX5_begin_27 : decode cX5_begin 27 = .ok (.iconst 2, 1) := by decide +kernel
theorem dX5_begin_28 : decode cX5_begin 28 = .ok (.iastore, 1) := by decide +kernel
theorem dX5_begin_29 : decode cX5_begin 29 = .ok (.aload_n 0, 1) := by decide +kernel
theorem dX5_begin_30 : decode cX5_begin 30 = .ok (.getfield 15, 3) := by decide +kernel
theorem dX5_begin_33 : decode cX5_begin 33 = .ok (.iload_n 2, 1) := by decide +kernel
theorem dX5_begin_34 : decode cX5_begin 34 = .ok (.sipush 500, 3) := by decide +kernel
theorem dX5_begin_37 : decode cX5_begin 37 = .ok (.iastore, 1) := by decide +kernel
theorem dX5_begin_38 : decode cX5_begin 38 = .ok (.iconst 0, 1) := by decide +kernel
theorem dX5_begin_39 : decode cX5_begin 39 = .ok (.istore_n 3, 1) := by decide +kernel
theorem dX5_begin_40 : decode cX5_begin 40 = .ok (.iload_n 3, 1) := by decide +kernel
theorem dX5_begin_41 : decode cX5_begin 41 = .ok (.iconst 2, 1) := by decide +kernel
theorem dX5_begin_42 : decode cX5_begin 42 = .ok (.if_icmp .ge 38, 3) := by decide +kernel
theorem dX5_begin_45 : decode cX5_begin 45 = .ok (.aload_n 0, 1) := by decide +kernel
theorem dX5_begin_46 : decode cX5_begin 46 = .ok (.getfield 20, 3) := by decide +kernel
theorem dX5_begin_49 : decode cX5_begin 49 = .ok (.iload_n 3, 1) := by decide +kernel
theorem dX5_begin_50 : decode cX5_begin 50 = .ok (.aaload, 1) := by decide +kernel
theorem dX5_begin_51 : decode cX5_begin 51 = .ok (.iload_n 2, 1) := by decide +kernel
theorem dX5_begin_52 : decode cX5_begin 52 = .ok (.sipush (-10000), 3) := by decide +kernel
theorem dX5_begin_55 : decode cX5_begin 55 = .ok (.iastore, 1) := by decide +kernel
theorem dX5_begin_56 : decode cX5_begin 56 = .ok (.aload_n 0, 1) := by decide +kernel
theorem dX5_begin_57 : decode cX5_begin 57 = .ok (.getfield 23, 3) := by decide +kernel
theorem dX5_begin_60 : decode cX5_begin 60 = .ok (.iload_n 3, 1) := by decide +kernel
theorem dX5_begin_61 : decode cX5_begin 61 = .ok (.aaload, 1) := by decide +kernel
theorem dX5_begin_62 : decode cX5_begin 62 = .ok (.iload_n 2, 1) := by decide +kernel
theorem dX5_begin_63 : decode cX5_begin 63 = .ok (.iconst 0, 1) := by decide +kernel
theorem dX5_begin_64 : decode cX5_begin 64 = .ok (.iastore, 1) := by decide +kernel
theorem dX5_begin_65 : decode cX5_begin 65 = .ok (.aload_n 0, 1) := by decide +kernel
theorem dX5_begin_66 : decode cX5_begin 66 = .ok (.getfield 26, 3) := by decide +kernel
theorem dX5_begin_69 : decode cX5_begin 69 = .ok (.iload_n 3, 1) := by decide +kernel
theorem dX5_begin_70 : decode cX5_begin 70 = .ok (.aaload, 1) := by decide +kernel
theorem dX5_begin_71 : decode cX5_begin 71 = .ok (.iload_n 2, 1) := by decide +kernel
theorem dX5_begin_72 : decode cX5_begin 72 = .ok (.iconst 0, 1) := by decide +kernel
theorem dX5_begin_73 : decode cX5_begin 73 = .ok (.iastore, 1) := by decide +kernel
theorem dX5_begin_74 : decode cX5_begin 74 = .ok (.iinc 3 1, 3) := by decide +kernel
theorem dX5_begin_77 : decode cX5_begin 77 = .ok (.goto (-37), 3) := by decide +kernel
theorem dX5_begin_80 : decode cX5_begin 80 = .ok (.iinc 2 1, 3) := by decide +kernel
theorem dX5_begin_83 : decode cX5_begin 83 = .ok (.goto (-76), 3) := by decide +kernel
theorem dX5_begin_86 : decode cX5_begin 86 = .ok (.return_, 1) := by decide +kernel
theorem dX5_hasHole_0 : decode cX5_hasHole 0 = .ok (.iload_n 1, 1) := by decide +kernel
theorem dX5_hasHole_1 : decode cX5_hasHole 1 = .ok (.iconst 0, 1) := by decide +kernel
theorem dX5_hasHole_2 : decode cX5_hasHole 2 = .ok (.aload_n 0, 1) := by decide +kernel
theorem dX5_hasHole_3 : decode cX5_hasHole 3 = .ok (.getfield 29, 3) := by decide +kernel
theorem dX5_hasHole_6 : decode cX5_hasHole 6 = .ok (.iconst 1, 1) := by decide +kernel
theorem dX5_hasHole_7 : decode cX5_hasHole 7 = .ok (.isub, 1) := by decide +kernel
theorem dX5_hasHole_8 : decode cX5_hasHole 8 = .ok (.invokestatic 33, 3) := by decide +kernel
theorem dX5_hasHole_11 : decode cX5_hasHole 11 = .ok (.ireturn, 1) := by decide +kernel
theorem dX5_isGone_0 : decode cX5_isGone 0 = .ok (.aload_n 0, 1) := by decide +kernel
theorem dX5_isGone_1 : decode cX5_isGone 1 = .ok (.getfield 9, 3) := by decide +kernel
theorem dX5_isGone_4 : decode cX5_isGone 4 = .ok (.iload_n 1, 1) := by decide +kernel
theorem dX5_isGone_5 : decode cX5_isGone 5 = .ok (.iaload, 1) := by decide +kernel
theorem dX5_isGone_6 : decode cX5_isGone 6 = .ok (.iconst 4, 1) := by decide +kernel
theorem dX5_isGone_7 : decode cX5_isGone 7 = .ok (.if_icmp .ne 7, 3) := by decide +kernel
theorem dX5_isGone_10 : decode cX5_isGone 10 = .ok (.iconst 1, 1) := by decide +kernel
theorem dX5_isGone_11 : decode cX5_isGone 11 = .ok (.goto 4, 3) := by decide +kernel
theorem dX5_isGone_14 : decode cX5_isGone 14 = .ok (.iconst 0, 1) := by decide +kernel
theorem dX5_isGone_15 : decode cX5_isGone 15 = .ok (.ireturn, 1) := by decide +kernel
theorem dX5_leanOf_0 : decode cX5_leanOf 0 = .ok (.getstatic 37, 3) := by decide +kernel
theorem dX5_leanOf_3 : decode cX5_leanOf 3 = .ok (.aload_n 0, 1) := by decide +kernel
theorem dX5_leanOf_4 : decode cX5_leanOf 4 = .ok (.getfield 9, 3) := by decide +kernel
theorem dX5_leanOf_7 : decode cX5_leanOf 7 = .ok (.iload_n 1, 1) := by decide +kernel
theorem dX5_leanOf_8 : decode cX5_leanOf 8 = .ok (.iaload, 1) := by decide +kernel
theorem dX5_leanOf_9 : decode cX5_leanOf 9 = .ok (.iaload, 1) := by decide +kernel
theorem dX5_leanOf_10 : decode cX5_leanOf 10 = .ok (.ireturn, 1) := by decide +kernel
theorem dX5_forceOf_0 : decode cX5_forceOf 0 = .ok (.getstatic 40, 3) := by decide +kernel
theorem dX5_forceOf_3 : decode cX5_forceOf 3 = .ok (.aload_n 0, 1) := by decide +kernel
theorem dX5_forceOf_4 : decode cX5_forceOf 4 = .ok (.getfield 9, 3) := by decide +kernel
theorem dX5_forceOf_7 : decode cX5_forceOf 7 = .ok (.iload_n 1, 1) := by decide +kernel
theorem dX5_forceOf_8 : decode cX5_forceOf 8 = .ok (.iaload, 1) := by decide +kernel
theorem dX5_forceOf_9 : decode cX5_forceOf 9 = .ok (.iaload, 1) := by decide +kernel
theorem dX5_forceOf_10 : decode cX5_forceOf 10 = .ok (.ireturn, 1) := by decide +kernel
theorem dX5_steps_0 : decode cX5_steps 0 = .ok (.iload_n 1, 1) := by decide +kernel
theorem dX5_steps_1 : decode cX5_steps 1 = .ok (.iload_n 2, 1) := by decide +kernel
theorem dX5_steps_2 : decode cX5_steps 2 = .ok (.isub, 1) := by decide +kernel
theorem dX5_steps_3 : decode cX5_steps 3 = .ok (.invokestatic 43, 3) := by decide +kernel
theorem dX5_steps_6 : decode cX5_steps 6 = .ok (.istore_n 3, 1) := by decide +kernel
theorem dX5_steps_7 : decode cX5_steps 7 = .ok (.iload_n 3, 1) := by decide +kernel
theorem dX5_steps_8 : decode cX5_steps 8 = .ok (.aload_n 0, 1) := by decide +kernel
theorem dX5_steps_9 : decode cX5_steps 9 = .ok (.getfield 29, 3) := by decide +kernel
theorem dX5_steps_12 : decode cX5_steps 12 = .ok (.iload_n 3, 1) := by decide +kernel
theorem dX5_steps_13 : decode cX5_steps 13 = .ok (.isub, 1) := by decide +kernel
theorem dX5_steps_14 : decode cX5_steps 14 = .ok (.invokestatic 49, 3) := by decide +kernel
theorem dX5_steps_17 : decode cX5_steps 17 = .ok (.ireturn, 1) := by decide +kernel
theorem dX5_bentAt_0 : decode cX5_bentAt 0 = .ok (.aload_n 0, 1) := by decide +kernel
theorem dX5_bentAt_1 : decode cX5_bentAt 1 = .ok (.getfield 23, 3) := by decide +kernel
theorem dX5_bentAt_4 : decode cX5_bentAt 4 = .ok (.iload_n 1, 1) := by decide +kernel
theorem dX5_bentAt_5 : decode cX5_bentAt 5 = .ok (.aaload, 1) := by decide +kernel
theorem dX5_bentAt_6 : decode cX5_bentAt 6 = .ok (.iload_n 2, 1) := by decide +kernel
theorem dX5_bentAt_7 : decode cX5_bentAt 7 = .ok (.iaload, 1) := by decide +kernel
theorem dX5_bentAt_8 : decode cX5_bentAt 8 = .ok (.aload_n 0, 1) := by decide +kernel
theorem dX5_bentAt_9 : decode cX5_bentAt 9 = .ok (.getfield 26, 3) := by decide +kernel
theorem dX5_bentAt_12 : decode cX5_bentAt 12 = .ok (.iload_n 1, 1) := by decide +kernel
theorem dX5_bentAt_13 : decode cX5_bentAt 13 = .ok (.aaload, 1) := by decide +kernel
theorem dX5_bentAt_14 : decode cX5_bentAt 14 = .ok (.iload_n 2, 1) := by decide +kernel
theorem dX5_bentAt_15 : decode cX5_bentAt 15 = .ok (.iaload, 1) := by decide +kernel
theorem dX5_bentAt_16 : decode cX5_bentAt 16 = .ok (.iadd, 1) := by decide +kernel
theorem dX5_bentAt_17 : decode cX5_bentAt 17 = .ok (.ireturn, 1) := by decide +kernel
theorem dX5_layStraight_0 : decode cX5_layStraight 0 = .ok (.iconst 0, 1) := by decide +kernel
theorem dX5_layStraight_1 : decode cX5_layStraight 1 = .ok (.istore_n 2, 1) := by decide +kernel
theorem dX5_layStraight_2 : decode cX5_layStraight 2 = .ok (.iload_n 2, 1) := by decide +kernel
theorem dX5_layStraight_3 : decode cX5_layStraight 3 = .ok (.aload_n 0, 1) := by decide +kernel
theorem dX5_layStraight_4 : decode cX5_layStraight 4 = .ok (.getfield 29, 3) := by decide +kernel
theorem dX5_layStraight_7 : decode cX5_layStraight 7 = .ok (.if_icmp .ge 23, 3) := by decide +kernel
theorem dX5_layStraight_10 : decode cX5_layStraight 10 = .ok (.aload_n 0, 1) := by decide +kernel
theorem dX5_layStraight_11 : decode cX5_layStraight 11 = .ok (.getfield 23, 3) := by decide +kernel
theorem dX5_layStraight_14 : decode cX5_layStraight 14 = .ok (.iload_n 1, 1) := by decide +kernel
theorem dX5_layStraight_15 : decode cX5_layStraight 15 = .ok (.aaload, 1) := by decide +kernel
theorem dX5_layStraight_16 : decode cX5_layStraight 16 = .ok (.iload_n 2, 1) := by decide +kernel
theorem dX5_layStraight_17 : decode cX5_layStraight 17 = .ok (.aload_n 0, 1) := by decide +kernel
theorem dX5_layStraight_18 : decode cX5_layStraight 18 = .ok (.iload_n 1, 1) := by decide +kernel
theorem dX5_layStraight_19 : decode cX5_layStraight 19 = .ok (.iload_n 2, 1) := by decide +kernel
theorem dX5_layStraight_20 : decode cX5_layStraight 20 = .ok (.invokevirtual 53, 3) := by decide +kernel
theorem dX5_layStraight_23 : decode cX5_layStraight 23 = .ok (.iastore, 1) := by decide +kernel
theorem dX5_layStraight_24 : decode cX5_layStraight 24 = .ok (.iinc 2 1, 3) := by decide +kernel
theorem dX5_layStraight_27 : decode cX5_layStraight 27 = .ok (.goto (-25), 3) := by decide +kernel
theorem dX5_layStraight_30 : decode cX5_layStraight 30 = .ok (.return_, 1) := by decide +kernel
theorem dX5_between_0 : decode cX5_between 0 = .ok (.aload_n 0, 1) := by decide +kernel
theorem dX5_between_1 : decode cX5_between 1 = .ok (.getfield 20, 3) := by decide +kernel
theorem dX5_between_4 : decode cX5_between 4 = .ok (.iload_n 1, 1) := by decide +kernel
theorem dX5_between_5 : decode cX5_between 5 = .ok (.aaload, 1) := by decide +kernel
theorem dX5_between_6 : decode cX5_between 6 = .ok (.astore_n 3, 1) := by decide +kernel
theorem dX5_between_7 : decode cX5_between 7 = .ok (.aload_n 3, 1) := by decide +kernel
theorem dX5_between_8 : decode cX5_between 8 = .ok (.iload_n 2, 1) := by decide +kernel
theorem dX5_between_9 : decode cX5_between 9 = .ok (.iaload, 1) := by decide +kernel
theorem dX5_between_10 : decode cX5_between 10 = .ok (.sipush (-10000), 3) := by decide +kernel
theorem dX5_between_13 : decode cX5_between 13 = .ok (.if_icmp .eq 7, 3) := by decide +kernel
theorem dX5_between_16 : decode cX5_between 16 = .ok (.aload_n 3, 1) := by decide +kernel
theorem dX5_between_17 : decode cX5_between 17 = .ok (.iload_n 2, 1) := by decide +kernel
theorem dX5_between_18 : decode cX5_between 18 = .ok (.iaload, 1) := by decide +kernel
theorem dX5_between_19 : decode cX5_between 19 = .ok (.ireturn, 1) := by decide +kernel
theorem dX5_between_20 : decode cX5_between 20 = .ok (.aload_n 0, 1) := by decide +kernel
theorem dX5_between_21 : decode cX5_between 21 = .ok (.iload_n 1, 1) := by decide +kernel
theorem dX5_between_22 : decode cX5_between 22 = .ok (.iload_n 2, 1) := by decide +kernel
theorem dX5_between_23 : decode cX5_between 23 = .ok (.iconst (-1), 1) := by decide +kernel
theorem dX5_between_24 : decode cX5_between 24 = .ok (.invokevirtual 56, 3) := by decide +kernel
theorem dX5_between_27 : decode cX5_between 27 = .ok (.istore 4, 2) := by decide +kernel
theorem dX5_between_29 : decode cX5_between 29 = .ok (.aload_n 0, 1) := by decide +kernel
theorem dX5_between_30 : decode cX5_between 30 = .ok (.iload_n 1, 1) := by decide +kernel
theorem dX5_between_31 : decode cX5_between 31 = .ok (.iload_n 2, 1) := by decide +kernel
theorem dX5_between_32 : decode cX5_between 32 = .ok (.iconst 1, 1) := by decide +kernel
theorem dX5_between_33 : decode cX5_between 33 = .ok (.invokevirtual 56, 3) := by decide +kernel
theorem dX5_between_36 : decode cX5_between 36 = .ok (.istore 5, 2) := by decide +kernel
theorem dX5_between_38 : decode cX5_between 38 = .ok (.iload 4, 2) := by decide +kernel
theorem dX5_between_40 : decode cX5_between 40 = .ok (.ifCond .eq 8, 3) := by decide +kernel
theorem dX5_between_43 : decode cX5_between 43 = .ok (.iload 5, 2) := by decide +kernel
theorem dX5_between_45 : decode cX5_between 45 = .ok (.ifCond .ne 5, 3) := by decide +kernel
theorem dX5_between_48 : decode cX5_between 48 = .ok (.iconst 0, 1) := by decide +kernel
theorem dX5_between_49 : decode cX5_between 49 = .ok (.ireturn, 1) := by decide +kernel
theorem dX5_between_50 : decode cX5_between 50 = .ok (.aload_n 3, 1) := by decide +kernel
theorem dX5_between_51 : decode cX5_between 51 = .ok (.iload_n 2, 1) := by decide +kernel
theorem dX5_between_52 : decode cX5_between 52 = .ok (.iload 4, 2) := by decide +kernel
theorem dX5_between_54 : decode cX5_between 54 = .ok (.isub, 1) := by decide +kernel
theorem dX5_between_55 : decode cX5_between 55 = .ok (.aload_n 0, 1) := by decide +kernel
theorem dX5_between_56 : decode cX5_between 56 = .ok (.getfield 29, 3) := by decide +kernel
theorem dX5_between_59 : decode cX5_between 59 = .ok (.invokestatic 60, 3) := by decide +kernel
theorem dX5_between_62 : decode cX5_between 62 = .ok (.iaload, 1) := by decide +kernel
theorem dX5_between_63 : decode cX5_between 63 = .ok (.istore 6, 2) := by decide +kernel
theorem dX5_between_65 : decode cX5_between 65 = .ok (.aload_n 3, 1) := by decide +kernel
theorem dX5_between_66 : decode cX5_between 66 = .ok (.iload_n 2, 1) := by decide +kernel
theorem dX5_between_67 : decode cX5_between 67 = .ok (.iload 5, 2) := by decide +kernel
theorem dX5_between_69 : decode cX5_between 69 = .ok (.iadd, 1) := by decide +kernel
theorem dX5_between_70 : decode cX5_between 70 = .ok (.aload_n 0, 1) := by decide +kernel
theorem dX5_between_71 : decode cX5_between 71 = .ok (.getfield 29, 3) := by decide +kernel
theorem dX5_between_74 : decode cX5_between 74 = .ok (.invokestatic 60, 3) := by decide +kernel
theorem dX5_between_77 : decode cX5_between 77 = .ok (.iaload, 1) := by decide +kernel
theorem dX5_between_78 : decode cX5_between 78 = .ok (.istore 7, 2) := by decide +kernel
theorem dX5_between_80 : decode cX5_between 80 = .ok (.iload 6, 2) := by decide +kernel
theorem dX5_between_82 : decode cX5_between 82 = .ok (.iload 5, 2) := by decide +kernel
theorem dX5_between_84 : decode cX5_between 84 = .ok (.imul, 1) := by decide +kernel
theorem dX5_between_85 : decode cX5_between 85 = .ok (.iload 7, 2) := by decide +kernel
theorem dX5_between_87 : decode cX5_between 87 = .ok (.iload 4, 2) := by decide +kernel
theorem dX5_between_89 : decode cX5_between 89 = .ok (.imul, 1) := by decide +kernel
theorem dX5_between_90 : decode cX5_between 90 = .ok (.iadd, 1) := by decide +kernel
theorem dX5_between_91 : decode cX5_between 91 = .ok (.iload 4, 2) := by decide +kernel
theorem dX5_between_93 : decode cX5_between 93 = .ok (.iload 5, 2) := by decide +kernel
theorem dX5_between_95 : decode cX5_between 95 = .ok (.iadd, 1) := by decide +kernel
theorem dX5_between_96 : decode cX5_between 96 = .ok (.invokestatic 63, 3) := by decide +kernel
theorem dX5_between_99 : decode cX5_between 99 = .ok (.ireturn, 1) := by decide +kernel
theorem dX5_stepsToRead_0 : decode cX5_stepsToRead 0 = .ok (.iconst 1, 1) := by decide +kernel
theorem dX5_stepsToRead_1 : decode cX5_stepsToRead 1 = .ok (.istore 4, 2) := by decide +kernel
theorem dX5_stepsToRead_3 : decode cX5_stepsToRead 3 = .ok (.iload 4, 2) := by decide +kernel
theorem dX5_stepsToRead_5 : decode cX5_stepsToRead 5 = .ok (.aload_n 0, 1) := by decide +kernel
theorem dX5_stepsToRead_6 : decode cX5_stepsToRead 6 = .ok (.getfield 29, 3) := by decide +kernel
theorem dX5_stepsToRead_9 : decode cX5_stepsToRead 9 = .ok (.if_icmp .ge 38, 3) := by decide +kernel
theorem dX5_stepsToRead_12 : decode cX5_stepsToRead 12 = .ok (.aload_n 0, 1) := by decide +kernel
theorem dX5_stepsToRead_13 : decode cX5_stepsToRead 13 = .ok (.getfield 20, 3) := by decide +kernel
theorem dX5_stepsToRead_16 : decode cX5_stepsToRead 16 = .ok (.iload_n 1, 1) := by decide +kernel
theorem dX5_stepsToRead_17 : decode cX5_stepsToRead 17 = .ok (.aaload, 1) := by decide +kernel
theorem dX5_stepsToRead_18 : decode cX5_stepsToRead 18 = .ok (.iload_n 2, 1) := by decide +kernel
theorem dX5_stepsToRead_19 : decode cX5_stepsToRead 19 = .ok (.iload_n 3, 1) := by decide +kernel
theorem dX5_stepsToRead_20 : decode cX5_stepsToRead 20 = .ok (.iload 4, 2) := by decide +kernel
theorem dX5_stepsToRead_22 : decode cX5_stepsToRead 22 = .ok (.imul, 1) := by decide +kernel
theorem dX5_stepsToRead_23 : decode cX5_stepsToRead 23 = .ok (.iadd, 1) := by decide +kernel
theorem dX5_stepsToRead_24 : decode cX5_stepsToRead 24 = .ok (.aload_n 0, 1) := by decide +kernel
theorem dX5_stepsToRead_25 : decode cX5_stepsToRead 25 = .ok (.getfield 29, 3) := by decide +kernel
theorem dX5_stepsToRead_28 : decode cX5_stepsToRead 28 = .ok (.invokestatic 60, 3) := by decide +kernel
theorem dX5_stepsToRead_31 : decode cX5_stepsToRead 31 = .ok (.iaload, 1) := by decide +kernel
theorem dX5_stepsToRead_32 : decode cX5_stepsToRead 32 = .ok (.sipush (-10000), 3) := by decide +kernel
theorem dX5_stepsToRead_35 : decode cX5_stepsToRead 35 = .ok (.if_icmp .eq 6, 3) := by decide +kernel
theorem dX5_stepsToRead_38 : decode cX5_stepsToRead 38 = .ok (.iload 4, 2) := by decide +kernel
theorem dX5_stepsToRead_40 : decode cX5_stepsToRead 40 = .ok (.ireturn, 1) := by decide +kernel
theorem dX5_stepsToRead_41 : decode cX5_stepsToRead 41 = .ok (.iinc 4 1, 3) := by decide +kernel
theorem dX5_stepsToRead_44 : decode cX5_stepsToRead 44 = .ok (.goto (-41), 3) := by decide +kernel
theorem dX5_stepsToRead_47 : decode cX5_stepsToRead 47 = .ok (.iconst 0, 1) := by decide +kernel
theorem dX5_stepsToRead_48 : decode cX5_stepsToRead 48 = .ok (.ireturn, 1) := by decide +kernel
theorem dX5_howManyStand_0 : decode cX5_howManyStand 0 = .ok (.iconst 0, 1) := by decide +kernel
theorem dX5_howManyStand_1 : decode cX5_howManyStand 1 = .ok (.istore_n 1, 1) := by decide +kernel
theorem dX5_howManyStand_2 : decode cX5_howManyStand 2 = .ok (.iconst 0, 1) := by decide +kernel
theorem dX5_howManyStand_3 : decode cX5_howManyStand 3 = .ok (.istore_n 2, 1) := by decide +kernel
theorem dX5_howManyStand_4 : decode cX5_howManyStand 4 = .ok (.iload_n 2, 1) := by decide +kernel
theorem dX5_howManyStand_5 : decode cX5_howManyStand 5 = .ok (.aload_n 0, 1) := by decide +kernel
theorem dX5_howManyStand_6 : decode cX5_howManyStand 6 = .ok (.getfield 29, 3) := by decide +kernel
theorem dX5_howManyStand_9 : decode cX5_howManyStand 9 = .ok (.if_icmp .ge 20, 3) := by decide +kernel
theorem dX5_howManyStand_12 : decode cX5_howManyStand 12 = .ok (.aload_n 0, 1) := by decide +kernel
theorem dX5_howManyStand_13 : decode cX5_howManyStand 13 = .ok (.iload_n 2, 1) := by decide +kernel
theorem dX5_howManyStand_14 : decode cX5_howManyStand 14 = .ok (.invokevirtual 66, 3) := by decide +kernel
theorem dX5_howManyStand_17 : decode cX5_howManyStand 17 = .ok (.ifCond .ne 6, 3) := by decide +kernel
theorem dX5_howManyStand_20 : decode cX5_howManyStand 20 = .ok (.iinc 1 1, 3) := by decide +kernel
theorem dX5_howManyStand_23 : decode cX5_howManyStand 23 = .ok (.iinc 2 1, 3) := by decide +kernel
theorem dX5_howManyStand_26 : decode cX5_howManyStand 26 = .ok (.goto (-22), 3) := by decide +kernel
theorem dX5_howManyStand_29 : decode cX5_howManyStand 29 = .ok (.iload_n 1, 1) := by decide +kernel
theorem dX5_howManyStand_30 : decode cX5_howManyStand 30 = .ok (.ireturn, 1) := by decide +kernel
theorem dX5_howManyRead_0 : decode cX5_howManyRead 0 = .ok (.iconst 0, 1) := by decide +kernel
theorem dX5_howManyRead_1 : decode cX5_howManyRead 1 = .ok (.istore_n 2, 1) := by decide +kernel
theorem dX5_howManyRead_2 : decode cX5_howManyRead 2 = .ok (.iconst 0, 1) := by decide +kernel
theorem dX5_howManyRead_3 : decode cX5_howManyRead 3 = .ok (.istore_n 3, 1) := by decide +kernel
theorem dX5_howManyRead_4 : decode cX5_howManyRead 4 = .ok (.iload_n 3, 1) := by decide +kernel
theorem dX5_howManyRead_5 : decode cX5_howManyRead 5 = .ok (.aload_n 0, 1) := by decide +kernel
theorem dX5_howManyRead_6 : decode cX5_howManyRead 6 = .ok (.getfield 29, 3) := by decide +kernel
theorem dX5_howManyRead_9 : decode cX5_howManyRead 9 = .ok (.if_icmp .ge 26, 3) := by decide +kernel
theorem dX5_howManyRead_12 : decode cX5_howManyRead 12 = .ok (.aload_n 0, 1) := by decide +kernel
theorem dX5_howManyRead_13 : decode cX5_howManyRead 13 = .ok (.getfield 20, 3) := by decide +kernel
theorem dX5_howManyRead_16 : decode cX5_howManyRead 16 = .ok (.iload_n 1, 1) := by decide +kernel
theorem dX5_howManyRead_17 : decode cX5_howManyRead 17 = .ok (.aaload, 1) := by decide +kernel
theorem dX5_howManyRead_18 : decode cX5_howManyRead 18 = .ok (.iload_n 3, 1) := by decide +kernel
theorem dX5_howManyRead_19 : decode cX5_howManyRead 19 = .ok (.iaload, 1) := by decide +kernel
theorem dX5_howManyRead_20 : decode cX5_howManyRead 20 = .ok (.sipush (-10000), 3) := by decide +kernel
theorem dX5_howManyRead_23 : decode cX5_howManyRead 23 = .ok (.if_icmp .eq 6, 3) := by decide +kernel
theorem dX5_howManyRead_26 : decode cX5_howManyRead 26 = .ok (.iinc 2 1, 3) := by decide +kernel
theorem dX5_howManyRead_29 : decode cX5_howManyRead 29 = .ok (.iinc 3 1, 3) := by decide +kernel
theorem dX5_howManyRead_32 : decode cX5_howManyRead 32 = .ok (.goto (-28), 3) := by decide +kernel
theorem dX5_howManyRead_35 : decode cX5_howManyRead 35 = .ok (.iload_n 2, 1) := by decide +kernel
theorem dX5_howManyRead_36 : decode cX5_howManyRead 36 = .ok (.ireturn, 1) := by decide +kernel
theorem dJ9_floorDiv_7cf53_0 : decode cJ9_floorDiv_7cf53 0 = .ok (.iload_n 0, 1) := by decide +kernel
theorem dJ9_floorDiv_7cf53_1 : decode cJ9_floorDiv_7cf53 1 = .ok (.iload_n 1, 1) := by decide +kernel
theorem dJ9_floorDiv_7cf53_2 : decode cJ9_floorDiv_7cf53 2 = .ok (.idiv, 1) := by decide +kernel
theorem dJ9_floorDiv_7cf53_3 : decode cJ9_floorDiv_7cf53 3 = .ok (.istore_n 2, 1) := by decide +kernel
theorem dJ9_floorDiv_7cf53_4 : decode cJ9_floorDiv_7cf53 4 = .ok (.iload_n 0, 1) := by decide +kernel
theorem dJ9_floorDiv_7cf53_5 : decode cJ9_floorDiv_7cf53 5 = .ok (.iload_n 1, 1) := by decide +kernel
theorem dJ9_floorDiv_7cf53_6 : decode cJ9_floorDiv_7cf53 6 = .ok (.ixor, 1) := by decide +kernel
theorem dJ9_floorDiv_7cf53_7 : decode cJ9_floorDiv_7cf53 7 = .ok (.ifCond .ge 14, 3) := by decide +kernel
theorem dJ9_floorDiv_7cf53_10 : decode cJ9_floorDiv_7cf53 10 = .ok (.iload_n 2, 1) := by decide +kernel
theorem dJ9_floorDiv_7cf53_11 : decode cJ9_floorDiv_7cf53 11 = .ok (.iload_n 1, 1) := by decide +kernel
theorem dJ9_floorDiv_7cf53_12 : decode cJ9_floorDiv_7cf53 12 = .ok (.imul, 1) := by decide +kernel
theorem dJ9_floorDiv_7cf53_13 : decode cJ9_floorDiv_7cf53 13 = .ok (.iload_n 0, 1) := by decide +kernel
theorem dJ9_floorDiv_7cf53_14 : decode cJ9_floorDiv_7cf53 14 = .ok (.if_icmp .eq 7, 3) := by decide +kernel
theorem dJ9_floorDiv_7cf53_17 : decode cJ9_floorDiv_7cf53 17 = .ok (.iload_n 2, 1) := by decide +kernel
theorem dJ9_floorDiv_7cf53_18 : decode cJ9_floorDiv_7cf53 18 = .ok (.iconst 1, 1) := by decide +kernel
theorem dJ9_floorDiv_7cf53_19 : decode cJ9_floorDiv_7cf53 19 = .ok (.isub, 1) := by decide +kernel
theorem dJ9_floorDiv_7cf53_20 : decode cJ9_floorDiv_7cf53 20 = .ok (.ireturn, 1) := by decide +kernel
theorem dJ9_floorDiv_7cf53_21 : decode cJ9_floorDiv_7cf53 21 = .ok (.iload_n 2, 1) := by decide +kernel
theorem dJ9_floorDiv_7cf53_22 : decode cJ9_floorDiv_7cf53 22 = .ok (.ireturn, 1) := by decide +kernel
theorem dJ9_floorDiv_f86c9_0 : decode cJ9_floorDiv_f86c9 0 = .ok (.lload_n 0, 1) := by decide +kernel
theorem dJ9_floorDiv_f86c9_1 : decode cJ9_floorDiv_f86c9 1 = .ok (.lload_n 2, 1) := by decide +kernel
theorem dJ9_floorDiv_f86c9_2 : decode cJ9_floorDiv_f86c9 2 = .ok (.ldiv, 1) := by decide +kernel
theorem dJ9_floorDiv_f86c9_3 : decode cJ9_floorDiv_f86c9 3 = .ok (.lstore 4, 2) := by decide +kernel
theorem dJ9_floorDiv_f86c9_5 : decode cJ9_floorDiv_f86c9 5 = .ok (.lload_n 0, 1) := by decide +kernel
theorem dJ9_floorDiv_f86c9_6 : decode cJ9_floorDiv_f86c9 6 = .ok (.lload_n 2, 1) := by decide +kernel
theorem dJ9_floorDiv_f86c9_7 : decode cJ9_floorDiv_f86c9 7 = .ok (.lxor, 1) := by decide +kernel
theorem dJ9_floorDiv_f86c9_8 : decode cJ9_floorDiv_f86c9 8 = .ok (.lconst 0, 1) := by decide +kernel
theorem dJ9_floorDiv_f86c9_9 : decode cJ9_floorDiv_f86c9 9 = .ok (.lcmp, 1) := by decide +kernel
theorem dJ9_floorDiv_f86c9_10 : decode cJ9_floorDiv_f86c9 10 = .ok (.ifCond .ge 17, 3) := by decide +kernel
theorem dJ9_floorDiv_f86c9_13 : decode cJ9_floorDiv_f86c9 13 = .ok (.lload 4, 2) := by decide +kernel
theorem dJ9_floorDiv_f86c9_15 : decode cJ9_floorDiv_f86c9 15 = .ok (.lload_n 2, 1) := by decide +kernel
theorem dJ9_floorDiv_f86c9_16 : decode cJ9_floorDiv_f86c9 16 = .ok (.lmul, 1) := by decide +kernel
theorem dJ9_floorDiv_f86c9_17 : decode cJ9_floorDiv_f86c9 17 = .ok (.lload_n 0, 1) := by decide +kernel
theorem dJ9_floorDiv_f86c9_18 : decode cJ9_floorDiv_f86c9 18 = .ok (.lcmp, 1) := by decide +kernel
theorem dJ9_floorDiv_f86c9_19 : decode cJ9_floorDiv_f86c9 19 = .ok (.ifCond .eq 8, 3) := by decide +kernel
theorem dJ9_floorDiv_f86c9_22 : decode cJ9_floorDiv_f86c9 22 = .ok (.lload 4, 2) := by decide +kernel
theorem dJ9_floorDiv_f86c9_24 : decode cJ9_floorDiv_f86c9 24 = .ok (.lconst 1, 1) := by decide +kernel
theorem dJ9_floorDiv_f86c9_25 : decode cJ9_floorDiv_f86c9 25 = .ok (.lsub, 1) := by decide +kernel
theorem dJ9_floorDiv_f86c9_26 : decode cJ9_floorDiv_f86c9 26 = .ok (.lreturn, 1) := by decide +kernel
theorem dJ9_floorDiv_f86c9_27 : decode cJ9_floorDiv_f86c9 27 = .ok (.lload 4, 2) := by decide +kernel
theorem dJ9_floorDiv_f86c9_29 : decode cJ9_floorDiv_f86c9 29 = .ok (.lreturn, 1) := by decide +kernel
theorem dJ9_floorMod_7cf53_0 : decode cJ9_floorMod_7cf53 0 = .ok (.iload_n 0, 1) := by decide +kernel
theorem dJ9_floorMod_7cf53_1 : decode cJ9_floorMod_7cf53 1 = .ok (.iload_n 1, 1) := by decide +kernel
theorem dJ9_floorMod_7cf53_2 : decode cJ9_floorMod_7cf53 2 = .ok (.irem, 1) := by decide +kernel
theorem dJ9_floorMod_7cf53_3 : decode cJ9_floorMod_7cf53 3 = .ok (.istore_n 2, 1) := by decide +kernel
theorem dJ9_floorMod_7cf53_4 : decode cJ9_floorMod_7cf53 4 = .ok (.iload_n 0, 1) := by decide +kernel
theorem dJ9_floorMod_7cf53_5 : decode cJ9_floorMod_7cf53 5 = .ok (.iload_n 1, 1) := by decide +kernel
theorem dJ9_floorMod_7cf53_6 : decode cJ9_floorMod_7cf53 6 = .ok (.ixor, 1) := by decide +kernel
theorem dJ9_floorMod_7cf53_7 : decode cJ9_floorMod_7cf53 7 = .ok (.ifCond .ge 11, 3) := by decide +kernel
theorem dJ9_floorMod_7cf53_10 : decode cJ9_floorMod_7cf53 10 = .ok (.iload_n 2, 1) := by decide +kernel
theorem dJ9_floorMod_7cf53_11 : decode cJ9_floorMod_7cf53 11 = .ok (.ifCond .eq 7, 3) := by decide +kernel
theorem dJ9_floorMod_7cf53_14 : decode cJ9_floorMod_7cf53 14 = .ok (.iload_n 2, 1) := by decide +kernel
theorem dJ9_floorMod_7cf53_15 : decode cJ9_floorMod_7cf53 15 = .ok (.iload_n 1, 1) := by decide +kernel
theorem dJ9_floorMod_7cf53_16 : decode cJ9_floorMod_7cf53 16 = .ok (.iadd, 1) := by decide +kernel
theorem dJ9_floorMod_7cf53_17 : decode cJ9_floorMod_7cf53 17 = .ok (.ireturn, 1) := by decide +kernel
theorem dJ9_floorMod_7cf53_18 : decode cJ9_floorMod_7cf53 18 = .ok (.iload_n 2, 1) := by decide +kernel
theorem dJ9_floorMod_7cf53_19 : decode cJ9_floorMod_7cf53 19 = .ok (.ireturn, 1) := by decide +kernel
theorem dJ9_abs_0f7a4_0 : decode cJ9_abs_0f7a4 0 = .ok (.iload_n 0, 1) := by decide +kernel
theorem dJ9_abs_0f7a4_1 : decode cJ9_abs_0f7a4 1 = .ok (.ifCond .ge 8, 3) := by decide +kernel
theorem dJ9_abs_0f7a4_4 : decode cJ9_abs_0f7a4 4 = .ok (.iload_n 0, 1) := by decide +kernel
theorem dJ9_abs_0f7a4_5 : decode cJ9_abs_0f7a4 5 = .ok (.ineg, 1) := by decide +kernel
theorem dJ9_abs_0f7a4_6 : decode cJ9_abs_0f7a4 6 = .ok (.goto 4, 3) := by decide +kernel
theorem dJ9_abs_0f7a4_9 : decode cJ9_abs_0f7a4 9 = .ok (.iload_n 0, 1) := by decide +kernel
theorem dJ9_abs_0f7a4_10 : decode cJ9_abs_0f7a4 10 = .ok (.ireturn, 1) := by decide +kernel
theorem dJ9_abs_067f4_0 : decode cJ9_abs_067f4 0 = .ok (.lload_n 0, 1) := by decide +kernel
theorem dJ9_abs_067f4_1 : decode cJ9_abs_067f4 1 = .ok (.lconst 0, 1) := by decide +kernel
theorem dJ9_abs_067f4_2 : decode cJ9_abs_067f4 2 = .ok (.lcmp, 1) := by decide +kernel
theorem dJ9_abs_067f4_3 : decode cJ9_abs_067f4 3 = .ok (.ifCond .ge 8, 3) := by decide +kernel
theorem dJ9_abs_067f4_6 : decode cJ9_abs_067f4 6 = .ok (.lload_n 0, 1) := by decide +kernel
theorem dJ9_abs_067f4_7 : decode cJ9_abs_067f4 7 = .ok (.lneg, 1) := by decide +kernel
theorem dJ9_abs_067f4_8 : decode cJ9_abs_067f4 8 = .ok (.goto 4, 3) := by decide +kernel
theorem dJ9_abs_067f4_11 : decode cJ9_abs_067f4 11 = .ok (.lload_n 0, 1) := by decide +kernel
theorem dJ9_abs_067f4_12 : decode cJ9_abs_067f4 12 = .ok (.lreturn, 1) := by decide +kernel
theorem dJ9_max_7cf53_0 : decode cJ9_max_7cf53 0 = .ok (.iload_n 0, 1) := by decide +kernel
theorem dJ9_max_7cf53_1 : decode cJ9_max_7cf53 1 = .ok (.iload_n 1, 1) := by decide +kernel
theorem dJ9_max_7cf53_2 : decode cJ9_max_7cf53 2 = .ok (.if_icmp .lt 7, 3) := by decide +kernel
theorem dJ9_max_7cf53_5 : decode cJ9_max_7cf53 5 = .ok (.iload_n 0, 1) := by decide +kernel
theorem dJ9_max_7cf53_6 : decode cJ9_max_7cf53 6 = .ok (.goto 4, 3) := by decide +kernel
theorem dJ9_max_7cf53_9 : decode cJ9_max_7cf53 9 = .ok (.iload_n 1, 1) := by decide +kernel
theorem dJ9_max_7cf53_10 : decode cJ9_max_7cf53 10 = .ok (.ireturn, 1) := by decide +kernel
theorem dJ9_max_f86c9_0 : decode cJ9_max_f86c9 0 = .ok (.lload_n 0, 1) := by decide +kernel
theorem dJ9_max_f86c9_1 : decode cJ9_max_f86c9 1 = .ok (.lload_n 2, 1) := by decide +kernel
theorem dJ9_max_f86c9_2 : decode cJ9_max_f86c9 2 = .ok (.lcmp, 1) := by decide +kernel
theorem dJ9_max_f86c9_3 : decode cJ9_max_f86c9 3 = .ok (.ifCond .lt 7, 3) := by decide +kernel
theorem dJ9_max_f86c9_6 : decode cJ9_max_f86c9 6 = .ok (.lload_n 0, 1) := by decide +kernel
theorem dJ9_max_f86c9_7 : decode cJ9_max_f86c9 7 = .ok (.goto 4, 3) := by decide +kernel
theorem dJ9_max_f86c9_10 : decode cJ9_max_f86c9 10 = .ok (.lload_n 2, 1) := by decide +kernel
theorem dJ9_max_f86c9_11 : decode cJ9_max_f86c9 11 = .ok (.lreturn, 1) := by decide +kernel
theorem dJ9_min_7cf53_0 : decode cJ9_min_7cf53 0 = .ok (.iload_n 0, 1) := by decide +kernel
theorem dJ9_min_7cf53_1 : decode cJ9_min_7cf53 1 = .ok (.iload_n 1, 1) := by decide +kernel
theorem dJ9_min_7cf53_2 : decode cJ9_min_7cf53 2 = .ok (.if_icmp .gt 7, 3) := by decide +kernel
theorem dJ9_min_7cf53_5 : decode cJ9_min_7cf53 5 = .ok (.iload_n 0, 1) := by decide +kernel
theorem dJ9_min_7cf53_6 : decode cJ9_min_7cf53 6 = .ok (.goto 4, 3) := by decide +kernel
theorem dJ9_min_7cf53_9 : decode cJ9_min_7cf53 9 = .ok (.iload_n 1, 1) := by decide +kernel
theorem dJ9_min_7cf53_10 : decode cJ9_min_7cf53 10 = .ok (.ireturn, 1) := by decide +kernel
theorem dJ9_min_f86c9_0 : decode cJ9_min_f86c9 0 = .ok (.lload_n 0, 1) := by decide +kernel
theorem dJ9_min_f86c9_1 : decode cJ9_min_f86c9 1 = .ok (.lload_n 2, 1) := by decide +kernel
theorem dJ9_min_f86c9_2 : decode cJ9_min_f86c9 2 = .ok (.lcmp, 1) := by decide +kernel
theorem dJ9_min_f86c9_3 : decode cJ9_min_f86c9 3 = .ok (.ifCond .gt 7, 3) := by decide +kernel
theorem dJ9_min_f86c9_6 : decode cJ9_min_f86c9 6 = .ok (.lload_n 0, 1) := by decide +kernel
theorem dJ9_min_f86c9_7 : decode cJ9_min_f86c9 7 = .ok (.goto 4, 3) := by decide +kernel
theorem dJ9_min_f86c9_10 : decode cJ9_min_f86c9 10 = .ok (.lload_n 2, 1) := by decide +kernel
theorem dJ9_min_f86c9_11 : decode cJ9_min_f86c9 11 = .ok (.lreturn, 1) := by decide +kernel
end
section
theorem dX6_init_0 : decode cX6_init 0 = .ok (.aload_n 0, 1) := by decide +kernel
theorem dX6_init_1 : decode cX6_init 1 = .ok (.invokespecial 1, 3) := by decide +kernel
theorem dX6_init_4 : decode cX6_init 4 = .ok (.aload_n 0, 1) := by decide +kernel
theorem dX6_init_5 : decode cX6_init 5 = .ok (.new 7, 3) := by decide +kernel
theorem dX6_init_8 : decode cX6_init 8 = .ok (.dup, 1) := by decide +kernel
theorem dX6_init_9 : decode cX6_init 9 = .ok (.invokespecial 9, 3) := by decide +kernel
theorem dX6_init_12 : decode cX6_init 12 = .ok (.putfield 10, 3) := by decide +kernel
theorem dX6_init_15 : decode cX6_init 15 = .ok (.aload_n 0, 1) := by decide +kernel
theorem dX6_init_16 : decode cX6_init 16 = .ok (.new 16, 3) := by decide +kernel
theorem dX6_init_19 : decode cX6_init 19 = .ok (.dup, 1) := by decide +kernel
theorem dX6_init_20 : decode cX6_init 20 = .ok (.invokespecial 18, 3) := by decide +kernel
theorem dX6_init_23 : decode cX6_init 23 = .ok (.putfield 19, 3) := by decide +kernel
theorem dX6_init_26 : decode cX6_init 26 = .ok (.aload_n 0, 1) := by decide +kernel
theorem dX6_init_27 : decode cX6_init 27 = .ok (.iconst 5, 1) := by decide +kernel
theorem dX6_init_28 : decode cX6_init 28 = .ok (.newarray .int, 2) := by decide +kernel
theorem dX6_init_30 : decode cX6_init 30 = .ok (.dup, 1) := by decide +kernel
theorem dX6_init_31 : decode cX6_init 31 = .ok (.iconst 0, 1) := by decide +kernel
theorem dX6_init_32 : decode cX6_init 32 = .ok (.bipush 100, 2) := by decide +kernel
theorem dX6_init_34 : decode cX6_init 34 = .ok (.iastore, 1) := by decide +kernel
theorem dX6_init_35 : decode cX6_init 35 = .ok (.dup, 1) := by decide +kernel
theorem dX6_init_36 : decode cX6_init 36 = .ok (.iconst 1, 1) := by decide +kernel
theorem dX6_init_37 : decode cX6_init 37 = .ok (.bipush 100, 2) := by decide +kernel
theorem dX6_init_39 : decode cX6_init 39 = .ok (.iastore, 1) := by decide +kernel
theorem dX6_init_40 : decode cX6_init 40 = .ok (.dup, 1) := by decide +kernel
theorem dX6_init_41 : decode cX6_init 41 = .ok (.iconst 2, 1) := by decide +kernel
theorem dX6_init_42 : decode cX6_init 42 = .ok (.bipush 100, 2) := by decide +kernel
theorem dX6_init_44 : decode cX6_init 44 = .ok (.iastore, 1) := by decide +kernel
theorem dX6_init_45 : decode cX6_init 45 = .ok (.dup, 1) := by decide +kernel
theorem dX6_init_46 : decode cX6_init 46 = .ok (.iconst 3, 1) := by decide +kernel
theorem dX6_init_47 : decode cX6_init 47 = .ok (.bipush 100, 2) := by decide +kernel
theorem dX6_init_49 : decode cX6_init 49 = .ok (.iastore, 1) := by decide +kernel
theorem dX6_init_50 : decode cX6_init 50 = .ok (.dup, 1) := by decide +kernel
theorem dX6_init_51 : decode cX6_init 51 = .ok (.iconst 4, 1) := by decide +kernel
theorem dX6_init_52 : decode cX6_init 52 = .ok (.sipush 1000, 3) := by decide +kernel
theorem dX6_init_55 : decode cX6_init 55 = .ok (.iastore, 1) := by decide +kernel
theorem dX6_init_56 : decode cX6_init 56 = .ok (.putfield 23, 3) := by decide +kernel
theorem dX6_init_59 : decode cX6_init 59 = .ok (.aload_n 0, 1) := by decide +kernel
theorem dX6_init_60 : decode cX6_init 60 = .ok (.new 27, 3) := by decide +kernel
theorem dX6_init_63 : decode cX6_init 63 = .ok (.dup, 1) := by decide +kernel
theorem dX6_init_64 : decode cX6_init 64 = .ok (.aload_n 0, 1) := by decide +kernel
theorem dX6_init_65 : decode cX6_init 65 = .ok (.getfield 19, 3) := by decide +kernel
theorem dX6_init_68 : decode cX6_init 68 = .ok (.aload_n 0, 1) := by decide +kernel
theorem dX6_init_69 : decode cX6_init 69 = .ok (.getfield 10, 3) := by decide +kernel
theorem dX6_init_72 : decode cX6_init 72 = .ok (.aload_n 0, 1) := by decide +kernel
theorem dX6_init_73 : decode cX6_init 73 = .ok (.getfield 23, 3) := by decide +kernel
theorem dX6_init_76 : decode cX6_init 76 = .ok (.invokespecial 29, 3) := by decide +kernel
theorem dX6_init_79 : decode cX6_init 79 = .ok (.putfield 32, 3) := by decide +kernel
theorem dX6_init_82 : decode cX6_init 82 = .ok (.aload_n 0, 1) := by decide +kernel
theorem dX6_init_83 : decode cX6_init 83 = .ok (.new 36, 3) := by decide +kernel
theorem dX6_init_86 : decode cX6_init 86 = .ok (.dup, 1) := by decide +kernel
theorem dX6_init_87 : decode cX6_init 87 = .ok (.aload_n 0, 1) := by decide +kernel
theorem dX6_init_88 : decode cX6_init 88 = .ok (.getfield 19, 3) := by decide +kernel
theorem dX6_init_91 : decode cX6_init 91 = .ok (.aload_n 0, 1) := by decide +kernel
theorem dX6_init_92 : decode cX6_init 92 = .ok (.getfield 32, 3) := by decide +kernel
theorem dX6_init_95 : decode cX6_init 95 = .ok (.invokespecial 38, 3) := by decide +kernel
theorem dX6_init_98 : decode cX6_init 98 = .ok (.putfield 41, 3) := by decide +kernel
theorem dX6_init_101 : decode cX6_init 101 = .ok (.aload_n 0, 1) := by decide +kernel
theorem dX6_init_102 : decode cX6_init 102 = .ok (.new 45, 3) := by decide +kernel
theorem dX6_init_105 : decode cX6_init 105 = .ok (.dup, 1) := by decide +kernel
theorem dX6_init_106 : decode cX6_init 106 = .ok (.invokespecial 47, 3) := by decide +kernel
theorem dX6_init_109 : decode cX6_init 109 = .ok (.putfield 48, 3) := by decide +kernel
theorem dX6_init_112 : decode cX6_init 112 = .ok (.aload_n 0, 1) := by decide +kernel
theorem dX6_init_113 : decode cX6_init 113 = .ok (.new 52, 3) := by decide +kernel
theorem dX6_init_116 : decode cX6_init 116 = .ok (.dup, 1) := by decide +kernel
theorem dX6_init_117 : decode cX6_init 117 = .ok (.invokespecial 54, 3) := by decide +kernel
theorem dX6_init_120 : decode cX6_init 120 = .ok (.putfield 55, 3) := by decide +kernel
theorem dX6_init_123 : decode cX6_init 123 = .ok (.aload_n 0, 1) := by decide +kernel
theorem dX6_init_124 : decode cX6_init 124 = .ok (.getfield 19, 3) := by decide +kernel
theorem dX6_init_127 : decode cX6_init 127 = .ok (.bipush 8, 2) := by decide +kernel
theorem dX6_init_129 : decode cX6_init 129 = .ok (.invokevirtual 59, 3) := by decide +kernel
theorem dX6_init_132 : decode cX6_init 132 = .ok (.return_, 1) := by decide +kernel
theorem dX6_wheel_0 : decode cX6_wheel 0 = .ok (.iload_n 1, 1) := by decide +kernel
theorem dX6_wheel_1 : decode cX6_wheel 1 = .ok (.bipush 8, 2) := by decide +kernel
theorem dX6_wheel_3 : decode cX6_wheel 3 = .ok (.if_icmp .eq 18, 3) := by decide +kernel
theorem dX6_wheel_6 : decode cX6_wheel 6 = .ok (.iload_n 1, 1) := by decide +kernel
theorem dX6_wheel_7 : decode cX6_wheel 7 = .ok (.bipush 16, 2) := by decide +kernel
theorem dX6_wheel_9 : decode cX6_wheel 9 = .ok (.if_icmp .eq 12, 3) := by decide +kernel
theorem dX6_wheel_12 : decode cX6_wheel 12 = .ok (.iload_n 1, 1) := by decide +kernel
theorem dX6_wheel_13 : decode cX6_wheel 13 = .ok (.bipush 32, 2) := by decide +kernel
theorem dX6_wheel_15 : decode cX6_wheel 15 = .ok (.if_icmp .eq 6, 3) := by decide +kernel
theorem dX6_wheel_18 : decode cX6_wheel 18 = .ok (.ldc 63, 2) := by decide +kernel
theorem dX6_wheel_20 : decode cX6_wheel 20 = .ok (.ireturn, 1) := by decide +kernel
theorem dX6_wheel_21 : decode cX6_wheel 21 = .ok (.aload_n 0, 1) := by decide +kernel
theorem dX6_wheel_22 : decode cX6_wheel 22 = .ok (.getfield 19, 3) := by decide +kernel
theorem dX6_wheel_25 : decode cX6_wheel 25 = .ok (.iload_n 1, 1) := by decide +kernel
theorem dX6_wheel_26 : decode cX6_wheel 26 = .ok (.invokevirtual 59, 3) := by decide +kernel
theorem dX6_wheel_29 : decode cX6_wheel 29 = .ok (.aload_n 0, 1) := by decide +kernel
theorem dX6_wheel_30 : decode cX6_wheel 30 = .ok (.getfield 48, 3) := by decide +kernel
theorem dX6_wheel_33 : decode cX6_wheel 33 = .ok (.iconst 0, 1) := by decide +kernel
theorem dX6_wheel_34 : decode cX6_wheel 34 = .ok (.putfield 64, 3) := by decide +kernel
theorem dX6_wheel_37 : decode cX6_wheel 37 = .ok (.iload_n 1, 1) := by decide +kernel
theorem dX6_wheel_38 : decode cX6_wheel 38 = .ok (.ireturn, 1) := by decide +kernel
theorem dX6_kind_0 : decode cX6_kind 0 = .ok (.aload_n 0, 1) := by decide +kernel
theorem dX6_kind_1 : decode cX6_kind 1 = .ok (.getfield 19, 3) := by decide +kernel
theorem dX6_kind_4 : decode cX6_kind 4 = .ok (.iload_n 1, 1) := by decide +kernel
theorem dX6_kind_5 : decode cX6_kind 5 = .ok (.invokevirtual 68, 3) := by decide +kernel
theorem dX6_kind_8 : decode cX6_kind 8 = .ok (.ifCond .eq 10, 3) := by decide +kernel
theorem dX6_kind_11 : decode cX6_kind 11 = .ok (.iload_n 2, 1) := by decide +kernel
theorem dX6_kind_12 : decode cX6_kind 12 = .ok (.invokestatic 72, 3) := by decide +kernel
theorem dX6_kind_15 : decode cX6_kind 15 = .ok (.ifCond .ne 6, 3) := by decide +kernel
theorem dX6_kind_18 : decode cX6_kind 18 = .ok (.ldc 63, 2) := by decide +kernel
theorem dX6_kind_20 : decode cX6_kind 20 = .ok (.ireturn, 1) := by decide +kernel
theorem dX6_kind_21 : decode cX6_kind 21 = .ok (.aload_n 0, 1) := by decide +kernel
theorem dX6_kind_22 : decode cX6_kind 22 = .ok (.getfield 19, 3) := by decide +kernel
theorem dX6_kind_25 : decode cX6_kind 25 = .ok (.iload_n 1, 1) := by decide +kernel
theorem dX6_kind_26 : decode cX6_kind 26 = .ok (.invokevirtual 75, 3) := by decide +kernel
theorem dX6_kind_29 : decode cX6_kind 29 = .ok (.ifCond .eq 6, 3) := by decide +kernel
theorem dX6_kind_32 : decode cX6_kind 32 = .ok (.ldc 78, 2) := by decide +kernel
theorem dX6_kind_34 : decode cX6_kind 34 = .ok (.ireturn, 1) := by decide +kernel
theorem dX6_kind_35 : decode cX6_kind 35 = .ok (.aload_n 0, 1) := by decide +kernel
theorem dX6_kind_36 : decode cX6_kind 36 = .ok (.getfield 19, 3) := by decide +kernel
theorem dX6_kind_39 : decode cX6_kind 39 = .ok (.getfield 79, 3) := by decide +kernel
theorem dX6_kind_42 : decode cX6_kind 42 = .ok (.iload_n 1, 1) := by decide +kernel
theorem dX6_kind_43 : decode cX6_kind 43 = .ok (.iaload, 1) := by decide +kernel
theorem dX6_kind_44 : decode cX6_kind 44 = .ok (.istore_n 3, 1) := by decide +kernel
theorem dX6_kind_45 : decode cX6_kind 45 = .ok (.aload_n 0, 1) := by decide +kernel
theorem dX6_kind_46 : decode cX6_kind 46 = .ok (.getfield 19, 3) := by decide +kernel
theorem dX6_kind_49 : decode cX6_kind 49 = .ok (.getfield 79, 3) := by decide +kernel
theorem dX6_kind_52 : decode cX6_kind 52 = .ok (.iload_n 1, 1) := by decide +kernel
theorem dX6_kind_53 : decode cX6_kind 53 = .ok (.iload_n 2, 1) := by decide +kernel
theorem dX6_kind_54 : decode cX6_kind 54 = .ok (.iastore, 1) := by decide +kernel
theorem dX6_kind_55 : decode cX6_kind 55 = .ok (.iload_n 3, 1) := by decide +kernel
theorem dX6_kind_56 : decode cX6_kind 56 = .ok (.ireturn, 1) := by decide +kernel
theorem dX6_table_0 : decode cX6_table 0 = .ok (.iload_n 1, 1) := by decide +kernel
theorem dX6_table_1 : decode cX6_table 1 = .ok (.invokestatic 82, 3) := by decide +kernel
theorem dX6_table_4 : decode cX6_table 4 = .ok (.ifCond .eq 13, 3) := by decide +kernel
theorem dX6_table_7 : decode cX6_table 7 = .ok (.iload_n 2, 1) := by decide +kernel
theorem dX6_table_8 : decode cX6_table 8 = .ok (.iconst (-1), 1) := by decide +kernel
theorem dX6_table_9 : decode cX6_table 9 = .ok (.bipush 17, 2) := by decide +kernel
theorem dX6_table_11 : decode cX6_table 11 = .ok (.invokestatic 85, 3) := by decide +kernel
theorem dX6_table_14 : decode cX6_table 14 = .ok (.ifCond .ne 6, 3) := by decide +kernel
theorem dX6_table_17 : decode cX6_table 17 = .ok (.ldc 63, 2) := by decide +kernel
theorem dX6_table_19 : decode cX6_table 19 = .ok (.ireturn, 1) := by decide +kernel
theorem dX6_table_20 : decode cX6_table 20 = .ok (.aload_n 0, 1) := by decide +kernel
theorem dX6_table_21 : decode cX6_table 21 = .ok (.getfield 10, 3) := by decide +kernel
theorem dX6_table_24 : decode cX6_table 24 = .ok (.iload_n 1, 1) := by decide +kernel
theorem dX6_table_25 : decode cX6_table 25 = .ok (.iload_n 2, 1) := by decide +kernel
theorem dX6_table_26 : decode cX6_table 26 = .ok (.invokevirtual 89, 3) := by decide +kernel
theorem dX6_table_29 : decode cX6_table 29 = .ok (.iload_n 2, 1) := by decide +kernel
theorem dX6_table_30 : decode cX6_table 30 = .ok (.iconst 0, 1) := by decide +kernel
theorem dX6_table_31 : decode cX6_table 31 = .ok (.invokestatic 92, 3) := by decide +kernel
theorem dX6_table_34 : decode cX6_table 34 = .ok (.ireturn, 1) := by decide +kernel
theorem dX6_enter_0 : decode cX6_enter 0 = .ok (.iload_n 1, 1) := by decide +kernel
theorem dX6_enter_1 : decode cX6_enter 1 = .ok (.invokestatic 82, 3) := by decide +kernel
theorem dX6_enter_4 : decode cX6_enter 4 = .ok (.ifCond .eq 16, 3) := by decide +kernel
theorem dX6_enter_7 : decode cX6_enter 7 = .ok (.iload_n 3, 1) := by decide +kernel
theorem dX6_enter_8 : decode cX6_enter 8 = .ok (.sipush (-1000), 3) := by decide +kernel
theorem dX6_enter_11 : decode cX6_enter 11 = .ok (.sipush 1000, 3) := by decide +kernel
theorem dX6_enter_14 : decode cX6_enter 14 = .ok (.invokestatic 85, 3) := by decide +kernel
theorem dX6_enter_17 : decode cX6_enter 17 = .ok (.ifCond .ne 6, 3) := by decide +kernel
theorem dX6_enter_20 : decode cX6_enter 20 = .ok (.ldc 63, 2) := by decide +kernel
theorem dX6_enter_22 : decode cX6_enter 22 = .ok (.ireturn, 1) := by decide +kernel
theorem dX6_enter_23 : decode cX6_enter 23 = .ok (.aload_n 0, 1) := by decide +kernel
theorem dX6_enter_24 : decode cX6_enter 24 = .ok (.getfield 10, 3) := by decide +kernel
theorem dX6_enter_27 : decode cX6_enter 27 = .ok (.iload_n 1, 1) := by decide +kernel
theorem dX6_enter_28 : decode cX6_enter 28 = .ok (.invokevirtual 98, 3) := by decide +kernel
theorem dX6_enter_31 : decode cX6_enter 31 = .ok (.ifCond .eq 6, 3) := by decide +kernel
theorem dX6_enter_34 : decode cX6_enter 34 = .ok (.ldc 101, 2) := by decide +kernel
theorem dX6_enter_36 : decode cX6_enter 36 = .ok (.ireturn, 1) := by decide +kernel
theorem dX6_enter_37 : decode cX6_enter 37 = .ok (.iload_n 2, 1) := by decide +kernel
theorem dX6_enter_38 : decode cX6_enter 38 = .ok (.iconst 0, 1) := by decide +kernel
theorem dX6_enter_39 : decode cX6_enter 39 = .ok (.aload_n 0, 1) := by decide +kernel
theorem dX6_enter_40 : decode cX6_enter 40 = .ok (.getfield 10, 3) := by decide +kernel
theorem dX6_enter_43 : decode cX6_enter 43 = .ok (.getfield 102, 3) := by decide +kernel
theorem dX6_enter_46 : decode cX6_enter 46 = .ok (.iload_n 1, 1) := by decide +kernel
theorem dX6_enter_47 : decode cX6_enter 47 = .ok (.iaload, 1) := by decide +kernel
theorem dX6_enter_48 : decode cX6_enter 48 = .ok (.iconst 1, 1) := by decide +kernel
theorem dX6_enter_49 : decode cX6_enter 49 = .ok (.isub, 1) := by decide +kernel
theorem dX6_enter_50 : decode cX6_enter 50 = .ok (.invokestatic 85, 3) := by decide +kernel
theorem dX6_enter_53 : decode cX6_enter 53 = .ok (.ifCond .ne 6, 3) := by decide +kernel
theorem dX6_enter_56 : decode cX6_enter 56 = .ok (.ldc 105, 2) := by decide +kernel
theorem dX6_enter_58 : decode cX6_enter 58 = .ok (.ireturn, 1) := by decide +kernel
theorem dX6_enter_59 : decode cX6_enter 59 = .ok (.aload_n 0, 1) := by decide +kernel
theorem dX6_enter_60 : decode cX6_enter 60 = .ok (.getfield 10, 3) := by decide +kernel
theorem dX6_enter_63 : decode cX6_enter 63 = .ok (.getfield 106, 3) := by decide +kernel
theorem dX6_enter_66 : decode cX6_enter 66 = .ok (.iload_n 1, 1) := by decide +kernel
theorem dX6_enter_67 : decode cX6_enter 67 = .ok (.aaload, 1) := by decide +kernel
theorem dX6_enter_68 : decode cX6_enter 68 = .ok (.iload_n 2, 1) := by decide +kernel
theorem dX6_enter_69 : decode cX6_enter 69 = .ok (.iaload, 1) := by decide +kernel
theorem dX6_enter_70 : decode cX6_enter 70 = .ok (.istore 4, 2) := by decide +kernel
theorem dX6_enter_72 : decode cX6_enter 72 = .ok (.aload_n 0, 1) := by decide +kernel
theorem dX6_enter_73 : decode cX6_enter 73 = .ok (.getfield 10, 3) := by decide +kernel
theorem dX6_enter_76 : decode cX6_enter 76 = .ok (.getfield 106, 3) := by decide +kernel
theorem dX6_enter_79 : decode cX6_enter 79 = .ok (.iload_n 1, 1) := by decide +kernel
theorem dX6_enter_80 : decode cX6_enter 80 = .ok (.aaload, 1) := by decide +kernel
theorem dX6_enter_81 : decode cX6_enter 81 = .ok (.iload_n 2, 1) := by decide +kernel
theorem dX6_enter_82 : decode cX6_enter 82 = .ok (.iload_n 3, 1) := by decide +kernel
theorem dX6_enter_83 : decode cX6_enter 83 = .ok (.iastore, 1) := by decide +kernel
theorem dX6_enter_84 : decode cX6_enter 84 = .ok (.iload 4, 2) := by decide +kernel
theorem dX6_enter_86 : decode cX6_enter 86 = .ok (.ireturn, 1) := by decide +kernel
theorem dX6_copy_0 : decode cX6_copy 0 = .ok (.iload_n 1, 1) := by decide +kernel
theorem dX6_copy_1 : decode cX6_copy 1 = .ok (.invokestatic 82, 3) := by decide +kernel
theorem dX6_copy_4 : decode cX6_copy 4 = .ok (.ifCond .eq 10, 3) := by decide +kernel
theorem dX6_copy_7 : decode cX6_copy 7 = .ok (.iload_n 2, 1) := by decide +kernel
theorem dX6_copy_8 : decode cX6_copy 8 = .ok (.invokestatic 82, 3) := by decide +kernel
theorem dX6_copy_11 : decode cX6_copy 11 = .ok (.ifCond .ne 6, 3) := by decide +kernel
theorem dX6_copy_14 : decode cX6_copy 14 = .ok (.ldc 63, 2) := by decide +kernel
theorem dX6_copy_16 : decode cX6_copy 16 = .ok (.ireturn, 1) := by decide +kernel
theorem dX6_copy_17 : decode cX6_copy 17 = .ok (.aload_n 0, 1) := by decide +kernel
theorem dX6_copy_18 : decode cX6_copy 18 = .ok (.getfield 10, 3) := by decide +kernel
theorem dX6_copy_21 : decode cX6_copy 21 = .ok (.iload_n 1, 1) := by decide +kernel
theorem dX6_copy_22 : decode cX6_copy 22 = .ok (.invokevirtual 98, 3) := by decide +kernel
theorem dX6_copy_25 : decode cX6_copy 25 = .ok (.ifCond .ne 14, 3) := by decide +kernel
theorem dX6_copy_28 : decode cX6_copy 28 = .ok (.aload_n 0, 1) := by decide +kernel
theorem dX6_copy_29 : decode cX6_copy 29 = .ok (.getfield 10, 3) := by decide +kernel
theorem dX6_copy_32 : decode cX6_copy 32 = .ok (.iload_n 2, 1) := by decide +kernel
theorem dX6_copy_33 : decode cX6_copy 33 = .ok (.invokevirtual 98, 3) := by decide +kernel
theorem dX6_copy_36 : decode cX6_copy 36 = .ok (.ifCond .eq 6, 3) := by decide +kernel
theorem dX6_copy_39 : decode cX6_copy 39 = .ok (.ldc 101, 2) := by decide +kernel
theorem dX6_copy_41 : decode cX6_copy 41 = .ok (.ireturn, 1) := by decide +kernel
theorem dX6_copy_42 : decode cX6_copy 42 = .ok (.iload_n 3, 1) := by decide +kernel
theorem dX6_copy_43 : decode cX6_copy 43 = .ok (.iconst 0, 1) := by decide +kernel
theorem dX6_copy_44 : decode cX6_copy 44 = .ok (.aload_n 0, 1) := by decide +kernel
theorem dX6_copy_45 : decode cX6_copy 45 = .ok (.getfield 10, 3) := by decide +kernel
theorem dX6_copy_48 : decode cX6_copy 48 = .ok (.getfield 102, 3) := by decide +kernel
theorem dX6_copy_51 : decode cX6_copy 51 = .ok (.iload_n 1, 1) := by decide +kernel
theorem dX6_copy_52 : decode cX6_copy 52 = .ok (.iaload, 1) := by decide +kernel
theorem dX6_copy_53 : decode cX6_copy 53 = .ok (.aload_n 0, 1) := by decide +kernel
theorem dX6_copy_54 : decode cX6_copy 54 = .ok (.getfield 10, 3) := by decide +kernel
theorem dX6_copy_57 : decode cX6_copy 57 = .ok (.getfield 102, 3) := by decide +kernel
theorem dX6_copy_60 : decode cX6_copy 60 = .ok (.iload_n 2, 1) := by decide +kernel
theorem dX6_copy_61 : decode cX6_copy 61 = .ok (.iaload, 1) := by decide +kernel
theorem dX6_copy_62 : decode cX6_copy 62 = .ok (.invokestatic 110, 3) := by decide +kernel
theorem dX6_copy_65 : decode cX6_copy 65 = .ok (.invokestatic 85, 3) := by decide +kernel
theorem dX6_copy_68 : decode cX6_copy 68 = .ok (.ifCond .ne 6, 3) := by decide +kernel
theorem dX6_copy_71 : decode cX6_copy 71 = .ok (.ldc 105, 2) := by decide +kernel
theorem dX6_copy_73 : decode cX6_copy 73 = .ok (.ireturn, 1) := by decide +kernel
theorem dX6_copy_74 : decode cX6_copy 74 = .ok (.iconst 0, 1) := by decide +kernel
theorem dX6_copy_75 : decode cX6_copy 75 = .ok (.istore 4, 2) := by decide +kernel
theorem dX6_copy_77 : decode cX6_copy 77 = .ok (.iload 4, 2) := by decide +kernel
theorem dX6_copy_79 : decode cX6_copy 79 = .ok (.iload_n 3, 1) := by decide +kernel
theorem dX6_copy_80 : decode cX6_copy 80 = .ok (.if_icmp .ge 33, 3) := by decide +kernel
theorem dX6_copy_83 : decode cX6_copy 83 = .ok (.aload_n 0, 1) := by decide +kernel
theorem dX6_copy_84 : decode cX6_copy 84 = .ok (.getfield 10, 3) := by decide +kernel
theorem dX6_copy_87 : decode cX6_copy 87 = .ok (.getfield 106, 3) := by decide +kernel
theorem dX6_copy_90 : decode cX6_copy 90 = .ok (.iload_n 2, 1) := by decide +kernel
theorem dX6_copy_91 : decode cX6_copy 91 = .ok (.aaload, 1) := by decide +kernel
theorem dX6_copy_92 : decode cX6_copy 92 = .ok (.iload 4, 2) := by decide +kernel
theorem dX6_copy_94 : decode cX6_copy 94 = .ok (.aload_n 0, 1) := by decide +kernel
theorem dX6_copy_95 : decode cX6_copy 95 = .ok (.getfield 10, 3) := by decide +kernel
theorem dX6_copy_98 : decode cX6_copy 98 = .ok (.getfield 106, 3) := by decide +kernel
theorem dX6_copy_101 : decode cX6_copy 101 = .ok (.iload_n 1, 1) := by decide +kernel
theorem dX6_copy_102 : decode cX6_copy 102 = .ok (.aaload, 1) := by decide +kernel
theorem dX6_copy_103 : decode cX6_copy 103 = .ok (.iload 4, 2) := by decide +kernel
theorem dX6_copy_105 : decode cX6_copy 105 = .ok (.iaload, 1) := by decide +kernel
theorem dX6_copy_106 : decode cX6_copy 106 = .ok (.iastore, 1) := by decide +kernel
theorem dX6_copy_107 : decode cX6_copy 107 = .ok (.iinc 4 1, 3) := by decide +kernel
theorem dX6_copy_110 : decode cX6_copy 110 = .ok (.goto (-33), 3) := by decide +kernel
theorem dX6_copy_113 : decode cX6_copy 113 = .ok (.iload_n 3, 1) := by decide +kernel
theorem dX6_copy_114 : decode cX6_copy 114 = .ok (.ireturn, 1) := by decide +kernel
theorem dX6_read_0 : decode cX6_read 0 = .ok (.iload_n 1, 1) := by decide +kernel
theorem dX6_read_1 : decode cX6_read 1 = .ok (.invokestatic 113, 3) := by decide +kernel
theorem dX6_read_4 : decode cX6_read 4 = .ok (.ifCond .eq 27, 3) := by decide +kernel
theorem dX6_read_7 : decode cX6_read 7 = .ok (.aload_n 0, 1) := by decide +kernel
theorem dX6_read_8 : decode cX6_read 8 = .ok (.getfield 19, 3) := by decide +kernel
theorem dX6_read_11 : decode cX6_read 11 = .ok (.iload_n 2, 1) := by decide +kernel
theorem dX6_read_12 : decode cX6_read 12 = .ok (.invokevirtual 68, 3) := by decide +kernel
theorem dX6_read_15 : decode cX6_read 15 = .ok (.ifCond .eq 16, 3) := by decide +kernel
theorem dX6_read_18 : decode cX6_read 18 = .ok (.iload_n 3, 1) := by decide +kernel
theorem dX6_read_19 : decode cX6_read 19 = .ok (.sipush (-10000), 3) := by decide +kernel
theorem dX6_read_22 : decode cX6_read 22 = .ok (.sipush 9999, 3) := by decide +kernel
theorem dX6_read_25 : decode cX6_read 25 = .ok (.invokestatic 85, 3) := by decide +kernel
theorem dX6_read_28 : decode cX6_read 28 = .ok (.ifCond .ne 6, 3) := by decide +kernel
theorem dX6_read_31 : decode cX6_read 31 = .ok (.ldc 63, 2) := by decide +kernel
theorem dX6_read_33 : decode cX6_read 33 = .ok (.ireturn, 1) := by decide +kernel
theorem dX6_read_34 : decode cX6_read 34 = .ok (.aload_n 0, 1) := by decide +kernel
theorem dX6_read_35 : decode cX6_read 35 = .ok (.getfield 19, 3) := by decide +kernel
theorem dX6_read_38 : decode cX6_read 38 = .ok (.getfield 116, 3) := by decide +kernel
theorem dX6_read_41 : decode cX6_read 41 = .ok (.iload_n 1, 1) := by decide +kernel
theorem dX6_read_42 : decode cX6_read 42 = .ok (.aaload, 1) := by decide +kernel
theorem dX6_read_43 : decode cX6_read 43 = .ok (.iload_n 2, 1) := by decide +kernel
theorem dX6_read_44 : decode cX6_read 44 = .ok (.iaload, 1) := by decide +kernel
theorem dX6_read_45 : decode cX6_read 45 = .ok (.istore 4, 2) := by decide +kernel
theorem dX6_read_47 : decode cX6_read 47 = .ok (.aload_n 0, 1) := by decide +kernel
theorem dX6_read_48 : decode cX6_read 48 = .ok (.getfield 19, 3) := by decide +kernel
theorem dX6_read_51 : decode cX6_read 51 = .ok (.getfield 116, 3) := by decide +kernel
theorem dX6_read_54 : decode cX6_read 54 = .ok (.iload_n 1, 1) := by decide +kernel
theorem dX6_read_55 : decode cX6_read 55 = .ok (.aaload, 1) := by decide +kernel
theorem dX6_read_56 : decode cX6_read 56 = .ok (.iload_n 2, 1) := by decide +kernel
theorem dX6_read_57 : decode cX6_read 57 = .ok (.iload_n 3, 1) := by decide +kernel
theorem dX6_read_58 : decode cX6_read 58 = .ok (.iastore, 1) := by decide +kernel
theorem dX6_read_59 : decode cX6_read 59 = .ok (.aload_n 0, 1) := by decide +kernel
theorem dX6_read_60 : decode cX6_read 60 = .ok (.getfield 19, 3) := by decide +kernel
theorem dX6_read_63 : decode cX6_read 63 = .ok (.iload_n 1, 1) := by decide +kernel
theorem dX6_read_64 : decode cX6_read 64 = .ok (.invokevirtual 119, 3) := by decide +kernel
theorem dX6_read_67 : decode cX6_read 67 = .ok (.iload 4, 2) := by decide +kernel
theorem dX6_read_69 : decode cX6_read 69 = .ok (.ireturn, 1) := by decide +kernel
theorem dX6_limit_0 : decode cX6_limit 0 = .ok (.iload_n 1, 1) := by decide +kernel
theorem dX6_limit_1 : decode cX6_limit 1 = .ok (.iconst 0, 1) := by decide +kernel
theorem dX6_limit_2 : decode cX6_limit 2 = .ok (.iconst 4, 1) := by decide +kernel
theorem dX6_limit_3 : decode cX6_limit 3 = .ok (.invokestatic 85, 3) := by decide +kernel
theorem dX6_limit_6 : decode cX6_limit 6 = .ok (.ifCond .eq 13, 3) := by decide +kernel
theorem dX6_limit_9 : decode cX6_limit 9 = .ok (.iload_n 2, 1) := by decide +kernel
theorem dX6_limit_10 : decode cX6_limit 10 = .ok (.iconst 1, 1) := by decide +kernel
theorem dX6_limit_11 : decode cX6_limit 11 = .ok (.ldc 122, 2) := by decide +kernel
theorem dX6_limit_13 : decode cX6_limit 13 = .ok (.invokestatic 85, 3) := by decide +kernel
theorem dX6_limit_16 : decode cX6_limit 16 = .ok (.ifCond .ne 6, 3) := by decide +kernel
theorem dX6_limit_19 : decode cX6_limit 19 = .ok (.ldc 63, 2) := by decide +kernel
theorem dX6_limit_21 : decode cX6_limit 21 = .ok (.ireturn, 1) := by decide +kernel
theorem dX6_limit_22 : decode cX6_limit 22 = .ok (.aload_n 0, 1) := by decide +kernel
theorem dX6_limit_23 : decode cX6_limit 23 = .ok (.getfield 23, 3) := by decide +kernel
theorem dX6_limit_26 : decode cX6_limit 26 = .ok (.iload_n 1, 1) := by decide +kernel
theorem dX6_limit_27 : decode cX6_limit 27 = .ok (.iaload, 1) := by decide +kernel
theorem dX6_limit_28 : decode cX6_limit 28 = .ok (.istore_n 3, 1) := by decide +kernel
theorem dX6_limit_29 : decode cX6_limit 29 = .ok (.aload_n 0, 1) := by decide +kernel
theorem dX6_limit_30 : decode cX6_limit 30 = .ok (.getfield 23, 3) := by decide +kernel
theorem dX6_limit_33 : decode cX6_limit 33 = .ok (.iload_n 1, 1) := by decide +kernel
theorem dX6_limit_34 : decode cX6_limit 34 = .ok (.iload_n 2, 1) := by decide +kernel
theorem dX6_limit_35 : decode cX6_limit 35 = .ok (.iastore, 1) := by decide +kernel
theorem dX6_limit_36 : decode cX6_limit 36 = .ok (.iload_n 3, 1) := by decide +kernel
theorem dX6_limit_37 : decode cX6_limit 37 = .ok (.ireturn, 1) := by decide +kernel
theorem dX6_tune_0 : decode cX6_tune 0 = .ok (.aload_n 0, 1) := by decide +kernel
theorem dX6_tune_1 : decode cX6_tune 1 = .ok (.getfield 19, 3) := by decide +kernel
theorem dX6_tune_4 : decode cX6_tune 4 = .ok (.iload_n 1, 1) := by decide +kernel
theorem dX6_tune_5 : decode cX6_tune 5 = .ok (.invokevirtual 68, 3) := by decide +kernel
theorem dX6_tune_8 : decode cX6_tune 8 = .ok (.ifCond .eq 14, 3) := by decide +kernel
theorem dX6_tune_11 : decode cX6_tune 11 = .ok (.iload_n 2, 1) := by decide +kernel
theorem dX6_tune_12 : decode cX6_tune 12 = .ok (.ldc 123, 2) := by decide +kernel
theorem dX6_tune_14 : decode cX6_tune 14 = .ok (.ldc 124, 2) := by decide +kernel
theorem dX6_tune_16 : decode cX6_tune 16 = .ok (.invokestatic 85, 3) := by decide +kernel
theorem dX6_tune_19 : decode cX6_tune 19 = .ok (.ifCond .ne 6, 3) := by decide +kernel
theorem dX6_tune_22 : decode cX6_tune 22 = .ok (.ldc 63, 2) := by decide +kernel
theorem dX6_tune_24 : decode cX6_tune 24 = .ok (.ireturn, 1) := by decide +kernel
theorem dX6_tune_25 : decode cX6_tune 25 = .ok (.aload_n 0, 1) := by decide +kernel
theorem dX6_tune_26 : decode cX6_tune 26 = .ok (.getfield 19, 3) := by decide +kernel
theorem dX6_tune_29 : decode cX6_tune 29 = .ok (.iload_n 1, 1) := by decide +kernel
theorem dX6_tune_30 : decode cX6_tune 30 = .ok (.invokevirtual 75, 3) := by decide +kernel
theorem dX6_tune_33 : decode cX6_tune 33 = .ok (.ifCond .eq 6, 3) := by decide +kernel
theorem dX6_tune_36 : decode cX6_tune 36 = .ok (.ldc 78, 2) := by decide +kernel
theorem dX6_tune_38 : decode cX6_tune 38 = .ok (.ireturn, 1) := by decide +kernel
theorem dX6_tune_39 : decode cX6_tune 39 = .ok (.aload_n 0, 1) := by decide +kernel
theorem dX6_tune_40 : decode cX6_tune 40 = .ok (.getfield 19, 3) := by decide +kernel
theorem dX6_tune_43 : decode cX6_tune 43 = .ok (.getfield 125, 3) := by decide +kernel
theorem dX6_tune_46 : decode cX6_tune 46 = .ok (.iload_n 1, 1) := by decide +kernel
theorem dX6_tune_47 : decode cX6_tune 47 = .ok (.iaload, 1) := by decide +kernel
theorem dX6_tune_48 : decode cX6_tune 48 = .ok (.istore_n 3, 1) := by decide +kernel
theorem dX6_tune_49 : decode cX6_tune 49 = .ok (.aload_n 0, 1) := by decide +kernel
theorem dX6_tune_50 : decode cX6_tune 50 = .ok (.getfield 19, 3) := by decide +kernel
theorem dX6_tune_53 : decode cX6_tune 53 = .ok (.getfield 125, 3) := by decide +kernel
theorem dX6_tune_56 : decode cX6_tune 56 = .ok (.iload_n 1, 1) := by decide +kernel
theorem dX6_tune_57 : decode cX6_tune 57 = .ok (.iload_n 2, 1) := by decide +kernel
theorem dX6_tune_58 : decode cX6_tune 58 = .ok (.iastore, 1) := by decide +kernel
theorem dX6_tune_59 : decode cX6_tune 59 = .ok (.iload_n 3, 1) := by decide +kernel
theorem dX6_tune_60 : decode cX6_tune 60 = .ok (.ireturn, 1) := by decide +kernel
theorem dX6_about_0 : decode cX6_about 0 = .ok (.aload_n 0, 1) := by decide +kernel
theorem dX6_about_1 : decode cX6_about 1 = .ok (.getfield 19, 3) := by decide +kernel
theorem dX6_about_4 : decode cX6_about 4 = .ok (.iload_n 1, 1) := by decide +kernel
theorem dX6_about_5 : decode cX6_about 5 = .ok (.invokevirtual 68, 3) := by decide +kernel
theorem dX6_about_8 : decode cX6_about 8 = .ok (.ifCond .ne 6, 3) := by decide +kernel
theorem dX6_about_11 : decode cX6_about 11 = .ok (.ldc 63, 2) := by decide +kernel
theorem dX6_about_13 : decode cX6_about 13 = .ok (.ireturn, 1) := by decide +kernel
theorem dX6_about_14 : decode cX6_about 14 = .ok (.iload_n 2, 1) := by decide +kernel
theorem dX6_about_15 : decode cX6_about 15 = .ok (.tableswitch 67 0 3 #[29, 39, 48, 57], 29) := by decide +kernel
theorem dX6_about_44 : decode cX6_about 44 = .ok (.aload_n 0, 1) := by decide +kernel
theorem dX6_about_45 : decode cX6_about 45 = .ok (.getfield 19, 3) := by decide +kernel
theorem dX6_about_48 : decode cX6_about 48 = .ok (.getfield 79, 3) := by decide +kernel
theorem dX6_about_51 : decode cX6_about 51 = .ok (.iload_n 1, 1) := by decide +kernel
theorem dX6_about_52 : decode cX6_about 52 = .ok (.iaload, 1) := by decide +kernel
theorem dX6_about_53 : decode cX6_about 53 = .ok (.ireturn, 1) := by decide +kernel
theorem dX6_about_54 : decode cX6_about 54 = .ok (.aload_n 0, 1) := by decide +kernel
theorem dX6_about_55 : decode cX6_about 55 = .ok (.getfield 19, 3) := by decide +kernel
theorem dX6_about_58 : decode cX6_about 58 = .ok (.iload_n 1, 1) := by decide +kernel
theorem dX6_about_59 : decode cX6_about 59 = .ok (.invokevirtual 128, 3) := by decide +kernel
theorem dX6_about_62 : decode cX6_about 62 = .ok (.ireturn, 1) := by decide +kernel
theorem dX6_about_63 : decode cX6_about 63 = .ok (.aload_n 0, 1) := by decide +kernel
theorem dX6_about_64 : decode cX6_about 64 = .ok (.getfield 19, 3) := by decide +kernel
theorem dX6_about_67 : decode cX6_about 67 = .ok (.iload_n 1, 1) := by decide +kernel
theorem dX6_about_68 : decode cX6_about 68 = .ok (.invokevirtual 132, 3) := by decide +kernel
theorem dX6_about_71 : decode cX6_about 71 = .ok (.ireturn, 1) := by decide +kernel
theorem dX6_about_72 : decode cX6_about 72 = .ok (.aload_n 0, 1) := by decide +kernel
theorem dX6_about_73 : decode cX6_about 73 = .ok (.getfield 19, 3) := by decide +kernel
theorem dX6_about_76 : decode cX6_about 76 = .ok (.getfield 125, 3) := by decide +kernel
theorem dX6_about_79 : decode cX6_about 79 = .ok (.iload_n 1, 1) := by decide +kernel
theorem dX6_about_80 : decode cX6_about 80 = .ok (.iaload, 1) := by decide +kernel
theorem dX6_about_81 : decode cX6_about 81 = .ok (.ireturn, 1) := by decide +kernel
theorem dX6_about_82 : decode cX6_about 82 = .ok (.ldc 63, 2) := by decide +kernel
theorem dX6_about_84 : decode cX6_about 84 = .ok (.ireturn, 1) := by decide +kernel
theorem dX6_isOf_0 : decode cX6_isOf 0 = .ok (.aload_n 0, 1) := by decide +kernel
theorem dX6_isOf_1 : decode cX6_isOf 1 = .ok (.getfield 19, 3) := by decide +kernel
theorem dX6_isOf_4 : decode cX6_isOf 4 = .ok (.iload_n 1, 1) := by decide +kernel
theorem dX6_isOf_5 : decode cX6_isOf 5 = .ok (.invokevirtual 68, 3) := by decide +kernel
theorem dX6_isOf_8 : decode cX6_isOf 8 = .ok (.ifCond .eq 12, 3) := by decide +kernel
theorem dX6_isOf_11 : decode cX6_isOf 11 = .ok (.iload_n 2, 1) := by decide +kernel
theorem dX6_isOf_12 : decode cX6_isOf 12 = .ok (.iconst 0, 1) := by decide +kernel
theorem dX6_isOf_13 : decode cX6_isOf 13 = .ok (.iconst 5, 1) := by decide +kernel
theorem dX6_isOf_14 : decode cX6_isOf 14 = .ok (.invokestatic 85, 3) := by decide +kernel
theorem dX6_isOf_17 : decode cX6_isOf 17 = .ok (.ifCond .ne 6, 3) := by decide +kernel
theorem dX6_isOf_20 : decode cX6_isOf 20 = .ok (.ldc 63, 2) := by decide +kernel
theorem dX6_isOf_22 : decode cX6_isOf 22 = .ok (.ireturn, 1) := by decide +kernel
theorem dX6_isOf_23 : decode cX6_isOf 23 = .ok (.aload_n 0, 1) := by decide +kernel
theorem dX6_isOf_24 : decode cX6_isOf 24 = .ok (.getfield 19, 3) := by decide +kernel
theorem dX6_isOf_27 : decode cX6_isOf 27 = .ok (.getfield 79, 3) := by decide +kernel
theorem dX6_isOf_30 : decode cX6_isOf 30 = .ok (.iload_n 1, 1) := by decide +kernel
theorem dX6_isOf_31 : decode cX6_isOf 31 = .ok (.iaload, 1) := by decide +kernel
theorem dX6_isOf_32 : decode cX6_isOf 32 = .ok (.istore_n 3, 1) := by decide +kernel
theorem dX6_isOf_33 : decode cX6_isOf 33 = .ok (.iload_n 2, 1) := by decide +kernel
theorem dX6_isOf_34 : decode cX6_isOf 34 = .ok (.ifCond .eq 17, 3) := by decide +kernel
theorem dX6_isOf_37 : decode cX6_isOf 37 = .ok (.iload_n 2, 1) := by decide +kernel
theorem dX6_isOf_38 : decode cX6_isOf 38 = .ok (.iload_n 3, 1) := by decide +kernel
theorem dX6_isOf_39 : decode cX6_isOf 39 = .ok (.if_icmp .eq 12, 3) := by decide +kernel
theorem dX6_isOf_42 : decode cX6_isOf 42 = .ok (.iload_n 2, 1) := by decide +kernel
theorem dX6_isOf_43 : decode cX6_isOf 43 = .ok (.getstatic 135, 3) := by decide +kernel
theorem dX6_isOf_46 : decode cX6_isOf 46 = .ok (.iload_n 3, 1) := by decide +kernel
theorem dX6_isOf_47 : decode cX6_isOf 47 = .ok (.iaload, 1) := by decide +kernel
theorem dX6_isOf_48 : decode cX6_isOf 48 = .ok (.if_icmp .ne 7, 3) := by decide +kernel
theorem dX6_isOf_51 : decode cX6_isOf 51 = .ok (.iconst 1, 1) := by decide +kernel
theorem dX6_isOf_52 : decode cX6_isOf 52 = .ok (.goto 4, 3) := by decide +kernel
theorem dX6_isOf_55 : decode cX6_isOf 55 = .ok (.iconst 0, 1) := by decide +kernel
theorem dX6_isOf_56 : decode cX6_isOf 56 = .ok (.invokestatic 138, 3) := by decide +kernel
theorem dX6_isOf_59 : decode cX6_isOf 59 = .ok (.ireturn, 1) := by decide +kernel
theorem dX6_tells_0 : decode cX6_tells 0 = .ok (.iload_n 1, 1) := by decide +kernel
theorem dX6_tells_1 : decode cX6_tells 1 = .ok (.invokestatic 82, 3) := by decide +kernel
theorem dX6_tells_4 : decode cX6_tells 4 = .ok (.ifCond .eq 13, 3) := by decide +kernel
theorem dX6_tells_7 : decode cX6_tells 7 = .ok (.iload_n 2, 1) := by decide +kernel
theorem dX6_tells_8 : decode cX6_tells 8 = .ok (.iconst 0, 1) := by decide +kernel
theorem dX6_tells_9 : decode cX6_tells 9 = .ok (.bipush 16, 2) := by decide +kernel
theorem dX6_tells_11 : decode cX6_tells 11 = .ok (.invokestatic 85, 3) := by decide +kernel
theorem dX6_tells_14 : decode cX6_tells 14 = .ok (.ifCond .ne 6, 3) := by decide +kernel
theorem dX6_tells_17 : decode cX6_tells 17 = .ok (.ldc 63, 2) := by decide +kernel
theorem dX6_tells_19 : decode cX6_tells 19 = .ok (.ireturn, 1) := by decide +kernel
theorem dX6_tells_20 : decode cX6_tells 20 = .ok (.aload_n 0, 1) := by decide +kernel
theorem dX6_tells_21 : decode cX6_tells 21 = .ok (.getfield 10, 3) := by decide +kernel
theorem dX6_tells_24 : decode cX6_tells 24 = .ok (.getfield 106, 3) := by decide +kernel
theorem dX6_tells_27 : decode cX6_tells 27 = .ok (.iload_n 1, 1) := by decide +kernel
theorem dX6_tells_28 : decode cX6_tells 28 = .ok (.aaload, 1) := by decide +kernel
theorem dX6_tells_29 : decode cX6_tells 29 = .ok (.iload_n 2, 1) := by decide +kernel
theorem dX6_tells_30 : decode cX6_tells 30 = .ok (.iaload, 1) := by decide +kernel
theorem dX6_tells_31 : decode cX6_tells 31 = .ok (.ireturn, 1) := by decide +kernel
theorem dX6_unbent_0 : decode cX6_unbent 0 = .ok (.iload_n 1, 1) := by decide +kernel
theorem dX6_unbent_1 : decode cX6_unbent 1 = .ok (.invokestatic 113, 3) := by decide +kernel
theorem dX6_unbent_4 : decode cX6_unbent 4 = .ok (.ifCond .eq 14, 3) := by decide +kernel
theorem dX6_unbent_7 : decode cX6_unbent 7 = .ok (.aload_n 0, 1) := by decide +kernel
theorem dX6_unbent_8 : decode cX6_unbent 8 = .ok (.getfield 19, 3) := by decide +kernel
theorem dX6_unbent_11 : decode cX6_unbent 11 = .ok (.iload_n 2, 1) := by decide +kernel
theorem dX6_unbent_12 : decode cX6_unbent 12 = .ok (.invokevirtual 68, 3) := by decide +kernel
theorem dX6_unbent_15 : decode cX6_unbent 15 = .ok (.ifCond .ne 6, 3) := by decide +kernel
theorem dX6_unbent_18 : decode cX6_unbent 18 = .ok (.ldc 63, 2) := by decide +kernel
theorem dX6_unbent_20 : decode cX6_unbent 20 = .ok (.ireturn, 1) := by decide +kernel
theorem dX6_unbent_21 : decode cX6_unbent 21 = .ok (.aload_n 0, 1) := by decide +kernel
theorem dX6_unbent_22 : decode cX6_unbent 22 = .ok (.getfield 19, 3) := by decide +kernel
theorem dX6_unbent_25 : decode cX6_unbent 25 = .ok (.getfield 142, 3) := by decide +kernel
theorem dX6_unbent_28 : decode cX6_unbent 28 = .ok (.iload_n 1, 1) := by decide +kernel
theorem dX6_unbent_29 : decode cX6_unbent 29 = .ok (.aaload, 1) := by decide +kernel
theorem dX6_unbent_30 : decode cX6_unbent 30 = .ok (.iload_n 2, 1) := by decide +kernel
theorem dX6_unbent_31 : decode cX6_unbent 31 = .ok (.iaload, 1) := by decide +kernel
theorem dX6_unbent_32 : decode cX6_unbent 32 = .ok (.ireturn, 1) := by decide +kernel
theorem dX6_reading_0 : decode cX6_reading 0 = .ok (.iload_n 1, 1) := by decide +kernel
theorem dX6_reading_1 : decode cX6_reading 1 = .ok (.invokestatic 113, 3) := by decide +kernel
theorem dX6_reading_4 : decode cX6_reading 4 = .ok (.ifCond .eq 14, 3) := by decide +kernel
theorem dX6_reading_7 : decode cX6_reading 7 = .ok (.aload_n 0, 1) := by decide +kernel
theorem dX6_reading_8 : decode cX6_reading 8 = .ok (.getfield 19, 3) := by decide +kernel
theorem dX6_reading_11 : decode cX6_reading 11 = .ok (.iload_n 2, 1) := by decide +kernel
theorem dX6_reading_12 : decode cX6_reading 12 = .ok (.invokevirtual 68, 3) := by decide +kernel
theorem dX6_reading_15 : decode cX6_reading 15 = .ok (.ifCond .ne 6, 3) := by decide +kernel
theorem dX6_reading_18 : decode cX6_reading 18 = .ok (.ldc 63, 2) := by decide +kernel
theorem dX6_reading_20 : decode cX6_reading 20 = .ok (.ireturn, 1) := by decide +kernel
theorem dX6_reading_21 : decode cX6_reading 21 = .ok (.aload_n 0, 1) := by decide +kernel
theorem dX6_reading_22 : decode cX6_reading 22 = .ok (.getfield 19, 3) := by decide +kernel
theorem dX6_reading_25 : decode cX6_reading 25 = .ok (.iload_n 1, 1) := by decide +kernel
theorem dX6_reading_26 : decode cX6_reading 26 = .ok (.iload_n 2, 1) := by decide +kernel
theorem dX6_reading_27 : decode cX6_reading 27 = .ok (.invokevirtual 145, 3) := by decide +kernel
theorem dX6_reading_30 : decode cX6_reading 30 = .ok (.ireturn, 1) := by decide +kernel
theorem dX6_state_0 : decode cX6_state 0 = .ok (.aload_n 0, 1) := by decide +kernel
theorem dX6_state_1 : decode cX6_state 1 = .ok (.getfield 32, 3) := by decide +kernel
theorem dX6_state_4 : decode cX6_state 4 = .ok (.invokevirtual 148, 3) := by decide +kernel
theorem dX6_state_7 : decode cX6_state 7 = .ok (.iload_n 1, 1) := by decide +kernel
theorem dX6_state_8 : decode cX6_state 8 = .ok (.tableswitch 103 0 5 #[40, 48, 57, 66, 74, 82], 40) := by decide +kernel
theorem dX6_state_48 : decode cX6_state 48 = .ok (.aload_n 0, 1) := by decide +kernel
theorem dX6_state_49 : decode cX6_state 49 = .ok (.getfield 32, 3) := by decide +kernel
theorem dX6_state_52 : decode cX6_state 52 = .ok (.invokevirtual 151, 3) := by decide +kernel
theorem dX6_state_55 : decode cX6_state 55 = .ok (.ireturn, 1) := by decide +kernel
theorem dX6_state_56 : decode cX6_state 56 = .ok (.aload_n 0, 1) := by decide +kernel
theorem dX6_state_57 : decode cX6_state 57 = .ok (.getfield 32, 3) := by decide +kernel
theorem dX6_state_60 : decode cX6_state 60 = .ok (.iconst 1, 1) := by decide +kernel
theorem dX6_state_61 : decode cX6_state 61 = .ok (.invokevirtual 155, 3) := by decide +kernel
theorem dX6_state_64 : decode cX6_state 64 = .ok (.ireturn, 1) := by decide +kernel
theorem dX6_state_65 : decode cX6_state 65 = .ok (.aload_n 0, 1) := by decide +kernel
theorem dX6_state_66 : decode cX6_state 66 = .ok (.getfield 32, 3) := by decide +kernel
theorem dX6_state_69 : decode cX6_state 69 = .ok (.iconst (-1), 1) := by decide +kernel
theorem dX6_state_70 : decode cX6_state 70 = .ok (.invokevirtual 155, 3) := by decide +kernel
theorem dX6_state_73 : decode cX6_state 73 = .ok (.ireturn, 1) := by decide +kernel
theorem dX6_state_74 : decode cX6_state 74 = .ok (.aload_n 0, 1) := by decide +kernel
theorem dX6_state_75 : decode cX6_state 75 = .ok (.getfield 32, 3) := by decide +kernel
theorem dX6_state_78 : decode cX6_state 78 = .ok (.invokevirtual 158, 3) := by decide +kernel
theorem dX6_state_81 : decode cX6_state 81 = .ok (.ireturn, 1) := by decide +kernel
theorem dX6_state_82 : decode cX6_state 82 = .ok (.aload_n 0, 1) := by decide +kernel
theorem dX6_state_83 : decode cX6_state 83 = .ok (.getfield 32, 3) := by decide +kernel
theorem dX6_state_86 : decode cX6_state 86 = .ok (.invokevirtual 161, 3) := by decide +kernel
theorem dX6_state_89 : decode cX6_state 89 = .ok (.ireturn, 1) := by decide +kernel
theorem dX6_state_90 : decode cX6_state 90 = .ok (.aload_n 0, 1) := by decide +kernel
theorem dX6_state_91 : decode cX6_state 91 = .ok (.getfield 32, 3) := by decide +kernel
theorem dX6_state_94 : decode cX6_state 94 = .ok (.invokevirtual 164, 3) := by decide +kernel
theorem dX6_state_97 : decode cX6_state 97 = .ok (.ldc 167, 2) := by decide +kernel
theorem dX6_state_99 : decode cX6_state 99 = .ok (.if_icmp .ne 7, 3) := by decide +kernel
theorem dX6_state_102 : decode cX6_state 102 = .ok (.iconst 1, 1) := by decide +kernel
theorem dX6_state_103 : decode cX6_state 103 = .ok (.goto 4, 3) := by decide +kernel
theorem dX6_state_106 : decode cX6_state 106 = .ok (.iconst 0, 1) := by decide +kernel
theorem dX6_state_107 : decode cX6_state 107 = .ok (.invokestatic 138, 3) := by decide +kernel
theorem dX6_state_110 : decode cX6_state 110 = .ok (.ireturn, 1) := by decide +kernel
theorem dX6_state_111 : decode cX6_state 111 = .ok (.ldc 63, 2) := by decide +kernel
theorem dX6_state_113 : decode cX6_state 113 = .ok (.ireturn, 1) := by decide +kernel
theorem dX6_why_0 : decode cX6_why 0 = .ok (.aload_n 0, 1) := by decide +kernel
theorem dX6_why_1 : decode cX6_why 1 = .ok (.getfield 32, 3) := by decide +kernel
theorem dX6_why_4 : decode cX6_why 4 = .ok (.invokevirtual 148, 3) := by decide +kernel
theorem dX6_why_7 : decode cX6_why 7 = .ok (.aload_n 0, 1) := by decide +kernel
theorem dX6_why_8 : decode cX6_why 8 = .ok (.getfield 32, 3) := by decide +kernel
theorem dX6_why_11 : decode cX6_why 11 = .ok (.invokevirtual 164, 3) := by decide +kernel
theorem dX6_why_14 : decode cX6_why 14 = .ok (.ireturn, 1) := by decide +kernel
theorem dX6_turn_0 : decode cX6_turn 0 = .ok (.aload_n 0, 1) := by decide +kernel
theorem dX6_turn_1 : decode cX6_turn 1 = .ok (.getfield 19, 3) := by decide +kernel
theorem dX6_turn_4 : decode cX6_turn 4 = .ok (.iload_n 1, 1) := by decide +kernel
theorem dX6_turn_5 : decode cX6_turn 5 = .ok (.invokevirtual 68, 3) := by decide +kernel
theorem dX6_turn_8 : decode cX6_turn 8 = .ok (.ifCond .eq 18, 3) := by decide +kernel
theorem dX6_turn_11 : decode cX6_turn 11 = .ok (.iload_n 2, 1) := by decide +kernel
theorem dX6_turn_12 : decode cX6_turn 12 = .ok (.bipush (-100), 2) := by decide +kernel
theorem dX6_turn_14 : decode cX6_turn 14 = .ok (.bipush 100, 2) := by decide +kernel
theorem dX6_turn_16 : decode cX6_turn 16 = .ok (.invokestatic 85, 3) := by decide +kernel
theorem dX6_turn_19 : decode cX6_turn 19 = .ok (.ifCond .eq 7, 3) := by decide +kernel
theorem dX6_turn_22 : decode cX6_turn 22 = .ok (.iload_n 2, 1) := by decide +kernel
theorem dX6_turn_23 : decode cX6_turn 23 = .ok (.ifCond .ne 6, 3) := by decide +kernel
theorem dX6_turn_26 : decode cX6_turn 26 = .ok (.ldc 63, 2) := by decide +kernel
theorem dX6_turn_28 : decode cX6_turn 28 = .ok (.ireturn, 1) := by decide +kernel
theorem dX6_turn_29 : decode cX6_turn 29 = .ok (.aload_n 0, 1) := by decide +kernel
theorem dX6_turn_30 : decode cX6_turn 30 = .ok (.getfield 32, 3) := by decide +kernel
theorem dX6_turn_33 : decode cX6_turn 33 = .ok (.iload_n 1, 1) := by decide +kernel
theorem dX6_turn_34 : decode cX6_turn 34 = .ok (.iload_n 2, 1) := by decide +kernel
theorem dX6_turn_35 : decode cX6_turn 35 = .ok (.invokevirtual 168, 3) := by decide +kernel
theorem dX6_turn_38 : decode cX6_turn 38 = .ok (.aload_n 0, 1) := by decide +kernel
theorem dX6_turn_39 : decode cX6_turn 39 = .ok (.getfield 32, 3) := by decide +kernel
theorem dX6_turn_42 : decode cX6_turn 42 = .ok (.invokevirtual 171, 3) := by decide +kernel
theorem dX6_turn_45 : decode cX6_turn 45 = .ok (.ifCond .eq 6, 3) := by decide +kernel
theorem dX6_turn_48 : decode cX6_turn 48 = .ok (.ldc 78, 2) := by decide +kernel
theorem dX6_turn_50 : decode cX6_turn 50 = .ok (.ireturn, 1) := by decide +kernel
theorem dX6_turn_51 : decode cX6_turn 51 = .ok (.aload_n 0, 1) := by decide +kernel
theorem dX6_turn_52 : decode cX6_turn 52 = .ok (.getfield 48, 3) := by decide +kernel
theorem dX6_turn_55 : decode cX6_turn 55 = .ok (.invokevirtual 175, 3) := by decide +kernel
theorem dX6_turn_58 : decode cX6_turn 58 = .ok (.ifCond .eq 6, 3) := by decide +kernel
theorem dX6_turn_61 : decode cX6_turn 61 = .ok (.ldc 178, 2) := by decide +kernel
theorem dX6_turn_63 : decode cX6_turn 63 = .ok (.ireturn, 1) := by decide +kernel
theorem dX6_turn_64 : decode cX6_turn 64 = .ok (.aload_n 0, 1) := by decide +kernel
theorem dX6_turn_65 : decode cX6_turn 65 = .ok (.getfield 32, 3) := by decide +kernel
theorem dX6_turn_68 : decode cX6_turn 68 = .ok (.invokevirtual 179, 3) := by decide +kernel
theorem dX6_turn_71 : decode cX6_turn 71 = .ok (.aload_n 0, 1) := by decide +kernel
theorem dX6_turn_72 : decode cX6_turn 72 = .ok (.getfield 48, 3) := by decide +kernel
theorem dX6_turn_75 : decode cX6_turn 75 = .ok (.iload_n 1, 1) := by decide +kernel
theorem dX6_turn_76 : decode cX6_turn 76 = .ok (.iload_n 2, 1) := by decide +kernel
theorem dX6_turn_77 : decode cX6_turn 77 = .ok (.invokevirtual 182, 3) := by decide +kernel
theorem dX6_turn_80 : decode cX6_turn 80 = .ok (.aload_n 0, 1) := by decide +kernel
theorem dX6_turn_81 : decode cX6_turn 81 = .ok (.getfield 19, 3) := by decide +kernel
theorem dX6_turn_84 : decode cX6_turn 84 = .ok (.getfield 125, 3) := by decide +kernel
theorem dX6_turn_87 : decode cX6_turn 87 = .ok (.iload_n 1, 1) := by decide +kernel
theorem dX6_turn_88 : decode cX6_turn 88 = .ok (.iaload, 1) := by decide +kernel
theorem dX6_turn_89 : decode cX6_turn 89 = .ok (.ireturn, 1) := by decide +kernel
theorem dX6_next_0 : decode cX6_next 0 = .ok (.aload_n 0, 1) := by decide +kernel
theorem dX6_next_1 : decode cX6_next 1 = .ok (.getfield 41, 3) := by decide +kernel
theorem dX6_next_4 : decode cX6_next 4 = .ok (.invokevirtual 185, 3) := by decide +kernel
theorem dX6_next_7 : decode cX6_next 7 = .ok (.ireturn, 1) := by decide +kernel
theorem dX6_plan_0 : decode cX6_plan 0 = .ok (.iload_n 1, 1) := by decide +kernel
theorem dX6_plan_1 : decode cX6_plan 1 = .ok (.iconst 1, 1) := by decide +kernel
theorem dX6_plan_2 : decode cX6_plan 2 = .ok (.bipush 60, 2) := by decide +kernel
theorem dX6_plan_4 : decode cX6_plan 4 = .ok (.invokestatic 85, 3) := by decide +kernel
theorem dX6_plan_7 : decode cX6_plan 7 = .ok (.ifCond .ne 6, 3) := by decide +kernel
theorem dX6_plan_10 : decode cX6_plan 10 = .ok (.ldc 63, 2) := by decide +kernel
theorem dX6_plan_12 : decode cX6_plan 12 = .ok (.ireturn, 1) := by decide +kernel
theorem dX6_plan_13 : decode cX6_plan 13 = .ok (.iconst 0, 1) := by decide +kernel
theorem dX6_plan_14 : decode cX6_plan 14 = .ok (.istore_n 2, 1) := by decide +kernel
theorem dX6_plan_15 : decode cX6_plan 15 = .ok (.iload_n 2, 1) := by decide +kernel
theorem dX6_plan_16 : decode cX6_plan 16 = .ok (.iload_n 1, 1) := by decide +kernel
theorem dX6_plan_17 : decode cX6_plan 17 = .ok (.if_icmp .ge 87, 3) := by decide +kernel
theorem dX6_plan_20 : decode cX6_plan 20 = .ok (.aload_n 0, 1) := by decide +kernel
theorem dX6_plan_21 : decode cX6_plan 21 = .ok (.getfield 48, 3) := by decide +kernel
theorem dX6_plan_24 : decode cX6_plan 24 = .ok (.invokevirtual 175, 3) := by decide +kernel
theorem dX6_plan_27 : decode cX6_plan 27 = .ok (.ifCond .eq 8, 3) := by decide +kernel
theorem dX6_plan_30 : decode cX6_plan 30 = .ok (.ldc 167, 2) := by decide +kernel
theorem dX6_plan_32 : decode cX6_plan 32 = .ok (.goto 10, 3) := by decide +kernel
theorem dX6_plan_35 : decode cX6_plan 35 = .ok (.aload_n 0, 1) := by decide +kernel
theorem dX6_plan_36 : decode cX6_plan 36 = .ok (.getfield 41, 3) := by decide +kernel
theorem dX6_plan_39 : decode cX6_plan 39 = .ok (.invokevirtual 185, 3) := by decide +kernel
theorem dX6_plan_42 : decode cX6_plan 42 = .ok (.istore_n 3, 1) := by decide +kernel
theorem dX6_plan_43 : decode cX6_plan 43 = .ok (.iload_n 3, 1) := by decide +kernel
theorem dX6_plan_44 : decode cX6_plan 44 = .ok (.ldc 167, 2) := by decide +kernel
theorem dX6_plan_46 : decode cX6_plan 46 = .ok (.if_icmp .ne 5, 3) := by decide +kernel
theorem dX6_plan_49 : decode cX6_plan 49 = .ok (.iload_n 2, 1) := by decide +kernel
theorem dX6_plan_50 : decode cX6_plan 50 = .ok (.ireturn, 1) := by decide +kernel
theorem dX6_plan_51 : decode cX6_plan 51 = .ok (.iload_n 3, 1) := by decide +kernel
theorem dX6_plan_52 : decode cX6_plan 52 = .ok (.iconst 1, 1) := by decide +kernel
theorem dX6_plan_53 : decode cX6_plan 53 = .ok (.ishr, 1) := by decide +kernel
theorem dX6_plan_54 : decode cX6_plan 54 = .ok (.istore 4, 2) := by decide +kernel
theorem dX6_plan_56 : decode cX6_plan 56 = .ok (.iload_n 3, 1) := by decide +kernel
theorem dX6_plan_57 : decode cX6_plan 57 = .ok (.iconst 1, 1) := by decide +kernel
theorem dX6_plan_58 : decode cX6_plan 58 = .ok (.iand, 1) := by decide +kernel
theorem dX6_plan_59 : decode cX6_plan 59 = .ok (.ifCond .ne 7, 3) := by decide +kernel
theorem dX6_plan_62 : decode cX6_plan 62 = .ok (.iconst 1, 1) := by decide +kernel
theorem dX6_plan_63 : decode cX6_plan 63 = .ok (.goto 4, 3) := by decide +kernel
theorem dX6_plan_66 : decode cX6_plan 66 = .ok (.iconst (-1), 1) := by decide +kernel
theorem dX6_plan_67 : decode cX6_plan 67 = .ok (.istore 5, 2) := by decide +kernel
theorem dX6_plan_69 : decode cX6_plan 69 = .ok (.aload_n 0, 1) := by decide +kernel
theorem dX6_plan_70 : decode cX6_plan 70 = .ok (.getfield 32, 3) := by decide +kernel
theorem dX6_plan_73 : decode cX6_plan 73 = .ok (.iload 4, 2) := by decide +kernel
theorem dX6_plan_75 : decode cX6_plan 75 = .ok (.iload 5, 2) := by decide +kernel
theorem dX6_plan_77 : decode cX6_plan 77 = .ok (.invokevirtual 168, 3) := by decide +kernel
theorem dX6_plan_80 : decode cX6_plan 80 = .ok (.aload_n 0, 1) := by decide +kernel
theorem dX6_plan_81 : decode cX6_plan 81 = .ok (.getfield 32, 3) := by decide +kernel
theorem dX6_plan_84 : decode cX6_plan 84 = .ok (.invokevirtual 179, 3) := by decide +kernel
theorem dX6_plan_87 : decode cX6_plan 87 = .ok (.aload_n 0, 1) := by decide +kernel
theorem dX6_plan_88 : decode cX6_plan 88 = .ok (.getfield 48, 3) := by decide +kernel
theorem dX6_plan_91 : decode cX6_plan 91 = .ok (.iload 4, 2) := by decide +kernel
theorem dX6_plan_93 : decode cX6_plan 93 = .ok (.iload 5, 2) := by decide +kernel
theorem dX6_plan_95 : decode cX6_plan 95 = .ok (.invokevirtual 182, 3) := by decide +kernel
theorem dX6_plan_98 : decode cX6_plan 98 = .ok (.iinc 2 1, 3) := by decide +kernel
theorem dX6_plan_101 : decode cX6_plan 101 = .ok (.goto (-86), 3) := by decide +kernel
theorem dX6_plan_104 : decode cX6_plan 104 = .ok (.iload_n 1, 1) := by decide +kernel
theorem dX6_plan_105 : decode cX6_plan 105 = .ok (.ireturn, 1) := by decide +kernel
theorem dX6_fewest_0 : decode cX6_fewest 0 = .ok (.iload_n 1, 1) := by decide +kernel
theorem dX6_fewest_1 : decode cX6_fewest 1 = .ok (.iconst 0, 1) := by decide +kernel
theorem dX6_fewest_2 : decode cX6_fewest 2 = .ok (.iconst 4, 1) := by decide +kernel
theorem dX6_fewest_3 : decode cX6_fewest 3 = .ok (.invokestatic 85, 3) := by decide +kernel
theorem dX6_fewest_6 : decode cX6_fewest 6 = .ok (.ifCond .ne 6, 3) := by decide +kernel
theorem dX6_fewest_9 : decode cX6_fewest 9 = .ok (.ldc 63, 2) := by decide +kernel
theorem dX6_fewest_11 : decode cX6_fewest 11 = .ok (.ireturn, 1) := by decide +kernel
theorem dX6_fewest_12 : decode cX6_fewest 12 = .ok (.aload_n 0, 1) := by decide +kernel
theorem dX6_fewest_13 : decode cX6_fewest 13 = .ok (.getfield 41, 3) := by decide +kernel
theorem dX6_fewest_16 : decode cX6_fewest 16 = .ok (.invokevirtual 188, 3) := by decide +kernel
theorem dX6_fewest_19 : decode cX6_fewest 19 = .ok (.istore_n 2, 1) := by decide +kernel
theorem dX6_fewest_20 : decode cX6_fewest 20 = .ok (.iload_n 2, 1) := by decide +kernel
theorem dX6_fewest_21 : decode cX6_fewest 21 = .ok (.ldc 167, 2) := by decide +kernel
theorem dX6_fewest_23 : decode cX6_fewest 23 = .ok (.if_icmp .eq 10, 3) := by decide +kernel
theorem dX6_fewest_26 : decode cX6_fewest 26 = .ok (.iload_n 1, 1) := by decide +kernel
theorem dX6_fewest_27 : decode cX6_fewest 27 = .ok (.iconst 2, 1) := by decide +kernel
theorem dX6_fewest_28 : decode cX6_fewest 28 = .ok (.iload_n 2, 1) := by decide +kernel
theorem dX6_fewest_29 : decode cX6_fewest 29 = .ok (.imul, 1) := by decide +kernel
theorem dX6_fewest_30 : decode cX6_fewest 30 = .ok (.if_icmp .le 6, 3) := by decide +kernel
theorem dX6_fewest_33 : decode cX6_fewest 33 = .ok (.ldc 167, 2) := by decide +kernel
theorem dX6_fewest_35 : decode cX6_fewest 35 = .ok (.ireturn, 1) := by decide +kernel
theorem dX6_fewest_36 : decode cX6_fewest 36 = .ok (.iload_n 1, 1) := by decide +kernel
theorem dX6_fewest_37 : decode cX6_fewest 37 = .ok (.ifCond .ne 7, 3) := by decide +kernel
theorem dX6_fewest_40 : decode cX6_fewest 40 = .ok (.iload_n 2, 1) := by decide +kernel
theorem dX6_fewest_41 : decode cX6_fewest 41 = .ok (.goto 12, 3) := by decide +kernel
theorem dX6_fewest_44 : decode cX6_fewest 44 = .ok (.aload_n 0, 1) := by decide +kernel
theorem dX6_fewest_45 : decode cX6_fewest 45 = .ok (.getfield 41, 3) := by decide +kernel
theorem dX6_fewest_48 : decode cX6_fewest 48 = .ok (.getfield 191, 3) := by decide +kernel
theorem dX6_fewest_51 : decode cX6_fewest 51 = .ok (.iload_n 1, 1) := by decide +kernel
theorem dX6_fewest_52 : decode cX6_fewest 52 = .ok (.iaload, 1) := by decide +kernel
theorem dX6_fewest_53 : decode cX6_fewest 53 = .ok (.ireturn, 1) := by decide +kernel
theorem dX6_log_0 : decode cX6_log 0 = .ok (.iload_n 1, 1) := by decide +kernel
theorem dX6_log_1 : decode cX6_log 1 = .ok (.ifCond .lt 12, 3) := by decide +kernel
theorem dX6_log_4 : decode cX6_log 4 = .ok (.iload_n 2, 1) := by decide +kernel
theorem dX6_log_5 : decode cX6_log 5 = .ok (.iconst 0, 1) := by decide +kernel
theorem dX6_log_6 : decode cX6_log 6 = .ok (.iconst 1, 1) := by decide +kernel
theorem dX6_log_7 : decode cX6_log 7 = .ok (.invokestatic 85, 3) := by decide +kernel
theorem dX6_log_10 : decode cX6_log 10 = .ok (.ifCond .ne 6, 3) := by decide +kernel
theorem dX6_log_13 : decode cX6_log 13 = .ok (.ldc 63, 2) := by decide +kernel
theorem dX6_log_15 : decode cX6_log 15 = .ok (.ireturn, 1) := by decide +kernel
theorem dX6_log_16 : decode cX6_log 16 = .ok (.iload_n 1, 1) := by decide +kernel
theorem dX6_log_17 : decode cX6_log 17 = .ok (.aload_n 0, 1) := by decide +kernel
theorem dX6_log_18 : decode cX6_log 18 = .ok (.getfield 48, 3) := by decide +kernel
theorem dX6_log_21 : decode cX6_log 21 = .ok (.getfield 64, 3) := by decide +kernel
theorem dX6_log_24 : decode cX6_log 24 = .ok (.if_icmp .lt 6, 3) := by decide +kernel
theorem dX6_log_27 : decode cX6_log 27 = .ok (.ldc 167, 2) := by decide +kernel
theorem dX6_log_29 : decode cX6_log 29 = .ok (.ireturn, 1) := by decide +kernel
theorem dX6_log_30 : decode cX6_log 30 = .ok (.iload_n 2, 1) := by decide +kernel
theorem dX6_log_31 : decode cX6_log 31 = .ok (.ifCond .ne 15, 3) := by decide +kernel
theorem dX6_log_34 : decode cX6_log 34 = .ok (.aload_n 0, 1) := by decide +kernel
theorem dX6_log_35 : decode cX6_log 35 = .ok (.getfield 48, 3) := by decide +kernel
theorem dX6_log_38 : decode cX6_log 38 = .ok (.getfield 194, 3) := by decide +kernel
theorem dX6_log_41 : decode cX6_log 41 = .ok (.iload_n 1, 1) := by decide +kernel
theorem dX6_log_42 : decode cX6_log 42 = .ok (.iaload, 1) := by decide +kernel
theorem dX6_log_43 : decode cX6_log 43 = .ok (.goto 12, 3) := by decide +kernel
theorem dX6_log_46 : decode cX6_log 46 = .ok (.aload_n 0, 1) := by decide +kernel
theorem dX6_log_47 : decode cX6_log 47 = .ok (.getfield 48, 3) := by decide +kernel
theorem dX6_log_50 : decode cX6_log 50 = .ok (.getfield 197, 3) := by decide +kernel
theorem dX6_log_53 : decode cX6_log 53 = .ok (.iload_n 1, 1) := by decide +kernel
theorem dX6_log_54 : decode cX6_log 54 = .ok (.iaload, 1) := by decide +kernel
theorem dX6_log_55 : decode cX6_log 55 = .ok (.ireturn, 1) := by decide +kernel
theorem dX6_undo_0 : decode cX6_undo 0 = .ok (.aload_n 0, 1) := by decide +kernel
theorem dX6_undo_1 : decode cX6_undo 1 = .ok (.getfield 48, 3) := by decide +kernel
theorem dX6_undo_4 : decode cX6_undo 4 = .ok (.getfield 64, 3) := by decide +kernel
theorem dX6_undo_7 : decode cX6_undo 7 = .ok (.ifCond .ne 6, 3) := by decide +kernel
theorem dX6_undo_10 : decode cX6_undo 10 = .ok (.ldc 78, 2) := by decide +kernel
theorem dX6_undo_12 : decode cX6_undo 12 = .ok (.ireturn, 1) := by decide +kernel
theorem dX6_undo_13 : decode cX6_undo 13 = .ok (.aload_n 0, 1) := by decide +kernel
theorem dX6_undo_14 : decode cX6_undo 14 = .ok (.getfield 48, 3) := by decide +kernel
theorem dX6_undo_17 : decode cX6_undo 17 = .ok (.getfield 64, 3) := by decide +kernel
theorem dX6_undo_20 : decode cX6_undo 20 = .ok (.iconst 1, 1) := by decide +kernel
theorem dX6_undo_21 : decode cX6_undo 21 = .ok (.isub, 1) := by decide +kernel
theorem dX6_undo_22 : decode cX6_undo 22 = .ok (.istore_n 1, 1) := by decide +kernel
theorem dX6_undo_23 : decode cX6_undo 23 = .ok (.aload_n 0, 1) := by decide +kernel
theorem dX6_undo_24 : decode cX6_undo 24 = .ok (.getfield 32, 3) := by decide +kernel
theorem dX6_undo_27 : decode cX6_undo 27 = .ok (.aload_n 0, 1) := by decide +kernel
theorem dX6_undo_28 : decode cX6_undo 28 = .ok (.getfield 48, 3) := by decide +kernel
theorem dX6_undo_31 : decode cX6_undo 31 = .ok (.getfield 194, 3) := by decide +kernel
theorem dX6_undo_34 : decode cX6_undo 34 = .ok (.iload_n 1, 1) := by decide +kernel
theorem dX6_undo_35 : decode cX6_undo 35 = .ok (.iaload, 1) := by decide +kernel
theorem dX6_undo_36 : decode cX6_undo 36 = .ok (.aload_n 0, 1) := by decide +kernel
theorem dX6_undo_37 : decode cX6_undo 37 = .ok (.getfield 48, 3) := by decide +kernel
theorem dX6_undo_40 : decode cX6_undo 40 = .ok (.getfield 197, 3) := by decide +kernel
theorem dX6_undo_43 : decode cX6_undo 43 = .ok (.iload_n 1, 1) := by decide +kernel
theorem dX6_undo_44 : decode cX6_undo 44 = .ok (.iaload, 1) := by decide +kernel
theorem dX6_undo_45 : decode cX6_undo 45 = .ok (.ineg, 1) := by decide +kernel
theorem dX6_undo_46 : decode cX6_undo 46 = .ok (.invokevirtual 168, 3) := by decide +kernel
theorem dX6_undo_49 : decode cX6_undo 49 = .ok (.aload_n 0, 1) := by decide +kernel
theorem dX6_undo_50 : decode cX6_undo 50 = .ok (.getfield 32, 3) := by decide +kernel
theorem dX6_undo_53 : decode cX6_undo 53 = .ok (.invokevirtual 179, 3) := by decide +kernel
theorem dX6_undo_56 : decode cX6_undo 56 = .ok (.aload_n 0, 1) := by decide +kernel
theorem dX6_undo_57 : decode cX6_undo 57 = .ok (.getfield 48, 3) := by decide +kernel
theorem dX6_undo_60 : decode cX6_undo 60 = .ok (.iload_n 1, 1) := by decide +kernel
theorem dX6_undo_61 : decode cX6_undo 61 = .ok (.putfield 64, 3) := by decide +kernel
theorem dX6_undo_64 : decode cX6_undo 64 = .ok (.iload_n 1, 1) := by decide +kernel
theorem dX6_undo_65 : decode cX6_undo 65 = .ok (.ireturn, 1) := by decide +kernel
theorem dX6_snap_0 : decode cX6_snap 0 = .ok (.aload_n 0, 1) := by decide +kernel
theorem dX6_snap_1 : decode cX6_snap 1 = .ok (.getfield 19, 3) := by decide +kernel
theorem dX6_snap_4 : decode cX6_snap 4 = .ok (.iload_n 1, 1) := by decide +kernel
theorem dX6_snap_5 : decode cX6_snap 5 = .ok (.invokevirtual 68, 3) := by decide +kernel
theorem dX6_snap_8 : decode cX6_snap 8 = .ok (.ifCond .ne 6, 3) := by decide +kernel
theorem dX6_snap_11 : decode cX6_snap 11 = .ok (.ldc 63, 2) := by decide +kernel
theorem dX6_snap_13 : decode cX6_snap 13 = .ok (.ireturn, 1) := by decide +kernel
theorem dX6_snap_14 : decode cX6_snap 14 = .ok (.aload_n 0, 1) := by decide +kernel
theorem dX6_snap_15 : decode cX6_snap 15 = .ok (.getfield 19, 3) := by decide +kernel
theorem dX6_snap_18 : decode cX6_snap 18 = .ok (.iload_n 1, 1) := by decide +kernel
theorem dX6_snap_19 : decode cX6_snap 19 = .ok (.invokevirtual 75, 3) := by decide +kernel
theorem dX6_snap_22 : decode cX6_snap 22 = .ok (.ifCond .ne 11, 3) := by decide +kernel
theorem dX6_snap_25 : decode cX6_snap 25 = .ok (.aload_n 0, 1) := by decide +kernel
theorem dX6_snap_26 : decode cX6_snap 26 = .ok (.iload_n 1, 1) := by decide +kernel
theorem dX6_snap_27 : decode cX6_snap 27 = .ok (.invokevirtual 200, 3) := by decide +kernel
theorem dX6_snap_30 : decode cX6_snap 30 = .ok (.ifCond .eq 6, 3) := by decide +kernel
theorem dX6_snap_33 : decode cX6_snap 33 = .ok (.ldc 78, 2) := by decide +kernel
theorem dX6_snap_35 : decode cX6_snap 35 = .ok (.ireturn, 1) := by decide +kernel
theorem dX6_snap_36 : decode cX6_snap 36 = .ok (.aload_n 0, 1) := by decide +kernel
theorem dX6_snap_37 : decode cX6_snap 37 = .ok (.getfield 19, 3) := by decide +kernel
theorem dX6_snap_40 : decode cX6_snap 40 = .ok (.getfield 125, 3) := by decide +kernel
theorem dX6_snap_43 : decode cX6_snap 43 = .ok (.iload_n 1, 1) := by decide +kernel
theorem dX6_snap_44 : decode cX6_snap 44 = .ok (.iaload, 1) := by decide +kernel
theorem dX6_snap_45 : decode cX6_snap 45 = .ok (.istore_n 2, 1) := by decide +kernel
theorem dX6_snap_46 : decode cX6_snap 46 = .ok (.iconst 0, 1) := by decide +kernel
theorem dX6_snap_47 : decode cX6_snap 47 = .ok (.istore_n 3, 1) := by decide +kernel
theorem dX6_snap_48 : decode cX6_snap 48 = .ok (.iload_n 3, 1) := by decide +kernel
theorem dX6_snap_49 : decode cX6_snap 49 = .ok (.aload_n 0, 1) := by decide +kernel
theorem dX6_snap_50 : decode cX6_snap 50 = .ok (.getfield 19, 3) := by decide +kernel
theorem dX6_snap_53 : decode cX6_snap 53 = .ok (.getfield 203, 3) := by decide +kernel
theorem dX6_snap_56 : decode cX6_snap 56 = .ok (.if_icmp .ge 41, 3) := by decide +kernel
theorem dX6_snap_59 : decode cX6_snap 59 = .ok (.iload_n 3, 1) := by decide +kernel
theorem dX6_snap_60 : decode cX6_snap 60 = .ok (.iload_n 1, 1) := by decide +kernel
theorem dX6_snap_61 : decode cX6_snap 61 = .ok (.if_icmp .eq 30, 3) := by decide +kernel
theorem dX6_snap_64 : decode cX6_snap 64 = .ok (.aload_n 0, 1) := by decide +kernel
theorem dX6_snap_65 : decode cX6_snap 65 = .ok (.getfield 19, 3) := by decide +kernel
theorem dX6_snap_68 : decode cX6_snap 68 = .ok (.iload_n 3, 1) := by decide +kernel
theorem dX6_snap_69 : decode cX6_snap 69 = .ok (.invokevirtual 75, 3) := by decide +kernel
theorem dX6_snap_72 : decode cX6_snap 72 = .ok (.ifCond .ne 19, 3) := by decide +kernel
theorem dX6_snap_75 : decode cX6_snap 75 = .ok (.aload_n 0, 1) := by decide +kernel
theorem dX6_snap_76 : decode cX6_snap 76 = .ok (.getfield 19, 3) := by decide +kernel
theorem dX6_snap_79 : decode cX6_snap 79 = .ok (.getfield 125, 3) := by decide +kernel
theorem dX6_snap_82 : decode cX6_snap 82 = .ok (.iload_n 3, 1) := by decide +kernel
theorem dX6_snap_83 : decode cX6_snap 83 = .ok (.aload_n 0, 1) := by decide +kernel
theorem dX6_snap_84 : decode cX6_snap 84 = .ok (.iload_n 1, 1) := by decide +kernel
theorem dX6_snap_85 : decode cX6_snap 85 = .ok (.iload_n 3, 1) := by decide +kernel
theorem dX6_snap_86 : decode cX6_snap 86 = .ok (.invokevirtual 206, 3) := by decide +kernel
theorem dX6_snap_89 : decode cX6_snap 89 = .ok (.l2i, 1) := by decide +kernel
theorem dX6_snap_90 : decode cX6_snap 90 = .ok (.iastore, 1) := by decide +kernel
theorem dX6_snap_91 : decode cX6_snap 91 = .ok (.iinc 3 1, 3) := by decide +kernel
theorem dX6_snap_94 : decode cX6_snap 94 = .ok (.goto (-46), 3) := by decide +kernel
theorem dX6_snap_97 : decode cX6_snap 97 = .ok (.aload_n 0, 1) := by decide +kernel
theorem dX6_snap_98 : decode cX6_snap 98 = .ok (.getfield 19, 3) := by decide +kernel
theorem dX6_snap_101 : decode cX6_snap 101 = .ok (.getfield 79, 3) := by decide +kernel
theorem dX6_snap_104 : decode cX6_snap 104 = .ok (.iload_n 1, 1) := by decide +kernel
theorem dX6_snap_105 : decode cX6_snap 105 = .ok (.iconst 4, 1) := by decide +kernel
theorem dX6_snap_106 : decode cX6_snap 106 = .ok (.iastore, 1) := by decide +kernel
theorem dX6_snap_107 : decode cX6_snap 107 = .ok (.aload_n 0, 1) := by decide +kernel
theorem dX6_snap_108 : decode cX6_snap 108 = .ok (.getfield 19, 3) := by decide +kernel
theorem dX6_snap_111 : decode cX6_snap 111 = .ok (.getfield 125, 3) := by decide +kernel
theorem dX6_snap_114 : decode cX6_snap 114 = .ok (.iload_n 1, 1) := by decide +kernel
theorem dX6_snap_115 : decode cX6_snap 115 = .ok (.iconst 0, 1) := by decide +kernel
theorem dX6_snap_116 : decode cX6_snap 116 = .ok (.iastore, 1) := by decide +kernel
theorem dX6_snap_117 : decode cX6_snap 117 = .ok (.iload_n 2, 1) := by decide +kernel
theorem dX6_snap_118 : decode cX6_snap 118 = .ok (.ireturn, 1) := by decide +kernel
theorem dX6_anew_0 : decode cX6_anew 0 = .ok (.aload_n 0, 1) := by decide +kernel
theorem dX6_anew_1 : decode cX6_anew 1 = .ok (.getfield 19, 3) := by decide +kernel
theorem dX6_anew_4 : decode cX6_anew 4 = .ok (.iload_n 1, 1) := by decide +kernel
theorem dX6_anew_5 : decode cX6_anew 5 = .ok (.invokevirtual 68, 3) := by decide +kernel
theorem dX6_anew_8 : decode cX6_anew 8 = .ok (.ifCond .eq 20, 3) := by decide +kernel
theorem dX6_anew_11 : decode cX6_anew 11 = .ok (.iload_n 2, 1) := by decide +kernel
theorem dX6_anew_12 : decode cX6_anew 12 = .ok (.invokestatic 72, 3) := by decide +kernel
theorem dX6_anew_15 : decode cX6_anew 15 = .ok (.ifCond .eq 13, 3) := by decide +kernel
theorem dX6_anew_18 : decode cX6_anew 18 = .ok (.iload_n 3, 1) := by decide +kernel
theorem dX6_anew_19 : decode cX6_anew 19 = .ok (.iconst 0, 1) := by decide +kernel
theorem dX6_anew_20 : decode cX6_anew 20 = .ok (.ldc 124, 2) := by decide +kernel
theorem dX6_anew_22 : decode cX6_anew 22 = .ok (.invokestatic 85, 3) := by decide +kernel
theorem dX6_anew_25 : decode cX6_anew 25 = .ok (.ifCond .ne 6, 3) := by decide +kernel
theorem dX6_anew_28 : decode cX6_anew 28 = .ok (.ldc 63, 2) := by decide +kernel
theorem dX6_anew_30 : decode cX6_anew 30 = .ok (.ireturn, 1) := by decide +kernel
theorem dX6_anew_31 : decode cX6_anew 31 = .ok (.aload_n 0, 1) := by decide +kernel
theorem dX6_anew_32 : decode cX6_anew 32 = .ok (.getfield 19, 3) := by decide +kernel
theorem dX6_anew_35 : decode cX6_anew 35 = .ok (.iload_n 1, 1) := by decide +kernel
theorem dX6_anew_36 : decode cX6_anew 36 = .ok (.invokevirtual 75, 3) := by decide +kernel
theorem dX6_anew_39 : decode cX6_anew 39 = .ok (.ifCond .ne 6, 3) := by decide +kernel
theorem dX6_anew_42 : decode cX6_anew 42 = .ok (.ldc 78, 2) := by decide +kernel
theorem dX6_anew_44 : decode cX6_anew 44 = .ok (.ireturn, 1) := by decide +kernel
theorem dX6_anew_45 : decode cX6_anew 45 = .ok (.aload_n 0, 1) := by decide +kernel
theorem dX6_anew_46 : decode cX6_anew 46 = .ok (.getfield 19, 3) := by decide +kernel
theorem dX6_anew_49 : decode cX6_anew 49 = .ok (.getfield 79, 3) := by decide +kernel
theorem dX6_anew_52 : decode cX6_anew 52 = .ok (.iload_n 1, 1) := by decide +kernel
theorem dX6_anew_53 : decode cX6_anew 53 = .ok (.iload_n 2, 1) := by decide +kernel
theorem dX6_anew_54 : decode cX6_anew 54 = .ok (.iastore, 1) := by decide +kernel
theorem dX6_anew_55 : decode cX6_anew 55 = .ok (.aload_n 0, 1) := by decide +kernel
theorem dX6_anew_56 : decode cX6_anew 56 = .ok (.getfield 19, 3) := by decide +kernel
theorem dX6_anew_59 : decode cX6_anew 59 = .ok (.getfield 125, 3) := by decide +kernel
theorem dX6_anew_62 : decode cX6_anew 62 = .ok (.iload_n 1, 1) := by decide +kernel
theorem dX6_anew_63 : decode cX6_anew 63 = .ok (.iload_n 3, 1) := by decide +kernel
theorem dX6_anew_64 : decode cX6_anew 64 = .ok (.iastore, 1) := by decide +kernel
theorem dX6_anew_65 : decode cX6_anew 65 = .ok (.iconst 0, 1) := by decide +kernel
theorem dX6_anew_66 : decode cX6_anew 66 = .ok (.ireturn, 1) := by decide +kernel
theorem dX6_loaded_0 : decode cX6_loaded 0 = .ok (.iload_n 1, 1) := by decide +kernel
theorem dX6_loaded_1 : decode cX6_loaded 1 = .ok (.iconst 0, 1) := by decide +kernel
theorem dX6_loaded_2 : decode cX6_loaded 2 = .ok (.ldc 124, 2) := by decide +kernel
theorem dX6_loaded_4 : decode cX6_loaded 4 = .ok (.invokestatic 85, 3) := by decide +kernel
theorem dX6_loaded_7 : decode cX6_loaded 7 = .ok (.ifCond .eq 25, 3) := by decide +kernel
theorem dX6_loaded_10 : decode cX6_loaded 10 = .ok (.aload_n 0, 1) := by decide +kernel
theorem dX6_loaded_11 : decode cX6_loaded 11 = .ok (.getfield 19, 3) := by decide +kernel
theorem dX6_loaded_14 : decode cX6_loaded 14 = .ok (.iload_n 2, 1) := by decide +kernel
theorem dX6_loaded_15 : decode cX6_loaded 15 = .ok (.invokevirtual 68, 3) := by decide +kernel
theorem dX6_loaded_18 : decode cX6_loaded 18 = .ok (.ifCond .eq 14, 3) := by decide +kernel
theorem dX6_loaded_21 : decode cX6_loaded 21 = .ok (.aload_n 0, 1) := by decide +kernel
theorem dX6_loaded_22 : decode cX6_loaded 22 = .ok (.getfield 19, 3) := by decide +kernel
theorem dX6_loaded_25 : decode cX6_loaded 25 = .ok (.iload_n 3, 1) := by decide +kernel
theorem dX6_loaded_26 : decode cX6_loaded 26 = .ok (.invokevirtual 68, 3) := by decide +kernel
theorem dX6_loaded_29 : decode cX6_loaded 29 = .ok (.ifCond .ne 6, 3) := by decide +kernel
theorem dX6_loaded_32 : decode cX6_loaded 32 = .ok (.ldc 63, 2) := by decide +kernel
theorem dX6_loaded_34 : decode cX6_loaded 34 = .ok (.ireturn, 1) := by decide +kernel
theorem dX6_loaded_35 : decode cX6_loaded 35 = .ok (.aload_n 0, 1) := by decide +kernel
theorem dX6_loaded_36 : decode cX6_loaded 36 = .ok (.iload_n 1, 1) := by decide +kernel
theorem dX6_loaded_37 : decode cX6_loaded 37 = .ok (.iload_n 2, 1) := by decide +kernel
theorem dX6_loaded_38 : decode cX6_loaded 38 = .ok (.iload_n 3, 1) := by decide +kernel
theorem dX6_loaded_39 : decode cX6_loaded 39 = .ok (.invokevirtual 210, 3) := by decide +kernel
theorem dX6_loaded_42 : decode cX6_loaded 42 = .ok (.ireturn, 1) := by decide +kernel
theorem dX6_worstAt_0 : decode cX6_worstAt 0 = .ok (.iload_n 1, 1) := by decide +kernel
theorem dX6_worstAt_1 : decode cX6_worstAt 1 = .ok (.iconst 0, 1) := by decide +kernel
theorem dX6_worstAt_2 : decode cX6_worstAt 2 = .ok (.ldc 124, 2) := by decide +kernel
theorem dX6_worstAt_4 : decode cX6_worstAt 4 = .ok (.invokestatic 85, 3) := by decide +kernel
theorem dX6_worstAt_7 : decode cX6_worstAt 7 = .ok (.ifCond .ne 6, 3) := by decide +kernel
theorem dX6_worstAt_10 : decode cX6_worstAt 10 = .ok (.ldc 63, 2) := by decide +kernel
theorem dX6_worstAt_12 : decode cX6_worstAt 12 = .ok (.ireturn, 1) := by decide +kernel
theorem dX6_worstAt_13 : decode cX6_worstAt 13 = .ok (.iconst 0, 1) := by decide +kernel
theorem dX6_worstAt_14 : decode cX6_worstAt 14 = .ok (.istore_n 2, 1) := by decide +kernel
theorem dX6_worstAt_15 : decode cX6_worstAt 15 = .ok (.iconst 0, 1) := by decide +kernel
theorem dX6_worstAt_16 : decode cX6_worstAt 16 = .ok (.istore_n 3, 1) := by decide +kernel
theorem dX6_worstAt_17 : decode cX6_worstAt 17 = .ok (.iconst 0, 1) := by decide +kernel
theorem dX6_worstAt_18 : decode cX6_worstAt 18 = .ok (.istore 4, 2) := by decide +kernel
theorem dX6_worstAt_20 : decode cX6_worstAt 20 = .ok (.iload 4, 2) := by decide +kernel
theorem dX6_worstAt_22 : decode cX6_worstAt 22 = .ok (.aload_n 0, 1) := by decide +kernel
theorem dX6_worstAt_23 : decode cX6_worstAt 23 = .ok (.getfield 19, 3) := by decide +kernel
theorem dX6_worstAt_26 : decode cX6_worstAt 26 = .ok (.getfield 203, 3) := by decide +kernel
theorem dX6_worstAt_29 : decode cX6_worstAt 29 = .ok (.if_icmp .ge 30, 3) := by decide +kernel
theorem dX6_worstAt_32 : decode cX6_worstAt 32 = .ok (.aload_n 0, 1) := by decide +kernel
theorem dX6_worstAt_33 : decode cX6_worstAt 33 = .ok (.iload_n 1, 1) := by decide +kernel
theorem dX6_worstAt_34 : decode cX6_worstAt 34 = .ok (.iload 4, 2) := by decide +kernel
theorem dX6_worstAt_36 : decode cX6_worstAt 36 = .ok (.invokevirtual 214, 3) := by decide +kernel
theorem dX6_worstAt_39 : decode cX6_worstAt 39 = .ok (.istore 5, 2) := by decide +kernel
theorem dX6_worstAt_41 : decode cX6_worstAt 41 = .ok (.iload 5, 2) := by decide +kernel
theorem dX6_worstAt_43 : decode cX6_worstAt 43 = .ok (.iload_n 3, 1) := by decide +kernel
theorem dX6_worstAt_44 : decode cX6_worstAt 44 = .ok (.if_icmp .le 9, 3) := by decide +kernel
theorem dX6_worstAt_47 : decode cX6_worstAt 47 = .ok (.iload 5, 2) := by decide +kernel
theorem dX6_worstAt_49 : decode cX6_worstAt 49 = .ok (.istore_n 3, 1) := by decide +kernel
theorem dX6_worstAt_50 : decode cX6_worstAt 50 = .ok (.iload 4, 2) := by decide +kernel
theorem dX6_worstAt_52 : decode cX6_worstAt 52 = .ok (.istore_n 2, 1) := by decide +kernel
theorem dX6_worstAt_53 : decode cX6_worstAt 53 = .ok (.iinc 4 1, 3) := by decide +kernel
theorem dX6_worstAt_56 : decode cX6_worstAt 56 = .ok (.goto (-36), 3) := by decide +kernel
theorem dX6_worstAt_59 : decode cX6_worstAt 59 = .ok (.iload_n 2, 1) := by decide +kernel
theorem dX6_worstAt_60 : decode cX6_worstAt 60 = .ok (.ireturn, 1) := by decide +kernel
theorem dX6_lace_0 : decode cX6_lace 0 = .ok (.iload_n 1, 1) := by decide +kernel
theorem dX6_lace_1 : decode cX6_lace 1 = .ok (.iconst 1, 1) := by decide +kernel
theorem dX6_lace_2 : decode cX6_lace 2 = .ok (.sipush 200, 3) := by decide +kernel
theorem dX6_lace_5 : decode cX6_lace 5 = .ok (.invokestatic 85, 3) := by decide +kernel
theorem dX6_lace_8 : decode cX6_lace 8 = .ok (.ifCond .eq 36, 3) := by decide +kernel
theorem dX6_lace_11 : decode cX6_lace 11 = .ok (.iload_n 2, 1) := by decide +kernel
theorem dX6_lace_12 : decode cX6_lace 12 = .ok (.iconst 0, 1) := by decide +kernel
theorem dX6_lace_13 : decode cX6_lace 13 = .ok (.sipush 200, 3) := by decide +kernel
theorem dX6_lace_16 : decode cX6_lace 16 = .ok (.invokestatic 85, 3) := by decide +kernel
theorem dX6_lace_19 : decode cX6_lace 19 = .ok (.ifCond .eq 25, 3) := by decide +kernel
theorem dX6_lace_22 : decode cX6_lace 22 = .ok (.iload_n 3, 1) := by decide +kernel
theorem dX6_lace_23 : decode cX6_lace 23 = .ok (.iconst 1, 1) := by decide +kernel
theorem dX6_lace_24 : decode cX6_lace 24 = .ok (.sipush 1000, 3) := by decide +kernel
theorem dX6_lace_27 : decode cX6_lace 27 = .ok (.invokestatic 85, 3) := by decide +kernel
theorem dX6_lace_30 : decode cX6_lace 30 = .ok (.ifCond .eq 14, 3) := by decide +kernel
theorem dX6_lace_33 : decode cX6_lace 33 = .ok (.iload 4, 2) := by decide +kernel
theorem dX6_lace_35 : decode cX6_lace 35 = .ok (.iconst 0, 1) := by decide +kernel
theorem dX6_lace_36 : decode cX6_lace 36 = .ok (.bipush 7, 2) := by decide +kernel
theorem dX6_lace_38 : decode cX6_lace 38 = .ok (.invokestatic 85, 3) := by decide +kernel
theorem dX6_lace_41 : decode cX6_lace 41 = .ok (.ifCond .ne 6, 3) := by decide +kernel
theorem dX6_lace_44 : decode cX6_lace 44 = .ok (.ldc 63, 2) := by decide +kernel
theorem dX6_lace_46 : decode cX6_lace 46 = .ok (.ireturn, 1) := by decide +kernel
theorem dX6_lace_47 : decode cX6_lace 47 = .ok (.aload_n 0, 1) := by decide +kernel
theorem dX6_lace_48 : decode cX6_lace 48 = .ok (.getfield 55, 3) := by decide +kernel
theorem dX6_lace_51 : decode cX6_lace 51 = .ok (.iload_n 1, 1) := by decide +kernel
theorem dX6_lace_52 : decode cX6_lace 52 = .ok (.putfield 217, 3) := by decide +kernel
theorem dX6_lace_55 : decode cX6_lace 55 = .ok (.aload_n 0, 1) := by decide +kernel
theorem dX6_lace_56 : decode cX6_lace 56 = .ok (.getfield 55, 3) := by decide +kernel
theorem dX6_lace_59 : decode cX6_lace 59 = .ok (.iload_n 2, 1) := by decide +kernel
theorem dX6_lace_60 : decode cX6_lace 60 = .ok (.putfield 220, 3) := by decide +kernel
theorem dX6_lace_63 : decode cX6_lace 63 = .ok (.aload_n 0, 1) := by decide +kernel
theorem dX6_lace_64 : decode cX6_lace 64 = .ok (.getfield 55, 3) := by decide +kernel
theorem dX6_lace_67 : decode cX6_lace 67 = .ok (.iload_n 3, 1) := by decide +kernel
theorem dX6_lace_68 : decode cX6_lace 68 = .ok (.putfield 223, 3) := by decide +kernel
theorem dX6_lace_71 : decode cX6_lace 71 = .ok (.aload_n 0, 1) := by decide +kernel
theorem dX6_lace_72 : decode cX6_lace 72 = .ok (.getfield 55, 3) := by decide +kernel
theorem dX6_lace_75 : decode cX6_lace 75 = .ok (.iload 4, 2) := by decide +kernel
theorem dX6_lace_77 : decode cX6_lace 77 = .ok (.putfield 226, 3) := by decide +kernel
theorem dX6_lace_80 : decode cX6_lace 80 = .ok (.iconst 0, 1) := by decide +kernel
theorem dX6_lace_81 : decode cX6_lace 81 = .ok (.ireturn, 1) := by decide +kernel
theorem dX6_length_0 : decode cX6_length 0 = .ok (.aload_n 0, 1) := by decide +kernel
theorem dX6_length_1 : decode cX6_length 1 = .ok (.getfield 19, 3) := by decide +kernel
theorem dX6_length_4 : decode cX6_length 4 = .ok (.iload_n 1, 1) := by decide +kernel
theorem dX6_length_5 : decode cX6_length 5 = .ok (.invokevirtual 68, 3) := by decide +kernel
theorem dX6_length_8 : decode cX6_length 8 = .ok (.ifCond .ne 6, 3) := by decide +kernel
theorem dX6_length_11 : decode cX6_length 11 = .ok (.ldc 63, 2) := by decide +kernel
theorem dX6_length_13 : decode cX6_length 13 = .ok (.ireturn, 1) := by decide +kernel
theorem dX6_length_14 : decode cX6_length 14 = .ok (.aload_n 0, 1) := by decide +kernel
theorem dX6_length_15 : decode cX6_length 15 = .ok (.getfield 55, 3) := by decide +kernel
theorem dX6_length_18 : decode cX6_length 18 = .ok (.aload_n 0, 1) := by decide +kernel
theorem dX6_length_19 : decode cX6_length 19 = .ok (.getfield 55, 3) := by decide +kernel
theorem dX6_length_22 : decode cX6_length 22 = .ok (.aload_n 0, 1) := by decide +kernel
theorem dX6_length_23 : decode cX6_length 23 = .ok (.getfield 19, 3) := by decide +kernel
theorem dX6_length_26 : decode cX6_length 26 = .ok (.iload_n 1, 1) := by decide +kernel
theorem dX6_length_27 : decode cX6_length 27 = .ok (.invokevirtual 229, 3) := by decide +kernel
theorem dX6_length_30 : decode cX6_length 30 = .ok (.invokevirtual 233, 3) := by decide +kernel
theorem dX6_length_33 : decode cX6_length 33 = .ok (.ireturn, 1) := by decide +kernel
theorem dX6_hub_0 : decode cX6_hub 0 = .ok (.aload_n 0, 1) := by decide +kernel
theorem dX6_hub_1 : decode cX6_hub 1 = .ok (.getfield 19, 3) := by decide +kernel
theorem dX6_hub_4 : decode cX6_hub 4 = .ok (.iload_n 1, 1) := by decide +kernel
theorem dX6_hub_5 : decode cX6_hub 5 = .ok (.invokevirtual 68, 3) := by decide +kernel
theorem dX6_hub_8 : decode cX6_hub 8 = .ok (.ifCond .ne 6, 3) := by decide +kernel
theorem dX6_hub_11 : decode cX6_hub 11 = .ok (.ldc 63, 2) := by decide +kernel
theorem dX6_hub_13 : decode cX6_hub 13 = .ok (.ireturn, 1) := by decide +kernel
theorem dX6_hub_14 : decode cX6_hub 14 = .ok (.aload_n 0, 1) := by decide +kernel
theorem dX6_hub_15 : decode cX6_hub 15 = .ok (.getfield 55, 3) := by decide +kernel
theorem dX6_hub_18 : decode cX6_hub 18 = .ok (.aload_n 0, 1) := by decide +kernel
theorem dX6_hub_19 : decode cX6_hub 19 = .ok (.getfield 19, 3) := by decide +kernel
theorem dX6_hub_22 : decode cX6_hub 22 = .ok (.iload_n 1, 1) := by decide +kernel
theorem dX6_hub_23 : decode cX6_hub 23 = .ok (.invokevirtual 236, 3) := by decide +kernel
theorem dX6_hub_26 : decode cX6_hub 26 = .ok (.aload_n 0, 1) := by decide +kernel
theorem dX6_hub_27 : decode cX6_hub 27 = .ok (.getfield 55, 3) := by decide +kernel
theorem dX6_hub_30 : decode cX6_hub 30 = .ok (.aload_n 0, 1) := by decide +kernel
theorem dX6_hub_31 : decode cX6_hub 31 = .ok (.getfield 19, 3) := by decide +kernel
theorem dX6_hub_34 : decode cX6_hub 34 = .ok (.iload_n 1, 1) := by decide +kernel
theorem dX6_hub_35 : decode cX6_hub 35 = .ok (.invokevirtual 229, 3) := by decide +kernel
theorem dX6_hub_38 : decode cX6_hub 38 = .ok (.iadd, 1) := by decide +kernel
theorem dX6_hub_39 : decode cX6_hub 39 = .ok (.bipush 64, 2) := by decide +kernel
theorem dX6_hub_41 : decode cX6_hub 41 = .ok (.invokestatic 239, 3) := by decide +kernel
theorem dX6_hub_44 : decode cX6_hub 44 = .ok (.ireturn, 1) := by decide +kernel
theorem dX6_crosses_0 : decode cX6_crosses 0 = .ok (.aload_n 0, 1) := by decide +kernel
theorem dX6_crosses_1 : decode cX6_crosses 1 = .ok (.getfield 19, 3) := by decide +kernel
theorem dX6_crosses_4 : decode cX6_crosses 4 = .ok (.iload_n 1, 1) := by decide +kernel
theorem dX6_crosses_5 : decode cX6_crosses 5 = .ok (.invokevirtual 68, 3) := by decide +kernel
theorem dX6_crosses_8 : decode cX6_crosses 8 = .ok (.ifCond .eq 19, 3) := by decide +kernel
theorem dX6_crosses_11 : decode cX6_crosses 11 = .ok (.aload_n 0, 1) := by decide +kernel
theorem dX6_crosses_12 : decode cX6_crosses 12 = .ok (.getfield 19, 3) := by decide +kernel
theorem dX6_crosses_15 : decode cX6_crosses 15 = .ok (.iload_n 2, 1) := by decide +kernel
theorem dX6_crosses_16 : decode cX6_crosses 16 = .ok (.invokevirtual 68, 3) := by decide +kernel
theorem dX6_crosses_19 : decode cX6_crosses 19 = .ok (.ifCond .eq 8, 3) := by decide +kernel
theorem dX6_crosses_22 : decode cX6_crosses 22 = .ok (.iload_n 1, 1) := by decide +kernel
theorem dX6_crosses_23 : decode cX6_crosses 23 = .ok (.iload_n 2, 1) := by decide +kernel
theorem dX6_crosses_24 : decode cX6_crosses 24 = .ok (.if_icmp .ne 6, 3) := by decide +kernel
theorem dX6_crosses_27 : decode cX6_crosses 27 = .ok (.ldc 63, 2) := by decide +kernel
theorem dX6_crosses_29 : decode cX6_crosses 29 = .ok (.ireturn, 1) := by decide +kernel
theorem dX6_crosses_30 : decode cX6_crosses 30 = .ok (.aload_n 0, 1) := by decide +kernel
theorem dX6_crosses_31 : decode cX6_crosses 31 = .ok (.getfield 55, 3) := by decide +kernel
theorem dX6_crosses_34 : decode cX6_crosses 34 = .ok (.aload_n 0, 1) := by decide +kernel
theorem dX6_crosses_35 : decode cX6_crosses 35 = .ok (.getfield 19, 3) := by decide +kernel
theorem dX6_crosses_38 : decode cX6_crosses 38 = .ok (.iload_n 1, 1) := by decide +kernel
theorem dX6_crosses_39 : decode cX6_crosses 39 = .ok (.iload_n 2, 1) := by decide +kernel
theorem dX6_crosses_40 : decode cX6_crosses 40 = .ok (.invokevirtual 242, 3) := by decide +kernel
theorem dX6_crosses_43 : decode cX6_crosses 43 = .ok (.invokestatic 138, 3) := by decide +kernel
theorem dX6_crosses_46 : decode cX6_crosses 46 = .ok (.ireturn, 1) := by decide +kernel
theorem dX6_crossings_0 : decode cX6_crossings 0 = .ok (.aload_n 0, 1) := by decide +kernel
theorem dX6_crossings_1 : decode cX6_crossings 1 = .ok (.getfield 19, 3) := by decide +kernel
theorem dX6_crossings_4 : decode cX6_crossings 4 = .ok (.iload_n 1, 1) := by decide +kernel
theorem dX6_crossings_5 : decode cX6_crossings 5 = .ok (.invokevirtual 68, 3) := by decide +kernel
theorem dX6_crossings_8 : decode cX6_crossings 8 = .ok (.ifCond .ne 6, 3) := by decide +kernel
theorem dX6_crossings_11 : decode cX6_crossings 11 = .ok (.ldc 63, 2) := by decide +kernel
theorem dX6_crossings_13 : decode cX6_crossings 13 = .ok (.ireturn, 1) := by decide +kernel
theorem dX6_crossings_14 : decode cX6_crossings 14 = .ok (.iconst 0, 1) := by decide +kernel
theorem dX6_crossings_15 : decode cX6_crossings 15 = .ok (.istore_n 2, 1) := by decide +kernel
theorem dX6_crossings_16 : decode cX6_crossings 16 = .ok (.iconst 0, 1) := by decide +kernel
theorem dX6_crossings_17 : decode cX6_crossings 17 = .ok (.istore_n 3, 1) := by decide +kernel
theorem dX6_crossings_18 : decode cX6_crossings 18 = .ok (.iload_n 3, 1) := by decide +kernel
theorem dX6_crossings_19 : decode cX6_crossings 19 = .ok (.aload_n 0, 1) := by decide +kernel
theorem dX6_crossings_20 : decode cX6_crossings 20 = .ok (.getfield 19, 3) := by decide +kernel
theorem dX6_crossings_23 : decode cX6_crossings 23 = .ok (.getfield 203, 3) := by decide +kernel
theorem dX6_crossings_26 : decode cX6_crossings 26 = .ok (.if_icmp .ge 33, 3) := by decide +kernel
theorem dX6_crossings_29 : decode cX6_crossings 29 = .ok (.iload_n 3, 1) := by decide +kernel
theorem dX6_crossings_30 : decode cX6_crossings 30 = .ok (.iload_n 1, 1) := by decide +kernel
theorem dX6_crossings_31 : decode cX6_crossings 31 = .ok (.if_icmp .eq 22, 3) := by decide +kernel
theorem dX6_crossings_34 : decode cX6_crossings 34 = .ok (.aload_n 0, 1) := by decide +kernel
theorem dX6_crossings_35 : decode cX6_crossings 35 = .ok (.getfield 55, 3) := by decide +kernel
theorem dX6_crossings_38 : decode cX6_crossings 38 = .ok (.aload_n 0, 1) := by decide +kernel
theorem dX6_crossings_39 : decode cX6_crossings 39 = .ok (.getfield 19, 3) := by decide +kernel
theorem dX6_crossings_42 : decode cX6_crossings 42 = .ok (.iload_n 1, 1) := by decide +kernel
theorem dX6_crossings_43 : decode cX6_crossings 43 = .ok (.iload_n 3, 1) := by decide +kernel
theorem dX6_crossings_44 : decode cX6_crossings 44 = .ok (.invokevirtual 242, 3) := by decide +kernel
theorem dX6_crossings_47 : decode cX6_crossings 47 = .ok (.ifCond .eq 6, 3) := by decide +kernel
theorem dX6_crossings_50 : decode cX6_crossings 50 = .ok (.iinc 2 1, 3) := by decide +kernel
theorem dX6_crossings_53 : decode cX6_crossings 53 = .ok (.iinc 3 1, 3) := by decide +kernel
theorem dX6_crossings_56 : decode cX6_crossings 56 = .ok (.goto (-38), 3) := by decide +kernel
theorem dX6_crossings_59 : decode cX6_crossings 59 = .ok (.iload_n 2, 1) := by decide +kernel
theorem dX6_crossings_60 : decode cX6_crossings 60 = .ok (.ireturn, 1) := by decide +kernel
theorem dX6_count_0 : decode cX6_count 0 = .ok (.iload_n 1, 1) := by decide +kernel
theorem dX6_count_1 : decode cX6_count 1 = .ok (.tableswitch 89 0 5 #[39, 47, 55, 63, 71, 80], 39) := by decide +kernel
theorem dX6_count_40 : decode cX6_count 40 = .ok (.aload_n 0, 1) := by decide +kernel
theorem dX6_count_41 : decode cX6_count 41 = .ok (.getfield 19, 3) := by decide +kernel
theorem dX6_count_44 : decode cX6_count 44 = .ok (.getfield 203, 3) := by decide +kernel
theorem dX6_count_47 : decode cX6_count 47 = .ok (.ireturn, 1) := by decide +kernel
theorem dX6_count_48 : decode cX6_count 48 = .ok (.aload_n 0, 1) := by decide +kernel
theorem dX6_count_49 : decode cX6_count 49 = .ok (.getfield 19, 3) := by decide +kernel
theorem dX6_count_52 : decode cX6_count 52 = .ok (.invokevirtual 246, 3) := by decide +kernel
theorem dX6_count_55 : decode cX6_count 55 = .ok (.ireturn, 1) := by decide +kernel
theorem dX6_count_56 : decode cX6_count 56 = .ok (.aload_n 0, 1) := by decide +kernel
theorem dX6_count_57 : decode cX6_count 57 = .ok (.getfield 48, 3) := by decide +kernel
theorem dX6_count_60 : decode cX6_count 60 = .ok (.getfield 64, 3) := by decide +kernel
theorem dX6_count_63 : decode cX6_count 63 = .ok (.ireturn, 1) := by decide +kernel
theorem dX6_count_64 : decode cX6_count 64 = .ok (.aload_n 0, 1) := by decide +kernel
theorem dX6_count_65 : decode cX6_count 65 = .ok (.getfield 48, 3) := by decide +kernel
theorem dX6_count_68 : decode cX6_count 68 = .ok (.invokevirtual 249, 3) := by decide +kernel
theorem dX6_count_71 : decode cX6_count 71 = .ok (.ireturn, 1) := by decide +kernel
theorem dX6_count_72 : decode cX6_count 72 = .ok (.aload_n 0, 1) := by decide +kernel
theorem dX6_count_73 : decode cX6_count 73 = .ok (.getfield 19, 3) := by decide +kernel
theorem dX6_count_76 : decode cX6_count 76 = .ok (.iconst 0, 1) := by decide +kernel
theorem dX6_count_77 : decode cX6_count 77 = .ok (.invokevirtual 252, 3) := by decide +kernel
theorem dX6_count_80 : decode cX6_count 80 = .ok (.ireturn, 1) := by decide +kernel
theorem dX6_count_81 : decode cX6_count 81 = .ok (.aload_n 0, 1) := by decide +kernel
theorem dX6_count_82 : decode cX6_count 82 = .ok (.getfield 19, 3) := by decide +kernel
theorem dX6_count_85 : decode cX6_count 85 = .ok (.iconst 1, 1) := by decide +kernel
theorem dX6_count_86 : decode cX6_count 86 = .ok (.invokevirtual 252, 3) := by decide +kernel
theorem dX6_count_89 : decode cX6_count 89 = .ok (.ireturn, 1) := by decide +kernel
theorem dX6_count_90 : decode cX6_count 90 = .ok (.ldc 63, 2) := by decide +kernel
theorem dX6_count_92 : decode cX6_count 92 = .ok (.ireturn, 1) := by decide +kernel
theorem dX6_lies_0 : decode cX6_lies 0 = .ok (.iload_n 0, 1) := by decide +kernel
theorem dX6_lies_1 : decode cX6_lies 1 = .ok (.iload_n 1, 1) := by decide +kernel
theorem dX6_lies_2 : decode cX6_lies 2 = .ok (.if_icmp .lt 12, 3) := by decide +kernel
theorem dX6_lies_5 : decode cX6_lies 5 = .ok (.iload_n 0, 1) := by decide +kernel
theorem dX6_lies_6 : decode cX6_lies 6 = .ok (.iload_n 2, 1) := by decide +kernel
theorem dX6_lies_7 : decode cX6_lies 7 = .ok (.if_icmp .gt 7, 3) := by decide +kernel
theorem dX6_lies_10 : decode cX6_lies 10 = .ok (.iconst 1, 1) := by decide +kernel
theorem dX6_lies_11 : decode cX6_lies 11 = .ok (.goto 4, 3) := by decide +kernel
theorem dX6_lies_14 : decode cX6_lies 14 = .ok (.iconst 0, 1) := by decide +kernel
theorem dX6_lies_15 : decode cX6_lies 15 = .ok (.ireturn, 1) := by decide +kernel
theorem dX6_isTable_0 : decode cX6_isTable 0 = .ok (.iload_n 0, 1) := by decide +kernel
theorem dX6_isTable_1 : decode cX6_isTable 1 = .ok (.iconst 0, 1) := by decide +kernel
theorem dX6_isTable_2 : decode cX6_isTable 2 = .ok (.iconst 5, 1) := by decide +kernel
theorem dX6_isTable_3 : decode cX6_isTable 3 = .ok (.invokestatic 85, 3) := by decide +kernel
theorem dX6_isTable_6 : decode cX6_isTable 6 = .ok (.ireturn, 1) := by decide +kernel
theorem dX6_isRow_0 : decode cX6_isRow 0 = .ok (.iload_n 0, 1) := by decide +kernel
theorem dX6_isRow_1 : decode cX6_isRow 1 = .ok (.iconst 0, 1) := by decide +kernel
theorem dX6_isRow_2 : decode cX6_isRow 2 = .ok (.iconst 1, 1) := by decide +kernel
theorem dX6_isRow_3 : decode cX6_isRow 3 = .ok (.invokestatic 85, 3) := by decide +kernel
theorem dX6_isRow_6 : decode cX6_isRow 6 = .ok (.ireturn, 1) := by decide +kernel
theorem dX6_canBePut_0 : decode cX6_canBePut 0 = .ok (.iload_n 0, 1) := by decide +kernel
theorem dX6_canBePut_1 : decode cX6_canBePut 1 = .ok (.iconst 0, 1) := by decide +kernel
theorem dX6_canBePut_2 : decode cX6_canBePut 2 = .ok (.iconst 5, 1) := by decide +kernel
theorem dX6_canBePut_3 : decode cX6_canBePut 3 = .ok (.invokestatic 85, 3) := by decide +kernel
theorem dX6_canBePut_6 : decode cX6_canBePut 6 = .ok (.ifCond .eq 12, 3) := by decide +kernel
theorem dX6_canBePut_9 : decode cX6_canBePut 9 = .ok (.iload_n 0, 1) := by decide +kernel
theorem dX6_canBePut_10 : decode cX6_canBePut 10 = .ok (.iconst 4, 1) := by decide +kernel
theorem dX6_canBePut_11 : decode cX6_canBePut 11 = .ok (.if_icmp .eq 7, 3) := by decide +kernel
theorem dX6_canBePut_14 : decode cX6_canBePut 14 = .ok (.iconst 1, 1) := by decide +kernel
theorem dX6_canBePut_15 : decode cX6_canBePut 15 = .ok (.goto 4, 3) := by decide +kernel
theorem dX6_canBePut_18 : decode cX6_canBePut 18 = .ok (.iconst 0, 1) := by decide +kernel
theorem dX6_canBePut_19 : decode cX6_canBePut 19 = .ok (.ireturn, 1) := by decide +kernel
theorem dX6_asNumber_0 : decode cX6_asNumber 0 = .ok (.iload_n 0, 1) := by decide +kernel
theorem dX6_asNumber_1 : decode cX6_asNumber 1 = .ok (.ifCond .eq 7, 3) := by decide +kernel
theorem dX6_asNumber_4 : decode cX6_asNumber 4 = .ok (.iconst 1, 1) := by decide +kernel
theorem dX6_asNumber_5 : decode cX6_asNumber 5 = .ok (.goto 4, 3) := by decide +kernel
theorem dX6_asNumber_8 : decode cX6_asNumber 8 = .ok (.iconst 0, 1) := by decide +kernel
theorem dX6_asNumber_9 : decode cX6_asNumber 9 = .ok (.ireturn, 1) := by decide +kernel
theorem dX6_pullAfterBreak_0 : decode cX6_pullAfterBreak 0 = .ok (.aload_n 0, 1) := by decide +kernel
theorem dX6_pullAfterBreak_1 : decode cX6_pullAfterBreak 1 = .ok (.getfield 19, 3) := by decide +kernel
theorem dX6_pullAfterBreak_4 : decode cX6_pullAfterBreak 4 = .ok (.getfield 125, 3) := by decide +kernel
theorem dX6_pullAfterBreak_7 : decode cX6_pullAfterBreak 7 = .ok (.iload_n 1, 1) := by decide +kernel
theorem dX6_pullAfterBreak_8 : decode cX6_pullAfterBreak 8 = .ok (.iaload, 1) := by decide +kernel
theorem dX6_pullAfterBreak_9 : decode cX6_pullAfterBreak 9 = .ok (.i2l, 1) := by decide +kernel
theorem dX6_pullAfterBreak_10 : decode cX6_pullAfterBreak 10 = .ok (.aload_n 0, 1) := by decide +kernel
theorem dX6_pullAfterBreak_11 : decode cX6_pullAfterBreak 11 = .ok (.getfield 10, 3) := by decide +kernel
theorem dX6_pullAfterBreak_14 : decode cX6_pullAfterBreak 14 = .ok (.getfield 106, 3) := by decide +kernel
theorem dX6_pullAfterBreak_17 : decode cX6_pullAfterBreak 17 = .ok (.iconst 4, 1) := by decide +kernel
theorem dX6_pullAfterBreak_18 : decode cX6_pullAfterBreak 18 = .ok (.aaload, 1) := by decide +kernel
theorem dX6_pullAfterBreak_19 : decode cX6_pullAfterBreak 19 = .ok (.aload_n 0, 1) := by decide +kernel
theorem dX6_pullAfterBreak_20 : decode cX6_pullAfterBreak 20 = .ok (.getfield 19, 3) := by decide +kernel
theorem dX6_pullAfterBreak_23 : decode cX6_pullAfterBreak 23 = .ok (.iload_n 1, 1) := by decide +kernel
theorem dX6_pullAfterBreak_24 : decode cX6_pullAfterBreak 24 = .ok (.iload_n 2, 1) := by decide +kernel
theorem dX6_pullAfterBreak_25 : decode cX6_pullAfterBreak 25 = .ok (.invokevirtual 255, 3) := by decide +kernel
theorem dX6_pullAfterBreak_28 : decode cX6_pullAfterBreak 28 = .ok (.iaload, 1) := by decide +kernel
theorem dX6_pullAfterBreak_29 : decode cX6_pullAfterBreak 29 = .ok (.i2l, 1) := by decide +kernel
theorem dX6_pullAfterBreak_30 : decode cX6_pullAfterBreak 30 = .ok (.lmul, 1) := by decide +kernel
theorem dX6_pullAfterBreak_31 : decode cX6_pullAfterBreak 31 = .ok (.lstore_n 3, 1) := by decide +kernel
theorem dX6_pullAfterBreak_32 : decode cX6_pullAfterBreak 32 = .ok (.aload_n 0, 1) := by decide +kernel
theorem dX6_pullAfterBreak_33 : decode cX6_pullAfterBreak 33 = .ok (.getfield 19, 3) := by decide +kernel
theorem dX6_pullAfterBreak_36 : decode cX6_pullAfterBreak 36 = .ok (.getfield 125, 3) := by decide +kernel
theorem dX6_pullAfterBreak_39 : decode cX6_pullAfterBreak 39 = .ok (.iload_n 2, 1) := by decide +kernel
theorem dX6_pullAfterBreak_40 : decode cX6_pullAfterBreak 40 = .ok (.iaload, 1) := by decide +kernel
theorem dX6_pullAfterBreak_41 : decode cX6_pullAfterBreak 41 = .ok (.i2l, 1) := by decide +kernel
theorem dX6_pullAfterBreak_42 : decode cX6_pullAfterBreak 42 = .ok (.lload_n 3, 1) := by decide +kernel
theorem dX6_pullAfterBreak_43 : decode cX6_pullAfterBreak 43 = .ok (.ldc2_w 258, 3) := by decide +kernel
theorem dX6_pullAfterBreak_46 : decode cX6_pullAfterBreak 46 = .ok (.invokestatic 260, 3) := by decide +kernel
theorem dX6_pullAfterBreak_49 : decode cX6_pullAfterBreak 49 = .ok (.ladd, 1) := by decide +kernel
theorem dX6_pullAfterBreak_50 : decode cX6_pullAfterBreak 50 = .ok (.lreturn, 1) := by decide +kernel
theorem dX6_breaksTooMuch_0 : decode cX6_breaksTooMuch 0 = .ok (.iconst 0, 1) := by decide +kernel
theorem dX6_breaksTooMuch_1 : decode cX6_breaksTooMuch 1 = .ok (.istore_n 2, 1) := by decide +kernel
theorem dX6_breaksTooMuch_2 : decode cX6_breaksTooMuch 2 = .ok (.iload_n 2, 1) := by decide +kernel
theorem dX6_breaksTooMuch_3 : decode cX6_breaksTooMuch 3 = .ok (.aload_n 0, 1) := by decide +kernel
theorem dX6_breaksTooMuch_4 : decode cX6_breaksTooMuch 4 = .ok (.getfield 19, 3) := by decide +kernel
theorem dX6_breaksTooMuch_7 : decode cX6_breaksTooMuch 7 = .ok (.getfield 203, 3) := by decide +kernel
theorem dX6_breaksTooMuch_10 : decode cX6_breaksTooMuch 10 = .ok (.if_icmp .ge 43, 3) := by decide +kernel
theorem dX6_breaksTooMuch_13 : decode cX6_breaksTooMuch 13 = .ok (.iload_n 2, 1) := by decide +kernel
theorem dX6_breaksTooMuch_14 : decode cX6_breaksTooMuch 14 = .ok (.iload_n 1, 1) := by decide +kernel
theorem dX6_breaksTooMuch_15 : decode cX6_breaksTooMuch 15 = .ok (.if_icmp .eq 32, 3) := by decide +kernel
theorem dX6_breaksTooMuch_18 : decode cX6_breaksTooMuch 18 = .ok (.aload_n 0, 1) := by decide +kernel
theorem dX6_breaksTooMuch_19 : decode cX6_breaksTooMuch 19 = .ok (.getfield 19, 3) := by decide +kernel
theorem dX6_breaksTooMuch_22 : decode cX6_breaksTooMuch 22 = .ok (.iload_n 2, 1) := by decide +kernel
theorem dX6_breaksTooMuch_23 : decode cX6_breaksTooMuch 23 = .ok (.invokevirtual 75, 3) := by decide +kernel
theorem dX6_breaksTooMuch_26 : decode cX6_breaksTooMuch 26 = .ok (.ifCond .ne 21, 3) := by decide +kernel
theorem dX6_breaksTooMuch_29 : decode cX6_breaksTooMuch 29 = .ok (.aload_n 0, 1) := by decide +kernel
theorem dX6_breaksTooMuch_30 : decode cX6_breaksTooMuch 30 = .ok (.iload_n 1, 1) := by decide +kernel
theorem dX6_breaksTooMuch_31 : decode cX6_breaksTooMuch 31 = .ok (.iload_n 2, 1) := by decide +kernel
theorem dX6_breaksTooMuch_32 : decode cX6_breaksTooMuch 32 = .ok (.invokevirtual 206, 3) := by decide +kernel
theorem dX6_breaksTooMuch_35 : decode cX6_breaksTooMuch 35 = .ok (.invokestatic 264, 3) := by decide +kernel
theorem dX6_breaksTooMuch_38 : decode cX6_breaksTooMuch 38 = .ok (.ldc2_w 268, 3) := by decide +kernel
theorem dX6_breaksTooMuch_41 : decode cX6_breaksTooMuch 41 = .ok (.lcmp, 1) := by decide +kernel
theorem dX6_breaksTooMuch_42 : decode cX6_breaksTooMuch 42 = .ok (.ifCond .le 5, 3) := by decide +kernel
theorem dX6_breaksTooMuch_45 : decode cX6_breaksTooMuch 45 = .ok (.iconst 1, 1) := by decide +kernel
theorem dX6_breaksTooMuch_46 : decode cX6_breaksTooMuch 46 = .ok (.ireturn, 1) := by decide +kernel
theorem dX6_breaksTooMuch_47 : decode cX6_breaksTooMuch 47 = .ok (.iinc 2 1, 3) := by decide +kernel
theorem dX6_breaksTooMuch_50 : decode cX6_breaksTooMuch 50 = .ok (.goto (-48), 3) := by decide +kernel
theorem dX6_breaksTooMuch_53 : decode cX6_breaksTooMuch 53 = .ok (.iconst 0, 1) := by decide +kernel
theorem dX6_breaksTooMuch_54 : decode cX6_breaksTooMuch 54 = .ok (.ireturn, 1) := by decide +kernel
theorem dX6_pullUnder_0 : decode cX6_pullUnder 0 = .ok (.aload_n 0, 1) := by decide +kernel
theorem dX6_pullUnder_1 : decode cX6_pullUnder 1 = .ok (.getfield 19, 3) := by decide +kernel
theorem dX6_pullUnder_4 : decode cX6_pullUnder 4 = .ok (.iload_n 3, 1) := by decide +kernel
theorem dX6_pullUnder_5 : decode cX6_pullUnder 5 = .ok (.invokevirtual 75, 3) := by decide +kernel
theorem dX6_pullUnder_8 : decode cX6_pullUnder 8 = .ok (.ifCond .eq 5, 3) := by decide +kernel
theorem dX6_pullUnder_11 : decode cX6_pullUnder 11 = .ok (.iconst 0, 1) := by decide +kernel
theorem dX6_pullUnder_12 : decode cX6_pullUnder 12 = .ok (.ireturn, 1) := by decide +kernel
theorem dX6_pullUnder_13 : decode cX6_pullUnder 13 = .ok (.aload_n 0, 1) := by decide +kernel
theorem dX6_pullUnder_14 : decode cX6_pullUnder 14 = .ok (.getfield 19, 3) := by decide +kernel
theorem dX6_pullUnder_17 : decode cX6_pullUnder 17 = .ok (.getfield 125, 3) := by decide +kernel
theorem dX6_pullUnder_20 : decode cX6_pullUnder 20 = .ok (.iload_n 3, 1) := by decide +kernel
theorem dX6_pullUnder_21 : decode cX6_pullUnder 21 = .ok (.iaload, 1) := by decide +kernel
theorem dX6_pullUnder_22 : decode cX6_pullUnder 22 = .ok (.iload_n 1, 1) := by decide +kernel
theorem dX6_pullUnder_23 : decode cX6_pullUnder 23 = .ok (.aload_n 0, 1) := by decide +kernel
theorem dX6_pullUnder_24 : decode cX6_pullUnder 24 = .ok (.getfield 10, 3) := by decide +kernel
theorem dX6_pullUnder_27 : decode cX6_pullUnder 27 = .ok (.getfield 106, 3) := by decide +kernel
theorem dX6_pullUnder_30 : decode cX6_pullUnder 30 = .ok (.iconst 5, 1) := by decide +kernel
theorem dX6_pullUnder_31 : decode cX6_pullUnder 31 = .ok (.aaload, 1) := by decide +kernel
theorem dX6_pullUnder_32 : decode cX6_pullUnder 32 = .ok (.aload_n 0, 1) := by decide +kernel
theorem dX6_pullUnder_33 : decode cX6_pullUnder 33 = .ok (.getfield 19, 3) := by decide +kernel
theorem dX6_pullUnder_36 : decode cX6_pullUnder 36 = .ok (.iload_n 2, 1) := by decide +kernel
theorem dX6_pullUnder_37 : decode cX6_pullUnder 37 = .ok (.iload_n 3, 1) := by decide +kernel
theorem dX6_pullUnder_38 : decode cX6_pullUnder 38 = .ok (.invokevirtual 255, 3) := by decide +kernel
theorem dX6_pullUnder_41 : decode cX6_pullUnder 41 = .ok (.iaload, 1) := by decide +kernel
theorem dX6_pullUnder_42 : decode cX6_pullUnder 42 = .ok (.imul, 1) := by decide +kernel
theorem dX6_pullUnder_43 : decode cX6_pullUnder 43 = .ok (.sipush 1000, 3) := by decide +kernel
theorem dX6_pullUnder_46 : decode cX6_pullUnder 46 = .ok (.invokestatic 270, 3) := by decide +kernel
theorem dX6_pullUnder_49 : decode cX6_pullUnder 49 = .ok (.isub, 1) := by decide +kernel
theorem dX6_pullUnder_50 : decode cX6_pullUnder 50 = .ok (.ireturn, 1) := by decide +kernel
theorem dX6_howManyLooseUnder_0 : decode cX6_howManyLooseUnder 0 = .ok (.iconst 0, 1) := by decide +kernel
theorem dX6_howManyLooseUnder_1 : decode cX6_howManyLooseUnder 1 = .ok (.istore_n 3, 1) := by decide +kernel
theorem dX6_howManyLooseUnder_2 : decode cX6_howManyLooseUnder 2 = .ok (.iconst 0, 1) := by decide +kernel
theorem dX6_howManyLooseUnder_3 : decode cX6_howManyLooseUnder 3 = .ok (.istore 4, 2) := by decide +kernel
theorem dX6_howManyLooseUnder_5 : decode cX6_howManyLooseUnder 5 = .ok (.iload 4, 2) := by decide +kernel
theorem dX6_howManyLooseUnder_7 : decode cX6_howManyLooseUnder 7 = .ok (.aload_n 0, 1) := by decide +kernel
theorem dX6_howManyLooseUnder_8 : decode cX6_howManyLooseUnder 8 = .ok (.getfield 19, 3) := by decide +kernel
theorem dX6_howManyLooseUnder_11 : decode cX6_howManyLooseUnder 11 = .ok (.getfield 203, 3) := by decide +kernel
theorem dX6_howManyLooseUnder_14 : decode cX6_howManyLooseUnder 14 = .ok (.if_icmp .ge 23, 3) := by decide +kernel
theorem dX6_howManyLooseUnder_17 : decode cX6_howManyLooseUnder 17 = .ok (.aload_n 0, 1) := by decide +kernel
theorem dX6_howManyLooseUnder_18 : decode cX6_howManyLooseUnder 18 = .ok (.iload_n 1, 1) := by decide +kernel
theorem dX6_howManyLooseUnder_19 : decode cX6_howManyLooseUnder 19 = .ok (.iload_n 2, 1) := by decide +kernel
theorem dX6_howManyLooseUnder_20 : decode cX6_howManyLooseUnder 20 = .ok (.iload 4, 2) := by decide +kernel
theorem dX6_howManyLooseUnder_22 : decode cX6_howManyLooseUnder 22 = .ok (.invokevirtual 210, 3) := by decide +kernel
theorem dX6_howManyLooseUnder_25 : decode cX6_howManyLooseUnder 25 = .ok (.ifCond .ge 6, 3) := by decide +kernel
theorem dX6_howManyLooseUnder_28 : decode cX6_howManyLooseUnder 28 = .ok (.iinc 3 1, 3) := by decide +kernel
theorem dX6_howManyLooseUnder_31 : decode cX6_howManyLooseUnder 31 = .ok (.iinc 4 1, 3) := by decide +kernel
theorem dX6_howManyLooseUnder_34 : decode cX6_howManyLooseUnder 34 = .ok (.goto (-29), 3) := by decide +kernel
theorem dX6_howManyLooseUnder_37 : decode cX6_howManyLooseUnder 37 = .ok (.iload_n 3, 1) := by decide +kernel
theorem dX6_howManyLooseUnder_38 : decode cX6_howManyLooseUnder 38 = .ok (.ireturn, 1) := by decide +kernel
end
section
theorem dX7_init_0 : decode cX7_init 0 = .ok (.aload_n 0, 1) := by decide +kernel
theorem dX7_init_1 : decode cX7_init 1 = .ok (.invokespecial 1, 3) := by decide +kernel
theorem dX7_init_4 : decode cX7_init 4 = .ok (.aload_n 0, 1) := by decide +kernel
theorem dX7_init_5 : decode cX7_init 5 = .ok (.bipush 32, 2) := by decide +kernel
theorem dX7_init_7 : decode cX7_init 7 = .ok (.newarray .int, 2) := by decide +kernel
theorem dX7_init_9 : decode cX7_init 9 = .ok (.putfield 7, 3) := by decide +kernel
theorem dX7_init_12 : decode cX7_init 12 = .ok (.aload_n 0, 1) := by decide +kernel
theorem dX7_init_13 : decode cX7_init 13 = .ok (.bipush 32, 2) := by decide +kernel
theorem dX7_init_15 : decode cX7_init 15 = .ok (.newarray .long, 2) := by decide +kernel
theorem dX7_init_17 : decode cX7_init 17 = .ok (.putfield 13, 3) := by decide +kernel
theorem dX7_init_20 : decode cX7_init 20 = .ok (.aload_n 0, 1) := by decide +kernel
theorem dX7_init_21 : decode cX7_init 21 = .ok (.bipush 64, 2) := by decide +kernel
theorem dX7_init_23 : decode cX7_init 23 = .ok (.newarray .long, 2) := by decide +kernel
theorem dX7_init_25 : decode cX7_init 25 = .ok (.putfield 17, 3) := by decide +kernel
theorem dX7_init_28 : decode cX7_init 28 = .ok (.aload_n 0, 1) := by decide +kernel
theorem dX7_init_29 : decode cX7_init 29 = .ok (.bipush 64, 2) := by decide +kernel
theorem dX7_init_31 : decode cX7_init 31 = .ok (.newarray .int, 2) := by decide +kernel
theorem dX7_init_33 : decode cX7_init 33 = .ok (.putfield 20, 3) := by decide +kernel
theorem dX7_init_36 : decode cX7_init 36 = .ok (.aload_n 0, 1) := by decide +kernel
theorem dX7_init_37 : decode cX7_init 37 = .ok (.bipush 6, 2) := by decide +kernel
theorem dX7_init_39 : decode cX7_init 39 = .ok (.newarray .int, 2) := by decide +kernel
theorem dX7_init_41 : decode cX7_init 41 = .ok (.putfield 23, 3) := by decide +kernel
theorem dX7_init_44 : decode cX7_init 44 = .ok (.aload_n 0, 1) := by decide +kernel
theorem dX7_init_45 : decode cX7_init 45 = .ok (.bipush 102, 2) := by decide +kernel
theorem dX7_init_47 : decode cX7_init 47 = .ok (.newarray .int, 2) := by decide +kernel
theorem dX7_init_49 : decode cX7_init 49 = .ok (.putfield 26, 3) := by decide +kernel
theorem dX7_init_52 : decode cX7_init 52 = .ok (.aload_n 0, 1) := by decide +kernel
theorem dX7_init_53 : decode cX7_init 53 = .ok (.iconst 5, 1) := by decide +kernel
theorem dX7_init_54 : decode cX7_init 54 = .ok (.newarray .int, 2) := by decide +kernel
theorem dX7_init_56 : decode cX7_init 56 = .ok (.putfield 29, 3) := by decide +kernel
theorem dX7_init_59 : decode cX7_init 59 = .ok (.aload_n 0, 1) := by decide +kernel
theorem dX7_init_60 : decode cX7_init 60 = .ok (.bipush 120, 2) := by decide +kernel
theorem dX7_init_62 : decode cX7_init 62 = .ok (.newarray .int, 2) := by decide +kernel
theorem dX7_init_64 : decode cX7_init 64 = .ok (.putfield 32, 3) := by decide +kernel
theorem dX7_init_67 : decode cX7_init 67 = .ok (.aload_n 0, 1) := by decide +kernel
theorem dX7_init_68 : decode cX7_init 68 = .ok (.bipush 20, 2) := by decide +kernel
theorem dX7_init_70 : decode cX7_init 70 = .ok (.putfield 35, 3) := by decide +kernel
theorem dX7_init_73 : decode cX7_init 73 = .ok (.aload_n 0, 1) := by decide +kernel
theorem dX7_init_74 : decode cX7_init 74 = .ok (.bipush 30, 2) := by decide +kernel
theorem dX7_init_76 : decode cX7_init 76 = .ok (.putfield 39, 3) := by decide +kernel
theorem dX7_init_79 : decode cX7_init 79 = .ok (.aload_n 0, 1) := by decide +kernel
theorem dX7_init_80 : decode cX7_init 80 = .ok (.sipush 300, 3) := by decide +kernel
theorem dX7_init_83 : decode cX7_init 83 = .ok (.putfield 42, 3) := by decide +kernel
theorem dX7_init_86 : decode cX7_init 86 = .ok (.aload_n 0, 1) := by decide +kernel
theorem dX7_init_87 : decode cX7_init 87 = .ok (.iconst 3, 1) := by decide +kernel
theorem dX7_init_88 : decode cX7_init 88 = .ok (.putfield 45, 3) := by decide +kernel
theorem dX7_init_91 : decode cX7_init 91 = .ok (.aload_n 0, 1) := by decide +kernel
theorem dX7_init_92 : decode cX7_init 92 = .ok (.bipush 64, 2) := by decide +kernel
theorem dX7_init_94 : decode cX7_init 94 = .ok (.newarray .long, 2) := by decide +kernel
theorem dX7_init_96 : decode cX7_init 96 = .ok (.putfield 48, 3) := by decide +kernel
theorem dX7_init_99 : decode cX7_init 99 = .ok (.aload_n 0, 1) := by decide +kernel
theorem dX7_init_100 : decode cX7_init 100 = .ok (.sipush 192, 3) := by decide +kernel
theorem dX7_init_103 : decode cX7_init 103 = .ok (.newarray .long, 2) := by decide +kernel
theorem dX7_init_105 : decode cX7_init 105 = .ok (.putfield 51, 3) := by decide +kernel
theorem dX7_init_108 : decode cX7_init 108 = .ok (.iconst 0, 1) := by decide +kernel
theorem dX7_init_109 : decode cX7_init 109 = .ok (.istore_n 1, 1) := by decide +kernel
theorem dX7_init_110 : decode cX7_init 110 = .ok (.iload_n 1, 1) := by decide +kernel
theorem dX7_init_111 : decode cX7_init 111 = .ok (.bipush 6, 2) := by decide +kernel
theorem dX7_init_113 : decode cX7_init 113 = .ok (.if_icmp .ge 16, 3) := by decide +kernel
theorem dX7_init_116 : decode cX7_init 116 = .ok (.aload_n 0, 1) := by decide +kernel
theorem dX7_init_117 : decode cX7_init 117 = .ok (.getfield 23, 3) := by decide +kernel
theorem dX7_init_120 : decode cX7_init 120 = .ok (.iload_n 1, 1) := by decide +kernel
theorem dX7_init_121 : decode cX7_init 121 = .ok (.iconst (-1), 1) := by decide +kernel
theorem dX7_init_122 : decode cX7_init 122 = .ok (.iastore, 1) := by decide +kernel
theorem dX7_init_123 : decode cX7_init 123 = .ok (.iinc 1 1, 3) := by decide +kernel
theorem dX7_init_126 : decode cX7_init 126 = .ok (.goto (-16), 3) := by decide +kernel
theorem dX7_init_129 : decode cX7_init 129 = .ok (.iconst 0, 1) := by decide +kernel
theorem dX7_init_130 : decode cX7_init 130 = .ok (.istore_n 1, 1) := by decide +kernel
theorem dX7_init_131 : decode cX7_init 131 = .ok (.iload_n 1, 1) := by decide +kernel
theorem dX7_init_132 : decode cX7_init 132 = .ok (.iconst 5, 1) := by decide +kernel
theorem dX7_init_133 : decode cX7_init 133 = .ok (.if_icmp .ge 28, 3) := by decide +kernel
theorem dX7_init_136 : decode cX7_init 136 = .ok (.aload_n 0, 1) := by decide +kernel
theorem dX7_init_137 : decode cX7_init 137 = .ok (.getfield 29, 3) := by decide +kernel
theorem dX7_init_140 : decode cX7_init 140 = .ok (.iload_n 1, 1) := by decide +kernel
theorem dX7_init_141 : decode cX7_init 141 = .ok (.iload_n 1, 1) := by decide +kernel
theorem dX7_init_142 : decode cX7_init 142 = .ok (.iconst 4, 1) := by decide +kernel
theorem dX7_init_143 : decode cX7_init 143 = .ok (.if_icmp .ne 9, 3) := by decide +kernel
theorem dX7_init_146 : decode cX7_init 146 = .ok (.sipush 1000, 3) := by decide +kernel
theorem dX7_init_149 : decode cX7_init 149 = .ok (.goto 5, 3) := by decide +kernel
theorem dX7_init_152 : decode cX7_init 152 = .ok (.bipush 100, 2) := by decide +kernel
theorem dX7_init_154 : decode cX7_init 154 = .ok (.iastore, 1) := by decide +kernel
theorem dX7_init_155 : decode cX7_init 155 = .ok (.iinc 1 1, 3) := by decide +kernel
theorem dX7_init_158 : decode cX7_init 158 = .ok (.goto (-27), 3) := by decide +kernel
theorem dX7_init_161 : decode cX7_init 161 = .ok (.aload_n 0, 1) := by decide +kernel
theorem dX7_init_162 : decode cX7_init 162 = .ok (.bipush 8, 2) := by decide +kernel
theorem dX7_init_164 : decode cX7_init 164 = .ok (.invokevirtual 54, 3) := by decide +kernel
theorem dX7_init_167 : decode cX7_init 167 = .ok (.return_, 1) := by decide +kernel
theorem dX7_begin_0 : decode cX7_begin 0 = .ok (.aload_n 0, 1) := by decide +kernel
theorem dX7_begin_1 : decode cX7_begin 1 = .ok (.iload_n 1, 1) := by decide +kernel
theorem dX7_begin_2 : decode cX7_begin 2 = .ok (.putfield 58, 3) := by decide +kernel
theorem dX7_begin_5 : decode cX7_begin 5 = .ok (.aload_n 0, 1) := by decide +kernel
theorem dX7_begin_6 : decode cX7_begin 6 = .ok (.iconst 0, 1) := by decide +kernel
theorem dX7_begin_7 : decode cX7_begin 7 = .ok (.putfield 61, 3) := by decide +kernel
theorem dX7_begin_10 : decode cX7_begin 10 = .ok (.iconst 0, 1) := by decide +kernel
theorem dX7_begin_11 : decode cX7_begin 11 = .ok (.istore_n 2, 1) := by decide +kernel
theorem dX7_begin_12 : decode cX7_begin 12 = .ok (.iload_n 2, 1) := by decide +kernel
theorem dX7_begin_13 : decode cX7_begin 13 = .ok (.bipush 32, 2) := by decide +kernel
theorem dX7_begin_15 : decode cX7_begin 15 = .ok (.if_icmp .ge 78, 3) := by decide +kernel
theorem dX7_begin_18 : decode cX7_begin 18 = .ok (.aload_n 0, 1) := by decide +kernel
theorem dX7_begin_19 : decode cX7_begin 19 = .ok (.getfield 7, 3) := by decide +kernel
theorem dX7_begin_22 : decode cX7_begin 22 = .ok (.iload_n 2, 1) := by decide +kernel
theorem dX7_begin_23 : decode cX7_begin 23 = .ok (.iload_n 2, 1) := by decide +kernel
theorem dX7_begin_24 : decode cX7_begin 24 = .ok (.iconst 2, 1) := by decide +kernel
theorem dX7_begin_25 : decode cX7_begin 25 = .ok (.irem, 1) := by decide +kernel
theorem dX7_begin_26 : decode cX7_begin 26 = .ok (.ifCond .ne 7, 3) := by decide +kernel
theorem dX7_begin_29 : decode cX7_begin 29 = .ok (.iconst 1, 1) := by decide +kernel
theorem dX7_begin_30 : decode cX7_begin 30 = .ok (.goto 4, 3) := by decide +kernel
theorem dX7_begin_33 : decode cX7_begin 33 = .ok (.iconst 2, 1) := by decide +kernel
theorem dX7_begin_34 : decode cX7_begin 34 = .ok (.iastore, 1) := by decide +kernel
theorem dX7_begin_35 : decode cX7_begin 35 = .ok (.aload_n 0, 1) := by decide +kernel
theorem dX7_begin_36 : decode cX7_begin 36 = .ok (.getfield 13, 3) := by decide +kernel
theorem dX7_begin_39 : decode cX7_begin 39 = .ok (.iload_n 2, 1) := by decide +kernel
theorem dX7_begin_40 : decode cX7_begin 40 = .ok (.ldc2_w 64, 3) := by decide +kernel
theorem dX7_begin_43 : decode cX7_begin 43 = .ok (.lastore, 1) := by decide +kernel
theorem dX7_begin_44 : decode cX7_begin 44 = .ok (.aload_n 0, 1) := by decide +kernel
theorem dX7_begin_45 : decode cX7_begin 45 = .ok (.getfield 17, 3) := by decide +kernel
theorem dX7_begin_48 : decode cX7_begin 48 = .ok (.iload_n 2, 1) := by decide +kernel
theorem dX7_begin_49 : decode cX7_begin 49 = .ok (.lconst 0, 1) := by decide +kernel
theorem dX7_begin_50 : decode cX7_begin 50 = .ok (.lastore, 1) := by decide +kernel
theorem dX7_begin_51 : decode cX7_begin 51 = .ok (.aload_n 0, 1) := by decide +kernel
theorem dX7_begin_52 : decode cX7_begin 52 = .ok (.getfield 17, 3) := by decide +kernel
theorem dX7_begin_55 : decode cX7_begin 55 = .ok (.bipush 32, 2) := by decide +kernel
theorem dX7_begin_57 : decode cX7_begin 57 = .ok (.iload_n 2, 1) := by decide +kernel
theorem dX7_begin_58 : decode cX7_begin 58 = .ok (.iadd, 1) := by decide +kernel
theorem dX7_begin_59 : decode cX7_begin 59 = .ok (.lconst 0, 1) := by decide +kernel
theorem dX7_begin_60 : decode cX7_begin 60 = .ok (.lastore, 1) := by decide +kernel
theorem dX7_begin_61 : decode cX7_begin 61 = .ok (.aload_n 0, 1) := by decide +kernel
theorem dX7_begin_62 : decode cX7_begin 62 = .ok (.iconst 0, 1) := by decide +kernel
theorem dX7_begin_63 : decode cX7_begin 63 = .ok (.putfield 66, 3) := by decide +kernel
theorem dX7_begin_66 : decode cX7_begin 66 = .ok (.aload_n 0, 1) := by decide +kernel
theorem dX7_begin_67 : decode cX7_begin 67 = .ok (.getfield 20, 3) := by decide +kernel
theorem dX7_begin_70 : decode cX7_begin 70 = .ok (.iload_n 2, 1) := by decide +kernel
theorem dX7_begin_71 : decode cX7_begin 71 = .ok (.sipush (-10000), 3) := by decide +kernel
theorem dX7_begin_74 : decode cX7_begin 74 = .ok (.iastore, 1) := by decide +kernel
theorem dX7_begin_75 : decode cX7_begin 75 = .ok (.aload_n 0, 1) := by decide +kernel
theorem dX7_begin_76 : decode cX7_begin 76 = .ok (.getfield 20, 3) := by decide +kernel
theorem dX7_begin_79 : decode cX7_begin 79 = .ok (.bipush 32, 2) := by decide +kernel
theorem dX7_begin_81 : decode cX7_begin 81 = .ok (.iload_n 2, 1) := by decide +kernel
theorem dX7_begin_82 : decode cX7_begin 82 = .ok (.iadd, 1) := by decide +kernel
theorem dX7_begin_83 : decode cX7_begin 83 = .ok (.sipush (-10000), 3) := by decide +kernel
theorem dX7_begin_86 : decode cX7_begin 86 = .ok (.iastore, 1) := by decide +kernel
theorem dX7_begin_87 : decode cX7_begin 87 = .ok (.iinc 2 1, 3) := by decide +kernel
theorem dX7_begin_90 : decode cX7_begin 90 = .ok (.goto (-78), 3) := by decide +kernel
theorem dX7_begin_93 : decode cX7_begin 93 = .ok (.return_, 1) := by decide +kernel
theorem dX7_isIn_0 : decode cX7_isIn 0 = .ok (.iload_n 0, 1) := by decide +kernel
theorem dX7_isIn_1 : decode cX7_isIn 1 = .ok (.iload_n 1, 1) := by decide +kernel
theorem dX7_isIn_2 : decode cX7_isIn 2 = .ok (.if_icmp .lt 12, 3) := by decide +kernel
theorem dX7_isIn_5 : decode cX7_isIn 5 = .ok (.iload_n 0, 1) := by decide +kernel
theorem dX7_isIn_6 : decode cX7_isIn 6 = .ok (.iload_n 2, 1) := by decide +kernel
theorem dX7_isIn_7 : decode cX7_isIn 7 = .ok (.if_icmp .gt 7, 3) := by decide +kernel
theorem dX7_isIn_10 : decode cX7_isIn 10 = .ok (.iconst 1, 1) := by decide +kernel
theorem dX7_isIn_11 : decode cX7_isIn 11 = .ok (.goto 4, 3) := by decide +kernel
theorem dX7_isIn_14 : decode cX7_isIn 14 = .ok (.iconst 0, 1) := by decide +kernel
theorem dX7_isIn_15 : decode cX7_isIn 15 = .ok (.ireturn, 1) := by decide +kernel
theorem dX7_isHole_0 : decode cX7_isHole 0 = .ok (.iload_n 1, 1) := by decide +kernel
theorem dX7_isHole_1 : decode cX7_isHole 1 = .ok (.iconst 0, 1) := by decide +kernel
theorem dX7_isHole_2 : decode cX7_isHole 2 = .ok (.aload_n 0, 1) := by decide +kernel
theorem dX7_isHole_3 : decode cX7_isHole 3 = .ok (.getfield 58, 3) := by decide +kernel
theorem dX7_isHole_6 : decode cX7_isHole 6 = .ok (.iconst 1, 1) := by decide +kernel
theorem dX7_isHole_7 : decode cX7_isHole 7 = .ok (.isub, 1) := by decide +kernel
theorem dX7_isHole_8 : decode cX7_isHole 8 = .ok (.invokestatic 70, 3) := by decide +kernel
theorem dX7_isHole_11 : decode cX7_isHole 11 = .ok (.ireturn, 1) := by decide +kernel
theorem dX7_isGone_0 : decode cX7_isGone 0 = .ok (.aload_n 0, 1) := by decide +kernel
theorem dX7_isGone_1 : decode cX7_isGone 1 = .ok (.getfield 7, 3) := by decide +kernel
theorem dX7_isGone_4 : decode cX7_isGone 4 = .ok (.iload_n 1, 1) := by decide +kernel
theorem dX7_isGone_5 : decode cX7_isGone 5 = .ok (.iaload, 1) := by decide +kernel
theorem dX7_isGone_6 : decode cX7_isGone 6 = .ok (.iconst 4, 1) := by decide +kernel
theorem dX7_isGone_7 : decode cX7_isGone 7 = .ok (.if_icmp .ne 7, 3) := by decide +kernel
theorem dX7_isGone_10 : decode cX7_isGone 10 = .ok (.iconst 1, 1) := by decide +kernel
theorem dX7_isGone_11 : decode cX7_isGone 11 = .ok (.goto 4, 3) := by decide +kernel
theorem dX7_isGone_14 : decode cX7_isGone 14 = .ok (.iconst 0, 1) := by decide +kernel
theorem dX7_isGone_15 : decode cX7_isGone 15 = .ok (.ireturn, 1) := by decide +kernel
theorem dX7_isKind_0 : decode cX7_isKind 0 = .ok (.iload_n 0, 1) := by decide +kernel
theorem dX7_isKind_1 : decode cX7_isKind 1 = .ok (.iconst 0, 1) := by decide +kernel
theorem dX7_isKind_2 : decode cX7_isKind 2 = .ok (.iconst 3, 1) := by decide +kernel
theorem dX7_isKind_3 : decode cX7_isKind 3 = .ok (.invokestatic 70, 3) := by decide +kernel
theorem dX7_isKind_6 : decode cX7_isKind 6 = .ok (.ifCond .ne 8, 3) := by decide +kernel
theorem dX7_isKind_9 : decode cX7_isKind 9 = .ok (.iload_n 0, 1) := by decide +kernel
theorem dX7_isKind_10 : decode cX7_isKind 10 = .ok (.iconst 5, 1) := by decide +kernel
theorem dX7_isKind_11 : decode cX7_isKind 11 = .ok (.if_icmp .ne 7, 3) := by decide +kernel
theorem dX7_isKind_14 : decode cX7_isKind 14 = .ok (.iconst 1, 1) := by decide +kernel
theorem dX7_isKind_15 : decode cX7_isKind 15 = .ok (.goto 4, 3) := by decide +kernel
theorem dX7_isKind_18 : decode cX7_isKind 18 = .ok (.iconst 0, 1) := by decide +kernel
theorem dX7_isKind_19 : decode cX7_isKind 19 = .ok (.ireturn, 1) := by decide +kernel
theorem dX7_leans_0 : decode cX7_leans 0 = .ok (.aload_n 0, 1) := by decide +kernel
theorem dX7_leans_1 : decode cX7_leans 1 = .ok (.getfield 7, 3) := by decide +kernel
theorem dX7_leans_4 : decode cX7_leans 4 = .ok (.iload_n 1, 1) := by decide +kernel
theorem dX7_leans_5 : decode cX7_leans 5 = .ok (.iaload, 1) := by decide +kernel
theorem dX7_leans_6 : decode cX7_leans 6 = .ok (.istore_n 2, 1) := by decide +kernel
theorem dX7_leans_7 : decode cX7_leans 7 = .ok (.iload_n 2, 1) := by decide +kernel
theorem dX7_leans_8 : decode cX7_leans 8 = .ok (.iconst 1, 1) := by decide +kernel
theorem dX7_leans_9 : decode cX7_leans 9 = .ok (.if_icmp .eq 8, 3) := by decide +kernel
theorem dX7_leans_12 : decode cX7_leans 12 = .ok (.iload_n 2, 1) := by decide +kernel
theorem dX7_leans_13 : decode cX7_leans 13 = .ok (.iconst 5, 1) := by decide +kernel
theorem dX7_leans_14 : decode cX7_leans 14 = .ok (.if_icmp .ne 7, 3) := by decide +kernel
theorem dX7_leans_17 : decode cX7_leans 17 = .ok (.iconst 1, 1) := by decide +kernel
theorem dX7_leans_18 : decode cX7_leans 18 = .ok (.goto 18, 3) := by decide +kernel
theorem dX7_leans_21 : decode cX7_leans 21 = .ok (.iload_n 2, 1) := by decide +kernel
theorem dX7_leans_22 : decode cX7_leans 22 = .ok (.iconst 2, 1) := by decide +kernel
theorem dX7_leans_23 : decode cX7_leans 23 = .ok (.if_icmp .eq 8, 3) := by decide +kernel
theorem dX7_leans_26 : decode cX7_leans 26 = .ok (.iload_n 2, 1) := by decide +kernel
theorem dX7_leans_27 : decode cX7_leans 27 = .ok (.iconst 3, 1) := by decide +kernel
theorem dX7_leans_28 : decode cX7_leans 28 = .ok (.if_icmp .ne 7, 3) := by decide +kernel
theorem dX7_leans_31 : decode cX7_leans 31 = .ok (.iconst (-1), 1) := by decide +kernel
theorem dX7_leans_32 : decode cX7_leans 32 = .ok (.goto 4, 3) := by decide +kernel
theorem dX7_leans_35 : decode cX7_leans 35 = .ok (.iconst 0, 1) := by decide +kernel
theorem dX7_leans_36 : decode cX7_leans 36 = .ok (.ireturn, 1) := by decide +kernel
theorem dX7_force_0 : decode cX7_force 0 = .ok (.aload_n 0, 1) := by decide +kernel
theorem dX7_force_1 : decode cX7_force 1 = .ok (.getfield 7, 3) := by decide +kernel
theorem dX7_force_4 : decode cX7_force 4 = .ok (.iload_n 1, 1) := by decide +kernel
theorem dX7_force_5 : decode cX7_force 5 = .ok (.iaload, 1) := by decide +kernel
theorem dX7_force_6 : decode cX7_force 6 = .ok (.iconst 3, 1) := by decide +kernel
theorem dX7_force_7 : decode cX7_force 7 = .ok (.if_icmp .ne 7, 3) := by decide +kernel
theorem dX7_force_10 : decode cX7_force 10 = .ok (.iconst 2, 1) := by decide +kernel
theorem dX7_force_11 : decode cX7_force 11 = .ok (.goto 16, 3) := by decide +kernel
theorem dX7_force_14 : decode cX7_force 14 = .ok (.aload_n 0, 1) := by decide +kernel
theorem dX7_force_15 : decode cX7_force 15 = .ok (.iload_n 1, 1) := by decide +kernel
theorem dX7_force_16 : decode cX7_force 16 = .ok (.invokevirtual 74, 3) := by decide +kernel
theorem dX7_force_19 : decode cX7_force 19 = .ok (.ifCond .eq 7, 3) := by decide +kernel
theorem dX7_force_22 : decode cX7_force 22 = .ok (.iconst 0, 1) := by decide +kernel
theorem dX7_force_23 : decode cX7_force 23 = .ok (.goto 4, 3) := by decide +kernel
theorem dX7_force_26 : decode cX7_force 26 = .ok (.iconst 1, 1) := by decide +kernel
theorem dX7_force_27 : decode cX7_force 27 = .ok (.ireturn, 1) := by decide +kernel
theorem dX7_steps_0 : decode cX7_steps 0 = .ok (.iload_n 1, 1) := by decide +kernel
theorem dX7_steps_1 : decode cX7_steps 1 = .ok (.iload_n 2, 1) := by decide +kernel
theorem dX7_steps_2 : decode cX7_steps 2 = .ok (.if_icmp .ge 9, 3) := by decide +kernel
theorem dX7_steps_5 : decode cX7_steps 5 = .ok (.iload_n 2, 1) := by decide +kernel
theorem dX7_steps_6 : decode cX7_steps 6 = .ok (.iload_n 1, 1) := by decide +kernel
theorem dX7_steps_7 : decode cX7_steps 7 = .ok (.isub, 1) := by decide +kernel
theorem dX7_steps_8 : decode cX7_steps 8 = .ok (.goto 6, 3) := by decide +kernel
theorem dX7_steps_11 : decode cX7_steps 11 = .ok (.iload_n 1, 1) := by decide +kernel
theorem dX7_steps_12 : decode cX7_steps 12 = .ok (.iload_n 2, 1) := by decide +kernel
theorem dX7_steps_13 : decode cX7_steps 13 = .ok (.isub, 1) := by decide +kernel
theorem dX7_steps_14 : decode cX7_steps 14 = .ok (.istore_n 3, 1) := by decide +kernel
theorem dX7_steps_15 : decode cX7_steps 15 = .ok (.iload_n 3, 1) := by decide +kernel
theorem dX7_steps_16 : decode cX7_steps 16 = .ok (.aload_n 0, 1) := by decide +kernel
theorem dX7_steps_17 : decode cX7_steps 17 = .ok (.getfield 58, 3) := by decide +kernel
theorem dX7_steps_20 : decode cX7_steps 20 = .ok (.iload_n 3, 1) := by decide +kernel
theorem dX7_steps_21 : decode cX7_steps 21 = .ok (.isub, 1) := by decide +kernel
theorem dX7_steps_22 : decode cX7_steps 22 = .ok (.if_icmp .ge 7, 3) := by decide +kernel
theorem dX7_steps_25 : decode cX7_steps 25 = .ok (.iload_n 3, 1) := by decide +kernel
theorem dX7_steps_26 : decode cX7_steps 26 = .ok (.goto 9, 3) := by decide +kernel
theorem dX7_steps_29 : decode cX7_steps 29 = .ok (.aload_n 0, 1) := by decide +kernel
theorem dX7_steps_30 : decode cX7_steps 30 = .ok (.getfield 58, 3) := by decide +kernel
theorem dX7_steps_33 : decode cX7_steps 33 = .ok (.iload_n 3, 1) := by decide +kernel
theorem dX7_steps_34 : decode cX7_steps 34 = .ok (.isub, 1) := by decide +kernel
theorem dX7_steps_35 : decode cX7_steps 35 = .ok (.ireturn, 1) := by decide +kernel
theorem dX7_tell_0 : decode cX7_tell 0 = .ok (.iload_n 2, 1) := by decide +kernel
theorem dX7_tell_1 : decode cX7_tell 1 = .ok (.aload_n 0, 1) := by decide +kernel
theorem dX7_tell_2 : decode cX7_tell 2 = .ok (.getfield 23, 3) := by decide +kernel
theorem dX7_tell_5 : decode cX7_tell 5 = .ok (.iload_n 1, 1) := by decide +kernel
theorem dX7_tell_6 : decode cX7_tell 6 = .ok (.iaload, 1) := by decide +kernel
theorem dX7_tell_7 : decode cX7_tell 7 = .ok (.if_icmp .ge 17, 3) := by decide +kernel
theorem dX7_tell_10 : decode cX7_tell 10 = .ok (.aload_n 0, 1) := by decide +kernel
theorem dX7_tell_11 : decode cX7_tell 11 = .ok (.getfield 26, 3) := by decide +kernel
theorem dX7_tell_14 : decode cX7_tell 14 = .ok (.bipush 17, 2) := by decide +kernel
theorem dX7_tell_16 : decode cX7_tell 16 = .ok (.iload_n 1, 1) := by decide +kernel
theorem dX7_tell_17 : decode cX7_tell 17 = .ok (.imul, 1) := by decide +kernel
theorem dX7_tell_18 : decode cX7_tell 18 = .ok (.iload_n 2, 1) := by decide +kernel
theorem dX7_tell_19 : decode cX7_tell 19 = .ok (.iadd, 1) := by decide +kernel
theorem dX7_tell_20 : decode cX7_tell 20 = .ok (.iaload, 1) := by decide +kernel
theorem dX7_tell_21 : decode cX7_tell 21 = .ok (.goto 4, 3) := by decide +kernel
theorem dX7_tell_24 : decode cX7_tell 24 = .ok (.iconst 0, 1) := by decide +kernel
theorem dX7_tell_25 : decode cX7_tell 25 = .ok (.ireturn, 1) := by decide +kernel
theorem dX7_cut_0 : decode cX7_cut 0 = .ok (.lload_n 0, 1) := by decide +kernel
theorem dX7_cut_1 : decode cX7_cut 1 = .ok (.lload_n 2, 1) := by decide +kernel
theorem dX7_cut_2 : decode cX7_cut 2 = .ok (.ldiv, 1) := by decide +kernel
theorem dX7_cut_3 : decode cX7_cut 3 = .ok (.lstore 4, 2) := by decide +kernel
theorem dX7_cut_5 : decode cX7_cut 5 = .ok (.lload_n 0, 1) := by decide +kernel
theorem dX7_cut_6 : decode cX7_cut 6 = .ok (.lload_n 2, 1) := by decide +kernel
theorem dX7_cut_7 : decode cX7_cut 7 = .ok (.lrem, 1) := by decide +kernel
theorem dX7_cut_8 : decode cX7_cut 8 = .ok (.lconst 0, 1) := by decide +kernel
theorem dX7_cut_9 : decode cX7_cut 9 = .ok (.lcmp, 1) := by decide +kernel
theorem dX7_cut_10 : decode cX7_cut 10 = .ok (.ifCond .eq 16, 3) := by decide +kernel
theorem dX7_cut_13 : decode cX7_cut 13 = .ok (.lload_n 0, 1) := by decide +kernel
theorem dX7_cut_14 : decode cX7_cut 14 = .ok (.lconst 0, 1) := by decide +kernel
theorem dX7_cut_15 : decode cX7_cut 15 = .ok (.lcmp, 1) := by decide +kernel
theorem dX7_cut_16 : decode cX7_cut 16 = .ok (.ifCond .ge 10, 3) := by decide +kernel
theorem dX7_cut_19 : decode cX7_cut 19 = .ok (.lload 4, 2) := by decide +kernel
theorem dX7_cut_21 : decode cX7_cut 21 = .ok (.lconst 1, 1) := by decide +kernel
theorem dX7_cut_22 : decode cX7_cut 22 = .ok (.lsub, 1) := by decide +kernel
theorem dX7_cut_23 : decode cX7_cut 23 = .ok (.goto 5, 3) := by decide +kernel
theorem dX7_cut_26 : decode cX7_cut 26 = .ok (.lload 4, 2) := by decide +kernel
theorem dX7_cut_28 : decode cX7_cut 28 = .ok (.lreturn, 1) := by decide +kernel
theorem dX7_wheel_0 : decode cX7_wheel 0 = .ok (.iload_n 1, 1) := by decide +kernel
theorem dX7_wheel_1 : decode cX7_wheel 1 = .ok (.bipush 8, 2) := by decide +kernel
theorem dX7_wheel_3 : decode cX7_wheel 3 = .ok (.if_icmp .eq 18, 3) := by decide +kernel
theorem dX7_wheel_6 : decode cX7_wheel 6 = .ok (.iload_n 1, 1) := by decide +kernel
theorem dX7_wheel_7 : decode cX7_wheel 7 = .ok (.bipush 16, 2) := by decide +kernel
theorem dX7_wheel_9 : decode cX7_wheel 9 = .ok (.if_icmp .eq 12, 3) := by decide +kernel
theorem dX7_wheel_12 : decode cX7_wheel 12 = .ok (.iload_n 1, 1) := by decide +kernel
theorem dX7_wheel_13 : decode cX7_wheel 13 = .ok (.bipush 32, 2) := by decide +kernel
theorem dX7_wheel_15 : decode cX7_wheel 15 = .ok (.if_icmp .eq 6, 3) := by decide +kernel
theorem dX7_wheel_18 : decode cX7_wheel 18 = .ok (.ldc 78, 2) := by decide +kernel
theorem dX7_wheel_20 : decode cX7_wheel 20 = .ok (.ireturn, 1) := by decide +kernel
theorem dX7_wheel_21 : decode cX7_wheel 21 = .ok (.aload_n 0, 1) := by decide +kernel
theorem dX7_wheel_22 : decode cX7_wheel 22 = .ok (.iload_n 1, 1) := by decide +kernel
theorem dX7_wheel_23 : decode cX7_wheel 23 = .ok (.invokevirtual 54, 3) := by decide +kernel
theorem dX7_wheel_26 : decode cX7_wheel 26 = .ok (.iload_n 1, 1) := by decide +kernel
theorem dX7_wheel_27 : decode cX7_wheel 27 = .ok (.ireturn, 1) := by decide +kernel
theorem dX7_kind_0 : decode cX7_kind 0 = .ok (.aload_n 0, 1) := by decide +kernel
theorem dX7_kind_1 : decode cX7_kind 1 = .ok (.iload_n 1, 1) := by decide +kernel
theorem dX7_kind_2 : decode cX7_kind 2 = .ok (.invokevirtual 79, 3) := by decide +kernel
theorem dX7_kind_5 : decode cX7_kind 5 = .ok (.ifCond .eq 10, 3) := by decide +kernel
theorem dX7_kind_8 : decode cX7_kind 8 = .ok (.iload_n 2, 1) := by decide +kernel
theorem dX7_kind_9 : decode cX7_kind 9 = .ok (.invokestatic 82, 3) := by decide +kernel
theorem dX7_kind_12 : decode cX7_kind 12 = .ok (.ifCond .ne 6, 3) := by decide +kernel
theorem dX7_kind_15 : decode cX7_kind 15 = .ok (.ldc 78, 2) := by decide +kernel
theorem dX7_kind_17 : decode cX7_kind 17 = .ok (.ireturn, 1) := by decide +kernel
theorem dX7_kind_18 : decode cX7_kind 18 = .ok (.aload_n 0, 1) := by decide +kernel
theorem dX7_kind_19 : decode cX7_kind 19 = .ok (.iload_n 1, 1) := by decide +kernel
theorem dX7_kind_20 : decode cX7_kind 20 = .ok (.invokevirtual 74, 3) := by decide +kernel
theorem dX7_kind_23 : decode cX7_kind 23 = .ok (.ifCond .eq 6, 3) := by decide +kernel
theorem dX7_kind_26 : decode cX7_kind 26 = .ok (.ldc 85, 2) := by decide +kernel
theorem dX7_kind_28 : decode cX7_kind 28 = .ok (.ireturn, 1) := by decide +kernel
theorem dX7_kind_29 : decode cX7_kind 29 = .ok (.aload_n 0, 1) := by decide +kernel
theorem dX7_kind_30 : decode cX7_kind 30 = .ok (.getfield 7, 3) := by decide +kernel
theorem dX7_kind_33 : decode cX7_kind 33 = .ok (.iload_n 1, 1) := by decide +kernel
theorem dX7_kind_34 : decode cX7_kind 34 = .ok (.iaload, 1) := by decide +kernel
theorem dX7_kind_35 : decode cX7_kind 35 = .ok (.istore_n 3, 1) := by decide +kernel
theorem dX7_kind_36 : decode cX7_kind 36 = .ok (.aload_n 0, 1) := by decide +kernel
theorem dX7_kind_37 : decode cX7_kind 37 = .ok (.getfield 7, 3) := by decide +kernel
theorem dX7_kind_40 : decode cX7_kind 40 = .ok (.iload_n 1, 1) := by decide +kernel
theorem dX7_kind_41 : decode cX7_kind 41 = .ok (.iload_n 2, 1) := by decide +kernel
theorem dX7_kind_42 : decode cX7_kind 42 = .ok (.iastore, 1) := by decide +kernel
theorem dX7_kind_43 : decode cX7_kind 43 = .ok (.iload_n 3, 1) := by decide +kernel
theorem dX7_kind_44 : decode cX7_kind 44 = .ok (.ireturn, 1) := by decide +kernel
theorem dX7_table_0 : decode cX7_table 0 = .ok (.iload_n 1, 1) := by decide +kernel
theorem dX7_table_1 : decode cX7_table 1 = .ok (.iconst 0, 1) := by decide +kernel
theorem dX7_table_2 : decode cX7_table 2 = .ok (.iconst 5, 1) := by decide +kernel
theorem dX7_table_3 : decode cX7_table 3 = .ok (.invokestatic 70, 3) := by decide +kernel
theorem dX7_table_6 : decode cX7_table 6 = .ok (.ifCond .eq 13, 3) := by decide +kernel
theorem dX7_table_9 : decode cX7_table 9 = .ok (.iload_n 2, 1) := by decide +kernel
theorem dX7_table_10 : decode cX7_table 10 = .ok (.iconst (-1), 1) := by decide +kernel
theorem dX7_table_11 : decode cX7_table 11 = .ok (.bipush 17, 2) := by decide +kernel
theorem dX7_table_13 : decode cX7_table 13 = .ok (.invokestatic 70, 3) := by decide +kernel
theorem dX7_table_16 : decode cX7_table 16 = .ok (.ifCond .ne 6, 3) := by decide +kernel
theorem dX7_table_19 : decode cX7_table 19 = .ok (.ldc 78, 2) := by decide +kernel
theorem dX7_table_21 : decode cX7_table 21 = .ok (.ireturn, 1) := by decide +kernel
theorem dX7_table_22 : decode cX7_table 22 = .ok (.aload_n 0, 1) := by decide +kernel
theorem dX7_table_23 : decode cX7_table 23 = .ok (.getfield 23, 3) := by decide +kernel
theorem dX7_table_26 : decode cX7_table 26 = .ok (.iload_n 1, 1) := by decide +kernel
theorem dX7_table_27 : decode cX7_table 27 = .ok (.iload_n 2, 1) := by decide +kernel
theorem dX7_table_28 : decode cX7_table 28 = .ok (.iastore, 1) := by decide +kernel
theorem dX7_table_29 : decode cX7_table 29 = .ok (.iconst 0, 1) := by decide +kernel
theorem dX7_table_30 : decode cX7_table 30 = .ok (.istore_n 3, 1) := by decide +kernel
theorem dX7_table_31 : decode cX7_table 31 = .ok (.iload_n 3, 1) := by decide +kernel
theorem dX7_table_32 : decode cX7_table 32 = .ok (.bipush 17, 2) := by decide +kernel
theorem dX7_table_34 : decode cX7_table 34 = .ok (.if_icmp .ge 21, 3) := by decide +kernel
theorem dX7_table_37 : decode cX7_table 37 = .ok (.aload_n 0, 1) := by decide +kernel
theorem dX7_table_38 : decode cX7_table 38 = .ok (.getfield 26, 3) := by decide +kernel
theorem dX7_table_41 : decode cX7_table 41 = .ok (.bipush 17, 2) := by decide +kernel
theorem dX7_table_43 : decode cX7_table 43 = .ok (.iload_n 1, 1) := by decide +kernel
theorem dX7_table_44 : decode cX7_table 44 = .ok (.imul, 1) := by decide +kernel
theorem dX7_table_45 : decode cX7_table 45 = .ok (.iload_n 3, 1) := by decide +kernel
theorem dX7_table_46 : decode cX7_table 46 = .ok (.iadd, 1) := by decide +kernel
theorem dX7_table_47 : decode cX7_table 47 = .ok (.iconst 0, 1) := by decide +kernel
theorem dX7_table_48 : decode cX7_table 48 = .ok (.iastore, 1) := by decide +kernel
theorem dX7_table_49 : decode cX7_table 49 = .ok (.iinc 3 1, 3) := by decide +kernel
theorem dX7_table_52 : decode cX7_table 52 = .ok (.goto (-21), 3) := by decide +kernel
theorem dX7_table_55 : decode cX7_table 55 = .ok (.iload_n 2, 1) := by decide +kernel
theorem dX7_table_56 : decode cX7_table 56 = .ok (.ifCond .ge 7, 3) := by decide +kernel
theorem dX7_table_59 : decode cX7_table 59 = .ok (.iconst 0, 1) := by decide +kernel
theorem dX7_table_60 : decode cX7_table 60 = .ok (.goto 4, 3) := by decide +kernel
theorem dX7_table_63 : decode cX7_table 63 = .ok (.iload_n 2, 1) := by decide +kernel
theorem dX7_table_64 : decode cX7_table 64 = .ok (.ireturn, 1) := by decide +kernel
theorem dX7_enter_0 : decode cX7_enter 0 = .ok (.iload_n 1, 1) := by decide +kernel
theorem dX7_enter_1 : decode cX7_enter 1 = .ok (.iconst 0, 1) := by decide +kernel
theorem dX7_enter_2 : decode cX7_enter 2 = .ok (.iconst 5, 1) := by decide +kernel
theorem dX7_enter_3 : decode cX7_enter 3 = .ok (.invokestatic 70, 3) := by decide +kernel
theorem dX7_enter_6 : decode cX7_enter 6 = .ok (.ifCond .eq 16, 3) := by decide +kernel
theorem dX7_enter_9 : decode cX7_enter 9 = .ok (.iload_n 3, 1) := by decide +kernel
theorem dX7_enter_10 : decode cX7_enter 10 = .ok (.sipush (-1000), 3) := by decide +kernel
theorem dX7_enter_13 : decode cX7_enter 13 = .ok (.sipush 1000, 3) := by decide +kernel
theorem dX7_enter_16 : decode cX7_enter 16 = .ok (.invokestatic 70, 3) := by decide +kernel
theorem dX7_enter_19 : decode cX7_enter 19 = .ok (.ifCond .ne 6, 3) := by decide +kernel
theorem dX7_enter_22 : decode cX7_enter 22 = .ok (.ldc 78, 2) := by decide +kernel
theorem dX7_enter_24 : decode cX7_enter 24 = .ok (.ireturn, 1) := by decide +kernel
theorem dX7_enter_25 : decode cX7_enter 25 = .ok (.aload_n 0, 1) := by decide +kernel
theorem dX7_enter_26 : decode cX7_enter 26 = .ok (.getfield 23, 3) := by decide +kernel
theorem dX7_enter_29 : decode cX7_enter 29 = .ok (.iload_n 1, 1) := by decide +kernel
theorem dX7_enter_30 : decode cX7_enter 30 = .ok (.iaload, 1) := by decide +kernel
theorem dX7_enter_31 : decode cX7_enter 31 = .ok (.ifCond .ge 6, 3) := by decide +kernel
theorem dX7_enter_34 : decode cX7_enter 34 = .ok (.ldc 86, 2) := by decide +kernel
theorem dX7_enter_36 : decode cX7_enter 36 = .ok (.ireturn, 1) := by decide +kernel
theorem dX7_enter_37 : decode cX7_enter 37 = .ok (.iload_n 2, 1) := by decide +kernel
theorem dX7_enter_38 : decode cX7_enter 38 = .ok (.iconst 0, 1) := by decide +kernel
theorem dX7_enter_39 : decode cX7_enter 39 = .ok (.aload_n 0, 1) := by decide +kernel
theorem dX7_enter_40 : decode cX7_enter 40 = .ok (.getfield 23, 3) := by decide +kernel
theorem dX7_enter_43 : decode cX7_enter 43 = .ok (.iload_n 1, 1) := by decide +kernel
theorem dX7_enter_44 : decode cX7_enter 44 = .ok (.iaload, 1) := by decide +kernel
theorem dX7_enter_45 : decode cX7_enter 45 = .ok (.iconst 1, 1) := by decide +kernel
theorem dX7_enter_46 : decode cX7_enter 46 = .ok (.isub, 1) := by decide +kernel
theorem dX7_enter_47 : decode cX7_enter 47 = .ok (.invokestatic 70, 3) := by decide +kernel
theorem dX7_enter_50 : decode cX7_enter 50 = .ok (.ifCond .ne 6, 3) := by decide +kernel
theorem dX7_enter_53 : decode cX7_enter 53 = .ok (.ldc 87, 2) := by decide +kernel
theorem dX7_enter_55 : decode cX7_enter 55 = .ok (.ireturn, 1) := by decide +kernel
theorem dX7_enter_56 : decode cX7_enter 56 = .ok (.aload_n 0, 1) := by decide +kernel
theorem dX7_enter_57 : decode cX7_enter 57 = .ok (.getfield 26, 3) := by decide +kernel
theorem dX7_enter_60 : decode cX7_enter 60 = .ok (.bipush 17, 2) := by decide +kernel
theorem dX7_enter_62 : decode cX7_enter 62 = .ok (.iload_n 1, 1) := by decide +kernel
theorem dX7_enter_63 : decode cX7_enter 63 = .ok (.imul, 1) := by decide +kernel
theorem dX7_enter_64 : decode cX7_enter 64 = .ok (.iload_n 2, 1) := by decide +kernel
theorem dX7_enter_65 : decode cX7_enter 65 = .ok (.iadd, 1) := by decide +kernel
theorem dX7_enter_66 : decode cX7_enter 66 = .ok (.iaload, 1) := by decide +kernel
theorem dX7_enter_67 : decode cX7_enter 67 = .ok (.istore 4, 2) := by decide +kernel
theorem dX7_enter_69 : decode cX7_enter 69 = .ok (.aload_n 0, 1) := by decide +kernel
theorem dX7_enter_70 : decode cX7_enter 70 = .ok (.getfield 26, 3) := by decide +kernel
theorem dX7_enter_73 : decode cX7_enter 73 = .ok (.bipush 17, 2) := by decide +kernel
theorem dX7_enter_75 : decode cX7_enter 75 = .ok (.iload_n 1, 1) := by decide +kernel
theorem dX7_enter_76 : decode cX7_enter 76 = .ok (.imul, 1) := by decide +kernel
theorem dX7_enter_77 : decode cX7_enter 77 = .ok (.iload_n 2, 1) := by decide +kernel
theorem dX7_enter_78 : decode cX7_enter 78 = .ok (.iadd, 1) := by decide +kernel
theorem dX7_enter_79 : decode cX7_enter 79 = .ok (.iload_n 3, 1) := by decide +kernel
theorem dX7_enter_80 : decode cX7_enter 80 = .ok (.iastore, 1) := by decide +kernel
theorem dX7_enter_81 : decode cX7_enter 81 = .ok (.iload 4, 2) := by decide +kernel
theorem dX7_enter_83 : decode cX7_enter 83 = .ok (.ireturn, 1) := by decide +kernel
theorem dX7_copy_0 : decode cX7_copy 0 = .ok (.iload_n 1, 1) := by decide +kernel
theorem dX7_copy_1 : decode cX7_copy 1 = .ok (.iconst 0, 1) := by decide +kernel
theorem dX7_copy_2 : decode cX7_copy 2 = .ok (.iconst 5, 1) := by decide +kernel
theorem dX7_copy_3 : decode cX7_copy 3 = .ok (.invokestatic 70, 3) := by decide +kernel
theorem dX7_copy_6 : decode cX7_copy 6 = .ok (.ifCond .eq 12, 3) := by decide +kernel
theorem dX7_copy_9 : decode cX7_copy 9 = .ok (.iload_n 2, 1) := by decide +kernel
theorem dX7_copy_10 : decode cX7_copy 10 = .ok (.iconst 0, 1) := by decide +kernel
theorem dX7_copy_11 : decode cX7_copy 11 = .ok (.iconst 5, 1) := by decide +kernel
theorem dX7_copy_12 : decode cX7_copy 12 = .ok (.invokestatic 70, 3) := by decide +kernel
theorem dX7_copy_15 : decode cX7_copy 15 = .ok (.ifCond .ne 6, 3) := by decide +kernel
theorem dX7_copy_18 : decode cX7_copy 18 = .ok (.ldc 78, 2) := by decide +kernel
theorem dX7_copy_20 : decode cX7_copy 20 = .ok (.ireturn, 1) := by decide +kernel
theorem dX7_copy_21 : decode cX7_copy 21 = .ok (.aload_n 0, 1) := by decide +kernel
theorem dX7_copy_22 : decode cX7_copy 22 = .ok (.getfield 23, 3) := by decide +kernel
theorem dX7_copy_25 : decode cX7_copy 25 = .ok (.iload_n 1, 1) := by decide +kernel
theorem dX7_copy_26 : decode cX7_copy 26 = .ok (.iaload, 1) := by decide +kernel
theorem dX7_copy_27 : decode cX7_copy 27 = .ok (.ifCond .lt 12, 3) := by decide +kernel
theorem dX7_copy_30 : decode cX7_copy 30 = .ok (.aload_n 0, 1) := by decide +kernel
theorem dX7_copy_31 : decode cX7_copy 31 = .ok (.getfield 23, 3) := by decide +kernel
theorem dX7_copy_34 : decode cX7_copy 34 = .ok (.iload_n 2, 1) := by decide +kernel
theorem dX7_copy_35 : decode cX7_copy 35 = .ok (.iaload, 1) := by decide +kernel
theorem dX7_copy_36 : decode cX7_copy 36 = .ok (.ifCond .ge 6, 3) := by decide +kernel
theorem dX7_copy_39 : decode cX7_copy 39 = .ok (.ldc 86, 2) := by decide +kernel
theorem dX7_copy_41 : decode cX7_copy 41 = .ok (.ireturn, 1) := by decide +kernel
theorem dX7_copy_42 : decode cX7_copy 42 = .ok (.iload_n 3, 1) := by decide +kernel
theorem dX7_copy_43 : decode cX7_copy 43 = .ok (.iconst 0, 1) := by decide +kernel
theorem dX7_copy_44 : decode cX7_copy 44 = .ok (.aload_n 0, 1) := by decide +kernel
theorem dX7_copy_45 : decode cX7_copy 45 = .ok (.getfield 23, 3) := by decide +kernel
theorem dX7_copy_48 : decode cX7_copy 48 = .ok (.iload_n 1, 1) := by decide +kernel
theorem dX7_copy_49 : decode cX7_copy 49 = .ok (.iaload, 1) := by decide +kernel
theorem dX7_copy_50 : decode cX7_copy 50 = .ok (.invokestatic 70, 3) := by decide +kernel
theorem dX7_copy_53 : decode cX7_copy 53 = .ok (.ifCond .eq 13, 3) := by decide +kernel
theorem dX7_copy_56 : decode cX7_copy 56 = .ok (.iload_n 3, 1) := by decide +kernel
theorem dX7_copy_57 : decode cX7_copy 57 = .ok (.aload_n 0, 1) := by decide +kernel
theorem dX7_copy_58 : decode cX7_copy 58 = .ok (.getfield 23, 3) := by decide +kernel
theorem dX7_copy_61 : decode cX7_copy 61 = .ok (.iload_n 2, 1) := by decide +kernel
theorem dX7_copy_62 : decode cX7_copy 62 = .ok (.iaload, 1) := by decide +kernel
theorem dX7_copy_63 : decode cX7_copy 63 = .ok (.if_icmp .le 6, 3) := by decide +kernel
theorem dX7_copy_66 : decode cX7_copy 66 = .ok (.ldc 87, 2) := by decide +kernel
theorem dX7_copy_68 : decode cX7_copy 68 = .ok (.ireturn, 1) := by decide +kernel
theorem dX7_copy_69 : decode cX7_copy 69 = .ok (.iconst 0, 1) := by decide +kernel
theorem dX7_copy_70 : decode cX7_copy 70 = .ok (.istore 4, 2) := by decide +kernel
theorem dX7_copy_72 : decode cX7_copy 72 = .ok (.iload 4, 2) := by decide +kernel
theorem dX7_copy_74 : decode cX7_copy 74 = .ok (.iload_n 3, 1) := by decide +kernel
theorem dX7_copy_75 : decode cX7_copy 75 = .ok (.if_icmp .ge 33, 3) := by decide +kernel
theorem dX7_copy_78 : decode cX7_copy 78 = .ok (.aload_n 0, 1) := by decide +kernel
theorem dX7_copy_79 : decode cX7_copy 79 = .ok (.getfield 26, 3) := by decide +kernel
theorem dX7_copy_82 : decode cX7_copy 82 = .ok (.bipush 17, 2) := by decide +kernel
theorem dX7_copy_84 : decode cX7_copy 84 = .ok (.iload_n 2, 1) := by decide +kernel
theorem dX7_copy_85 : decode cX7_copy 85 = .ok (.imul, 1) := by decide +kernel
theorem dX7_copy_86 : decode cX7_copy 86 = .ok (.iload 4, 2) := by decide +kernel
theorem dX7_copy_88 : decode cX7_copy 88 = .ok (.iadd, 1) := by decide +kernel
theorem dX7_copy_89 : decode cX7_copy 89 = .ok (.aload_n 0, 1) := by decide +kernel
theorem dX7_copy_90 : decode cX7_copy 90 = .ok (.getfield 26, 3) := by decide +kernel
theorem dX7_copy_93 : decode cX7_copy 93 = .ok (.bipush 17, 2) := by decide +kernel
theorem dX7_copy_95 : decode cX7_copy 95 = .ok (.iload_n 1, 1) := by decide +kernel
theorem dX7_copy_96 : decode cX7_copy 96 = .ok (.imul, 1) := by decide +kernel
theorem dX7_copy_97 : decode cX7_copy 97 = .ok (.iload 4, 2) := by decide +kernel
theorem dX7_copy_99 : decode cX7_copy 99 = .ok (.iadd, 1) := by decide +kernel
theorem dX7_copy_100 : decode cX7_copy 100 = .ok (.iaload, 1) := by decide +kernel
theorem dX7_copy_101 : decode cX7_copy 101 = .ok (.iastore, 1) := by decide +kernel
theorem dX7_copy_102 : decode cX7_copy 102 = .ok (.iinc 4 1, 3) := by decide +kernel
theorem dX7_copy_105 : decode cX7_copy 105 = .ok (.goto (-33), 3) := by decide +kernel
theorem dX7_copy_108 : decode cX7_copy 108 = .ok (.iload_n 3, 1) := by decide +kernel
theorem dX7_copy_109 : decode cX7_copy 109 = .ok (.ireturn, 1) := by decide +kernel
theorem dX7_read_0 : decode cX7_read 0 = .ok (.iload_n 1, 1) := by decide +kernel
theorem dX7_read_1 : decode cX7_read 1 = .ok (.iconst 0, 1) := by decide +kernel
theorem dX7_read_2 : decode cX7_read 2 = .ok (.iconst 1, 1) := by decide +kernel
theorem dX7_read_3 : decode cX7_read 3 = .ok (.invokestatic 70, 3) := by decide +kernel
theorem dX7_read_6 : decode cX7_read 6 = .ok (.ifCond .eq 24, 3) := by decide +kernel
theorem dX7_read_9 : decode cX7_read 9 = .ok (.aload_n 0, 1) := by decide +kernel
theorem dX7_read_10 : decode cX7_read 10 = .ok (.iload_n 2, 1) := by decide +kernel
theorem dX7_read_11 : decode cX7_read 11 = .ok (.invokevirtual 79, 3) := by decide +kernel
theorem dX7_read_14 : decode cX7_read 14 = .ok (.ifCond .eq 16, 3) := by decide +kernel
theorem dX7_read_17 : decode cX7_read 17 = .ok (.iload_n 3, 1) := by decide +kernel
theorem dX7_read_18 : decode cX7_read 18 = .ok (.sipush (-10000), 3) := by decide +kernel
theorem dX7_read_21 : decode cX7_read 21 = .ok (.sipush 9999, 3) := by decide +kernel
theorem dX7_read_24 : decode cX7_read 24 = .ok (.invokestatic 70, 3) := by decide +kernel
theorem dX7_read_27 : decode cX7_read 27 = .ok (.ifCond .ne 6, 3) := by decide +kernel
theorem dX7_read_30 : decode cX7_read 30 = .ok (.ldc 78, 2) := by decide +kernel
theorem dX7_read_32 : decode cX7_read 32 = .ok (.ireturn, 1) := by decide +kernel
theorem dX7_read_33 : decode cX7_read 33 = .ok (.aload_n 0, 1) := by decide +kernel
theorem dX7_read_34 : decode cX7_read 34 = .ok (.getfield 20, 3) := by decide +kernel
theorem dX7_read_37 : decode cX7_read 37 = .ok (.bipush 32, 2) := by decide +kernel
theorem dX7_read_39 : decode cX7_read 39 = .ok (.iload_n 1, 1) := by decide +kernel
theorem dX7_read_40 : decode cX7_read 40 = .ok (.imul, 1) := by decide +kernel
theorem dX7_read_41 : decode cX7_read 41 = .ok (.iload_n 2, 1) := by decide +kernel
theorem dX7_read_42 : decode cX7_read 42 = .ok (.iadd, 1) := by decide +kernel
theorem dX7_read_43 : decode cX7_read 43 = .ok (.iaload, 1) := by decide +kernel
theorem dX7_read_44 : decode cX7_read 44 = .ok (.istore 4, 2) := by decide +kernel
theorem dX7_read_46 : decode cX7_read 46 = .ok (.aload_n 0, 1) := by decide +kernel
theorem dX7_read_47 : decode cX7_read 47 = .ok (.getfield 20, 3) := by decide +kernel
theorem dX7_read_50 : decode cX7_read 50 = .ok (.bipush 32, 2) := by decide +kernel
theorem dX7_read_52 : decode cX7_read 52 = .ok (.iload_n 1, 1) := by decide +kernel
theorem dX7_read_53 : decode cX7_read 53 = .ok (.imul, 1) := by decide +kernel
theorem dX7_read_54 : decode cX7_read 54 = .ok (.iload_n 2, 1) := by decide +kernel
theorem dX7_read_55 : decode cX7_read 55 = .ok (.iadd, 1) := by decide +kernel
theorem dX7_read_56 : decode cX7_read 56 = .ok (.iload_n 3, 1) := by decide +kernel
theorem dX7_read_57 : decode cX7_read 57 = .ok (.iastore, 1) := by decide +kernel
theorem dX7_read_58 : decode cX7_read 58 = .ok (.aload_n 0, 1) := by decide +kernel
theorem dX7_read_59 : decode cX7_read 59 = .ok (.iconst 0, 1) := by decide +kernel
theorem dX7_read_60 : decode cX7_read 60 = .ok (.putfield 66, 3) := by decide +kernel
theorem dX7_read_63 : decode cX7_read 63 = .ok (.iload 4, 2) := by decide +kernel
theorem dX7_read_65 : decode cX7_read 65 = .ok (.ireturn, 1) := by decide +kernel
theorem dX7_limit_0 : decode cX7_limit 0 = .ok (.iload_n 1, 1) := by decide +kernel
theorem dX7_limit_1 : decode cX7_limit 1 = .ok (.iconst 0, 1) := by decide +kernel
theorem dX7_limit_2 : decode cX7_limit 2 = .ok (.iconst 4, 1) := by decide +kernel
theorem dX7_limit_3 : decode cX7_limit 3 = .ok (.invokestatic 70, 3) := by decide +kernel
theorem dX7_limit_6 : decode cX7_limit 6 = .ok (.ifCond .eq 13, 3) := by decide +kernel
theorem dX7_limit_9 : decode cX7_limit 9 = .ok (.iload_n 2, 1) := by decide +kernel
theorem dX7_limit_10 : decode cX7_limit 10 = .ok (.iconst 1, 1) := by decide +kernel
theorem dX7_limit_11 : decode cX7_limit 11 = .ok (.ldc 88, 2) := by decide +kernel
theorem dX7_limit_13 : decode cX7_limit 13 = .ok (.invokestatic 70, 3) := by decide +kernel
theorem dX7_limit_16 : decode cX7_limit 16 = .ok (.ifCond .ne 6, 3) := by decide +kernel
theorem dX7_limit_19 : decode cX7_limit 19 = .ok (.ldc 78, 2) := by decide +kernel
theorem dX7_limit_21 : decode cX7_limit 21 = .ok (.ireturn, 1) := by decide +kernel
theorem dX7_limit_22 : decode cX7_limit 22 = .ok (.aload_n 0, 1) := by decide +kernel
theorem dX7_limit_23 : decode cX7_limit 23 = .ok (.getfield 29, 3) := by decide +kernel
theorem dX7_limit_26 : decode cX7_limit 26 = .ok (.iload_n 1, 1) := by decide +kernel
theorem dX7_limit_27 : decode cX7_limit 27 = .ok (.iaload, 1) := by decide +kernel
theorem dX7_limit_28 : decode cX7_limit 28 = .ok (.istore_n 3, 1) := by decide +kernel
theorem dX7_limit_29 : decode cX7_limit 29 = .ok (.aload_n 0, 1) := by decide +kernel
theorem dX7_limit_30 : decode cX7_limit 30 = .ok (.getfield 29, 3) := by decide +kernel
theorem dX7_limit_33 : decode cX7_limit 33 = .ok (.iload_n 1, 1) := by decide +kernel
theorem dX7_limit_34 : decode cX7_limit 34 = .ok (.iload_n 2, 1) := by decide +kernel
theorem dX7_limit_35 : decode cX7_limit 35 = .ok (.iastore, 1) := by decide +kernel
theorem dX7_limit_36 : decode cX7_limit 36 = .ok (.iload_n 3, 1) := by decide +kernel
theorem dX7_limit_37 : decode cX7_limit 37 = .ok (.ireturn, 1) := by decide +kernel
theorem dX7_tune_0 : decode cX7_tune 0 = .ok (.aload_n 0, 1) := by decide +kernel
theorem dX7_tune_1 : decode cX7_tune 1 = .ok (.iload_n 1, 1) := by decide +kernel
theorem dX7_tune_2 : decode cX7_tune 2 = .ok (.invokevirtual 79, 3) := by decide +kernel
theorem dX7_tune_5 : decode cX7_tune 5 = .ok (.ifCond .eq 14, 3) := by decide +kernel
theorem dX7_tune_8 : decode cX7_tune 8 = .ok (.iload_n 2, 1) := by decide +kernel
theorem dX7_tune_9 : decode cX7_tune 9 = .ok (.ldc 89, 2) := by decide +kernel
theorem dX7_tune_11 : decode cX7_tune 11 = .ok (.ldc 90, 2) := by decide +kernel
theorem dX7_tune_13 : decode cX7_tune 13 = .ok (.invokestatic 70, 3) := by decide +kernel
theorem dX7_tune_16 : decode cX7_tune 16 = .ok (.ifCond .ne 6, 3) := by decide +kernel
theorem dX7_tune_19 : decode cX7_tune 19 = .ok (.ldc 78, 2) := by decide +kernel
theorem dX7_tune_21 : decode cX7_tune 21 = .ok (.ireturn, 1) := by decide +kernel
theorem dX7_tune_22 : decode cX7_tune 22 = .ok (.aload_n 0, 1) := by decide +kernel
theorem dX7_tune_23 : decode cX7_tune 23 = .ok (.iload_n 1, 1) := by decide +kernel
theorem dX7_tune_24 : decode cX7_tune 24 = .ok (.invokevirtual 74, 3) := by decide +kernel
theorem dX7_tune_27 : decode cX7_tune 27 = .ok (.ifCond .eq 6, 3) := by decide +kernel
theorem dX7_tune_30 : decode cX7_tune 30 = .ok (.ldc 85, 2) := by decide +kernel
theorem dX7_tune_32 : decode cX7_tune 32 = .ok (.ireturn, 1) := by decide +kernel
theorem dX7_tune_33 : decode cX7_tune 33 = .ok (.aload_n 0, 1) := by decide +kernel
theorem dX7_tune_34 : decode cX7_tune 34 = .ok (.getfield 13, 3) := by decide +kernel
theorem dX7_tune_37 : decode cX7_tune 37 = .ok (.iload_n 1, 1) := by decide +kernel
theorem dX7_tune_38 : decode cX7_tune 38 = .ok (.laload, 1) := by decide +kernel
theorem dX7_tune_39 : decode cX7_tune 39 = .ok (.l2i, 1) := by decide +kernel
theorem dX7_tune_40 : decode cX7_tune 40 = .ok (.istore_n 3, 1) := by decide +kernel
theorem dX7_tune_41 : decode cX7_tune 41 = .ok (.aload_n 0, 1) := by decide +kernel
theorem dX7_tune_42 : decode cX7_tune 42 = .ok (.getfield 13, 3) := by decide +kernel
theorem dX7_tune_45 : decode cX7_tune 45 = .ok (.iload_n 1, 1) := by decide +kernel
theorem dX7_tune_46 : decode cX7_tune 46 = .ok (.iload_n 2, 1) := by decide +kernel
theorem dX7_tune_47 : decode cX7_tune 47 = .ok (.i2l, 1) := by decide +kernel
theorem dX7_tune_48 : decode cX7_tune 48 = .ok (.lastore, 1) := by decide +kernel
theorem dX7_tune_49 : decode cX7_tune 49 = .ok (.iload_n 3, 1) := by decide +kernel
theorem dX7_tune_50 : decode cX7_tune 50 = .ok (.ireturn, 1) := by decide +kernel
theorem dX7_about_0 : decode cX7_about 0 = .ok (.aload_n 0, 1) := by decide +kernel
theorem dX7_about_1 : decode cX7_about 1 = .ok (.iload_n 1, 1) := by decide +kernel
theorem dX7_about_2 : decode cX7_about 2 = .ok (.invokevirtual 79, 3) := by decide +kernel
theorem dX7_about_5 : decode cX7_about 5 = .ok (.ifCond .eq 12, 3) := by decide +kernel
theorem dX7_about_8 : decode cX7_about 8 = .ok (.iload_n 2, 1) := by decide +kernel
theorem dX7_about_9 : decode cX7_about 9 = .ok (.iconst 0, 1) := by decide +kernel
theorem dX7_about_10 : decode cX7_about 10 = .ok (.iconst 3, 1) := by decide +kernel
theorem dX7_about_11 : decode cX7_about 11 = .ok (.invokestatic 70, 3) := by decide +kernel
theorem dX7_about_14 : decode cX7_about 14 = .ok (.ifCond .ne 6, 3) := by decide +kernel
theorem dX7_about_17 : decode cX7_about 17 = .ok (.ldc 78, 2) := by decide +kernel
theorem dX7_about_19 : decode cX7_about 19 = .ok (.ireturn, 1) := by decide +kernel
theorem dX7_about_20 : decode cX7_about 20 = .ok (.iload_n 2, 1) := by decide +kernel
theorem dX7_about_21 : decode cX7_about 21 = .ok (.ifCond .ne 12, 3) := by decide +kernel
theorem dX7_about_24 : decode cX7_about 24 = .ok (.aload_n 0, 1) := by decide +kernel
theorem dX7_about_25 : decode cX7_about 25 = .ok (.getfield 7, 3) := by decide +kernel
theorem dX7_about_28 : decode cX7_about 28 = .ok (.iload_n 1, 1) := by decide +kernel
theorem dX7_about_29 : decode cX7_about 29 = .ok (.iaload, 1) := by decide +kernel
theorem dX7_about_30 : decode cX7_about 30 = .ok (.goto 36, 3) := by decide +kernel
theorem dX7_about_33 : decode cX7_about 33 = .ok (.iload_n 2, 1) := by decide +kernel
theorem dX7_about_34 : decode cX7_about 34 = .ok (.iconst 1, 1) := by decide +kernel
theorem dX7_about_35 : decode cX7_about 35 = .ok (.if_icmp .ne 11, 3) := by decide +kernel
theorem dX7_about_38 : decode cX7_about 38 = .ok (.aload_n 0, 1) := by decide +kernel
theorem dX7_about_39 : decode cX7_about 39 = .ok (.iload_n 1, 1) := by decide +kernel
theorem dX7_about_40 : decode cX7_about 40 = .ok (.invokevirtual 91, 3) := by decide +kernel
theorem dX7_about_43 : decode cX7_about 43 = .ok (.goto 23, 3) := by decide +kernel
theorem dX7_about_46 : decode cX7_about 46 = .ok (.iload_n 2, 1) := by decide +kernel
theorem dX7_about_47 : decode cX7_about 47 = .ok (.iconst 2, 1) := by decide +kernel
theorem dX7_about_48 : decode cX7_about 48 = .ok (.if_icmp .ne 11, 3) := by decide +kernel
theorem dX7_about_51 : decode cX7_about 51 = .ok (.aload_n 0, 1) := by decide +kernel
theorem dX7_about_52 : decode cX7_about 52 = .ok (.iload_n 1, 1) := by decide +kernel
theorem dX7_about_53 : decode cX7_about 53 = .ok (.invokevirtual 95, 3) := by decide +kernel
theorem dX7_about_56 : decode cX7_about 56 = .ok (.goto 10, 3) := by decide +kernel
theorem dX7_about_59 : decode cX7_about 59 = .ok (.aload_n 0, 1) := by decide +kernel
theorem dX7_about_60 : decode cX7_about 60 = .ok (.getfield 13, 3) := by decide +kernel
theorem dX7_about_63 : decode cX7_about 63 = .ok (.iload_n 1, 1) := by decide +kernel
theorem dX7_about_64 : decode cX7_about 64 = .ok (.laload, 1) := by decide +kernel
theorem dX7_about_65 : decode cX7_about 65 = .ok (.l2i, 1) := by decide +kernel
theorem dX7_about_66 : decode cX7_about 66 = .ok (.ireturn, 1) := by decide +kernel
theorem dX7_isOf_0 : decode cX7_isOf 0 = .ok (.aload_n 0, 1) := by decide +kernel
theorem dX7_isOf_1 : decode cX7_isOf 1 = .ok (.iload_n 1, 1) := by decide +kernel
theorem dX7_isOf_2 : decode cX7_isOf 2 = .ok (.invokevirtual 79, 3) := by decide +kernel
theorem dX7_isOf_5 : decode cX7_isOf 5 = .ok (.ifCond .eq 12, 3) := by decide +kernel
theorem dX7_isOf_8 : decode cX7_isOf 8 = .ok (.iload_n 2, 1) := by decide +kernel
theorem dX7_isOf_9 : decode cX7_isOf 9 = .ok (.iconst 0, 1) := by decide +kernel
theorem dX7_isOf_10 : decode cX7_isOf 10 = .ok (.iconst 5, 1) := by decide +kernel
theorem dX7_isOf_11 : decode cX7_isOf 11 = .ok (.invokestatic 70, 3) := by decide +kernel
theorem dX7_isOf_14 : decode cX7_isOf 14 = .ok (.ifCond .ne 6, 3) := by decide +kernel
theorem dX7_isOf_17 : decode cX7_isOf 17 = .ok (.ldc 78, 2) := by decide +kernel
theorem dX7_isOf_19 : decode cX7_isOf 19 = .ok (.ireturn, 1) := by decide +kernel
theorem dX7_isOf_20 : decode cX7_isOf 20 = .ok (.aload_n 0, 1) := by decide +kernel
theorem dX7_isOf_21 : decode cX7_isOf 21 = .ok (.getfield 7, 3) := by decide +kernel
theorem dX7_isOf_24 : decode cX7_isOf 24 = .ok (.iload_n 1, 1) := by decide +kernel
theorem dX7_isOf_25 : decode cX7_isOf 25 = .ok (.iaload, 1) := by decide +kernel
theorem dX7_isOf_26 : decode cX7_isOf 26 = .ok (.istore_n 3, 1) := by decide +kernel
theorem dX7_isOf_27 : decode cX7_isOf 27 = .ok (.iload_n 2, 1) := by decide +kernel
theorem dX7_isOf_28 : decode cX7_isOf 28 = .ok (.ifCond .eq 28, 3) := by decide +kernel
theorem dX7_isOf_31 : decode cX7_isOf 31 = .ok (.iload_n 3, 1) := by decide +kernel
theorem dX7_isOf_32 : decode cX7_isOf 32 = .ok (.iload_n 2, 1) := by decide +kernel
theorem dX7_isOf_33 : decode cX7_isOf 33 = .ok (.if_icmp .eq 23, 3) := by decide +kernel
theorem dX7_isOf_36 : decode cX7_isOf 36 = .ok (.iload_n 2, 1) := by decide +kernel
theorem dX7_isOf_37 : decode cX7_isOf 37 = .ok (.iconst 2, 1) := by decide +kernel
theorem dX7_isOf_38 : decode cX7_isOf 38 = .ok (.if_icmp .ne 8, 3) := by decide +kernel
theorem dX7_isOf_41 : decode cX7_isOf 41 = .ok (.iload_n 3, 1) := by decide +kernel
theorem dX7_isOf_42 : decode cX7_isOf 42 = .ok (.iconst 3, 1) := by decide +kernel
theorem dX7_isOf_43 : decode cX7_isOf 43 = .ok (.if_icmp .eq 13, 3) := by decide +kernel
theorem dX7_isOf_46 : decode cX7_isOf 46 = .ok (.iload_n 2, 1) := by decide +kernel
theorem dX7_isOf_47 : decode cX7_isOf 47 = .ok (.iconst 1, 1) := by decide +kernel
theorem dX7_isOf_48 : decode cX7_isOf 48 = .ok (.if_icmp .ne 12, 3) := by decide +kernel
theorem dX7_isOf_51 : decode cX7_isOf 51 = .ok (.iload_n 3, 1) := by decide +kernel
theorem dX7_isOf_52 : decode cX7_isOf 52 = .ok (.iconst 5, 1) := by decide +kernel
theorem dX7_isOf_53 : decode cX7_isOf 53 = .ok (.if_icmp .ne 7, 3) := by decide +kernel
theorem dX7_isOf_56 : decode cX7_isOf 56 = .ok (.iconst 1, 1) := by decide +kernel
theorem dX7_isOf_57 : decode cX7_isOf 57 = .ok (.goto 4, 3) := by decide +kernel
theorem dX7_isOf_60 : decode cX7_isOf 60 = .ok (.iconst 0, 1) := by decide +kernel
theorem dX7_isOf_61 : decode cX7_isOf 61 = .ok (.istore 4, 2) := by decide +kernel
theorem dX7_isOf_63 : decode cX7_isOf 63 = .ok (.iload 4, 2) := by decide +kernel
theorem dX7_isOf_65 : decode cX7_isOf 65 = .ok (.ifCond .eq 7, 3) := by decide +kernel
theorem dX7_isOf_68 : decode cX7_isOf 68 = .ok (.iconst 1, 1) := by decide +kernel
theorem dX7_isOf_69 : decode cX7_isOf 69 = .ok (.goto 4, 3) := by decide +kernel
theorem dX7_isOf_72 : decode cX7_isOf 72 = .ok (.iconst 0, 1) := by decide +kernel
theorem dX7_isOf_73 : decode cX7_isOf 73 = .ok (.ireturn, 1) := by decide +kernel
theorem dX7_tells_0 : decode cX7_tells 0 = .ok (.iload_n 1, 1) := by decide +kernel
theorem dX7_tells_1 : decode cX7_tells 1 = .ok (.iconst 0, 1) := by decide +kernel
theorem dX7_tells_2 : decode cX7_tells 2 = .ok (.iconst 5, 1) := by decide +kernel
theorem dX7_tells_3 : decode cX7_tells 3 = .ok (.invokestatic 70, 3) := by decide +kernel
theorem dX7_tells_6 : decode cX7_tells 6 = .ok (.ifCond .eq 22, 3) := by decide +kernel
theorem dX7_tells_9 : decode cX7_tells 9 = .ok (.iload_n 2, 1) := by decide +kernel
theorem dX7_tells_10 : decode cX7_tells 10 = .ok (.iconst 0, 1) := by decide +kernel
theorem dX7_tells_11 : decode cX7_tells 11 = .ok (.bipush 16, 2) := by decide +kernel
theorem dX7_tells_13 : decode cX7_tells 13 = .ok (.invokestatic 70, 3) := by decide +kernel
theorem dX7_tells_16 : decode cX7_tells 16 = .ok (.ifCond .eq 12, 3) := by decide +kernel
theorem dX7_tells_19 : decode cX7_tells 19 = .ok (.aload_n 0, 1) := by decide +kernel
theorem dX7_tells_20 : decode cX7_tells 20 = .ok (.iload_n 1, 1) := by decide +kernel
theorem dX7_tells_21 : decode cX7_tells 21 = .ok (.iload_n 2, 1) := by decide +kernel
theorem dX7_tells_22 : decode cX7_tells 22 = .ok (.invokevirtual 98, 3) := by decide +kernel
theorem dX7_tells_25 : decode cX7_tells 25 = .ok (.goto 5, 3) := by decide +kernel
theorem dX7_tells_28 : decode cX7_tells 28 = .ok (.ldc 78, 2) := by decide +kernel
theorem dX7_tells_30 : decode cX7_tells 30 = .ok (.ireturn, 1) := by decide +kernel
theorem dX7_next_0 : decode cX7_next 0 = .ok (.iconst 1, 1) := by decide +kernel
theorem dX7_next_1 : decode cX7_next 1 = .ok (.istore 4, 2) := by decide +kernel
theorem dX7_next_3 : decode cX7_next 3 = .ok (.iload 4, 2) := by decide +kernel
theorem dX7_next_5 : decode cX7_next 5 = .ok (.aload_n 0, 1) := by decide +kernel
theorem dX7_next_6 : decode cX7_next 6 = .ok (.getfield 58, 3) := by decide +kernel
theorem dX7_next_9 : decode cX7_next 9 = .ok (.if_icmp .gt 46, 3) := by decide +kernel
theorem dX7_next_12 : decode cX7_next 12 = .ok (.aload_n 0, 1) := by decide +kernel
theorem dX7_next_13 : decode cX7_next 13 = .ok (.getfield 20, 3) := by decide +kernel
theorem dX7_next_16 : decode cX7_next 16 = .ok (.bipush 32, 2) := by decide +kernel
theorem dX7_next_18 : decode cX7_next 18 = .ok (.iload_n 1, 1) := by decide +kernel
theorem dX7_next_19 : decode cX7_next 19 = .ok (.imul, 1) := by decide +kernel
theorem dX7_next_20 : decode cX7_next 20 = .ok (.iload_n 2, 1) := by decide +kernel
theorem dX7_next_21 : decode cX7_next 21 = .ok (.iload_n 3, 1) := by decide +kernel
theorem dX7_next_22 : decode cX7_next 22 = .ok (.iload 4, 2) := by decide +kernel
theorem dX7_next_24 : decode cX7_next 24 = .ok (.imul, 1) := by decide +kernel
theorem dX7_next_25 : decode cX7_next 25 = .ok (.iadd, 1) := by decide +kernel
theorem dX7_next_26 : decode cX7_next 26 = .ok (.aload_n 0, 1) := by decide +kernel
theorem dX7_next_27 : decode cX7_next 27 = .ok (.getfield 58, 3) := by decide +kernel
theorem dX7_next_30 : decode cX7_next 30 = .ok (.iconst 2, 1) := by decide +kernel
theorem dX7_next_31 : decode cX7_next 31 = .ok (.imul, 1) := by decide +kernel
theorem dX7_next_32 : decode cX7_next 32 = .ok (.iadd, 1) := by decide +kernel
theorem dX7_next_33 : decode cX7_next 33 = .ok (.aload_n 0, 1) := by decide +kernel
theorem dX7_next_34 : decode cX7_next 34 = .ok (.getfield 58, 3) := by decide +kernel
theorem dX7_next_37 : decode cX7_next 37 = .ok (.irem, 1) := by decide +kernel
theorem dX7_next_38 : decode cX7_next 38 = .ok (.iadd, 1) := by decide +kernel
theorem dX7_next_39 : decode cX7_next 39 = .ok (.iaload, 1) := by decide +kernel
theorem dX7_next_40 : decode cX7_next 40 = .ok (.sipush (-10000), 3) := by decide +kernel
theorem dX7_next_43 : decode cX7_next 43 = .ok (.if_icmp .eq 6, 3) := by decide +kernel
theorem dX7_next_46 : decode cX7_next 46 = .ok (.iload 4, 2) := by decide +kernel
theorem dX7_next_48 : decode cX7_next 48 = .ok (.ireturn, 1) := by decide +kernel
theorem dX7_next_49 : decode cX7_next 49 = .ok (.iinc 4 1, 3) := by decide +kernel
theorem dX7_next_52 : decode cX7_next 52 = .ok (.goto (-49), 3) := by decide +kernel
theorem dX7_next_55 : decode cX7_next 55 = .ok (.iconst 0, 1) := by decide +kernel
theorem dX7_next_56 : decode cX7_next 56 = .ok (.ireturn, 1) := by decide +kernel
theorem dX7_unbentAt_0 : decode cX7_unbentAt 0 = .ok (.iconst 0, 1) := by decide +kernel
theorem dX7_unbentAt_1 : decode cX7_unbentAt 1 = .ok (.istore_n 3, 1) := by decide +kernel
theorem dX7_unbentAt_2 : decode cX7_unbentAt 2 = .ok (.iload_n 3, 1) := by decide +kernel
theorem dX7_unbentAt_3 : decode cX7_unbentAt 3 = .ok (.iconst 2, 1) := by decide +kernel
theorem dX7_unbentAt_4 : decode cX7_unbentAt 4 = .ok (.aload_n 0, 1) := by decide +kernel
theorem dX7_unbentAt_5 : decode cX7_unbentAt 5 = .ok (.getfield 58, 3) := by decide +kernel
theorem dX7_unbentAt_8 : decode cX7_unbentAt 8 = .ok (.imul, 1) := by decide +kernel
theorem dX7_unbentAt_9 : decode cX7_unbentAt 9 = .ok (.if_icmp .ge 53, 3) := by decide +kernel
theorem dX7_unbentAt_12 : decode cX7_unbentAt 12 = .ok (.aload_n 0, 1) := by decide +kernel
theorem dX7_unbentAt_13 : decode cX7_unbentAt 13 = .ok (.getfield 66, 3) := by decide +kernel
theorem dX7_unbentAt_16 : decode cX7_unbentAt 16 = .ok (.ifCond .ne 46, 3) := by decide +kernel
theorem dX7_unbentAt_19 : decode cX7_unbentAt 19 = .ok (.aload_n 0, 1) := by decide +kernel
theorem dX7_unbentAt_20 : decode cX7_unbentAt 20 = .ok (.getfield 48, 3) := by decide +kernel
theorem dX7_unbentAt_23 : decode cX7_unbentAt 23 = .ok (.bipush 32, 2) := by decide +kernel
theorem dX7_unbentAt_25 : decode cX7_unbentAt 25 = .ok (.iload_n 3, 1) := by decide +kernel
theorem dX7_unbentAt_26 : decode cX7_unbentAt 26 = .ok (.aload_n 0, 1) := by decide +kernel
theorem dX7_unbentAt_27 : decode cX7_unbentAt 27 = .ok (.getfield 58, 3) := by decide +kernel
theorem dX7_unbentAt_30 : decode cX7_unbentAt 30 = .ok (.idiv, 1) := by decide +kernel
theorem dX7_unbentAt_31 : decode cX7_unbentAt 31 = .ok (.imul, 1) := by decide +kernel
theorem dX7_unbentAt_32 : decode cX7_unbentAt 32 = .ok (.iload_n 3, 1) := by decide +kernel
theorem dX7_unbentAt_33 : decode cX7_unbentAt 33 = .ok (.aload_n 0, 1) := by decide +kernel
theorem dX7_unbentAt_34 : decode cX7_unbentAt 34 = .ok (.getfield 58, 3) := by decide +kernel
theorem dX7_unbentAt_37 : decode cX7_unbentAt 37 = .ok (.irem, 1) := by decide +kernel
theorem dX7_unbentAt_38 : decode cX7_unbentAt 38 = .ok (.iadd, 1) := by decide +kernel
theorem dX7_unbentAt_39 : decode cX7_unbentAt 39 = .ok (.aload_n 0, 1) := by decide +kernel
theorem dX7_unbentAt_40 : decode cX7_unbentAt 40 = .ok (.iload_n 3, 1) := by decide +kernel
theorem dX7_unbentAt_41 : decode cX7_unbentAt 41 = .ok (.aload_n 0, 1) := by decide +kernel
theorem dX7_unbentAt_42 : decode cX7_unbentAt 42 = .ok (.getfield 58, 3) := by decide +kernel
theorem dX7_unbentAt_45 : decode cX7_unbentAt 45 = .ok (.idiv, 1) := by decide +kernel
theorem dX7_unbentAt_46 : decode cX7_unbentAt 46 = .ok (.iload_n 3, 1) := by decide +kernel
theorem dX7_unbentAt_47 : decode cX7_unbentAt 47 = .ok (.aload_n 0, 1) := by decide +kernel
theorem dX7_unbentAt_48 : decode cX7_unbentAt 48 = .ok (.getfield 58, 3) := by decide +kernel
theorem dX7_unbentAt_51 : decode cX7_unbentAt 51 = .ok (.irem, 1) := by decide +kernel
theorem dX7_unbentAt_52 : decode cX7_unbentAt 52 = .ok (.invokevirtual 102, 3) := by decide +kernel
theorem dX7_unbentAt_55 : decode cX7_unbentAt 55 = .ok (.lastore, 1) := by decide +kernel
theorem dX7_unbentAt_56 : decode cX7_unbentAt 56 = .ok (.iinc 3 1, 3) := by decide +kernel
theorem dX7_unbentAt_59 : decode cX7_unbentAt 59 = .ok (.goto (-57), 3) := by decide +kernel
theorem dX7_unbentAt_62 : decode cX7_unbentAt 62 = .ok (.aload_n 0, 1) := by decide +kernel
theorem dX7_unbentAt_63 : decode cX7_unbentAt 63 = .ok (.iconst 1, 1) := by decide +kernel
theorem dX7_unbentAt_64 : decode cX7_unbentAt 64 = .ok (.putfield 66, 3) := by decide +kernel
theorem dX7_unbentAt_67 : decode cX7_unbentAt 67 = .ok (.aload_n 0, 1) := by decide +kernel
theorem dX7_unbentAt_68 : decode cX7_unbentAt 68 = .ok (.getfield 48, 3) := by decide +kernel
theorem dX7_unbentAt_71 : decode cX7_unbentAt 71 = .ok (.bipush 32, 2) := by decide +kernel
theorem dX7_unbentAt_73 : decode cX7_unbentAt 73 = .ok (.iload_n 1, 1) := by decide +kernel
theorem dX7_unbentAt_74 : decode cX7_unbentAt 74 = .ok (.imul, 1) := by decide +kernel
theorem dX7_unbentAt_75 : decode cX7_unbentAt 75 = .ok (.iload_n 2, 1) := by decide +kernel
theorem dX7_unbentAt_76 : decode cX7_unbentAt 76 = .ok (.iadd, 1) := by decide +kernel
theorem dX7_unbentAt_77 : decode cX7_unbentAt 77 = .ok (.laload, 1) := by decide +kernel
theorem dX7_unbentAt_78 : decode cX7_unbentAt 78 = .ok (.lreturn, 1) := by decide +kernel
theorem dX7_between_0 : decode cX7_between 0 = .ok (.aload_n 0, 1) := by decide +kernel
theorem dX7_between_1 : decode cX7_between 1 = .ok (.getfield 20, 3) := by decide +kernel
theorem dX7_between_4 : decode cX7_between 4 = .ok (.bipush 32, 2) := by decide +kernel
theorem dX7_between_6 : decode cX7_between 6 = .ok (.iload_n 1, 1) := by decide +kernel
theorem dX7_between_7 : decode cX7_between 7 = .ok (.imul, 1) := by decide +kernel
theorem dX7_between_8 : decode cX7_between 8 = .ok (.iload_n 2, 1) := by decide +kernel
theorem dX7_between_9 : decode cX7_between 9 = .ok (.iadd, 1) := by decide +kernel
theorem dX7_between_10 : decode cX7_between 10 = .ok (.iaload, 1) := by decide +kernel
theorem dX7_between_11 : decode cX7_between 11 = .ok (.sipush (-10000), 3) := by decide +kernel
theorem dX7_between_14 : decode cX7_between 14 = .ok (.if_icmp .eq 16, 3) := by decide +kernel
theorem dX7_between_17 : decode cX7_between 17 = .ok (.aload_n 0, 1) := by decide +kernel
theorem dX7_between_18 : decode cX7_between 18 = .ok (.getfield 20, 3) := by decide +kernel
theorem dX7_between_21 : decode cX7_between 21 = .ok (.bipush 32, 2) := by decide +kernel
theorem dX7_between_23 : decode cX7_between 23 = .ok (.iload_n 1, 1) := by decide +kernel
theorem dX7_between_24 : decode cX7_between 24 = .ok (.imul, 1) := by decide +kernel
theorem dX7_between_25 : decode cX7_between 25 = .ok (.iload_n 2, 1) := by decide +kernel
theorem dX7_between_26 : decode cX7_between 26 = .ok (.iadd, 1) := by decide +kernel
theorem dX7_between_27 : decode cX7_between 27 = .ok (.iaload, 1) := by decide +kernel
theorem dX7_between_28 : decode cX7_between 28 = .ok (.i2l, 1) := by decide +kernel
theorem dX7_between_29 : decode cX7_between 29 = .ok (.lreturn, 1) := by decide +kernel
theorem dX7_between_30 : decode cX7_between 30 = .ok (.aload_n 0, 1) := by decide +kernel
theorem dX7_between_31 : decode cX7_between 31 = .ok (.iload_n 1, 1) := by decide +kernel
theorem dX7_between_32 : decode cX7_between 32 = .ok (.iload_n 2, 1) := by decide +kernel
theorem dX7_between_33 : decode cX7_between 33 = .ok (.iconst (-1), 1) := by decide +kernel
theorem dX7_between_34 : decode cX7_between 34 = .ok (.invokevirtual 106, 3) := by decide +kernel
theorem dX7_between_37 : decode cX7_between 37 = .ok (.istore_n 3, 1) := by decide +kernel
theorem dX7_between_38 : decode cX7_between 38 = .ok (.aload_n 0, 1) := by decide +kernel
theorem dX7_between_39 : decode cX7_between 39 = .ok (.iload_n 1, 1) := by decide +kernel
theorem dX7_between_40 : decode cX7_between 40 = .ok (.iload_n 2, 1) := by decide +kernel
theorem dX7_between_41 : decode cX7_between 41 = .ok (.iconst 1, 1) := by decide +kernel
theorem dX7_between_42 : decode cX7_between 42 = .ok (.invokevirtual 106, 3) := by decide +kernel
theorem dX7_between_45 : decode cX7_between 45 = .ok (.istore 4, 2) := by decide +kernel
theorem dX7_between_47 : decode cX7_between 47 = .ok (.iload_n 3, 1) := by decide +kernel
theorem dX7_between_48 : decode cX7_between 48 = .ok (.ifCond .ne 5, 3) := by decide +kernel
theorem dX7_between_51 : decode cX7_between 51 = .ok (.lconst 0, 1) := by decide +kernel
theorem dX7_between_52 : decode cX7_between 52 = .ok (.lreturn, 1) := by decide +kernel
theorem dX7_between_53 : decode cX7_between 53 = .ok (.aload_n 0, 1) := by decide +kernel
theorem dX7_between_54 : decode cX7_between 54 = .ok (.getfield 20, 3) := by decide +kernel
theorem dX7_between_57 : decode cX7_between 57 = .ok (.bipush 32, 2) := by decide +kernel
theorem dX7_between_59 : decode cX7_between 59 = .ok (.iload_n 1, 1) := by decide +kernel
theorem dX7_between_60 : decode cX7_between 60 = .ok (.imul, 1) := by decide +kernel
theorem dX7_between_61 : decode cX7_between 61 = .ok (.iload_n 2, 1) := by decide +kernel
theorem dX7_between_62 : decode cX7_between 62 = .ok (.iload_n 3, 1) := by decide +kernel
theorem dX7_between_63 : decode cX7_between 63 = .ok (.isub, 1) := by decide +kernel
theorem dX7_between_64 : decode cX7_between 64 = .ok (.aload_n 0, 1) := by decide +kernel
theorem dX7_between_65 : decode cX7_between 65 = .ok (.getfield 58, 3) := by decide +kernel
theorem dX7_between_68 : decode cX7_between 68 = .ok (.iadd, 1) := by decide +kernel
theorem dX7_between_69 : decode cX7_between 69 = .ok (.aload_n 0, 1) := by decide +kernel
theorem dX7_between_70 : decode cX7_between 70 = .ok (.getfield 58, 3) := by decide +kernel
theorem dX7_between_73 : decode cX7_between 73 = .ok (.irem, 1) := by decide +kernel
theorem dX7_between_74 : decode cX7_between 74 = .ok (.iadd, 1) := by decide +kernel
theorem dX7_between_75 : decode cX7_between 75 = .ok (.iaload, 1) := by decide +kernel
theorem dX7_between_76 : decode cX7_between 76 = .ok (.i2l, 1) := by decide +kernel
theorem dX7_between_77 : decode cX7_between 77 = .ok (.lstore 5, 2) := by decide +kernel
theorem dX7_between_79 : decode cX7_between 79 = .ok (.aload_n 0, 1) := by decide +kernel
theorem dX7_between_80 : decode cX7_between 80 = .ok (.getfield 20, 3) := by decide +kernel
theorem dX7_between_83 : decode cX7_between 83 = .ok (.bipush 32, 2) := by decide +kernel
theorem dX7_between_85 : decode cX7_between 85 = .ok (.iload_n 1, 1) := by decide +kernel
theorem dX7_between_86 : decode cX7_between 86 = .ok (.imul, 1) := by decide +kernel
theorem dX7_between_87 : decode cX7_between 87 = .ok (.iload_n 2, 1) := by decide +kernel
theorem dX7_between_88 : decode cX7_between 88 = .ok (.iload 4, 2) := by decide +kernel
theorem dX7_between_90 : decode cX7_between 90 = .ok (.iadd, 1) := by decide +kernel
theorem dX7_between_91 : decode cX7_between 91 = .ok (.aload_n 0, 1) := by decide +kernel
theorem dX7_between_92 : decode cX7_between 92 = .ok (.getfield 58, 3) := by decide +kernel
theorem dX7_between_95 : decode cX7_between 95 = .ok (.irem, 1) := by decide +kernel
theorem dX7_between_96 : decode cX7_between 96 = .ok (.iadd, 1) := by decide +kernel
theorem dX7_between_97 : decode cX7_between 97 = .ok (.iaload, 1) := by decide +kernel
theorem dX7_between_98 : decode cX7_between 98 = .ok (.i2l, 1) := by decide +kernel
theorem dX7_between_99 : decode cX7_between 99 = .ok (.lstore 7, 2) := by decide +kernel
theorem dX7_between_101 : decode cX7_between 101 = .ok (.lload 5, 2) := by decide +kernel
theorem dX7_between_103 : decode cX7_between 103 = .ok (.iload 4, 2) := by decide +kernel
theorem dX7_between_105 : decode cX7_between 105 = .ok (.i2l, 1) := by decide +kernel
theorem dX7_between_106 : decode cX7_between 106 = .ok (.lmul, 1) := by decide +kernel
theorem dX7_between_107 : decode cX7_between 107 = .ok (.lload 7, 2) := by decide +kernel
theorem dX7_between_109 : decode cX7_between 109 = .ok (.iload_n 3, 1) := by decide +kernel
theorem dX7_between_110 : decode cX7_between 110 = .ok (.i2l, 1) := by decide +kernel
theorem dX7_between_111 : decode cX7_between 111 = .ok (.lmul, 1) := by decide +kernel
theorem dX7_between_112 : decode cX7_between 112 = .ok (.ladd, 1) := by decide +kernel
theorem dX7_between_113 : decode cX7_between 113 = .ok (.iload_n 3, 1) := by decide +kernel
theorem dX7_between_114 : decode cX7_between 114 = .ok (.iload 4, 2) := by decide +kernel
theorem dX7_between_116 : decode cX7_between 116 = .ok (.iadd, 1) := by decide +kernel
theorem dX7_between_117 : decode cX7_between 117 = .ok (.i2l, 1) := by decide +kernel
theorem dX7_between_118 : decode cX7_between 118 = .ok (.invokestatic 110, 3) := by decide +kernel
theorem dX7_between_121 : decode cX7_between 121 = .ok (.lreturn, 1) := by decide +kernel
theorem dX7_readingAt_0 : decode cX7_readingAt 0 = .ok (.aload_n 0, 1) := by decide +kernel
theorem dX7_readingAt_1 : decode cX7_readingAt 1 = .ok (.iload_n 1, 1) := by decide +kernel
theorem dX7_readingAt_2 : decode cX7_readingAt 2 = .ok (.iload_n 2, 1) := by decide +kernel
theorem dX7_readingAt_3 : decode cX7_readingAt 3 = .ok (.invokevirtual 114, 3) := by decide +kernel
theorem dX7_readingAt_6 : decode cX7_readingAt 6 = .ok (.aload_n 0, 1) := by decide +kernel
theorem dX7_readingAt_7 : decode cX7_readingAt 7 = .ok (.getfield 17, 3) := by decide +kernel
theorem dX7_readingAt_10 : decode cX7_readingAt 10 = .ok (.bipush 32, 2) := by decide +kernel
theorem dX7_readingAt_12 : decode cX7_readingAt 12 = .ok (.iload_n 1, 1) := by decide +kernel
theorem dX7_readingAt_13 : decode cX7_readingAt 13 = .ok (.imul, 1) := by decide +kernel
theorem dX7_readingAt_14 : decode cX7_readingAt 14 = .ok (.iload_n 2, 1) := by decide +kernel
theorem dX7_readingAt_15 : decode cX7_readingAt 15 = .ok (.iadd, 1) := by decide +kernel
theorem dX7_readingAt_16 : decode cX7_readingAt 16 = .ok (.laload, 1) := by decide +kernel
theorem dX7_readingAt_17 : decode cX7_readingAt 17 = .ok (.ladd, 1) := by decide +kernel
theorem dX7_readingAt_18 : decode cX7_readingAt 18 = .ok (.lreturn, 1) := by decide +kernel
theorem dX7_unbent_0 : decode cX7_unbent 0 = .ok (.iload_n 1, 1) := by decide +kernel
theorem dX7_unbent_1 : decode cX7_unbent 1 = .ok (.iconst 0, 1) := by decide +kernel
theorem dX7_unbent_2 : decode cX7_unbent 2 = .ok (.iconst 1, 1) := by decide +kernel
theorem dX7_unbent_3 : decode cX7_unbent 3 = .ok (.invokestatic 70, 3) := by decide +kernel
theorem dX7_unbent_6 : decode cX7_unbent 6 = .ok (.ifCond .eq 21, 3) := by decide +kernel
theorem dX7_unbent_9 : decode cX7_unbent 9 = .ok (.aload_n 0, 1) := by decide +kernel
theorem dX7_unbent_10 : decode cX7_unbent 10 = .ok (.iload_n 2, 1) := by decide +kernel
theorem dX7_unbent_11 : decode cX7_unbent 11 = .ok (.invokevirtual 79, 3) := by decide +kernel
theorem dX7_unbent_14 : decode cX7_unbent 14 = .ok (.ifCond .eq 13, 3) := by decide +kernel
theorem dX7_unbent_17 : decode cX7_unbent 17 = .ok (.aload_n 0, 1) := by decide +kernel
theorem dX7_unbent_18 : decode cX7_unbent 18 = .ok (.iload_n 1, 1) := by decide +kernel
theorem dX7_unbent_19 : decode cX7_unbent 19 = .ok (.iload_n 2, 1) := by decide +kernel
theorem dX7_unbent_20 : decode cX7_unbent 20 = .ok (.invokevirtual 114, 3) := by decide +kernel
theorem dX7_unbent_23 : decode cX7_unbent 23 = .ok (.l2i, 1) := by decide +kernel
theorem dX7_unbent_24 : decode cX7_unbent 24 = .ok (.goto 5, 3) := by decide +kernel
theorem dX7_unbent_27 : decode cX7_unbent 27 = .ok (.ldc 78, 2) := by decide +kernel
theorem dX7_unbent_29 : decode cX7_unbent 29 = .ok (.ireturn, 1) := by decide +kernel
theorem dX7_reading_0 : decode cX7_reading 0 = .ok (.iload_n 1, 1) := by decide +kernel
theorem dX7_reading_1 : decode cX7_reading 1 = .ok (.iconst 0, 1) := by decide +kernel
theorem dX7_reading_2 : decode cX7_reading 2 = .ok (.iconst 1, 1) := by decide +kernel
theorem dX7_reading_3 : decode cX7_reading 3 = .ok (.invokestatic 70, 3) := by decide +kernel
theorem dX7_reading_6 : decode cX7_reading 6 = .ok (.ifCond .eq 21, 3) := by decide +kernel
theorem dX7_reading_9 : decode cX7_reading 9 = .ok (.aload_n 0, 1) := by decide +kernel
theorem dX7_reading_10 : decode cX7_reading 10 = .ok (.iload_n 2, 1) := by decide +kernel
theorem dX7_reading_11 : decode cX7_reading 11 = .ok (.invokevirtual 79, 3) := by decide +kernel
theorem dX7_reading_14 : decode cX7_reading 14 = .ok (.ifCond .eq 13, 3) := by decide +kernel
theorem dX7_reading_17 : decode cX7_reading 17 = .ok (.aload_n 0, 1) := by decide +kernel
theorem dX7_reading_18 : decode cX7_reading 18 = .ok (.iload_n 1, 1) := by decide +kernel
theorem dX7_reading_19 : decode cX7_reading 19 = .ok (.iload_n 2, 1) := by decide +kernel
theorem dX7_reading_20 : decode cX7_reading 20 = .ok (.invokevirtual 117, 3) := by decide +kernel
theorem dX7_reading_23 : decode cX7_reading 23 = .ok (.l2i, 1) := by decide +kernel
theorem dX7_reading_24 : decode cX7_reading 24 = .ok (.goto 5, 3) := by decide +kernel
theorem dX7_reading_27 : decode cX7_reading 27 = .ok (.ldc 78, 2) := by decide +kernel
theorem dX7_reading_29 : decode cX7_reading 29 = .ok (.ireturn, 1) := by decide +kernel
theorem dX7_middle_0 : decode cX7_middle 0 = .ok (.lconst 0, 1) := by decide +kernel
theorem dX7_middle_1 : decode cX7_middle 1 = .ok (.lstore_n 1, 1) := by decide +kernel
theorem dX7_middle_2 : decode cX7_middle 2 = .ok (.iconst 0, 1) := by decide +kernel
theorem dX7_middle_3 : decode cX7_middle 3 = .ok (.istore_n 3, 1) := by decide +kernel
theorem dX7_middle_4 : decode cX7_middle 4 = .ok (.iload_n 3, 1) := by decide +kernel
theorem dX7_middle_5 : decode cX7_middle 5 = .ok (.aload_n 0, 1) := by decide +kernel
theorem dX7_middle_6 : decode cX7_middle 6 = .ok (.getfield 58, 3) := by decide +kernel
theorem dX7_middle_9 : decode cX7_middle 9 = .ok (.if_icmp .ge 18, 3) := by decide +kernel
theorem dX7_middle_12 : decode cX7_middle 12 = .ok (.lload_n 1, 1) := by decide +kernel
theorem dX7_middle_13 : decode cX7_middle 13 = .ok (.aload_n 0, 1) := by decide +kernel
theorem dX7_middle_14 : decode cX7_middle 14 = .ok (.iconst 0, 1) := by decide +kernel
theorem dX7_middle_15 : decode cX7_middle 15 = .ok (.iload_n 3, 1) := by decide +kernel
theorem dX7_middle_16 : decode cX7_middle 16 = .ok (.invokevirtual 117, 3) := by decide +kernel
theorem dX7_middle_19 : decode cX7_middle 19 = .ok (.ladd, 1) := by decide +kernel
theorem dX7_middle_20 : decode cX7_middle 20 = .ok (.lstore_n 1, 1) := by decide +kernel
theorem dX7_middle_21 : decode cX7_middle 21 = .ok (.iinc 3 1, 3) := by decide +kernel
theorem dX7_middle_24 : decode cX7_middle 24 = .ok (.goto (-20), 3) := by decide +kernel
theorem dX7_middle_27 : decode cX7_middle 27 = .ok (.lload_n 1, 1) := by decide +kernel
theorem dX7_middle_28 : decode cX7_middle 28 = .ok (.aload_n 0, 1) := by decide +kernel
theorem dX7_middle_29 : decode cX7_middle 29 = .ok (.getfield 58, 3) := by decide +kernel
theorem dX7_middle_32 : decode cX7_middle 32 = .ok (.i2l, 1) := by decide +kernel
theorem dX7_middle_33 : decode cX7_middle 33 = .ok (.invokestatic 110, 3) := by decide +kernel
theorem dX7_middle_36 : decode cX7_middle 36 = .ok (.lreturn, 1) := by decide +kernel
theorem dX7_spread_0 : decode cX7_spread 0 = .ok (.lconst 0, 1) := by decide +kernel
theorem dX7_spread_1 : decode cX7_spread 1 = .ok (.lstore_n 2, 1) := by decide +kernel
theorem dX7_spread_2 : decode cX7_spread 2 = .ok (.lconst 0, 1) := by decide +kernel
theorem dX7_spread_3 : decode cX7_spread 3 = .ok (.lstore 4, 2) := by decide +kernel
theorem dX7_spread_5 : decode cX7_spread 5 = .ok (.iconst 0, 1) := by decide +kernel
theorem dX7_spread_6 : decode cX7_spread 6 = .ok (.istore 6, 2) := by decide +kernel
theorem dX7_spread_8 : decode cX7_spread 8 = .ok (.iconst 0, 1) := by decide +kernel
theorem dX7_spread_9 : decode cX7_spread 9 = .ok (.istore 7, 2) := by decide +kernel
theorem dX7_spread_11 : decode cX7_spread 11 = .ok (.iload 7, 2) := by decide +kernel
theorem dX7_spread_13 : decode cX7_spread 13 = .ok (.aload_n 0, 1) := by decide +kernel
theorem dX7_spread_14 : decode cX7_spread 14 = .ok (.getfield 58, 3) := by decide +kernel
theorem dX7_spread_17 : decode cX7_spread 17 = .ok (.if_icmp .ge 83, 3) := by decide +kernel
theorem dX7_spread_20 : decode cX7_spread 20 = .ok (.aload_n 0, 1) := by decide +kernel
theorem dX7_spread_21 : decode cX7_spread 21 = .ok (.iload 7, 2) := by decide +kernel
theorem dX7_spread_23 : decode cX7_spread 23 = .ok (.invokevirtual 91, 3) := by decide +kernel
theorem dX7_spread_26 : decode cX7_spread 26 = .ok (.iload_n 1, 1) := by decide +kernel
theorem dX7_spread_27 : decode cX7_spread 27 = .ok (.if_icmp .ne 67, 3) := by decide +kernel
theorem dX7_spread_30 : decode cX7_spread 30 = .ok (.iload 6, 2) := by decide +kernel
theorem dX7_spread_32 : decode cX7_spread 32 = .ok (.ifCond .eq 15, 3) := by decide +kernel
theorem dX7_spread_35 : decode cX7_spread 35 = .ok (.aload_n 0, 1) := by decide +kernel
theorem dX7_spread_36 : decode cX7_spread 36 = .ok (.getfield 13, 3) := by decide +kernel
theorem dX7_spread_39 : decode cX7_spread 39 = .ok (.iload 7, 2) := by decide +kernel
theorem dX7_spread_41 : decode cX7_spread 41 = .ok (.laload, 1) := by decide +kernel
theorem dX7_spread_42 : decode cX7_spread 42 = .ok (.lload_n 2, 1) := by decide +kernel
theorem dX7_spread_43 : decode cX7_spread 43 = .ok (.lcmp, 1) := by decide +kernel
theorem dX7_spread_44 : decode cX7_spread 44 = .ok (.ifCond .ge 13, 3) := by decide +kernel
theorem dX7_spread_47 : decode cX7_spread 47 = .ok (.aload_n 0, 1) := by decide +kernel
theorem dX7_spread_48 : decode cX7_spread 48 = .ok (.getfield 13, 3) := by decide +kernel
theorem dX7_spread_51 : decode cX7_spread 51 = .ok (.iload 7, 2) := by decide +kernel
theorem dX7_spread_53 : decode cX7_spread 53 = .ok (.laload, 1) := by decide +kernel
theorem dX7_spread_54 : decode cX7_spread 54 = .ok (.goto 4, 3) := by decide +kernel
theorem dX7_spread_57 : decode cX7_spread 57 = .ok (.lload_n 2, 1) := by decide +kernel
theorem dX7_spread_58 : decode cX7_spread 58 = .ok (.lstore_n 2, 1) := by decide +kernel
theorem dX7_spread_59 : decode cX7_spread 59 = .ok (.iload 6, 2) := by decide +kernel
theorem dX7_spread_61 : decode cX7_spread 61 = .ok (.ifCond .eq 16, 3) := by decide +kernel
theorem dX7_spread_64 : decode cX7_spread 64 = .ok (.aload_n 0, 1) := by decide +kernel
theorem dX7_spread_65 : decode cX7_spread 65 = .ok (.getfield 13, 3) := by decide +kernel
theorem dX7_spread_68 : decode cX7_spread 68 = .ok (.iload 7, 2) := by decide +kernel
theorem dX7_spread_70 : decode cX7_spread 70 = .ok (.laload, 1) := by decide +kernel
theorem dX7_spread_71 : decode cX7_spread 71 = .ok (.lload 4, 2) := by decide +kernel
theorem dX7_spread_73 : decode cX7_spread 73 = .ok (.lcmp, 1) := by decide +kernel
theorem dX7_spread_74 : decode cX7_spread 74 = .ok (.ifCond .le 13, 3) := by decide +kernel
theorem dX7_spread_77 : decode cX7_spread 77 = .ok (.aload_n 0, 1) := by decide +kernel
theorem dX7_spread_78 : decode cX7_spread 78 = .ok (.getfield 13, 3) := by decide +kernel
theorem dX7_spread_81 : decode cX7_spread 81 = .ok (.iload 7, 2) := by decide +kernel
theorem dX7_spread_83 : decode cX7_spread 83 = .ok (.laload, 1) := by decide +kernel
theorem dX7_spread_84 : decode cX7_spread 84 = .ok (.goto 5, 3) := by decide +kernel
theorem dX7_spread_87 : decode cX7_spread 87 = .ok (.lload 4, 2) := by decide +kernel
theorem dX7_spread_89 : decode cX7_spread 89 = .ok (.lstore 4, 2) := by decide +kernel
theorem dX7_spread_91 : decode cX7_spread 91 = .ok (.iconst 1, 1) := by decide +kernel
theorem dX7_spread_92 : decode cX7_spread 92 = .ok (.istore 6, 2) := by decide +kernel
theorem dX7_spread_94 : decode cX7_spread 94 = .ok (.iinc 7 1, 3) := by decide +kernel
theorem dX7_spread_97 : decode cX7_spread 97 = .ok (.goto (-86), 3) := by decide +kernel
theorem dX7_spread_100 : decode cX7_spread 100 = .ok (.lload 4, 2) := by decide +kernel
theorem dX7_spread_102 : decode cX7_spread 102 = .ok (.lload_n 2, 1) := by decide +kernel
theorem dX7_spread_103 : decode cX7_spread 103 = .ok (.lsub, 1) := by decide +kernel
theorem dX7_spread_104 : decode cX7_spread 104 = .ok (.lreturn, 1) := by decide +kernel
theorem dX7_isLoose_0 : decode cX7_isLoose 0 = .ok (.aload_n 0, 1) := by decide +kernel
theorem dX7_isLoose_1 : decode cX7_isLoose 1 = .ok (.iload_n 1, 1) := by decide +kernel
theorem dX7_isLoose_2 : decode cX7_isLoose 2 = .ok (.invokevirtual 74, 3) := by decide +kernel
theorem dX7_isLoose_5 : decode cX7_isLoose 5 = .ok (.ifCond .ne 18, 3) := by decide +kernel
theorem dX7_isLoose_8 : decode cX7_isLoose 8 = .ok (.aload_n 0, 1) := by decide +kernel
theorem dX7_isLoose_9 : decode cX7_isLoose 9 = .ok (.getfield 13, 3) := by decide +kernel
theorem dX7_isLoose_12 : decode cX7_isLoose 12 = .ok (.iload_n 1, 1) := by decide +kernel
theorem dX7_isLoose_13 : decode cX7_isLoose 13 = .ok (.laload, 1) := by decide +kernel
theorem dX7_isLoose_14 : decode cX7_isLoose 14 = .ok (.lconst 0, 1) := by decide +kernel
theorem dX7_isLoose_15 : decode cX7_isLoose 15 = .ok (.lcmp, 1) := by decide +kernel
theorem dX7_isLoose_16 : decode cX7_isLoose 16 = .ok (.ifCond .ge 7, 3) := by decide +kernel
theorem dX7_isLoose_19 : decode cX7_isLoose 19 = .ok (.iconst 1, 1) := by decide +kernel
theorem dX7_isLoose_20 : decode cX7_isLoose 20 = .ok (.goto 4, 3) := by decide +kernel
theorem dX7_isLoose_23 : decode cX7_isLoose 23 = .ok (.iconst 0, 1) := by decide +kernel
theorem dX7_isLoose_24 : decode cX7_isLoose 24 = .ok (.ireturn, 1) := by decide +kernel
theorem dX7_size_0 : decode cX7_size 0 = .ok (.lload_n 0, 1) := by decide +kernel
theorem dX7_size_1 : decode cX7_size 1 = .ok (.lconst 0, 1) := by decide +kernel
theorem dX7_size_2 : decode cX7_size 2 = .ok (.lcmp, 1) := by decide +kernel
theorem dX7_size_3 : decode cX7_size 3 = .ok (.ifCond .ge 8, 3) := by decide +kernel
theorem dX7_size_6 : decode cX7_size 6 = .ok (.lload_n 0, 1) := by decide +kernel
theorem dX7_size_7 : decode cX7_size 7 = .ok (.lneg, 1) := by decide +kernel
theorem dX7_size_8 : decode cX7_size 8 = .ok (.goto 4, 3) := by decide +kernel
theorem dX7_size_11 : decode cX7_size 11 = .ok (.lload_n 0, 1) := by decide +kernel
theorem dX7_size_12 : decode cX7_size 12 = .ok (.lreturn, 1) := by decide +kernel
theorem dX7_share_0 : decode cX7_share 0 = .ok (.ldc2_w 120, 3) := by decide +kernel
theorem dX7_share_3 : decode cX7_share 3 = .ok (.lload_n 1, 1) := by decide +kernel
theorem dX7_share_4 : decode cX7_share 4 = .ok (.invokestatic 122, 3) := by decide +kernel
theorem dX7_share_7 : decode cX7_share 7 = .ok (.lmul, 1) := by decide +kernel
theorem dX7_share_8 : decode cX7_share 8 = .ok (.aload_n 0, 1) := by decide +kernel
theorem dX7_share_9 : decode cX7_share 9 = .ok (.getfield 29, 3) := by decide +kernel
theorem dX7_share_12 : decode cX7_share 12 = .ok (.iload_n 3, 1) := by decide +kernel
theorem dX7_share_13 : decode cX7_share 13 = .ok (.iaload, 1) := by decide +kernel
theorem dX7_share_14 : decode cX7_share 14 = .ok (.i2l, 1) := by decide +kernel
theorem dX7_share_15 : decode cX7_share 15 = .ok (.ldiv, 1) := by decide +kernel
theorem dX7_share_16 : decode cX7_share 16 = .ok (.lreturn, 1) := by decide +kernel
theorem dX7_greater_0 : decode cX7_greater 0 = .ok (.lload_n 0, 1) := by decide +kernel
theorem dX7_greater_1 : decode cX7_greater 1 = .ok (.lload_n 2, 1) := by decide +kernel
theorem dX7_greater_2 : decode cX7_greater 2 = .ok (.lcmp, 1) := by decide +kernel
theorem dX7_greater_3 : decode cX7_greater 3 = .ok (.ifCond .le 7, 3) := by decide +kernel
theorem dX7_greater_6 : decode cX7_greater 6 = .ok (.lload_n 0, 1) := by decide +kernel
theorem dX7_greater_7 : decode cX7_greater 7 = .ok (.goto 4, 3) := by decide +kernel
theorem dX7_greater_10 : decode cX7_greater 10 = .ok (.lload_n 2, 1) := by decide +kernel
theorem dX7_greater_11 : decode cX7_greater 11 = .ok (.lreturn, 1) := by decide +kernel
theorem dX7_worst_0 : decode cX7_worst 0 = .ok (.aload_n 0, 1) := by decide +kernel
theorem dX7_worst_1 : decode cX7_worst 1 = .ok (.aload_n 0, 1) := by decide +kernel
theorem dX7_worst_2 : decode cX7_worst 2 = .ok (.invokevirtual 126, 3) := by decide +kernel
theorem dX7_worst_5 : decode cX7_worst 5 = .ok (.iconst 2, 1) := by decide +kernel
theorem dX7_worst_6 : decode cX7_worst 6 = .ok (.invokevirtual 130, 3) := by decide +kernel
theorem dX7_worst_9 : decode cX7_worst 9 = .ok (.lstore_n 1, 1) := by decide +kernel
theorem dX7_worst_10 : decode cX7_worst 10 = .ok (.lload_n 1, 1) := by decide +kernel
theorem dX7_worst_11 : decode cX7_worst 11 = .ok (.aload_n 0, 1) := by decide +kernel
theorem dX7_worst_12 : decode cX7_worst 12 = .ok (.aload_n 0, 1) := by decide +kernel
theorem dX7_worst_13 : decode cX7_worst 13 = .ok (.iconst 1, 1) := by decide +kernel
theorem dX7_worst_14 : decode cX7_worst 14 = .ok (.invokevirtual 134, 3) := by decide +kernel
theorem dX7_worst_17 : decode cX7_worst 17 = .ok (.iconst 3, 1) := by decide +kernel
theorem dX7_worst_18 : decode cX7_worst 18 = .ok (.invokevirtual 130, 3) := by decide +kernel
theorem dX7_worst_21 : decode cX7_worst 21 = .ok (.invokestatic 138, 3) := by decide +kernel
theorem dX7_worst_24 : decode cX7_worst 24 = .ok (.lstore_n 1, 1) := by decide +kernel
theorem dX7_worst_25 : decode cX7_worst 25 = .ok (.lload_n 1, 1) := by decide +kernel
theorem dX7_worst_26 : decode cX7_worst 26 = .ok (.aload_n 0, 1) := by decide +kernel
theorem dX7_worst_27 : decode cX7_worst 27 = .ok (.aload_n 0, 1) := by decide +kernel
theorem dX7_worst_28 : decode cX7_worst 28 = .ok (.iconst (-1), 1) := by decide +kernel
theorem dX7_worst_29 : decode cX7_worst 29 = .ok (.invokevirtual 134, 3) := by decide +kernel
theorem dX7_worst_32 : decode cX7_worst 32 = .ok (.iconst 3, 1) := by decide +kernel
theorem dX7_worst_33 : decode cX7_worst 33 = .ok (.invokevirtual 130, 3) := by decide +kernel
theorem dX7_worst_36 : decode cX7_worst 36 = .ok (.invokestatic 138, 3) := by decide +kernel
theorem dX7_worst_39 : decode cX7_worst 39 = .ok (.lstore_n 1, 1) := by decide +kernel
theorem dX7_worst_40 : decode cX7_worst 40 = .ok (.iconst 0, 1) := by decide +kernel
theorem dX7_worst_41 : decode cX7_worst 41 = .ok (.istore_n 3, 1) := by decide +kernel
theorem dX7_worst_42 : decode cX7_worst 42 = .ok (.iload_n 3, 1) := by decide +kernel
theorem dX7_worst_43 : decode cX7_worst 43 = .ok (.aload_n 0, 1) := by decide +kernel
theorem dX7_worst_44 : decode cX7_worst 44 = .ok (.getfield 58, 3) := by decide +kernel
theorem dX7_worst_47 : decode cX7_worst 47 = .ok (.if_icmp .ge 39, 3) := by decide +kernel
theorem dX7_worst_50 : decode cX7_worst 50 = .ok (.lload_n 1, 1) := by decide +kernel
theorem dX7_worst_51 : decode cX7_worst 51 = .ok (.aload_n 0, 1) := by decide +kernel
theorem dX7_worst_52 : decode cX7_worst 52 = .ok (.aload_n 0, 1) := by decide +kernel
theorem dX7_worst_53 : decode cX7_worst 53 = .ok (.iconst 0, 1) := by decide +kernel
theorem dX7_worst_54 : decode cX7_worst 54 = .ok (.iload_n 3, 1) := by decide +kernel
theorem dX7_worst_55 : decode cX7_worst 55 = .ok (.invokevirtual 117, 3) := by decide +kernel
theorem dX7_worst_58 : decode cX7_worst 58 = .ok (.iconst 0, 1) := by decide +kernel
theorem dX7_worst_59 : decode cX7_worst 59 = .ok (.invokevirtual 130, 3) := by decide +kernel
theorem dX7_worst_62 : decode cX7_worst 62 = .ok (.aload_n 0, 1) := by decide +kernel
theorem dX7_worst_63 : decode cX7_worst 63 = .ok (.aload_n 0, 1) := by decide +kernel
theorem dX7_worst_64 : decode cX7_worst 64 = .ok (.iconst 1, 1) := by decide +kernel
theorem dX7_worst_65 : decode cX7_worst 65 = .ok (.iload_n 3, 1) := by decide +kernel
theorem dX7_worst_66 : decode cX7_worst 66 = .ok (.invokevirtual 117, 3) := by decide +kernel
theorem dX7_worst_69 : decode cX7_worst 69 = .ok (.iconst 1, 1) := by decide +kernel
theorem dX7_worst_70 : decode cX7_worst 70 = .ok (.invokevirtual 130, 3) := by decide +kernel
theorem dX7_worst_73 : decode cX7_worst 73 = .ok (.invokestatic 138, 3) := by decide +kernel
theorem dX7_worst_76 : decode cX7_worst 76 = .ok (.invokestatic 138, 3) := by decide +kernel
theorem dX7_worst_79 : decode cX7_worst 79 = .ok (.lstore_n 1, 1) := by decide +kernel
theorem dX7_worst_80 : decode cX7_worst 80 = .ok (.iinc 3 1, 3) := by decide +kernel
theorem dX7_worst_83 : decode cX7_worst 83 = .ok (.goto (-41), 3) := by decide +kernel
theorem dX7_worst_86 : decode cX7_worst 86 = .ok (.lload_n 1, 1) := by decide +kernel
theorem dX7_worst_87 : decode cX7_worst 87 = .ok (.ldc2_w 141, 3) := by decide +kernel
theorem dX7_worst_90 : decode cX7_worst 90 = .ok (.lcmp, 1) := by decide +kernel
theorem dX7_worst_91 : decode cX7_worst 91 = .ok (.ifCond .le 9, 3) := by decide +kernel
theorem dX7_worst_94 : decode cX7_worst 94 = .ok (.ldc2_w 141, 3) := by decide +kernel
theorem dX7_worst_97 : decode cX7_worst 97 = .ok (.goto 4, 3) := by decide +kernel
theorem dX7_worst_100 : decode cX7_worst 100 = .ok (.lload_n 1, 1) := by decide +kernel
theorem dX7_worst_101 : decode cX7_worst 101 = .ok (.lreturn, 1) := by decide +kernel
theorem dX7_fault_0 : decode cX7_fault 0 = .ok (.iconst 0, 1) := by decide +kernel
theorem dX7_fault_1 : decode cX7_fault 1 = .ok (.istore_n 1, 1) := by decide +kernel
theorem dX7_fault_2 : decode cX7_fault 2 = .ok (.iload_n 1, 1) := by decide +kernel
theorem dX7_fault_3 : decode cX7_fault 3 = .ok (.iconst 2, 1) := by decide +kernel
theorem dX7_fault_4 : decode cX7_fault 4 = .ok (.if_icmp .ge 52, 3) := by decide +kernel
theorem dX7_fault_7 : decode cX7_fault 7 = .ok (.iconst 0, 1) := by decide +kernel
theorem dX7_fault_8 : decode cX7_fault 8 = .ok (.istore_n 2, 1) := by decide +kernel
theorem dX7_fault_9 : decode cX7_fault 9 = .ok (.iload_n 2, 1) := by decide +kernel
theorem dX7_fault_10 : decode cX7_fault 10 = .ok (.aload_n 0, 1) := by decide +kernel
theorem dX7_fault_11 : decode cX7_fault 11 = .ok (.getfield 58, 3) := by decide +kernel
theorem dX7_fault_14 : decode cX7_fault 14 = .ok (.if_icmp .ge 36, 3) := by decide +kernel
theorem dX7_fault_17 : decode cX7_fault 17 = .ok (.aload_n 0, 1) := by decide +kernel
theorem dX7_fault_18 : decode cX7_fault 18 = .ok (.iload_n 1, 1) := by decide +kernel
theorem dX7_fault_19 : decode cX7_fault 19 = .ok (.iload_n 2, 1) := by decide +kernel
theorem dX7_fault_20 : decode cX7_fault 20 = .ok (.invokevirtual 117, 3) := by decide +kernel
theorem dX7_fault_23 : decode cX7_fault 23 = .ok (.invokestatic 122, 3) := by decide +kernel
theorem dX7_fault_26 : decode cX7_fault 26 = .ok (.aload_n 0, 1) := by decide +kernel
theorem dX7_fault_27 : decode cX7_fault 27 = .ok (.getfield 29, 3) := by decide +kernel
theorem dX7_fault_30 : decode cX7_fault 30 = .ok (.iload_n 1, 1) := by decide +kernel
theorem dX7_fault_31 : decode cX7_fault 31 = .ok (.iaload, 1) := by decide +kernel
theorem dX7_fault_32 : decode cX7_fault 32 = .ok (.i2l, 1) := by decide +kernel
theorem dX7_fault_33 : decode cX7_fault 33 = .ok (.lcmp, 1) := by decide +kernel
theorem dX7_fault_34 : decode cX7_fault 34 = .ok (.ifCond .le 10, 3) := by decide +kernel
theorem dX7_fault_37 : decode cX7_fault 37 = .ok (.bipush 100, 2) := by decide +kernel
theorem dX7_fault_39 : decode cX7_fault 39 = .ok (.iload_n 1, 1) := by decide +kernel
theorem dX7_fault_40 : decode cX7_fault 40 = .ok (.imul, 1) := by decide +kernel
theorem dX7_fault_41 : decode cX7_fault 41 = .ok (.iload_n 2, 1) := by decide +kernel
theorem dX7_fault_42 : decode cX7_fault 42 = .ok (.iadd, 1) := by decide +kernel
theorem dX7_fault_43 : decode cX7_fault 43 = .ok (.ireturn, 1) := by decide +kernel
theorem dX7_fault_44 : decode cX7_fault 44 = .ok (.iinc 2 1, 3) := by decide +kernel
theorem dX7_fault_47 : decode cX7_fault 47 = .ok (.goto (-38), 3) := by decide +kernel
theorem dX7_fault_50 : decode cX7_fault 50 = .ok (.iinc 1 1, 3) := by decide +kernel
theorem dX7_fault_53 : decode cX7_fault 53 = .ok (.goto (-51), 3) := by decide +kernel
theorem dX7_fault_56 : decode cX7_fault 56 = .ok (.aload_n 0, 1) := by decide +kernel
theorem dX7_fault_57 : decode cX7_fault 57 = .ok (.invokevirtual 126, 3) := by decide +kernel
theorem dX7_fault_60 : decode cX7_fault 60 = .ok (.invokestatic 122, 3) := by decide +kernel
theorem dX7_fault_63 : decode cX7_fault 63 = .ok (.aload_n 0, 1) := by decide +kernel
theorem dX7_fault_64 : decode cX7_fault 64 = .ok (.getfield 29, 3) := by decide +kernel
theorem dX7_fault_67 : decode cX7_fault 67 = .ok (.iconst 2, 1) := by decide +kernel
theorem dX7_fault_68 : decode cX7_fault 68 = .ok (.iaload, 1) := by decide +kernel
theorem dX7_fault_69 : decode cX7_fault 69 = .ok (.i2l, 1) := by decide +kernel
theorem dX7_fault_70 : decode cX7_fault 70 = .ok (.lcmp, 1) := by decide +kernel
theorem dX7_fault_71 : decode cX7_fault 71 = .ok (.ifCond .le 7, 3) := by decide +kernel
theorem dX7_fault_74 : decode cX7_fault 74 = .ok (.sipush 200, 3) := by decide +kernel
theorem dX7_fault_77 : decode cX7_fault 77 = .ok (.ireturn, 1) := by decide +kernel
theorem dX7_fault_78 : decode cX7_fault 78 = .ok (.aload_n 0, 1) := by decide +kernel
theorem dX7_fault_79 : decode cX7_fault 79 = .ok (.iconst 1, 1) := by decide +kernel
theorem dX7_fault_80 : decode cX7_fault 80 = .ok (.invokevirtual 134, 3) := by decide +kernel
theorem dX7_fault_83 : decode cX7_fault 83 = .ok (.aload_n 0, 1) := by decide +kernel
theorem dX7_fault_84 : decode cX7_fault 84 = .ok (.getfield 29, 3) := by decide +kernel
theorem dX7_fault_87 : decode cX7_fault 87 = .ok (.iconst 3, 1) := by decide +kernel
theorem dX7_fault_88 : decode cX7_fault 88 = .ok (.iaload, 1) := by decide +kernel
theorem dX7_fault_89 : decode cX7_fault 89 = .ok (.i2l, 1) := by decide +kernel
theorem dX7_fault_90 : decode cX7_fault 90 = .ok (.lcmp, 1) := by decide +kernel
theorem dX7_fault_91 : decode cX7_fault 91 = .ok (.ifCond .le 7, 3) := by decide +kernel
theorem dX7_fault_94 : decode cX7_fault 94 = .ok (.sipush 300, 3) := by decide +kernel
theorem dX7_fault_97 : decode cX7_fault 97 = .ok (.ireturn, 1) := by decide +kernel
theorem dX7_fault_98 : decode cX7_fault 98 = .ok (.aload_n 0, 1) := by decide +kernel
theorem dX7_fault_99 : decode cX7_fault 99 = .ok (.iconst (-1), 1) := by decide +kernel
theorem dX7_fault_100 : decode cX7_fault 100 = .ok (.invokevirtual 134, 3) := by decide +kernel
theorem dX7_fault_103 : decode cX7_fault 103 = .ok (.aload_n 0, 1) := by decide +kernel
theorem dX7_fault_104 : decode cX7_fault 104 = .ok (.getfield 29, 3) := by decide +kernel
theorem dX7_fault_107 : decode cX7_fault 107 = .ok (.iconst 3, 1) := by decide +kernel
theorem dX7_fault_108 : decode cX7_fault 108 = .ok (.iaload, 1) := by decide +kernel
theorem dX7_fault_109 : decode cX7_fault 109 = .ok (.i2l, 1) := by decide +kernel
theorem dX7_fault_110 : decode cX7_fault 110 = .ok (.lcmp, 1) := by decide +kernel
theorem dX7_fault_111 : decode cX7_fault 111 = .ok (.ifCond .le 7, 3) := by decide +kernel
theorem dX7_fault_114 : decode cX7_fault 114 = .ok (.sipush 301, 3) := by decide +kernel
theorem dX7_fault_117 : decode cX7_fault 117 = .ok (.ireturn, 1) := by decide +kernel
theorem dX7_fault_118 : decode cX7_fault 118 = .ok (.iconst 0, 1) := by decide +kernel
theorem dX7_fault_119 : decode cX7_fault 119 = .ok (.istore_n 1, 1) := by decide +kernel
theorem dX7_fault_120 : decode cX7_fault 120 = .ok (.iload_n 1, 1) := by decide +kernel
theorem dX7_fault_121 : decode cX7_fault 121 = .ok (.aload_n 0, 1) := by decide +kernel
theorem dX7_fault_122 : decode cX7_fault 122 = .ok (.getfield 58, 3) := by decide +kernel
theorem dX7_fault_125 : decode cX7_fault 125 = .ok (.if_icmp .ge 23, 3) := by decide +kernel
theorem dX7_fault_128 : decode cX7_fault 128 = .ok (.aload_n 0, 1) := by decide +kernel
theorem dX7_fault_129 : decode cX7_fault 129 = .ok (.iload_n 1, 1) := by decide +kernel
theorem dX7_fault_130 : decode cX7_fault 130 = .ok (.invokevirtual 143, 3) := by decide +kernel
theorem dX7_fault_133 : decode cX7_fault 133 = .ok (.ifCond .eq 9, 3) := by decide +kernel
theorem dX7_fault_136 : decode cX7_fault 136 = .ok (.sipush 400, 3) := by decide +kernel
theorem dX7_fault_139 : decode cX7_fault 139 = .ok (.iload_n 1, 1) := by decide +kernel
theorem dX7_fault_140 : decode cX7_fault 140 = .ok (.iadd, 1) := by decide +kernel
theorem dX7_fault_141 : decode cX7_fault 141 = .ok (.ireturn, 1) := by decide +kernel
theorem dX7_fault_142 : decode cX7_fault 142 = .ok (.iinc 1 1, 3) := by decide +kernel
theorem dX7_fault_145 : decode cX7_fault 145 = .ok (.goto (-25), 3) := by decide +kernel
theorem dX7_fault_148 : decode cX7_fault 148 = .ok (.ldc 146, 2) := by decide +kernel
theorem dX7_fault_150 : decode cX7_fault 150 = .ok (.ireturn, 1) := by decide +kernel
theorem dX7_state_0 : decode cX7_state 0 = .ok (.iconst 0, 1) := by decide +kernel
theorem dX7_state_1 : decode cX7_state 1 = .ok (.istore_n 2, 1) := by decide +kernel
theorem dX7_state_2 : decode cX7_state 2 = .ok (.iload_n 1, 1) := by decide +kernel
theorem dX7_state_3 : decode cX7_state 3 = .ok (.tableswitch 112 0 5 #[37, 43, 50, 57, 63, 97], 37) := by decide +kernel
theorem dX7_state_40 : decode cX7_state 40 = .ok (.aload_n 0, 1) := by decide +kernel
theorem dX7_state_41 : decode cX7_state 41 = .ok (.invokevirtual 126, 3) := by decide +kernel
theorem dX7_state_44 : decode cX7_state 44 = .ok (.l2i, 1) := by decide +kernel
theorem dX7_state_45 : decode cX7_state 45 = .ok (.ireturn, 1) := by decide +kernel
theorem dX7_state_46 : decode cX7_state 46 = .ok (.aload_n 0, 1) := by decide +kernel
theorem dX7_state_47 : decode cX7_state 47 = .ok (.iconst 1, 1) := by decide +kernel
theorem dX7_state_48 : decode cX7_state 48 = .ok (.invokevirtual 134, 3) := by decide +kernel
theorem dX7_state_51 : decode cX7_state 51 = .ok (.l2i, 1) := by decide +kernel
theorem dX7_state_52 : decode cX7_state 52 = .ok (.ireturn, 1) := by decide +kernel
theorem dX7_state_53 : decode cX7_state 53 = .ok (.aload_n 0, 1) := by decide +kernel
theorem dX7_state_54 : decode cX7_state 54 = .ok (.iconst (-1), 1) := by decide +kernel
theorem dX7_state_55 : decode cX7_state 55 = .ok (.invokevirtual 134, 3) := by decide +kernel
theorem dX7_state_58 : decode cX7_state 58 = .ok (.l2i, 1) := by decide +kernel
theorem dX7_state_59 : decode cX7_state 59 = .ok (.ireturn, 1) := by decide +kernel
theorem dX7_state_60 : decode cX7_state 60 = .ok (.aload_n 0, 1) := by decide +kernel
theorem dX7_state_61 : decode cX7_state 61 = .ok (.invokevirtual 147, 3) := by decide +kernel
theorem dX7_state_64 : decode cX7_state 64 = .ok (.l2i, 1) := by decide +kernel
theorem dX7_state_65 : decode cX7_state 65 = .ok (.ireturn, 1) := by decide +kernel
theorem dX7_state_66 : decode cX7_state 66 = .ok (.iconst 0, 1) := by decide +kernel
theorem dX7_state_67 : decode cX7_state 67 = .ok (.istore_n 3, 1) := by decide +kernel
theorem dX7_state_68 : decode cX7_state 68 = .ok (.iload_n 3, 1) := by decide +kernel
theorem dX7_state_69 : decode cX7_state 69 = .ok (.aload_n 0, 1) := by decide +kernel
theorem dX7_state_70 : decode cX7_state 70 = .ok (.getfield 58, 3) := by decide +kernel
theorem dX7_state_73 : decode cX7_state 73 = .ok (.if_icmp .ge 25, 3) := by decide +kernel
theorem dX7_state_76 : decode cX7_state 76 = .ok (.iload_n 2, 1) := by decide +kernel
theorem dX7_state_77 : decode cX7_state 77 = .ok (.aload_n 0, 1) := by decide +kernel
theorem dX7_state_78 : decode cX7_state 78 = .ok (.iload_n 3, 1) := by decide +kernel
theorem dX7_state_79 : decode cX7_state 79 = .ok (.invokevirtual 143, 3) := by decide +kernel
theorem dX7_state_82 : decode cX7_state 82 = .ok (.ifCond .eq 7, 3) := by decide +kernel
theorem dX7_state_85 : decode cX7_state 85 = .ok (.iconst 1, 1) := by decide +kernel
theorem dX7_state_86 : decode cX7_state 86 = .ok (.goto 4, 3) := by decide +kernel
theorem dX7_state_89 : decode cX7_state 89 = .ok (.iconst 0, 1) := by decide +kernel
theorem dX7_state_90 : decode cX7_state 90 = .ok (.iadd, 1) := by decide +kernel
theorem dX7_state_91 : decode cX7_state 91 = .ok (.istore_n 2, 1) := by decide +kernel
theorem dX7_state_92 : decode cX7_state 92 = .ok (.iinc 3 1, 3) := by decide +kernel
theorem dX7_state_95 : decode cX7_state 95 = .ok (.goto (-27), 3) := by decide +kernel
theorem dX7_state_98 : decode cX7_state 98 = .ok (.iload_n 2, 1) := by decide +kernel
theorem dX7_state_99 : decode cX7_state 99 = .ok (.ireturn, 1) := by decide +kernel
theorem dX7_state_100 : decode cX7_state 100 = .ok (.aload_n 0, 1) := by decide +kernel
theorem dX7_state_101 : decode cX7_state 101 = .ok (.invokevirtual 150, 3) := by decide +kernel
theorem dX7_state_104 : decode cX7_state 104 = .ok (.ldc 146, 2) := by decide +kernel
theorem dX7_state_106 : decode cX7_state 106 = .ok (.if_icmp .ne 7, 3) := by decide +kernel
theorem dX7_state_109 : decode cX7_state 109 = .ok (.iconst 1, 1) := by decide +kernel
theorem dX7_state_110 : decode cX7_state 110 = .ok (.goto 4, 3) := by decide +kernel
theorem dX7_state_113 : decode cX7_state 113 = .ok (.iconst 0, 1) := by decide +kernel
theorem dX7_state_114 : decode cX7_state 114 = .ok (.ireturn, 1) := by decide +kernel
theorem dX7_state_115 : decode cX7_state 115 = .ok (.ldc 78, 2) := by decide +kernel
theorem dX7_state_117 : decode cX7_state 117 = .ok (.ireturn, 1) := by decide +kernel
theorem dX7_why_0 : decode cX7_why 0 = .ok (.aload_n 0, 1) := by decide +kernel
theorem dX7_why_1 : decode cX7_why 1 = .ok (.invokevirtual 150, 3) := by decide +kernel
theorem dX7_why_4 : decode cX7_why 4 = .ok (.ireturn, 1) := by decide +kernel
theorem dX7_make_0 : decode cX7_make 0 = .ok (.aload_n 0, 1) := by decide +kernel
theorem dX7_make_1 : decode cX7_make 1 = .ok (.iload_n 1, 1) := by decide +kernel
theorem dX7_make_2 : decode cX7_make 2 = .ok (.invokevirtual 95, 3) := by decide +kernel
theorem dX7_make_5 : decode cX7_make 5 = .ok (.i2l, 1) := by decide +kernel
theorem dX7_make_6 : decode cX7_make 6 = .ok (.iload_n 2, 1) := by decide +kernel
theorem dX7_make_7 : decode cX7_make 7 = .ok (.i2l, 1) := by decide +kernel
theorem dX7_make_8 : decode cX7_make 8 = .ok (.lmul, 1) := by decide +kernel
theorem dX7_make_9 : decode cX7_make 9 = .ok (.lstore_n 3, 1) := by decide +kernel
theorem dX7_make_10 : decode cX7_make 10 = .ok (.iconst 0, 1) := by decide +kernel
theorem dX7_make_11 : decode cX7_make 11 = .ok (.istore 5, 2) := by decide +kernel
theorem dX7_make_13 : decode cX7_make 13 = .ok (.iload 5, 2) := by decide +kernel
theorem dX7_make_15 : decode cX7_make 15 = .ok (.aload_n 0, 1) := by decide +kernel
theorem dX7_make_16 : decode cX7_make 16 = .ok (.getfield 58, 3) := by decide +kernel
theorem dX7_make_19 : decode cX7_make 19 = .ok (.if_icmp .ge 68, 3) := by decide +kernel
theorem dX7_make_22 : decode cX7_make 22 = .ok (.aload_n 0, 1) := by decide +kernel
theorem dX7_make_23 : decode cX7_make 23 = .ok (.iload_n 1, 1) := by decide +kernel
theorem dX7_make_24 : decode cX7_make 24 = .ok (.iload 5, 2) := by decide +kernel
theorem dX7_make_26 : decode cX7_make 26 = .ok (.invokevirtual 154, 3) := by decide +kernel
theorem dX7_make_29 : decode cX7_make 29 = .ok (.istore 6, 2) := by decide +kernel
theorem dX7_make_31 : decode cX7_make 31 = .ok (.aload_n 0, 1) := by decide +kernel
theorem dX7_make_32 : decode cX7_make 32 = .ok (.getfield 17, 3) := by decide +kernel
theorem dX7_make_35 : decode cX7_make 35 = .ok (.iload 5, 2) := by decide +kernel
theorem dX7_make_37 : decode cX7_make 37 = .ok (.dup2, 1) := by decide +kernel
theorem dX7_make_38 : decode cX7_make 38 = .ok (.laload, 1) := by decide +kernel
theorem dX7_make_39 : decode cX7_make 39 = .ok (.lload_n 3, 1) := by decide +kernel
theorem dX7_make_40 : decode cX7_make 40 = .ok (.aload_n 0, 1) := by decide +kernel
theorem dX7_make_41 : decode cX7_make 41 = .ok (.iload_n 1, 1) := by decide +kernel
theorem dX7_make_42 : decode cX7_make 42 = .ok (.invokevirtual 91, 3) := by decide +kernel
theorem dX7_make_45 : decode cX7_make 45 = .ok (.i2l, 1) := by decide +kernel
theorem dX7_make_46 : decode cX7_make 46 = .ok (.lmul, 1) := by decide +kernel
theorem dX7_make_47 : decode cX7_make 47 = .ok (.aload_n 0, 1) := by decide +kernel
theorem dX7_make_48 : decode cX7_make 48 = .ok (.iconst 0, 1) := by decide +kernel
theorem dX7_make_49 : decode cX7_make 49 = .ok (.iload 6, 2) := by decide +kernel
theorem dX7_make_51 : decode cX7_make 51 = .ok (.invokevirtual 98, 3) := by decide +kernel
theorem dX7_make_54 : decode cX7_make 54 = .ok (.i2l, 1) := by decide +kernel
theorem dX7_make_55 : decode cX7_make 55 = .ok (.lmul, 1) := by decide +kernel
theorem dX7_make_56 : decode cX7_make 56 = .ok (.ladd, 1) := by decide +kernel
theorem dX7_make_57 : decode cX7_make 57 = .ok (.lastore, 1) := by decide +kernel
theorem dX7_make_58 : decode cX7_make 58 = .ok (.aload_n 0, 1) := by decide +kernel
theorem dX7_make_59 : decode cX7_make 59 = .ok (.getfield 17, 3) := by decide +kernel
theorem dX7_make_62 : decode cX7_make 62 = .ok (.bipush 32, 2) := by decide +kernel
theorem dX7_make_64 : decode cX7_make 64 = .ok (.iload 5, 2) := by decide +kernel
theorem dX7_make_66 : decode cX7_make 66 = .ok (.iadd, 1) := by decide +kernel
theorem dX7_make_67 : decode cX7_make 67 = .ok (.dup2, 1) := by decide +kernel
theorem dX7_make_68 : decode cX7_make 68 = .ok (.laload, 1) := by decide +kernel
theorem dX7_make_69 : decode cX7_make 69 = .ok (.lload_n 3, 1) := by decide +kernel
theorem dX7_make_70 : decode cX7_make 70 = .ok (.aload_n 0, 1) := by decide +kernel
theorem dX7_make_71 : decode cX7_make 71 = .ok (.iconst 1, 1) := by decide +kernel
theorem dX7_make_72 : decode cX7_make 72 = .ok (.iload 6, 2) := by decide +kernel
theorem dX7_make_74 : decode cX7_make 74 = .ok (.invokevirtual 98, 3) := by decide +kernel
theorem dX7_make_77 : decode cX7_make 77 = .ok (.i2l, 1) := by decide +kernel
theorem dX7_make_78 : decode cX7_make 78 = .ok (.lmul, 1) := by decide +kernel
theorem dX7_make_79 : decode cX7_make 79 = .ok (.ladd, 1) := by decide +kernel
theorem dX7_make_80 : decode cX7_make 80 = .ok (.lastore, 1) := by decide +kernel
theorem dX7_make_81 : decode cX7_make 81 = .ok (.iinc 5 1, 3) := by decide +kernel
theorem dX7_make_84 : decode cX7_make 84 = .ok (.goto (-71), 3) := by decide +kernel
theorem dX7_make_87 : decode cX7_make 87 = .ok (.iconst 0, 1) := by decide +kernel
theorem dX7_make_88 : decode cX7_make 88 = .ok (.istore 5, 2) := by decide +kernel
theorem dX7_make_90 : decode cX7_make 90 = .ok (.iload 5, 2) := by decide +kernel
theorem dX7_make_92 : decode cX7_make 92 = .ok (.aload_n 0, 1) := by decide +kernel
theorem dX7_make_93 : decode cX7_make 93 = .ok (.getfield 58, 3) := by decide +kernel
theorem dX7_make_96 : decode cX7_make 96 = .ok (.if_icmp .ge 61, 3) := by decide +kernel
theorem dX7_make_99 : decode cX7_make 99 = .ok (.aload_n 0, 1) := by decide +kernel
theorem dX7_make_100 : decode cX7_make 100 = .ok (.iload 5, 2) := by decide +kernel
theorem dX7_make_102 : decode cX7_make 102 = .ok (.invokevirtual 74, 3) := by decide +kernel
theorem dX7_make_105 : decode cX7_make 105 = .ok (.ifCond .ne 46, 3) := by decide +kernel
theorem dX7_make_108 : decode cX7_make 108 = .ok (.aload_n 0, 1) := by decide +kernel
theorem dX7_make_109 : decode cX7_make 109 = .ok (.getfield 13, 3) := by decide +kernel
theorem dX7_make_112 : decode cX7_make 112 = .ok (.iload 5, 2) := by decide +kernel
theorem dX7_make_114 : decode cX7_make 114 = .ok (.dup2, 1) := by decide +kernel
theorem dX7_make_115 : decode cX7_make 115 = .ok (.laload, 1) := by decide +kernel
theorem dX7_make_116 : decode cX7_make 116 = .ok (.lload_n 3, 1) := by decide +kernel
theorem dX7_make_117 : decode cX7_make 117 = .ok (.aload_n 0, 1) := by decide +kernel
theorem dX7_make_118 : decode cX7_make 118 = .ok (.aload_n 0, 1) := by decide +kernel
theorem dX7_make_119 : decode cX7_make 119 = .ok (.iload 5, 2) := by decide +kernel
theorem dX7_make_121 : decode cX7_make 121 = .ok (.invokevirtual 91, 3) := by decide +kernel
theorem dX7_make_124 : decode cX7_make 124 = .ok (.aload_n 0, 1) := by decide +kernel
theorem dX7_make_125 : decode cX7_make 125 = .ok (.iload_n 1, 1) := by decide +kernel
theorem dX7_make_126 : decode cX7_make 126 = .ok (.invokevirtual 91, 3) := by decide +kernel
theorem dX7_make_129 : decode cX7_make 129 = .ok (.if_icmp .ne 7, 3) := by decide +kernel
theorem dX7_make_132 : decode cX7_make 132 = .ok (.iconst 2, 1) := by decide +kernel
theorem dX7_make_133 : decode cX7_make 133 = .ok (.goto 4, 3) := by decide +kernel
theorem dX7_make_136 : decode cX7_make 136 = .ok (.iconst 3, 1) := by decide +kernel
theorem dX7_make_137 : decode cX7_make 137 = .ok (.aload_n 0, 1) := by decide +kernel
theorem dX7_make_138 : decode cX7_make 138 = .ok (.iload_n 1, 1) := by decide +kernel
theorem dX7_make_139 : decode cX7_make 139 = .ok (.iload 5, 2) := by decide +kernel
theorem dX7_make_141 : decode cX7_make 141 = .ok (.invokevirtual 154, 3) := by decide +kernel
theorem dX7_make_144 : decode cX7_make 144 = .ok (.invokevirtual 98, 3) := by decide +kernel
theorem dX7_make_147 : decode cX7_make 147 = .ok (.i2l, 1) := by decide +kernel
theorem dX7_make_148 : decode cX7_make 148 = .ok (.lmul, 1) := by decide +kernel
theorem dX7_make_149 : decode cX7_make 149 = .ok (.ladd, 1) := by decide +kernel
theorem dX7_make_150 : decode cX7_make 150 = .ok (.lastore, 1) := by decide +kernel
theorem dX7_make_151 : decode cX7_make 151 = .ok (.iinc 5 1, 3) := by decide +kernel
theorem dX7_make_154 : decode cX7_make 154 = .ok (.goto (-64), 3) := by decide +kernel
theorem dX7_make_157 : decode cX7_make 157 = .ok (.return_, 1) := by decide +kernel
theorem dX7_lay_0 : decode cX7_lay 0 = .ok (.iconst 0, 1) := by decide +kernel
theorem dX7_lay_1 : decode cX7_lay 1 = .ok (.istore_n 2, 1) := by decide +kernel
theorem dX7_lay_2 : decode cX7_lay 2 = .ok (.iload_n 2, 1) := by decide +kernel
theorem dX7_lay_3 : decode cX7_lay 3 = .ok (.bipush 64, 2) := by decide +kernel
theorem dX7_lay_5 : decode cX7_lay 5 = .ok (.if_icmp .ge 26, 3) := by decide +kernel
theorem dX7_lay_8 : decode cX7_lay 8 = .ok (.aload_n 0, 1) := by decide +kernel
theorem dX7_lay_9 : decode cX7_lay 9 = .ok (.getfield 51, 3) := by decide +kernel
theorem dX7_lay_12 : decode cX7_lay 12 = .ok (.bipush 96, 2) := by decide +kernel
theorem dX7_lay_14 : decode cX7_lay 14 = .ok (.iload_n 1, 1) := by decide +kernel
theorem dX7_lay_15 : decode cX7_lay 15 = .ok (.imul, 1) := by decide +kernel
theorem dX7_lay_16 : decode cX7_lay 16 = .ok (.iload_n 2, 1) := by decide +kernel
theorem dX7_lay_17 : decode cX7_lay 17 = .ok (.iadd, 1) := by decide +kernel
theorem dX7_lay_18 : decode cX7_lay 18 = .ok (.aload_n 0, 1) := by decide +kernel
theorem dX7_lay_19 : decode cX7_lay 19 = .ok (.getfield 17, 3) := by decide +kernel
theorem dX7_lay_22 : decode cX7_lay 22 = .ok (.iload_n 2, 1) := by decide +kernel
theorem dX7_lay_23 : decode cX7_lay 23 = .ok (.laload, 1) := by decide +kernel
theorem dX7_lay_24 : decode cX7_lay 24 = .ok (.lastore, 1) := by decide +kernel
theorem dX7_lay_25 : decode cX7_lay 25 = .ok (.iinc 2 1, 3) := by decide +kernel
theorem dX7_lay_28 : decode cX7_lay 28 = .ok (.goto (-26), 3) := by decide +kernel
theorem dX7_lay_31 : decode cX7_lay 31 = .ok (.iconst 0, 1) := by decide +kernel
theorem dX7_lay_32 : decode cX7_lay 32 = .ok (.istore_n 2, 1) := by decide +kernel
theorem dX7_lay_33 : decode cX7_lay 33 = .ok (.iload_n 2, 1) := by decide +kernel
theorem dX7_lay_34 : decode cX7_lay 34 = .ok (.bipush 32, 2) := by decide +kernel
theorem dX7_lay_36 : decode cX7_lay 36 = .ok (.if_icmp .ge 29, 3) := by decide +kernel
theorem dX7_lay_39 : decode cX7_lay 39 = .ok (.aload_n 0, 1) := by decide +kernel
theorem dX7_lay_40 : decode cX7_lay 40 = .ok (.getfield 51, 3) := by decide +kernel
theorem dX7_lay_43 : decode cX7_lay 43 = .ok (.bipush 96, 2) := by decide +kernel
theorem dX7_lay_45 : decode cX7_lay 45 = .ok (.iload_n 1, 1) := by decide +kernel
theorem dX7_lay_46 : decode cX7_lay 46 = .ok (.imul, 1) := by decide +kernel
theorem dX7_lay_47 : decode cX7_lay 47 = .ok (.bipush 64, 2) := by decide +kernel
theorem dX7_lay_49 : decode cX7_lay 49 = .ok (.iadd, 1) := by decide +kernel
theorem dX7_lay_50 : decode cX7_lay 50 = .ok (.iload_n 2, 1) := by decide +kernel
theorem dX7_lay_51 : decode cX7_lay 51 = .ok (.iadd, 1) := by decide +kernel
theorem dX7_lay_52 : decode cX7_lay 52 = .ok (.aload_n 0, 1) := by decide +kernel
theorem dX7_lay_53 : decode cX7_lay 53 = .ok (.getfield 13, 3) := by decide +kernel
theorem dX7_lay_56 : decode cX7_lay 56 = .ok (.iload_n 2, 1) := by decide +kernel
theorem dX7_lay_57 : decode cX7_lay 57 = .ok (.laload, 1) := by decide +kernel
theorem dX7_lay_58 : decode cX7_lay 58 = .ok (.lastore, 1) := by decide +kernel
theorem dX7_lay_59 : decode cX7_lay 59 = .ok (.iinc 2 1, 3) := by decide +kernel
theorem dX7_lay_62 : decode cX7_lay 62 = .ok (.goto (-29), 3) := by decide +kernel
theorem dX7_lay_65 : decode cX7_lay 65 = .ok (.return_, 1) := by decide +kernel
theorem dX7_bring_0 : decode cX7_bring 0 = .ok (.iconst 0, 1) := by decide +kernel
theorem dX7_bring_1 : decode cX7_bring 1 = .ok (.istore_n 2, 1) := by decide +kernel
theorem dX7_bring_2 : decode cX7_bring 2 = .ok (.iload_n 2, 1) := by decide +kernel
theorem dX7_bring_3 : decode cX7_bring 3 = .ok (.bipush 64, 2) := by decide +kernel
theorem dX7_bring_5 : decode cX7_bring 5 = .ok (.if_icmp .ge 26, 3) := by decide +kernel
theorem dX7_bring_8 : decode cX7_bring 8 = .ok (.aload_n 0, 1) := by decide +kernel
theorem dX7_bring_9 : decode cX7_bring 9 = .ok (.getfield 17, 3) := by decide +kernel
theorem dX7_bring_12 : decode cX7_bring 12 = .ok (.iload_n 2, 1) := by decide +kernel
theorem dX7_bring_13 : decode cX7_bring 13 = .ok (.aload_n 0, 1) := by decide +kernel
theorem dX7_bring_14 : decode cX7_bring 14 = .ok (.getfield 51, 3) := by decide +kernel
theorem dX7_bring_17 : decode cX7_bring 17 = .ok (.bipush 96, 2) := by decide +kernel
theorem dX7_bring_19 : decode cX7_bring 19 = .ok (.iload_n 1, 1) := by decide +kernel
theorem dX7_bring_20 : decode cX7_bring 20 = .ok (.imul, 1) := by decide +kernel
theorem dX7_bring_21 : decode cX7_bring 21 = .ok (.iload_n 2, 1) := by decide +kernel
theorem dX7_bring_22 : decode cX7_bring 22 = .ok (.iadd, 1) := by decide +kernel
theorem dX7_bring_23 : decode cX7_bring 23 = .ok (.laload, 1) := by decide +kernel
theorem dX7_bring_24 : decode cX7_bring 24 = .ok (.lastore, 1) := by decide +kernel
theorem dX7_bring_25 : decode cX7_bring 25 = .ok (.iinc 2 1, 3) := by decide +kernel
theorem dX7_bring_28 : decode cX7_bring 28 = .ok (.goto (-26), 3) := by decide +kernel
theorem dX7_bring_31 : decode cX7_bring 31 = .ok (.iconst 0, 1) := by decide +kernel
theorem dX7_bring_32 : decode cX7_bring 32 = .ok (.istore_n 2, 1) := by decide +kernel
theorem dX7_bring_33 : decode cX7_bring 33 = .ok (.iload_n 2, 1) := by decide +kernel
theorem dX7_bring_34 : decode cX7_bring 34 = .ok (.bipush 32, 2) := by decide +kernel
theorem dX7_bring_36 : decode cX7_bring 36 = .ok (.if_icmp .ge 29, 3) := by decide +kernel
theorem dX7_bring_39 : decode cX7_bring 39 = .ok (.aload_n 0, 1) := by decide +kernel
theorem dX7_bring_40 : decode cX7_bring 40 = .ok (.getfield 13, 3) := by decide +kernel
theorem dX7_bring_43 : decode cX7_bring 43 = .ok (.iload_n 2, 1) := by decide +kernel
theorem dX7_bring_44 : decode cX7_bring 44 = .ok (.aload_n 0, 1) := by decide +kernel
theorem dX7_bring_45 : decode cX7_bring 45 = .ok (.getfield 51, 3) := by decide +kernel
theorem dX7_bring_48 : decode cX7_bring 48 = .ok (.bipush 96, 2) := by decide +kernel
theorem dX7_bring_50 : decode cX7_bring 50 = .ok (.iload_n 1, 1) := by decide +kernel
theorem dX7_bring_51 : decode cX7_bring 51 = .ok (.imul, 1) := by decide +kernel
theorem dX7_bring_52 : decode cX7_bring 52 = .ok (.bipush 64, 2) := by decide +kernel
theorem dX7_bring_54 : decode cX7_bring 54 = .ok (.iadd, 1) := by decide +kernel
theorem dX7_bring_55 : decode cX7_bring 55 = .ok (.iload_n 2, 1) := by decide +kernel
theorem dX7_bring_56 : decode cX7_bring 56 = .ok (.iadd, 1) := by decide +kernel
theorem dX7_bring_57 : decode cX7_bring 57 = .ok (.laload, 1) := by decide +kernel
theorem dX7_bring_58 : decode cX7_bring 58 = .ok (.lastore, 1) := by decide +kernel
theorem dX7_bring_59 : decode cX7_bring 59 = .ok (.iinc 2 1, 3) := by decide +kernel
theorem dX7_bring_62 : decode cX7_bring 62 = .ok (.goto (-29), 3) := by decide +kernel
theorem dX7_bring_65 : decode cX7_bring 65 = .ok (.return_, 1) := by decide +kernel
theorem dX7_tries_0 : decode cX7_tries 0 = .ok (.aload_n 0, 1) := by decide +kernel
theorem dX7_tries_1 : decode cX7_tries 1 = .ok (.iload_n 3, 1) := by decide +kernel
theorem dX7_tries_2 : decode cX7_tries 2 = .ok (.invokevirtual 157, 3) := by decide +kernel
theorem dX7_tries_5 : decode cX7_tries 5 = .ok (.aload_n 0, 1) := by decide +kernel
theorem dX7_tries_6 : decode cX7_tries 6 = .ok (.iload_n 1, 1) := by decide +kernel
theorem dX7_tries_7 : decode cX7_tries 7 = .ok (.invokevirtual 74, 3) := by decide +kernel
theorem dX7_tries_10 : decode cX7_tries 10 = .ok (.ifCond .eq 5, 3) := by decide +kernel
theorem dX7_tries_13 : decode cX7_tries 13 = .ok (.iconst 0, 1) := by decide +kernel
theorem dX7_tries_14 : decode cX7_tries 14 = .ok (.ireturn, 1) := by decide +kernel
theorem dX7_tries_15 : decode cX7_tries 15 = .ok (.aload_n 0, 1) := by decide +kernel
theorem dX7_tries_16 : decode cX7_tries 16 = .ok (.iload_n 1, 1) := by decide +kernel
theorem dX7_tries_17 : decode cX7_tries 17 = .ok (.iload_n 2, 1) := by decide +kernel
theorem dX7_tries_18 : decode cX7_tries 18 = .ok (.invokevirtual 160, 3) := by decide +kernel
theorem dX7_tries_21 : decode cX7_tries 21 = .ok (.iconst 0, 1) := by decide +kernel
theorem dX7_tries_22 : decode cX7_tries 22 = .ok (.istore 4, 2) := by decide +kernel
theorem dX7_tries_24 : decode cX7_tries 24 = .ok (.iload 4, 2) := by decide +kernel
theorem dX7_tries_26 : decode cX7_tries 26 = .ok (.aload_n 0, 1) := by decide +kernel
theorem dX7_tries_27 : decode cX7_tries 27 = .ok (.getfield 58, 3) := by decide +kernel
theorem dX7_tries_30 : decode cX7_tries 30 = .ok (.if_icmp .ge 43, 3) := by decide +kernel
theorem dX7_tries_33 : decode cX7_tries 33 = .ok (.aload_n 0, 1) := by decide +kernel
theorem dX7_tries_34 : decode cX7_tries 34 = .ok (.iload 4, 2) := by decide +kernel
theorem dX7_tries_36 : decode cX7_tries 36 = .ok (.invokevirtual 74, 3) := by decide +kernel
theorem dX7_tries_39 : decode cX7_tries 39 = .ok (.ifCond .ne 28, 3) := by decide +kernel
theorem dX7_tries_42 : decode cX7_tries 42 = .ok (.aload_n 0, 1) := by decide +kernel
theorem dX7_tries_43 : decode cX7_tries 43 = .ok (.getfield 13, 3) := by decide +kernel
theorem dX7_tries_46 : decode cX7_tries 46 = .ok (.iload 4, 2) := by decide +kernel
theorem dX7_tries_48 : decode cX7_tries 48 = .ok (.laload, 1) := by decide +kernel
theorem dX7_tries_49 : decode cX7_tries 49 = .ok (.aload_n 0, 1) := by decide +kernel
theorem dX7_tries_50 : decode cX7_tries 50 = .ok (.getfield 29, 3) := by decide +kernel
theorem dX7_tries_53 : decode cX7_tries 53 = .ok (.iconst 4, 1) := by decide +kernel
theorem dX7_tries_54 : decode cX7_tries 54 = .ok (.iaload, 1) := by decide +kernel
theorem dX7_tries_55 : decode cX7_tries 55 = .ok (.i2l, 1) := by decide +kernel
theorem dX7_tries_56 : decode cX7_tries 56 = .ok (.lcmp, 1) := by decide +kernel
theorem dX7_tries_57 : decode cX7_tries 57 = .ok (.ifCond .le 10, 3) := by decide +kernel
theorem dX7_tries_60 : decode cX7_tries 60 = .ok (.aload_n 0, 1) := by decide +kernel
theorem dX7_tries_61 : decode cX7_tries 61 = .ok (.iload_n 3, 1) := by decide +kernel
theorem dX7_tries_62 : decode cX7_tries 62 = .ok (.invokevirtual 164, 3) := by decide +kernel
theorem dX7_tries_65 : decode cX7_tries 65 = .ok (.iconst 0, 1) := by decide +kernel
theorem dX7_tries_66 : decode cX7_tries 66 = .ok (.ireturn, 1) := by decide +kernel
theorem dX7_tries_67 : decode cX7_tries 67 = .ok (.iinc 4 1, 3) := by decide +kernel
theorem dX7_tries_70 : decode cX7_tries 70 = .ok (.goto (-46), 3) := by decide +kernel
theorem dX7_tries_73 : decode cX7_tries 73 = .ok (.iconst 1, 1) := by decide +kernel
theorem dX7_tries_74 : decode cX7_tries 74 = .ok (.ireturn, 1) := by decide +kernel
theorem dX7_enterLog_0 : decode cX7_enterLog 0 = .ok (.aload_n 0, 1) := by decide +kernel
theorem dX7_enterLog_1 : decode cX7_enterLog 1 = .ok (.getfield 32, 3) := by decide +kernel
theorem dX7_enterLog_4 : decode cX7_enterLog 4 = .ok (.iconst 2, 1) := by decide +kernel
theorem dX7_enterLog_5 : decode cX7_enterLog 5 = .ok (.aload_n 0, 1) := by decide +kernel
theorem dX7_enterLog_6 : decode cX7_enterLog 6 = .ok (.getfield 61, 3) := by decide +kernel
theorem dX7_enterLog_9 : decode cX7_enterLog 9 = .ok (.imul, 1) := by decide +kernel
theorem dX7_enterLog_10 : decode cX7_enterLog 10 = .ok (.iload_n 1, 1) := by decide +kernel
theorem dX7_enterLog_11 : decode cX7_enterLog 11 = .ok (.iastore, 1) := by decide +kernel
theorem dX7_enterLog_12 : decode cX7_enterLog 12 = .ok (.aload_n 0, 1) := by decide +kernel
theorem dX7_enterLog_13 : decode cX7_enterLog 13 = .ok (.getfield 32, 3) := by decide +kernel
theorem dX7_enterLog_16 : decode cX7_enterLog 16 = .ok (.iconst 2, 1) := by decide +kernel
theorem dX7_enterLog_17 : decode cX7_enterLog 17 = .ok (.aload_n 0, 1) := by decide +kernel
theorem dX7_enterLog_18 : decode cX7_enterLog 18 = .ok (.getfield 61, 3) := by decide +kernel
theorem dX7_enterLog_21 : decode cX7_enterLog 21 = .ok (.imul, 1) := by decide +kernel
theorem dX7_enterLog_22 : decode cX7_enterLog 22 = .ok (.iconst 1, 1) := by decide +kernel
theorem dX7_enterLog_23 : decode cX7_enterLog 23 = .ok (.iadd, 1) := by decide +kernel
theorem dX7_enterLog_24 : decode cX7_enterLog 24 = .ok (.iload_n 2, 1) := by decide +kernel
theorem dX7_enterLog_25 : decode cX7_enterLog 25 = .ok (.iastore, 1) := by decide +kernel
theorem dX7_enterLog_26 : decode cX7_enterLog 26 = .ok (.aload_n 0, 1) := by decide +kernel
theorem dX7_enterLog_27 : decode cX7_enterLog 27 = .ok (.dup, 1) := by decide +kernel
theorem dX7_enterLog_28 : decode cX7_enterLog 28 = .ok (.getfield 61, 3) := by decide +kernel
theorem dX7_enterLog_31 : decode cX7_enterLog 31 = .ok (.iconst 1, 1) := by decide +kernel
theorem dX7_enterLog_32 : decode cX7_enterLog 32 = .ok (.iadd, 1) := by decide +kernel
theorem dX7_enterLog_33 : decode cX7_enterLog 33 = .ok (.putfield 61, 3) := by decide +kernel
theorem dX7_enterLog_36 : decode cX7_enterLog 36 = .ok (.return_, 1) := by decide +kernel
theorem dX7_turn_0 : decode cX7_turn 0 = .ok (.aload_n 0, 1) := by decide +kernel
theorem dX7_turn_1 : decode cX7_turn 1 = .ok (.iload_n 1, 1) := by decide +kernel
theorem dX7_turn_2 : decode cX7_turn 2 = .ok (.invokevirtual 79, 3) := by decide +kernel
theorem dX7_turn_5 : decode cX7_turn 5 = .ok (.ifCond .eq 18, 3) := by decide +kernel
theorem dX7_turn_8 : decode cX7_turn 8 = .ok (.iload_n 2, 1) := by decide +kernel
theorem dX7_turn_9 : decode cX7_turn 9 = .ok (.bipush (-100), 2) := by decide +kernel
theorem dX7_turn_11 : decode cX7_turn 11 = .ok (.bipush 100, 2) := by decide +kernel
theorem dX7_turn_13 : decode cX7_turn 13 = .ok (.invokestatic 70, 3) := by decide +kernel
theorem dX7_turn_16 : decode cX7_turn 16 = .ok (.ifCond .eq 7, 3) := by decide +kernel
theorem dX7_turn_19 : decode cX7_turn 19 = .ok (.iload_n 2, 1) := by decide +kernel
theorem dX7_turn_20 : decode cX7_turn 20 = .ok (.ifCond .ne 6, 3) := by decide +kernel
theorem dX7_turn_23 : decode cX7_turn 23 = .ok (.ldc 78, 2) := by decide +kernel
theorem dX7_turn_25 : decode cX7_turn 25 = .ok (.ireturn, 1) := by decide +kernel
theorem dX7_turn_26 : decode cX7_turn 26 = .ok (.aload_n 0, 1) := by decide +kernel
theorem dX7_turn_27 : decode cX7_turn 27 = .ok (.iload_n 1, 1) := by decide +kernel
theorem dX7_turn_28 : decode cX7_turn 28 = .ok (.iload_n 2, 1) := by decide +kernel
theorem dX7_turn_29 : decode cX7_turn 29 = .ok (.iconst 0, 1) := by decide +kernel
theorem dX7_turn_30 : decode cX7_turn 30 = .ok (.invokevirtual 167, 3) := by decide +kernel
theorem dX7_turn_33 : decode cX7_turn 33 = .ok (.ifCond .ne 6, 3) := by decide +kernel
theorem dX7_turn_36 : decode cX7_turn 36 = .ok (.ldc 85, 2) := by decide +kernel
theorem dX7_turn_38 : decode cX7_turn 38 = .ok (.ireturn, 1) := by decide +kernel
theorem dX7_turn_39 : decode cX7_turn 39 = .ok (.aload_n 0, 1) := by decide +kernel
theorem dX7_turn_40 : decode cX7_turn 40 = .ok (.getfield 61, 3) := by decide +kernel
theorem dX7_turn_43 : decode cX7_turn 43 = .ok (.bipush 60, 2) := by decide +kernel
theorem dX7_turn_45 : decode cX7_turn 45 = .ok (.if_icmp .ne 11, 3) := by decide +kernel
theorem dX7_turn_48 : decode cX7_turn 48 = .ok (.aload_n 0, 1) := by decide +kernel
theorem dX7_turn_49 : decode cX7_turn 49 = .ok (.iconst 0, 1) := by decide +kernel
theorem dX7_turn_50 : decode cX7_turn 50 = .ok (.invokevirtual 164, 3) := by decide +kernel
theorem dX7_turn_53 : decode cX7_turn 53 = .ok (.ldc 170, 2) := by decide +kernel
theorem dX7_turn_55 : decode cX7_turn 55 = .ok (.ireturn, 1) := by decide +kernel
theorem dX7_turn_56 : decode cX7_turn 56 = .ok (.aload_n 0, 1) := by decide +kernel
theorem dX7_turn_57 : decode cX7_turn 57 = .ok (.iload_n 1, 1) := by decide +kernel
theorem dX7_turn_58 : decode cX7_turn 58 = .ok (.iload_n 2, 1) := by decide +kernel
theorem dX7_turn_59 : decode cX7_turn 59 = .ok (.invokevirtual 171, 3) := by decide +kernel
theorem dX7_turn_62 : decode cX7_turn 62 = .ok (.aload_n 0, 1) := by decide +kernel
theorem dX7_turn_63 : decode cX7_turn 63 = .ok (.getfield 13, 3) := by decide +kernel
theorem dX7_turn_66 : decode cX7_turn 66 = .ok (.iload_n 1, 1) := by decide +kernel
theorem dX7_turn_67 : decode cX7_turn 67 = .ok (.laload, 1) := by decide +kernel
theorem dX7_turn_68 : decode cX7_turn 68 = .ok (.l2i, 1) := by decide +kernel
theorem dX7_turn_69 : decode cX7_turn 69 = .ok (.ireturn, 1) := by decide +kernel
theorem dX7_nextQuarter_0 : decode cX7_nextQuarter 0 = .ok (.aload_n 0, 1) := by decide +kernel
theorem dX7_nextQuarter_1 : decode cX7_nextQuarter 1 = .ok (.invokevirtual 147, 3) := by decide +kernel
theorem dX7_nextQuarter_4 : decode cX7_nextQuarter 4 = .ok (.lstore_n 1, 1) := by decide +kernel
theorem dX7_nextQuarter_5 : decode cX7_nextQuarter 5 = .ok (.ldc 146, 2) := by decide +kernel
theorem dX7_nextQuarter_7 : decode cX7_nextQuarter 7 = .ok (.istore_n 3, 1) := by decide +kernel
theorem dX7_nextQuarter_8 : decode cX7_nextQuarter 8 = .ok (.iconst 0, 1) := by decide +kernel
theorem dX7_nextQuarter_9 : decode cX7_nextQuarter 9 = .ok (.istore 4, 2) := by decide +kernel
theorem dX7_nextQuarter_11 : decode cX7_nextQuarter 11 = .ok (.iload 4, 2) := by decide +kernel
theorem dX7_nextQuarter_13 : decode cX7_nextQuarter 13 = .ok (.iconst 2, 1) := by decide +kernel
theorem dX7_nextQuarter_14 : decode cX7_nextQuarter 14 = .ok (.aload_n 0, 1) := by decide +kernel
theorem dX7_nextQuarter_15 : decode cX7_nextQuarter 15 = .ok (.getfield 58, 3) := by decide +kernel
theorem dX7_nextQuarter_18 : decode cX7_nextQuarter 18 = .ok (.imul, 1) := by decide +kernel
theorem dX7_nextQuarter_19 : decode cX7_nextQuarter 19 = .ok (.if_icmp .ge 57, 3) := by decide +kernel
theorem dX7_nextQuarter_22 : decode cX7_nextQuarter 22 = .ok (.aload_n 0, 1) := by decide +kernel
theorem dX7_nextQuarter_23 : decode cX7_nextQuarter 23 = .ok (.iload 4, 2) := by decide +kernel
theorem dX7_nextQuarter_25 : decode cX7_nextQuarter 25 = .ok (.iconst 2, 1) := by decide +kernel
theorem dX7_nextQuarter_26 : decode cX7_nextQuarter 26 = .ok (.idiv, 1) := by decide +kernel
theorem dX7_nextQuarter_27 : decode cX7_nextQuarter 27 = .ok (.iload 4, 2) := by decide +kernel
theorem dX7_nextQuarter_29 : decode cX7_nextQuarter 29 = .ok (.iconst 2, 1) := by decide +kernel
theorem dX7_nextQuarter_30 : decode cX7_nextQuarter 30 = .ok (.irem, 1) := by decide +kernel
theorem dX7_nextQuarter_31 : decode cX7_nextQuarter 31 = .ok (.ifCond .ne 7, 3) := by decide +kernel
theorem dX7_nextQuarter_34 : decode cX7_nextQuarter 34 = .ok (.iconst 1, 1) := by decide +kernel
theorem dX7_nextQuarter_35 : decode cX7_nextQuarter 35 = .ok (.goto 4, 3) := by decide +kernel
theorem dX7_nextQuarter_38 : decode cX7_nextQuarter 38 = .ok (.iconst (-1), 1) := by decide +kernel
theorem dX7_nextQuarter_39 : decode cX7_nextQuarter 39 = .ok (.iconst 0, 1) := by decide +kernel
theorem dX7_nextQuarter_40 : decode cX7_nextQuarter 40 = .ok (.invokevirtual 167, 3) := by decide +kernel
theorem dX7_nextQuarter_43 : decode cX7_nextQuarter 43 = .ok (.ifCond .eq 27, 3) := by decide +kernel
theorem dX7_nextQuarter_46 : decode cX7_nextQuarter 46 = .ok (.aload_n 0, 1) := by decide +kernel
theorem dX7_nextQuarter_47 : decode cX7_nextQuarter 47 = .ok (.invokevirtual 147, 3) := by decide +kernel
theorem dX7_nextQuarter_50 : decode cX7_nextQuarter 50 = .ok (.lstore 5, 2) := by decide +kernel
theorem dX7_nextQuarter_52 : decode cX7_nextQuarter 52 = .ok (.aload_n 0, 1) := by decide +kernel
theorem dX7_nextQuarter_53 : decode cX7_nextQuarter 53 = .ok (.iconst 0, 1) := by decide +kernel
theorem dX7_nextQuarter_54 : decode cX7_nextQuarter 54 = .ok (.invokevirtual 164, 3) := by decide +kernel
theorem dX7_nextQuarter_57 : decode cX7_nextQuarter 57 = .ok (.lload 5, 2) := by decide +kernel
theorem dX7_nextQuarter_59 : decode cX7_nextQuarter 59 = .ok (.lload_n 1, 1) := by decide +kernel
theorem dX7_nextQuarter_60 : decode cX7_nextQuarter 60 = .ok (.lcmp, 1) := by decide +kernel
theorem dX7_nextQuarter_61 : decode cX7_nextQuarter 61 = .ok (.ifCond .ge 9, 3) := by decide +kernel
theorem dX7_nextQuarter_64 : decode cX7_nextQuarter 64 = .ok (.lload 5, 2) := by decide +kernel
theorem dX7_nextQuarter_66 : decode cX7_nextQuarter 66 = .ok (.lstore_n 1, 1) := by decide +kernel
theorem dX7_nextQuarter_67 : decode cX7_nextQuarter 67 = .ok (.iload 4, 2) := by decide +kernel
theorem dX7_nextQuarter_69 : decode cX7_nextQuarter 69 = .ok (.istore_n 3, 1) := by decide +kernel
theorem dX7_nextQuarter_70 : decode cX7_nextQuarter 70 = .ok (.iinc 4 1, 3) := by decide +kernel
theorem dX7_nextQuarter_73 : decode cX7_nextQuarter 73 = .ok (.goto (-62), 3) := by decide +kernel
theorem dX7_nextQuarter_76 : decode cX7_nextQuarter 76 = .ok (.iload_n 3, 1) := by decide +kernel
theorem dX7_nextQuarter_77 : decode cX7_nextQuarter 77 = .ok (.ireturn, 1) := by decide +kernel
theorem dX7_next__0 : decode cX7_next_ 0 = .ok (.aload_n 0, 1) := by decide +kernel
theorem dX7_next__1 : decode cX7_next_ 1 = .ok (.invokevirtual 174, 3) := by decide +kernel
theorem dX7_next__4 : decode cX7_next_ 4 = .ok (.ireturn, 1) := by decide +kernel
theorem dX7_plan_0 : decode cX7_plan 0 = .ok (.iload_n 1, 1) := by decide +kernel
theorem dX7_plan_1 : decode cX7_plan 1 = .ok (.iconst 1, 1) := by decide +kernel
theorem dX7_plan_2 : decode cX7_plan 2 = .ok (.bipush 60, 2) := by decide +kernel
theorem dX7_plan_4 : decode cX7_plan 4 = .ok (.invokestatic 70, 3) := by decide +kernel
theorem dX7_plan_7 : decode cX7_plan 7 = .ok (.ifCond .ne 6, 3) := by decide +kernel
theorem dX7_plan_10 : decode cX7_plan 10 = .ok (.ldc 78, 2) := by decide +kernel
theorem dX7_plan_12 : decode cX7_plan 12 = .ok (.ireturn, 1) := by decide +kernel
theorem dX7_plan_13 : decode cX7_plan 13 = .ok (.iconst 0, 1) := by decide +kernel
theorem dX7_plan_14 : decode cX7_plan 14 = .ok (.istore_n 2, 1) := by decide +kernel
theorem dX7_plan_15 : decode cX7_plan 15 = .ok (.iload_n 2, 1) := by decide +kernel
theorem dX7_plan_16 : decode cX7_plan 16 = .ok (.iload_n 1, 1) := by decide +kernel
theorem dX7_plan_17 : decode cX7_plan 17 = .ok (.if_icmp .ge 62, 3) := by decide +kernel
theorem dX7_plan_20 : decode cX7_plan 20 = .ok (.aload_n 0, 1) := by decide +kernel
theorem dX7_plan_21 : decode cX7_plan 21 = .ok (.getfield 61, 3) := by decide +kernel
theorem dX7_plan_24 : decode cX7_plan 24 = .ok (.bipush 60, 2) := by decide +kernel
theorem dX7_plan_26 : decode cX7_plan 26 = .ok (.if_icmp .ge 53, 3) := by decide +kernel
theorem dX7_plan_29 : decode cX7_plan 29 = .ok (.aload_n 0, 1) := by decide +kernel
theorem dX7_plan_30 : decode cX7_plan 30 = .ok (.invokevirtual 174, 3) := by decide +kernel
theorem dX7_plan_33 : decode cX7_plan 33 = .ok (.istore_n 3, 1) := by decide +kernel
theorem dX7_plan_34 : decode cX7_plan 34 = .ok (.iload_n 3, 1) := by decide +kernel
theorem dX7_plan_35 : decode cX7_plan 35 = .ok (.ldc 146, 2) := by decide +kernel
theorem dX7_plan_37 : decode cX7_plan 37 = .ok (.if_icmp .ne 5, 3) := by decide +kernel
theorem dX7_plan_40 : decode cX7_plan 40 = .ok (.iload_n 2, 1) := by decide +kernel
theorem dX7_plan_41 : decode cX7_plan 41 = .ok (.ireturn, 1) := by decide +kernel
theorem dX7_plan_42 : decode cX7_plan 42 = .ok (.iload_n 3, 1) := by decide +kernel
theorem dX7_plan_43 : decode cX7_plan 43 = .ok (.iconst 2, 1) := by decide +kernel
theorem dX7_plan_44 : decode cX7_plan 44 = .ok (.irem, 1) := by decide +kernel
theorem dX7_plan_45 : decode cX7_plan 45 = .ok (.ifCond .ne 7, 3) := by decide +kernel
theorem dX7_plan_48 : decode cX7_plan 48 = .ok (.iconst 1, 1) := by decide +kernel
theorem dX7_plan_49 : decode cX7_plan 49 = .ok (.goto 4, 3) := by decide +kernel
theorem dX7_plan_52 : decode cX7_plan 52 = .ok (.iconst (-1), 1) := by decide +kernel
theorem dX7_plan_53 : decode cX7_plan 53 = .ok (.istore 4, 2) := by decide +kernel
theorem dX7_plan_55 : decode cX7_plan 55 = .ok (.aload_n 0, 1) := by decide +kernel
theorem dX7_plan_56 : decode cX7_plan 56 = .ok (.iload_n 3, 1) := by decide +kernel
theorem dX7_plan_57 : decode cX7_plan 57 = .ok (.iconst 2, 1) := by decide +kernel
theorem dX7_plan_58 : decode cX7_plan 58 = .ok (.idiv, 1) := by decide +kernel
theorem dX7_plan_59 : decode cX7_plan 59 = .ok (.iload 4, 2) := by decide +kernel
theorem dX7_plan_61 : decode cX7_plan 61 = .ok (.invokevirtual 160, 3) := by decide +kernel
theorem dX7_plan_64 : decode cX7_plan 64 = .ok (.aload_n 0, 1) := by decide +kernel
theorem dX7_plan_65 : decode cX7_plan 65 = .ok (.iload_n 3, 1) := by decide +kernel
theorem dX7_plan_66 : decode cX7_plan 66 = .ok (.iconst 2, 1) := by decide +kernel
theorem dX7_plan_67 : decode cX7_plan 67 = .ok (.idiv, 1) := by decide +kernel
theorem dX7_plan_68 : decode cX7_plan 68 = .ok (.iload 4, 2) := by decide +kernel
theorem dX7_plan_70 : decode cX7_plan 70 = .ok (.invokevirtual 171, 3) := by decide +kernel
theorem dX7_plan_73 : decode cX7_plan 73 = .ok (.iinc 2 1, 3) := by decide +kernel
theorem dX7_plan_76 : decode cX7_plan 76 = .ok (.goto (-61), 3) := by decide +kernel
theorem dX7_plan_79 : decode cX7_plan 79 = .ok (.iload_n 2, 1) := by decide +kernel
theorem dX7_plan_80 : decode cX7_plan 80 = .ok (.ireturn, 1) := by decide +kernel
theorem dX7_quarters_0 : decode cX7_quarters 0 = .ok (.iload_n 0, 1) := by decide +kernel
theorem dX7_quarters_1 : decode cX7_quarters 1 = .ok (.iconst 2, 1) := by decide +kernel
theorem dX7_quarters_2 : decode cX7_quarters 2 = .ok (.irem, 1) := by decide +kernel
theorem dX7_quarters_3 : decode cX7_quarters 3 = .ok (.ifCond .ne 11, 3) := by decide +kernel
theorem dX7_quarters_6 : decode cX7_quarters 6 = .ok (.iload_n 0, 1) := by decide +kernel
theorem dX7_quarters_7 : decode cX7_quarters 7 = .ok (.iconst 2, 1) := by decide +kernel
theorem dX7_quarters_8 : decode cX7_quarters 8 = .ok (.idiv, 1) := by decide +kernel
theorem dX7_quarters_9 : decode cX7_quarters 9 = .ok (.iconst 1, 1) := by decide +kernel
theorem dX7_quarters_10 : decode cX7_quarters 10 = .ok (.iadd, 1) := by decide +kernel
theorem dX7_quarters_11 : decode cX7_quarters 11 = .ok (.goto 9, 3) := by decide +kernel
theorem dX7_quarters_14 : decode cX7_quarters 14 = .ok (.iload_n 0, 1) := by decide +kernel
theorem dX7_quarters_15 : decode cX7_quarters 15 = .ok (.iconst 2, 1) := by decide +kernel
theorem dX7_quarters_16 : decode cX7_quarters 16 = .ok (.idiv, 1) := by decide +kernel
theorem dX7_quarters_17 : decode cX7_quarters 17 = .ok (.iconst 1, 1) := by decide +kernel
theorem dX7_quarters_18 : decode cX7_quarters 18 = .ok (.iadd, 1) := by decide +kernel
theorem dX7_quarters_19 : decode cX7_quarters 19 = .ok (.ineg, 1) := by decide +kernel
theorem dX7_quarters_20 : decode cX7_quarters 20 = .ok (.ireturn, 1) := by decide +kernel
theorem dX7_byOne_0 : decode cX7_byOne 0 = .ok (.iconst 0, 1) := by decide +kernel
theorem dX7_byOne_1 : decode cX7_byOne 1 = .ok (.istore_n 1, 1) := by decide +kernel
theorem dX7_byOne_2 : decode cX7_byOne 2 = .ok (.iload_n 1, 1) := by decide +kernel
theorem dX7_byOne_3 : decode cX7_byOne 3 = .ok (.aload_n 0, 1) := by decide +kernel
theorem dX7_byOne_4 : decode cX7_byOne 4 = .ok (.getfield 58, 3) := by decide +kernel
theorem dX7_byOne_7 : decode cX7_byOne 7 = .ok (.if_icmp .ge 80, 3) := by decide +kernel
theorem dX7_byOne_10 : decode cX7_byOne 10 = .ok (.iconst 0, 1) := by decide +kernel
theorem dX7_byOne_11 : decode cX7_byOne 11 = .ok (.istore_n 2, 1) := by decide +kernel
theorem dX7_byOne_12 : decode cX7_byOne 12 = .ok (.iload_n 2, 1) := by decide +kernel
theorem dX7_byOne_13 : decode cX7_byOne 13 = .ok (.bipush 8, 2) := by decide +kernel
theorem dX7_byOne_15 : decode cX7_byOne 15 = .ok (.if_icmp .ge 66, 3) := by decide +kernel
theorem dX7_byOne_18 : decode cX7_byOne 18 = .ok (.aload_n 0, 1) := by decide +kernel
theorem dX7_byOne_19 : decode cX7_byOne 19 = .ok (.iload_n 1, 1) := by decide +kernel
theorem dX7_byOne_20 : decode cX7_byOne 20 = .ok (.iload_n 2, 1) := by decide +kernel
theorem dX7_byOne_21 : decode cX7_byOne 21 = .ok (.invokestatic 177, 3) := by decide +kernel
theorem dX7_byOne_24 : decode cX7_byOne 24 = .ok (.iconst 0, 1) := by decide +kernel
theorem dX7_byOne_25 : decode cX7_byOne 25 = .ok (.invokevirtual 167, 3) := by decide +kernel
theorem dX7_byOne_28 : decode cX7_byOne 28 = .ok (.ifCond .eq 47, 3) := by decide +kernel
theorem dX7_byOne_31 : decode cX7_byOne 31 = .ok (.aload_n 0, 1) := by decide +kernel
theorem dX7_byOne_32 : decode cX7_byOne 32 = .ok (.invokevirtual 150, 3) := by decide +kernel
theorem dX7_byOne_35 : decode cX7_byOne 35 = .ok (.ldc 146, 2) := by decide +kernel
theorem dX7_byOne_37 : decode cX7_byOne 37 = .ok (.if_icmp .ne 7, 3) := by decide +kernel
theorem dX7_byOne_40 : decode cX7_byOne 40 = .ok (.iconst 1, 1) := by decide +kernel
theorem dX7_byOne_41 : decode cX7_byOne 41 = .ok (.goto 4, 3) := by decide +kernel
theorem dX7_byOne_44 : decode cX7_byOne 44 = .ok (.iconst 0, 1) := by decide +kernel
theorem dX7_byOne_45 : decode cX7_byOne 45 = .ok (.istore_n 3, 1) := by decide +kernel
theorem dX7_byOne_46 : decode cX7_byOne 46 = .ok (.aload_n 0, 1) := by decide +kernel
theorem dX7_byOne_47 : decode cX7_byOne 47 = .ok (.iconst 0, 1) := by decide +kernel
theorem dX7_byOne_48 : decode cX7_byOne 48 = .ok (.invokevirtual 164, 3) := by decide +kernel
theorem dX7_byOne_51 : decode cX7_byOne 51 = .ok (.iload_n 3, 1) := by decide +kernel
theorem dX7_byOne_52 : decode cX7_byOne 52 = .ok (.ifCond .eq 23, 3) := by decide +kernel
theorem dX7_byOne_55 : decode cX7_byOne 55 = .ok (.aload_n 0, 1) := by decide +kernel
theorem dX7_byOne_56 : decode cX7_byOne 56 = .ok (.iconst 1, 1) := by decide +kernel
theorem dX7_byOne_57 : decode cX7_byOne 57 = .ok (.putfield 180, 3) := by decide +kernel
theorem dX7_byOne_60 : decode cX7_byOne 60 = .ok (.aload_n 0, 1) := by decide +kernel
theorem dX7_byOne_61 : decode cX7_byOne 61 = .ok (.iload_n 1, 1) := by decide +kernel
theorem dX7_byOne_62 : decode cX7_byOne 62 = .ok (.putfield 183, 3) := by decide +kernel
theorem dX7_byOne_65 : decode cX7_byOne 65 = .ok (.aload_n 0, 1) := by decide +kernel
theorem dX7_byOne_66 : decode cX7_byOne 66 = .ok (.iload_n 2, 1) := by decide +kernel
theorem dX7_byOne_67 : decode cX7_byOne 67 = .ok (.invokestatic 177, 3) := by decide +kernel
theorem dX7_byOne_70 : decode cX7_byOne 70 = .ok (.putfield 186, 3) := by decide +kernel
theorem dX7_byOne_73 : decode cX7_byOne 73 = .ok (.iconst 1, 1) := by decide +kernel
theorem dX7_byOne_74 : decode cX7_byOne 74 = .ok (.ireturn, 1) := by decide +kernel
theorem dX7_byOne_75 : decode cX7_byOne 75 = .ok (.iinc 2 1, 3) := by decide +kernel
theorem dX7_byOne_78 : decode cX7_byOne 78 = .ok (.goto (-66), 3) := by decide +kernel
theorem dX7_byOne_81 : decode cX7_byOne 81 = .ok (.iinc 1 1, 3) := by decide +kernel
theorem dX7_byOne_84 : decode cX7_byOne 84 = .ok (.goto (-82), 3) := by decide +kernel
theorem dX7_byOne_87 : decode cX7_byOne 87 = .ok (.iconst 0, 1) := by decide +kernel
theorem dX7_byOne_88 : decode cX7_byOne 88 = .ok (.ireturn, 1) := by decide +kernel
theorem dX7_bySecond_0 : decode cX7_bySecond 0 = .ok (.iload_n 1, 1) := by decide +kernel
theorem dX7_bySecond_1 : decode cX7_bySecond 1 = .ok (.iconst 1, 1) := by decide +kernel
theorem dX7_bySecond_2 : decode cX7_bySecond 2 = .ok (.iadd, 1) := by decide +kernel
theorem dX7_bySecond_3 : decode cX7_bySecond 3 = .ok (.istore_n 3, 1) := by decide +kernel
theorem dX7_bySecond_4 : decode cX7_bySecond 4 = .ok (.iload_n 3, 1) := by decide +kernel
theorem dX7_bySecond_5 : decode cX7_bySecond 5 = .ok (.aload_n 0, 1) := by decide +kernel
theorem dX7_bySecond_6 : decode cX7_bySecond 6 = .ok (.getfield 58, 3) := by decide +kernel
theorem dX7_bySecond_9 : decode cX7_bySecond 9 = .ok (.if_icmp .ge 96, 3) := by decide +kernel
theorem dX7_bySecond_12 : decode cX7_bySecond 12 = .ok (.iconst 0, 1) := by decide +kernel
theorem dX7_bySecond_13 : decode cX7_bySecond 13 = .ok (.istore 4, 2) := by decide +kernel
theorem dX7_bySecond_15 : decode cX7_bySecond 15 = .ok (.iload 4, 2) := by decide +kernel
theorem dX7_bySecond_17 : decode cX7_bySecond 17 = .ok (.bipush 8, 2) := by decide +kernel
theorem dX7_bySecond_19 : decode cX7_bySecond 19 = .ok (.if_icmp .ge 80, 3) := by decide +kernel
theorem dX7_bySecond_22 : decode cX7_bySecond 22 = .ok (.aload_n 0, 1) := by decide +kernel
theorem dX7_bySecond_23 : decode cX7_bySecond 23 = .ok (.iload_n 3, 1) := by decide +kernel
theorem dX7_bySecond_24 : decode cX7_bySecond 24 = .ok (.iload 4, 2) := by decide +kernel
theorem dX7_bySecond_26 : decode cX7_bySecond 26 = .ok (.invokestatic 177, 3) := by decide +kernel
theorem dX7_bySecond_29 : decode cX7_bySecond 29 = .ok (.iconst 1, 1) := by decide +kernel
theorem dX7_bySecond_30 : decode cX7_bySecond 30 = .ok (.invokevirtual 167, 3) := by decide +kernel
theorem dX7_bySecond_33 : decode cX7_bySecond 33 = .ok (.ifCond .eq 60, 3) := by decide +kernel
theorem dX7_bySecond_36 : decode cX7_bySecond 36 = .ok (.aload_n 0, 1) := by decide +kernel
theorem dX7_bySecond_37 : decode cX7_bySecond 37 = .ok (.invokevirtual 150, 3) := by decide +kernel
theorem dX7_bySecond_40 : decode cX7_bySecond 40 = .ok (.ldc 146, 2) := by decide +kernel
theorem dX7_bySecond_42 : decode cX7_bySecond 42 = .ok (.if_icmp .ne 7, 3) := by decide +kernel
theorem dX7_bySecond_45 : decode cX7_bySecond 45 = .ok (.iconst 1, 1) := by decide +kernel
theorem dX7_bySecond_46 : decode cX7_bySecond 46 = .ok (.goto 4, 3) := by decide +kernel
theorem dX7_bySecond_49 : decode cX7_bySecond 49 = .ok (.iconst 0, 1) := by decide +kernel
theorem dX7_bySecond_50 : decode cX7_bySecond 50 = .ok (.istore 5, 2) := by decide +kernel
theorem dX7_bySecond_52 : decode cX7_bySecond 52 = .ok (.aload_n 0, 1) := by decide +kernel
theorem dX7_bySecond_53 : decode cX7_bySecond 53 = .ok (.iconst 1, 1) := by decide +kernel
theorem dX7_bySecond_54 : decode cX7_bySecond 54 = .ok (.invokevirtual 164, 3) := by decide +kernel
theorem dX7_bySecond_57 : decode cX7_bySecond 57 = .ok (.iload 5, 2) := by decide +kernel
theorem dX7_bySecond_59 : decode cX7_bySecond 59 = .ok (.ifCond .eq 34, 3) := by decide +kernel
theorem dX7_bySecond_62 : decode cX7_bySecond 62 = .ok (.aload_n 0, 1) := by decide +kernel
theorem dX7_bySecond_63 : decode cX7_bySecond 63 = .ok (.iconst 2, 1) := by decide +kernel
theorem dX7_bySecond_64 : decode cX7_bySecond 64 = .ok (.putfield 180, 3) := by decide +kernel
theorem dX7_bySecond_67 : decode cX7_bySecond 67 = .ok (.aload_n 0, 1) := by decide +kernel
theorem dX7_bySecond_68 : decode cX7_bySecond 68 = .ok (.iload_n 1, 1) := by decide +kernel
theorem dX7_bySecond_69 : decode cX7_bySecond 69 = .ok (.putfield 183, 3) := by decide +kernel
theorem dX7_bySecond_72 : decode cX7_bySecond 72 = .ok (.aload_n 0, 1) := by decide +kernel
theorem dX7_bySecond_73 : decode cX7_bySecond 73 = .ok (.iload_n 2, 1) := by decide +kernel
theorem dX7_bySecond_74 : decode cX7_bySecond 74 = .ok (.putfield 186, 3) := by decide +kernel
theorem dX7_bySecond_77 : decode cX7_bySecond 77 = .ok (.aload_n 0, 1) := by decide +kernel
theorem dX7_bySecond_78 : decode cX7_bySecond 78 = .ok (.iload_n 3, 1) := by decide +kernel
theorem dX7_bySecond_79 : decode cX7_bySecond 79 = .ok (.putfield 189, 3) := by decide +kernel
theorem dX7_bySecond_82 : decode cX7_bySecond 82 = .ok (.aload_n 0, 1) := by decide +kernel
theorem dX7_bySecond_83 : decode cX7_bySecond 83 = .ok (.iload 4, 2) := by decide +kernel
theorem dX7_bySecond_85 : decode cX7_bySecond 85 = .ok (.invokestatic 177, 3) := by decide +kernel
theorem dX7_bySecond_88 : decode cX7_bySecond 88 = .ok (.putfield 192, 3) := by decide +kernel
theorem dX7_bySecond_91 : decode cX7_bySecond 91 = .ok (.iconst 1, 1) := by decide +kernel
theorem dX7_bySecond_92 : decode cX7_bySecond 92 = .ok (.ireturn, 1) := by decide +kernel
theorem dX7_bySecond_93 : decode cX7_bySecond 93 = .ok (.iinc 4 1, 3) := by decide +kernel
theorem dX7_bySecond_96 : decode cX7_bySecond 96 = .ok (.goto (-81), 3) := by decide +kernel
theorem dX7_bySecond_99 : decode cX7_bySecond 99 = .ok (.iinc 3 1, 3) := by decide +kernel
theorem dX7_bySecond_102 : decode cX7_bySecond 102 = .ok (.goto (-98), 3) := by decide +kernel
theorem dX7_bySecond_105 : decode cX7_bySecond 105 = .ok (.iconst 0, 1) := by decide +kernel
theorem dX7_bySecond_106 : decode cX7_bySecond 106 = .ok (.ireturn, 1) := by decide +kernel
theorem dX7_byTwo_0 : decode cX7_byTwo 0 = .ok (.iconst 0, 1) := by decide +kernel
theorem dX7_byTwo_1 : decode cX7_byTwo 1 = .ok (.istore_n 1, 1) := by decide +kernel
theorem dX7_byTwo_2 : decode cX7_byTwo 2 = .ok (.iload_n 1, 1) := by decide +kernel
theorem dX7_byTwo_3 : decode cX7_byTwo 3 = .ok (.aload_n 0, 1) := by decide +kernel
theorem dX7_byTwo_4 : decode cX7_byTwo 4 = .ok (.getfield 58, 3) := by decide +kernel
theorem dX7_byTwo_7 : decode cX7_byTwo 7 = .ok (.if_icmp .ge 57, 3) := by decide +kernel
theorem dX7_byTwo_10 : decode cX7_byTwo 10 = .ok (.iconst 0, 1) := by decide +kernel
theorem dX7_byTwo_11 : decode cX7_byTwo 11 = .ok (.istore_n 2, 1) := by decide +kernel
theorem dX7_byTwo_12 : decode cX7_byTwo 12 = .ok (.iload_n 2, 1) := by decide +kernel
theorem dX7_byTwo_13 : decode cX7_byTwo 13 = .ok (.bipush 8, 2) := by decide +kernel
theorem dX7_byTwo_15 : decode cX7_byTwo 15 = .ok (.if_icmp .ge 43, 3) := by decide +kernel
theorem dX7_byTwo_18 : decode cX7_byTwo 18 = .ok (.aload_n 0, 1) := by decide +kernel
theorem dX7_byTwo_19 : decode cX7_byTwo 19 = .ok (.iload_n 1, 1) := by decide +kernel
theorem dX7_byTwo_20 : decode cX7_byTwo 20 = .ok (.iload_n 2, 1) := by decide +kernel
theorem dX7_byTwo_21 : decode cX7_byTwo 21 = .ok (.invokestatic 177, 3) := by decide +kernel
theorem dX7_byTwo_24 : decode cX7_byTwo 24 = .ok (.iconst 0, 1) := by decide +kernel
theorem dX7_byTwo_25 : decode cX7_byTwo 25 = .ok (.invokevirtual 167, 3) := by decide +kernel
theorem dX7_byTwo_28 : decode cX7_byTwo 28 = .ok (.ifCond .eq 24, 3) := by decide +kernel
theorem dX7_byTwo_31 : decode cX7_byTwo 31 = .ok (.aload_n 0, 1) := by decide +kernel
theorem dX7_byTwo_32 : decode cX7_byTwo 32 = .ok (.iload_n 1, 1) := by decide +kernel
theorem dX7_byTwo_33 : decode cX7_byTwo 33 = .ok (.iload_n 2, 1) := by decide +kernel
theorem dX7_byTwo_34 : decode cX7_byTwo 34 = .ok (.invokestatic 177, 3) := by decide +kernel
theorem dX7_byTwo_37 : decode cX7_byTwo 37 = .ok (.invokevirtual 195, 3) := by decide +kernel
theorem dX7_byTwo_40 : decode cX7_byTwo 40 = .ok (.istore_n 3, 1) := by decide +kernel
theorem dX7_byTwo_41 : decode cX7_byTwo 41 = .ok (.aload_n 0, 1) := by decide +kernel
theorem dX7_byTwo_42 : decode cX7_byTwo 42 = .ok (.iconst 0, 1) := by decide +kernel
theorem dX7_byTwo_43 : decode cX7_byTwo 43 = .ok (.invokevirtual 164, 3) := by decide +kernel
theorem dX7_byTwo_46 : decode cX7_byTwo 46 = .ok (.iload_n 3, 1) := by decide +kernel
theorem dX7_byTwo_47 : decode cX7_byTwo 47 = .ok (.ifCond .eq 5, 3) := by decide +kernel
theorem dX7_byTwo_50 : decode cX7_byTwo 50 = .ok (.iconst 1, 1) := by decide +kernel
theorem dX7_byTwo_51 : decode cX7_byTwo 51 = .ok (.ireturn, 1) := by decide +kernel
theorem dX7_byTwo_52 : decode cX7_byTwo 52 = .ok (.iinc 2 1, 3) := by decide +kernel
theorem dX7_byTwo_55 : decode cX7_byTwo 55 = .ok (.goto (-43), 3) := by decide +kernel
theorem dX7_byTwo_58 : decode cX7_byTwo 58 = .ok (.iinc 1 1, 3) := by decide +kernel
theorem dX7_byTwo_61 : decode cX7_byTwo 61 = .ok (.goto (-59), 3) := by decide +kernel
theorem dX7_byTwo_64 : decode cX7_byTwo 64 = .ok (.iconst 0, 1) := by decide +kernel
theorem dX7_byTwo_65 : decode cX7_byTwo 65 = .ok (.ireturn, 1) := by decide +kernel
theorem dX7_fewest_0 : decode cX7_fewest 0 = .ok (.iload_n 1, 1) := by decide +kernel
theorem dX7_fewest_1 : decode cX7_fewest 1 = .ok (.iconst 0, 1) := by decide +kernel
theorem dX7_fewest_2 : decode cX7_fewest 2 = .ok (.iconst 4, 1) := by decide +kernel
theorem dX7_fewest_3 : decode cX7_fewest 3 = .ok (.invokestatic 70, 3) := by decide +kernel
theorem dX7_fewest_6 : decode cX7_fewest 6 = .ok (.ifCond .ne 6, 3) := by decide +kernel
theorem dX7_fewest_9 : decode cX7_fewest 9 = .ok (.ldc 78, 2) := by decide +kernel
theorem dX7_fewest_11 : decode cX7_fewest 11 = .ok (.ireturn, 1) := by decide +kernel
theorem dX7_fewest_12 : decode cX7_fewest 12 = .ok (.aload_n 0, 1) := by decide +kernel
theorem dX7_fewest_13 : decode cX7_fewest 13 = .ok (.iconst 0, 1) := by decide +kernel
theorem dX7_fewest_14 : decode cX7_fewest 14 = .ok (.putfield 180, 3) := by decide +kernel
theorem dX7_fewest_17 : decode cX7_fewest 17 = .ok (.aload_n 0, 1) := by decide +kernel
theorem dX7_fewest_18 : decode cX7_fewest 18 = .ok (.invokevirtual 150, 3) := by decide +kernel
theorem dX7_fewest_21 : decode cX7_fewest 21 = .ok (.ldc 146, 2) := by decide +kernel
theorem dX7_fewest_23 : decode cX7_fewest 23 = .ok (.if_icmp .eq 20, 3) := by decide +kernel
theorem dX7_fewest_26 : decode cX7_fewest 26 = .ok (.aload_n 0, 1) := by decide +kernel
theorem dX7_fewest_27 : decode cX7_fewest 27 = .ok (.invokevirtual 199, 3) := by decide +kernel
theorem dX7_fewest_30 : decode cX7_fewest 30 = .ok (.ifCond .ne 13, 3) := by decide +kernel
theorem dX7_fewest_33 : decode cX7_fewest 33 = .ok (.aload_n 0, 1) := by decide +kernel
theorem dX7_fewest_34 : decode cX7_fewest 34 = .ok (.invokevirtual 203, 3) := by decide +kernel
theorem dX7_fewest_37 : decode cX7_fewest 37 = .ok (.ifCond .ne 6, 3) := by decide +kernel
theorem dX7_fewest_40 : decode cX7_fewest 40 = .ok (.ldc 146, 2) := by decide +kernel
theorem dX7_fewest_42 : decode cX7_fewest 42 = .ok (.ireturn, 1) := by decide +kernel
theorem dX7_fewest_43 : decode cX7_fewest 43 = .ok (.iload_n 1, 1) := by decide +kernel
theorem dX7_fewest_44 : decode cX7_fewest 44 = .ok (.ifCond .ne 8, 3) := by decide +kernel
theorem dX7_fewest_47 : decode cX7_fewest 47 = .ok (.aload_n 0, 1) := by decide +kernel
theorem dX7_fewest_48 : decode cX7_fewest 48 = .ok (.getfield 180, 3) := by decide +kernel
theorem dX7_fewest_51 : decode cX7_fewest 51 = .ok (.ireturn, 1) := by decide +kernel
theorem dX7_fewest_52 : decode cX7_fewest 52 = .ok (.iload_n 1, 1) := by decide +kernel
theorem dX7_fewest_53 : decode cX7_fewest 53 = .ok (.iconst 3, 1) := by decide +kernel
theorem dX7_fewest_54 : decode cX7_fewest 54 = .ok (.if_icmp .ge 33, 3) := by decide +kernel
theorem dX7_fewest_57 : decode cX7_fewest 57 = .ok (.aload_n 0, 1) := by decide +kernel
theorem dX7_fewest_58 : decode cX7_fewest 58 = .ok (.getfield 180, 3) := by decide +kernel
theorem dX7_fewest_61 : decode cX7_fewest 61 = .ok (.iconst 1, 1) := by decide +kernel
theorem dX7_fewest_62 : decode cX7_fewest 62 = .ok (.if_icmp .ge 8, 3) := by decide +kernel
theorem dX7_fewest_65 : decode cX7_fewest 65 = .ok (.ldc 146, 2) := by decide +kernel
theorem dX7_fewest_67 : decode cX7_fewest 67 = .ok (.goto 19, 3) := by decide +kernel
theorem dX7_fewest_70 : decode cX7_fewest 70 = .ok (.iload_n 1, 1) := by decide +kernel
theorem dX7_fewest_71 : decode cX7_fewest 71 = .ok (.iconst 1, 1) := by decide +kernel
theorem dX7_fewest_72 : decode cX7_fewest 72 = .ok (.if_icmp .ne 10, 3) := by decide +kernel
theorem dX7_fewest_75 : decode cX7_fewest 75 = .ok (.aload_n 0, 1) := by decide +kernel
theorem dX7_fewest_76 : decode cX7_fewest 76 = .ok (.getfield 183, 3) := by decide +kernel
theorem dX7_fewest_79 : decode cX7_fewest 79 = .ok (.goto 7, 3) := by decide +kernel
theorem dX7_fewest_82 : decode cX7_fewest 82 = .ok (.aload_n 0, 1) := by decide +kernel
theorem dX7_fewest_83 : decode cX7_fewest 83 = .ok (.getfield 186, 3) := by decide +kernel
theorem dX7_fewest_86 : decode cX7_fewest 86 = .ok (.ireturn, 1) := by decide +kernel
theorem dX7_fewest_87 : decode cX7_fewest 87 = .ok (.aload_n 0, 1) := by decide +kernel
theorem dX7_fewest_88 : decode cX7_fewest 88 = .ok (.getfield 180, 3) := by decide +kernel
theorem dX7_fewest_91 : decode cX7_fewest 91 = .ok (.iconst 2, 1) := by decide +kernel
theorem dX7_fewest_92 : decode cX7_fewest 92 = .ok (.if_icmp .ge 8, 3) := by decide +kernel
theorem dX7_fewest_95 : decode cX7_fewest 95 = .ok (.ldc 146, 2) := by decide +kernel
theorem dX7_fewest_97 : decode cX7_fewest 97 = .ok (.goto 19, 3) := by decide +kernel
theorem dX7_fewest_100 : decode cX7_fewest 100 = .ok (.iload_n 1, 1) := by decide +kernel
theorem dX7_fewest_101 : decode cX7_fewest 101 = .ok (.iconst 3, 1) := by decide +kernel
theorem dX7_fewest_102 : decode cX7_fewest 102 = .ok (.if_icmp .ne 10, 3) := by decide +kernel
theorem dX7_fewest_105 : decode cX7_fewest 105 = .ok (.aload_n 0, 1) := by decide +kernel
theorem dX7_fewest_106 : decode cX7_fewest 106 = .ok (.getfield 189, 3) := by decide +kernel
theorem dX7_fewest_109 : decode cX7_fewest 109 = .ok (.goto 7, 3) := by decide +kernel
theorem dX7_fewest_112 : decode cX7_fewest 112 = .ok (.aload_n 0, 1) := by decide +kernel
theorem dX7_fewest_113 : decode cX7_fewest 113 = .ok (.getfield 192, 3) := by decide +kernel
theorem dX7_fewest_116 : decode cX7_fewest 116 = .ok (.ireturn, 1) := by decide +kernel
theorem dX7_log_0 : decode cX7_log 0 = .ok (.iload_n 1, 1) := by decide +kernel
theorem dX7_log_1 : decode cX7_log 1 = .ok (.ifCond .lt 12, 3) := by decide +kernel
theorem dX7_log_4 : decode cX7_log 4 = .ok (.iload_n 2, 1) := by decide +kernel
theorem dX7_log_5 : decode cX7_log 5 = .ok (.iconst 0, 1) := by decide +kernel
theorem dX7_log_6 : decode cX7_log 6 = .ok (.iconst 1, 1) := by decide +kernel
theorem dX7_log_7 : decode cX7_log 7 = .ok (.invokestatic 70, 3) := by decide +kernel
theorem dX7_log_10 : decode cX7_log 10 = .ok (.ifCond .ne 6, 3) := by decide +kernel
theorem dX7_log_13 : decode cX7_log 13 = .ok (.ldc 78, 2) := by decide +kernel
theorem dX7_log_15 : decode cX7_log 15 = .ok (.ireturn, 1) := by decide +kernel
theorem dX7_log_16 : decode cX7_log 16 = .ok (.iload_n 1, 1) := by decide +kernel
theorem dX7_log_17 : decode cX7_log 17 = .ok (.aload_n 0, 1) := by decide +kernel
theorem dX7_log_18 : decode cX7_log 18 = .ok (.getfield 61, 3) := by decide +kernel
theorem dX7_log_21 : decode cX7_log 21 = .ok (.if_icmp .ge 16, 3) := by decide +kernel
theorem dX7_log_24 : decode cX7_log 24 = .ok (.aload_n 0, 1) := by decide +kernel
theorem dX7_log_25 : decode cX7_log 25 = .ok (.getfield 32, 3) := by decide +kernel
theorem dX7_log_28 : decode cX7_log 28 = .ok (.iconst 2, 1) := by decide +kernel
theorem dX7_log_29 : decode cX7_log 29 = .ok (.iload_n 1, 1) := by decide +kernel
theorem dX7_log_30 : decode cX7_log 30 = .ok (.imul, 1) := by decide +kernel
theorem dX7_log_31 : decode cX7_log 31 = .ok (.iload_n 2, 1) := by decide +kernel
theorem dX7_log_32 : decode cX7_log 32 = .ok (.iadd, 1) := by decide +kernel
theorem dX7_log_33 : decode cX7_log 33 = .ok (.iaload, 1) := by decide +kernel
theorem dX7_log_34 : decode cX7_log 34 = .ok (.goto 5, 3) := by decide +kernel
theorem dX7_log_37 : decode cX7_log 37 = .ok (.ldc 146, 2) := by decide +kernel
theorem dX7_log_39 : decode cX7_log 39 = .ok (.ireturn, 1) := by decide +kernel
theorem dX7_undo_0 : decode cX7_undo 0 = .ok (.aload_n 0, 1) := by decide +kernel
theorem dX7_undo_1 : decode cX7_undo 1 = .ok (.getfield 61, 3) := by decide +kernel
theorem dX7_undo_4 : decode cX7_undo 4 = .ok (.ifCond .ne 6, 3) := by decide +kernel
theorem dX7_undo_7 : decode cX7_undo 7 = .ok (.ldc 85, 2) := by decide +kernel
theorem dX7_undo_9 : decode cX7_undo 9 = .ok (.ireturn, 1) := by decide +kernel
theorem dX7_undo_10 : decode cX7_undo 10 = .ok (.aload_n 0, 1) := by decide +kernel
theorem dX7_undo_11 : decode cX7_undo 11 = .ok (.dup, 1) := by decide +kernel
theorem dX7_undo_12 : decode cX7_undo 12 = .ok (.getfield 61, 3) := by decide +kernel
theorem dX7_undo_15 : decode cX7_undo 15 = .ok (.iconst 1, 1) := by decide +kernel
theorem dX7_undo_16 : decode cX7_undo 16 = .ok (.isub, 1) := by decide +kernel
theorem dX7_undo_17 : decode cX7_undo 17 = .ok (.putfield 61, 3) := by decide +kernel
theorem dX7_undo_20 : decode cX7_undo 20 = .ok (.aload_n 0, 1) := by decide +kernel
theorem dX7_undo_21 : decode cX7_undo 21 = .ok (.aload_n 0, 1) := by decide +kernel
theorem dX7_undo_22 : decode cX7_undo 22 = .ok (.getfield 32, 3) := by decide +kernel
theorem dX7_undo_25 : decode cX7_undo 25 = .ok (.iconst 2, 1) := by decide +kernel
theorem dX7_undo_26 : decode cX7_undo 26 = .ok (.aload_n 0, 1) := by decide +kernel
theorem dX7_undo_27 : decode cX7_undo 27 = .ok (.getfield 61, 3) := by decide +kernel
theorem dX7_undo_30 : decode cX7_undo 30 = .ok (.imul, 1) := by decide +kernel
theorem dX7_undo_31 : decode cX7_undo 31 = .ok (.iaload, 1) := by decide +kernel
theorem dX7_undo_32 : decode cX7_undo 32 = .ok (.aload_n 0, 1) := by decide +kernel
theorem dX7_undo_33 : decode cX7_undo 33 = .ok (.getfield 32, 3) := by decide +kernel
theorem dX7_undo_36 : decode cX7_undo 36 = .ok (.iconst 2, 1) := by decide +kernel
theorem dX7_undo_37 : decode cX7_undo 37 = .ok (.aload_n 0, 1) := by decide +kernel
theorem dX7_undo_38 : decode cX7_undo 38 = .ok (.getfield 61, 3) := by decide +kernel
theorem dX7_undo_41 : decode cX7_undo 41 = .ok (.imul, 1) := by decide +kernel
theorem dX7_undo_42 : decode cX7_undo 42 = .ok (.iconst 1, 1) := by decide +kernel
theorem dX7_undo_43 : decode cX7_undo 43 = .ok (.iadd, 1) := by decide +kernel
theorem dX7_undo_44 : decode cX7_undo 44 = .ok (.iaload, 1) := by decide +kernel
theorem dX7_undo_45 : decode cX7_undo 45 = .ok (.ineg, 1) := by decide +kernel
theorem dX7_undo_46 : decode cX7_undo 46 = .ok (.invokevirtual 160, 3) := by decide +kernel
theorem dX7_undo_49 : decode cX7_undo 49 = .ok (.aload_n 0, 1) := by decide +kernel
theorem dX7_undo_50 : decode cX7_undo 50 = .ok (.getfield 61, 3) := by decide +kernel
theorem dX7_undo_53 : decode cX7_undo 53 = .ok (.ireturn, 1) := by decide +kernel
theorem dX7_snap_0 : decode cX7_snap 0 = .ok (.aload_n 0, 1) := by decide +kernel
theorem dX7_snap_1 : decode cX7_snap 1 = .ok (.iload_n 1, 1) := by decide +kernel
theorem dX7_snap_2 : decode cX7_snap 2 = .ok (.invokevirtual 79, 3) := by decide +kernel
theorem dX7_snap_5 : decode cX7_snap 5 = .ok (.ifCond .ne 6, 3) := by decide +kernel
theorem dX7_snap_8 : decode cX7_snap 8 = .ok (.ldc 78, 2) := by decide +kernel
theorem dX7_snap_10 : decode cX7_snap 10 = .ok (.ireturn, 1) := by decide +kernel
theorem dX7_snap_11 : decode cX7_snap 11 = .ok (.aload_n 0, 1) := by decide +kernel
theorem dX7_snap_12 : decode cX7_snap 12 = .ok (.iload_n 1, 1) := by decide +kernel
theorem dX7_snap_13 : decode cX7_snap 13 = .ok (.invokevirtual 74, 3) := by decide +kernel
theorem dX7_snap_16 : decode cX7_snap 16 = .ok (.ifCond .eq 6, 3) := by decide +kernel
theorem dX7_snap_19 : decode cX7_snap 19 = .ok (.ldc 85, 2) := by decide +kernel
theorem dX7_snap_21 : decode cX7_snap 21 = .ok (.ireturn, 1) := by decide +kernel
theorem dX7_snap_22 : decode cX7_snap 22 = .ok (.aload_n 0, 1) := by decide +kernel
theorem dX7_snap_23 : decode cX7_snap 23 = .ok (.getfield 13, 3) := by decide +kernel
theorem dX7_snap_26 : decode cX7_snap 26 = .ok (.iload_n 1, 1) := by decide +kernel
theorem dX7_snap_27 : decode cX7_snap 27 = .ok (.laload, 1) := by decide +kernel
theorem dX7_snap_28 : decode cX7_snap 28 = .ok (.lstore_n 2, 1) := by decide +kernel
theorem dX7_snap_29 : decode cX7_snap 29 = .ok (.iconst 0, 1) := by decide +kernel
theorem dX7_snap_30 : decode cX7_snap 30 = .ok (.istore 4, 2) := by decide +kernel
theorem dX7_snap_32 : decode cX7_snap 32 = .ok (.iload 4, 2) := by decide +kernel
theorem dX7_snap_34 : decode cX7_snap 34 = .ok (.aload_n 0, 1) := by decide +kernel
theorem dX7_snap_35 : decode cX7_snap 35 = .ok (.getfield 58, 3) := by decide +kernel
theorem dX7_snap_38 : decode cX7_snap 38 = .ok (.if_icmp .ge 66, 3) := by decide +kernel
theorem dX7_snap_41 : decode cX7_snap 41 = .ok (.iload 4, 2) := by decide +kernel
theorem dX7_snap_43 : decode cX7_snap 43 = .ok (.iload_n 1, 1) := by decide +kernel
theorem dX7_snap_44 : decode cX7_snap 44 = .ok (.if_icmp .eq 54, 3) := by decide +kernel
theorem dX7_snap_47 : decode cX7_snap 47 = .ok (.aload_n 0, 1) := by decide +kernel
theorem dX7_snap_48 : decode cX7_snap 48 = .ok (.iload 4, 2) := by decide +kernel
theorem dX7_snap_50 : decode cX7_snap 50 = .ok (.invokevirtual 74, 3) := by decide +kernel
theorem dX7_snap_53 : decode cX7_snap 53 = .ok (.ifCond .ne 45, 3) := by decide +kernel
theorem dX7_snap_56 : decode cX7_snap 56 = .ok (.aload_n 0, 1) := by decide +kernel
theorem dX7_snap_57 : decode cX7_snap 57 = .ok (.getfield 13, 3) := by decide +kernel
theorem dX7_snap_60 : decode cX7_snap 60 = .ok (.iload 4, 2) := by decide +kernel
theorem dX7_snap_62 : decode cX7_snap 62 = .ok (.laload, 1) := by decide +kernel
theorem dX7_snap_63 : decode cX7_snap 63 = .ok (.lload_n 2, 1) := by decide +kernel
theorem dX7_snap_64 : decode cX7_snap 64 = .ok (.aload_n 0, 1) := by decide +kernel
theorem dX7_snap_65 : decode cX7_snap 65 = .ok (.iconst 4, 1) := by decide +kernel
theorem dX7_snap_66 : decode cX7_snap 66 = .ok (.aload_n 0, 1) := by decide +kernel
theorem dX7_snap_67 : decode cX7_snap 67 = .ok (.iload_n 1, 1) := by decide +kernel
theorem dX7_snap_68 : decode cX7_snap 68 = .ok (.iload 4, 2) := by decide +kernel
theorem dX7_snap_70 : decode cX7_snap 70 = .ok (.invokevirtual 154, 3) := by decide +kernel
theorem dX7_snap_73 : decode cX7_snap 73 = .ok (.invokevirtual 98, 3) := by decide +kernel
theorem dX7_snap_76 : decode cX7_snap 76 = .ok (.i2l, 1) := by decide +kernel
theorem dX7_snap_77 : decode cX7_snap 77 = .ok (.lmul, 1) := by decide +kernel
theorem dX7_snap_78 : decode cX7_snap 78 = .ok (.ldc2_w 120, 3) := by decide +kernel
theorem dX7_snap_81 : decode cX7_snap 81 = .ok (.invokestatic 110, 3) := by decide +kernel
theorem dX7_snap_84 : decode cX7_snap 84 = .ok (.ladd, 1) := by decide +kernel
theorem dX7_snap_85 : decode cX7_snap 85 = .ok (.invokestatic 122, 3) := by decide +kernel
theorem dX7_snap_88 : decode cX7_snap 88 = .ok (.ldc2_w 206, 3) := by decide +kernel
theorem dX7_snap_91 : decode cX7_snap 91 = .ok (.lcmp, 1) := by decide +kernel
theorem dX7_snap_92 : decode cX7_snap 92 = .ok (.ifCond .le 6, 3) := by decide +kernel
theorem dX7_snap_95 : decode cX7_snap 95 = .ok (.ldc 85, 2) := by decide +kernel
theorem dX7_snap_97 : decode cX7_snap 97 = .ok (.ireturn, 1) := by decide +kernel
theorem dX7_snap_98 : decode cX7_snap 98 = .ok (.iinc 4 1, 3) := by decide +kernel
theorem dX7_snap_101 : decode cX7_snap 101 = .ok (.goto (-69), 3) := by decide +kernel
theorem dX7_snap_104 : decode cX7_snap 104 = .ok (.iconst 0, 1) := by decide +kernel
theorem dX7_snap_105 : decode cX7_snap 105 = .ok (.istore 4, 2) := by decide +kernel
theorem dX7_snap_107 : decode cX7_snap 107 = .ok (.iload 4, 2) := by decide +kernel
theorem dX7_snap_109 : decode cX7_snap 109 = .ok (.aload_n 0, 1) := by decide +kernel
theorem dX7_snap_110 : decode cX7_snap 110 = .ok (.getfield 58, 3) := by decide +kernel
theorem dX7_snap_113 : decode cX7_snap 113 = .ok (.if_icmp .ge 55, 3) := by decide +kernel
theorem dX7_snap_116 : decode cX7_snap 116 = .ok (.iload 4, 2) := by decide +kernel
theorem dX7_snap_118 : decode cX7_snap 118 = .ok (.iload_n 1, 1) := by decide +kernel
theorem dX7_snap_119 : decode cX7_snap 119 = .ok (.if_icmp .eq 43, 3) := by decide +kernel
theorem dX7_snap_122 : decode cX7_snap 122 = .ok (.aload_n 0, 1) := by decide +kernel
theorem dX7_snap_123 : decode cX7_snap 123 = .ok (.iload 4, 2) := by decide +kernel
theorem dX7_snap_125 : decode cX7_snap 125 = .ok (.invokevirtual 74, 3) := by decide +kernel
theorem dX7_snap_128 : decode cX7_snap 128 = .ok (.ifCond .ne 34, 3) := by decide +kernel
theorem dX7_snap_131 : decode cX7_snap 131 = .ok (.aload_n 0, 1) := by decide +kernel
theorem dX7_snap_132 : decode cX7_snap 132 = .ok (.getfield 13, 3) := by decide +kernel
theorem dX7_snap_135 : decode cX7_snap 135 = .ok (.iload 4, 2) := by decide +kernel
theorem dX7_snap_137 : decode cX7_snap 137 = .ok (.dup2, 1) := by decide +kernel
theorem dX7_snap_138 : decode cX7_snap 138 = .ok (.laload, 1) := by decide +kernel
theorem dX7_snap_139 : decode cX7_snap 139 = .ok (.lload_n 2, 1) := by decide +kernel
theorem dX7_snap_140 : decode cX7_snap 140 = .ok (.aload_n 0, 1) := by decide +kernel
theorem dX7_snap_141 : decode cX7_snap 141 = .ok (.iconst 4, 1) := by decide +kernel
theorem dX7_snap_142 : decode cX7_snap 142 = .ok (.aload_n 0, 1) := by decide +kernel
theorem dX7_snap_143 : decode cX7_snap 143 = .ok (.iload_n 1, 1) := by decide +kernel
theorem dX7_snap_144 : decode cX7_snap 144 = .ok (.iload 4, 2) := by decide +kernel
theorem dX7_snap_146 : decode cX7_snap 146 = .ok (.invokevirtual 154, 3) := by decide +kernel
theorem dX7_snap_149 : decode cX7_snap 149 = .ok (.invokevirtual 98, 3) := by decide +kernel
theorem dX7_snap_152 : decode cX7_snap 152 = .ok (.i2l, 1) := by decide +kernel
theorem dX7_snap_153 : decode cX7_snap 153 = .ok (.lmul, 1) := by decide +kernel
theorem dX7_snap_154 : decode cX7_snap 154 = .ok (.ldc2_w 120, 3) := by decide +kernel
theorem dX7_snap_157 : decode cX7_snap 157 = .ok (.invokestatic 110, 3) := by decide +kernel
theorem dX7_snap_160 : decode cX7_snap 160 = .ok (.ladd, 1) := by decide +kernel
theorem dX7_snap_161 : decode cX7_snap 161 = .ok (.lastore, 1) := by decide +kernel
theorem dX7_snap_162 : decode cX7_snap 162 = .ok (.iinc 4 1, 3) := by decide +kernel
theorem dX7_snap_165 : decode cX7_snap 165 = .ok (.goto (-58), 3) := by decide +kernel
theorem dX7_snap_168 : decode cX7_snap 168 = .ok (.aload_n 0, 1) := by decide +kernel
theorem dX7_snap_169 : decode cX7_snap 169 = .ok (.getfield 7, 3) := by decide +kernel
theorem dX7_snap_172 : decode cX7_snap 172 = .ok (.iload_n 1, 1) := by decide +kernel
theorem dX7_snap_173 : decode cX7_snap 173 = .ok (.iconst 4, 1) := by decide +kernel
theorem dX7_snap_174 : decode cX7_snap 174 = .ok (.iastore, 1) := by decide +kernel
theorem dX7_snap_175 : decode cX7_snap 175 = .ok (.aload_n 0, 1) := by decide +kernel
theorem dX7_snap_176 : decode cX7_snap 176 = .ok (.getfield 13, 3) := by decide +kernel
theorem dX7_snap_179 : decode cX7_snap 179 = .ok (.iload_n 1, 1) := by decide +kernel
theorem dX7_snap_180 : decode cX7_snap 180 = .ok (.lconst 0, 1) := by decide +kernel
theorem dX7_snap_181 : decode cX7_snap 181 = .ok (.lastore, 1) := by decide +kernel
theorem dX7_snap_182 : decode cX7_snap 182 = .ok (.lload_n 2, 1) := by decide +kernel
theorem dX7_snap_183 : decode cX7_snap 183 = .ok (.l2i, 1) := by decide +kernel
theorem dX7_snap_184 : decode cX7_snap 184 = .ok (.ireturn, 1) := by decide +kernel
theorem dX7_anew_0 : decode cX7_anew 0 = .ok (.aload_n 0, 1) := by decide +kernel
theorem dX7_anew_1 : decode cX7_anew 1 = .ok (.iload_n 1, 1) := by decide +kernel
theorem dX7_anew_2 : decode cX7_anew 2 = .ok (.invokevirtual 79, 3) := by decide +kernel
theorem dX7_anew_5 : decode cX7_anew 5 = .ok (.ifCond .eq 20, 3) := by decide +kernel
theorem dX7_anew_8 : decode cX7_anew 8 = .ok (.iload_n 2, 1) := by decide +kernel
theorem dX7_anew_9 : decode cX7_anew 9 = .ok (.invokestatic 82, 3) := by decide +kernel
theorem dX7_anew_12 : decode cX7_anew 12 = .ok (.ifCond .eq 13, 3) := by decide +kernel
theorem dX7_anew_15 : decode cX7_anew 15 = .ok (.iload_n 3, 1) := by decide +kernel
theorem dX7_anew_16 : decode cX7_anew 16 = .ok (.iconst 0, 1) := by decide +kernel
theorem dX7_anew_17 : decode cX7_anew 17 = .ok (.ldc 90, 2) := by decide +kernel
theorem dX7_anew_19 : decode cX7_anew 19 = .ok (.invokestatic 70, 3) := by decide +kernel
theorem dX7_anew_22 : decode cX7_anew 22 = .ok (.ifCond .ne 6, 3) := by decide +kernel
theorem dX7_anew_25 : decode cX7_anew 25 = .ok (.ldc 78, 2) := by decide +kernel
theorem dX7_anew_27 : decode cX7_anew 27 = .ok (.ireturn, 1) := by decide +kernel
theorem dX7_anew_28 : decode cX7_anew 28 = .ok (.aload_n 0, 1) := by decide +kernel
theorem dX7_anew_29 : decode cX7_anew 29 = .ok (.iload_n 1, 1) := by decide +kernel
theorem dX7_anew_30 : decode cX7_anew 30 = .ok (.invokevirtual 74, 3) := by decide +kernel
theorem dX7_anew_33 : decode cX7_anew 33 = .ok (.ifCond .ne 6, 3) := by decide +kernel
theorem dX7_anew_36 : decode cX7_anew 36 = .ok (.ldc 85, 2) := by decide +kernel
theorem dX7_anew_38 : decode cX7_anew 38 = .ok (.ireturn, 1) := by decide +kernel
theorem dX7_anew_39 : decode cX7_anew 39 = .ok (.aload_n 0, 1) := by decide +kernel
theorem dX7_anew_40 : decode cX7_anew 40 = .ok (.getfield 7, 3) := by decide +kernel
theorem dX7_anew_43 : decode cX7_anew 43 = .ok (.iload_n 1, 1) := by decide +kernel
theorem dX7_anew_44 : decode cX7_anew 44 = .ok (.iload_n 2, 1) := by decide +kernel
theorem dX7_anew_45 : decode cX7_anew 45 = .ok (.iastore, 1) := by decide +kernel
theorem dX7_anew_46 : decode cX7_anew 46 = .ok (.aload_n 0, 1) := by decide +kernel
theorem dX7_anew_47 : decode cX7_anew 47 = .ok (.getfield 13, 3) := by decide +kernel
theorem dX7_anew_50 : decode cX7_anew 50 = .ok (.iload_n 1, 1) := by decide +kernel
theorem dX7_anew_51 : decode cX7_anew 51 = .ok (.iload_n 3, 1) := by decide +kernel
theorem dX7_anew_52 : decode cX7_anew 52 = .ok (.i2l, 1) := by decide +kernel
theorem dX7_anew_53 : decode cX7_anew 53 = .ok (.lastore, 1) := by decide +kernel
theorem dX7_anew_54 : decode cX7_anew 54 = .ok (.iconst 0, 1) := by decide +kernel
theorem dX7_anew_55 : decode cX7_anew 55 = .ok (.ireturn, 1) := by decide +kernel
theorem dX7_pullWith_0 : decode cX7_pullWith 0 = .ok (.aload_n 0, 1) := by decide +kernel
theorem dX7_pullWith_1 : decode cX7_pullWith 1 = .ok (.getfield 13, 3) := by decide +kernel
theorem dX7_pullWith_4 : decode cX7_pullWith 4 = .ok (.iload_n 3, 1) := by decide +kernel
theorem dX7_pullWith_5 : decode cX7_pullWith 5 = .ok (.laload, 1) := by decide +kernel
theorem dX7_pullWith_6 : decode cX7_pullWith 6 = .ok (.iload_n 1, 1) := by decide +kernel
theorem dX7_pullWith_7 : decode cX7_pullWith 7 = .ok (.i2l, 1) := by decide +kernel
theorem dX7_pullWith_8 : decode cX7_pullWith 8 = .ok (.aload_n 0, 1) := by decide +kernel
theorem dX7_pullWith_9 : decode cX7_pullWith 9 = .ok (.iconst 5, 1) := by decide +kernel
theorem dX7_pullWith_10 : decode cX7_pullWith 10 = .ok (.aload_n 0, 1) := by decide +kernel
theorem dX7_pullWith_11 : decode cX7_pullWith 11 = .ok (.iload_n 2, 1) := by decide +kernel
theorem dX7_pullWith_12 : decode cX7_pullWith 12 = .ok (.iload_n 3, 1) := by decide +kernel
theorem dX7_pullWith_13 : decode cX7_pullWith 13 = .ok (.invokevirtual 154, 3) := by decide +kernel
theorem dX7_pullWith_16 : decode cX7_pullWith 16 = .ok (.invokevirtual 98, 3) := by decide +kernel
theorem dX7_pullWith_19 : decode cX7_pullWith 19 = .ok (.i2l, 1) := by decide +kernel
theorem dX7_pullWith_20 : decode cX7_pullWith 20 = .ok (.lmul, 1) := by decide +kernel
theorem dX7_pullWith_21 : decode cX7_pullWith 21 = .ok (.ldc2_w 120, 3) := by decide +kernel
theorem dX7_pullWith_24 : decode cX7_pullWith 24 = .ok (.invokestatic 110, 3) := by decide +kernel
theorem dX7_pullWith_27 : decode cX7_pullWith 27 = .ok (.lsub, 1) := by decide +kernel
theorem dX7_pullWith_28 : decode cX7_pullWith 28 = .ok (.lreturn, 1) := by decide +kernel
theorem dX7_loaded_0 : decode cX7_loaded 0 = .ok (.iload_n 1, 1) := by decide +kernel
theorem dX7_loaded_1 : decode cX7_loaded 1 = .ok (.iconst 0, 1) := by decide +kernel
theorem dX7_loaded_2 : decode cX7_loaded 2 = .ok (.ldc 90, 2) := by decide +kernel
theorem dX7_loaded_4 : decode cX7_loaded 4 = .ok (.invokestatic 70, 3) := by decide +kernel
theorem dX7_loaded_7 : decode cX7_loaded 7 = .ok (.ifCond .eq 19, 3) := by decide +kernel
theorem dX7_loaded_10 : decode cX7_loaded 10 = .ok (.aload_n 0, 1) := by decide +kernel
theorem dX7_loaded_11 : decode cX7_loaded 11 = .ok (.iload_n 2, 1) := by decide +kernel
theorem dX7_loaded_12 : decode cX7_loaded 12 = .ok (.invokevirtual 79, 3) := by decide +kernel
theorem dX7_loaded_15 : decode cX7_loaded 15 = .ok (.ifCond .eq 11, 3) := by decide +kernel
theorem dX7_loaded_18 : decode cX7_loaded 18 = .ok (.aload_n 0, 1) := by decide +kernel
theorem dX7_loaded_19 : decode cX7_loaded 19 = .ok (.iload_n 3, 1) := by decide +kernel
theorem dX7_loaded_20 : decode cX7_loaded 20 = .ok (.invokevirtual 79, 3) := by decide +kernel
theorem dX7_loaded_23 : decode cX7_loaded 23 = .ok (.ifCond .ne 6, 3) := by decide +kernel
theorem dX7_loaded_26 : decode cX7_loaded 26 = .ok (.ldc 78, 2) := by decide +kernel
theorem dX7_loaded_28 : decode cX7_loaded 28 = .ok (.ireturn, 1) := by decide +kernel
theorem dX7_loaded_29 : decode cX7_loaded 29 = .ok (.aload_n 0, 1) := by decide +kernel
theorem dX7_loaded_30 : decode cX7_loaded 30 = .ok (.iload_n 3, 1) := by decide +kernel
theorem dX7_loaded_31 : decode cX7_loaded 31 = .ok (.invokevirtual 74, 3) := by decide +kernel
theorem dX7_loaded_34 : decode cX7_loaded 34 = .ok (.ifCond .eq 7, 3) := by decide +kernel
theorem dX7_loaded_37 : decode cX7_loaded 37 = .ok (.iconst 0, 1) := by decide +kernel
theorem dX7_loaded_38 : decode cX7_loaded 38 = .ok (.goto 11, 3) := by decide +kernel
theorem dX7_loaded_41 : decode cX7_loaded 41 = .ok (.aload_n 0, 1) := by decide +kernel
theorem dX7_loaded_42 : decode cX7_loaded 42 = .ok (.iload_n 1, 1) := by decide +kernel
theorem dX7_loaded_43 : decode cX7_loaded 43 = .ok (.iload_n 2, 1) := by decide +kernel
theorem dX7_loaded_44 : decode cX7_loaded 44 = .ok (.iload_n 3, 1) := by decide +kernel
theorem dX7_loaded_45 : decode cX7_loaded 45 = .ok (.invokevirtual 208, 3) := by decide +kernel
theorem dX7_loaded_48 : decode cX7_loaded 48 = .ok (.l2i, 1) := by decide +kernel
theorem dX7_loaded_49 : decode cX7_loaded 49 = .ok (.ireturn, 1) := by decide +kernel
theorem dX7_worstAt_0 : decode cX7_worstAt 0 = .ok (.iload_n 1, 1) := by decide +kernel
theorem dX7_worstAt_1 : decode cX7_worstAt 1 = .ok (.iconst 0, 1) := by decide +kernel
theorem dX7_worstAt_2 : decode cX7_worstAt 2 = .ok (.ldc 90, 2) := by decide +kernel
theorem dX7_worstAt_4 : decode cX7_worstAt 4 = .ok (.invokestatic 70, 3) := by decide +kernel
theorem dX7_worstAt_7 : decode cX7_worstAt 7 = .ok (.ifCond .ne 6, 3) := by decide +kernel
theorem dX7_worstAt_10 : decode cX7_worstAt 10 = .ok (.ldc 78, 2) := by decide +kernel
theorem dX7_worstAt_12 : decode cX7_worstAt 12 = .ok (.ireturn, 1) := by decide +kernel
theorem dX7_worstAt_13 : decode cX7_worstAt 13 = .ok (.iconst 0, 1) := by decide +kernel
theorem dX7_worstAt_14 : decode cX7_worstAt 14 = .ok (.istore_n 2, 1) := by decide +kernel
theorem dX7_worstAt_15 : decode cX7_worstAt 15 = .ok (.iconst (-1), 1) := by decide +kernel
theorem dX7_worstAt_16 : decode cX7_worstAt 16 = .ok (.istore_n 3, 1) := by decide +kernel
theorem dX7_worstAt_17 : decode cX7_worstAt 17 = .ok (.iconst 0, 1) := by decide +kernel
theorem dX7_worstAt_18 : decode cX7_worstAt 18 = .ok (.istore 4, 2) := by decide +kernel
theorem dX7_worstAt_20 : decode cX7_worstAt 20 = .ok (.iload 4, 2) := by decide +kernel
theorem dX7_worstAt_22 : decode cX7_worstAt 22 = .ok (.aload_n 0, 1) := by decide +kernel
theorem dX7_worstAt_23 : decode cX7_worstAt 23 = .ok (.getfield 58, 3) := by decide +kernel
theorem dX7_worstAt_26 : decode cX7_worstAt 26 = .ok (.if_icmp .ge 75, 3) := by decide +kernel
theorem dX7_worstAt_29 : decode cX7_worstAt 29 = .ok (.iconst 0, 1) := by decide +kernel
theorem dX7_worstAt_30 : decode cX7_worstAt 30 = .ok (.istore 5, 2) := by decide +kernel
theorem dX7_worstAt_32 : decode cX7_worstAt 32 = .ok (.iconst 0, 1) := by decide +kernel
theorem dX7_worstAt_33 : decode cX7_worstAt 33 = .ok (.istore 6, 2) := by decide +kernel
theorem dX7_worstAt_35 : decode cX7_worstAt 35 = .ok (.iload 6, 2) := by decide +kernel
theorem dX7_worstAt_37 : decode cX7_worstAt 37 = .ok (.aload_n 0, 1) := by decide +kernel
theorem dX7_worstAt_38 : decode cX7_worstAt 38 = .ok (.getfield 58, 3) := by decide +kernel
theorem dX7_worstAt_41 : decode cX7_worstAt 41 = .ok (.if_icmp .ge 42, 3) := by decide +kernel
theorem dX7_worstAt_44 : decode cX7_worstAt 44 = .ok (.iload 5, 2) := by decide +kernel
theorem dX7_worstAt_46 : decode cX7_worstAt 46 = .ok (.aload_n 0, 1) := by decide +kernel
theorem dX7_worstAt_47 : decode cX7_worstAt 47 = .ok (.iload 6, 2) := by decide +kernel
theorem dX7_worstAt_49 : decode cX7_worstAt 49 = .ok (.invokevirtual 74, 3) := by decide +kernel
theorem dX7_worstAt_52 : decode cX7_worstAt 52 = .ok (.ifCond .ne 21, 3) := by decide +kernel
theorem dX7_worstAt_55 : decode cX7_worstAt 55 = .ok (.aload_n 0, 1) := by decide +kernel
theorem dX7_worstAt_56 : decode cX7_worstAt 56 = .ok (.iload_n 1, 1) := by decide +kernel
theorem dX7_worstAt_57 : decode cX7_worstAt 57 = .ok (.iload 4, 2) := by decide +kernel
theorem dX7_worstAt_59 : decode cX7_worstAt 59 = .ok (.iload 6, 2) := by decide +kernel
theorem dX7_worstAt_61 : decode cX7_worstAt 61 = .ok (.invokevirtual 208, 3) := by decide +kernel
theorem dX7_worstAt_64 : decode cX7_worstAt 64 = .ok (.lconst 0, 1) := by decide +kernel
theorem dX7_worstAt_65 : decode cX7_worstAt 65 = .ok (.lcmp, 1) := by decide +kernel
theorem dX7_worstAt_66 : decode cX7_worstAt 66 = .ok (.ifCond .ge 7, 3) := by decide +kernel
theorem dX7_worstAt_69 : decode cX7_worstAt 69 = .ok (.iconst 1, 1) := by decide +kernel
theorem dX7_worstAt_70 : decode cX7_worstAt 70 = .ok (.goto 4, 3) := by decide +kernel
theorem dX7_worstAt_73 : decode cX7_worstAt 73 = .ok (.iconst 0, 1) := by decide +kernel
theorem dX7_worstAt_74 : decode cX7_worstAt 74 = .ok (.iadd, 1) := by decide +kernel
theorem dX7_worstAt_75 : decode cX7_worstAt 75 = .ok (.istore 5, 2) := by decide +kernel
theorem dX7_worstAt_77 : decode cX7_worstAt 77 = .ok (.iinc 6 1, 3) := by decide +kernel
theorem dX7_worstAt_80 : decode cX7_worstAt 80 = .ok (.goto (-45), 3) := by decide +kernel
theorem dX7_worstAt_83 : decode cX7_worstAt 83 = .ok (.iload 5, 2) := by decide +kernel
theorem dX7_worstAt_85 : decode cX7_worstAt 85 = .ok (.iload_n 3, 1) := by decide +kernel
theorem dX7_worstAt_86 : decode cX7_worstAt 86 = .ok (.if_icmp .le 9, 3) := by decide +kernel
theorem dX7_worstAt_89 : decode cX7_worstAt 89 = .ok (.iload 5, 2) := by decide +kernel
theorem dX7_worstAt_91 : decode cX7_worstAt 91 = .ok (.istore_n 3, 1) := by decide +kernel
theorem dX7_worstAt_92 : decode cX7_worstAt 92 = .ok (.iload 4, 2) := by decide +kernel
theorem dX7_worstAt_94 : decode cX7_worstAt 94 = .ok (.istore_n 2, 1) := by decide +kernel
theorem dX7_worstAt_95 : decode cX7_worstAt 95 = .ok (.iinc 4 1, 3) := by decide +kernel
theorem dX7_worstAt_98 : decode cX7_worstAt 98 = .ok (.goto (-78), 3) := by decide +kernel
theorem dX7_worstAt_101 : decode cX7_worstAt 101 = .ok (.iload_n 2, 1) := by decide +kernel
theorem dX7_worstAt_102 : decode cX7_worstAt 102 = .ok (.ireturn, 1) := by decide +kernel
theorem dX7_lace_0 : decode cX7_lace 0 = .ok (.iload_n 1, 1) := by decide +kernel
theorem dX7_lace_1 : decode cX7_lace 1 = .ok (.iconst 1, 1) := by decide +kernel
theorem dX7_lace_2 : decode cX7_lace 2 = .ok (.sipush 200, 3) := by decide +kernel
theorem dX7_lace_5 : decode cX7_lace 5 = .ok (.invokestatic 70, 3) := by decide +kernel
theorem dX7_lace_8 : decode cX7_lace 8 = .ok (.ifCond .eq 36, 3) := by decide +kernel
theorem dX7_lace_11 : decode cX7_lace 11 = .ok (.iload_n 2, 1) := by decide +kernel
theorem dX7_lace_12 : decode cX7_lace 12 = .ok (.iconst 0, 1) := by decide +kernel
theorem dX7_lace_13 : decode cX7_lace 13 = .ok (.sipush 200, 3) := by decide +kernel
theorem dX7_lace_16 : decode cX7_lace 16 = .ok (.invokestatic 70, 3) := by decide +kernel
theorem dX7_lace_19 : decode cX7_lace 19 = .ok (.ifCond .eq 25, 3) := by decide +kernel
theorem dX7_lace_22 : decode cX7_lace 22 = .ok (.iload_n 3, 1) := by decide +kernel
theorem dX7_lace_23 : decode cX7_lace 23 = .ok (.iconst 1, 1) := by decide +kernel
theorem dX7_lace_24 : decode cX7_lace 24 = .ok (.sipush 1000, 3) := by decide +kernel
theorem dX7_lace_27 : decode cX7_lace 27 = .ok (.invokestatic 70, 3) := by decide +kernel
theorem dX7_lace_30 : decode cX7_lace 30 = .ok (.ifCond .eq 14, 3) := by decide +kernel
theorem dX7_lace_33 : decode cX7_lace 33 = .ok (.iload 4, 2) := by decide +kernel
theorem dX7_lace_35 : decode cX7_lace 35 = .ok (.iconst 0, 1) := by decide +kernel
theorem dX7_lace_36 : decode cX7_lace 36 = .ok (.bipush 7, 2) := by decide +kernel
theorem dX7_lace_38 : decode cX7_lace 38 = .ok (.invokestatic 70, 3) := by decide +kernel
theorem dX7_lace_41 : decode cX7_lace 41 = .ok (.ifCond .ne 6, 3) := by decide +kernel
theorem dX7_lace_44 : decode cX7_lace 44 = .ok (.ldc 78, 2) := by decide +kernel
theorem dX7_lace_46 : decode cX7_lace 46 = .ok (.ireturn, 1) := by decide +kernel
theorem dX7_lace_47 : decode cX7_lace 47 = .ok (.aload_n 0, 1) := by decide +kernel
theorem dX7_lace_48 : decode cX7_lace 48 = .ok (.iload_n 1, 1) := by decide +kernel
theorem dX7_lace_49 : decode cX7_lace 49 = .ok (.putfield 35, 3) := by decide +kernel
theorem dX7_lace_52 : decode cX7_lace 52 = .ok (.aload_n 0, 1) := by decide +kernel
theorem dX7_lace_53 : decode cX7_lace 53 = .ok (.iload_n 2, 1) := by decide +kernel
theorem dX7_lace_54 : decode cX7_lace 54 = .ok (.putfield 39, 3) := by decide +kernel
theorem dX7_lace_57 : decode cX7_lace 57 = .ok (.aload_n 0, 1) := by decide +kernel
theorem dX7_lace_58 : decode cX7_lace 58 = .ok (.iload_n 3, 1) := by decide +kernel
theorem dX7_lace_59 : decode cX7_lace 59 = .ok (.putfield 42, 3) := by decide +kernel
theorem dX7_lace_62 : decode cX7_lace 62 = .ok (.aload_n 0, 1) := by decide +kernel
theorem dX7_lace_63 : decode cX7_lace 63 = .ok (.iload 4, 2) := by decide +kernel
theorem dX7_lace_65 : decode cX7_lace 65 = .ok (.putfield 45, 3) := by decide +kernel
theorem dX7_lace_68 : decode cX7_lace 68 = .ok (.iconst 0, 1) := by decide +kernel
theorem dX7_lace_69 : decode cX7_lace 69 = .ok (.ireturn, 1) := by decide +kernel
theorem dX7_sine16_0 : decode cX7_sine16 0 = .ok (.iload_n 1, 1) := by decide +kernel
theorem dX7_sine16_1 : decode cX7_sine16 1 = .ok (.tableswitch 140 0 15 #[79, 81, 84, 88, 92, 96, 100, 104, 108, 112, 116, 120, 124, 128, 132, 136], 79) := by decide +kernel
theorem dX7_sine16_80 : decode cX7_sine16 80 = .ok (.iconst 0, 1) := by decide +kernel
theorem dX7_sine16_81 : decode cX7_sine16 81 = .ok (.ireturn, 1) := by decide +kernel
theorem dX7_sine16_82 : decode cX7_sine16 82 = .ok (.bipush 100, 2) := by decide +kernel
theorem dX7_sine16_84 : decode cX7_sine16 84 = .ok (.ireturn, 1) := by decide +kernel
theorem dX7_sine16_85 : decode cX7_sine16 85 = .ok (.sipush 200, 3) := by decide +kernel
theorem dX7_sine16_88 : decode cX7_sine16 88 = .ok (.ireturn, 1) := by decide +kernel
theorem dX7_sine16_89 : decode cX7_sine16 89 = .ok (.sipush 297, 3) := by decide +kernel
theorem dX7_sine16_92 : decode cX7_sine16 92 = .ok (.ireturn, 1) := by decide +kernel
theorem dX7_sine16_93 : decode cX7_sine16 93 = .ok (.sipush 392, 3) := by decide +kernel
theorem dX7_sine16_96 : decode cX7_sine16 96 = .ok (.ireturn, 1) := by decide +kernel
theorem dX7_sine16_97 : decode cX7_sine16 97 = .ok (.sipush 483, 3) := by decide +kernel
theorem dX7_sine16_100 : decode cX7_sine16 100 = .ok (.ireturn, 1) := by decide +kernel
theorem dX7_sine16_101 : decode cX7_sine16 101 = .ok (.sipush 569, 3) := by decide +kernel
theorem dX7_sine16_104 : decode cX7_sine16 104 = .ok (.ireturn, 1) := by decide +kernel
theorem dX7_sine16_105 : decode cX7_sine16 105 = .ok (.sipush 650, 3) := by decide +kernel
theorem dX7_sine16_108 : decode cX7_sine16 108 = .ok (.ireturn, 1) := by decide +kernel
theorem dX7_sine16_109 : decode cX7_sine16 109 = .ok (.sipush 724, 3) := by decide +kernel
theorem dX7_sine16_112 : decode cX7_sine16 112 = .ok (.ireturn, 1) := by decide +kernel
theorem dX7_sine16_113 : decode cX7_sine16 113 = .ok (.sipush 792, 3) := by decide +kernel
theorem dX7_sine16_116 : decode cX7_sine16 116 = .ok (.ireturn, 1) := by decide +kernel
theorem dX7_sine16_117 : decode cX7_sine16 117 = .ok (.sipush 851, 3) := by decide +kernel
theorem dX7_sine16_120 : decode cX7_sine16 120 = .ok (.ireturn, 1) := by decide +kernel
theorem dX7_sine16_121 : decode cX7_sine16 121 = .ok (.sipush 903, 3) := by decide +kernel
theorem dX7_sine16_124 : decode cX7_sine16 124 = .ok (.ireturn, 1) := by decide +kernel
theorem dX7_sine16_125 : decode cX7_sine16 125 = .ok (.sipush 946, 3) := by decide +kernel
theorem dX7_sine16_128 : decode cX7_sine16 128 = .ok (.ireturn, 1) := by decide +kernel
theorem dX7_sine16_129 : decode cX7_sine16 129 = .ok (.sipush 980, 3) := by decide +kernel
theorem dX7_sine16_132 : decode cX7_sine16 132 = .ok (.ireturn, 1) := by decide +kernel
theorem dX7_sine16_133 : decode cX7_sine16 133 = .ok (.sipush 1004, 3) := by decide +kernel
theorem dX7_sine16_136 : decode cX7_sine16 136 = .ok (.ireturn, 1) := by decide +kernel
theorem dX7_sine16_137 : decode cX7_sine16 137 = .ok (.sipush 1019, 3) := by decide +kernel
theorem dX7_sine16_140 : decode cX7_sine16 140 = .ok (.ireturn, 1) := by decide +kernel
theorem dX7_sine16_141 : decode cX7_sine16 141 = .ok (.sipush 1024, 3) := by decide +kernel
theorem dX7_sine16_144 : decode cX7_sine16 144 = .ok (.ireturn, 1) := by decide +kernel
theorem dX7_sine_0 : decode cX7_sine 0 = .ok (.iload_n 1, 1) := by decide +kernel
theorem dX7_sine_1 : decode cX7_sine 1 = .ok (.bipush 63, 2) := by decide +kernel
theorem dX7_sine_3 : decode cX7_sine 3 = .ok (.iand, 1) := by decide +kernel
theorem dX7_sine_4 : decode cX7_sine 4 = .ok (.istore_n 2, 1) := by decide +kernel
theorem dX7_sine_5 : decode cX7_sine 5 = .ok (.iload_n 2, 1) := by decide +kernel
theorem dX7_sine_6 : decode cX7_sine 6 = .ok (.bipush 31, 2) := by decide +kernel
theorem dX7_sine_8 : decode cX7_sine 8 = .ok (.iand, 1) := by decide +kernel
theorem dX7_sine_9 : decode cX7_sine 9 = .ok (.istore_n 3, 1) := by decide +kernel
theorem dX7_sine_10 : decode cX7_sine 10 = .ok (.aload_n 0, 1) := by decide +kernel
theorem dX7_sine_11 : decode cX7_sine 11 = .ok (.iload_n 3, 1) := by decide +kernel
theorem dX7_sine_12 : decode cX7_sine 12 = .ok (.bipush 16, 2) := by decide +kernel
theorem dX7_sine_14 : decode cX7_sine 14 = .ok (.if_icmp .le 10, 3) := by decide +kernel
theorem dX7_sine_17 : decode cX7_sine 17 = .ok (.bipush 32, 2) := by decide +kernel
theorem dX7_sine_19 : decode cX7_sine 19 = .ok (.iload_n 3, 1) := by decide +kernel
theorem dX7_sine_20 : decode cX7_sine 20 = .ok (.isub, 1) := by decide +kernel
theorem dX7_sine_21 : decode cX7_sine 21 = .ok (.goto 4, 3) := by decide +kernel
theorem dX7_sine_24 : decode cX7_sine 24 = .ok (.iload_n 3, 1) := by decide +kernel
theorem dX7_sine_25 : decode cX7_sine 25 = .ok (.invokevirtual 212, 3) := by decide +kernel
theorem dX7_sine_28 : decode cX7_sine 28 = .ok (.istore 4, 2) := by decide +kernel
theorem dX7_sine_30 : decode cX7_sine 30 = .ok (.iload_n 2, 1) := by decide +kernel
theorem dX7_sine_31 : decode cX7_sine 31 = .ok (.bipush 32, 2) := by decide +kernel
theorem dX7_sine_33 : decode cX7_sine 33 = .ok (.if_icmp .ge 8, 3) := by decide +kernel
theorem dX7_sine_36 : decode cX7_sine 36 = .ok (.iload 4, 2) := by decide +kernel
theorem dX7_sine_38 : decode cX7_sine 38 = .ok (.goto 6, 3) := by decide +kernel
theorem dX7_sine_41 : decode cX7_sine 41 = .ok (.iload 4, 2) := by decide +kernel
theorem dX7_sine_43 : decode cX7_sine 43 = .ok (.ineg, 1) := by decide +kernel
theorem dX7_sine_44 : decode cX7_sine 44 = .ok (.ireturn, 1) := by decide +kernel
theorem dX7_round_0 : decode cX7_round 0 = .ok (.aload_n 0, 1) := by decide +kernel
theorem dX7_round_1 : decode cX7_round 1 = .ok (.getfield 7, 3) := by decide +kernel
theorem dX7_round_4 : decode cX7_round 4 = .ok (.iload_n 1, 1) := by decide +kernel
theorem dX7_round_5 : decode cX7_round 5 = .ok (.iaload, 1) := by decide +kernel
theorem dX7_round_6 : decode cX7_round 6 = .ok (.iconst 5, 1) := by decide +kernel
theorem dX7_round_7 : decode cX7_round 7 = .ok (.if_icmp .ne 7, 3) := by decide +kernel
theorem dX7_round_10 : decode cX7_round 10 = .ok (.iconst 0, 1) := by decide +kernel
theorem dX7_round_11 : decode cX7_round 11 = .ok (.goto 17, 3) := by decide +kernel
theorem dX7_round_14 : decode cX7_round 14 = .ok (.iconst 2, 1) := by decide +kernel
theorem dX7_round_15 : decode cX7_round 15 = .ok (.aload_n 0, 1) := by decide +kernel
theorem dX7_round_16 : decode cX7_round 16 = .ok (.getfield 45, 3) := by decide +kernel
theorem dX7_round_19 : decode cX7_round 19 = .ok (.imul, 1) := by decide +kernel
theorem dX7_round_20 : decode cX7_round 20 = .ok (.bipush 64, 2) := by decide +kernel
theorem dX7_round_22 : decode cX7_round 22 = .ok (.imul, 1) := by decide +kernel
theorem dX7_round_23 : decode cX7_round 23 = .ok (.aload_n 0, 1) := by decide +kernel
theorem dX7_round_24 : decode cX7_round 24 = .ok (.getfield 58, 3) := by decide +kernel
theorem dX7_round_27 : decode cX7_round 27 = .ok (.idiv, 1) := by decide +kernel
theorem dX7_round_28 : decode cX7_round 28 = .ok (.istore_n 2, 1) := by decide +kernel
theorem dX7_round_29 : decode cX7_round 29 = .ok (.iload_n 1, 1) := by decide +kernel
theorem dX7_round_30 : decode cX7_round 30 = .ok (.iconst 2, 1) := by decide +kernel
theorem dX7_round_31 : decode cX7_round 31 = .ok (.idiv, 1) := by decide +kernel
theorem dX7_round_32 : decode cX7_round 32 = .ok (.iconst 2, 1) := by decide +kernel
theorem dX7_round_33 : decode cX7_round 33 = .ok (.irem, 1) := by decide +kernel
theorem dX7_round_34 : decode cX7_round 34 = .ok (.ifCond .ne 7, 3) := by decide +kernel
theorem dX7_round_37 : decode cX7_round 37 = .ok (.iload_n 2, 1) := by decide +kernel
theorem dX7_round_38 : decode cX7_round 38 = .ok (.goto 5, 3) := by decide +kernel
theorem dX7_round_41 : decode cX7_round 41 = .ok (.iload_n 2, 1) := by decide +kernel
theorem dX7_round_42 : decode cX7_round 42 = .ok (.ineg, 1) := by decide +kernel
theorem dX7_round_43 : decode cX7_round 43 = .ok (.ireturn, 1) := by decide +kernel
theorem dX7_length_0 : decode cX7_length 0 = .ok (.aload_n 0, 1) := by decide +kernel
theorem dX7_length_1 : decode cX7_length 1 = .ok (.iload_n 1, 1) := by decide +kernel
theorem dX7_length_2 : decode cX7_length 2 = .ok (.invokevirtual 79, 3) := by decide +kernel
theorem dX7_length_5 : decode cX7_length 5 = .ok (.ifCond .ne 6, 3) := by decide +kernel
theorem dX7_length_8 : decode cX7_length 8 = .ok (.ldc 78, 2) := by decide +kernel
theorem dX7_length_10 : decode cX7_length 10 = .ok (.ireturn, 1) := by decide +kernel
theorem dX7_length_11 : decode cX7_length 11 = .ok (.ldc2_w 215, 3) := by decide +kernel
theorem dX7_length_14 : decode cX7_length 14 = .ok (.aload_n 0, 1) := by decide +kernel
theorem dX7_length_15 : decode cX7_length 15 = .ok (.getfield 42, 3) := by decide +kernel
theorem dX7_length_18 : decode cX7_length 18 = .ok (.i2l, 1) := by decide +kernel
theorem dX7_length_19 : decode cX7_length 19 = .ok (.aload_n 0, 1) := by decide +kernel
theorem dX7_length_20 : decode cX7_length 20 = .ok (.getfield 42, 3) := by decide +kernel
theorem dX7_length_23 : decode cX7_length 23 = .ok (.i2l, 1) := by decide +kernel
theorem dX7_length_24 : decode cX7_length 24 = .ok (.lmul, 1) := by decide +kernel
theorem dX7_length_25 : decode cX7_length 25 = .ok (.aload_n 0, 1) := by decide +kernel
theorem dX7_length_26 : decode cX7_length 26 = .ok (.getfield 35, 3) := by decide +kernel
theorem dX7_length_29 : decode cX7_length 29 = .ok (.i2l, 1) := by decide +kernel
theorem dX7_length_30 : decode cX7_length 30 = .ok (.aload_n 0, 1) := by decide +kernel
theorem dX7_length_31 : decode cX7_length 31 = .ok (.getfield 35, 3) := by decide +kernel
theorem dX7_length_34 : decode cX7_length 34 = .ok (.i2l, 1) := by decide +kernel
theorem dX7_length_35 : decode cX7_length 35 = .ok (.lmul, 1) := by decide +kernel
theorem dX7_length_36 : decode cX7_length 36 = .ok (.ladd, 1) := by decide +kernel
theorem dX7_length_37 : decode cX7_length 37 = .ok (.aload_n 0, 1) := by decide +kernel
theorem dX7_length_38 : decode cX7_length 38 = .ok (.getfield 39, 3) := by decide +kernel
theorem dX7_length_41 : decode cX7_length 41 = .ok (.i2l, 1) := by decide +kernel
theorem dX7_length_42 : decode cX7_length 42 = .ok (.aload_n 0, 1) := by decide +kernel
theorem dX7_length_43 : decode cX7_length 43 = .ok (.getfield 39, 3) := by decide +kernel
theorem dX7_length_46 : decode cX7_length 46 = .ok (.i2l, 1) := by decide +kernel
theorem dX7_length_47 : decode cX7_length 47 = .ok (.lmul, 1) := by decide +kernel
theorem dX7_length_48 : decode cX7_length 48 = .ok (.ladd, 1) := by decide +kernel
theorem dX7_length_49 : decode cX7_length 49 = .ok (.lmul, 1) := by decide +kernel
theorem dX7_length_50 : decode cX7_length 50 = .ok (.ldc2_w 217, 3) := by decide +kernel
theorem dX7_length_53 : decode cX7_length 53 = .ok (.aload_n 0, 1) := by decide +kernel
theorem dX7_length_54 : decode cX7_length 54 = .ok (.getfield 42, 3) := by decide +kernel
theorem dX7_length_57 : decode cX7_length 57 = .ok (.i2l, 1) := by decide +kernel
theorem dX7_length_58 : decode cX7_length 58 = .ok (.lmul, 1) := by decide +kernel
theorem dX7_length_59 : decode cX7_length 59 = .ok (.aload_n 0, 1) := by decide +kernel
theorem dX7_length_60 : decode cX7_length 60 = .ok (.getfield 35, 3) := by decide +kernel
theorem dX7_length_63 : decode cX7_length 63 = .ok (.i2l, 1) := by decide +kernel
theorem dX7_length_64 : decode cX7_length 64 = .ok (.lmul, 1) := by decide +kernel
theorem dX7_length_65 : decode cX7_length 65 = .ok (.aload_n 0, 1) := by decide +kernel
theorem dX7_length_66 : decode cX7_length 66 = .ok (.bipush 16, 2) := by decide +kernel
theorem dX7_length_68 : decode cX7_length 68 = .ok (.aload_n 0, 1) := by decide +kernel
theorem dX7_length_69 : decode cX7_length 69 = .ok (.iload_n 1, 1) := by decide +kernel
theorem dX7_length_70 : decode cX7_length 70 = .ok (.invokevirtual 219, 3) := by decide +kernel
theorem dX7_length_73 : decode cX7_length 73 = .ok (.iadd, 1) := by decide +kernel
theorem dX7_length_74 : decode cX7_length 74 = .ok (.invokevirtual 222, 3) := by decide +kernel
theorem dX7_length_77 : decode cX7_length 77 = .ok (.i2l, 1) := by decide +kernel
theorem dX7_length_78 : decode cX7_length 78 = .ok (.lmul, 1) := by decide +kernel
theorem dX7_length_79 : decode cX7_length 79 = .ok (.ldc2_w 225, 3) := by decide +kernel
theorem dX7_length_82 : decode cX7_length 82 = .ok (.invokestatic 110, 3) := by decide +kernel
theorem dX7_length_85 : decode cX7_length 85 = .ok (.lsub, 1) := by decide +kernel
theorem dX7_length_86 : decode cX7_length 86 = .ok (.lstore_n 2, 1) := by decide +kernel
theorem dX7_length_87 : decode cX7_length 87 = .ok (.lload_n 2, 1) := by decide +kernel
theorem dX7_length_88 : decode cX7_length 88 = .ok (.lconst 0, 1) := by decide +kernel
theorem dX7_length_89 : decode cX7_length 89 = .ok (.lcmp, 1) := by decide +kernel
theorem dX7_length_90 : decode cX7_length 90 = .ok (.ifCond .ge 7, 3) := by decide +kernel
theorem dX7_length_93 : decode cX7_length 93 = .ok (.lconst 0, 1) := by decide +kernel
theorem dX7_length_94 : decode cX7_length 94 = .ok (.goto 4, 3) := by decide +kernel
theorem dX7_length_97 : decode cX7_length 97 = .ok (.lload_n 2, 1) := by decide +kernel
theorem dX7_length_98 : decode cX7_length 98 = .ok (.lstore 4, 2) := by decide +kernel
theorem dX7_length_100 : decode cX7_length 100 = .ok (.lconst 0, 1) := by decide +kernel
theorem dX7_length_101 : decode cX7_length 101 = .ok (.lstore 6, 2) := by decide +kernel
theorem dX7_length_103 : decode cX7_length 103 = .ok (.lload 6, 2) := by decide +kernel
theorem dX7_length_105 : decode cX7_length 105 = .ok (.lconst 1, 1) := by decide +kernel
theorem dX7_length_106 : decode cX7_length 106 = .ok (.ladd, 1) := by decide +kernel
theorem dX7_length_107 : decode cX7_length 107 = .ok (.lload 6, 2) := by decide +kernel
theorem dX7_length_109 : decode cX7_length 109 = .ok (.lconst 1, 1) := by decide +kernel
theorem dX7_length_110 : decode cX7_length 110 = .ok (.ladd, 1) := by decide +kernel
theorem dX7_length_111 : decode cX7_length 111 = .ok (.lmul, 1) := by decide +kernel
theorem dX7_length_112 : decode cX7_length 112 = .ok (.lload 4, 2) := by decide +kernel
theorem dX7_length_114 : decode cX7_length 114 = .ok (.lcmp, 1) := by decide +kernel
theorem dX7_length_115 : decode cX7_length 115 = .ok (.ifCond .gt 12, 3) := by decide +kernel
theorem dX7_length_118 : decode cX7_length 118 = .ok (.lload 6, 2) := by decide +kernel
theorem dX7_length_120 : decode cX7_length 120 = .ok (.lconst 1, 1) := by decide +kernel
theorem dX7_length_121 : decode cX7_length 121 = .ok (.ladd, 1) := by decide +kernel
theorem dX7_length_122 : decode cX7_length 122 = .ok (.lstore 6, 2) := by decide +kernel
theorem dX7_length_124 : decode cX7_length 124 = .ok (.goto (-21), 3) := by decide +kernel
theorem dX7_length_127 : decode cX7_length 127 = .ok (.lload 6, 2) := by decide +kernel
theorem dX7_length_129 : decode cX7_length 129 = .ok (.l2i, 1) := by decide +kernel
theorem dX7_length_130 : decode cX7_length 130 = .ok (.ireturn, 1) := by decide +kernel
theorem dX7_hub_0 : decode cX7_hub 0 = .ok (.aload_n 0, 1) := by decide +kernel
theorem dX7_hub_1 : decode cX7_hub 1 = .ok (.iload_n 1, 1) := by decide +kernel
theorem dX7_hub_2 : decode cX7_hub 2 = .ok (.invokevirtual 79, 3) := by decide +kernel
theorem dX7_hub_5 : decode cX7_hub 5 = .ok (.ifCond .eq 24, 3) := by decide +kernel
theorem dX7_hub_8 : decode cX7_hub 8 = .ok (.iload_n 1, 1) := by decide +kernel
theorem dX7_hub_9 : decode cX7_hub 9 = .ok (.bipush 64, 2) := by decide +kernel
theorem dX7_hub_11 : decode cX7_hub 11 = .ok (.imul, 1) := by decide +kernel
theorem dX7_hub_12 : decode cX7_hub 12 = .ok (.aload_n 0, 1) := by decide +kernel
theorem dX7_hub_13 : decode cX7_hub 13 = .ok (.getfield 58, 3) := by decide +kernel
theorem dX7_hub_16 : decode cX7_hub 16 = .ok (.idiv, 1) := by decide +kernel
theorem dX7_hub_17 : decode cX7_hub 17 = .ok (.aload_n 0, 1) := by decide +kernel
theorem dX7_hub_18 : decode cX7_hub 18 = .ok (.iload_n 1, 1) := by decide +kernel
theorem dX7_hub_19 : decode cX7_hub 19 = .ok (.invokevirtual 219, 3) := by decide +kernel
theorem dX7_hub_22 : decode cX7_hub 22 = .ok (.iadd, 1) := by decide +kernel
theorem dX7_hub_23 : decode cX7_hub 23 = .ok (.bipush 63, 2) := by decide +kernel
theorem dX7_hub_25 : decode cX7_hub 25 = .ok (.iand, 1) := by decide +kernel
theorem dX7_hub_26 : decode cX7_hub 26 = .ok (.goto 5, 3) := by decide +kernel
theorem dX7_hub_29 : decode cX7_hub 29 = .ok (.ldc 78, 2) := by decide +kernel
theorem dX7_hub_31 : decode cX7_hub 31 = .ok (.ireturn, 1) := by decide +kernel
theorem dX7_isCross_0 : decode cX7_isCross 0 = .ok (.aload_n 0, 1) := by decide +kernel
theorem dX7_isCross_1 : decode cX7_isCross 1 = .ok (.iload_n 1, 1) := by decide +kernel
theorem dX7_isCross_2 : decode cX7_isCross 2 = .ok (.invokevirtual 91, 3) := by decide +kernel
theorem dX7_isCross_5 : decode cX7_isCross 5 = .ok (.ifCond .eq 16, 3) := by decide +kernel
theorem dX7_isCross_8 : decode cX7_isCross 8 = .ok (.aload_n 0, 1) := by decide +kernel
theorem dX7_isCross_9 : decode cX7_isCross 9 = .ok (.iload_n 1, 1) := by decide +kernel
theorem dX7_isCross_10 : decode cX7_isCross 10 = .ok (.invokevirtual 91, 3) := by decide +kernel
theorem dX7_isCross_13 : decode cX7_isCross 13 = .ok (.aload_n 0, 1) := by decide +kernel
theorem dX7_isCross_14 : decode cX7_isCross 14 = .ok (.iload_n 2, 1) := by decide +kernel
theorem dX7_isCross_15 : decode cX7_isCross 15 = .ok (.invokevirtual 91, 3) := by decide +kernel
theorem dX7_isCross_18 : decode cX7_isCross 18 = .ok (.if_icmp .eq 5, 3) := by decide +kernel
theorem dX7_isCross_21 : decode cX7_isCross 21 = .ok (.iconst 0, 1) := by decide +kernel
theorem dX7_isCross_22 : decode cX7_isCross 22 = .ok (.ireturn, 1) := by decide +kernel
theorem dX7_isCross_23 : decode cX7_isCross 23 = .ok (.iload_n 2, 1) := by decide +kernel
theorem dX7_isCross_24 : decode cX7_isCross 24 = .ok (.bipush 64, 2) := by decide +kernel
theorem dX7_isCross_26 : decode cX7_isCross 26 = .ok (.imul, 1) := by decide +kernel
theorem dX7_isCross_27 : decode cX7_isCross 27 = .ok (.aload_n 0, 1) := by decide +kernel
theorem dX7_isCross_28 : decode cX7_isCross 28 = .ok (.getfield 58, 3) := by decide +kernel
theorem dX7_isCross_31 : decode cX7_isCross 31 = .ok (.idiv, 1) := by decide +kernel
theorem dX7_isCross_32 : decode cX7_isCross 32 = .ok (.iload_n 1, 1) := by decide +kernel
theorem dX7_isCross_33 : decode cX7_isCross 33 = .ok (.bipush 64, 2) := by decide +kernel
theorem dX7_isCross_35 : decode cX7_isCross 35 = .ok (.imul, 1) := by decide +kernel
theorem dX7_isCross_36 : decode cX7_isCross 36 = .ok (.aload_n 0, 1) := by decide +kernel
theorem dX7_isCross_37 : decode cX7_isCross 37 = .ok (.getfield 58, 3) := by decide +kernel
theorem dX7_isCross_40 : decode cX7_isCross 40 = .ok (.idiv, 1) := by decide +kernel
theorem dX7_isCross_41 : decode cX7_isCross 41 = .ok (.isub, 1) := by decide +kernel
theorem dX7_isCross_42 : decode cX7_isCross 42 = .ok (.bipush 63, 2) := by decide +kernel
theorem dX7_isCross_44 : decode cX7_isCross 44 = .ok (.iand, 1) := by decide +kernel
theorem dX7_isCross_45 : decode cX7_isCross 45 = .ok (.istore_n 3, 1) := by decide +kernel
theorem dX7_isCross_46 : decode cX7_isCross 46 = .ok (.iload_n 3, 1) := by decide +kernel
theorem dX7_isCross_47 : decode cX7_isCross 47 = .ok (.aload_n 0, 1) := by decide +kernel
theorem dX7_isCross_48 : decode cX7_isCross 48 = .ok (.iload_n 2, 1) := by decide +kernel
theorem dX7_isCross_49 : decode cX7_isCross 49 = .ok (.invokevirtual 219, 3) := by decide +kernel
theorem dX7_isCross_52 : decode cX7_isCross 52 = .ok (.iadd, 1) := by decide +kernel
theorem dX7_isCross_53 : decode cX7_isCross 53 = .ok (.aload_n 0, 1) := by decide +kernel
theorem dX7_isCross_54 : decode cX7_isCross 54 = .ok (.iload_n 1, 1) := by decide +kernel
theorem dX7_isCross_55 : decode cX7_isCross 55 = .ok (.invokevirtual 219, 3) := by decide +kernel
theorem dX7_isCross_58 : decode cX7_isCross 58 = .ok (.isub, 1) := by decide +kernel
theorem dX7_isCross_59 : decode cX7_isCross 59 = .ok (.istore 4, 2) := by decide +kernel
theorem dX7_isCross_61 : decode cX7_isCross 61 = .ok (.iload 4, 2) := by decide +kernel
theorem dX7_isCross_63 : decode cX7_isCross 63 = .ok (.ifCond .lt 10, 3) := by decide +kernel
theorem dX7_isCross_66 : decode cX7_isCross 66 = .ok (.iload 4, 2) := by decide +kernel
theorem dX7_isCross_68 : decode cX7_isCross 68 = .ok (.bipush 64, 2) := by decide +kernel
theorem dX7_isCross_70 : decode cX7_isCross 70 = .ok (.if_icmp .le 7, 3) := by decide +kernel
theorem dX7_isCross_73 : decode cX7_isCross 73 = .ok (.iconst 1, 1) := by decide +kernel
theorem dX7_isCross_74 : decode cX7_isCross 74 = .ok (.goto 4, 3) := by decide +kernel
theorem dX7_isCross_77 : decode cX7_isCross 77 = .ok (.iconst 0, 1) := by decide +kernel
theorem dX7_isCross_78 : decode cX7_isCross 78 = .ok (.ireturn, 1) := by decide +kernel
theorem dX7_crosses_0 : decode cX7_crosses 0 = .ok (.aload_n 0, 1) := by decide +kernel
theorem dX7_crosses_1 : decode cX7_crosses 1 = .ok (.iload_n 1, 1) := by decide +kernel
theorem dX7_crosses_2 : decode cX7_crosses 2 = .ok (.invokevirtual 79, 3) := by decide +kernel
theorem dX7_crosses_5 : decode cX7_crosses 5 = .ok (.ifCond .eq 16, 3) := by decide +kernel
theorem dX7_crosses_8 : decode cX7_crosses 8 = .ok (.aload_n 0, 1) := by decide +kernel
theorem dX7_crosses_9 : decode cX7_crosses 9 = .ok (.iload_n 2, 1) := by decide +kernel
theorem dX7_crosses_10 : decode cX7_crosses 10 = .ok (.invokevirtual 79, 3) := by decide +kernel
theorem dX7_crosses_13 : decode cX7_crosses 13 = .ok (.ifCond .eq 8, 3) := by decide +kernel
theorem dX7_crosses_16 : decode cX7_crosses 16 = .ok (.iload_n 1, 1) := by decide +kernel
theorem dX7_crosses_17 : decode cX7_crosses 17 = .ok (.iload_n 2, 1) := by decide +kernel
theorem dX7_crosses_18 : decode cX7_crosses 18 = .ok (.if_icmp .ne 6, 3) := by decide +kernel
theorem dX7_crosses_21 : decode cX7_crosses 21 = .ok (.ldc 78, 2) := by decide +kernel
theorem dX7_crosses_23 : decode cX7_crosses 23 = .ok (.ireturn, 1) := by decide +kernel
theorem dX7_crosses_24 : decode cX7_crosses 24 = .ok (.aload_n 0, 1) := by decide +kernel
theorem dX7_crosses_25 : decode cX7_crosses 25 = .ok (.iload_n 1, 1) := by decide +kernel
theorem dX7_crosses_26 : decode cX7_crosses 26 = .ok (.iload_n 2, 1) := by decide +kernel
theorem dX7_crosses_27 : decode cX7_crosses 27 = .ok (.invokevirtual 227, 3) := by decide +kernel
theorem dX7_crosses_30 : decode cX7_crosses 30 = .ok (.ifCond .eq 7, 3) := by decide +kernel
theorem dX7_crosses_33 : decode cX7_crosses 33 = .ok (.iconst 1, 1) := by decide +kernel
theorem dX7_crosses_34 : decode cX7_crosses 34 = .ok (.goto 4, 3) := by decide +kernel
theorem dX7_crosses_37 : decode cX7_crosses 37 = .ok (.iconst 0, 1) := by decide +kernel
theorem dX7_crosses_38 : decode cX7_crosses 38 = .ok (.ireturn, 1) := by decide +kernel
theorem dX7_crossings_0 : decode cX7_crossings 0 = .ok (.aload_n 0, 1) := by decide +kernel
theorem dX7_crossings_1 : decode cX7_crossings 1 = .ok (.iload_n 1, 1) := by decide +kernel
theorem dX7_crossings_2 : decode cX7_crossings 2 = .ok (.invokevirtual 79, 3) := by decide +kernel
theorem dX7_crossings_5 : decode cX7_crossings 5 = .ok (.ifCond .ne 6, 3) := by decide +kernel
theorem dX7_crossings_8 : decode cX7_crossings 8 = .ok (.ldc 78, 2) := by decide +kernel
theorem dX7_crossings_10 : decode cX7_crossings 10 = .ok (.ireturn, 1) := by decide +kernel
theorem dX7_crossings_11 : decode cX7_crossings 11 = .ok (.iconst 0, 1) := by decide +kernel
theorem dX7_crossings_12 : decode cX7_crossings 12 = .ok (.istore_n 2, 1) := by decide +kernel
theorem dX7_crossings_13 : decode cX7_crossings 13 = .ok (.iconst 0, 1) := by decide +kernel
theorem dX7_crossings_14 : decode cX7_crossings 14 = .ok (.istore_n 3, 1) := by decide +kernel
theorem dX7_crossings_15 : decode cX7_crossings 15 = .ok (.iload_n 3, 1) := by decide +kernel
theorem dX7_crossings_16 : decode cX7_crossings 16 = .ok (.aload_n 0, 1) := by decide +kernel
theorem dX7_crossings_17 : decode cX7_crossings 17 = .ok (.getfield 58, 3) := by decide +kernel
theorem dX7_crossings_20 : decode cX7_crossings 20 = .ok (.if_icmp .ge 31, 3) := by decide +kernel
theorem dX7_crossings_23 : decode cX7_crossings 23 = .ok (.iload_n 2, 1) := by decide +kernel
theorem dX7_crossings_24 : decode cX7_crossings 24 = .ok (.iload_n 3, 1) := by decide +kernel
theorem dX7_crossings_25 : decode cX7_crossings 25 = .ok (.iload_n 1, 1) := by decide +kernel
theorem dX7_crossings_26 : decode cX7_crossings 26 = .ok (.if_icmp .eq 16, 3) := by decide +kernel
theorem dX7_crossings_29 : decode cX7_crossings 29 = .ok (.aload_n 0, 1) := by decide +kernel
theorem dX7_crossings_30 : decode cX7_crossings 30 = .ok (.iload_n 1, 1) := by decide +kernel
theorem dX7_crossings_31 : decode cX7_crossings 31 = .ok (.iload_n 3, 1) := by decide +kernel
theorem dX7_crossings_32 : decode cX7_crossings 32 = .ok (.invokevirtual 227, 3) := by decide +kernel
theorem dX7_crossings_35 : decode cX7_crossings 35 = .ok (.ifCond .eq 7, 3) := by decide +kernel
theorem dX7_crossings_38 : decode cX7_crossings 38 = .ok (.iconst 1, 1) := by decide +kernel
theorem dX7_crossings_39 : decode cX7_crossings 39 = .ok (.goto 4, 3) := by decide +kernel
theorem dX7_crossings_42 : decode cX7_crossings 42 = .ok (.iconst 0, 1) := by decide +kernel
theorem dX7_crossings_43 : decode cX7_crossings 43 = .ok (.iadd, 1) := by decide +kernel
theorem dX7_crossings_44 : decode cX7_crossings 44 = .ok (.istore_n 2, 1) := by decide +kernel
theorem dX7_crossings_45 : decode cX7_crossings 45 = .ok (.iinc 3 1, 3) := by decide +kernel
theorem dX7_crossings_48 : decode cX7_crossings 48 = .ok (.goto (-33), 3) := by decide +kernel
theorem dX7_crossings_51 : decode cX7_crossings 51 = .ok (.iload_n 2, 1) := by decide +kernel
theorem dX7_crossings_52 : decode cX7_crossings 52 = .ok (.ireturn, 1) := by decide +kernel
theorem dX7_count_0 : decode cX7_count 0 = .ok (.iconst 0, 1) := by decide +kernel
theorem dX7_count_1 : decode cX7_count 1 = .ok (.istore_n 2, 1) := by decide +kernel
theorem dX7_count_2 : decode cX7_count 2 = .ok (.iload_n 1, 1) := by decide +kernel
theorem dX7_count_3 : decode cX7_count 3 = .ok (.tableswitch 184 0 5 #[37, 42, 76, 81, 139, 139], 37) := by decide +kernel
theorem dX7_count_40 : decode cX7_count 40 = .ok (.aload_n 0, 1) := by decide +kernel
theorem dX7_count_41 : decode cX7_count 41 = .ok (.getfield 58, 3) := by decide +kernel
theorem dX7_count_44 : decode cX7_count 44 = .ok (.ireturn, 1) := by decide +kernel
theorem dX7_count_45 : decode cX7_count 45 = .ok (.iconst 0, 1) := by decide +kernel
theorem dX7_count_46 : decode cX7_count 46 = .ok (.istore_n 3, 1) := by decide +kernel
theorem dX7_count_47 : decode cX7_count 47 = .ok (.iload_n 3, 1) := by decide +kernel
theorem dX7_count_48 : decode cX7_count 48 = .ok (.aload_n 0, 1) := by decide +kernel
theorem dX7_count_49 : decode cX7_count 49 = .ok (.getfield 58, 3) := by decide +kernel
theorem dX7_count_52 : decode cX7_count 52 = .ok (.if_icmp .ge 25, 3) := by decide +kernel
theorem dX7_count_55 : decode cX7_count 55 = .ok (.iload_n 2, 1) := by decide +kernel
theorem dX7_count_56 : decode cX7_count 56 = .ok (.aload_n 0, 1) := by decide +kernel
theorem dX7_count_57 : decode cX7_count 57 = .ok (.iload_n 3, 1) := by decide +kernel
theorem dX7_count_58 : decode cX7_count 58 = .ok (.invokevirtual 74, 3) := by decide +kernel
theorem dX7_count_61 : decode cX7_count 61 = .ok (.ifCond .eq 7, 3) := by decide +kernel
theorem dX7_count_64 : decode cX7_count 64 = .ok (.iconst 0, 1) := by decide +kernel
theorem dX7_count_65 : decode cX7_count 65 = .ok (.goto 4, 3) := by decide +kernel
theorem dX7_count_68 : decode cX7_count 68 = .ok (.iconst 1, 1) := by decide +kernel
theorem dX7_count_69 : decode cX7_count 69 = .ok (.iadd, 1) := by decide +kernel
theorem dX7_count_70 : decode cX7_count 70 = .ok (.istore_n 2, 1) := by decide +kernel
theorem dX7_count_71 : decode cX7_count 71 = .ok (.iinc 3 1, 3) := by decide +kernel
theorem dX7_count_74 : decode cX7_count 74 = .ok (.goto (-27), 3) := by decide +kernel
theorem dX7_count_77 : decode cX7_count 77 = .ok (.iload_n 2, 1) := by decide +kernel
theorem dX7_count_78 : decode cX7_count 78 = .ok (.ireturn, 1) := by decide +kernel
theorem dX7_count_79 : decode cX7_count 79 = .ok (.aload_n 0, 1) := by decide +kernel
theorem dX7_count_80 : decode cX7_count 80 = .ok (.getfield 61, 3) := by decide +kernel
theorem dX7_count_83 : decode cX7_count 83 = .ok (.ireturn, 1) := by decide +kernel
theorem dX7_count_84 : decode cX7_count 84 = .ok (.iconst 0, 1) := by decide +kernel
theorem dX7_count_85 : decode cX7_count 85 = .ok (.istore_n 3, 1) := by decide +kernel
theorem dX7_count_86 : decode cX7_count 86 = .ok (.iload_n 3, 1) := by decide +kernel
theorem dX7_count_87 : decode cX7_count 87 = .ok (.aload_n 0, 1) := by decide +kernel
theorem dX7_count_88 : decode cX7_count 88 = .ok (.getfield 61, 3) := by decide +kernel
theorem dX7_count_91 : decode cX7_count 91 = .ok (.if_icmp .ge 49, 3) := by decide +kernel
theorem dX7_count_94 : decode cX7_count 94 = .ok (.iload_n 2, 1) := by decide +kernel
theorem dX7_count_95 : decode cX7_count 95 = .ok (.aload_n 0, 1) := by decide +kernel
theorem dX7_count_96 : decode cX7_count 96 = .ok (.getfield 32, 3) := by decide +kernel
theorem dX7_count_99 : decode cX7_count 99 = .ok (.iconst 2, 1) := by decide +kernel
theorem dX7_count_100 : decode cX7_count 100 = .ok (.iload_n 3, 1) := by decide +kernel
theorem dX7_count_101 : decode cX7_count 101 = .ok (.imul, 1) := by decide +kernel
theorem dX7_count_102 : decode cX7_count 102 = .ok (.iconst 1, 1) := by decide +kernel
theorem dX7_count_103 : decode cX7_count 103 = .ok (.iadd, 1) := by decide +kernel
theorem dX7_count_104 : decode cX7_count 104 = .ok (.iaload, 1) := by decide +kernel
theorem dX7_count_105 : decode cX7_count 105 = .ok (.ifCond .ge 17, 3) := by decide +kernel
theorem dX7_count_108 : decode cX7_count 108 = .ok (.aload_n 0, 1) := by decide +kernel
theorem dX7_count_109 : decode cX7_count 109 = .ok (.getfield 32, 3) := by decide +kernel
theorem dX7_count_112 : decode cX7_count 112 = .ok (.iconst 2, 1) := by decide +kernel
theorem dX7_count_113 : decode cX7_count 113 = .ok (.iload_n 3, 1) := by decide +kernel
theorem dX7_count_114 : decode cX7_count 114 = .ok (.imul, 1) := by decide +kernel
theorem dX7_count_115 : decode cX7_count 115 = .ok (.iconst 1, 1) := by decide +kernel
theorem dX7_count_116 : decode cX7_count 116 = .ok (.iadd, 1) := by decide +kernel
theorem dX7_count_117 : decode cX7_count 117 = .ok (.iaload, 1) := by decide +kernel
theorem dX7_count_118 : decode cX7_count 118 = .ok (.ineg, 1) := by decide +kernel
theorem dX7_count_119 : decode cX7_count 119 = .ok (.goto 13, 3) := by decide +kernel
theorem dX7_count_122 : decode cX7_count 122 = .ok (.aload_n 0, 1) := by decide +kernel
theorem dX7_count_123 : decode cX7_count 123 = .ok (.getfield 32, 3) := by decide +kernel
theorem dX7_count_126 : decode cX7_count 126 = .ok (.iconst 2, 1) := by decide +kernel
theorem dX7_count_127 : decode cX7_count 127 = .ok (.iload_n 3, 1) := by decide +kernel
theorem dX7_count_128 : decode cX7_count 128 = .ok (.imul, 1) := by decide +kernel
theorem dX7_count_129 : decode cX7_count 129 = .ok (.iconst 1, 1) := by decide +kernel
theorem dX7_count_130 : decode cX7_count 130 = .ok (.iadd, 1) := by decide +kernel
theorem dX7_count_131 : decode cX7_count 131 = .ok (.iaload, 1) := by decide +kernel
theorem dX7_count_132 : decode cX7_count 132 = .ok (.iadd, 1) := by decide +kernel
theorem dX7_count_133 : decode cX7_count 133 = .ok (.istore_n 2, 1) := by decide +kernel
theorem dX7_count_134 : decode cX7_count 134 = .ok (.iinc 3 1, 3) := by decide +kernel
theorem dX7_count_137 : decode cX7_count 137 = .ok (.goto (-51), 3) := by decide +kernel
theorem dX7_count_140 : decode cX7_count 140 = .ok (.iload_n 2, 1) := by decide +kernel
theorem dX7_count_141 : decode cX7_count 141 = .ok (.ireturn, 1) := by decide +kernel
theorem dX7_count_142 : decode cX7_count 142 = .ok (.iconst 0, 1) := by decide +kernel
theorem dX7_count_143 : decode cX7_count 143 = .ok (.istore_n 3, 1) := by decide +kernel
theorem dX7_count_144 : decode cX7_count 144 = .ok (.iload_n 3, 1) := by decide +kernel
theorem dX7_count_145 : decode cX7_count 145 = .ok (.aload_n 0, 1) := by decide +kernel
theorem dX7_count_146 : decode cX7_count 146 = .ok (.getfield 58, 3) := by decide +kernel
theorem dX7_count_149 : decode cX7_count 149 = .ok (.if_icmp .ge 36, 3) := by decide +kernel
theorem dX7_count_152 : decode cX7_count 152 = .ok (.iload_n 2, 1) := by decide +kernel
theorem dX7_count_153 : decode cX7_count 153 = .ok (.aload_n 0, 1) := by decide +kernel
theorem dX7_count_154 : decode cX7_count 154 = .ok (.getfield 20, 3) := by decide +kernel
theorem dX7_count_157 : decode cX7_count 157 = .ok (.bipush 32, 2) := by decide +kernel
theorem dX7_count_159 : decode cX7_count 159 = .ok (.iload_n 1, 1) := by decide +kernel
theorem dX7_count_160 : decode cX7_count 160 = .ok (.iconst 4, 1) := by decide +kernel
theorem dX7_count_161 : decode cX7_count 161 = .ok (.isub, 1) := by decide +kernel
theorem dX7_count_162 : decode cX7_count 162 = .ok (.imul, 1) := by decide +kernel
theorem dX7_count_163 : decode cX7_count 163 = .ok (.iload_n 3, 1) := by decide +kernel
theorem dX7_count_164 : decode cX7_count 164 = .ok (.iadd, 1) := by decide +kernel
theorem dX7_count_165 : decode cX7_count 165 = .ok (.iaload, 1) := by decide +kernel
theorem dX7_count_166 : decode cX7_count 166 = .ok (.sipush (-10000), 3) := by decide +kernel
theorem dX7_count_169 : decode cX7_count 169 = .ok (.if_icmp .eq 7, 3) := by decide +kernel
theorem dX7_count_172 : decode cX7_count 172 = .ok (.iconst 1, 1) := by decide +kernel
theorem dX7_count_173 : decode cX7_count 173 = .ok (.goto 4, 3) := by decide +kernel
theorem dX7_count_176 : decode cX7_count 176 = .ok (.iconst 0, 1) := by decide +kernel
theorem dX7_count_177 : decode cX7_count 177 = .ok (.iadd, 1) := by decide +kernel
theorem dX7_count_178 : decode cX7_count 178 = .ok (.istore_n 2, 1) := by decide +kernel
theorem dX7_count_179 : decode cX7_count 179 = .ok (.iinc 3 1, 3) := by decide +kernel
theorem dX7_count_182 : decode cX7_count 182 = .ok (.goto (-38), 3) := by decide +kernel
theorem dX7_count_185 : decode cX7_count 185 = .ok (.iload_n 2, 1) := by decide +kernel
theorem dX7_count_186 : decode cX7_count 186 = .ok (.ireturn, 1) := by decide +kernel
theorem dX7_count_187 : decode cX7_count 187 = .ok (.ldc 78, 2) := by decide +kernel
theorem dX7_count_189 : decode cX7_count 189 = .ok (.ireturn, 1) := by decide +kernel
end
section
theorem dL_law_0 : decode cL_law 0 = .ok (.new 7, 3) := by decide +kernel
theorem dL_law_3 : decode cL_law 3 = .ok (.dup, 1) := by decide +kernel
theorem dL_law_4 : decode cL_law 4 = .ok (.invokespecial 9, 3) := by decide +kernel
theorem dL_law_7 : decode cL_law 7 = .ok (.astore_n 1, 1) := by decide +kernel
theorem dL_law_8 : decode cL_law 8 = .ok (.new 10, 3) := by decide +kernel
theorem dL_law_11 : decode cL_law 11 = .ok (.dup, 1) := by decide +kernel
theorem dL_law_12 : decode cL_law 12 = .ok (.invokespecial 12, 3) := by decide +kernel
theorem dL_law_15 : decode cL_law 15 = .ok (.astore_n 2, 1) := by decide +kernel
theorem dL_law_16 : decode cL_law 16 = .ok (.iconst 0, 1) := by decide +kernel
theorem dL_law_17 : decode cL_law 17 = .ok (.istore_n 3, 1) := by decide +kernel
theorem dL_law_18 : decode cL_law 18 = .ok (.iload_n 3, 1) := by decide +kernel
theorem dL_law_19 : decode cL_law 19 = .ok (.aload_n 0, 1) := by decide +kernel
theorem dL_law_20 : decode cL_law 20 = .ok (.arraylength, 1) := by decide +kernel
theorem dL_law_21 : decode cL_law 21 = .ok (.iconst 5, 1) := by decide +kernel
theorem dL_law_22 : decode cL_law 22 = .ok (.isub, 1) := by decide +kernel
theorem dL_law_23 : decode cL_law 23 = .ok (.if_icmp .gt 1088, 3) := by decide +kernel
theorem dL_law_26 : decode cL_law 26 = .ok (.aload_n 0, 1) := by decide +kernel
theorem dL_law_27 : decode cL_law 27 = .ok (.iload_n 3, 1) := by decide +kernel
theorem dL_law_28 : decode cL_law 28 = .ok (.iaload, 1) := by decide +kernel
theorem dL_law_29 : decode cL_law 29 = .ok (.bipush 31, 2) := by decide +kernel
theorem dL_law_31 : decode cL_law 31 = .ok (.iand, 1) := by decide +kernel
theorem dL_law_32 : decode cL_law 32 = .ok (.tableswitch 1073 0 30 #[140, 163, 196, 229, 272, 315, 358, 391, 424, 457, 490, 523, 556, 589, 612, 625, 658, 671, 694, 717, 750, 763, 786, 829, 872, 895, 948, 971, 994, 1027, 1050], 140) := by decide +kernel
theorem dL_law_172 : decode cL_law 172 = .ok (.aload_n 1, 1) := by decide +kernel
theorem dL_law_173 : decode cL_law 173 = .ok (.aload_n 0, 1) := by decide +kernel
theorem dL_law_174 : decode cL_law 174 = .ok (.iload_n 3, 1) := by decide +kernel
theorem dL_law_175 : decode cL_law 175 = .ok (.iconst 1, 1) := by decide +kernel
theorem dL_law_176 : decode cL_law 176 = .ok (.iadd, 1) := by decide +kernel
theorem dL_law_177 : decode cL_law 177 = .ok (.iaload, 1) := by decide +kernel
theorem dL_law_178 : decode cL_law 178 = .ok (.invokevirtual 13, 3) := by decide +kernel
theorem dL_law_181 : decode cL_law 181 = .ok (.aload_n 2, 1) := by decide +kernel
theorem dL_law_182 : decode cL_law 182 = .ok (.aload_n 0, 1) := by decide +kernel
theorem dL_law_183 : decode cL_law 183 = .ok (.iload_n 3, 1) := by decide +kernel
theorem dL_law_184 : decode cL_law 184 = .ok (.iconst 1, 1) := by decide +kernel
theorem dL_law_185 : decode cL_law 185 = .ok (.iadd, 1) := by decide +kernel
theorem dL_law_186 : decode cL_law 186 = .ok (.iaload, 1) := by decide +kernel
theorem dL_law_187 : decode cL_law 187 = .ok (.invokevirtual 17, 3) := by decide +kernel
theorem dL_law_190 : decode cL_law 190 = .ok (.if_icmp .eq 915, 3) := by decide +kernel
theorem dL_law_193 : decode cL_law 193 = .ok (.iconst 0, 1) := by decide +kernel
theorem dL_law_194 : decode cL_law 194 = .ok (.ireturn, 1) := by decide +kernel
theorem dL_law_195 : decode cL_law 195 = .ok (.aload_n 1, 1) := by decide +kernel
theorem dL_law_196 : decode cL_law 196 = .ok (.aload_n 0, 1) := by decide +kernel
theorem dL_law_197 : decode cL_law 197 = .ok (.iload_n 3, 1) := by decide +kernel
theorem dL_law_198 : decode cL_law 198 = .ok (.iconst 1, 1) := by decide +kernel
theorem dL_law_199 : decode cL_law 199 = .ok (.iadd, 1) := by decide +kernel
theorem dL_law_200 : decode cL_law 200 = .ok (.iaload, 1) := by decide +kernel
theorem dL_law_201 : decode cL_law 201 = .ok (.aload_n 0, 1) := by decide +kernel
theorem dL_law_202 : decode cL_law 202 = .ok (.iload_n 3, 1) := by decide +kernel
theorem dL_law_203 : decode cL_law 203 = .ok (.iconst 2, 1) := by decide +kernel
theorem dL_law_204 : decode cL_law 204 = .ok (.iadd, 1) := by decide +kernel
theorem dL_law_205 : decode cL_law 205 = .ok (.iaload, 1) := by decide +kernel
theorem dL_law_206 : decode cL_law 206 = .ok (.invokevirtual 18, 3) := by decide +kernel
theorem dL_law_209 : decode cL_law 209 = .ok (.aload_n 2, 1) := by decide +kernel
theorem dL_law_210 : decode cL_law 210 = .ok (.aload_n 0, 1) := by decide +kernel
theorem dL_law_211 : decode cL_law 211 = .ok (.iload_n 3, 1) := by decide +kernel
theorem dL_law_212 : decode cL_law 212 = .ok (.iconst 1, 1) := by decide +kernel
theorem dL_law_213 : decode cL_law 213 = .ok (.iadd, 1) := by decide +kernel
theorem dL_law_214 : decode cL_law 214 = .ok (.iaload, 1) := by decide +kernel
theorem dL_law_215 : decode cL_law 215 = .ok (.aload_n 0, 1) := by decide +kernel
theorem dL_law_216 : decode cL_law 216 = .ok (.iload_n 3, 1) := by decide +kernel
theorem dL_law_217 : decode cL_law 217 = .ok (.iconst 2, 1) := by decide +kernel
theorem dL_law_218 : decode cL_law 218 = .ok (.iadd, 1) := by decide +kernel
theorem dL_law_219 : decode cL_law 219 = .ok (.iaload, 1) := by decide +kernel
theorem dL_law_220 : decode cL_law 220 = .ok (.invokevirtual 22, 3) := by decide +kernel
theorem dL_law_223 : decode cL_law 223 = .ok (.if_icmp .eq 882, 3) := by decide +kernel
theorem dL_law_226 : decode cL_law 226 = .ok (.iconst 0, 1) := by decide +kernel
theorem dL_law_227 : decode cL_law 227 = .ok (.ireturn, 1) := by decide +kernel
theorem dL_law_228 : decode cL_law 228 = .ok (.aload_n 1, 1) := by decide +kernel
theorem dL_law_229 : decode cL_law 229 = .ok (.aload_n 0, 1) := by decide +kernel
theorem dL_law_230 : decode cL_law 230 = .ok (.iload_n 3, 1) := by decide +kernel
theorem dL_law_231 : decode cL_law 231 = .ok (.iconst 1, 1) := by decide +kernel
theorem dL_law_232 : decode cL_law 232 = .ok (.iadd, 1) := by decide +kernel
theorem dL_law_233 : decode cL_law 233 = .ok (.iaload, 1) := by decide +kernel
theorem dL_law_234 : decode cL_law 234 = .ok (.aload_n 0, 1) := by decide +kernel
theorem dL_law_235 : decode cL_law 235 = .ok (.iload_n 3, 1) := by decide +kernel
theorem dL_law_236 : decode cL_law 236 = .ok (.iconst 2, 1) := by decide +kernel
theorem dL_law_237 : decode cL_law 237 = .ok (.iadd, 1) := by decide +kernel
theorem dL_law_238 : decode cL_law 238 = .ok (.iaload, 1) := by decide +kernel
theorem dL_law_239 : decode cL_law 239 = .ok (.invokevirtual 23, 3) := by decide +kernel
theorem dL_law_242 : decode cL_law 242 = .ok (.aload_n 2, 1) := by decide +kernel
theorem dL_law_243 : decode cL_law 243 = .ok (.aload_n 0, 1) := by decide +kernel
theorem dL_law_244 : decode cL_law 244 = .ok (.iload_n 3, 1) := by decide +kernel
theorem dL_law_245 : decode cL_law 245 = .ok (.iconst 1, 1) := by decide +kernel
theorem dL_law_246 : decode cL_law 246 = .ok (.iadd, 1) := by decide +kernel
theorem dL_law_247 : decode cL_law 247 = .ok (.iaload, 1) := by decide +kernel
theorem dL_law_248 : decode cL_law 248 = .ok (.aload_n 0, 1) := by decide +kernel
theorem dL_law_249 : decode cL_law 249 = .ok (.iload_n 3, 1) := by decide +kernel
theorem dL_law_250 : decode cL_law 250 = .ok (.iconst 2, 1) := by decide +kernel
theorem dL_law_251 : decode cL_law 251 = .ok (.iadd, 1) := by decide +kernel
theorem dL_law_252 : decode cL_law 252 = .ok (.iaload, 1) := by decide +kernel
theorem dL_law_253 : decode cL_law 253 = .ok (.invokevirtual 26, 3) := by decide +kernel
theorem dL_law_256 : decode cL_law 256 = .ok (.if_icmp .eq 849, 3) := by decide +kernel
theorem dL_law_259 : decode cL_law 259 = .ok (.iconst 0, 1) := by decide +kernel
theorem dL_law_260 : decode cL_law 260 = .ok (.ireturn, 1) := by decide +kernel
theorem dL_law_261 : decode cL_law 261 = .ok (.aload_n 1, 1) := by decide +kernel
theorem dL_law_262 : decode cL_law 262 = .ok (.aload_n 0, 1) := by decide +kernel
theorem dL_law_263 : decode cL_law 263 = .ok (.iload_n 3, 1) := by decide +kernel
theorem dL_law_264 : decode cL_law 264 = .ok (.iconst 1, 1) := by decide +kernel
theorem dL_law_265 : decode cL_law 265 = .ok (.iadd, 1) := by decide +kernel
theorem dL_law_266 : decode cL_law 266 = .ok (.iaload, 1) := by decide +kernel
theorem dL_law_267 : decode cL_law 267 = .ok (.aload_n 0, 1) := by decide +kernel
theorem dL_law_268 : decode cL_law 268 = .ok (.iload_n 3, 1) := by decide +kernel
theorem dL_law_269 : decode cL_law 269 = .ok (.iconst 2, 1) := by decide +kernel
theorem dL_law_270 : decode cL_law 270 = .ok (.iadd, 1) := by decide +kernel
theorem dL_law_271 : decode cL_law 271 = .ok (.iaload, 1) := by decide +kernel
theorem dL_law_272 : decode cL_law 272 = .ok (.aload_n 0, 1) := by decide +kernel
theorem dL_law_273 : decode cL_law 273 = .ok (.iload_n 3, 1) := by decide +kernel
theorem dL_law_274 : decode cL_law 274 = .ok (.iconst 3, 1) := by decide +kernel
theorem dL_law_275 : decode cL_law 275 = .ok (.iadd, 1) := by decide +kernel
theorem dL_law_276 : decode cL_law 276 = .ok (.iaload, 1) := by decide +kernel
theorem dL_law_277 : decode cL_law 277 = .ok (.invokevirtual 27, 3) := by decide +kernel
theorem dL_law_280 : decode cL_law 280 = .ok (.aload_n 2, 1) := by decide +kernel
theorem dL_law_281 : decode cL_law 281 = .ok (.aload_n 0, 1) := by decide +kernel
theorem dL_law_282 : decode cL_law 282 = .ok (.iload_n 3, 1) := by decide +kernel
theorem dL_law_283 : decode cL_law 283 = .ok (.iconst 1, 1) := by decide +kernel
theorem dL_law_284 : decode cL_law 284 = .ok (.iadd, 1) := by decide +kernel
theorem dL_law_285 : decode cL_law 285 = .ok (.iaload, 1) := by decide +kernel
theorem dL_law_286 : decode cL_law 286 = .ok (.aload_n 0, 1) := by decide +kernel
theorem dL_law_287 : decode cL_law 287 = .ok (.iload_n 3, 1) := by decide +kernel
theorem dL_law_288 : decode cL_law 288 = .ok (.iconst 2, 1) := by decide +kernel
theorem dL_law_289 : decode cL_law 289 = .ok (.iadd, 1) := by decide +kernel
theorem dL_law_290 : decode cL_law 290 = .ok (.iaload, 1) := by decide +kernel
theorem dL_law_291 : decode cL_law 291 = .ok (.aload_n 0, 1) := by decide +kernel
theorem dL_law_292 : decode cL_law 292 = .ok (.iload_n 3, 1) := by decide +kernel
theorem dL_law_293 : decode cL_law 293 = .ok (.iconst 3, 1) := by decide +kernel
theorem dL_law_294 : decode cL_law 294 = .ok (.iadd, 1) := by decide +kernel
theorem dL_law_295 : decode cL_law 295 = .ok (.iaload, 1) := by decide +kernel
theorem dL_law_296 : decode cL_law 296 = .ok (.invokevirtual 31, 3) := by decide +kernel
theorem dL_law_299 : decode cL_law 299 = .ok (.if_icmp .eq 806, 3) := by decide +kernel
theorem dL_law_302 : decode cL_law 302 = .ok (.iconst 0, 1) := by decide +kernel
theorem dL_law_303 : decode cL_law 303 = .ok (.ireturn, 1) := by decide +kernel
theorem dL_law_304 : decode cL_law 304 = .ok (.aload_n 1, 1) := by decide +kernel
theorem dL_law_305 : decode cL_law 305 = .ok (.aload_n 0, 1) := by decide +kernel
theorem dL_law_306 : decode cL_law 306 = .ok (.iload_n 3, 1) := by decide +kernel
theorem dL_law_307 : decode cL_law 307 = .ok (.iconst 1, 1) := by decide +kernel
theorem dL_law_308 : decode cL_law 308 = .ok (.iadd, 1) := by decide +kernel
theorem dL_law_309 : decode cL_law 309 = .ok (.iaload, 1) := by decide +kernel
theorem dL_law_310 : decode cL_law 310 = .ok (.aload_n 0, 1) := by decide +kernel
theorem dL_law_311 : decode cL_law 311 = .ok (.iload_n 3, 1) := by decide +kernel
theorem dL_law_312 : decode cL_law 312 = .ok (.iconst 2, 1) := by decide +kernel
theorem dL_law_313 : decode cL_law 313 = .ok (.iadd, 1) := by decide +kernel
theorem dL_law_314 : decode cL_law 314 = .ok (.iaload, 1) := by decide +kernel
theorem dL_law_315 : decode cL_law 315 = .ok (.aload_n 0, 1) := by decide +kernel
theorem dL_law_316 : decode cL_law 316 = .ok (.iload_n 3, 1) := by decide +kernel
theorem dL_law_317 : decode cL_law 317 = .ok (.iconst 3, 1) := by decide +kernel
theorem dL_law_318 : decode cL_law 318 = .ok (.iadd, 1) := by decide +kernel
theorem dL_law_319 : decode cL_law 319 = .ok (.iaload, 1) := by decide +kernel
theorem dL_law_320 : decode cL_law 320 = .ok (.invokevirtual 32, 3) := by decide +kernel
theorem dL_law_323 : decode cL_law 323 = .ok (.aload_n 2, 1) := by decide +kernel
theorem dL_law_324 : decode cL_law 324 = .ok (.aload_n 0, 1) := by decide +kernel
theorem dL_law_325 : decode cL_law 325 = .ok (.iload_n 3, 1) := by decide +kernel
theorem dL_law_326 : decode cL_law 326 = .ok (.iconst 1, 1) := by decide +kernel
theorem dL_law_327 : decode cL_law 327 = .ok (.iadd, 1) := by decide +kernel
theorem dL_law_328 : decode cL_law 328 = .ok (.iaload, 1) := by decide +kernel
theorem dL_law_329 : decode cL_law 329 = .ok (.aload_n 0, 1) := by decide +kernel
theorem dL_law_330 : decode cL_law 330 = .ok (.iload_n 3, 1) := by decide +kernel
theorem dL_law_331 : decode cL_law 331 = .ok (.iconst 2, 1) := by decide +kernel
theorem dL_law_332 : decode cL_law 332 = .ok (.iadd, 1) := by decide +kernel
theorem dL_law_333 : decode cL_law 333 = .ok (.iaload, 1) := by decide +kernel
theorem dL_law_334 : decode cL_law 334 = .ok (.aload_n 0, 1) := by decide +kernel
theorem dL_law_335 : decode cL_law 335 = .ok (.iload_n 3, 1) := by decide +kernel
theorem dL_law_336 : decode cL_law 336 = .ok (.iconst 3, 1) := by decide +kernel
theorem dL_law_337 : decode cL_law 337 = .ok (.iadd, 1) := by decide +kernel
theorem dL_law_338 : decode cL_law 338 = .ok (.iaload, 1) := by decide +kernel
theorem dL_law_339 : decode cL_law 339 = .ok (.invokevirtual 35, 3) := by decide +kernel
theorem dL_law_342 : decode cL_law 342 = .ok (.if_icmp .eq 763, 3) := by decide +kernel
theorem dL_law_345 : decode cL_law 345 = .ok (.iconst 0, 1) := by decide +kernel
theorem dL_law_346 : decode cL_law 346 = .ok (.ireturn, 1) := by decide +kernel
theorem dL_law_347 : decode cL_law 347 = .ok (.aload_n 1, 1) := by decide +kernel
theorem dL_law_348 : decode cL_law 348 = .ok (.aload_n 0, 1) := by decide +kernel
theorem dL_law_349 : decode cL_law 349 = .ok (.iload_n 3, 1) := by decide +kernel
theorem dL_law_350 : decode cL_law 350 = .ok (.iconst 1, 1) := by decide +kernel
theorem dL_law_351 : decode cL_law 351 = .ok (.iadd, 1) := by decide +kernel
theorem dL_law_352 : decode cL_law 352 = .ok (.iaload, 1) := by decide +kernel
theorem dL_law_353 : decode cL_law 353 = .ok (.aload_n 0, 1) := by decide +kernel
theorem dL_law_354 : decode cL_law 354 = .ok (.iload_n 3, 1) := by decide +kernel
theorem dL_law_355 : decode cL_law 355 = .ok (.iconst 2, 1) := by decide +kernel
theorem dL_law_356 : decode cL_law 356 = .ok (.iadd, 1) := by decide +kernel
theorem dL_law_357 : decode cL_law 357 = .ok (.iaload, 1) := by decide +kernel
theorem dL_law_358 : decode cL_law 358 = .ok (.aload_n 0, 1) := by decide +kernel
theorem dL_law_359 : decode cL_law 359 = .ok (.iload_n 3, 1) := by decide +kernel
theorem dL_law_360 : decode cL_law 360 = .ok (.iconst 3, 1) := by decide +kernel
theorem dL_law_361 : decode cL_law 361 = .ok (.iadd, 1) := by decide +kernel
theorem dL_law_362 : decode cL_law 362 = .ok (.iaload, 1) := by decide +kernel
theorem dL_law_363 : decode cL_law 363 = .ok (.invokevirtual 36, 3) := by decide +kernel
theorem dL_law_366 : decode cL_law 366 = .ok (.aload_n 2, 1) := by decide +kernel
theorem dL_law_367 : decode cL_law 367 = .ok (.aload_n 0, 1) := by decide +kernel
theorem dL_law_368 : decode cL_law 368 = .ok (.iload_n 3, 1) := by decide +kernel
theorem dL_law_369 : decode cL_law 369 = .ok (.iconst 1, 1) := by decide +kernel
theorem dL_law_370 : decode cL_law 370 = .ok (.iadd, 1) := by decide +kernel
theorem dL_law_371 : decode cL_law 371 = .ok (.iaload, 1) := by decide +kernel
theorem dL_law_372 : decode cL_law 372 = .ok (.aload_n 0, 1) := by decide +kernel
theorem dL_law_373 : decode cL_law 373 = .ok (.iload_n 3, 1) := by decide +kernel
theorem dL_law_374 : decode cL_law 374 = .ok (.iconst 2, 1) := by decide +kernel
theorem dL_law_375 : decode cL_law 375 = .ok (.iadd, 1) := by decide +kernel
theorem dL_law_376 : decode cL_law 376 = .ok (.iaload, 1) := by decide +kernel
theorem dL_law_377 : decode cL_law 377 = .ok (.aload_n 0, 1) := by decide +kernel
theorem dL_law_378 : decode cL_law 378 = .ok (.iload_n 3, 1) := by decide +kernel
theorem dL_law_379 : decode cL_law 379 = .ok (.iconst 3, 1) := by decide +kernel
theorem dL_law_380 : decode cL_law 380 = .ok (.iadd, 1) := by decide +kernel
theorem dL_law_381 : decode cL_law 381 = .ok (.iaload, 1) := by decide +kernel
theorem dL_law_382 : decode cL_law 382 = .ok (.invokevirtual 39, 3) := by decide +kernel
theorem dL_law_385 : decode cL_law 385 = .ok (.if_icmp .eq 720, 3) := by decide +kernel
theorem dL_law_388 : decode cL_law 388 = .ok (.iconst 0, 1) := by decide +kernel
theorem dL_law_389 : decode cL_law 389 = .ok (.ireturn, 1) := by decide +kernel
theorem dL_law_390 : decode cL_law 390 = .ok (.aload_n 1, 1) := by decide +kernel
theorem dL_law_391 : decode cL_law 391 = .ok (.aload_n 0, 1) := by decide +kernel
theorem dL_law_392 : decode cL_law 392 = .ok (.iload_n 3, 1) := by decide +kernel
theorem dL_law_393 : decode cL_law 393 = .ok (.iconst 1, 1) := by decide +kernel
theorem dL_law_394 : decode cL_law 394 = .ok (.iadd, 1) := by decide +kernel
theorem dL_law_395 : decode cL_law 395 = .ok (.iaload, 1) := by decide +kernel
theorem dL_law_396 : decode cL_law 396 = .ok (.aload_n 0, 1) := by decide +kernel
theorem dL_law_397 : decode cL_law 397 = .ok (.iload_n 3, 1) := by decide +kernel
theorem dL_law_398 : decode cL_law 398 = .ok (.iconst 2, 1) := by decide +kernel
theorem dL_law_399 : decode cL_law 399 = .ok (.iadd, 1) := by decide +kernel
theorem dL_law_400 : decode cL_law 400 = .ok (.iaload, 1) := by decide +kernel
theorem dL_law_401 : decode cL_law 401 = .ok (.invokevirtual 40, 3) := by decide +kernel
theorem dL_law_404 : decode cL_law 404 = .ok (.aload_n 2, 1) := by decide +kernel
theorem dL_law_405 : decode cL_law 405 = .ok (.aload_n 0, 1) := by decide +kernel
theorem dL_law_406 : decode cL_law 406 = .ok (.iload_n 3, 1) := by decide +kernel
theorem dL_law_407 : decode cL_law 407 = .ok (.iconst 1, 1) := by decide +kernel
theorem dL_law_408 : decode cL_law 408 = .ok (.iadd, 1) := by decide +kernel
theorem dL_law_409 : decode cL_law 409 = .ok (.iaload, 1) := by decide +kernel
theorem dL_law_410 : decode cL_law 410 = .ok (.aload_n 0, 1) := by decide +kernel
theorem dL_law_411 : decode cL_law 411 = .ok (.iload_n 3, 1) := by decide +kernel
theorem dL_law_412 : decode cL_law 412 = .ok (.iconst 2, 1) := by decide +kernel
theorem dL_law_413 : decode cL_law 413 = .ok (.iadd, 1) := by decide +kernel
theorem dL_law_414 : decode cL_law 414 = .ok (.iaload, 1) := by decide +kernel
theorem dL_law_415 : decode cL_law 415 = .ok (.invokevirtual 43, 3) := by decide +kernel
theorem dL_law_418 : decode cL_law 418 = .ok (.if_icmp .eq 687, 3) := by decide +kernel
theorem dL_law_421 : decode cL_law 421 = .ok (.iconst 0, 1) := by decide +kernel
theorem dL_law_422 : decode cL_law 422 = .ok (.ireturn, 1) := by decide +kernel
theorem dL_law_423 : decode cL_law 423 = .ok (.aload_n 1, 1) := by decide +kernel
theorem dL_law_424 : decode cL_law 424 = .ok (.aload_n 0, 1) := by decide +kernel
theorem dL_law_425 : decode cL_law 425 = .ok (.iload_n 3, 1) := by decide +kernel
theorem dL_law_426 : decode cL_law 426 = .ok (.iconst 1, 1) := by decide +kernel
theorem dL_law_427 : decode cL_law 427 = .ok (.iadd, 1) := by decide +kernel
theorem dL_law_428 : decode cL_law 428 = .ok (.iaload, 1) := by decide +kernel
theorem dL_law_429 : decode cL_law 429 = .ok (.aload_n 0, 1) := by decide +kernel
theorem dL_law_430 : decode cL_law 430 = .ok (.iload_n 3, 1) := by decide +kernel
theorem dL_law_431 : decode cL_law 431 = .ok (.iconst 2, 1) := by decide +kernel
theorem dL_law_432 : decode cL_law 432 = .ok (.iadd, 1) := by decide +kernel
theorem dL_law_433 : decode cL_law 433 = .ok (.iaload, 1) := by decide +kernel
theorem dL_law_434 : decode cL_law 434 = .ok (.invokevirtual 44, 3) := by decide +kernel
theorem dL_law_437 : decode cL_law 437 = .ok (.aload_n 2, 1) := by decide +kernel
theorem dL_law_438 : decode cL_law 438 = .ok (.aload_n 0, 1) := by decide +kernel
theorem dL_law_439 : decode cL_law 439 = .ok (.iload_n 3, 1) := by decide +kernel
theorem dL_law_440 : decode cL_law 440 = .ok (.iconst 1, 1) := by decide +kernel
theorem dL_law_441 : decode cL_law 441 = .ok (.iadd, 1) := by decide +kernel
theorem dL_law_442 : decode cL_law 442 = .ok (.iaload, 1) := by decide +kernel
theorem dL_law_443 : decode cL_law 443 = .ok (.aload_n 0, 1) := by decide +kernel
theorem dL_law_444 : decode cL_law 444 = .ok (.iload_n 3, 1) := by decide +kernel
theorem dL_law_445 : decode cL_law 445 = .ok (.iconst 2, 1) := by decide +kernel
theorem dL_law_446 : decode cL_law 446 = .ok (.iadd, 1) := by decide +kernel
theorem dL_law_447 : decode cL_law 447 = .ok (.iaload, 1) := by decide +kernel
theorem dL_law_448 : decode cL_law 448 = .ok (.invokevirtual 47, 3) := by decide +kernel
theorem dL_law_451 : decode cL_law 451 = .ok (.if_icmp .eq 654, 3) := by decide +kernel
theorem dL_law_454 : decode cL_law 454 = .ok (.iconst 0, 1) := by decide +kernel
theorem dL_law_455 : decode cL_law 455 = .ok (.ireturn, 1) := by decide +kernel
theorem dL_law_456 : decode cL_law 456 = .ok (.aload_n 1, 1) := by decide +kernel
theorem dL_law_457 : decode cL_law 457 = .ok (.aload_n 0, 1) := by decide +kernel
theorem dL_law_458 : decode cL_law 458 = .ok (.iload_n 3, 1) := by decide +kernel
theorem dL_law_459 : decode cL_law 459 = .ok (.iconst 1, 1) := by decide +kernel
theorem dL_law_460 : decode cL_law 460 = .ok (.iadd, 1) := by decide +kernel
theorem dL_law_461 : decode cL_law 461 = .ok (.iaload, 1) := by decide +kernel
theorem dL_law_462 : decode cL_law 462 = .ok (.aload_n 0, 1) := by decide +kernel
theorem dL_law_463 : decode cL_law 463 = .ok (.iload_n 3, 1) := by decide +kernel
theorem dL_law_464 : decode cL_law 464 = .ok (.iconst 2, 1) := by decide +kernel
theorem dL_law_465 : decode cL_law 465 = .ok (.iadd, 1) := by decide +kernel
theorem dL_law_466 : decode cL_law 466 = .ok (.iaload, 1) := by decide +kernel
theorem dL_law_467 : decode cL_law 467 = .ok (.invokevirtual 48, 3) := by decide +kernel
theorem dL_law_470 : decode cL_law 470 = .ok (.aload_n 2, 1) := by decide +kernel
theorem dL_law_471 : decode cL_law 471 = .ok (.aload_n 0, 1) := by decide +kernel
theorem dL_law_472 : decode cL_law 472 = .ok (.iload_n 3, 1) := by decide +kernel
theorem dL_law_473 : decode cL_law 473 = .ok (.iconst 1, 1) := by decide +kernel
theorem dL_law_474 : decode cL_law 474 = .ok (.iadd, 1) := by decide +kernel
theorem dL_law_475 : decode cL_law 475 = .ok (.iaload, 1) := by decide +kernel
theorem dL_law_476 : decode cL_law 476 = .ok (.aload_n 0, 1) := by decide +kernel
theorem dL_law_477 : decode cL_law 477 = .ok (.iload_n 3, 1) := by decide +kernel
theorem dL_law_478 : decode cL_law 478 = .ok (.iconst 2, 1) := by decide +kernel
theorem dL_law_479 : decode cL_law 479 = .ok (.iadd, 1) := by decide +kernel
theorem dL_law_480 : decode cL_law 480 = .ok (.iaload, 1) := by decide +kernel
theorem dL_law_481 : decode cL_law 481 = .ok (.invokevirtual 51, 3) := by decide +kernel
theorem dL_law_484 : decode cL_law 484 = .ok (.if_icmp .eq 621, 3) := by decide +kernel
theorem dL_law_487 : decode cL_law 487 = .ok (.iconst 0, 1) := by decide +kernel
theorem dL_law_488 : decode cL_law 488 = .ok (.ireturn, 1) := by decide +kernel
theorem dL_law_489 : decode cL_law 489 = .ok (.aload_n 1, 1) := by decide +kernel
theorem dL_law_490 : decode cL_law 490 = .ok (.aload_n 0, 1) := by decide +kernel
theorem dL_law_491 : decode cL_law 491 = .ok (.iload_n 3, 1) := by decide +kernel
theorem dL_law_492 : decode cL_law 492 = .ok (.iconst 1, 1) := by decide +kernel
theorem dL_law_493 : decode cL_law 493 = .ok (.iadd, 1) := by decide +kernel
theorem dL_law_494 : decode cL_law 494 = .ok (.iaload, 1) := by decide +kernel
theorem dL_law_495 : decode cL_law 495 = .ok (.aload_n 0, 1) := by decide +kernel
theorem dL_law_496 : decode cL_law 496 = .ok (.iload_n 3, 1) := by decide +kernel
theorem dL_law_497 : decode cL_law 497 = .ok (.iconst 2, 1) := by decide +kernel
theorem dL_law_498 : decode cL_law 498 = .ok (.iadd, 1) := by decide +kernel
theorem dL_law_499 : decode cL_law 499 = .ok (.iaload, 1) := by decide +kernel
theorem dL_law_500 : decode cL_law 500 = .ok (.invokevirtual 52, 3) := by decide +kernel
theorem dL_law_503 : decode cL_law 503 = .ok (.aload_n 2, 1) := by decide +kernel
theorem dL_law_504 : decode cL_law 504 = .ok (.aload_n 0, 1) := by decide +kernel
theorem dL_law_505 : decode cL_law 505 = .ok (.iload_n 3, 1) := by decide +kernel
theorem dL_law_506 : decode cL_law 506 = .ok (.iconst 1, 1) := by decide +kernel
theorem dL_law_507 : decode cL_law 507 = .ok (.iadd, 1) := by decide +kernel
theorem dL_law_508 : decode cL_law 508 = .ok (.iaload, 1) := by decide +kernel
theorem dL_law_509 : decode cL_law 509 = .ok (.aload_n 0, 1) := by decide +kernel
theorem dL_law_510 : decode cL_law 510 = .ok (.iload_n 3, 1) := by decide +kernel
theorem dL_law_511 : decode cL_law 511 = .ok (.iconst 2, 1) := by decide +kernel
theorem dL_law_512 : decode cL_law 512 = .ok (.iadd, 1) := by decide +kernel
theorem dL_law_513 : decode cL_law 513 = .ok (.iaload, 1) := by decide +kernel
theorem dL_law_514 : decode cL_law 514 = .ok (.invokevirtual 55, 3) := by decide +kernel
theorem dL_law_517 : decode cL_law 517 = .ok (.if_icmp .eq 588, 3) := by decide +kernel
theorem dL_law_520 : decode cL_law 520 = .ok (.iconst 0, 1) := by decide +kernel
theorem dL_law_521 : decode cL_law 521 = .ok (.ireturn, 1) := by decide +kernel
theorem dL_law_522 : decode cL_law 522 = .ok (.aload_n 1, 1) := by decide +kernel
theorem dL_law_523 : decode cL_law 523 = .ok (.aload_n 0, 1) := by decide +kernel
theorem dL_law_524 : decode cL_law 524 = .ok (.iload_n 3, 1) := by decide +kernel
theorem dL_law_525 : decode cL_law 525 = .ok (.iconst 1, 1) := by decide +kernel
theorem dL_law_526 : decode cL_law 526 = .ok (.iadd, 1) := by decide +kernel
theorem dL_law_527 : decode cL_law 527 = .ok (.iaload, 1) := by decide +kernel
theorem dL_law_528 : decode cL_law 528 = .ok (.aload_n 0, 1) := by decide +kernel
theorem dL_law_529 : decode cL_law 529 = .ok (.iload_n 3, 1) := by decide +kernel
theorem dL_law_530 : decode cL_law 530 = .ok (.iconst 2, 1) := by decide +kernel
theorem dL_law_531 : decode cL_law 531 = .ok (.iadd, 1) := by decide +kernel
theorem dL_law_532 : decode cL_law 532 = .ok (.iaload, 1) := by decide +kernel
theorem dL_law_533 : decode cL_law 533 = .ok (.invokevirtual 56, 3) := by decide +kernel
theorem dL_law_536 : decode cL_law 536 = .ok (.aload_n 2, 1) := by decide +kernel
theorem dL_law_537 : decode cL_law 537 = .ok (.aload_n 0, 1) := by decide +kernel
theorem dL_law_538 : decode cL_law 538 = .ok (.iload_n 3, 1) := by decide +kernel
theorem dL_law_539 : decode cL_law 539 = .ok (.iconst 1, 1) := by decide +kernel
theorem dL_law_540 : decode cL_law 540 = .ok (.iadd, 1) := by decide +kernel
theorem dL_law_541 : decode cL_law 541 = .ok (.iaload, 1) := by decide +kernel
theorem dL_law_542 : decode cL_law 542 = .ok (.aload_n 0, 1) := by decide +kernel
theorem dL_law_543 : decode cL_law 543 = .ok (.iload_n 3, 1) := by decide +kernel
theorem dL_law_544 : decode cL_law 544 = .ok (.iconst 2, 1) := by decide +kernel
theorem dL_law_545 : decode cL_law 545 = .ok (.iadd, 1) := by decide +kernel
theorem dL_law_546 : decode cL_law 546 = .ok (.iaload, 1) := by decide +kernel
theorem dL_law_547 : decode cL_law 547 = .ok (.invokevirtual 59, 3) := by decide +kernel
theorem dL_law_550 : decode cL_law 550 = .ok (.if_icmp .eq 555, 3) := by decide +kernel
theorem dL_law_553 : decode cL_law 553 = .ok (.iconst 0, 1) := by decide +kernel
theorem dL_law_554 : decode cL_law 554 = .ok (.ireturn, 1) := by decide +kernel
theorem dL_law_555 : decode cL_law 555 = .ok (.aload_n 1, 1) := by decide +kernel
theorem dL_law_556 : decode cL_law 556 = .ok (.aload_n 0, 1) := by decide +kernel
theorem dL_law_557 : decode cL_law 557 = .ok (.iload_n 3, 1) := by decide +kernel
theorem dL_law_558 : decode cL_law 558 = .ok (.iconst 1, 1) := by decide +kernel
theorem dL_law_559 : decode cL_law 559 = .ok (.iadd, 1) := by decide +kernel
theorem dL_law_560 : decode cL_law 560 = .ok (.iaload, 1) := by decide +kernel
theorem dL_law_561 : decode cL_law 561 = .ok (.aload_n 0, 1) := by decide +kernel
theorem dL_law_562 : decode cL_law 562 = .ok (.iload_n 3, 1) := by decide +kernel
theorem dL_law_563 : decode cL_law 563 = .ok (.iconst 2, 1) := by decide +kernel
theorem dL_law_564 : decode cL_law 564 = .ok (.iadd, 1) := by decide +kernel
theorem dL_law_565 : decode cL_law 565 = .ok (.iaload, 1) := by decide +kernel
theorem dL_law_566 : decode cL_law 566 = .ok (.invokevirtual 60, 3) := by decide +kernel
theorem dL_law_569 : decode cL_law 569 = .ok (.aload_n 2, 1) := by decide +kernel
theorem dL_law_570 : decode cL_law 570 = .ok (.aload_n 0, 1) := by decide +kernel
theorem dL_law_571 : decode cL_law 571 = .ok (.iload_n 3, 1) := by decide +kernel
theorem dL_law_572 : decode cL_law 572 = .ok (.iconst 1, 1) := by decide +kernel
theorem dL_law_573 : decode cL_law 573 = .ok (.iadd, 1) := by decide +kernel
theorem dL_law_574 : decode cL_law 574 = .ok (.iaload, 1) := by decide +kernel
theorem dL_law_575 : decode cL_law 575 = .ok (.aload_n 0, 1) := by decide +kernel
theorem dL_law_576 : decode cL_law 576 = .ok (.iload_n 3, 1) := by decide +kernel
theorem dL_law_577 : decode cL_law 577 = .ok (.iconst 2, 1) := by decide +kernel
theorem dL_law_578 : decode cL_law 578 = .ok (.iadd, 1) := by decide +kernel
theorem dL_law_579 : decode cL_law 579 = .ok (.iaload, 1) := by decide +kernel
theorem dL_law_580 : decode cL_law 580 = .ok (.invokevirtual 63, 3) := by decide +kernel
theorem dL_law_583 : decode cL_law 583 = .ok (.if_icmp .eq 522, 3) := by decide +kernel
theorem dL_law_586 : decode cL_law 586 = .ok (.iconst 0, 1) := by decide +kernel
theorem dL_law_587 : decode cL_law 587 = .ok (.ireturn, 1) := by decide +kernel
theorem dL_law_588 : decode cL_law 588 = .ok (.aload_n 1, 1) := by decide +kernel
theorem dL_law_589 : decode cL_law 589 = .ok (.aload_n 0, 1) := by decide +kernel
theorem dL_law_590 : decode cL_law 590 = .ok (.iload_n 3, 1) := by decide +kernel
theorem dL_law_591 : decode cL_law 591 = .ok (.iconst 1, 1) := by decide +kernel
theorem dL_law_592 : decode cL_law 592 = .ok (.iadd, 1) := by decide +kernel
theorem dL_law_593 : decode cL_law 593 = .ok (.iaload, 1) := by decide +kernel
theorem dL_law_594 : decode cL_law 594 = .ok (.aload_n 0, 1) := by decide +kernel
theorem dL_law_595 : decode cL_law 595 = .ok (.iload_n 3, 1) := by decide +kernel
theorem dL_law_596 : decode cL_law 596 = .ok (.iconst 2, 1) := by decide +kernel
theorem dL_law_597 : decode cL_law 597 = .ok (.iadd, 1) := by decide +kernel
theorem dL_law_598 : decode cL_law 598 = .ok (.iaload, 1) := by decide +kernel
theorem dL_law_599 : decode cL_law 599 = .ok (.invokevirtual 64, 3) := by decide +kernel
theorem dL_law_602 : decode cL_law 602 = .ok (.aload_n 2, 1) := by decide +kernel
theorem dL_law_603 : decode cL_law 603 = .ok (.aload_n 0, 1) := by decide +kernel
theorem dL_law_604 : decode cL_law 604 = .ok (.iload_n 3, 1) := by decide +kernel
theorem dL_law_605 : decode cL_law 605 = .ok (.iconst 1, 1) := by decide +kernel
theorem dL_law_606 : decode cL_law 606 = .ok (.iadd, 1) := by decide +kernel
theorem dL_law_607 : decode cL_law 607 = .ok (.iaload, 1) := by decide +kernel
theorem dL_law_608 : decode cL_law 608 = .ok (.aload_n 0, 1) := by decide +kernel
theorem dL_law_609 : decode cL_law 609 = .ok (.iload_n 3, 1) := by decide +kernel
theorem dL_law_610 : decode cL_law 610 = .ok (.iconst 2, 1) := by decide +kernel
theorem dL_law_611 : decode cL_law 611 = .ok (.iadd, 1) := by decide +kernel
theorem dL_law_612 : decode cL_law 612 = .ok (.iaload, 1) := by decide +kernel
theorem dL_law_613 : decode cL_law 613 = .ok (.invokevirtual 67, 3) := by decide +kernel
theorem dL_law_616 : decode cL_law 616 = .ok (.if_icmp .eq 489, 3) := by decide +kernel
theorem dL_law_619 : decode cL_law 619 = .ok (.iconst 0, 1) := by decide +kernel
theorem dL_law_620 : decode cL_law 620 = .ok (.ireturn, 1) := by decide +kernel
theorem dL_law_621 : decode cL_law 621 = .ok (.aload_n 1, 1) := by decide +kernel
theorem dL_law_622 : decode cL_law 622 = .ok (.aload_n 0, 1) := by decide +kernel
theorem dL_law_623 : decode cL_law 623 = .ok (.iload_n 3, 1) := by decide +kernel
theorem dL_law_624 : decode cL_law 624 = .ok (.iconst 1, 1) := by decide +kernel
theorem dL_law_625 : decode cL_law 625 = .ok (.iadd, 1) := by decide +kernel
theorem dL_law_626 : decode cL_law 626 = .ok (.iaload, 1) := by decide +kernel
theorem dL_law_627 : decode cL_law 627 = .ok (.invokevirtual 68, 3) := by decide +kernel
theorem dL_law_630 : decode cL_law 630 = .ok (.aload_n 2, 1) := by decide +kernel
theorem dL_law_631 : decode cL_law 631 = .ok (.aload_n 0, 1) := by decide +kernel
theorem dL_law_632 : decode cL_law 632 = .ok (.iload_n 3, 1) := by decide +kernel
theorem dL_law_633 : decode cL_law 633 = .ok (.iconst 1, 1) := by decide +kernel
theorem dL_law_634 : decode cL_law 634 = .ok (.iadd, 1) := by decide +kernel
theorem dL_law_635 : decode cL_law 635 = .ok (.iaload, 1) := by decide +kernel
theorem dL_law_636 : decode cL_law 636 = .ok (.invokevirtual 71, 3) := by decide +kernel
theorem dL_law_639 : decode cL_law 639 = .ok (.if_icmp .eq 466, 3) := by decide +kernel
theorem dL_law_642 : decode cL_law 642 = .ok (.iconst 0, 1) := by decide +kernel
theorem dL_law_643 : decode cL_law 643 = .ok (.ireturn, 1) := by decide +kernel
theorem dL_law_644 : decode cL_law 644 = .ok (.aload_n 1, 1) := by decide +kernel
theorem dL_law_645 : decode cL_law 645 = .ok (.invokevirtual 72, 3) := by decide +kernel
theorem dL_law_648 : decode cL_law 648 = .ok (.aload_n 2, 1) := by decide +kernel
theorem dL_law_649 : decode cL_law 649 = .ok (.invokevirtual 76, 3) := by decide +kernel
theorem dL_law_652 : decode cL_law 652 = .ok (.if_icmp .eq 453, 3) := by decide +kernel
theorem dL_law_655 : decode cL_law 655 = .ok (.iconst 0, 1) := by decide +kernel
theorem dL_law_656 : decode cL_law 656 = .ok (.ireturn, 1) := by decide +kernel
theorem dL_law_657 : decode cL_law 657 = .ok (.aload_n 1, 1) := by decide +kernel
theorem dL_law_658 : decode cL_law 658 = .ok (.aload_n 0, 1) := by decide +kernel
theorem dL_law_659 : decode cL_law 659 = .ok (.iload_n 3, 1) := by decide +kernel
theorem dL_law_660 : decode cL_law 660 = .ok (.iconst 1, 1) := by decide +kernel
theorem dL_law_661 : decode cL_law 661 = .ok (.iadd, 1) := by decide +kernel
theorem dL_law_662 : decode cL_law 662 = .ok (.iaload, 1) := by decide +kernel
theorem dL_law_663 : decode cL_law 663 = .ok (.aload_n 0, 1) := by decide +kernel
theorem dL_law_664 : decode cL_law 664 = .ok (.iload_n 3, 1) := by decide +kernel
theorem dL_law_665 : decode cL_law 665 = .ok (.iconst 2, 1) := by decide +kernel
theorem dL_law_666 : decode cL_law 666 = .ok (.iadd, 1) := by decide +kernel
theorem dL_law_667 : decode cL_law 667 = .ok (.iaload, 1) := by decide +kernel
theorem dL_law_668 : decode cL_law 668 = .ok (.invokevirtual 77, 3) := by decide +kernel
theorem dL_law_671 : decode cL_law 671 = .ok (.aload_n 2, 1) := by decide +kernel
theorem dL_law_672 : decode cL_law 672 = .ok (.aload_n 0, 1) := by decide +kernel
theorem dL_law_673 : decode cL_law 673 = .ok (.iload_n 3, 1) := by decide +kernel
theorem dL_law_674 : decode cL_law 674 = .ok (.iconst 1, 1) := by decide +kernel
theorem dL_law_675 : decode cL_law 675 = .ok (.iadd, 1) := by decide +kernel
theorem dL_law_676 : decode cL_law 676 = .ok (.iaload, 1) := by decide +kernel
theorem dL_law_677 : decode cL_law 677 = .ok (.aload_n 0, 1) := by decide +kernel
theorem dL_law_678 : decode cL_law 678 = .ok (.iload_n 3, 1) := by decide +kernel
theorem dL_law_679 : decode cL_law 679 = .ok (.iconst 2, 1) := by decide +kernel
theorem dL_law_680 : decode cL_law 680 = .ok (.iadd, 1) := by decide +kernel
theorem dL_law_681 : decode cL_law 681 = .ok (.iaload, 1) := by decide +kernel
theorem dL_law_682 : decode cL_law 682 = .ok (.invokevirtual 80, 3) := by decide +kernel
theorem dL_law_685 : decode cL_law 685 = .ok (.if_icmp .eq 420, 3) := by decide +kernel
theorem dL_law_688 : decode cL_law 688 = .ok (.iconst 0, 1) := by decide +kernel
theorem dL_law_689 : decode cL_law 689 = .ok (.ireturn, 1) := by decide +kernel
theorem dL_law_690 : decode cL_law 690 = .ok (.aload_n 1, 1) := by decide +kernel
theorem dL_law_691 : decode cL_law 691 = .ok (.invokevirtual 81, 3) := by decide +kernel
theorem dL_law_694 : decode cL_law 694 = .ok (.aload_n 2, 1) := by decide +kernel
theorem dL_law_695 : decode cL_law 695 = .ok (.invokevirtual 84, 3) := by decide +kernel
theorem dL_law_698 : decode cL_law 698 = .ok (.if_icmp .eq 407, 3) := by decide +kernel
theorem dL_law_701 : decode cL_law 701 = .ok (.iconst 0, 1) := by decide +kernel
theorem dL_law_702 : decode cL_law 702 = .ok (.ireturn, 1) := by decide +kernel
theorem dL_law_703 : decode cL_law 703 = .ok (.aload_n 1, 1) := by decide +kernel
theorem dL_law_704 : decode cL_law 704 = .ok (.aload_n 0, 1) := by decide +kernel
theorem dL_law_705 : decode cL_law 705 = .ok (.iload_n 3, 1) := by decide +kernel
theorem dL_law_706 : decode cL_law 706 = .ok (.iconst 1, 1) := by decide +kernel
theorem dL_law_707 : decode cL_law 707 = .ok (.iadd, 1) := by decide +kernel
theorem dL_law_708 : decode cL_law 708 = .ok (.iaload, 1) := by decide +kernel
theorem dL_law_709 : decode cL_law 709 = .ok (.invokevirtual 85, 3) := by decide +kernel
theorem dL_law_712 : decode cL_law 712 = .ok (.aload_n 2, 1) := by decide +kernel
theorem dL_law_713 : decode cL_law 713 = .ok (.aload_n 0, 1) := by decide +kernel
theorem dL_law_714 : decode cL_law 714 = .ok (.iload_n 3, 1) := by decide +kernel
theorem dL_law_715 : decode cL_law 715 = .ok (.iconst 1, 1) := by decide +kernel
theorem dL_law_716 : decode cL_law 716 = .ok (.iadd, 1) := by decide +kernel
theorem dL_law_717 : decode cL_law 717 = .ok (.iaload, 1) := by decide +kernel
theorem dL_law_718 : decode cL_law 718 = .ok (.invokevirtual 88, 3) := by decide +kernel
theorem dL_law_721 : decode cL_law 721 = .ok (.if_icmp .eq 384, 3) := by decide +kernel
theorem dL_law_724 : decode cL_law 724 = .ok (.iconst 0, 1) := by decide +kernel
theorem dL_law_725 : decode cL_law 725 = .ok (.ireturn, 1) := by decide +kernel
theorem dL_law_726 : decode cL_law 726 = .ok (.aload_n 1, 1) := by decide +kernel
theorem dL_law_727 : decode cL_law 727 = .ok (.aload_n 0, 1) := by decide +kernel
theorem dL_law_728 : decode cL_law 728 = .ok (.iload_n 3, 1) := by decide +kernel
theorem dL_law_729 : decode cL_law 729 = .ok (.iconst 1, 1) := by decide +kernel
theorem dL_law_730 : decode cL_law 730 = .ok (.iadd, 1) := by decide +kernel
theorem dL_law_731 : decode cL_law 731 = .ok (.iaload, 1) := by decide +kernel
theorem dL_law_732 : decode cL_law 732 = .ok (.invokevirtual 89, 3) := by decide +kernel
theorem dL_law_735 : decode cL_law 735 = .ok (.aload_n 2, 1) := by decide +kernel
theorem dL_law_736 : decode cL_law 736 = .ok (.aload_n 0, 1) := by decide +kernel
theorem dL_law_737 : decode cL_law 737 = .ok (.iload_n 3, 1) := by decide +kernel
theorem dL_law_738 : decode cL_law 738 = .ok (.iconst 1, 1) := by decide +kernel
theorem dL_law_739 : decode cL_law 739 = .ok (.iadd, 1) := by decide +kernel
theorem dL_law_740 : decode cL_law 740 = .ok (.iaload, 1) := by decide +kernel
theorem dL_law_741 : decode cL_law 741 = .ok (.invokevirtual 92, 3) := by decide +kernel
theorem dL_law_744 : decode cL_law 744 = .ok (.if_icmp .eq 361, 3) := by decide +kernel
theorem dL_law_747 : decode cL_law 747 = .ok (.iconst 0, 1) := by decide +kernel
theorem dL_law_748 : decode cL_law 748 = .ok (.ireturn, 1) := by decide +kernel
theorem dL_law_749 : decode cL_law 749 = .ok (.aload_n 1, 1) := by decide +kernel
theorem dL_law_750 : decode cL_law 750 = .ok (.aload_n 0, 1) := by decide +kernel
theorem dL_law_751 : decode cL_law 751 = .ok (.iload_n 3, 1) := by decide +kernel
theorem dL_law_752 : decode cL_law 752 = .ok (.iconst 1, 1) := by decide +kernel
theorem dL_law_753 : decode cL_law 753 = .ok (.iadd, 1) := by decide +kernel
theorem dL_law_754 : decode cL_law 754 = .ok (.iaload, 1) := by decide +kernel
theorem dL_law_755 : decode cL_law 755 = .ok (.aload_n 0, 1) := by decide +kernel
theorem dL_law_756 : decode cL_law 756 = .ok (.iload_n 3, 1) := by decide +kernel
theorem dL_law_757 : decode cL_law 757 = .ok (.iconst 2, 1) := by decide +kernel
theorem dL_law_758 : decode cL_law 758 = .ok (.iadd, 1) := by decide +kernel
theorem dL_law_759 : decode cL_law 759 = .ok (.iaload, 1) := by decide +kernel
theorem dL_law_760 : decode cL_law 760 = .ok (.invokevirtual 93, 3) := by decide +kernel
theorem dL_law_763 : decode cL_law 763 = .ok (.aload_n 2, 1) := by decide +kernel
theorem dL_law_764 : decode cL_law 764 = .ok (.aload_n 0, 1) := by decide +kernel
theorem dL_law_765 : decode cL_law 765 = .ok (.iload_n 3, 1) := by decide +kernel
theorem dL_law_766 : decode cL_law 766 = .ok (.iconst 1, 1) := by decide +kernel
theorem dL_law_767 : decode cL_law 767 = .ok (.iadd, 1) := by decide +kernel
theorem dL_law_768 : decode cL_law 768 = .ok (.iaload, 1) := by decide +kernel
theorem dL_law_769 : decode cL_law 769 = .ok (.aload_n 0, 1) := by decide +kernel
theorem dL_law_770 : decode cL_law 770 = .ok (.iload_n 3, 1) := by decide +kernel
theorem dL_law_771 : decode cL_law 771 = .ok (.iconst 2, 1) := by decide +kernel
theorem dL_law_772 : decode cL_law 772 = .ok (.iadd, 1) := by decide +kernel
theorem dL_law_773 : decode cL_law 773 = .ok (.iaload, 1) := by decide +kernel
theorem dL_law_774 : decode cL_law 774 = .ok (.invokevirtual 96, 3) := by decide +kernel
theorem dL_law_777 : decode cL_law 777 = .ok (.if_icmp .eq 328, 3) := by decide +kernel
theorem dL_law_780 : decode cL_law 780 = .ok (.iconst 0, 1) := by decide +kernel
theorem dL_law_781 : decode cL_law 781 = .ok (.ireturn, 1) := by decide +kernel
theorem dL_law_782 : decode cL_law 782 = .ok (.aload_n 1, 1) := by decide +kernel
theorem dL_law_783 : decode cL_law 783 = .ok (.invokevirtual 97, 3) := by decide +kernel
theorem dL_law_786 : decode cL_law 786 = .ok (.aload_n 2, 1) := by decide +kernel
theorem dL_law_787 : decode cL_law 787 = .ok (.invokevirtual 100, 3) := by decide +kernel
theorem dL_law_790 : decode cL_law 790 = .ok (.if_icmp .eq 315, 3) := by decide +kernel
theorem dL_law_793 : decode cL_law 793 = .ok (.iconst 0, 1) := by decide +kernel
theorem dL_law_794 : decode cL_law 794 = .ok (.ireturn, 1) := by decide +kernel
theorem dL_law_795 : decode cL_law 795 = .ok (.aload_n 1, 1) := by decide +kernel
theorem dL_law_796 : decode cL_law 796 = .ok (.aload_n 0, 1) := by decide +kernel
theorem dL_law_797 : decode cL_law 797 = .ok (.iload_n 3, 1) := by decide +kernel
theorem dL_law_798 : decode cL_law 798 = .ok (.iconst 1, 1) := by decide +kernel
theorem dL_law_799 : decode cL_law 799 = .ok (.iadd, 1) := by decide +kernel
theorem dL_law_800 : decode cL_law 800 = .ok (.iaload, 1) := by decide +kernel
theorem dL_law_801 : decode cL_law 801 = .ok (.invokevirtual 101, 3) := by decide +kernel
theorem dL_law_804 : decode cL_law 804 = .ok (.aload_n 2, 1) := by decide +kernel
theorem dL_law_805 : decode cL_law 805 = .ok (.aload_n 0, 1) := by decide +kernel
theorem dL_law_806 : decode cL_law 806 = .ok (.iload_n 3, 1) := by decide +kernel
theorem dL_law_807 : decode cL_law 807 = .ok (.iconst 1, 1) := by decide +kernel
theorem dL_law_808 : decode cL_law 808 = .ok (.iadd, 1) := by decide +kernel
theorem dL_law_809 : decode cL_law 809 = .ok (.iaload, 1) := by decide +kernel
theorem dL_law_810 : decode cL_law 810 = .ok (.invokevirtual 104, 3) := by decide +kernel
theorem dL_law_813 : decode cL_law 813 = .ok (.if_icmp .eq 292, 3) := by decide +kernel
theorem dL_law_816 : decode cL_law 816 = .ok (.iconst 0, 1) := by decide +kernel
theorem dL_law_817 : decode cL_law 817 = .ok (.ireturn, 1) := by decide +kernel
theorem dL_law_818 : decode cL_law 818 = .ok (.aload_n 1, 1) := by decide +kernel
theorem dL_law_819 : decode cL_law 819 = .ok (.aload_n 0, 1) := by decide +kernel
theorem dL_law_820 : decode cL_law 820 = .ok (.iload_n 3, 1) := by decide +kernel
theorem dL_law_821 : decode cL_law 821 = .ok (.iconst 1, 1) := by decide +kernel
theorem dL_law_822 : decode cL_law 822 = .ok (.iadd, 1) := by decide +kernel
theorem dL_law_823 : decode cL_law 823 = .ok (.iaload, 1) := by decide +kernel
theorem dL_law_824 : decode cL_law 824 = .ok (.aload_n 0, 1) := by decide +kernel
theorem dL_law_825 : decode cL_law 825 = .ok (.iload_n 3, 1) := by decide +kernel
theorem dL_law_826 : decode cL_law 826 = .ok (.iconst 2, 1) := by decide +kernel
theorem dL_law_827 : decode cL_law 827 = .ok (.iadd, 1) := by decide +kernel
theorem dL_law_828 : decode cL_law 828 = .ok (.iaload, 1) := by decide +kernel
theorem dL_law_829 : decode cL_law 829 = .ok (.aload_n 0, 1) := by decide +kernel
theorem dL_law_830 : decode cL_law 830 = .ok (.iload_n 3, 1) := by decide +kernel
theorem dL_law_831 : decode cL_law 831 = .ok (.iconst 3, 1) := by decide +kernel
theorem dL_law_832 : decode cL_law 832 = .ok (.iadd, 1) := by decide +kernel
theorem dL_law_833 : decode cL_law 833 = .ok (.iaload, 1) := by decide +kernel
theorem dL_law_834 : decode cL_law 834 = .ok (.invokevirtual 105, 3) := by decide +kernel
theorem dL_law_837 : decode cL_law 837 = .ok (.aload_n 2, 1) := by decide +kernel
theorem dL_law_838 : decode cL_law 838 = .ok (.aload_n 0, 1) := by decide +kernel
theorem dL_law_839 : decode cL_law 839 = .ok (.iload_n 3, 1) := by decide +kernel
theorem dL_law_840 : decode cL_law 840 = .ok (.iconst 1, 1) := by decide +kernel
theorem dL_law_841 : decode cL_law 841 = .ok (.iadd, 1) := by decide +kernel
theorem dL_law_842 : decode cL_law 842 = .ok (.iaload, 1) := by decide +kernel
theorem dL_law_843 : decode cL_law 843 = .ok (.aload_n 0, 1) := by decide +kernel
theorem dL_law_844 : decode cL_law 844 = .ok (.iload_n 3, 1) := by decide +kernel
theorem dL_law_845 : decode cL_law 845 = .ok (.iconst 2, 1) := by decide +kernel
theorem dL_law_846 : decode cL_law 846 = .ok (.iadd, 1) := by decide +kernel
theorem dL_law_847 : decode cL_law 847 = .ok (.iaload, 1) := by decide +kernel
theorem dL_law_848 : decode cL_law 848 = .ok (.aload_n 0, 1) := by decide +kernel
theorem dL_law_849 : decode cL_law 849 = .ok (.iload_n 3, 1) := by decide +kernel
theorem dL_law_850 : decode cL_law 850 = .ok (.iconst 3, 1) := by decide +kernel
theorem dL_law_851 : decode cL_law 851 = .ok (.iadd, 1) := by decide +kernel
theorem dL_law_852 : decode cL_law 852 = .ok (.iaload, 1) := by decide +kernel
theorem dL_law_853 : decode cL_law 853 = .ok (.invokevirtual 108, 3) := by decide +kernel
theorem dL_law_856 : decode cL_law 856 = .ok (.if_icmp .eq 249, 3) := by decide +kernel
theorem dL_law_859 : decode cL_law 859 = .ok (.iconst 0, 1) := by decide +kernel
theorem dL_law_860 : decode cL_law 860 = .ok (.ireturn, 1) := by decide +kernel
theorem dL_law_861 : decode cL_law 861 = .ok (.aload_n 1, 1) := by decide +kernel
theorem dL_law_862 : decode cL_law 862 = .ok (.aload_n 0, 1) := by decide +kernel
theorem dL_law_863 : decode cL_law 863 = .ok (.iload_n 3, 1) := by decide +kernel
theorem dL_law_864 : decode cL_law 864 = .ok (.iconst 1, 1) := by decide +kernel
theorem dL_law_865 : decode cL_law 865 = .ok (.iadd, 1) := by decide +kernel
theorem dL_law_866 : decode cL_law 866 = .ok (.iaload, 1) := by decide +kernel
theorem dL_law_867 : decode cL_law 867 = .ok (.aload_n 0, 1) := by decide +kernel
theorem dL_law_868 : decode cL_law 868 = .ok (.iload_n 3, 1) := by decide +kernel
theorem dL_law_869 : decode cL_law 869 = .ok (.iconst 2, 1) := by decide +kernel
theorem dL_law_870 : decode cL_law 870 = .ok (.iadd, 1) := by decide +kernel
theorem dL_law_871 : decode cL_law 871 = .ok (.iaload, 1) := by decide +kernel
theorem dL_law_872 : decode cL_law 872 = .ok (.aload_n 0, 1) := by decide +kernel
theorem dL_law_873 : decode cL_law 873 = .ok (.iload_n 3, 1) := by decide +kernel
theorem dL_law_874 : decode cL_law 874 = .ok (.iconst 3, 1) := by decide +kernel
theorem dL_law_875 : decode cL_law 875 = .ok (.iadd, 1) := by decide +kernel
theorem dL_law_876 : decode cL_law 876 = .ok (.iaload, 1) := by decide +kernel
theorem dL_law_877 : decode cL_law 877 = .ok (.invokevirtual 109, 3) := by decide +kernel
theorem dL_law_880 : decode cL_law 880 = .ok (.aload_n 2, 1) := by decide +kernel
theorem dL_law_881 : decode cL_law 881 = .ok (.aload_n 0, 1) := by decide +kernel
theorem dL_law_882 : decode cL_law 882 = .ok (.iload_n 3, 1) := by decide +kernel
theorem dL_law_883 : decode cL_law 883 = .ok (.iconst 1, 1) := by decide +kernel
theorem dL_law_884 : decode cL_law 884 = .ok (.iadd, 1) := by decide +kernel
theorem dL_law_885 : decode cL_law 885 = .ok (.iaload, 1) := by decide +kernel
theorem dL_law_886 : decode cL_law 886 = .ok (.aload_n 0, 1) := by decide +kernel
theorem dL_law_887 : decode cL_law 887 = .ok (.iload_n 3, 1) := by decide +kernel
theorem dL_law_888 : decode cL_law 888 = .ok (.iconst 2, 1) := by decide +kernel
theorem dL_law_889 : decode cL_law 889 = .ok (.iadd, 1) := by decide +kernel
theorem dL_law_890 : decode cL_law 890 = .ok (.iaload, 1) := by decide +kernel
theorem dL_law_891 : decode cL_law 891 = .ok (.aload_n 0, 1) := by decide +kernel
theorem dL_law_892 : decode cL_law 892 = .ok (.iload_n 3, 1) := by decide +kernel
theorem dL_law_893 : decode cL_law 893 = .ok (.iconst 3, 1) := by decide +kernel
theorem dL_law_894 : decode cL_law 894 = .ok (.iadd, 1) := by decide +kernel
theorem dL_law_895 : decode cL_law 895 = .ok (.iaload, 1) := by decide +kernel
theorem dL_law_896 : decode cL_law 896 = .ok (.invokevirtual 112, 3) := by decide +kernel
theorem dL_law_899 : decode cL_law 899 = .ok (.if_icmp .eq 206, 3) := by decide +kernel
theorem dL_law_902 : decode cL_law 902 = .ok (.iconst 0, 1) := by decide +kernel
theorem dL_law_903 : decode cL_law 903 = .ok (.ireturn, 1) := by decide +kernel
theorem dL_law_904 : decode cL_law 904 = .ok (.aload_n 1, 1) := by decide +kernel
theorem dL_law_905 : decode cL_law 905 = .ok (.aload_n 0, 1) := by decide +kernel
theorem dL_law_906 : decode cL_law 906 = .ok (.iload_n 3, 1) := by decide +kernel
theorem dL_law_907 : decode cL_law 907 = .ok (.iconst 1, 1) := by decide +kernel
theorem dL_law_908 : decode cL_law 908 = .ok (.iadd, 1) := by decide +kernel
theorem dL_law_909 : decode cL_law 909 = .ok (.iaload, 1) := by decide +kernel
theorem dL_law_910 : decode cL_law 910 = .ok (.invokevirtual 113, 3) := by decide +kernel
theorem dL_law_913 : decode cL_law 913 = .ok (.aload_n 2, 1) := by decide +kernel
theorem dL_law_914 : decode cL_law 914 = .ok (.aload_n 0, 1) := by decide +kernel
theorem dL_law_915 : decode cL_law 915 = .ok (.iload_n 3, 1) := by decide +kernel
theorem dL_law_916 : decode cL_law 916 = .ok (.iconst 1, 1) := by decide +kernel
theorem dL_law_917 : decode cL_law 917 = .ok (.iadd, 1) := by decide +kernel
theorem dL_law_918 : decode cL_law 918 = .ok (.iaload, 1) := by decide +kernel
theorem dL_law_919 : decode cL_law 919 = .ok (.invokevirtual 116, 3) := by decide +kernel
theorem dL_law_922 : decode cL_law 922 = .ok (.if_icmp .eq 183, 3) := by decide +kernel
theorem dL_law_925 : decode cL_law 925 = .ok (.iconst 0, 1) := by decide +kernel
theorem dL_law_926 : decode cL_law 926 = .ok (.ireturn, 1) := by decide +kernel
theorem dL_law_927 : decode cL_law 927 = .ok (.aload_n 1, 1) := by decide +kernel
theorem dL_law_928 : decode cL_law 928 = .ok (.aload_n 0, 1) := by decide +kernel
theorem dL_law_929 : decode cL_law 929 = .ok (.iload_n 3, 1) := by decide +kernel
theorem dL_law_930 : decode cL_law 930 = .ok (.iconst 1, 1) := by decide +kernel
theorem dL_law_931 : decode cL_law 931 = .ok (.iadd, 1) := by decide +kernel
theorem dL_law_932 : decode cL_law 932 = .ok (.iaload, 1) := by decide +kernel
theorem dL_law_933 : decode cL_law 933 = .ok (.aload_n 0, 1) := by decide +kernel
theorem dL_law_934 : decode cL_law 934 = .ok (.iload_n 3, 1) := by decide +kernel
theorem dL_law_935 : decode cL_law 935 = .ok (.iconst 2, 1) := by decide +kernel
theorem dL_law_936 : decode cL_law 936 = .ok (.iadd, 1) := by decide +kernel
theorem dL_law_937 : decode cL_law 937 = .ok (.iaload, 1) := by decide +kernel
theorem dL_law_938 : decode cL_law 938 = .ok (.aload_n 0, 1) := by decide +kernel
theorem dL_law_939 : decode cL_law 939 = .ok (.iload_n 3, 1) := by decide +kernel
theorem dL_law_940 : decode cL_law 940 = .ok (.iconst 3, 1) := by decide +kernel
theorem dL_law_941 : decode cL_law 941 = .ok (.iadd, 1) := by decide +kernel
theorem dL_law_942 : decode cL_law 942 = .ok (.iaload, 1) := by decide +kernel
theorem dL_law_943 : decode cL_law 943 = .ok (.aload_n 0, 1) := by decide +kernel
theorem dL_law_944 : decode cL_law 944 = .ok (.iload_n 3, 1) := by decide +kernel
theorem dL_law_945 : decode cL_law 945 = .ok (.iconst 4, 1) := by decide +kernel
theorem dL_law_946 : decode cL_law 946 = .ok (.iadd, 1) := by decide +kernel
theorem dL_law_947 : decode cL_law 947 = .ok (.iaload, 1) := by decide +kernel
theorem dL_law_948 : decode cL_law 948 = .ok (.invokevirtual 117, 3) := by decide +kernel
theorem dL_law_951 : decode cL_law 951 = .ok (.aload_n 2, 1) := by decide +kernel
theorem dL_law_952 : decode cL_law 952 = .ok (.aload_n 0, 1) := by decide +kernel
theorem dL_law_953 : decode cL_law 953 = .ok (.iload_n 3, 1) := by decide +kernel
theorem dL_law_954 : decode cL_law 954 = .ok (.iconst 1, 1) := by decide +kernel
theorem dL_law_955 : decode cL_law 955 = .ok (.iadd, 1) := by decide +kernel
theorem dL_law_956 : decode cL_law 956 = .ok (.iaload, 1) := by decide +kernel
theorem dL_law_957 : decode cL_law 957 = .ok (.aload_n 0, 1) := by decide +kernel
theorem dL_law_958 : decode cL_law 958 = .ok (.iload_n 3, 1) := by decide +kernel
theorem dL_law_959 : decode cL_law 959 = .ok (.iconst 2, 1) := by decide +kernel
theorem dL_law_960 : decode cL_law 960 = .ok (.iadd, 1) := by decide +kernel
theorem dL_law_961 : decode cL_law 961 = .ok (.iaload, 1) := by decide +kernel
theorem dL_law_962 : decode cL_law 962 = .ok (.aload_n 0, 1) := by decide +kernel
theorem dL_law_963 : decode cL_law 963 = .ok (.iload_n 3, 1) := by decide +kernel
theorem dL_law_964 : decode cL_law 964 = .ok (.iconst 3, 1) := by decide +kernel
theorem dL_law_965 : decode cL_law 965 = .ok (.iadd, 1) := by decide +kernel
theorem dL_law_966 : decode cL_law 966 = .ok (.iaload, 1) := by decide +kernel
theorem dL_law_967 : decode cL_law 967 = .ok (.aload_n 0, 1) := by decide +kernel
theorem dL_law_968 : decode cL_law 968 = .ok (.iload_n 3, 1) := by decide +kernel
theorem dL_law_969 : decode cL_law 969 = .ok (.iconst 4, 1) := by decide +kernel
theorem dL_law_970 : decode cL_law 970 = .ok (.iadd, 1) := by decide +kernel
theorem dL_law_971 : decode cL_law 971 = .ok (.iaload, 1) := by decide +kernel
theorem dL_law_972 : decode cL_law 972 = .ok (.invokevirtual 121, 3) := by decide +kernel
theorem dL_law_975 : decode cL_law 975 = .ok (.if_icmp .eq 130, 3) := by decide +kernel
theorem dL_law_978 : decode cL_law 978 = .ok (.iconst 0, 1) := by decide +kernel
theorem dL_law_979 : decode cL_law 979 = .ok (.ireturn, 1) := by decide +kernel
theorem dL_law_980 : decode cL_law 980 = .ok (.aload_n 1, 1) := by decide +kernel
theorem dL_law_981 : decode cL_law 981 = .ok (.aload_n 0, 1) := by decide +kernel
theorem dL_law_982 : decode cL_law 982 = .ok (.iload_n 3, 1) := by decide +kernel
theorem dL_law_983 : decode cL_law 983 = .ok (.iconst 1, 1) := by decide +kernel
theorem dL_law_984 : decode cL_law 984 = .ok (.iadd, 1) := by decide +kernel
theorem dL_law_985 : decode cL_law 985 = .ok (.iaload, 1) := by decide +kernel
theorem dL_law_986 : decode cL_law 986 = .ok (.invokevirtual 122, 3) := by decide +kernel
theorem dL_law_989 : decode cL_law 989 = .ok (.aload_n 2, 1) := by decide +kernel
theorem dL_law_990 : decode cL_law 990 = .ok (.aload_n 0, 1) := by decide +kernel
theorem dL_law_991 : decode cL_law 991 = .ok (.iload_n 3, 1) := by decide +kernel
theorem dL_law_992 : decode cL_law 992 = .ok (.iconst 1, 1) := by decide +kernel
theorem dL_law_993 : decode cL_law 993 = .ok (.iadd, 1) := by decide +kernel
theorem dL_law_994 : decode cL_law 994 = .ok (.iaload, 1) := by decide +kernel
theorem dL_law_995 : decode cL_law 995 = .ok (.invokevirtual 125, 3) := by decide +kernel
theorem dL_law_998 : decode cL_law 998 = .ok (.if_icmp .eq 107, 3) := by decide +kernel
theorem dL_law_1001 : decode cL_law 1001 = .ok (.iconst 0, 1) := by decide +kernel
theorem dL_law_1002 : decode cL_law 1002 = .ok (.ireturn, 1) := by decide +kernel
theorem dL_law_1003 : decode cL_law 1003 = .ok (.aload_n 1, 1) := by decide +kernel
theorem dL_law_1004 : decode cL_law 1004 = .ok (.aload_n 0, 1) := by decide +kernel
theorem dL_law_1005 : decode cL_law 1005 = .ok (.iload_n 3, 1) := by decide +kernel
theorem dL_law_1006 : decode cL_law 1006 = .ok (.iconst 1, 1) := by decide +kernel
theorem dL_law_1007 : decode cL_law 1007 = .ok (.iadd, 1) := by decide +kernel
theorem dL_law_1008 : decode cL_law 1008 = .ok (.iaload, 1) := by decide +kernel
theorem dL_law_1009 : decode cL_law 1009 = .ok (.invokevirtual 126, 3) := by decide +kernel
theorem dL_law_1012 : decode cL_law 1012 = .ok (.aload_n 2, 1) := by decide +kernel
theorem dL_law_1013 : decode cL_law 1013 = .ok (.aload_n 0, 1) := by decide +kernel
theorem dL_law_1014 : decode cL_law 1014 = .ok (.iload_n 3, 1) := by decide +kernel
theorem dL_law_1015 : decode cL_law 1015 = .ok (.iconst 1, 1) := by decide +kernel
theorem dL_law_1016 : decode cL_law 1016 = .ok (.iadd, 1) := by decide +kernel
theorem dL_law_1017 : decode cL_law 1017 = .ok (.iaload, 1) := by decide +kernel
theorem dL_law_1018 : decode cL_law 1018 = .ok (.invokevirtual 129, 3) := by decide +kernel
theorem dL_law_1021 : decode cL_law 1021 = .ok (.if_icmp .eq 84, 3) := by decide +kernel
theorem dL_law_1024 : decode cL_law 1024 = .ok (.iconst 0, 1) := by decide +kernel
theorem dL_law_1025 : decode cL_law 1025 = .ok (.ireturn, 1) := by decide +kernel
theorem dL_law_1026 : decode cL_law 1026 = .ok (.aload_n 1, 1) := by decide +kernel
theorem dL_law_1027 : decode cL_law 1027 = .ok (.aload_n 0, 1) := by decide +kernel
theorem dL_law_1028 : decode cL_law 1028 = .ok (.iload_n 3, 1) := by decide +kernel
theorem dL_law_1029 : decode cL_law 1029 = .ok (.iconst 1, 1) := by decide +kernel
theorem dL_law_1030 : decode cL_law 1030 = .ok (.iadd, 1) := by decide +kernel
theorem dL_law_1031 : decode cL_law 1031 = .ok (.iaload, 1) := by decide +kernel
theorem dL_law_1032 : decode cL_law 1032 = .ok (.aload_n 0, 1) := by decide +kernel
theorem dL_law_1033 : decode cL_law 1033 = .ok (.iload_n 3, 1) := by decide +kernel
theorem dL_law_1034 : decode cL_law 1034 = .ok (.iconst 2, 1) := by decide +kernel
theorem dL_law_1035 : decode cL_law 1035 = .ok (.iadd, 1) := by decide +kernel
theorem dL_law_1036 : decode cL_law 1036 = .ok (.iaload, 1) := by decide +kernel
theorem dL_law_1037 : decode cL_law 1037 = .ok (.invokevirtual 130, 3) := by decide +kernel
theorem dL_law_1040 : decode cL_law 1040 = .ok (.aload_n 2, 1) := by decide +kernel
theorem dL_law_1041 : decode cL_law 1041 = .ok (.aload_n 0, 1) := by decide +kernel
theorem dL_law_1042 : decode cL_law 1042 = .ok (.iload_n 3, 1) := by decide +kernel
theorem dL_law_1043 : decode cL_law 1043 = .ok (.iconst 1, 1) := by decide +kernel
theorem dL_law_1044 : decode cL_law 1044 = .ok (.iadd, 1) := by decide +kernel
theorem dL_law_1045 : decode cL_law 1045 = .ok (.iaload, 1) := by decide +kernel
theorem dL_law_1046 : decode cL_law 1046 = .ok (.aload_n 0, 1) := by decide +kernel
theorem dL_law_1047 : decode cL_law 1047 = .ok (.iload_n 3, 1) := by decide +kernel
theorem dL_law_1048 : decode cL_law 1048 = .ok (.iconst 2, 1) := by decide +kernel
theorem dL_law_1049 : decode cL_law 1049 = .ok (.iadd, 1) := by decide +kernel
theorem dL_law_1050 : decode cL_law 1050 = .ok (.iaload, 1) := by decide +kernel
theorem dL_law_1051 : decode cL_law 1051 = .ok (.invokevirtual 133, 3) := by decide +kernel
theorem dL_law_1054 : decode cL_law 1054 = .ok (.if_icmp .eq 51, 3) := by decide +kernel
theorem dL_law_1057 : decode cL_law 1057 = .ok (.iconst 0, 1) := by decide +kernel
theorem dL_law_1058 : decode cL_law 1058 = .ok (.ireturn, 1) := by decide +kernel
theorem dL_law_1059 : decode cL_law 1059 = .ok (.aload_n 1, 1) := by decide +kernel
theorem dL_law_1060 : decode cL_law 1060 = .ok (.aload_n 0, 1) := by decide +kernel
theorem dL_law_1061 : decode cL_law 1061 = .ok (.iload_n 3, 1) := by decide +kernel
theorem dL_law_1062 : decode cL_law 1062 = .ok (.iconst 1, 1) := by decide +kernel
theorem dL_law_1063 : decode cL_law 1063 = .ok (.iadd, 1) := by decide +kernel
theorem dL_law_1064 : decode cL_law 1064 = .ok (.iaload, 1) := by decide +kernel
theorem dL_law_1065 : decode cL_law 1065 = .ok (.invokevirtual 134, 3) := by decide +kernel
theorem dL_law_1068 : decode cL_law 1068 = .ok (.aload_n 2, 1) := by decide +kernel
theorem dL_law_1069 : decode cL_law 1069 = .ok (.aload_n 0, 1) := by decide +kernel
theorem dL_law_1070 : decode cL_law 1070 = .ok (.iload_n 3, 1) := by decide +kernel
theorem dL_law_1071 : decode cL_law 1071 = .ok (.iconst 1, 1) := by decide +kernel
theorem dL_law_1072 : decode cL_law 1072 = .ok (.iadd, 1) := by decide +kernel
theorem dL_law_1073 : decode cL_law 1073 = .ok (.iaload, 1) := by decide +kernel
theorem dL_law_1074 : decode cL_law 1074 = .ok (.invokevirtual 137, 3) := by decide +kernel
theorem dL_law_1077 : decode cL_law 1077 = .ok (.if_icmp .eq 28, 3) := by decide +kernel
theorem dL_law_1080 : decode cL_law 1080 = .ok (.iconst 0, 1) := by decide +kernel
theorem dL_law_1081 : decode cL_law 1081 = .ok (.ireturn, 1) := by decide +kernel
theorem dL_law_1082 : decode cL_law 1082 = .ok (.aload_n 1, 1) := by decide +kernel
theorem dL_law_1083 : decode cL_law 1083 = .ok (.aload_n 0, 1) := by decide +kernel
theorem dL_law_1084 : decode cL_law 1084 = .ok (.iload_n 3, 1) := by decide +kernel
theorem dL_law_1085 : decode cL_law 1085 = .ok (.iconst 1, 1) := by decide +kernel
theorem dL_law_1086 : decode cL_law 1086 = .ok (.iadd, 1) := by decide +kernel
theorem dL_law_1087 : decode cL_law 1087 = .ok (.iaload, 1) := by decide +kernel
theorem dL_law_1088 : decode cL_law 1088 = .ok (.invokevirtual 138, 3) := by decide +kernel
theorem dL_law_1091 : decode cL_law 1091 = .ok (.aload_n 2, 1) := by decide +kernel
theorem dL_law_1092 : decode cL_law 1092 = .ok (.aload_n 0, 1) := by decide +kernel
theorem dL_law_1093 : decode cL_law 1093 = .ok (.iload_n 3, 1) := by decide +kernel
theorem dL_law_1094 : decode cL_law 1094 = .ok (.iconst 1, 1) := by decide +kernel
theorem dL_law_1095 : decode cL_law 1095 = .ok (.iadd, 1) := by decide +kernel
theorem dL_law_1096 : decode cL_law 1096 = .ok (.iaload, 1) := by decide +kernel
theorem dL_law_1097 : decode cL_law 1097 = .ok (.invokevirtual 141, 3) := by decide +kernel
theorem dL_law_1100 : decode cL_law 1100 = .ok (.if_icmp .eq 5, 3) := by decide +kernel
theorem dL_law_1103 : decode cL_law 1103 = .ok (.iconst 0, 1) := by decide +kernel
theorem dL_law_1104 : decode cL_law 1104 = .ok (.ireturn, 1) := by decide +kernel
theorem dL_law_1105 : decode cL_law 1105 = .ok (.iinc 3 5, 3) := by decide +kernel
theorem dL_law_1108 : decode cL_law 1108 = .ok (.goto (-1090), 3) := by decide +kernel
theorem dL_law_1111 : decode cL_law 1111 = .ok (.iconst 1, 1) := by decide +kernel
theorem dL_law_1112 : decode cL_law 1112 = .ok (.ireturn, 1) := by decide +kernel
end
section
/-! MY MACHINE. A method is walked over an abstract memory: cells by number, their places by whole numbers; numbers are whole numbers, of which the machine holds the rest by 2^32 (2^64). 'Go' is the kit's W with all its context inside; 'Ret' a contract. -/
abbrev AV : Type := Nat ⊕ (Int ⊕ Int)
abbrev aR (k : Nat) : AV := .inl k
abbrev aI (x : Int) : AV := .inr (.inl x)
abbrev aL (x : Int) : AV := .inr (.inr x)
abbrev Mem : Type := Nat → Int → Int
def up (σ : Mem) (k : Nat) (j v : Int) : Mem := fun a b => if a = k ∧ b = j then v else σ a b
def cv (ad : Nat → Nat) : AV → Value
  | .inl k => .ref (ad k)
  | .inr (.inl x) => .int (Int32.ofInt x)
  | .inr (.inr x) => .long (Int64.ofInt x)
abbrev Sh : Type := (Nat × List Nat) ⊕ (Nat × Nat × List Nat)
/-- the cells: objects (class, a kind a field: 0 int, 1 long, r + 2 the cell r), arrays (0 int, 1 long, 2 of rows; places; the rows) -/
def sh : Nat → Sh
  | 0 => .inl (6, [3, 12, 24, 25, 26, 28, 31])
  | 1 => .inl (3, [4, 11])
  | 2 => .inr (2, 6, [3, 4, 5, 6, 7, 8])
  | 3 => .inr (0, 17, [])
  | 4 => .inr (0, 17, [])
  | 5 => .inr (0, 17, [])
  | 6 => .inr (0, 17, [])
  | 7 => .inr (0, 17, [])
  | 8 => .inr (0, 17, [])
  | 9 => .inr (0, 6, [])
  | 10 => .inl (5, [13, 14, 15, 18, 21, 0])
  | 11 => .inr (0, 32, [])
  | 12 => .inr (0, 32, [])
  | 13 => .inr (2, 2, [14, 15])
  | 14 => .inr (0, 32, [])
  | 15 => .inr (0, 32, [])
  | 16 => .inr (2, 2, [17, 18])
  | 17 => .inr (0, 32, [])
  | 18 => .inr (0, 32, [])
  | 19 => .inr (2, 2, [20, 21])
  | 20 => .inr (0, 32, [])
  | 21 => .inr (0, 32, [])
  | 22 => .inr (0, 5, [])
  | 23 => .inl (0, [12, 3, 24, 0, 0, 0, 0, 1, 1])
  | 24 => .inl (2, [12, 25, 27, 0])
  | 25 => .inr (0, 5, [])
  | 26 => .inl (4, [29, 30, 0])
  | 27 => .inr (0, 60, [])
  | 28 => .inr (0, 60, [])
  | 29 => .inl (1, [0, 0, 0, 0])
  | 30 => .inl (7, [0, 33, 34, 35, 36, 37, 38, 39, 40, 0, 0, 0, 0, 0, 41, 0, 42, 0, 0, 0, 0, 0])
  | 31 => .inr (0, 32, [])
  | 32 => .inr (1, 32, [])
  | 33 => .inr (1, 64, [])
  | 34 => .inr (0, 64, [])
  | 35 => .inr (0, 6, [])
  | 36 => .inr (0, 102, [])
  | 37 => .inr (0, 5, [])
  | 38 => .inr (0, 120, [])
  | 39 => .inr (1, 64, [])
  | 40 => .inr (1, 192, [])
  | _ => .inr (0, 0, [])
abbrev classes : List vw_C := [(RX0, TX0, 9), (RX1, TX1, 4), (RX2, TX2, 4), (RX3, TX3, 2), (RX4, TX4, 3), (RX5, TX5, 6), (RX6, TX6, 7), (RX7, TX7, 22)]
def fv (ad : Nat → Nat) (f : Int → Int) (j : Nat) : Nat → Value
  | 0 => .int (Int32.ofInt (f j))
  | 1 => .long (Int64.ofInt (f j))
  | r + 2 => .ref (ad r)
def en (ad : Nat → Nat) (cs : ClassId × ClassId × ClassId) (f : Int → Int) : Sh → va_E
  | .inl (ci, fk) => .inr (ci, (List.range fk.length).map fun j => fv ad f j (fk.getD j 0))
  | .inr (0, n, _) => .inl (cs.1, n, .inl (fun j => Int32.ofInt (f j)))
  | .inr (1, n, _) => .inl (cs.2.1, n, .inr (.inl (fun j => Int64.ofInt (f j))))
  | .inr (_ + 2, n, rs) => .inl (cs.2.2, n, .inr (.inr (.inr (.inr (fun i => if i < n then some (ad (rs.getD i 0)) else none)))))
def wd (ad : Nat → Nat) (cs : ClassId × ClassId × ClassId) (σ : Mem) (K : Nat) : va_W := (List.range K).map fun k => (ad k, en ad cs (σ k) (sh k))
theorem wd_at {ad : Nat → Nat} {cs : ClassId × ClassId × ClassId} {σ : Mem} {K k : Nat} (h : k < K) : (wd ad cs σ K)[k]? = some (ad k, en ad cs (σ k) (sh k)) := by
  simp [wd, List.getElem?_map, List.getElem?_range h]
theorem wd_set {ad : Nat → Nat} {cs : ClassId × ClassId × ClassId} {σ : Mem} {K k : Nat} {j v : Int} {e : va_E} (h : en ad cs (up σ k j v k) (sh k) = e) : (wd ad cs σ K).set k (ad k, e) = wd ad cs (up σ k j v) K := by
  apply List.ext_getElem?
  intro i
  rw [List.getElem?_set]
  by_cases hi : i < K
  · rw [wd_at hi]
    by_cases hk : k = i
    · subst hk
      simp [wd, hi, ← h]
    · rw [if_neg hk, wd_at hi]
      have : up σ k j v i = σ i := by
        funext b
        simp [up, Ne.symm hk]
      rw [this]
  · have h1 : (wd ad cs (up σ k j v) K)[i]? = none := by simp [wd]; omega
    have h2 : (wd ad cs σ K)[i]? = none := by simp [wd]; omega
    rw [h1, h2]
    by_cases hk : k = i
    · subst hk
      simp [wd, hi]
    · rw [if_neg hk]
theorem up_same {σ : Mem} {k : Nat} {j v : Int} : up σ k j v k j = v := by simp [up]
theorem up_cell {σ : Mem} {k a : Nat} {j v : Int} (h : a ≠ k) : up σ k j v a = σ a := by
  funext b
  simp [up, h]
theorem up_ne {σ : Mem} {k a : Nat} {j b v : Int} (h : a ≠ k ∨ b ≠ j) : up σ k j v a b = σ a b := by
  rcases h with h | h <;> simp [up, h]
/-- words on nest mates, which no list of words may hold -/
def nwOK (U : State) : Prop := va_Nw (.fieldLinkNest RX5 37 RX6 "LEANS" "[I" RX6) U ∧ va_Nw (.fieldLinkNest RX5 40 RX6 "FORCES" "[I" RX6) U ∧ va_Nw (.fieldLinkNest RX1 63 RX6 "SINES" "[I" RX6) U ∧ va_Nw (.methodLinkNest RX5 33 ⟨RX6, "lies", "(III)Z"⟩ RX6) U
theorem nwOK.warm {s U : State} (hW : s.WarmedH U.vm) (h : nwOK s) : nwOK U := ⟨h.1.warmF hW, h.2.1.warmF hW, h.2.2.1.warmF hW, h.2.2.2.warmM hW⟩
theorem nwOK.same {u U : State} (hv : u.vm = U.vm) (h : nwOK u) : nwOK U := ⟨h.1.same rfl hv, h.2.1.same rfl hv, h.2.2.1.same rfl hv, h.2.2.2.same rfl hv⟩
abbrev tysOf (cs : ClassId × ClassId × ClassId) : List (ClassId × FieldType) := [(cs.1, .int), (cs.2.1, .long), (cs.2.2, .array .int)]
/-- what is only read: 100 LEANS, 101 FORCES, 102 ALSO, 103 SINES, 104 the script; at k + 100 their lengths -/
def roX (ad : Nat → Nat) (A : Nat → Prop) (σ : Mem) (U : State) (H : Heap) : Prop := ∀ k, 100 ≤ k → k < 105 → ∃ L : Nat, va_X (ad k) L (fun j => Int32.ofInt (σ k j)) U H ∧ (L : Int) = σ (k + 100) 0 ∧ L < 2 ^ 31 ∧ ad k < H.size ∧ ¬ A (ad k)
def stZ (ad : Nat → Nat) (A : Nat → Prop) (U : State) (H : Heap) : Prop := va_Z RX6 "LEANS" "[I" (.ref (ad 100)) A U H ∧ va_Z RX6 "FORCES" "[I" (.ref (ad 101)) A U H ∧ va_Z RX6 "ALSO" "[I" (.ref (ad 102)) A U H ∧ va_Z RX6 "SINES" "[I" (.ref (ad 103)) A U H
def HR (ad : Nat → Nat) (D : va_G) (cs : ClassId × ClassId × ClassId) (A : Nat → Prop) (K : Nat) (σ : Mem) (U : State) (H : Heap) : Prop :=
  va_K D classes (tysOf cs) U ∧ va_P D classes (wd ad cs σ K) H ∧ va_D A (wd ad cs σ K) ∧ roX ad A σ U H ∧ stZ ad A U H
theorem roX.moved {ad : Nat → Nat} {A : Nat → Prop} {σ : Mem} {u U : State} {H : Heap} (hvm : u.vm.Alike U.vm) (h : roX ad A σ u H) : roX ad A σ U H := fun k h1 h2 => by
  obtain ⟨L, a, b, c, d, e⟩ := h k h1 h2
  exact ⟨L, a.moved hvm, b, c, d, e⟩
theorem stZ.moved {ad : Nat → Nat} {A : Nat → Prop} {u U : State} {H : Heap} (hvm : u.vm.Alike U.vm) (h : stZ ad A u H) : stZ ad A U H := ⟨h.1.moved hvm, h.2.1.moved hvm, h.2.2.1.moved hvm, h.2.2.2.moved hvm⟩
theorem HR.moved {ad : Nat → Nat} {D : va_G} {cs : ClassId × ClassId × ClassId} {A : Nat → Prop} {K : Nat} {σ : Mem} {u U : State} {H : Heap} (hvm : u.vm.Alike U.vm) (h : HR ad D cs A K σ u H) : HR ad D cs A K σ U H := ⟨va_K.moved hvm h.1, h.2.1, h.2.2.1, h.2.2.2.1.moved hvm, h.2.2.2.2.moved hvm⟩
/-- behind a write of the cell k at j -/
theorem HR.put {ad : Nat → Nat} {D : va_G} {cs : ClassId × ClassId × ClassId} {A : Nat → Prop} {K k : Nat} {j v : Int} {σ : Mem} {U : State} {H H1 : Heap} {locs1 : List Loc} (h : HR ad D cs A K σ U H) (hk : k < 41) (hP : va_P D classes (wd ad cs (up σ k j v) K) H1) (hD : va_D A (wd ad cs (up σ k j v) K)) (hS : va_S A H H1 locs1) : HR ad D cs A K (up σ k j v) U H1 := by
  refine ⟨h.1, hP, hD, fun q h1 h2 => ?_, ?_⟩
  · obtain ⟨L, a, b, c, d, e⟩ := h.2.2.2.1 q h1 h2
    have e1 : up σ k j v q = σ q := up_cell (by omega)
    have e2 : up σ k j v (q + 100) = σ (q + 100) := up_cell (by omega)
    rw [e1, e2]
    exact ⟨L, a.kept (hS.2.1 _ d e), b, c, Nat.lt_of_lt_of_le d hS.1, e⟩
  · obtain ⟨a, b, c, d⟩ := h.2.2.2.2
    exact ⟨a.kept hS.2.1, b.kept hS.2.1, c.kept hS.2.1, d.kept hS.2.1⟩
theorem va_S.trans {A : Nat → Prop} {H0 H H1 : Heap} {l0 l1 : List Loc} (h : va_S A H0 H l0) (k : va_S A H H1 l1) : va_S A H0 H1 l1 := ⟨Nat.le_trans h.1 k.1, fun q h1 h2 => (k.2.1 q (Nat.lt_of_lt_of_le h1 h.1) h2).trans (h.2.1 q h1 h2), k.2.2⟩
theorem va_S.here {A : Nat → Prop} {H0 H : Heap} {l0 : List Loc} (h : va_S A H0 H l0) : va_S A H H l0 := ⟨Nat.le_refl _, fun _ _ _ => rfl, h.2.2⟩
/-! methods: name, bytes, locals, what it returns, how deep its calls go -/
abbrev Meth : Type := MethodName × ByteArray × Nat × Option FieldType × Nat
abbrev mN (M : Meth) : MethodName := M.1
abbrev mC (M : Meth) : ByteArray := M.2.1
abbrev mX (M : Meth) : Nat := M.2.2.1
abbrev mR (M : Meth) : Option FieldType := M.2.2.2.1
abbrev mD (M : Meth) : Nat := M.2.2.2.2
def TW : List Cond := lw_tbl.filter goodWord
theorem TW_of {w : Cond} (i : Nat) (h : lw_tbl[i]? = some w) (hg : goodWord w = true) : w ∈ TW := List.mem_filter.mpr ⟨List.mem_of_getElem? h, hg⟩
theorem TW_good : ∀ w ∈ TW, (w.onTables && w.keeps) = true ∨ ∃ ty, w = .arrayClass ty := fun w h => good_of_word (List.mem_filter.mp h).2
def wsM (M : Meth) : List Cond := Cond.code (mN M) (mC M) (mX M) (mR M) :: TW
theorem wsM_good {M : Meth} (hc : Cond.code (mN M) (mC M) (mX M) (mR M) ∈ TW) : GoodIn TW (wsM M) := fun w h => by
  rcases List.mem_cons.mp h with h | h
  · subst h
    exact ⟨hc, TW_good _ hc⟩
  · exact ⟨h, TW_good _ h⟩
def rmM (M : Meth) : Room := { frames := mD M, cells := 0, slots := 0, locals := 40 * mD M }
def rOK : Option FieldType → Option AV → Prop
  | none, none => True
  | some .int, some (.inr (.inl _)) => True
  | some .boolean, some (.inr (.inl x)) => x = 0 ∨ x = 1
  | some .long, some (.inr (.inr _)) => True
  | _, _ => False
def rI : Option AV → Instr
  | none => .return_
  | some (.inr (.inr _)) => .lreturn
  | some _ => .ireturn
def LR (ad : Nat → Nat) (nL : Nat) (ls : List (Option AV)) (lsC : Array Slot) : Prop := lsC.size = nL ∧ lv_wf lsC ∧ ∀ (i : Nat) (v : AV), ls[i]? = some (some v) → lsC[i]? = some (.val (cv ad v))
def Cx (M : Meth) (R : Room) (p : Program) (s : State) (m : MethodId) (args : Array Value) (c : Code) (cells slots : Nat) : Prop :=
  p.tables.exec = Jvm.exec ∧ c.code = mC M ∧ c.maxLocals = mX M ∧ s.vm.findClass (mN M).cls = some m.cls ∧ (∀ w ∈ TW, w.before args s = true) ∧ (mD M ≤ R.frames ∧ 40 * mD M ≤ R.locals ∧ cells ≤ R.cells ∧ slots ≤ R.slots) ∧ nwOK s
def Go (K : Nat) (M : Meth) (pc : Nat) (ls : List (Option AV)) (st : List AV) (σ : Mem) (Q : Option AV → Mem → Prop) : Prop :=
  ∀ (ad : Nat → Nat) (D : va_G) (cs : ClassId × ClassId × ClassId) (A : Nat → Prop) (p : Program) (l : Launch) (e : Env) (R : Room) (s : State) (m : MethodId) (args : Array Value) (below : List Frame) (meth : Method) (c : Code) (cells slots : Nat) (Z : State → Prop),
    Cx M R p s m args c cells slots →
    (∀ (r : Option AV) (τ : Mem) (H : Heap) (locs : List Loc) (lsC : Array Slot) (pc' : Nat), Q r τ → rOK (mR M) r → decode (mC M) pc' = .ok (rI r, 1) → HR ad D cs A K τ s H → va_S A s.heap H locs → W p l e R s m args below meth c H locs cells slots Z (F0 m pc' lsC (r.toList.map (cv ad)))) →
    ∀ (H : Heap) (locs : List Loc) (lsC : Array Slot), HR ad D cs A K σ s H → va_S A s.heap H locs → LR ad (mX M) ls lsC → W p l e R s m args below meth c H locs cells slots Z (F0 m pc lsC (st.map (cv ad)))
def PcM (ad : Nat → Nat) (D : va_G) (cs : ClassId × ClassId × ClassId) (A : Nat → Prop) (K : Nat) (as : List AV) (σ : Mem) : Array Value → State → Prop := fun v U => v = (as.map (cv ad)).toArray ∧ HR ad D cs A K σ U U.heap ∧ nwOK U
def QcM (ad : Nat → Nat) (D : va_G) (cs : ClassId × ClassId × ClassId) (A : Nat → Prop) (K : Nat) (Q : Option AV → Mem → Prop) : Array Value → State → Outcome → State → Prop := fun _ st o t => (∃ (r : Option AV) (τ : Mem), Q r τ ∧ o = .returned (r.map (cv ad)) ∧ HR ad D cs A K τ t t.heap) ∧ va_F A st t
def Ret (K : Nat) (M : Meth) (as : List AV) (σ : Mem) (Q : Option AV → Mem → Prop) : Prop :=
  ∀ (l : Launch) (ad : Nat → Nat) (D : va_G) (cs : ClassId × ClassId × ClassId) (A : Nat → Prop), Met l (mN M) (wsM M) (rmM M) (PcM ad D cs A K as σ) (QcM ad D cs A K Q) 0 0 A
abbrev RetV (K : Nat) (M : Meth) (as : List AV) (σ : Mem) (v : AV) : Prop := Ret K M as σ (fun r τ => r = some v ∧ τ = σ)
theorem PcM_blind (ad : Nat → Nat) (D : va_G) (cs : ClassId × ClassId × ClassId) (A : Nat → Prop) (K : Nat) (as : List AV) (σ : Mem) : FrameBlind (PcM ad D cs A K as σ) := fun a U g mk h => ⟨h.1, HR.moved (u := U) (U := U.calling g mk a) (Vm.Alike.refl U.vm) h.2.1, nwOK.same (u := U) (U := U.calling g mk a) rfl h.2.2⟩
/-! entry -/
def entl : List AV → List (Option AV)
  | [] => []
  | .inr (.inr x) :: as => some (aL x) :: none :: entl as
  | a :: as => some a :: entl as
def ent (as : List AV) (n : Nat) : List (Option AV) := entl as ++ List.replicate (n - (entl as).length) none
theorem entl_len (ad : Nat → Nat) : ∀ as : List AV, (lg_sl (as.map (cv ad))).length = (entl as).length
  | [] => rfl
  | .inl k :: as => by
    have h := entl_len ad as
    show (lg_sl (.ref (ad k) :: as.map (cv ad))).length = (entl as).length + 1
    rw [← h]
    simp [lg_sl, Value.category]
  | .inr (.inl k) :: as => by
    have h := entl_len ad as
    show (lg_sl (.int (Int32.ofInt k) :: as.map (cv ad))).length = (entl as).length + 1
    rw [← h]
    simp [lg_sl, Value.category]
  | .inr (.inr k) :: as => by
    have h := entl_len ad as
    show (lg_sl (.long (Int64.ofInt k) :: as.map (cv ad))).length = (entl as).length + 1 + 1
    rw [← h]
    simp [lg_sl, Value.category]
theorem entl_mem (ad : Nat → Nat) : ∀ (as : List AV) (i j : Nat) (v : AV), (entl as)[j]? = some (some v) → (i + j, cv ad v) ∈ lv_args i (as.map (cv ad))
  | [], i, j, v, h => by simp [entl] at h
  | .inl k :: as, i, j, v, h => by
    cases j with
    | zero => simp [entl] at h; subst h; simp [lv_args]
    | succ j =>
      have h : (entl as)[j]? = some (some v) := h
      have := entl_mem ad as (i + 1) j v h
      rw [show i + (j + 1) = i + 1 + j by omega]
      exact List.mem_cons_of_mem _ this
  | .inr (.inl k) :: as, i, j, v, h => by
    cases j with
    | zero => simp [entl] at h; subst h; simp [lv_args]
    | succ j =>
      have h : (entl as)[j]? = some (some v) := h
      have := entl_mem ad as (i + 1) j v h
      rw [show i + (j + 1) = i + 1 + j by omega]
      exact List.mem_cons_of_mem _ this
  | .inr (.inr k) :: as, i, j, v, h => by
    cases j with
    | zero => simp [entl] at h; subst h; simp [lv_args]
    | succ j =>
      cases j with
      | zero => simp [entl] at h
      | succ j =>
        have h : (entl as)[j]? = some (some v) := h
        have := entl_mem ad as (i + 2) j v h
        rw [show i + (j + 1 + 1) = i + 2 + j by omega]
        exact List.mem_cons_of_mem _ this
theorem ent_LR {ad : Nat → Nat} {as : List AV} {n : Nat} {lsC : Array Slot} (h : lv_has lsC n (lv_args 0 (as.map (cv ad)))) : LR ad n (ent as n) lsC := by
  refine ⟨h.1, h.2.1, fun i v hi => ?_⟩
  by_cases hl : i < (entl as).length
  · have h1 : (entl as)[i]? = some (some v) := by
      unfold ent at hi
      rwa [List.getElem?_append_left hl] at hi
    have := entl_mem ad as 0 i v h1
    rw [Nat.zero_add] at this
    exact h.2.2 _ this
  · unfold ent at hi
    rw [List.getElem?_append_right (by omega), List.getElem?_replicate] at hi
    split at hi <;> simp at hi
theorem Met.ofWF {l : Launch} {y : MethodName} {ws ws' : List Cond} {rm : Room} {Pc : Array Value → State → Prop} {Qc : Array Value → State → Outcome → State → Prop} {mc ms : Nat} {free : Addr → Prop} {cc : ByteArray} {maxL : Nat} {ret : Option FieldType}
    (hy : plainFor y = true) (hw : ws = Cond.code y cc maxL ret :: ws')
    (body : ∀ p e s m args below meth c s₁, BodyLoose p l y (headSpec ws rm) cc maxL ret e s m args below meth c s₁ → c.maxLocals = maxL → Pc args s →
      W p l e (headSpec ws rm).room s m args below meth c s.heap [] 0 0 (MQ below Qc args s mc ms free) (entryFrame m args maxL)) : Met l y ws rm Pc Qc mc ms free := by
  refine MetFree.of_bodySF (code := cc) (maxLocals := maxL) (ret := ret) hy ?_ ?_
  · intro args s m h hn
    obtain ⟨meth, c, h1, h2, h3, h4, h5, h6, -, -⟩ := Cond.code_spec hn (atoms_spec (ws := ws) h _ (by rw [hw]; exact List.mem_cons_self))
    exact ⟨meth, c, h1, h2, h3, h4, h5, h6⟩
  · intro p e s m args below meth c s₁ B hml hP _
    have hh0 : s₁.heap = s.heap := by rw [B.state]; rfl
    obtain ⟨t, a1, o, b1, b2, b3⟩ := body p e s m args below meth c s₁ B hml hP s₁ hh0 (Stand.of_body B)
    exact ⟨t, o, a1, b1, b2, ⟨b3.1, b3.2⟩⟩
theorem Ret.of {K : Nat} {M : Meth} {as : List AV} {σ : Mem} {Q : Option AV → Mem → Prop} (ls : List (Option AV)) (hls : ent as (mX M) = ls) (hy : plainFor (mN M) = true) (hlen : (entl as).length ≤ mX M) (h : Go K M 0 ls [] σ Q) : Ret K M as σ Q := by
  intro l ad D cs A
  refine Met.ofWF (cc := mC M) (maxL := mX M) (ret := mR M) (ws' := TW) hy rfl ?_
  intro p e s m args below meth c s₁ B hml hv
  obtain ⟨rfl, hH, hN⟩ := hv
  have hts0 := atoms_spec (ws := wsM M) B.pre
  have hts : ∀ w ∈ TW, w.before (as.map (cv ad)).toArray s = true := fun w hw => hts0 w (List.mem_cons_of_mem _ hw)
  have hown : s.vm.findClass (mN M).cls = some m.cls := findClass_of_methodNamed B.named
  have hlocks := B.notSynchronized
  have hr := B.returns
  have hx := B.exec
  have hb := B.bytes
  rw [lg_entry_eq]
  have hl := lv_entry (as.map (cv ad)) (n := mX M) (by rw [entl_len]; exact hlen)
  refine h ad D cs A p l e _ s m _ below meth c 0 0 _ ⟨hx, hb, hml, hown, hts, ⟨Nat.le_refl _, Nat.le_refl _, Nat.zero_le _, Nat.zero_le _⟩, hN⟩ ?_ s.heap [] _ hH va_S.rf (by rw [← hls]; exact ent_LR hl)
  intro r τ H locs lsC pc' hq hok hd hH' hS
  have hQ : ∀ t : State, t.heap = H → s.WarmedH t.vm → QcM ad D cs A K Q (as.map (cv ad)).toArray s (.returned (r.map (cv ad))) t := fun t ht hW => ⟨⟨r, τ, hq, rfl, by rw [ht]; exact HR.moved hW.alike hH'⟩, hS.F ht⟩
  have hf : ∀ q ∈ locs, A q.base := hS.2.2
  match r, hok, hd, hQ with
  | none, hok, hd, hQ =>
    have hn : mR M = none := by
      revert hok
      cases mR M with
      | none => intro _; rfl
      | some t => cases t <;> exact fun h => h.elim
    exact W.vret hx hb (hr.trans hn) hQ hf hd hlocks
  | some (.inr (.inr x)), hok, hd, hQ =>
    have hn : mR M = some .long := by
      revert hok
      cases mR M with
      | none => exact fun h => h.elim
      | some t => cases t <;> first | exact fun h => h.elim | exact fun _ => rfl
    exact W.lret hx hb (hr.trans hn) hQ hf hd hlocks
  | some (.inl x), hok, hd, hQ =>
    exfalso
    revert hok
    cases mR M with
    | none => exact fun h => h.elim
    | some t => cases t <;> exact fun h => h.elim
  | some (.inr (.inl x)), hok, hd, hQ =>
    have hn : mR M = some .int ∨ (mR M = some .boolean ∧ (x = 0 ∨ x = 1)) := by
      revert hok
      cases mR M with
      | none => exact fun h => h.elim
      | some t => cases t <;> first | exact fun h => h.elim | exact fun _ => Or.inl rfl | exact fun h => Or.inr ⟨rfl, h⟩
    rcases hn with hn | ⟨hn, hx0⟩
    · exact W.zret hx hb (hr.trans hn) (vp_nar_int _) hQ hf hd hlocks
    · refine W.zret hx hb (hr.trans hn) ?_ hQ hf hd hlocks
      rcases hx0 with rfl | rfl <;> rfl
theorem g_iconst {K : Nat} {M : Meth} {pc : Nat} {ls : List (Option AV)} {st : List AV} {σ : Mem} {Q : Option AV → Mem → Prop} {n : Int} (hd : decode (mC M) pc = .ok (.iconst n, 1)) (k : Go K M (pc + 1) ls (aI n :: st) σ Q) : Go K M pc ls st σ Q := by
  intro ad D cs A p l e R s m args below meth c cells slots Z C hret H locs lsC hH hS hL
  exact lv_iconst C.1 C.2.1 hd rfl (k ad D cs A p l e R s m args below meth c cells slots Z C hret H locs lsC hH hS hL)
theorem g_bipush {K : Nat} {M : Meth} {pc : Nat} {ls : List (Option AV)} {st : List AV} {σ : Mem} {Q : Option AV → Mem → Prop} {n v : Int} (hd : decode (mC M) pc = .ok (.bipush n, 2)) (hv : (Int8.ofInt n).toInt32 = Int32.ofInt v) (k : Go K M (pc + 2) ls (aI v :: st) σ Q) : Go K M pc ls st σ Q := by
  intro ad D cs A p l e R s m args below meth c cells slots Z C hret H locs lsC hH hS hL
  exact lv_bipush C.1 C.2.1 hd hv (k ad D cs A p l e R s m args below meth c cells slots Z C hret H locs lsC hH hS hL)
theorem g_sipush {K : Nat} {M : Meth} {pc : Nat} {ls : List (Option AV)} {st : List AV} {σ : Mem} {Q : Option AV → Mem → Prop} {n v : Int} (hd : decode (mC M) pc = .ok (.sipush n, 3)) (hv : (Int16.ofInt n).toInt32 = Int32.ofInt v) (k : Go K M (pc + 3) ls (aI v :: st) σ Q) : Go K M pc ls st σ Q := by
  intro ad D cs A p l e R s m args below meth c cells slots Z C hret H locs lsC hH hS hL
  exact lv_sipush C.1 C.2.1 hd hv (k ad D cs A p l e R s m args below meth c cells slots Z C hret H locs lsC hH hS hL)
theorem g_lconst {K : Nat} {M : Meth} {pc : Nat} {ls : List (Option AV)} {st : List AV} {σ : Mem} {Q : Option AV → Mem → Prop} {n : Fin 2} {v : Int} (hd : decode (mC M) pc = .ok (.lconst n, 1)) (hv : Int64.ofNat (n : Nat) = Int64.ofInt v) (k : Go K M (pc + 1) ls (aL v :: st) σ Q) : Go K M pc ls st σ Q := by
  intro ad D cs A p l e R s m args below meth c cells slots Z C hret H locs lsC hH hS hL
  exact lv_lconst C.1 C.2.1 hd hv (k ad D cs A p l e R s m args below meth c cells slots Z C hret H locs lsC hH hS hL)
theorem g_ldc {K : Nat} {M : Meth} {pc : Nat} {ls : List (Option AV)} {st : List AV} {σ : Mem} {Q : Option AV → Mem → Prop} {idx : Nat} {v : Int} (hd : decode (mC M) pc = .ok (.ldc idx, 2)) (hw : Cond.constant (mN M).cls idx (Int32.ofInt v) ∈ TW) (k : Go K M (pc + 2) ls (aI v :: st) σ Q) : Go K M pc ls st σ Q := by
  intro ad D cs A p l e R s m args below meth c cells slots Z C hret H locs lsC hH hS hL
  exact lv_ldc C.1 C.2.1 C.2.2.2.1 (C.2.2.2.2.1 _ hw) hd (k ad D cs A p l e R s m args below meth c cells slots Z C hret H locs lsC hH hS hL)
theorem g_ldcw {K : Nat} {M : Meth} {pc : Nat} {ls : List (Option AV)} {st : List AV} {σ : Mem} {Q : Option AV → Mem → Prop} {idx : Nat} {v : Int} (hd : decode (mC M) pc = .ok (.ldc_w idx, 3)) (hw : Cond.constant (mN M).cls idx (Int32.ofInt v) ∈ TW) (k : Go K M (pc + 3) ls (aI v :: st) σ Q) : Go K M pc ls st σ Q := by
  intro ad D cs A p l e R s m args below meth c cells slots Z C hret H locs lsC hH hS hL
  exact lv_ldcw C.1 C.2.1 C.2.2.2.1 (C.2.2.2.2.1 _ hw) hd (k ad D cs A p l e R s m args below meth c cells slots Z C hret H locs lsC hH hS hL)
theorem g_ldc2 {K : Nat} {M : Meth} {pc : Nat} {ls : List (Option AV)} {st : List AV} {σ : Mem} {Q : Option AV → Mem → Prop} {idx : Nat} {v : Int} (hd : decode (mC M) pc = .ok (.ldc2_w idx, 3)) (hw : Cond.constantLong (mN M).cls idx (Int64.ofInt v) ∈ TW) (k : Go K M (pc + 3) ls (aL v :: st) σ Q) : Go K M pc ls st σ Q := by
  intro ad D cs A p l e R s m args below meth c cells slots Z C hret H locs lsC hH hS hL
  exact lv_ldc2 C.1 C.2.1 C.2.2.2.1 (C.2.2.2.2.1 _ hw) hd (k ad D cs A p l e R s m args below meth c cells slots Z C hret H locs lsC hH hS hL)
theorem g_iload_n {K : Nat} {M : Meth} {pc : Nat} {ls : List (Option AV)} {st : List AV} {σ : Mem} {Q : Option AV → Mem → Prop} {i : Fin 4} {x : Int} (hd : decode (mC M) pc = .ok (.iload_n i, 1)) (hx : ls[(i : Nat)]? = some (some (aI x))) (k : Go K M (pc + 1) ls (aI x :: st) σ Q) : Go K M pc ls st σ Q := by
  intro ad D cs A p l e R s m args below meth c cells slots Z C hret H locs lsC hH hS hL
  exact lv_iload_n C.1 C.2.1 hd rfl (hL.2.2 _ _ hx) (k ad D cs A p l e R s m args below meth c cells slots Z C hret H locs lsC hH hS hL)
theorem g_iload {K : Nat} {M : Meth} {pc : Nat} {ls : List (Option AV)} {st : List AV} {σ : Mem} {Q : Option AV → Mem → Prop} {i : Nat} {x : Int} (hd : decode (mC M) pc = .ok (.iload i, 2)) (hx : ls[i]? = some (some (aI x))) (k : Go K M (pc + 2) ls (aI x :: st) σ Q) : Go K M pc ls st σ Q := by
  intro ad D cs A p l e R s m args below meth c cells slots Z C hret H locs lsC hH hS hL
  exact lv_iload C.1 C.2.1 hd (hL.2.2 _ _ hx) (k ad D cs A p l e R s m args below meth c cells slots Z C hret H locs lsC hH hS hL)
theorem g_lload_n {K : Nat} {M : Meth} {pc : Nat} {ls : List (Option AV)} {st : List AV} {σ : Mem} {Q : Option AV → Mem → Prop} {i : Fin 4} {x : Int} (hd : decode (mC M) pc = .ok (.lload_n i, 1)) (hx : ls[(i : Nat)]? = some (some (aL x))) (k : Go K M (pc + 1) ls (aL x :: st) σ Q) : Go K M pc ls st σ Q := by
  intro ad D cs A p l e R s m args below meth c cells slots Z C hret H locs lsC hH hS hL
  exact lv_lload_n C.1 C.2.1 hd rfl (hL.2.2 _ _ hx) (k ad D cs A p l e R s m args below meth c cells slots Z C hret H locs lsC hH hS hL)
theorem g_lload {K : Nat} {M : Meth} {pc : Nat} {ls : List (Option AV)} {st : List AV} {σ : Mem} {Q : Option AV → Mem → Prop} {i : Nat} {x : Int} (hd : decode (mC M) pc = .ok (.lload i, 2)) (hx : ls[i]? = some (some (aL x))) (k : Go K M (pc + 2) ls (aL x :: st) σ Q) : Go K M pc ls st σ Q := by
  intro ad D cs A p l e R s m args below meth c cells slots Z C hret H locs lsC hH hS hL
  exact lv_lload C.1 C.2.1 hd (hL.2.2 _ _ hx) (k ad D cs A p l e R s m args below meth c cells slots Z C hret H locs lsC hH hS hL)
theorem g_aload_n {K : Nat} {M : Meth} {pc : Nat} {ls : List (Option AV)} {st : List AV} {σ : Mem} {Q : Option AV → Mem → Prop} {i : Fin 4} {x : Nat} (hd : decode (mC M) pc = .ok (.aload_n i, 1)) (hx : ls[(i : Nat)]? = some (some (aR x))) (k : Go K M (pc + 1) ls (aR x :: st) σ Q) : Go K M pc ls st σ Q := by
  intro ad D cs A p l e R s m args below meth c cells slots Z C hret H locs lsC hH hS hL
  exact lv_aload_n C.1 C.2.1 hd rfl (hL.2.2 _ _ hx) (k ad D cs A p l e R s m args below meth c cells slots Z C hret H locs lsC hH hS hL)
theorem g_aload {K : Nat} {M : Meth} {pc : Nat} {ls : List (Option AV)} {st : List AV} {σ : Mem} {Q : Option AV → Mem → Prop} {i : Nat} {x : Nat} (hd : decode (mC M) pc = .ok (.aload i, 2)) (hx : ls[i]? = some (some (aR x))) (k : Go K M (pc + 2) ls (aR x :: st) σ Q) : Go K M pc ls st σ Q := by
  intro ad D cs A p l e R s m args below meth c cells slots Z C hret H locs lsC hH hS hL
  exact lv_aload C.1 C.2.1 hd (hL.2.2 _ _ hx) (k ad D cs A p l e R s m args below meth c cells slots Z C hret H locs lsC hH hS hL)
/-- the locals behind a store of one place, of two -/
def st1 (ls : List (Option AV)) (v : AV) : Nat → List (Option AV)
  | 0 => ls.set 0 (some v)
  | j + 1 => (match ls[j]? with
    | some (some (.inr (.inr _))) => ls.set j none
    | _ => ls).set (j + 1) (some v)
def st2 (ls : List (Option AV)) (v : AV) (i : Nat) : List (Option AV) := (st1 ls v i).set (i + 1) none
def lpr (ad : Nat → Nat) (ls : List (Option AV)) : List (Nat × Value) := (List.range ls.length).filterMap fun i => match ls[i]? with
  | some (some v) => some (i, cv ad v)
  | _ => none
theorem lpr_mem {ad : Nat → Nat} {ls : List (Option AV)} {i : Nat} {v : AV} (h : ls[i]? = some (some v)) : (i, cv ad v) ∈ lpr ad ls := by
  refine List.mem_filterMap.mpr ⟨i, List.mem_range.mpr (List.getElem?_eq_some_iff.mp h).1, ?_⟩
  simp [h]
theorem LR.has {ad : Nat → Nat} {n : Nat} {ls : List (Option AV)} {lsC : Array Slot} (h : LR ad n ls lsC) : lv_has lsC n (lpr ad ls) := by
  refine ⟨h.1, h.2.1, fun q hq => ?_⟩
  obtain ⟨i, -, hi⟩ := List.mem_filterMap.mp hq
  cases hl : ls[i]? with
  | none => simp [hl] at hi
  | some o =>
    cases o with
    | none => simp [hl] at hi
    | some v =>
      simp only [hl, Option.some.injEq] at hi
      rw [← hi]
      exact h.2.2 i v hl
theorem cv_cat (ad : Nat → Nat) (v : AV) : (cv ad v).category = 2 ↔ ∃ x, v = aL x := by
  match v with
  | .inl k => simp [cv, Value.category]
  | .inr (.inl k) => simp [cv, Value.category]
  | .inr (.inr k) => simp [cv, Value.category]
theorem st1_get {ls : List (Option AV)} {v w : AV} {i j : Nat} (h : (st1 ls v i)[j]? = some (some w)) : (j = i ∧ w = v) ∨ (j ≠ i ∧ ls[j]? = some (some w) ∧ ¬ (j + 1 = i ∧ ∃ x, w = aL x)) := by
  cases i with
  | zero =>
    simp only [st1, List.getElem?_set] at h
    by_cases hj : 0 = j
    · subst hj
      by_cases h0 : 0 < ls.length
      · rw [if_pos rfl, if_pos h0] at h
        exact Or.inl ⟨rfl, by simpa using h.symm⟩
      · rw [if_pos rfl, if_neg h0] at h
        cases h
    · rw [if_neg hj] at h
      exact Or.inr ⟨Ne.symm hj, h, by omega⟩
  | succ i =>
    simp only [st1, List.getElem?_set] at h
    by_cases hj : i + 1 = j
    · subst hj
      rw [if_pos rfl] at h
      refine Or.inl ⟨rfl, ?_⟩
      split at h
      · split at h
        · simpa using h.symm
        · simp at h
      · split at h
        · simpa using h.symm
        · simp at h
    · rw [if_neg hj] at h
      refine Or.inr ⟨Ne.symm hj, ?_⟩
      split at h
      next x hx =>
        rw [List.getElem?_set] at h
        by_cases hij : i = j
        · rw [if_pos hij] at h
          split at h <;> simp at h
        · rw [if_neg hij] at h
          exact ⟨h, by omega⟩
      next hx =>
        refine ⟨h, fun ⟨h1, x, h2⟩ => ?_⟩
        have : j = i := by omega
        subst this
        rw [h2] at h
        exact hx x h
theorem st1_LR {ad : Nat → Nat} {n : Nat} {ls : List (Option AV)} {lsC lsC' : Array Slot} {i : Nat} {v : AV} (h' : lv_has lsC' n ((i, cv ad v) :: (lpr ad ls).filter (fun q => !(q.1 == i) && !(q.1 + 1 == i && q.2.category == 2)))) : LR ad n (st1 ls v i) lsC' := by
  refine ⟨h'.1, h'.2.1, fun j w hw => ?_⟩
  rcases st1_get hw with ⟨rfl, rfl⟩ | ⟨h1, h2, h3⟩
  · exact h'.2.2 (j, cv ad w) List.mem_cons_self
  · refine h'.2.2 (j, cv ad w) (List.mem_cons_of_mem _ (List.mem_filter.mpr ⟨lpr_mem h2, ?_⟩))
    simp only [Bool.and_eq_true, Bool.not_eq_true', beq_eq_false_iff_ne, Bool.and_eq_false_iff, ne_eq]
    refine ⟨h1, ?_⟩
    by_cases hj : j + 1 = i
    · right
      exact fun hc => h3 ⟨hj, (cv_cat ad w).mp hc⟩
    · left
      exact hj
theorem st2_LR {ad : Nat → Nat} {n : Nat} {ls : List (Option AV)} {lsC lsC' : Array Slot} {i : Nat} {v : AV} (h' : lv_has lsC' n ((i, cv ad v) :: (lpr ad ls).filter (fun q => !(q.1 == i) && (!(q.1 == i + 1) && !(q.1 + 1 == i && q.2.category == 2))))) : LR ad n (st2 ls v i) lsC' := by
  refine ⟨h'.1, h'.2.1, fun j w hw => ?_⟩
  unfold st2 at hw
  rw [List.getElem?_set] at hw
  by_cases hj : i + 1 = j
  · rw [if_pos hj] at hw
    split at hw <;> simp at hw
  · rw [if_neg hj] at hw
    rcases st1_get hw with ⟨rfl, rfl⟩ | ⟨h1, h2, h3⟩
    · exact h'.2.2 (j, cv ad w) List.mem_cons_self
    · refine h'.2.2 (j, cv ad w) (List.mem_cons_of_mem _ (List.mem_filter.mpr ⟨lpr_mem h2, ?_⟩))
      simp only [Bool.and_eq_true, Bool.not_eq_true', beq_eq_false_iff_ne, Bool.and_eq_false_iff, ne_eq]
      refine ⟨h1, fun h => hj h.symm, ?_⟩
      by_cases hj2 : j + 1 = i
      · right
        exact fun hc => h3 ⟨hj2, (cv_cat ad w).mp hc⟩
      · left
        exact hj2
theorem g_istore_n {K : Nat} {M : Meth} {pc : Nat} {ls : List (Option AV)} {st : List AV} {σ : Mem} {Q : Option AV → Mem → Prop} {f : Fin 4} {i : Nat} {x : Int} (hd : decode (mC M) pc = .ok (.istore_n f, 1)) (hi : (f : Nat) = i) (hn : i < mX M) (k : Go K M (pc + 1) (st1 ls (aI x) i) st σ Q) : Go K M pc ls (aI x :: st) σ Q := by
  intro ad D cs A p l e R s m args below meth c cells slots Z C hret H locs lsC hH hS hL
  exact lv_istore_n C.1 C.2.1 hd hi hL.has hn rfl (fun lsC' hl' => k ad D cs A p l e R s m args below meth c cells slots Z C hret H locs lsC' hH hS (st1_LR (lsC := lsC) (v := aI x) hl'))
theorem g_istore {K : Nat} {M : Meth} {pc : Nat} {ls : List (Option AV)} {st : List AV} {σ : Mem} {Q : Option AV → Mem → Prop} {i : Nat} {x : Int} (hd : decode (mC M) pc = .ok (.istore i, 2)) (hn : i < mX M) (k : Go K M (pc + 2) (st1 ls (aI x) i) st σ Q) : Go K M pc ls (aI x :: st) σ Q := by
  intro ad D cs A p l e R s m args below meth c cells slots Z C hret H locs lsC hH hS hL
  exact lv_istore C.1 C.2.1 hd hL.has hn rfl (fun lsC' hl' => k ad D cs A p l e R s m args below meth c cells slots Z C hret H locs lsC' hH hS (st1_LR (lsC := lsC) (v := aI x) hl'))
theorem g_lstore_n {K : Nat} {M : Meth} {pc : Nat} {ls : List (Option AV)} {st : List AV} {σ : Mem} {Q : Option AV → Mem → Prop} {f : Fin 4} {i : Nat} {x : Int} (hd : decode (mC M) pc = .ok (.lstore_n f, 1)) (hi : (f : Nat) = i) (hn : i + 1 < mX M) (k : Go K M (pc + 1) (st2 ls (aL x) i) st σ Q) : Go K M pc ls (aL x :: st) σ Q := by
  intro ad D cs A p l e R s m args below meth c cells slots Z C hret H locs lsC hH hS hL
  exact lv_lstore_n C.1 C.2.1 hd hi hL.has hn rfl (fun lsC' hl' => k ad D cs A p l e R s m args below meth c cells slots Z C hret H locs lsC' hH hS (st2_LR (lsC := lsC) (v := aL x) hl'))
theorem g_lstore {K : Nat} {M : Meth} {pc : Nat} {ls : List (Option AV)} {st : List AV} {σ : Mem} {Q : Option AV → Mem → Prop} {i : Nat} {x : Int} (hd : decode (mC M) pc = .ok (.lstore i, 2)) (hn : i + 1 < mX M) (k : Go K M (pc + 2) (st2 ls (aL x) i) st σ Q) : Go K M pc ls (aL x :: st) σ Q := by
  intro ad D cs A p l e R s m args below meth c cells slots Z C hret H locs lsC hH hS hL
  exact lv_lstore C.1 C.2.1 hd hL.has hn rfl (fun lsC' hl' => k ad D cs A p l e R s m args below meth c cells slots Z C hret H locs lsC' hH hS (st2_LR (lsC := lsC) (v := aL x) hl'))
theorem g_astore_n {K : Nat} {M : Meth} {pc : Nat} {ls : List (Option AV)} {st : List AV} {σ : Mem} {Q : Option AV → Mem → Prop} {f : Fin 4} {i : Nat} {x : Nat} (hd : decode (mC M) pc = .ok (.astore_n f, 1)) (hi : (f : Nat) = i) (hn : i < mX M) (k : Go K M (pc + 1) (st1 ls (aR x) i) st σ Q) : Go K M pc ls (aR x :: st) σ Q := by
  intro ad D cs A p l e R s m args below meth c cells slots Z C hret H locs lsC hH hS hL
  exact lv_astore_n C.1 C.2.1 hd hi hL.has hn rfl (fun lsC' hl' => k ad D cs A p l e R s m args below meth c cells slots Z C hret H locs lsC' hH hS (st1_LR (lsC := lsC) (v := aR x) hl'))
theorem g_astore {K : Nat} {M : Meth} {pc : Nat} {ls : List (Option AV)} {st : List AV} {σ : Mem} {Q : Option AV → Mem → Prop} {i : Nat} {x : Nat} (hd : decode (mC M) pc = .ok (.astore i, 2)) (hn : i < mX M) (k : Go K M (pc + 2) (st1 ls (aR x) i) st σ Q) : Go K M pc ls (aR x :: st) σ Q := by
  intro ad D cs A p l e R s m args below meth c cells slots Z C hret H locs lsC hH hS hL
  exact lv_astore C.1 C.2.1 hd hL.has hn rfl (fun lsC' hl' => k ad D cs A p l e R s m args below meth c cells slots Z C hret H locs lsC' hH hS (st1_LR (lsC := lsC) (v := aR x) hl'))
theorem g_iinc {K : Nat} {M : Meth} {pc : Nat} {ls : List (Option AV)} {st : List AV} {σ : Mem} {Q : Option AV → Mem → Prop} {i : Nat} {n x : Int} (hd : decode (mC M) pc = .ok (.iinc i n, 3)) (hx : ls[i]? = some (some (aI x))) (hn : i < mX M) (k : Go K M (pc + 3) (st1 ls (aI (x + n)) i) st σ Q) : Go K M pc ls st σ Q := by
  intro ad D cs A p l e R s m args below meth c cells slots Z C hret H locs lsC hH hS hL
  obtain ⟨q, hq⟩ := List.getElem?_of_mem (lpr_mem (ad := ad) hx)
  exact lv_iinc C.1 C.2.1 hd hL.has hq (by rw [Int32.ofInt_add]) hn rfl (fun lsC' hl' => k ad D cs A p l e R s m args below meth c cells slots Z C hret H locs lsC' hH hS (st1_LR (lsC := lsC) (v := aI (x + n)) hl'))
theorem g_iadd {K : Nat} {M : Meth} {pc : Nat} {ls : List (Option AV)} {st : List AV} {σ : Mem} {Q : Option AV → Mem → Prop} {x y : Int} (hd : decode (mC M) pc = .ok (.iadd, 1)) (k : Go K M (pc + 1) ls (aI (x + y) :: st) σ Q) : Go K M pc ls (aI y :: aI x :: st) σ Q := by
  intro ad D cs A p l e R s m args below meth c cells slots Z C hret H locs lsC hH hS hL
  refine lv_iadd C.1 C.2.1 hd ?_
  rw [← Int32.ofInt_add]
  exact k ad D cs A p l e R s m args below meth c cells slots Z C hret H locs lsC hH hS hL
theorem g_ladd {K : Nat} {M : Meth} {pc : Nat} {ls : List (Option AV)} {st : List AV} {σ : Mem} {Q : Option AV → Mem → Prop} {x y : Int} (hd : decode (mC M) pc = .ok (.ladd, 1)) (k : Go K M (pc + 1) ls (aL (x + y) :: st) σ Q) : Go K M pc ls (aL y :: aL x :: st) σ Q := by
  intro ad D cs A p l e R s m args below meth c cells slots Z C hret H locs lsC hH hS hL
  refine lv_ladd C.1 C.2.1 hd ?_
  rw [← Int64.ofInt_add]
  exact k ad D cs A p l e R s m args below meth c cells slots Z C hret H locs lsC hH hS hL
theorem g_isub {K : Nat} {M : Meth} {pc : Nat} {ls : List (Option AV)} {st : List AV} {σ : Mem} {Q : Option AV → Mem → Prop} {x y : Int} (hd : decode (mC M) pc = .ok (.isub, 1)) (k : Go K M (pc + 1) ls (aI (x - y) :: st) σ Q) : Go K M pc ls (aI y :: aI x :: st) σ Q := by
  intro ad D cs A p l e R s m args below meth c cells slots Z C hret H locs lsC hH hS hL
  refine lv_isub C.1 C.2.1 hd ?_
  rw [← Int32.ofInt_sub]
  exact k ad D cs A p l e R s m args below meth c cells slots Z C hret H locs lsC hH hS hL
theorem g_lsub {K : Nat} {M : Meth} {pc : Nat} {ls : List (Option AV)} {st : List AV} {σ : Mem} {Q : Option AV → Mem → Prop} {x y : Int} (hd : decode (mC M) pc = .ok (.lsub, 1)) (k : Go K M (pc + 1) ls (aL (x - y) :: st) σ Q) : Go K M pc ls (aL y :: aL x :: st) σ Q := by
  intro ad D cs A p l e R s m args below meth c cells slots Z C hret H locs lsC hH hS hL
  refine lv_lsub C.1 C.2.1 hd ?_
  rw [← Int64.ofInt_sub]
  exact k ad D cs A p l e R s m args below meth c cells slots Z C hret H locs lsC hH hS hL
theorem g_imul {K : Nat} {M : Meth} {pc : Nat} {ls : List (Option AV)} {st : List AV} {σ : Mem} {Q : Option AV → Mem → Prop} {x y : Int} (hd : decode (mC M) pc = .ok (.imul, 1)) (k : Go K M (pc + 1) ls (aI (x * y) :: st) σ Q) : Go K M pc ls (aI y :: aI x :: st) σ Q := by
  intro ad D cs A p l e R s m args below meth c cells slots Z C hret H locs lsC hH hS hL
  refine lv_imul C.1 C.2.1 hd ?_
  rw [← Int32.ofInt_mul]
  exact k ad D cs A p l e R s m args below meth c cells slots Z C hret H locs lsC hH hS hL
theorem g_lmul {K : Nat} {M : Meth} {pc : Nat} {ls : List (Option AV)} {st : List AV} {σ : Mem} {Q : Option AV → Mem → Prop} {x y : Int} (hd : decode (mC M) pc = .ok (.lmul, 1)) (k : Go K M (pc + 1) ls (aL (x * y) :: st) σ Q) : Go K M pc ls (aL y :: aL x :: st) σ Q := by
  intro ad D cs A p l e R s m args below meth c cells slots Z C hret H locs lsC hH hS hL
  refine lv_lmul C.1 C.2.1 hd ?_
  rw [← Int64.ofInt_mul]
  exact k ad D cs A p l e R s m args below meth c cells slots Z C hret H locs lsC hH hS hL
theorem g_ineg {K : Nat} {M : Meth} {pc : Nat} {ls : List (Option AV)} {st : List AV} {σ : Mem} {Q : Option AV → Mem → Prop} {x : Int} (hd : decode (mC M) pc = .ok (.ineg, 1)) (k : Go K M (pc + 1) ls (aI (-x) :: st) σ Q) : Go K M pc ls (aI x :: st) σ Q := by
  intro ad D cs A p l e R s m args below meth c cells slots Z C hret H locs lsC hH hS hL
  refine lv_ineg C.1 C.2.1 hd ?_
  rw [← Int32.ofInt_neg]
  exact k ad D cs A p l e R s m args below meth c cells slots Z C hret H locs lsC hH hS hL
theorem g_lneg {K : Nat} {M : Meth} {pc : Nat} {ls : List (Option AV)} {st : List AV} {σ : Mem} {Q : Option AV → Mem → Prop} {x : Int} (hd : decode (mC M) pc = .ok (.lneg, 1)) (k : Go K M (pc + 1) ls (aL (-x) :: st) σ Q) : Go K M pc ls (aL x :: st) σ Q := by
  intro ad D cs A p l e R s m args below meth c cells slots Z C hret H locs lsC hH hS hL
  refine lv_lneg C.1 C.2.1 hd ?_
  rw [← Int64.ofInt_neg]
  exact k ad D cs A p l e R s m args below meth c cells slots Z C hret H locs lsC hH hS hL
abbrev i32 (x : Int) : Prop := -2147483648 ≤ x ∧ x ≤ 2147483647
abbrev i64 (x : Int) : Prop := -9223372036854775808 ≤ x ∧ x ≤ 9223372036854775807
theorem i32_to {x : Int} (h : i32 x) : (Int32.ofInt x).toInt = x := Int32.toInt_ofInt_of_le (by have := h.1; omega) (by have := h.2; omega)
theorem i64_to {x : Int} (h : i64 x) : (Int64.ofInt x).toInt = x := Int64.toInt_ofInt_of_le (by have := h.1; omega) (by have := h.2; omega)
theorem i32_lt {x y : Int} (hx : i32 x) (hy : i32 y) : Int32.ofInt x < Int32.ofInt y ↔ x < y := by rw [Int32.lt_iff_toInt_lt, i32_to hx, i32_to hy]
theorem i32_le {x y : Int} (hx : i32 x) (hy : i32 y) : Int32.ofInt x ≤ Int32.ofInt y ↔ x ≤ y := by rw [Int32.le_iff_toInt_le, i32_to hx, i32_to hy]
theorem i32_eq {x y : Int} (hx : i32 x) (hy : i32 y) : Int32.ofInt x = Int32.ofInt y ↔ x = y := by rw [← Int32.toInt_inj, i32_to hx, i32_to hy]
theorem i64_lt {x y : Int} (hx : i64 x) (hy : i64 y) : Int64.ofInt x < Int64.ofInt y ↔ x < y := by rw [Int64.lt_iff_toInt_lt, i64_to hx, i64_to hy]
theorem i64_eq {x y : Int} (hx : i64 x) (hy : i64 y) : Int64.ofInt x = Int64.ofInt y ↔ x = y := by rw [← Int64.toInt_inj, i64_to hx, i64_to hy]
theorem i32_0 : (0 : Int32) = Int32.ofInt 0 := rfl
theorem i64_0 : (0 : Int64) = Int64.ofInt 0 := rfl
theorem i32_div {x y : Int} (hx : i32 x) (hy : i32 y) : Int32.ofInt x / Int32.ofInt y = Int32.ofInt (x.tdiv y) := by
  rw [← Int32.toInt_inj, Int32.toInt_div, i32_to hx, i32_to hy, Int32.toInt_ofInt]
theorem i64_div {x y : Int} (hx : i64 x) (hy : i64 y) : Int64.ofInt x / Int64.ofInt y = Int64.ofInt (x.tdiv y) := by
  rw [← Int64.toInt_inj, Int64.toInt_div, i64_to hx, i64_to hy, Int64.toInt_ofInt]
theorem g_idiv {K : Nat} {M : Meth} {pc : Nat} {ls : List (Option AV)} {st : List AV} {σ : Mem} {Q : Option AV → Mem → Prop} {x y : Int} (hd : decode (mC M) pc = .ok (.idiv, 1)) (hx : i32 x) (hy : i32 y) (h0 : y ≠ 0) (k : Go K M (pc + 1) ls (aI (x.tdiv y) :: st) σ Q) : Go K M pc ls (aI y :: aI x :: st) σ Q := by
  intro ad D cs A p l e R s m args below meth c cells slots Z C hret H locs lsC hH hS hL
  refine lv_idiv C.1 C.2.1 hd (fun h => h0 ((i32_eq hy (by decide)).mp (h.trans i32_0))) ?_
  rw [i32_div hx hy]
  exact k ad D cs A p l e R s m args below meth c cells slots Z C hret H locs lsC hH hS hL
theorem g_irem {K : Nat} {M : Meth} {pc : Nat} {ls : List (Option AV)} {st : List AV} {σ : Mem} {Q : Option AV → Mem → Prop} {x y : Int} (hd : decode (mC M) pc = .ok (.irem, 1)) (hx : i32 x) (hy : i32 y) (h0 : y ≠ 0) (k : Go K M (pc + 1) ls (aI (x.tmod y) :: st) σ Q) : Go K M pc ls (aI y :: aI x :: st) σ Q := by
  intro ad D cs A p l e R s m args below meth c cells slots Z C hret H locs lsC hH hS hL
  refine lv_irem C.1 C.2.1 hd (fun h => h0 ((i32_eq hy (by decide)).mp (h.trans i32_0))) ?_
  rw [i32_div hx hy, ← Int32.ofInt_mul, ← Int32.ofInt_sub, show x - x.tdiv y * y = x.tmod y by rw [Int.tmod_def, Int.mul_comm]]
  exact k ad D cs A p l e R s m args below meth c cells slots Z C hret H locs lsC hH hS hL
theorem g_ldiv {K : Nat} {M : Meth} {pc : Nat} {ls : List (Option AV)} {st : List AV} {σ : Mem} {Q : Option AV → Mem → Prop} {x y : Int} (hd : decode (mC M) pc = .ok (.ldiv, 1)) (hx : i64 x) (hy : i64 y) (h0 : y ≠ 0) (k : Go K M (pc + 1) ls (aL (x.tdiv y) :: st) σ Q) : Go K M pc ls (aL y :: aL x :: st) σ Q := by
  intro ad D cs A p l e R s m args below meth c cells slots Z C hret H locs lsC hH hS hL
  refine lv_ldiv C.1 C.2.1 hd (fun h => h0 ((i64_eq hy (by decide)).mp (h.trans i64_0))) ?_
  rw [i64_div hx hy]
  exact k ad D cs A p l e R s m args below meth c cells slots Z C hret H locs lsC hH hS hL
theorem g_lrem {K : Nat} {M : Meth} {pc : Nat} {ls : List (Option AV)} {st : List AV} {σ : Mem} {Q : Option AV → Mem → Prop} {x y : Int} (hd : decode (mC M) pc = .ok (.lrem, 1)) (hx : i64 x) (hy : i64 y) (h0 : y ≠ 0) (k : Go K M (pc + 1) ls (aL (x.tmod y) :: st) σ Q) : Go K M pc ls (aL y :: aL x :: st) σ Q := by
  intro ad D cs A p l e R s m args below meth c cells slots Z C hret H locs lsC hH hS hL
  refine lv_lrem C.1 C.2.1 hd (fun h => h0 ((i64_eq hy (by decide)).mp (h.trans i64_0))) ?_
  rw [i64_div hx hy, ← Int64.ofInt_mul, ← Int64.ofInt_sub, show x - x.tdiv y * y = x.tmod y by rw [Int.tmod_def, Int.mul_comm]]
  exact k ad D cs A p l e R s m args below meth c cells slots Z C hret H locs lsC hH hS hL
theorem g_i2l {K : Nat} {M : Meth} {pc : Nat} {ls : List (Option AV)} {st : List AV} {σ : Mem} {Q : Option AV → Mem → Prop} {x : Int} (hd : decode (mC M) pc = .ok (.i2l, 1)) (hx : i32 x) (k : Go K M (pc + 1) ls (aL x :: st) σ Q) : Go K M pc ls (aI x :: st) σ Q := by
  intro ad D cs A p l e R s m args below meth c cells slots Z C hret H locs lsC hH hS hL
  refine lv_i2l C.1 C.2.1 hd (v := Int64.ofInt x) ?_ (k ad D cs A p l e R s m args below meth c cells slots Z C hret H locs lsC hH hS hL)
  rw [← Int64.toInt_inj, Int32.toInt_toInt64, i32_to hx, i64_to (by have := hx.1; have := hx.2; constructor <;> omega)]
theorem g_l2i {K : Nat} {M : Meth} {pc : Nat} {ls : List (Option AV)} {st : List AV} {σ : Mem} {Q : Option AV → Mem → Prop} {x : Int} (hd : decode (mC M) pc = .ok (.l2i, 1)) (k : Go K M (pc + 1) ls (aI x :: st) σ Q) : Go K M pc ls (aL x :: st) σ Q := by
  intro ad D cs A p l e R s m args below meth c cells slots Z C hret H locs lsC hH hS hL
  refine lv_l2i C.1 C.2.1 hd (v := Int32.ofInt x) ?_ (k ad D cs A p l e R s m args below meth c cells slots Z C hret H locs lsC hH hS hL)
  rw [← Int32.toInt_inj, Int64.toInt_toInt32, Int64.toInt_ofInt, Int32.toInt_ofInt]
  exact Int.bmod_bmod_of_dvd (by decide)
theorem g_dup {K : Nat} {M : Meth} {pc : Nat} {ls : List (Option AV)} {st : List AV} {σ : Mem} {Q : Option AV → Mem → Prop} {v : AV} (hd : decode (mC M) pc = .ok (.dup, 1)) (hv : ∀ x, v ≠ aL x) (k : Go K M (pc + 1) ls (v :: v :: st) σ Q) : Go K M pc ls (v :: st) σ Q := by
  intro ad D cs A p l e R s m args below meth c cells slots Z C hret H locs lsC hH hS hL
  refine lv_dup C.1 C.2.1 hd ?_ (k ad D cs A p l e R s m args below meth c cells slots Z C hret H locs lsC hH hS hL)
  rcases lv_cat (cv ad v) with h | h
  · exact h
  · obtain ⟨x, hx⟩ := (cv_cat ad v).mp h
    exact absurd hx (hv x)
theorem g_dup2 {K : Nat} {M : Meth} {pc : Nat} {ls : List (Option AV)} {st : List AV} {σ : Mem} {Q : Option AV → Mem → Prop} {v u : AV} (hd : decode (mC M) pc = .ok (.dup2, 1)) (hv : ∀ x, v ≠ aL x) (hu : ∀ x, u ≠ aL x) (k : Go K M (pc + 1) ls (v :: u :: v :: u :: st) σ Q) : Go K M pc ls (v :: u :: st) σ Q := by
  intro ad D cs A p l e R s m args below meth c cells slots Z C hret H locs lsC hH hS hL
  refine lv_dup2_11 C.1 C.2.1 hd ?_ ?_ (k ad D cs A p l e R s m args below meth c cells slots Z C hret H locs lsC hH hS hL)
  · rcases lv_cat (cv ad v) with h | h
    · exact h
    · obtain ⟨x, hx⟩ := (cv_cat ad v).mp h
      exact absurd hx (hv x)
  · rcases lv_cat (cv ad u) with h | h
    · exact h
    · obtain ⟨x, hx⟩ := (cv_cat ad u).mp h
      exact absurd hx (hu x)
theorem g_goto {K : Nat} {M : Meth} {pc : Nat} {ls : List (Option AV)} {st : List AV} {σ : Mem} {Q : Option AV → Mem → Prop} {off : Int} {tgt : Nat} (hd : decode (mC M) pc = .ok (.goto off, 3)) (ht : (pc : Int) + off = (tgt : Int)) (k : Go K M tgt ls st σ Q) : Go K M pc ls st σ Q := by
  intro ad D cs A p l e R s m args below meth c cells slots Z C hret H locs lsC hH hS hL
  exact lv_goto C.1 C.2.1 hd ht (k ad D cs A p l e R s m args below meth c cells slots Z C hret H locs lsC hH hS hL)
theorem g_icmp_eq {K : Nat} {M : Meth} {pc : Nat} {ls : List (Option AV)} {st : List AV} {σ : Mem} {Q : Option AV → Mem → Prop} {x y off : Int} {tgt : Nat} (hd : decode (mC M) pc = .ok (.if_icmp .eq off, 3)) (ht : (pc : Int) + off = (tgt : Int)) (hx : i32 x) (hy : i32 y) (kt : x = y → Go K M tgt ls st σ Q) (kf : x ≠ y → Go K M (pc + 3) ls st σ Q) : Go K M pc ls (aI y :: aI x :: st) σ Q := by
  intro ad D cs A p l e R s m args below meth c cells slots Z C hret H locs lsC hH hS hL
  refine lv_icmp_eq C.1 C.2.1 hd ht (fun h => kt ((i32_eq hx hy).mp h) ad D cs A p l e R s m args below meth c cells slots Z C hret H locs lsC hH hS hL) (fun h => kf (fun q => h ((i32_eq hx hy).mpr q)) ad D cs A p l e R s m args below meth c cells slots Z C hret H locs lsC hH hS hL)
theorem g_if_eq {K : Nat} {M : Meth} {pc : Nat} {ls : List (Option AV)} {st : List AV} {σ : Mem} {Q : Option AV → Mem → Prop} {x off : Int} {tgt : Nat} (hd : decode (mC M) pc = .ok (.ifCond .eq off, 3)) (ht : (pc : Int) + off = (tgt : Int)) (hx : i32 x) (kt : x = 0 → Go K M tgt ls st σ Q) (kf : x ≠ 0 → Go K M (pc + 3) ls st σ Q) : Go K M pc ls (aI x :: st) σ Q := by
  intro ad D cs A p l e R s m args below meth c cells slots Z C hret H locs lsC hH hS hL
  have hy : i32 0 := by decide
  refine lv_if_eq C.1 C.2.1 hd ht (fun h => kt ((i32_eq hx hy).mp h) ad D cs A p l e R s m args below meth c cells slots Z C hret H locs lsC hH hS hL) (fun h => kf (fun q => h ((i32_eq hx hy).mpr q)) ad D cs A p l e R s m args below meth c cells slots Z C hret H locs lsC hH hS hL)
theorem g_icmp_ne {K : Nat} {M : Meth} {pc : Nat} {ls : List (Option AV)} {st : List AV} {σ : Mem} {Q : Option AV → Mem → Prop} {x y off : Int} {tgt : Nat} (hd : decode (mC M) pc = .ok (.if_icmp .ne off, 3)) (ht : (pc : Int) + off = (tgt : Int)) (hx : i32 x) (hy : i32 y) (kt : x ≠ y → Go K M tgt ls st σ Q) (kf : x = y → Go K M (pc + 3) ls st σ Q) : Go K M pc ls (aI y :: aI x :: st) σ Q := by
  intro ad D cs A p l e R s m args below meth c cells slots Z C hret H locs lsC hH hS hL
  refine lv_icmp_ne C.1 C.2.1 hd ht (fun h => kt (fun q => h ((i32_eq hx hy).mpr q)) ad D cs A p l e R s m args below meth c cells slots Z C hret H locs lsC hH hS hL) (fun h => kf ((i32_eq hx hy).mp h) ad D cs A p l e R s m args below meth c cells slots Z C hret H locs lsC hH hS hL)
theorem g_if_ne {K : Nat} {M : Meth} {pc : Nat} {ls : List (Option AV)} {st : List AV} {σ : Mem} {Q : Option AV → Mem → Prop} {x off : Int} {tgt : Nat} (hd : decode (mC M) pc = .ok (.ifCond .ne off, 3)) (ht : (pc : Int) + off = (tgt : Int)) (hx : i32 x) (kt : x ≠ 0 → Go K M tgt ls st σ Q) (kf : x = 0 → Go K M (pc + 3) ls st σ Q) : Go K M pc ls (aI x :: st) σ Q := by
  intro ad D cs A p l e R s m args below meth c cells slots Z C hret H locs lsC hH hS hL
  have hy : i32 0 := by decide
  refine lv_if_ne C.1 C.2.1 hd ht (fun h => kt (fun q => h ((i32_eq hx hy).mpr q)) ad D cs A p l e R s m args below meth c cells slots Z C hret H locs lsC hH hS hL) (fun h => kf ((i32_eq hx hy).mp h) ad D cs A p l e R s m args below meth c cells slots Z C hret H locs lsC hH hS hL)
theorem g_icmp_lt {K : Nat} {M : Meth} {pc : Nat} {ls : List (Option AV)} {st : List AV} {σ : Mem} {Q : Option AV → Mem → Prop} {x y off : Int} {tgt : Nat} (hd : decode (mC M) pc = .ok (.if_icmp .lt off, 3)) (ht : (pc : Int) + off = (tgt : Int)) (hx : i32 x) (hy : i32 y) (kt : x < y → Go K M tgt ls st σ Q) (kf : y ≤ x → Go K M (pc + 3) ls st σ Q) : Go K M pc ls (aI y :: aI x :: st) σ Q := by
  intro ad D cs A p l e R s m args below meth c cells slots Z C hret H locs lsC hH hS hL
  refine lv_icmp_lt C.1 C.2.1 hd ht (fun h => kt ((i32_lt hx hy).mp h) ad D cs A p l e R s m args below meth c cells slots Z C hret H locs lsC hH hS hL) (fun h => kf (Int.not_lt.mp (fun q => h ((i32_lt hx hy).mpr q))) ad D cs A p l e R s m args below meth c cells slots Z C hret H locs lsC hH hS hL)
theorem g_if_lt {K : Nat} {M : Meth} {pc : Nat} {ls : List (Option AV)} {st : List AV} {σ : Mem} {Q : Option AV → Mem → Prop} {x off : Int} {tgt : Nat} (hd : decode (mC M) pc = .ok (.ifCond .lt off, 3)) (ht : (pc : Int) + off = (tgt : Int)) (hx : i32 x) (kt : x < 0 → Go K M tgt ls st σ Q) (kf : 0 ≤ x → Go K M (pc + 3) ls st σ Q) : Go K M pc ls (aI x :: st) σ Q := by
  intro ad D cs A p l e R s m args below meth c cells slots Z C hret H locs lsC hH hS hL
  have hy : i32 0 := by decide
  refine lv_if_lt C.1 C.2.1 hd ht (fun h => kt ((i32_lt hx hy).mp h) ad D cs A p l e R s m args below meth c cells slots Z C hret H locs lsC hH hS hL) (fun h => kf (Int.not_lt.mp (fun q => h ((i32_lt hx hy).mpr q))) ad D cs A p l e R s m args below meth c cells slots Z C hret H locs lsC hH hS hL)
theorem g_icmp_ge {K : Nat} {M : Meth} {pc : Nat} {ls : List (Option AV)} {st : List AV} {σ : Mem} {Q : Option AV → Mem → Prop} {x y off : Int} {tgt : Nat} (hd : decode (mC M) pc = .ok (.if_icmp .ge off, 3)) (ht : (pc : Int) + off = (tgt : Int)) (hx : i32 x) (hy : i32 y) (kt : y ≤ x → Go K M tgt ls st σ Q) (kf : x < y → Go K M (pc + 3) ls st σ Q) : Go K M pc ls (aI y :: aI x :: st) σ Q := by
  intro ad D cs A p l e R s m args below meth c cells slots Z C hret H locs lsC hH hS hL
  refine lv_icmp_ge C.1 C.2.1 hd ht (fun h => kt ((i32_le hy hx).mp h) ad D cs A p l e R s m args below meth c cells slots Z C hret H locs lsC hH hS hL) (fun h => kf (Int.not_le.mp (fun q => h ((i32_le hy hx).mpr q))) ad D cs A p l e R s m args below meth c cells slots Z C hret H locs lsC hH hS hL)
theorem g_if_ge {K : Nat} {M : Meth} {pc : Nat} {ls : List (Option AV)} {st : List AV} {σ : Mem} {Q : Option AV → Mem → Prop} {x off : Int} {tgt : Nat} (hd : decode (mC M) pc = .ok (.ifCond .ge off, 3)) (ht : (pc : Int) + off = (tgt : Int)) (hx : i32 x) (kt : 0 ≤ x → Go K M tgt ls st σ Q) (kf : x < 0 → Go K M (pc + 3) ls st σ Q) : Go K M pc ls (aI x :: st) σ Q := by
  intro ad D cs A p l e R s m args below meth c cells slots Z C hret H locs lsC hH hS hL
  have hy : i32 0 := by decide
  refine lv_if_ge C.1 C.2.1 hd ht (fun h => kt ((i32_le hy hx).mp h) ad D cs A p l e R s m args below meth c cells slots Z C hret H locs lsC hH hS hL) (fun h => kf (Int.not_le.mp (fun q => h ((i32_le hy hx).mpr q))) ad D cs A p l e R s m args below meth c cells slots Z C hret H locs lsC hH hS hL)
theorem g_icmp_gt {K : Nat} {M : Meth} {pc : Nat} {ls : List (Option AV)} {st : List AV} {σ : Mem} {Q : Option AV → Mem → Prop} {x y off : Int} {tgt : Nat} (hd : decode (mC M) pc = .ok (.if_icmp .gt off, 3)) (ht : (pc : Int) + off = (tgt : Int)) (hx : i32 x) (hy : i32 y) (kt : y < x → Go K M tgt ls st σ Q) (kf : x ≤ y → Go K M (pc + 3) ls st σ Q) : Go K M pc ls (aI y :: aI x :: st) σ Q := by
  intro ad D cs A p l e R s m args below meth c cells slots Z C hret H locs lsC hH hS hL
  refine lv_icmp_gt C.1 C.2.1 hd ht (fun h => kt ((i32_lt hy hx).mp h) ad D cs A p l e R s m args below meth c cells slots Z C hret H locs lsC hH hS hL) (fun h => kf (Int.not_lt.mp (fun q => h ((i32_lt hy hx).mpr q))) ad D cs A p l e R s m args below meth c cells slots Z C hret H locs lsC hH hS hL)
theorem g_if_gt {K : Nat} {M : Meth} {pc : Nat} {ls : List (Option AV)} {st : List AV} {σ : Mem} {Q : Option AV → Mem → Prop} {x off : Int} {tgt : Nat} (hd : decode (mC M) pc = .ok (.ifCond .gt off, 3)) (ht : (pc : Int) + off = (tgt : Int)) (hx : i32 x) (kt : 0 < x → Go K M tgt ls st σ Q) (kf : x ≤ 0 → Go K M (pc + 3) ls st σ Q) : Go K M pc ls (aI x :: st) σ Q := by
  intro ad D cs A p l e R s m args below meth c cells slots Z C hret H locs lsC hH hS hL
  have hy : i32 0 := by decide
  refine lv_if_gt C.1 C.2.1 hd ht (fun h => kt ((i32_lt hy hx).mp h) ad D cs A p l e R s m args below meth c cells slots Z C hret H locs lsC hH hS hL) (fun h => kf (Int.not_lt.mp (fun q => h ((i32_lt hy hx).mpr q))) ad D cs A p l e R s m args below meth c cells slots Z C hret H locs lsC hH hS hL)
theorem g_icmp_le {K : Nat} {M : Meth} {pc : Nat} {ls : List (Option AV)} {st : List AV} {σ : Mem} {Q : Option AV → Mem → Prop} {x y off : Int} {tgt : Nat} (hd : decode (mC M) pc = .ok (.if_icmp .le off, 3)) (ht : (pc : Int) + off = (tgt : Int)) (hx : i32 x) (hy : i32 y) (kt : x ≤ y → Go K M tgt ls st σ Q) (kf : y < x → Go K M (pc + 3) ls st σ Q) : Go K M pc ls (aI y :: aI x :: st) σ Q := by
  intro ad D cs A p l e R s m args below meth c cells slots Z C hret H locs lsC hH hS hL
  refine lv_icmp_le C.1 C.2.1 hd ht (fun h => kt ((i32_le hx hy).mp h) ad D cs A p l e R s m args below meth c cells slots Z C hret H locs lsC hH hS hL) (fun h => kf (Int.not_le.mp (fun q => h ((i32_le hx hy).mpr q))) ad D cs A p l e R s m args below meth c cells slots Z C hret H locs lsC hH hS hL)
theorem g_if_le {K : Nat} {M : Meth} {pc : Nat} {ls : List (Option AV)} {st : List AV} {σ : Mem} {Q : Option AV → Mem → Prop} {x off : Int} {tgt : Nat} (hd : decode (mC M) pc = .ok (.ifCond .le off, 3)) (ht : (pc : Int) + off = (tgt : Int)) (hx : i32 x) (kt : x ≤ 0 → Go K M tgt ls st σ Q) (kf : 0 < x → Go K M (pc + 3) ls st σ Q) : Go K M pc ls (aI x :: st) σ Q := by
  intro ad D cs A p l e R s m args below meth c cells slots Z C hret H locs lsC hH hS hL
  have hy : i32 0 := by decide
  refine lv_if_le C.1 C.2.1 hd ht (fun h => kt ((i32_le hx hy).mp h) ad D cs A p l e R s m args below meth c cells slots Z C hret H locs lsC hH hS hL) (fun h => kf (Int.not_le.mp (fun q => h ((i32_le hx hy).mpr q))) ad D cs A p l e R s m args below meth c cells slots Z C hret H locs lsC hH hS hL)
theorem lg_cmp_int {x y : Int} (hx : i64 x) (hy : i64 y) : lg_cmp (Int64.ofInt x) (Int64.ofInt y) = Int32.ofInt (if x < y then -1 else if x = y then 0 else 1) := by
  unfold lg_cmp
  simp only [i64_lt hx hy, i64_eq hx hy, i64_lt hy hx]
  by_cases h1 : x < y
  · have h2 : x ≠ y := by omega
    have h3 : ¬ y < x := by omega
    simp [h1, h2, h3]; try decide
  · by_cases h2 : x = y
    · simp [h2]; try decide
    · have h3 : y < x := by omega
      simp [h1, h2, h3]; try decide
theorem g_lcmp {K : Nat} {M : Meth} {pc : Nat} {ls : List (Option AV)} {st : List AV} {σ : Mem} {Q : Option AV → Mem → Prop} {x y : Int} (hd : decode (mC M) pc = .ok (.lcmp, 1)) (hx : i64 x) (hy : i64 y) (k : Go K M (pc + 1) ls (aI (if x < y then -1 else if x = y then 0 else 1) :: st) σ Q) : Go K M pc ls (aL y :: aL x :: st) σ Q := by
  intro ad D cs A p l e R s m args below meth c cells slots Z C hret H locs lsC hH hS hL
  refine W.lcmp C.1 C.2.1 hd ?_
  rw [lg_cmp_int hx hy]
  exact k ad D cs A p l e R s m args below meth c cells slots Z C hret H locs lsC hH hS hL
theorem lc_32 (x y : Int) : i32 (if x < y then -1 else if x = y then 0 else 1) := by
  by_cases h1 : x < y
  · rw [if_pos h1]; decide
  · by_cases h2 : x = y
    · rw [if_neg h1, if_pos h2]; decide
    · rw [if_neg h1, if_neg h2]; decide
theorem g_lcmp_eq {K : Nat} {M : Meth} {pc : Nat} {ls : List (Option AV)} {st : List AV} {σ : Mem} {Q : Option AV → Mem → Prop} {x y off : Int} {tgt : Nat} (hd : decode (mC M) pc = .ok (.lcmp, 1)) (hd2 : decode (mC M) (pc + 1) = .ok (.ifCond .eq off, 3)) (ht : ((pc + 1 : Nat) : Int) + off = (tgt : Int)) (hx : i64 x) (hy : i64 y) (kt : x = y → Go K M tgt ls st σ Q) (kf : x ≠ y → Go K M (pc + 4) ls st σ Q) : Go K M pc ls (aL y :: aL x :: st) σ Q := by
  refine g_lcmp hd hx hy (g_if_eq hd2 ht (lc_32 x y) (fun h => kt ?_) (fun h => kf ?_))
  · by_cases h1 : x < y <;> by_cases h2 : x = y <;> simp [h1, h2] at h <;> omega
  · by_cases h1 : x < y <;> by_cases h2 : x = y <;> simp [h1, h2] at h <;> omega
theorem g_lcmp_ne {K : Nat} {M : Meth} {pc : Nat} {ls : List (Option AV)} {st : List AV} {σ : Mem} {Q : Option AV → Mem → Prop} {x y off : Int} {tgt : Nat} (hd : decode (mC M) pc = .ok (.lcmp, 1)) (hd2 : decode (mC M) (pc + 1) = .ok (.ifCond .ne off, 3)) (ht : ((pc + 1 : Nat) : Int) + off = (tgt : Int)) (hx : i64 x) (hy : i64 y) (kt : x ≠ y → Go K M tgt ls st σ Q) (kf : x = y → Go K M (pc + 4) ls st σ Q) : Go K M pc ls (aL y :: aL x :: st) σ Q := by
  refine g_lcmp hd hx hy (g_if_ne hd2 ht (lc_32 x y) (fun h => kt ?_) (fun h => kf ?_))
  · by_cases h1 : x < y <;> by_cases h2 : x = y <;> simp [h1, h2] at h <;> omega
  · by_cases h1 : x < y <;> by_cases h2 : x = y <;> simp [h1, h2] at h <;> omega
theorem g_lcmp_lt {K : Nat} {M : Meth} {pc : Nat} {ls : List (Option AV)} {st : List AV} {σ : Mem} {Q : Option AV → Mem → Prop} {x y off : Int} {tgt : Nat} (hd : decode (mC M) pc = .ok (.lcmp, 1)) (hd2 : decode (mC M) (pc + 1) = .ok (.ifCond .lt off, 3)) (ht : ((pc + 1 : Nat) : Int) + off = (tgt : Int)) (hx : i64 x) (hy : i64 y) (kt : x < y → Go K M tgt ls st σ Q) (kf : y ≤ x → Go K M (pc + 4) ls st σ Q) : Go K M pc ls (aL y :: aL x :: st) σ Q := by
  refine g_lcmp hd hx hy (g_if_lt hd2 ht (lc_32 x y) (fun h => kt ?_) (fun h => kf ?_))
  · by_cases h1 : x < y <;> by_cases h2 : x = y <;> simp [h1, h2] at h <;> omega
  · by_cases h1 : x < y <;> by_cases h2 : x = y <;> simp [h1, h2] at h <;> omega
theorem g_lcmp_ge {K : Nat} {M : Meth} {pc : Nat} {ls : List (Option AV)} {st : List AV} {σ : Mem} {Q : Option AV → Mem → Prop} {x y off : Int} {tgt : Nat} (hd : decode (mC M) pc = .ok (.lcmp, 1)) (hd2 : decode (mC M) (pc + 1) = .ok (.ifCond .ge off, 3)) (ht : ((pc + 1 : Nat) : Int) + off = (tgt : Int)) (hx : i64 x) (hy : i64 y) (kt : y ≤ x → Go K M tgt ls st σ Q) (kf : x < y → Go K M (pc + 4) ls st σ Q) : Go K M pc ls (aL y :: aL x :: st) σ Q := by
  refine g_lcmp hd hx hy (g_if_ge hd2 ht (lc_32 x y) (fun h => kt ?_) (fun h => kf ?_))
  · by_cases h1 : x < y <;> by_cases h2 : x = y <;> simp [h1, h2] at h <;> omega
  · by_cases h1 : x < y <;> by_cases h2 : x = y <;> simp [h1, h2] at h <;> omega
theorem g_lcmp_gt {K : Nat} {M : Meth} {pc : Nat} {ls : List (Option AV)} {st : List AV} {σ : Mem} {Q : Option AV → Mem → Prop} {x y off : Int} {tgt : Nat} (hd : decode (mC M) pc = .ok (.lcmp, 1)) (hd2 : decode (mC M) (pc + 1) = .ok (.ifCond .gt off, 3)) (ht : ((pc + 1 : Nat) : Int) + off = (tgt : Int)) (hx : i64 x) (hy : i64 y) (kt : y < x → Go K M tgt ls st σ Q) (kf : x ≤ y → Go K M (pc + 4) ls st σ Q) : Go K M pc ls (aL y :: aL x :: st) σ Q := by
  refine g_lcmp hd hx hy (g_if_gt hd2 ht (lc_32 x y) (fun h => kt ?_) (fun h => kf ?_))
  · by_cases h1 : x < y <;> by_cases h2 : x = y <;> simp [h1, h2] at h <;> omega
  · by_cases h1 : x < y <;> by_cases h2 : x = y <;> simp [h1, h2] at h <;> omega
theorem g_lcmp_le {K : Nat} {M : Meth} {pc : Nat} {ls : List (Option AV)} {st : List AV} {σ : Mem} {Q : Option AV → Mem → Prop} {x y off : Int} {tgt : Nat} (hd : decode (mC M) pc = .ok (.lcmp, 1)) (hd2 : decode (mC M) (pc + 1) = .ok (.ifCond .le off, 3)) (ht : ((pc + 1 : Nat) : Int) + off = (tgt : Int)) (hx : i64 x) (hy : i64 y) (kt : x ≤ y → Go K M tgt ls st σ Q) (kf : y < x → Go K M (pc + 4) ls st σ Q) : Go K M pc ls (aL y :: aL x :: st) σ Q := by
  refine g_lcmp hd hx hy (g_if_le hd2 ht (lc_32 x y) (fun h => kt ?_) (fun h => kf ?_))
  · by_cases h1 : x < y <;> by_cases h2 : x = y <;> simp [h1, h2] at h <;> omega
  · by_cases h1 : x < y <;> by_cases h2 : x = y <;> simp [h1, h2] at h <;> omega
/-! memory -/
/-- a field: its class' number and its own, by the pool of the class own -/
def FL (own : String) (idx ci j : Nat) : Prop := ∃ (C : String) (T : u_T) (N : Nat) (ty : Nat → FieldType), classes[ci]? = some (C, T, N) ∧ j < N ∧ (∀ w ∈ u_ws C T N, w ∈ TW) ∧ (∀ k, k < N → parseFieldDescriptor (T k).2.2.1 = some (ty k)) ∧ (∀ a, a < N → ∀ b, b < N → a ≠ b → (T a).2.1 ≠ (T b).2.1) ∧ Cond.fieldLink own idx (T j).1 (T j).2.1 (T j).2.2.1 ∈ TW
/-- one that may be written, of type t -/
def FW (own : String) (idx ci j : Nat) (t : FieldType) : Prop := ∃ (C : String) (T : u_T) (N : Nat) (ty : Nat → FieldType), classes[ci]? = some (C, T, N) ∧ j < N ∧ (∀ w ∈ u_ws C T N, w ∈ TW) ∧ (∀ k, k < N → parseFieldDescriptor (T k).2.2.1 = some (ty k)) ∧ (∀ a, a < N → ∀ b, b < N → a ≠ b → (T a).2.1 ≠ (T b).2.1) ∧ Cond.fieldLink own idx (T j).1 (T j).2.1 (T j).2.2.1 ∈ TW ∧ (T j).2.2.2 = false ∧ ty j = t
theorem FW.fl {own : String} {idx ci j : Nat} {t : FieldType} (h : FW own idx ci j t) : FL own idx ci j := by
  obtain ⟨C, T, N, ty, h1, h2, h3, h4, h5, h6, -⟩ := h
  exact ⟨C, T, N, ty, h1, h2, h3, h4, h5, h6⟩
theorem en_obj {ad : Nat → Nat} {cs : ClassId × ClassId × ClassId} {f : Int → Int} {ci j kd : Nat} {fk : List Nat} (hf : fk[j]? = some kd) : ((List.range fk.length).map fun j => fv ad f j (fk.getD j 0))[j]? = some (fv ad f j kd) := by
  have hj : j < fk.length := (List.getElem?_eq_some_iff.mp hf).1
  rw [List.getElem?_map, List.getElem?_range hj]
  simp [List.getD, hf]
theorem g_getI {K : Nat} {M : Meth} {pc : Nat} {ls : List (Option AV)} {st : List AV} {σ : Mem} {Q : Option AV → Mem → Prop} {idx ci j k : Nat} {fk : List Nat} {ji : Int} (hj : (j : Int) = ji) (hd : decode (mC M) pc = .ok (.getfield idx, 3)) (hl : FL (mN M).cls idx ci j) (hs : sh k = .inl (ci, fk)) (hf : fk[j]? = some 0) (hk : k < K) (kk : Go K M (pc + 3) ls (aI (σ k ji) :: st) σ Q) : Go K M pc ls (aR k :: st) σ Q := by
  intro ad D cs A p l e R s m args below meth c cells slots Z C hret H locs lsC hH hS hL
  subst hj
  obtain ⟨C1, T, N, ty, h1, h2, h3, h4, h5, h6⟩ := hl
  have he : (wd ad cs σ K)[k]? = some (ad k, .inr (ci, (List.range fk.length).map fun j => fv ad (σ k) j (fk.getD j 0))) := by rw [wd_at hk, hs]; rfl
  exact va_get (C := C1) (T := T) (N := N) C.1 C.2.1 C.2.2.2.2.1 h3 C.2.2.2.1 hH.1 hH.2.1 k he h1 j h2 (C.2.2.2.2.1 _ h6) (fun x hx => hx) (en_obj (cs := cs) (ci := ci) hf) hd (kk ad D cs A p l e R s m args below meth c cells slots Z C hret H locs lsC hH hS hL)
theorem g_getL {K : Nat} {M : Meth} {pc : Nat} {ls : List (Option AV)} {st : List AV} {σ : Mem} {Q : Option AV → Mem → Prop} {idx ci j k : Nat} {fk : List Nat} {ji : Int} (hj : (j : Int) = ji) (hd : decode (mC M) pc = .ok (.getfield idx, 3)) (hl : FL (mN M).cls idx ci j) (hs : sh k = .inl (ci, fk)) (hf : fk[j]? = some 1) (hk : k < K) (kk : Go K M (pc + 3) ls (aL (σ k ji) :: st) σ Q) : Go K M pc ls (aR k :: st) σ Q := by
  intro ad D cs A p l e R s m args below meth c cells slots Z C hret H locs lsC hH hS hL
  subst hj
  obtain ⟨C1, T, N, ty, h1, h2, h3, h4, h5, h6⟩ := hl
  have he : (wd ad cs σ K)[k]? = some (ad k, .inr (ci, (List.range fk.length).map fun j => fv ad (σ k) j (fk.getD j 0))) := by rw [wd_at hk, hs]; rfl
  exact va_get (C := C1) (T := T) (N := N) C.1 C.2.1 C.2.2.2.2.1 h3 C.2.2.2.1 hH.1 hH.2.1 k he h1 j h2 (C.2.2.2.2.1 _ h6) (fun x hx => hx) (en_obj (cs := cs) (ci := ci) hf) hd (kk ad D cs A p l e R s m args below meth c cells slots Z C hret H locs lsC hH hS hL)
theorem g_getR {K : Nat} {M : Meth} {pc : Nat} {ls : List (Option AV)} {st : List AV} {σ : Mem} {Q : Option AV → Mem → Prop} {idx ci j k : Nat} {fk : List Nat} {r : Nat} (hd : decode (mC M) pc = .ok (.getfield idx, 3)) (hl : FL (mN M).cls idx ci j) (hs : sh k = .inl (ci, fk)) (hf : fk[j]? = some (r + 2)) (hk : k < K) (kk : Go K M (pc + 3) ls (aR r :: st) σ Q) : Go K M pc ls (aR k :: st) σ Q := by
  intro ad D cs A p l e R s m args below meth c cells slots Z C hret H locs lsC hH hS hL
  obtain ⟨C1, T, N, ty, h1, h2, h3, h4, h5, h6⟩ := hl
  have he : (wd ad cs σ K)[k]? = some (ad k, .inr (ci, (List.range fk.length).map fun j => fv ad (σ k) j (fk.getD j 0))) := by rw [wd_at hk, hs]; rfl
  exact va_get (C := C1) (T := T) (N := N) C.1 C.2.1 C.2.2.2.2.1 h3 C.2.2.2.1 hH.1 hH.2.1 k he h1 j h2 (C.2.2.2.2.1 _ h6) (fun x hx => hx) (en_obj (cs := cs) (ci := ci) hf) hd (kk ad D cs A p l e R s m args below meth c cells slots Z C hret H locs lsC hH hS hL)
theorem g_putI {K : Nat} {M : Meth} {pc : Nat} {ls : List (Option AV)} {st : List AV} {σ : Mem} {Q : Option AV → Mem → Prop} {idx ci j k : Nat} {x ji : Int} {fk : List Nat} (hj : (j : Int) = ji) (hd : decode (mC M) pc = .ok (.putfield idx, 3)) (hl : FW (mN M).cls idx ci j .int) (hs : sh k = .inl (ci, fk)) (hf : fk[j]? = some 0) (hk : k < K) (h41 : k < 41) (kk : Go K M (pc + 3) ls st (up σ k ji x) Q) : Go K M pc ls (aI x :: aR k :: st) σ Q := by
  intro ad D cs A p l e R s m args below meth c cells slots Z C hret H locs lsC hH hS hL
  subst hj
  obtain ⟨C1, T, N, ty, h1, h2, h3, h4, h5, h6, h7, h8⟩ := hl
  have he : (wd ad cs σ K)[k]? = some (ad k, .inr (ci, (List.range fk.length).map fun j => fv ad (σ k) j (fk.getD j 0))) := by rw [wd_at hk, hs]; rfl
  have hj : j < fk.length := (List.getElem?_eq_some_iff.mp hf).1
  have hset : (wd ad cs σ K).set k (ad k, .inr (ci, ((List.range fk.length).map fun j => fv ad (σ k) j (fk.getD j 0)).set j (.int (Int32.ofInt x)))) = wd ad cs (up σ k j x) K := by
    apply wd_set
    rw [hs]
    show Sum.inr (ci, _) = Sum.inr (ci, _)
    congr 2
    apply List.ext_getElem?
    intro i
    rw [List.getElem?_set]
    by_cases hi : i < fk.length
    · rw [List.getElem?_map, List.getElem?_map, List.getElem?_range hi]
      by_cases hij : j = i
      · subst hij
        have hg : fk.getD j 0 = 0 := by simp [List.getD, hf]
        simp only [Option.map_some, if_true, List.length_map, List.length_range, hi, hg, fv, up_same]
      · rw [if_neg hij]
        have hne : ((i : Nat) : Int) ≠ ((j : Nat) : Int) := by omega
        simp only [Option.map_some]
        congr 1
        cases hq : fk.getD i 0 with
        | zero => simp only [fv]; rw [up_ne (Or.inr hne)]
        | succ q =>
          cases q with
          | zero => simp only [fv]; rw [up_ne (Or.inr hne)]
          | succ q => rfl
    · have hij : j ≠ i := by omega
      rw [if_neg hij]
      simp [hi]
  refine va_put (C := C1) (T := T) (N := N) (ty := .int) (v := .int (Int32.ofInt x)) C.1 C.2.1 C.2.2.2.2.1 h3 ty h4 h5 C.2.2.2.1 hH.1 hH.2.1 hH.2.2.1 hS.here k he h1 j h2 (C.2.2.2.2.1 _ h6) (fun x hx => hx) h7 (by rw [h4 j h2, h8]) (vp_nar_int _) rfl (by simpa using hj) hd (fun H1 locs1 hP1 hD1 hS1 => ?_)
  rw [hset] at hP1 hD1
  exact kk ad D cs A p l e R s m args below meth c cells slots Z C hret H1 locs1 lsC (hH.put h41 hP1 hD1 hS1) (hS.trans hS1) hL
theorem g_putZ {K : Nat} {M : Meth} {pc : Nat} {ls : List (Option AV)} {st : List AV} {σ : Mem} {Q : Option AV → Mem → Prop} {idx ci j k : Nat} {x ji : Int} {fk : List Nat} (hj : (j : Int) = ji) (hd : decode (mC M) pc = .ok (.putfield idx, 3)) (hl : FW (mN M).cls idx ci j .boolean) (hs : sh k = .inl (ci, fk)) (hf : fk[j]? = some 0) (hk : k < K) (h41 : k < 41) (hx : x = 0 ∨ x = 1) (kk : Go K M (pc + 3) ls st (up σ k ji x) Q) : Go K M pc ls (aI x :: aR k :: st) σ Q := by
  intro ad D cs A p l e R s m args below meth c cells slots Z C hret H locs lsC hH hS hL
  subst hj
  obtain ⟨C1, T, N, ty, h1, h2, h3, h4, h5, h6, h7, h8⟩ := hl
  have he : (wd ad cs σ K)[k]? = some (ad k, .inr (ci, (List.range fk.length).map fun j => fv ad (σ k) j (fk.getD j 0))) := by rw [wd_at hk, hs]; rfl
  have hj : j < fk.length := (List.getElem?_eq_some_iff.mp hf).1
  have hset : (wd ad cs σ K).set k (ad k, .inr (ci, ((List.range fk.length).map fun j => fv ad (σ k) j (fk.getD j 0)).set j (.int (Int32.ofInt x)))) = wd ad cs (up σ k j x) K := by
    apply wd_set
    rw [hs]
    show Sum.inr (ci, _) = Sum.inr (ci, _)
    congr 2
    apply List.ext_getElem?
    intro i
    rw [List.getElem?_set]
    by_cases hi : i < fk.length
    · rw [List.getElem?_map, List.getElem?_map, List.getElem?_range hi]
      by_cases hij : j = i
      · subst hij
        have hg : fk.getD j 0 = 0 := by simp [List.getD, hf]
        simp only [Option.map_some, if_true, List.length_map, List.length_range, hi, hg, fv, up_same]
      · rw [if_neg hij]
        have hne : ((i : Nat) : Int) ≠ ((j : Nat) : Int) := by omega
        simp only [Option.map_some]
        congr 1
        cases hq : fk.getD i 0 with
        | zero => simp only [fv]; rw [up_ne (Or.inr hne)]
        | succ q =>
          cases q with
          | zero => simp only [fv]; rw [up_ne (Or.inr hne)]
          | succ q => rfl
    · have hij : j ≠ i := by omega
      rw [if_neg hij]
      simp [hi]
  refine va_put (C := C1) (T := T) (N := N) (ty := .boolean) (v := .int (Int32.ofInt x)) C.1 C.2.1 C.2.2.2.2.1 h3 ty h4 h5 C.2.2.2.1 hH.1 hH.2.1 hH.2.2.1 hS.here k he h1 j h2 (C.2.2.2.2.1 _ h6) (fun x hx => hx) h7 (by rw [h4 j h2, h8]) (by rcases hx with rfl | rfl <;> rfl) (by rcases hx with rfl | rfl <;> rfl) (by simpa using hj) hd (fun H1 locs1 hP1 hD1 hS1 => ?_)
  rw [hset] at hP1 hD1
  exact kk ad D cs A p l e R s m args below meth c cells slots Z C hret H1 locs1 lsC (hH.put h41 hP1 hD1 hS1) (hS.trans hS1) hL
theorem g_putL {K : Nat} {M : Meth} {pc : Nat} {ls : List (Option AV)} {st : List AV} {σ : Mem} {Q : Option AV → Mem → Prop} {idx ci j k : Nat} {x ji : Int} {fk : List Nat} (hj : (j : Int) = ji) (hd : decode (mC M) pc = .ok (.putfield idx, 3)) (hl : FW (mN M).cls idx ci j .long) (hs : sh k = .inl (ci, fk)) (hf : fk[j]? = some 1) (hk : k < K) (h41 : k < 41) (kk : Go K M (pc + 3) ls st (up σ k ji x) Q) : Go K M pc ls (aL x :: aR k :: st) σ Q := by
  intro ad D cs A p l e R s m args below meth c cells slots Z C hret H locs lsC hH hS hL
  subst hj
  obtain ⟨C1, T, N, ty, h1, h2, h3, h4, h5, h6, h7, h8⟩ := hl
  have he : (wd ad cs σ K)[k]? = some (ad k, .inr (ci, (List.range fk.length).map fun j => fv ad (σ k) j (fk.getD j 0))) := by rw [wd_at hk, hs]; rfl
  have hj : j < fk.length := (List.getElem?_eq_some_iff.mp hf).1
  have hset : (wd ad cs σ K).set k (ad k, .inr (ci, ((List.range fk.length).map fun j => fv ad (σ k) j (fk.getD j 0)).set j (.long (Int64.ofInt x)))) = wd ad cs (up σ k j x) K := by
    apply wd_set
    rw [hs]
    show Sum.inr (ci, _) = Sum.inr (ci, _)
    congr 2
    apply List.ext_getElem?
    intro i
    rw [List.getElem?_set]
    by_cases hi : i < fk.length
    · rw [List.getElem?_map, List.getElem?_map, List.getElem?_range hi]
      by_cases hij : j = i
      · subst hij
        have hg : fk.getD j 0 = 1 := by simp [List.getD, hf]
        simp only [Option.map_some, if_true, List.length_map, List.length_range, hi, hg, fv, up_same]
      · rw [if_neg hij]
        have hne : ((i : Nat) : Int) ≠ ((j : Nat) : Int) := by omega
        simp only [Option.map_some]
        congr 1
        cases hq : fk.getD i 0 with
        | zero => simp only [fv]; rw [up_ne (Or.inr hne)]
        | succ q =>
          cases q with
          | zero => simp only [fv]; rw [up_ne (Or.inr hne)]
          | succ q => rfl
    · have hij : j ≠ i := by omega
      rw [if_neg hij]
      simp [hi]
  refine va_put (C := C1) (T := T) (N := N) (ty := .long) (v := .long (Int64.ofInt x)) C.1 C.2.1 C.2.2.2.2.1 h3 ty h4 h5 C.2.2.2.1 hH.1 hH.2.1 hH.2.2.1 hS.here k he h1 j h2 (C.2.2.2.2.1 _ h6) (fun x hx => hx) h7 (by rw [h4 j h2, h8]) rfl rfl (by simpa using hj) hd (fun H1 locs1 hP1 hD1 hS1 => ?_)
  rw [hset] at hP1 hD1
  exact kk ad D cs A p l e R s m args below meth c cells slots Z C hret H1 locs1 lsC (hH.put h41 hP1 hD1 hS1) (hS.trans hS1) hL
theorem vp_in_i {i : Int} {n : Nat} (h0 : 0 ≤ i) (h1 : i < n) (hn : n < 2 ^ 31) : vp_in (Int32.ofInt i) n := by
  rw [vp_in_iff, i32_to (by constructor <;> omega)]
  exact ⟨h0, h1⟩
theorem clamp_i {i : Int} {n : Nat} (h0 : 0 ≤ i) (h1 : i < n) (hn : n < 2 ^ 31) : (((Int32.ofInt i).toNatClampNeg : Nat) : Int) = i := by
  have h : (Int32.ofInt i).toInt = i := i32_to (by constructor <;> omega)
  unfold Int32.toNatClampNeg
  rw [h]
  omega
theorem g_iaload {K : Nat} {M : Meth} {pc : Nat} {ls : List (Option AV)} {st : List AV} {σ : Mem} {Q : Option AV → Mem → Prop} {k n : Nat} {i : Int} {rs : List Nat} (hd : decode (mC M) pc = .ok (.iaload, 1)) (hs : sh k = .inr (0, n, rs)) (hk : k < K) (h0 : 0 ≤ i) (h1 : i < n) (hn : n < 2 ^ 31) (kk : Go K M (pc + 1) ls (aI (σ k i) :: st) σ Q) : Go K M pc ls (aI i :: aR k :: st) σ Q := by
  intro ad D cs A p l e R s m args below meth c cells slots Z C hret H locs lsC hH hS hL
  have he : (wd ad cs σ K)[k]? = some (ad k, .inl (cs.1, n, .inl (fun j => Int32.ofInt (σ k j)))) := by rw [wd_at hk, hs]; rfl
  refine va_iald C.1 C.2.1 hH.1 hH.2.1 k 0 he rfl (vp_in_i h0 h1 hn) hd ?_
  rw [clamp_i h0 h1 hn]
  exact kk ad D cs A p l e R s m args below meth c cells slots Z C hret H locs lsC hH hS hL
theorem g_laload {K : Nat} {M : Meth} {pc : Nat} {ls : List (Option AV)} {st : List AV} {σ : Mem} {Q : Option AV → Mem → Prop} {k n : Nat} {i : Int} {rs : List Nat} (hd : decode (mC M) pc = .ok (.laload, 1)) (hs : sh k = .inr (1, n, rs)) (hk : k < K) (h0 : 0 ≤ i) (h1 : i < n) (hn : n < 2 ^ 31) (kk : Go K M (pc + 1) ls (aL (σ k i) :: st) σ Q) : Go K M pc ls (aI i :: aR k :: st) σ Q := by
  intro ad D cs A p l e R s m args below meth c cells slots Z C hret H locs lsC hH hS hL
  have he : (wd ad cs σ K)[k]? = some (ad k, .inl (cs.2.1, n, .inr (.inl (fun j => Int64.ofInt (σ k j))))) := by rw [wd_at hk, hs]; rfl
  refine va_lald C.1 C.2.1 hH.1 hH.2.1 k 1 he rfl (vp_in_i h0 h1 hn) hd ?_
  rw [clamp_i h0 h1 hn]
  exact kk ad D cs A p l e R s m args below meth c cells slots Z C hret H locs lsC hH hS hL
theorem g_iastore {K : Nat} {M : Meth} {pc : Nat} {ls : List (Option AV)} {st : List AV} {σ : Mem} {Q : Option AV → Mem → Prop} {k n : Nat} {i x : Int} {rs : List Nat} (hd : decode (mC M) pc = .ok (.iastore, 1)) (hs : sh k = .inr (0, n, rs)) (hk : k < K) (h41 : k < 41) (h0 : 0 ≤ i) (h1 : i < n) (hn : n < 2 ^ 31) (kk : Go K M (pc + 1) ls st (up σ k i x) Q) : Go K M pc ls (aI x :: aI i :: aR k :: st) σ Q := by
  intro ad D cs A p l e R s m args below meth c cells slots Z C hret H locs lsC hH hS hL
  have he : (wd ad cs σ K)[k]? = some (ad k, .inl (cs.1, n, .inl (fun j => Int32.ofInt (σ k j)))) := by rw [wd_at hk, hs]; rfl
  have hset : (wd ad cs σ K).set k (ad k, .inl (cs.1, n, .inl (upd (fun j : Nat => Int32.ofInt (σ k j)) (Int32.ofInt i).toNatClampNeg (Int32.ofInt x)))) = wd ad cs (up σ k i x) K := by
    apply wd_set
    rw [hs]
    simp only [en]
    congr 4
    funext j
    have hc := clamp_i h0 h1 hn
    unfold upd
    by_cases hj : j = (Int32.ofInt i).toNatClampNeg
    · rw [if_pos hj, hj, hc, up_same]
    · rw [if_neg hj, up_ne (Or.inr (by omega))]
  refine va_iast C.1 C.2.1 hH.1 hH.2.1 hH.2.2.1 hS.here k 0 he rfl (vp_in_i h0 h1 hn) hd (fun H1 locs1 hP1 hD1 hS1 => ?_)
  rw [hset] at hP1 hD1
  exact kk ad D cs A p l e R s m args below meth c cells slots Z C hret H1 locs1 lsC (hH.put h41 hP1 hD1 hS1) (hS.trans hS1) hL
theorem g_lastore {K : Nat} {M : Meth} {pc : Nat} {ls : List (Option AV)} {st : List AV} {σ : Mem} {Q : Option AV → Mem → Prop} {k n : Nat} {i x : Int} {rs : List Nat} (hd : decode (mC M) pc = .ok (.lastore, 1)) (hs : sh k = .inr (1, n, rs)) (hk : k < K) (h41 : k < 41) (h0 : 0 ≤ i) (h1 : i < n) (hn : n < 2 ^ 31) (kk : Go K M (pc + 1) ls st (up σ k i x) Q) : Go K M pc ls (aL x :: aI i :: aR k :: st) σ Q := by
  intro ad D cs A p l e R s m args below meth c cells slots Z C hret H locs lsC hH hS hL
  have he : (wd ad cs σ K)[k]? = some (ad k, .inl (cs.2.1, n, .inr (.inl (fun j => Int64.ofInt (σ k j))))) := by rw [wd_at hk, hs]; rfl
  have hset : (wd ad cs σ K).set k (ad k, .inl (cs.2.1, n, .inr (.inl (vp_updL (fun j : Nat => Int64.ofInt (σ k j)) (Int32.ofInt i).toNatClampNeg (Int64.ofInt x))))) = wd ad cs (up σ k i x) K := by
    apply wd_set
    rw [hs]
    simp only [en]
    congr 5
    funext j
    have hc := clamp_i h0 h1 hn
    unfold vp_updL
    by_cases hj : j = (Int32.ofInt i).toNatClampNeg
    · rw [if_pos hj, hj, hc, up_same]
    · rw [if_neg hj, up_ne (Or.inr (by omega))]
  refine va_last C.1 C.2.1 hH.1 hH.2.1 hH.2.2.1 hS.here k 1 he rfl (vp_in_i h0 h1 hn) hd (fun H1 locs1 hP1 hD1 hS1 => ?_)
  rw [hset] at hP1 hD1
  exact kk ad D cs A p l e R s m args below meth c cells slots Z C hret H1 locs1 lsC (hH.put h41 hP1 hD1 hS1) (hS.trans hS1) hL
theorem g_aaload {K : Nat} {M : Meth} {pc : Nat} {ls : List (Option AV)} {st : List AV} {σ : Mem} {Q : Option AV → Mem → Prop} {k n q : Nat} {i : Int} {rs : List Nat} (hd : decode (mC M) pc = .ok (.aaload, 1)) (hs : sh k = .inr (2, n, rs)) (hk : k < K) (h0 : 0 ≤ i) (h1 : i < n) (hn : n < 2 ^ 31) (hr : rs.getD i.toNat 0 = q) (kk : Go K M (pc + 1) ls (aR q :: st) σ Q) : Go K M pc ls (aI i :: aR k :: st) σ Q := by
  intro ad D cs A p l e R s m args below meth c cells slots Z C hret H locs lsC hH hS hL
  have he : (wd ad cs σ K)[k]? = some (ad k, .inl (cs.2.2, n, .inr (.inr (.inr (.inr (fun i => if i < n then some (ad (rs.getD i 0)) else none)))))) := by rw [wd_at hk, hs]; rfl
  have hc := clamp_i h0 h1 hn
  have hlt : (Int32.ofInt i).toNatClampNeg < n := by omega
  have hin := vp_in_i h0 h1 hn
  have e1 : i.toNat = (Int32.ofInt i).toNatClampNeg := by omega
  refine W.aald (v := .ref (ad q)) (ty := .array .int) C.1 C.2.1 (hH.2.1 k _ he) ((hH.1.2 2 _ rfl).1 n (fun j => va_rf ((fun i => if i < n then some (ad (rs.getD i 0)) else none) j))) rfl (fun q => by cases q) (by show ¬ (Int32.ofInt i < 0 ∨ (arrV _ _ _).slots.size ≤ _); rw [arrV_size]; exact hin) (by show (arrV _ _ _).slots[_]? = _; rw [arrV_read _ _ hlt]; simp only [hlt, if_true, va_rf]; rw [← hr, e1]) rfl rfl hd ?_
  exact kk ad D cs A p l e R s m args below meth c cells slots Z C hret H locs lsC hH hS hL
theorem g_roload {K : Nat} {M : Meth} {pc : Nat} {ls : List (Option AV)} {st : List AV} {σ : Mem} {Q : Option AV → Mem → Prop} {k : Nat} {i : Int} (hd : decode (mC M) pc = .ok (.iaload, 1)) (hk : 100 ≤ k) (hk2 : k < 105) (h0 : 0 ≤ i) (h1 : i < σ (k + 100) 0) (kk : Go K M (pc + 1) ls (aI (σ k i) :: st) σ Q) : Go K M pc ls (aI i :: aR k :: st) σ Q := by
  intro ad D cs A p l e R s m args below meth c cells slots Z C hret H locs lsC hH hS hL
  obtain ⟨L, a1, a2, a3, a4, a5⟩ := hH.2.2.2.1 k hk hk2
  rw [← a2] at h1
  refine va_sld C.1 C.2.1 a1 a4 a5 hS.here (vp_in_i h0 h1 a3) hd ?_
  rw [clamp_i h0 h1 a3]
  exact kk ad D cs A p l e R s m args below meth c cells slots Z C hret H locs lsC hH hS hL
theorem g_rolen {K : Nat} {M : Meth} {pc : Nat} {ls : List (Option AV)} {st : List AV} {σ : Mem} {Q : Option AV → Mem → Prop} {k : Nat} (hd : decode (mC M) pc = .ok (.arraylength, 1)) (hk : 100 ≤ k) (hk2 : k < 105) (kk : Go K M (pc + 1) ls (aI (σ (k + 100) 0) :: st) σ Q) : Go K M pc ls (aR k :: st) σ Q := by
  intro ad D cs A p l e R s m args below meth c cells slots Z C hret H locs lsC hH hS hL
  obtain ⟨L, a1, a2, a3, a4, a5⟩ := hH.2.2.2.1 k hk hk2
  refine va_slen C.1 C.2.1 a1 a4 a5 hS.here hd ?_
  have e1 : Int32.ofNat L = Int32.ofInt (σ (k + 100) 0) := by rw [← a2]; rfl
  rw [e1]
  exact kk ad D cs A p l e R s m args below meth c cells slots Z C hret H locs lsC hH hS hL
/-- a static array: which, by the pool of the class own -/
def SL (own : String) (idx t : Nat) : Prop := (own = RX5 ∧ idx = 37 ∧ t = 100) ∨ (own = RX5 ∧ idx = 40 ∧ t = 101) ∨ (own = RX1 ∧ idx = 63 ∧ t = 103) ∨ (t = 102 ∧ Cond.fieldLink own idx RX6 "ALSO" "[I" ∈ TW)
theorem g_getstatic {K : Nat} {M : Meth} {pc : Nat} {ls : List (Option AV)} {st : List AV} {σ : Mem} {Q : Option AV → Mem → Prop} {idx t : Nat} (hd : decode (mC M) pc = .ok (.getstatic idx, 3)) (hl : SL (mN M).cls idx t) (kk : Go K M (pc + 3) ls (aR t :: st) σ Q) : Go K M pc ls st σ Q := by
  intro ad D cs A p l e R s m args below meth c cells slots Z C hret H locs lsC hH hS hL
  have kk := kk ad D cs A p l e R s m args below meth c cells slots Z C hret H locs lsC hH hS hL
  obtain ⟨z1, z2, z3, z4⟩ := hH.2.2.2.2
  obtain ⟨n1, n2, n3, -⟩ := C.2.2.2.2.2.2
  have hown := C.2.2.2.1
  rcases hl with ⟨h1, h2, h3⟩ | ⟨h1, h2, h3⟩ | ⟨h1, h2, h3⟩ | ⟨h3, h4⟩
  · subst h2; subst h3
    rw [h1] at hown
    obtain ⟨cf, kf, fi, f, a, cell, q1, q2, q3, q4, q5, q6, q7, q8⟩ := z1
    exact va_WgetsN C.1 C.2.1 hown (n1.use rfl) q1 q2 q3 q4 q5 (fun e => by rw [e] at q6; cases q6) q7 rfl hd kk
  · subst h2; subst h3
    rw [h1] at hown
    obtain ⟨cf, kf, fi, f, a, cell, q1, q2, q3, q4, q5, q6, q7, q8⟩ := z2
    exact va_WgetsN C.1 C.2.1 hown (n2.use rfl) q1 q2 q3 q4 q5 (fun e => by rw [e] at q6; cases q6) q7 rfl hd kk
  · subst h2; subst h3
    rw [h1] at hown
    obtain ⟨cf, kf, fi, f, a, cell, q1, q2, q3, q4, q5, q6, q7, q8⟩ := z4
    exact va_WgetsN C.1 C.2.1 hown (n3.use rfl) q1 q2 q3 q4 q5 (fun e => by rw [e] at q6; cases q6) q7 rfl hd kk
  · subst h3
    obtain ⟨cf, kf, fi, f, a, cell, q1, q2, q3, q4, q5, q6, q7, q8⟩ := z3
    exact W.gets C.1 C.2.1 hown (C.2.2.2.2.1 _ h4) q1 q2 q3 q4 q5 (fun e => by rw [e] at q6; cases q6) q7 rfl hd kk
/-! calls -/
def MLc (M' : Meth) (n : Nat) : Prop := Cond.initialized (mN M').cls ∈ TW ∧ Cond.code (mN M') (mC M') (mX M') (mR M') ∈ TW ∧ ((mN M').cls ≠ "java/lang/invoke/MethodHandle" ∧ (mN M').cls ≠ "java/lang/invoke/VarHandle") ∧ (parseMethodDescriptor (mN M').desc).map (fun d => d.parameters.length) = some n ∧ mX M' ≤ 21
def MLV (own : String) (idx : Nat) (M' : Meth) (ci n : Nat) : Prop := MLc M' n ∧ (∃ q : vw_C, classes[ci]? = some q ∧ q.1 = (mN M').cls) ∧ Cond.methodLink own idx (mN M') ∈ TW ∧ Cond.instanceMethod (mN M') ∈ TW ∧ Cond.selects (mN M').cls (mN M') (mN M') ∈ TW
def MLS (own : String) (idx : Nat) (M' : Meth) (n : Nat) : Prop := MLc M' n ∧ Cond.static (mN M') ∈ TW ∧ (Cond.methodLink own idx (mN M') ∈ TW ∨ (own = RX5 ∧ idx = 33 ∧ mN M' = ⟨RX6, "lies", "(III)Z"⟩))
def stW (st : List AV) : Nat := (st.map fun v => match v with
  | .inr (.inr _) => 2
  | _ => 1).sum
theorem stW_eq (ad : Nat → Nat) : ∀ st : List AV, ((st.map (cv ad)).map fun v => v.category).sum = stW st
  | [] => rfl
  | .inl k :: st => by
    have := stW_eq ad st
    simp only [List.map_cons, List.sum_cons, stW, cv, Value.category] at this ⊢
    rw [this]
  | .inr (.inl k) :: st => by
    have := stW_eq ad st
    simp only [List.map_cons, List.sum_cons, stW, cv, Value.category] at this ⊢
    rw [this]
  | .inr (.inr k) :: st => by
    have := stW_eq ad st
    simp only [List.map_cons, List.sum_cons, stW, cv, Value.category] at this ⊢
    rw [this]
theorem g_after {K : Nat} {Q' : Option AV → Mem → Prop} {ad : Nat → Nat} {D : va_G} {cs : ClassId × ClassId × ClassId} {A : Nat → Prop} {p : Program} {l : Launch} {e : Env} {R : Room} {s : State} {m : MethodId} {args : Array Value} {below : List Frame} {meth : Method} {c : Code} {cells slots pc : Nat} {Z : State → Prop} {H : Heap} {locs : List Loc} {lsC : Array Slot} {st0 rest : List Value} {a : Array Value} {σ : Mem}
    (hr : va_Run p l e R s m args below meth c H locs cells slots 0 0 (F0 m pc lsC st0) rest (QcM ad D cs A K Q' a) A) (hH : HR ad D cs A K σ s H) (hS : va_S A s.heap H locs)
    (kk : ∀ (r : Option AV) (τ : Mem) (H1 : Heap) (locs1 : List Loc), Q' r τ → HR ad D cs A K τ s H1 → va_S A s.heap H1 locs1 → W p l e R s m args below meth c H1 locs1 cells slots Z (F0 m (pc + 3) lsC (r.toList.map (cv ad) ++ rest))) : W p l e R s m args below meth c H locs cells slots Z (F0 m pc lsC st0) := by
  intro T hT X
  obtain ⟨v, st₀, t, T', L, h0, X', hL, e1, e2, ⟨⟨r, τ, hq, hv, hb⟩, hz, hk⟩, st⟩ := hr T hT X
  have hvr : v = r.map (cv ad) := by simpa using hv
  subst hvr
  rw [h0] at hz hk
  have hvm : s.vm.Alike t.vm := by rw [← e2]; exact X'.warmed.alike
  have hH1 : HR ad D cs A K τ s T'.heap := by rw [e1]; exact HR.moved hvm.symm hb
  obtain ⟨t2, a1, b1⟩ := kk r τ T'.heap (locs ++ L) hq hH1
    ⟨Nat.le_trans hS.1 (by rw [e1]; exact hz), fun q h1 h2 => by rw [e1, hk q (Nat.lt_of_lt_of_le h1 hS.1) h2]; exact hS.2.1 q h1 h2, fun q hq => by
      rcases List.mem_append.mp hq with h | h
      · exact hS.2.2 q h
      · exact hL q h⟩ T' rfl X'
  refine ⟨t2, st t2 ?_, b1⟩
  have e3 : (r.map (cv ad)).toList = r.toList.map (cv ad) := by cases r <;> rfl
  rw [e3]
  exact a1
theorem g_callV {K : Nat} {M : Meth} {pc : Nat} {ls : List (Option AV)} {st : List AV} {σ : Mem} {Q : Option AV → Mem → Prop} {M' : Meth} {idx ci n k : Nat} {fk : List Nat} {as rest : List AV} {Q' : Option AV → Mem → Prop} (hd : decode (mC M) pc = .ok (.invokevirtual idx, 3)) (hl : MLV (mN M).cls idx M' ci n) (hs : sh k = .inl (ci, fk)) (hk : k < K) (hdp : mD M' < mD M) (hn : as.length = n) (hst : st = as.reverse ++ aR k :: rest) (hw : stW rest ≤ 8) (hR : Ret K M' (aR k :: as) σ Q') (kk : ∀ r τ, Q' r τ → Go K M (pc + 3) ls (r.toList ++ rest) τ Q) : Go K M pc ls st σ Q := by
  intro ad D cs A p l e R s m args below meth c cells slots Z C hret H locs lsC hH hS hL
  obtain ⟨⟨h1, h2, h3, h4, h5⟩, ⟨q, hq1, hq2⟩, h6, h7, h8⟩ := hl
  have he : (wd ad cs σ K)[k]? = some (ad k, .inr (ci, (List.range fk.length).map fun j => fv ad (σ k) j (fk.getD j 0))) := by rw [wd_at hk, hs]; rfl
  obtain ⟨r1, r2, r3, r4⟩ := C.2.2.2.2.2.1
  have hts := C.2.2.2.2.1
  refine g_after (Q' := Q') (va_runV (C := (mN M').cls) (As := as.map (cv ad)) (rest := rest.map (cv ad)) (b := ad k) (n := n) ⟨C.1, C.2.1, C.2.2.1, C.2.2.2.1, hts⟩ (hR l ad D cs A) ⟨callB_of n hts (wsM_good h2) rfl rfl rfl (hts _ h1) (hts _ h6) ⟨h3.1, h3.2, h4⟩ ⟨by show mD M' + 1 ≤ R.frames; omega, by show 8 + (mX M' + 11) + 40 * mD M' ≤ R.locals; omega⟩, hts _ h7, hts _ h8⟩ ⟨PcM_blind ad D cs A K _ σ, ?_, fun U hU hW => ⟨rfl, by rw [hU]; exact HR.moved hW.alike hH, C.2.2.2.2.2.2.warm hW⟩⟩ rfl (by simpa using hn) hL.1 (by rw [hst]; simp [cv]) (lv_room (by rw [stW_eq]; exact hw)) hd ⟨by omega, by omega⟩) hH hS (fun r τ H1 locs1 hq hH1 hS1 => ?_)
  · have hv := va_recv hH.1 hH.2.1 hq1 he
    rwa [hq2] at hv
  · have := kk r τ hq ad D cs A p l e R s m args below meth c cells slots Z C hret H1 locs1 lsC hH1 hS1 hL
    rwa [List.map_append] at this
theorem g_callS {K : Nat} {M : Meth} {pc : Nat} {ls : List (Option AV)} {st : List AV} {σ : Mem} {Q : Option AV → Mem → Prop} {M' : Meth} {idx n : Nat} {as rest : List AV} {Q' : Option AV → Mem → Prop} (hd : decode (mC M) pc = .ok (.invokestatic idx, 3)) (hl : MLS (mN M).cls idx M' n) (hdp : mD M' < mD M) (hn : as.length = n) (hst : st = as.reverse ++ rest) (hw : stW rest ≤ 8) (hR : Ret K M' as σ Q') (kk : ∀ r τ, Q' r τ → Go K M (pc + 3) ls (r.toList ++ rest) τ Q) : Go K M pc ls st σ Q := by
  intro ad D cs A p l e R s m args below meth c cells slots Z C hret H locs lsC hH hS hL
  obtain ⟨⟨h1, h2, h3, h4, h5⟩, h6, h7⟩ := hl
  obtain ⟨r1, r2, r3, r4⟩ := C.2.2.2.2.2.1
  have hts := C.2.2.2.2.1
  have hkk : ∀ (r : Option AV) (τ : Mem) (H1 : Heap) (locs1 : List Loc), Q' r τ → HR ad D cs A K τ s H1 → va_S A s.heap H1 locs1 → W p l e R s m args below meth c H1 locs1 cells slots Z (F0 m (pc + 3) lsC (r.toList.map (cv ad) ++ rest.map (cv ad))) := fun r τ H1 locs1 hq hH1 hS1 => by
    have := kk r τ hq ad D cs A p l e R s m args below meth c cells slots Z C hret H1 locs1 lsC hH1 hS1 hL
    rwa [List.map_append] at this
  rcases h7 with h7 | ⟨e1, e2, e3⟩
  · exact g_after (Q' := Q') (va_runS (As := as.map (cv ad)) (rest := rest.map (cv ad)) (n := n) ⟨C.1, C.2.1, C.2.2.1, C.2.2.2.1, hts⟩ (hR l ad D cs A) ⟨callB_of n hts (wsM_good h2) rfl rfl rfl (hts _ h1) (hts _ h7) ⟨h3.1, h3.2, h4⟩ ⟨by show mD M' + 1 ≤ R.frames; omega, by show 8 + (mX M' + 11) + 40 * mD M' ≤ R.locals; omega⟩, hts _ h6⟩ ⟨PcM_blind ad D cs A K _ σ, fun U hU hW => ⟨rfl, by rw [hU]; exact HR.moved hW.alike hH, C.2.2.2.2.2.2.warm hW⟩⟩ rfl (by simpa using hn) hL.1 (by rw [hst]; simp) (lv_room (by rw [stW_eq]; exact hw)) hd ⟨by omega, by omega⟩) hH hS hkk
  · have hown := C.2.2.2.1
    rw [e1] at hown
    subst e2
    exact g_after (Q' := Q') (va_runSN (host := RX6) (As := as.map (cv ad)) (rest := rest.map (cv ad)) (n := n) ⟨C.1, C.2.1, C.2.2.1, hown, hts⟩ (hR l ad D cs A) ⟨va_cnB n hts (wsM_good h2) rfl rfl rfl (by rw [e3]; exact C.2.2.2.2.2.2.2.2.2) (hts _ h1) ⟨h3.1, h3.2, h4⟩ ⟨by show mD M' + 1 ≤ R.frames; omega, by show 8 + (mX M' + 11) + 40 * mD M' ≤ R.locals; omega⟩, hts _ h6, trivial⟩ ⟨PcM_blind ad D cs A K _ σ, fun U hU hW => ⟨rfl, by rw [hU]; exact HR.moved hW.alike hH, C.2.2.2.2.2.2.warm hW⟩⟩ rfl (by simpa using hn) hL.1 (by rw [hst]; simp) (lv_room (by rw [stW_eq]; exact hw)) hd ⟨by omega, by omega⟩) hH hS hkk
theorem g_cV0 {K : Nat} {M : Meth} {pc : Nat} {ls : List (Option AV)} {st : List AV} {σ : Mem} {Q : Option AV → Mem → Prop} {M' : Meth} {idx ci k : Nat} {fk : List Nat} {Q' : Option AV → Mem → Prop} (hd : decode (mC M) pc = .ok (.invokevirtual idx, 3)) (hl : MLV (mN M).cls idx M' ci 0) (hs : sh k = .inl (ci, fk)) (hk : k < K) (hdp : mD M' < mD M) (hw : stW st ≤ 8) (hR : Ret K M' [aR k] σ Q') (kk : ∀ r τ, Q' r τ → Go K M (pc + 3) ls (r.toList ++ st) τ Q) : Go K M pc ls (aR k :: st) σ Q := g_callV hd hl hs hk hdp (as := []) rfl rfl hw hR kk
theorem g_pV0 {K : Nat} {M : Meth} {pc : Nat} {ls : List (Option AV)} {st : List AV} {σ : Mem} {Q : Option AV → Mem → Prop} {M' : Meth} {idx ci k : Nat} {fk : List Nat} {v : AV} (hd : decode (mC M) pc = .ok (.invokevirtual idx, 3)) (hl : MLV (mN M).cls idx M' ci 0) (hs : sh k = .inl (ci, fk)) (hk : k < K) (hdp : mD M' < mD M) (hw : stW st ≤ 8) (hR : RetV K M' [aR k] σ v) (kk : Go K M (pc + 3) ls (v :: st) σ Q) : Go K M pc ls (aR k :: st) σ Q := g_callV hd hl hs hk hdp (as := []) rfl rfl hw hR (fun r τ h => by obtain ⟨rfl, rfl⟩ := h; exact kk)
theorem g_cV1 {K : Nat} {M : Meth} {pc : Nat} {ls : List (Option AV)} {st : List AV} {σ : Mem} {Q : Option AV → Mem → Prop} {a : AV} {M' : Meth} {idx ci k : Nat} {fk : List Nat} {Q' : Option AV → Mem → Prop} (hd : decode (mC M) pc = .ok (.invokevirtual idx, 3)) (hl : MLV (mN M).cls idx M' ci 1) (hs : sh k = .inl (ci, fk)) (hk : k < K) (hdp : mD M' < mD M) (hw : stW st ≤ 8) (hR : Ret K M' [aR k, a] σ Q') (kk : ∀ r τ, Q' r τ → Go K M (pc + 3) ls (r.toList ++ st) τ Q) : Go K M pc ls (a :: aR k :: st) σ Q := g_callV hd hl hs hk hdp (as := [a]) rfl rfl hw hR kk
theorem g_pV1 {K : Nat} {M : Meth} {pc : Nat} {ls : List (Option AV)} {st : List AV} {σ : Mem} {Q : Option AV → Mem → Prop} {a : AV} {M' : Meth} {idx ci k : Nat} {fk : List Nat} {v : AV} (hd : decode (mC M) pc = .ok (.invokevirtual idx, 3)) (hl : MLV (mN M).cls idx M' ci 1) (hs : sh k = .inl (ci, fk)) (hk : k < K) (hdp : mD M' < mD M) (hw : stW st ≤ 8) (hR : RetV K M' [aR k, a] σ v) (kk : Go K M (pc + 3) ls (v :: st) σ Q) : Go K M pc ls (a :: aR k :: st) σ Q := g_callV hd hl hs hk hdp (as := [a]) rfl rfl hw hR (fun r τ h => by obtain ⟨rfl, rfl⟩ := h; exact kk)
theorem g_cV2 {K : Nat} {M : Meth} {pc : Nat} {ls : List (Option AV)} {st : List AV} {σ : Mem} {Q : Option AV → Mem → Prop} {a b : AV} {M' : Meth} {idx ci k : Nat} {fk : List Nat} {Q' : Option AV → Mem → Prop} (hd : decode (mC M) pc = .ok (.invokevirtual idx, 3)) (hl : MLV (mN M).cls idx M' ci 2) (hs : sh k = .inl (ci, fk)) (hk : k < K) (hdp : mD M' < mD M) (hw : stW st ≤ 8) (hR : Ret K M' [aR k, a, b] σ Q') (kk : ∀ r τ, Q' r τ → Go K M (pc + 3) ls (r.toList ++ st) τ Q) : Go K M pc ls (b :: a :: aR k :: st) σ Q := g_callV hd hl hs hk hdp (as := [a, b]) rfl rfl hw hR kk
theorem g_pV2 {K : Nat} {M : Meth} {pc : Nat} {ls : List (Option AV)} {st : List AV} {σ : Mem} {Q : Option AV → Mem → Prop} {a b : AV} {M' : Meth} {idx ci k : Nat} {fk : List Nat} {v : AV} (hd : decode (mC M) pc = .ok (.invokevirtual idx, 3)) (hl : MLV (mN M).cls idx M' ci 2) (hs : sh k = .inl (ci, fk)) (hk : k < K) (hdp : mD M' < mD M) (hw : stW st ≤ 8) (hR : RetV K M' [aR k, a, b] σ v) (kk : Go K M (pc + 3) ls (v :: st) σ Q) : Go K M pc ls (b :: a :: aR k :: st) σ Q := g_callV hd hl hs hk hdp (as := [a, b]) rfl rfl hw hR (fun r τ h => by obtain ⟨rfl, rfl⟩ := h; exact kk)
theorem g_cV3 {K : Nat} {M : Meth} {pc : Nat} {ls : List (Option AV)} {st : List AV} {σ : Mem} {Q : Option AV → Mem → Prop} {a b c : AV} {M' : Meth} {idx ci k : Nat} {fk : List Nat} {Q' : Option AV → Mem → Prop} (hd : decode (mC M) pc = .ok (.invokevirtual idx, 3)) (hl : MLV (mN M).cls idx M' ci 3) (hs : sh k = .inl (ci, fk)) (hk : k < K) (hdp : mD M' < mD M) (hw : stW st ≤ 8) (hR : Ret K M' [aR k, a, b, c] σ Q') (kk : ∀ r τ, Q' r τ → Go K M (pc + 3) ls (r.toList ++ st) τ Q) : Go K M pc ls (c :: b :: a :: aR k :: st) σ Q := g_callV hd hl hs hk hdp (as := [a, b, c]) rfl rfl hw hR kk
theorem g_pV3 {K : Nat} {M : Meth} {pc : Nat} {ls : List (Option AV)} {st : List AV} {σ : Mem} {Q : Option AV → Mem → Prop} {a b c : AV} {M' : Meth} {idx ci k : Nat} {fk : List Nat} {v : AV} (hd : decode (mC M) pc = .ok (.invokevirtual idx, 3)) (hl : MLV (mN M).cls idx M' ci 3) (hs : sh k = .inl (ci, fk)) (hk : k < K) (hdp : mD M' < mD M) (hw : stW st ≤ 8) (hR : RetV K M' [aR k, a, b, c] σ v) (kk : Go K M (pc + 3) ls (v :: st) σ Q) : Go K M pc ls (c :: b :: a :: aR k :: st) σ Q := g_callV hd hl hs hk hdp (as := [a, b, c]) rfl rfl hw hR (fun r τ h => by obtain ⟨rfl, rfl⟩ := h; exact kk)
theorem g_cV4 {K : Nat} {M : Meth} {pc : Nat} {ls : List (Option AV)} {st : List AV} {σ : Mem} {Q : Option AV → Mem → Prop} {a b c d : AV} {M' : Meth} {idx ci k : Nat} {fk : List Nat} {Q' : Option AV → Mem → Prop} (hd : decode (mC M) pc = .ok (.invokevirtual idx, 3)) (hl : MLV (mN M).cls idx M' ci 4) (hs : sh k = .inl (ci, fk)) (hk : k < K) (hdp : mD M' < mD M) (hw : stW st ≤ 8) (hR : Ret K M' [aR k, a, b, c, d] σ Q') (kk : ∀ r τ, Q' r τ → Go K M (pc + 3) ls (r.toList ++ st) τ Q) : Go K M pc ls (d :: c :: b :: a :: aR k :: st) σ Q := g_callV hd hl hs hk hdp (as := [a, b, c, d]) rfl rfl hw hR kk
theorem g_pV4 {K : Nat} {M : Meth} {pc : Nat} {ls : List (Option AV)} {st : List AV} {σ : Mem} {Q : Option AV → Mem → Prop} {a b c d : AV} {M' : Meth} {idx ci k : Nat} {fk : List Nat} {v : AV} (hd : decode (mC M) pc = .ok (.invokevirtual idx, 3)) (hl : MLV (mN M).cls idx M' ci 4) (hs : sh k = .inl (ci, fk)) (hk : k < K) (hdp : mD M' < mD M) (hw : stW st ≤ 8) (hR : RetV K M' [aR k, a, b, c, d] σ v) (kk : Go K M (pc + 3) ls (v :: st) σ Q) : Go K M pc ls (d :: c :: b :: a :: aR k :: st) σ Q := g_callV hd hl hs hk hdp (as := [a, b, c, d]) rfl rfl hw hR (fun r τ h => by obtain ⟨rfl, rfl⟩ := h; exact kk)
theorem g_pS1 {K : Nat} {M : Meth} {pc : Nat} {ls : List (Option AV)} {st : List AV} {σ : Mem} {Q : Option AV → Mem → Prop} {a : AV} {M' : Meth} {idx : Nat} {v : AV} (hd : decode (mC M) pc = .ok (.invokestatic idx, 3)) (hl : MLS (mN M).cls idx M' 1) (hdp : mD M' < mD M) (hw : stW st ≤ 8) (hR : RetV K M' [a] σ v) (kk : Go K M (pc + 3) ls (v :: st) σ Q) : Go K M pc ls (a :: st) σ Q := g_callS hd hl hdp (as := [a]) rfl rfl hw hR (fun r τ h => by obtain ⟨rfl, rfl⟩ := h; exact kk)
theorem g_pS2 {K : Nat} {M : Meth} {pc : Nat} {ls : List (Option AV)} {st : List AV} {σ : Mem} {Q : Option AV → Mem → Prop} {a b : AV} {M' : Meth} {idx : Nat} {v : AV} (hd : decode (mC M) pc = .ok (.invokestatic idx, 3)) (hl : MLS (mN M).cls idx M' 2) (hdp : mD M' < mD M) (hw : stW st ≤ 8) (hR : RetV K M' [a, b] σ v) (kk : Go K M (pc + 3) ls (v :: st) σ Q) : Go K M pc ls (b :: a :: st) σ Q := g_callS hd hl hdp (as := [a, b]) rfl rfl hw hR (fun r τ h => by obtain ⟨rfl, rfl⟩ := h; exact kk)
theorem g_pS3 {K : Nat} {M : Meth} {pc : Nat} {ls : List (Option AV)} {st : List AV} {σ : Mem} {Q : Option AV → Mem → Prop} {a b c : AV} {M' : Meth} {idx : Nat} {v : AV} (hd : decode (mC M) pc = .ok (.invokestatic idx, 3)) (hl : MLS (mN M).cls idx M' 3) (hdp : mD M' < mD M) (hw : stW st ≤ 8) (hR : RetV K M' [a, b, c] σ v) (kk : Go K M (pc + 3) ls (v :: st) σ Q) : Go K M pc ls (c :: b :: a :: st) σ Q := g_callS hd hl hdp (as := [a, b, c]) rfl rfl hw hR (fun r τ h => by obtain ⟨rfl, rfl⟩ := h; exact kk)
theorem g_iret {K : Nat} {M : Meth} {pc : Nat} {ls : List (Option AV)} {σ : Mem} {Q : Option AV → Mem → Prop} {x : Int} (hd : decode (mC M) pc = .ok (.ireturn, 1)) (hr : rOK (mR M) (some (aI x))) (hq : Q (some (aI x)) σ) : Go K M pc ls [aI x] σ Q := by
  intro ad D cs A p l e R s m args below meth c cells slots Z C hret H locs lsC hH hS hL
  exact hret _ _ H locs lsC pc hq hr hd hH hS
theorem g_lret {K : Nat} {M : Meth} {pc : Nat} {ls : List (Option AV)} {σ : Mem} {Q : Option AV → Mem → Prop} {x : Int} (hd : decode (mC M) pc = .ok (.lreturn, 1)) (hr : rOK (mR M) (some (aL x))) (hq : Q (some (aL x)) σ) : Go K M pc ls [aL x] σ Q := by
  intro ad D cs A p l e R s m args below meth c cells slots Z C hret H locs lsC hH hS hL
  exact hret _ _ H locs lsC pc hq hr hd hH hS
theorem g_vret {K : Nat} {M : Meth} {pc : Nat} {ls : List (Option AV)} {σ : Mem} {Q : Option AV → Mem → Prop} (hd : decode (mC M) pc = .ok (.return_, 1)) (hr : rOK (mR M) none) (hq : Q none σ) : Go K M pc ls [] σ Q := by
  intro ad D cs A p l e R s m args below meth c cells slots Z C hret H locs lsC hH hS hL
  exact hret _ _ H locs lsC pc hq hr hd hH hS
end
section
theorem wkX0 : ∀ w ∈ u_ws RX0 TX0 9, w ∈ TW := fun w h => List.mem_filter.mpr ⟨(by decide +kernel : ∀ w ∈ u_ws RX0 TX0 9, w ∈ lw_tbl) w h, (by decide +kernel : ∀ w ∈ u_ws RX0 TX0 9, goodWord w = true) w h⟩
theorem wkX1 : ∀ w ∈ u_ws RX1 TX1 4, w ∈ TW := fun w h => List.mem_filter.mpr ⟨(by decide +kernel : ∀ w ∈ u_ws RX1 TX1 4, w ∈ lw_tbl) w h, (by decide +kernel : ∀ w ∈ u_ws RX1 TX1 4, goodWord w = true) w h⟩
theorem wkX2 : ∀ w ∈ u_ws RX2 TX2 4, w ∈ TW := fun w h => List.mem_filter.mpr ⟨(by decide +kernel : ∀ w ∈ u_ws RX2 TX2 4, w ∈ lw_tbl) w h, (by decide +kernel : ∀ w ∈ u_ws RX2 TX2 4, goodWord w = true) w h⟩
theorem wkX3 : ∀ w ∈ u_ws RX3 TX3 2, w ∈ TW := fun w h => List.mem_filter.mpr ⟨(by decide +kernel : ∀ w ∈ u_ws RX3 TX3 2, w ∈ lw_tbl) w h, (by decide +kernel : ∀ w ∈ u_ws RX3 TX3 2, goodWord w = true) w h⟩
theorem wkX4 : ∀ w ∈ u_ws RX4 TX4 3, w ∈ TW := fun w h => List.mem_filter.mpr ⟨(by decide +kernel : ∀ w ∈ u_ws RX4 TX4 3, w ∈ lw_tbl) w h, (by decide +kernel : ∀ w ∈ u_ws RX4 TX4 3, goodWord w = true) w h⟩
theorem wkX5 : ∀ w ∈ u_ws RX5 TX5 6, w ∈ TW := fun w h => List.mem_filter.mpr ⟨(by decide +kernel : ∀ w ∈ u_ws RX5 TX5 6, w ∈ lw_tbl) w h, (by decide +kernel : ∀ w ∈ u_ws RX5 TX5 6, goodWord w = true) w h⟩
theorem wkX6 : ∀ w ∈ u_ws RX6 TX6 7, w ∈ TW := fun w h => List.mem_filter.mpr ⟨(by decide +kernel : ∀ w ∈ u_ws RX6 TX6 7, w ∈ lw_tbl) w h, (by decide +kernel : ∀ w ∈ u_ws RX6 TX6 7, goodWord w = true) w h⟩
theorem wkX7 : ∀ w ∈ u_ws RX7 TX7 22, w ∈ TW := fun w h => List.mem_filter.mpr ⟨(by decide +kernel : ∀ w ∈ u_ws RX7 TX7 22, w ∈ lw_tbl) w h, (by decide +kernel : ∀ w ∈ u_ws RX7 TX7 22, goodWord w = true) w h⟩
theorem fX6_10 : FL RX6 10 6 0 := ⟨RX6, TX6, 7, tyX6, rfl, by decide, wkX6, tyX6_ok, nmX6, TW_of 222 (by decide +kernel) (by decide +kernel)⟩
theorem fX6_19 : FL RX6 19 6 1 := ⟨RX6, TX6, 7, tyX6, rfl, by decide, wkX6, tyX6_ok, nmX6, TW_of 223 (by decide +kernel) (by decide +kernel)⟩
theorem fX6_23 : FL RX6 23 6 2 := ⟨RX6, TX6, 7, tyX6, rfl, by decide, wkX6, tyX6_ok, nmX6, TW_of 224 (by decide +kernel) (by decide +kernel)⟩
theorem fX6_32 : FL RX6 32 6 3 := ⟨RX6, TX6, 7, tyX6, rfl, by decide, wkX6, tyX6_ok, nmX6, TW_of 225 (by decide +kernel) (by decide +kernel)⟩
theorem fX6_41 : FL RX6 41 6 4 := ⟨RX6, TX6, 7, tyX6, rfl, by decide, wkX6, tyX6_ok, nmX6, TW_of 226 (by decide +kernel) (by decide +kernel)⟩
theorem fX6_48 : FL RX6 48 6 5 := ⟨RX6, TX6, 7, tyX6, rfl, by decide, wkX6, tyX6_ok, nmX6, TW_of 227 (by decide +kernel) (by decide +kernel)⟩
theorem fX6_55 : FL RX6 55 6 6 := ⟨RX6, TX6, 7, tyX6, rfl, by decide, wkX6, tyX6_ok, nmX6, TW_of 228 (by decide +kernel) (by decide +kernel)⟩
theorem vX6_64 : FW RX6 64 4 2 .int := ⟨RX4, TX4, 3, tyX4, rfl, by decide, wkX4, tyX4_ok, nmX4, TW_of 187 (by decide +kernel) (by decide +kernel), rfl, rfl⟩
theorem fX6_64 : FL RX6 64 4 2 := vX6_64.fl
theorem fX6_79 : FL RX6 79 5 0 := ⟨RX5, TX5, 6, tyX5, rfl, by decide, wkX5, tyX5_ok, nmX5, TW_of 94 (by decide +kernel) (by decide +kernel)⟩
theorem fX6_102 : FL RX6 102 3 1 := ⟨RX3, TX3, 2, tyX3, rfl, by decide, wkX3, tyX3_ok, nmX3, TW_of 78 (by decide +kernel) (by decide +kernel)⟩
theorem fX6_106 : FL RX6 106 3 0 := ⟨RX3, TX3, 2, tyX3, rfl, by decide, wkX3, tyX3_ok, nmX3, TW_of 76 (by decide +kernel) (by decide +kernel)⟩
theorem fX6_116 : FL RX6 116 5 2 := ⟨RX5, TX5, 6, tyX5, rfl, by decide, wkX5, tyX5_ok, nmX5, TW_of 99 (by decide +kernel) (by decide +kernel)⟩
theorem fX6_125 : FL RX6 125 5 1 := ⟨RX5, TX5, 6, tyX5, rfl, by decide, wkX5, tyX5_ok, nmX5, TW_of 97 (by decide +kernel) (by decide +kernel)⟩
theorem fX6_142 : FL RX6 142 5 3 := ⟨RX5, TX5, 6, tyX5, rfl, by decide, wkX5, tyX5_ok, nmX5, TW_of 101 (by decide +kernel) (by decide +kernel)⟩
theorem fX6_191 : FL RX6 191 2 2 := ⟨RX2, TX2, 4, tyX2, rfl, by decide, wkX2, tyX2_ok, nmX2, TW_of 165 (by decide +kernel) (by decide +kernel)⟩
theorem fX6_194 : FL RX6 194 4 0 := ⟨RX4, TX4, 3, tyX4, rfl, by decide, wkX4, tyX4_ok, nmX4, TW_of 183 (by decide +kernel) (by decide +kernel)⟩
theorem fX6_197 : FL RX6 197 4 1 := ⟨RX4, TX4, 3, tyX4, rfl, by decide, wkX4, tyX4_ok, nmX4, TW_of 185 (by decide +kernel) (by decide +kernel)⟩
theorem vX6_203 : FW RX6 203 5 5 .int := ⟨RX5, TX5, 6, tyX5, rfl, by decide, wkX5, tyX5_ok, nmX5, TW_of 108 (by decide +kernel) (by decide +kernel), rfl, rfl⟩
theorem fX6_203 : FL RX6 203 5 5 := vX6_203.fl
theorem vX6_217 : FW RX6 217 1 0 .int := ⟨RX1, TX1, 4, tyX1, rfl, by decide, wkX1, tyX1_ok, nmX1, TW_of 202 (by decide +kernel) (by decide +kernel), rfl, rfl⟩
theorem fX6_217 : FL RX6 217 1 0 := vX6_217.fl
theorem vX6_220 : FW RX6 220 1 1 .int := ⟨RX1, TX1, 4, tyX1, rfl, by decide, wkX1, tyX1_ok, nmX1, TW_of 204 (by decide +kernel) (by decide +kernel), rfl, rfl⟩
theorem fX6_220 : FL RX6 220 1 1 := vX6_220.fl
theorem vX6_223 : FW RX6 223 1 2 .int := ⟨RX1, TX1, 4, tyX1, rfl, by decide, wkX1, tyX1_ok, nmX1, TW_of 206 (by decide +kernel) (by decide +kernel), rfl, rfl⟩
theorem fX6_223 : FL RX6 223 1 2 := vX6_223.fl
theorem vX6_226 : FW RX6 226 1 3 .int := ⟨RX1, TX1, 4, tyX1, rfl, by decide, wkX1, tyX1_ok, nmX1, TW_of 208 (by decide +kernel) (by decide +kernel), rfl, rfl⟩
theorem fX6_226 : FL RX6 226 1 3 := vX6_226.fl
theorem fX0_9 : FL RX0 9 0 0 := ⟨RX0, TX0, 9, tyX0, rfl, by decide, wkX0, tyX0_ok, nmX0, TW_of 128 (by decide +kernel) (by decide +kernel)⟩
theorem fX0_15 : FL RX0 15 0 1 := ⟨RX0, TX0, 9, tyX0, rfl, by decide, wkX0, tyX0_ok, nmX0, TW_of 129 (by decide +kernel) (by decide +kernel)⟩
theorem fX0_19 : FL RX0 19 0 2 := ⟨RX0, TX0, 9, tyX0, rfl, by decide, wkX0, tyX0_ok, nmX0, TW_of 130 (by decide +kernel) (by decide +kernel)⟩
theorem vX0_27 : FW RX0 27 0 7 .long := ⟨RX0, TX0, 9, tyX0, rfl, by decide, wkX0, tyX0_ok, nmX0, TW_of 135 (by decide +kernel) (by decide +kernel), rfl, rfl⟩
theorem fX0_27 : FL RX0 27 0 7 := vX0_27.fl
theorem vX0_31 : FW RX0 31 0 8 .long := ⟨RX0, TX0, 9, tyX0, rfl, by decide, wkX0, tyX0_ok, nmX0, TW_of 136 (by decide +kernel) (by decide +kernel), rfl, rfl⟩
theorem fX0_31 : FL RX0 31 0 8 := vX0_31.fl
theorem vX0_34 : FW RX0 34 5 5 .int := ⟨RX5, TX5, 6, tyX5, rfl, by decide, wkX5, tyX5_ok, nmX5, TW_of 106 (by decide +kernel) (by decide +kernel), rfl, rfl⟩
theorem fX0_34 : FL RX0 34 5 5 := vX0_34.fl
theorem fX0_44 : FL RX0 44 3 0 := ⟨RX3, TX3, 2, tyX3, rfl, by decide, wkX3, tyX3_ok, nmX3, TW_of 75 (by decide +kernel) (by decide +kernel)⟩
theorem vX0_53 : FW RX0 53 0 3 .int := ⟨RX0, TX0, 9, tyX0, rfl, by decide, wkX0, tyX0_ok, nmX0, TW_of 131 (by decide +kernel) (by decide +kernel), rfl, rfl⟩
theorem fX0_53 : FL RX0 53 0 3 := vX0_53.fl
theorem vX0_60 : FW RX0 60 0 4 .int := ⟨RX0, TX0, 9, tyX0, rfl, by decide, wkX0, tyX0_ok, nmX0, TW_of 132 (by decide +kernel) (by decide +kernel), rfl, rfl⟩
theorem fX0_60 : FL RX0 60 0 4 := vX0_60.fl
theorem vX0_66 : FW RX0 66 0 6 .int := ⟨RX0, TX0, 9, tyX0, rfl, by decide, wkX0, tyX0_ok, nmX0, TW_of 134 (by decide +kernel) (by decide +kernel), rfl, rfl⟩
theorem fX0_66 : FL RX0 66 0 6 := vX0_66.fl
theorem vX0_69 : FW RX0 69 0 5 .int := ⟨RX0, TX0, 9, tyX0, rfl, by decide, wkX0, tyX0_ok, nmX0, TW_of 133 (by decide +kernel) (by decide +kernel), rfl, rfl⟩
theorem fX0_69 : FL RX0 69 0 5 := vX0_69.fl
theorem fX0_72 : FL RX0 72 5 4 := ⟨RX5, TX5, 6, tyX5, rfl, by decide, wkX5, tyX5_ok, nmX5, TW_of 103 (by decide +kernel) (by decide +kernel)⟩
theorem fX0_78 : FL RX0 78 5 1 := ⟨RX5, TX5, 6, tyX5, rfl, by decide, wkX5, tyX5_ok, nmX5, TW_of 96 (by decide +kernel) (by decide +kernel)⟩
theorem vX1_9 : FW RX1 9 1 0 .int := ⟨RX1, TX1, 4, tyX1, rfl, by decide, wkX1, tyX1_ok, nmX1, TW_of 201 (by decide +kernel) (by decide +kernel), rfl, rfl⟩
theorem fX1_9 : FL RX1 9 1 0 := vX1_9.fl
theorem vX1_15 : FW RX1 15 1 1 .int := ⟨RX1, TX1, 4, tyX1, rfl, by decide, wkX1, tyX1_ok, nmX1, TW_of 203 (by decide +kernel) (by decide +kernel), rfl, rfl⟩
theorem fX1_15 : FL RX1 15 1 1 := vX1_15.fl
theorem vX1_18 : FW RX1 18 1 2 .int := ⟨RX1, TX1, 4, tyX1, rfl, by decide, wkX1, tyX1_ok, nmX1, TW_of 205 (by decide +kernel) (by decide +kernel), rfl, rfl⟩
theorem fX1_18 : FL RX1 18 1 2 := vX1_18.fl
theorem vX1_21 : FW RX1 21 1 3 .int := ⟨RX1, TX1, 4, tyX1, rfl, by decide, wkX1, tyX1_ok, nmX1, TW_of 207 (by decide +kernel) (by decide +kernel), rfl, rfl⟩
theorem fX1_21 : FL RX1 21 1 3 := vX1_21.fl
theorem vX1_24 : FW RX1 24 5 5 .int := ⟨RX5, TX5, 6, tyX5, rfl, by decide, wkX5, tyX5_ok, nmX5, TW_of 105 (by decide +kernel) (by decide +kernel), rfl, rfl⟩
theorem fX1_24 : FL RX1 24 5 5 := vX1_24.fl
theorem fX1_29 : FL RX1 29 5 0 := ⟨RX5, TX5, 6, tyX5, rfl, by decide, wkX5, tyX5_ok, nmX5, TW_of 93 (by decide +kernel) (by decide +kernel)⟩
theorem fX2_9 : FL RX2 9 2 2 := ⟨RX2, TX2, 4, tyX2, rfl, by decide, wkX2, tyX2_ok, nmX2, TW_of 164 (by decide +kernel) (by decide +kernel)⟩
theorem fX2_15 : FL RX2 15 2 0 := ⟨RX2, TX2, 4, tyX2, rfl, by decide, wkX2, tyX2_ok, nmX2, TW_of 162 (by decide +kernel) (by decide +kernel)⟩
theorem fX2_19 : FL RX2 19 2 1 := ⟨RX2, TX2, 4, tyX2, rfl, by decide, wkX2, tyX2_ok, nmX2, TW_of 163 (by decide +kernel) (by decide +kernel)⟩
theorem vX2_33 : FW RX2 33 5 5 .int := ⟨RX5, TX5, 6, tyX5, rfl, by decide, wkX5, tyX5_ok, nmX5, TW_of 107 (by decide +kernel) (by decide +kernel), rfl, rfl⟩
theorem fX2_33 : FL RX2 33 5 5 := vX2_33.fl
theorem vX2_50 : FW RX2 50 2 3 .int := ⟨RX2, TX2, 4, tyX2, rfl, by decide, wkX2, tyX2_ok, nmX2, TW_of 166 (by decide +kernel) (by decide +kernel), rfl, rfl⟩
theorem fX2_50 : FL RX2 50 2 3 := vX2_50.fl
theorem fX3_11 : FL RX3 11 3 0 := ⟨RX3, TX3, 2, tyX3, rfl, by decide, wkX3, tyX3_ok, nmX3, TW_of 74 (by decide +kernel) (by decide +kernel)⟩
theorem fX3_16 : FL RX3 16 3 1 := ⟨RX3, TX3, 2, tyX3, rfl, by decide, wkX3, tyX3_ok, nmX3, TW_of 77 (by decide +kernel) (by decide +kernel)⟩
theorem fX4_9 : FL RX4 9 4 0 := ⟨RX4, TX4, 3, tyX4, rfl, by decide, wkX4, tyX4_ok, nmX4, TW_of 182 (by decide +kernel) (by decide +kernel)⟩
theorem fX4_15 : FL RX4 15 4 1 := ⟨RX4, TX4, 3, tyX4, rfl, by decide, wkX4, tyX4_ok, nmX4, TW_of 184 (by decide +kernel) (by decide +kernel)⟩
theorem vX4_18 : FW RX4 18 4 2 .int := ⟨RX4, TX4, 3, tyX4, rfl, by decide, wkX4, tyX4_ok, nmX4, TW_of 186 (by decide +kernel) (by decide +kernel), rfl, rfl⟩
theorem fX4_18 : FL RX4 18 4 2 := vX4_18.fl
theorem fX5_9 : FL RX5 9 5 0 := ⟨RX5, TX5, 6, tyX5, rfl, by decide, wkX5, tyX5_ok, nmX5, TW_of 92 (by decide +kernel) (by decide +kernel)⟩
theorem fX5_15 : FL RX5 15 5 1 := ⟨RX5, TX5, 6, tyX5, rfl, by decide, wkX5, tyX5_ok, nmX5, TW_of 95 (by decide +kernel) (by decide +kernel)⟩
theorem fX5_20 : FL RX5 20 5 2 := ⟨RX5, TX5, 6, tyX5, rfl, by decide, wkX5, tyX5_ok, nmX5, TW_of 98 (by decide +kernel) (by decide +kernel)⟩
theorem fX5_23 : FL RX5 23 5 3 := ⟨RX5, TX5, 6, tyX5, rfl, by decide, wkX5, tyX5_ok, nmX5, TW_of 100 (by decide +kernel) (by decide +kernel)⟩
theorem fX5_26 : FL RX5 26 5 4 := ⟨RX5, TX5, 6, tyX5, rfl, by decide, wkX5, tyX5_ok, nmX5, TW_of 102 (by decide +kernel) (by decide +kernel)⟩
theorem vX5_29 : FW RX5 29 5 5 .int := ⟨RX5, TX5, 6, tyX5, rfl, by decide, wkX5, tyX5_ok, nmX5, TW_of 104 (by decide +kernel) (by decide +kernel), rfl, rfl⟩
theorem fX5_29 : FL RX5 29 5 5 := vX5_29.fl
theorem fX7_7 : FL RX7 7 7 1 := ⟨RX7, TX7, 22, tyX7, rfl, by decide, wkX7, tyX7_ok, nmX7, TW_of 698 (by decide +kernel) (by decide +kernel)⟩
theorem fX7_13 : FL RX7 13 7 2 := ⟨RX7, TX7, 22, tyX7, rfl, by decide, wkX7, tyX7_ok, nmX7, TW_of 699 (by decide +kernel) (by decide +kernel)⟩
theorem fX7_17 : FL RX7 17 7 3 := ⟨RX7, TX7, 22, tyX7, rfl, by decide, wkX7, tyX7_ok, nmX7, TW_of 700 (by decide +kernel) (by decide +kernel)⟩
theorem fX7_20 : FL RX7 20 7 4 := ⟨RX7, TX7, 22, tyX7, rfl, by decide, wkX7, tyX7_ok, nmX7, TW_of 701 (by decide +kernel) (by decide +kernel)⟩
theorem fX7_23 : FL RX7 23 7 5 := ⟨RX7, TX7, 22, tyX7, rfl, by decide, wkX7, tyX7_ok, nmX7, TW_of 702 (by decide +kernel) (by decide +kernel)⟩
theorem fX7_26 : FL RX7 26 7 6 := ⟨RX7, TX7, 22, tyX7, rfl, by decide, wkX7, tyX7_ok, nmX7, TW_of 703 (by decide +kernel) (by decide +kernel)⟩
theorem fX7_29 : FL RX7 29 7 7 := ⟨RX7, TX7, 22, tyX7, rfl, by decide, wkX7, tyX7_ok, nmX7, TW_of 704 (by decide +kernel) (by decide +kernel)⟩
theorem fX7_32 : FL RX7 32 7 8 := ⟨RX7, TX7, 22, tyX7, rfl, by decide, wkX7, tyX7_ok, nmX7, TW_of 705 (by decide +kernel) (by decide +kernel)⟩
theorem vX7_35 : FW RX7 35 7 10 .int := ⟨RX7, TX7, 22, tyX7, rfl, by decide, wkX7, tyX7_ok, nmX7, TW_of 707 (by decide +kernel) (by decide +kernel), rfl, rfl⟩
theorem fX7_35 : FL RX7 35 7 10 := vX7_35.fl
theorem vX7_39 : FW RX7 39 7 11 .int := ⟨RX7, TX7, 22, tyX7, rfl, by decide, wkX7, tyX7_ok, nmX7, TW_of 708 (by decide +kernel) (by decide +kernel), rfl, rfl⟩
theorem fX7_39 : FL RX7 39 7 11 := vX7_39.fl
theorem vX7_42 : FW RX7 42 7 12 .int := ⟨RX7, TX7, 22, tyX7, rfl, by decide, wkX7, tyX7_ok, nmX7, TW_of 709 (by decide +kernel) (by decide +kernel), rfl, rfl⟩
theorem fX7_42 : FL RX7 42 7 12 := vX7_42.fl
theorem vX7_45 : FW RX7 45 7 13 .int := ⟨RX7, TX7, 22, tyX7, rfl, by decide, wkX7, tyX7_ok, nmX7, TW_of 710 (by decide +kernel) (by decide +kernel), rfl, rfl⟩
theorem fX7_45 : FL RX7 45 7 13 := vX7_45.fl
theorem fX7_48 : FL RX7 48 7 14 := ⟨RX7, TX7, 22, tyX7, rfl, by decide, wkX7, tyX7_ok, nmX7, TW_of 711 (by decide +kernel) (by decide +kernel)⟩
theorem fX7_51 : FL RX7 51 7 16 := ⟨RX7, TX7, 22, tyX7, rfl, by decide, wkX7, tyX7_ok, nmX7, TW_of 713 (by decide +kernel) (by decide +kernel)⟩
theorem vX7_58 : FW RX7 58 7 0 .int := ⟨RX7, TX7, 22, tyX7, rfl, by decide, wkX7, tyX7_ok, nmX7, TW_of 697 (by decide +kernel) (by decide +kernel), rfl, rfl⟩
theorem fX7_58 : FL RX7 58 7 0 := vX7_58.fl
theorem vX7_61 : FW RX7 61 7 9 .int := ⟨RX7, TX7, 22, tyX7, rfl, by decide, wkX7, tyX7_ok, nmX7, TW_of 706 (by decide +kernel) (by decide +kernel), rfl, rfl⟩
theorem fX7_61 : FL RX7 61 7 9 := vX7_61.fl
theorem vX7_66 : FW RX7 66 7 15 .boolean := ⟨RX7, TX7, 22, tyX7, rfl, by decide, wkX7, tyX7_ok, nmX7, TW_of 712 (by decide +kernel) (by decide +kernel), rfl, rfl⟩
theorem fX7_66 : FL RX7 66 7 15 := vX7_66.fl
theorem vX7_180 : FW RX7 180 7 17 .int := ⟨RX7, TX7, 22, tyX7, rfl, by decide, wkX7, tyX7_ok, nmX7, TW_of 714 (by decide +kernel) (by decide +kernel), rfl, rfl⟩
theorem fX7_180 : FL RX7 180 7 17 := vX7_180.fl
theorem vX7_183 : FW RX7 183 7 18 .int := ⟨RX7, TX7, 22, tyX7, rfl, by decide, wkX7, tyX7_ok, nmX7, TW_of 715 (by decide +kernel) (by decide +kernel), rfl, rfl⟩
theorem fX7_183 : FL RX7 183 7 18 := vX7_183.fl
theorem vX7_186 : FW RX7 186 7 19 .int := ⟨RX7, TX7, 22, tyX7, rfl, by decide, wkX7, tyX7_ok, nmX7, TW_of 716 (by decide +kernel) (by decide +kernel), rfl, rfl⟩
theorem fX7_186 : FL RX7 186 7 19 := vX7_186.fl
theorem vX7_189 : FW RX7 189 7 20 .int := ⟨RX7, TX7, 22, tyX7, rfl, by decide, wkX7, tyX7_ok, nmX7, TW_of 717 (by decide +kernel) (by decide +kernel), rfl, rfl⟩
theorem fX7_189 : FL RX7 189 7 20 := vX7_189.fl
theorem vX7_192 : FW RX7 192 7 21 .int := ⟨RX7, TX7, 22, tyX7, rfl, by decide, wkX7, tyX7_ok, nmX7, TW_of 718 (by decide +kernel) (by decide +kernel), rfl, rfl⟩
theorem fX7_192 : FL RX7 192 7 21 := vX7_192.fl
abbrev mJ9_abs_067f4 : Meth := (yJ9_abs_067f4, cJ9_abs_067f4, 2, some .long, 0)
theorem mcJ9_abs_067f4 : MLc mJ9_abs_067f4 1 := ⟨TW_of 57 (by decide +kernel) (by decide +kernel), TW_of 586 (by decide +kernel) (by decide +kernel), by decide +kernel, by decide +kernel, by decide⟩
abbrev mJ9_abs_0f7a4 : Meth := (yJ9_abs_0f7a4, cJ9_abs_0f7a4, 1, some .int, 0)
theorem mcJ9_abs_0f7a4 : MLc mJ9_abs_0f7a4 1 := ⟨TW_of 57 (by decide +kernel) (by decide +kernel), TW_of 398 (by decide +kernel) (by decide +kernel), by decide +kernel, by decide +kernel, by decide⟩
abbrev mJ9_floorDiv_7cf53 : Meth := (yJ9_floorDiv_7cf53, cJ9_floorDiv_7cf53, 3, some .int, 0)
theorem mcJ9_floorDiv_7cf53 : MLc mJ9_floorDiv_7cf53 2 := ⟨TW_of 57 (by decide +kernel) (by decide +kernel), TW_of 324 (by decide +kernel) (by decide +kernel), by decide +kernel, by decide +kernel, by decide⟩
abbrev mJ9_floorDiv_f86c9 : Meth := (yJ9_floorDiv_f86c9, cJ9_floorDiv_f86c9, 6, some .long, 0)
theorem mcJ9_floorDiv_f86c9 : MLc mJ9_floorDiv_f86c9 2 := ⟨TW_of 57 (by decide +kernel) (by decide +kernel), TW_of 406 (by decide +kernel) (by decide +kernel), by decide +kernel, by decide +kernel, by decide⟩
abbrev mJ9_floorMod_7cf53 : Meth := (yJ9_floorMod_7cf53, cJ9_floorMod_7cf53, 3, some .int, 0)
theorem mcJ9_floorMod_7cf53 : MLc mJ9_floorMod_7cf53 2 := ⟨TW_of 57 (by decide +kernel) (by decide +kernel), TW_of 321 (by decide +kernel) (by decide +kernel), by decide +kernel, by decide +kernel, by decide⟩
abbrev mJ9_max_7cf53 : Meth := (yJ9_max_7cf53, cJ9_max_7cf53, 2, some .int, 0)
theorem mcJ9_max_7cf53 : MLc mJ9_max_7cf53 2 := ⟨TW_of 57 (by decide +kernel) (by decide +kernel), TW_of 282 (by decide +kernel) (by decide +kernel), by decide +kernel, by decide +kernel, by decide⟩
abbrev mJ9_max_f86c9 : Meth := (yJ9_max_f86c9, cJ9_max_f86c9, 4, some .long, 0)
theorem mcJ9_max_f86c9 : MLc mJ9_max_f86c9 2 := ⟨TW_of 57 (by decide +kernel) (by decide +kernel), TW_of 444 (by decide +kernel) (by decide +kernel), by decide +kernel, by decide +kernel, by decide⟩
abbrev mJ9_min_7cf53 : Meth := (yJ9_min_7cf53, cJ9_min_7cf53, 2, some .int, 0)
theorem mcJ9_min_7cf53 : MLc mJ9_min_7cf53 2 := ⟨TW_of 57 (by decide +kernel) (by decide +kernel), TW_of 299 (by decide +kernel) (by decide +kernel), by decide +kernel, by decide +kernel, by decide⟩
abbrev mJ9_min_f86c9 : Meth := (yJ9_min_f86c9, cJ9_min_f86c9, 4, some .long, 0)
theorem mcJ9_min_f86c9 : MLc mJ9_min_f86c9 2 := ⟨TW_of 57 (by decide +kernel) (by decide +kernel), TW_of 450 (by decide +kernel) (by decide +kernel), by decide +kernel, by decide +kernel, by decide⟩
abbrev mX0_bearsTooMuch : Meth := (yX0_bearsTooMuch, cX0_bearsTooMuch, 2, some .boolean, 3)
theorem mcX0_bearsTooMuch : MLc mX0_bearsTooMuch 1 := ⟨TW_of 52 (by decide +kernel) (by decide +kernel), TW_of 497 (by decide +kernel) (by decide +kernel), by decide +kernel, by decide +kernel, by decide⟩
abbrev mX0_firstFault : Meth := (yX0_firstFault, cX0_firstFault, 3, some .int, 5)
theorem mcX0_firstFault : MLc mX0_firstFault 0 := ⟨TW_of 52 (by decide +kernel) (by decide +kernel), TW_of 462 (by decide +kernel) (by decide +kernel), by decide +kernel, by decide +kernel, by decide⟩
abbrev mX0_firstOverload : Meth := (yX0_firstOverload, cX0_firstOverload, 2, some .int, 4)
theorem mcX0_firstOverload : MLc mX0_firstOverload 0 := ⟨TW_of 52 (by decide +kernel) (by decide +kernel), TW_of 493 (by decide +kernel) (by decide +kernel), by decide +kernel, by decide +kernel, by decide⟩
abbrev mX0_greatestSize : Meth := (yX0_greatestSize, cX0_greatestSize, 4, some .int, 4)
theorem mcX0_greatestSize : MLc mX0_greatestSize 1 := ⟨TW_of 52 (by decide +kernel) (by decide +kernel), TW_of 427 (by decide +kernel) (by decide +kernel), by decide +kernel, by decide +kernel, by decide⟩
abbrev mX0_hasFault : Meth := (yX0_hasFault, cX0_hasFault, 3, some .boolean, 5)
theorem mcX0_hasFault : MLc mX0_hasFault 1 := ⟨TW_of 52 (by decide +kernel) (by decide +kernel), TW_of 554 (by decide +kernel) (by decide +kernel), by decide +kernel, by decide +kernel, by decide⟩
abbrev mX0_howManyLoose : Meth := (yX0_howManyLoose, cX0_howManyLoose, 3, some .int, 4)
theorem mcX0_howManyLoose : MLc mX0_howManyLoose 0 := ⟨TW_of 52 (by decide +kernel) (by decide +kernel), TW_of 454 (by decide +kernel) (by decide +kernel), by decide +kernel, by decide +kernel, by decide⟩
abbrev mX0_isBent : Meth := (yX0_isBent, cX0_isBent, 3, some .boolean, 4)
theorem mcX0_isBent : MLc mX0_isBent 2 := ⟨TW_of 52 (by decide +kernel) (by decide +kernel), TW_of 466 (by decide +kernel) (by decide +kernel), by decide +kernel, by decide +kernel, by decide⟩
abbrev mX0_isLoose : Meth := (yX0_isLoose, cX0_isLoose, 2, some .boolean, 3)
theorem mcX0_isLoose : MLc mX0_isLoose 1 := ⟨TW_of 52 (by decide +kernel) (by decide +kernel), TW_of 458 (by decide +kernel) (by decide +kernel), by decide +kernel, by decide +kernel, by decide⟩
abbrev mX0_isOffMiddle : Meth := (yX0_isOffMiddle, cX0_isOffMiddle, 1, some .boolean, 2)
theorem mcX0_isOffMiddle : MLc mX0_isOffMiddle 0 := ⟨TW_of 52 (by decide +kernel) (by decide +kernel), TW_of 470 (by decide +kernel) (by decide +kernel), by decide +kernel, by decide +kernel, by decide⟩
abbrev mX0_isRefused : Meth := (yX0_isRefused, cX0_isRefused, 1, some .boolean, 5)
theorem mcX0_isRefused : MLc mX0_isRefused 0 := ⟨TW_of 52 (by decide +kernel) (by decide +kernel), TW_of 489 (by decide +kernel) (by decide +kernel), by decide +kernel, by decide +kernel, by decide⟩
abbrev mX0_isSpread : Meth := (yX0_isSpread, cX0_isSpread, 2, some .boolean, 4)
theorem mcX0_isSpread : MLc mX0_isSpread 1 := ⟨TW_of 52 (by decide +kernel) (by decide +kernel), TW_of 474 (by decide +kernel) (by decide +kernel), by decide +kernel, by decide +kernel, by decide⟩
abbrev mX0_keep : Meth := (yX0_keep, cX0_keep, 2, none, 3)
theorem mcX0_keep : MLc mX0_keep 0 := ⟨TW_of 52 (by decide +kernel) (by decide +kernel), TW_of 506 (by decide +kernel) (by decide +kernel), by decide +kernel, by decide +kernel, by decide⟩
abbrev mX0_middle : Meth := (yX0_middle, cX0_middle, 1, some .int, 1)
theorem mcX0_middle : MLc mX0_middle 0 := ⟨TW_of 52 (by decide +kernel) (by decide +kernel), TW_of 403 (by decide +kernel) (by decide +kernel), by decide +kernel, by decide +kernel, by decide⟩
abbrev mX0_pullOf : Meth := (yX0_pullOf, cX0_pullOf, 3, some .int, 2)
theorem mcX0_pullOf : MLc mX0_pullOf 1 := ⟨TW_of 52 (by decide +kernel) (by decide +kernel), TW_of 416 (by decide +kernel) (by decide +kernel), by decide +kernel, by decide +kernel, by decide⟩
abbrev mX0_readingAt : Meth := (yX0_readingAt, cX0_readingAt, 3, some .int, 3)
theorem mcX0_readingAt : MLc mX0_readingAt 2 := ⟨TW_of 52 (by decide +kernel) (by decide +kernel), TW_of 431 (by decide +kernel) (by decide +kernel), by decide +kernel, by decide +kernel, by decide⟩
abbrev mX0_rest : Meth := (yX0_rest, cX0_rest, 2, none, 2)
theorem mcX0_rest : MLc mX0_rest 0 := ⟨TW_of 52 (by decide +kernel) (by decide +kernel), TW_of 384 (by decide +kernel) (by decide +kernel), by decide +kernel, by decide +kernel, by decide⟩
abbrev mX0_share : Meth := (yX0_share, cX0_share, 3, some .long, 1)
theorem mcX0_share : MLc mX0_share 2 := ⟨TW_of 52 (by decide +kernel) (by decide +kernel), TW_of 440 (by decide +kernel) (by decide +kernel), by decide +kernel, by decide +kernel, by decide⟩
abbrev mX0_shiftAt : Meth := (yX0_shiftAt, cX0_shiftAt, 4, some .int, 2)
theorem mcX0_shiftAt : MLc mX0_shiftAt 2 := ⟨TW_of 52 (by decide +kernel) (by decide +kernel), TW_of 435 (by decide +kernel) (by decide +kernel), by decide +kernel, by decide +kernel, by decide⟩
abbrev mX0_spreadOf : Meth := (yX0_spreadOf, cX0_spreadOf, 6, some .int, 3)
theorem mcX0_spreadOf : MLc mX0_spreadOf 1 := ⟨TW_of 52 (by decide +kernel) (by decide +kernel), TW_of 410 (by decide +kernel) (by decide +kernel), by decide +kernel, by decide +kernel, by decide⟩
abbrev mX0_suppose : Meth := (yX0_suppose, cX0_suppose, 3, none, 1)
theorem mcX0_suppose : MLc mX0_suppose 2 := ⟨TW_of 52 (by decide +kernel) (by decide +kernel), TW_of 388 (by decide +kernel) (by decide +kernel), by decide +kernel, by decide +kernel, by decide⟩
abbrev mX0_worst : Meth := (yX0_worst, cX0_worst, 3, some .int, 5)
theorem mcX0_worst : MLc mX0_worst 0 := ⟨TW_of 52 (by decide +kernel) (by decide +kernel), TW_of 423 (by decide +kernel) (by decide +kernel), by decide +kernel, by decide +kernel, by decide⟩
abbrev mX1_ahead : Meth := (yX1_ahead, cX1_ahead, 4, some .int, 0)
theorem mcX1_ahead : MLc mX1_ahead 2 := ⟨TW_of 55 (by decide +kernel) (by decide +kernel), TW_of 620 (by decide +kernel) (by decide +kernel), by decide +kernel, by decide +kernel, by decide⟩
abbrev mX1_doCross : Meth := (yX1_doCross, cX1_doCross, 7, some .boolean, 1)
theorem mcX1_doCross : MLc mX1_doCross 3 := ⟨TW_of 55 (by decide +kernel) (by decide +kernel), TW_of 660 (by decide +kernel) (by decide +kernel), by decide +kernel, by decide +kernel, by decide⟩
abbrev mX1_halfSine : Meth := (yX1_halfSine, cX1_halfSine, 1, some .int, 0)
theorem mcX1_halfSine : MLc mX1_halfSine 1 := ⟨TW_of 55 (by decide +kernel) (by decide +kernel), TW_of 633 (by decide +kernel) (by decide +kernel), by decide +kernel, by decide +kernel, by decide⟩
abbrev mX1_rimHole : Meth := (yX1_rimHole, cX1_rimHole, 3, some .int, 0)
theorem mcX1_rimHole : MLc mX1_rimHole 2 := ⟨TW_of 55 (by decide +kernel) (by decide +kernel), TW_of 651 (by decide +kernel) (by decide +kernel), by decide +kernel, by decide +kernel, by decide⟩
abbrev mX1_sine : Meth := (yX1_sine, cX1_sine, 2, some .int, 1)
theorem mcX1_sine : MLc mX1_sine 1 := ⟨TW_of 55 (by decide +kernel) (by decide +kernel), TW_of 629 (by decide +kernel) (by decide +kernel), by decide +kernel, by decide +kernel, by decide⟩
abbrev mX1_tenths : Meth := (yX1_tenths, cX1_tenths, 6, some .int, 2)
theorem mcX1_tenths : MLc mX1_tenths 1 := ⟨TW_of 55 (by decide +kernel) (by decide +kernel), TW_of 624 (by decide +kernel) (by decide +kernel), by decide +kernel, by decide +kernel, by decide⟩
abbrev mX1_wholeRoot : Meth := (yX1_wholeRoot, cX1_wholeRoot, 8, some .int, 0)
theorem mcX1_wholeRoot : MLc mX1_wholeRoot 1 := ⟨TW_of 55 (by decide +kernel) (by decide +kernel), TW_of 641 (by decide +kernel) (by decide +kernel), by decide +kernel, by decide +kernel, by decide⟩
abbrev mX2_bestQuarter : Meth := (yX2_bestQuarter, cX2_bestQuarter, 5, some .int, 6)
theorem mcX2_bestQuarter : MLc mX2_bestQuarter 0 := ⟨TW_of 53 (by decide +kernel) (by decide +kernel), TW_of 520 (by decide +kernel) (by decide +kernel), by decide +kernel, by decide +kernel, by decide⟩
abbrev mX2_bringsWithin : Meth := (yX2_bringsWithin, cX2_bringsWithin, 2, some .boolean, 6)
theorem mcX2_bringsWithin : MLc mX2_bringsWithin 0 := ⟨TW_of 53 (by decide +kernel) (by decide +kernel), TW_of 550 (by decide +kernel) (by decide +kernel), by decide +kernel, by decide +kernel, by decide⟩
abbrev mX2_fewestSpokes : Meth := (yX2_fewestSpokes, cX2_fewestSpokes, 1, some .int, 9)
theorem mcX2_fewestSpokes : MLc mX2_fewestSpokes 0 := ⟨TW_of 53 (by decide +kernel) (by decide +kernel), TW_of 537 (by decide +kernel) (by decide +kernel), by decide +kernel, by decide +kernel, by decide⟩
abbrev mX2_findsOne : Meth := (yX2_findsOne, cX2_findsOne, 5, some .boolean, 7)
theorem mcX2_findsOne : MLc mX2_findsOne 2 := ⟨TW_of 53 (by decide +kernel) (by decide +kernel), TW_of 542 (by decide +kernel) (by decide +kernel), by decide +kernel, by decide +kernel, by decide⟩
abbrev mX2_findsTwo : Meth := (yX2_findsTwo, cX2_findsTwo, 4, some .boolean, 8)
theorem mcX2_findsTwo : MLc mX2_findsTwo 0 := ⟨TW_of 53 (by decide +kernel) (by decide +kernel), TW_of 559 (by decide +kernel) (by decide +kernel), by decide +kernel, by decide +kernel, by decide⟩
abbrev mX2_nearest : Meth := (yX2_nearest, cX2_nearest, 2, some .int, 0)
theorem mcX2_nearest : MLc mX2_nearest 1 := ⟨TW_of 53 (by decide +kernel) (by decide +kernel), TW_of 546 (by decide +kernel) (by decide +kernel), by decide +kernel, by decide +kernel, by decide⟩
abbrev mX3_begin : Meth := (yX3_begin, cX3_begin, 4, none, 0)
theorem mcX3_begin : MLc mX3_begin 2 := ⟨TW_of 50 (by decide +kernel) (by decide +kernel), TW_of 279 (by decide +kernel) (by decide +kernel), by decide +kernel, by decide +kernel, by decide⟩
abbrev mX3_isMissing : Meth := (yX3_isMissing, cX3_isMissing, 2, some .boolean, 0)
theorem mcX3_isMissing : MLc mX3_isMissing 1 := ⟨TW_of 50 (by decide +kernel) (by decide +kernel), TW_of 290 (by decide +kernel) (by decide +kernel), by decide +kernel, by decide +kernel, by decide⟩
abbrev mX4_add : Meth := (yX4_add, cX4_add, 3, none, 1)
theorem mcX4_add : MLc mX4_add 2 := ⟨TW_of 54 (by decide +kernel) (by decide +kernel), TW_of 511 (by decide +kernel) (by decide +kernel), by decide +kernel, by decide +kernel, by decide⟩
abbrev mX4_allQuarters : Meth := (yX4_allQuarters, cX4_allQuarters, 3, some .int, 1)
theorem mcX4_allQuarters : MLc mX4_allQuarters 0 := ⟨TW_of 54 (by decide +kernel) (by decide +kernel), TW_of 680 (by decide +kernel) (by decide +kernel), by decide +kernel, by decide +kernel, by decide⟩
abbrev mX4_isFull : Meth := (yX4_isFull, cX4_isFull, 1, some .boolean, 0)
theorem mcX4_isFull : MLc mX4_isFull 0 := ⟨TW_of 54 (by decide +kernel) (by decide +kernel), TW_of 501 (by decide +kernel) (by decide +kernel), by decide +kernel, by decide +kernel, by decide⟩
abbrev mX5_begin : Meth := (yX5_begin, cX5_begin, 4, none, 0)
theorem mcX5_begin : MLc mX5_begin 1 := ⟨TW_of 51 (by decide +kernel) (by decide +kernel), TW_of 221 (by decide +kernel) (by decide +kernel), by decide +kernel, by decide +kernel, by decide⟩
abbrev mX5_bentAt : Meth := (yX5_bentAt, cX5_bentAt, 3, some .int, 0)
theorem mcX5_bentAt : MLc mX5_bentAt 2 := ⟨TW_of 51 (by decide +kernel) (by decide +kernel), TW_of 376 (by decide +kernel) (by decide +kernel), by decide +kernel, by decide +kernel, by decide⟩
abbrev mX5_between : Meth := (yX5_between, cX5_between, 8, some .int, 2)
theorem mcX5_between : MLc mX5_between 2 := ⟨TW_of 51 (by decide +kernel) (by decide +kernel), TW_of 314 (by decide +kernel) (by decide +kernel), by decide +kernel, by decide +kernel, by decide⟩
abbrev mX5_forceOf : Meth := (yX5_forceOf, cX5_forceOf, 2, some .int, 0)
theorem mcX5_forceOf : MLc mX5_forceOf 1 := ⟨TW_of 51 (by decide +kernel) (by decide +kernel), TW_of 349 (by decide +kernel) (by decide +kernel), by decide +kernel, by decide +kernel, by decide⟩
abbrev mX5_hasHole : Meth := (yX5_hasHole, cX5_hasHole, 2, some .boolean, 1)
theorem mcX5_hasHole : MLc mX5_hasHole 1 := ⟨TW_of 51 (by decide +kernel) (by decide +kernel), TW_of 256 (by decide +kernel) (by decide +kernel), by decide +kernel, by decide +kernel, by decide⟩
abbrev mX5_howManyRead : Meth := (yX5_howManyRead, cX5_howManyRead, 4, some .int, 0)
theorem mcX5_howManyRead : MLc mX5_howManyRead 1 := ⟨TW_of 51 (by decide +kernel) (by decide +kernel), TW_of 685 (by decide +kernel) (by decide +kernel), by decide +kernel, by decide +kernel, by decide⟩
abbrev mX5_howManyStand : Meth := (yX5_howManyStand, cX5_howManyStand, 3, some .int, 1)
theorem mcX5_howManyStand : MLc mX5_howManyStand 0 := ⟨TW_of 51 (by decide +kernel) (by decide +kernel), TW_of 675 (by decide +kernel) (by decide +kernel), by decide +kernel, by decide +kernel, by decide⟩
abbrev mX5_isGone : Meth := (yX5_isGone, cX5_isGone, 2, some .boolean, 0)
theorem mcX5_isGone : MLc mX5_isGone 1 := ⟨TW_of 51 (by decide +kernel) (by decide +kernel), TW_of 267 (by decide +kernel) (by decide +kernel), by decide +kernel, by decide +kernel, by decide⟩
abbrev mX5_layStraight : Meth := (yX5_layStraight, cX5_layStraight, 3, none, 3)
theorem mcX5_layStraight : MLc mX5_layStraight 1 := ⟨TW_of 51 (by decide +kernel) (by decide +kernel), TW_of 310 (by decide +kernel) (by decide +kernel), by decide +kernel, by decide +kernel, by decide⟩
abbrev mX5_leanOf : Meth := (yX5_leanOf, cX5_leanOf, 2, some .int, 0)
theorem mcX5_leanOf : MLc mX5_leanOf 1 := ⟨TW_of 51 (by decide +kernel) (by decide +kernel), TW_of 343 (by decide +kernel) (by decide +kernel), by decide +kernel, by decide +kernel, by decide⟩
abbrev mX5_steps : Meth := (yX5_steps, cX5_steps, 4, some .int, 1)
theorem mcX5_steps : MLc mX5_steps 2 := ⟨TW_of 51 (by decide +kernel) (by decide +kernel), TW_of 395 (by decide +kernel) (by decide +kernel), by decide +kernel, by decide +kernel, by decide⟩
abbrev mX5_stepsToRead : Meth := (yX5_stepsToRead, cX5_stepsToRead, 5, some .int, 1)
theorem mcX5_stepsToRead : MLc mX5_stepsToRead 3 := ⟨TW_of 51 (by decide +kernel) (by decide +kernel), TW_of 318 (by decide +kernel) (by decide +kernel), by decide +kernel, by decide +kernel, by decide⟩
abbrev mX6_about : Meth := (yX6_about, cX6_about, 3, some .int, 2)
theorem mcX6_about : MLc mX6_about 2 := ⟨TW_of 49 (by decide +kernel) (by decide +kernel), TW_of 339 (by decide +kernel) (by decide +kernel), by decide +kernel, by decide +kernel, by decide⟩
abbrev mX6_anew : Meth := (yX6_anew, cX6_anew, 4, some .int, 2)
theorem mcX6_anew : MLc mX6_anew 3 := ⟨TW_of 49 (by decide +kernel) (by decide +kernel), TW_of 591 (by decide +kernel) (by decide +kernel), by decide +kernel, by decide +kernel, by decide⟩
abbrev mX6_asNumber : Meth := (yX6_asNumber, cX6_asNumber, 1, some .int, 0)
theorem mcX6_asNumber : MLc mX6_asNumber 1 := ⟨TW_of 49 (by decide +kernel) (by decide +kernel), TW_of 360 (by decide +kernel) (by decide +kernel), by decide +kernel, by decide +kernel, by decide⟩
abbrev mX6_breaksTooMuch : Meth := (yX6_breaksTooMuch, cX6_breaksTooMuch, 3, some .boolean, 3)
theorem mcX6_breaksTooMuch : MLc mX6_breaksTooMuch 1 := ⟨TW_of 49 (by decide +kernel) (by decide +kernel), TW_of 576 (by decide +kernel) (by decide +kernel), by decide +kernel, by decide +kernel, by decide⟩
abbrev mX6_canBePut : Meth := (yX6_canBePut, cX6_canBePut, 1, some .boolean, 1)
theorem mcX6_canBePut : MLc mX6_canBePut 1 := ⟨TW_of 49 (by decide +kernel) (by decide +kernel), TW_of 262 (by decide +kernel) (by decide +kernel), by decide +kernel, by decide +kernel, by decide⟩
abbrev mX6_copy : Meth := (yX6_copy, cX6_copy, 5, some .int, 2)
theorem mcX6_copy : MLc mX6_copy 3 := ⟨TW_of 49 (by decide +kernel) (by decide +kernel), TW_of 296 (by decide +kernel) (by decide +kernel), by decide +kernel, by decide +kernel, by decide⟩
abbrev mX6_count : Meth := (yX6_count, cX6_count, 2, some .int, 2)
theorem mcX6_count : MLc mX6_count 1 := ⟨TW_of 49 (by decide +kernel) (by decide +kernel), TW_of 671 (by decide +kernel) (by decide +kernel), by decide +kernel, by decide +kernel, by decide⟩
abbrev mX6_crosses : Meth := (yX6_crosses, cX6_crosses, 3, some .int, 2)
theorem mcX6_crosses : MLc mX6_crosses 2 := ⟨TW_of 49 (by decide +kernel) (by decide +kernel), TW_of 656 (by decide +kernel) (by decide +kernel), by decide +kernel, by decide +kernel, by decide⟩
abbrev mX6_crossings : Meth := (yX6_crossings, cX6_crossings, 4, some .int, 2)
theorem mcX6_crossings : MLc mX6_crossings 1 := ⟨TW_of 49 (by decide +kernel) (by decide +kernel), TW_of 667 (by decide +kernel) (by decide +kernel), by decide +kernel, by decide +kernel, by decide⟩
abbrev mX6_enter : Meth := (yX6_enter, cX6_enter, 5, some .int, 2)
theorem mcX6_enter : MLc mX6_enter 3 := ⟨TW_of 49 (by decide +kernel) (by decide +kernel), TW_of 286 (by decide +kernel) (by decide +kernel), by decide +kernel, by decide +kernel, by decide⟩
abbrev mX6_fewest : Meth := (yX6_fewest, cX6_fewest, 3, some .int, 10)
theorem mcX6_fewest : MLc mX6_fewest 1 := ⟨TW_of 49 (by decide +kernel) (by decide +kernel), TW_of 533 (by decide +kernel) (by decide +kernel), by decide +kernel, by decide +kernel, by decide⟩
abbrev mX6_howManyLooseUnder : Meth := (yX6_howManyLooseUnder, cX6_howManyLooseUnder, 5, some .int, 3)
theorem mcX6_howManyLooseUnder : MLc mX6_howManyLooseUnder 2 := ⟨TW_of 49 (by decide +kernel) (by decide +kernel), TW_of 608 (by decide +kernel) (by decide +kernel), by decide +kernel, by decide +kernel, by decide⟩
abbrev mX6_hub : Meth := (yX6_hub, cX6_hub, 2, some .int, 2)
theorem mcX6_hub : MLc mX6_hub 1 := ⟨TW_of 49 (by decide +kernel) (by decide +kernel), TW_of 647 (by decide +kernel) (by decide +kernel), by decide +kernel, by decide +kernel, by decide⟩
abbrev mX6_isOf : Meth := (yX6_isOf, cX6_isOf, 4, some .int, 2)
theorem mcX6_isOf : MLc mX6_isOf 2 := ⟨TW_of 49 (by decide +kernel) (by decide +kernel), TW_of 355 (by decide +kernel) (by decide +kernel), by decide +kernel, by decide +kernel, by decide⟩
abbrev mX6_isRow : Meth := (yX6_isRow, cX6_isRow, 1, some .boolean, 1)
theorem mcX6_isRow : MLc mX6_isRow 1 := ⟨TW_of 49 (by decide +kernel) (by decide +kernel), TW_of 306 (by decide +kernel) (by decide +kernel), by decide +kernel, by decide +kernel, by decide⟩
abbrev mX6_isTable : Meth := (yX6_isTable, cX6_isTable, 1, some .boolean, 1)
theorem mcX6_isTable : MLc mX6_isTable 1 := ⟨TW_of 49 (by decide +kernel) (by decide +kernel), TW_of 275 (by decide +kernel) (by decide +kernel), by decide +kernel, by decide +kernel, by decide⟩
abbrev mX6_kind : Meth := (yX6_kind, cX6_kind, 4, some .int, 2)
theorem mcX6_kind : MLc mX6_kind 2 := ⟨TW_of 49 (by decide +kernel) (by decide +kernel), TW_of 252 (by decide +kernel) (by decide +kernel), by decide +kernel, by decide +kernel, by decide⟩
abbrev mX6_lace : Meth := (yX6_lace, cX6_lace, 5, some .int, 1)
theorem mcX6_lace : MLc mX6_lace 4 := ⟨TW_of 49 (by decide +kernel) (by decide +kernel), TW_of 612 (by decide +kernel) (by decide +kernel), by decide +kernel, by decide +kernel, by decide⟩
abbrev mX6_length : Meth := (yX6_length, cX6_length, 2, some .int, 3)
theorem mcX6_length : MLc mX6_length 1 := ⟨TW_of 49 (by decide +kernel) (by decide +kernel), TW_of 616 (by decide +kernel) (by decide +kernel), by decide +kernel, by decide +kernel, by decide⟩
abbrev mX6_lies : Meth := (yX6_lies, cX6_lies, 3, some .boolean, 0)
theorem mcX6_lies : MLc mX6_lies 3 := ⟨TW_of 49 (by decide +kernel) (by decide +kernel), TW_of 259 (by decide +kernel) (by decide +kernel), by decide +kernel, by decide +kernel, by decide⟩
abbrev mX6_limit : Meth := (yX6_limit, cX6_limit, 4, some .int, 1)
theorem mcX6_limit : MLc mX6_limit 2 := ⟨TW_of 49 (by decide +kernel) (by decide +kernel), TW_of 328 (by decide +kernel) (by decide +kernel), by decide +kernel, by decide +kernel, by decide⟩
abbrev mX6_loaded : Meth := (yX6_loaded, cX6_loaded, 4, some .int, 3)
theorem mcX6_loaded : MLc mX6_loaded 3 := ⟨TW_of 49 (by decide +kernel) (by decide +kernel), TW_of 595 (by decide +kernel) (by decide +kernel), by decide +kernel, by decide +kernel, by decide⟩
abbrev mX6_log : Meth := (yX6_log, cX6_log, 3, some .int, 1)
theorem mcX6_log : MLc mX6_log 2 := ⟨TW_of 49 (by decide +kernel) (by decide +kernel), TW_of 564 (by decide +kernel) (by decide +kernel), by decide +kernel, by decide +kernel, by decide⟩
abbrev mX6_next : Meth := (yX6_next, cX6_next, 1, some .int, 7)
theorem mcX6_next : MLc mX6_next 0 := ⟨TW_of 49 (by decide +kernel) (by decide +kernel), TW_of 516 (by decide +kernel) (by decide +kernel), by decide +kernel, by decide +kernel, by decide⟩
abbrev mX6_plan : Meth := (yX6_plan, cX6_plan, 6, some .int, 7)
theorem mcX6_plan : MLc mX6_plan 1 := ⟨TW_of 49 (by decide +kernel) (by decide +kernel), TW_of 529 (by decide +kernel) (by decide +kernel), by decide +kernel, by decide +kernel, by decide⟩
abbrev mX6_pullAfterBreak : Meth := (yX6_pullAfterBreak, cX6_pullAfterBreak, 5, some .long, 2)
theorem mcX6_pullAfterBreak : MLc mX6_pullAfterBreak 2 := ⟨TW_of 49 (by decide +kernel) (by decide +kernel), TW_of 580 (by decide +kernel) (by decide +kernel), by decide +kernel, by decide +kernel, by decide⟩
abbrev mX6_pullUnder : Meth := (yX6_pullUnder, cX6_pullUnder, 4, some .int, 2)
theorem mcX6_pullUnder : MLc mX6_pullUnder 3 := ⟨TW_of 49 (by decide +kernel) (by decide +kernel), TW_of 599 (by decide +kernel) (by decide +kernel), by decide +kernel, by decide +kernel, by decide⟩
abbrev mX6_read : Meth := (yX6_read, cX6_read, 5, some .int, 4)
theorem mcX6_read : MLc mX6_read 3 := ⟨TW_of 49 (by decide +kernel) (by decide +kernel), TW_of 303 (by decide +kernel) (by decide +kernel), by decide +kernel, by decide +kernel, by decide⟩
abbrev mX6_reading : Meth := (yX6_reading, cX6_reading, 3, some .int, 2)
theorem mcX6_reading : MLc mX6_reading 2 := ⟨TW_of 49 (by decide +kernel) (by decide +kernel), TW_of 372 (by decide +kernel) (by decide +kernel), by decide +kernel, by decide +kernel, by decide⟩
abbrev mX6_snap : Meth := (yX6_snap, cX6_snap, 4, some .int, 4)
theorem mcX6_snap : MLc mX6_snap 1 := ⟨TW_of 49 (by decide +kernel) (by decide +kernel), TW_of 572 (by decide +kernel) (by decide +kernel), by decide +kernel, by decide +kernel, by decide⟩
abbrev mX6_state : Meth := (yX6_state, cX6_state, 2, some .int, 6)
theorem mcX6_state : MLc mX6_state 1 := ⟨TW_of 49 (by decide +kernel) (by decide +kernel), TW_of 380 (by decide +kernel) (by decide +kernel), by decide +kernel, by decide +kernel, by decide⟩
abbrev mX6_table : Meth := (yX6_table, cX6_table, 3, some .int, 2)
theorem mcX6_table : MLc mX6_table 2 := ⟨TW_of 49 (by decide +kernel) (by decide +kernel), TW_of 272 (by decide +kernel) (by decide +kernel), by decide +kernel, by decide +kernel, by decide⟩
abbrev mX6_tells : Meth := (yX6_tells, cX6_tells, 3, some .int, 2)
theorem mcX6_tells : MLc mX6_tells 2 := ⟨TW_of 49 (by decide +kernel) (by decide +kernel), TW_of 364 (by decide +kernel) (by decide +kernel), by decide +kernel, by decide +kernel, by decide⟩
abbrev mX6_tune : Meth := (yX6_tune, cX6_tune, 4, some .int, 2)
theorem mcX6_tune : MLc mX6_tune 2 := ⟨TW_of 49 (by decide +kernel) (by decide +kernel), TW_of 333 (by decide +kernel) (by decide +kernel), by decide +kernel, by decide +kernel, by decide⟩
abbrev mX6_turn : Meth := (yX6_turn, cX6_turn, 3, some .int, 6)
theorem mcX6_turn : MLc mX6_turn 2 := ⟨TW_of 49 (by decide +kernel) (by decide +kernel), TW_of 484 (by decide +kernel) (by decide +kernel), by decide +kernel, by decide +kernel, by decide⟩
abbrev mX6_unbent : Meth := (yX6_unbent, cX6_unbent, 3, some .int, 2)
theorem mcX6_unbent : MLc mX6_unbent 2 := ⟨TW_of 49 (by decide +kernel) (by decide +kernel), TW_of 368 (by decide +kernel) (by decide +kernel), by decide +kernel, by decide +kernel, by decide⟩
abbrev mX6_undo : Meth := (yX6_undo, cX6_undo, 2, some .int, 4)
theorem mcX6_undo : MLc mX6_undo 0 := ⟨TW_of 49 (by decide +kernel) (by decide +kernel), TW_of 568 (by decide +kernel) (by decide +kernel), by decide +kernel, by decide +kernel, by decide⟩
abbrev mX6_wheel : Meth := (yX6_wheel, cX6_wheel, 2, some .int, 1)
theorem mcX6_wheel : MLc mX6_wheel 1 := ⟨TW_of 49 (by decide +kernel) (by decide +kernel), TW_of 247 (by decide +kernel) (by decide +kernel), by decide +kernel, by decide +kernel, by decide⟩
abbrev mX6_why : Meth := (yX6_why, cX6_why, 1, some .int, 6)
theorem mcX6_why : MLc mX6_why 0 := ⟨TW_of 49 (by decide +kernel) (by decide +kernel), TW_of 480 (by decide +kernel) (by decide +kernel), by decide +kernel, by decide +kernel, by decide⟩
abbrev mX6_worstAt : Meth := (yX6_worstAt, cX6_worstAt, 6, some .int, 4)
theorem mcX6_worstAt : MLc mX6_worstAt 1 := ⟨TW_of 49 (by decide +kernel) (by decide +kernel), TW_of 604 (by decide +kernel) (by decide +kernel), by decide +kernel, by decide +kernel, by decide⟩
abbrev mX7_about : Meth := (yX7_about, cX7_about, 3, some .int, 2)
theorem mcX7_about : MLc mX7_about 2 := ⟨TW_of 56 (by decide +kernel) (by decide +kernel), TW_of 821 (by decide +kernel) (by decide +kernel), by decide +kernel, by decide +kernel, by decide⟩
abbrev mX7_anew : Meth := (yX7_anew, cX7_anew, 4, some .int, 2)
theorem mcX7_anew : MLc mX7_anew 3 := ⟨TW_of 56 (by decide +kernel) (by decide +kernel), TW_of 986 (by decide +kernel) (by decide +kernel), by decide +kernel, by decide +kernel, by decide⟩
abbrev mX7_begin : Meth := (yX7_begin, cX7_begin, 3, none, 0)
theorem mcX7_begin : MLc mX7_begin 1 := ⟨TW_of 56 (by decide +kernel) (by decide +kernel), TW_of 695 (by decide +kernel) (by decide +kernel), by decide +kernel, by decide +kernel, by decide⟩
abbrev mX7_between : Meth := (yX7_between, cX7_between, 9, some .long, 1)
theorem mcX7_between : MLc mX7_between 2 := ⟨TW_of 56 (by decide +kernel) (by decide +kernel), TW_of 853 (by decide +kernel) (by decide +kernel), by decide +kernel, by decide +kernel, by decide⟩
abbrev mX7_bring : Meth := (yX7_bring, cX7_bring, 3, none, 0)
theorem mcX7_bring : MLc mX7_bring 1 := ⟨TW_of 56 (by decide +kernel) (by decide +kernel), TW_of 933 (by decide +kernel) (by decide +kernel), by decide +kernel, by decide +kernel, by decide⟩
abbrev mX7_byOne : Meth := (yX7_byOne, cX7_byOne, 4, some .boolean, 6)
theorem mcX7_byOne : MLc mX7_byOne 0 := ⟨TW_of 56 (by decide +kernel) (by decide +kernel), TW_of 958 (by decide +kernel) (by decide +kernel), by decide +kernel, by decide +kernel, by decide⟩
abbrev mX7_bySecond : Meth := (yX7_bySecond, cX7_bySecond, 6, some .boolean, 6)
theorem mcX7_bySecond : MLc mX7_bySecond 2 := ⟨TW_of 56 (by decide +kernel) (by decide +kernel), TW_of 969 (by decide +kernel) (by decide +kernel), by decide +kernel, by decide +kernel, by decide⟩
abbrev mX7_byTwo : Meth := (yX7_byTwo, cX7_byTwo, 4, some .boolean, 7)
theorem mcX7_byTwo : MLc mX7_byTwo 0 := ⟨TW_of 56 (by decide +kernel) (by decide +kernel), TW_of 965 (by decide +kernel) (by decide +kernel), by decide +kernel, by decide +kernel, by decide⟩
abbrev mX7_copy : Meth := (yX7_copy, cX7_copy, 5, some .int, 1)
theorem mcX7_copy : MLc mX7_copy 3 := ⟨TW_of 56 (by decide +kernel) (by decide +kernel), TW_of 802 (by decide +kernel) (by decide +kernel), by decide +kernel, by decide +kernel, by decide⟩
abbrev mX7_count : Meth := (yX7_count, cX7_count, 4, some .int, 1)
theorem mcX7_count : MLc mX7_count 1 := ⟨TW_of 56 (by decide +kernel) (by decide +kernel), TW_of 1041 (by decide +kernel) (by decide +kernel), by decide +kernel, by decide +kernel, by decide⟩
abbrev mX7_crosses : Meth := (yX7_crosses, cX7_crosses, 3, some .int, 2)
theorem mcX7_crosses : MLc mX7_crosses 2 := ⟨TW_of 56 (by decide +kernel) (by decide +kernel), TW_of 1029 (by decide +kernel) (by decide +kernel), by decide +kernel, by decide +kernel, by decide⟩
abbrev mX7_crossings : Meth := (yX7_crossings, cX7_crossings, 4, some .int, 2)
theorem mcX7_crossings : MLc mX7_crossings 1 := ⟨TW_of 56 (by decide +kernel) (by decide +kernel), TW_of 1037 (by decide +kernel) (by decide +kernel), by decide +kernel, by decide +kernel, by decide⟩
abbrev mX7_cut : Meth := (yX7_cut, cX7_cut, 6, some .long, 0)
theorem mcX7_cut : MLc mX7_cut 2 := ⟨TW_of 56 (by decide +kernel) (by decide +kernel), TW_of 860 (by decide +kernel) (by decide +kernel), by decide +kernel, by decide +kernel, by decide⟩
abbrev mX7_enter : Meth := (yX7_enter, cX7_enter, 5, some .int, 1)
theorem mcX7_enter : MLc mX7_enter 3 := ⟨TW_of 56 (by decide +kernel) (by decide +kernel), TW_of 796 (by decide +kernel) (by decide +kernel), by decide +kernel, by decide +kernel, by decide⟩
abbrev mX7_enterLog : Meth := (yX7_enterLog, cX7_enterLog, 3, none, 0)
theorem mcX7_enterLog : MLc mX7_enterLog 2 := ⟨TW_of 56 (by decide +kernel) (by decide +kernel), TW_of 938 (by decide +kernel) (by decide +kernel), by decide +kernel, by decide +kernel, by decide⟩
abbrev mX7_fault : Meth := (yX7_fault, cX7_fault, 3, some .int, 5)
theorem mcX7_fault : MLc mX7_fault 0 := ⟨TW_of 56 (by decide +kernel) (by decide +kernel), TW_of 904 (by decide +kernel) (by decide +kernel), by decide +kernel, by decide +kernel, by decide⟩
abbrev mX7_fewest : Meth := (yX7_fewest, cX7_fewest, 2, some .int, 8)
theorem mcX7_fewest : MLc mX7_fewest 1 := ⟨TW_of 56 (by decide +kernel) (by decide +kernel), TW_of 954 (by decide +kernel) (by decide +kernel), by decide +kernel, by decide +kernel, by decide⟩
abbrev mX7_force : Meth := (yX7_force, cX7_force, 2, some .int, 1)
theorem mcX7_force : MLc mX7_force 1 := ⟨TW_of 56 (by decide +kernel) (by decide +kernel), TW_of 829 (by decide +kernel) (by decide +kernel), by decide +kernel, by decide +kernel, by decide⟩
abbrev mX7_greater : Meth := (yX7_greater, cX7_greater, 4, some .long, 0)
theorem mcX7_greater : MLc mX7_greater 2 := ⟨TW_of 56 (by decide +kernel) (by decide +kernel), TW_of 895 (by decide +kernel) (by decide +kernel), by decide +kernel, by decide +kernel, by decide⟩
abbrev mX7_hub : Meth := (yX7_hub, cX7_hub, 2, some .int, 2)
theorem mcX7_hub : MLc mX7_hub 1 := ⟨TW_of 56 (by decide +kernel) (by decide +kernel), TW_of 1025 (by decide +kernel) (by decide +kernel), by decide +kernel, by decide +kernel, by decide⟩
abbrev mX7_isCross : Meth := (yX7_isCross, cX7_isCross, 5, some .boolean, 1)
theorem mcX7_isCross : MLc mX7_isCross 2 := ⟨TW_of 56 (by decide +kernel) (by decide +kernel), TW_of 1033 (by decide +kernel) (by decide +kernel), by decide +kernel, by decide +kernel, by decide⟩
abbrev mX7_isGone : Meth := (yX7_isGone, cX7_isGone, 2, some .boolean, 0)
theorem mcX7_isGone : MLc mX7_isGone 1 := ⟨TW_of 56 (by decide +kernel) (by decide +kernel), TW_of 787 (by decide +kernel) (by decide +kernel), by decide +kernel, by decide +kernel, by decide⟩
abbrev mX7_isHole : Meth := (yX7_isHole, cX7_isHole, 2, some .boolean, 1)
theorem mcX7_isHole : MLc mX7_isHole 1 := ⟨TW_of 56 (by decide +kernel) (by decide +kernel), TW_of 777 (by decide +kernel) (by decide +kernel), by decide +kernel, by decide +kernel, by decide⟩
abbrev mX7_isIn : Meth := (yX7_isIn, cX7_isIn, 3, some .boolean, 0)
theorem mcX7_isIn : MLc mX7_isIn 3 := ⟨TW_of 56 (by decide +kernel) (by decide +kernel), TW_of 780 (by decide +kernel) (by decide +kernel), by decide +kernel, by decide +kernel, by decide⟩
abbrev mX7_isKind : Meth := (yX7_isKind, cX7_isKind, 1, some .boolean, 1)
theorem mcX7_isKind : MLc mX7_isKind 1 := ⟨TW_of 56 (by decide +kernel) (by decide +kernel), TW_of 783 (by decide +kernel) (by decide +kernel), by decide +kernel, by decide +kernel, by decide⟩
abbrev mX7_isLoose : Meth := (yX7_isLoose, cX7_isLoose, 2, some .boolean, 1)
theorem mcX7_isLoose : MLc mX7_isLoose 1 := ⟨TW_of 56 (by decide +kernel) (by decide +kernel), TW_of 900 (by decide +kernel) (by decide +kernel), by decide +kernel, by decide +kernel, by decide⟩
abbrev mX7_isOf : Meth := (yX7_isOf, cX7_isOf, 5, some .int, 2)
theorem mcX7_isOf : MLc mX7_isOf 2 := ⟨TW_of 56 (by decide +kernel) (by decide +kernel), TW_of 833 (by decide +kernel) (by decide +kernel), by decide +kernel, by decide +kernel, by decide⟩
abbrev mX7_kind : Meth := (yX7_kind, cX7_kind, 4, some .int, 2)
theorem mcX7_kind : MLc mX7_kind 2 := ⟨TW_of 56 (by decide +kernel) (by decide +kernel), TW_of 773 (by decide +kernel) (by decide +kernel), by decide +kernel, by decide +kernel, by decide⟩
abbrev mX7_lace : Meth := (yX7_lace, cX7_lace, 5, some .int, 1)
theorem mcX7_lace : MLc mX7_lace 4 := ⟨TW_of 56 (by decide +kernel) (by decide +kernel), TW_of 1002 (by decide +kernel) (by decide +kernel), by decide +kernel, by decide +kernel, by decide⟩
abbrev mX7_lay : Meth := (yX7_lay, cX7_lay, 3, none, 0)
theorem mcX7_lay : MLc mX7_lay 1 := ⟨TW_of 56 (by decide +kernel) (by decide +kernel), TW_of 921 (by decide +kernel) (by decide +kernel), by decide +kernel, by decide +kernel, by decide⟩
abbrev mX7_leans : Meth := (yX7_leans, cX7_leans, 3, some .int, 0)
theorem mcX7_leans : MLc mX7_leans 1 := ⟨TW_of 56 (by decide +kernel) (by decide +kernel), TW_of 825 (by decide +kernel) (by decide +kernel), by decide +kernel, by decide +kernel, by decide⟩
abbrev mX7_length : Meth := (yX7_length, cX7_length, 8, some .int, 2)
theorem mcX7_length : MLc mX7_length 1 := ⟨TW_of 56 (by decide +kernel) (by decide +kernel), TW_of 1006 (by decide +kernel) (by decide +kernel), by decide +kernel, by decide +kernel, by decide⟩
abbrev mX7_limit : Meth := (yX7_limit, cX7_limit, 4, some .int, 1)
theorem mcX7_limit : MLc mX7_limit 2 := ⟨TW_of 56 (by decide +kernel) (by decide +kernel), TW_of 810 (by decide +kernel) (by decide +kernel), by decide +kernel, by decide +kernel, by decide⟩
abbrev mX7_loaded : Meth := (yX7_loaded, cX7_loaded, 4, some .int, 2)
theorem mcX7_loaded : MLc mX7_loaded 3 := ⟨TW_of 56 (by decide +kernel) (by decide +kernel), TW_of 990 (by decide +kernel) (by decide +kernel), by decide +kernel, by decide +kernel, by decide⟩
abbrev mX7_log : Meth := (yX7_log, cX7_log, 3, some .int, 1)
theorem mcX7_log : MLc mX7_log 2 := ⟨TW_of 56 (by decide +kernel) (by decide +kernel), TW_of 973 (by decide +kernel) (by decide +kernel), by decide +kernel, by decide +kernel, by decide⟩
abbrev mX7_make : Meth := (yX7_make, cX7_make, 7, none, 2)
theorem mcX7_make : MLc mX7_make 2 := ⟨TW_of 56 (by decide +kernel) (by decide +kernel), TW_of 925 (by decide +kernel) (by decide +kernel), by decide +kernel, by decide +kernel, by decide⟩
abbrev mX7_middle : Meth := (yX7_middle, cX7_middle, 4, some .long, 4)
theorem mcX7_middle : MLc mX7_middle 0 := ⟨TW_of 56 (by decide +kernel) (by decide +kernel), TW_of 876 (by decide +kernel) (by decide +kernel), by decide +kernel, by decide +kernel, by decide⟩
abbrev mX7_next : Meth := (yX7_next, cX7_next, 5, some .int, 0)
theorem mcX7_next : MLc mX7_next 3 := ⟨TW_of 56 (by decide +kernel) (by decide +kernel), TW_of 857 (by decide +kernel) (by decide +kernel), by decide +kernel, by decide +kernel, by decide⟩
abbrev mX7_nextQuarter : Meth := (yX7_nextQuarter, cX7_nextQuarter, 7, some .int, 6)
theorem mcX7_nextQuarter : MLc mX7_nextQuarter 0 := ⟨TW_of 56 (by decide +kernel) (by decide +kernel), TW_of 946 (by decide +kernel) (by decide +kernel), by decide +kernel, by decide +kernel, by decide⟩
abbrev mX7_next_ : Meth := (yX7_next_, cX7_next_, 1, some .int, 7)
theorem mcX7_next_ : MLc mX7_next_ 0 := ⟨TW_of 56 (by decide +kernel) (by decide +kernel), TW_of 942 (by decide +kernel) (by decide +kernel), by decide +kernel, by decide +kernel, by decide⟩
abbrev mX7_plan : Meth := (yX7_plan, cX7_plan, 5, some .int, 7)
theorem mcX7_plan : MLc mX7_plan 1 := ⟨TW_of 56 (by decide +kernel) (by decide +kernel), TW_of 950 (by decide +kernel) (by decide +kernel), by decide +kernel, by decide +kernel, by decide⟩
abbrev mX7_pullWith : Meth := (yX7_pullWith, cX7_pullWith, 4, some .long, 1)
theorem mcX7_pullWith : MLc mX7_pullWith 3 := ⟨TW_of 56 (by decide +kernel) (by decide +kernel), TW_of 994 (by decide +kernel) (by decide +kernel), by decide +kernel, by decide +kernel, by decide⟩
abbrev mX7_quarters : Meth := (yX7_quarters, cX7_quarters, 1, some .int, 0)
theorem mcX7_quarters : MLc mX7_quarters 1 := ⟨TW_of 56 (by decide +kernel) (by decide +kernel), TW_of 961 (by decide +kernel) (by decide +kernel), by decide +kernel, by decide +kernel, by decide⟩
abbrev mX7_read : Meth := (yX7_read, cX7_read, 5, some .int, 2)
theorem mcX7_read : MLc mX7_read 3 := ⟨TW_of 56 (by decide +kernel) (by decide +kernel), TW_of 806 (by decide +kernel) (by decide +kernel), by decide +kernel, by decide +kernel, by decide⟩
abbrev mX7_reading : Meth := (yX7_reading, cX7_reading, 3, some .int, 4)
theorem mcX7_reading : MLc mX7_reading 2 := ⟨TW_of 56 (by decide +kernel) (by decide +kernel), TW_of 864 (by decide +kernel) (by decide +kernel), by decide +kernel, by decide +kernel, by decide⟩
abbrev mX7_readingAt : Meth := (yX7_readingAt, cX7_readingAt, 3, some .long, 3)
theorem mcX7_readingAt : MLc mX7_readingAt 2 := ⟨TW_of 56 (by decide +kernel) (by decide +kernel), TW_of 868 (by decide +kernel) (by decide +kernel), by decide +kernel, by decide +kernel, by decide⟩
abbrev mX7_round : Meth := (yX7_round, cX7_round, 3, some .int, 0)
theorem mcX7_round : MLc mX7_round 1 := ⟨TW_of 56 (by decide +kernel) (by decide +kernel), TW_of 1012 (by decide +kernel) (by decide +kernel), by decide +kernel, by decide +kernel, by decide⟩
abbrev mX7_share : Meth := (yX7_share, cX7_share, 4, some .long, 1)
theorem mcX7_share : MLc mX7_share 2 := ⟨TW_of 56 (by decide +kernel) (by decide +kernel), TW_of 888 (by decide +kernel) (by decide +kernel), by decide +kernel, by decide +kernel, by decide⟩
abbrev mX7_sine : Meth := (yX7_sine, cX7_sine, 5, some .int, 1)
theorem mcX7_sine : MLc mX7_sine 1 := ⟨TW_of 56 (by decide +kernel) (by decide +kernel), TW_of 1016 (by decide +kernel) (by decide +kernel), by decide +kernel, by decide +kernel, by decide⟩
abbrev mX7_sine16 : Meth := (yX7_sine16, cX7_sine16, 2, some .int, 0)
theorem mcX7_sine16 : MLc mX7_sine16 1 := ⟨TW_of 56 (by decide +kernel) (by decide +kernel), TW_of 1020 (by decide +kernel) (by decide +kernel), by decide +kernel, by decide +kernel, by decide⟩
abbrev mX7_size : Meth := (yX7_size, cX7_size, 2, some .long, 0)
theorem mcX7_size : MLc mX7_size 1 := ⟨TW_of 56 (by decide +kernel) (by decide +kernel), TW_of 892 (by decide +kernel) (by decide +kernel), by decide +kernel, by decide +kernel, by decide⟩
abbrev mX7_snap : Meth := (yX7_snap, cX7_snap, 5, some .int, 2)
theorem mcX7_snap : MLc mX7_snap 1 := ⟨TW_of 56 (by decide +kernel) (by decide +kernel), TW_of 981 (by decide +kernel) (by decide +kernel), by decide +kernel, by decide +kernel, by decide⟩
abbrev mX7_spread : Meth := (yX7_spread, cX7_spread, 8, some .long, 1)
theorem mcX7_spread : MLc mX7_spread 1 := ⟨TW_of 56 (by decide +kernel) (by decide +kernel), TW_of 880 (by decide +kernel) (by decide +kernel), by decide +kernel, by decide +kernel, by decide⟩
abbrev mX7_state : Meth := (yX7_state, cX7_state, 4, some .int, 6)
theorem mcX7_state : MLc mX7_state 1 := ⟨TW_of 56 (by decide +kernel) (by decide +kernel), TW_of 872 (by decide +kernel) (by decide +kernel), by decide +kernel, by decide +kernel, by decide⟩
abbrev mX7_steps : Meth := (yX7_steps, cX7_steps, 4, some .int, 0)
theorem mcX7_steps : MLc mX7_steps 2 := ⟨TW_of 56 (by decide +kernel) (by decide +kernel), TW_of 929 (by decide +kernel) (by decide +kernel), by decide +kernel, by decide +kernel, by decide⟩
abbrev mX7_table : Meth := (yX7_table, cX7_table, 4, some .int, 1)
theorem mcX7_table : MLc mX7_table 2 := ⟨TW_of 56 (by decide +kernel) (by decide +kernel), TW_of 792 (by decide +kernel) (by decide +kernel), by decide +kernel, by decide +kernel, by decide⟩
abbrev mX7_tell : Meth := (yX7_tell, cX7_tell, 3, some .int, 0)
theorem mcX7_tell : MLc mX7_tell 2 := ⟨TW_of 56 (by decide +kernel) (by decide +kernel), TW_of 841 (by decide +kernel) (by decide +kernel), by decide +kernel, by decide +kernel, by decide⟩
abbrev mX7_tells : Meth := (yX7_tells, cX7_tells, 3, some .int, 1)
theorem mcX7_tells : MLc mX7_tells 2 := ⟨TW_of 56 (by decide +kernel) (by decide +kernel), TW_of 837 (by decide +kernel) (by decide +kernel), by decide +kernel, by decide +kernel, by decide⟩
abbrev mX7_tries : Meth := (yX7_tries, cX7_tries, 5, some .boolean, 3)
theorem mcX7_tries : MLc mX7_tries 3 := ⟨TW_of 56 (by decide +kernel) (by decide +kernel), TW_of 917 (by decide +kernel) (by decide +kernel), by decide +kernel, by decide +kernel, by decide⟩
abbrev mX7_tune : Meth := (yX7_tune, cX7_tune, 4, some .int, 2)
theorem mcX7_tune : MLc mX7_tune 2 := ⟨TW_of 56 (by decide +kernel) (by decide +kernel), TW_of 815 (by decide +kernel) (by decide +kernel), by decide +kernel, by decide +kernel, by decide⟩
abbrev mX7_turn : Meth := (yX7_turn, cX7_turn, 3, some .int, 4)
theorem mcX7_turn : MLc mX7_turn 2 := ⟨TW_of 56 (by decide +kernel) (by decide +kernel), TW_of 913 (by decide +kernel) (by decide +kernel), by decide +kernel, by decide +kernel, by decide⟩
abbrev mX7_unbent : Meth := (yX7_unbent, cX7_unbent, 3, some .int, 3)
theorem mcX7_unbent : MLc mX7_unbent 2 := ⟨TW_of 56 (by decide +kernel) (by decide +kernel), TW_of 845 (by decide +kernel) (by decide +kernel), by decide +kernel, by decide +kernel, by decide⟩
abbrev mX7_unbentAt : Meth := (yX7_unbentAt, cX7_unbentAt, 4, some .long, 2)
theorem mcX7_unbentAt : MLc mX7_unbentAt 2 := ⟨TW_of 56 (by decide +kernel) (by decide +kernel), TW_of 849 (by decide +kernel) (by decide +kernel), by decide +kernel, by decide +kernel, by decide⟩
abbrev mX7_undo : Meth := (yX7_undo, cX7_undo, 1, some .int, 3)
theorem mcX7_undo : MLc mX7_undo 0 := ⟨TW_of 56 (by decide +kernel) (by decide +kernel), TW_of 977 (by decide +kernel) (by decide +kernel), by decide +kernel, by decide +kernel, by decide⟩
abbrev mX7_wheel : Meth := (yX7_wheel, cX7_wheel, 2, some .int, 1)
theorem mcX7_wheel : MLc mX7_wheel 1 := ⟨TW_of 56 (by decide +kernel) (by decide +kernel), TW_of 768 (by decide +kernel) (by decide +kernel), by decide +kernel, by decide +kernel, by decide⟩
abbrev mX7_why : Meth := (yX7_why, cX7_why, 1, some .int, 6)
theorem mcX7_why : MLc mX7_why 0 := ⟨TW_of 56 (by decide +kernel) (by decide +kernel), TW_of 909 (by decide +kernel) (by decide +kernel), by decide +kernel, by decide +kernel, by decide⟩
abbrev mX7_worst : Meth := (yX7_worst, cX7_worst, 4, some .long, 5)
theorem mcX7_worst : MLc mX7_worst 0 := ⟨TW_of 56 (by decide +kernel) (by decide +kernel), TW_of 884 (by decide +kernel) (by decide +kernel), by decide +kernel, by decide +kernel, by decide⟩
abbrev mX7_worstAt : Meth := (yX7_worstAt, cX7_worstAt, 7, some .int, 2)
theorem mcX7_worstAt : MLc mX7_worstAt 1 := ⟨TW_of 56 (by decide +kernel) (by decide +kernel), TW_of 998 (by decide +kernel) (by decide +kernel), by decide +kernel, by decide +kernel, by decide⟩
theorem qX6_59 : MLV RX6 59 mX5_begin 5 1 := ⟨mcX5_begin, ⟨_, rfl, rfl⟩, TW_of 218 (by decide +kernel) (by decide +kernel), TW_of 219 (by decide +kernel) (by decide +kernel), TW_of 220 (by decide +kernel) (by decide +kernel)⟩
theorem qX6_68 : MLV RX6 68 mX5_hasHole 5 1 := ⟨mcX5_hasHole, ⟨_, rfl, rfl⟩, TW_of 253 (by decide +kernel) (by decide +kernel), TW_of 254 (by decide +kernel) (by decide +kernel), TW_of 255 (by decide +kernel) (by decide +kernel)⟩
theorem sX6_72 : MLS RX6 72 mX6_canBePut 1 := ⟨mcX6_canBePut, TW_of 261 (by decide +kernel) (by decide +kernel), Or.inl (TW_of 260 (by decide +kernel) (by decide +kernel))⟩
theorem qX6_75 : MLV RX6 75 mX5_isGone 5 1 := ⟨mcX5_isGone, ⟨_, rfl, rfl⟩, TW_of 264 (by decide +kernel) (by decide +kernel), TW_of 265 (by decide +kernel) (by decide +kernel), TW_of 266 (by decide +kernel) (by decide +kernel)⟩
theorem sX6_82 : MLS RX6 82 mX6_isTable 1 := ⟨mcX6_isTable, TW_of 274 (by decide +kernel) (by decide +kernel), Or.inl (TW_of 273 (by decide +kernel) (by decide +kernel))⟩
theorem sX6_85 : MLS RX6 85 mX6_lies 3 := ⟨mcX6_lies, TW_of 258 (by decide +kernel) (by decide +kernel), Or.inl (TW_of 263 (by decide +kernel) (by decide +kernel))⟩
theorem qX6_89 : MLV RX6 89 mX3_begin 3 2 := ⟨mcX3_begin, ⟨_, rfl, rfl⟩, TW_of 276 (by decide +kernel) (by decide +kernel), TW_of 277 (by decide +kernel) (by decide +kernel), TW_of 278 (by decide +kernel) (by decide +kernel)⟩
theorem sX6_92 : MLS RX6 92 mJ9_max_7cf53 2 := ⟨mcJ9_max_7cf53, TW_of 281 (by decide +kernel) (by decide +kernel), Or.inl (TW_of 280 (by decide +kernel) (by decide +kernel))⟩
theorem qX6_98 : MLV RX6 98 mX3_isMissing 3 1 := ⟨mcX3_isMissing, ⟨_, rfl, rfl⟩, TW_of 287 (by decide +kernel) (by decide +kernel), TW_of 288 (by decide +kernel) (by decide +kernel), TW_of 289 (by decide +kernel) (by decide +kernel)⟩
theorem sX6_110 : MLS RX6 110 mJ9_min_7cf53 2 := ⟨mcJ9_min_7cf53, TW_of 298 (by decide +kernel) (by decide +kernel), Or.inl (TW_of 297 (by decide +kernel) (by decide +kernel))⟩
theorem sX6_113 : MLS RX6 113 mX6_isRow 1 := ⟨mcX6_isRow, TW_of 305 (by decide +kernel) (by decide +kernel), Or.inl (TW_of 304 (by decide +kernel) (by decide +kernel))⟩
theorem qX6_119 : MLV RX6 119 mX5_layStraight 5 1 := ⟨mcX5_layStraight, ⟨_, rfl, rfl⟩, TW_of 307 (by decide +kernel) (by decide +kernel), TW_of 308 (by decide +kernel) (by decide +kernel), TW_of 309 (by decide +kernel) (by decide +kernel)⟩
theorem qX6_128 : MLV RX6 128 mX5_leanOf 5 1 := ⟨mcX5_leanOf, ⟨_, rfl, rfl⟩, TW_of 340 (by decide +kernel) (by decide +kernel), TW_of 341 (by decide +kernel) (by decide +kernel), TW_of 342 (by decide +kernel) (by decide +kernel)⟩
theorem qX6_132 : MLV RX6 132 mX5_forceOf 5 1 := ⟨mcX5_forceOf, ⟨_, rfl, rfl⟩, TW_of 346 (by decide +kernel) (by decide +kernel), TW_of 347 (by decide +kernel) (by decide +kernel), TW_of 348 (by decide +kernel) (by decide +kernel)⟩
theorem sX6_138 : MLS RX6 138 mX6_asNumber 1 := ⟨mcX6_asNumber, TW_of 359 (by decide +kernel) (by decide +kernel), Or.inl (TW_of 358 (by decide +kernel) (by decide +kernel))⟩
theorem qX6_145 : MLV RX6 145 mX5_bentAt 5 2 := ⟨mcX5_bentAt, ⟨_, rfl, rfl⟩, TW_of 373 (by decide +kernel) (by decide +kernel), TW_of 374 (by decide +kernel) (by decide +kernel), TW_of 375 (by decide +kernel) (by decide +kernel)⟩
theorem qX6_148 : MLV RX6 148 mX0_rest 0 0 := ⟨mcX0_rest, ⟨_, rfl, rfl⟩, TW_of 381 (by decide +kernel) (by decide +kernel), TW_of 382 (by decide +kernel) (by decide +kernel), TW_of 383 (by decide +kernel) (by decide +kernel)⟩
theorem qX6_151 : MLV RX6 151 mX0_middle 0 0 := ⟨mcX0_middle, ⟨_, rfl, rfl⟩, TW_of 400 (by decide +kernel) (by decide +kernel), TW_of 401 (by decide +kernel) (by decide +kernel), TW_of 402 (by decide +kernel) (by decide +kernel)⟩
theorem qX6_155 : MLV RX6 155 mX0_spreadOf 0 1 := ⟨mcX0_spreadOf, ⟨_, rfl, rfl⟩, TW_of 407 (by decide +kernel) (by decide +kernel), TW_of 408 (by decide +kernel) (by decide +kernel), TW_of 409 (by decide +kernel) (by decide +kernel)⟩
theorem qX6_158 : MLV RX6 158 mX0_worst 0 0 := ⟨mcX0_worst, ⟨_, rfl, rfl⟩, TW_of 420 (by decide +kernel) (by decide +kernel), TW_of 421 (by decide +kernel) (by decide +kernel), TW_of 422 (by decide +kernel) (by decide +kernel)⟩
theorem qX6_161 : MLV RX6 161 mX0_howManyLoose 0 0 := ⟨mcX0_howManyLoose, ⟨_, rfl, rfl⟩, TW_of 451 (by decide +kernel) (by decide +kernel), TW_of 452 (by decide +kernel) (by decide +kernel), TW_of 453 (by decide +kernel) (by decide +kernel)⟩
theorem qX6_164 : MLV RX6 164 mX0_firstFault 0 0 := ⟨mcX0_firstFault, ⟨_, rfl, rfl⟩, TW_of 459 (by decide +kernel) (by decide +kernel), TW_of 460 (by decide +kernel) (by decide +kernel), TW_of 461 (by decide +kernel) (by decide +kernel)⟩
theorem qX6_168 : MLV RX6 168 mX0_suppose 0 2 := ⟨mcX0_suppose, ⟨_, rfl, rfl⟩, TW_of 485 (by decide +kernel) (by decide +kernel), TW_of 386 (by decide +kernel) (by decide +kernel), TW_of 387 (by decide +kernel) (by decide +kernel)⟩
theorem qX6_171 : MLV RX6 171 mX0_isRefused 0 0 := ⟨mcX0_isRefused, ⟨_, rfl, rfl⟩, TW_of 486 (by decide +kernel) (by decide +kernel), TW_of 487 (by decide +kernel) (by decide +kernel), TW_of 488 (by decide +kernel) (by decide +kernel)⟩
theorem qX6_175 : MLV RX6 175 mX4_isFull 4 0 := ⟨mcX4_isFull, ⟨_, rfl, rfl⟩, TW_of 498 (by decide +kernel) (by decide +kernel), TW_of 499 (by decide +kernel) (by decide +kernel), TW_of 500 (by decide +kernel) (by decide +kernel)⟩
theorem qX6_179 : MLV RX6 179 mX0_keep 0 0 := ⟨mcX0_keep, ⟨_, rfl, rfl⟩, TW_of 503 (by decide +kernel) (by decide +kernel), TW_of 504 (by decide +kernel) (by decide +kernel), TW_of 505 (by decide +kernel) (by decide +kernel)⟩
theorem qX6_182 : MLV RX6 182 mX4_add 4 2 := ⟨mcX4_add, ⟨_, rfl, rfl⟩, TW_of 508 (by decide +kernel) (by decide +kernel), TW_of 509 (by decide +kernel) (by decide +kernel), TW_of 510 (by decide +kernel) (by decide +kernel)⟩
theorem qX6_185 : MLV RX6 185 mX2_bestQuarter 2 0 := ⟨mcX2_bestQuarter, ⟨_, rfl, rfl⟩, TW_of 517 (by decide +kernel) (by decide +kernel), TW_of 518 (by decide +kernel) (by decide +kernel), TW_of 519 (by decide +kernel) (by decide +kernel)⟩
theorem qX6_188 : MLV RX6 188 mX2_fewestSpokes 2 0 := ⟨mcX2_fewestSpokes, ⟨_, rfl, rfl⟩, TW_of 534 (by decide +kernel) (by decide +kernel), TW_of 535 (by decide +kernel) (by decide +kernel), TW_of 536 (by decide +kernel) (by decide +kernel)⟩
theorem qX6_200 : MLV RX6 200 mX6_breaksTooMuch 6 1 := ⟨mcX6_breaksTooMuch, ⟨_, rfl, rfl⟩, TW_of 573 (by decide +kernel) (by decide +kernel), TW_of 575 (by decide +kernel) (by decide +kernel), TW_of 13 (by decide +kernel) (by decide +kernel)⟩
theorem qX6_206 : MLV RX6 206 mX6_pullAfterBreak 6 2 := ⟨mcX6_pullAfterBreak, ⟨_, rfl, rfl⟩, TW_of 577 (by decide +kernel) (by decide +kernel), TW_of 579 (by decide +kernel) (by decide +kernel), TW_of 14 (by decide +kernel) (by decide +kernel)⟩
theorem qX6_210 : MLV RX6 210 mX6_pullUnder 6 3 := ⟨mcX6_pullUnder, ⟨_, rfl, rfl⟩, TW_of 596 (by decide +kernel) (by decide +kernel), TW_of 598 (by decide +kernel) (by decide +kernel), TW_of 15 (by decide +kernel) (by decide +kernel)⟩
theorem qX6_214 : MLV RX6 214 mX6_howManyLooseUnder 6 2 := ⟨mcX6_howManyLooseUnder, ⟨_, rfl, rfl⟩, TW_of 605 (by decide +kernel) (by decide +kernel), TW_of 607 (by decide +kernel) (by decide +kernel), TW_of 16 (by decide +kernel) (by decide +kernel)⟩
theorem qX6_229 : MLV RX6 229 mX1_ahead 1 2 := ⟨mcX1_ahead, ⟨_, rfl, rfl⟩, TW_of 617 (by decide +kernel) (by decide +kernel), TW_of 618 (by decide +kernel) (by decide +kernel), TW_of 619 (by decide +kernel) (by decide +kernel)⟩
theorem qX6_233 : MLV RX6 233 mX1_tenths 1 1 := ⟨mcX1_tenths, ⟨_, rfl, rfl⟩, TW_of 621 (by decide +kernel) (by decide +kernel), TW_of 622 (by decide +kernel) (by decide +kernel), TW_of 623 (by decide +kernel) (by decide +kernel)⟩
theorem qX6_236 : MLV RX6 236 mX1_rimHole 1 2 := ⟨mcX1_rimHole, ⟨_, rfl, rfl⟩, TW_of 648 (by decide +kernel) (by decide +kernel), TW_of 649 (by decide +kernel) (by decide +kernel), TW_of 650 (by decide +kernel) (by decide +kernel)⟩
theorem sX6_239 : MLS RX6 239 mJ9_floorMod_7cf53 2 := ⟨mcJ9_floorMod_7cf53, TW_of 320 (by decide +kernel) (by decide +kernel), Or.inl (TW_of 652 (by decide +kernel) (by decide +kernel))⟩
theorem qX6_242 : MLV RX6 242 mX1_doCross 1 3 := ⟨mcX1_doCross, ⟨_, rfl, rfl⟩, TW_of 657 (by decide +kernel) (by decide +kernel), TW_of 658 (by decide +kernel) (by decide +kernel), TW_of 659 (by decide +kernel) (by decide +kernel)⟩
theorem qX6_246 : MLV RX6 246 mX5_howManyStand 5 0 := ⟨mcX5_howManyStand, ⟨_, rfl, rfl⟩, TW_of 672 (by decide +kernel) (by decide +kernel), TW_of 673 (by decide +kernel) (by decide +kernel), TW_of 674 (by decide +kernel) (by decide +kernel)⟩
theorem qX6_249 : MLV RX6 249 mX4_allQuarters 4 0 := ⟨mcX4_allQuarters, ⟨_, rfl, rfl⟩, TW_of 677 (by decide +kernel) (by decide +kernel), TW_of 678 (by decide +kernel) (by decide +kernel), TW_of 679 (by decide +kernel) (by decide +kernel)⟩
theorem qX6_252 : MLV RX6 252 mX5_howManyRead 5 1 := ⟨mcX5_howManyRead, ⟨_, rfl, rfl⟩, TW_of 682 (by decide +kernel) (by decide +kernel), TW_of 683 (by decide +kernel) (by decide +kernel), TW_of 684 (by decide +kernel) (by decide +kernel)⟩
theorem qX6_255 : MLV RX6 255 mX5_steps 5 2 := ⟨mcX5_steps, ⟨_, rfl, rfl⟩, TW_of 581 (by decide +kernel) (by decide +kernel), TW_of 393 (by decide +kernel) (by decide +kernel), TW_of 394 (by decide +kernel) (by decide +kernel)⟩
theorem sX6_260 : MLS RX6 260 mJ9_floorDiv_f86c9 2 := ⟨mcJ9_floorDiv_f86c9, TW_of 405 (by decide +kernel) (by decide +kernel), Or.inl (TW_of 583 (by decide +kernel) (by decide +kernel))⟩
theorem sX6_264 : MLS RX6 264 mJ9_abs_067f4 1 := ⟨mcJ9_abs_067f4, TW_of 585 (by decide +kernel) (by decide +kernel), Or.inl (TW_of 584 (by decide +kernel) (by decide +kernel))⟩
theorem sX6_270 : MLS RX6 270 mJ9_floorDiv_7cf53 2 := ⟨mcJ9_floorDiv_7cf53, TW_of 323 (by decide +kernel) (by decide +kernel), Or.inl (TW_of 600 (by decide +kernel) (by decide +kernel))⟩
theorem qX0_23 : MLV RX0 23 mX0_suppose 0 2 := ⟨mcX0_suppose, ⟨_, rfl, rfl⟩, TW_of 385 (by decide +kernel) (by decide +kernel), TW_of 386 (by decide +kernel) (by decide +kernel), TW_of 387 (by decide +kernel) (by decide +kernel)⟩
theorem qX0_40 : MLV RX0 40 mX5_bentAt 5 2 := ⟨mcX5_bentAt, ⟨_, rfl, rfl⟩, TW_of 391 (by decide +kernel) (by decide +kernel), TW_of 374 (by decide +kernel) (by decide +kernel), TW_of 375 (by decide +kernel) (by decide +kernel)⟩
theorem qX0_50 : MLV RX0 50 mX5_steps 5 2 := ⟨mcX5_steps, ⟨_, rfl, rfl⟩, TW_of 392 (by decide +kernel) (by decide +kernel), TW_of 393 (by decide +kernel) (by decide +kernel), TW_of 394 (by decide +kernel) (by decide +kernel)⟩
theorem qX0_56 : MLV RX0 56 mX5_leanOf 5 1 := ⟨mcX5_leanOf, ⟨_, rfl, rfl⟩, TW_of 389 (by decide +kernel) (by decide +kernel), TW_of 341 (by decide +kernel) (by decide +kernel), TW_of 342 (by decide +kernel) (by decide +kernel)⟩
theorem qX0_63 : MLV RX0 63 mX5_forceOf 5 1 := ⟨mcX5_forceOf, ⟨_, rfl, rfl⟩, TW_of 390 (by decide +kernel) (by decide +kernel), TW_of 347 (by decide +kernel) (by decide +kernel), TW_of 348 (by decide +kernel) (by decide +kernel)⟩
theorem qX0_75 : MLV RX0 75 mX0_shiftAt 0 2 := ⟨mcX0_shiftAt, ⟨_, rfl, rfl⟩, TW_of 432 (by decide +kernel) (by decide +kernel), TW_of 434 (by decide +kernel) (by decide +kernel), TW_of 3 (by decide +kernel) (by decide +kernel)⟩
theorem qX0_81 : MLV RX0 81 mX0_pullOf 0 1 := ⟨mcX0_pullOf, ⟨_, rfl, rfl⟩, TW_of 413 (by decide +kernel) (by decide +kernel), TW_of 414 (by decide +kernel) (by decide +kernel), TW_of 415 (by decide +kernel) (by decide +kernel)⟩
theorem qX0_84 : MLV RX0 84 mX0_rest 0 0 := ⟨mcX0_rest, ⟨_, rfl, rfl⟩, TW_of 507 (by decide +kernel) (by decide +kernel), TW_of 382 (by decide +kernel) (by decide +kernel), TW_of 383 (by decide +kernel) (by decide +kernel)⟩
theorem qX0_87 : MLV RX0 87 mX5_isGone 5 1 := ⟨mcX5_isGone, ⟨_, rfl, rfl⟩, TW_of 417 (by decide +kernel) (by decide +kernel), TW_of 265 (by decide +kernel) (by decide +kernel), TW_of 266 (by decide +kernel) (by decide +kernel)⟩
theorem sX0_91 : MLS RX0 91 mJ9_floorDiv_f86c9 2 := ⟨mcJ9_floorDiv_f86c9, TW_of 405 (by decide +kernel) (by decide +kernel), Or.inl (TW_of 404 (by decide +kernel) (by decide +kernel))⟩
theorem sX0_101 : MLS RX0 101 mJ9_min_7cf53 2 := ⟨mcJ9_min_7cf53, TW_of 298 (by decide +kernel) (by decide +kernel), Or.inl (TW_of 418 (by decide +kernel) (by decide +kernel))⟩
theorem sX0_104 : MLS RX0 104 mJ9_max_7cf53 2 := ⟨mcJ9_max_7cf53, TW_of 281 (by decide +kernel) (by decide +kernel), Or.inl (TW_of 419 (by decide +kernel) (by decide +kernel))⟩
theorem qX0_107 : MLV RX0 107 mX0_greatestSize 0 1 := ⟨mcX0_greatestSize, ⟨_, rfl, rfl⟩, TW_of 424 (by decide +kernel) (by decide +kernel), TW_of 426 (by decide +kernel) (by decide +kernel), TW_of 2 (by decide +kernel) (by decide +kernel)⟩
theorem qX0_110 : MLV RX0 110 mX0_share 0 2 := ⟨mcX0_share, ⟨_, rfl, rfl⟩, TW_of 437 (by decide +kernel) (by decide +kernel), TW_of 439 (by decide +kernel) (by decide +kernel), TW_of 4 (by decide +kernel) (by decide +kernel)⟩
theorem sX0_114 : MLS RX0 114 mJ9_max_f86c9 2 := ⟨mcJ9_max_f86c9, TW_of 443 (by decide +kernel) (by decide +kernel), Or.inl (TW_of 442 (by decide +kernel) (by decide +kernel))⟩
theorem qX0_116 : MLV RX0 116 mX0_middle 0 0 := ⟨mcX0_middle, ⟨_, rfl, rfl⟩, TW_of 445 (by decide +kernel) (by decide +kernel), TW_of 401 (by decide +kernel) (by decide +kernel), TW_of 402 (by decide +kernel) (by decide +kernel)⟩
theorem sX0_120 : MLS RX0 120 mJ9_abs_0f7a4 1 := ⟨mcJ9_abs_0f7a4, TW_of 397 (by decide +kernel) (by decide +kernel), Or.inl (TW_of 436 (by decide +kernel) (by decide +kernel))⟩
theorem qX0_123 : MLV RX0 123 mX0_spreadOf 0 1 := ⟨mcX0_spreadOf, ⟨_, rfl, rfl⟩, TW_of 446 (by decide +kernel) (by decide +kernel), TW_of 408 (by decide +kernel) (by decide +kernel), TW_of 409 (by decide +kernel) (by decide +kernel)⟩
theorem sX0_128 : MLS RX0 128 mJ9_min_f86c9 2 := ⟨mcJ9_min_f86c9, TW_of 449 (by decide +kernel) (by decide +kernel), Or.inl (TW_of 448 (by decide +kernel) (by decide +kernel))⟩
theorem qX0_132 : MLV RX0 132 mX0_readingAt 0 2 := ⟨mcX0_readingAt, ⟨_, rfl, rfl⟩, TW_of 428 (by decide +kernel) (by decide +kernel), TW_of 429 (by decide +kernel) (by decide +kernel), TW_of 430 (by decide +kernel) (by decide +kernel)⟩
theorem qX0_135 : MLV RX0 135 mX0_isLoose 0 1 := ⟨mcX0_isLoose, ⟨_, rfl, rfl⟩, TW_of 455 (by decide +kernel) (by decide +kernel), TW_of 457 (by decide +kernel) (by decide +kernel), TW_of 5 (by decide +kernel) (by decide +kernel)⟩
theorem qX0_138 : MLV RX0 138 mX0_isBent 0 2 := ⟨mcX0_isBent, ⟨_, rfl, rfl⟩, TW_of 463 (by decide +kernel) (by decide +kernel), TW_of 465 (by decide +kernel) (by decide +kernel), TW_of 6 (by decide +kernel) (by decide +kernel)⟩
theorem qX0_142 : MLV RX0 142 mX0_isOffMiddle 0 0 := ⟨mcX0_isOffMiddle, ⟨_, rfl, rfl⟩, TW_of 467 (by decide +kernel) (by decide +kernel), TW_of 469 (by decide +kernel) (by decide +kernel), TW_of 7 (by decide +kernel) (by decide +kernel)⟩
theorem qX0_146 : MLV RX0 146 mX0_isSpread 0 1 := ⟨mcX0_isSpread, ⟨_, rfl, rfl⟩, TW_of 471 (by decide +kernel) (by decide +kernel), TW_of 473 (by decide +kernel) (by decide +kernel), TW_of 8 (by decide +kernel) (by decide +kernel)⟩
theorem qX0_150 : MLV RX0 150 mX0_bearsTooMuch 0 1 := ⟨mcX0_bearsTooMuch, ⟨_, rfl, rfl⟩, TW_of 494 (by decide +kernel) (by decide +kernel), TW_of 496 (by decide +kernel) (by decide +kernel), TW_of 9 (by decide +kernel) (by decide +kernel)⟩
theorem qX0_153 : MLV RX0 153 mX0_firstOverload 0 0 := ⟨mcX0_firstOverload, ⟨_, rfl, rfl⟩, TW_of 490 (by decide +kernel) (by decide +kernel), TW_of 491 (by decide +kernel) (by decide +kernel), TW_of 492 (by decide +kernel) (by decide +kernel)⟩
theorem sX1_37 : MLS RX1 37 mX1_sine 1 := ⟨mcX1_sine, TW_of 628 (by decide +kernel) (by decide +kernel), Or.inl (TW_of 627 (by decide +kernel) (by decide +kernel))⟩
theorem sX1_43 : MLS RX1 43 mJ9_floorDiv_f86c9 2 := ⟨mcJ9_floorDiv_f86c9, TW_of 405 (by decide +kernel) (by decide +kernel), Or.inl (TW_of 637 (by decide +kernel) (by decide +kernel))⟩
theorem sX1_49 : MLS RX1 49 mJ9_max_f86c9 2 := ⟨mcJ9_max_f86c9, TW_of 443 (by decide +kernel) (by decide +kernel), Or.inl (TW_of 638 (by decide +kernel) (by decide +kernel))⟩
theorem sX1_52 : MLS RX1 52 mX1_wholeRoot 1 := ⟨mcX1_wholeRoot, TW_of 640 (by decide +kernel) (by decide +kernel), Or.inl (TW_of 639 (by decide +kernel) (by decide +kernel))⟩
theorem sX1_56 : MLS RX1 56 mJ9_floorMod_7cf53 2 := ⟨mcJ9_floorMod_7cf53, TW_of 320 (by decide +kernel) (by decide +kernel), Or.inl (TW_of 630 (by decide +kernel) (by decide +kernel))⟩
theorem sX1_60 : MLS RX1 60 mX1_halfSine 1 := ⟨mcX1_halfSine, TW_of 632 (by decide +kernel) (by decide +kernel), Or.inl (TW_of 631 (by decide +kernel) (by decide +kernel))⟩
theorem qX1_70 : MLV RX1 70 mX5_leanOf 5 1 := ⟨mcX5_leanOf, ⟨_, rfl, rfl⟩, TW_of 661 (by decide +kernel) (by decide +kernel), TW_of 341 (by decide +kernel) (by decide +kernel), TW_of 342 (by decide +kernel) (by decide +kernel)⟩
theorem qX1_73 : MLV RX1 73 mX1_rimHole 1 2 := ⟨mcX1_rimHole, ⟨_, rfl, rfl⟩, TW_of 662 (by decide +kernel) (by decide +kernel), TW_of 649 (by decide +kernel) (by decide +kernel), TW_of 650 (by decide +kernel) (by decide +kernel)⟩
theorem qX1_77 : MLV RX1 77 mX1_ahead 1 2 := ⟨mcX1_ahead, ⟨_, rfl, rfl⟩, TW_of 663 (by decide +kernel) (by decide +kernel), TW_of 618 (by decide +kernel) (by decide +kernel), TW_of 619 (by decide +kernel) (by decide +kernel)⟩
theorem qX2_23 : MLV RX2 23 mX0_rest 0 0 := ⟨mcX0_rest, ⟨_, rfl, rfl⟩, TW_of 521 (by decide +kernel) (by decide +kernel), TW_of 382 (by decide +kernel) (by decide +kernel), TW_of 383 (by decide +kernel) (by decide +kernel)⟩
theorem qX2_28 : MLV RX2 28 mX0_worst 0 0 := ⟨mcX0_worst, ⟨_, rfl, rfl⟩, TW_of 522 (by decide +kernel) (by decide +kernel), TW_of 421 (by decide +kernel) (by decide +kernel), TW_of 422 (by decide +kernel) (by decide +kernel)⟩
theorem qX2_39 : MLV RX2 39 mX0_suppose 0 2 := ⟨mcX0_suppose, ⟨_, rfl, rfl⟩, TW_of 524 (by decide +kernel) (by decide +kernel), TW_of 386 (by decide +kernel) (by decide +kernel), TW_of 387 (by decide +kernel) (by decide +kernel)⟩
theorem qX2_43 : MLV RX2 43 mX0_isRefused 0 0 := ⟨mcX0_isRefused, ⟨_, rfl, rfl⟩, TW_of 525 (by decide +kernel) (by decide +kernel), TW_of 487 (by decide +kernel) (by decide +kernel), TW_of 488 (by decide +kernel) (by decide +kernel)⟩
theorem qX2_47 : MLV RX2 47 mX0_firstFault 0 0 := ⟨mcX0_firstFault, ⟨_, rfl, rfl⟩, TW_of 538 (by decide +kernel) (by decide +kernel), TW_of 460 (by decide +kernel) (by decide +kernel), TW_of 461 (by decide +kernel) (by decide +kernel)⟩
theorem qX2_53 : MLV RX2 53 mX2_findsOne 2 2 := ⟨mcX2_findsOne, ⟨_, rfl, rfl⟩, TW_of 539 (by decide +kernel) (by decide +kernel), TW_of 541 (by decide +kernel) (by decide +kernel), TW_of 10 (by decide +kernel) (by decide +kernel)⟩
theorem qX2_57 : MLV RX2 57 mX2_findsTwo 2 0 := ⟨mcX2_findsTwo, ⟨_, rfl, rfl⟩, TW_of 556 (by decide +kernel) (by decide +kernel), TW_of 558 (by decide +kernel) (by decide +kernel), TW_of 12 (by decide +kernel) (by decide +kernel)⟩
theorem sX2_60 : MLS RX2 60 mX2_nearest 1 := ⟨mcX2_nearest, TW_of 545 (by decide +kernel) (by decide +kernel), Or.inl (TW_of 544 (by decide +kernel) (by decide +kernel))⟩
theorem qX2_64 : MLV RX2 64 mX0_keep 0 0 := ⟨mcX0_keep, ⟨_, rfl, rfl⟩, TW_of 560 (by decide +kernel) (by decide +kernel), TW_of 504 (by decide +kernel) (by decide +kernel), TW_of 505 (by decide +kernel) (by decide +kernel)⟩
theorem qX2_67 : MLV RX2 67 mX5_isGone 5 1 := ⟨mcX5_isGone, ⟨_, rfl, rfl⟩, TW_of 543 (by decide +kernel) (by decide +kernel), TW_of 265 (by decide +kernel) (by decide +kernel), TW_of 266 (by decide +kernel) (by decide +kernel)⟩
theorem qX2_71 : MLV RX2 71 mX2_bringsWithin 2 0 := ⟨mcX2_bringsWithin, ⟨_, rfl, rfl⟩, TW_of 547 (by decide +kernel) (by decide +kernel), TW_of 549 (by decide +kernel) (by decide +kernel), TW_of 11 (by decide +kernel) (by decide +kernel)⟩
theorem qX2_74 : MLV RX2 74 mX0_hasFault 0 1 := ⟨mcX0_hasFault, ⟨_, rfl, rfl⟩, TW_of 551 (by decide +kernel) (by decide +kernel), TW_of 552 (by decide +kernel) (by decide +kernel), TW_of 553 (by decide +kernel) (by decide +kernel)⟩
theorem qX2_77 : MLV RX2 77 mX0_firstOverload 0 0 := ⟨mcX0_firstOverload, ⟨_, rfl, rfl⟩, TW_of 555 (by decide +kernel) (by decide +kernel), TW_of 491 (by decide +kernel) (by decide +kernel), TW_of 492 (by decide +kernel) (by decide +kernel)⟩
theorem qX4_22 : MLV RX4 22 mX4_isFull 4 0 := ⟨mcX4_isFull, ⟨_, rfl, rfl⟩, TW_of 512 (by decide +kernel) (by decide +kernel), TW_of 499 (by decide +kernel) (by decide +kernel), TW_of 500 (by decide +kernel) (by decide +kernel)⟩
theorem sX4_26 : MLS RX4 26 mJ9_abs_0f7a4 1 := ⟨mcJ9_abs_0f7a4, TW_of 397 (by decide +kernel) (by decide +kernel), Or.inl (TW_of 681 (by decide +kernel) (by decide +kernel))⟩
theorem sX5_43 : MLS RX5 43 mJ9_abs_0f7a4 1 := ⟨mcJ9_abs_0f7a4, TW_of 397 (by decide +kernel) (by decide +kernel), Or.inl (TW_of 396 (by decide +kernel) (by decide +kernel))⟩
theorem sX5_49 : MLS RX5 49 mJ9_min_7cf53 2 := ⟨mcJ9_min_7cf53, TW_of 298 (by decide +kernel) (by decide +kernel), Or.inl (TW_of 399 (by decide +kernel) (by decide +kernel))⟩
theorem qX5_53 : MLV RX5 53 mX5_between 5 2 := ⟨mcX5_between, ⟨_, rfl, rfl⟩, TW_of 311 (by decide +kernel) (by decide +kernel), TW_of 313 (by decide +kernel) (by decide +kernel), TW_of 0 (by decide +kernel) (by decide +kernel)⟩
theorem qX5_56 : MLV RX5 56 mX5_stepsToRead 5 3 := ⟨mcX5_stepsToRead, ⟨_, rfl, rfl⟩, TW_of 315 (by decide +kernel) (by decide +kernel), TW_of 317 (by decide +kernel) (by decide +kernel), TW_of 1 (by decide +kernel) (by decide +kernel)⟩
theorem sX5_60 : MLS RX5 60 mJ9_floorMod_7cf53 2 := ⟨mcJ9_floorMod_7cf53, TW_of 320 (by decide +kernel) (by decide +kernel), Or.inl (TW_of 319 (by decide +kernel) (by decide +kernel))⟩
theorem sX5_63 : MLS RX5 63 mJ9_floorDiv_7cf53 2 := ⟨mcJ9_floorDiv_7cf53, TW_of 323 (by decide +kernel) (by decide +kernel), Or.inl (TW_of 322 (by decide +kernel) (by decide +kernel))⟩
theorem qX5_66 : MLV RX5 66 mX5_isGone 5 1 := ⟨mcX5_isGone, ⟨_, rfl, rfl⟩, TW_of 676 (by decide +kernel) (by decide +kernel), TW_of 265 (by decide +kernel) (by decide +kernel), TW_of 266 (by decide +kernel) (by decide +kernel)⟩
theorem qL_13 : MLV RL 13 mX6_wheel 6 1 := ⟨mcX6_wheel, ⟨_, rfl, rfl⟩, TW_of 244 (by decide +kernel) (by decide +kernel), TW_of 245 (by decide +kernel) (by decide +kernel), TW_of 246 (by decide +kernel) (by decide +kernel)⟩
theorem qL_17 : MLV RL 17 mX7_wheel 7 1 := ⟨mcX7_wheel, ⟨_, rfl, rfl⟩, TW_of 765 (by decide +kernel) (by decide +kernel), TW_of 766 (by decide +kernel) (by decide +kernel), TW_of 767 (by decide +kernel) (by decide +kernel)⟩
theorem qL_18 : MLV RL 18 mX6_kind 6 2 := ⟨mcX6_kind, ⟨_, rfl, rfl⟩, TW_of 249 (by decide +kernel) (by decide +kernel), TW_of 250 (by decide +kernel) (by decide +kernel), TW_of 251 (by decide +kernel) (by decide +kernel)⟩
theorem qL_22 : MLV RL 22 mX7_kind 7 2 := ⟨mcX7_kind, ⟨_, rfl, rfl⟩, TW_of 770 (by decide +kernel) (by decide +kernel), TW_of 771 (by decide +kernel) (by decide +kernel), TW_of 772 (by decide +kernel) (by decide +kernel)⟩
theorem qL_23 : MLV RL 23 mX6_table 6 2 := ⟨mcX6_table, ⟨_, rfl, rfl⟩, TW_of 269 (by decide +kernel) (by decide +kernel), TW_of 270 (by decide +kernel) (by decide +kernel), TW_of 271 (by decide +kernel) (by decide +kernel)⟩
theorem qL_26 : MLV RL 26 mX7_table 7 2 := ⟨mcX7_table, ⟨_, rfl, rfl⟩, TW_of 789 (by decide +kernel) (by decide +kernel), TW_of 790 (by decide +kernel) (by decide +kernel), TW_of 791 (by decide +kernel) (by decide +kernel)⟩
theorem qL_27 : MLV RL 27 mX6_enter 6 3 := ⟨mcX6_enter, ⟨_, rfl, rfl⟩, TW_of 283 (by decide +kernel) (by decide +kernel), TW_of 284 (by decide +kernel) (by decide +kernel), TW_of 285 (by decide +kernel) (by decide +kernel)⟩
theorem qL_31 : MLV RL 31 mX7_enter 7 3 := ⟨mcX7_enter, ⟨_, rfl, rfl⟩, TW_of 793 (by decide +kernel) (by decide +kernel), TW_of 794 (by decide +kernel) (by decide +kernel), TW_of 795 (by decide +kernel) (by decide +kernel)⟩
theorem qL_32 : MLV RL 32 mX6_copy 6 3 := ⟨mcX6_copy, ⟨_, rfl, rfl⟩, TW_of 293 (by decide +kernel) (by decide +kernel), TW_of 294 (by decide +kernel) (by decide +kernel), TW_of 295 (by decide +kernel) (by decide +kernel)⟩
theorem qL_35 : MLV RL 35 mX7_copy 7 3 := ⟨mcX7_copy, ⟨_, rfl, rfl⟩, TW_of 799 (by decide +kernel) (by decide +kernel), TW_of 800 (by decide +kernel) (by decide +kernel), TW_of 801 (by decide +kernel) (by decide +kernel)⟩
theorem qL_36 : MLV RL 36 mX6_read 6 3 := ⟨mcX6_read, ⟨_, rfl, rfl⟩, TW_of 300 (by decide +kernel) (by decide +kernel), TW_of 301 (by decide +kernel) (by decide +kernel), TW_of 302 (by decide +kernel) (by decide +kernel)⟩
theorem qL_39 : MLV RL 39 mX7_read 7 3 := ⟨mcX7_read, ⟨_, rfl, rfl⟩, TW_of 803 (by decide +kernel) (by decide +kernel), TW_of 804 (by decide +kernel) (by decide +kernel), TW_of 805 (by decide +kernel) (by decide +kernel)⟩
theorem qL_40 : MLV RL 40 mX6_limit 6 2 := ⟨mcX6_limit, ⟨_, rfl, rfl⟩, TW_of 325 (by decide +kernel) (by decide +kernel), TW_of 326 (by decide +kernel) (by decide +kernel), TW_of 327 (by decide +kernel) (by decide +kernel)⟩
theorem qL_43 : MLV RL 43 mX7_limit 7 2 := ⟨mcX7_limit, ⟨_, rfl, rfl⟩, TW_of 807 (by decide +kernel) (by decide +kernel), TW_of 808 (by decide +kernel) (by decide +kernel), TW_of 809 (by decide +kernel) (by decide +kernel)⟩
theorem qL_44 : MLV RL 44 mX6_tune 6 2 := ⟨mcX6_tune, ⟨_, rfl, rfl⟩, TW_of 330 (by decide +kernel) (by decide +kernel), TW_of 331 (by decide +kernel) (by decide +kernel), TW_of 332 (by decide +kernel) (by decide +kernel)⟩
theorem qL_47 : MLV RL 47 mX7_tune 7 2 := ⟨mcX7_tune, ⟨_, rfl, rfl⟩, TW_of 812 (by decide +kernel) (by decide +kernel), TW_of 813 (by decide +kernel) (by decide +kernel), TW_of 814 (by decide +kernel) (by decide +kernel)⟩
theorem qL_48 : MLV RL 48 mX6_about 6 2 := ⟨mcX6_about, ⟨_, rfl, rfl⟩, TW_of 336 (by decide +kernel) (by decide +kernel), TW_of 337 (by decide +kernel) (by decide +kernel), TW_of 338 (by decide +kernel) (by decide +kernel)⟩
theorem qL_51 : MLV RL 51 mX7_about 7 2 := ⟨mcX7_about, ⟨_, rfl, rfl⟩, TW_of 818 (by decide +kernel) (by decide +kernel), TW_of 819 (by decide +kernel) (by decide +kernel), TW_of 820 (by decide +kernel) (by decide +kernel)⟩
theorem qL_52 : MLV RL 52 mX6_isOf 6 2 := ⟨mcX6_isOf, ⟨_, rfl, rfl⟩, TW_of 352 (by decide +kernel) (by decide +kernel), TW_of 353 (by decide +kernel) (by decide +kernel), TW_of 354 (by decide +kernel) (by decide +kernel)⟩
theorem qL_55 : MLV RL 55 mX7_isOf 7 2 := ⟨mcX7_isOf, ⟨_, rfl, rfl⟩, TW_of 830 (by decide +kernel) (by decide +kernel), TW_of 831 (by decide +kernel) (by decide +kernel), TW_of 832 (by decide +kernel) (by decide +kernel)⟩
theorem qL_56 : MLV RL 56 mX6_tells 6 2 := ⟨mcX6_tells, ⟨_, rfl, rfl⟩, TW_of 361 (by decide +kernel) (by decide +kernel), TW_of 362 (by decide +kernel) (by decide +kernel), TW_of 363 (by decide +kernel) (by decide +kernel)⟩
theorem qL_59 : MLV RL 59 mX7_tells 7 2 := ⟨mcX7_tells, ⟨_, rfl, rfl⟩, TW_of 834 (by decide +kernel) (by decide +kernel), TW_of 835 (by decide +kernel) (by decide +kernel), TW_of 836 (by decide +kernel) (by decide +kernel)⟩
theorem qL_60 : MLV RL 60 mX6_unbent 6 2 := ⟨mcX6_unbent, ⟨_, rfl, rfl⟩, TW_of 365 (by decide +kernel) (by decide +kernel), TW_of 366 (by decide +kernel) (by decide +kernel), TW_of 367 (by decide +kernel) (by decide +kernel)⟩
theorem qL_63 : MLV RL 63 mX7_unbent 7 2 := ⟨mcX7_unbent, ⟨_, rfl, rfl⟩, TW_of 842 (by decide +kernel) (by decide +kernel), TW_of 843 (by decide +kernel) (by decide +kernel), TW_of 844 (by decide +kernel) (by decide +kernel)⟩
theorem qL_64 : MLV RL 64 mX6_reading 6 2 := ⟨mcX6_reading, ⟨_, rfl, rfl⟩, TW_of 369 (by decide +kernel) (by decide +kernel), TW_of 370 (by decide +kernel) (by decide +kernel), TW_of 371 (by decide +kernel) (by decide +kernel)⟩
theorem qL_67 : MLV RL 67 mX7_reading 7 2 := ⟨mcX7_reading, ⟨_, rfl, rfl⟩, TW_of 861 (by decide +kernel) (by decide +kernel), TW_of 862 (by decide +kernel) (by decide +kernel), TW_of 863 (by decide +kernel) (by decide +kernel)⟩
theorem qL_68 : MLV RL 68 mX6_state 6 1 := ⟨mcX6_state, ⟨_, rfl, rfl⟩, TW_of 377 (by decide +kernel) (by decide +kernel), TW_of 378 (by decide +kernel) (by decide +kernel), TW_of 379 (by decide +kernel) (by decide +kernel)⟩
theorem qL_71 : MLV RL 71 mX7_state 7 1 := ⟨mcX7_state, ⟨_, rfl, rfl⟩, TW_of 869 (by decide +kernel) (by decide +kernel), TW_of 870 (by decide +kernel) (by decide +kernel), TW_of 871 (by decide +kernel) (by decide +kernel)⟩
theorem qL_72 : MLV RL 72 mX6_why 6 0 := ⟨mcX6_why, ⟨_, rfl, rfl⟩, TW_of 477 (by decide +kernel) (by decide +kernel), TW_of 478 (by decide +kernel) (by decide +kernel), TW_of 479 (by decide +kernel) (by decide +kernel)⟩
theorem qL_76 : MLV RL 76 mX7_why 7 0 := ⟨mcX7_why, ⟨_, rfl, rfl⟩, TW_of 906 (by decide +kernel) (by decide +kernel), TW_of 907 (by decide +kernel) (by decide +kernel), TW_of 908 (by decide +kernel) (by decide +kernel)⟩
theorem qL_77 : MLV RL 77 mX6_turn 6 2 := ⟨mcX6_turn, ⟨_, rfl, rfl⟩, TW_of 481 (by decide +kernel) (by decide +kernel), TW_of 482 (by decide +kernel) (by decide +kernel), TW_of 483 (by decide +kernel) (by decide +kernel)⟩
theorem qL_80 : MLV RL 80 mX7_turn 7 2 := ⟨mcX7_turn, ⟨_, rfl, rfl⟩, TW_of 910 (by decide +kernel) (by decide +kernel), TW_of 911 (by decide +kernel) (by decide +kernel), TW_of 912 (by decide +kernel) (by decide +kernel)⟩
theorem qL_81 : MLV RL 81 mX6_next 6 0 := ⟨mcX6_next, ⟨_, rfl, rfl⟩, TW_of 513 (by decide +kernel) (by decide +kernel), TW_of 514 (by decide +kernel) (by decide +kernel), TW_of 515 (by decide +kernel) (by decide +kernel)⟩
theorem qL_84 : MLV RL 84 mX7_next_ 7 0 := ⟨mcX7_next_, ⟨_, rfl, rfl⟩, TW_of 939 (by decide +kernel) (by decide +kernel), TW_of 940 (by decide +kernel) (by decide +kernel), TW_of 941 (by decide +kernel) (by decide +kernel)⟩
theorem qL_85 : MLV RL 85 mX6_plan 6 1 := ⟨mcX6_plan, ⟨_, rfl, rfl⟩, TW_of 526 (by decide +kernel) (by decide +kernel), TW_of 527 (by decide +kernel) (by decide +kernel), TW_of 528 (by decide +kernel) (by decide +kernel)⟩
theorem qL_88 : MLV RL 88 mX7_plan 7 1 := ⟨mcX7_plan, ⟨_, rfl, rfl⟩, TW_of 947 (by decide +kernel) (by decide +kernel), TW_of 948 (by decide +kernel) (by decide +kernel), TW_of 949 (by decide +kernel) (by decide +kernel)⟩
theorem qL_89 : MLV RL 89 mX6_fewest 6 1 := ⟨mcX6_fewest, ⟨_, rfl, rfl⟩, TW_of 530 (by decide +kernel) (by decide +kernel), TW_of 531 (by decide +kernel) (by decide +kernel), TW_of 532 (by decide +kernel) (by decide +kernel)⟩
theorem qL_92 : MLV RL 92 mX7_fewest 7 1 := ⟨mcX7_fewest, ⟨_, rfl, rfl⟩, TW_of 951 (by decide +kernel) (by decide +kernel), TW_of 952 (by decide +kernel) (by decide +kernel), TW_of 953 (by decide +kernel) (by decide +kernel)⟩
theorem qL_93 : MLV RL 93 mX6_log 6 2 := ⟨mcX6_log, ⟨_, rfl, rfl⟩, TW_of 561 (by decide +kernel) (by decide +kernel), TW_of 562 (by decide +kernel) (by decide +kernel), TW_of 563 (by decide +kernel) (by decide +kernel)⟩
theorem qL_96 : MLV RL 96 mX7_log 7 2 := ⟨mcX7_log, ⟨_, rfl, rfl⟩, TW_of 970 (by decide +kernel) (by decide +kernel), TW_of 971 (by decide +kernel) (by decide +kernel), TW_of 972 (by decide +kernel) (by decide +kernel)⟩
theorem qL_97 : MLV RL 97 mX6_undo 6 0 := ⟨mcX6_undo, ⟨_, rfl, rfl⟩, TW_of 565 (by decide +kernel) (by decide +kernel), TW_of 566 (by decide +kernel) (by decide +kernel), TW_of 567 (by decide +kernel) (by decide +kernel)⟩
theorem qL_100 : MLV RL 100 mX7_undo 7 0 := ⟨mcX7_undo, ⟨_, rfl, rfl⟩, TW_of 974 (by decide +kernel) (by decide +kernel), TW_of 975 (by decide +kernel) (by decide +kernel), TW_of 976 (by decide +kernel) (by decide +kernel)⟩
theorem qL_101 : MLV RL 101 mX6_snap 6 1 := ⟨mcX6_snap, ⟨_, rfl, rfl⟩, TW_of 569 (by decide +kernel) (by decide +kernel), TW_of 570 (by decide +kernel) (by decide +kernel), TW_of 571 (by decide +kernel) (by decide +kernel)⟩
theorem qL_104 : MLV RL 104 mX7_snap 7 1 := ⟨mcX7_snap, ⟨_, rfl, rfl⟩, TW_of 978 (by decide +kernel) (by decide +kernel), TW_of 979 (by decide +kernel) (by decide +kernel), TW_of 980 (by decide +kernel) (by decide +kernel)⟩
theorem qL_105 : MLV RL 105 mX6_anew 6 3 := ⟨mcX6_anew, ⟨_, rfl, rfl⟩, TW_of 588 (by decide +kernel) (by decide +kernel), TW_of 589 (by decide +kernel) (by decide +kernel), TW_of 590 (by decide +kernel) (by decide +kernel)⟩
theorem qL_108 : MLV RL 108 mX7_anew 7 3 := ⟨mcX7_anew, ⟨_, rfl, rfl⟩, TW_of 983 (by decide +kernel) (by decide +kernel), TW_of 984 (by decide +kernel) (by decide +kernel), TW_of 985 (by decide +kernel) (by decide +kernel)⟩
theorem qL_109 : MLV RL 109 mX6_loaded 6 3 := ⟨mcX6_loaded, ⟨_, rfl, rfl⟩, TW_of 592 (by decide +kernel) (by decide +kernel), TW_of 593 (by decide +kernel) (by decide +kernel), TW_of 594 (by decide +kernel) (by decide +kernel)⟩
theorem qL_112 : MLV RL 112 mX7_loaded 7 3 := ⟨mcX7_loaded, ⟨_, rfl, rfl⟩, TW_of 987 (by decide +kernel) (by decide +kernel), TW_of 988 (by decide +kernel) (by decide +kernel), TW_of 989 (by decide +kernel) (by decide +kernel)⟩
theorem qL_113 : MLV RL 113 mX6_worstAt 6 1 := ⟨mcX6_worstAt, ⟨_, rfl, rfl⟩, TW_of 601 (by decide +kernel) (by decide +kernel), TW_of 602 (by decide +kernel) (by decide +kernel), TW_of 603 (by decide +kernel) (by decide +kernel)⟩
theorem qL_116 : MLV RL 116 mX7_worstAt 7 1 := ⟨mcX7_worstAt, ⟨_, rfl, rfl⟩, TW_of 995 (by decide +kernel) (by decide +kernel), TW_of 996 (by decide +kernel) (by decide +kernel), TW_of 997 (by decide +kernel) (by decide +kernel)⟩
theorem qL_117 : MLV RL 117 mX6_lace 6 4 := ⟨mcX6_lace, ⟨_, rfl, rfl⟩, TW_of 609 (by decide +kernel) (by decide +kernel), TW_of 610 (by decide +kernel) (by decide +kernel), TW_of 611 (by decide +kernel) (by decide +kernel)⟩
theorem qL_121 : MLV RL 121 mX7_lace 7 4 := ⟨mcX7_lace, ⟨_, rfl, rfl⟩, TW_of 999 (by decide +kernel) (by decide +kernel), TW_of 1000 (by decide +kernel) (by decide +kernel), TW_of 1001 (by decide +kernel) (by decide +kernel)⟩
theorem qL_122 : MLV RL 122 mX6_length 6 1 := ⟨mcX6_length, ⟨_, rfl, rfl⟩, TW_of 613 (by decide +kernel) (by decide +kernel), TW_of 614 (by decide +kernel) (by decide +kernel), TW_of 615 (by decide +kernel) (by decide +kernel)⟩
theorem qL_125 : MLV RL 125 mX7_length 7 1 := ⟨mcX7_length, ⟨_, rfl, rfl⟩, TW_of 1003 (by decide +kernel) (by decide +kernel), TW_of 1004 (by decide +kernel) (by decide +kernel), TW_of 1005 (by decide +kernel) (by decide +kernel)⟩
theorem qL_126 : MLV RL 126 mX6_hub 6 1 := ⟨mcX6_hub, ⟨_, rfl, rfl⟩, TW_of 644 (by decide +kernel) (by decide +kernel), TW_of 645 (by decide +kernel) (by decide +kernel), TW_of 646 (by decide +kernel) (by decide +kernel)⟩
theorem qL_129 : MLV RL 129 mX7_hub 7 1 := ⟨mcX7_hub, ⟨_, rfl, rfl⟩, TW_of 1022 (by decide +kernel) (by decide +kernel), TW_of 1023 (by decide +kernel) (by decide +kernel), TW_of 1024 (by decide +kernel) (by decide +kernel)⟩
theorem qL_130 : MLV RL 130 mX6_crosses 6 2 := ⟨mcX6_crosses, ⟨_, rfl, rfl⟩, TW_of 653 (by decide +kernel) (by decide +kernel), TW_of 654 (by decide +kernel) (by decide +kernel), TW_of 655 (by decide +kernel) (by decide +kernel)⟩
theorem qL_133 : MLV RL 133 mX7_crosses 7 2 := ⟨mcX7_crosses, ⟨_, rfl, rfl⟩, TW_of 1026 (by decide +kernel) (by decide +kernel), TW_of 1027 (by decide +kernel) (by decide +kernel), TW_of 1028 (by decide +kernel) (by decide +kernel)⟩
theorem qL_134 : MLV RL 134 mX6_crossings 6 1 := ⟨mcX6_crossings, ⟨_, rfl, rfl⟩, TW_of 664 (by decide +kernel) (by decide +kernel), TW_of 665 (by decide +kernel) (by decide +kernel), TW_of 666 (by decide +kernel) (by decide +kernel)⟩
theorem qL_137 : MLV RL 137 mX7_crossings 7 1 := ⟨mcX7_crossings, ⟨_, rfl, rfl⟩, TW_of 1034 (by decide +kernel) (by decide +kernel), TW_of 1035 (by decide +kernel) (by decide +kernel), TW_of 1036 (by decide +kernel) (by decide +kernel)⟩
theorem qL_138 : MLV RL 138 mX6_count 6 1 := ⟨mcX6_count, ⟨_, rfl, rfl⟩, TW_of 668 (by decide +kernel) (by decide +kernel), TW_of 669 (by decide +kernel) (by decide +kernel), TW_of 670 (by decide +kernel) (by decide +kernel)⟩
theorem qL_141 : MLV RL 141 mX7_count 7 1 := ⟨mcX7_count, ⟨_, rfl, rfl⟩, TW_of 1038 (by decide +kernel) (by decide +kernel), TW_of 1039 (by decide +kernel) (by decide +kernel), TW_of 1040 (by decide +kernel) (by decide +kernel)⟩
theorem qX7_54 : MLV RX7 54 mX7_begin 7 1 := ⟨mcX7_begin, ⟨_, rfl, rfl⟩, TW_of 692 (by decide +kernel) (by decide +kernel), TW_of 694 (by decide +kernel) (by decide +kernel), TW_of 17 (by decide +kernel) (by decide +kernel)⟩
theorem sX7_70 : MLS RX7 70 mX7_isIn 3 := ⟨mcX7_isIn, TW_of 779 (by decide +kernel) (by decide +kernel), Or.inl (TW_of 778 (by decide +kernel) (by decide +kernel))⟩
theorem qX7_74 : MLV RX7 74 mX7_isGone 7 1 := ⟨mcX7_isGone, ⟨_, rfl, rfl⟩, TW_of 784 (by decide +kernel) (by decide +kernel), TW_of 786 (by decide +kernel) (by decide +kernel), TW_of 19 (by decide +kernel) (by decide +kernel)⟩
theorem qX7_79 : MLV RX7 79 mX7_isHole 7 1 := ⟨mcX7_isHole, ⟨_, rfl, rfl⟩, TW_of 774 (by decide +kernel) (by decide +kernel), TW_of 776 (by decide +kernel) (by decide +kernel), TW_of 18 (by decide +kernel) (by decide +kernel)⟩
theorem sX7_82 : MLS RX7 82 mX7_isKind 1 := ⟨mcX7_isKind, TW_of 782 (by decide +kernel) (by decide +kernel), Or.inl (TW_of 781 (by decide +kernel) (by decide +kernel))⟩
theorem qX7_91 : MLV RX7 91 mX7_leans 7 1 := ⟨mcX7_leans, ⟨_, rfl, rfl⟩, TW_of 822 (by decide +kernel) (by decide +kernel), TW_of 824 (by decide +kernel) (by decide +kernel), TW_of 20 (by decide +kernel) (by decide +kernel)⟩
theorem qX7_95 : MLV RX7 95 mX7_force 7 1 := ⟨mcX7_force, ⟨_, rfl, rfl⟩, TW_of 826 (by decide +kernel) (by decide +kernel), TW_of 828 (by decide +kernel) (by decide +kernel), TW_of 21 (by decide +kernel) (by decide +kernel)⟩
theorem qX7_98 : MLV RX7 98 mX7_tell 7 2 := ⟨mcX7_tell, ⟨_, rfl, rfl⟩, TW_of 838 (by decide +kernel) (by decide +kernel), TW_of 840 (by decide +kernel) (by decide +kernel), TW_of 22 (by decide +kernel) (by decide +kernel)⟩
theorem qX7_102 : MLV RX7 102 mX7_between 7 2 := ⟨mcX7_between, ⟨_, rfl, rfl⟩, TW_of 850 (by decide +kernel) (by decide +kernel), TW_of 852 (by decide +kernel) (by decide +kernel), TW_of 24 (by decide +kernel) (by decide +kernel)⟩
theorem qX7_106 : MLV RX7 106 mX7_next 7 3 := ⟨mcX7_next, ⟨_, rfl, rfl⟩, TW_of 854 (by decide +kernel) (by decide +kernel), TW_of 856 (by decide +kernel) (by decide +kernel), TW_of 25 (by decide +kernel) (by decide +kernel)⟩
theorem sX7_110 : MLS RX7 110 mX7_cut 2 := ⟨mcX7_cut, TW_of 859 (by decide +kernel) (by decide +kernel), Or.inl (TW_of 858 (by decide +kernel) (by decide +kernel))⟩
theorem qX7_114 : MLV RX7 114 mX7_unbentAt 7 2 := ⟨mcX7_unbentAt, ⟨_, rfl, rfl⟩, TW_of 846 (by decide +kernel) (by decide +kernel), TW_of 848 (by decide +kernel) (by decide +kernel), TW_of 23 (by decide +kernel) (by decide +kernel)⟩
theorem qX7_117 : MLV RX7 117 mX7_readingAt 7 2 := ⟨mcX7_readingAt, ⟨_, rfl, rfl⟩, TW_of 865 (by decide +kernel) (by decide +kernel), TW_of 867 (by decide +kernel) (by decide +kernel), TW_of 26 (by decide +kernel) (by decide +kernel)⟩
theorem sX7_122 : MLS RX7 122 mX7_size 1 := ⟨mcX7_size, TW_of 891 (by decide +kernel) (by decide +kernel), Or.inl (TW_of 890 (by decide +kernel) (by decide +kernel))⟩
theorem qX7_126 : MLV RX7 126 mX7_middle 7 0 := ⟨mcX7_middle, ⟨_, rfl, rfl⟩, TW_of 873 (by decide +kernel) (by decide +kernel), TW_of 875 (by decide +kernel) (by decide +kernel), TW_of 27 (by decide +kernel) (by decide +kernel)⟩
theorem qX7_130 : MLV RX7 130 mX7_share 7 2 := ⟨mcX7_share, ⟨_, rfl, rfl⟩, TW_of 885 (by decide +kernel) (by decide +kernel), TW_of 887 (by decide +kernel) (by decide +kernel), TW_of 30 (by decide +kernel) (by decide +kernel)⟩
theorem qX7_134 : MLV RX7 134 mX7_spread 7 1 := ⟨mcX7_spread, ⟨_, rfl, rfl⟩, TW_of 877 (by decide +kernel) (by decide +kernel), TW_of 879 (by decide +kernel) (by decide +kernel), TW_of 28 (by decide +kernel) (by decide +kernel)⟩
theorem sX7_138 : MLS RX7 138 mX7_greater 2 := ⟨mcX7_greater, TW_of 894 (by decide +kernel) (by decide +kernel), Or.inl (TW_of 893 (by decide +kernel) (by decide +kernel))⟩
theorem qX7_143 : MLV RX7 143 mX7_isLoose 7 1 := ⟨mcX7_isLoose, ⟨_, rfl, rfl⟩, TW_of 897 (by decide +kernel) (by decide +kernel), TW_of 899 (by decide +kernel) (by decide +kernel), TW_of 31 (by decide +kernel) (by decide +kernel)⟩
theorem qX7_147 : MLV RX7 147 mX7_worst 7 0 := ⟨mcX7_worst, ⟨_, rfl, rfl⟩, TW_of 881 (by decide +kernel) (by decide +kernel), TW_of 883 (by decide +kernel) (by decide +kernel), TW_of 29 (by decide +kernel) (by decide +kernel)⟩
theorem qX7_150 : MLV RX7 150 mX7_fault 7 0 := ⟨mcX7_fault, ⟨_, rfl, rfl⟩, TW_of 901 (by decide +kernel) (by decide +kernel), TW_of 903 (by decide +kernel) (by decide +kernel), TW_of 32 (by decide +kernel) (by decide +kernel)⟩
theorem qX7_154 : MLV RX7 154 mX7_steps 7 2 := ⟨mcX7_steps, ⟨_, rfl, rfl⟩, TW_of 926 (by decide +kernel) (by decide +kernel), TW_of 928 (by decide +kernel) (by decide +kernel), TW_of 36 (by decide +kernel) (by decide +kernel)⟩
theorem qX7_157 : MLV RX7 157 mX7_lay 7 1 := ⟨mcX7_lay, ⟨_, rfl, rfl⟩, TW_of 918 (by decide +kernel) (by decide +kernel), TW_of 920 (by decide +kernel) (by decide +kernel), TW_of 34 (by decide +kernel) (by decide +kernel)⟩
theorem qX7_160 : MLV RX7 160 mX7_make 7 2 := ⟨mcX7_make, ⟨_, rfl, rfl⟩, TW_of 922 (by decide +kernel) (by decide +kernel), TW_of 924 (by decide +kernel) (by decide +kernel), TW_of 35 (by decide +kernel) (by decide +kernel)⟩
theorem qX7_164 : MLV RX7 164 mX7_bring 7 1 := ⟨mcX7_bring, ⟨_, rfl, rfl⟩, TW_of 930 (by decide +kernel) (by decide +kernel), TW_of 932 (by decide +kernel) (by decide +kernel), TW_of 37 (by decide +kernel) (by decide +kernel)⟩
theorem qX7_167 : MLV RX7 167 mX7_tries 7 3 := ⟨mcX7_tries, ⟨_, rfl, rfl⟩, TW_of 914 (by decide +kernel) (by decide +kernel), TW_of 916 (by decide +kernel) (by decide +kernel), TW_of 33 (by decide +kernel) (by decide +kernel)⟩
theorem qX7_171 : MLV RX7 171 mX7_enterLog 7 2 := ⟨mcX7_enterLog, ⟨_, rfl, rfl⟩, TW_of 935 (by decide +kernel) (by decide +kernel), TW_of 937 (by decide +kernel) (by decide +kernel), TW_of 38 (by decide +kernel) (by decide +kernel)⟩
theorem qX7_174 : MLV RX7 174 mX7_nextQuarter 7 0 := ⟨mcX7_nextQuarter, ⟨_, rfl, rfl⟩, TW_of 943 (by decide +kernel) (by decide +kernel), TW_of 945 (by decide +kernel) (by decide +kernel), TW_of 39 (by decide +kernel) (by decide +kernel)⟩
theorem sX7_177 : MLS RX7 177 mX7_quarters 1 := ⟨mcX7_quarters, TW_of 960 (by decide +kernel) (by decide +kernel), Or.inl (TW_of 959 (by decide +kernel) (by decide +kernel))⟩
theorem qX7_195 : MLV RX7 195 mX7_bySecond 7 2 := ⟨mcX7_bySecond, ⟨_, rfl, rfl⟩, TW_of 966 (by decide +kernel) (by decide +kernel), TW_of 968 (by decide +kernel) (by decide +kernel), TW_of 42 (by decide +kernel) (by decide +kernel)⟩
theorem qX7_199 : MLV RX7 199 mX7_byOne 7 0 := ⟨mcX7_byOne, ⟨_, rfl, rfl⟩, TW_of 955 (by decide +kernel) (by decide +kernel), TW_of 957 (by decide +kernel) (by decide +kernel), TW_of 40 (by decide +kernel) (by decide +kernel)⟩
theorem qX7_203 : MLV RX7 203 mX7_byTwo 7 0 := ⟨mcX7_byTwo, ⟨_, rfl, rfl⟩, TW_of 962 (by decide +kernel) (by decide +kernel), TW_of 964 (by decide +kernel) (by decide +kernel), TW_of 41 (by decide +kernel) (by decide +kernel)⟩
theorem qX7_208 : MLV RX7 208 mX7_pullWith 7 3 := ⟨mcX7_pullWith, ⟨_, rfl, rfl⟩, TW_of 991 (by decide +kernel) (by decide +kernel), TW_of 993 (by decide +kernel) (by decide +kernel), TW_of 43 (by decide +kernel) (by decide +kernel)⟩
theorem qX7_212 : MLV RX7 212 mX7_sine16 7 1 := ⟨mcX7_sine16, ⟨_, rfl, rfl⟩, TW_of 1017 (by decide +kernel) (by decide +kernel), TW_of 1019 (by decide +kernel) (by decide +kernel), TW_of 46 (by decide +kernel) (by decide +kernel)⟩
theorem qX7_219 : MLV RX7 219 mX7_round 7 1 := ⟨mcX7_round, ⟨_, rfl, rfl⟩, TW_of 1009 (by decide +kernel) (by decide +kernel), TW_of 1011 (by decide +kernel) (by decide +kernel), TW_of 44 (by decide +kernel) (by decide +kernel)⟩
theorem qX7_222 : MLV RX7 222 mX7_sine 7 1 := ⟨mcX7_sine, ⟨_, rfl, rfl⟩, TW_of 1013 (by decide +kernel) (by decide +kernel), TW_of 1015 (by decide +kernel) (by decide +kernel), TW_of 45 (by decide +kernel) (by decide +kernel)⟩
theorem qX7_227 : MLV RX7 227 mX7_isCross 7 2 := ⟨mcX7_isCross, ⟨_, rfl, rfl⟩, TW_of 1030 (by decide +kernel) (by decide +kernel), TW_of 1032 (by decide +kernel) (by decide +kernel), TW_of 47 (by decide +kernel) (by decide +kernel)⟩
theorem sX5_33 : MLS RX5 33 mX6_lies 3 := ⟨mcX6_lies, TW_of 258 (by decide +kernel) (by decide +kernel), Or.inr ⟨rfl, rfl, rfl⟩⟩
theorem kX6_63 : Cond.constant RX6 63 (Int32.ofInt (-1000000001)) ∈ TW := TW_of 248 (by decide +kernel) (by decide +kernel)
theorem kX6_78 : Cond.constant RX6 78 (Int32.ofInt (-1000000002)) ∈ TW := TW_of 268 (by decide +kernel) (by decide +kernel)
theorem kX6_101 : Cond.constant RX6 101 (Int32.ofInt (-1000000011)) ∈ TW := TW_of 291 (by decide +kernel) (by decide +kernel)
theorem kX6_105 : Cond.constant RX6 105 (Int32.ofInt (-1000000013)) ∈ TW := TW_of 292 (by decide +kernel) (by decide +kernel)
theorem kX6_122 : Cond.constant RX6 122 (Int32.ofInt (1000000)) ∈ TW := TW_of 329 (by decide +kernel) (by decide +kernel)
theorem kX6_123 : Cond.constant RX6 123 (Int32.ofInt (-100000)) ∈ TW := TW_of 334 (by decide +kernel) (by decide +kernel)
theorem kX6_124 : Cond.constant RX6 124 (Int32.ofInt (100000)) ∈ TW := TW_of 335 (by decide +kernel) (by decide +kernel)
theorem kX6_167 : Cond.constant RX6 167 (Int32.ofInt (-1000000005)) ∈ TW := TW_of 476 (by decide +kernel) (by decide +kernel)
theorem kX6_178 : Cond.constant RX6 178 (Int32.ofInt (-1000000003)) ∈ TW := TW_of 502 (by decide +kernel) (by decide +kernel)
theorem kX0_99 : Cond.constant RX0 99 (Int32.ofInt (2147483647)) ∈ TW := TW_of 411 (by decide +kernel) (by decide +kernel)
theorem kX0_100 : Cond.constant RX0 100 (Int32.ofInt (-2147483648)) ∈ TW := TW_of 412 (by decide +kernel) (by decide +kernel)
theorem kX0_149 : Cond.constant RX0 149 (Int32.ofInt (-1000000005)) ∈ TW := TW_of 475 (by decide +kernel) (by decide +kernel)
theorem kX2_32 : Cond.constant RX2 32 (Int32.ofInt (-1000000005)) ∈ TW := TW_of 523 (by decide +kernel) (by decide +kernel)
theorem kX7_78 : Cond.constant RX7 78 (Int32.ofInt (-1000000001)) ∈ TW := TW_of 769 (by decide +kernel) (by decide +kernel)
theorem kX7_85 : Cond.constant RX7 85 (Int32.ofInt (-1000000002)) ∈ TW := TW_of 788 (by decide +kernel) (by decide +kernel)
theorem kX7_86 : Cond.constant RX7 86 (Int32.ofInt (-1000000011)) ∈ TW := TW_of 797 (by decide +kernel) (by decide +kernel)
theorem kX7_87 : Cond.constant RX7 87 (Int32.ofInt (-1000000013)) ∈ TW := TW_of 798 (by decide +kernel) (by decide +kernel)
theorem kX7_88 : Cond.constant RX7 88 (Int32.ofInt (1000000)) ∈ TW := TW_of 811 (by decide +kernel) (by decide +kernel)
theorem kX7_89 : Cond.constant RX7 89 (Int32.ofInt (-100000)) ∈ TW := TW_of 816 (by decide +kernel) (by decide +kernel)
theorem kX7_90 : Cond.constant RX7 90 (Int32.ofInt (100000)) ∈ TW := TW_of 817 (by decide +kernel) (by decide +kernel)
theorem kX7_146 : Cond.constant RX7 146 (Int32.ofInt (-1000000005)) ∈ TW := TW_of 905 (by decide +kernel) (by decide +kernel)
theorem kX7_170 : Cond.constant RX7 170 (Int32.ofInt (-1000000003)) ∈ TW := TW_of 934 (by decide +kernel) (by decide +kernel)
theorem lX6_258 : Cond.constantLong RX6 258 (Int64.ofInt (1000)) ∈ TW := TW_of 582 (by decide +kernel) (by decide +kernel)
theorem lX6_268 : Cond.constantLong RX6 268 (Int64.ofInt (100000000)) ∈ TW := TW_of 587 (by decide +kernel) (by decide +kernel)
theorem lX0_126 : Cond.constantLong RX0 126 (Int64.ofInt (1000000000)) ∈ TW := TW_of 447 (by decide +kernel) (by decide +kernel)
theorem lX0_130 : Cond.constantLong RX0 130 (Int64.ofInt (1000)) ∈ TW := TW_of 441 (by decide +kernel) (by decide +kernel)
theorem lX1_33 : Cond.constantLong RX1 33 (Int64.ofInt (100)) ∈ TW := TW_of 625 (by decide +kernel) (by decide +kernel)
theorem lX1_35 : Cond.constantLong RX1 35 (Int64.ofInt (200)) ∈ TW := TW_of 626 (by decide +kernel) (by decide +kernel)
theorem lX1_41 : Cond.constantLong RX1 41 (Int64.ofInt (1024)) ∈ TW := TW_of 636 (by decide +kernel) (by decide +kernel)
theorem lX1_66 : Cond.constantLong RX1 66 (Int64.ofInt (8192)) ∈ TW := TW_of 642 (by decide +kernel) (by decide +kernel)
theorem lX1_68 : Cond.constantLong RX1 68 (Int64.ofInt (2)) ∈ TW := TW_of 643 (by decide +kernel) (by decide +kernel)
theorem lX7_64 : Cond.constantLong RX7 64 (Int64.ofInt (500)) ∈ TW := TW_of 696 (by decide +kernel) (by decide +kernel)
theorem lX7_120 : Cond.constantLong RX7 120 (Int64.ofInt (1000)) ∈ TW := TW_of 889 (by decide +kernel) (by decide +kernel)
theorem lX7_141 : Cond.constantLong RX7 141 (Int64.ofInt (1000000000)) ∈ TW := TW_of 896 (by decide +kernel) (by decide +kernel)
theorem lX7_206 : Cond.constantLong RX7 206 (Int64.ofInt (100000000)) ∈ TW := TW_of 982 (by decide +kernel) (by decide +kernel)
theorem lX7_215 : Cond.constantLong RX7 215 (Int64.ofInt (100)) ∈ TW := TW_of 1007 (by decide +kernel) (by decide +kernel)
theorem lX7_217 : Cond.constantLong RX7 217 (Int64.ofInt (200)) ∈ TW := TW_of 1008 (by decide +kernel) (by decide +kernel)
theorem lX7_225 : Cond.constantLong RX7 225 (Int64.ofInt (1024)) ∈ TW := TW_of 1021 (by decide +kernel) (by decide +kernel)
theorem zX5_37 : SL RX5 37 100 := Or.inl ⟨rfl, rfl, rfl⟩
theorem zX5_40 : SL RX5 40 101 := Or.inr (Or.inl ⟨rfl, rfl, rfl⟩)
theorem zX1_63 : SL RX1 63 103 := Or.inr (Or.inr (Or.inl ⟨rfl, rfl, rfl⟩))
theorem zX6_135 : SL RX6 135 102 := Or.inr (Or.inr (Or.inr ⟨rfl, TW_of 356 (by decide +kernel) (by decide +kernel)⟩))
end
section
/-! more rules: booleans, masks, shifts, signs, switches -/
def b2i (P : Prop) [Decidable P] : Int := if P then 1 else 0
theorem b2i_1 {P : Prop} [Decidable P] (h : P) : b2i P = 1 := if_pos h
theorem b2i_0 {P : Prop} [Decidable P] (h : ¬ P) : b2i P = 0 := if_neg h
theorem b2i_32 {P : Prop} [Decidable P] : i32 (b2i P) := by unfold b2i; split <;> decide
theorem b2i_ok {P : Prop} [Decidable P] : b2i P = 0 ∨ b2i P = 1 := by unfold b2i; split <;> simp
theorem b2i_iff {P R : Prop} [Decidable P] [Decidable R] (h : P ↔ R) : b2i P = b2i R := by
  unfold b2i
  by_cases hp : P
  · rw [if_pos hp, if_pos (h.mp hp)]
  · rw [if_neg hp, if_neg (fun r => hp (h.mpr r))]
theorem aI_b2i1 {P : Prop} [Decidable P] {σ τ : Mem} (h : P) (e : τ = σ) : (some (aI 1) : Option AV) = some (aI (b2i P)) ∧ τ = σ := ⟨by rw [b2i_1 h], e⟩
theorem aI_b2i0 {P : Prop} [Decidable P] {σ τ : Mem} (h : ¬ P) (e : τ = σ) : (some (aI 0) : Option AV) = some (aI (b2i P)) ∧ τ = σ := ⟨by rw [b2i_0 h], e⟩
section RB
variable {K : Nat} {M : Meth} {pc : Nat} {ls : List (Option AV)} {st : List AV} {σ : Mem} {Q : Option AV → Mem → Prop}
theorem g_ifb_eq {P : Prop} [Decidable P] {off : Int} {tgt : Nat} (hd : decode (mC M) pc = .ok (.ifCond .eq off, 3)) (ht : (pc : Int) + off = (tgt : Int)) (kt : ¬ P → Go K M tgt ls st σ Q) (kf : P → Go K M (pc + 3) ls st σ Q) : Go K M pc ls (aI (b2i P) :: st) σ Q := by
  refine g_if_eq hd ht b2i_32 (fun h => ?_) (fun h => ?_)
  · exact kt (fun hp => by rw [b2i_1 hp] at h; omega)
  · by_cases hp : P
    · exact kf hp
    · exact absurd (b2i_0 hp) h
theorem g_ifb_ne {P : Prop} [Decidable P] {off : Int} {tgt : Nat} (hd : decode (mC M) pc = .ok (.ifCond .ne off, 3)) (ht : (pc : Int) + off = (tgt : Int)) (kt : P → Go K M tgt ls st σ Q) (kf : ¬ P → Go K M (pc + 3) ls st σ Q) : Go K M pc ls (aI (b2i P) :: st) σ Q := by
  refine g_if_ne hd ht b2i_32 (fun h => ?_) (fun h => ?_)
  · by_cases hp : P
    · exact kt hp
    · exact absurd (b2i_0 hp) h
  · exact kf (fun hp => by rw [b2i_1 hp] at h; omega)
theorem and_k {x : Int} {m : Int32} (k : Nat) (hk : k ≤ 32) (hm : m.toBitVec.toNat = 2 ^ k - 1) : Int32.ofInt x &&& m = Int32.ofInt (x % (2 ^ k : Nat)) := by
  rw [pk_and _ k hm]
  have h1 : (Int32.ofInt x).toBitVec.toNat = (x % ((2 ^ 32 : Nat) : Int)).toNat := by
    rw [Int32.toBitVec_ofInt, BitVec.toNat_ofInt]
  rw [h1]
  have hd : (2 ^ k : Nat) ∣ 2 ^ 32 := Nat.pow_dvd_pow 2 hk
  have h0 : 0 ≤ x % ((2 ^ 32 : Nat) : Int) := Int.emod_nonneg _ (by decide)
  have h2 : ((((x % ((2 ^ 32 : Nat) : Int)).toNat % 2 ^ k : Nat)) : Int) = x % ((2 ^ k : Nat) : Int) := by
    rw [Int.natCast_emod, Int.toNat_of_nonneg h0]
    exact Int.emod_emod_of_dvd _ (Int.natCast_dvd_natCast.mpr hd)
  show Int32.ofNat _ = _
  rw [← h2]
  rfl
theorem g_iand1 {x : Int} (hd : decode (mC M) pc = .ok (.iand, 1)) (k : Go K M (pc + 1) ls (aI (x % 2) :: st) σ Q) : Go K M pc ls (aI 1 :: aI x :: st) σ Q := by
  intro ad D cs A p l e R s m args below meth c cells slots Z C hret H locs lsC hH hS hL
  refine lv_iand C.1 C.2.1 hd ?_
  rw [and_k 1 (by decide) (by decide)]
  exact k ad D cs A p l e R s m args below meth c cells slots Z C hret H locs lsC hH hS hL
theorem g_iand31 {x : Int} (hd : decode (mC M) pc = .ok (.iand, 1)) (k : Go K M (pc + 1) ls (aI (x % 32) :: st) σ Q) : Go K M pc ls (aI 31 :: aI x :: st) σ Q := by
  intro ad D cs A p l e R s m args below meth c cells slots Z C hret H locs lsC hH hS hL
  refine lv_iand C.1 C.2.1 hd ?_
  rw [and_k 5 (by decide) (by decide)]
  exact k ad D cs A p l e R s m args below meth c cells slots Z C hret H locs lsC hH hS hL
theorem g_iand63 {x : Int} (hd : decode (mC M) pc = .ok (.iand, 1)) (k : Go K M (pc + 1) ls (aI (x % 64) :: st) σ Q) : Go K M pc ls (aI 63 :: aI x :: st) σ Q := by
  intro ad D cs A p l e R s m args below meth c cells slots Z C hret H locs lsC hH hS hL
  refine lv_iand C.1 C.2.1 hd ?_
  rw [and_k 6 (by decide) (by decide)]
  exact k ad D cs A p l e R s m args below meth c cells slots Z C hret H locs lsC hH hS hL
theorem g_ishr1 {x : Int} (hd : decode (mC M) pc = .ok (.ishr, 1)) (hx : i32 x) (k : Go K M (pc + 1) ls (aI (x / 2) :: st) σ Q) : Go K M pc ls (aI 1 :: aI x :: st) σ Q := by
  intro ad D cs A p l e R s m args below meth c cells slots Z C hret H locs lsC hH hS hL
  refine lv_ishr C.1 C.2.1 hd ?_
  have h : Int32.ofInt x >>> (Int32.ofInt 1 &&& 31) = Int32.ofInt (x / 2) := by
    rw [← Int32.toInt_inj, pk_shr _ _ 1 (by decide), i32_to hx, i32_to (by omega), Int.shiftRight_eq_div_pow]
    rfl
  rw [h]
  exact k ad D cs A p l e R s m args below meth c cells slots Z C hret H locs lsC hH hS hL
theorem xor_s32 (a b : Int32) : (a ^^^ b).toInt < 0 ↔ ¬ (a.toInt < 0 ↔ b.toInt < 0) := by
  have h1 : ∀ z : Int32, z.toInt < 0 ↔ z.toBitVec.msb = true := fun z => by
    rw [BitVec.msb_eq_toInt]; simp only [decide_eq_true_eq]; exact Iff.rfl
  rw [h1, h1, h1, Int32.toBitVec_xor, BitVec.msb_xor]
  cases a.toBitVec.msb <;> cases b.toBitVec.msb <;> simp
theorem xor_s64 (a b : Int64) : (a ^^^ b).toInt < 0 ↔ ¬ (a.toInt < 0 ↔ b.toInt < 0) := by
  have h1 : ∀ z : Int64, z.toInt < 0 ↔ z.toBitVec.msb = true := fun z => by
    rw [BitVec.msb_eq_toInt]; simp only [decide_eq_true_eq]; exact Iff.rfl
  rw [h1, h1, h1, Int64.toBitVec_xor, BitVec.msb_xor]
  cases a.toBitVec.msb <;> cases b.toBitVec.msb <;> simp
theorem g_ixor {x y : Int} (hd : decode (mC M) pc = .ok (.ixor, 1)) (hx : i32 x) (hy : i32 y) (k : ∀ z : Int, i32 z → (z < 0 ↔ ¬ (x < 0 ↔ y < 0)) → Go K M (pc + 1) ls (aI z :: st) σ Q) : Go K M pc ls (aI y :: aI x :: st) σ Q := by
  intro ad D cs A p l e R s m args below meth c cells slots Z C hret H locs lsC hH hS hL
  refine lv_ixor C.1 C.2.1 hd ?_
  have h := xor_s32 (Int32.ofInt x) (Int32.ofInt y)
  rw [i32_to hx, i32_to hy] at h
  rw [← Int32.ofInt_toInt (Int32.ofInt x ^^^ Int32.ofInt y)]
  exact k _ ⟨by have := Int32.le_toInt (Int32.ofInt x ^^^ Int32.ofInt y); omega, by have := Int32.toInt_lt (Int32.ofInt x ^^^ Int32.ofInt y); omega⟩ h ad D cs A p l e R s m args below meth c cells slots Z C hret H locs lsC hH hS hL
theorem g_lxor {x y : Int} (hd : decode (mC M) pc = .ok (.lxor, 1)) (hx : i64 x) (hy : i64 y) (k : ∀ z : Int, i64 z → (z < 0 ↔ ¬ (x < 0 ↔ y < 0)) → Go K M (pc + 1) ls (aL z :: st) σ Q) : Go K M pc ls (aL y :: aL x :: st) σ Q := by
  intro ad D cs A p l e R s m args below meth c cells slots Z C hret H locs lsC hH hS hL
  refine lv_lxor C.1 C.2.1 hd ?_
  have h := xor_s64 (Int64.ofInt x) (Int64.ofInt y)
  rw [i64_to hx, i64_to hy] at h
  rw [← Int64.ofInt_toInt (Int64.ofInt x ^^^ Int64.ofInt y)]
  exact k _ ⟨by have := Int64.le_toInt (Int64.ofInt x ^^^ Int64.ofInt y); omega, by have := Int64.toInt_lt (Int64.ofInt x ^^^ Int64.ofInt y); omega⟩ h ad D cs A p l e R s m args below meth c cells slots Z C hret H locs lsC hH hS hL
theorem g_tabOut {x dflt lo hi : Int} {offs : Array Int} {len tgt : Nat} (hd : decode (mC M) pc = .ok (.tableswitch dflt lo hi offs, len)) (hx : i32 x) (h : x < lo ∨ hi < x) (ht : (pc : Int) + dflt = (tgt : Int)) (k : Go K M tgt ls st σ Q) : Go K M pc ls (aI x :: st) σ Q := by
  intro ad D cs A p l e R s m args below meth c cells slots Z C hret H locs lsC hH hS hL
  exact lv_tableOut C.1 C.2.1 hd (by rw [i32_to hx]; exact h) ht (k ad D cs A p l e R s m args below meth c cells slots Z C hret H locs lsC hH hS hL)
theorem g_tabIn {x dflt lo hi off : Int} {offs : Array Int} {len tgt : Nat} (hd : decode (mC M) pc = .ok (.tableswitch dflt lo hi offs, len)) (hx : i32 x) (h1 : lo ≤ x) (h2 : x ≤ hi) (ho : offs[(x - lo).toNat]? = some off) (ht : (pc : Int) + off = (tgt : Int)) (k : Go K M tgt ls st σ Q) : Go K M pc ls (aI x :: st) σ Q := by
  intro ad D cs A p l e R s m args below meth c cells slots Z C hret H locs lsC hH hS hL
  exact lv_tableIn C.1 C.2.1 hd (by rw [i32_to hx]; omega) (by rw [i32_to hx]; omega) (by rw [i32_to hx]; exact ho) ht (k ad D cs A p l e R s m args below meth c cells slots Z C hret H locs lsC hH hS hL)
/-- weaker ends -/
theorem Go.mono {Q' : Option AV → Mem → Prop} (h : Go K M pc ls st σ Q') (hq : ∀ r τ, Q' r τ → Q r τ) : Go K M pc ls st σ Q := by
  intro ad D cs A p l e R s m args below meth c cells slots Z C hret H locs lsC hH hS hL
  exact h ad D cs A p l e R s m args below meth c cells slots Z C (fun r τ H locs lsC pc' q => hret r τ H locs lsC pc' (hq r τ q)) H locs lsC hH hS hL
theorem Ret.mono {as : List AV} {Q' : Option AV → Mem → Prop} (h : Ret K M as σ Q') (hq : ∀ r τ, Q' r τ → Q r τ) : Ret K M as σ Q := by
  intro l ad D cs A p e h1 h2 h3 s m args below h4 h5 h6 h7
  obtain ⟨k, o, a1, a2, a3, ⟨⟨r, τ, b1, b2, b3⟩, b4⟩, a5⟩ := h l ad D cs A p e h1 h2 h3 s m args below h4 h5 h6 h7
  exact ⟨k, o, a1, a2, a3, ⟨⟨r, τ, hq r τ b1, b2, b3⟩, b4⟩, a5⟩
theorem Ret.eqv {as : List AV} {v w : AV} (h : RetV K M as σ v) (e : v = w) : RetV K M as σ w := e ▸ h
end RB
theorem fdiv_t {x y : Int} (hy : 0 < y) : x.tdiv y = if 0 ≤ x then x / y else -((-x) / y) := by
  split
  · rename_i h; rw [Int.tdiv_eq_ediv_of_nonneg h]
  · rename_i h
    have h1 : x = -(-x) := by omega
    rw [h1, Int.neg_tdiv, Int.tdiv_eq_ediv_of_nonneg (by omega), Int.neg_neg]
theorem tmod_t {x y : Int} (hy : 0 < y) : x.tmod y = if 0 ≤ x then x % y else -((-x) % y) := by
  split
  · rename_i h; rw [Int.tmod_eq_emod_of_nonneg h]
  · rename_i h
    have h1 : x = -(-x) := by omega
    rw [h1, Int.neg_tmod, Int.tmod_eq_emod_of_nonneg (by omega), Int.neg_neg]
end
section
theorem c_absI {K : Nat} {σ : Mem} {x : Int} (hx : i32 x) : RetV K mJ9_abs_0f7a4 [aI x] σ (aI (if x < 0 then -x else x)) := by
  refine Ret.of [some (aI x)] rfl (by decide +kernel) (Nat.le_of_ble_eq_true rfl) ?_
  refine g_iload_n dJ9_abs_0f7a4_0 rfl ?_
  refine g_if_ge (tgt := 9) dJ9_abs_0f7a4_1 (by decide) (by omega) (fun h1 => ?_) (fun h1 => ?_)
  · refine g_iload_n dJ9_abs_0f7a4_9 rfl ?_
    exact g_iret dJ9_abs_0f7a4_10 trivial ⟨by congr 2; omega, rfl⟩
  · refine g_iload_n dJ9_abs_0f7a4_4 rfl ?_
    refine g_ineg dJ9_abs_0f7a4_5 ?_
    refine g_goto (tgt := 10) dJ9_abs_0f7a4_6 (by decide) ?_
    exact g_iret dJ9_abs_0f7a4_10 trivial ⟨by congr 2; omega, rfl⟩

theorem c_absL {K : Nat} {σ : Mem} {x : Int} (hx : i64 x) : RetV K mJ9_abs_067f4 [aL x] σ (aL (if x < 0 then -x else x)) := by
  refine Ret.of [some (aL x), none] rfl (by decide +kernel) (Nat.le_of_ble_eq_true rfl) ?_
  refine g_lload_n dJ9_abs_067f4_0 rfl ?_
  refine g_lconst (v := 0) dJ9_abs_067f4_1 (by decide) ?_
  refine g_lcmp_ge (tgt := 11) dJ9_abs_067f4_2 dJ9_abs_067f4_3 (by decide) (by omega) (by omega) (fun h2 => ?_) (fun h2 => ?_)
  · refine g_lload_n dJ9_abs_067f4_11 rfl ?_
    exact g_lret dJ9_abs_067f4_12 trivial ⟨by congr 2; omega, rfl⟩
  · refine g_lload_n dJ9_abs_067f4_6 rfl ?_
    refine g_lneg dJ9_abs_067f4_7 ?_
    refine g_goto (tgt := 12) dJ9_abs_067f4_8 (by decide) ?_
    exact g_lret dJ9_abs_067f4_12 trivial ⟨by congr 2; omega, rfl⟩

theorem c_maxI {K : Nat} {σ : Mem} {x y : Int} (hx : i32 x) (hy : i32 y) : RetV K mJ9_max_7cf53 [aI x, aI y] σ (aI (if x < y then y else x)) := by
  refine Ret.of [some (aI x), some (aI y)] rfl (by decide +kernel) (Nat.le_of_ble_eq_true rfl) ?_
  refine g_iload_n dJ9_max_7cf53_0 rfl ?_
  refine g_iload_n dJ9_max_7cf53_1 rfl ?_
  refine g_icmp_lt (tgt := 9) dJ9_max_7cf53_2 (by decide) (by omega) (by omega) (fun h2 => ?_) (fun h2 => ?_)
  · refine g_iload_n dJ9_max_7cf53_9 rfl ?_
    exact g_iret dJ9_max_7cf53_10 trivial ⟨by congr 2; omega, rfl⟩
  · refine g_iload_n dJ9_max_7cf53_5 rfl ?_
    refine g_goto (tgt := 10) dJ9_max_7cf53_6 (by decide) ?_
    exact g_iret dJ9_max_7cf53_10 trivial ⟨by congr 2; omega, rfl⟩

theorem c_minI {K : Nat} {σ : Mem} {x y : Int} (hx : i32 x) (hy : i32 y) : RetV K mJ9_min_7cf53 [aI x, aI y] σ (aI (if y < x then y else x)) := by
  refine Ret.of [some (aI x), some (aI y)] rfl (by decide +kernel) (Nat.le_of_ble_eq_true rfl) ?_
  refine g_iload_n dJ9_min_7cf53_0 rfl ?_
  refine g_iload_n dJ9_min_7cf53_1 rfl ?_
  refine g_icmp_gt (tgt := 9) dJ9_min_7cf53_2 (by decide) (by omega) (by omega) (fun h2 => ?_) (fun h2 => ?_)
  · refine g_iload_n dJ9_min_7cf53_9 rfl ?_
    exact g_iret dJ9_min_7cf53_10 trivial ⟨by congr 2; omega, rfl⟩
  · refine g_iload_n dJ9_min_7cf53_5 rfl ?_
    refine g_goto (tgt := 10) dJ9_min_7cf53_6 (by decide) ?_
    exact g_iret dJ9_min_7cf53_10 trivial ⟨by congr 2; omega, rfl⟩

theorem c_maxL {K : Nat} {σ : Mem} {x y : Int} (hx : i64 x) (hy : i64 y) : RetV K mJ9_max_f86c9 [aL x, aL y] σ (aL (if x < y then y else x)) := by
  refine Ret.of [some (aL x), none, some (aL y), none] rfl (by decide +kernel) (Nat.le_of_ble_eq_true rfl) ?_
  refine g_lload_n dJ9_max_f86c9_0 rfl ?_
  refine g_lload_n dJ9_max_f86c9_1 rfl ?_
  refine g_lcmp_lt (tgt := 10) dJ9_max_f86c9_2 dJ9_max_f86c9_3 (by decide) (by omega) (by omega) (fun h2 => ?_) (fun h2 => ?_)
  · refine g_lload_n dJ9_max_f86c9_10 rfl ?_
    exact g_lret dJ9_max_f86c9_11 trivial ⟨by congr 2; omega, rfl⟩
  · refine g_lload_n dJ9_max_f86c9_6 rfl ?_
    refine g_goto (tgt := 11) dJ9_max_f86c9_7 (by decide) ?_
    exact g_lret dJ9_max_f86c9_11 trivial ⟨by congr 2; omega, rfl⟩

theorem c_minL {K : Nat} {σ : Mem} {x y : Int} (hx : i64 x) (hy : i64 y) : RetV K mJ9_min_f86c9 [aL x, aL y] σ (aL (if y < x then y else x)) := by
  refine Ret.of [some (aL x), none, some (aL y), none] rfl (by decide +kernel) (Nat.le_of_ble_eq_true rfl) ?_
  refine g_lload_n dJ9_min_f86c9_0 rfl ?_
  refine g_lload_n dJ9_min_f86c9_1 rfl ?_
  refine g_lcmp_gt (tgt := 10) dJ9_min_f86c9_2 dJ9_min_f86c9_3 (by decide) (by omega) (by omega) (fun h2 => ?_) (fun h2 => ?_)
  · refine g_lload_n dJ9_min_f86c9_10 rfl ?_
    exact g_lret dJ9_min_f86c9_11 trivial ⟨by congr 2; omega, rfl⟩
  · refine g_lload_n dJ9_min_f86c9_6 rfl ?_
    refine g_goto (tgt := 11) dJ9_min_f86c9_7 (by decide) ?_
    exact g_lret dJ9_min_f86c9_11 trivial ⟨by congr 2; omega, rfl⟩

/-- x = y (x/y) + x%y, for products that omega does not see -/
theorem ed_facts {x y : Int} (hy : 0 < y) : ∃ q r : Int, x / y = q ∧ x % y = r ∧ x = q * y + r ∧ 0 ≤ r ∧ r < y := ⟨x / y, x % y, rfl, rfl, by rw [Int.mul_comm]; exact (Int.mul_ediv_add_emod x y).symm, Int.emod_nonneg x (by omega), Int.emod_lt_of_pos x hy⟩
theorem neg_ediv_f {x y : Int} (hy : 0 < y) (hx : x < 0) : x / y = if (-x) % y = 0 then -((-x) / y) else -((-x) / y) - 1 := by
  obtain ⟨q, r, e1, e2, e3, e4, e5⟩ := ed_facts (x := -x) hy
  rw [e1, e2]
  split
  · rename_i h
    rw [show x = (-q) * y by rw [Int.neg_mul]; omega, Int.mul_ediv_cancel _ (by omega)]
  · rename_i h
    have h1 : x = (-q - 1) * y + (y - r) := by rw [Int.sub_mul, Int.neg_mul]; omega
    rw [h1, Int.add_comm, Int.add_mul_ediv_right _ _ (by omega), Int.ediv_eq_zero_of_lt (by omega) (by omega)]
    omega
theorem neg_emod_f {x y : Int} (hy : 0 < y) (hx : x < 0) : x % y = if (-x) % y = 0 then 0 else y - (-x) % y := by
  have h1 := neg_ediv_f hy hx
  obtain ⟨q, r, e1, e2, e3, e4, e5⟩ := ed_facts (x := x) hy
  obtain ⟨q', r', f1, f2, f3, f4, f5⟩ := ed_facts (x := -x) hy
  rw [e1, f1, f2] at h1
  rw [e2, f2]
  split
  · rename_i h
    rw [if_pos h] at h1
    have : q * y = -(q' * y) := by rw [h1, Int.neg_mul]
    omega
  · rename_i h
    rw [if_neg h] at h1
    have : q * y = -(q' * y) - y := by rw [h1, Int.sub_mul, Int.neg_mul, Int.one_mul]
    omega
theorem ediv_b {x y : Int} (hy : 0 < y) : (0 ≤ x → 0 ≤ x / y ∧ x / y ≤ x) ∧ (x < 0 → x / y < 0 ∧ x ≤ x / y) := by
  constructor
  · intro h
    exact ⟨Int.ediv_nonneg h (by omega), Int.ediv_le_self _ h⟩
  · intro h
    have h1 := neg_ediv_f hy h
    have h2 : 0 ≤ -x := by omega
    have h3 := Int.ediv_nonneg h2 (Int.le_of_lt hy)
    have h4 := Int.ediv_le_self y h2
    obtain ⟨q, r, e1, e2, e3, e4, e5⟩ := ed_facts (x := -x) hy
    rw [h1, e1, e2]
    rw [e1] at h3 h4
    split
    · rename_i h6
      have : q ≠ 0 := fun hq => by rw [hq] at e3; omega
      omega
    · rename_i h6
      have : q ≠ -x := fun hq => by
        rcases Int.lt_or_le y 2 with hy2 | hy2
        · have : y = 1 := by omega
          subst this
          omega
        · have h7 : q * y = q + q * (y - 1) := by rw [Int.mul_sub]; omega
          have h8 : 0 ≤ q * (y - 1) := Int.mul_nonneg h3 (by omega)
          omega
      omega

theorem td_facts {x y : Int} (hy : 0 < y) : ∃ q r : Int, x.tdiv y = q ∧ x.tmod y = r ∧ x = q * y + r ∧ (0 ≤ x → 0 ≤ r ∧ r < y) ∧ (x < 0 → -y < r ∧ r ≤ 0) ∧ x / y = (if x < 0 ∧ r ≠ 0 then q - 1 else q) ∧ x % y = (if r < 0 then r + y else r) ∧ (0 ≤ x → 0 ≤ q ∧ q ≤ x) ∧ (x < 0 → q ≤ 0 ∧ x ≤ q) := by
  refine ⟨x.tdiv y, x.tmod y, rfl, rfl, by rw [Int.mul_comm]; exact (Int.mul_tdiv_add_tmod x y).symm, ?_⟩
  rw [fdiv_t hy, tmod_t hy]
  by_cases h : 0 ≤ x
  · rw [if_pos h, if_pos h]
    have h1 := Int.emod_nonneg x (show y ≠ 0 by omega)
    have h2 := Int.emod_lt_of_pos x hy
    have h3 := (ediv_b hy).1 h
    refine ⟨fun _ => ⟨h1, h2⟩, fun h' => by omega, ?_, ?_, fun _ => h3, fun h' => by omega⟩
    · rw [if_neg (by omega)]
    · rw [if_neg (by omega)]
  · have hx : x < 0 := by omega
    rw [if_neg h, if_neg h]
    have h1 := Int.emod_nonneg (-x) (show y ≠ 0 by omega)
    have h2 := Int.emod_lt_of_pos (-x) hy
    have h3 := neg_ediv_f hy hx
    have h4 := neg_emod_f hy hx
    have h5 := (ediv_b (x := -x) hy).1 (by omega)
    generalize (-x) / y = q at *
    generalize (-x) % y = r at *
    refine ⟨fun h' => by omega, fun _ => by omega, ?_, ?_, fun h' => by omega, fun _ => by omega⟩
    · rw [h3]; split <;> split <;> omega
    · rw [h4]; split <;> split <;> omega

theorem c_fdI {K : Nat} {σ : Mem} {x y : Int} (hx : i32 x) (hy : i32 y) (h0 : 0 < y) : RetV K mJ9_floorDiv_7cf53 [aI x, aI y] σ (aI (x / y)) := by
  refine Ret.of [some (aI x), some (aI y), none] rfl (by decide +kernel) (Nat.le_of_ble_eq_true rfl) ?_
  obtain ⟨q, r, e1, e2, e3, e4, e5, e6, e7, e8, e9⟩ := td_facts (x := x) h0
  refine g_iload_n dJ9_floorDiv_7cf53_0 rfl ?_
  refine g_iload_n dJ9_floorDiv_7cf53_1 rfl ?_
  refine g_idiv dJ9_floorDiv_7cf53_2 (by omega) (by omega) (by omega) ?_
  rw [e1]
  refine g_istore_n (i := 2) dJ9_floorDiv_7cf53_3 rfl (by decide) ?_
  refine g_iload_n dJ9_floorDiv_7cf53_4 rfl ?_
  refine g_iload_n dJ9_floorDiv_7cf53_5 rfl ?_
  refine g_ixor dJ9_floorDiv_7cf53_6 (by omega) (by omega) (fun z hz hzs => ?_)
  refine g_if_ge (tgt := 21) dJ9_floorDiv_7cf53_7 (by decide) (by omega) (fun h7 => ?_) (fun h7 => ?_)
  · refine g_iload_n dJ9_floorDiv_7cf53_21 rfl ?_
    exact g_iret dJ9_floorDiv_7cf53_22 trivial ⟨by congr 2; rw [e6]; split <;> omega, rfl⟩
  · refine g_iload_n dJ9_floorDiv_7cf53_10 rfl ?_
    refine g_iload_n dJ9_floorDiv_7cf53_11 rfl ?_
    refine g_imul dJ9_floorDiv_7cf53_12 ?_
    refine g_iload_n dJ9_floorDiv_7cf53_13 rfl ?_
    refine g_icmp_eq (tgt := 21) dJ9_floorDiv_7cf53_14 (by decide) (by omega) (by omega) (fun h14 => ?_) (fun h14 => ?_)
    · refine g_iload_n dJ9_floorDiv_7cf53_21 rfl ?_
      exact g_iret dJ9_floorDiv_7cf53_22 trivial ⟨by congr 2; rw [e6]; split <;> omega, rfl⟩
    · refine g_iload_n dJ9_floorDiv_7cf53_17 rfl ?_
      refine g_iconst dJ9_floorDiv_7cf53_18 ?_
      refine g_isub dJ9_floorDiv_7cf53_19 ?_
      exact g_iret dJ9_floorDiv_7cf53_20 trivial ⟨by congr 2; rw [e6]; split <;> omega, rfl⟩

theorem c_fdL {K : Nat} {σ : Mem} {x y : Int} (hx : i64 x) (hy : i64 y) (h0 : 0 < y) : RetV K mJ9_floorDiv_f86c9 [aL x, aL y] σ (aL (x / y)) := by
  refine Ret.of [some (aL x), none, some (aL y), none, none, none] rfl (by decide +kernel) (Nat.le_of_ble_eq_true rfl) ?_
  obtain ⟨q, r, e1, e2, e3, e4, e5, e6, e7, e8, e9⟩ := td_facts (x := x) h0
  refine g_lload_n dJ9_floorDiv_f86c9_0 rfl ?_
  refine g_lload_n dJ9_floorDiv_f86c9_1 rfl ?_
  refine g_ldiv dJ9_floorDiv_f86c9_2 (by omega) (by omega) (by omega) ?_
  rw [e1]
  refine g_lstore dJ9_floorDiv_f86c9_3 (by decide) ?_
  refine g_lload_n dJ9_floorDiv_f86c9_5 rfl ?_
  refine g_lload_n dJ9_floorDiv_f86c9_6 rfl ?_
  refine g_lxor dJ9_floorDiv_f86c9_7 (by omega) (by omega) (fun z hz hzs => ?_)
  refine g_lconst (v := 0) dJ9_floorDiv_f86c9_8 (by decide) ?_
  refine g_lcmp_ge (tgt := 27) dJ9_floorDiv_f86c9_9 dJ9_floorDiv_f86c9_10 (by decide) (by omega) (by omega) (fun h9 => ?_) (fun h9 => ?_)
  · refine g_lload dJ9_floorDiv_f86c9_27 rfl ?_
    exact g_lret dJ9_floorDiv_f86c9_29 trivial ⟨by congr 2; rw [e6]; split <;> omega, rfl⟩
  · refine g_lload dJ9_floorDiv_f86c9_13 rfl ?_
    refine g_lload_n dJ9_floorDiv_f86c9_15 rfl ?_
    refine g_lmul dJ9_floorDiv_f86c9_16 ?_
    refine g_lload_n dJ9_floorDiv_f86c9_17 rfl ?_
    refine g_lcmp_eq (tgt := 27) dJ9_floorDiv_f86c9_18 dJ9_floorDiv_f86c9_19 (by decide) (by omega) (by omega) (fun h18 => ?_) (fun h18 => ?_)
    · refine g_lload dJ9_floorDiv_f86c9_27 rfl ?_
      exact g_lret dJ9_floorDiv_f86c9_29 trivial ⟨by congr 2; rw [e6]; split <;> omega, rfl⟩
    · refine g_lload dJ9_floorDiv_f86c9_22 rfl ?_
      refine g_lconst (v := 1) dJ9_floorDiv_f86c9_24 (by decide) ?_
      refine g_lsub dJ9_floorDiv_f86c9_25 ?_
      exact g_lret dJ9_floorDiv_f86c9_26 trivial ⟨by congr 2; rw [e6]; split <;> omega, rfl⟩

theorem c_fm {K : Nat} {σ : Mem} {x y : Int} (hx : i32 x) (hy : i32 y) (h0 : 0 < y) : RetV K mJ9_floorMod_7cf53 [aI x, aI y] σ (aI (x % y)) := by
  refine Ret.of [some (aI x), some (aI y), none] rfl (by decide +kernel) (Nat.le_of_ble_eq_true rfl) ?_
  obtain ⟨q, r, e1, e2, e3, e4, e5, e6, e7, e8, e9⟩ := td_facts (x := x) h0
  refine g_iload_n dJ9_floorMod_7cf53_0 rfl ?_
  refine g_iload_n dJ9_floorMod_7cf53_1 rfl ?_
  refine g_irem dJ9_floorMod_7cf53_2 (by omega) (by omega) (by omega) ?_
  rw [e2]
  refine g_istore_n (i := 2) dJ9_floorMod_7cf53_3 rfl (by decide) ?_
  refine g_iload_n dJ9_floorMod_7cf53_4 rfl ?_
  refine g_iload_n dJ9_floorMod_7cf53_5 rfl ?_
  refine g_ixor dJ9_floorMod_7cf53_6 (by omega) (by omega) (fun z hz hzs => ?_)
  refine g_if_ge (tgt := 18) dJ9_floorMod_7cf53_7 (by decide) (by omega) (fun h7 => ?_) (fun h7 => ?_)
  · refine g_iload_n dJ9_floorMod_7cf53_18 rfl ?_
    exact g_iret dJ9_floorMod_7cf53_19 trivial ⟨by congr 2; rw [e7]; split <;> omega, rfl⟩
  · refine g_iload_n dJ9_floorMod_7cf53_10 rfl ?_
    refine g_if_eq (tgt := 18) dJ9_floorMod_7cf53_11 (by decide) (by omega) (fun h11 => ?_) (fun h11 => ?_)
    · refine g_iload_n dJ9_floorMod_7cf53_18 rfl ?_
      exact g_iret dJ9_floorMod_7cf53_19 trivial ⟨by congr 2; rw [e7]; split <;> omega, rfl⟩
    · refine g_iload_n dJ9_floorMod_7cf53_14 rfl ?_
      refine g_iload_n dJ9_floorMod_7cf53_15 rfl ?_
      refine g_iadd dJ9_floorMod_7cf53_16 ?_
      exact g_iret dJ9_floorMod_7cf53_17 trivial ⟨by congr 2; rw [e7]; split <;> omega, rfl⟩
end
section
/-! WHAT THE STAND IS: V, a ghost memory, and the document's words as functions of it.
V 0 0 holes; V 1 kinds; V 2 pulls; V 3, V 4 what turns made (side, up); V 5, V 6 read; V 7 sizes of tables; V (8 + t) the table t; V 14 limits; V 15, V 16, V 17 0 the log (spokes, quarters, many); V 18 lacing (r, o, R, c) -/
def cNone : Int := -1000000005
def ab (x : Int) : Int := if x < 0 then -x else x
def leanK (k : Int) : Int := if k = 1 ∨ k = 5 then 1 else if k = 2 ∨ k = 3 then -1 else 0
def forceK (k : Int) : Int := if k = 3 then 2 else if k = 4 then 0 else 1
def dst (i j : Int) : Int := if i < j then j - i else i - j
def stp (N i j : Int) : Int := if dst i j < N - dst i j then dst i j else N - dst i j
/-- the first i, of n from i on, with P; -1 if there is none -/
def firstI (P : Int → Bool) : Nat → Int → Int
  | 0, _ => -1
  | n + 1, i => if P i then i else firstI P n (i + 1)
def sumN (f : Int → Int) : Nat → Int
  | 0 => 0
  | n + 1 => sumN f n + f n
def cntN (P : Int → Bool) : Nat → Int
  | 0 => 0
  | n + 1 => cntN P n + (if P n then 1 else 0)
def mxN (f : Int → Int) : Nat → Int
  | 0 => 0
  | n + 1 => max (mxN f n) (f n)
/-- steps to the nearest read place, one way round; 0, if there is none -/
def nxS (f : Int → Int) (N p w : Int) : Int := max 0 (firstI (fun i => decide (f ((p + w * i) % N) ≠ -10000)) (N - 1).toNat 1)
def unbF (f : Int → Int) (N p : Int) : Int := if f p ≠ -10000 then f p else if nxS f N p (-1) = 0 ∨ nxS f N p 1 = 0 then 0 else (f ((p - nxS f N p (-1)) % N) * nxS f N p 1 + f ((p + nxS f N p 1) % N) * nxS f N p (-1)) / (nxS f N p (-1) + nxS f N p 1)
def unb (V : Mem) (r : Nat) (p : Int) : Int := unbF (V (5 + r)) (V 0 0) p
def rdg (V : Mem) (r : Nat) (p : Int) : Int := unb V r p + V (3 + r) p
def midV (V : Mem) : Int := sumN (rdg V 0) (V 0 0).toNat / V 0 0
/-- of those that lean l: whether there is one, the least pull, the greatest -/
def spS (V : Mem) (l : Int) : Nat → Bool × Int × Int
  | 0 => (false, 0, 0)
  | n + 1 => if leanK (V 1 n) = l then (true, (if (spS V l n).1 = false ∨ V 2 n < (spS V l n).2.1 then V 2 n else (spS V l n).2.1), (if (spS V l n).1 = false ∨ (spS V l n).2.2 < V 2 n then V 2 n else (spS V l n).2.2)) else spS V l n
def sprV (V : Mem) (l : Int) : Int := (spS V l (V 0 0).toNat).2.2 - (spS V l (V 0 0).toNat).2.1
def shr (v L : Int) : Int := 1000 * ab v / L
def wstV (V : Mem) : Int := min 1000000000 (max (max (max (shr (midV V) (V 14 2)) (shr (sprV V 1) (V 14 3))) (shr (sprV V (-1)) (V 14 3))) (max (mxN (fun p => shr (rdg V 0 p) (V 14 0)) (V 0 0).toNat) (mxN (fun p => shr (rdg V 1 p) (V 14 1)) (V 0 0).toNat)))
def bentAt (V : Mem) (r : Nat) : Int := firstI (fun p => decide (V 14 r < ab (rdg V r p))) (V 0 0).toNat 0
def looseAt (V : Mem) : Int := firstI (fun j => decide (V 2 j < 0)) (V 0 0).toNat 0
def fltV (V : Mem) : Int := if 0 ≤ bentAt V 0 then bentAt V 0 else if 0 ≤ bentAt V 1 then 100 + bentAt V 1 else if V 14 2 < ab (midV V) then 200 else if V 14 3 < sprV V 1 then 300 else if V 14 3 < sprV V (-1) then 301 else if 0 ≤ looseAt V then 400 + looseAt V else cNone
def overAt (V : Mem) : Int := firstI (fun j => decide (V 14 4 < V 2 j)) (V 0 0).toNat 0
/-- a turn of s by n quarters, made -/
def mkV (V : Mem) (s n : Int) : Mem := fun a j =>
  if a = 2 ∧ 0 ≤ j ∧ j < V 0 0 then (if V 1 j = 4 then V 2 j else V 2 j + forceK (V 1 s) * n * (if leanK (V 1 j) = leanK (V 1 s) then V 10 (stp (V 0 0) s j) else V 11 (stp (V 0 0) s j)))
  else if a = 3 ∧ 0 ≤ j ∧ j < V 0 0 then V 3 j + forceK (V 1 s) * n * leanK (V 1 s) * V 8 (stp (V 0 0) s j)
  else if a = 4 ∧ 0 ≤ j ∧ j < V 0 0 then V 4 j + forceK (V 1 s) * n * V 9 (stp (V 0 0) s j)
  else V a j
/-- the turn is not refused -/
def okV (V : Mem) (s n : Int) : Bool := decide (V 1 s ≠ 4) && decide (overAt (mkV V s n) = -1)
def qOf (k : Int) : Int := if k % 2 = 0 then 1 else -1
/-- the next quarter: the least WORST, and which -/
def nqS (V : Mem) : Nat → Int × Int
  | 0 => (wstV V, cNone)
  | k + 1 => if okV V ((k : Int) / 2) (qOf k) = true ∧ wstV (mkV V ((k : Int) / 2) (qOf k)) < (nqS V k).1 then (wstV (mkV V ((k : Int) / 2) (qOf k)), k) else nqS V k
def nqV (V : Mem) : Int := (nqS V (2 * V 0 0).toNat).2
def addV (V : Mem) (s n : Int) : Mem := up (up (up V 15 (V 17 0) s) 16 (V 17 0) n) 17 0 (V 17 0 + 1)
def planV : Nat → Mem → Int × Mem
  | 0, V => (0, V)
  | n + 1, V => if V 17 0 = 60 ∨ nqV V = cNone then (0, V) else ((planV n (addV (mkV V (nqV V / 2) (qOf (nqV V))) (nqV V / 2) (qOf (nqV V)))).1 + 1, (planV n (addV (mkV V (nqV V / 2) (qOf (nqV V))) (nqV V / 2) (qOf (nqV V)))).2)
def qtr (k : Int) : Int := if k % 2 = 0 then k / 2 + 1 else -(k / 2 + 1)
def oneP (V : Mem) (c : Int) : Bool := okV V (c / 8) (qtr (c % 8)) && decide (fltV (mkV V (c / 8) (qtr (c % 8))) = cNone)
/-- by one spoke, none below s: 8 times the spoke, and which number of quarters; -1 -/
def oneV (V : Mem) (s : Int) : Int := firstI (oneP V) (8 * (V 0 0 - s)).toNat (8 * s)
def twoP (V : Mem) (c : Int) : Bool := okV V (c / 8) (qtr (c % 8)) && decide (0 ≤ oneV (mkV V (c / 8) (qtr (c % 8))) (c / 8 + 1))
def twoV (V : Mem) : Int := firstI (twoP V) (8 * V 0 0).toNat 0
/-- the fewest: how many, s, its quarters, t, its quarters -/
def fewV (V : Mem) (w : Int) : Int :=
  if fltV V = cNone then (if w = 0 then 0 else cNone)
  else if 0 ≤ oneV V 0 then (if w = 0 then 1 else if w = 1 then oneV V 0 / 8 else if w = 2 then qtr (oneV V 0 % 8) else cNone)
  else if 0 ≤ twoV V then (if w = 0 then 2 else if w = 1 then twoV V / 8 else if w = 2 then qtr (twoV V % 8) else if w = 3 then oneV (mkV V (twoV V / 8) (qtr (twoV V % 8))) (twoV V / 8 + 1) / 8 else qtr (oneV (mkV V (twoV V / 8) (qtr (twoV V % 8))) (twoV V / 8 + 1) % 8))
  else cNone
/-- the pull of j behind a break of s -/
def brkP (V : Mem) (s j : Int) : Int := V 2 j + V 2 s * V 12 (stp (V 0 0) s j) / 1000
def brkBad (V : Mem) (s : Int) : Int := firstI (fun j => decide (j ≠ s) && decide (V 1 j ≠ 4) && decide (100000000 < ab (brkP V s j))) (V 0 0).toNat 0
def brkV (V : Mem) (s : Int) : Mem := fun a j => if a = 1 ∧ j = s then 4 else if a = 2 ∧ j = s then 0 else if a = 2 ∧ 0 ≤ j ∧ j < V 0 0 ∧ V 1 j ≠ 4 then brkP V s j else V a j
def ldP (V : Mem) (w p j : Int) : Int := V 2 j - w * V 13 (stp (V 0 0) p j) / 1000
def ldC (V : Mem) (w p : Int) : Int := cntN (fun j => decide (V 1 j ≠ 4) && decide (ldP V w p j < 0)) (V 0 0).toNat
/-- most loose ones, and the least place of them -/
def wrS (V : Mem) (w : Int) : Nat → Int × Int
  | 0 => (0, 0)
  | n + 1 => if (wrS V w n).1 < ldC V w n then (ldC V w n, n) else wrS V w n
def sinT (j : Int) : Int := [0, 100, 200, 297, 392, 483, 569, 650, 724, 792, 851, 903, 946, 980, 1004, 1019, 1024].getD j.toNat 0
def sinV (d : Int) : Int := if d % 64 < 32 then sinT (if 16 < d % 32 then 32 - d % 32 else d % 32) else -sinT (if 16 < d % 32 then 32 - d % 32 else d % 32)
def hubV (V : Mem) (s : Int) : Int := if s / 2 % 2 = 0 then (if V 1 s = 5 then 0 else 2 * V 18 3 * 64 / V 0 0) else -(if V 1 s = 5 then 0 else 2 * V 18 3 * 64 / V 0 0)
def sqV (V : Mem) (s : Int) : Int := max 0 (100 * (V 18 2 * V 18 2 + V 18 0 * V 18 0 + V 18 1 * V 18 1) - 200 * V 18 2 * V 18 0 * sinV (16 + hubV V s) / 1024)
def rootV (v : Int) : Int := firstI (fun r => decide (v < (r + 1) * (r + 1))) 20000 0
def crsV (V : Mem) (s t : Int) : Prop := leanK (V 1 s) ≠ 0 ∧ leanK (V 1 s) = leanK (V 1 t) ∧ ((t * 64 / V 0 0 - s * 64 / V 0 0) % 64 + hubV V t - hubV V s < 0 ∨ 64 < (t * 64 / V 0 0 - s * 64 / V 0 0) % 64 + hubV V t - hubV V s)
/-- a new wheel -/
def whlV (V : Mem) (n : Int) : Mem := fun a j => if a = 0 ∧ j = 0 then n else if a = 1 then (if j % 2 = 0 then 1 else 2) else if a = 2 then 500 else if a = 3 ∨ a = 4 then 0 else if a = 5 ∨ a = 6 then -10000 else if a = 17 then 0 else V a j
def tblV (V : Mem) (t : Nat) (n : Int) : Mem := fun a j => if a = 7 ∧ j = t then n else if a = 8 + t then 0 else V a j
def cpyV (V : Mem) (f t : Nat) (n : Int) : Mem := fun a j => if a = 8 + t ∧ 0 ≤ j ∧ j < n then V (8 + f) j else V a j
def Inv (b : Int) (V : Mem) : Prop :=
  (V 0 0 = 8 ∨ V 0 0 = 16 ∨ V 0 0 = 32) ∧
  (∀ j, 0 ≤ j → j < V 0 0 → 0 ≤ V 1 j ∧ V 1 j ≤ 5 ∧ (V 1 j = 4 → V 2 j = 0)) ∧
  (∀ j, 0 ≤ j → j < V 0 0 → -b ≤ V 2 j ∧ V 2 j ≤ b) ∧
  (∀ r : Nat, r < 2 → ∀ j, 0 ≤ j → j < V 0 0 → -b ≤ V (3 + r) j ∧ V (3 + r) j ≤ b) ∧
  (∀ r : Nat, r < 2 → ∀ j, 0 ≤ j → j < V 0 0 → -10000 ≤ V (5 + r) j ∧ V (5 + r) j ≤ 9999) ∧
  (∀ t : Nat, t < 6 → -1 ≤ V 7 t ∧ V 7 t ≤ 17) ∧
  (∀ t : Nat, t < 6 → ∀ d, 0 ≤ d → d < 17 → -1000 ≤ V (8 + t) d ∧ V (8 + t) d ≤ 1000 ∧ (V 7 t ≤ d → V (8 + t) d = 0)) ∧
  (∀ i, 0 ≤ i → i < 5 → 1 ≤ V 14 i ∧ V 14 i ≤ 1000000) ∧
  (0 ≤ V 17 0 ∧ V 17 0 ≤ 60) ∧
  (∀ i, 0 ≤ i → i < V 17 0 → 0 ≤ V 15 i ∧ V 15 i < V 0 0 ∧ -100 ≤ V 16 i ∧ V 16 i ≤ 100) ∧
  (1 ≤ V 18 0 ∧ V 18 0 ≤ 200 ∧ 0 ≤ V 18 1 ∧ V 18 1 ≤ 200 ∧ 1 ≤ V 18 2 ∧ V 18 2 ≤ 1000 ∧ 0 ≤ V 18 3 ∧ V 18 3 ≤ 7) ∧
  (0 ≤ b ∧ b ≤ 500000000)
theorem Inv.N {b : Int} {V : Mem} (h : Inv b V) : V 0 0 = 8 ∨ V 0 0 = 16 ∨ V 0 0 = 32 := h.1
theorem Inv.kind {b : Int} {V : Mem} (h : Inv b V) (j : Int) (h0 : 0 ≤ j) (h1 : j < V 0 0) : 0 ≤ V 1 j ∧ V 1 j ≤ 5 ∧ (V 1 j = 4 → V 2 j = 0) := h.2.1 j h0 h1
theorem Inv.pull {b : Int} {V : Mem} (h : Inv b V) (j : Int) (h0 : 0 ≤ j) (h1 : j < V 0 0) : -b ≤ V 2 j ∧ V 2 j ≤ b := h.2.2.1 j h0 h1
theorem Inv.made {b : Int} {V : Mem} (h : Inv b V) (r : Nat) (hr : r < 2) (j : Int) (h0 : 0 ≤ j) (h1 : j < V 0 0) : -b ≤ V (3 + r) j ∧ V (3 + r) j ≤ b := h.2.2.2.1 r hr j h0 h1
theorem Inv.read {b : Int} {V : Mem} (h : Inv b V) (r : Nat) (hr : r < 2) (j : Int) (h0 : 0 ≤ j) (h1 : j < V 0 0) : -10000 ≤ V (5 + r) j ∧ V (5 + r) j ≤ 9999 := h.2.2.2.2.1 r hr j h0 h1
theorem Inv.size {b : Int} {V : Mem} (h : Inv b V) (t : Nat) (ht : t < 6) : -1 ≤ V 7 t ∧ V 7 t ≤ 17 := h.2.2.2.2.2.1 t ht
theorem Inv.tab {b : Int} {V : Mem} (h : Inv b V) (t : Nat) (ht : t < 6) (d : Int) (h0 : 0 ≤ d) (h1 : d < 17) : -1000 ≤ V (8 + t) d ∧ V (8 + t) d ≤ 1000 ∧ (V 7 t ≤ d → V (8 + t) d = 0) := h.2.2.2.2.2.2.1 t ht d h0 h1
theorem Inv.lim {b : Int} {V : Mem} (h : Inv b V) (i : Int) (h0 : 0 ≤ i) (h1 : i < 5) : 1 ≤ V 14 i ∧ V 14 i ≤ 1000000 := h.2.2.2.2.2.2.2.1 i h0 h1
theorem Inv.many {b : Int} {V : Mem} (h : Inv b V) : 0 ≤ V 17 0 ∧ V 17 0 ≤ 60 := h.2.2.2.2.2.2.2.2.1
theorem Inv.log {b : Int} {V : Mem} (h : Inv b V) (i : Int) (h0 : 0 ≤ i) (h1 : i < V 17 0) : 0 ≤ V 15 i ∧ V 15 i < V 0 0 ∧ -100 ≤ V 16 i ∧ V 16 i ≤ 100 := h.2.2.2.2.2.2.2.2.2.1 i h0 h1
theorem Inv.lac {b : Int} {V : Mem} (h : Inv b V) : 1 ≤ V 18 0 ∧ V 18 0 ≤ 200 ∧ 0 ≤ V 18 1 ∧ V 18 1 ≤ 200 ∧ 1 ≤ V 18 2 ∧ V 18 2 ≤ 1000 ∧ 0 ≤ V 18 3 ∧ V 18 3 ≤ 7 := h.2.2.2.2.2.2.2.2.2.2.1
theorem Inv.b {b : Int} {V : Mem} (h : Inv b V) : 0 ≤ b ∧ b ≤ 500000000 := h.2.2.2.2.2.2.2.2.2.2.2
/-- the reference's cells hold V -/
def RM (V σ : Mem) : Prop :=
  σ 30 0 = V 0 0 ∧
  (∀ j, 0 ≤ j → j < V 0 0 → σ 31 j = V 1 j ∧ σ 32 j = V 2 j) ∧
  (∀ r : Nat, r < 2 → ∀ j, 0 ≤ j → j < V 0 0 → σ 33 (32 * r + j) = V (3 + r) j ∧ σ 34 (32 * r + j) = V (5 + r) j) ∧
  (∀ t : Nat, t < 6 → σ 35 t = V 7 t) ∧
  (∀ t : Nat, t < 6 → ∀ d, 0 ≤ d → d < 17 → σ 36 (17 * t + d) = V (8 + t) d) ∧
  (∀ i, 0 ≤ i → i < 5 → σ 37 i = V 14 i) ∧
  σ 30 9 = V 17 0 ∧
  (∀ i, 0 ≤ i → i < V 17 0 → σ 38 (2 * i) = V 15 i ∧ σ 38 (2 * i + 1) = V 16 i) ∧
  (σ 30 10 = V 18 0 ∧ σ 30 11 = V 18 1 ∧ σ 30 12 = V 18 2 ∧ σ 30 13 = V 18 3) ∧
  (σ 30 15 = 0 ∨ (σ 30 15 = 1 ∧ ∀ r : Nat, r < 2 → ∀ p, 0 ≤ p → p < V 0 0 → σ 39 (32 * r + p) = unb V r p))
theorem RM.N {V σ : Mem} (h : RM V σ) : σ 30 0 = V 0 0 := h.1
theorem RM.kind {V σ : Mem} (h : RM V σ) (j : Int) (h0 : 0 ≤ j) (h1 : j < V 0 0) : σ 31 j = V 1 j := (h.2.1 j h0 h1).1
theorem RM.pull {V σ : Mem} (h : RM V σ) (j : Int) (h0 : 0 ≤ j) (h1 : j < V 0 0) : σ 32 j = V 2 j := (h.2.1 j h0 h1).2
theorem RM.made {V σ : Mem} (h : RM V σ) (r : Nat) (hr : r < 2) (j : Int) (h0 : 0 ≤ j) (h1 : j < V 0 0) : σ 33 (32 * r + j) = V (3 + r) j := (h.2.2.1 r hr j h0 h1).1
theorem RM.read {V σ : Mem} (h : RM V σ) (r : Nat) (hr : r < 2) (j : Int) (h0 : 0 ≤ j) (h1 : j < V 0 0) : σ 34 (32 * r + j) = V (5 + r) j := (h.2.2.1 r hr j h0 h1).2
theorem RM.size {V σ : Mem} (h : RM V σ) (t : Nat) (ht : t < 6) : σ 35 t = V 7 t := h.2.2.2.1 t ht
theorem RM.tab {V σ : Mem} (h : RM V σ) (t : Nat) (ht : t < 6) (d : Int) (h0 : 0 ≤ d) (h1 : d < 17) : σ 36 (17 * t + d) = V (8 + t) d := h.2.2.2.2.1 t ht d h0 h1
theorem RM.lim {V σ : Mem} (h : RM V σ) (i : Int) (h0 : 0 ≤ i) (h1 : i < 5) : σ 37 i = V 14 i := h.2.2.2.2.2.1 i h0 h1
theorem RM.many {V σ : Mem} (h : RM V σ) : σ 30 9 = V 17 0 := h.2.2.2.2.2.2.1
theorem RM.log {V σ : Mem} (h : RM V σ) (i : Int) (h0 : 0 ≤ i) (h1 : i < V 17 0) : σ 38 (2 * i) = V 15 i ∧ σ 38 (2 * i + 1) = V 16 i := h.2.2.2.2.2.2.2.1 i h0 h1
theorem RM.lac {V σ : Mem} (h : RM V σ) : σ 30 10 = V 18 0 ∧ σ 30 11 = V 18 1 ∧ σ 30 12 = V 18 2 ∧ σ 30 13 = V 18 3 := h.2.2.2.2.2.2.2.2.1
theorem RM.rims {V σ : Mem} (h : RM V σ) : σ 30 15 = 0 ∨ (σ 30 15 = 1 ∧ ∀ r : Nat, r < 2 → ∀ p, 0 ≤ p → p < V 0 0 → σ 39 (32 * r + p) = unb V r p) := h.2.2.2.2.2.2.2.2.2
/-- the class' cells hold V -/
def RX (V σ : Mem) : Prop :=
  σ 10 5 = V 0 0 ∧
  (∀ j, 0 ≤ j → j < V 0 0 → σ 11 j = V 1 j ∧ σ 12 j = V 2 j) ∧
  (∀ r : Nat, r < 2 → ∀ j, 0 ≤ j → j < V 0 0 → σ (20 + r) j = V (3 + r) j ∧ σ (14 + r) j = V (5 + r) j ∧ σ (17 + r) j = unb V r j) ∧
  (∀ t : Nat, t < 6 → σ 9 t = V 7 t) ∧
  (∀ t : Nat, t < 6 → ∀ d, 0 ≤ d → d < 17 → σ (3 + t) d = V (8 + t) d) ∧
  (∀ i, 0 ≤ i → i < 5 → σ 22 i = V 14 i) ∧
  σ 26 2 = V 17 0 ∧
  (∀ i, 0 ≤ i → i < V 17 0 → σ 27 i = V 15 i ∧ σ 28 i = V 16 i) ∧
  (σ 29 0 = V 18 0 ∧ σ 29 1 = V 18 1 ∧ σ 29 2 = V 18 2 ∧ σ 29 3 = V 18 3) ∧
  ((∀ k, 0 ≤ k → k < 6 → σ 100 k = leanK k ∧ σ 101 k = forceK k ∧ σ 102 k = (if k = 3 then 2 else if k = 5 then 1 else 0)) ∧ (∀ k, 0 ≤ k → k < 17 → σ 103 k = sinT k) ∧ σ 200 0 = 6 ∧ σ 201 0 = 6 ∧ σ 202 0 = 6 ∧ σ 203 0 = 17)
theorem RX.N {V σ : Mem} (h : RX V σ) : σ 10 5 = V 0 0 := h.1
theorem RX.kind {V σ : Mem} (h : RX V σ) (j : Int) (h0 : 0 ≤ j) (h1 : j < V 0 0) : σ 11 j = V 1 j := (h.2.1 j h0 h1).1
theorem RX.pull {V σ : Mem} (h : RX V σ) (j : Int) (h0 : 0 ≤ j) (h1 : j < V 0 0) : σ 12 j = V 2 j := (h.2.1 j h0 h1).2
theorem RX.made {V σ : Mem} (h : RX V σ) (r : Nat) (hr : r < 2) (j : Int) (h0 : 0 ≤ j) (h1 : j < V 0 0) : σ (20 + r) j = V (3 + r) j := (h.2.2.1 r hr j h0 h1).1
theorem RX.read {V σ : Mem} (h : RX V σ) (r : Nat) (hr : r < 2) (j : Int) (h0 : 0 ≤ j) (h1 : j < V 0 0) : σ (14 + r) j = V (5 + r) j := (h.2.2.1 r hr j h0 h1).2.1
theorem RX.str {V σ : Mem} (h : RX V σ) (r : Nat) (hr : r < 2) (j : Int) (h0 : 0 ≤ j) (h1 : j < V 0 0) : σ (17 + r) j = unb V r j := (h.2.2.1 r hr j h0 h1).2.2
theorem RX.size {V σ : Mem} (h : RX V σ) (t : Nat) (ht : t < 6) : σ 9 t = V 7 t := h.2.2.2.1 t ht
theorem RX.tab {V σ : Mem} (h : RX V σ) (t : Nat) (ht : t < 6) (d : Int) (h0 : 0 ≤ d) (h1 : d < 17) : σ (3 + t) d = V (8 + t) d := h.2.2.2.2.1 t ht d h0 h1
theorem RX.lim {V σ : Mem} (h : RX V σ) (i : Int) (h0 : 0 ≤ i) (h1 : i < 5) : σ 22 i = V 14 i := h.2.2.2.2.2.1 i h0 h1
theorem RX.many {V σ : Mem} (h : RX V σ) : σ 26 2 = V 17 0 := h.2.2.2.2.2.2.1
theorem RX.log {V σ : Mem} (h : RX V σ) (i : Int) (h0 : 0 ≤ i) (h1 : i < V 17 0) : σ 27 i = V 15 i ∧ σ 28 i = V 16 i := h.2.2.2.2.2.2.2.1 i h0 h1
theorem RX.lac {V σ : Mem} (h : RX V σ) : σ 29 0 = V 18 0 ∧ σ 29 1 = V 18 1 ∧ σ 29 2 = V 18 2 ∧ σ 29 3 = V 18 3 := h.2.2.2.2.2.2.2.2.1
theorem RX.ro {V σ : Mem} (h : RX V σ) : (∀ k, 0 ≤ k → k < 6 → σ 100 k = leanK k ∧ σ 101 k = forceK k ∧ σ 102 k = (if k = 3 then 2 else if k = 5 then 1 else 0)) ∧ (∀ k, 0 ≤ k → k < 17 → σ 103 k = sinT k) ∧ σ 200 0 = 6 ∧ σ 201 0 = 6 ∧ σ 202 0 = 6 ∧ σ 203 0 = 17 := h.2.2.2.2.2.2.2.2.2
/-- what isn't the class', what isn't the reference's, stays -/
def keepX (σ τ : Mem) : Prop := ∀ k, 30 ≤ k → τ k = σ k
def keepM (σ τ : Mem) : Prop := ∀ k, (k < 30 ∨ 41 ≤ k) → τ k = σ k
theorem RM.keep {V σ τ : Mem} (h : RM V σ) (k : keepX σ τ) : RM V τ := by
  unfold RM at *
  rw [k 30 (by decide), k 31 (by decide), k 32 (by decide), k 33 (by decide), k 34 (by decide), k 35 (by decide), k 36 (by decide), k 37 (by decide), k 38 (by decide), k 39 (by decide)]
  exact h
theorem RX.keep {V σ τ : Mem} (h : RX V σ) (k : keepM σ τ) : RX V τ := by
  unfold RX at *
  rw [k 10 (by decide), k 11 (by decide), k 12 (by decide), k 9 (by decide), k 22 (by decide), k 26 (by decide), k 27 (by decide), k 28 (by decide), k 29 (by decide), k 100 (by decide), k 101 (by decide), k 102 (by decide), k 103 (by decide), k 200 (by decide), k 201 (by decide), k 202 (by decide), k 203 (by decide)]
  refine ⟨h.1, h.2.1, fun r hr => ?_, h.2.2.2.1, fun t ht => ?_, h.2.2.2.2.2⟩
  · rw [k (20 + r) (by omega), k (14 + r) (by omega), k (17 + r) (by omega)]
    exact h.2.2.1 r hr
  · rw [k (3 + t) (by omega)]
    exact h.2.2.2.2.1 t ht
theorem keepX.rfl {σ : Mem} : keepX σ σ := fun _ _ => Eq.refl _
theorem keepM.rfl {σ : Mem} : keepM σ σ := fun _ _ => Eq.refl _
theorem keepX.trans {a b c : Mem} (h : keepX a b) (k : keepX b c) : keepX a c := fun q hq => (k q hq).trans (h q hq)
theorem keepM.trans {a b c : Mem} (h : keepM a b) (k : keepM b c) : keepM a c := fun q hq => (k q hq).trans (h q hq)
theorem keepX.up {σ τ : Mem} {k : Nat} {j v : Int} (h : keepX σ τ) (hk : k < 30) : keepX σ (up τ k j v) := fun q hq => by rw [up_cell (by omega)]; exact h q hq
theorem keepM.up {σ τ : Mem} {k : Nat} {j v : Int} (h : keepM σ τ) (hk : 30 ≤ k) (hk2 : k < 41) : keepM σ (up τ k j v) := fun q hq => by rw [up_cell (by omega)]; exact h q hq
end
section
theorem c_isIn {K : Nat} {σ : Mem} (v : Int) (lo : Int) (hi : Int) (h1 : i32 v) (h2 : i32 lo) (h3 : i32 hi) : RetV K mX7_isIn [aI v, aI lo, aI hi] σ (aI (b2i (lo ≤ v ∧ v ≤ hi))) := by
  refine Ret.of [some (aI v), some (aI lo), some (aI hi)] rfl (plainFor_of_name (by decide)) (Nat.le_of_ble_eq_true rfl) ?_
  refine g_iload_n dX7_isIn_0 rfl ?_
  refine g_iload_n dX7_isIn_1 rfl ?_
  refine g_icmp_lt (tgt := 14) dX7_isIn_2 (by decide) (by omega) (by omega) (fun h2 => ?_) (fun h2 => ?_)
  · refine g_iconst dX7_isIn_14 ?_
    exact g_iret dX7_isIn_15 (by first | exact Or.inl rfl | exact Or.inr rfl | exact b2i_ok) (by first | exact aI_b2i1 (by omega) rfl | exact aI_b2i0 (by omega) rfl)
  · refine g_iload_n dX7_isIn_5 rfl ?_
    refine g_iload_n dX7_isIn_6 rfl ?_
    refine g_icmp_gt (tgt := 14) dX7_isIn_7 (by decide) (by omega) (by omega) (fun h7 => ?_) (fun h7 => ?_)
    · refine g_iconst dX7_isIn_14 ?_
      exact g_iret dX7_isIn_15 (by first | exact Or.inl rfl | exact Or.inr rfl | exact b2i_ok) (by first | exact aI_b2i1 (by omega) rfl | exact aI_b2i0 (by omega) rfl)
    · refine g_iconst dX7_isIn_10 ?_
      refine g_goto (tgt := 15) dX7_isIn_11 (by decide) ?_
      exact g_iret dX7_isIn_15 (by first | exact Or.inl rfl | exact Or.inr rfl | exact b2i_ok) (by first | exact aI_b2i1 (by omega) rfl | exact aI_b2i0 (by omega) rfl)

theorem c_isHole {b : Int} {V σ : Mem} (hi : Inv b V) (h : RM V σ) (k : Int) (hk : i32 k) : RetV 41 mX7_isHole [aR 30, aI k] σ (aI (b2i (0 ≤ k ∧ k < V 0 0))) := by
  refine Ret.of [some (aR 30), some (aI k)] rfl (plainFor_of_name (by decide)) (Nat.le_of_ble_eq_true rfl) ?_
  have hN := hi.N
  refine g_iload_n dX7_isHole_0 rfl ?_
  refine g_iconst dX7_isHole_1 ?_
  refine g_aload_n dX7_isHole_2 rfl ?_
  refine g_getI (ji := 0) rfl dX7_isHole_3 fX7_58 rfl rfl (by decide) ?_
  rw [h.N]
  refine g_iconst dX7_isHole_6 ?_
  refine g_isub dX7_isHole_7 ?_
  refine g_pS3 dX7_isHole_8 sX7_70 (by decide) (by decide) (c_isIn _ _ _ hk (by omega) (by omega)) ?_
  exact g_iret dX7_isHole_11 (by first | exact Or.inl rfl | exact Or.inr rfl | exact b2i_ok) ⟨congrArg (fun x => some (aI x)) (b2i_iff (by omega)), rfl⟩

theorem c_isGone {b : Int} {V σ : Mem} (hi : Inv b V) (h : RM V σ) (s : Int) (h0 : 0 ≤ s) (h1 : s < V 0 0) : RetV 41 mX7_isGone [aR 30, aI s] σ (aI (b2i (V 1 s = 4))) := by
  refine Ret.of [some (aR 30), some (aI s)] rfl (plainFor_of_name (by decide)) (Nat.le_of_ble_eq_true rfl) ?_
  have hN := hi.N
  have hk := hi.kind s h0 h1
  refine g_aload_n dX7_isGone_0 rfl ?_
  refine g_getR dX7_isGone_1 fX7_7 rfl rfl (by decide) ?_
  refine g_iload_n dX7_isGone_4 rfl ?_
  refine g_iaload dX7_isGone_5 rfl (by decide) (by omega) (by omega) (by decide) ?_
  rw [h.kind _ (by omega) (by omega)]
  refine g_iconst dX7_isGone_6 ?_
  refine g_icmp_ne (tgt := 14) dX7_isGone_7 (by decide) (by omega) (by omega) (fun h7 => ?_) (fun h7 => ?_)
  · refine g_iconst dX7_isGone_14 ?_
    exact g_iret dX7_isGone_15 (by first | exact Or.inl rfl | exact Or.inr rfl | exact b2i_ok) (by first | exact aI_b2i1 (by omega) rfl | exact aI_b2i0 (by omega) rfl)
  · refine g_iconst dX7_isGone_10 ?_
    refine g_goto (tgt := 15) dX7_isGone_11 (by decide) ?_
    exact g_iret dX7_isGone_15 (by first | exact Or.inl rfl | exact Or.inr rfl | exact b2i_ok) (by first | exact aI_b2i1 (by omega) rfl | exact aI_b2i0 (by omega) rfl)

theorem c_isKind {K : Nat} {σ : Mem} (k : Int) (hk : i32 k) : RetV K mX7_isKind [aI k] σ (aI (b2i ((0 ≤ k ∧ k ≤ 3) ∨ k = 5))) := by
  refine Ret.of [some (aI k)] rfl (plainFor_of_name (by decide)) (Nat.le_of_ble_eq_true rfl) ?_
  refine g_iload_n dX7_isKind_0 rfl ?_
  refine g_iconst dX7_isKind_1 ?_
  refine g_iconst dX7_isKind_2 ?_
  refine g_pS3 dX7_isKind_3 sX7_70 (by decide) (by decide) (c_isIn _ _ _ hk (by omega) (by omega)) ?_
  refine g_ifb_ne (tgt := 14) dX7_isKind_6 (by decide) (fun h6 => ?_) (fun h6 => ?_)
  · refine g_iconst dX7_isKind_14 ?_
    refine g_goto (tgt := 19) dX7_isKind_15 (by decide) ?_
    exact g_iret dX7_isKind_19 (by first | exact Or.inl rfl | exact Or.inr rfl | exact b2i_ok) (by first | exact aI_b2i1 (by omega) rfl | exact aI_b2i0 (by omega) rfl)
  · refine g_iload_n dX7_isKind_9 rfl ?_
    refine g_iconst dX7_isKind_10 ?_
    refine g_icmp_ne (tgt := 18) dX7_isKind_11 (by decide) (by omega) (by omega) (fun h11 => ?_) (fun h11 => ?_)
    · refine g_iconst dX7_isKind_18 ?_
      exact g_iret dX7_isKind_19 (by first | exact Or.inl rfl | exact Or.inr rfl | exact b2i_ok) (by first | exact aI_b2i1 (by omega) rfl | exact aI_b2i0 (by omega) rfl)
    · refine g_iconst dX7_isKind_14 ?_
      refine g_goto (tgt := 19) dX7_isKind_15 (by decide) ?_
      exact g_iret dX7_isKind_19 (by first | exact Or.inl rfl | exact Or.inr rfl | exact b2i_ok) (by first | exact aI_b2i1 (by omega) rfl | exact aI_b2i0 (by omega) rfl)

theorem c_leans {b : Int} {V σ : Mem} (hi : Inv b V) (h : RM V σ) (s : Int) (h0 : 0 ≤ s) (h1 : s < V 0 0) : RetV 41 mX7_leans [aR 30, aI s] σ (aI (leanK (V 1 s))) := by
  refine Ret.of [some (aR 30), some (aI s), none] rfl (plainFor_of_name (by decide)) (Nat.le_of_ble_eq_true rfl) ?_
  have hN := hi.N
  have hk := hi.kind s h0 h1
  refine g_aload_n dX7_leans_0 rfl ?_
  refine g_getR dX7_leans_1 fX7_7 rfl rfl (by decide) ?_
  refine g_iload_n dX7_leans_4 rfl ?_
  refine g_iaload dX7_leans_5 rfl (by decide) (by omega) (by omega) (by decide) ?_
  rw [h.kind _ (by omega) (by omega)]
  refine g_istore_n (i := 2) dX7_leans_6 rfl (by decide) ?_
  refine g_iload_n dX7_leans_7 rfl ?_
  refine g_iconst dX7_leans_8 ?_
  refine g_icmp_eq (tgt := 17) dX7_leans_9 (by decide) (by omega) (by omega) (fun h9 => ?_) (fun h9 => ?_)
  · refine g_iconst dX7_leans_17 ?_
    refine g_goto (tgt := 36) dX7_leans_18 (by decide) ?_
    exact g_iret dX7_leans_36 trivial ⟨by unfold leanK; congr 2; omega, rfl⟩
  · refine g_iload_n dX7_leans_12 rfl ?_
    refine g_iconst dX7_leans_13 ?_
    refine g_icmp_ne (tgt := 21) dX7_leans_14 (by decide) (by omega) (by omega) (fun h14 => ?_) (fun h14 => ?_)
    · refine g_iload_n dX7_leans_21 rfl ?_
      refine g_iconst dX7_leans_22 ?_
      refine g_icmp_eq (tgt := 31) dX7_leans_23 (by decide) (by omega) (by omega) (fun h23 => ?_) (fun h23 => ?_)
      · refine g_iconst dX7_leans_31 ?_
        refine g_goto (tgt := 36) dX7_leans_32 (by decide) ?_
        exact g_iret dX7_leans_36 trivial ⟨by unfold leanK; congr 2; omega, rfl⟩
      · refine g_iload_n dX7_leans_26 rfl ?_
        refine g_iconst dX7_leans_27 ?_
        refine g_icmp_ne (tgt := 35) dX7_leans_28 (by decide) (by omega) (by omega) (fun h28 => ?_) (fun h28 => ?_)
        · refine g_iconst dX7_leans_35 ?_
          exact g_iret dX7_leans_36 trivial ⟨by unfold leanK; congr 2; omega, rfl⟩
        · refine g_iconst dX7_leans_31 ?_
          refine g_goto (tgt := 36) dX7_leans_32 (by decide) ?_
          exact g_iret dX7_leans_36 trivial ⟨by unfold leanK; congr 2; omega, rfl⟩
    · refine g_iconst dX7_leans_17 ?_
      refine g_goto (tgt := 36) dX7_leans_18 (by decide) ?_
      exact g_iret dX7_leans_36 trivial ⟨by unfold leanK; congr 2; omega, rfl⟩

theorem c_force {b : Int} {V σ : Mem} (hi : Inv b V) (h : RM V σ) (s : Int) (h0 : 0 ≤ s) (h1 : s < V 0 0) : RetV 41 mX7_force [aR 30, aI s] σ (aI (forceK (V 1 s))) := by
  refine Ret.of [some (aR 30), some (aI s)] rfl (plainFor_of_name (by decide)) (Nat.le_of_ble_eq_true rfl) ?_
  have hN := hi.N
  have hk := hi.kind s h0 h1
  refine g_aload_n dX7_force_0 rfl ?_
  refine g_getR dX7_force_1 fX7_7 rfl rfl (by decide) ?_
  refine g_iload_n dX7_force_4 rfl ?_
  refine g_iaload dX7_force_5 rfl (by decide) (by omega) (by omega) (by decide) ?_
  rw [h.kind _ (by omega) (by omega)]
  refine g_iconst dX7_force_6 ?_
  refine g_icmp_ne (tgt := 14) dX7_force_7 (by decide) (by omega) (by omega) (fun h7 => ?_) (fun h7 => ?_)
  · refine g_aload_n dX7_force_14 rfl ?_
    refine g_iload_n dX7_force_15 rfl ?_
    refine g_pV1 dX7_force_16 qX7_74 rfl (by decide) (by decide) (by decide) (c_isGone hi h s h0 h1) ?_
    refine g_ifb_eq (tgt := 26) dX7_force_19 (by decide) (fun h19 => ?_) (fun h19 => ?_)
    · refine g_iconst dX7_force_26 ?_
      exact g_iret dX7_force_27 trivial ⟨by unfold forceK; congr 2; omega, rfl⟩
    · refine g_iconst dX7_force_22 ?_
      refine g_goto (tgt := 27) dX7_force_23 (by decide) ?_
      exact g_iret dX7_force_27 trivial ⟨by unfold forceK; congr 2; omega, rfl⟩
  · refine g_iconst dX7_force_10 ?_
    refine g_goto (tgt := 27) dX7_force_11 (by decide) ?_
    exact g_iret dX7_force_27 trivial ⟨by unfold forceK; congr 2; omega, rfl⟩

theorem c_steps {b : Int} {V σ : Mem} (hi : Inv b V) (h : RM V σ) (i : Int) (j : Int) (h0 : 0 ≤ i) (h1 : i < V 0 0) (h2 : 0 ≤ j) (h3 : j < V 0 0) : RetV 41 mX7_steps [aR 30, aI i, aI j] σ (aI (stp (V 0 0) i j)) := by
  refine Ret.of [some (aR 30), some (aI i), some (aI j), none] rfl (plainFor_of_name (by decide)) (Nat.le_of_ble_eq_true rfl) ?_
  have hN := hi.N
  refine g_iload_n dX7_steps_0 rfl ?_
  refine g_iload_n dX7_steps_1 rfl ?_
  refine g_icmp_ge (tgt := 11) dX7_steps_2 (by decide) (by omega) (by omega) (fun h2 => ?_) (fun h2 => ?_)
  · refine g_iload_n dX7_steps_11 rfl ?_
    refine g_iload_n dX7_steps_12 rfl ?_
    refine g_isub dX7_steps_13 ?_
    refine g_istore_n (i := 3) dX7_steps_14 rfl (by decide) ?_
    refine g_iload_n dX7_steps_15 rfl ?_
    refine g_aload_n dX7_steps_16 rfl ?_
    refine g_getI (ji := 0) rfl dX7_steps_17 fX7_58 rfl rfl (by decide) ?_
    rw [h.N]
    refine g_iload_n dX7_steps_20 rfl ?_
    refine g_isub dX7_steps_21 ?_
    refine g_icmp_ge (tgt := 29) dX7_steps_22 (by decide) (by omega) (by omega) (fun h22 => ?_) (fun h22 => ?_)
    · refine g_aload_n dX7_steps_29 rfl ?_
      refine g_getI (ji := 0) rfl dX7_steps_30 fX7_58 rfl rfl (by decide) ?_
      rw [h.N]
      refine g_iload_n dX7_steps_33 rfl ?_
      refine g_isub dX7_steps_34 ?_
      exact g_iret dX7_steps_35 trivial ⟨by unfold stp dst; congr 2; omega, rfl⟩
    · refine g_iload_n dX7_steps_25 rfl ?_
      refine g_goto (tgt := 35) dX7_steps_26 (by decide) ?_
      exact g_iret dX7_steps_35 trivial ⟨by unfold stp dst; congr 2; omega, rfl⟩
  · refine g_iload_n dX7_steps_5 rfl ?_
    refine g_iload_n dX7_steps_6 rfl ?_
    refine g_isub dX7_steps_7 ?_
    refine g_goto (tgt := 14) dX7_steps_8 (by decide) ?_
    refine g_istore_n (i := 3) dX7_steps_14 rfl (by decide) ?_
    refine g_iload_n dX7_steps_15 rfl ?_
    refine g_aload_n dX7_steps_16 rfl ?_
    refine g_getI (ji := 0) rfl dX7_steps_17 fX7_58 rfl rfl (by decide) ?_
    rw [h.N]
    refine g_iload_n dX7_steps_20 rfl ?_
    refine g_isub dX7_steps_21 ?_
    refine g_icmp_ge (tgt := 29) dX7_steps_22 (by decide) (by omega) (by omega) (fun h22 => ?_) (fun h22 => ?_)
    · refine g_aload_n dX7_steps_29 rfl ?_
      refine g_getI (ji := 0) rfl dX7_steps_30 fX7_58 rfl rfl (by decide) ?_
      rw [h.N]
      refine g_iload_n dX7_steps_33 rfl ?_
      refine g_isub dX7_steps_34 ?_
      exact g_iret dX7_steps_35 trivial ⟨by unfold stp dst; congr 2; omega, rfl⟩
    · refine g_iload_n dX7_steps_25 rfl ?_
      refine g_goto (tgt := 35) dX7_steps_26 (by decide) ?_
      exact g_iret dX7_steps_35 trivial ⟨by unfold stp dst; congr 2; omega, rfl⟩

theorem c_tell {b : Int} {V σ : Mem} (hi : Inv b V) (h : RM V σ) (d : Int) (t : Nat) (ht : t < 6) (h0 : 0 ≤ d) (h1 : d < 17) : RetV 41 mX7_tell [aR 30, aI (t : Int), aI d] σ (aI (V (8 + t) d)) := by
  refine Ret.of [some (aR 30), some (aI (t : Int)), some (aI d)] rfl (plainFor_of_name (by decide)) (Nat.le_of_ble_eq_true rfl) ?_
  have hz := hi.size t ht
  have hd := hi.tab t ht d h0 h1
  refine g_iload_n dX7_tell_0 rfl ?_
  refine g_aload_n dX7_tell_1 rfl ?_
  refine g_getR dX7_tell_2 fX7_23 rfl rfl (by decide) ?_
  refine g_iload_n dX7_tell_5 rfl ?_
  refine g_iaload dX7_tell_6 rfl (by decide) (by omega) (by omega) (by decide) ?_
  rw [h.size t ht]
  refine g_icmp_ge (tgt := 24) dX7_tell_7 (by decide) (by omega) (by omega) (fun h7 => ?_) (fun h7 => ?_)
  · refine g_iconst dX7_tell_24 ?_
    exact g_iret dX7_tell_25 trivial ⟨by first | rfl | (congr 2; omega), rfl⟩
  · refine g_aload_n dX7_tell_10 rfl ?_
    refine g_getR dX7_tell_11 fX7_26 rfl rfl (by decide) ?_
    refine g_bipush (v := 17) dX7_tell_14 (by decide) ?_
    refine g_iload_n dX7_tell_16 rfl ?_
    refine g_imul dX7_tell_17 ?_
    refine g_iload_n dX7_tell_18 rfl ?_
    refine g_iadd dX7_tell_19 ?_
    refine g_iaload dX7_tell_20 rfl (by decide) (by omega) (by omega) (by decide) ?_
    rw [h.tab t ht d h0 h1]
    refine g_goto (tgt := 25) dX7_tell_21 (by decide) ?_
    exact g_iret dX7_tell_25 trivial ⟨by first | rfl | (congr 2; omega), rfl⟩

theorem c_cut {K : Nat} {σ : Mem} (x : Int) (y : Int) (hx : i64 x) (hy : i64 y) (h0 : 0 < y) : RetV K mX7_cut [aL x, aL y] σ (aL (x / y)) := by
  refine Ret.of [some (aL x), none, some (aL y), none, none, none] rfl (plainFor_of_name (by decide)) (Nat.le_of_ble_eq_true rfl) ?_
  obtain ⟨q, r, e1, e2, e3, e4, e5, e6, e7, e8, e9⟩ := td_facts (x := x) h0
  refine g_lload_n dX7_cut_0 rfl ?_
  refine g_lload_n dX7_cut_1 rfl ?_
  refine g_ldiv dX7_cut_2 (by omega) (by omega) (by omega) ?_
  rw [e1]
  refine g_lstore dX7_cut_3 (by decide) ?_
  refine g_lload_n dX7_cut_5 rfl ?_
  refine g_lload_n dX7_cut_6 rfl ?_
  refine g_lrem dX7_cut_7 (by omega) (by omega) (by omega) ?_
  refine g_lconst (v := 0) dX7_cut_8 (by decide) ?_
  refine g_lcmp_eq (tgt := 26) dX7_cut_9 dX7_cut_10 (by decide) (by omega) (by omega) (fun h9 => ?_) (fun h9 => ?_)
  · refine g_lload dX7_cut_26 rfl ?_
    exact g_lret dX7_cut_28 trivial ⟨by congr 2; rw [e6]; split <;> omega, rfl⟩
  · refine g_lload_n dX7_cut_13 rfl ?_
    refine g_lconst (v := 0) dX7_cut_14 (by decide) ?_
    refine g_lcmp_ge (tgt := 26) dX7_cut_15 dX7_cut_16 (by decide) (by omega) (by omega) (fun h15 => ?_) (fun h15 => ?_)
    · refine g_lload dX7_cut_26 rfl ?_
      exact g_lret dX7_cut_28 trivial ⟨by congr 2; rw [e6]; split <;> omega, rfl⟩
    · refine g_lload dX7_cut_19 rfl ?_
      refine g_lconst (v := 1) dX7_cut_21 (by decide) ?_
      refine g_lsub dX7_cut_22 ?_
      refine g_goto (tgt := 28) dX7_cut_23 (by decide) ?_
      exact g_lret dX7_cut_28 trivial ⟨by congr 2; rw [e6]; split <;> omega, rfl⟩
end
section
/-! the calls: what is answered, and V behind it -/
def cBad : Int := -1000000001
def cNo : Int := -1000000002
def cFull : Int := -1000000003
def cNothing : Int := -1000000011
def cIndex : Int := -1000000013
abbrev isH (V : Mem) (k : Int) : Prop := 0 ≤ k ∧ k < V 0 0
abbrev isK (k : Int) : Prop := (0 ≤ k ∧ k ≤ 3) ∨ k = 5
def crsB (V : Mem) (s t : Int) : Bool := decide (leanK (V 1 s) ≠ 0 ∧ leanK (V 1 s) = leanK (V 1 t) ∧ ((t * 64 / V 0 0 - s * 64 / V 0 0) % 64 + hubV V t - hubV V s < 0 ∨ 64 < (t * 64 / V 0 0 - s * 64 / V 0 0) % 64 + hubV V t - hubV V s))
def p_wheel (V : Mem) (n : Int) : Int × Mem := if n = 8 ∨ n = 16 ∨ n = 32 then (n, whlV V n) else (cBad, V)
def p_kind (V : Mem) (s k : Int) : Int × Mem := if ¬ (isH V s ∧ isK k) then (cBad, V) else if V 1 s = 4 then (cNo, V) else (V 1 s, up V 1 s k)
def p_table (V : Mem) (t n : Int) : Int × Mem := if ¬ ((0 ≤ t ∧ t ≤ 5) ∧ (-1 ≤ n ∧ n ≤ 17)) then (cBad, V) else ((if n < 0 then 0 else n), tblV V t.toNat n)
def p_enter (V : Mem) (t p v : Int) : Int × Mem := if ¬ ((0 ≤ t ∧ t ≤ 5) ∧ (-1000 ≤ v ∧ v ≤ 1000)) then (cBad, V) else if V 7 t < 0 then (cNothing, V) else if ¬ (0 ≤ p ∧ p < V 7 t) then (cIndex, V) else (V (8 + t.toNat) p, up V (8 + t.toNat) p v)
def p_copy (V : Mem) (f t n : Int) : Int × Mem := if ¬ ((0 ≤ f ∧ f ≤ 5) ∧ (0 ≤ t ∧ t ≤ 5)) then (cBad, V) else if V 7 f < 0 ∨ V 7 t < 0 then (cNothing, V) else if ¬ (0 ≤ n ∧ n ≤ V 7 f ∧ n ≤ V 7 t) then (cIndex, V) else (n, cpyV V f.toNat t.toNat n)
def p_read (V : Mem) (r p v : Int) : Int × Mem := if ¬ ((0 ≤ r ∧ r ≤ 1) ∧ isH V p ∧ (-10000 ≤ v ∧ v ≤ 9999)) then (cBad, V) else (V (5 + r.toNat) p, up V (5 + r.toNat) p v)
def p_limit (V : Mem) (i v : Int) : Int × Mem := if ¬ ((0 ≤ i ∧ i ≤ 4) ∧ (1 ≤ v ∧ v ≤ 1000000)) then (cBad, V) else (V 14 i, up V 14 i v)
def p_tune (V : Mem) (s v : Int) : Int × Mem := if ¬ (isH V s ∧ (-100000 ≤ v ∧ v ≤ 100000)) then (cBad, V) else if V 1 s = 4 then (cNo, V) else (V 2 s, up V 2 s v)
def p_about (V : Mem) (s w : Int) : Int × Mem := if ¬ (isH V s ∧ (0 ≤ w ∧ w ≤ 3)) then (cBad, V) else ((if w = 0 then V 1 s else if w = 1 then leanK (V 1 s) else if w = 2 then forceK (V 1 s) else V 2 s), V)
def p_isOf (V : Mem) (s k : Int) : Int × Mem := if ¬ (isH V s ∧ (0 ≤ k ∧ k ≤ 5)) then (cBad, V) else (b2i (k = 0 ∨ V 1 s = k ∨ (k = 2 ∧ V 1 s = 3) ∨ (k = 1 ∧ V 1 s = 5)), V)
def p_tells (V : Mem) (t d : Int) : Int × Mem := if ¬ ((0 ≤ t ∧ t ≤ 5) ∧ (0 ≤ d ∧ d ≤ 16)) then (cBad, V) else (V (8 + t.toNat) d, V)
def p_unbent (V : Mem) (r p : Int) : Int × Mem := if ¬ ((0 ≤ r ∧ r ≤ 1) ∧ isH V p) then (cBad, V) else (unb V r.toNat p, V)
def p_reading (V : Mem) (r p : Int) : Int × Mem := if ¬ ((0 ≤ r ∧ r ≤ 1) ∧ isH V p) then (cBad, V) else (rdg V r.toNat p, V)
def p_state (V : Mem) (w : Int) : Int × Mem := ((if w = 0 then midV V else if w = 1 then sprV V 1 else if w = 2 then sprV V (-1) else if w = 3 then wstV V else if w = 4 then cntN (fun j => decide (V 2 j < 0)) (V 0 0).toNat else if w = 5 then b2i (fltV V = cNone) else cBad), V)
def p_why (V : Mem) : Int × Mem := (fltV V, V)
def p_turn (V : Mem) (s n : Int) : Int × Mem := if ¬ (isH V s ∧ (-100 ≤ n ∧ n ≤ 100) ∧ n ≠ 0) then (cBad, V) else if okV V s n = false then (cNo, V) else if V 17 0 = 60 then (cFull, V) else (mkV V s n 2 s, addV (mkV V s n) s n)
def p_next (V : Mem) : Int × Mem := (nqV V, V)
def p_plan (V : Mem) (n : Int) : Int × Mem := if ¬ (1 ≤ n ∧ n ≤ 60) then (cBad, V) else planV n.toNat V
def p_fewest (V : Mem) (w : Int) : Int × Mem := if ¬ (0 ≤ w ∧ w ≤ 4) then (cBad, V) else (fewV V w, V)
def p_log (V : Mem) (i w : Int) : Int × Mem := if i < 0 ∨ ¬ (0 ≤ w ∧ w ≤ 1) then (cBad, V) else if i < V 17 0 then ((if w = 0 then V 15 i else V 16 i), V) else (cNone, V)
def p_undo (V : Mem) : Int × Mem := if V 17 0 = 0 then (cNo, V) else (V 17 0 - 1, up (mkV V (V 15 (V 17 0 - 1)) (-V 16 (V 17 0 - 1))) 17 0 (V 17 0 - 1))
def p_snap (V : Mem) (s : Int) : Int × Mem := if ¬ isH V s then (cBad, V) else if V 1 s = 4 ∨ 0 ≤ brkBad V s then (cNo, V) else (V 2 s, brkV V s)
def p_anew (V : Mem) (s k v : Int) : Int × Mem := if ¬ (isH V s ∧ isK k ∧ (0 ≤ v ∧ v ≤ 100000)) then (cBad, V) else if V 1 s ≠ 4 then (cNo, V) else (0, up (up V 1 s k) 2 s v)
def p_loaded (V : Mem) (w p s : Int) : Int × Mem := if ¬ ((0 ≤ w ∧ w ≤ 100000) ∧ isH V p ∧ isH V s) then (cBad, V) else if V 1 s = 4 then (0, V) else (ldP V w p s, V)
def p_worstAt (V : Mem) (w : Int) : Int × Mem := if ¬ (0 ≤ w ∧ w ≤ 100000) then (cBad, V) else ((wrS V w (V 0 0).toNat).2, V)
def p_lace (V : Mem) (r o R c : Int) : Int × Mem := if ¬ ((1 ≤ r ∧ r ≤ 200) ∧ (0 ≤ o ∧ o ≤ 200) ∧ (1 ≤ R ∧ R ≤ 1000) ∧ (0 ≤ c ∧ c ≤ 7)) then (cBad, V) else (0, up (up (up (up V 18 0 r) 18 1 o) 18 2 R) 18 3 c)
def p_length (V : Mem) (s : Int) : Int × Mem := if ¬ isH V s then (cBad, V) else (rootV (sqV V s), V)
def p_hub (V : Mem) (s : Int) : Int × Mem := if ¬ isH V s then (cBad, V) else ((s * 64 / V 0 0 + hubV V s) % 64, V)
def p_crosses (V : Mem) (s t : Int) : Int × Mem := if ¬ (isH V s ∧ isH V t ∧ s ≠ t) then (cBad, V) else (b2i (crsB V s t = true), V)
def p_crossings (V : Mem) (s : Int) : Int × Mem := if ¬ isH V s then (cBad, V) else (cntN (fun t => decide (t ≠ s) && crsB V s t) (V 0 0).toNat, V)
def p_count (V : Mem) (w : Int) : Int × Mem := ((if w = 0 then V 0 0 else if w = 1 then cntN (fun j => decide (V 1 j ≠ 4)) (V 0 0).toNat else if w = 2 then V 17 0 else if w = 3 then sumN (fun i => ab (V 16 i)) (V 17 0).toNat else if w = 4 then cntN (fun p => decide (V 5 p ≠ -10000)) (V 0 0).toNat else if w = 5 then cntN (fun p => decide (V 6 p ≠ -10000)) (V 0 0).toNat else cBad), V)
/-- a contract of a call of the reference, of the class -/
abbrev OM (σ : Mem) (p : Int × Mem) : Option AV → Mem → Prop := fun r τ => r = some (aI p.1) ∧ RM p.2 τ ∧ keepM σ τ
abbrev OX (σ : Mem) (p : Int × Mem) : Option AV → Mem → Prop := fun r τ => r = some (aI p.1) ∧ RX p.2 τ ∧ keepX σ τ
theorem OM.of {σ τ : Mem} {p q : Int × Mem} {x : Int} (e : p = q) (hx : x = q.1) (h : RM q.2 τ) (k : keepM σ τ) : OM σ p (some (aI x)) τ := by subst e; subst hx; exact ⟨rfl, h, k⟩
theorem OX.of {σ τ : Mem} {p q : Int × Mem} {x : Int} (e : p = q) (hx : x = q.1) (h : RX q.2 τ) (k : keepX σ τ) : OX σ p (some (aI x)) τ := by subst e; subst hx; exact ⟨rfl, h, k⟩
/-! V changed at one place: what the cells hold then -/
theorem RM.kind' {V σ : Mem} {s k : Int} (h : RM V σ)  : RM (up V 1 s k) (up σ 31 s k) := by
  unfold RM at h ⊢
  obtain ⟨h1, h2, h3, h4, h5, h6, h7, h8, h9, h10⟩ := h
  refine ⟨by simpa (disch := omega) only [up_cell, unb] using h1,
    ?_,
    fun r hr j a b => by simpa (disch := omega) only [up_cell, unb] using h3 r hr j a (by simpa (disch := omega) only [up_cell] using b),
    fun t ht => by simpa (disch := omega) only [up_cell, unb] using h4 t ht,
    fun t ht d a b => by simpa (disch := omega) only [up_cell, unb] using h5 t ht d a b,
    fun i a b => by simpa (disch := omega) only [up_cell, unb] using h6 i a b,
    by simpa (disch := omega) only [up_cell, unb] using h7,
    fun i a b => by simpa (disch := omega) only [up_cell, unb] using h8 i a (by simpa (disch := omega) only [up_cell] using b),
    by simpa (disch := omega) only [up_cell, unb] using h9,
    h10.imp (fun e => by simpa (disch := omega) only [up_cell, unb] using e) (fun e => ⟨by simpa (disch := omega) only [up_cell, unb] using e.1, fun r hr p a b => by simpa (disch := omega) only [up_cell, unb] using e.2 r hr p a (by simpa (disch := omega) only [up_cell] using b)⟩)⟩
  · refine fun j a b => ⟨?_, by simpa (disch := omega) only [up_cell] using (h2 j a (by simpa (disch := omega) only [up_cell] using b)).2⟩
    by_cases hj : j = s
    · subst hj; rw [up_same, up_same]
    · rw [up_ne (Or.inr hj), up_ne (Or.inr hj)]; exact (h2 j a (by simpa (disch := omega) only [up_cell] using b)).1
theorem RM.pull' {V σ : Mem} {s k : Int} (h : RM V σ)  : RM (up V 2 s k) (up σ 32 s k) := by
  unfold RM at h ⊢
  obtain ⟨h1, h2, h3, h4, h5, h6, h7, h8, h9, h10⟩ := h
  refine ⟨by simpa (disch := omega) only [up_cell, unb] using h1,
    ?_,
    fun r hr j a b => by simpa (disch := omega) only [up_cell, unb] using h3 r hr j a (by simpa (disch := omega) only [up_cell] using b),
    fun t ht => by simpa (disch := omega) only [up_cell, unb] using h4 t ht,
    fun t ht d a b => by simpa (disch := omega) only [up_cell, unb] using h5 t ht d a b,
    fun i a b => by simpa (disch := omega) only [up_cell, unb] using h6 i a b,
    by simpa (disch := omega) only [up_cell, unb] using h7,
    fun i a b => by simpa (disch := omega) only [up_cell, unb] using h8 i a (by simpa (disch := omega) only [up_cell] using b),
    by simpa (disch := omega) only [up_cell, unb] using h9,
    h10.imp (fun e => by simpa (disch := omega) only [up_cell, unb] using e) (fun e => ⟨by simpa (disch := omega) only [up_cell, unb] using e.1, fun r hr p a b => by simpa (disch := omega) only [up_cell, unb] using e.2 r hr p a (by simpa (disch := omega) only [up_cell] using b)⟩)⟩
  · refine fun j a b => ⟨by simpa (disch := omega) only [up_cell] using (h2 j a (by simpa (disch := omega) only [up_cell] using b)).1, ?_⟩
    by_cases hj : j = s
    · subst hj; rw [up_same, up_same]
    · rw [up_ne (Or.inr hj), up_ne (Or.inr hj)]; exact (h2 j a (by simpa (disch := omega) only [up_cell] using b)).2
theorem RM.lim' {V σ : Mem} {s k : Int} (h : RM V σ)  : RM (up V 14 s k) (up σ 37 s k) := by
  unfold RM at h ⊢
  obtain ⟨h1, h2, h3, h4, h5, h6, h7, h8, h9, h10⟩ := h
  refine ⟨by simpa (disch := omega) only [up_cell, unb] using h1,
    fun j a b => by simpa (disch := omega) only [up_cell, unb] using h2 j a (by simpa (disch := omega) only [up_cell] using b),
    fun r hr j a b => by simpa (disch := omega) only [up_cell, unb] using h3 r hr j a (by simpa (disch := omega) only [up_cell] using b),
    fun t ht => by simpa (disch := omega) only [up_cell, unb] using h4 t ht,
    fun t ht d a b => by simpa (disch := omega) only [up_cell, unb] using h5 t ht d a b,
    ?_,
    by simpa (disch := omega) only [up_cell, unb] using h7,
    fun i a b => by simpa (disch := omega) only [up_cell, unb] using h8 i a (by simpa (disch := omega) only [up_cell] using b),
    by simpa (disch := omega) only [up_cell, unb] using h9,
    h10.imp (fun e => by simpa (disch := omega) only [up_cell, unb] using e) (fun e => ⟨by simpa (disch := omega) only [up_cell, unb] using e.1, fun r hr p a b => by simpa (disch := omega) only [up_cell, unb] using e.2 r hr p a (by simpa (disch := omega) only [up_cell] using b)⟩)⟩
  · intro j a b
    by_cases hj : j = s
    · subst hj; rw [up_same, up_same]
    · rw [up_ne (Or.inr hj), up_ne (Or.inr hj)]; exact h6 j a b
theorem RM.tab' {V σ : Mem} {t : Nat} {p k : Int} (h : RM V σ) (ht : t < 6) (hp : 0 ≤ p) (hp2 : p < 17) : RM (up V (8 + t) p k) (up σ 36 (17 * t + p) k) := by
  unfold RM at h ⊢
  obtain ⟨h1, h2, h3, h4, h5, h6, h7, h8, h9, h10⟩ := h
  refine ⟨by simpa (disch := omega) only [up_cell, unb] using h1,
    fun j a b => by simpa (disch := omega) only [up_cell, unb] using h2 j a (by simpa (disch := omega) only [up_cell] using b),
    fun r hr j a b => by simpa (disch := omega) only [up_cell, unb] using h3 r hr j a (by simpa (disch := omega) only [up_cell] using b),
    fun t ht => by simpa (disch := omega) only [up_cell, unb] using h4 t ht,
    ?_,
    fun i a b => by simpa (disch := omega) only [up_cell, unb] using h6 i a b,
    by simpa (disch := omega) only [up_cell, unb] using h7,
    fun i a b => by simpa (disch := omega) only [up_cell, unb] using h8 i a (by simpa (disch := omega) only [up_cell] using b),
    by simpa (disch := omega) only [up_cell, unb] using h9,
    h10.imp (fun e => by simpa (disch := omega) only [up_cell, unb] using e) (fun e => ⟨by simpa (disch := omega) only [up_cell, unb] using e.1, fun r hr p a b => by simpa (disch := omega) only [up_cell, unb] using e.2 r hr p a (by simpa (disch := omega) only [up_cell] using b)⟩)⟩
  · intro u hu d a b
    by_cases hj : u = t ∧ d = p
    · obtain ⟨rfl, rfl⟩ := hj; rw [up_same, up_same]
    · rw [up_ne (Or.inr (by omega)), up_ne (by omega)]; exact h5 u hu d a b
theorem RM.lac' {V σ : Mem} {r o R c : Int} (h : RM V σ)  : RM (up (up (up (up V 18 0 r) 18 1 o) 18 2 R) 18 3 c) (up (up (up (up σ 30 10 r) 30 11 o) 30 12 R) 30 13 c) := by
  unfold RM at h ⊢
  obtain ⟨h1, h2, h3, h4, h5, h6, h7, h8, h9, h10⟩ := h
  refine ⟨?_,
    fun j a b => by simpa (disch := omega) only [up_cell, unb] using h2 j a (by simpa (disch := omega) only [up_cell] using b),
    fun r hr j a b => by simpa (disch := omega) only [up_cell, unb] using h3 r hr j a (by simpa (disch := omega) only [up_cell] using b),
    fun t ht => by simpa (disch := omega) only [up_cell, unb] using h4 t ht,
    fun t ht d a b => by simpa (disch := omega) only [up_cell, unb] using h5 t ht d a b,
    fun i a b => by simpa (disch := omega) only [up_cell, unb] using h6 i a b,
    ?_,
    fun i a b => by simpa (disch := omega) only [up_cell, unb] using h8 i a (by simpa (disch := omega) only [up_cell] using b),
    ?_,
    ?_⟩
  · simpa [up] using h1
  · simpa [up] using h7
  · refine ⟨?_, ?_, ?_, ?_⟩ <;> simp [up]
  · refine h10.imp (fun e => by simpa [up] using e) (fun e => ⟨by simpa [up] using e.1, fun r hr p a b => by simpa (disch := omega) only [up_cell, unb] using e.2 r hr p a (by simpa (disch := omega) only [up_cell] using b)⟩)
theorem RM.read' {V σ : Mem} {r : Nat} {p k : Int} (h : RM V σ) (hN : V 0 0 ≤ 32) (hr : r < 2) (hp : 0 ≤ p) (hp2 : p < V 0 0) : RM (up V (5 + r) p k) (up (up σ 34 (32 * r + p) k) 30 15 0) := by
  unfold RM at h ⊢
  obtain ⟨h1, h2, h3, h4, h5, h6, h7, h8, h9, h10⟩ := h
  refine ⟨?_,
    fun j a b => by simpa (disch := omega) only [up_cell, unb] using h2 j a (by simpa (disch := omega) only [up_cell] using b),
    ?_,
    fun t ht => by simpa (disch := omega) only [up_cell, unb] using h4 t ht,
    fun t ht d a b => by simpa (disch := omega) only [up_cell, unb] using h5 t ht d a b,
    fun i a b => by simpa (disch := omega) only [up_cell, unb] using h6 i a b,
    ?_,
    fun i a b => by simpa (disch := omega) only [up_cell, unb] using h8 i a (by simpa (disch := omega) only [up_cell] using b),
    ?_,
    ?_⟩
  · rw [up_ne (Or.inr (by decide))]; simpa (disch := omega) only [up_cell] using h1
  · intro u hu j a b
    have b : j < V 0 0 := by simpa (disch := omega) only [up_cell] using b
    refine ⟨by simpa (disch := omega) only [up_cell] using (h3 u hu j a b).1, ?_⟩
    rw [up_cell (show 34 ≠ 30 by decide)]
    by_cases hj : u = r ∧ j = p
    · obtain ⟨rfl, rfl⟩ := hj; rw [up_same, up_same]
    · rw [up_ne (Or.inr (by omega)), up_ne (by omega)]; exact (h3 u hu j a b).2
  · rw [up_ne (Or.inr (by decide))]; simpa (disch := omega) only [up_cell] using h7
  · rw [up_cell (show 18 ≠ 5 + r by omega)]; simpa [up] using h9
  · left; rw [up_same]
end
section
theorem k_kind {b : Int} {V σ : Mem} (hi : Inv b V) (h : RM V σ) (s : Int) (k : Int) (i_s : i32 s) (i_k : i32 k)  : Ret 41 mX7_kind [aR 30, aI s, aI k] σ (OM σ (p_kind V s k)) := by
  refine Ret.of [some (aR 30), some (aI s), some (aI k), none] rfl (plainFor_of_name (by decide)) (Nat.le_of_ble_eq_true rfl) ?_
  have hN := hi.N
  refine g_aload_n dX7_kind_0 rfl ?_
  refine g_iload_n dX7_kind_1 rfl ?_
  refine g_pV1 dX7_kind_2 qX7_79 rfl (by decide) (by decide) (by decide) (c_isHole hi h _ (by omega)) ?_
  refine g_ifb_eq (tgt := 15) dX7_kind_5 (by decide) (fun h5 => ?_) (fun h5 => ?_)
  · refine g_ldc dX7_kind_15 kX7_78 ?_
    exact g_iret dX7_kind_17 trivial (OM.of (q := (cBad, V)) (by unfold p_kind; rw [if_pos (by omega)]) rfl h keepM.rfl)
  · refine g_iload_n dX7_kind_8 rfl ?_
    refine g_pS1 dX7_kind_9 sX7_82 (by decide) (by decide) (c_isKind _ (by omega)) ?_
    refine g_ifb_ne (tgt := 18) dX7_kind_12 (by decide) (fun h12 => ?_) (fun h12 => ?_)
    · refine g_aload_n dX7_kind_18 rfl ?_
      refine g_iload_n dX7_kind_19 rfl ?_
      refine g_pV1 dX7_kind_20 qX7_74 rfl (by decide) (by decide) (by decide) (c_isGone hi h _ (by omega) (by omega)) ?_
      refine g_ifb_eq (tgt := 29) dX7_kind_23 (by decide) (fun h23 => ?_) (fun h23 => ?_)
      · refine g_aload_n dX7_kind_29 rfl ?_
        refine g_getR dX7_kind_30 fX7_7 rfl rfl (by decide) ?_
        refine g_iload_n dX7_kind_33 rfl ?_
        refine g_iaload dX7_kind_34 rfl (by decide) (by omega) (by omega) (by decide) ?_
        rw [h.kind _ (by omega) (by omega)]
        refine g_istore_n (i := 3) dX7_kind_35 rfl (by decide) ?_
        refine g_aload_n dX7_kind_36 rfl ?_
        refine g_getR dX7_kind_37 fX7_7 rfl rfl (by decide) ?_
        refine g_iload_n dX7_kind_40 rfl ?_
        refine g_iload_n dX7_kind_41 rfl ?_
        refine g_iastore dX7_kind_42 rfl (by decide) (by decide) (by omega) (by omega) (by decide) ?_
        refine g_iload_n dX7_kind_43 rfl ?_
        exact g_iret dX7_kind_44 trivial (OM.of (q := (V 1 s, up V 1 s k)) (by unfold p_kind; rw [if_neg (by omega), if_neg (by omega)]) rfl h.kind' (keepM.rfl.up (by decide) (by decide)))
      · refine g_ldc dX7_kind_26 kX7_85 ?_
        exact g_iret dX7_kind_28 trivial (OM.of (q := (cNo, V)) (by unfold p_kind; rw [if_neg (by omega), if_pos (by omega)]) rfl h keepM.rfl)
    · refine g_ldc dX7_kind_15 kX7_78 ?_
      exact g_iret dX7_kind_17 trivial (OM.of (q := (cBad, V)) (by unfold p_kind; rw [if_pos (by omega)]) rfl h keepM.rfl)

theorem k_enter {b : Int} {V σ : Mem} (hi : Inv b V) (h : RM V σ) (t : Int) (p : Int) (v : Int) (i_t : i32 t) (i_p : i32 p) (i_v : i32 v)  : Ret 41 mX7_enter [aR 30, aI t, aI p, aI v] σ (OM σ (p_enter V t p v)) := by
  refine Ret.of [some (aR 30), some (aI t), some (aI p), some (aI v), none] rfl (plainFor_of_name (by decide)) (Nat.le_of_ble_eq_true rfl) ?_
  have hN := hi.N
  refine g_iload_n dX7_enter_0 rfl ?_
  refine g_iconst dX7_enter_1 ?_
  refine g_iconst dX7_enter_2 ?_
  refine g_pS3 dX7_enter_3 sX7_70 (by decide) (by decide) (c_isIn _ _ _ (by omega) (by omega) (by omega)) ?_
  refine g_ifb_eq (tgt := 22) dX7_enter_6 (by decide) (fun h6 => ?_) (fun h6 => ?_)
  · refine g_ldc dX7_enter_22 kX7_78 ?_
    exact g_iret dX7_enter_24 trivial (OM.of (q := (cBad, V)) (by unfold p_enter; rw [if_pos (by omega)]) rfl h keepM.rfl)
  · refine g_iload_n dX7_enter_9 rfl ?_
    refine g_sipush (v := -1000) dX7_enter_10 (by decide) ?_
    refine g_sipush (v := 1000) dX7_enter_13 (by decide) ?_
    refine g_pS3 dX7_enter_16 sX7_70 (by decide) (by decide) (c_isIn _ _ _ (by omega) (by omega) (by omega)) ?_
    refine g_ifb_ne (tgt := 25) dX7_enter_19 (by decide) (fun h19 => ?_) (fun h19 => ?_)
    · obtain ⟨u, rfl⟩ : ∃ u : Nat, t = u := ⟨t.toNat, by omega⟩
      have hu : u < 6 := by omega
      have hz := hi.size u hu
      refine g_aload_n dX7_enter_25 rfl ?_
      refine g_getR dX7_enter_26 fX7_23 rfl rfl (by decide) ?_
      refine g_iload_n dX7_enter_29 rfl ?_
      refine g_iaload dX7_enter_30 rfl (by decide) (by omega) (by omega) (by decide) ?_
      rw [h.size u hu]
      refine g_if_ge (tgt := 37) dX7_enter_31 (by decide) (by omega) (fun h31 => ?_) (fun h31 => ?_)
      · refine g_iload_n dX7_enter_37 rfl ?_
        refine g_iconst dX7_enter_38 ?_
        refine g_aload_n dX7_enter_39 rfl ?_
        refine g_getR dX7_enter_40 fX7_23 rfl rfl (by decide) ?_
        refine g_iload_n dX7_enter_43 rfl ?_
        refine g_iaload dX7_enter_44 rfl (by decide) (by omega) (by omega) (by decide) ?_
        rw [h.size u hu]
        refine g_iconst dX7_enter_45 ?_
        refine g_isub dX7_enter_46 ?_
        refine g_pS3 dX7_enter_47 sX7_70 (by decide) (by decide) (c_isIn _ _ _ (by omega) (by omega) (by omega)) ?_
        refine g_ifb_ne (tgt := 56) dX7_enter_50 (by decide) (fun h50 => ?_) (fun h50 => ?_)
        · refine g_aload_n dX7_enter_56 rfl ?_
          refine g_getR dX7_enter_57 fX7_26 rfl rfl (by decide) ?_
          refine g_bipush (v := 17) dX7_enter_60 (by decide) ?_
          refine g_iload_n dX7_enter_62 rfl ?_
          refine g_imul dX7_enter_63 ?_
          refine g_iload_n dX7_enter_64 rfl ?_
          refine g_iadd dX7_enter_65 ?_
          refine g_iaload dX7_enter_66 rfl (by decide) (by omega) (by omega) (by decide) ?_
          rw [h.tab u hu p (by omega) (by omega)]
          refine g_istore dX7_enter_67 (by decide) ?_
          refine g_aload_n dX7_enter_69 rfl ?_
          refine g_getR dX7_enter_70 fX7_26 rfl rfl (by decide) ?_
          refine g_bipush (v := 17) dX7_enter_73 (by decide) ?_
          refine g_iload_n dX7_enter_75 rfl ?_
          refine g_imul dX7_enter_76 ?_
          refine g_iload_n dX7_enter_77 rfl ?_
          refine g_iadd dX7_enter_78 ?_
          refine g_iload_n dX7_enter_79 rfl ?_
          refine g_iastore dX7_enter_80 rfl (by decide) (by decide) (by omega) (by omega) (by decide) ?_
          refine g_iload dX7_enter_81 rfl ?_
          exact g_iret dX7_enter_83 trivial (OM.of (q := (V (8 + u) p, up V (8 + u) p v)) (by unfold p_enter; rw [if_neg (by omega), if_neg (by omega), if_neg (by omega), Int.toNat_natCast]) rfl (h.tab' hu (by omega) (by omega)) (keepM.rfl.up (by decide) (by decide)))
        · refine g_ldc dX7_enter_53 kX7_87 ?_
          exact g_iret dX7_enter_55 trivial (OM.of (q := (cIndex, V)) (by unfold p_enter; rw [if_neg (by omega), if_neg (by omega), if_pos (by omega)]) rfl h keepM.rfl)
      · refine g_ldc dX7_enter_34 kX7_86 ?_
        exact g_iret dX7_enter_36 trivial (OM.of (q := (cNothing, V)) (by unfold p_enter; rw [if_neg (by omega), if_pos (by omega)]) rfl h keepM.rfl)
    · refine g_ldc dX7_enter_22 kX7_78 ?_
      exact g_iret dX7_enter_24 trivial (OM.of (q := (cBad, V)) (by unfold p_enter; rw [if_pos (by omega)]) rfl h keepM.rfl)

theorem k_read {b : Int} {V σ : Mem} (hi : Inv b V) (h : RM V σ) (r : Int) (p : Int) (v : Int) (i_r : i32 r) (i_p : i32 p) (i_v : i32 v)  : Ret 41 mX7_read [aR 30, aI r, aI p, aI v] σ (OM σ (p_read V r p v)) := by
  refine Ret.of [some (aR 30), some (aI r), some (aI p), some (aI v), none] rfl (plainFor_of_name (by decide)) (Nat.le_of_ble_eq_true rfl) ?_
  have hN := hi.N
  refine g_iload_n dX7_read_0 rfl ?_
  refine g_iconst dX7_read_1 ?_
  refine g_iconst dX7_read_2 ?_
  refine g_pS3 dX7_read_3 sX7_70 (by decide) (by decide) (c_isIn _ _ _ (by omega) (by omega) (by omega)) ?_
  refine g_ifb_eq (tgt := 30) dX7_read_6 (by decide) (fun h6 => ?_) (fun h6 => ?_)
  · refine g_ldc dX7_read_30 kX7_78 ?_
    exact g_iret dX7_read_32 trivial (OM.of (q := (cBad, V)) (by unfold p_read; rw [if_pos (by omega)]) rfl h keepM.rfl)
  · refine g_aload_n dX7_read_9 rfl ?_
    refine g_iload_n dX7_read_10 rfl ?_
    refine g_pV1 dX7_read_11 qX7_79 rfl (by decide) (by decide) (by decide) (c_isHole hi h _ (by omega)) ?_
    refine g_ifb_eq (tgt := 30) dX7_read_14 (by decide) (fun h14 => ?_) (fun h14 => ?_)
    · refine g_ldc dX7_read_30 kX7_78 ?_
      exact g_iret dX7_read_32 trivial (OM.of (q := (cBad, V)) (by unfold p_read; rw [if_pos (by omega)]) rfl h keepM.rfl)
    · refine g_iload_n dX7_read_17 rfl ?_
      refine g_sipush (v := -10000) dX7_read_18 (by decide) ?_
      refine g_sipush (v := 9999) dX7_read_21 (by decide) ?_
      refine g_pS3 dX7_read_24 sX7_70 (by decide) (by decide) (c_isIn _ _ _ (by omega) (by omega) (by omega)) ?_
      refine g_ifb_ne (tgt := 33) dX7_read_27 (by decide) (fun h27 => ?_) (fun h27 => ?_)
      · obtain ⟨u, rfl⟩ : ∃ u : Nat, r = u := ⟨r.toNat, by omega⟩
        have hu : u < 2 := by omega
        refine g_aload_n dX7_read_33 rfl ?_
        refine g_getR dX7_read_34 fX7_20 rfl rfl (by decide) ?_
        refine g_bipush (v := 32) dX7_read_37 (by decide) ?_
        refine g_iload_n dX7_read_39 rfl ?_
        refine g_imul dX7_read_40 ?_
        refine g_iload_n dX7_read_41 rfl ?_
        refine g_iadd dX7_read_42 ?_
        refine g_iaload dX7_read_43 rfl (by decide) (by omega) (by omega) (by decide) ?_
        rw [h.read u hu p (by omega) (by omega)]
        refine g_istore dX7_read_44 (by decide) ?_
        refine g_aload_n dX7_read_46 rfl ?_
        refine g_getR dX7_read_47 fX7_20 rfl rfl (by decide) ?_
        refine g_bipush (v := 32) dX7_read_50 (by decide) ?_
        refine g_iload_n dX7_read_52 rfl ?_
        refine g_imul dX7_read_53 ?_
        refine g_iload_n dX7_read_54 rfl ?_
        refine g_iadd dX7_read_55 ?_
        refine g_iload_n dX7_read_56 rfl ?_
        refine g_iastore dX7_read_57 rfl (by decide) (by decide) (by omega) (by omega) (by decide) ?_
        refine g_aload_n dX7_read_58 rfl ?_
        refine g_iconst dX7_read_59 ?_
        refine g_putZ (ji := 15) rfl dX7_read_60 vX7_66 rfl rfl (by decide) (by decide) (by omega) ?_
        refine g_iload dX7_read_63 rfl ?_
        exact g_iret dX7_read_65 trivial (OM.of (q := (V (5 + u) p, up V (5 + u) p v)) (by unfold p_read; rw [if_neg (by omega), Int.toNat_natCast]) rfl (h.read' (by omega) hu (by omega) (by omega)) ((keepM.rfl.up (by decide) (by decide)).up (by decide) (by decide)))
      · refine g_ldc dX7_read_30 kX7_78 ?_
        exact g_iret dX7_read_32 trivial (OM.of (q := (cBad, V)) (by unfold p_read; rw [if_pos (by omega)]) rfl h keepM.rfl)

theorem k_limit {b : Int} {V σ : Mem} (hi : Inv b V) (h : RM V σ) (i : Int) (v : Int) (i_i : i32 i) (i_v : i32 v)  : Ret 41 mX7_limit [aR 30, aI i, aI v] σ (OM σ (p_limit V i v)) := by
  refine Ret.of [some (aR 30), some (aI i), some (aI v), none] rfl (plainFor_of_name (by decide)) (Nat.le_of_ble_eq_true rfl) ?_
  have hN := hi.N
  refine g_iload_n dX7_limit_0 rfl ?_
  refine g_iconst dX7_limit_1 ?_
  refine g_iconst dX7_limit_2 ?_
  refine g_pS3 dX7_limit_3 sX7_70 (by decide) (by decide) (c_isIn _ _ _ (by omega) (by omega) (by omega)) ?_
  refine g_ifb_eq (tgt := 19) dX7_limit_6 (by decide) (fun h6 => ?_) (fun h6 => ?_)
  · refine g_ldc dX7_limit_19 kX7_78 ?_
    exact g_iret dX7_limit_21 trivial (OM.of (q := (cBad, V)) (by unfold p_limit; rw [if_pos (by omega)]) rfl h keepM.rfl)
  · refine g_iload_n dX7_limit_9 rfl ?_
    refine g_iconst dX7_limit_10 ?_
    refine g_ldc dX7_limit_11 kX7_88 ?_
    refine g_pS3 dX7_limit_13 sX7_70 (by decide) (by decide) (c_isIn _ _ _ (by omega) (by omega) (by omega)) ?_
    refine g_ifb_ne (tgt := 22) dX7_limit_16 (by decide) (fun h16 => ?_) (fun h16 => ?_)
    · refine g_aload_n dX7_limit_22 rfl ?_
      refine g_getR dX7_limit_23 fX7_29 rfl rfl (by decide) ?_
      refine g_iload_n dX7_limit_26 rfl ?_
      refine g_iaload dX7_limit_27 rfl (by decide) (by omega) (by omega) (by decide) ?_
      rw [h.lim _ (by omega) (by omega)]
      refine g_istore_n (i := 3) dX7_limit_28 rfl (by decide) ?_
      refine g_aload_n dX7_limit_29 rfl ?_
      refine g_getR dX7_limit_30 fX7_29 rfl rfl (by decide) ?_
      refine g_iload_n dX7_limit_33 rfl ?_
      refine g_iload_n dX7_limit_34 rfl ?_
      refine g_iastore dX7_limit_35 rfl (by decide) (by decide) (by omega) (by omega) (by decide) ?_
      refine g_iload_n dX7_limit_36 rfl ?_
      exact g_iret dX7_limit_37 trivial (OM.of (q := (V 14 i, up V 14 i v)) (by unfold p_limit; rw [if_neg (by omega)]) rfl h.lim' (keepM.rfl.up (by decide) (by decide)))
    · refine g_ldc dX7_limit_19 kX7_78 ?_
      exact g_iret dX7_limit_21 trivial (OM.of (q := (cBad, V)) (by unfold p_limit; rw [if_pos (by omega)]) rfl h keepM.rfl)

theorem k_tune {b : Int} {V σ : Mem} (hi : Inv b V) (h : RM V σ) (s : Int) (v : Int) (i_s : i32 s) (i_v : i32 v)  : Ret 41 mX7_tune [aR 30, aI s, aI v] σ (OM σ (p_tune V s v)) := by
  refine Ret.of [some (aR 30), some (aI s), some (aI v), none] rfl (plainFor_of_name (by decide)) (Nat.le_of_ble_eq_true rfl) ?_
  have hN := hi.N
  refine g_aload_n dX7_tune_0 rfl ?_
  refine g_iload_n dX7_tune_1 rfl ?_
  refine g_pV1 dX7_tune_2 qX7_79 rfl (by decide) (by decide) (by decide) (c_isHole hi h _ (by omega)) ?_
  refine g_ifb_eq (tgt := 19) dX7_tune_5 (by decide) (fun h5 => ?_) (fun h5 => ?_)
  · refine g_ldc dX7_tune_19 kX7_78 ?_
    exact g_iret dX7_tune_21 trivial (OM.of (q := (cBad, V)) (by unfold p_tune; rw [if_pos (by omega)]) rfl h keepM.rfl)
  · refine g_iload_n dX7_tune_8 rfl ?_
    refine g_ldc dX7_tune_9 kX7_89 ?_
    refine g_ldc dX7_tune_11 kX7_90 ?_
    refine g_pS3 dX7_tune_13 sX7_70 (by decide) (by decide) (c_isIn _ _ _ (by omega) (by omega) (by omega)) ?_
    refine g_ifb_ne (tgt := 22) dX7_tune_16 (by decide) (fun h16 => ?_) (fun h16 => ?_)
    · refine g_aload_n dX7_tune_22 rfl ?_
      refine g_iload_n dX7_tune_23 rfl ?_
      refine g_pV1 dX7_tune_24 qX7_74 rfl (by decide) (by decide) (by decide) (c_isGone hi h _ (by omega) (by omega)) ?_
      refine g_ifb_eq (tgt := 33) dX7_tune_27 (by decide) (fun h27 => ?_) (fun h27 => ?_)
      · refine g_aload_n dX7_tune_33 rfl ?_
        refine g_getR dX7_tune_34 fX7_13 rfl rfl (by decide) ?_
        refine g_iload_n dX7_tune_37 rfl ?_
        refine g_laload dX7_tune_38 rfl (by decide) (by omega) (by omega) (by decide) ?_
        rw [h.pull _ (by omega) (by omega)]
        refine g_l2i dX7_tune_39 ?_
        refine g_istore_n (i := 3) dX7_tune_40 rfl (by decide) ?_
        refine g_aload_n dX7_tune_41 rfl ?_
        refine g_getR dX7_tune_42 fX7_13 rfl rfl (by decide) ?_
        refine g_iload_n dX7_tune_45 rfl ?_
        refine g_iload_n dX7_tune_46 rfl ?_
        refine g_i2l dX7_tune_47 (by omega) ?_
        refine g_lastore dX7_tune_48 rfl (by decide) (by decide) (by omega) (by omega) (by decide) ?_
        refine g_iload_n dX7_tune_49 rfl ?_
        exact g_iret dX7_tune_50 trivial (OM.of (q := (V 2 s, up V 2 s v)) (by unfold p_tune; rw [if_neg (by omega), if_neg (by omega)]) rfl h.pull' (keepM.rfl.up (by decide) (by decide)))
      · refine g_ldc dX7_tune_30 kX7_85 ?_
        exact g_iret dX7_tune_32 trivial (OM.of (q := (cNo, V)) (by unfold p_tune; rw [if_neg (by omega), if_pos (by omega)]) rfl h keepM.rfl)
    · refine g_ldc dX7_tune_19 kX7_78 ?_
      exact g_iret dX7_tune_21 trivial (OM.of (q := (cBad, V)) (by unfold p_tune; rw [if_pos (by omega)]) rfl h keepM.rfl)

theorem k_about {b : Int} {V σ : Mem} (hi : Inv b V) (h : RM V σ) (s : Int) (w : Int) (i_s : i32 s) (i_w : i32 w)  : Ret 41 mX7_about [aR 30, aI s, aI w] σ (OM σ (p_about V s w)) := by
  refine Ret.of [some (aR 30), some (aI s), some (aI w)] rfl (plainFor_of_name (by decide)) (Nat.le_of_ble_eq_true rfl) ?_
  have hN := hi.N
  refine g_aload_n dX7_about_0 rfl ?_
  refine g_iload_n dX7_about_1 rfl ?_
  refine g_pV1 dX7_about_2 qX7_79 rfl (by decide) (by decide) (by decide) (c_isHole hi h _ (by omega)) ?_
  refine g_ifb_eq (tgt := 17) dX7_about_5 (by decide) (fun h5 => ?_) (fun h5 => ?_)
  · refine g_ldc dX7_about_17 kX7_78 ?_
    exact g_iret dX7_about_19 trivial (OM.of (q := (cBad, V)) (by unfold p_about; rw [if_pos (by omega)]) rfl h keepM.rfl)
  · refine g_iload_n dX7_about_8 rfl ?_
    refine g_iconst dX7_about_9 ?_
    refine g_iconst dX7_about_10 ?_
    refine g_pS3 dX7_about_11 sX7_70 (by decide) (by decide) (c_isIn _ _ _ (by omega) (by omega) (by omega)) ?_
    refine g_ifb_ne (tgt := 20) dX7_about_14 (by decide) (fun h14 => ?_) (fun h14 => ?_)
    · refine g_iload_n dX7_about_20 rfl ?_
      refine g_if_ne (tgt := 33) dX7_about_21 (by decide) (by omega) (fun h21 => ?_) (fun h21 => ?_)
      · refine g_iload_n dX7_about_33 rfl ?_
        refine g_iconst dX7_about_34 ?_
        refine g_icmp_ne (tgt := 46) dX7_about_35 (by decide) (by omega) (by omega) (fun h35 => ?_) (fun h35 => ?_)
        · refine g_iload_n dX7_about_46 rfl ?_
          refine g_iconst dX7_about_47 ?_
          refine g_icmp_ne (tgt := 59) dX7_about_48 (by decide) (by omega) (by omega) (fun h48 => ?_) (fun h48 => ?_)
          · refine g_aload_n dX7_about_59 rfl ?_
            refine g_getR dX7_about_60 fX7_13 rfl rfl (by decide) ?_
            refine g_iload_n dX7_about_63 rfl ?_
            refine g_laload dX7_about_64 rfl (by decide) (by omega) (by omega) (by decide) ?_
            rw [h.pull _ (by omega) (by omega)]
            refine g_l2i dX7_about_65 ?_
            exact g_iret dX7_about_66 trivial (by first | exact (OM.of (q := (V 1 s, V)) (by unfold p_about; rw [if_neg (by omega), if_pos (by omega)]) rfl h keepM.rfl) | exact (OM.of (q := (leanK (V 1 s), V)) (by unfold p_about; rw [if_neg (by omega), if_neg (by omega), if_pos (by omega)]) rfl h keepM.rfl) | exact (OM.of (q := (forceK (V 1 s), V)) (by unfold p_about; rw [if_neg (by omega), if_neg (by omega), if_neg (by omega), if_pos (by omega)]) rfl h keepM.rfl) | exact (OM.of (q := (V 2 s, V)) (by unfold p_about; rw [if_neg (by omega), if_neg (by omega), if_neg (by omega), if_neg (by omega)]) rfl h keepM.rfl))
          · refine g_aload_n dX7_about_51 rfl ?_
            refine g_iload_n dX7_about_52 rfl ?_
            refine g_pV1 dX7_about_53 qX7_95 rfl (by decide) (by decide) (by decide) (c_force hi h _ (by omega) (by omega)) ?_
            refine g_goto (tgt := 66) dX7_about_56 (by decide) ?_
            exact g_iret dX7_about_66 trivial (by first | exact (OM.of (q := (V 1 s, V)) (by unfold p_about; rw [if_neg (by omega), if_pos (by omega)]) rfl h keepM.rfl) | exact (OM.of (q := (leanK (V 1 s), V)) (by unfold p_about; rw [if_neg (by omega), if_neg (by omega), if_pos (by omega)]) rfl h keepM.rfl) | exact (OM.of (q := (forceK (V 1 s), V)) (by unfold p_about; rw [if_neg (by omega), if_neg (by omega), if_neg (by omega), if_pos (by omega)]) rfl h keepM.rfl) | exact (OM.of (q := (V 2 s, V)) (by unfold p_about; rw [if_neg (by omega), if_neg (by omega), if_neg (by omega), if_neg (by omega)]) rfl h keepM.rfl))
        · refine g_aload_n dX7_about_38 rfl ?_
          refine g_iload_n dX7_about_39 rfl ?_
          refine g_pV1 dX7_about_40 qX7_91 rfl (by decide) (by decide) (by decide) (c_leans hi h _ (by omega) (by omega)) ?_
          refine g_goto (tgt := 66) dX7_about_43 (by decide) ?_
          exact g_iret dX7_about_66 trivial (by first | exact (OM.of (q := (V 1 s, V)) (by unfold p_about; rw [if_neg (by omega), if_pos (by omega)]) rfl h keepM.rfl) | exact (OM.of (q := (leanK (V 1 s), V)) (by unfold p_about; rw [if_neg (by omega), if_neg (by omega), if_pos (by omega)]) rfl h keepM.rfl) | exact (OM.of (q := (forceK (V 1 s), V)) (by unfold p_about; rw [if_neg (by omega), if_neg (by omega), if_neg (by omega), if_pos (by omega)]) rfl h keepM.rfl) | exact (OM.of (q := (V 2 s, V)) (by unfold p_about; rw [if_neg (by omega), if_neg (by omega), if_neg (by omega), if_neg (by omega)]) rfl h keepM.rfl))
      · refine g_aload_n dX7_about_24 rfl ?_
        refine g_getR dX7_about_25 fX7_7 rfl rfl (by decide) ?_
        refine g_iload_n dX7_about_28 rfl ?_
        refine g_iaload dX7_about_29 rfl (by decide) (by omega) (by omega) (by decide) ?_
        rw [h.kind _ (by omega) (by omega)]
        refine g_goto (tgt := 66) dX7_about_30 (by decide) ?_
        exact g_iret dX7_about_66 trivial (by first | exact (OM.of (q := (V 1 s, V)) (by unfold p_about; rw [if_neg (by omega), if_pos (by omega)]) rfl h keepM.rfl) | exact (OM.of (q := (leanK (V 1 s), V)) (by unfold p_about; rw [if_neg (by omega), if_neg (by omega), if_pos (by omega)]) rfl h keepM.rfl) | exact (OM.of (q := (forceK (V 1 s), V)) (by unfold p_about; rw [if_neg (by omega), if_neg (by omega), if_neg (by omega), if_pos (by omega)]) rfl h keepM.rfl) | exact (OM.of (q := (V 2 s, V)) (by unfold p_about; rw [if_neg (by omega), if_neg (by omega), if_neg (by omega), if_neg (by omega)]) rfl h keepM.rfl))
    · refine g_ldc dX7_about_17 kX7_78 ?_
      exact g_iret dX7_about_19 trivial (OM.of (q := (cBad, V)) (by unfold p_about; rw [if_pos (by omega)]) rfl h keepM.rfl)

theorem k_isOf {b : Int} {V σ : Mem} (hi : Inv b V) (h : RM V σ) (s : Int) (k : Int) (i_s : i32 s) (i_k : i32 k)  : Ret 41 mX7_isOf [aR 30, aI s, aI k] σ (OM σ (p_isOf V s k)) := by
  refine Ret.of [some (aR 30), some (aI s), some (aI k), none, none] rfl (plainFor_of_name (by decide)) (Nat.le_of_ble_eq_true rfl) ?_
  have hN := hi.N
  refine g_aload_n dX7_isOf_0 rfl ?_
  refine g_iload_n dX7_isOf_1 rfl ?_
  refine g_pV1 dX7_isOf_2 qX7_79 rfl (by decide) (by decide) (by decide) (c_isHole hi h _ (by omega)) ?_
  refine g_ifb_eq (tgt := 17) dX7_isOf_5 (by decide) (fun h5 => ?_) (fun h5 => ?_)
  · refine g_ldc dX7_isOf_17 kX7_78 ?_
    exact g_iret dX7_isOf_19 trivial (OM.of (q := (cBad, V)) (by unfold p_isOf; rw [if_pos (by omega)]) rfl h keepM.rfl)
  · refine g_iload_n dX7_isOf_8 rfl ?_
    refine g_iconst dX7_isOf_9 ?_
    refine g_iconst dX7_isOf_10 ?_
    refine g_pS3 dX7_isOf_11 sX7_70 (by decide) (by decide) (c_isIn _ _ _ (by omega) (by omega) (by omega)) ?_
    refine g_ifb_ne (tgt := 20) dX7_isOf_14 (by decide) (fun h14 => ?_) (fun h14 => ?_)
    · refine g_aload_n dX7_isOf_20 rfl ?_
      refine g_getR dX7_isOf_21 fX7_7 rfl rfl (by decide) ?_
      refine g_iload_n dX7_isOf_24 rfl ?_
      refine g_iaload dX7_isOf_25 rfl (by decide) (by omega) (by omega) (by decide) ?_
      rw [h.kind _ (by omega) (by omega)]
      refine g_istore_n (i := 3) dX7_isOf_26 rfl (by decide) ?_
      have hk := hi.kind s (by omega) (by omega)
      refine g_iload_n dX7_isOf_27 rfl ?_
      refine g_if_eq (tgt := 56) dX7_isOf_28 (by decide) (by omega) (fun h28 => ?_) (fun h28 => ?_)
      · refine g_iconst dX7_isOf_56 ?_
        refine g_goto (tgt := 61) dX7_isOf_57 (by decide) ?_
        refine g_istore dX7_isOf_61 (by decide) ?_
        refine g_iload dX7_isOf_63 rfl ?_
        refine g_if_eq (tgt := 72) dX7_isOf_65 (by decide) (by omega) (fun h65 => ?_) (fun h65 => ?_)
        · refine g_iconst dX7_isOf_72 ?_
          exact g_iret dX7_isOf_73 trivial (by first | exact (OM.of (q := (1, V)) (by unfold p_isOf; rw [if_neg (by omega), b2i_1 (by omega)]) rfl h keepM.rfl) | exact (OM.of (q := (0, V)) (by unfold p_isOf; rw [if_neg (by omega), b2i_0 (by omega)]) rfl h keepM.rfl))
        · refine g_iconst dX7_isOf_68 ?_
          refine g_goto (tgt := 73) dX7_isOf_69 (by decide) ?_
          exact g_iret dX7_isOf_73 trivial (by first | exact (OM.of (q := (1, V)) (by unfold p_isOf; rw [if_neg (by omega), b2i_1 (by omega)]) rfl h keepM.rfl) | exact (OM.of (q := (0, V)) (by unfold p_isOf; rw [if_neg (by omega), b2i_0 (by omega)]) rfl h keepM.rfl))
      · refine g_iload_n dX7_isOf_31 rfl ?_
        refine g_iload_n dX7_isOf_32 rfl ?_
        refine g_icmp_eq (tgt := 56) dX7_isOf_33 (by decide) (by omega) (by omega) (fun h33 => ?_) (fun h33 => ?_)
        · refine g_iconst dX7_isOf_56 ?_
          refine g_goto (tgt := 61) dX7_isOf_57 (by decide) ?_
          refine g_istore dX7_isOf_61 (by decide) ?_
          refine g_iload dX7_isOf_63 rfl ?_
          refine g_if_eq (tgt := 72) dX7_isOf_65 (by decide) (by omega) (fun h65 => ?_) (fun h65 => ?_)
          · refine g_iconst dX7_isOf_72 ?_
            exact g_iret dX7_isOf_73 trivial (by first | exact (OM.of (q := (1, V)) (by unfold p_isOf; rw [if_neg (by omega), b2i_1 (by omega)]) rfl h keepM.rfl) | exact (OM.of (q := (0, V)) (by unfold p_isOf; rw [if_neg (by omega), b2i_0 (by omega)]) rfl h keepM.rfl))
          · refine g_iconst dX7_isOf_68 ?_
            refine g_goto (tgt := 73) dX7_isOf_69 (by decide) ?_
            exact g_iret dX7_isOf_73 trivial (by first | exact (OM.of (q := (1, V)) (by unfold p_isOf; rw [if_neg (by omega), b2i_1 (by omega)]) rfl h keepM.rfl) | exact (OM.of (q := (0, V)) (by unfold p_isOf; rw [if_neg (by omega), b2i_0 (by omega)]) rfl h keepM.rfl))
        · refine g_iload_n dX7_isOf_36 rfl ?_
          refine g_iconst dX7_isOf_37 ?_
          refine g_icmp_ne (tgt := 46) dX7_isOf_38 (by decide) (by omega) (by omega) (fun h38 => ?_) (fun h38 => ?_)
          · refine g_iload_n dX7_isOf_46 rfl ?_
            refine g_iconst dX7_isOf_47 ?_
            refine g_icmp_ne (tgt := 60) dX7_isOf_48 (by decide) (by omega) (by omega) (fun h48 => ?_) (fun h48 => ?_)
            · refine g_iconst dX7_isOf_60 ?_
              refine g_istore dX7_isOf_61 (by decide) ?_
              refine g_iload dX7_isOf_63 rfl ?_
              refine g_if_eq (tgt := 72) dX7_isOf_65 (by decide) (by omega) (fun h65 => ?_) (fun h65 => ?_)
              · refine g_iconst dX7_isOf_72 ?_
                exact g_iret dX7_isOf_73 trivial (by first | exact (OM.of (q := (1, V)) (by unfold p_isOf; rw [if_neg (by omega), b2i_1 (by omega)]) rfl h keepM.rfl) | exact (OM.of (q := (0, V)) (by unfold p_isOf; rw [if_neg (by omega), b2i_0 (by omega)]) rfl h keepM.rfl))
              · refine g_iconst dX7_isOf_68 ?_
                refine g_goto (tgt := 73) dX7_isOf_69 (by decide) ?_
                exact g_iret dX7_isOf_73 trivial (by first | exact (OM.of (q := (1, V)) (by unfold p_isOf; rw [if_neg (by omega), b2i_1 (by omega)]) rfl h keepM.rfl) | exact (OM.of (q := (0, V)) (by unfold p_isOf; rw [if_neg (by omega), b2i_0 (by omega)]) rfl h keepM.rfl))
            · refine g_iload_n dX7_isOf_51 rfl ?_
              refine g_iconst dX7_isOf_52 ?_
              refine g_icmp_ne (tgt := 60) dX7_isOf_53 (by decide) (by omega) (by omega) (fun h53 => ?_) (fun h53 => ?_)
              · refine g_iconst dX7_isOf_60 ?_
                refine g_istore dX7_isOf_61 (by decide) ?_
                refine g_iload dX7_isOf_63 rfl ?_
                refine g_if_eq (tgt := 72) dX7_isOf_65 (by decide) (by omega) (fun h65 => ?_) (fun h65 => ?_)
                · refine g_iconst dX7_isOf_72 ?_
                  exact g_iret dX7_isOf_73 trivial (by first | exact (OM.of (q := (1, V)) (by unfold p_isOf; rw [if_neg (by omega), b2i_1 (by omega)]) rfl h keepM.rfl) | exact (OM.of (q := (0, V)) (by unfold p_isOf; rw [if_neg (by omega), b2i_0 (by omega)]) rfl h keepM.rfl))
                · refine g_iconst dX7_isOf_68 ?_
                  refine g_goto (tgt := 73) dX7_isOf_69 (by decide) ?_
                  exact g_iret dX7_isOf_73 trivial (by first | exact (OM.of (q := (1, V)) (by unfold p_isOf; rw [if_neg (by omega), b2i_1 (by omega)]) rfl h keepM.rfl) | exact (OM.of (q := (0, V)) (by unfold p_isOf; rw [if_neg (by omega), b2i_0 (by omega)]) rfl h keepM.rfl))
              · refine g_iconst dX7_isOf_56 ?_
                refine g_goto (tgt := 61) dX7_isOf_57 (by decide) ?_
                refine g_istore dX7_isOf_61 (by decide) ?_
                refine g_iload dX7_isOf_63 rfl ?_
                refine g_if_eq (tgt := 72) dX7_isOf_65 (by decide) (by omega) (fun h65 => ?_) (fun h65 => ?_)
                · refine g_iconst dX7_isOf_72 ?_
                  exact g_iret dX7_isOf_73 trivial (by first | exact (OM.of (q := (1, V)) (by unfold p_isOf; rw [if_neg (by omega), b2i_1 (by omega)]) rfl h keepM.rfl) | exact (OM.of (q := (0, V)) (by unfold p_isOf; rw [if_neg (by omega), b2i_0 (by omega)]) rfl h keepM.rfl))
                · refine g_iconst dX7_isOf_68 ?_
                  refine g_goto (tgt := 73) dX7_isOf_69 (by decide) ?_
                  exact g_iret dX7_isOf_73 trivial (by first | exact (OM.of (q := (1, V)) (by unfold p_isOf; rw [if_neg (by omega), b2i_1 (by omega)]) rfl h keepM.rfl) | exact (OM.of (q := (0, V)) (by unfold p_isOf; rw [if_neg (by omega), b2i_0 (by omega)]) rfl h keepM.rfl))
          · refine g_iload_n dX7_isOf_41 rfl ?_
            refine g_iconst dX7_isOf_42 ?_
            refine g_icmp_eq (tgt := 56) dX7_isOf_43 (by decide) (by omega) (by omega) (fun h43 => ?_) (fun h43 => ?_)
            · refine g_iconst dX7_isOf_56 ?_
              refine g_goto (tgt := 61) dX7_isOf_57 (by decide) ?_
              refine g_istore dX7_isOf_61 (by decide) ?_
              refine g_iload dX7_isOf_63 rfl ?_
              refine g_if_eq (tgt := 72) dX7_isOf_65 (by decide) (by omega) (fun h65 => ?_) (fun h65 => ?_)
              · refine g_iconst dX7_isOf_72 ?_
                exact g_iret dX7_isOf_73 trivial (by first | exact (OM.of (q := (1, V)) (by unfold p_isOf; rw [if_neg (by omega), b2i_1 (by omega)]) rfl h keepM.rfl) | exact (OM.of (q := (0, V)) (by unfold p_isOf; rw [if_neg (by omega), b2i_0 (by omega)]) rfl h keepM.rfl))
              · refine g_iconst dX7_isOf_68 ?_
                refine g_goto (tgt := 73) dX7_isOf_69 (by decide) ?_
                exact g_iret dX7_isOf_73 trivial (by first | exact (OM.of (q := (1, V)) (by unfold p_isOf; rw [if_neg (by omega), b2i_1 (by omega)]) rfl h keepM.rfl) | exact (OM.of (q := (0, V)) (by unfold p_isOf; rw [if_neg (by omega), b2i_0 (by omega)]) rfl h keepM.rfl))
            · refine g_iload_n dX7_isOf_46 rfl ?_
              refine g_iconst dX7_isOf_47 ?_
              refine g_icmp_ne (tgt := 60) dX7_isOf_48 (by decide) (by omega) (by omega) (fun h48 => ?_) (fun h48 => ?_)
              · refine g_iconst dX7_isOf_60 ?_
                refine g_istore dX7_isOf_61 (by decide) ?_
                refine g_iload dX7_isOf_63 rfl ?_
                refine g_if_eq (tgt := 72) dX7_isOf_65 (by decide) (by omega) (fun h65 => ?_) (fun h65 => ?_)
                · refine g_iconst dX7_isOf_72 ?_
                  exact g_iret dX7_isOf_73 trivial (by first | exact (OM.of (q := (1, V)) (by unfold p_isOf; rw [if_neg (by omega), b2i_1 (by omega)]) rfl h keepM.rfl) | exact (OM.of (q := (0, V)) (by unfold p_isOf; rw [if_neg (by omega), b2i_0 (by omega)]) rfl h keepM.rfl))
                · refine g_iconst dX7_isOf_68 ?_
                  refine g_goto (tgt := 73) dX7_isOf_69 (by decide) ?_
                  exact g_iret dX7_isOf_73 trivial (by first | exact (OM.of (q := (1, V)) (by unfold p_isOf; rw [if_neg (by omega), b2i_1 (by omega)]) rfl h keepM.rfl) | exact (OM.of (q := (0, V)) (by unfold p_isOf; rw [if_neg (by omega), b2i_0 (by omega)]) rfl h keepM.rfl))
              · refine g_iload_n dX7_isOf_51 rfl ?_
                refine g_iconst dX7_isOf_52 ?_
                refine g_icmp_ne (tgt := 60) dX7_isOf_53 (by decide) (by omega) (by omega) (fun h53 => ?_) (fun h53 => ?_)
                · refine g_iconst dX7_isOf_60 ?_
                  refine g_istore dX7_isOf_61 (by decide) ?_
                  refine g_iload dX7_isOf_63 rfl ?_
                  refine g_if_eq (tgt := 72) dX7_isOf_65 (by decide) (by omega) (fun h65 => ?_) (fun h65 => ?_)
                  · refine g_iconst dX7_isOf_72 ?_
                    exact g_iret dX7_isOf_73 trivial (by first | exact (OM.of (q := (1, V)) (by unfold p_isOf; rw [if_neg (by omega), b2i_1 (by omega)]) rfl h keepM.rfl) | exact (OM.of (q := (0, V)) (by unfold p_isOf; rw [if_neg (by omega), b2i_0 (by omega)]) rfl h keepM.rfl))
                  · refine g_iconst dX7_isOf_68 ?_
                    refine g_goto (tgt := 73) dX7_isOf_69 (by decide) ?_
                    exact g_iret dX7_isOf_73 trivial (by first | exact (OM.of (q := (1, V)) (by unfold p_isOf; rw [if_neg (by omega), b2i_1 (by omega)]) rfl h keepM.rfl) | exact (OM.of (q := (0, V)) (by unfold p_isOf; rw [if_neg (by omega), b2i_0 (by omega)]) rfl h keepM.rfl))
                · refine g_iconst dX7_isOf_56 ?_
                  refine g_goto (tgt := 61) dX7_isOf_57 (by decide) ?_
                  refine g_istore dX7_isOf_61 (by decide) ?_
                  refine g_iload dX7_isOf_63 rfl ?_
                  refine g_if_eq (tgt := 72) dX7_isOf_65 (by decide) (by omega) (fun h65 => ?_) (fun h65 => ?_)
                  · refine g_iconst dX7_isOf_72 ?_
                    exact g_iret dX7_isOf_73 trivial (by first | exact (OM.of (q := (1, V)) (by unfold p_isOf; rw [if_neg (by omega), b2i_1 (by omega)]) rfl h keepM.rfl) | exact (OM.of (q := (0, V)) (by unfold p_isOf; rw [if_neg (by omega), b2i_0 (by omega)]) rfl h keepM.rfl))
                  · refine g_iconst dX7_isOf_68 ?_
                    refine g_goto (tgt := 73) dX7_isOf_69 (by decide) ?_
                    exact g_iret dX7_isOf_73 trivial (by first | exact (OM.of (q := (1, V)) (by unfold p_isOf; rw [if_neg (by omega), b2i_1 (by omega)]) rfl h keepM.rfl) | exact (OM.of (q := (0, V)) (by unfold p_isOf; rw [if_neg (by omega), b2i_0 (by omega)]) rfl h keepM.rfl))
    · refine g_ldc dX7_isOf_17 kX7_78 ?_
      exact g_iret dX7_isOf_19 trivial (OM.of (q := (cBad, V)) (by unfold p_isOf; rw [if_pos (by omega)]) rfl h keepM.rfl)

theorem k_tells {b : Int} {V σ : Mem} (hi : Inv b V) (h : RM V σ) (t : Int) (d : Int) (i_t : i32 t) (i_d : i32 d)  : Ret 41 mX7_tells [aR 30, aI t, aI d] σ (OM σ (p_tells V t d)) := by
  refine Ret.of [some (aR 30), some (aI t), some (aI d)] rfl (plainFor_of_name (by decide)) (Nat.le_of_ble_eq_true rfl) ?_
  have hN := hi.N
  refine g_iload_n dX7_tells_0 rfl ?_
  refine g_iconst dX7_tells_1 ?_
  refine g_iconst dX7_tells_2 ?_
  refine g_pS3 dX7_tells_3 sX7_70 (by decide) (by decide) (c_isIn _ _ _ (by omega) (by omega) (by omega)) ?_
  refine g_ifb_eq (tgt := 28) dX7_tells_6 (by decide) (fun h6 => ?_) (fun h6 => ?_)
  · refine g_ldc dX7_tells_28 kX7_78 ?_
    exact g_iret dX7_tells_30 trivial (by first | exact (OM.of (q := (cBad, V)) (by unfold p_tells; rw [if_pos (by omega)]) rfl h keepM.rfl) | exact (OM.of (q := (V (8 + u) d, V)) (by unfold p_tells; rw [if_neg (by omega), Int.toNat_natCast]) rfl h keepM.rfl))
  · refine g_iload_n dX7_tells_9 rfl ?_
    refine g_iconst dX7_tells_10 ?_
    refine g_bipush (v := 16) dX7_tells_11 (by decide) ?_
    refine g_pS3 dX7_tells_13 sX7_70 (by decide) (by decide) (c_isIn _ _ _ (by omega) (by omega) (by omega)) ?_
    refine g_ifb_eq (tgt := 28) dX7_tells_16 (by decide) (fun h16 => ?_) (fun h16 => ?_)
    · refine g_ldc dX7_tells_28 kX7_78 ?_
      exact g_iret dX7_tells_30 trivial (by first | exact (OM.of (q := (cBad, V)) (by unfold p_tells; rw [if_pos (by omega)]) rfl h keepM.rfl) | exact (OM.of (q := (V (8 + u) d, V)) (by unfold p_tells; rw [if_neg (by omega), Int.toNat_natCast]) rfl h keepM.rfl))
    · obtain ⟨u, rfl⟩ : ∃ u : Nat, t = u := ⟨t.toNat, by omega⟩
      have hu : u < 6 := by omega
      refine g_aload_n dX7_tells_19 rfl ?_
      refine g_iload_n dX7_tells_20 rfl ?_
      refine g_iload_n dX7_tells_21 rfl ?_
      refine g_pV2 dX7_tells_22 qX7_98 rfl (by decide) (by decide) (by decide) (c_tell hi h d u hu (by omega) (by omega)) ?_
      refine g_goto (tgt := 30) dX7_tells_25 (by decide) ?_
      exact g_iret dX7_tells_30 trivial (by first | exact (OM.of (q := (cBad, V)) (by unfold p_tells; rw [if_pos (by omega)]) rfl h keepM.rfl) | exact (OM.of (q := (V (8 + u) d, V)) (by unfold p_tells; rw [if_neg (by omega), Int.toNat_natCast]) rfl h keepM.rfl))

theorem k_lace {b : Int} {V σ : Mem} (hi : Inv b V) (h : RM V σ) (r : Int) (o : Int) (R : Int) (c : Int) (i_r : i32 r) (i_o : i32 o) (i_R : i32 R) (i_c : i32 c)  : Ret 41 mX7_lace [aR 30, aI r, aI o, aI R, aI c] σ (OM σ (p_lace V r o R c)) := by
  refine Ret.of [some (aR 30), some (aI r), some (aI o), some (aI R), some (aI c)] rfl (plainFor_of_name (by decide)) (Nat.le_of_ble_eq_true rfl) ?_
  have hN := hi.N
  refine g_iload_n dX7_lace_0 rfl ?_
  refine g_iconst dX7_lace_1 ?_
  refine g_sipush (v := 200) dX7_lace_2 (by decide) ?_
  refine g_pS3 dX7_lace_5 sX7_70 (by decide) (by decide) (c_isIn _ _ _ (by omega) (by omega) (by omega)) ?_
  refine g_ifb_eq (tgt := 44) dX7_lace_8 (by decide) (fun h8 => ?_) (fun h8 => ?_)
  · refine g_ldc dX7_lace_44 kX7_78 ?_
    exact g_iret dX7_lace_46 trivial (OM.of (q := (cBad, V)) (by unfold p_lace; rw [if_pos (by omega)]) rfl h keepM.rfl)
  · refine g_iload_n dX7_lace_11 rfl ?_
    refine g_iconst dX7_lace_12 ?_
    refine g_sipush (v := 200) dX7_lace_13 (by decide) ?_
    refine g_pS3 dX7_lace_16 sX7_70 (by decide) (by decide) (c_isIn _ _ _ (by omega) (by omega) (by omega)) ?_
    refine g_ifb_eq (tgt := 44) dX7_lace_19 (by decide) (fun h19 => ?_) (fun h19 => ?_)
    · refine g_ldc dX7_lace_44 kX7_78 ?_
      exact g_iret dX7_lace_46 trivial (OM.of (q := (cBad, V)) (by unfold p_lace; rw [if_pos (by omega)]) rfl h keepM.rfl)
    · refine g_iload_n dX7_lace_22 rfl ?_
      refine g_iconst dX7_lace_23 ?_
      refine g_sipush (v := 1000) dX7_lace_24 (by decide) ?_
      refine g_pS3 dX7_lace_27 sX7_70 (by decide) (by decide) (c_isIn _ _ _ (by omega) (by omega) (by omega)) ?_
      refine g_ifb_eq (tgt := 44) dX7_lace_30 (by decide) (fun h30 => ?_) (fun h30 => ?_)
      · refine g_ldc dX7_lace_44 kX7_78 ?_
        exact g_iret dX7_lace_46 trivial (OM.of (q := (cBad, V)) (by unfold p_lace; rw [if_pos (by omega)]) rfl h keepM.rfl)
      · refine g_iload dX7_lace_33 rfl ?_
        refine g_iconst dX7_lace_35 ?_
        refine g_bipush (v := 7) dX7_lace_36 (by decide) ?_
        refine g_pS3 dX7_lace_38 sX7_70 (by decide) (by decide) (c_isIn _ _ _ (by omega) (by omega) (by omega)) ?_
        refine g_ifb_ne (tgt := 47) dX7_lace_41 (by decide) (fun h41 => ?_) (fun h41 => ?_)
        · refine g_aload_n dX7_lace_47 rfl ?_
          refine g_iload_n dX7_lace_48 rfl ?_
          refine g_putI (ji := 10) rfl dX7_lace_49 vX7_35 rfl rfl (by decide) (by decide) ?_
          refine g_aload_n dX7_lace_52 rfl ?_
          refine g_iload_n dX7_lace_53 rfl ?_
          refine g_putI (ji := 11) rfl dX7_lace_54 vX7_39 rfl rfl (by decide) (by decide) ?_
          refine g_aload_n dX7_lace_57 rfl ?_
          refine g_iload_n dX7_lace_58 rfl ?_
          refine g_putI (ji := 12) rfl dX7_lace_59 vX7_42 rfl rfl (by decide) (by decide) ?_
          refine g_aload_n dX7_lace_62 rfl ?_
          refine g_iload dX7_lace_63 rfl ?_
          refine g_putI (ji := 13) rfl dX7_lace_65 vX7_45 rfl rfl (by decide) (by decide) ?_
          refine g_iconst dX7_lace_68 ?_
          exact g_iret dX7_lace_69 trivial (OM.of (q := (0, up (up (up (up V 18 0 r) 18 1 o) 18 2 R) 18 3 c)) (by unfold p_lace; rw [if_neg (by omega)]) rfl h.lac' ((((keepM.rfl.up (by decide) (by decide)).up (by decide) (by decide)).up (by decide) (by decide)).up (by decide) (by decide)))
        · refine g_ldc dX7_lace_44 kX7_78 ?_
          exact g_iret dX7_lace_46 trivial (OM.of (q := (cBad, V)) (by unfold p_lace; rw [if_pos (by omega)]) rfl h keepM.rfl)

theorem k_anew {b : Int} {V σ : Mem} (hi : Inv b V) (h : RM V σ) (s : Int) (k : Int) (v : Int) (i_s : i32 s) (i_k : i32 k) (i_v : i32 v)  : Ret 41 mX7_anew [aR 30, aI s, aI k, aI v] σ (OM σ (p_anew V s k v)) := by
  refine Ret.of [some (aR 30), some (aI s), some (aI k), some (aI v)] rfl (plainFor_of_name (by decide)) (Nat.le_of_ble_eq_true rfl) ?_
  have hN := hi.N
  refine g_aload_n dX7_anew_0 rfl ?_
  refine g_iload_n dX7_anew_1 rfl ?_
  refine g_pV1 dX7_anew_2 qX7_79 rfl (by decide) (by decide) (by decide) (c_isHole hi h _ (by omega)) ?_
  refine g_ifb_eq (tgt := 25) dX7_anew_5 (by decide) (fun h5 => ?_) (fun h5 => ?_)
  · refine g_ldc dX7_anew_25 kX7_78 ?_
    exact g_iret dX7_anew_27 trivial (OM.of (q := (cBad, V)) (by unfold p_anew; rw [if_pos (by omega)]) rfl h keepM.rfl)
  · refine g_iload_n dX7_anew_8 rfl ?_
    refine g_pS1 dX7_anew_9 sX7_82 (by decide) (by decide) (c_isKind _ (by omega)) ?_
    refine g_ifb_eq (tgt := 25) dX7_anew_12 (by decide) (fun h12 => ?_) (fun h12 => ?_)
    · refine g_ldc dX7_anew_25 kX7_78 ?_
      exact g_iret dX7_anew_27 trivial (OM.of (q := (cBad, V)) (by unfold p_anew; rw [if_pos (by omega)]) rfl h keepM.rfl)
    · refine g_iload_n dX7_anew_15 rfl ?_
      refine g_iconst dX7_anew_16 ?_
      refine g_ldc dX7_anew_17 kX7_90 ?_
      refine g_pS3 dX7_anew_19 sX7_70 (by decide) (by decide) (c_isIn _ _ _ (by omega) (by omega) (by omega)) ?_
      refine g_ifb_ne (tgt := 28) dX7_anew_22 (by decide) (fun h22 => ?_) (fun h22 => ?_)
      · refine g_aload_n dX7_anew_28 rfl ?_
        refine g_iload_n dX7_anew_29 rfl ?_
        refine g_pV1 dX7_anew_30 qX7_74 rfl (by decide) (by decide) (by decide) (c_isGone hi h _ (by omega) (by omega)) ?_
        refine g_ifb_ne (tgt := 39) dX7_anew_33 (by decide) (fun h33 => ?_) (fun h33 => ?_)
        · refine g_aload_n dX7_anew_39 rfl ?_
          refine g_getR dX7_anew_40 fX7_7 rfl rfl (by decide) ?_
          refine g_iload_n dX7_anew_43 rfl ?_
          refine g_iload_n dX7_anew_44 rfl ?_
          refine g_iastore dX7_anew_45 rfl (by decide) (by decide) (by omega) (by omega) (by decide) ?_
          refine g_aload_n dX7_anew_46 rfl ?_
          refine g_getR dX7_anew_47 fX7_13 rfl rfl (by decide) ?_
          refine g_iload_n dX7_anew_50 rfl ?_
          refine g_iload_n dX7_anew_51 rfl ?_
          refine g_i2l dX7_anew_52 (by omega) ?_
          refine g_lastore dX7_anew_53 rfl (by decide) (by decide) (by omega) (by omega) (by decide) ?_
          refine g_iconst dX7_anew_54 ?_
          exact g_iret dX7_anew_55 trivial (OM.of (q := (0, up (up V 1 s k) 2 s v)) (by unfold p_anew; rw [if_neg (by omega), if_neg (by omega)]) rfl h.kind'.pull' ((keepM.rfl.up (by decide) (by decide)).up (by decide) (by decide)))
        · refine g_ldc dX7_anew_36 kX7_85 ?_
          exact g_iret dX7_anew_38 trivial (OM.of (q := (cNo, V)) (by unfold p_anew; rw [if_neg (by omega), if_pos (by omega)]) rfl h keepM.rfl)
      · refine g_ldc dX7_anew_25 kX7_78 ?_
        exact g_iret dX7_anew_27 trivial (OM.of (q := (cBad, V)) (by unfold p_anew; rw [if_pos (by omega)]) rfl h keepM.rfl)

theorem k_log {b : Int} {V σ : Mem} (hi : Inv b V) (h : RM V σ) (i : Int) (w : Int) (i_i : i32 i) (i_w : i32 w)  : Ret 41 mX7_log [aR 30, aI i, aI w] σ (OM σ (p_log V i w)) := by
  refine Ret.of [some (aR 30), some (aI i), some (aI w)] rfl (plainFor_of_name (by decide)) (Nat.le_of_ble_eq_true rfl) ?_
  have hN := hi.N
  refine g_iload_n dX7_log_0 rfl ?_
  refine g_if_lt (tgt := 13) dX7_log_1 (by decide) (by omega) (fun h1 => ?_) (fun h1 => ?_)
  · refine g_ldc dX7_log_13 kX7_78 ?_
    exact g_iret dX7_log_15 trivial (OM.of (q := (cBad, V)) (by unfold p_log; rw [if_pos (by omega)]) rfl h keepM.rfl)
  · refine g_iload_n dX7_log_4 rfl ?_
    refine g_iconst dX7_log_5 ?_
    refine g_iconst dX7_log_6 ?_
    refine g_pS3 dX7_log_7 sX7_70 (by decide) (by decide) (c_isIn _ _ _ (by omega) (by omega) (by omega)) ?_
    refine g_ifb_ne (tgt := 16) dX7_log_10 (by decide) (fun h10 => ?_) (fun h10 => ?_)
    · have hm := hi.many
      refine g_iload_n dX7_log_16 rfl ?_
      refine g_aload_n dX7_log_17 rfl ?_
      refine g_getI (ji := 9) rfl dX7_log_18 fX7_61 rfl rfl (by decide) ?_
      rw [h.many]
      refine g_icmp_ge (tgt := 37) dX7_log_21 (by decide) (by omega) (by omega) (fun h21 => ?_) (fun h21 => ?_)
      · refine g_ldc dX7_log_37 kX7_146 ?_
        exact g_iret dX7_log_39 trivial (by first | exact (OM.of (q := (cNone, V)) (by unfold p_log; rw [if_neg (by omega), if_neg (by omega)]) rfl h keepM.rfl) | exact (OM.of (q := (V 15 i, V)) (by unfold p_log; rw [if_neg (by omega), if_pos (by omega), if_pos (by omega)]) rfl h keepM.rfl) | exact (OM.of (q := (V 16 i, V)) (by unfold p_log; rw [if_neg (by omega), if_pos (by omega), if_neg (by omega)]) rfl h keepM.rfl))
      · have hl := h.log i (by omega) (by omega)
        refine g_aload_n dX7_log_24 rfl ?_
        refine g_getR dX7_log_25 fX7_32 rfl rfl (by decide) ?_
        refine g_iconst dX7_log_28 ?_
        refine g_iload_n dX7_log_29 rfl ?_
        refine g_imul dX7_log_30 ?_
        refine g_iload_n dX7_log_31 rfl ?_
        refine g_iadd dX7_log_32 ?_
        refine g_iaload dX7_log_33 rfl (by decide) (by omega) (by omega) (by decide) ?_
        rcases (show w = 0 ∨ w = 1 by omega) with rfl | rfl
        · rw [show 2 * i + 0 = 2 * i by omega, hl.1]
          refine g_goto (tgt := 39) dX7_log_34 (by decide) ?_
          exact g_iret dX7_log_39 trivial (OM.of (q := (V 15 i, V)) (by unfold p_log; rw [if_neg (by omega), if_pos (by omega), if_pos (by omega)]) rfl h keepM.rfl)
        rw [hl.2]
        refine g_goto (tgt := 39) dX7_log_34 (by decide) ?_
        exact g_iret dX7_log_39 trivial (by first | exact (OM.of (q := (cNone, V)) (by unfold p_log; rw [if_neg (by omega), if_neg (by omega)]) rfl h keepM.rfl) | exact (OM.of (q := (V 15 i, V)) (by unfold p_log; rw [if_neg (by omega), if_pos (by omega), if_pos (by omega)]) rfl h keepM.rfl) | exact (OM.of (q := (V 16 i, V)) (by unfold p_log; rw [if_neg (by omega), if_pos (by omega), if_neg (by omega)]) rfl h keepM.rfl))
    · refine g_ldc dX7_log_13 kX7_78 ?_
      exact g_iret dX7_log_15 trivial (OM.of (q := (cBad, V)) (by unfold p_log; rw [if_pos (by omega)]) rfl h keepM.rfl)
end
section
/-! facts about the words of 07.spec -/
theorem firstI_cases (P : Int → Bool) : ∀ (n : Nat) (i : Int), 0 ≤ i → (firstI P n i = -1 ∧ ∀ k, i ≤ k → k < i + n → P k = false) ∨ (i ≤ firstI P n i ∧ firstI P n i < i + n ∧ P (firstI P n i) = true ∧ ∀ k, i ≤ k → k < firstI P n i → P k = false)
  | 0, i, h => Or.inl ⟨rfl, fun k h1 h2 => by omega⟩
  | n + 1, i, h => by
    unfold firstI
    by_cases hp : P i = true
    · rw [if_pos hp]
      exact Or.inr ⟨by omega, by omega, hp, fun k h1 h2 => by omega⟩
    · rw [if_neg hp]
      have hf : P i = false := by simpa using hp
      rcases firstI_cases P n (i + 1) (by omega) with ⟨h1, h2⟩ | ⟨h1, h2, h3, h4⟩
      · refine Or.inl ⟨h1, fun k a b => ?_⟩
        by_cases hk : k = i
        · rw [hk]; exact hf
        · exact h2 k (by omega) (by omega)
      · refine Or.inr ⟨by omega, by omega, h3, fun k a b => ?_⟩
        by_cases hk : k = i
        · rw [hk]; exact hf
        · exact h4 k (by omega) b
theorem firstI_eq {P : Int → Bool} {n : Nat} {i k : Int} (h0 : 0 ≤ i) (h1 : i ≤ k) (h2 : k < i + n) (hp : P k = true) (hf : ∀ q, i ≤ q → q < k → P q = false) : firstI P n i = k := by
  rcases firstI_cases P n i h0 with ⟨a, b⟩ | ⟨a, b, c, d⟩
  · rw [b k h1 h2] at hp; cases hp
  · rcases Int.lt_trichotomy (firstI P n i) k with h | h | h
    · rw [hf _ a h] at c; cases c
    · exact h
    · rw [d k h1 h] at hp; cases hp
theorem firstI_no {P : Int → Bool} {n : Nat} {i : Int} (h0 : 0 ≤ i) (hf : ∀ q, i ≤ q → q < i + n → P q = false) : firstI P n i = -1 := by
  rcases firstI_cases P n i h0 with ⟨a, b⟩ | ⟨a, b, c, d⟩
  · exact a
  · rw [hf _ a b] at c; cases c
theorem sumN_succ {f : Int → Int} {i : Int} (h : 0 ≤ i) : sumN f (i + 1).toNat = sumN f i.toNat + f i := by
  have e : (i + 1).toNat = i.toNat + 1 := by omega
  rw [e]
  show sumN f i.toNat + f (i.toNat : Int) = _
  rw [Int.toNat_of_nonneg h]
theorem cntN_succ {P : Int → Bool} {i : Int} (h : 0 ≤ i) : cntN P (i + 1).toNat = cntN P i.toNat + (if P i then 1 else 0) := by
  have e : (i + 1).toNat = i.toNat + 1 := by omega
  rw [e]
  show cntN P i.toNat + (if P (i.toNat : Int) then 1 else 0) = _
  rw [Int.toNat_of_nonneg h]
theorem mxN_succ {f : Int → Int} {i : Int} (h : 0 ≤ i) : mxN f (i + 1).toNat = max (mxN f i.toNat) (f i) := by
  have e : (i + 1).toNat = i.toNat + 1 := by omega
  rw [e]
  show max (mxN f i.toNat) (f (i.toNat : Int)) = _
  rw [Int.toNat_of_nonneg h]
theorem cntN_b (P : Int → Bool) : ∀ n : Nat, 0 ≤ cntN P n ∧ cntN P n ≤ n
  | 0 => by simp [cntN]
  | n + 1 => by
    have := cntN_b P n
    unfold cntN
    split <;> omega
theorem sumN_b {f : Int → Int} {B : Int} (hB : 0 ≤ B) : ∀ n : Nat, (∀ k, 0 ≤ k → k < n → -B ≤ f k ∧ f k ≤ B) → -(B * n) ≤ sumN f n ∧ sumN f n ≤ B * n
  | 0, _ => by simp [sumN]
  | n + 1, h => by
    have h1 := sumN_b hB n (fun k a b => h k a (by omega))
    have h2 := h n (by omega) (by omega)
    have e : B * ((n + 1 : Nat) : Int) = B * n + B := by
      rw [Int.natCast_succ, Int.mul_add, Int.mul_one]
    rw [e]
    unfold sumN
    omega
theorem mxN_b {f : Int → Int} {B : Int} (hB : 0 ≤ B) : ∀ n : Nat, (∀ k, 0 ≤ k → k < n → f k ≤ B) → 0 ≤ mxN f n ∧ mxN f n ≤ B
  | 0, _ => by simp [mxN]; exact hB
  | n + 1, h => by
    have h1 := mxN_b hB n (fun k a b => h k a (by omega))
    have h2 := h n (by omega) (by omega)
    unfold mxN
    omega
theorem mulb {a k A B : Int} (h1 : -A ≤ a) (h2 : a ≤ A) (h3 : -B ≤ k) (h4 : k ≤ B) (hA : 0 ≤ A) (hB : 0 ≤ B) : -(A * B) ≤ a * k ∧ a * k ≤ A * B := by
  have key : (a * k).natAbs ≤ (A * B).natAbs := by
    rw [Int.natAbs_mul, Int.natAbs_mul]
    exact Nat.mul_le_mul (by omega) (by omega)
  have h0 : 0 ≤ A * B := Int.mul_nonneg hA hB
  omega
theorem nxS_b (f : Int → Int) (N p w : Int) (hN : 1 ≤ N) : 0 ≤ nxS f N p w ∧ nxS f N p w ≤ N - 1 := by
  unfold nxS
  rcases firstI_cases (fun i => decide (f ((p + w * i) % N) ≠ -10000)) (N - 1).toNat 1 (by omega) with ⟨a, b⟩ | ⟨a, b, c, d⟩ <;> omega
theorem nxS_both {f : Int → Int} {N p : Int} (hN : N = 8 ∨ N = 16 ∨ N = 32) (h : nxS f N p (-1) ≠ 0) : nxS f N p 1 ≠ 0 := by
  intro h2
  have hb := nxS_b f N p (-1) (by omega)
  unfold nxS at h h2
  rcases firstI_cases (fun i => decide (f ((p + -1 * i) % N) ≠ -10000)) (N - 1).toNat 1 (by omega) with ⟨a, b⟩ | ⟨a, b, c, d⟩
  · omega
  · rcases firstI_cases (fun i => decide (f ((p + 1 * i) % N) ≠ -10000)) (N - 1).toNat 1 (by omega) with ⟨a', b'⟩ | ⟨a', b', c', d'⟩
    · generalize hq : firstI (fun i => decide (f ((p + -1 * i) % N) ≠ -10000)) (N - 1).toNat 1 = q at *
      have h3 := b' (N - q) (by omega) (by omega)
      simp only [decide_eq_true_eq, decide_eq_false_iff_not] at c h3
      have e : (p + 1 * (N - q)) % N = (p + -1 * q) % N := by rcases hN with hN | hN | hN <;> subst hN <;> omega
      rw [e] at h3
      exact h3 c
    · omega
theorem unbF_b {f : Int → Int} {N p : Int} (hN : N = 8 ∨ N = 16 ∨ N = 32) (hp : 0 ≤ p) (hp2 : p < N) (hf : ∀ j, 0 ≤ j → j < N → -10000 ≤ f j ∧ f j ≤ 9999) : -10000 ≤ unbF f N p ∧ unbF f N p ≤ 10000 := by
  unfold unbF
  split
  · have := hf p hp hp2; omega
  · split
    · omega
    · rename_i h1 h2
      have b1 := nxS_b f N p (-1) (by omega)
      have b2 := nxS_b f N p 1 (by omega)
      have m1 := hf ((p - nxS f N p (-1)) % N) (Int.emod_nonneg _ (by omega)) (Int.emod_lt_of_pos _ (by omega))
      have m2 := hf ((p + nxS f N p 1) % N) (Int.emod_nonneg _ (by omega)) (Int.emod_lt_of_pos _ (by omega))
      generalize nxS f N p (-1) = i at *
      generalize nxS f N p 1 = k at *
      generalize f ((p - i) % N) = a at *
      generalize f ((p + k) % N) = c at *
      have e1 : 0 ≤ (a + 10000) * k := Int.mul_nonneg (by omega) (by omega)
      have e2 : 0 ≤ (c + 10000) * i := Int.mul_nonneg (by omega) (by omega)
      have e3 : 0 ≤ (10000 - a) * k := Int.mul_nonneg (by omega) (by omega)
      have e4 : 0 ≤ (10000 - c) * i := Int.mul_nonneg (by omega) (by omega)
      rw [Int.add_mul] at e1 e2
      rw [Int.sub_mul] at e3 e4
      have hpos : 0 < i + k := by omega
      constructor
      · rw [Int.le_ediv_iff_mul_le hpos]
        omega
      · have : (a * k + c * i) / (i + k) < 10001 := by
          rw [Int.ediv_lt_iff_lt_mul hpos]
          omega
        omega
theorem unb_b {b : Int} {V : Mem} (hi : Inv b V) (r : Nat) (hr : r < 2) (p : Int) (hp : 0 ≤ p) (hp2 : p < V 0 0) : -10000 ≤ unb V r p ∧ unb V r p ≤ 10000 := unbF_b hi.N hp hp2 (fun j a c => hi.read r hr j a c)
theorem rdg_b {b : Int} {V : Mem} (hi : Inv b V) (r : Nat) (hr : r < 2) (p : Int) (hp : 0 ≤ p) (hp2 : p < V 0 0) : -(b + 10000) ≤ rdg V r p ∧ rdg V r p ≤ b + 10000 := by
  have h1 := unb_b hi r hr p hp hp2
  have h2 := hi.made r hr p hp hp2
  unfold rdg
  omega
theorem modN2 {N x : Int} (hN : N = 8 ∨ N = 16 ∨ N = 32) (hx : 0 ≤ x + N * 2) : (x + N * 2).tmod N = x % N := by
  rw [Int.tmod_eq_emod_of_nonneg hx]
  rcases hN with hN | hN | hN <;> subst hN <;> omega
theorem modN1 {N x : Int} (hN : N = 8 ∨ N = 16 ∨ N = 32) (hx : 0 ≤ x + N) : (x + N).tmod N = x % N := by
  rw [Int.tmod_eq_emod_of_nonneg hx]
  rcases hN with hN | hN | hN <;> subst hN <;> omega
theorem modN0 {N x : Int} (hx : 0 ≤ x) : x.tmod N = x % N := Int.tmod_eq_emod_of_nonneg hx
theorem modNb {N : Int} (x : Int) (hN : N = 8 ∨ N = 16 ∨ N = 32) : 0 ≤ x % N ∧ x % N < N := ⟨Int.emod_nonneg _ (by omega), Int.emod_lt_of_pos _ (by omega)⟩
theorem dm_facts {N k : Int} (hN : N = 8 ∨ N = 16 ∨ N = 32) (h0 : 0 ≤ k) (h1 : k < 2 * N) : ∃ (r : Nat) (p : Int), r < 2 ∧ 0 ≤ p ∧ p < N ∧ k.tdiv N = (r : Int) ∧ k.tmod N = p ∧ k = p + (if r = 0 then 0 else N) := by
  rw [Int.tmod_eq_emod_of_nonneg h0, Int.tdiv_eq_ediv_of_nonneg h0]
  by_cases h : k < N
  · exact ⟨0, k, by omega, h0, h, by rw [Int.ediv_eq_zero_of_lt h0 h]; rfl, Int.emod_eq_of_lt h0 h, by simp⟩
  · refine ⟨1, k - N, by omega, by omega, by omega, ?_, ?_, by simp⟩
    · rcases hN with hN | hN | hN <;> subst hN <;> omega
    · rcases hN with hN | hN | hN <;> subst hN <;> omega
theorem stp_b {N i j : Int} (hN : N = 8 ∨ N = 16 ∨ N = 32) (h0 : 0 ≤ i) (h1 : i < N) (h2 : 0 ≤ j) (h3 : j < N) : 0 ≤ stp N i j ∧ stp N i j ≤ 16 := by
  unfold stp dst
  omega
theorem ab_b {x B : Int} (h1 : -B ≤ x) (h2 : x ≤ B) : 0 ≤ ab x ∧ ab x ≤ B := by unfold ab; omega
theorem ediv_mono {a c L : Int} (hL : 0 < L) (h : a ≤ c) : a / L ≤ c / L := Int.ediv_le_ediv hL h
theorem shr_b {v L B : Int} (hL : 1 ≤ L) (h : ab v ≤ B) : 0 ≤ shr v L ∧ shr v L ≤ 1000 * B := by
  have h0 : 0 ≤ ab v := by unfold ab; omega
  unfold shr
  have h1 := (ediv_b (x := 1000 * ab v) (y := L) (by omega)).1 (by omega)
  omega
theorem spS_succ {V : Mem} {l i : Int} (h : 0 ≤ i) : spS V l (i + 1).toNat = if leanK (V 1 i) = l then (true, (if (spS V l i.toNat).1 = false ∨ V 2 i < (spS V l i.toNat).2.1 then V 2 i else (spS V l i.toNat).2.1), (if (spS V l i.toNat).1 = false ∨ (spS V l i.toNat).2.2 < V 2 i then V 2 i else (spS V l i.toNat).2.2)) else spS V l i.toNat := by
  have e : (i + 1).toNat = i.toNat + 1 := by omega
  rw [e]
  show (if leanK (V 1 (i.toNat : Int)) = l then _ else _) = _
  rw [Int.toNat_of_nonneg h]
theorem spS_b {b : Int} {V : Mem} (hi : Inv b V) (l : Int) : ∀ n : Nat, (n : Int) ≤ V 0 0 → -b ≤ (spS V l n).2.1 ∧ (spS V l n).2.1 ≤ b ∧ -b ≤ (spS V l n).2.2 ∧ (spS V l n).2.2 ≤ b ∧ (spS V l n).2.1 ≤ (spS V l n).2.2
  | 0, _ => by have := hi.b; simp only [spS]; omega
  | n + 1, h => by
    have h1 := spS_b hi l n (by omega)
    have h2 := hi.pull n (by omega) (by omega)
    unfold spS
    split
    · dsimp only
      generalize (spS V l n).1 = q at *
      generalize (spS V l n).2.1 = lo at *
      generalize (spS V l n).2.2 = hi' at *
      cases q <;> simp <;> omega
    · exact h1
theorem sprV_b {b : Int} {V : Mem} (hi : Inv b V) (l : Int) : 0 ≤ sprV V l ∧ sprV V l ≤ 2 * b := by
  have hN := hi.N
  have h := spS_b hi l (V 0 0).toNat (by omega)
  unfold sprV
  omega
theorem midV_b {b : Int} {V : Mem} (hi : Inv b V) : -(b + 10000) ≤ midV V ∧ midV V ≤ b + 10000 := by
  have hN := hi.N
  have hb := hi.b
  have h := sumN_b (f := rdg V 0) (B := b + 10000) (by omega) (V 0 0).toNat (fun k h0 h1 => rdg_b hi 0 (by decide) k (by omega) (by omega))
  rw [Int.toNat_of_nonneg (by omega)] at h
  unfold midV
  generalize sumN (rdg V 0) (V 0 0).toNat = S at *
  have hp : 0 < V 0 0 := by omega
  constructor
  · rw [Int.le_ediv_iff_mul_le hp, Int.neg_mul]
    exact h.1
  · have : S / V 0 0 < b + 10000 + 1 := by
      rw [Int.ediv_lt_iff_lt_mul hp, Int.add_mul, Int.one_mul]
      omega
    omega
theorem sum64 {b : Int} {V : Mem} (hi : Inv b V) (n : Nat) (hn : (n : Int) ≤ V 0 0) : i64 (sumN (rdg V 0) n) := by
  have hN := hi.N
  have hb := hi.b
  have h := sumN_b (f := rdg V 0) (B := b + 10000) (by omega) n (fun k h0 h1 => rdg_b hi 0 (by decide) k (by omega) (by omega))
  have h2 := mulb (a := b + 10000) (k := (n : Int)) (A := 500010000) (B := 32) (by omega) (by omega) (by omega) (by omega) (by omega) (by omega)
  omega
end
section
theorem g_eV0 {K : Nat} {M : Meth} {pc : Nat} {ls : List (Option AV)} {st : List AV} {σ : Mem} {Q : Option AV → Mem → Prop} {M' : Meth} {idx ci k : Nat} {fk : List Nat} {v : AV} {P : Mem → Prop} (hd : decode (mC M) pc = .ok (.invokevirtual idx, 3)) (hl : MLV (mN M).cls idx M' ci 0) (hs : sh k = .inl (ci, fk)) (hk : k < K) (hdp : mD M' < mD M) (hw : stW st ≤ 8) (hR : Ret K M' [aR k] σ (fun r τ => r = some v ∧ P τ)) (kk : ∀ τ, P τ → Go K M (pc + 3) ls (v :: st) τ Q) : Go K M pc ls (aR k :: st) σ Q := g_cV0 hd hl hs hk hdp hw hR (fun r τ h => by obtain ⟨rfl, h⟩ := h; exact kk τ h)
theorem g_vV0 {K : Nat} {M : Meth} {pc : Nat} {ls : List (Option AV)} {st : List AV} {σ : Mem} {Q : Option AV → Mem → Prop} {M' : Meth} {idx ci k : Nat} {fk : List Nat} {P : Mem → Prop} (hd : decode (mC M) pc = .ok (.invokevirtual idx, 3)) (hl : MLV (mN M).cls idx M' ci 0) (hs : sh k = .inl (ci, fk)) (hk : k < K) (hdp : mD M' < mD M) (hw : stW st ≤ 8) (hR : Ret K M' [aR k] σ (fun r τ => r = none ∧ P τ)) (kk : ∀ τ, P τ → Go K M (pc + 3) ls st τ Q) : Go K M pc ls (aR k :: st) σ Q := g_cV0 hd hl hs hk hdp hw hR (fun r τ h => by obtain ⟨rfl, h⟩ := h; exact kk τ h)
theorem g_eV1 {K : Nat} {M : Meth} {pc : Nat} {ls : List (Option AV)} {st : List AV} {σ : Mem} {Q : Option AV → Mem → Prop} {a : AV} {M' : Meth} {idx ci k : Nat} {fk : List Nat} {v : AV} {P : Mem → Prop} (hd : decode (mC M) pc = .ok (.invokevirtual idx, 3)) (hl : MLV (mN M).cls idx M' ci 1) (hs : sh k = .inl (ci, fk)) (hk : k < K) (hdp : mD M' < mD M) (hw : stW st ≤ 8) (hR : Ret K M' [aR k, a] σ (fun r τ => r = some v ∧ P τ)) (kk : ∀ τ, P τ → Go K M (pc + 3) ls (v :: st) τ Q) : Go K M pc ls (a :: aR k :: st) σ Q := g_cV1 hd hl hs hk hdp hw hR (fun r τ h => by obtain ⟨rfl, h⟩ := h; exact kk τ h)
theorem g_vV1 {K : Nat} {M : Meth} {pc : Nat} {ls : List (Option AV)} {st : List AV} {σ : Mem} {Q : Option AV → Mem → Prop} {a : AV} {M' : Meth} {idx ci k : Nat} {fk : List Nat} {P : Mem → Prop} (hd : decode (mC M) pc = .ok (.invokevirtual idx, 3)) (hl : MLV (mN M).cls idx M' ci 1) (hs : sh k = .inl (ci, fk)) (hk : k < K) (hdp : mD M' < mD M) (hw : stW st ≤ 8) (hR : Ret K M' [aR k, a] σ (fun r τ => r = none ∧ P τ)) (kk : ∀ τ, P τ → Go K M (pc + 3) ls st τ Q) : Go K M pc ls (a :: aR k :: st) σ Q := g_cV1 hd hl hs hk hdp hw hR (fun r τ h => by obtain ⟨rfl, h⟩ := h; exact kk τ h)
theorem g_eV2 {K : Nat} {M : Meth} {pc : Nat} {ls : List (Option AV)} {st : List AV} {σ : Mem} {Q : Option AV → Mem → Prop} {a b : AV} {M' : Meth} {idx ci k : Nat} {fk : List Nat} {v : AV} {P : Mem → Prop} (hd : decode (mC M) pc = .ok (.invokevirtual idx, 3)) (hl : MLV (mN M).cls idx M' ci 2) (hs : sh k = .inl (ci, fk)) (hk : k < K) (hdp : mD M' < mD M) (hw : stW st ≤ 8) (hR : Ret K M' [aR k, a, b] σ (fun r τ => r = some v ∧ P τ)) (kk : ∀ τ, P τ → Go K M (pc + 3) ls (v :: st) τ Q) : Go K M pc ls (b :: a :: aR k :: st) σ Q := g_cV2 hd hl hs hk hdp hw hR (fun r τ h => by obtain ⟨rfl, h⟩ := h; exact kk τ h)
theorem g_vV2 {K : Nat} {M : Meth} {pc : Nat} {ls : List (Option AV)} {st : List AV} {σ : Mem} {Q : Option AV → Mem → Prop} {a b : AV} {M' : Meth} {idx ci k : Nat} {fk : List Nat} {P : Mem → Prop} (hd : decode (mC M) pc = .ok (.invokevirtual idx, 3)) (hl : MLV (mN M).cls idx M' ci 2) (hs : sh k = .inl (ci, fk)) (hk : k < K) (hdp : mD M' < mD M) (hw : stW st ≤ 8) (hR : Ret K M' [aR k, a, b] σ (fun r τ => r = none ∧ P τ)) (kk : ∀ τ, P τ → Go K M (pc + 3) ls st τ Q) : Go K M pc ls (b :: a :: aR k :: st) σ Q := g_cV2 hd hl hs hk hdp hw hR (fun r τ h => by obtain ⟨rfl, h⟩ := h; exact kk τ h)
theorem g_eV3 {K : Nat} {M : Meth} {pc : Nat} {ls : List (Option AV)} {st : List AV} {σ : Mem} {Q : Option AV → Mem → Prop} {a b c : AV} {M' : Meth} {idx ci k : Nat} {fk : List Nat} {v : AV} {P : Mem → Prop} (hd : decode (mC M) pc = .ok (.invokevirtual idx, 3)) (hl : MLV (mN M).cls idx M' ci 3) (hs : sh k = .inl (ci, fk)) (hk : k < K) (hdp : mD M' < mD M) (hw : stW st ≤ 8) (hR : Ret K M' [aR k, a, b, c] σ (fun r τ => r = some v ∧ P τ)) (kk : ∀ τ, P τ → Go K M (pc + 3) ls (v :: st) τ Q) : Go K M pc ls (c :: b :: a :: aR k :: st) σ Q := g_cV3 hd hl hs hk hdp hw hR (fun r τ h => by obtain ⟨rfl, h⟩ := h; exact kk τ h)
theorem g_vV3 {K : Nat} {M : Meth} {pc : Nat} {ls : List (Option AV)} {st : List AV} {σ : Mem} {Q : Option AV → Mem → Prop} {a b c : AV} {M' : Meth} {idx ci k : Nat} {fk : List Nat} {P : Mem → Prop} (hd : decode (mC M) pc = .ok (.invokevirtual idx, 3)) (hl : MLV (mN M).cls idx M' ci 3) (hs : sh k = .inl (ci, fk)) (hk : k < K) (hdp : mD M' < mD M) (hw : stW st ≤ 8) (hR : Ret K M' [aR k, a, b, c] σ (fun r τ => r = none ∧ P τ)) (kk : ∀ τ, P τ → Go K M (pc + 3) ls st τ Q) : Go K M pc ls (c :: b :: a :: aR k :: st) σ Q := g_cV3 hd hl hs hk hdp hw hR (fun r τ h => by obtain ⟨rfl, h⟩ := h; exact kk τ h)
theorem g_eV4 {K : Nat} {M : Meth} {pc : Nat} {ls : List (Option AV)} {st : List AV} {σ : Mem} {Q : Option AV → Mem → Prop} {a b c d : AV} {M' : Meth} {idx ci k : Nat} {fk : List Nat} {v : AV} {P : Mem → Prop} (hd : decode (mC M) pc = .ok (.invokevirtual idx, 3)) (hl : MLV (mN M).cls idx M' ci 4) (hs : sh k = .inl (ci, fk)) (hk : k < K) (hdp : mD M' < mD M) (hw : stW st ≤ 8) (hR : Ret K M' [aR k, a, b, c, d] σ (fun r τ => r = some v ∧ P τ)) (kk : ∀ τ, P τ → Go K M (pc + 3) ls (v :: st) τ Q) : Go K M pc ls (d :: c :: b :: a :: aR k :: st) σ Q := g_cV4 hd hl hs hk hdp hw hR (fun r τ h => by obtain ⟨rfl, h⟩ := h; exact kk τ h)
theorem g_vV4 {K : Nat} {M : Meth} {pc : Nat} {ls : List (Option AV)} {st : List AV} {σ : Mem} {Q : Option AV → Mem → Prop} {a b c d : AV} {M' : Meth} {idx ci k : Nat} {fk : List Nat} {P : Mem → Prop} (hd : decode (mC M) pc = .ok (.invokevirtual idx, 3)) (hl : MLV (mN M).cls idx M' ci 4) (hs : sh k = .inl (ci, fk)) (hk : k < K) (hdp : mD M' < mD M) (hw : stW st ≤ 8) (hR : Ret K M' [aR k, a, b, c, d] σ (fun r τ => r = none ∧ P τ)) (kk : ∀ τ, P τ → Go K M (pc + 3) ls st τ Q) : Go K M pc ls (d :: c :: b :: a :: aR k :: st) σ Q := g_cV4 hd hl hs hk hdp hw hR (fun r τ h => by obtain ⟨rfl, h⟩ := h; exact kk τ h)
end
section
theorem RM.tbl {V σ τ : Mem} {t : Nat} {n : Int} (h : RM V σ) (ht : t < 6) (h1 : ∀ a, a ≠ 35 → a ≠ 36 → τ a = σ a) (h2 : τ 35 t = n) (h3 : ∀ u : Nat, u < 6 → u ≠ t → τ 35 u = σ 35 u) (h4 : ∀ d, 0 ≤ d → d < 17 → τ 36 (17 * t + d) = 0) (h5 : ∀ j : Int, ¬ (17 * t ≤ j ∧ j < 17 * t + 17) → τ 36 j = σ 36 j) : RM (tblV V t n) τ := by
  have e0 : ∀ a j, a ≠ 7 → a ≠ 8 + t → tblV V t n a j = V a j := fun a j q1 q2 => by simp [tblV, q1, q2]
  have ec : ∀ a, a ≠ 7 → a ≠ 8 + t → tblV V t n a = V a := fun a q1 q2 => funext fun j => e0 a j q1 q2
  unfold RM at h ⊢
  obtain ⟨g1, g2, g3, g4, g5, g6, g7, g8, g9, g10⟩ := h
  rw [ec 0 (by omega) (by omega), ec 1 (by omega) (by omega), ec 2 (by omega) (by omega), ec 14 (by omega) (by omega), ec 15 (by omega) (by omega), ec 16 (by omega) (by omega), ec 17 (by omega) (by omega), ec 18 (by omega) (by omega), h1 30 (by decide) (by decide), h1 31 (by decide) (by decide), h1 32 (by decide) (by decide), h1 33 (by decide) (by decide), h1 34 (by decide) (by decide), h1 37 (by decide) (by decide), h1 38 (by decide) (by decide), h1 39 (by decide) (by decide)]
  refine ⟨g1, g2, fun r hr => ?_, fun u hu => ?_, fun u hu d a b => ?_, g6, g7, g8, g9, g10.imp id (fun e => ⟨e.1, fun r hr => ?_⟩)⟩
  · rw [ec (3 + r) (by omega) (by omega), ec (5 + r) (by omega) (by omega)]; exact g3 r hr
  · by_cases hu2 : u = t
    · subst hu2; rw [h2]; simp [tblV]
    · rw [h3 u hu hu2, g4 u hu]
      simp only [tblV]
      rw [if_neg (by omega), if_neg (by omega)]
  · by_cases hu2 : u = t
    · subst hu2; rw [h4 d a b]; simp only [tblV]; rw [if_neg (by omega), if_pos trivial]
    · rw [h5 _ (by omega), e0 _ _ (by omega) (by omega)]
      exact g5 u hu d a b
  · unfold unb
    rw [ec (5 + r) (by omega) (by omega), ec 0 (by omega) (by omega)]
    exact e.2 r hr

theorem k_table_lp {b : Int} {V σ : Mem} (hi : Inv b V) (h : RM V σ) (t : Nat) (q : Int) (ht : t < 6) (hq : -1 ≤ q ∧ q ≤ 17) : ∀ (n : Nat) (k : Int) (τ : Mem), 0 ≤ k → k ≤ 17 → 17 - k < n → (∀ a, a ≠ 35 → a ≠ 36 → τ a = σ a) → τ 35 t = q → (∀ u : Nat, u < 6 → u ≠ t → τ 35 u = σ 35 u) → (∀ d, 0 ≤ d → d < k → τ 36 (17 * t + d) = 0) → (∀ j : Int, ¬ (17 * t ≤ j ∧ j < 17 * t + 17) → τ 36 j = σ 36 j) → Go 41 mX7_table 31 [some (aR 30), some (aI t), some (aI q), some (aI k)] [] τ (OM σ (p_table V t q)) := by
  intro n
  induction n with
  | zero => intros; omega
  | succ n ih =>
    intro k τ k0 k1 kn h1 h2 h3 h4 h5
    refine g_iload_n dX7_table_31 rfl ?_
    refine g_bipush (v := 17) dX7_table_32 (by decide) ?_
    refine g_icmp_ge (tgt := 55) dX7_table_34 (by decide) (by omega) (by omega) (fun h34 => ?_) (fun h34 => ?_)
    · have hk : k = 17 := by omega
      subst hk
      have hR := h.tbl ht h1 h2 h3 h4 h5
      have hK : keepM σ τ := fun a ha => h1 a (by omega) (by omega)
      refine g_iload_n dX7_table_55 rfl ?_
      refine g_if_ge (tgt := 63) dX7_table_56 (by decide) (by omega) (fun h56 => ?_) (fun h56 => ?_)
      · refine g_iload_n dX7_table_63 rfl ?_
        exact g_iret dX7_table_64 trivial (by first | exact OM.of (q := (0, tblV V t q)) (by unfold p_table; rw [if_neg (by omega), if_pos (by omega), Int.toNat_natCast]) rfl hR hK | exact OM.of (q := (q, tblV V t q)) (by unfold p_table; rw [if_neg (by omega), if_neg (by omega), Int.toNat_natCast]) rfl hR hK)
      · refine g_iconst dX7_table_59 ?_
        refine g_goto (tgt := 64) dX7_table_60 (by decide) ?_
        exact g_iret dX7_table_64 trivial (by first | exact OM.of (q := (0, tblV V t q)) (by unfold p_table; rw [if_neg (by omega), if_pos (by omega), Int.toNat_natCast]) rfl hR hK | exact OM.of (q := (q, tblV V t q)) (by unfold p_table; rw [if_neg (by omega), if_neg (by omega), Int.toNat_natCast]) rfl hR hK)
    · refine g_aload_n dX7_table_37 rfl ?_
      refine g_getR dX7_table_38 fX7_26 rfl rfl (by decide) ?_
      refine g_bipush (v := 17) dX7_table_41 (by decide) ?_
      refine g_iload_n dX7_table_43 rfl ?_
      refine g_imul dX7_table_44 ?_
      refine g_iload_n dX7_table_45 rfl ?_
      refine g_iadd dX7_table_46 ?_
      refine g_iconst dX7_table_47 ?_
      refine g_iastore dX7_table_48 rfl (by decide) (by decide) (by omega) (by omega) (by decide) ?_
      refine g_iinc dX7_table_49 rfl (by decide) ?_
      refine g_goto (tgt := 31) dX7_table_52 (by decide) ?_
      exact ih (k + 1) _ (by omega) (by omega) (by omega) (fun a a1 a2 => by rw [up_cell (by omega)]; exact h1 a a1 a2) (by rw [up_cell (by decide)]; exact h2) (fun u u1 u2 => by rw [up_cell (by decide)]; exact h3 u u1 u2) (fun d d0 d1 => by
        by_cases hd : d = k
        · rw [hd, up_same]
        · rw [up_ne (Or.inr (by omega))]; exact h4 d d0 (by omega)) (fun j hj => by rw [up_ne (Or.inr (by omega))]; exact h5 j hj)

theorem k_table {b : Int} {V σ : Mem} (hi : Inv b V) (h : RM V σ) (t : Int) (q : Int) (i_t : i32 t) (i_q : i32 q)  : Ret 41 mX7_table [aR 30, aI t, aI q] σ (OM σ (p_table V t q)) := by
  refine Ret.of [some (aR 30), some (aI t), some (aI q), none] rfl (plainFor_of_name (by decide)) (Nat.le_of_ble_eq_true rfl) ?_
  have hN := hi.N
  refine g_iload_n dX7_table_0 rfl ?_
  refine g_iconst dX7_table_1 ?_
  refine g_iconst dX7_table_2 ?_
  refine g_pS3 dX7_table_3 sX7_70 (by decide) (by decide) (c_isIn _ _ _ (by omega) (by omega) (by omega)) ?_
  refine g_ifb_eq (tgt := 19) dX7_table_6 (by decide) (fun h6 => ?_) (fun h6 => ?_)
  · refine g_ldc dX7_table_19 kX7_78 ?_
    exact g_iret dX7_table_21 trivial (OM.of (q := (cBad, V)) (by unfold p_table; rw [if_pos (by omega)]) rfl h keepM.rfl)
  · refine g_iload_n dX7_table_9 rfl ?_
    refine g_iconst dX7_table_10 ?_
    refine g_bipush (v := 17) dX7_table_11 (by decide) ?_
    refine g_pS3 dX7_table_13 sX7_70 (by decide) (by decide) (c_isIn _ _ _ (by omega) (by omega) (by omega)) ?_
    refine g_ifb_ne (tgt := 22) dX7_table_16 (by decide) (fun h16 => ?_) (fun h16 => ?_)
    · obtain ⟨u, rfl⟩ : ∃ u : Nat, t = u := ⟨t.toNat, by omega⟩
      refine g_aload_n dX7_table_22 rfl ?_
      refine g_getR dX7_table_23 fX7_23 rfl rfl (by decide) ?_
      refine g_iload_n dX7_table_26 rfl ?_
      refine g_iload_n dX7_table_27 rfl ?_
      refine g_iastore dX7_table_28 rfl (by decide) (by decide) (by omega) (by omega) (by decide) ?_
      refine g_iconst dX7_table_29 ?_
      refine g_istore_n (i := 3) dX7_table_30 rfl (by decide) ?_
      exact k_table_lp hi h u q (by omega) (by omega) 18 0 _ (by omega) (by omega) (by omega) (fun a a1 a2 => up_cell a1) up_same (fun v v1 v2 => up_ne (Or.inr (by omega))) (fun d d0 d1 => by omega) (fun j hj => by rw [up_cell (by decide)])
    · refine g_ldc dX7_table_19 kX7_78 ?_
      exact g_iret dX7_table_21 trivial (OM.of (q := (cBad, V)) (by unfold p_table; rw [if_pos (by omega)]) rfl h keepM.rfl)

theorem RM.cpy {V σ τ : Mem} {f t : Nat} {n : Int} (h : RM V σ) (hf : f < 6) (ht : t < 6) (hn : n ≤ 17) (h1 : ∀ a, a ≠ 36 → τ a = σ a) (h4 : ∀ d, 0 ≤ d → d < n → τ 36 (17 * t + d) = σ 36 (17 * f + d)) (h5 : ∀ j : Int, ¬ (17 * t ≤ j ∧ j < 17 * t + n) → τ 36 j = σ 36 j) : RM (cpyV V f t n) τ := by
  have e0 : ∀ a j, a ≠ 8 + t → cpyV V f t n a j = V a j := fun a j q2 => by simp [cpyV, q2]
  have ec : ∀ a, a ≠ 8 + t → cpyV V f t n a = V a := fun a q2 => funext fun j => e0 a j q2
  unfold RM at h ⊢
  obtain ⟨g1, g2, g3, g4, g5, g6, g7, g8, g9, g10⟩ := h
  rw [ec 0 (by omega), ec 1 (by omega), ec 2 (by omega), ec 7 (by omega), ec 14 (by omega), ec 15 (by omega), ec 16 (by omega), ec 17 (by omega), ec 18 (by omega), h1 30 (by decide), h1 31 (by decide), h1 32 (by decide), h1 33 (by decide), h1 34 (by decide), h1 35 (by decide), h1 37 (by decide), h1 38 (by decide), h1 39 (by decide)]
  refine ⟨g1, g2, fun r hr => ?_, g4, fun u hu d a b => ?_, g6, g7, g8, g9, g10.imp id (fun e => ⟨e.1, fun r hr => ?_⟩)⟩
  · rw [ec (3 + r) (by omega), ec (5 + r) (by omega)]; exact g3 r hr
  · by_cases hu2 : u = t
    · subst hu2
      by_cases hd : d < n
      · rw [h4 d a hd, g5 f hf d a b]
        simp only [cpyV]
        rw [if_pos ⟨trivial, a, hd⟩]
      · rw [h5 _ (by omega), g5 u hu d a b]
        simp only [cpyV]
        rw [if_neg (by omega)]
    · rw [h5 _ (by omega), e0 _ _ (by omega)]
      exact g5 u hu d a b
  · unfold unb
    rw [ec (5 + r) (by omega), ec 0 (by omega)]
    exact e.2 r hr

theorem k_copy_lp {b : Int} {V σ : Mem} (hi : Inv b V) (h : RM V σ) (f t : Nat) (q : Int) (hf : f < 6) (ht : t < 6) (hq : 0 ≤ q ∧ q ≤ V 7 f ∧ q ≤ V 7 t) (hq7 : q ≤ 17) : ∀ (n : Nat) (k : Int) (τ : Mem), 0 ≤ k → k ≤ q → q - k < n → (∀ a, a ≠ 36 → τ a = σ a) → (∀ d, 0 ≤ d → d < k → τ 36 (17 * t + d) = σ 36 (17 * f + d)) → (∀ j : Int, ¬ (17 * t ≤ j ∧ j < 17 * t + k) → τ 36 j = σ 36 j) → Go 41 mX7_copy 72 [some (aR 30), some (aI f), some (aI t), some (aI q), some (aI k)] [] τ (OM σ (p_copy V f t q)) := by
  intro n
  induction n with
  | zero => intros; omega
  | succ n ih =>
    intro k τ k0 k1 kn h1 h4 h5
    refine g_iload dX7_copy_72 rfl ?_
    refine g_iload_n dX7_copy_74 rfl ?_
    refine g_icmp_ge (tgt := 108) dX7_copy_75 (by decide) (by omega) (by omega) (fun h75 => ?_) (fun h75 => ?_)
    · refine g_iload_n dX7_copy_108 rfl ?_
      exact g_iret dX7_copy_109 trivial (OM.of (q := (q, cpyV V f t q)) (by unfold p_copy; rw [if_neg (by omega), if_neg (by omega), if_neg (by omega), Int.toNat_natCast, Int.toNat_natCast]) rfl (h.cpy hf ht hq7 h1 (by rw [show q = k by omega]; exact h4) (by rw [show q = k by omega]; exact h5)) (fun a ha => h1 a (by omega)))
    · refine g_aload_n dX7_copy_78 rfl ?_
      refine g_getR dX7_copy_79 fX7_26 rfl rfl (by decide) ?_
      refine g_bipush (v := 17) dX7_copy_82 (by decide) ?_
      refine g_iload_n dX7_copy_84 rfl ?_
      refine g_imul dX7_copy_85 ?_
      refine g_iload dX7_copy_86 rfl ?_
      refine g_iadd dX7_copy_88 ?_
      refine g_aload_n dX7_copy_89 rfl ?_
      refine g_getR dX7_copy_90 fX7_26 rfl rfl (by decide) ?_
      refine g_bipush (v := 17) dX7_copy_93 (by decide) ?_
      refine g_iload_n dX7_copy_95 rfl ?_
      refine g_imul dX7_copy_96 ?_
      refine g_iload dX7_copy_97 rfl ?_
      refine g_iadd dX7_copy_99 ?_
      refine g_iaload dX7_copy_100 rfl (by decide) (by omega) (by omega) (by decide) ?_
      refine g_iastore dX7_copy_101 rfl (by decide) (by decide) (by omega) (by omega) (by decide) ?_
      refine g_iinc dX7_copy_102 rfl (by decide) ?_
      refine g_goto (tgt := 72) dX7_copy_105 (by decide) ?_
      have hsrc : τ 36 (17 * f + k) = σ 36 (17 * f + k) := by
        by_cases hft : f = t
        · subst hft; exact h5 _ (by omega)
        · exact h5 _ (by omega)
      rw [hsrc]
      exact ih (k + 1) _ (by omega) (by omega) (by omega) (fun a a1 => by rw [up_cell a1]; exact h1 a a1) (fun d d0 d1 => by
        by_cases hd : d = k
        · rw [hd, up_same]
        · rw [up_ne (Or.inr (by omega))]; exact h4 d d0 (by omega)) (fun j hj => by rw [up_ne (Or.inr (by omega))]; exact h5 j (by omega))

theorem k_copy {b : Int} {V σ : Mem} (hi : Inv b V) (h : RM V σ) (f : Int) (t : Int) (q : Int) (i_f : i32 f) (i_t : i32 t) (i_q : i32 q)  : Ret 41 mX7_copy [aR 30, aI f, aI t, aI q] σ (OM σ (p_copy V f t q)) := by
  refine Ret.of [some (aR 30), some (aI f), some (aI t), some (aI q), none] rfl (plainFor_of_name (by decide)) (Nat.le_of_ble_eq_true rfl) ?_
  have hN := hi.N
  refine g_iload_n dX7_copy_0 rfl ?_
  refine g_iconst dX7_copy_1 ?_
  refine g_iconst dX7_copy_2 ?_
  refine g_pS3 dX7_copy_3 sX7_70 (by decide) (by decide) (c_isIn _ _ _ (by omega) (by omega) (by omega)) ?_
  refine g_ifb_eq (tgt := 18) dX7_copy_6 (by decide) (fun h6 => ?_) (fun h6 => ?_)
  · refine g_ldc dX7_copy_18 kX7_78 ?_
    exact g_iret dX7_copy_20 trivial (OM.of (q := (cBad, V)) (by unfold p_copy; rw [if_pos (by omega)]) rfl h keepM.rfl)
  · refine g_iload_n dX7_copy_9 rfl ?_
    refine g_iconst dX7_copy_10 ?_
    refine g_iconst dX7_copy_11 ?_
    refine g_pS3 dX7_copy_12 sX7_70 (by decide) (by decide) (c_isIn _ _ _ (by omega) (by omega) (by omega)) ?_
    refine g_ifb_ne (tgt := 21) dX7_copy_15 (by decide) (fun h15 => ?_) (fun h15 => ?_)
    · obtain ⟨u, rfl⟩ : ∃ u : Nat, f = u := ⟨f.toNat, by omega⟩
      obtain ⟨v, rfl⟩ : ∃ u : Nat, t = u := ⟨t.toNat, by omega⟩
      have hz := hi.size u (by omega)
      have hz2 := hi.size v (by omega)
      refine g_aload_n dX7_copy_21 rfl ?_
      refine g_getR dX7_copy_22 fX7_23 rfl rfl (by decide) ?_
      refine g_iload_n dX7_copy_25 rfl ?_
      refine g_iaload dX7_copy_26 rfl (by decide) (by omega) (by omega) (by decide) ?_
      rw [h.size u (by omega)]
      refine g_if_lt (tgt := 39) dX7_copy_27 (by decide) (by omega) (fun h27 => ?_) (fun h27 => ?_)
      · refine g_ldc dX7_copy_39 kX7_86 ?_
        exact g_iret dX7_copy_41 trivial (OM.of (q := (cNothing, V)) (by unfold p_copy; rw [if_neg (by omega), if_pos (by omega)]) rfl h keepM.rfl)
      · refine g_aload_n dX7_copy_30 rfl ?_
        refine g_getR dX7_copy_31 fX7_23 rfl rfl (by decide) ?_
        refine g_iload_n dX7_copy_34 rfl ?_
        refine g_iaload dX7_copy_35 rfl (by decide) (by omega) (by omega) (by decide) ?_
        rw [h.size v (by omega)]
        refine g_if_ge (tgt := 42) dX7_copy_36 (by decide) (by omega) (fun h36 => ?_) (fun h36 => ?_)
        · refine g_iload_n dX7_copy_42 rfl ?_
          refine g_iconst dX7_copy_43 ?_
          refine g_aload_n dX7_copy_44 rfl ?_
          refine g_getR dX7_copy_45 fX7_23 rfl rfl (by decide) ?_
          refine g_iload_n dX7_copy_48 rfl ?_
          refine g_iaload dX7_copy_49 rfl (by decide) (by omega) (by omega) (by decide) ?_
          rw [h.size u (by omega)]
          refine g_pS3 dX7_copy_50 sX7_70 (by decide) (by decide) (c_isIn _ _ _ (by omega) (by omega) (by omega)) ?_
          refine g_ifb_eq (tgt := 66) dX7_copy_53 (by decide) (fun h53 => ?_) (fun h53 => ?_)
          · refine g_ldc dX7_copy_66 kX7_87 ?_
            exact g_iret dX7_copy_68 trivial (OM.of (q := (cIndex, V)) (by unfold p_copy; rw [if_neg (by omega), if_neg (by omega), if_pos (by omega)]) rfl h keepM.rfl)
          · refine g_iload_n dX7_copy_56 rfl ?_
            refine g_aload_n dX7_copy_57 rfl ?_
            refine g_getR dX7_copy_58 fX7_23 rfl rfl (by decide) ?_
            refine g_iload_n dX7_copy_61 rfl ?_
            refine g_iaload dX7_copy_62 rfl (by decide) (by omega) (by omega) (by decide) ?_
            rw [h.size v (by omega)]
            refine g_icmp_le (tgt := 69) dX7_copy_63 (by decide) (by omega) (by omega) (fun h63 => ?_) (fun h63 => ?_)
            · refine g_iconst dX7_copy_69 ?_
              refine g_istore dX7_copy_70 (by decide) ?_
              exact k_copy_lp hi h u v q (by omega) (by omega) (by omega) (by omega) 18 0 _ (by omega) (by omega) (by omega) (fun a a1 => rfl) (fun d d0 d1 => by omega) (fun j hj => rfl)
            · refine g_ldc dX7_copy_66 kX7_87 ?_
              exact g_iret dX7_copy_68 trivial (OM.of (q := (cIndex, V)) (by unfold p_copy; rw [if_neg (by omega), if_neg (by omega), if_pos (by omega)]) rfl h keepM.rfl)
        · refine g_ldc dX7_copy_39 kX7_86 ?_
          exact g_iret dX7_copy_41 trivial (OM.of (q := (cNothing, V)) (by unfold p_copy; rw [if_neg (by omega), if_pos (by omega)]) rfl h keepM.rfl)
    · refine g_ldc dX7_copy_18 kX7_78 ?_
      exact g_iret dX7_copy_20 trivial (OM.of (q := (cBad, V)) (by unfold p_copy; rw [if_pos (by omega)]) rfl h keepM.rfl)
end
section
def bgI (σ τ : Mem) (n k : Int) : Prop := τ 30 0 = n ∧ τ 30 9 = 0 ∧ (0 < k → τ 30 15 = 0) ∧ (∀ j, 0 ≤ j → j < k → τ 31 j = (if j % 2 = 0 then 1 else 2) ∧ τ 32 j = 500 ∧ τ 33 j = 0 ∧ τ 33 (32 + j) = 0 ∧ τ 34 j = -10000 ∧ τ 34 (32 + j) = -10000) ∧ (∀ a, (a < 30 ∨ 34 < a) → τ a = σ a) ∧ (∀ j, j ≠ 0 → j ≠ 9 → j ≠ 15 → τ 30 j = σ 30 j)
theorem bgI.step {σ τ τ' : Mem} {n k : Int} (h : bgI σ τ n k) (h0 : 0 ≤ k) (h1 : k < 32) (e0 : τ' 30 = up τ 30 15 0 30) (e1 : τ' 31 = up τ 31 k (if k % 2 = 0 then 1 else 2) 31) (e2 : τ' 32 = up τ 32 k 500 32) (e3 : τ' 33 = up (up τ 33 k 0) 33 (32 + k) 0 33) (e4 : τ' 34 = up (up τ 34 k (-10000)) 34 (32 + k) (-10000) 34) (e5 : ∀ a, (a < 30 ∨ 34 < a) → τ' a = τ a) : bgI σ τ' n (k + 1) := by
  obtain ⟨a0, a1, a2, a3, a4, a5⟩ := h
  unfold bgI
  rw [e0, e1, e2, e3, e4]
  refine ⟨by rw [up_ne (Or.inr (by decide))]; exact a0, by rw [up_ne (Or.inr (by decide))]; exact a1, fun _ => up_same, fun j j0 j1 => ?_, fun a ha => (e5 a ha).trans (a4 a ha), fun j q0 q1 q2 => by rw [up_ne (Or.inr q2)]; exact a5 j q0 q1 q2⟩
  by_cases hj : j = k
  · subst hj
    refine ⟨up_same, up_same, ?_, up_same, ?_, up_same⟩
    · rw [up_ne (Or.inr (by omega)), up_same]
    · rw [up_ne (Or.inr (by omega)), up_same]
  · obtain ⟨b1, b2, b3, b4, b5, b6⟩ := a3 j j0 (by omega)
    refine ⟨by rw [up_ne (Or.inr hj)]; exact b1, by rw [up_ne (Or.inr hj)]; exact b2, ?_, ?_, ?_, ?_⟩
    · rw [up_ne (Or.inr (by omega)), up_ne (Or.inr hj)]; exact b3
    · rw [up_ne (Or.inr (by omega)), up_ne (Or.inr (by omega))]; exact b4
    · rw [up_ne (Or.inr (by omega)), up_ne (Or.inr hj)]; exact b5
    · rw [up_ne (Or.inr (by omega)), up_ne (Or.inr (by omega))]; exact b6
theorem RM.whl {V σ τ : Mem} {n : Int} (h : RM V σ) (hn : n = 8 ∨ n = 16 ∨ n = 32) (hb : bgI σ τ n 32) : RM (whlV V n) τ := by
  obtain ⟨a0, a1, a2, a3, a4, a5⟩ := hb
  unfold RM at h ⊢
  obtain ⟨g1, g2, g3, g4, g5, g6, g7, g8, g9, g10⟩ := h
  have e0 : whlV V n 0 0 = n := by simp [whlV]
  have e17 : whlV V n 17 0 = 0 := by simp [whlV]
  rw [e0, e17]
  refine ⟨a0, fun j j0 j1 => ?_, fun r hr j j0 j1 => ?_, fun t ht => ?_, fun t ht d d0 d1 => ?_, fun i i0 i1 => ?_, a1, fun i i0 i1 => by omega, ?_, Or.inl (a2 (by decide))⟩
  · obtain ⟨b1, b2, -⟩ := a3 j j0 (by omega)
    exact ⟨by rw [b1]; simp [whlV], by rw [b2]; simp [whlV]⟩
  · obtain ⟨-, -, b3, b4, b5, b6⟩ := a3 j j0 (by omega)
    rcases (show r = 0 ∨ r = 1 by omega) with rfl | rfl
    · simp only [whlV]
      simp
      exact ⟨b3, b5⟩
    · simp only [whlV]
      simp
      exact ⟨b4, b6⟩
  · rw [a4 35 (by omega), g4 t ht]; simp [whlV]
  · rw [a4 36 (by omega), g5 t ht d d0 d1]
    simp only [whlV]
    rw [if_neg (by omega), if_neg (by omega), if_neg (by omega), if_neg (by omega), if_neg (by omega), if_neg (by omega)]
  · rw [a4 37 (by omega), g6 i i0 i1]; simp [whlV]
  · rw [a5 10 (by decide) (by decide) (by decide), a5 11 (by decide) (by decide) (by decide), a5 12 (by decide) (by decide) (by decide), a5 13 (by decide) (by decide) (by decide)]
    simpa [whlV] using g9

theorem k_begin_lp {σ : Mem} (q : Int) : ∀ (n : Nat) (k : Int) (τ : Mem), 0 ≤ k → k ≤ 32 → 32 - k < n → bgI σ τ q k → Go 41 mX7_begin 12 [some (aR 30), some (aI q), some (aI k)] [] τ (fun r τ => r = none ∧ bgI σ τ q 32) := by
  intro n
  induction n with
  | zero => intros; omega
  | succ n ih =>
    intro k τ k0 k1 kn hb
    refine g_iload_n dX7_begin_12 rfl ?_
    refine g_bipush (v := 32) dX7_begin_13 (by decide) ?_
    refine g_icmp_ge (tgt := 93) dX7_begin_15 (by decide) (by omega) (by omega) (fun h15 => ?_) (fun h15 => ?_)
    · exact g_vret dX7_begin_93 trivial ⟨rfl, by rw [show (32 : Int) = k by omega]; exact hb⟩
    · refine g_aload_n dX7_begin_18 rfl ?_
      refine g_getR dX7_begin_19 fX7_7 rfl rfl (by decide) ?_
      refine g_iload_n dX7_begin_22 rfl ?_
      refine g_iload_n dX7_begin_23 rfl ?_
      refine g_iconst dX7_begin_24 ?_
      refine g_irem dX7_begin_25 (by omega) (by omega) (by omega) ?_
      rw [modN0 k0]
      refine g_if_ne (tgt := 33) dX7_begin_26 (by decide) (by omega) (fun h26 => ?_) (fun h26 => ?_)
      · refine g_iconst dX7_begin_33 ?_
        refine g_iastore dX7_begin_34 rfl (by decide) (by decide) (by omega) (by omega) (by decide) ?_
        refine g_aload_n dX7_begin_35 rfl ?_
        refine g_getR dX7_begin_36 fX7_13 rfl rfl (by decide) ?_
        refine g_iload_n dX7_begin_39 rfl ?_
        refine g_ldc2 dX7_begin_40 lX7_64 ?_
        refine g_lastore dX7_begin_43 rfl (by decide) (by decide) (by omega) (by omega) (by decide) ?_
        refine g_aload_n dX7_begin_44 rfl ?_
        refine g_getR dX7_begin_45 fX7_17 rfl rfl (by decide) ?_
        refine g_iload_n dX7_begin_48 rfl ?_
        refine g_lconst (v := 0) dX7_begin_49 (by decide) ?_
        refine g_lastore dX7_begin_50 rfl (by decide) (by decide) (by omega) (by omega) (by decide) ?_
        refine g_aload_n dX7_begin_51 rfl ?_
        refine g_getR dX7_begin_52 fX7_17 rfl rfl (by decide) ?_
        refine g_bipush (v := 32) dX7_begin_55 (by decide) ?_
        refine g_iload_n dX7_begin_57 rfl ?_
        refine g_iadd dX7_begin_58 ?_
        refine g_lconst (v := 0) dX7_begin_59 (by decide) ?_
        refine g_lastore dX7_begin_60 rfl (by decide) (by decide) (by omega) (by omega) (by decide) ?_
        refine g_aload_n dX7_begin_61 rfl ?_
        refine g_iconst dX7_begin_62 ?_
        refine g_putZ (ji := 15) rfl dX7_begin_63 vX7_66 rfl rfl (by decide) (by decide) (by omega) ?_
        refine g_aload_n dX7_begin_66 rfl ?_
        refine g_getR dX7_begin_67 fX7_20 rfl rfl (by decide) ?_
        refine g_iload_n dX7_begin_70 rfl ?_
        refine g_sipush (v := -10000) dX7_begin_71 (by decide) ?_
        refine g_iastore dX7_begin_74 rfl (by decide) (by decide) (by omega) (by omega) (by decide) ?_
        refine g_aload_n dX7_begin_75 rfl ?_
        refine g_getR dX7_begin_76 fX7_20 rfl rfl (by decide) ?_
        refine g_bipush (v := 32) dX7_begin_79 (by decide) ?_
        refine g_iload_n dX7_begin_81 rfl ?_
        refine g_iadd dX7_begin_82 ?_
        refine g_sipush (v := -10000) dX7_begin_83 (by decide) ?_
        refine g_iastore dX7_begin_86 rfl (by decide) (by decide) (by omega) (by omega) (by decide) ?_
        refine g_iinc dX7_begin_87 rfl (by decide) ?_
        refine g_goto (tgt := 12) dX7_begin_90 (by decide) ?_
        refine ih (k + 1) _ (by omega) (by omega) (by omega) (hb.step k0 (by omega) rfl (by first | (rw [if_pos (by omega)]; rfl) | (rw [if_neg (by omega)]; rfl)) rfl rfl rfl (fun a ha => by rw [up_cell (by omega), up_cell (by omega), up_cell (by omega), up_cell (by omega), up_cell (by omega), up_cell (by omega), up_cell (by omega)]))
      · refine g_iconst dX7_begin_29 ?_
        refine g_goto (tgt := 34) dX7_begin_30 (by decide) ?_
        refine g_iastore dX7_begin_34 rfl (by decide) (by decide) (by omega) (by omega) (by decide) ?_
        refine g_aload_n dX7_begin_35 rfl ?_
        refine g_getR dX7_begin_36 fX7_13 rfl rfl (by decide) ?_
        refine g_iload_n dX7_begin_39 rfl ?_
        refine g_ldc2 dX7_begin_40 lX7_64 ?_
        refine g_lastore dX7_begin_43 rfl (by decide) (by decide) (by omega) (by omega) (by decide) ?_
        refine g_aload_n dX7_begin_44 rfl ?_
        refine g_getR dX7_begin_45 fX7_17 rfl rfl (by decide) ?_
        refine g_iload_n dX7_begin_48 rfl ?_
        refine g_lconst (v := 0) dX7_begin_49 (by decide) ?_
        refine g_lastore dX7_begin_50 rfl (by decide) (by decide) (by omega) (by omega) (by decide) ?_
        refine g_aload_n dX7_begin_51 rfl ?_
        refine g_getR dX7_begin_52 fX7_17 rfl rfl (by decide) ?_
        refine g_bipush (v := 32) dX7_begin_55 (by decide) ?_
        refine g_iload_n dX7_begin_57 rfl ?_
        refine g_iadd dX7_begin_58 ?_
        refine g_lconst (v := 0) dX7_begin_59 (by decide) ?_
        refine g_lastore dX7_begin_60 rfl (by decide) (by decide) (by omega) (by omega) (by decide) ?_
        refine g_aload_n dX7_begin_61 rfl ?_
        refine g_iconst dX7_begin_62 ?_
        refine g_putZ (ji := 15) rfl dX7_begin_63 vX7_66 rfl rfl (by decide) (by decide) (by omega) ?_
        refine g_aload_n dX7_begin_66 rfl ?_
        refine g_getR dX7_begin_67 fX7_20 rfl rfl (by decide) ?_
        refine g_iload_n dX7_begin_70 rfl ?_
        refine g_sipush (v := -10000) dX7_begin_71 (by decide) ?_
        refine g_iastore dX7_begin_74 rfl (by decide) (by decide) (by omega) (by omega) (by decide) ?_
        refine g_aload_n dX7_begin_75 rfl ?_
        refine g_getR dX7_begin_76 fX7_20 rfl rfl (by decide) ?_
        refine g_bipush (v := 32) dX7_begin_79 (by decide) ?_
        refine g_iload_n dX7_begin_81 rfl ?_
        refine g_iadd dX7_begin_82 ?_
        refine g_sipush (v := -10000) dX7_begin_83 (by decide) ?_
        refine g_iastore dX7_begin_86 rfl (by decide) (by decide) (by omega) (by omega) (by decide) ?_
        refine g_iinc dX7_begin_87 rfl (by decide) ?_
        refine g_goto (tgt := 12) dX7_begin_90 (by decide) ?_
        refine ih (k + 1) _ (by omega) (by omega) (by omega) (hb.step k0 (by omega) rfl (by first | (rw [if_pos (by omega)]; rfl) | (rw [if_neg (by omega)]; rfl)) rfl rfl rfl (fun a ha => by rw [up_cell (by omega), up_cell (by omega), up_cell (by omega), up_cell (by omega), up_cell (by omega), up_cell (by omega), up_cell (by omega)]))

theorem k_begin {σ : Mem} (q : Int) : Ret 41 mX7_begin [aR 30, aI q] σ (fun r τ => r = none ∧ bgI σ τ q 32) := by
  refine Ret.of [some (aR 30), some (aI q), none] rfl (plainFor_of_name (by decide)) (Nat.le_of_ble_eq_true rfl) ?_
  refine g_aload_n dX7_begin_0 rfl ?_
  refine g_iload_n dX7_begin_1 rfl ?_
  refine g_putI (ji := 0) rfl dX7_begin_2 vX7_58 rfl rfl (by decide) (by decide) ?_
  refine g_aload_n dX7_begin_5 rfl ?_
  refine g_iconst dX7_begin_6 ?_
  refine g_putI (ji := 9) rfl dX7_begin_7 vX7_61 rfl rfl (by decide) (by decide) ?_
  refine g_iconst dX7_begin_10 ?_
  refine g_istore_n (i := 2) dX7_begin_11 rfl (by decide) ?_
  exact k_begin_lp q 33 0 _ (by omega) (by omega) (by omega) ⟨by rw [up_ne (Or.inr (by decide)), up_same], up_same, fun h => by omega, fun j j0 j1 => by omega, fun a ha => by rw [up_cell (by omega), up_cell (by omega)], fun j q0 q1 q2 => by rw [up_ne (Or.inr q1), up_ne (Or.inr q0)]⟩

theorem k_wheel {b : Int} {V σ : Mem} (hi : Inv b V) (h : RM V σ) (n : Int) (i_n : i32 n)  : Ret 41 mX7_wheel [aR 30, aI n] σ (OM σ (p_wheel V n)) := by
  refine Ret.of [some (aR 30), some (aI n)] rfl (plainFor_of_name (by decide)) (Nat.le_of_ble_eq_true rfl) ?_
  have hN := hi.N
  refine g_iload_n dX7_wheel_0 rfl ?_
  refine g_bipush (v := 8) dX7_wheel_1 (by decide) ?_
  refine g_icmp_eq (tgt := 21) dX7_wheel_3 (by decide) (by omega) (by omega) (fun h3 => ?_) (fun h3 => ?_)
  · refine g_aload_n dX7_wheel_21 rfl ?_
    refine g_iload_n dX7_wheel_22 rfl ?_
    refine g_vV1 dX7_wheel_23 qX7_54 rfl (by decide) (by decide) (by decide) (k_begin n) ?_
    intro τ hb
    refine g_iload_n dX7_wheel_26 rfl ?_
    exact g_iret dX7_wheel_27 trivial (OM.of (q := (n, whlV V n)) (by unfold p_wheel; rw [if_pos (by omega)]) rfl (h.whl (by omega) hb) (fun a ha => hb.2.2.2.2.1 a (by omega)))
  · refine g_iload_n dX7_wheel_6 rfl ?_
    refine g_bipush (v := 16) dX7_wheel_7 (by decide) ?_
    refine g_icmp_eq (tgt := 21) dX7_wheel_9 (by decide) (by omega) (by omega) (fun h9 => ?_) (fun h9 => ?_)
    · refine g_aload_n dX7_wheel_21 rfl ?_
      refine g_iload_n dX7_wheel_22 rfl ?_
      refine g_vV1 dX7_wheel_23 qX7_54 rfl (by decide) (by decide) (by decide) (k_begin n) ?_
      intro τ hb
      refine g_iload_n dX7_wheel_26 rfl ?_
      exact g_iret dX7_wheel_27 trivial (OM.of (q := (n, whlV V n)) (by unfold p_wheel; rw [if_pos (by omega)]) rfl (h.whl (by omega) hb) (fun a ha => hb.2.2.2.2.1 a (by omega)))
    · refine g_iload_n dX7_wheel_12 rfl ?_
      refine g_bipush (v := 32) dX7_wheel_13 (by decide) ?_
      refine g_icmp_eq (tgt := 21) dX7_wheel_15 (by decide) (by omega) (by omega) (fun h15 => ?_) (fun h15 => ?_)
      · refine g_aload_n dX7_wheel_21 rfl ?_
        refine g_iload_n dX7_wheel_22 rfl ?_
        refine g_vV1 dX7_wheel_23 qX7_54 rfl (by decide) (by decide) (by decide) (k_begin n) ?_
        intro τ hb
        refine g_iload_n dX7_wheel_26 rfl ?_
        exact g_iret dX7_wheel_27 trivial (OM.of (q := (n, whlV V n)) (by unfold p_wheel; rw [if_pos (by omega)]) rfl (h.whl (by omega) hb) (fun a ha => hb.2.2.2.2.1 a (by omega)))
      · refine g_ldc dX7_wheel_18 kX7_78 ?_
        exact g_iret dX7_wheel_20 trivial (OM.of (q := (cBad, V)) (by unfold p_wheel; rw [if_neg (by omega)]) rfl h keepM.rfl)
end
section
theorem c_nx_lp {b : Int} {V σ : Mem} (hi : Inv b V) (h : RM V σ) (r : Nat) (hr : r < 2) (p y : Int) (p0 : 0 ≤ p) (p1 : p < V 0 0) (hu : V (5 + r) p = -10000) (hy : y = 1 ∨ y = -1) : ∀ (n : Nat) (i : Int), 1 ≤ i → i ≤ V 0 0 + 1 → V 0 0 + 1 - i < n → (∀ q, 1 ≤ q → q < i → decide (V (5 + r) ((p + y * q) % V 0 0) ≠ -10000) = false) → Go 41 mX7_next 3 [some (aR 30), some (aI r), some (aI p), some (aI y), some (aI i)] [] σ (fun o τ => o = some (aI (nxS (V (5 + r)) (V 0 0) p y)) ∧ τ = σ) := by
  intro n
  induction n with
  | zero => intros; omega
  | succ n ih =>
    intro i i0 i1 kn hf
    have hN := hi.N
    have hyi : -i ≤ y * i ∧ y * i ≤ i := by rcases hy with rfl | rfl <;> omega
    have hm := modNb (p + y * i) hN
    have hrd := h.read r hr ((p + y * i) % V 0 0) hm.1 hm.2
    have hbd := hi.read r hr ((p + y * i) % V 0 0) hm.1 hm.2
    refine g_iload dX7_next_3 rfl ?_
    refine g_aload_n dX7_next_5 rfl ?_
    refine g_getI (ji := 0) rfl dX7_next_6 fX7_58 rfl rfl (by decide) ?_
    rw [h.N]
    refine g_icmp_gt (tgt := 55) dX7_next_9 (by decide) (by omega) (by omega) (fun h9 => ?_) (fun h9 => ?_)
    · refine g_iconst dX7_next_55 ?_
      exact g_iret dX7_next_56 trivial ⟨by
          unfold nxS
          rw [firstI_no (by omega) (fun q q0 q1 => hf q q0 (by omega))]
          rfl, rfl⟩
    · refine g_aload_n dX7_next_12 rfl ?_
      refine g_getR dX7_next_13 fX7_20 rfl rfl (by decide) ?_
      refine g_bipush (v := 32) dX7_next_16 (by decide) ?_
      refine g_iload_n dX7_next_18 rfl ?_
      refine g_imul dX7_next_19 ?_
      refine g_iload_n dX7_next_20 rfl ?_
      refine g_iload_n dX7_next_21 rfl ?_
      refine g_iload dX7_next_22 rfl ?_
      refine g_imul dX7_next_24 ?_
      refine g_iadd dX7_next_25 ?_
      refine g_aload_n dX7_next_26 rfl ?_
      refine g_getI (ji := 0) rfl dX7_next_27 fX7_58 rfl rfl (by decide) ?_
      rw [h.N]
      refine g_iconst dX7_next_30 ?_
      refine g_imul dX7_next_31 ?_
      refine g_iadd dX7_next_32 ?_
      refine g_aload_n dX7_next_33 rfl ?_
      refine g_getI (ji := 0) rfl dX7_next_34 fX7_58 rfl rfl (by decide) ?_
      rw [h.N]
      refine g_irem dX7_next_37 (by omega) (by omega) (by omega) ?_
      rw [modN2 hN (by omega)]
      refine g_iadd dX7_next_38 ?_
      refine g_iaload dX7_next_39 rfl (by decide) (by omega) (by omega) (by decide) ?_
      rw [hrd]
      refine g_sipush (v := -10000) dX7_next_40 (by decide) ?_
      refine g_icmp_eq (tgt := 49) dX7_next_43 (by decide) (by omega) (by omega) (fun h43 => ?_) (fun h43 => ?_)
      · refine g_iinc dX7_next_49 rfl (by decide) ?_
        refine g_goto (tgt := 3) dX7_next_52 (by decide) ?_
        exact ih (i + 1) (by omega) (by omega) (by omega) (fun q q0 q1 => by
          by_cases hq : q = i
          · rw [hq]; simpa using h43
          · exact hf q q0 (by omega))
      · have hiN : i ≠ V 0 0 := fun he => by
          have e : (p + y * i) % V 0 0 = p := by
            rw [he]
            rcases hy with rfl | rfl <;> rcases hN with hN | hN | hN <;> rw [hN] at p1 ⊢ <;> omega
          rw [e] at h43
          exact h43 hu
        have hz : nxS (V (5 + r)) (V 0 0) p y = i := by
          unfold nxS
          rw [firstI_eq (k := i) (by omega) i0 (by omega) (by simpa using h43) hf]
          omega
        refine g_iload dX7_next_46 rfl ?_
        exact g_iret dX7_next_48 trivial ⟨by rw [hz], rfl⟩

theorem c_nx {b : Int} {V σ : Mem} (hi : Inv b V) (h : RM V σ) (r : Nat) (hr : r < 2) (p y : Int) (p0 : 0 ≤ p) (p1 : p < V 0 0) (hu : V (5 + r) p = -10000) (hy : y = 1 ∨ y = -1) : RetV 41 mX7_next [aR 30, aI r, aI p, aI y] σ (aI (nxS (V (5 + r)) (V 0 0) p y)) := by
  refine Ret.of [some (aR 30), some (aI r), some (aI p), some (aI y), none] rfl (plainFor_of_name (by decide)) (Nat.le_of_ble_eq_true rfl) ?_
  refine g_iconst dX7_next_0 ?_
  refine g_istore dX7_next_1 (by decide) ?_
  have hN := hi.N
  exact c_nx_lp hi h r hr p y p0 p1 hu hy 34 1 (by omega) (by omega) (by omega) (fun q q0 q1 => by omega)

theorem c_between {b : Int} {V σ : Mem} (hi : Inv b V) (h : RM V σ) (r : Nat) (hr : r < 2) (p : Int) (p0 : 0 ≤ p) (p1 : p < V 0 0) : RetV 41 mX7_between [aR 30, aI r, aI p] σ (aL (unb V r p)) := by
  refine Ret.of [some (aR 30), some (aI r), some (aI p), none, none, none, none, none, none] rfl (plainFor_of_name (by decide)) (Nat.le_of_ble_eq_true rfl) ?_
  have hN := hi.N
  have hrd := h.read r hr p p0 p1
  have hbd := hi.read r hr p p0 p1
  have hb1 := nxS_b (V (5 + r)) (V 0 0) p (-1) (by omega)
  have hb2 := nxS_b (V (5 + r)) (V 0 0) p 1 (by omega)
  refine g_aload_n dX7_between_0 rfl ?_
  refine g_getR dX7_between_1 fX7_20 rfl rfl (by decide) ?_
  refine g_bipush (v := 32) dX7_between_4 (by decide) ?_
  refine g_iload_n dX7_between_6 rfl ?_
  refine g_imul dX7_between_7 ?_
  refine g_iload_n dX7_between_8 rfl ?_
  refine g_iadd dX7_between_9 ?_
  refine g_iaload dX7_between_10 rfl (by decide) (by omega) (by omega) (by decide) ?_
  rw [hrd]
  refine g_sipush (v := -10000) dX7_between_11 (by decide) ?_
  refine g_icmp_eq (tgt := 30) dX7_between_14 (by decide) (by omega) (by omega) (fun h14 => ?_) (fun h14 => ?_)
  · refine g_aload_n dX7_between_30 rfl ?_
    refine g_iload_n dX7_between_31 rfl ?_
    refine g_iload_n dX7_between_32 rfl ?_
    refine g_iconst dX7_between_33 ?_
    refine g_pV3 dX7_between_34 qX7_106 rfl (by decide) (by decide) (Nat.le_of_ble_eq_true rfl) (c_nx hi h r hr p (-1) p0 p1 h14 (by omega)) ?_
    refine g_istore_n (i := 3) dX7_between_37 rfl (by decide) ?_
    refine g_aload_n dX7_between_38 rfl ?_
    refine g_iload_n dX7_between_39 rfl ?_
    refine g_iload_n dX7_between_40 rfl ?_
    refine g_iconst dX7_between_41 ?_
    refine g_pV3 dX7_between_42 qX7_106 rfl (by decide) (by decide) (Nat.le_of_ble_eq_true rfl) (c_nx hi h r hr p 1 p0 p1 h14 (by omega)) ?_
    refine g_istore dX7_between_45 (by decide) ?_
    refine g_iload_n dX7_between_47 rfl ?_
    refine g_if_ne (tgt := 53) dX7_between_48 (by decide) (by omega) (fun h48 => ?_) (fun h48 => ?_)
    · have h2 := nxS_both hN h48
      have m1 := modNb (p - nxS (V (5 + r)) (V 0 0) p (-1)) hN
      have m2 := modNb (p + nxS (V (5 + r)) (V 0 0) p 1) hN
      have a1 := hi.read r hr _ m1.1 m1.2
      have a2 := hi.read r hr _ m2.1 m2.2
      have z1 := mulb (a := V (5 + r) ((p - nxS (V (5 + r)) (V 0 0) p (-1)) % V 0 0)) (k := nxS (V (5 + r)) (V 0 0) p 1) (A := 10000) (B := 32) (by omega) (by omega) (by omega) (by omega) (by omega) (by omega)
      have z2 := mulb (a := V (5 + r) ((p + nxS (V (5 + r)) (V 0 0) p 1) % V 0 0)) (k := nxS (V (5 + r)) (V 0 0) p (-1)) (A := 10000) (B := 32) (by omega) (by omega) (by omega) (by omega) (by omega) (by omega)
      refine g_aload_n dX7_between_53 rfl ?_
      refine g_getR dX7_between_54 fX7_20 rfl rfl (by decide) ?_
      refine g_bipush (v := 32) dX7_between_57 (by decide) ?_
      refine g_iload_n dX7_between_59 rfl ?_
      refine g_imul dX7_between_60 ?_
      refine g_iload_n dX7_between_61 rfl ?_
      refine g_iload_n dX7_between_62 rfl ?_
      refine g_isub dX7_between_63 ?_
      refine g_aload_n dX7_between_64 rfl ?_
      refine g_getI (ji := 0) rfl dX7_between_65 fX7_58 rfl rfl (by decide) ?_
      rw [h.N]
      refine g_iadd dX7_between_68 ?_
      refine g_aload_n dX7_between_69 rfl ?_
      refine g_getI (ji := 0) rfl dX7_between_70 fX7_58 rfl rfl (by decide) ?_
      rw [h.N]
      refine g_irem dX7_between_73 (by omega) (by omega) (by omega) ?_
      rw [modN1 hN (by omega)]
      refine g_iadd dX7_between_74 ?_
      refine g_iaload dX7_between_75 rfl (by decide) (by omega) (by omega) (by decide) ?_
      rw [h.read r hr _ m1.1 m1.2]
      refine g_i2l dX7_between_76 (by omega) ?_
      refine g_lstore dX7_between_77 (by decide) ?_
      refine g_aload_n dX7_between_79 rfl ?_
      refine g_getR dX7_between_80 fX7_20 rfl rfl (by decide) ?_
      refine g_bipush (v := 32) dX7_between_83 (by decide) ?_
      refine g_iload_n dX7_between_85 rfl ?_
      refine g_imul dX7_between_86 ?_
      refine g_iload_n dX7_between_87 rfl ?_
      refine g_iload dX7_between_88 rfl ?_
      refine g_iadd dX7_between_90 ?_
      refine g_aload_n dX7_between_91 rfl ?_
      refine g_getI (ji := 0) rfl dX7_between_92 fX7_58 rfl rfl (by decide) ?_
      rw [h.N]
      refine g_irem dX7_between_95 (by omega) (by omega) (by omega) ?_
      rw [modN0 (by omega)]
      refine g_iadd dX7_between_96 ?_
      refine g_iaload dX7_between_97 rfl (by decide) (by omega) (by omega) (by decide) ?_
      rw [h.read r hr _ m2.1 m2.2]
      refine g_i2l dX7_between_98 (by omega) ?_
      refine g_lstore dX7_between_99 (by decide) ?_
      refine g_lload dX7_between_101 rfl ?_
      refine g_iload dX7_between_103 rfl ?_
      refine g_i2l dX7_between_105 (by omega) ?_
      refine g_lmul dX7_between_106 ?_
      refine g_lload dX7_between_107 rfl ?_
      refine g_iload_n dX7_between_109 rfl ?_
      refine g_i2l dX7_between_110 (by omega) ?_
      refine g_lmul dX7_between_111 ?_
      refine g_ladd dX7_between_112 ?_
      refine g_iload_n dX7_between_113 rfl ?_
      refine g_iload dX7_between_114 rfl ?_
      refine g_iadd dX7_between_116 ?_
      refine g_i2l dX7_between_117 (by omega) ?_
      refine g_pS2 dX7_between_118 sX7_110 (by decide) (Nat.le_of_ble_eq_true rfl) (c_cut _ _ (by omega) (by omega) (by omega)) ?_
      exact g_lret dX7_between_121 trivial ⟨by unfold unb unbF; rw [if_neg (by omega), if_neg (by omega)], rfl⟩
    · refine g_lconst (v := 0) dX7_between_51 (by decide) ?_
      exact g_lret dX7_between_52 trivial ⟨by unfold unb unbF; rw [if_neg (by omega), if_pos (Or.inl h48)], rfl⟩
  · refine g_aload_n dX7_between_17 rfl ?_
    refine g_getR dX7_between_18 fX7_20 rfl rfl (by decide) ?_
    refine g_bipush (v := 32) dX7_between_21 (by decide) ?_
    refine g_iload_n dX7_between_23 rfl ?_
    refine g_imul dX7_between_24 ?_
    refine g_iload_n dX7_between_25 rfl ?_
    refine g_iadd dX7_between_26 ?_
    refine g_iaload dX7_between_27 rfl (by decide) (by omega) (by omega) (by decide) ?_
    rw [hrd]
    refine g_i2l dX7_between_28 (by omega) ?_
    exact g_lret dX7_between_29 trivial ⟨by unfold unb unbF; rw [if_pos h14], rfl⟩

def cac (σ τ : Mem) : Prop := (∀ a, a ≠ 39 → a ≠ 30 → τ a = σ a) ∧ (∀ j, j ≠ 15 → τ 30 j = σ 30 j)
theorem cac.rfl {σ : Mem} : cac σ σ := ⟨fun _ _ _ => Eq.refl _, fun _ _ => Eq.refl _⟩
theorem cac.trans {a b c : Mem} (h : cac a b) (k : cac b c) : cac a c := ⟨fun q h1 h2 => (k.1 q h1 h2).trans (h.1 q h1 h2), fun j hj => (k.2 j hj).trans (h.2 j hj)⟩
theorem cac.keepM {σ τ : Mem} (h : cac σ τ) : keepM σ τ := fun a ha => h.1 a (by omega) (by omega)
theorem RM.cac {V σ τ : Mem} (h : RM V σ) (c : cac σ τ) (hr : τ 30 15 = 0 ∨ (τ 30 15 = 1 ∧ ∀ r : Nat, r < 2 → ∀ p, 0 ≤ p → p < V 0 0 → τ 39 (32 * r + p) = unb V r p)) : RM V τ := by
  unfold RM at h ⊢
  rw [c.2 0 (by decide), c.2 9 (by decide), c.2 10 (by decide), c.2 11 (by decide), c.2 12 (by decide), c.2 13 (by decide), c.1 31 (by decide) (by decide), c.1 32 (by decide) (by decide), c.1 33 (by decide) (by decide), c.1 34 (by decide) (by decide), c.1 35 (by decide) (by decide), c.1 36 (by decide) (by decide), c.1 37 (by decide) (by decide), c.1 38 (by decide) (by decide)]
  exact ⟨h.1, h.2.1, h.2.2.1, h.2.2.2.1, h.2.2.2.2.1, h.2.2.2.2.2.1, h.2.2.2.2.2.2.1, h.2.2.2.2.2.2.2.1, h.2.2.2.2.2.2.2.2.1, hr⟩
/-- an effect of the reference: the answer v, and what is worked out -/
abbrev EC (V σ : Mem) (v : AV) : Option AV → Mem → Prop := fun o τ => o = some v ∧ (RM V τ ∧ cac σ τ)

theorem c_unbentAt_lp {b : Int} {V σ : Mem} (hi : Inv b V) (h : RM V σ) (r : Nat) (hr : r < 2) (p : Int) (p0 : 0 ≤ p) (p1 : p < V 0 0) : ∀ (n : Nat) (k : Int) (τ : Mem), 0 ≤ k → k ≤ 2 * V 0 0 → 2 * V 0 0 - k < n → RM V τ → cac σ τ → (τ 30 15 = 0 → ∀ u : Nat, u < 2 → ∀ q, 0 ≤ q → q < V 0 0 → q + (if u = 0 then 0 else V 0 0) < k → τ 39 (32 * u + q) = unb V u q) → (τ 30 15 ≠ 0 → k = 0) → Go 41 mX7_unbentAt 2 [some (aR 30), some (aI r), some (aI p), some (aI k)] [] τ (EC V σ (aL (unb V r p))) := by
  intro n
  induction n with
  | zero => intros; omega
  | succ n ih =>
    intro k τ k0 k1 kn h hc hz hk
    have hN := hi.N
    have hw : τ 30 15 = 0 ∨ τ 30 15 = 1 := h.rims.imp id (fun e => e.1)
    refine g_iload_n dX7_unbentAt_2 rfl ?_
    refine g_iconst dX7_unbentAt_3 ?_
    refine g_aload_n dX7_unbentAt_4 rfl ?_
    refine g_getI (ji := 0) rfl dX7_unbentAt_5 fX7_58 rfl rfl (by decide) ?_
    rw [h.N]
    refine g_imul dX7_unbentAt_8 ?_
    refine g_icmp_ge (tgt := 62) dX7_unbentAt_9 (by decide) (by omega) (by omega) (fun h9 => ?_) (fun h9 => ?_)
    · have hal : ∀ u : Nat, u < 2 → ∀ q, 0 ≤ q → q < V 0 0 → τ 39 (32 * u + q) = unb V u q := fun u hu q q0 q1 => by
        rcases h.rims with e | e
        · exact hz e u hu q q0 q1 (by split <;> omega)
        · exact e.2 u hu q q0 q1
      have hC : cac σ (up τ 30 15 1) := ⟨fun a a1 a2 => by rw [up_cell a2]; exact hc.1 a a1 a2, fun j hj => by rw [up_ne (Or.inr hj)]; exact hc.2 j hj⟩
      have hM : RM V (up τ 30 15 1) := h.cac ⟨fun a a1 a2 => up_cell a2, fun j hj => up_ne (Or.inr hj)⟩ (Or.inr ⟨up_same, fun u hu q q0 q1 => by rw [up_cell (by decide)]; exact hal u hu q q0 q1⟩)
      have hv : up τ 30 15 1 39 (32 * r + p) = unb V r p := by rw [up_cell (by decide)]; exact hal r hr p p0 p1
      refine g_aload_n dX7_unbentAt_62 rfl ?_
      refine g_iconst dX7_unbentAt_63 ?_
      refine g_putZ (ji := 15) rfl dX7_unbentAt_64 vX7_66 rfl rfl (by decide) (by decide) (by omega) ?_
      refine g_aload_n dX7_unbentAt_67 rfl ?_
      refine g_getR dX7_unbentAt_68 fX7_48 rfl rfl (by decide) ?_
      refine g_bipush (v := 32) dX7_unbentAt_71 (by decide) ?_
      refine g_iload_n dX7_unbentAt_73 rfl ?_
      refine g_imul dX7_unbentAt_74 ?_
      refine g_iload_n dX7_unbentAt_75 rfl ?_
      refine g_iadd dX7_unbentAt_76 ?_
      refine g_laload dX7_unbentAt_77 rfl (by decide) (by omega) (by omega) (by decide) ?_
      rw [hv]
      exact g_lret dX7_unbentAt_78 trivial ⟨rfl, hM, hC⟩
    · refine g_aload_n dX7_unbentAt_12 rfl ?_
      refine g_getI (ji := 15) rfl dX7_unbentAt_13 fX7_66 rfl rfl (by decide) ?_
      refine g_if_ne (tgt := 62) dX7_unbentAt_16 (by decide) (by omega) (fun h16 => ?_) (fun h16 => ?_)
      · have hal : ∀ u : Nat, u < 2 → ∀ q, 0 ≤ q → q < V 0 0 → τ 39 (32 * u + q) = unb V u q := fun u hu q q0 q1 => by
          rcases h.rims with e | e
          · exact hz e u hu q q0 q1 (by split <;> omega)
          · exact e.2 u hu q q0 q1
        have hC : cac σ (up τ 30 15 1) := ⟨fun a a1 a2 => by rw [up_cell a2]; exact hc.1 a a1 a2, fun j hj => by rw [up_ne (Or.inr hj)]; exact hc.2 j hj⟩
        have hM : RM V (up τ 30 15 1) := h.cac ⟨fun a a1 a2 => up_cell a2, fun j hj => up_ne (Or.inr hj)⟩ (Or.inr ⟨up_same, fun u hu q q0 q1 => by rw [up_cell (by decide)]; exact hal u hu q q0 q1⟩)
        have hv : up τ 30 15 1 39 (32 * r + p) = unb V r p := by rw [up_cell (by decide)]; exact hal r hr p p0 p1
        refine g_aload_n dX7_unbentAt_62 rfl ?_
        refine g_iconst dX7_unbentAt_63 ?_
        refine g_putZ (ji := 15) rfl dX7_unbentAt_64 vX7_66 rfl rfl (by decide) (by decide) (by omega) ?_
        refine g_aload_n dX7_unbentAt_67 rfl ?_
        refine g_getR dX7_unbentAt_68 fX7_48 rfl rfl (by decide) ?_
        refine g_bipush (v := 32) dX7_unbentAt_71 (by decide) ?_
        refine g_iload_n dX7_unbentAt_73 rfl ?_
        refine g_imul dX7_unbentAt_74 ?_
        refine g_iload_n dX7_unbentAt_75 rfl ?_
        refine g_iadd dX7_unbentAt_76 ?_
        refine g_laload dX7_unbentAt_77 rfl (by decide) (by omega) (by omega) (by decide) ?_
        rw [hv]
        exact g_lret dX7_unbentAt_78 trivial ⟨rfl, hM, hC⟩
      · obtain ⟨u, q, hu, q0, q1, e1, e2, e3⟩ := dm_facts hN k0 (by omega)
        have hub := unb_b hi u hu q q0 q1
        refine g_aload_n dX7_unbentAt_19 rfl ?_
        refine g_getR dX7_unbentAt_20 fX7_48 rfl rfl (by decide) ?_
        refine g_bipush (v := 32) dX7_unbentAt_23 (by decide) ?_
        refine g_iload_n dX7_unbentAt_25 rfl ?_
        refine g_aload_n dX7_unbentAt_26 rfl ?_
        refine g_getI (ji := 0) rfl dX7_unbentAt_27 fX7_58 rfl rfl (by decide) ?_
        rw [h.N]
        refine g_idiv dX7_unbentAt_30 (by omega) (by omega) (by omega) ?_
        rw [e1]
        refine g_imul dX7_unbentAt_31 ?_
        refine g_iload_n dX7_unbentAt_32 rfl ?_
        refine g_aload_n dX7_unbentAt_33 rfl ?_
        refine g_getI (ji := 0) rfl dX7_unbentAt_34 fX7_58 rfl rfl (by decide) ?_
        rw [h.N]
        refine g_irem dX7_unbentAt_37 (by omega) (by omega) (by omega) ?_
        rw [e2]
        refine g_iadd dX7_unbentAt_38 ?_
        refine g_aload_n dX7_unbentAt_39 rfl ?_
        refine g_iload_n dX7_unbentAt_40 rfl ?_
        refine g_aload_n dX7_unbentAt_41 rfl ?_
        refine g_getI (ji := 0) rfl dX7_unbentAt_42 fX7_58 rfl rfl (by decide) ?_
        rw [h.N]
        refine g_idiv dX7_unbentAt_45 (by omega) (by omega) (by omega) ?_
        rw [e1]
        refine g_iload_n dX7_unbentAt_46 rfl ?_
        refine g_aload_n dX7_unbentAt_47 rfl ?_
        refine g_getI (ji := 0) rfl dX7_unbentAt_48 fX7_58 rfl rfl (by decide) ?_
        rw [h.N]
        refine g_irem dX7_unbentAt_51 (by omega) (by omega) (by omega) ?_
        rw [e2]
        refine g_pV2 dX7_unbentAt_52 qX7_102 rfl (by decide) (by decide) (Nat.le_of_ble_eq_true rfl) (c_between hi h u hu q q0 q1) ?_
        refine g_lastore dX7_unbentAt_55 rfl (by decide) (by decide) (by omega) (by omega) (by decide) ?_
        refine g_iinc dX7_unbentAt_56 rfl (by decide) ?_
        refine g_goto (tgt := 2) dX7_unbentAt_59 (by decide) ?_
        have hc2 : cac τ (up τ 39 (32 * u + q) (unb V u q)) := ⟨fun a a1 a2 => up_cell a1, fun j hj => by rw [up_cell (by decide)]⟩
        refine ih (k + 1) _ (by omega) (by omega) (by omega) (h.cac hc2 (Or.inl (by rw [up_cell (by decide)]; exact h16))) (hc.trans hc2) (fun _ u' hu' q' a0 a1 a2 => ?_) (fun hne => absurd (by rw [up_cell (by decide)]; exact h16) hne)
        by_cases hq : u' = u ∧ q' = q
        · obtain ⟨rfl, rfl⟩ := hq; exact up_same
        · rw [up_ne (Or.inr (by omega))]
          refine hz h16 u' hu' q' a0 a1 ?_
          rcases (show u = 0 ∨ u = 1 by omega) with rfl | rfl <;> rcases (show u' = 0 ∨ u' = 1 by omega) with rfl | rfl <;> simp at * <;> omega

theorem c_unbentAt {b : Int} {V σ : Mem} (hi : Inv b V) (h : RM V σ) (r : Nat) (hr : r < 2) (p : Int) (p0 : 0 ≤ p) (p1 : p < V 0 0) : Ret 41 mX7_unbentAt [aR 30, aI r, aI p] σ (EC V σ (aL (unb V r p))) := by
  refine Ret.of [some (aR 30), some (aI r), some (aI p), none] rfl (plainFor_of_name (by decide)) (Nat.le_of_ble_eq_true rfl) ?_
  refine g_iconst dX7_unbentAt_0 ?_
  refine g_istore_n (i := 3) dX7_unbentAt_1 rfl (by decide) ?_
  have hN := hi.N
  exact c_unbentAt_lp hi h r hr p p0 p1 65 0 _ (by omega) (by omega) (by omega) h cac.rfl (fun _ u hu q q0 q1 q2 => by split at q2 <;> omega) (fun _ => rfl)

theorem c_readingAt {b : Int} {V σ : Mem} (hi : Inv b V) (h : RM V σ) (r : Nat) (hr : r < 2) (p : Int) (p0 : 0 ≤ p) (p1 : p < V 0 0) : Ret 41 mX7_readingAt [aR 30, aI r, aI p] σ (EC V σ (aL (rdg V r p))) := by
  refine Ret.of [some (aR 30), some (aI r), some (aI p)] rfl (plainFor_of_name (by decide)) (Nat.le_of_ble_eq_true rfl) ?_
  have hN := hi.N
  refine g_aload_n dX7_readingAt_0 rfl ?_
  refine g_iload_n dX7_readingAt_1 rfl ?_
  refine g_iload_n dX7_readingAt_2 rfl ?_
  refine g_eV2 dX7_readingAt_3 qX7_114 rfl (by decide) (by decide) (Nat.le_of_ble_eq_true rfl) (c_unbentAt hi h r hr p p0 p1) ?_
  intro τ hq
  obtain ⟨h, hc⟩ := hq
  refine g_aload_n dX7_readingAt_6 rfl ?_
  refine g_getR dX7_readingAt_7 fX7_17 rfl rfl (by decide) ?_
  refine g_bipush (v := 32) dX7_readingAt_10 (by decide) ?_
  refine g_iload_n dX7_readingAt_12 rfl ?_
  refine g_imul dX7_readingAt_13 ?_
  refine g_iload_n dX7_readingAt_14 rfl ?_
  refine g_iadd dX7_readingAt_15 ?_
  refine g_laload dX7_readingAt_16 rfl (by decide) (by omega) (by omega) (by decide) ?_
  rw [h.made r hr p p0 p1]
  refine g_ladd dX7_readingAt_17 ?_
  exact g_lret dX7_readingAt_18 trivial ⟨rfl, h, hc⟩

theorem k_unbent {b : Int} {V σ : Mem} (hi : Inv b V) (h : RM V σ) (r : Int) (p : Int) (i_r : i32 r) (i_p : i32 p)  : Ret 41 mX7_unbent [aR 30, aI r, aI p] σ (OM σ (p_unbent V r p)) := by
  refine Ret.of [some (aR 30), some (aI r), some (aI p)] rfl (plainFor_of_name (by decide)) (Nat.le_of_ble_eq_true rfl) ?_
  have hN := hi.N
  refine g_iload_n dX7_unbent_0 rfl ?_
  refine g_iconst dX7_unbent_1 ?_
  refine g_iconst dX7_unbent_2 ?_
  refine g_pS3 dX7_unbent_3 sX7_70 (by decide) (Nat.le_of_ble_eq_true rfl) (c_isIn _ _ _ (by omega) (by omega) (by omega)) ?_
  refine g_ifb_eq (tgt := 27) dX7_unbent_6 (by decide) (fun h6 => ?_) (fun h6 => ?_)
  · refine g_ldc dX7_unbent_27 kX7_78 ?_
    exact g_iret dX7_unbent_29 trivial (by first | exact (OM.of (q := (cBad, V)) (by unfold p_unbent; rw [if_pos (by omega)]) rfl h keepM.rfl) | exact (OM.of (q := (unb V u p, V)) (by unfold p_unbent; rw [if_neg (by omega), Int.toNat_natCast]) rfl h hc.keepM))
  · refine g_aload_n dX7_unbent_9 rfl ?_
    refine g_iload_n dX7_unbent_10 rfl ?_
    refine g_pV1 dX7_unbent_11 qX7_79 rfl (by decide) (by decide) (Nat.le_of_ble_eq_true rfl) (c_isHole hi h _ (by omega)) ?_
    refine g_ifb_eq (tgt := 27) dX7_unbent_14 (by decide) (fun h14 => ?_) (fun h14 => ?_)
    · refine g_ldc dX7_unbent_27 kX7_78 ?_
      exact g_iret dX7_unbent_29 trivial (by first | exact (OM.of (q := (cBad, V)) (by unfold p_unbent; rw [if_pos (by omega)]) rfl h keepM.rfl) | exact (OM.of (q := (unb V u p, V)) (by unfold p_unbent; rw [if_neg (by omega), Int.toNat_natCast]) rfl h hc.keepM))
    · obtain ⟨u, rfl⟩ : ∃ u : Nat, r = u := ⟨r.toNat, by omega⟩
      have hu : u < 2 := by omega
      refine g_aload_n dX7_unbent_17 rfl ?_
      refine g_iload_n dX7_unbent_18 rfl ?_
      refine g_iload_n dX7_unbent_19 rfl ?_
      refine g_eV2 dX7_unbent_20 qX7_114 rfl (by decide) (by decide) (Nat.le_of_ble_eq_true rfl) (c_unbentAt hi h u hu p (by omega) (by omega)) ?_
      intro τ hq
      obtain ⟨h, hc⟩ := hq
      refine g_l2i dX7_unbent_23 ?_
      refine g_goto (tgt := 29) dX7_unbent_24 (by decide) ?_
      exact g_iret dX7_unbent_29 trivial (by first | exact (OM.of (q := (cBad, V)) (by unfold p_unbent; rw [if_pos (by omega)]) rfl h keepM.rfl) | exact (OM.of (q := (unb V u p, V)) (by unfold p_unbent; rw [if_neg (by omega), Int.toNat_natCast]) rfl h hc.keepM))

theorem k_reading {b : Int} {V σ : Mem} (hi : Inv b V) (h : RM V σ) (r : Int) (p : Int) (i_r : i32 r) (i_p : i32 p)  : Ret 41 mX7_reading [aR 30, aI r, aI p] σ (OM σ (p_reading V r p)) := by
  refine Ret.of [some (aR 30), some (aI r), some (aI p)] rfl (plainFor_of_name (by decide)) (Nat.le_of_ble_eq_true rfl) ?_
  have hN := hi.N
  refine g_iload_n dX7_reading_0 rfl ?_
  refine g_iconst dX7_reading_1 ?_
  refine g_iconst dX7_reading_2 ?_
  refine g_pS3 dX7_reading_3 sX7_70 (by decide) (Nat.le_of_ble_eq_true rfl) (c_isIn _ _ _ (by omega) (by omega) (by omega)) ?_
  refine g_ifb_eq (tgt := 27) dX7_reading_6 (by decide) (fun h6 => ?_) (fun h6 => ?_)
  · refine g_ldc dX7_reading_27 kX7_78 ?_
    exact g_iret dX7_reading_29 trivial (by first | exact (OM.of (q := (cBad, V)) (by unfold p_reading; rw [if_pos (by omega)]) rfl h keepM.rfl) | exact (OM.of (q := (rdg V u p, V)) (by unfold p_reading; rw [if_neg (by omega), Int.toNat_natCast]) rfl h hc.keepM))
  · refine g_aload_n dX7_reading_9 rfl ?_
    refine g_iload_n dX7_reading_10 rfl ?_
    refine g_pV1 dX7_reading_11 qX7_79 rfl (by decide) (by decide) (Nat.le_of_ble_eq_true rfl) (c_isHole hi h _ (by omega)) ?_
    refine g_ifb_eq (tgt := 27) dX7_reading_14 (by decide) (fun h14 => ?_) (fun h14 => ?_)
    · refine g_ldc dX7_reading_27 kX7_78 ?_
      exact g_iret dX7_reading_29 trivial (by first | exact (OM.of (q := (cBad, V)) (by unfold p_reading; rw [if_pos (by omega)]) rfl h keepM.rfl) | exact (OM.of (q := (rdg V u p, V)) (by unfold p_reading; rw [if_neg (by omega), Int.toNat_natCast]) rfl h hc.keepM))
    · obtain ⟨u, rfl⟩ : ∃ u : Nat, r = u := ⟨r.toNat, by omega⟩
      have hu : u < 2 := by omega
      refine g_aload_n dX7_reading_17 rfl ?_
      refine g_iload_n dX7_reading_18 rfl ?_
      refine g_iload_n dX7_reading_19 rfl ?_
      refine g_eV2 dX7_reading_20 qX7_117 rfl (by decide) (by decide) (Nat.le_of_ble_eq_true rfl) (c_readingAt hi h u hu p (by omega) (by omega)) ?_
      intro τ hq
      obtain ⟨h, hc⟩ := hq
      refine g_l2i dX7_reading_23 ?_
      refine g_goto (tgt := 29) dX7_reading_24 (by decide) ?_
      exact g_iret dX7_reading_29 trivial (by first | exact (OM.of (q := (cBad, V)) (by unfold p_reading; rw [if_pos (by omega)]) rfl h keepM.rfl) | exact (OM.of (q := (rdg V u p, V)) (by unfold p_reading; rw [if_neg (by omega), Int.toNat_natCast]) rfl h hc.keepM))

theorem c_middle_lp {b : Int} {V σ : Mem} (hi : Inv b V) : ∀ (n : Nat) (k : Int) (τ : Mem), 0 ≤ k → k ≤ V 0 0 → V 0 0 - k < n → RM V τ → cac σ τ → Go 41 mX7_middle 4 [some (aR 30), some (aL (sumN (rdg V 0) k.toNat)), none, some (aI k)] [] τ (EC V σ (aL (midV V))) := by
  intro n
  induction n with
  | zero => intros; omega
  | succ n ih =>
    intro k τ k0 k1 kn h hc0
    have hN := hi.N
    refine g_iload_n dX7_middle_4 rfl ?_
    refine g_aload_n dX7_middle_5 rfl ?_
    refine g_getI (ji := 0) rfl dX7_middle_6 fX7_58 rfl rfl (by decide) ?_
    rw [h.N]
    refine g_icmp_ge (tgt := 27) dX7_middle_9 (by decide) (by omega) (by omega) (fun h9 => ?_) (fun h9 => ?_)
    · have hk : k = V 0 0 := by omega
      have hs64 := sum64 hi k.toNat (by omega)
      refine g_lload_n dX7_middle_27 rfl ?_
      refine g_aload_n dX7_middle_28 rfl ?_
      refine g_getI (ji := 0) rfl dX7_middle_29 fX7_58 rfl rfl (by decide) ?_
      rw [h.N]
      refine g_i2l dX7_middle_32 (by omega) ?_
      refine g_pS2 dX7_middle_33 sX7_110 (by decide) (Nat.le_of_ble_eq_true rfl) (c_cut _ _ hs64 (by omega) (by omega)) ?_
      exact g_lret dX7_middle_36 trivial ⟨by unfold midV; rw [hk], h, hc0⟩
    · refine g_lload_n dX7_middle_12 rfl ?_
      refine g_aload_n dX7_middle_13 rfl ?_
      refine g_iconst dX7_middle_14 ?_
      refine g_iload_n dX7_middle_15 rfl ?_
      refine g_eV2 dX7_middle_16 qX7_117 rfl (by decide) (by decide) (Nat.le_of_ble_eq_true rfl) (c_readingAt hi h 0 (by decide) k k0 (by omega)) ?_
      intro τ hq
      obtain ⟨h, hc⟩ := hq
      refine g_ladd dX7_middle_19 ?_
      refine g_lstore_n (i := 1) dX7_middle_20 rfl (by decide) ?_
      refine g_iinc dX7_middle_21 rfl (by decide) ?_
      refine g_goto (tgt := 4) dX7_middle_24 (by decide) ?_
      rw [← sumN_succ k0]
      exact ih (k + 1) _ (by omega) (by omega) (by omega) h (hc0.trans hc)

theorem c_middle {b : Int} {V σ : Mem} (hi : Inv b V) (h : RM V σ) : Ret 41 mX7_middle [aR 30] σ (EC V σ (aL (midV V))) := by
  refine Ret.of [some (aR 30), none, none, none] rfl (plainFor_of_name (by decide)) (Nat.le_of_ble_eq_true rfl) ?_
  refine g_lconst (v := 0) dX7_middle_0 (by decide) ?_
  refine g_lstore_n (i := 1) dX7_middle_1 rfl (by decide) ?_
  refine g_iconst dX7_middle_2 ?_
  refine g_istore_n (i := 3) dX7_middle_3 rfl (by decide) ?_
  have hN := hi.N
  exact c_middle_lp hi 33 0 _ (by omega) (by omega) (by omega) h cac.rfl
end
