section
-- ===== PART A: goes FIRST, ahead of the names: the tables' words, and 'selects' of the private methods out of them =====
/-- a private method of a class that the tables say can be made, by its rows of tables_1 -/
def lw_okq (q : MethodName × Nat) : Prop := (q.1.cls ≠ "java/lang/invoke/MethodHandle" ∧ q.1.cls ≠ "java/lang/invoke/VarHandle") ∧ Cond.instantiable q.1.cls q.2 ∈ tables_1 ∧ Cond.privateMethod q.1 ∈ tables_1 ∧ Cond.instanceMethod q.1 ∈ tables_1
theorem lw_p0 : lw_okq (⟨"TownOnWeight$Page", "append", "(JI)V"⟩, 2) := ⟨⟨by decide +kernel, by decide +kernel⟩, List.mem_of_getElem? (i := 24) (by decide +kernel), List.mem_of_getElem? (i := 199) (by decide +kernel), List.mem_of_getElem? (i := 200) (by decide +kernel)⟩
theorem lw_p1 : lw_okq (⟨"TownOnWeight$Page", "faultAt", "(I)I"⟩, 2) := ⟨⟨by decide +kernel, by decide +kernel⟩, List.mem_of_getElem? (i := 24) (by decide +kernel), List.mem_of_getElem? (i := 211) (by decide +kernel), List.mem_of_getElem? (i := 212) (by decide +kernel)⟩
theorem lw_p2 : lw_okq (⟨"TownOnWeight$Page", "fits", "(II)Z"⟩, 2) := ⟨⟨by decide +kernel, by decide +kernel⟩, List.mem_of_getElem? (i := 24) (by decide +kernel), List.mem_of_getElem? (i := 215) (by decide +kernel), List.mem_of_getElem? (i := 216) (by decide +kernel)⟩
theorem lw_p3 : lw_okq (⟨"TownOnWeight$Page", "digitAt", "(I)I"⟩, 2) := ⟨⟨by decide +kernel, by decide +kernel⟩, List.mem_of_getElem? (i := 24) (by decide +kernel), List.mem_of_getElem? (i := 312) (by decide +kernel), List.mem_of_getElem? (i := 313) (by decide +kernel)⟩
theorem lw_p4 : lw_okq (⟨"TownOnWeight$Page", "isHouse", "(I)Z"⟩, 2) := ⟨⟨by decide +kernel, by decide +kernel⟩, List.mem_of_getElem? (i := 24) (by decide +kernel), List.mem_of_getElem? (i := 321) (by decide +kernel), List.mem_of_getElem? (i := 322) (by decide +kernel)⟩
theorem lw_p5 : lw_okq (⟨"TownOnWeight$Day", "hasBegun", "()Z"⟩, 14) := ⟨⟨by decide +kernel, by decide +kernel⟩, List.mem_of_getElem? (i := 83) (by decide +kernel), List.mem_of_getElem? (i := 326) (by decide +kernel), List.mem_of_getElem? (i := 327) (by decide +kernel)⟩
theorem lw_p6 : lw_okq (⟨"TownOnWeight$Houses", "add", "(LTownOnWeight$Page;)V"⟩, 8) := ⟨⟨by decide +kernel, by decide +kernel⟩, List.mem_of_getElem? (i := 41) (by decide +kernel), List.mem_of_getElem? (i := 330) (by decide +kernel), List.mem_of_getElem? (i := 331) (by decide +kernel)⟩
theorem lw_p7 : lw_okq (⟨"TownOnWeight$Houses", "has", "(I)Z"⟩, 8) := ⟨⟨by decide +kernel, by decide +kernel⟩, List.mem_of_getElem? (i := 41) (by decide +kernel), List.mem_of_getElem? (i := 339) (by decide +kernel), List.mem_of_getElem? (i := 340) (by decide +kernel)⟩
theorem lw_p8 : lw_okq (⟨"TownOnWeight$Day", "welcome", "(I)V"⟩, 14) := ⟨⟨by decide +kernel, by decide +kernel⟩, List.mem_of_getElem? (i := 83) (by decide +kernel), List.mem_of_getElem? (i := 343) (by decide +kernel), List.mem_of_getElem? (i := 344) (by decide +kernel)⟩
theorem lw_p9 : lw_okq (⟨"TownOnWeight$Houses", "isA", "(II)Z"⟩, 8) := ⟨⟨by decide +kernel, by decide +kernel⟩, List.mem_of_getElem? (i := 41) (by decide +kernel), List.mem_of_getElem? (i := 365) (by decide +kernel), List.mem_of_getElem? (i := 366) (by decide +kernel)⟩
theorem lw_p10 : lw_okq (⟨"TownOnWeight$Day", "wantOf", "(LTownOnWeight$Houses;I)I"⟩, 14) := ⟨⟨by decide +kernel, by decide +kernel⟩, List.mem_of_getElem? (i := 83) (by decide +kernel), List.mem_of_getElem? (i := 386) (by decide +kernel), List.mem_of_getElem? (i := 387) (by decide +kernel)⟩
theorem lw_p11 : lw_okq (⟨"TownOnWeight$Houses", "isOpen", "(II)Z"⟩, 8) := ⟨⟨by decide +kernel, by decide +kernel⟩, List.mem_of_getElem? (i := 41) (by decide +kernel), List.mem_of_getElem? (i := 390) (by decide +kernel), List.mem_of_getElem? (i := 391) (by decide +kernel)⟩
theorem lw_p12 : lw_okq (⟨"TownOnWeight$Houses", "areBits", "(I)Z"⟩, 8) := ⟨⟨by decide +kernel, by decide +kernel⟩, List.mem_of_getElem? (i := 41) (by decide +kernel), List.mem_of_getElem? (i := 400) (by decide +kernel), List.mem_of_getElem? (i := 401) (by decide +kernel)⟩
theorem lw_p13 : lw_okq (⟨"TownOnWeight$Houses", "all", "()I"⟩, 8) := ⟨⟨by decide +kernel, by decide +kernel⟩, List.mem_of_getElem? (i := 41) (by decide +kernel), List.mem_of_getElem? (i := 404) (by decide +kernel), List.mem_of_getElem? (i := 405) (by decide +kernel)⟩
theorem lw_p14 : lw_okq (⟨"TownOnWeight$Day", "tellWanted", "(LTownOnWeight$Houses;)V"⟩, 14) := ⟨⟨by decide +kernel, by decide +kernel⟩, List.mem_of_getElem? (i := 83) (by decide +kernel), List.mem_of_getElem? (i := 408) (by decide +kernel), List.mem_of_getElem? (i := 409) (by decide +kernel)⟩
theorem lw_p15 : lw_okq (⟨"TownOnWeight$Day", "goesBy", "(LTownOnWeight$Houses;I)I"⟩, 14) := ⟨⟨by decide +kernel, by decide +kernel⟩, List.mem_of_getElem? (i := 83) (by decide +kernel), List.mem_of_getElem? (i := 413) (by decide +kernel), List.mem_of_getElem? (i := 414) (by decide +kernel)⟩
def lw_privs_1 : List (MethodName × Nat) := [(⟨"TownOnWeight$Page", "append", "(JI)V"⟩, 2), (⟨"TownOnWeight$Page", "faultAt", "(I)I"⟩, 2), (⟨"TownOnWeight$Page", "fits", "(II)Z"⟩, 2), (⟨"TownOnWeight$Page", "digitAt", "(I)I"⟩, 2), (⟨"TownOnWeight$Page", "isHouse", "(I)Z"⟩, 2), (⟨"TownOnWeight$Day", "hasBegun", "()Z"⟩, 14), (⟨"TownOnWeight$Houses", "add", "(LTownOnWeight$Page;)V"⟩, 8), (⟨"TownOnWeight$Houses", "has", "(I)Z"⟩, 8), (⟨"TownOnWeight$Day", "welcome", "(I)V"⟩, 14), (⟨"TownOnWeight$Houses", "isA", "(II)Z"⟩, 8), (⟨"TownOnWeight$Day", "wantOf", "(LTownOnWeight$Houses;I)I"⟩, 14), (⟨"TownOnWeight$Houses", "isOpen", "(II)Z"⟩, 8), (⟨"TownOnWeight$Houses", "areBits", "(I)Z"⟩, 8), (⟨"TownOnWeight$Houses", "all", "()I"⟩, 8), (⟨"TownOnWeight$Day", "tellWanted", "(LTownOnWeight$Houses;)V"⟩, 14), (⟨"TownOnWeight$Day", "goesBy", "(LTownOnWeight$Houses;I)I"⟩, 14)]
theorem lw_r1 : ∀ q ∈ lw_privs_1, lw_okq q := List.forall_mem_cons.mpr ⟨lw_p0, List.forall_mem_cons.mpr ⟨lw_p1, List.forall_mem_cons.mpr ⟨lw_p2, List.forall_mem_cons.mpr ⟨lw_p3, List.forall_mem_cons.mpr ⟨lw_p4, List.forall_mem_cons.mpr ⟨lw_p5, List.forall_mem_cons.mpr ⟨lw_p6, List.forall_mem_cons.mpr ⟨lw_p7, List.forall_mem_cons.mpr ⟨lw_p8, List.forall_mem_cons.mpr ⟨lw_p9, List.forall_mem_cons.mpr ⟨lw_p10, List.forall_mem_cons.mpr ⟨lw_p11, List.forall_mem_cons.mpr ⟨lw_p12, List.forall_mem_cons.mpr ⟨lw_p13, List.forall_mem_cons.mpr ⟨lw_p14, List.forall_mem_cons.mpr ⟨lw_p15, fun _ h => absurd h List.not_mem_nil⟩⟩⟩⟩⟩⟩⟩⟩⟩⟩⟩⟩⟩⟩⟩⟩
theorem lw_p16 : lw_okq (⟨"TownOnWeight$Houses", "lossOf", "(IZ)I"⟩, 8) := ⟨⟨by decide +kernel, by decide +kernel⟩, List.mem_of_getElem? (i := 41) (by decide +kernel), List.mem_of_getElem? (i := 417) (by decide +kernel), List.mem_of_getElem? (i := 418) (by decide +kernel)⟩
theorem lw_p17 : lw_okq (⟨"TownOnWeight$Day", "hourComes", "()Z"⟩, 14) := ⟨⟨by decide +kernel, by decide +kernel⟩, List.mem_of_getElem? (i := 83) (by decide +kernel), List.mem_of_getElem? (i := 426) (by decide +kernel), List.mem_of_getElem? (i := 427) (by decide +kernel)⟩
theorem lw_p18 : lw_okq (⟨"TownOnWeight$Day", "passHour", "(LTownOnWeight$Houses;)I"⟩, 14) := ⟨⟨by decide +kernel, by decide +kernel⟩, List.mem_of_getElem? (i := 83) (by decide +kernel), List.mem_of_getElem? (i := 430) (by decide +kernel), List.mem_of_getElem? (i := 431) (by decide +kernel)⟩
theorem lw_p19 : lw_okq (⟨"TownOnWeight$Day", "letWork", "(III)V"⟩, 14) := ⟨⟨by decide +kernel, by decide +kernel⟩, List.mem_of_getElem? (i := 83) (by decide +kernel), List.mem_of_getElem? (i := 437) (by decide +kernel), List.mem_of_getElem? (i := 438) (by decide +kernel)⟩
theorem lw_p20 : lw_okq (⟨"TownOnWeight$Day", "tellParts", "(I)V"⟩, 14) := ⟨⟨by decide +kernel, by decide +kernel⟩, List.mem_of_getElem? (i := 83) (by decide +kernel), List.mem_of_getElem? (i := 449) (by decide +kernel), List.mem_of_getElem? (i := 450) (by decide +kernel)⟩
theorem lw_p21 : lw_okq (⟨"TownOnWeight$Day", "greatestRest", "(I)I"⟩, 14) := ⟨⟨by decide +kernel, by decide +kernel⟩, List.mem_of_getElem? (i := 83) (by decide +kernel), List.mem_of_getElem? (i := 453) (by decide +kernel), List.mem_of_getElem? (i := 454) (by decide +kernel)⟩
theorem lw_p22 : lw_okq (⟨"TownOnWeight$Day", "passNight", "(I)I"⟩, 14) := ⟨⟨by decide +kernel, by decide +kernel⟩, List.mem_of_getElem? (i := 83) (by decide +kernel), List.mem_of_getElem? (i := 461) (by decide +kernel), List.mem_of_getElem? (i := 462) (by decide +kernel)⟩
theorem lw_p23 : lw_okq (⟨"TownOnWeight", "bestBrakes", "()I"⟩, 9) := ⟨⟨by decide +kernel, by decide +kernel⟩, List.mem_of_getElem? (i := 16) (by decide +kernel), List.mem_of_getElem? (i := 471) (by decide +kernel), List.mem_of_getElem? (i := 472) (by decide +kernel)⟩
theorem lw_p24 : lw_okq (⟨"TownOnWeight", "takenAhead", "(II)I"⟩, 9) := ⟨⟨by decide +kernel, by decide +kernel⟩, List.mem_of_getElem? (i := 16) (by decide +kernel), List.mem_of_getElem? (i := 475) (by decide +kernel), List.mem_of_getElem? (i := 476) (by decide +kernel)⟩
theorem lw_p25 : lw_okq (⟨"TownOnWeight$Day", "copyFrom", "(LTownOnWeight$Day;)V"⟩, 14) := ⟨⟨by decide +kernel, by decide +kernel⟩, List.mem_of_getElem? (i := 83) (by decide +kernel), List.mem_of_getElem? (i := 479) (by decide +kernel), List.mem_of_getElem? (i := 480) (by decide +kernel)⟩
theorem lw_p26 : lw_okq (⟨"TownOnWeight$Houses", "openIn", "(I)I"⟩, 8) := ⟨⟨by decide +kernel, by decide +kernel⟩, List.mem_of_getElem? (i := 41) (by decide +kernel), List.mem_of_getElem? (i := 501) (by decide +kernel), List.mem_of_getElem? (i := 502) (by decide +kernel)⟩
theorem lw_p27 : lw_okq (⟨"TownOnWeight$Houses", "takesOf", "(I)I"⟩, 8) := ⟨⟨by decide +kernel, by decide +kernel⟩, List.mem_of_getElem? (i := 41) (by decide +kernel), List.mem_of_getElem? (i := 506) (by decide +kernel), List.mem_of_getElem? (i := 507) (by decide +kernel)⟩
theorem lw_p28 : lw_okq (⟨"TownOnWeight$Houses", "waysTo", "(I)I"⟩, 8) := ⟨⟨by decide +kernel, by decide +kernel⟩, List.mem_of_getElem? (i := 41) (by decide +kernel), List.mem_of_getElem? (i := 525) (by decide +kernel), List.mem_of_getElem? (i := 526) (by decide +kernel)⟩
theorem lw_p29 : lw_okq (⟨"TownOnWeight$Houses", "toldLossOf", "(I)I"⟩, 8) := ⟨⟨by decide +kernel, by decide +kernel⟩, List.mem_of_getElem? (i := 41) (by decide +kernel), List.mem_of_getElem? (i := 529) (by decide +kernel), List.mem_of_getElem? (i := 530) (by decide +kernel)⟩
theorem lw_p30 : lw_okq (⟨"TownOnWeight$Readings", "add", "(II)V"⟩, 3) := ⟨⟨by decide +kernel, by decide +kernel⟩, List.mem_of_getElem? (i := 144) (by decide +kernel), List.mem_of_getElem? (i := 533) (by decide +kernel), List.mem_of_getElem? (i := 534) (by decide +kernel)⟩
theorem lw_p31 : lw_okq (⟨"TownOnWeight$Readings", "leastLeakOf", "(I)I"⟩, 3) := ⟨⟨by decide +kernel, by decide +kernel⟩, List.mem_of_getElem? (i := 144) (by decide +kernel), List.mem_of_getElem? (i := 545) (by decide +kernel), List.mem_of_getElem? (i := 546) (by decide +kernel)⟩
def lw_privs_2 : List (MethodName × Nat) := [(⟨"TownOnWeight$Houses", "lossOf", "(IZ)I"⟩, 8), (⟨"TownOnWeight$Day", "hourComes", "()Z"⟩, 14), (⟨"TownOnWeight$Day", "passHour", "(LTownOnWeight$Houses;)I"⟩, 14), (⟨"TownOnWeight$Day", "letWork", "(III)V"⟩, 14), (⟨"TownOnWeight$Day", "tellParts", "(I)V"⟩, 14), (⟨"TownOnWeight$Day", "greatestRest", "(I)I"⟩, 14), (⟨"TownOnWeight$Day", "passNight", "(I)I"⟩, 14), (⟨"TownOnWeight", "bestBrakes", "()I"⟩, 9), (⟨"TownOnWeight", "takenAhead", "(II)I"⟩, 9), (⟨"TownOnWeight$Day", "copyFrom", "(LTownOnWeight$Day;)V"⟩, 14), (⟨"TownOnWeight$Houses", "openIn", "(I)I"⟩, 8), (⟨"TownOnWeight$Houses", "takesOf", "(I)I"⟩, 8), (⟨"TownOnWeight$Houses", "waysTo", "(I)I"⟩, 8), (⟨"TownOnWeight$Houses", "toldLossOf", "(I)I"⟩, 8), (⟨"TownOnWeight$Readings", "add", "(II)V"⟩, 3), (⟨"TownOnWeight$Readings", "leastLeakOf", "(I)I"⟩, 3)]
theorem lw_r2 : ∀ q ∈ lw_privs_2, lw_okq q := List.forall_mem_cons.mpr ⟨lw_p16, List.forall_mem_cons.mpr ⟨lw_p17, List.forall_mem_cons.mpr ⟨lw_p18, List.forall_mem_cons.mpr ⟨lw_p19, List.forall_mem_cons.mpr ⟨lw_p20, List.forall_mem_cons.mpr ⟨lw_p21, List.forall_mem_cons.mpr ⟨lw_p22, List.forall_mem_cons.mpr ⟨lw_p23, List.forall_mem_cons.mpr ⟨lw_p24, List.forall_mem_cons.mpr ⟨lw_p25, List.forall_mem_cons.mpr ⟨lw_p26, List.forall_mem_cons.mpr ⟨lw_p27, List.forall_mem_cons.mpr ⟨lw_p28, List.forall_mem_cons.mpr ⟨lw_p29, List.forall_mem_cons.mpr ⟨lw_p30, List.forall_mem_cons.mpr ⟨lw_p31, fun _ h => absurd h List.not_mem_nil⟩⟩⟩⟩⟩⟩⟩⟩⟩⟩⟩⟩⟩⟩⟩⟩
theorem lw_p32 : lw_okq (⟨"TownOnWeight$Readings", "givesAll", "(II)Z"⟩, 3) := ⟨⟨by decide +kernel, by decide +kernel⟩, List.mem_of_getElem? (i := 144) (by decide +kernel), List.mem_of_getElem? (i := 549) (by decide +kernel), List.mem_of_getElem? (i := 550) (by decide +kernel)⟩
theorem lw_p33 : lw_okq (⟨"TownOnWeight$Readings", "copyFrom", "(LTownOnWeight$Readings;)V"⟩, 3) := ⟨⟨by decide +kernel, by decide +kernel⟩, List.mem_of_getElem? (i := 144) (by decide +kernel), List.mem_of_getElem? (i := 568) (by decide +kernel), List.mem_of_getElem? (i := 569) (by decide +kernel)⟩
theorem lw_p34 : lw_okq (⟨"TownOnWeight", "digestOfHouses", "(J)J"⟩, 9) := ⟨⟨by decide +kernel, by decide +kernel⟩, List.mem_of_getElem? (i := 16) (by decide +kernel), List.mem_of_getElem? (i := 586) (by decide +kernel), List.mem_of_getElem? (i := 587) (by decide +kernel)⟩
theorem lw_p35 : lw_okq (⟨"TownOnWeightModel", "faultNow", "()I"⟩, 47) := ⟨⟨by decide +kernel, by decide +kernel⟩, List.mem_of_getElem? (i := 600) (by decide +kernel), List.mem_of_getElem? (i := 761) (by decide +kernel), List.mem_of_getElem? (i := 762) (by decide +kernel)⟩
theorem lw_p36 : lw_okq (⟨"TownOnWeightModel", "mayStand", "(II)Z"⟩, 47) := ⟨⟨by decide +kernel, by decide +kernel⟩, List.mem_of_getElem? (i := 600) (by decide +kernel), List.mem_of_getElem? (i := 765) (by decide +kernel), List.mem_of_getElem? (i := 766) (by decide +kernel)⟩
theorem lw_p37 : lw_okq (⟨"TownOnWeightModel", "isHouse", "(I)Z"⟩, 47) := ⟨⟨by decide +kernel, by decide +kernel⟩, List.mem_of_getElem? (i := 600) (by decide +kernel), List.mem_of_getElem? (i := 783) (by decide +kernel), List.mem_of_getElem? (i := 784) (by decide +kernel)⟩
theorem lw_p38 : lw_okq (⟨"TownOnWeightModel", "houseNow", "(II)I"⟩, 47) := ⟨⟨by decide +kernel, by decide +kernel⟩, List.mem_of_getElem? (i := 600) (by decide +kernel), List.mem_of_getElem? (i := 787) (by decide +kernel), List.mem_of_getElem? (i := 788) (by decide +kernel)⟩
theorem lw_p39 : lw_okq (⟨"TownOnWeightModel", "wantsNow", "(I)I"⟩, 47) := ⟨⟨by decide +kernel, by decide +kernel⟩, List.mem_of_getElem? (i := 600) (by decide +kernel), List.mem_of_getElem? (i := 814) (by decide +kernel), List.mem_of_getElem? (i := 815) (by decide +kernel)⟩
theorem lw_p40 : lw_okq (⟨"TownOnWeightModel", "isTime", "(I)Z"⟩, 47) := ⟨⟨by decide +kernel, by decide +kernel⟩, List.mem_of_getElem? (i := 600) (by decide +kernel), List.mem_of_getElem? (i := 818) (by decide +kernel), List.mem_of_getElem? (i := 819) (by decide +kernel)⟩
theorem lw_p41 : lw_okq (⟨"TownOnWeightModel", "everybody", "()I"⟩, 47) := ⟨⟨by decide +kernel, by decide +kernel⟩, List.mem_of_getElem? (i := 600) (by decide +kernel), List.mem_of_getElem? (i := 826) (by decide +kernel), List.mem_of_getElem? (i := 827) (by decide +kernel)⟩
theorem lw_p42 : lw_okq (⟨"TownOnWeightModel", "goesBy", "(I)I"⟩, 47) := ⟨⟨by decide +kernel, by decide +kernel⟩, List.mem_of_getElem? (i := 600) (by decide +kernel), List.mem_of_getElem? (i := 830) (by decide +kernel), List.mem_of_getElem? (i := 831) (by decide +kernel)⟩
theorem lw_p43 : lw_okq (⟨"TownOnWeightModel", "wanting", "(I)I"⟩, 47) := ⟨⟨by decide +kernel, by decide +kernel⟩, List.mem_of_getElem? (i := 600) (by decide +kernel), List.mem_of_getElem? (i := 834) (by decide +kernel), List.mem_of_getElem? (i := 835) (by decide +kernel)⟩
theorem lw_p44 : lw_okq (⟨"TownOnWeightModel", "shafts", "(I)I"⟩, 47) := ⟨⟨by decide +kernel, by decide +kernel⟩, List.mem_of_getElem? (i := 600) (by decide +kernel), List.mem_of_getElem? (i := 838) (by decide +kernel), List.mem_of_getElem? (i := 839) (by decide +kernel)⟩
theorem lw_p45 : lw_okq (⟨"TownOnWeightModel", "takesBy", "(I)I"⟩, 47) := ⟨⟨by decide +kernel, by decide +kernel⟩, List.mem_of_getElem? (i := 600) (by decide +kernel), List.mem_of_getElem? (i := 842) (by decide +kernel), List.mem_of_getElem? (i := 843) (by decide +kernel)⟩
theorem lw_p46 : lw_okq (⟨"TownOnWeightModel", "isOver", "()Z"⟩, 47) := ⟨⟨by decide +kernel, by decide +kernel⟩, List.mem_of_getElem? (i := 600) (by decide +kernel), List.mem_of_getElem? (i := 850) (by decide +kernel), List.mem_of_getElem? (i := 851) (by decide +kernel)⟩
theorem lw_p47 : lw_okq (⟨"TownOnWeightModel", "goHour", "()I"⟩, 47) := ⟨⟨by decide +kernel, by decide +kernel⟩, List.mem_of_getElem? (i := 600) (by decide +kernel), List.mem_of_getElem? (i := 854) (by decide +kernel), List.mem_of_getElem? (i := 855) (by decide +kernel)⟩
def lw_privs_3 : List (MethodName × Nat) := [(⟨"TownOnWeight$Readings", "givesAll", "(II)Z"⟩, 3), (⟨"TownOnWeight$Readings", "copyFrom", "(LTownOnWeight$Readings;)V"⟩, 3), (⟨"TownOnWeight", "digestOfHouses", "(J)J"⟩, 9), (⟨"TownOnWeightModel", "faultNow", "()I"⟩, 47), (⟨"TownOnWeightModel", "mayStand", "(II)Z"⟩, 47), (⟨"TownOnWeightModel", "isHouse", "(I)Z"⟩, 47), (⟨"TownOnWeightModel", "houseNow", "(II)I"⟩, 47), (⟨"TownOnWeightModel", "wantsNow", "(I)I"⟩, 47), (⟨"TownOnWeightModel", "isTime", "(I)Z"⟩, 47), (⟨"TownOnWeightModel", "everybody", "()I"⟩, 47), (⟨"TownOnWeightModel", "goesBy", "(I)I"⟩, 47), (⟨"TownOnWeightModel", "wanting", "(I)I"⟩, 47), (⟨"TownOnWeightModel", "shafts", "(I)I"⟩, 47), (⟨"TownOnWeightModel", "takesBy", "(I)I"⟩, 47), (⟨"TownOnWeightModel", "isOver", "()Z"⟩, 47), (⟨"TownOnWeightModel", "goHour", "()I"⟩, 47)]
theorem lw_r3 : ∀ q ∈ lw_privs_3, lw_okq q := List.forall_mem_cons.mpr ⟨lw_p32, List.forall_mem_cons.mpr ⟨lw_p33, List.forall_mem_cons.mpr ⟨lw_p34, List.forall_mem_cons.mpr ⟨lw_p35, List.forall_mem_cons.mpr ⟨lw_p36, List.forall_mem_cons.mpr ⟨lw_p37, List.forall_mem_cons.mpr ⟨lw_p38, List.forall_mem_cons.mpr ⟨lw_p39, List.forall_mem_cons.mpr ⟨lw_p40, List.forall_mem_cons.mpr ⟨lw_p41, List.forall_mem_cons.mpr ⟨lw_p42, List.forall_mem_cons.mpr ⟨lw_p43, List.forall_mem_cons.mpr ⟨lw_p44, List.forall_mem_cons.mpr ⟨lw_p45, List.forall_mem_cons.mpr ⟨lw_p46, List.forall_mem_cons.mpr ⟨lw_p47, fun _ h => absurd h List.not_mem_nil⟩⟩⟩⟩⟩⟩⟩⟩⟩⟩⟩⟩⟩⟩⟩⟩
theorem lw_p48 : lw_okq (⟨"TownOnWeightModel", "working", "()I"⟩, 47) := ⟨⟨by decide +kernel, by decide +kernel⟩, List.mem_of_getElem? (i := 600) (by decide +kernel), List.mem_of_getElem? (i := 858) (by decide +kernel), List.mem_of_getElem? (i := 859) (by decide +kernel)⟩
theorem lw_p49 : lw_okq (⟨"TownOnWeightModel", "partOf", "(I)I"⟩, 47) := ⟨⟨by decide +kernel, by decide +kernel⟩, List.mem_of_getElem? (i := 600) (by decide +kernel), List.mem_of_getElem? (i := 870) (by decide +kernel), List.mem_of_getElem? (i := 871) (by decide +kernel)⟩
theorem lw_p50 : lw_okq (⟨"TownOnWeightModel", "takenAll", "()I"⟩, 47) := ⟨⟨by decide +kernel, by decide +kernel⟩, List.mem_of_getElem? (i := 600) (by decide +kernel), List.mem_of_getElem? (i := 874) (by decide +kernel), List.mem_of_getElem? (i := 875) (by decide +kernel)⟩
theorem lw_p51 : lw_okq (⟨"TownOnWeightModel", "planNow", "(I)I"⟩, 47) := ⟨⟨by decide +kernel, by decide +kernel⟩, List.mem_of_getElem? (i := 600) (by decide +kernel), List.mem_of_getElem? (i := 886) (by decide +kernel), List.mem_of_getElem? (i := 887) (by decide +kernel)⟩
theorem lw_p52 : lw_okq (⟨"TownOnWeightModel", "takenOn", "(II)I"⟩, 47) := ⟨⟨by decide +kernel, by decide +kernel⟩, List.mem_of_getElem? (i := 600) (by decide +kernel), List.mem_of_getElem? (i := 890) (by decide +kernel), List.mem_of_getElem? (i := 891) (by decide +kernel)⟩
theorem lw_p53 : lw_okq (⟨"TownOnWeightModel", "save", "()V"⟩, 47) := ⟨⟨by decide +kernel, by decide +kernel⟩, List.mem_of_getElem? (i := 600) (by decide +kernel), List.mem_of_getElem? (i := 894) (by decide +kernel), List.mem_of_getElem? (i := 895) (by decide +kernel)⟩
theorem lw_p54 : lw_okq (⟨"TownOnWeightModel", "back", "()V"⟩, 47) := ⟨⟨by decide +kernel, by decide +kernel⟩, List.mem_of_getElem? (i := 600) (by decide +kernel), List.mem_of_getElem? (i := 898) (by decide +kernel), List.mem_of_getElem? (i := 899) (by decide +kernel)⟩
theorem lw_p55 : lw_okq (⟨"TownOnWeightModel", "moreNow", "(I)I"⟩, 47) := ⟨⟨by decide +kernel, by decide +kernel⟩, List.mem_of_getElem? (i := 600) (by decide +kernel), List.mem_of_getElem? (i := 909) (by decide +kernel), List.mem_of_getElem? (i := 910) (by decide +kernel)⟩
theorem lw_p56 : lw_okq (⟨"TownOnWeightModel", "sumOf", "(I)I"⟩, 47) := ⟨⟨by decide +kernel, by decide +kernel⟩, List.mem_of_getElem? (i := 600) (by decide +kernel), List.mem_of_getElem? (i := 917) (by decide +kernel), List.mem_of_getElem? (i := 918) (by decide +kernel)⟩
theorem lw_p57 : lw_okq (⟨"TownOnWeightModel", "draw", "(I)I"⟩, 47) := ⟨⟨by decide +kernel, by decide +kernel⟩, List.mem_of_getElem? (i := 600) (by decide +kernel), List.mem_of_getElem? (i := 925) (by decide +kernel), List.mem_of_getElem? (i := 926) (by decide +kernel)⟩
theorem lw_p58 : lw_okq (⟨"TownOnWeightModel", "leakNow", "(I)I"⟩, 47) := ⟨⟨by decide +kernel, by decide +kernel⟩, List.mem_of_getElem? (i := 600) (by decide +kernel), List.mem_of_getElem? (i := 945) (by decide +kernel), List.mem_of_getElem? (i := 946) (by decide +kernel)⟩
theorem lw_p59 : lw_okq (⟨"TownOnWeightModel", "feetBy", "(I)I"⟩, 47) := ⟨⟨by decide +kernel, by decide +kernel⟩, List.mem_of_getElem? (i := 600) (by decide +kernel), List.mem_of_getElem? (i := 949) (by decide +kernel), List.mem_of_getElem? (i := 950) (by decide +kernel)⟩
theorem lw_p60 : lw_okq (⟨"TownOnWeightModel", "leaksNow", "()I"⟩, 47) := ⟨⟨by decide +kernel, by decide +kernel⟩, List.mem_of_getElem? (i := 600) (by decide +kernel), List.mem_of_getElem? (i := 957) (by decide +kernel), List.mem_of_getElem? (i := 958) (by decide +kernel)⟩
theorem lw_p61 : lw_okq (⟨"TownOnWeightModel", "lookNow", "()I"⟩, 47) := ⟨⟨by decide +kernel, by decide +kernel⟩, List.mem_of_getElem? (i := 600) (by decide +kernel), List.mem_of_getElem? (i := 965) (by decide +kernel), List.mem_of_getElem? (i := 966) (by decide +kernel)⟩
theorem lw_p62 : lw_okq (⟨"TownOnWeightModel", "howMany", "(I)I"⟩, 47) := ⟨⟨by decide +kernel, by decide +kernel⟩, List.mem_of_getElem? (i := 600) (by decide +kernel), List.mem_of_getElem? (i := 981) (by decide +kernel), List.mem_of_getElem? (i := 982) (by decide +kernel)⟩
theorem lw_p63 : lw_okq (⟨"TownOnWeightModel", "mix", "(J)V"⟩, 47) := ⟨⟨by decide +kernel, by decide +kernel⟩, List.mem_of_getElem? (i := 600) (by decide +kernel), List.mem_of_getElem? (i := 990) (by decide +kernel), List.mem_of_getElem? (i := 991) (by decide +kernel)⟩
def lw_privs_4 : List (MethodName × Nat) := [(⟨"TownOnWeightModel", "working", "()I"⟩, 47), (⟨"TownOnWeightModel", "partOf", "(I)I"⟩, 47), (⟨"TownOnWeightModel", "takenAll", "()I"⟩, 47), (⟨"TownOnWeightModel", "planNow", "(I)I"⟩, 47), (⟨"TownOnWeightModel", "takenOn", "(II)I"⟩, 47), (⟨"TownOnWeightModel", "save", "()V"⟩, 47), (⟨"TownOnWeightModel", "back", "()V"⟩, 47), (⟨"TownOnWeightModel", "moreNow", "(I)I"⟩, 47), (⟨"TownOnWeightModel", "sumOf", "(I)I"⟩, 47), (⟨"TownOnWeightModel", "draw", "(I)I"⟩, 47), (⟨"TownOnWeightModel", "leakNow", "(I)I"⟩, 47), (⟨"TownOnWeightModel", "feetBy", "(I)I"⟩, 47), (⟨"TownOnWeightModel", "leaksNow", "()I"⟩, 47), (⟨"TownOnWeightModel", "lookNow", "()I"⟩, 47), (⟨"TownOnWeightModel", "howMany", "(I)I"⟩, 47), (⟨"TownOnWeightModel", "mix", "(J)V"⟩, 47)]
theorem lw_r4 : ∀ q ∈ lw_privs_4, lw_okq q := List.forall_mem_cons.mpr ⟨lw_p48, List.forall_mem_cons.mpr ⟨lw_p49, List.forall_mem_cons.mpr ⟨lw_p50, List.forall_mem_cons.mpr ⟨lw_p51, List.forall_mem_cons.mpr ⟨lw_p52, List.forall_mem_cons.mpr ⟨lw_p53, List.forall_mem_cons.mpr ⟨lw_p54, List.forall_mem_cons.mpr ⟨lw_p55, List.forall_mem_cons.mpr ⟨lw_p56, List.forall_mem_cons.mpr ⟨lw_p57, List.forall_mem_cons.mpr ⟨lw_p58, List.forall_mem_cons.mpr ⟨lw_p59, List.forall_mem_cons.mpr ⟨lw_p60, List.forall_mem_cons.mpr ⟨lw_p61, List.forall_mem_cons.mpr ⟨lw_p62, List.forall_mem_cons.mpr ⟨lw_p63, fun _ h => absurd h List.not_mem_nil⟩⟩⟩⟩⟩⟩⟩⟩⟩⟩⟩⟩⟩⟩⟩⟩
def lw_privs : List (MethodName × Nat) := lw_privs_1 ++ (lw_privs_2 ++ (lw_privs_3 ++ (lw_privs_4)))
def lw_tbl : List Cond := k2_sels lw_privs ++ tables_1
theorem lw_privs_ok : ∀ q ∈ lw_privs, lw_okq q := by
  show ∀ q ∈ lw_privs_1 ++ (lw_privs_2 ++ (lw_privs_3 ++ (lw_privs_4))), lw_okq q
  exact List.forall_mem_append.mpr ⟨lw_r1, List.forall_mem_append.mpr ⟨lw_r2, List.forall_mem_append.mpr ⟨lw_r3, lw_r4⟩⟩⟩
end
section
/-! ===== BEGIN words of one list among another's, by their places ===== -/
theorem goodIn_r {big : List Cond} (ws : List Cond) (ps : List Nat) (hp : ws = ps.filterMap (fun i => big[i]?)) (h : ws.all goodWord = true) : GoodIn big ws := by
  intro w hw
  have h1 := List.all_eq_true.mp h w hw
  rw [hp] at hw
  obtain ⟨i, -, hi⟩ := List.mem_filterMap.mp hw
  have hm : w ∈ big := by first | exact List.mem_of_getElem? hi | exact List.getElem?_mem hi
  exact ⟨hm, good_of_word h1⟩
theorem goodIn_app {big a b : List Cond} (ha : GoodIn big a) (hb : GoodIn big b) : GoodIn big (a ++ b) := fun w h => (List.mem_append.mp h).elim (ha w) (hb w)
theorem goodIn_ca {big a b : List Cond} {c : Cond} (ha : GoodIn big (c :: a)) (hb : GoodIn big b) : GoodIn big (c :: (a ++ b)) := fun w h => (List.mem_cons.mp h).elim (fun e => ha w (List.mem_cons.mpr (Or.inl e))) (fun h => (List.mem_append.mp h).elim (fun h => ha w (List.mem_cons.mpr (Or.inr h))) (hb w))
theorem goodIn_sub {big ws : List Cond} (hm : ∀ w ∈ ws, w ∈ big) (h : ws.all goodWord = true) : GoodIn big ws := fun w hw => ⟨hm w hw, good_of_word (List.all_eq_true.mp h w hw)⟩
/-! ===== END ===== -/

/-! ===== BEGIN printed: names, fields, word lists, decode rows ===== -/
def RX0 : String := "TownOnWeight$Day"
def TX0 : u_T := fun k => match k with
  | 0 => ("TownOnWeight$Day", "length", "I", false)
  | 1 => ("TownOnWeight$Day", "hangs", "I", false)
  | 2 => ("TownOnWeight$Day", "hour", "I", false)
  | 3 => ("TownOnWeight$Day", "lost", "I", false)
  | 4 => ("TownOnWeight$Day", "worked", "I", false)
  | 5 => ("TownOnWeight$Day", "brakes", "I", false)
  | 6 => ("TownOnWeight$Day", "rain", "Z", false)
  | 7 => ("TownOnWeight$Day", "down", "Z", false)
  | 8 => ("TownOnWeight$Day", "takenByAll", "I", false)
  | 9 => ("TownOnWeight$Day", "taken", "[I", true)
  | 10 => ("TownOnWeight$Day", "owed", "[I", true)
  | 11 => ("TownOnWeight$Day", "wanted", "[I", true)
  | 12 => ("TownOnWeight$Day", "parts", "[I", true)
  | _ => ("TownOnWeight$Day", "rests", "[I", true)
def tyX0 : Nat → FieldType := fun k => match k with
  | 0 => .int
  | 1 => .int
  | 2 => .int
  | 3 => .int
  | 4 => .int
  | 5 => .int
  | 6 => .boolean
  | 7 => .boolean
  | 8 => .int
  | 9 => .array .int
  | 10 => .array .int
  | 11 => .array .int
  | 12 => .array .int
  | _ => .array .int
abbrev wsX00 : List Cond := u_ws RX0 TX0 14
theorem nmX0 : ∀ a, a < 14 → ∀ b, b < 14 → a ≠ b → (TX0 a).2.1 ≠ (TX0 b).2.1 := by decide +kernel
theorem tyX0_ok : ∀ k, k < 14 → parseFieldDescriptor (TX0 k).2.2.1 = some (tyX0 k) := by decide +kernel
abbrev cX0_init : ByteArray := prog_2_method_1_code
def yX0_init : MethodName := ⟨RX0, "<init>", "()V"⟩
abbrev cX0_copyFrom : ByteArray := prog_2_method_2_code
def yX0_copyFrom : MethodName := ⟨RX0, "copyFrom", "(LTownOnWeight$Day;)V"⟩
abbrev cX0_hasBegun : ByteArray := prog_2_method_3_code
def yX0_hasBegun : MethodName := ⟨RX0, "hasBegun", "()Z"⟩
abbrev cX0_hourComes : ByteArray := prog_2_method_4_code
def yX0_hourComes : MethodName := ⟨RX0, "hourComes", "()Z"⟩
abbrev cX0_welcome : ByteArray := prog_2_method_5_code
def yX0_welcome : MethodName := ⟨RX0, "welcome", "(I)V"⟩
abbrev cX0_wantOf : ByteArray := prog_2_method_6_code
def yX0_wantOf : MethodName := ⟨RX0, "wantOf", "(LTownOnWeight$Houses;I)I"⟩
abbrev cX0_tellWanted : ByteArray := prog_2_method_7_code
def yX0_tellWanted : MethodName := ⟨RX0, "tellWanted", "(LTownOnWeight$Houses;)V"⟩
abbrev cX0_goesBy : ByteArray := prog_2_method_8_code
def yX0_goesBy : MethodName := ⟨RX0, "goesBy", "(LTownOnWeight$Houses;I)I"⟩
abbrev cX0_passHour : ByteArray := prog_2_method_9_code
def yX0_passHour : MethodName := ⟨RX0, "passHour", "(LTownOnWeight$Houses;)I"⟩
abbrev cX0_letWork : ByteArray := prog_2_method_10_code
def yX0_letWork : MethodName := ⟨RX0, "letWork", "(III)V"⟩
abbrev cX0_tellParts : ByteArray := prog_2_method_11_code
def yX0_tellParts : MethodName := ⟨RX0, "tellParts", "(I)V"⟩
abbrev cX0_greatestRest : ByteArray := prog_2_method_12_code
def yX0_greatestRest : MethodName := ⟨RX0, "greatestRest", "(I)I"⟩
abbrev cX0_passNight : ByteArray := prog_2_method_13_code
def yX0_passNight : MethodName := ⟨RX0, "passNight", "(I)I"⟩
def RX1 : String := "TownOnWeight$Houses"
def TX1 : u_T := fun k => match k with
  | 0 => ("TownOnWeight$Houses", "number", "I", false)
  | 1 => ("TownOnWeight$Houses", "kind", "[I", true)
  | 2 => ("TownOnWeight$Houses", "parent", "[I", true)
  | 3 => ("TownOnWeight$Houses", "from", "[I", true)
  | 4 => ("TownOnWeight$Houses", "to", "[I", true)
  | 5 => ("TownOnWeight$Houses", "takes", "[I", true)
  | 6 => ("TownOnWeight$Houses", "loss", "[I", true)
  | _ => ("TownOnWeight$Houses", "way", "[I", true)
def tyX1 : Nat → FieldType := fun k => match k with
  | 0 => .int
  | 1 => .array .int
  | 2 => .array .int
  | 3 => .array .int
  | 4 => .array .int
  | 5 => .array .int
  | 6 => .array .int
  | _ => .array .int
abbrev wsX10 : List Cond := u_ws RX1 TX1 8
theorem nmX1 : ∀ a, a < 8 → ∀ b, b < 8 → a ≠ b → (TX1 a).2.1 ≠ (TX1 b).2.1 := by decide +kernel
theorem tyX1_ok : ∀ k, k < 8 → parseFieldDescriptor (TX1 k).2.2.1 = some (tyX1 k) := by decide +kernel
abbrev cX1_init : ByteArray := prog_3_method_1_code
def yX1_init : MethodName := ⟨RX1, "<init>", "()V"⟩
abbrev cX1_has : ByteArray := prog_3_method_2_code
def yX1_has : MethodName := ⟨RX1, "has", "(I)Z"⟩
abbrev cX1_all : ByteArray := prog_3_method_3_code
def yX1_all : MethodName := ⟨RX1, "all", "()I"⟩
abbrev cX1_areBits : ByteArray := prog_3_method_4_code
def yX1_areBits : MethodName := ⟨RX1, "areBits", "(I)Z"⟩
abbrev cX1_add : ByteArray := prog_3_method_5_code
def yX1_add : MethodName := ⟨RX1, "add", "(LTownOnWeight$Page;)V"⟩
abbrev cX1_isA : ByteArray := prog_3_method_6_code
def yX1_isA : MethodName := ⟨RX1, "isA", "(II)Z"⟩
abbrev cX1_isOpen : ByteArray := prog_3_method_7_code
def yX1_isOpen : MethodName := ⟨RX1, "isOpen", "(II)Z"⟩
abbrev cX1_openIn : ByteArray := prog_3_method_8_code
def yX1_openIn : MethodName := ⟨RX1, "openIn", "(I)I"⟩
abbrev cX1_takesOf : ByteArray := prog_3_method_9_code
def yX1_takesOf : MethodName := ⟨RX1, "takesOf", "(I)I"⟩
abbrev cX1_waysTo : ByteArray := prog_3_method_10_code
def yX1_waysTo : MethodName := ⟨RX1, "waysTo", "(I)I"⟩
abbrev cX1_toldLossOf : ByteArray := prog_3_method_11_code
def yX1_toldLossOf : MethodName := ⟨RX1, "toldLossOf", "(I)I"⟩
abbrev cX1_lossOf : ByteArray := prog_3_method_12_code
def yX1_lossOf : MethodName := ⟨RX1, "lossOf", "(IZ)I"⟩
def RX2 : String := "TownOnWeight$Page"
def TX2 : u_T := fun k => match k with
  | 0 => ("TownOnWeight$Page", "size", "I", false)
  | _ => ("TownOnWeight$Page", "codes", "[I", true)
def tyX2 : Nat → FieldType := fun k => match k with
  | 0 => .int
  | _ => .array .int
abbrev wsX20 : List Cond := u_ws RX2 TX2 2
theorem nmX2 : ∀ a, a < 2 → ∀ b, b < 2 → a ≠ b → (TX2 a).2.1 ≠ (TX2 b).2.1 := by decide +kernel
theorem tyX2_ok : ∀ k, k < 2 → parseFieldDescriptor (TX2 k).2.2.1 = some (tyX2 k) := by decide +kernel
abbrev cX2_init : ByteArray := prog_4_method_1_code
def yX2_init : MethodName := ⟨RX2, "<init>", "()V"⟩
abbrev cX2_codeIn : ByteArray := prog_4_method_2_code
def yX2_codeIn : MethodName := ⟨RX2, "codeIn", "(JI)I"⟩
abbrev cX2_lettersIn : ByteArray := prog_4_method_3_code
def yX2_lettersIn : MethodName := ⟨RX2, "lettersIn", "(J)I"⟩
abbrev cX2_append : ByteArray := prog_4_method_4_code
def yX2_append : MethodName := ⟨RX2, "append", "(JI)V"⟩
abbrev cX2_faultAt : ByteArray := prog_4_method_5_code
def yX2_faultAt : MethodName := ⟨RX2, "faultAt", "(I)I"⟩
abbrev cX2_isHouse : ByteArray := prog_4_method_6_code
def yX2_isHouse : MethodName := ⟨RX2, "isHouse", "(I)Z"⟩
abbrev cX2_fits : ByteArray := prog_4_method_7_code
def yX2_fits : MethodName := ⟨RX2, "fits", "(II)Z"⟩
abbrev cX2_kindOf : ByteArray := prog_4_method_8_code
def yX2_kindOf : MethodName := ⟨RX2, "kindOf", "(I)I"⟩
abbrev cX2_isDigit : ByteArray := prog_4_method_9_code
def yX2_isDigit : MethodName := ⟨RX2, "isDigit", "(III)Z"⟩
abbrev cX2_digitAt : ByteArray := prog_4_method_10_code
def yX2_digitAt : MethodName := ⟨RX2, "digitAt", "(I)I"⟩
def RX3 : String := "TownOnWeight$Readings"
def TX3 : u_T := fun k => match k with
  | 0 => ("TownOnWeight$Readings", "number", "I", false)
  | 1 => ("TownOnWeight$Readings", "through", "[I", true)
  | _ => ("TownOnWeight$Readings", "extra", "[I", true)
def tyX3 : Nat → FieldType := fun k => match k with
  | 0 => .int
  | 1 => .array .int
  | _ => .array .int
abbrev wsX30 : List Cond := u_ws RX3 TX3 3
theorem nmX3 : ∀ a, a < 3 → ∀ b, b < 3 → a ≠ b → (TX3 a).2.1 ≠ (TX3 b).2.1 := by decide +kernel
theorem tyX3_ok : ∀ k, k < 3 → parseFieldDescriptor (TX3 k).2.2.1 = some (tyX3 k) := by decide +kernel
abbrev cX3_init : ByteArray := prog_5_method_1_code
def yX3_init : MethodName := ⟨RX3, "<init>", "()V"⟩
abbrev cX3_add : ByteArray := prog_5_method_2_code
def yX3_add : MethodName := ⟨RX3, "add", "(II)V"⟩
abbrev cX3_copyFrom : ByteArray := prog_5_method_3_code
def yX3_copyFrom : MethodName := ⟨RX3, "copyFrom", "(LTownOnWeight$Readings;)V"⟩
abbrev cX3_leastLeakOf : ByteArray := prog_5_method_4_code
def yX3_leastLeakOf : MethodName := ⟨RX3, "leastLeakOf", "(I)I"⟩
abbrev cX3_givesAll : ByteArray := prog_5_method_5_code
def yX3_givesAll : MethodName := ⟨RX3, "givesAll", "(II)Z"⟩
def RX4 : String := "TownOnWeight"
def TX4 : u_T := fun k => match k with
  | 0 => ("TownOnWeight", "page", "LTownOnWeight$Page;", true)
  | 1 => ("TownOnWeight", "houses", "LTownOnWeight$Houses;", true)
  | 2 => ("TownOnWeight", "day", "LTownOnWeight$Day;", true)
  | 3 => ("TownOnWeight", "readings", "LTownOnWeight$Readings;", true)
  | 4 => ("TownOnWeight", "ahead", "LTownOnWeight$Day;", true)
  | 5 => ("TownOnWeight", "hasImage", "Z", false)
  | 6 => ("TownOnWeight", "imageHouses", "I", false)
  | 7 => ("TownOnWeight", "imageDay", "LTownOnWeight$Day;", true)
  | _ => ("TownOnWeight", "imageReadings", "LTownOnWeight$Readings;", true)
def tyX4 : Nat → FieldType := fun k => match k with
  | 0 => .object "TownOnWeight$Page"
  | 1 => .object "TownOnWeight$Houses"
  | 2 => .object "TownOnWeight$Day"
  | 3 => .object "TownOnWeight$Readings"
  | 4 => .object "TownOnWeight$Day"
  | 5 => .boolean
  | 6 => .int
  | 7 => .object "TownOnWeight$Day"
  | _ => .object "TownOnWeight$Readings"
abbrev wsX40 : List Cond := u_ws RX4 TX4 9
theorem nmX4 : ∀ a, a < 9 → ∀ b, b < 9 → a ≠ b → (TX4 a).2.1 ≠ (TX4 b).2.1 := by decide +kernel
theorem tyX4_ok : ∀ k, k < 9 → parseFieldDescriptor (TX4 k).2.2.1 = some (tyX4 k) := by decide +kernel
abbrev cX4_init : ByteArray := prog_1_method_1_code
def yX4_init : MethodName := ⟨RX4, "<init>", "()V"⟩
abbrev cX4_letters : ByteArray := prog_1_method_2_code
def yX4_letters : MethodName := ⟨RX4, "letters", "(J)I"⟩
abbrev cX4_blank : ByteArray := prog_1_method_3_code
def yX4_blank : MethodName := ⟨RX4, "blank", "()I"⟩
abbrev cX4_fault : ByteArray := prog_1_method_4_code
def yX4_fault : MethodName := ⟨RX4, "fault", "()I"⟩
abbrev cX4_house : ByteArray := prog_1_method_5_code
def yX4_house : MethodName := ⟨RX4, "house", "()I"⟩
abbrev cX4_about : ByteArray := prog_1_method_6_code
def yX4_about : MethodName := ⟨RX4, "about", "(II)I"⟩
abbrev cX4_as : ByteArray := prog_1_method_7_code
def yX4_as : MethodName := ⟨RX4, "as", "(II)I"⟩
abbrev cX4_length : ByteArray := prog_1_method_8_code
def yX4_length : MethodName := ⟨RX4, "length", "(I)I"⟩
abbrev cX4_brake : ByteArray := prog_1_method_9_code
def yX4_brake : MethodName := ⟨RX4, "brake", "(IZ)I"⟩
abbrev cX4_rain : ByteArray := prog_1_method_10_code
def yX4_rain : MethodName := ⟨RX4, "rain", "(Z)I"⟩
abbrev cX4_wants : ByteArray := prog_1_method_11_code
def yX4_wants : MethodName := ⟨RX4, "wants", "(I)I"⟩
abbrev cX4_goes : ByteArray := prog_1_method_12_code
def yX4_goes : MethodName := ⟨RX4, "goes", "(I)I"⟩
abbrev cX4_hour : ByteArray := prog_1_method_13_code
def yX4_hour : MethodName := ⟨RX4, "hour", "()I"⟩
abbrev cX4_worked : ByteArray := prog_1_method_14_code
def yX4_worked : MethodName := ⟨RX4, "worked", "()I"⟩
abbrev cX4_part : ByteArray := prog_1_method_15_code
def yX4_part : MethodName := ⟨RX4, "part", "(I)I"⟩
abbrev cX4_night : ByteArray := prog_1_method_16_code
def yX4_night : MethodName := ⟨RX4, "night", "()I"⟩
abbrev cX4_plan : ByteArray := prog_1_method_17_code
def yX4_plan : MethodName := ⟨RX4, "plan", "(I)I"⟩
abbrev cX4_more : ByteArray := prog_1_method_18_code
def yX4_more : MethodName := ⟨RX4, "more", "(I)I"⟩
abbrev cX4_missing : ByteArray := prog_1_method_19_code
def yX4_missing : MethodName := ⟨RX4, "missing", "(II)I"⟩
abbrev cX4_rest : ByteArray := prog_1_method_20_code
def yX4_rest : MethodName := ⟨RX4, "rest", "(II)I"⟩
abbrev cX4_read : ByteArray := prog_1_method_21_code
def yX4_read : MethodName := ⟨RX4, "read", "(II)I"⟩
abbrev cX4_wipe : ByteArray := prog_1_method_22_code
def yX4_wipe : MethodName := ⟨RX4, "wipe", "()I"⟩
abbrev cX4_leaks : ByteArray := prog_1_method_23_code
def yX4_leaks : MethodName := ⟨RX4, "leaks", "()I"⟩
abbrev cX4_leak : ByteArray := prog_1_method_24_code
def yX4_leak : MethodName := ⟨RX4, "leak", "(I)I"⟩
abbrev cX4_look : ByteArray := prog_1_method_25_code
def yX4_look : MethodName := ⟨RX4, "look", "()I"⟩
abbrev cX4_image : ByteArray := prog_1_method_26_code
def yX4_image : MethodName := ⟨RX4, "image", "()I"⟩
abbrev cX4_restore : ByteArray := prog_1_method_27_code
def yX4_restore : MethodName := ⟨RX4, "restore", "()I"⟩
abbrev cX4_count : ByteArray := prog_1_method_28_code
def yX4_count : MethodName := ⟨RX4, "count", "(I)I"⟩
abbrev cX4_digest : ByteArray := prog_1_method_29_code
def yX4_digest : MethodName := ⟨RX4, "digest", "()J"⟩
abbrev cX4_digestOfHouses : ByteArray := prog_1_method_30_code
def yX4_digestOfHouses : MethodName := ⟨RX4, "digestOfHouses", "(J)J"⟩
abbrev cX4_bestBrakes : ByteArray := prog_1_method_31_code
def yX4_bestBrakes : MethodName := ⟨RX4, "bestBrakes", "()I"⟩
abbrev cX4_takenAhead : ByteArray := prog_1_method_32_code
def yX4_takenAhead : MethodName := ⟨RX4, "takenAhead", "(II)I"⟩
abbrev cX4_seedAfter : ByteArray := prog_1_method_33_code
def yX4_seedAfter : MethodName := ⟨RX4, "seedAfter", "(I)I"⟩
abbrev cX4_bit : ByteArray := prog_1_method_34_code
def yX4_bit : MethodName := ⟨RX4, "bit", "(I)I"⟩
abbrev cX4_isIn : ByteArray := prog_1_method_35_code
def yX4_isIn : MethodName := ⟨RX4, "isIn", "(II)Z"⟩
abbrev cX4_oneIf : ByteArray := prog_1_method_36_code
def yX4_oneIf : MethodName := ⟨RX4, "oneIf", "(Z)I"⟩
def RX5 : String := "TownOnWeightModel"
def TX5 : u_T := fun k => match k with
  | 0 => ("TownOnWeightModel", "houses", "I", false)
  | 1 => ("TownOnWeightModel", "kindOf", "[I", true)
  | 2 => ("TownOnWeightModel", "parentOf", "[I", true)
  | 3 => ("TownOnWeightModel", "fromOf", "[I", true)
  | 4 => ("TownOnWeightModel", "toOf", "[I", true)
  | 5 => ("TownOnWeightModel", "takesOf", "[I", true)
  | 6 => ("TownOnWeightModel", "lossOf", "[I", true)
  | 7 => ("TownOnWeightModel", "takenOf", "[I", true)
  | 8 => ("TownOnWeightModel", "owesOf", "[I", true)
  | 9 => ("TownOnWeightModel", "brakes", "I", false)
  | 10 => ("TownOnWeightModel", "longNow", "I", false)
  | 11 => ("TownOnWeightModel", "hangs", "I", false)
  | 12 => ("TownOnWeightModel", "hourNow", "I", false)
  | 13 => ("TownOnWeightModel", "lostNow", "I", false)
  | 14 => ("TownOnWeightModel", "workedNow", "I", false)
  | 15 => ("TownOnWeightModel", "isDown", "Z", false)
  | 16 => ("TownOnWeightModel", "isRain", "Z", false)
  | 17 => ("TownOnWeightModel", "readings", "I", false)
  | 18 => ("TownOnWeightModel", "readSet", "[I", true)
  | 19 => ("TownOnWeightModel", "readFeet", "[I", true)
  | 20 => ("TownOnWeightModel", "pageLength", "I", false)
  | 21 => ("TownOnWeightModel", "page", "[B", true)
  | 22 => ("TownOnWeightModel", "savedTaken", "[I", true)
  | 23 => ("TownOnWeightModel", "savedBrakes", "I", false)
  | 24 => ("TownOnWeightModel", "savedHangs", "I", false)
  | 25 => ("TownOnWeightModel", "savedHour", "I", false)
  | 26 => ("TownOnWeightModel", "savedLost", "I", false)
  | 27 => ("TownOnWeightModel", "savedWorked", "I", false)
  | 28 => ("TownOnWeightModel", "savedDown", "Z", false)
  | 29 => ("TownOnWeightModel", "savedRain", "Z", false)
  | 30 => ("TownOnWeightModel", "seedNow", "J", false)
  | 31 => ("TownOnWeightModel", "isKept", "Z", false)
  | 32 => ("TownOnWeightModel", "keptHouses", "I", false)
  | 33 => ("TownOnWeightModel", "keptLong", "I", false)
  | 34 => ("TownOnWeightModel", "keptHangs", "I", false)
  | 35 => ("TownOnWeightModel", "keptHour", "I", false)
  | 36 => ("TownOnWeightModel", "keptLost", "I", false)
  | 37 => ("TownOnWeightModel", "keptWorked", "I", false)
  | 38 => ("TownOnWeightModel", "keptBrakes", "I", false)
  | 39 => ("TownOnWeightModel", "keptDown", "Z", false)
  | 40 => ("TownOnWeightModel", "keptRain", "Z", false)
  | 41 => ("TownOnWeightModel", "keptReadings", "I", false)
  | 42 => ("TownOnWeightModel", "keptTaken", "[I", true)
  | 43 => ("TownOnWeightModel", "keptOwes", "[I", true)
  | 44 => ("TownOnWeightModel", "keptSet", "[I", true)
  | 45 => ("TownOnWeightModel", "keptFeet", "[I", true)
  | _ => ("TownOnWeightModel", "h", "J", false)
def tyX5 : Nat → FieldType := fun k => match k with
  | 0 => .int
  | 1 => .array .int
  | 2 => .array .int
  | 3 => .array .int
  | 4 => .array .int
  | 5 => .array .int
  | 6 => .array .int
  | 7 => .array .int
  | 8 => .array .int
  | 9 => .int
  | 10 => .int
  | 11 => .int
  | 12 => .int
  | 13 => .int
  | 14 => .int
  | 15 => .boolean
  | 16 => .boolean
  | 17 => .int
  | 18 => .array .int
  | 19 => .array .int
  | 20 => .int
  | 21 => .array .byte
  | 22 => .array .int
  | 23 => .int
  | 24 => .int
  | 25 => .int
  | 26 => .int
  | 27 => .int
  | 28 => .boolean
  | 29 => .boolean
  | 30 => .long
  | 31 => .boolean
  | 32 => .int
  | 33 => .int
  | 34 => .int
  | 35 => .int
  | 36 => .int
  | 37 => .int
  | 38 => .int
  | 39 => .boolean
  | 40 => .boolean
  | 41 => .int
  | 42 => .array .int
  | 43 => .array .int
  | 44 => .array .int
  | 45 => .array .int
  | _ => .long
abbrev wsX50 : List Cond := u_ws RX5 TX5 47
theorem nmX5 : ∀ a, a < 47 → ∀ b, b < 47 → a ≠ b → (TX5 a).2.1 ≠ (TX5 b).2.1 := by decide +kernel
theorem tyX5_ok : ∀ k, k < 47 → parseFieldDescriptor (TX5 k).2.2.1 = some (tyX5 k) := by decide +kernel
abbrev cX5_init : ByteArray := prog_7_method_1_code
def yX5_init : MethodName := ⟨RX5, "<init>", "()V"⟩
abbrev cX5_within : ByteArray := prog_7_method_3_code
def yX5_within : MethodName := ⟨RX5, "within", "(III)Z"⟩
abbrev cX5_has : ByteArray := prog_7_method_4_code
def yX5_has : MethodName := ⟨RX5, "has", "(II)Z"⟩
abbrev cX5_size : ByteArray := prog_7_method_5_code
def yX5_size : MethodName := ⟨RX5, "size", "(I)I"⟩
abbrev cX5_letters : ByteArray := prog_7_method_6_code
def yX5_letters : MethodName := ⟨RX5, "letters", "(J)I"⟩
abbrev cX5_blank : ByteArray := prog_7_method_7_code
def yX5_blank : MethodName := ⟨RX5, "blank", "()I"⟩
abbrev cX5_kindBy : ByteArray := prog_7_method_8_code
def yX5_kindBy : MethodName := ⟨RX5, "kindBy", "(I)I"⟩
abbrev cX5_mayStand : ByteArray := prog_7_method_9_code
def yX5_mayStand : MethodName := ⟨RX5, "mayStand", "(II)Z"⟩
abbrev cX5_faultNow : ByteArray := prog_7_method_10_code
def yX5_faultNow : MethodName := ⟨RX5, "faultNow", "()I"⟩
abbrev cX5_fault : ByteArray := prog_7_method_11_code
def yX5_fault : MethodName := ⟨RX5, "fault", "()I"⟩
abbrev cX5_house : ByteArray := prog_7_method_12_code
def yX5_house : MethodName := ⟨RX5, "house", "()I"⟩
abbrev cX5_isHouse : ByteArray := prog_7_method_13_code
def yX5_isHouse : MethodName := ⟨RX5, "isHouse", "(I)Z"⟩
abbrev cX5_houseNow : ByteArray := prog_7_method_14_code
def yX5_houseNow : MethodName := ⟨RX5, "houseNow", "(II)I"⟩
abbrev cX5_about : ByteArray := prog_7_method_15_code
def yX5_about : MethodName := ⟨RX5, "about", "(II)I"⟩
abbrev cX5_as : ByteArray := prog_7_method_16_code
def yX5_as : MethodName := ⟨RX5, "as", "(II)I"⟩
abbrev cX5_length : ByteArray := prog_7_method_17_code
def yX5_length : MethodName := ⟨RX5, "length", "(I)I"⟩
abbrev cX5_brake : ByteArray := prog_7_method_18_code
def yX5_brake : MethodName := ⟨RX5, "brake", "(IZ)I"⟩
abbrev cX5_rain : ByteArray := prog_7_method_19_code
def yX5_rain : MethodName := ⟨RX5, "rain", "(Z)I"⟩
abbrev cX5_isTime : ByteArray := prog_7_method_20_code
def yX5_isTime : MethodName := ⟨RX5, "isTime", "(I)Z"⟩
abbrev cX5_wantsNow : ByteArray := prog_7_method_21_code
def yX5_wantsNow : MethodName := ⟨RX5, "wantsNow", "(I)I"⟩
abbrev cX5_wants : ByteArray := prog_7_method_22_code
def yX5_wants : MethodName := ⟨RX5, "wants", "(I)I"⟩
abbrev cX5_shafts : ByteArray := prog_7_method_23_code
def yX5_shafts : MethodName := ⟨RX5, "shafts", "(I)I"⟩
abbrev cX5_wanting : ByteArray := prog_7_method_24_code
def yX5_wanting : MethodName := ⟨RX5, "wanting", "(I)I"⟩
abbrev cX5_takesBy : ByteArray := prog_7_method_25_code
def yX5_takesBy : MethodName := ⟨RX5, "takesBy", "(I)I"⟩
abbrev cX5_goesBy : ByteArray := prog_7_method_26_code
def yX5_goesBy : MethodName := ⟨RX5, "goesBy", "(I)I"⟩
abbrev cX5_everybody : ByteArray := prog_7_method_27_code
def yX5_everybody : MethodName := ⟨RX5, "everybody", "()I"⟩
abbrev cX5_goes : ByteArray := prog_7_method_28_code
def yX5_goes : MethodName := ⟨RX5, "goes", "(I)I"⟩
abbrev cX5_working : ByteArray := prog_7_method_29_code
def yX5_working : MethodName := ⟨RX5, "working", "()I"⟩
abbrev cX5_isOver : ByteArray := prog_7_method_30_code
def yX5_isOver : MethodName := ⟨RX5, "isOver", "()Z"⟩
abbrev cX5_goHour : ByteArray := prog_7_method_31_code
def yX5_goHour : MethodName := ⟨RX5, "goHour", "()I"⟩
abbrev cX5_hour : ByteArray := prog_7_method_32_code
def yX5_hour : MethodName := ⟨RX5, "hour", "()I"⟩
abbrev cX5_worked : ByteArray := prog_7_method_33_code
def yX5_worked : MethodName := ⟨RX5, "worked", "()I"⟩
abbrev cX5_takenAll : ByteArray := prog_7_method_34_code
def yX5_takenAll : MethodName := ⟨RX5, "takenAll", "()I"⟩
abbrev cX5_partOf : ByteArray := prog_7_method_35_code
def yX5_partOf : MethodName := ⟨RX5, "partOf", "(I)I"⟩
abbrev cX5_part : ByteArray := prog_7_method_36_code
def yX5_part : MethodName := ⟨RX5, "part", "(I)I"⟩
abbrev cX5_night : ByteArray := prog_7_method_37_code
def yX5_night : MethodName := ⟨RX5, "night", "()I"⟩
abbrev cX5_save : ByteArray := prog_7_method_38_code
def yX5_save : MethodName := ⟨RX5, "save", "()V"⟩
abbrev cX5_back : ByteArray := prog_7_method_39_code
def yX5_back : MethodName := ⟨RX5, "back", "()V"⟩
abbrev cX5_takenOn : ByteArray := prog_7_method_40_code
def yX5_takenOn : MethodName := ⟨RX5, "takenOn", "(II)I"⟩
abbrev cX5_planNow : ByteArray := prog_7_method_41_code
def yX5_planNow : MethodName := ⟨RX5, "planNow", "(I)I"⟩
abbrev cX5_plan : ByteArray := prog_7_method_42_code
def yX5_plan : MethodName := ⟨RX5, "plan", "(I)I"⟩
abbrev cX5_moreNow : ByteArray := prog_7_method_43_code
def yX5_moreNow : MethodName := ⟨RX5, "moreNow", "(I)I"⟩
abbrev cX5_more : ByteArray := prog_7_method_44_code
def yX5_more : MethodName := ⟨RX5, "more", "(I)I"⟩
abbrev cX5_sumOf : ByteArray := prog_7_method_45_code
def yX5_sumOf : MethodName := ⟨RX5, "sumOf", "(I)I"⟩
abbrev cX5_missing : ByteArray := prog_7_method_46_code
def yX5_missing : MethodName := ⟨RX5, "missing", "(II)I"⟩
abbrev cX5_draw : ByteArray := prog_7_method_47_code
def yX5_draw : MethodName := ⟨RX5, "draw", "(I)I"⟩
abbrev cX5_rest : ByteArray := prog_7_method_48_code
def yX5_rest : MethodName := ⟨RX5, "rest", "(II)I"⟩
abbrev cX5_read : ByteArray := prog_7_method_49_code
def yX5_read : MethodName := ⟨RX5, "read", "(II)I"⟩
abbrev cX5_wipe : ByteArray := prog_7_method_50_code
def yX5_wipe : MethodName := ⟨RX5, "wipe", "()I"⟩
abbrev cX5_feetBy : ByteArray := prog_7_method_51_code
def yX5_feetBy : MethodName := ⟨RX5, "feetBy", "(I)I"⟩
abbrev cX5_leakNow : ByteArray := prog_7_method_52_code
def yX5_leakNow : MethodName := ⟨RX5, "leakNow", "(I)I"⟩
abbrev cX5_leak : ByteArray := prog_7_method_53_code
def yX5_leak : MethodName := ⟨RX5, "leak", "(I)I"⟩
abbrev cX5_leaksNow : ByteArray := prog_7_method_54_code
def yX5_leaksNow : MethodName := ⟨RX5, "leaksNow", "()I"⟩
abbrev cX5_leaks : ByteArray := prog_7_method_55_code
def yX5_leaks : MethodName := ⟨RX5, "leaks", "()I"⟩
abbrev cX5_lookNow : ByteArray := prog_7_method_56_code
def yX5_lookNow : MethodName := ⟨RX5, "lookNow", "()I"⟩
abbrev cX5_look : ByteArray := prog_7_method_57_code
def yX5_look : MethodName := ⟨RX5, "look", "()I"⟩
abbrev cX5_image : ByteArray := prog_7_method_58_code
def yX5_image : MethodName := ⟨RX5, "image", "()I"⟩
abbrev cX5_restore : ByteArray := prog_7_method_59_code
def yX5_restore : MethodName := ⟨RX5, "restore", "()I"⟩
abbrev cX5_howMany : ByteArray := prog_7_method_60_code
def yX5_howMany : MethodName := ⟨RX5, "howMany", "(I)I"⟩
abbrev cX5_count : ByteArray := prog_7_method_61_code
def yX5_count : MethodName := ⟨RX5, "count", "(I)I"⟩
abbrev cX5_mix : ByteArray := prog_7_method_62_code
def yX5_mix : MethodName := ⟨RX5, "mix", "(J)V"⟩
abbrev cX5_digest : ByteArray := prog_7_method_63_code
def yX5_digest : MethodName := ⟨RX5, "digest", "()J"⟩
def RJ11 : String := "java/lang/Character"
def TJ11 : u_T := fun k => match k with
  | _ => ("", "", "", false)
def tyJ11 : Nat → FieldType := fun k => match k with
  | _ => .int
abbrev wsJ110 : List Cond := u_ws RJ11 TJ11 0
theorem nmJ11 : ∀ a, a < 0 → ∀ b, b < 0 → a ≠ b → (TJ11 a).2.1 ≠ (TJ11 b).2.1 := by decide +kernel
theorem tyJ11_ok : ∀ k, k < 0 → parseFieldDescriptor (TJ11 k).2.2.1 = some (tyJ11 k) := by decide +kernel
abbrev cJ11_isValidCodePoint_9a6ad : ByteArray := prog_8_method_11_code
def yJ11_isValidCodePoint_9a6ad : MethodName := ⟨RJ11, "isValidCodePoint", "(I)Z"⟩
abbrev cJ11_highSurrogate_5068e : ByteArray := prog_8_method_28_code
def yJ11_highSurrogate_5068e : MethodName := ⟨RJ11, "highSurrogate", "(I)C"⟩
abbrev cJ11_lowSurrogate_5068e : ByteArray := prog_8_method_29_code
def yJ11_lowSurrogate_5068e : MethodName := ⟨RJ11, "lowSurrogate", "(I)C"⟩
def RJ6 : String := "java/lang/Integer"
def TJ6 : u_T := fun k => match k with
  | _ => ("", "", "", false)
def tyJ6 : Nat → FieldType := fun k => match k with
  | _ => .int
abbrev wsJ60 : List Cond := u_ws RJ6 TJ6 0
theorem nmJ6 : ∀ a, a < 0 → ∀ b, b < 0 → a ≠ b → (TJ6 a).2.1 ≠ (TJ6 b).2.1 := by decide +kernel
theorem tyJ6_ok : ∀ k, k < 0 → parseFieldDescriptor (TJ6 k).2.2.1 = some (tyJ6 k) := by decide +kernel
abbrev cJ6_bitCount_0f7a4 : ByteArray := prog_9_method_49_code
def yJ6_bitCount_0f7a4 : MethodName := ⟨RJ6, "bitCount", "(I)I"⟩
def RJ9 : String := "java/lang/Math"
def TJ9 : u_T := fun k => match k with
  | _ => ("", "", "", false)
def tyJ9 : Nat → FieldType := fun k => match k with
  | _ => .int
abbrev wsJ90 : List Cond := u_ws RJ9 TJ9 0
theorem nmJ9 : ∀ a, a < 0 → ∀ b, b < 0 → a ≠ b → (TJ9 a).2.1 ≠ (TJ9 b).2.1 := by decide +kernel
theorem tyJ9_ok : ∀ k, k < 0 → parseFieldDescriptor (TJ9 k).2.2.1 = some (tyJ9 k) := by decide +kernel
abbrev cJ9_max_7cf53 : ByteArray := prog_10_method_65_code
def yJ9_max_7cf53 : MethodName := ⟨RJ9, "max", "(II)I"⟩
abbrev cJ9_min_7cf53 : ByteArray := prog_10_method_69_code
def yJ9_min_7cf53 : MethodName := ⟨RJ9, "min", "(II)I"⟩
def RJ0 : String := "java/lang/String"
def TJ0 : u_T := fun k => match k with
  | _ => ("", "", "", false)
def tyJ0 : Nat → FieldType := fun k => match k with
  | _ => .int
abbrev wsJ00 : List Cond := u_ws RJ0 TJ0 0
theorem nmJ0 : ∀ a, a < 0 → ∀ b, b < 0 → a ≠ b → (TJ0 a).2.1 ≠ (TJ0 b).2.1 := by decide +kernel
theorem tyJ0_ok : ∀ k, k < 0 → parseFieldDescriptor (TJ0 k).2.2.1 = some (tyJ0 k) := by decide +kernel
abbrev cJ0_length_8abf5 : ByteArray := prog_11_method_54_code
def yJ0_length_8abf5 : MethodName := ⟨RJ0, "length", "()I"⟩
abbrev cJ0_indexOf_0f7a4 : ByteArray := prog_11_method_79_code
def yJ0_indexOf_0f7a4 : MethodName := ⟨RJ0, "indexOf", "(I)I"⟩
abbrev cJ0_indexOf_7cf53 : ByteArray := prog_11_method_80_code
def yJ0_indexOf_7cf53 : MethodName := ⟨RJ0, "indexOf", "(II)I"⟩
abbrev cJ0_coder_7d493 : ByteArray := prog_11_method_152_code
def yJ0_coder_7d493 : MethodName := ⟨RJ0, "coder", "()B"⟩
abbrev cJ0_isLatin1_aae02 : ByteArray := prog_11_method_154_code
def yJ0_isLatin1_aae02 : MethodName := ⟨RJ0, "isLatin1", "()Z"⟩
abbrev cJ0_checkBoundsBeginEnd_23922 : ByteArray := prog_11_method_158_code
def yJ0_checkBoundsBeginEnd_23922 : MethodName := ⟨RJ0, "checkBoundsBeginEnd", "(III)V"⟩
def RJ1 : String := "java/lang/StringLatin1"
def TJ1 : u_T := fun k => match k with
  | _ => ("", "", "", false)
def tyJ1 : Nat → FieldType := fun k => match k with
  | _ => .int
abbrev wsJ10 : List Cond := u_ws RJ1 TJ1 0
theorem nmJ1 : ∀ a, a < 0 → ∀ b, b < 0 → a ≠ b → (TJ1 a).2.1 ≠ (TJ1 b).2.1 := by decide +kernel
theorem tyJ1_ok : ∀ k, k < 0 → parseFieldDescriptor (TJ1 k).2.2.1 = some (tyJ1 k) := by decide +kernel
abbrev cJ1_canEncode_9a6ad : ByteArray := prog_12_method_4_code
def yJ1_canEncode_9a6ad : MethodName := ⟨RJ1, "canEncode", "(I)Z"⟩
abbrev cJ1_indexOf_4cfef : ByteArray := prog_12_method_22_code
def yJ1_indexOf_4cfef : MethodName := ⟨RJ1, "indexOf", "([BIII)I"⟩
abbrev cJ1_indexOfChar_4cfef : ByteArray := prog_12_method_23_code
def yJ1_indexOfChar_4cfef : MethodName := ⟨RJ1, "indexOfChar", "([BIII)I"⟩
def RJ2 : String := "java/lang/StringUTF16"
def TJ2 : u_T := fun k => match k with
  | _ => ("", "", "", false)
def tyJ2 : Nat → FieldType := fun k => match k with
  | _ => .int
abbrev wsJ20 : List Cond := u_ws RJ2 TJ2 0
theorem nmJ2 : ∀ a, a < 0 → ∀ b, b < 0 → a ≠ b → (TJ2 a).2.1 ≠ (TJ2 b).2.1 := by decide +kernel
theorem tyJ2_ok : ∀ k, k < 0 → parseFieldDescriptor (TJ2 k).2.2.1 = some (tyJ2 k) := by decide +kernel
abbrev cJ2_getChar_3b067 : ByteArray := prog_13_method_5_code
def yJ2_getChar_3b067 : MethodName := ⟨RJ2, "getChar", "([BI)C"⟩
abbrev cJ2_length_9d52b : ByteArray := prog_13_method_6_code
def yJ2_length_9d52b : MethodName := ⟨RJ2, "length", "([B)I"⟩
abbrev cJ2_indexOf_4cfef : ByteArray := prog_13_method_40_code
def yJ2_indexOf_4cfef : MethodName := ⟨RJ2, "indexOf", "([BIII)I"⟩
abbrev cJ2_indexOfChar_4cfef : ByteArray := prog_13_method_47_code
def yJ2_indexOfChar_4cfef : MethodName := ⟨RJ2, "indexOfChar", "([BIII)I"⟩
abbrev cJ2_indexOfCharUnsafe_4cfef : ByteArray := prog_13_method_48_code
def yJ2_indexOfCharUnsafe_4cfef : MethodName := ⟨RJ2, "indexOfCharUnsafe", "([BIII)I"⟩
abbrev cJ2_indexOfSupplementary_4cfef : ByteArray := prog_13_method_49_code
def yJ2_indexOfSupplementary_4cfef : MethodName := ⟨RJ2, "indexOfSupplementary", "([BIII)I"⟩
abbrev cJ2_checkBoundsBeginEnd_d044e : ByteArray := prog_13_method_93_code
def yJ2_checkBoundsBeginEnd_d044e : MethodName := ⟨RJ2, "checkBoundsBeginEnd", "(II[B)V"⟩
def RJ10 : String := "java/lang/System"
def TJ10 : u_T := fun k => match k with
  | _ => ("", "", "", false)
def tyJ10 : Nat → FieldType := fun k => match k with
  | _ => .int
abbrev wsJ100 : List Cond := u_ws RJ10 TJ10 0
theorem nmJ10 : ∀ a, a < 0 → ∀ b, b < 0 → a ≠ b → (TJ10 a).2.1 ≠ (TJ10 b).2.1 := by decide +kernel
theorem tyJ10_ok : ∀ k, k < 0 → parseFieldDescriptor (TJ10 k).2.2.1 = some (tyJ10 k) := by decide +kernel
def RJ3 : String := "jdk/internal/util/Preconditions"
def TJ3 : u_T := fun k => match k with
  | _ => ("", "", "", false)
def tyJ3 : Nat → FieldType := fun k => match k with
  | _ => .int
abbrev wsJ30 : List Cond := u_ws RJ3 TJ3 0
theorem nmJ3 : ∀ a, a < 0 → ∀ b, b < 0 → a ≠ b → (TJ3 a).2.1 ≠ (TJ3 b).2.1 := by decide +kernel
theorem tyJ3_ok : ∀ k, k < 0 → parseFieldDescriptor (TJ3 k).2.2.1 = some (tyJ3 k) := by decide +kernel
abbrev cJ3_checkFromToIndex_8c36e : ByteArray := prog_15_method_12_code
def yJ3_checkFromToIndex_8c36e : MethodName := ⟨RJ3, "checkFromToIndex", "(IIILjava/util/function/BiFunction;)I"⟩
def RL : String := "TownOnWeightLaw"
abbrev cL_law : ByteArray := code
def yL_law : MethodName := ⟨RL, "law", "([I)Z"⟩
def wsL_law_r1 : List Cond := [Cond.classLink RL 7 RX4, Cond.instantiable RX4 9, Cond.initialized RX4, Cond.classLink RL 10 RX5, Cond.instantiable RX5 47, Cond.initialized RX5, Cond.constantLong RL 13 (4294967295), Cond.methodLink RL 9 yX4_init, Cond.instanceMethod yX4_init, Cond.code yX4_init cX4_init 1 none, Cond.methodLink RX4 1 objectInit, Cond.instanceMethod objectInit, Cond.code objectInit ⟨#[0xb1]⟩ 1 none, Cond.classLink RX4 7 RX2, Cond.instantiable RX2 2, Cond.initialized RX2, Cond.fieldLink RX4 10 "TownOnWeight" "page" "LTownOnWeight$Page;", Cond.classLink RX4 16 RX1, Cond.instantiable RX1 8, Cond.initialized RX1, Cond.fieldLink RX4 19 "TownOnWeight" "houses" "LTownOnWeight$Houses;", Cond.classLink RX4 23 RX0, Cond.instantiable RX0 14, Cond.initialized RX0]
def wsL_law_r2 : List Cond := [Cond.fieldLink RX4 26 "TownOnWeight" "day" "LTownOnWeight$Day;", Cond.classLink RX4 30 RX3, Cond.instantiable RX3 3, Cond.initialized RX3, Cond.fieldLink RX4 33 "TownOnWeight" "readings" "LTownOnWeight$Readings;", Cond.fieldLink RX4 37 "TownOnWeight" "ahead" "LTownOnWeight$Day;", Cond.fieldLink RX4 40 "TownOnWeight" "imageDay" "LTownOnWeight$Day;", Cond.fieldLink RX4 43 "TownOnWeight" "imageReadings" "LTownOnWeight$Readings;", Cond.instanceMethod yX2_init, Cond.code yX2_init cX2_init 1 none, Cond.methodLink RX2 3 objectInit, Cond.arrayClass .int, Cond.fieldLink RX2 9 "TownOnWeight$Page" "codes" "[I", Cond.instanceMethod yX1_init, Cond.code yX1_init cX1_init 1 none, Cond.methodLink RX1 3 objectInit, Cond.fieldLink RX1 9 "TownOnWeight$Houses" "kind" "[I", Cond.fieldLink RX1 15 "TownOnWeight$Houses" "parent" "[I", Cond.fieldLink RX1 18 "TownOnWeight$Houses" "from" "[I", Cond.fieldLink RX1 21 "TownOnWeight$Houses" "to" "[I", Cond.fieldLink RX1 24 "TownOnWeight$Houses" "takes" "[I", Cond.fieldLink RX1 27 "TownOnWeight$Houses" "loss" "[I", Cond.fieldLink RX1 30 "TownOnWeight$Houses" "way" "[I", Cond.instanceMethod yX0_init]
def wsL_law_r3 : List Cond := [Cond.code yX0_init cX0_init 1 none, Cond.methodLink RX0 3 objectInit, Cond.fieldLink RX0 9 "TownOnWeight$Day" "length" "I", Cond.fieldLink RX0 15 "TownOnWeight$Day" "hangs" "I", Cond.fieldLink RX0 18 "TownOnWeight$Day" "taken" "[I", Cond.fieldLink RX0 22 "TownOnWeight$Day" "owed" "[I", Cond.fieldLink RX0 25 "TownOnWeight$Day" "wanted" "[I", Cond.fieldLink RX0 28 "TownOnWeight$Day" "parts" "[I", Cond.fieldLink RX0 31 "TownOnWeight$Day" "rests" "[I", Cond.instanceMethod yX3_init, Cond.code yX3_init cX3_init 1 none, Cond.methodLink RX3 3 objectInit, Cond.fieldLink RX3 9 "TownOnWeight$Readings" "through" "[I", Cond.fieldLink RX3 15 "TownOnWeight$Readings" "extra" "[I", Cond.methodLink RL 12 yX5_init, Cond.instanceMethod yX5_init, Cond.code yX5_init cX5_init 1 none, Cond.methodLink RX5 1 objectInit, Cond.fieldLink RX5 7 "TownOnWeightModel" "kindOf" "[I", Cond.fieldLink RX5 13 "TownOnWeightModel" "parentOf" "[I", Cond.fieldLink RX5 16 "TownOnWeightModel" "fromOf" "[I", Cond.fieldLink RX5 19 "TownOnWeightModel" "toOf" "[I", Cond.fieldLink RX5 22 "TownOnWeightModel" "takesOf" "[I", Cond.fieldLink RX5 25 "TownOnWeightModel" "lossOf" "[I"]
def wsL_law_r4 : List Cond := [Cond.fieldLink RX5 28 "TownOnWeightModel" "takenOf" "[I", Cond.fieldLink RX5 31 "TownOnWeightModel" "owesOf" "[I", Cond.fieldLink RX5 34 "TownOnWeightModel" "longNow" "I", Cond.fieldLink RX5 38 "TownOnWeightModel" "hangs" "I", Cond.fieldLink RX5 41 "TownOnWeightModel" "readSet" "[I", Cond.fieldLink RX5 44 "TownOnWeightModel" "readFeet" "[I", Cond.arrayClass .byte, Cond.fieldLink RX5 47 "TownOnWeightModel" "page" "[B", Cond.fieldLink RX5 51 "TownOnWeightModel" "savedTaken" "[I", Cond.fieldLink RX5 54 "TownOnWeightModel" "keptTaken" "[I", Cond.fieldLink RX5 57 "TownOnWeightModel" "keptOwes" "[I", Cond.fieldLink RX5 60 "TownOnWeightModel" "keptSet" "[I", Cond.fieldLink RX5 63 "TownOnWeightModel" "keptFeet" "[I", Cond.methodLink RL 15 yX4_letters, Cond.instanceMethod yX4_letters, Cond.selects RX4 yX4_letters yX4_letters, Cond.code yX4_letters cX4_letters 4 (some .int), Cond.static yX2_lettersIn, Cond.code yX2_lettersIn cX2_lettersIn 6 (some .int), Cond.methodLink RX2 15 yX2_codeIn, Cond.static yX2_codeIn, Cond.code yX2_codeIn cX2_codeIn 3 (some .int), Cond.instanceMethod yX2_append, Cond.selects RX2 yX2_append yX2_append]
def wsL_law_r5 : List Cond := [Cond.code yX2_append cX2_append 5 none, Cond.fieldLink RX2 19 "TownOnWeight$Page" "size" "I", Cond.methodLink RL 19 yX5_letters, Cond.instanceMethod yX5_letters, Cond.selects RX5 yX5_letters yX5_letters, Cond.code yX5_letters cX5_letters 7 (some .int), Cond.constantLong RX5 66 (255), Cond.fieldLink RX5 68 "TownOnWeightModel" "pageLength" "I", Cond.methodLink RL 20 yX4_blank, Cond.instanceMethod yX4_blank, Cond.selects RX4 yX4_blank yX4_blank, Cond.code yX4_blank cX4_blank 2 (some .int), Cond.methodLink RL 24 yX5_blank, Cond.instanceMethod yX5_blank, Cond.selects RX5 yX5_blank yX5_blank, Cond.code yX5_blank cX5_blank 2 (some .int), Cond.methodLink RL 25 yX4_fault, Cond.instanceMethod yX4_fault, Cond.selects RX4 yX4_fault yX4_fault, Cond.code yX4_fault cX4_fault 1 (some .int), Cond.instanceMethod yX2_faultAt, Cond.selects RX2 yX2_faultAt yX2_faultAt, Cond.code yX2_faultAt cX2_faultAt 3 (some .int), Cond.methodLink RX2 23 yX2_fits]
def wsL_law_r6 : List Cond := [Cond.instanceMethod yX2_fits, Cond.selects RX2 yX2_fits yX2_fits, Cond.code yX2_fits cX2_fits 4 (some .boolean), Cond.methodLink RX2 31 yX2_kindOf, Cond.static yX2_kindOf, Cond.code yX2_kindOf cX2_kindOf 1 (some .int), Cond.methodLink RX2 43 yJ0_indexOf_0f7a4, Cond.instanceMethod yJ0_indexOf_0f7a4, Cond.selects RJ0 yJ0_indexOf_0f7a4 yJ0_indexOf_0f7a4, Cond.initialized RJ0, Cond.code yJ0_indexOf_0f7a4 cJ0_indexOf_0f7a4 2 (some .int), Cond.methodLink RJ0 633 yJ0_indexOf_7cf53, Cond.instanceMethod yJ0_indexOf_7cf53, Cond.selects RJ0 yJ0_indexOf_7cf53 yJ0_indexOf_7cf53, Cond.code yJ0_indexOf_7cf53 cJ0_indexOf_7cf53 3 (some .int), Cond.fieldLink RJ0 9 "java/lang/String" "value" "[B", Cond.methodLink RJ0 492 yJ0_isLatin1_aae02, Cond.instanceMethod yJ0_isLatin1_aae02, Cond.selects RJ0 yJ0_isLatin1_aae02 yJ0_isLatin1_aae02, Cond.code yJ0_isLatin1_aae02 cJ0_isLatin1_aae02 1 (some .boolean), Cond.fieldLink RJ0 38 "java/lang/String" "COMPACT_STRINGS" "Z", Cond.fieldLink RJ0 15 "java/lang/String" "coder" "B", Cond.methodLink RJ0 505 yJ0_length_8abf5, Cond.instanceMethod yJ0_length_8abf5]
def wsL_law_r7 : List Cond := [Cond.selects RJ0 yJ0_length_8abf5 yJ0_length_8abf5, Cond.code yJ0_length_8abf5 cJ0_length_8abf5 1 (some .int), Cond.methodLink RJ0 335 yJ0_coder_7d493, Cond.instanceMethod yJ0_coder_7d493, Cond.selects RJ0 yJ0_coder_7d493 yJ0_coder_7d493, Cond.code yJ0_coder_7d493 cJ0_coder_7d493 1 (some .byte), Cond.methodLink RJ0 637 yJ1_indexOf_4cfef, Cond.static yJ1_indexOf_4cfef, Cond.initialized RJ1, Cond.code yJ1_indexOf_4cfef cJ1_indexOf_4cfef 4 (some .int), Cond.methodLink RJ1 92 Lib.Math.max.name, Cond.static Lib.Math.max.name, Cond.initialized "java/lang/Math", Cond.code Lib.Math.max.name Lib.Math.max.code 2 (some .int), Cond.methodLink RJ1 38 Lib.Math.min.name, Cond.static Lib.Math.min.name, Cond.code Lib.Math.min.name Lib.Math.min.code 2 (some .int), Cond.methodLink RJ1 88 yJ1_canEncode_9a6ad, Cond.static yJ1_canEncode_9a6ad, Cond.code yJ1_canEncode_9a6ad cJ1_canEncode_9a6ad 1 (some .boolean), Cond.methodLink RJ1 95 yJ1_indexOfChar_4cfef, Cond.static yJ1_indexOfChar_4cfef, Cond.code yJ1_indexOfChar_4cfef cJ1_indexOfChar_4cfef 6 (some .int), Cond.methodLink RJ0 640 yJ2_indexOf_4cfef]
def wsL_law_r8 : List Cond := [Cond.static yJ2_indexOf_4cfef, Cond.initialized RJ2, Cond.code yJ2_indexOf_4cfef cJ2_indexOf_4cfef 4 (some .int), Cond.methodLink RJ2 224 Lib.Math.max.name, Cond.methodLink RJ2 183 Lib.Math.min.name, Cond.constant RJ2 227 (65536), Cond.methodLink RJ2 228 yJ2_indexOfChar_4cfef, Cond.static yJ2_indexOfChar_4cfef, Cond.code yJ2_indexOfChar_4cfef cJ2_indexOfChar_4cfef 4 (some .int), Cond.methodLink RJ2 96 yJ2_checkBoundsBeginEnd_d044e, Cond.static yJ2_checkBoundsBeginEnd_d044e, Cond.code yJ2_checkBoundsBeginEnd_d044e cJ2_checkBoundsBeginEnd_d044e 3 none, Cond.methodLink RJ2 48 yJ2_length_9d52b, Cond.static yJ2_length_9d52b, Cond.code yJ2_length_9d52b cJ2_length_9d52b 1 (some .int), Cond.methodLink RJ2 241 yJ0_checkBoundsBeginEnd_23922, Cond.static yJ0_checkBoundsBeginEnd_23922, Cond.code yJ0_checkBoundsBeginEnd_23922 cJ0_checkBoundsBeginEnd_23922 3 none, Cond.fieldLink RJ0 1053 "jdk/internal/util/Preconditions" "SIOOBE_FORMATTER" "Ljava/util/function/BiFunction;", Cond.methodLink RJ0 1062 yJ3_checkFromToIndex_8c36e, Cond.static yJ3_checkFromToIndex_8c36e, Cond.initialized RJ3, Cond.code yJ3_checkFromToIndex_8c36e cJ3_checkFromToIndex_8c36e 4 (some .int), Cond.methodLink RJ2 244 yJ2_indexOfCharUnsafe_4cfef]
def wsL_law_r9 : List Cond := [Cond.static yJ2_indexOfCharUnsafe_4cfef, Cond.code yJ2_indexOfCharUnsafe_4cfef cJ2_indexOfCharUnsafe_4cfef 5 (some .int), Cond.methodLink RJ2 71 yJ2_getChar_3b067, Cond.static yJ2_getChar_3b067, Cond.code yJ2_getChar_3b067 cJ2_getChar_3b067 2 (some .char), Cond.fieldLink RJ2 44 "java/lang/StringUTF16" "$assertionsDisabled" "Z", Cond.fieldLink RJ2 59 "java/lang/StringUTF16" "HI_BYTE_SHIFT" "I", Cond.fieldLink RJ2 63 "java/lang/StringUTF16" "LO_BYTE_SHIFT" "I", Cond.methodLink RJ2 232 yJ2_indexOfSupplementary_4cfef, Cond.static yJ2_indexOfSupplementary_4cfef, Cond.code yJ2_indexOfSupplementary_4cfef cJ2_indexOfSupplementary_4cfef 7 (some .int), Cond.methodLink RJ2 164 yJ11_isValidCodePoint_9a6ad, Cond.static yJ11_isValidCodePoint_9a6ad, Cond.initialized RJ11, Cond.code yJ11_isValidCodePoint_9a6ad cJ11_isValidCodePoint_9a6ad 2 (some .boolean), Cond.methodLink RJ2 157 yJ11_highSurrogate_5068e, Cond.static yJ11_highSurrogate_5068e, Cond.code yJ11_highSurrogate_5068e cJ11_highSurrogate_5068e 1 (some .char), Cond.constant RJ11 110 (55232), Cond.methodLink RJ2 161 yJ11_lowSurrogate_5068e, Cond.static yJ11_lowSurrogate_5068e, Cond.code yJ11_lowSurrogate_5068e cJ11_lowSurrogate_5068e 1 (some .char), Cond.constant RJ11 76 (56320), Cond.methodLink RX2 34 yX2_isDigit]
def wsL_law_r10 : List Cond := [Cond.static yX2_isDigit, Cond.code yX2_isDigit cX2_isDigit 3 (some .boolean), Cond.methodLink RX2 38 yX2_digitAt, Cond.instanceMethod yX2_digitAt, Cond.selects RX2 yX2_digitAt yX2_digitAt, Cond.code yX2_digitAt cX2_digitAt 2 (some .int), Cond.methodLink RL 28 yX5_fault, Cond.instanceMethod yX5_fault, Cond.selects RX5 yX5_fault yX5_fault, Cond.code yX5_fault cX5_fault 1 (some .int), Cond.methodLink RX5 86 yX5_faultNow, Cond.instanceMethod yX5_faultNow, Cond.selects RX5 yX5_faultNow yX5_faultNow, Cond.code yX5_faultNow cX5_faultNow 2 (some .int), Cond.methodLink RX5 82 yX5_mayStand, Cond.instanceMethod yX5_mayStand, Cond.selects RX5 yX5_mayStand yX5_mayStand, Cond.code yX5_mayStand cX5_mayStand 3 (some .boolean), Cond.fieldLink RX5 75 "TownOnWeightModel" "houses" "I", Cond.methodLink RX5 71 yX5_kindBy, Cond.static yX5_kindBy, Cond.code yX5_kindBy cX5_kindBy 1 (some .int), Cond.methodLink RX5 78 yX5_within, Cond.static yX5_within]
def wsL_law_r11 : List Cond := [Cond.code yX5_within cX5_within 3 (some .boolean), Cond.methodLink RL 29 yX4_house, Cond.instanceMethod yX4_house, Cond.selects RX4 yX4_house yX4_house, Cond.code yX4_house cX4_house 2 (some .int), Cond.instanceMethod yX2_isHouse, Cond.selects RX2 yX2_isHouse yX2_isHouse, Cond.code yX2_isHouse cX2_isHouse 2 (some .boolean), Cond.methodLink RX2 27 yX2_faultAt, Cond.instanceMethod yX0_hasBegun, Cond.selects RX0 yX0_hasBegun yX0_hasBegun, Cond.code yX0_hasBegun cX0_hasBegun 1 (some .boolean), Cond.fieldLink RX0 34 "TownOnWeight$Day" "hour" "I", Cond.instanceMethod yX1_add, Cond.selects RX1 yX1_add yX1_add, Cond.code yX1_add cX1_add 3 none, Cond.fieldLink RX1 33 "TownOnWeight$Houses" "number" "I", Cond.static yX4_bit, Cond.code yX4_bit cX4_bit 1 (some .int), Cond.methodLink RX1 56 yX1_has, Cond.instanceMethod yX1_has, Cond.selects RX1 yX1_has yX1_has, Cond.code yX1_has cX1_has 2 (some .boolean), Cond.instanceMethod yX0_welcome]
def wsL_law_r12 : List Cond := [Cond.selects RX0 yX0_welcome yX0_welcome, Cond.code yX0_welcome cX0_welcome 2 none, Cond.fieldLink RX0 43 "TownOnWeight$Day" "brakes" "I", Cond.methodLink RL 32 yX5_house, Cond.instanceMethod yX5_house, Cond.selects RX5 yX5_house yX5_house, Cond.code yX5_house cX5_house 1 (some .int), Cond.fieldLink RX5 90 "TownOnWeightModel" "hourNow" "I", Cond.fieldLink RX5 93 "TownOnWeightModel" "brakes" "I", Cond.methodLink RL 33 yX4_about, Cond.instanceMethod yX4_about, Cond.selects RX4 yX4_about yX4_about, Cond.code yX4_about cX4_about 3 (some .int), Cond.methodLink RX4 112 yX4_isIn, Cond.static yX4_isIn, Cond.code yX4_isIn cX4_isIn 2 (some .boolean), Cond.methodLink RX4 116 yX4_oneIf, Cond.static yX4_oneIf, Cond.code yX4_oneIf cX4_oneIf 1 (some .int), Cond.methodLink RL 37 yX5_about, Cond.instanceMethod yX5_about, Cond.selects RX5 yX5_about yX5_about, Cond.code yX5_about cX5_about 3 (some .int), Cond.methodLink RX5 99 yX5_isHouse]
def wsL_law_r13 : List Cond := [Cond.instanceMethod yX5_isHouse, Cond.selects RX5 yX5_isHouse yX5_isHouse, Cond.code yX5_isHouse cX5_isHouse 2 (some .boolean), Cond.methodLink RX5 103 yX5_houseNow, Cond.instanceMethod yX5_houseNow, Cond.selects RX5 yX5_houseNow yX5_houseNow, Cond.code yX5_houseNow cX5_houseNow 3 (some .int), Cond.methodLink RX5 96 yX5_has, Cond.static yX5_has, Cond.code yX5_has cX5_has 2 (some .boolean), Cond.methodLink RL 38 yX4_as, Cond.instanceMethod yX4_as, Cond.selects RX4 yX4_as yX4_as, Cond.code yX4_as cX4_as 3 (some .int), Cond.methodLink RX4 122 yJ0_length_8abf5, Cond.instanceMethod yX1_isA, Cond.selects RX1 yX1_isA yX1_isA, Cond.code yX1_isA cX1_isA 3 (some .boolean), Cond.methodLink RL 41 yX5_as, Cond.instanceMethod yX5_as, Cond.selects RX5 yX5_as yX5_as, Cond.code yX5_as cX5_as 4 (some .int), Cond.methodLink RL 42 yX4_length, Cond.instanceMethod yX4_length]
def wsL_law_r14 : List Cond := [Cond.selects RX4 yX4_length yX4_length, Cond.code yX4_length cX4_length 3 (some .int), Cond.methodLink RL 46 yX5_length, Cond.instanceMethod yX5_length, Cond.selects RX5 yX5_length yX5_length, Cond.code yX5_length cX5_length 3 (some .int), Cond.methodLink RL 47 yX4_brake, Cond.instanceMethod yX4_brake, Cond.selects RX4 yX4_brake yX4_brake, Cond.code yX4_brake cX4_brake 4 (some .int), Cond.methodLink RX4 136 yX4_bit, Cond.methodLink RL 51 yX5_brake, Cond.instanceMethod yX5_brake, Cond.selects RX5 yX5_brake yX5_brake, Cond.code yX5_brake cX5_brake 4 (some .int), Cond.methodLink RL 52 yX4_rain, Cond.instanceMethod yX4_rain, Cond.selects RX4 yX4_rain yX4_rain, Cond.code yX4_rain cX4_rain 3 (some .int), Cond.methodLink RL 56 yX5_rain, Cond.instanceMethod yX5_rain, Cond.selects RX5 yX5_rain yX5_rain, Cond.code yX5_rain cX5_rain 3 (some .int), Cond.fieldLink RX5 107 "TownOnWeightModel" "isRain" "Z"]
def wsL_law_r15 : List Cond := [Cond.methodLink RL 57 yX4_wants, Cond.instanceMethod yX4_wants, Cond.selects RX4 yX4_wants yX4_wants, Cond.code yX4_wants cX4_wants 2 (some .int), Cond.instanceMethod yX0_wantOf, Cond.selects RX0 yX0_wantOf yX0_wantOf, Cond.code yX0_wantOf cX0_wantOf 4 (some .int), Cond.fieldLink RX0 40 "TownOnWeight$Day" "worked" "I", Cond.instanceMethod yX1_isOpen, Cond.selects RX1 yX1_isOpen yX1_isOpen, Cond.code yX1_isOpen cX1_isOpen 3 (some .boolean), Cond.methodLink RL 60 yX5_wants, Cond.instanceMethod yX5_wants, Cond.selects RX5 yX5_wants yX5_wants, Cond.code yX5_wants cX5_wants 2 (some .int), Cond.methodLink RX5 117 yX5_wantsNow, Cond.instanceMethod yX5_wantsNow, Cond.selects RX5 yX5_wantsNow yX5_wantsNow, Cond.code yX5_wantsNow cX5_wantsNow 4 (some .int), Cond.fieldLink RX5 114 "TownOnWeightModel" "workedNow" "I", Cond.methodLink RX5 111 yX5_isTime, Cond.instanceMethod yX5_isTime, Cond.selects RX5 yX5_isTime yX5_isTime, Cond.code yX5_isTime cX5_isTime 2 (some .boolean)]
def wsL_law_r16 : List Cond := [Cond.methodLink RL 61 yX4_goes, Cond.instanceMethod yX4_goes, Cond.selects RX4 yX4_goes yX4_goes, Cond.code yX4_goes cX4_goes 2 (some .int), Cond.instanceMethod yX1_areBits, Cond.selects RX1 yX1_areBits yX1_areBits, Cond.code yX1_areBits cX1_areBits 2 (some .boolean), Cond.methodLink RX1 41 yX1_all, Cond.instanceMethod yX1_all, Cond.selects RX1 yX1_all yX1_all, Cond.code yX1_all cX1_all 1 (some .int), Cond.instanceMethod yX0_tellWanted, Cond.selects RX0 yX0_tellWanted yX0_tellWanted, Cond.code yX0_tellWanted cX0_tellWanted 3 none, Cond.methodLink RX0 87 yX0_wantOf, Cond.instanceMethod yX0_goesBy, Cond.selects RX0 yX0_goesBy yX0_goesBy, Cond.code yX0_goesBy cX0_goesBy 6 (some .int), Cond.fieldLink RX0 46 "TownOnWeight$Day" "rain" "Z", Cond.instanceMethod yX1_lossOf, Cond.selects RX1 yX1_lossOf yX1_lossOf, Cond.code yX1_lossOf cX1_lossOf 5 (some .int), Cond.methodLink RL 64 yX5_goes, Cond.instanceMethod yX5_goes]
def wsL_law_r17 : List Cond := [Cond.selects RX5 yX5_goes yX5_goes, Cond.code yX5_goes cX5_goes 2 (some .int), Cond.methodLink RX5 129 yX5_everybody, Cond.instanceMethod yX5_everybody, Cond.selects RX5 yX5_everybody yX5_everybody, Cond.code yX5_everybody cX5_everybody 1 (some .int), Cond.methodLink RX5 132 yX5_goesBy, Cond.instanceMethod yX5_goesBy, Cond.selects RX5 yX5_goesBy yX5_goesBy, Cond.code yX5_goesBy cX5_goesBy 6 (some .int), Cond.methodLink RX5 120 yX5_wanting, Cond.instanceMethod yX5_wanting, Cond.selects RX5 yX5_wanting yX5_wanting, Cond.code yX5_wanting cX5_wanting 4 (some .int), Cond.methodLink RX5 123 yX5_shafts, Cond.instanceMethod yX5_shafts, Cond.selects RX5 yX5_shafts yX5_shafts, Cond.code yX5_shafts cX5_shafts 4 (some .int), Cond.methodLink RX5 126 yX5_takesBy, Cond.instanceMethod yX5_takesBy, Cond.selects RX5 yX5_takesBy yX5_takesBy, Cond.code yX5_takesBy cX5_takesBy 4 (some .int), Cond.methodLink RL 65 yX4_hour, Cond.instanceMethod yX4_hour]
def wsL_law_r18 : List Cond := [Cond.selects RX4 yX4_hour yX4_hour, Cond.code yX4_hour cX4_hour 1 (some .int), Cond.instanceMethod yX0_hourComes, Cond.selects RX0 yX0_hourComes yX0_hourComes, Cond.code yX0_hourComes cX0_hourComes 1 (some .boolean), Cond.fieldLink RX0 50 "TownOnWeight$Day" "down" "Z", Cond.instanceMethod yX0_passHour, Cond.selects RX0 yX0_passHour yX0_passHour, Cond.code yX0_passHour cX0_passHour 5 (some .int), Cond.methodLink RX0 98 yX0_tellWanted, Cond.methodLink RX0 106 yX0_goesBy, Cond.methodLink RX0 109 yX0_letWork, Cond.instanceMethod yX0_letWork, Cond.selects RX0 yX0_letWork yX0_letWork, Cond.code yX0_letWork cX0_letWork 6 none, Cond.fieldLink RX0 53 "TownOnWeight$Day" "takenByAll" "I", Cond.fieldLink RX0 37 "TownOnWeight$Day" "lost" "I", Cond.methodLink RL 68 yX5_hour, Cond.instanceMethod yX5_hour, Cond.selects RX5 yX5_hour yX5_hour, Cond.code yX5_hour cX5_hour 1 (some .int), Cond.methodLink RX5 144 yX5_isOver, Cond.instanceMethod yX5_isOver, Cond.selects RX5 yX5_isOver yX5_isOver]
def wsL_law_r19 : List Cond := [Cond.code yX5_isOver cX5_isOver 1 (some .boolean), Cond.fieldLink RX5 135 "TownOnWeightModel" "isDown" "Z", Cond.methodLink RX5 148 yX5_goHour, Cond.instanceMethod yX5_goHour, Cond.selects RX5 yX5_goHour yX5_goHour, Cond.code yX5_goHour cX5_goHour 5 (some .int), Cond.fieldLink RX5 141 "TownOnWeightModel" "lostNow" "I", Cond.methodLink RX5 138 yX5_working, Cond.instanceMethod yX5_working, Cond.selects RX5 yX5_working yX5_working, Cond.code yX5_working cX5_working 4 (some .int), Cond.methodLink RL 69 yX4_worked, Cond.instanceMethod yX4_worked, Cond.selects RX4 yX4_worked yX4_worked, Cond.code yX4_worked cX4_worked 1 (some .int), Cond.methodLink RL 72 yX5_worked, Cond.instanceMethod yX5_worked, Cond.selects RX5 yX5_worked yX5_worked, Cond.code yX5_worked cX5_worked 1 (some .int), Cond.methodLink RL 73 yX4_part, Cond.instanceMethod yX4_part, Cond.selects RX4 yX4_part yX4_part, Cond.code yX4_part cX4_part 2 (some .int), Cond.instanceMethod yX0_tellParts]
def wsL_law_r20 : List Cond := [Cond.selects RX0 yX0_tellParts yX0_tellParts, Cond.code yX0_tellParts cX0_tellParts 6 none, Cond.methodLink RX0 113 yX0_greatestRest, Cond.instanceMethod yX0_greatestRest, Cond.selects RX0 yX0_greatestRest yX0_greatestRest, Cond.code yX0_greatestRest cX0_greatestRest 4 (some .int), Cond.methodLink RL 76 yX5_part, Cond.instanceMethod yX5_part, Cond.selects RX5 yX5_part yX5_part, Cond.code yX5_part cX5_part 2 (some .int), Cond.methodLink RX5 154 yX5_partOf, Cond.instanceMethod yX5_partOf, Cond.selects RX5 yX5_partOf yX5_partOf, Cond.code yX5_partOf cX5_partOf 9 (some .int), Cond.methodLink RX5 151 yX5_takenAll, Cond.instanceMethod yX5_takenAll, Cond.selects RX5 yX5_takenAll yX5_takenAll, Cond.code yX5_takenAll cX5_takenAll 3 (some .int), Cond.methodLink RL 77 yX4_night, Cond.instanceMethod yX4_night, Cond.selects RX4 yX4_night yX4_night, Cond.code yX4_night cX4_night 1 (some .int), Cond.instanceMethod yX0_passNight, Cond.selects RX0 yX0_passNight yX0_passNight]
def wsL_law_r21 : List Cond := [Cond.code yX0_passNight cX0_passNight 4 (some .int), Cond.methodLink RX0 120 Lib.Math.min.name, Cond.methodLink RX0 116 yX0_tellParts, Cond.methodLink RL 80 yX5_night, Cond.instanceMethod yX5_night, Cond.selects RX5 yX5_night yX5_night, Cond.code yX5_night cX5_night 4 (some .int), Cond.methodLink RL 81 yX4_plan, Cond.instanceMethod yX4_plan, Cond.selects RX4 yX4_plan yX4_plan, Cond.code yX4_plan cX4_plan 3 (some .int), Cond.methodLink RX4 176 yX4_bestBrakes, Cond.instanceMethod yX4_bestBrakes, Cond.selects RX4 yX4_bestBrakes yX4_bestBrakes, Cond.code yX4_bestBrakes cX4_bestBrakes 6 (some .int), Cond.methodLink RX4 179 yX4_takenAhead, Cond.instanceMethod yX4_takenAhead, Cond.selects RX4 yX4_takenAhead yX4_takenAhead, Cond.code yX4_takenAhead cX4_takenAhead 4 (some .int), Cond.instanceMethod yX0_copyFrom, Cond.selects RX0 yX0_copyFrom yX0_copyFrom, Cond.code yX0_copyFrom cX0_copyFrom 2 none, Cond.methodLink RX0 56 arraycopyName, Cond.native arraycopyName]
def wsL_law_r22 : List Cond := [Cond.static arraycopyName, Cond.initialized "java/lang/System", Cond.methodLink RX4 225 yJ6_bitCount_0f7a4, Cond.static yJ6_bitCount_0f7a4, Cond.initialized RJ6, Cond.code yJ6_bitCount_0f7a4 cJ6_bitCount_0f7a4 1 (some .int), Cond.constant RJ6 265 (1431655765), Cond.constant RJ6 266 (858993459), Cond.constant RJ6 267 (252645135), Cond.methodLink RL 84 yX5_plan, Cond.instanceMethod yX5_plan, Cond.selects RX5 yX5_plan yX5_plan, Cond.code yX5_plan cX5_plan 2 (some .int), Cond.methodLink RX5 190 yX5_planNow, Cond.instanceMethod yX5_planNow, Cond.selects RX5 yX5_planNow yX5_planNow, Cond.code yX5_planNow cX5_planNow 7 (some .int), Cond.methodLink RX5 184 yX5_takenOn, Cond.instanceMethod yX5_takenOn, Cond.selects RX5 yX5_takenOn yX5_takenOn, Cond.code yX5_takenOn cX5_takenOn 5 (some .int), Cond.methodLink RX5 178 yX5_save, Cond.instanceMethod yX5_save, Cond.selects RX5 yX5_save yX5_save]
def wsL_law_r23 : List Cond := [Cond.code yX5_save cX5_save 2 none, Cond.fieldLink RX5 157 "TownOnWeightModel" "savedBrakes" "I", Cond.fieldLink RX5 160 "TownOnWeightModel" "savedHangs" "I", Cond.fieldLink RX5 163 "TownOnWeightModel" "savedHour" "I", Cond.fieldLink RX5 166 "TownOnWeightModel" "savedLost" "I", Cond.fieldLink RX5 169 "TownOnWeightModel" "savedWorked" "I", Cond.fieldLink RX5 172 "TownOnWeightModel" "savedDown" "Z", Cond.fieldLink RX5 175 "TownOnWeightModel" "savedRain" "Z", Cond.methodLink RX5 181 yX5_back, Cond.instanceMethod yX5_back, Cond.selects RX5 yX5_back yX5_back, Cond.code yX5_back cX5_back 2 none, Cond.methodLink RX5 187 yX5_size, Cond.static yX5_size, Cond.code yX5_size cX5_size 3 (some .int), Cond.methodLink RL 85 yX4_more, Cond.instanceMethod yX4_more, Cond.selects RX4 yX4_more yX4_more, Cond.code yX4_more cX4_more 2 (some .int), Cond.methodLink RL 88 yX5_more, Cond.instanceMethod yX5_more, Cond.selects RX5 yX5_more yX5_more, Cond.code yX5_more cX5_more 2 (some .int), Cond.methodLink RX5 193 yX5_moreNow]
def wsL_law_r24 : List Cond := [Cond.instanceMethod yX5_moreNow, Cond.selects RX5 yX5_moreNow yX5_moreNow, Cond.code yX5_moreNow cX5_moreNow 2 (some .int), Cond.methodLink RL 89 yX4_missing, Cond.instanceMethod yX4_missing, Cond.selects RX4 yX4_missing yX4_missing, Cond.code yX4_missing cX4_missing 8 (some .int), Cond.instanceMethod yX1_openIn, Cond.selects RX1 yX1_openIn yX1_openIn, Cond.code yX1_openIn cX1_openIn 4 (some .int), Cond.methodLink RX1 60 yX1_isOpen, Cond.instanceMethod yX1_takesOf, Cond.selects RX1 yX1_takesOf yX1_takesOf, Cond.code yX1_takesOf cX1_takesOf 4 (some .int), Cond.methodLink RL 92 yX5_missing, Cond.instanceMethod yX5_missing, Cond.selects RX5 yX5_missing yX5_missing, Cond.code yX5_missing cX5_missing 8 (some .int), Cond.methodLink RX5 196 yX5_sumOf, Cond.instanceMethod yX5_sumOf, Cond.selects RX5 yX5_sumOf yX5_sumOf, Cond.code yX5_sumOf cX5_sumOf 4 (some .int), Cond.methodLink RL 93 yX4_rest, Cond.instanceMethod yX4_rest]
def wsL_law_r25 : List Cond := [Cond.selects RX4 yX4_rest yX4_rest, Cond.code yX4_rest cX4_rest 6 (some .int), Cond.constant RX4 202 (65536), Cond.methodLink RX4 199 yX4_seedAfter, Cond.static yX4_seedAfter, Cond.code yX4_seedAfter cX4_seedAfter 1 (some .int), Cond.constantLong RX4 284 (1103515245), Cond.constantLong RX4 286 (12345), Cond.constantLong RX4 288 (2147483648), Cond.methodLink RL 96 yX5_rest, Cond.instanceMethod yX5_rest, Cond.selects RX5 yX5_rest yX5_rest, Cond.code yX5_rest cX5_rest 7 (some .int), Cond.fieldLink RX5 201 "TownOnWeightModel" "seedNow" "J", Cond.methodLink RX5 211 yX5_draw, Cond.instanceMethod yX5_draw, Cond.selects RX5 yX5_draw yX5_draw, Cond.code yX5_draw cX5_draw 2 (some .int), Cond.constantLong RX5 199 (1103515245), Cond.constantLong RX5 205 (12345), Cond.constantLong RX5 207 (2147483647), Cond.constantLong RX5 209 (65536), Cond.methodLink RL 97 yX4_read, Cond.instanceMethod yX4_read]
def wsL_law_r26 : List Cond := [Cond.selects RX4 yX4_read yX4_read, Cond.code yX4_read cX4_read 4 (some .int), Cond.instanceMethod yX1_waysTo, Cond.selects RX1 yX1_waysTo yX1_waysTo, Cond.code yX1_waysTo cX1_waysTo 4 (some .int), Cond.instanceMethod yX1_toldLossOf, Cond.selects RX1 yX1_toldLossOf yX1_toldLossOf, Cond.code yX1_toldLossOf cX1_toldLossOf 4 (some .int), Cond.instanceMethod yX3_add, Cond.selects RX3 yX3_add yX3_add, Cond.code yX3_add cX3_add 3 none, Cond.fieldLink RX3 18 "TownOnWeight$Readings" "number" "I", Cond.methodLink RL 100 yX5_read, Cond.instanceMethod yX5_read, Cond.selects RX5 yX5_read yX5_read, Cond.code yX5_read cX5_read 3 (some .int), Cond.fieldLink RX5 214 "TownOnWeightModel" "readings" "I", Cond.methodLink RL 101 yX4_wipe, Cond.instanceMethod yX4_wipe, Cond.selects RX4 yX4_wipe yX4_wipe, Cond.code yX4_wipe cX4_wipe 2 (some .int), Cond.methodLink RL 104 yX5_wipe, Cond.instanceMethod yX5_wipe, Cond.selects RX5 yX5_wipe yX5_wipe]
def wsL_law_r27 : List Cond := [Cond.code yX5_wipe cX5_wipe 2 (some .int), Cond.methodLink RL 105 yX4_leaks, Cond.instanceMethod yX4_leaks, Cond.selects RX4 yX4_leaks yX4_leaks, Cond.code yX4_leaks cX4_leaks 3 (some .int), Cond.instanceMethod yX3_leastLeakOf, Cond.selects RX3 yX3_leastLeakOf yX3_leastLeakOf, Cond.code yX3_leastLeakOf cX3_leastLeakOf 3 (some .int), Cond.methodLink RX3 28 yX3_givesAll, Cond.instanceMethod yX3_givesAll, Cond.selects RX3 yX3_givesAll yX3_givesAll, Cond.code yX3_givesAll cX3_givesAll 5 (some .boolean), Cond.methodLink RL 108 yX5_leaks, Cond.instanceMethod yX5_leaks, Cond.selects RX5 yX5_leaks yX5_leaks, Cond.code yX5_leaks cX5_leaks 1 (some .int), Cond.methodLink RX5 223 yX5_leaksNow, Cond.instanceMethod yX5_leaksNow, Cond.selects RX5 yX5_leaksNow yX5_leaksNow, Cond.code yX5_leaksNow cX5_leaksNow 3 (some .int), Cond.methodLink RX5 220 yX5_leakNow, Cond.instanceMethod yX5_leakNow, Cond.selects RX5 yX5_leakNow yX5_leakNow, Cond.code yX5_leakNow cX5_leakNow 6 (some .int)]
def wsL_law_r28 : List Cond := [Cond.methodLink RX5 217 yX5_feetBy, Cond.instanceMethod yX5_feetBy, Cond.selects RX5 yX5_feetBy yX5_feetBy, Cond.code yX5_feetBy cX5_feetBy 5 (some .int), Cond.methodLink RL 109 yX4_leak, Cond.instanceMethod yX4_leak, Cond.selects RX4 yX4_leak yX4_leak, Cond.code yX4_leak cX4_leak 2 (some .int), Cond.methodLink RL 112 yX5_leak, Cond.instanceMethod yX5_leak, Cond.selects RX5 yX5_leak yX5_leak, Cond.code yX5_leak cX5_leak 2 (some .int), Cond.methodLink RL 113 yX4_look, Cond.instanceMethod yX4_look, Cond.selects RX4 yX4_look yX4_look, Cond.code yX4_look cX4_look 7 (some .int), Cond.methodLink RX4 230 Lib.Math.max.name, Cond.methodLink RX4 219 yX4_leaks, Cond.methodLink RL 116 yX5_look, Cond.instanceMethod yX5_look, Cond.selects RX5 yX5_look yX5_look, Cond.code yX5_look cX5_look 1 (some .int), Cond.methodLink RX5 226 yX5_lookNow, Cond.instanceMethod yX5_lookNow]
def wsL_law_r29 : List Cond := [Cond.selects RX5 yX5_lookNow yX5_lookNow, Cond.code yX5_lookNow cX5_lookNow 8 (some .int), Cond.methodLink RL 117 yX4_image, Cond.instanceMethod yX4_image, Cond.selects RX4 yX4_image yX4_image, Cond.code yX4_image cX4_image 1 (some .int), Cond.fieldLink RX4 235 "TownOnWeight" "hasImage" "Z", Cond.fieldLink RX4 238 "TownOnWeight" "imageHouses" "I", Cond.instanceMethod yX3_copyFrom, Cond.selects RX3 yX3_copyFrom yX3_copyFrom, Cond.code yX3_copyFrom cX3_copyFrom 2 none, Cond.methodLink RX3 22 arraycopyName, Cond.methodLink RL 120 yX5_image, Cond.instanceMethod yX5_image, Cond.selects RX5 yX5_image yX5_image, Cond.code yX5_image cX5_image 2 (some .int), Cond.fieldLink RX5 229 "TownOnWeightModel" "isKept" "Z", Cond.fieldLink RX5 232 "TownOnWeightModel" "keptHouses" "I", Cond.fieldLink RX5 235 "TownOnWeightModel" "keptLong" "I", Cond.fieldLink RX5 238 "TownOnWeightModel" "keptHangs" "I", Cond.fieldLink RX5 241 "TownOnWeightModel" "keptHour" "I", Cond.fieldLink RX5 244 "TownOnWeightModel" "keptLost" "I", Cond.fieldLink RX5 247 "TownOnWeightModel" "keptWorked" "I", Cond.fieldLink RX5 250 "TownOnWeightModel" "keptBrakes" "I"]
def wsL_law_r30 : List Cond := [Cond.fieldLink RX5 253 "TownOnWeightModel" "keptDown" "Z", Cond.fieldLink RX5 256 "TownOnWeightModel" "keptRain" "Z", Cond.fieldLink RX5 259 "TownOnWeightModel" "keptReadings" "I", Cond.methodLink RL 121 yX4_restore, Cond.instanceMethod yX4_restore, Cond.selects RX4 yX4_restore yX4_restore, Cond.code yX4_restore cX4_restore 1 (some .int), Cond.methodLink RL 124 yX5_restore, Cond.instanceMethod yX5_restore, Cond.selects RX5 yX5_restore yX5_restore, Cond.code yX5_restore cX5_restore 2 (some .int), Cond.methodLink RL 125 yX4_count, Cond.instanceMethod yX4_count, Cond.selects RX4 yX4_count yX4_count, Cond.code yX4_count cX4_count 2 (some .int), Cond.methodLink RL 128 yX5_count, Cond.instanceMethod yX5_count, Cond.selects RX5 yX5_count yX5_count, Cond.code yX5_count cX5_count 2 (some .int), Cond.methodLink RX5 262 yX5_howMany, Cond.instanceMethod yX5_howMany, Cond.selects RX5 yX5_howMany yX5_howMany, Cond.code yX5_howMany cX5_howMany 2 (some .int), Cond.methodLink RL 129 yX4_digest]
def wsL_law_r31 : List Cond := [Cond.instanceMethod yX4_digest, Cond.selects RX4 yX4_digest yX4_digest, Cond.code yX4_digest cX4_digest 5 (some .long), Cond.constantLong RX4 247 (601), Cond.constantLong RX4 253 (31), Cond.methodLink RX4 249 yX4_digestOfHouses, Cond.instanceMethod yX4_digestOfHouses, Cond.selects RX4 yX4_digestOfHouses yX4_digestOfHouses, Cond.code yX4_digestOfHouses cX4_digestOfHouses 7 (some .long), Cond.methodLink RX4 272 yX4_about, Cond.methodLink RX4 275 yX4_wants, Cond.methodLink RX4 278 yX4_part, Cond.methodLink RX4 281 yX4_leak, Cond.methodLink RX4 255 yX4_worked, Cond.methodLink RX4 257 yX4_goes, Cond.methodLink RX4 260 yX4_more, Cond.methodLink RX4 263 yX4_look, Cond.methodLink RX4 269 yX4_count, Cond.methodLink RL 133 yX5_digest, Cond.instanceMethod yX5_digest, Cond.selects RX5 yX5_digest yX5_digest, Cond.code yX5_digest cX5_digest 3 (some .long), Cond.constantLong RX5 270 (601), Cond.fieldLink RX5 267 "TownOnWeightModel" "h" "J"]
def wsL_law_r32 : List Cond := [Cond.methodLink RX5 272 yX5_mix, Cond.instanceMethod yX5_mix, Cond.selects RX5 yX5_mix yX5_mix, Cond.code yX5_mix cX5_mix 3 none, Cond.constantLong RX5 265 (31)]
def wsL_law : List Cond := (wsL_law_r1 ++ (wsL_law_r2 ++ (wsL_law_r3 ++ (wsL_law_r4 ++ (wsL_law_r5 ++ (wsL_law_r6 ++ (wsL_law_r7 ++ (wsL_law_r8 ++ (wsL_law_r9 ++ (wsL_law_r10 ++ (wsL_law_r11 ++ (wsL_law_r12 ++ (wsL_law_r13 ++ (wsL_law_r14 ++ (wsL_law_r15 ++ (wsL_law_r16 ++ (wsL_law_r17 ++ (wsL_law_r18 ++ (wsL_law_r19 ++ (wsL_law_r20 ++ (wsL_law_r21 ++ (wsL_law_r22 ++ (wsL_law_r23 ++ (wsL_law_r24 ++ (wsL_law_r25 ++ (wsL_law_r26 ++ (wsL_law_r27 ++ (wsL_law_r28 ++ (wsL_law_r29 ++ (wsL_law_r30 ++ (wsL_law_r31 ++ wsL_law_r32))))))))))))))))))))))))))))))) ++ wsX40 ++ wsX50 ++ wsX20 ++ wsX10 ++ wsX00 ++ wsX30 ++ ([] : List Cond)
theorem inlX0 : ∀ w ∈ wsX00, w ∈ wsL_law := fun _ h => List.mem_append_left _ (List.mem_append_left _ (List.mem_append_right _ h))
theorem inlX1 : ∀ w ∈ wsX10, w ∈ wsL_law := fun _ h => List.mem_append_left _ (List.mem_append_left _ (List.mem_append_left _ (List.mem_append_right _ h)))
theorem inlX2 : ∀ w ∈ wsX20, w ∈ wsL_law := fun _ h => List.mem_append_left _ (List.mem_append_left _ (List.mem_append_left _ (List.mem_append_left _ (List.mem_append_right _ h))))
theorem inlX3 : ∀ w ∈ wsX30, w ∈ wsL_law := fun _ h => List.mem_append_left _ (List.mem_append_right _ h)
theorem inlX4 : ∀ w ∈ wsX40, w ∈ wsL_law := fun _ h => List.mem_append_left _ (List.mem_append_left _ (List.mem_append_left _ (List.mem_append_left _ (List.mem_append_left _ (List.mem_append_left _ (List.mem_append_right _ h))))))
theorem inlX5 : ∀ w ∈ wsX50, w ∈ wsL_law := fun _ h => List.mem_append_left _ (List.mem_append_left _ (List.mem_append_left _ (List.mem_append_left _ (List.mem_append_left _ (List.mem_append_right _ h)))))
end
section
def vx_nest : List Cond := [.methodLinkNest "TownOnWeight" 9 ⟨"TownOnWeight$Page", "<init>", "()V"⟩ "TownOnWeight", .fieldLinkNest "TownOnWeight" 50 "TownOnWeight$Page" "size" "I" "TownOnWeight", .fieldLinkNest "TownOnWeight$Houses" 45 "TownOnWeight$Page" "codes" "[I" "TownOnWeight", .fieldLinkNest "TownOnWeight" 266 "TownOnWeight$Page" "codes" "[I" "TownOnWeight", .methodLinkNest "TownOnWeight" 18 ⟨"TownOnWeight$Houses", "<init>", "()V"⟩ "TownOnWeight", .fieldLinkNest "TownOnWeight" 58 "TownOnWeight$Houses" "number" "I" "TownOnWeight", .fieldLinkNest "TownOnWeight$Day" 84 "TownOnWeight$Houses" "number" "I" "TownOnWeight", .fieldLinkNest "TownOnWeight" 84 "TownOnWeight$Houses" "kind" "[I" "TownOnWeight", .fieldLinkNest "TownOnWeight" 88 "TownOnWeight$Houses" "parent" "[I" "TownOnWeight", .fieldLinkNest "TownOnWeight$Day" 81 "TownOnWeight$Houses" "from" "[I" "TownOnWeight", .fieldLinkNest "TownOnWeight" 91 "TownOnWeight$Houses" "from" "[I" "TownOnWeight", .fieldLinkNest "TownOnWeight" 94 "TownOnWeight$Houses" "to" "[I" "TownOnWeight", .fieldLinkNest "TownOnWeight$Day" 75 "TownOnWeight$Houses" "takes" "[I" "TownOnWeight", .fieldLinkNest "TownOnWeight" 97 "TownOnWeight$Houses" "takes" "[I" "TownOnWeight", .fieldLinkNest "TownOnWeight" 100 "TownOnWeight$Houses" "loss" "[I" "TownOnWeight", .fieldLinkNest "TownOnWeight$Day" 91 "TownOnWeight$Houses" "way" "[I" "TownOnWeight", .methodLinkNest "TownOnWeight" 25 ⟨"TownOnWeight$Day", "<init>", "()V"⟩ "TownOnWeight", .fieldLinkNest "TownOnWeight" 131 "TownOnWeight$Day" "length" "I" "TownOnWeight", .fieldLinkNest "TownOnWeight" 133 "TownOnWeight$Day" "hangs" "I" "TownOnWeight", .fieldLinkNest "TownOnWeight" 183 "TownOnWeight$Day" "hour" "I" "TownOnWeight", .fieldLinkNest "TownOnWeight" 244 "TownOnWeight$Day" "lost" "I" "TownOnWeight", .fieldLinkNest "TownOnWeight" 164 "TownOnWeight$Day" "worked" "I" "TownOnWeight", .fieldLinkNest "TownOnWeight" 109 "TownOnWeight$Day" "brakes" "I" "TownOnWeight", .fieldLinkNest "TownOnWeight" 139 "TownOnWeight$Day" "rain" "Z" "TownOnWeight", .fieldLinkNest "TownOnWeight" 196 "TownOnWeight$Day" "down" "Z" "TownOnWeight", .fieldLinkNest "TownOnWeight" 203 "TownOnWeight$Day" "takenByAll" "I" "TownOnWeight", .fieldLinkNest "TownOnWeight" 103 "TownOnWeight$Day" "taken" "[I" "TownOnWeight", .fieldLinkNest "TownOnWeight" 106 "TownOnWeight$Day" "owed" "[I" "TownOnWeight", .fieldLinkNest "TownOnWeight" 170 "TownOnWeight$Day" "parts" "[I" "TownOnWeight", .methodLinkNest "TownOnWeight" 32 ⟨"TownOnWeight$Readings", "<init>", "()V"⟩ "TownOnWeight", .fieldLinkNest "TownOnWeight" 206 "TownOnWeight$Readings" "number" "I" "TownOnWeight", .methodLinkNest "TownOnWeight" 46 ⟨"TownOnWeight$Page", "lettersIn", "(J)I"⟩ "TownOnWeight", .methodLinkNest "TownOnWeight" 54 ⟨"TownOnWeight$Page", "append", "(JI)V"⟩ "TownOnWeight", .methodLinkNest "TownOnWeight" 61 ⟨"TownOnWeight$Page", "faultAt", "(I)I"⟩ "TownOnWeight", .methodLinkNest "TownOnWeight" 65 ⟨"TownOnWeight$Page", "isHouse", "(I)Z"⟩ "TownOnWeight", .methodLinkNest "TownOnWeight" 69 ⟨"TownOnWeight$Day", "hasBegun", "()Z"⟩ "TownOnWeight", .methodLinkNest "TownOnWeight" 73 ⟨"TownOnWeight$Houses", "add", "(LTownOnWeight$Page;)V"⟩ "TownOnWeight", .methodLinkNest "TownOnWeight$Houses" 50 ⟨"TownOnWeight$Page", "kindOf", "(I)I"⟩ "TownOnWeight", .methodLinkNest "TownOnWeight$Houses" 53 ⟨"TownOnWeight$Page", "digitAt", "(I)I"⟩ "TownOnWeight", .methodLinkNest "TownOnWeight$Houses" 37 ⟨"TownOnWeight", "bit", "(I)I"⟩ "TownOnWeight", .methodLinkNest "TownOnWeight" 77 ⟨"TownOnWeight$Day", "welcome", "(I)V"⟩ "TownOnWeight", .methodLinkNest "TownOnWeight$Day" 62 ⟨"TownOnWeight", "bit", "(I)I"⟩ "TownOnWeight", .methodLinkNest "TownOnWeight" 81 ⟨"TownOnWeight$Houses", "has", "(I)Z"⟩ "TownOnWeight", .methodLinkNest "TownOnWeight" 128 ⟨"TownOnWeight$Houses", "isA", "(II)Z"⟩ "TownOnWeight", .methodLinkNest "TownOnWeight" 143 ⟨"TownOnWeight$Day", "wantOf", "(LTownOnWeight$Houses;I)I"⟩ "TownOnWeight", .methodLinkNest "TownOnWeight$Day" 66 ⟨"TownOnWeight$Houses", "isOpen", "(II)Z"⟩ "TownOnWeight", .methodLinkNest "TownOnWeight$Day" 72 ⟨"TownOnWeight", "isIn", "(II)Z"⟩ "TownOnWeight", .methodLinkNest "TownOnWeight$Day" 78 ⟨"TownOnWeight$Houses", "isA", "(II)Z"⟩ "TownOnWeight", .methodLinkNest "TownOnWeight" 147 ⟨"TownOnWeight$Houses", "areBits", "(I)Z"⟩ "TownOnWeight", .methodLinkNest "TownOnWeight" 150 ⟨"TownOnWeight$Day", "tellWanted", "(LTownOnWeight$Houses;)V"⟩ "TownOnWeight", .methodLinkNest "TownOnWeight" 154 ⟨"TownOnWeight$Day", "goesBy", "(LTownOnWeight$Houses;I)I"⟩ "TownOnWeight", .methodLinkNest "TownOnWeight$Day" 94 ⟨"TownOnWeight$Houses", "lossOf", "(IZ)I"⟩ "TownOnWeight", .methodLinkNest "TownOnWeight$Houses" 64 ⟨"TownOnWeight", "isIn", "(II)Z"⟩ "TownOnWeight", .methodLinkNest "TownOnWeight" 157 ⟨"TownOnWeight$Day", "hourComes", "()Z"⟩ "TownOnWeight", .methodLinkNest "TownOnWeight" 160 ⟨"TownOnWeight$Day", "passHour", "(LTownOnWeight$Houses;)I"⟩ "TownOnWeight", .methodLinkNest "TownOnWeight$Day" 102 ⟨"TownOnWeight$Houses", "all", "()I"⟩ "TownOnWeight", .methodLinkNest "TownOnWeight" 167 ⟨"TownOnWeight$Day", "tellParts", "(I)V"⟩ "TownOnWeight", .methodLinkNest "TownOnWeight" 173 ⟨"TownOnWeight$Day", "passNight", "(I)I"⟩ "TownOnWeight", .methodLinkNest "TownOnWeight" 192 ⟨"TownOnWeight$Day", "copyFrom", "(LTownOnWeight$Day;)V"⟩ "TownOnWeight", .methodLinkNest "TownOnWeight" 222 ⟨"TownOnWeight$Houses", "all", "()I"⟩ "TownOnWeight", .methodLinkNest "TownOnWeight" 186 ⟨"TownOnWeight$Houses", "openIn", "(I)I"⟩ "TownOnWeight", .methodLinkNest "TownOnWeight" 189 ⟨"TownOnWeight$Houses", "takesOf", "(I)I"⟩ "TownOnWeight", .methodLinkNest "TownOnWeight" 207 ⟨"TownOnWeight$Houses", "waysTo", "(I)I"⟩ "TownOnWeight", .methodLinkNest "TownOnWeight" 210 ⟨"TownOnWeight$Houses", "toldLossOf", "(I)I"⟩ "TownOnWeight", .methodLinkNest "TownOnWeight" 213 ⟨"TownOnWeight$Readings", "add", "(II)V"⟩ "TownOnWeight", .methodLinkNest "TownOnWeight" 216 ⟨"TownOnWeight$Readings", "leastLeakOf", "(I)I"⟩ "TownOnWeight", .methodLinkNest "TownOnWeight$Readings" 32 ⟨"TownOnWeight", "isIn", "(II)Z"⟩ "TownOnWeight", .methodLinkNest "TownOnWeight" 241 ⟨"TownOnWeight$Readings", "copyFrom", "(LTownOnWeight$Readings;)V"⟩ "TownOnWeight"]
theorem vx_ga {a b : List Cond} (ha : a.all goodWord = true) (hb : b.all goodWord = true) : (a ++ b).all goodWord = true := by rw [List.all_append, ha, hb]; rfl
theorem vx_go1 : wsL_law_r1.all goodWord = true := by decide +kernel
theorem vx_go2 : wsL_law_r2.all goodWord = true := by decide +kernel
theorem vx_go3 : wsL_law_r3.all goodWord = true := by decide +kernel
theorem vx_go4 : wsL_law_r4.all goodWord = true := by decide +kernel
theorem vx_go5 : wsL_law_r5.all goodWord = true := by decide +kernel
theorem vx_go6 : wsL_law_r6.all goodWord = true := by decide +kernel
theorem vx_go7 : wsL_law_r7.all goodWord = true := by decide +kernel
theorem vx_go8 : wsL_law_r8.all goodWord = true := by decide +kernel
theorem vx_go9 : wsL_law_r9.all goodWord = true := by decide +kernel
theorem vx_go10 : wsL_law_r10.all goodWord = true := by decide +kernel
theorem vx_go11 : wsL_law_r11.all goodWord = true := by decide +kernel
theorem vx_go12 : wsL_law_r12.all goodWord = true := by decide +kernel
theorem vx_go13 : wsL_law_r13.all goodWord = true := by decide +kernel
theorem vx_go14 : wsL_law_r14.all goodWord = true := by decide +kernel
theorem vx_go15 : wsL_law_r15.all goodWord = true := by decide +kernel
theorem vx_go16 : wsL_law_r16.all goodWord = true := by decide +kernel
theorem vx_go17 : wsL_law_r17.all goodWord = true := by decide +kernel
theorem vx_go18 : wsL_law_r18.all goodWord = true := by decide +kernel
theorem vx_go19 : wsL_law_r19.all goodWord = true := by decide +kernel
theorem vx_go20 : wsL_law_r20.all goodWord = true := by decide +kernel
theorem vx_go21 : wsL_law_r21.all goodWord = true := by decide +kernel
theorem vx_go22 : wsL_law_r22.all goodWord = true := by decide +kernel
theorem vx_go23 : wsL_law_r23.all goodWord = true := by decide +kernel
theorem vx_go24 : wsL_law_r24.all goodWord = true := by decide +kernel
theorem vx_go25 : wsL_law_r25.all goodWord = true := by decide +kernel
theorem vx_go26 : wsL_law_r26.all goodWord = true := by decide +kernel
theorem vx_go27 : wsL_law_r27.all goodWord = true := by decide +kernel
theorem vx_go28 : wsL_law_r28.all goodWord = true := by decide +kernel
theorem vx_go29 : wsL_law_r29.all goodWord = true := by decide +kernel
theorem vx_go30 : wsL_law_r30.all goodWord = true := by decide +kernel
theorem vx_go31 : wsL_law_r31.all goodWord = true := by decide +kernel
theorem vx_go32 : wsL_law_r32.all goodWord = true := by decide +kernel
theorem vx_goX0 : wsX00.all goodWord = true := by decide +kernel
theorem vx_goX1 : wsX10.all goodWord = true := by decide +kernel
theorem vx_goX2 : wsX20.all goodWord = true := by decide +kernel
theorem vx_goX3 : wsX30.all goodWord = true := by decide +kernel
theorem vx_goX4 : wsX40.all goodWord = true := by decide +kernel
theorem vx_goX5 : wsX50.all goodWord = true := by decide +kernel
theorem vx_good_all : wsL_law.all goodWord = true := (vx_ga (vx_ga (vx_ga (vx_ga (vx_ga (vx_ga (vx_ga (vx_ga vx_go1 (vx_ga vx_go2 (vx_ga vx_go3 (vx_ga vx_go4 (vx_ga vx_go5 (vx_ga vx_go6 (vx_ga vx_go7 (vx_ga vx_go8 (vx_ga vx_go9 (vx_ga vx_go10 (vx_ga vx_go11 (vx_ga vx_go12 (vx_ga vx_go13 (vx_ga vx_go14 (vx_ga vx_go15 (vx_ga vx_go16 (vx_ga vx_go17 (vx_ga vx_go18 (vx_ga vx_go19 (vx_ga vx_go20 (vx_ga vx_go21 (vx_ga vx_go22 (vx_ga vx_go23 (vx_ga vx_go24 (vx_ga vx_go25 (vx_ga vx_go26 (vx_ga vx_go27 (vx_ga vx_go28 (vx_ga vx_go29 (vx_ga vx_go30 (vx_ga vx_go31 vx_go32))))))))))))))))))))))))))))))) vx_goX4) vx_goX5) vx_goX2) vx_goX1) vx_goX0) vx_goX3) rfl)
theorem vx_good : ∀ w ∈ wsL_law, (w.onTables && w.keeps) = true ∨ ∃ ty, w = .arrayClass ty := fun w h => good_of_word (List.all_eq_true.mp vx_good_all w h)
theorem tm_1 {w : Cond} (h : w ∈ wsL_law_r1) : w ∈ wsL_law := List.mem_append_left _ (List.mem_append_left _ (List.mem_append_left _ (List.mem_append_left _ (List.mem_append_left _ (List.mem_append_left _ (List.mem_append_left _ (List.mem_append_left _ h)))))))
theorem tm_2 {w : Cond} (h : w ∈ wsL_law_r2) : w ∈ wsL_law := List.mem_append_left _ (List.mem_append_left _ (List.mem_append_left _ (List.mem_append_left _ (List.mem_append_left _ (List.mem_append_left _ (List.mem_append_left _ (List.mem_append_right _ (List.mem_append_left _ h))))))))
theorem tm_3 {w : Cond} (h : w ∈ wsL_law_r3) : w ∈ wsL_law := List.mem_append_left _ (List.mem_append_left _ (List.mem_append_left _ (List.mem_append_left _ (List.mem_append_left _ (List.mem_append_left _ (List.mem_append_left _ (List.mem_append_right _ (List.mem_append_right _ (List.mem_append_left _ h)))))))))
theorem tm_4 {w : Cond} (h : w ∈ wsL_law_r4) : w ∈ wsL_law := List.mem_append_left _ (List.mem_append_left _ (List.mem_append_left _ (List.mem_append_left _ (List.mem_append_left _ (List.mem_append_left _ (List.mem_append_left _ (List.mem_append_right _ (List.mem_append_right _ (List.mem_append_right _ (List.mem_append_left _ h))))))))))
theorem tm_5 {w : Cond} (h : w ∈ wsL_law_r5) : w ∈ wsL_law := List.mem_append_left _ (List.mem_append_left _ (List.mem_append_left _ (List.mem_append_left _ (List.mem_append_left _ (List.mem_append_left _ (List.mem_append_left _ (List.mem_append_right _ (List.mem_append_right _ (List.mem_append_right _ (List.mem_append_right _ (List.mem_append_left _ h)))))))))))
theorem tm_6 {w : Cond} (h : w ∈ wsL_law_r6) : w ∈ wsL_law := List.mem_append_left _ (List.mem_append_left _ (List.mem_append_left _ (List.mem_append_left _ (List.mem_append_left _ (List.mem_append_left _ (List.mem_append_left _ (List.mem_append_right _ (List.mem_append_right _ (List.mem_append_right _ (List.mem_append_right _ (List.mem_append_right _ (List.mem_append_left _ h))))))))))))
theorem tm_7 {w : Cond} (h : w ∈ wsL_law_r7) : w ∈ wsL_law := List.mem_append_left _ (List.mem_append_left _ (List.mem_append_left _ (List.mem_append_left _ (List.mem_append_left _ (List.mem_append_left _ (List.mem_append_left _ (List.mem_append_right _ (List.mem_append_right _ (List.mem_append_right _ (List.mem_append_right _ (List.mem_append_right _ (List.mem_append_right _ (List.mem_append_left _ h)))))))))))))
theorem tm_8 {w : Cond} (h : w ∈ wsL_law_r8) : w ∈ wsL_law := List.mem_append_left _ (List.mem_append_left _ (List.mem_append_left _ (List.mem_append_left _ (List.mem_append_left _ (List.mem_append_left _ (List.mem_append_left _ (List.mem_append_right _ (List.mem_append_right _ (List.mem_append_right _ (List.mem_append_right _ (List.mem_append_right _ (List.mem_append_right _ (List.mem_append_right _ (List.mem_append_left _ h))))))))))))))
theorem tm_9 {w : Cond} (h : w ∈ wsL_law_r9) : w ∈ wsL_law := List.mem_append_left _ (List.mem_append_left _ (List.mem_append_left _ (List.mem_append_left _ (List.mem_append_left _ (List.mem_append_left _ (List.mem_append_left _ (List.mem_append_right _ (List.mem_append_right _ (List.mem_append_right _ (List.mem_append_right _ (List.mem_append_right _ (List.mem_append_right _ (List.mem_append_right _ (List.mem_append_right _ (List.mem_append_left _ h)))))))))))))))
theorem tm_10 {w : Cond} (h : w ∈ wsL_law_r10) : w ∈ wsL_law := List.mem_append_left _ (List.mem_append_left _ (List.mem_append_left _ (List.mem_append_left _ (List.mem_append_left _ (List.mem_append_left _ (List.mem_append_left _ (List.mem_append_right _ (List.mem_append_right _ (List.mem_append_right _ (List.mem_append_right _ (List.mem_append_right _ (List.mem_append_right _ (List.mem_append_right _ (List.mem_append_right _ (List.mem_append_right _ (List.mem_append_left _ h))))))))))))))))
theorem tm_11 {w : Cond} (h : w ∈ wsL_law_r11) : w ∈ wsL_law := List.mem_append_left _ (List.mem_append_left _ (List.mem_append_left _ (List.mem_append_left _ (List.mem_append_left _ (List.mem_append_left _ (List.mem_append_left _ (List.mem_append_right _ (List.mem_append_right _ (List.mem_append_right _ (List.mem_append_right _ (List.mem_append_right _ (List.mem_append_right _ (List.mem_append_right _ (List.mem_append_right _ (List.mem_append_right _ (List.mem_append_right _ (List.mem_append_left _ h)))))))))))))))))
theorem tm_12 {w : Cond} (h : w ∈ wsL_law_r12) : w ∈ wsL_law := List.mem_append_left _ (List.mem_append_left _ (List.mem_append_left _ (List.mem_append_left _ (List.mem_append_left _ (List.mem_append_left _ (List.mem_append_left _ (List.mem_append_right _ (List.mem_append_right _ (List.mem_append_right _ (List.mem_append_right _ (List.mem_append_right _ (List.mem_append_right _ (List.mem_append_right _ (List.mem_append_right _ (List.mem_append_right _ (List.mem_append_right _ (List.mem_append_right _ (List.mem_append_left _ h))))))))))))))))))
theorem tm_13 {w : Cond} (h : w ∈ wsL_law_r13) : w ∈ wsL_law := List.mem_append_left _ (List.mem_append_left _ (List.mem_append_left _ (List.mem_append_left _ (List.mem_append_left _ (List.mem_append_left _ (List.mem_append_left _ (List.mem_append_right _ (List.mem_append_right _ (List.mem_append_right _ (List.mem_append_right _ (List.mem_append_right _ (List.mem_append_right _ (List.mem_append_right _ (List.mem_append_right _ (List.mem_append_right _ (List.mem_append_right _ (List.mem_append_right _ (List.mem_append_right _ (List.mem_append_left _ h)))))))))))))))))))
theorem tm_14 {w : Cond} (h : w ∈ wsL_law_r14) : w ∈ wsL_law := List.mem_append_left _ (List.mem_append_left _ (List.mem_append_left _ (List.mem_append_left _ (List.mem_append_left _ (List.mem_append_left _ (List.mem_append_left _ (List.mem_append_right _ (List.mem_append_right _ (List.mem_append_right _ (List.mem_append_right _ (List.mem_append_right _ (List.mem_append_right _ (List.mem_append_right _ (List.mem_append_right _ (List.mem_append_right _ (List.mem_append_right _ (List.mem_append_right _ (List.mem_append_right _ (List.mem_append_right _ (List.mem_append_left _ h))))))))))))))))))))
theorem tm_15 {w : Cond} (h : w ∈ wsL_law_r15) : w ∈ wsL_law := List.mem_append_left _ (List.mem_append_left _ (List.mem_append_left _ (List.mem_append_left _ (List.mem_append_left _ (List.mem_append_left _ (List.mem_append_left _ (List.mem_append_right _ (List.mem_append_right _ (List.mem_append_right _ (List.mem_append_right _ (List.mem_append_right _ (List.mem_append_right _ (List.mem_append_right _ (List.mem_append_right _ (List.mem_append_right _ (List.mem_append_right _ (List.mem_append_right _ (List.mem_append_right _ (List.mem_append_right _ (List.mem_append_right _ (List.mem_append_left _ h)))))))))))))))))))))
theorem tm_16 {w : Cond} (h : w ∈ wsL_law_r16) : w ∈ wsL_law := List.mem_append_left _ (List.mem_append_left _ (List.mem_append_left _ (List.mem_append_left _ (List.mem_append_left _ (List.mem_append_left _ (List.mem_append_left _ (List.mem_append_right _ (List.mem_append_right _ (List.mem_append_right _ (List.mem_append_right _ (List.mem_append_right _ (List.mem_append_right _ (List.mem_append_right _ (List.mem_append_right _ (List.mem_append_right _ (List.mem_append_right _ (List.mem_append_right _ (List.mem_append_right _ (List.mem_append_right _ (List.mem_append_right _ (List.mem_append_right _ (List.mem_append_left _ h))))))))))))))))))))))
theorem tm_17 {w : Cond} (h : w ∈ wsL_law_r17) : w ∈ wsL_law := List.mem_append_left _ (List.mem_append_left _ (List.mem_append_left _ (List.mem_append_left _ (List.mem_append_left _ (List.mem_append_left _ (List.mem_append_left _ (List.mem_append_right _ (List.mem_append_right _ (List.mem_append_right _ (List.mem_append_right _ (List.mem_append_right _ (List.mem_append_right _ (List.mem_append_right _ (List.mem_append_right _ (List.mem_append_right _ (List.mem_append_right _ (List.mem_append_right _ (List.mem_append_right _ (List.mem_append_right _ (List.mem_append_right _ (List.mem_append_right _ (List.mem_append_right _ (List.mem_append_left _ h)))))))))))))))))))))))
theorem tm_18 {w : Cond} (h : w ∈ wsL_law_r18) : w ∈ wsL_law := List.mem_append_left _ (List.mem_append_left _ (List.mem_append_left _ (List.mem_append_left _ (List.mem_append_left _ (List.mem_append_left _ (List.mem_append_left _ (List.mem_append_right _ (List.mem_append_right _ (List.mem_append_right _ (List.mem_append_right _ (List.mem_append_right _ (List.mem_append_right _ (List.mem_append_right _ (List.mem_append_right _ (List.mem_append_right _ (List.mem_append_right _ (List.mem_append_right _ (List.mem_append_right _ (List.mem_append_right _ (List.mem_append_right _ (List.mem_append_right _ (List.mem_append_right _ (List.mem_append_right _ (List.mem_append_left _ h))))))))))))))))))))))))
theorem tm_19 {w : Cond} (h : w ∈ wsL_law_r19) : w ∈ wsL_law := List.mem_append_left _ (List.mem_append_left _ (List.mem_append_left _ (List.mem_append_left _ (List.mem_append_left _ (List.mem_append_left _ (List.mem_append_left _ (List.mem_append_right _ (List.mem_append_right _ (List.mem_append_right _ (List.mem_append_right _ (List.mem_append_right _ (List.mem_append_right _ (List.mem_append_right _ (List.mem_append_right _ (List.mem_append_right _ (List.mem_append_right _ (List.mem_append_right _ (List.mem_append_right _ (List.mem_append_right _ (List.mem_append_right _ (List.mem_append_right _ (List.mem_append_right _ (List.mem_append_right _ (List.mem_append_right _ (List.mem_append_left _ h)))))))))))))))))))))))))
theorem tm_20 {w : Cond} (h : w ∈ wsL_law_r20) : w ∈ wsL_law := List.mem_append_left _ (List.mem_append_left _ (List.mem_append_left _ (List.mem_append_left _ (List.mem_append_left _ (List.mem_append_left _ (List.mem_append_left _ (List.mem_append_right _ (List.mem_append_right _ (List.mem_append_right _ (List.mem_append_right _ (List.mem_append_right _ (List.mem_append_right _ (List.mem_append_right _ (List.mem_append_right _ (List.mem_append_right _ (List.mem_append_right _ (List.mem_append_right _ (List.mem_append_right _ (List.mem_append_right _ (List.mem_append_right _ (List.mem_append_right _ (List.mem_append_right _ (List.mem_append_right _ (List.mem_append_right _ (List.mem_append_right _ (List.mem_append_left _ h))))))))))))))))))))))))))
theorem tm_21 {w : Cond} (h : w ∈ wsL_law_r21) : w ∈ wsL_law := List.mem_append_left _ (List.mem_append_left _ (List.mem_append_left _ (List.mem_append_left _ (List.mem_append_left _ (List.mem_append_left _ (List.mem_append_left _ (List.mem_append_right _ (List.mem_append_right _ (List.mem_append_right _ (List.mem_append_right _ (List.mem_append_right _ (List.mem_append_right _ (List.mem_append_right _ (List.mem_append_right _ (List.mem_append_right _ (List.mem_append_right _ (List.mem_append_right _ (List.mem_append_right _ (List.mem_append_right _ (List.mem_append_right _ (List.mem_append_right _ (List.mem_append_right _ (List.mem_append_right _ (List.mem_append_right _ (List.mem_append_right _ (List.mem_append_right _ (List.mem_append_left _ h)))))))))))))))))))))))))))
theorem tm_22 {w : Cond} (h : w ∈ wsL_law_r22) : w ∈ wsL_law := List.mem_append_left _ (List.mem_append_left _ (List.mem_append_left _ (List.mem_append_left _ (List.mem_append_left _ (List.mem_append_left _ (List.mem_append_left _ (List.mem_append_right _ (List.mem_append_right _ (List.mem_append_right _ (List.mem_append_right _ (List.mem_append_right _ (List.mem_append_right _ (List.mem_append_right _ (List.mem_append_right _ (List.mem_append_right _ (List.mem_append_right _ (List.mem_append_right _ (List.mem_append_right _ (List.mem_append_right _ (List.mem_append_right _ (List.mem_append_right _ (List.mem_append_right _ (List.mem_append_right _ (List.mem_append_right _ (List.mem_append_right _ (List.mem_append_right _ (List.mem_append_right _ (List.mem_append_left _ h))))))))))))))))))))))))))))
theorem tm_23 {w : Cond} (h : w ∈ wsL_law_r23) : w ∈ wsL_law := List.mem_append_left _ (List.mem_append_left _ (List.mem_append_left _ (List.mem_append_left _ (List.mem_append_left _ (List.mem_append_left _ (List.mem_append_left _ (List.mem_append_right _ (List.mem_append_right _ (List.mem_append_right _ (List.mem_append_right _ (List.mem_append_right _ (List.mem_append_right _ (List.mem_append_right _ (List.mem_append_right _ (List.mem_append_right _ (List.mem_append_right _ (List.mem_append_right _ (List.mem_append_right _ (List.mem_append_right _ (List.mem_append_right _ (List.mem_append_right _ (List.mem_append_right _ (List.mem_append_right _ (List.mem_append_right _ (List.mem_append_right _ (List.mem_append_right _ (List.mem_append_right _ (List.mem_append_right _ (List.mem_append_left _ h)))))))))))))))))))))))))))))
theorem tm_24 {w : Cond} (h : w ∈ wsL_law_r24) : w ∈ wsL_law := List.mem_append_left _ (List.mem_append_left _ (List.mem_append_left _ (List.mem_append_left _ (List.mem_append_left _ (List.mem_append_left _ (List.mem_append_left _ (List.mem_append_right _ (List.mem_append_right _ (List.mem_append_right _ (List.mem_append_right _ (List.mem_append_right _ (List.mem_append_right _ (List.mem_append_right _ (List.mem_append_right _ (List.mem_append_right _ (List.mem_append_right _ (List.mem_append_right _ (List.mem_append_right _ (List.mem_append_right _ (List.mem_append_right _ (List.mem_append_right _ (List.mem_append_right _ (List.mem_append_right _ (List.mem_append_right _ (List.mem_append_right _ (List.mem_append_right _ (List.mem_append_right _ (List.mem_append_right _ (List.mem_append_right _ (List.mem_append_left _ h))))))))))))))))))))))))))))))
theorem tm_25 {w : Cond} (h : w ∈ wsL_law_r25) : w ∈ wsL_law := List.mem_append_left _ (List.mem_append_left _ (List.mem_append_left _ (List.mem_append_left _ (List.mem_append_left _ (List.mem_append_left _ (List.mem_append_left _ (List.mem_append_right _ (List.mem_append_right _ (List.mem_append_right _ (List.mem_append_right _ (List.mem_append_right _ (List.mem_append_right _ (List.mem_append_right _ (List.mem_append_right _ (List.mem_append_right _ (List.mem_append_right _ (List.mem_append_right _ (List.mem_append_right _ (List.mem_append_right _ (List.mem_append_right _ (List.mem_append_right _ (List.mem_append_right _ (List.mem_append_right _ (List.mem_append_right _ (List.mem_append_right _ (List.mem_append_right _ (List.mem_append_right _ (List.mem_append_right _ (List.mem_append_right _ (List.mem_append_right _ (List.mem_append_left _ h)))))))))))))))))))))))))))))))
theorem tm_26 {w : Cond} (h : w ∈ wsL_law_r26) : w ∈ wsL_law := List.mem_append_left _ (List.mem_append_left _ (List.mem_append_left _ (List.mem_append_left _ (List.mem_append_left _ (List.mem_append_left _ (List.mem_append_left _ (List.mem_append_right _ (List.mem_append_right _ (List.mem_append_right _ (List.mem_append_right _ (List.mem_append_right _ (List.mem_append_right _ (List.mem_append_right _ (List.mem_append_right _ (List.mem_append_right _ (List.mem_append_right _ (List.mem_append_right _ (List.mem_append_right _ (List.mem_append_right _ (List.mem_append_right _ (List.mem_append_right _ (List.mem_append_right _ (List.mem_append_right _ (List.mem_append_right _ (List.mem_append_right _ (List.mem_append_right _ (List.mem_append_right _ (List.mem_append_right _ (List.mem_append_right _ (List.mem_append_right _ (List.mem_append_right _ (List.mem_append_left _ h))))))))))))))))))))))))))))))))
theorem tm_27 {w : Cond} (h : w ∈ wsL_law_r27) : w ∈ wsL_law := List.mem_append_left _ (List.mem_append_left _ (List.mem_append_left _ (List.mem_append_left _ (List.mem_append_left _ (List.mem_append_left _ (List.mem_append_left _ (List.mem_append_right _ (List.mem_append_right _ (List.mem_append_right _ (List.mem_append_right _ (List.mem_append_right _ (List.mem_append_right _ (List.mem_append_right _ (List.mem_append_right _ (List.mem_append_right _ (List.mem_append_right _ (List.mem_append_right _ (List.mem_append_right _ (List.mem_append_right _ (List.mem_append_right _ (List.mem_append_right _ (List.mem_append_right _ (List.mem_append_right _ (List.mem_append_right _ (List.mem_append_right _ (List.mem_append_right _ (List.mem_append_right _ (List.mem_append_right _ (List.mem_append_right _ (List.mem_append_right _ (List.mem_append_right _ (List.mem_append_right _ (List.mem_append_left _ h)))))))))))))))))))))))))))))))))
theorem tm_28 {w : Cond} (h : w ∈ wsL_law_r28) : w ∈ wsL_law := List.mem_append_left _ (List.mem_append_left _ (List.mem_append_left _ (List.mem_append_left _ (List.mem_append_left _ (List.mem_append_left _ (List.mem_append_left _ (List.mem_append_right _ (List.mem_append_right _ (List.mem_append_right _ (List.mem_append_right _ (List.mem_append_right _ (List.mem_append_right _ (List.mem_append_right _ (List.mem_append_right _ (List.mem_append_right _ (List.mem_append_right _ (List.mem_append_right _ (List.mem_append_right _ (List.mem_append_right _ (List.mem_append_right _ (List.mem_append_right _ (List.mem_append_right _ (List.mem_append_right _ (List.mem_append_right _ (List.mem_append_right _ (List.mem_append_right _ (List.mem_append_right _ (List.mem_append_right _ (List.mem_append_right _ (List.mem_append_right _ (List.mem_append_right _ (List.mem_append_right _ (List.mem_append_right _ (List.mem_append_left _ h))))))))))))))))))))))))))))))))))
theorem tm_29 {w : Cond} (h : w ∈ wsL_law_r29) : w ∈ wsL_law := List.mem_append_left _ (List.mem_append_left _ (List.mem_append_left _ (List.mem_append_left _ (List.mem_append_left _ (List.mem_append_left _ (List.mem_append_left _ (List.mem_append_right _ (List.mem_append_right _ (List.mem_append_right _ (List.mem_append_right _ (List.mem_append_right _ (List.mem_append_right _ (List.mem_append_right _ (List.mem_append_right _ (List.mem_append_right _ (List.mem_append_right _ (List.mem_append_right _ (List.mem_append_right _ (List.mem_append_right _ (List.mem_append_right _ (List.mem_append_right _ (List.mem_append_right _ (List.mem_append_right _ (List.mem_append_right _ (List.mem_append_right _ (List.mem_append_right _ (List.mem_append_right _ (List.mem_append_right _ (List.mem_append_right _ (List.mem_append_right _ (List.mem_append_right _ (List.mem_append_right _ (List.mem_append_right _ (List.mem_append_right _ (List.mem_append_left _ h)))))))))))))))))))))))))))))))))))
theorem tm_30 {w : Cond} (h : w ∈ wsL_law_r30) : w ∈ wsL_law := List.mem_append_left _ (List.mem_append_left _ (List.mem_append_left _ (List.mem_append_left _ (List.mem_append_left _ (List.mem_append_left _ (List.mem_append_left _ (List.mem_append_right _ (List.mem_append_right _ (List.mem_append_right _ (List.mem_append_right _ (List.mem_append_right _ (List.mem_append_right _ (List.mem_append_right _ (List.mem_append_right _ (List.mem_append_right _ (List.mem_append_right _ (List.mem_append_right _ (List.mem_append_right _ (List.mem_append_right _ (List.mem_append_right _ (List.mem_append_right _ (List.mem_append_right _ (List.mem_append_right _ (List.mem_append_right _ (List.mem_append_right _ (List.mem_append_right _ (List.mem_append_right _ (List.mem_append_right _ (List.mem_append_right _ (List.mem_append_right _ (List.mem_append_right _ (List.mem_append_right _ (List.mem_append_right _ (List.mem_append_right _ (List.mem_append_right _ (List.mem_append_left _ h))))))))))))))))))))))))))))))))))))
theorem tm_31 {w : Cond} (h : w ∈ wsL_law_r31) : w ∈ wsL_law := List.mem_append_left _ (List.mem_append_left _ (List.mem_append_left _ (List.mem_append_left _ (List.mem_append_left _ (List.mem_append_left _ (List.mem_append_left _ (List.mem_append_right _ (List.mem_append_right _ (List.mem_append_right _ (List.mem_append_right _ (List.mem_append_right _ (List.mem_append_right _ (List.mem_append_right _ (List.mem_append_right _ (List.mem_append_right _ (List.mem_append_right _ (List.mem_append_right _ (List.mem_append_right _ (List.mem_append_right _ (List.mem_append_right _ (List.mem_append_right _ (List.mem_append_right _ (List.mem_append_right _ (List.mem_append_right _ (List.mem_append_right _ (List.mem_append_right _ (List.mem_append_right _ (List.mem_append_right _ (List.mem_append_right _ (List.mem_append_right _ (List.mem_append_right _ (List.mem_append_right _ (List.mem_append_right _ (List.mem_append_right _ (List.mem_append_right _ (List.mem_append_right _ (List.mem_append_left _ h)))))))))))))))))))))))))))))))))))))
theorem tm_32 {w : Cond} (h : w ∈ wsL_law_r32) : w ∈ wsL_law := List.mem_append_left _ (List.mem_append_left _ (List.mem_append_left _ (List.mem_append_left _ (List.mem_append_left _ (List.mem_append_left _ (List.mem_append_left _ (List.mem_append_right _ (List.mem_append_right _ (List.mem_append_right _ (List.mem_append_right _ (List.mem_append_right _ (List.mem_append_right _ (List.mem_append_right _ (List.mem_append_right _ (List.mem_append_right _ (List.mem_append_right _ (List.mem_append_right _ (List.mem_append_right _ (List.mem_append_right _ (List.mem_append_right _ (List.mem_append_right _ (List.mem_append_right _ (List.mem_append_right _ (List.mem_append_right _ (List.mem_append_right _ (List.mem_append_right _ (List.mem_append_right _ (List.mem_append_right _ (List.mem_append_right _ (List.mem_append_right _ (List.mem_append_right _ (List.mem_append_right _ (List.mem_append_right _ (List.mem_append_right _ (List.mem_append_right _ (List.mem_append_right _ (List.mem_append_right _ (h))))))))))))))))))))))))))))))))))))))
theorem vx_pay {args : Array Value} {s : State} (hts : ∀ w ∈ wsL_law, w.before args s = true) {y : MethodName} {bytes : ByteArray} {maxL : Nat} {ret : Option FieldType} (h : Cond.code y bytes maxL ret ∈ wsL_law) : GoodIn wsL_law (Cond.code y bytes maxL ret :: wsL_law) := fun w hw => by
  rcases List.mem_cons.mp hw with rfl | hw
  · exact ⟨h, vx_good _ h⟩
  · exact ⟨hw, vx_good _ hw⟩
/-! ===== the store, the world, the walk: every cell of both objects, at addresses that are variables; what changes is one store of numbers ===== -/
abbrev vx_St : Type := (Nat → Nat → Int32) × (Nat → Nat → Int64)
abbrev vx_D : Type := (Nat × Nat) ⊕ (Nat × List (Nat ⊕ Nat))
abbrev vx_G : Type := va_G × (ClassId × ClassId) × (Nat → Nat) × (Nat → Nat) × (Nat → Nat)
def vx_b01 (x : Int32) : Int32 := if x = 0 then 0 else 1
def vx_f (ad : Nat → Nat) (c : Nat) (x : Int32) (y : Int64) : Nat ⊕ Nat → Value
  | .inl 0 => .int x
  | .inl 1 => .int (vx_b01 x)
  | .inl _ => .long y
  | .inr o => .ref (ad (c + o))
def vx_c (g : vx_G) (S : vx_St) (c : Nat) : vx_D → va_E
  | .inl (0, n) => .inl (g.2.1.1, n, .inl (S.1 c))
  | .inl (_, n) => .inl (g.2.1.2, n, .inl (S.1 c))
  | .inr (ci, fs) => .inr (ci, fs.mapIdx (fun k d => vx_f g.2.2.1 c (S.1 c k) (S.2 c k) d))
abbrev vx_Cl : List vw_C := [(RX0, TX0, 14), (RX1, TX1, 8), (RX2, TX2, 2), (RX3, TX3, 3), (RX4, TX4, 9), (RX5, TX5, 47)]
abbrev vx_sA : vx_D := .inl (0, 8)
abbrev vx_sDay : vx_D := .inr (0, [.inl 0, .inl 0, .inl 0, .inl 0, .inl 0, .inl 0, .inl 1, .inl 1, .inl 0, .inr 1, .inr 2, .inr 3, .inr 4, .inr 5])
abbrev vx_sRd : vx_D := .inr (3, [.inl 0, .inr 1, .inr 2])
/-- 0 the class's object; 1 Page, 2 its codes; 3 Houses, 4 kind, 5 parent, 6 from, 7 to, 8 takes, 9 loss, 10 way; 11 day, 12 taken, 13 owed, 14 wanted, 15 parts, 16 rests; 17 readings, 18 through, 19 extra; 20 ahead (21 to 25); 26 imageDay (27 to 31); 32 imageReadings (33, 34); 35 the model's object, 36 to 51 its arrays -/
def vx_SH : List vx_D := [
  .inr (4, [.inr 1, .inr 3, .inr 11, .inr 17, .inr 20, .inl 1, .inl 0, .inr 26, .inr 32]),
  .inr (2, [.inl 0, .inr 1]), .inl (0, 12),
  .inr (1, [.inl 0, .inr 1, .inr 2, .inr 3, .inr 4, .inr 5, .inr 6, .inr 7]), vx_sA, vx_sA, vx_sA, vx_sA, vx_sA, vx_sA, vx_sA,
  vx_sDay, vx_sA, vx_sA, vx_sA, vx_sA, vx_sA,
  vx_sRd, vx_sA, vx_sA,
  vx_sDay, vx_sA, vx_sA, vx_sA, vx_sA, vx_sA,
  vx_sDay, vx_sA, vx_sA, vx_sA, vx_sA, vx_sA,
  vx_sRd, vx_sA, vx_sA,
  .inr (5, [.inl 0, .inr 1, .inr 2, .inr 3, .inr 4, .inr 5, .inr 6, .inr 7, .inr 8, .inl 0, .inl 0, .inl 0, .inl 0, .inl 0, .inl 0, .inl 1, .inl 1, .inl 0, .inr 9, .inr 10, .inl 0, .inr 11, .inr 12, .inl 0, .inl 0, .inl 0, .inl 0, .inl 0, .inl 1, .inl 1, .inl 2, .inl 1, .inl 0, .inl 0, .inl 0, .inl 0, .inl 0, .inl 0, .inl 0, .inl 1, .inl 1, .inl 0, .inr 13, .inr 14, .inr 15, .inr 16, .inl 2]),
  vx_sA, vx_sA, vx_sA, vx_sA, vx_sA, vx_sA, vx_sA, vx_sA, vx_sA, vx_sA, .inl (1, 12), vx_sA, vx_sA, vx_sA, vx_sA, vx_sA]
theorem vx_SH_len : vx_SH.length = 52 := by decide +kernel
def vx_w (g : vx_G) (S : vx_St) : va_W := vx_SH.mapIdx (fun c d => (g.2.2.1 c, vx_c g S c d))
def vx_A (g : vx_G) : Nat → Prop := fun q => ∃ c, c < 52 ∧ q = g.2.2.1 c
theorem vx_w_at {g : vx_G} {S : vx_St} {c : Nat} {d : vx_D} (h : vx_SH[c]? = some d) : (vx_w g S)[c]? = some (g.2.2.1 c, vx_c g S c d) := by
  simp [vx_w, List.getElem?_mapIdx, h]
theorem vx_w_of {g : vx_G} {S : vx_St} {c : Nat} {q : Nat × va_E} (h : (vx_w g S)[c]? = some q) : c < 52 ∧ q.1 = g.2.2.1 c := by
  have hl := (List.getElem?_eq_some_iff.mp h).1
  simp only [vx_w, List.length_mapIdx, vx_SH_len] at hl
  refine ⟨hl, ?_⟩
  have hs : vx_SH[c]? = some (vx_SH[c]'(by rw [vx_SH_len]; exact hl)) := List.getElem?_eq_getElem _
  rw [vx_w_at hs] at h
  cases h
  rfl
def vx_inj (g : vx_G) : Prop := ∀ i j, i < 52 → j < 52 → g.2.2.1 i = g.2.2.1 j → i = j
theorem vx_w_D {g : vx_G} (S : vx_St) (hi : vx_inj g) : va_D (vx_A g) (vx_w g S) := by
  refine ⟨fun i j p q hp hq e => ?_, fun k q hq => ?_⟩
  · obtain ⟨h1, e1⟩ := vx_w_of hp
    obtain ⟨h2, e2⟩ := vx_w_of hq
    exact hi i j h1 h2 (by rw [← e1, ← e2]; exact e)
  · obtain ⟨h1, e1⟩ := vx_w_of hq
    exact ⟨k, h1, e1⟩
/-- the store, changed at one place -/
def vx_u (S : vx_St) (c k : Nat) (x : Int32) : vx_St := (fun i j => if i = c ∧ j = k then x else S.1 i j, S.2)
def vx_uL (S : vx_St) (c k : Nat) (x : Int64) : vx_St := (S.1, fun i j => if i = c ∧ j = k then x else S.2 i j)
/-- a whole row -/
def vx_ur (S : vx_St) (c : Nat) (f : Nat → Int32) : vx_St := (fun i => if i = c then f else S.1 i, S.2)
theorem vx_u_row (S : vx_St) (c k : Nat) (x : Int32) : (vx_u S c k x).1 c = upd (S.1 c) k x := by
  funext j
  simp [vx_u, upd]
theorem vx_u_ne (S : vx_St) {c i : Nat} (k : Nat) (x : Int32) (h : i ≠ c) : (vx_u S c k x).1 i = S.1 i := by
  funext j
  simp [vx_u, h]
theorem vx_u_ur (S : vx_St) (c k : Nat) (x : Int32) : vx_u S c k x = vx_ur S c (upd (S.1 c) k x) := by
  refine Prod.ext (funext fun i => ?_) rfl
  by_cases h : i = c
  · subst h; rw [vx_u_row]; simp [vx_ur]
  · rw [vx_u_ne S k x h]; simp [vx_ur, h]
/-- the world after one row has changed -/
theorem vx_w_set {g : vx_G} {S S' : vx_St} {c : Nat} {d : vx_D} (h : vx_SH[c]? = some d) {e : va_E} (he : vx_c g S' c d = e) (h1 : ∀ i, i ≠ c → S'.1 i = S.1 i) (h2 : ∀ i, i ≠ c → S'.2 i = S.2 i) : (vx_w g S).set c (g.2.2.1 c, e) = vx_w g S' := by
  have hc : c < vx_SH.length := (List.getElem?_eq_some_iff.mp h).1
  apply List.ext_getElem?
  intro i
  by_cases hi : i = c
  · subst hi
    rw [List.getElem?_set_self (by simp [vx_w]; exact hc), vx_w_at h, he]
  · rw [List.getElem?_set_ne (Ne.symm hi)]
    simp only [vx_w, List.getElem?_mapIdx]
    cases hs : vx_SH[i]? with
    | none => rfl
    | some d' =>
      simp only [Option.map_some]
      congr 2
      unfold vx_c
      split <;> simp [h1 i hi, h2 i hi]
theorem vx_fs_set {g : vx_G} {S : vx_St} {c k ci : Nat} {fs : List (Nat ⊕ Nat)} {x : Int32} {v : Value} {d : Nat ⊕ Nat} (hk : fs[k]? = some d) (hv : vx_f g.2.2.1 c x (S.2 c k) d = v) : vx_c g (vx_u S c k x) c (.inr (ci, fs)) = .inr (ci, (fs.mapIdx (fun k d => vx_f g.2.2.1 c (S.1 c k) (S.2 c k) d)).set k v) := by
  have hl : k < fs.length := (List.getElem?_eq_some_iff.mp hk).1
  simp only [vx_c]
  congr 2
  apply List.ext_getElem?
  intro i
  by_cases hi : i = k
  · subst hi
    rw [List.getElem?_set_self (by simpa using hl)]
    simp [List.getElem?_mapIdx, hk, vx_u, hv]
  · rw [List.getElem?_set_ne (Ne.symm hi)]
    simp [List.getElem?_mapIdx, vx_u, hi]
theorem vx_fs_setL {g : vx_G} {S : vx_St} {c k ci : Nat} {fs : List (Nat ⊕ Nat)} {x : Int64} {v : Value} {d : Nat ⊕ Nat} (hk : fs[k]? = some d) (hv : vx_f g.2.2.1 c (S.1 c k) x d = v) : vx_c g (vx_uL S c k x) c (.inr (ci, fs)) = .inr (ci, (fs.mapIdx (fun k d => vx_f g.2.2.1 c (S.1 c k) (S.2 c k) d)).set k v) := by
  have hl : k < fs.length := (List.getElem?_eq_some_iff.mp hk).1
  simp only [vx_c]
  congr 2
  apply List.ext_getElem?
  intro i
  by_cases hi : i = k
  · subst hi
    rw [List.getElem?_set_self (by simpa using hl)]
    simp [List.getElem?_mapIdx, hk, vx_uL, hv]
  · rw [List.getElem?_set_ne (Ne.symm hi)]
    simp [List.getElem?_mapIdx, vx_uL, hi]
/-- the nest mates' links, the strings, the tables: what holds at every state -/
def vx_isN : Cond → Bool
  | .fieldLinkNest .. => true
  | .methodLinkNest .. => true
  | _ => false
theorem vx_nest_ok : vx_nest.all vx_isN = true := by decide +kernel
def vx_K (g : vx_G) (U : State) : Prop := va_K g.1 vx_Cl [(g.2.1.1, .int), (g.2.1.2, .byte)] U ∧ (∀ w ∈ vx_nest, va_Nw w U) ∧ vx_inj g ∧ vk_R "TownOnWeight$Page" 41 "hcusx" (g.2.2.2.1 0) U ∧ vk_R "TownOnWeight" 120 "hcusx" (g.2.2.2.1 0) U
def vx_Z (g : vx_G) (U : State) (H : Heap) : Prop := vk_S 1 [5] [[104, 99, 117, 115, 120]] g.2.2.2.1 g.2.2.2.2 (vx_A g) U H ∧ va_Z "java/lang/String" "COMPACT_STRINGS" "Z" (.int 1) (vx_A g) U H
theorem vx_nest_warm {s U : State} (hW : s.WarmedH U.vm) (h : ∀ w ∈ vx_nest, va_Nw w s) : ∀ w ∈ vx_nest, va_Nw w U := by
  intro w hw
  have h1 := h w hw
  have h2 := List.all_eq_true.mp vx_nest_ok w hw
  cases w with
  | fieldLinkNest a i b n d h => exact va_Nw.warmF hW h1
  | methodLinkNest a i x h => exact va_Nw.warmM hW h1
  | _ => simp [vx_isN] at h2
theorem vx_nest_same {s U : State} (hv : s.vm = U.vm) (h : ∀ w ∈ vx_nest, va_Nw w s) : ∀ w ∈ vx_nest, va_Nw w U := by
  intro w hw
  have h1 := h w hw
  have h2 := List.all_eq_true.mp vx_nest_ok w hw
  cases w with
  | fieldLinkNest a i b n d h => exact va_Nw.same rfl hv h1
  | methodLinkNest a i x h => exact va_Nw.same rfl hv h1
  | _ => simp [vx_isN] at h2
theorem vx_K.warm {g : vx_G} {s U : State} (hW : s.WarmedH U.vm) (h : vx_K g s) : vx_K g U := ⟨va_K.moved hW.alike h.1, vx_nest_warm hW h.2.1, h.2.2.1, vk_R.warm hW h.2.2.2.1, vk_R.warm hW h.2.2.2.2⟩
theorem vx_K.same {g : vx_G} {s U : State} (hv : s.vm = U.vm) (h : vx_K g s) : vx_K g U := ⟨va_K.moved (by rw [hv]; exact Vm.Alike.refl _) h.1, vx_nest_same hv h.2.1, h.2.2.1, vk_R.same hv.symm h.2.2.2.1, vk_R.same hv.symm h.2.2.2.2⟩
theorem vx_Z.moved {g : vx_G} {s U : State} {H : Heap} (hv : s.vm.Alike U.vm) (h : vx_Z g s H) : vx_Z g U H := ⟨vk_S.moved hv h.1, va_Z.moved hv h.2⟩
theorem vx_Z.kept {g : vx_G} {U : State} {H H1 : Heap} (h : vx_Z g U H) (hq : ∀ a : Nat, a < H.size → ¬ vx_A g a → H1[a]? = H[a]?) : vx_Z g U H1 := ⟨h.1.kept hq, h.2.kept hq⟩
/-- a method's contract: from the store S with these arguments it returns, 'post answer store' -/
def vx_P (g : vx_G) (S : vx_St) (U : State) : Prop := vx_K g U ∧ va_P g.1 vx_Cl (vx_w g S) U.heap ∧ vx_Z g U U.heap
def vx_Q (g : vx_G) (post : Option Value → vx_St → Prop) : Array Value → State → Outcome → State → Prop := fun _ st oc t => ∃ (v : Option Value) (S' : vx_St), oc = .returned v ∧ post v S' ∧ va_P g.1 vx_Cl (vx_w g S') t.heap ∧ va_F (vx_A g) st t
abbrev vx_R (a b : Nat) : Room := { frames := a, cells := 0, slots := 0, locals := b }
def vx_M (l : Launch) (g : vx_G) (y : MethodName) (cc : ByteArray) (maxL : Nat) (ret : Option FieldType) (rm : Room) (av : List Value) (S : vx_St) (post : Option Value → vx_St → Prop) : Prop := Met l y (Cond.code y cc maxL ret :: wsL_law) rm (va_Pc av (vx_P g S)) (vx_Q g post) 0 0 (vx_A g)
def vx_C (p : Program) (s : State) (m : MethodId) (args : Array Value) (meth : Method) (c : Code) (own : String) (cc : ByteArray) (nL : Nat) (ret : Option FieldType) (g : vx_G) : Prop :=
  p.tables.exec = Jvm.exec ∧ c.code = cc ∧ c.maxLocals = nL ∧ s.vm.findClass own = some m.cls ∧ (∀ w ∈ wsL_law, w.before args s = true) ∧ meth.sig.returnType = ret ∧ meth.locks = false ∧ vx_K g s ∧ vx_Z g s s.heap
def vx_V (p : Program) (l : Launch) (e : Env) (R : Room) (s : State) (m : MethodId) (args : Array Value) (below : List Frame) (meth : Method) (c : Code) (Q : State → Prop) (g : vx_G) (nL pc : Nat) (L : List (Nat × Value)) (st : List Value) (S : vx_St) : Prop :=
  ∀ (ls : Array Slot) (H : Heap) (locs : List Loc), lv_has ls nL L → va_P g.1 vx_Cl (vx_w g S) H → va_S (vx_A g) s.heap H locs → W p l e R s m args below meth c H locs 0 0 Q (F0 m pc ls st)
theorem vx_M.intro {l : Launch} {g : vx_G} {y : MethodName} {rm : Room} {av : List Value} {S : vx_St} {post : Option Value → vx_St → Prop} {cc : ByteArray} {maxL : Nat} {ret : Option FieldType} (hy : plainName y.cls = true) (hlen : (lg_sl av).length ≤ maxL)
    (body : ∀ (p : Program) (e : Env) (s : State) (m : MethodId) (args : Array Value) (below : List Frame) (meth : Method) (c : Code), vx_C p s m args meth c y.cls cc maxL ret g → vx_V p l e rm s m args below meth c (MQ below (vx_Q g post) args s 0 0 (vx_A g)) g maxL 0 (lv_args 0 av) [] S) : vx_M l g y cc maxL ret rm av S post := by
  refine Met.ofW (cc := cc) (maxL := maxL) (ret := ret) hy rfl ?_
  intro p e s m args below meth c s₁ B hml hv
  obtain ⟨rfl, hK, hP, hZ⟩ := hv
  have hts := atoms_spec (ws := Cond.code y cc maxL ret :: wsL_law) B.pre
  have hown : s.vm.findClass y.cls = some m.cls := findClass_of_methodNamed B.named
  have b := body p e s m av.toArray below meth c ⟨B.exec, B.bytes, hml, hown, fun w hw => hts w (List.mem_cons_of_mem _ hw), B.returns, B.notSynchronized, hK, hZ⟩
  rw [lg_entry_eq]
  exact b _ s.heap [] (lv_entry av hlen) hP va_S.rf
/-- the words that a callee needs -/
def vx_yV (y : MethodName) (bytes : ByteArray) (maxL : Nat) (ret : Option FieldType) (n : Nat) : Prop := Cond.code y bytes maxL ret ∈ wsL_law ∧ Cond.initialized y.cls ∈ wsL_law ∧ (y.cls ≠ "java/lang/invoke/MethodHandle" ∧ y.cls ≠ "java/lang/invoke/VarHandle" ∧ (parseMethodDescriptor y.desc).map (fun d => d.parameters.length) = some n) ∧ Cond.instanceMethod y ∈ wsL_law ∧ Cond.selects y.cls y y ∈ wsL_law
def vx_yS (y : MethodName) (bytes : ByteArray) (maxL : Nat) (ret : Option FieldType) (n : Nat) : Prop := Cond.code y bytes maxL ret ∈ wsL_law ∧ Cond.initialized y.cls ∈ wsL_law ∧ (y.cls ≠ "java/lang/invoke/MethodHandle" ∧ y.cls ≠ "java/lang/invoke/VarHandle" ∧ (parseMethodDescriptor y.desc).map (fun d => d.parameters.length) = some n) ∧ Cond.static y ∈ wsL_law
theorem vx_nb (x : Int32) : narrow .boolean (.int (vx_b01 x)) = .int (vx_b01 x) := by
  unfold vx_b01
  split <;> rfl
theorem vx_fb (x : Int32) : fits .boolean (.int (vx_b01 x)) = true := by
  unfold vx_b01
  split <;> rfl
theorem vx_c8 : (8 : Int32).toNatClampNeg = 8 := by decide
theorem vx_cp_eq (f h : Nat → Int32) : va_cpy f h (0 : Int32).toNatClampNeg (0 : Int32).toNatClampNeg (8 : Int32).toNatClampNeg = va_cpy f h 0 0 8 := by rw [sb_cl0, vx_c8]
theorem vx_cp_c (g : vx_G) (S : vx_St) (a b : Nat) : vx_c g (vx_ur S b (va_cpy (S.1 a) (S.1 b) 0 0 8)) b vx_sA = .inl (g.2.1.1, 8, .inl (va_cpy (S.1 a) (S.1 b) (0 : Int32).toNatClampNeg (0 : Int32).toNatClampNeg (8 : Int32).toNatClampNeg)) := by
  rw [vx_cp_eq]
  simp only [vx_c, vx_ur, if_true]
theorem vx_nb2 {x : Int32} (h : vx_b01 x = x) : narrow .boolean (.int x) = .int x := by
  have h2 := vx_nb x
  rw [h] at h2
  exact h2
theorem vx_fb2 {x : Int32} (h : vx_b01 x = x) : fits .boolean (.int x) = true := by
  have h2 := vx_fb x
  rw [h] at h2
  exact h2
theorem vx_uL_ne (S : vx_St) {c i : Nat} (k : Nat) (x : Int64) (h : i ≠ c) : (vx_uL S c k x).2 i = S.2 i := by
  funext j
  simp [vx_uL, h]
section VV
variable {p : Program} {l : Launch} {e : Env} {R : Room} {s : State} {m : MethodId} {args : Array Value} {below : List Frame} {meth : Method} {c : Code} {Q : State → Prop} {g : vx_G} {nL pc : Nat} {L L' : List (Nat × Value)} {st : List Value} {S : vx_St} {own : String} {cc : ByteArray} {ret : Option FieldType}
theorem vv_iconst (C : vx_C p s m args meth c own cc nL ret g) {n : Int} {v : Int32} (hd : decode cc pc = .ok (.iconst n, 1)) (hv : Int32.ofInt n = v) (k : vx_V p l e R s m args below meth c Q g nL (pc + 1) L (.int v :: st) S) : vx_V p l e R s m args below meth c Q g nL pc L (st) S := fun ls H locs hl hP hS => lv_iconst C.1 C.2.1 hd hv (k ls H locs hl hP hS)
theorem vv_bipush (C : vx_C p s m args meth c own cc nL ret g) {n : Int} {v : Int32} (hd : decode cc pc = .ok (.bipush n, 2)) (hv : (Int8.ofInt n).toInt32 = v) (k : vx_V p l e R s m args below meth c Q g nL (pc + 2) L (.int v :: st) S) : vx_V p l e R s m args below meth c Q g nL pc L (st) S := fun ls H locs hl hP hS => lv_bipush C.1 C.2.1 hd hv (k ls H locs hl hP hS)
theorem vv_sipush (C : vx_C p s m args meth c own cc nL ret g) {n : Int} {v : Int32} (hd : decode cc pc = .ok (.sipush n, 3)) (hv : (Int16.ofInt n).toInt32 = v) (k : vx_V p l e R s m args below meth c Q g nL (pc + 3) L (.int v :: st) S) : vx_V p l e R s m args below meth c Q g nL pc L (st) S := fun ls H locs hl hP hS => lv_sipush C.1 C.2.1 hd hv (k ls H locs hl hP hS)
theorem vv_lconst (C : vx_C p s m args meth c own cc nL ret g) {n : Fin 2} {v : Int64} (hd : decode cc pc = .ok (.lconst n, 1)) (hv : Int64.ofNat (n : Nat) = v) (k : vx_V p l e R s m args below meth c Q g nL (pc + 1) L (.long v :: st) S) : vx_V p l e R s m args below meth c Q g nL pc L (st) S := fun ls H locs hl hP hS => lv_lconst C.1 C.2.1 hd hv (k ls H locs hl hP hS)
theorem vv_iload_n (C : vx_C p s m args meth c own cc nL ret g) {k : Fin 4} {i : Nat} {x : Int32} (hd : decode cc pc = .ok (.iload_n k, 1)) (hi : (k : Nat) = i) (j : Nat) (h : L[j]? = some (i, .int x)) (kk : vx_V p l e R s m args below meth c Q g nL (pc + 1) L (.int x :: st) S) : vx_V p l e R s m args below meth c Q g nL pc L st S := fun ls H locs hl hP hS => lv_iload_n C.1 C.2.1 hd hi (lv_at hl j h) (kk ls H locs hl hP hS)
theorem vv_iload (C : vx_C p s m args meth c own cc nL ret g) {i : Nat} {x : Int32} (hd : decode cc pc = .ok (.iload i, 2)) (j : Nat) (h : L[j]? = some (i, .int x)) (kk : vx_V p l e R s m args below meth c Q g nL (pc + 2) L (.int x :: st) S) : vx_V p l e R s m args below meth c Q g nL pc L st S := fun ls H locs hl hP hS => lv_iload C.1 C.2.1 hd (lv_at hl j h) (kk ls H locs hl hP hS)
theorem vv_istore_n (C : vx_C p s m args meth c own cc nL ret g) {k : Fin 4} {i : Nat} {x : Int32} (hd : decode cc pc = .ok (.istore_n k, 1)) (hi : (k : Nat) = i) (hn : i < nL) (hl : (i, Value.int x) :: L.filter (fun q => !(q.1 == i) && !(q.1 + 1 == i && q.2.category == 2)) = L') (kk : vx_V p l e R s m args below meth c Q g nL (pc + 1) L' st S) : vx_V p l e R s m args below meth c Q g nL pc L (.int x :: st) S := fun ls H locs h hP hS => lv_istore_n C.1 C.2.1 hd hi h hn hl (fun ls2 h2 => kk ls2 H locs h2 hP hS)
theorem vv_istore (C : vx_C p s m args meth c own cc nL ret g) {i : Nat} {x : Int32} (hd : decode cc pc = .ok (.istore i, 2)) (hn : i < nL) (hl : (i, Value.int x) :: L.filter (fun q => !(q.1 == i) && !(q.1 + 1 == i && q.2.category == 2)) = L') (kk : vx_V p l e R s m args below meth c Q g nL (pc + 2) L' st S) : vx_V p l e R s m args below meth c Q g nL pc L (.int x :: st) S := fun ls H locs h hP hS => lv_istore C.1 C.2.1 hd h hn hl (fun ls2 h2 => kk ls2 H locs h2 hP hS)
theorem vv_lload_n (C : vx_C p s m args meth c own cc nL ret g) {k : Fin 4} {i : Nat} {x : Int64} (hd : decode cc pc = .ok (.lload_n k, 1)) (hi : (k : Nat) = i) (j : Nat) (h : L[j]? = some (i, .long x)) (kk : vx_V p l e R s m args below meth c Q g nL (pc + 1) L (.long x :: st) S) : vx_V p l e R s m args below meth c Q g nL pc L st S := fun ls H locs hl hP hS => lv_lload_n C.1 C.2.1 hd hi (lv_at hl j h) (kk ls H locs hl hP hS)
theorem vv_lload (C : vx_C p s m args meth c own cc nL ret g) {i : Nat} {x : Int64} (hd : decode cc pc = .ok (.lload i, 2)) (j : Nat) (h : L[j]? = some (i, .long x)) (kk : vx_V p l e R s m args below meth c Q g nL (pc + 2) L (.long x :: st) S) : vx_V p l e R s m args below meth c Q g nL pc L st S := fun ls H locs hl hP hS => lv_lload C.1 C.2.1 hd (lv_at hl j h) (kk ls H locs hl hP hS)
theorem vv_lstore_n (C : vx_C p s m args meth c own cc nL ret g) {k : Fin 4} {i : Nat} {x : Int64} (hd : decode cc pc = .ok (.lstore_n k, 1)) (hi : (k : Nat) = i) (hn : i + 1 < nL) (hl : (i, Value.long x) :: L.filter (fun q => !(q.1 == i) && (!(q.1 == i + 1) && !(q.1 + 1 == i && q.2.category == 2))) = L') (kk : vx_V p l e R s m args below meth c Q g nL (pc + 1) L' st S) : vx_V p l e R s m args below meth c Q g nL pc L (.long x :: st) S := fun ls H locs h hP hS => lv_lstore_n C.1 C.2.1 hd hi h hn hl (fun ls2 h2 => kk ls2 H locs h2 hP hS)
theorem vv_lstore (C : vx_C p s m args meth c own cc nL ret g) {i : Nat} {x : Int64} (hd : decode cc pc = .ok (.lstore i, 2)) (hn : i + 1 < nL) (hl : (i, Value.long x) :: L.filter (fun q => !(q.1 == i) && (!(q.1 == i + 1) && !(q.1 + 1 == i && q.2.category == 2))) = L') (kk : vx_V p l e R s m args below meth c Q g nL (pc + 2) L' st S) : vx_V p l e R s m args below meth c Q g nL pc L (.long x :: st) S := fun ls H locs h hP hS => lv_lstore C.1 C.2.1 hd h hn hl (fun ls2 h2 => kk ls2 H locs h2 hP hS)
theorem vv_aload_n (C : vx_C p s m args meth c own cc nL ret g) {k : Fin 4} {i : Nat} {x : Nat} (hd : decode cc pc = .ok (.aload_n k, 1)) (hi : (k : Nat) = i) (j : Nat) (h : L[j]? = some (i, .ref x)) (kk : vx_V p l e R s m args below meth c Q g nL (pc + 1) L (.ref x :: st) S) : vx_V p l e R s m args below meth c Q g nL pc L st S := fun ls H locs hl hP hS => lv_aload_n C.1 C.2.1 hd hi (lv_at hl j h) (kk ls H locs hl hP hS)
theorem vv_aload (C : vx_C p s m args meth c own cc nL ret g) {i : Nat} {x : Nat} (hd : decode cc pc = .ok (.aload i, 2)) (j : Nat) (h : L[j]? = some (i, .ref x)) (kk : vx_V p l e R s m args below meth c Q g nL (pc + 2) L (.ref x :: st) S) : vx_V p l e R s m args below meth c Q g nL pc L st S := fun ls H locs hl hP hS => lv_aload C.1 C.2.1 hd (lv_at hl j h) (kk ls H locs hl hP hS)
theorem vv_astore_n (C : vx_C p s m args meth c own cc nL ret g) {k : Fin 4} {i : Nat} {x : Nat} (hd : decode cc pc = .ok (.astore_n k, 1)) (hi : (k : Nat) = i) (hn : i < nL) (hl : (i, Value.ref x) :: L.filter (fun q => !(q.1 == i) && !(q.1 + 1 == i && q.2.category == 2)) = L') (kk : vx_V p l e R s m args below meth c Q g nL (pc + 1) L' st S) : vx_V p l e R s m args below meth c Q g nL pc L (.ref x :: st) S := fun ls H locs h hP hS => lv_astore_n C.1 C.2.1 hd hi h hn hl (fun ls2 h2 => kk ls2 H locs h2 hP hS)
theorem vv_astore (C : vx_C p s m args meth c own cc nL ret g) {i : Nat} {x : Nat} (hd : decode cc pc = .ok (.astore i, 2)) (hn : i < nL) (hl : (i, Value.ref x) :: L.filter (fun q => !(q.1 == i) && !(q.1 + 1 == i && q.2.category == 2)) = L') (kk : vx_V p l e R s m args below meth c Q g nL (pc + 2) L' st S) : vx_V p l e R s m args below meth c Q g nL pc L (.ref x :: st) S := fun ls H locs h hP hS => lv_astore C.1 C.2.1 hd h hn hl (fun ls2 h2 => kk ls2 H locs h2 hP hS)
theorem vv_iinc (C : vx_C p s m args meth c own cc nL ret g) {i j : Nat} {n : Int} {x v : Int32} (hd : decode cc pc = .ok (.iinc i n, 3)) (hk : L[j]? = some (i, .int x)) (hv : x + Int32.ofInt n = v) (hn : i < nL) (hl : (i, Value.int v) :: L.filter (fun q => !(q.1 == i) && !(q.1 + 1 == i && q.2.category == 2)) = L') (kk : vx_V p l e R s m args below meth c Q g nL (pc + 3) L' st S) : vx_V p l e R s m args below meth c Q g nL pc L st S := fun ls H locs h hP hS => lv_iinc C.1 C.2.1 hd h hk hv hn hl (fun ls2 h2 => kk ls2 H locs h2 hP hS)
theorem vv_iadd (C : vx_C p s m args meth c own cc nL ret g) {x y : Int32} (hd : decode cc pc = .ok (.iadd, 1))  (k : vx_V p l e R s m args below meth c Q g nL (pc + 1) L (.int (x + y) :: st) S) : vx_V p l e R s m args below meth c Q g nL pc L (.int y :: .int x :: st) S := fun ls H locs hl hP hS => lv_iadd C.1 C.2.1 hd  (k ls H locs hl hP hS)
theorem vv_isub (C : vx_C p s m args meth c own cc nL ret g) {x y : Int32} (hd : decode cc pc = .ok (.isub, 1))  (k : vx_V p l e R s m args below meth c Q g nL (pc + 1) L (.int (x - y) :: st) S) : vx_V p l e R s m args below meth c Q g nL pc L (.int y :: .int x :: st) S := fun ls H locs hl hP hS => lv_isub C.1 C.2.1 hd  (k ls H locs hl hP hS)
theorem vv_imul (C : vx_C p s m args meth c own cc nL ret g) {x y : Int32} (hd : decode cc pc = .ok (.imul, 1))  (k : vx_V p l e R s m args below meth c Q g nL (pc + 1) L (.int (x * y) :: st) S) : vx_V p l e R s m args below meth c Q g nL pc L (.int y :: .int x :: st) S := fun ls H locs hl hP hS => lv_imul C.1 C.2.1 hd  (k ls H locs hl hP hS)
theorem vv_iand (C : vx_C p s m args meth c own cc nL ret g) {x y : Int32} (hd : decode cc pc = .ok (.iand, 1))  (k : vx_V p l e R s m args below meth c Q g nL (pc + 1) L (.int (x &&& y) :: st) S) : vx_V p l e R s m args below meth c Q g nL pc L (.int y :: .int x :: st) S := fun ls H locs hl hP hS => lv_iand C.1 C.2.1 hd  (k ls H locs hl hP hS)
theorem vv_ior (C : vx_C p s m args meth c own cc nL ret g) {x y : Int32} (hd : decode cc pc = .ok (.ior, 1))  (k : vx_V p l e R s m args below meth c Q g nL (pc + 1) L (.int (x ||| y) :: st) S) : vx_V p l e R s m args below meth c Q g nL pc L (.int y :: .int x :: st) S := fun ls H locs hl hP hS => lv_ior C.1 C.2.1 hd  (k ls H locs hl hP hS)
theorem vv_ixor (C : vx_C p s m args meth c own cc nL ret g) {x y : Int32} (hd : decode cc pc = .ok (.ixor, 1))  (k : vx_V p l e R s m args below meth c Q g nL (pc + 1) L (.int (x ^^^ y) :: st) S) : vx_V p l e R s m args below meth c Q g nL pc L (.int y :: .int x :: st) S := fun ls H locs hl hP hS => lv_ixor C.1 C.2.1 hd  (k ls H locs hl hP hS)
theorem vv_ishl (C : vx_C p s m args meth c own cc nL ret g) {x y : Int32} (hd : decode cc pc = .ok (.ishl, 1))  (k : vx_V p l e R s m args below meth c Q g nL (pc + 1) L (.int (x <<< (y &&& 31)) :: st) S) : vx_V p l e R s m args below meth c Q g nL pc L (.int y :: .int x :: st) S := fun ls H locs hl hP hS => lv_ishl C.1 C.2.1 hd  (k ls H locs hl hP hS)
theorem vv_ishr (C : vx_C p s m args meth c own cc nL ret g) {x y : Int32} (hd : decode cc pc = .ok (.ishr, 1))  (k : vx_V p l e R s m args below meth c Q g nL (pc + 1) L (.int (x >>> (y &&& 31)) :: st) S) : vx_V p l e R s m args below meth c Q g nL pc L (.int y :: .int x :: st) S := fun ls H locs hl hP hS => lv_ishr C.1 C.2.1 hd  (k ls H locs hl hP hS)
theorem vv_ladd (C : vx_C p s m args meth c own cc nL ret g) {x y : Int64} (hd : decode cc pc = .ok (.ladd, 1))  (k : vx_V p l e R s m args below meth c Q g nL (pc + 1) L (.long (x + y) :: st) S) : vx_V p l e R s m args below meth c Q g nL pc L (.long y :: .long x :: st) S := fun ls H locs hl hP hS => lv_ladd C.1 C.2.1 hd  (k ls H locs hl hP hS)
theorem vv_lmul (C : vx_C p s m args meth c own cc nL ret g) {x y : Int64} (hd : decode cc pc = .ok (.lmul, 1))  (k : vx_V p l e R s m args below meth c Q g nL (pc + 1) L (.long (x * y) :: st) S) : vx_V p l e R s m args below meth c Q g nL pc L (.long y :: .long x :: st) S := fun ls H locs hl hP hS => lv_lmul C.1 C.2.1 hd  (k ls H locs hl hP hS)
theorem vv_land (C : vx_C p s m args meth c own cc nL ret g) {x y : Int64} (hd : decode cc pc = .ok (.land, 1))  (k : vx_V p l e R s m args below meth c Q g nL (pc + 1) L (.long (x &&& y) :: st) S) : vx_V p l e R s m args below meth c Q g nL pc L (.long y :: .long x :: st) S := fun ls H locs hl hP hS => lv_land C.1 C.2.1 hd  (k ls H locs hl hP hS)
theorem vv_lor (C : vx_C p s m args meth c own cc nL ret g) {x y : Int64} (hd : decode cc pc = .ok (.lor, 1))  (k : vx_V p l e R s m args below meth c Q g nL (pc + 1) L (.long (x ||| y) :: st) S) : vx_V p l e R s m args below meth c Q g nL pc L (.long y :: .long x :: st) S := fun ls H locs hl hP hS => lv_lor C.1 C.2.1 hd  (k ls H locs hl hP hS)
theorem vv_idiv (C : vx_C p s m args meth c own cc nL ret g) {x y : Int32} (hd : decode cc pc = .ok (.idiv, 1)) (hne : ¬ y = 0) (k : vx_V p l e R s m args below meth c Q g nL (pc + 1) L (.int (x / y) :: st) S) : vx_V p l e R s m args below meth c Q g nL pc L (.int y :: .int x :: st) S := fun ls H locs hl hP hS => lv_idiv C.1 C.2.1 hd hne (k ls H locs hl hP hS)
theorem vv_irem (C : vx_C p s m args meth c own cc nL ret g) {x y : Int32} (hd : decode cc pc = .ok (.irem, 1)) (hne : ¬ y = 0) (k : vx_V p l e R s m args below meth c Q g nL (pc + 1) L (.int (x - x / y * y) :: st) S) : vx_V p l e R s m args below meth c Q g nL pc L (.int y :: .int x :: st) S := fun ls H locs hl hP hS => lv_irem C.1 C.2.1 hd hne (k ls H locs hl hP hS)
theorem vv_ldiv (C : vx_C p s m args meth c own cc nL ret g) {x y : Int64} (hd : decode cc pc = .ok (.ldiv, 1)) (hne : ¬ y = 0) (k : vx_V p l e R s m args below meth c Q g nL (pc + 1) L (.long (x / y) :: st) S) : vx_V p l e R s m args below meth c Q g nL pc L (.long y :: .long x :: st) S := fun ls H locs hl hP hS => lv_ldiv C.1 C.2.1 hd hne (k ls H locs hl hP hS)
theorem vv_lrem (C : vx_C p s m args meth c own cc nL ret g) {x y : Int64} (hd : decode cc pc = .ok (.lrem, 1)) (hne : ¬ y = 0) (k : vx_V p l e R s m args below meth c Q g nL (pc + 1) L (.long (x - x / y * y) :: st) S) : vx_V p l e R s m args below meth c Q g nL pc L (.long y :: .long x :: st) S := fun ls H locs hl hP hS => lv_lrem C.1 C.2.1 hd hne (k ls H locs hl hP hS)
theorem vv_iushr (C : vx_C p s m args meth c own cc nL ret g) {x y : Int32} (hd : decode cc pc = .ok (.iushr, 1))  (k : vx_V p l e R s m args below meth c Q g nL (pc + 1) L (.int ((x.toUInt32 >>> (y.toUInt32 &&& Int32.toUInt32 31)).toInt32) :: st) S) : vx_V p l e R s m args below meth c Q g nL pc L (.int y :: .int x :: st) S := fun ls H locs hl hP hS => lv_iushr C.1 C.2.1 hd rfl (k ls H locs hl hP hS)
theorem vv_lushr (C : vx_C p s m args meth c own cc nL ret g) {x : Int64} {y : Int32} (hd : decode cc pc = .ok (.lushr, 1))  (k : vx_V p l e R s m args below meth c Q g nL (pc + 1) L (.long ((x.toUInt64 >>> (y.toInt64.toUInt64 &&& Int64.toUInt64 63)).toInt64) :: st) S) : vx_V p l e R s m args below meth c Q g nL pc L (.int y :: .long x :: st) S := fun ls H locs hl hP hS => lv_lushr C.1 C.2.1 hd rfl (k ls H locs hl hP hS)
theorem vv_lshl (C : vx_C p s m args meth c own cc nL ret g) {x : Int64} {y : Int32} (hd : decode cc pc = .ok (.lshl, 1))  (k : vx_V p l e R s m args below meth c Q g nL (pc + 1) L (.long (x <<< (y.toInt64 &&& 63)) :: st) S) : vx_V p l e R s m args below meth c Q g nL pc L (.int y :: .long x :: st) S := fun ls H locs hl hP hS => lv_lshl C.1 C.2.1 hd rfl (k ls H locs hl hP hS)
theorem vv_lshr (C : vx_C p s m args meth c own cc nL ret g) {x : Int64} {y : Int32} (hd : decode cc pc = .ok (.lshr, 1))  (k : vx_V p l e R s m args below meth c Q g nL (pc + 1) L (.long (x >>> (y.toInt64 &&& 63)) :: st) S) : vx_V p l e R s m args below meth c Q g nL pc L (.int y :: .long x :: st) S := fun ls H locs hl hP hS => lv_lshr C.1 C.2.1 hd rfl (k ls H locs hl hP hS)
theorem vv_i2l (C : vx_C p s m args meth c own cc nL ret g) {x : Int32} (hd : decode cc pc = .ok (.i2l, 1))  (k : vx_V p l e R s m args below meth c Q g nL (pc + 1) L (.long x.toInt64 :: st) S) : vx_V p l e R s m args below meth c Q g nL pc L (.int x :: st) S := fun ls H locs hl hP hS => lv_i2l C.1 C.2.1 hd rfl (k ls H locs hl hP hS)
theorem vv_l2i (C : vx_C p s m args meth c own cc nL ret g) {x : Int64} (hd : decode cc pc = .ok (.l2i, 1))  (k : vx_V p l e R s m args below meth c Q g nL (pc + 1) L (.int x.toInt32 :: st) S) : vx_V p l e R s m args below meth c Q g nL pc L (.long x :: st) S := fun ls H locs hl hP hS => lv_l2i C.1 C.2.1 hd rfl (k ls H locs hl hP hS)
theorem vv_i2b (C : vx_C p s m args meth c own cc nL ret g) {x : Int32} (hd : decode cc pc = .ok (.i2b, 1))  (k : vx_V p l e R s m args below meth c Q g nL (pc + 1) L (.int x.toInt8.toInt32 :: st) S) : vx_V p l e R s m args below meth c Q g nL pc L (.int x :: st) S := fun ls H locs hl hP hS => lv_i2b C.1 C.2.1 hd rfl (k ls H locs hl hP hS)
theorem vv_i2c (C : vx_C p s m args meth c own cc nL ret g) {x : Int32} (hd : decode cc pc = .ok (.i2c, 1))  (k : vx_V p l e R s m args below meth c Q g nL (pc + 1) L (.int (x.toUInt32 % 65536).toInt32 :: st) S) : vx_V p l e R s m args below meth c Q g nL pc L (.int x :: st) S := fun ls H locs hl hP hS => lv_i2c C.1 C.2.1 hd rfl (k ls H locs hl hP hS)
theorem vv_dup (C : vx_C p s m args meth c own cc nL ret g) {v : Value} (hd : decode cc pc = .ok (.dup, 1)) (hv : v.category = 1) (k : vx_V p l e R s m args below meth c Q g nL (pc + 1) L (v :: v :: st) S) : vx_V p l e R s m args below meth c Q g nL pc L (v :: st) S := fun ls H locs hl hP hS => lv_dup C.1 C.2.1 hd hv (k ls H locs hl hP hS)
theorem vv_pop (C : vx_C p s m args meth c own cc nL ret g) {v : Value} (hd : decode cc pc = .ok (.pop, 1)) (hv : v.category = 1) (k : vx_V p l e R s m args below meth c Q g nL (pc + 1) L (st) S) : vx_V p l e R s m args below meth c Q g nL pc L (v :: st) S := fun ls H locs hl hP hS => lv_pop C.1 C.2.1 hd hv (k ls H locs hl hP hS)
theorem vv_dup2 (C : vx_C p s m args meth c own cc nL ret g) {v w : Value} (hd : decode cc pc = .ok (.dup2, 1)) (hv : v.category = 1) (hw : w.category = 1) (k : vx_V p l e R s m args below meth c Q g nL (pc + 1) L (v :: w :: v :: w :: st) S) : vx_V p l e R s m args below meth c Q g nL pc L (v :: w :: st) S := fun ls H locs hl hP hS => lv_dup2_11 C.1 C.2.1 hd hv hw (k ls H locs hl hP hS)
theorem vv_lcmp (C : vx_C p s m args meth c own cc nL ret g) {x y : Int64} (hd : decode cc pc = .ok (.lcmp, 1))  (k : vx_V p l e R s m args below meth c Q g nL (pc + 1) L (.int (lg_cmp x y) :: st) S) : vx_V p l e R s m args below meth c Q g nL pc L (.long y :: .long x :: st) S := fun ls H locs hl hP hS => W.lcmp C.1 C.2.1 hd  (k ls H locs hl hP hS)
theorem vv_goto (C : vx_C p s m args meth c own cc nL ret g) {off : Int} {tgt : Nat} (hd : decode cc pc = .ok (.goto off, 3)) (ht : (pc : Int) + off = (tgt : Int)) (k : vx_V p l e R s m args below meth c Q g nL tgt L st S) : vx_V p l e R s m args below meth c Q g nL pc L st S := fun ls H locs hl hP hS => lv_goto C.1 C.2.1 hd ht (k ls H locs hl hP hS)
theorem vv_if_eq (C : vx_C p s m args meth c own cc nL ret g) {x : Int32} {off : Int} {tgt : Nat} (hd : decode cc pc = .ok (.ifCond .eq off, 3)) (ht : (pc : Int) + off = (tgt : Int)) (kt : x = 0 → vx_V p l e R s m args below meth c Q g nL tgt L st S) (kf : ¬ x = 0 → vx_V p l e R s m args below meth c Q g nL (pc + 3) L st S) : vx_V p l e R s m args below meth c Q g nL pc L (.int x :: st) S := fun ls H locs hl hP hS => lv_if_eq C.1 C.2.1 hd ht (fun h => kt h ls H locs hl hP hS) (fun h => kf h ls H locs hl hP hS)
theorem vv_if_ne (C : vx_C p s m args meth c own cc nL ret g) {x : Int32} {off : Int} {tgt : Nat} (hd : decode cc pc = .ok (.ifCond .ne off, 3)) (ht : (pc : Int) + off = (tgt : Int)) (kt : ¬ x = 0 → vx_V p l e R s m args below meth c Q g nL tgt L st S) (kf : x = 0 → vx_V p l e R s m args below meth c Q g nL (pc + 3) L st S) : vx_V p l e R s m args below meth c Q g nL pc L (.int x :: st) S := fun ls H locs hl hP hS => lv_if_ne C.1 C.2.1 hd ht (fun h => kt h ls H locs hl hP hS) (fun h => kf h ls H locs hl hP hS)
theorem vv_if_lt (C : vx_C p s m args meth c own cc nL ret g) {x : Int32} {off : Int} {tgt : Nat} (hd : decode cc pc = .ok (.ifCond .lt off, 3)) (ht : (pc : Int) + off = (tgt : Int)) (kt : x < 0 → vx_V p l e R s m args below meth c Q g nL tgt L st S) (kf : ¬ x < 0 → vx_V p l e R s m args below meth c Q g nL (pc + 3) L st S) : vx_V p l e R s m args below meth c Q g nL pc L (.int x :: st) S := fun ls H locs hl hP hS => lv_if_lt C.1 C.2.1 hd ht (fun h => kt h ls H locs hl hP hS) (fun h => kf h ls H locs hl hP hS)
theorem vv_if_ge (C : vx_C p s m args meth c own cc nL ret g) {x : Int32} {off : Int} {tgt : Nat} (hd : decode cc pc = .ok (.ifCond .ge off, 3)) (ht : (pc : Int) + off = (tgt : Int)) (kt : 0 ≤ x → vx_V p l e R s m args below meth c Q g nL tgt L st S) (kf : ¬ 0 ≤ x → vx_V p l e R s m args below meth c Q g nL (pc + 3) L st S) : vx_V p l e R s m args below meth c Q g nL pc L (.int x :: st) S := fun ls H locs hl hP hS => lv_if_ge C.1 C.2.1 hd ht (fun h => kt h ls H locs hl hP hS) (fun h => kf h ls H locs hl hP hS)
theorem vv_if_gt (C : vx_C p s m args meth c own cc nL ret g) {x : Int32} {off : Int} {tgt : Nat} (hd : decode cc pc = .ok (.ifCond .gt off, 3)) (ht : (pc : Int) + off = (tgt : Int)) (kt : 0 < x → vx_V p l e R s m args below meth c Q g nL tgt L st S) (kf : ¬ 0 < x → vx_V p l e R s m args below meth c Q g nL (pc + 3) L st S) : vx_V p l e R s m args below meth c Q g nL pc L (.int x :: st) S := fun ls H locs hl hP hS => lv_if_gt C.1 C.2.1 hd ht (fun h => kt h ls H locs hl hP hS) (fun h => kf h ls H locs hl hP hS)
theorem vv_if_le (C : vx_C p s m args meth c own cc nL ret g) {x : Int32} {off : Int} {tgt : Nat} (hd : decode cc pc = .ok (.ifCond .le off, 3)) (ht : (pc : Int) + off = (tgt : Int)) (kt : x ≤ 0 → vx_V p l e R s m args below meth c Q g nL tgt L st S) (kf : ¬ x ≤ 0 → vx_V p l e R s m args below meth c Q g nL (pc + 3) L st S) : vx_V p l e R s m args below meth c Q g nL pc L (.int x :: st) S := fun ls H locs hl hP hS => lv_if_le C.1 C.2.1 hd ht (fun h => kt h ls H locs hl hP hS) (fun h => kf h ls H locs hl hP hS)
theorem vv_icmp_eq (C : vx_C p s m args meth c own cc nL ret g) {x y : Int32} {off : Int} {tgt : Nat} (hd : decode cc pc = .ok (.if_icmp .eq off, 3)) (ht : (pc : Int) + off = (tgt : Int)) (kt : x = y → vx_V p l e R s m args below meth c Q g nL tgt L st S) (kf : ¬ x = y → vx_V p l e R s m args below meth c Q g nL (pc + 3) L st S) : vx_V p l e R s m args below meth c Q g nL pc L (.int y :: .int x :: st) S := fun ls H locs hl hP hS => lv_icmp_eq C.1 C.2.1 hd ht (fun h => kt h ls H locs hl hP hS) (fun h => kf h ls H locs hl hP hS)
theorem vv_icmp_ne (C : vx_C p s m args meth c own cc nL ret g) {x y : Int32} {off : Int} {tgt : Nat} (hd : decode cc pc = .ok (.if_icmp .ne off, 3)) (ht : (pc : Int) + off = (tgt : Int)) (kt : ¬ x = y → vx_V p l e R s m args below meth c Q g nL tgt L st S) (kf : x = y → vx_V p l e R s m args below meth c Q g nL (pc + 3) L st S) : vx_V p l e R s m args below meth c Q g nL pc L (.int y :: .int x :: st) S := fun ls H locs hl hP hS => lv_icmp_ne C.1 C.2.1 hd ht (fun h => kt h ls H locs hl hP hS) (fun h => kf h ls H locs hl hP hS)
theorem vv_icmp_lt (C : vx_C p s m args meth c own cc nL ret g) {x y : Int32} {off : Int} {tgt : Nat} (hd : decode cc pc = .ok (.if_icmp .lt off, 3)) (ht : (pc : Int) + off = (tgt : Int)) (kt : x < y → vx_V p l e R s m args below meth c Q g nL tgt L st S) (kf : ¬ x < y → vx_V p l e R s m args below meth c Q g nL (pc + 3) L st S) : vx_V p l e R s m args below meth c Q g nL pc L (.int y :: .int x :: st) S := fun ls H locs hl hP hS => lv_icmp_lt C.1 C.2.1 hd ht (fun h => kt h ls H locs hl hP hS) (fun h => kf h ls H locs hl hP hS)
theorem vv_icmp_ge (C : vx_C p s m args meth c own cc nL ret g) {x y : Int32} {off : Int} {tgt : Nat} (hd : decode cc pc = .ok (.if_icmp .ge off, 3)) (ht : (pc : Int) + off = (tgt : Int)) (kt : y ≤ x → vx_V p l e R s m args below meth c Q g nL tgt L st S) (kf : ¬ y ≤ x → vx_V p l e R s m args below meth c Q g nL (pc + 3) L st S) : vx_V p l e R s m args below meth c Q g nL pc L (.int y :: .int x :: st) S := fun ls H locs hl hP hS => lv_icmp_ge C.1 C.2.1 hd ht (fun h => kt h ls H locs hl hP hS) (fun h => kf h ls H locs hl hP hS)
theorem vv_icmp_gt (C : vx_C p s m args meth c own cc nL ret g) {x y : Int32} {off : Int} {tgt : Nat} (hd : decode cc pc = .ok (.if_icmp .gt off, 3)) (ht : (pc : Int) + off = (tgt : Int)) (kt : y < x → vx_V p l e R s m args below meth c Q g nL tgt L st S) (kf : ¬ y < x → vx_V p l e R s m args below meth c Q g nL (pc + 3) L st S) : vx_V p l e R s m args below meth c Q g nL pc L (.int y :: .int x :: st) S := fun ls H locs hl hP hS => lv_icmp_gt C.1 C.2.1 hd ht (fun h => kt h ls H locs hl hP hS) (fun h => kf h ls H locs hl hP hS)
theorem vv_icmp_le (C : vx_C p s m args meth c own cc nL ret g) {x y : Int32} {off : Int} {tgt : Nat} (hd : decode cc pc = .ok (.if_icmp .le off, 3)) (ht : (pc : Int) + off = (tgt : Int)) (kt : x ≤ y → vx_V p l e R s m args below meth c Q g nL tgt L st S) (kf : ¬ x ≤ y → vx_V p l e R s m args below meth c Q g nL (pc + 3) L st S) : vx_V p l e R s m args below meth c Q g nL pc L (.int y :: .int x :: st) S := fun ls H locs hl hP hS => lv_icmp_le C.1 C.2.1 hd ht (fun h => kt h ls H locs hl hP hS) (fun h => kf h ls H locs hl hP hS)
theorem vv_tableOut (C : vx_C p s m args meth c own cc nL ret g) {dflt lo hi : Int} {offs : Array Int} {len : Nat} {x : Int32} {tgt : Nat} (hd : decode cc pc = .ok (.tableswitch dflt lo hi offs, len)) (h : x.toInt < lo ∨ hi < x.toInt) (ht : (pc : Int) + dflt = (tgt : Int)) (k : vx_V p l e R s m args below meth c Q g nL tgt L st S) : vx_V p l e R s m args below meth c Q g nL pc L (.int x :: st) S := fun ls H locs hl hP hS => lv_tableOut C.1 C.2.1 hd h ht (k ls H locs hl hP hS)
theorem vv_tableIn (C : vx_C p s m args meth c own cc nL ret g) {dflt lo hi : Int} {offs : Array Int} {len : Nat} {x : Int32} {off : Int} {tgt : Nat} (hd : decode cc pc = .ok (.tableswitch dflt lo hi offs, len)) (h1 : ¬ x.toInt < lo) (h2 : ¬ hi < x.toInt) (ho : offs[(x.toInt - lo).toNat]? = some off) (ht : (pc : Int) + off = (tgt : Int)) (k : vx_V p l e R s m args below meth c Q g nL tgt L st S) : vx_V p l e R s m args below meth c Q g nL pc L (.int x :: st) S := fun ls H locs hl hP hS => lv_tableIn C.1 C.2.1 hd h1 h2 ho ht (k ls H locs hl hP hS)
theorem vv_ldc (C : vx_C p s m args meth c own cc nL ret g) {index : Nat} {v : Int32} (hc : Jvm.Cond.constant own index v ∈ wsL_law) (hd : decode cc pc = .ok (.ldc index, 2)) (k : vx_V p l e R s m args below meth c Q g nL (pc + 2) L (.int v :: st) S) : vx_V p l e R s m args below meth c Q g nL pc L st S := fun ls H locs hl hP hS => lv_ldc C.1 C.2.1 C.2.2.2.1 (C.2.2.2.2.1 _ hc) hd (k ls H locs hl hP hS)
theorem vv_ldc2 (C : vx_C p s m args meth c own cc nL ret g) {index : Nat} {v : Int64} (hc : Jvm.Cond.constantLong own index v ∈ wsL_law) (hd : decode cc pc = .ok (.ldc2_w index, 3)) (k : vx_V p l e R s m args below meth c Q g nL (pc + 3) L (.long v :: st) S) : vx_V p l e R s m args below meth c Q g nL pc L st S := fun ls H locs hl hP hS => lv_ldc2 C.1 C.2.1 C.2.2.2.1 (C.2.2.2.2.1 _ hc) hd (k ls H locs hl hP hS)
theorem vv_sub (ks : List Nat) (hl : lv_pick L ks = L') (k : vx_V p l e R s m args below meth c Q g nL pc L' st S) : vx_V p l e R s m args below meth c Q g nL pc L st S := fun ls H locs h hP hS => k ls H locs (lv_sub h ks hl) hP hS
theorem vv_getI (C : vx_C p s m args meth c own cc nL ret g) {a k ci o index : Nat} {fs : List (Nat ⊕ Nat)} {Cn : String} {T : u_T} {N : Nat} (hin : ∀ w ∈ u_ws Cn T N, w ∈ wsL_law) (hsh : vx_SH[a]? = some (.inr (ci, fs))) (hk : fs[k]? = some (.inl 0)) (hcl : vx_Cl[ci]? = some (Cn, T, N)) (hkN : k < N) (hT : (T k).1 = Cn) (hlink : Cond.fieldLink own index Cn (T k).2.1 (T k).2.2.1 ∈ wsL_law) (hd : decode cc pc = .ok (.getfield index, 3)) (kk : vx_V p l e R s m args below meth c Q g nL (pc + 3) L (.int (S.1 a k) :: st) S) : vx_V p l e R s m args below meth c Q g nL pc L (.ref (g.2.2.1 a) :: st) S := fun ls H locs hl hP hS => va_get (D := g.1) (cl := vx_Cl) C.1 C.2.1 C.2.2.2.2.1 hin C.2.2.2.1 C.2.2.2.2.2.2.2.1.1 hP a (vx_w_at hsh) hcl k hkN (C.2.2.2.2.1 _ hlink) (fun x h => by rw [← hT]; exact h) (by simp only [List.getElem?_mapIdx, hk, Option.map_some, vx_f]) hd (kk ls H locs hl hP hS)
theorem vv_getZ (C : vx_C p s m args meth c own cc nL ret g) {a k ci o index : Nat} {fs : List (Nat ⊕ Nat)} {Cn : String} {T : u_T} {N : Nat} (hin : ∀ w ∈ u_ws Cn T N, w ∈ wsL_law) (hsh : vx_SH[a]? = some (.inr (ci, fs))) (hk : fs[k]? = some (.inl 1)) (hcl : vx_Cl[ci]? = some (Cn, T, N)) (hkN : k < N) (hT : (T k).1 = Cn) (hlink : Cond.fieldLink own index Cn (T k).2.1 (T k).2.2.1 ∈ wsL_law) (hd : decode cc pc = .ok (.getfield index, 3)) (kk : vx_V p l e R s m args below meth c Q g nL (pc + 3) L (.int (vx_b01 (S.1 a k)) :: st) S) : vx_V p l e R s m args below meth c Q g nL pc L (.ref (g.2.2.1 a) :: st) S := fun ls H locs hl hP hS => va_get (D := g.1) (cl := vx_Cl) C.1 C.2.1 C.2.2.2.2.1 hin C.2.2.2.1 C.2.2.2.2.2.2.2.1.1 hP a (vx_w_at hsh) hcl k hkN (C.2.2.2.2.1 _ hlink) (fun x h => by rw [← hT]; exact h) (by simp only [List.getElem?_mapIdx, hk, Option.map_some, vx_f]) hd (kk ls H locs hl hP hS)
theorem vv_getL (C : vx_C p s m args meth c own cc nL ret g) {a k ci o index : Nat} {fs : List (Nat ⊕ Nat)} {Cn : String} {T : u_T} {N : Nat} (hin : ∀ w ∈ u_ws Cn T N, w ∈ wsL_law) (hsh : vx_SH[a]? = some (.inr (ci, fs))) (hk : fs[k]? = some (.inl 2)) (hcl : vx_Cl[ci]? = some (Cn, T, N)) (hkN : k < N) (hT : (T k).1 = Cn) (hlink : Cond.fieldLink own index Cn (T k).2.1 (T k).2.2.1 ∈ wsL_law) (hd : decode cc pc = .ok (.getfield index, 3)) (kk : vx_V p l e R s m args below meth c Q g nL (pc + 3) L (.long (S.2 a k) :: st) S) : vx_V p l e R s m args below meth c Q g nL pc L (.ref (g.2.2.1 a) :: st) S := fun ls H locs hl hP hS => va_get (D := g.1) (cl := vx_Cl) C.1 C.2.1 C.2.2.2.2.1 hin C.2.2.2.1 C.2.2.2.2.2.2.2.1.1 hP a (vx_w_at hsh) hcl k hkN (C.2.2.2.2.1 _ hlink) (fun x h => by rw [← hT]; exact h) (by simp only [List.getElem?_mapIdx, hk, Option.map_some, vx_f]) hd (kk ls H locs hl hP hS)
theorem vv_getR (C : vx_C p s m args meth c own cc nL ret g) {a k ci o index : Nat} {fs : List (Nat ⊕ Nat)} {Cn : String} {T : u_T} {N : Nat} (hin : ∀ w ∈ u_ws Cn T N, w ∈ wsL_law) (hsh : vx_SH[a]? = some (.inr (ci, fs))) (hk : fs[k]? = some (.inr o)) (hcl : vx_Cl[ci]? = some (Cn, T, N)) (hkN : k < N) (hT : (T k).1 = Cn) (hlink : Cond.fieldLink own index Cn (T k).2.1 (T k).2.2.1 ∈ wsL_law) (hd : decode cc pc = .ok (.getfield index, 3)) (kk : vx_V p l e R s m args below meth c Q g nL (pc + 3) L (.ref (g.2.2.1 (a + o)) :: st) S) : vx_V p l e R s m args below meth c Q g nL pc L (.ref (g.2.2.1 a) :: st) S := fun ls H locs hl hP hS => va_get (D := g.1) (cl := vx_Cl) C.1 C.2.1 C.2.2.2.2.1 hin C.2.2.2.1 C.2.2.2.2.2.2.2.1.1 hP a (vx_w_at hsh) hcl k hkN (C.2.2.2.2.1 _ hlink) (fun x h => by rw [← hT]; exact h) (by simp only [List.getElem?_mapIdx, hk, Option.map_some, vx_f]) hd (kk ls H locs hl hP hS)
theorem vv_putI (C : vx_C p s m args meth c own cc nL ret g) {a k ci index : Nat} {fs : List (Nat ⊕ Nat)} {Cn : String} {T : u_T} {N : Nat} {x : Int32} (hin : ∀ w ∈ u_ws Cn T N, w ∈ wsL_law) (ty0 : Nat → FieldType) (hty : ∀ k, k < N → parseFieldDescriptor (T k).2.2.1 = some (ty0 k)) (hnm : ∀ a, a < N → ∀ b, b < N → a ≠ b → (T a).2.1 ≠ (T b).2.1) (hsh : vx_SH[a]? = some (.inr (ci, fs))) (hk : fs[k]? = some (.inl 0)) (hcl : vx_Cl[ci]? = some (Cn, T, N)) (hkN : k < N) (hT : (T k).1 = Cn) (hfin : (T k).2.2.2 = false) (hty1 : ty0 k = .int)  (hlink : Cond.fieldLink own index Cn (T k).2.1 (T k).2.2.1 ∈ wsL_law) (hd : decode cc pc = .ok (.putfield index, 3)) (kk : vx_V p l e R s m args below meth c Q g nL (pc + 3) L st (vx_u S a k x)) : vx_V p l e R s m args below meth c Q g nL pc L (.int x :: .ref (g.2.2.1 a) :: st) S := fun ls H locs hl hP hS => va_put (D := g.1) (cl := vx_Cl) (A := vx_A g) (ty := .int) C.1 C.2.1 C.2.2.2.2.1 hin ty0 hty hnm C.2.2.2.1 C.2.2.2.2.2.2.2.1.1 hP (vx_w_D S C.2.2.2.2.2.2.2.1.2.2.1) hS a (vx_w_at hsh) hcl k hkN (C.2.2.2.2.1 _ hlink) (fun x h => by rw [← hT]; exact h) hfin (by rw [← hty1]; exact hty k hkN) rfl rfl (by rw [List.length_mapIdx]; exact (List.getElem?_eq_some_iff.mp hk).1) hd (fun H1 locs1 hP1 _ hS1 => kk ls H1 locs1 hl (by rw [← vx_w_set (g := g) (S := S) (S' := vx_u S a k x) hsh (vx_fs_set (v := .int x) hk (by simp only [vx_f])) (fun i hi => vx_u_ne S k x hi) (fun i hi => rfl)]; exact hP1) hS1)
theorem vv_putZ (C : vx_C p s m args meth c own cc nL ret g) {a k ci index : Nat} {fs : List (Nat ⊕ Nat)} {Cn : String} {T : u_T} {N : Nat} {x : Int32} (hin : ∀ w ∈ u_ws Cn T N, w ∈ wsL_law) (ty0 : Nat → FieldType) (hty : ∀ k, k < N → parseFieldDescriptor (T k).2.2.1 = some (ty0 k)) (hnm : ∀ a, a < N → ∀ b, b < N → a ≠ b → (T a).2.1 ≠ (T b).2.1) (hsh : vx_SH[a]? = some (.inr (ci, fs))) (hk : fs[k]? = some (.inl 1)) (hcl : vx_Cl[ci]? = some (Cn, T, N)) (hkN : k < N) (hT : (T k).1 = Cn) (hfin : (T k).2.2.2 = false) (hty1 : ty0 k = .boolean) (hx : vx_b01 x = x) (hlink : Cond.fieldLink own index Cn (T k).2.1 (T k).2.2.1 ∈ wsL_law) (hd : decode cc pc = .ok (.putfield index, 3)) (kk : vx_V p l e R s m args below meth c Q g nL (pc + 3) L st (vx_u S a k x)) : vx_V p l e R s m args below meth c Q g nL pc L (.int x :: .ref (g.2.2.1 a) :: st) S := fun ls H locs hl hP hS => va_put (D := g.1) (cl := vx_Cl) (A := vx_A g) (ty := .boolean) C.1 C.2.1 C.2.2.2.2.1 hin ty0 hty hnm C.2.2.2.1 C.2.2.2.2.2.2.2.1.1 hP (vx_w_D S C.2.2.2.2.2.2.2.1.2.2.1) hS a (vx_w_at hsh) hcl k hkN (C.2.2.2.2.1 _ hlink) (fun x h => by rw [← hT]; exact h) hfin (by rw [← hty1]; exact hty k hkN) (vx_nb2 hx) (vx_fb2 hx) (by rw [List.length_mapIdx]; exact (List.getElem?_eq_some_iff.mp hk).1) hd (fun H1 locs1 hP1 _ hS1 => kk ls H1 locs1 hl (by rw [← vx_w_set (g := g) (S := S) (S' := vx_u S a k x) hsh (vx_fs_set (v := .int x) hk (by simp only [vx_f, hx])) (fun i hi => vx_u_ne S k x hi) (fun i hi => rfl)]; exact hP1) hS1)
theorem vv_putL (C : vx_C p s m args meth c own cc nL ret g) {a k ci index : Nat} {fs : List (Nat ⊕ Nat)} {Cn : String} {T : u_T} {N : Nat} {x : Int64} (hin : ∀ w ∈ u_ws Cn T N, w ∈ wsL_law) (ty0 : Nat → FieldType) (hty : ∀ k, k < N → parseFieldDescriptor (T k).2.2.1 = some (ty0 k)) (hnm : ∀ a, a < N → ∀ b, b < N → a ≠ b → (T a).2.1 ≠ (T b).2.1) (hsh : vx_SH[a]? = some (.inr (ci, fs))) (hk : fs[k]? = some (.inl 2)) (hcl : vx_Cl[ci]? = some (Cn, T, N)) (hkN : k < N) (hT : (T k).1 = Cn) (hfin : (T k).2.2.2 = false) (hty1 : ty0 k = .long)  (hlink : Cond.fieldLink own index Cn (T k).2.1 (T k).2.2.1 ∈ wsL_law) (hd : decode cc pc = .ok (.putfield index, 3)) (kk : vx_V p l e R s m args below meth c Q g nL (pc + 3) L st (vx_uL S a k x)) : vx_V p l e R s m args below meth c Q g nL pc L (.long x :: .ref (g.2.2.1 a) :: st) S := fun ls H locs hl hP hS => va_put (D := g.1) (cl := vx_Cl) (A := vx_A g) (ty := .long) C.1 C.2.1 C.2.2.2.2.1 hin ty0 hty hnm C.2.2.2.1 C.2.2.2.2.2.2.2.1.1 hP (vx_w_D S C.2.2.2.2.2.2.2.1.2.2.1) hS a (vx_w_at hsh) hcl k hkN (C.2.2.2.2.1 _ hlink) (fun x h => by rw [← hT]; exact h) hfin (by rw [← hty1]; exact hty k hkN) rfl rfl (by rw [List.length_mapIdx]; exact (List.getElem?_eq_some_iff.mp hk).1) hd (fun H1 locs1 hP1 _ hS1 => kk ls H1 locs1 hl (by rw [← vx_w_set (g := g) (S := S) (S' := vx_uL S a k x) hsh (vx_fs_setL (v := .long x) hk (by simp only [vx_f])) (fun i hi => rfl) (fun i hi => vx_uL_ne S k x hi)]; exact hP1) hS1)
theorem vv_getIN (C : vx_C p s m args meth c own cc nL ret g) {host : String} {a k ci o index : Nat} {fs : List (Nat ⊕ Nat)} {Cn : String} {T : u_T} {N : Nat} (hin : ∀ w ∈ u_ws Cn T N, w ∈ wsL_law) (hsh : vx_SH[a]? = some (.inr (ci, fs))) (hk : fs[k]? = some (.inl 0)) (hcl : vx_Cl[ci]? = some (Cn, T, N)) (hkN : k < N) (hT : (T k).1 = Cn) (hlink : Cond.fieldLinkNest own index Cn (T k).2.1 (T k).2.2.1 host ∈ vx_nest) (hd : decode cc pc = .ok (.getfield index, 3)) (kk : vx_V p l e R s m args below meth c Q g nL (pc + 3) L (.int (S.1 a k) :: st) S) : vx_V p l e R s m args below meth c Q g nL pc L (.ref (g.2.2.1 a) :: st) S := fun ls H locs hl hP hS => va_getN (D := g.1) (cl := vx_Cl) C.1 C.2.1 C.2.2.2.2.1 hin C.2.2.2.1 C.2.2.2.2.2.2.2.1.1 hP a (vx_w_at hsh) hcl k hkN (va_Nw.use rfl (C.2.2.2.2.2.2.2.1.2.1 _ hlink)) (fun x h => by rw [← hT]; exact h) (by simp only [List.getElem?_mapIdx, hk, Option.map_some, vx_f]) hd (kk ls H locs hl hP hS)
theorem vv_getZN (C : vx_C p s m args meth c own cc nL ret g) {host : String} {a k ci o index : Nat} {fs : List (Nat ⊕ Nat)} {Cn : String} {T : u_T} {N : Nat} (hin : ∀ w ∈ u_ws Cn T N, w ∈ wsL_law) (hsh : vx_SH[a]? = some (.inr (ci, fs))) (hk : fs[k]? = some (.inl 1)) (hcl : vx_Cl[ci]? = some (Cn, T, N)) (hkN : k < N) (hT : (T k).1 = Cn) (hlink : Cond.fieldLinkNest own index Cn (T k).2.1 (T k).2.2.1 host ∈ vx_nest) (hd : decode cc pc = .ok (.getfield index, 3)) (kk : vx_V p l e R s m args below meth c Q g nL (pc + 3) L (.int (vx_b01 (S.1 a k)) :: st) S) : vx_V p l e R s m args below meth c Q g nL pc L (.ref (g.2.2.1 a) :: st) S := fun ls H locs hl hP hS => va_getN (D := g.1) (cl := vx_Cl) C.1 C.2.1 C.2.2.2.2.1 hin C.2.2.2.1 C.2.2.2.2.2.2.2.1.1 hP a (vx_w_at hsh) hcl k hkN (va_Nw.use rfl (C.2.2.2.2.2.2.2.1.2.1 _ hlink)) (fun x h => by rw [← hT]; exact h) (by simp only [List.getElem?_mapIdx, hk, Option.map_some, vx_f]) hd (kk ls H locs hl hP hS)
theorem vv_getLN (C : vx_C p s m args meth c own cc nL ret g) {host : String} {a k ci o index : Nat} {fs : List (Nat ⊕ Nat)} {Cn : String} {T : u_T} {N : Nat} (hin : ∀ w ∈ u_ws Cn T N, w ∈ wsL_law) (hsh : vx_SH[a]? = some (.inr (ci, fs))) (hk : fs[k]? = some (.inl 2)) (hcl : vx_Cl[ci]? = some (Cn, T, N)) (hkN : k < N) (hT : (T k).1 = Cn) (hlink : Cond.fieldLinkNest own index Cn (T k).2.1 (T k).2.2.1 host ∈ vx_nest) (hd : decode cc pc = .ok (.getfield index, 3)) (kk : vx_V p l e R s m args below meth c Q g nL (pc + 3) L (.long (S.2 a k) :: st) S) : vx_V p l e R s m args below meth c Q g nL pc L (.ref (g.2.2.1 a) :: st) S := fun ls H locs hl hP hS => va_getN (D := g.1) (cl := vx_Cl) C.1 C.2.1 C.2.2.2.2.1 hin C.2.2.2.1 C.2.2.2.2.2.2.2.1.1 hP a (vx_w_at hsh) hcl k hkN (va_Nw.use rfl (C.2.2.2.2.2.2.2.1.2.1 _ hlink)) (fun x h => by rw [← hT]; exact h) (by simp only [List.getElem?_mapIdx, hk, Option.map_some, vx_f]) hd (kk ls H locs hl hP hS)
theorem vv_getRN (C : vx_C p s m args meth c own cc nL ret g) {host : String} {a k ci o index : Nat} {fs : List (Nat ⊕ Nat)} {Cn : String} {T : u_T} {N : Nat} (hin : ∀ w ∈ u_ws Cn T N, w ∈ wsL_law) (hsh : vx_SH[a]? = some (.inr (ci, fs))) (hk : fs[k]? = some (.inr o)) (hcl : vx_Cl[ci]? = some (Cn, T, N)) (hkN : k < N) (hT : (T k).1 = Cn) (hlink : Cond.fieldLinkNest own index Cn (T k).2.1 (T k).2.2.1 host ∈ vx_nest) (hd : decode cc pc = .ok (.getfield index, 3)) (kk : vx_V p l e R s m args below meth c Q g nL (pc + 3) L (.ref (g.2.2.1 (a + o)) :: st) S) : vx_V p l e R s m args below meth c Q g nL pc L (.ref (g.2.2.1 a) :: st) S := fun ls H locs hl hP hS => va_getN (D := g.1) (cl := vx_Cl) C.1 C.2.1 C.2.2.2.2.1 hin C.2.2.2.1 C.2.2.2.2.2.2.2.1.1 hP a (vx_w_at hsh) hcl k hkN (va_Nw.use rfl (C.2.2.2.2.2.2.2.1.2.1 _ hlink)) (fun x h => by rw [← hT]; exact h) (by simp only [List.getElem?_mapIdx, hk, Option.map_some, vx_f]) hd (kk ls H locs hl hP hS)
theorem vv_putIN (C : vx_C p s m args meth c own cc nL ret g) {host : String} {a k ci index : Nat} {fs : List (Nat ⊕ Nat)} {Cn : String} {T : u_T} {N : Nat} {x : Int32} (hin : ∀ w ∈ u_ws Cn T N, w ∈ wsL_law) (ty0 : Nat → FieldType) (hty : ∀ k, k < N → parseFieldDescriptor (T k).2.2.1 = some (ty0 k)) (hnm : ∀ a, a < N → ∀ b, b < N → a ≠ b → (T a).2.1 ≠ (T b).2.1) (hsh : vx_SH[a]? = some (.inr (ci, fs))) (hk : fs[k]? = some (.inl 0)) (hcl : vx_Cl[ci]? = some (Cn, T, N)) (hkN : k < N) (hT : (T k).1 = Cn) (hfin : (T k).2.2.2 = false) (hty1 : ty0 k = .int)  (hlink : Cond.fieldLinkNest own index Cn (T k).2.1 (T k).2.2.1 host ∈ vx_nest) (hd : decode cc pc = .ok (.putfield index, 3)) (kk : vx_V p l e R s m args below meth c Q g nL (pc + 3) L st (vx_u S a k x)) : vx_V p l e R s m args below meth c Q g nL pc L (.int x :: .ref (g.2.2.1 a) :: st) S := fun ls H locs hl hP hS => va_putN (D := g.1) (cl := vx_Cl) (A := vx_A g) (ty := .int) C.1 C.2.1 C.2.2.2.2.1 hin ty0 hty hnm C.2.2.2.1 C.2.2.2.2.2.2.2.1.1 hP (vx_w_D S C.2.2.2.2.2.2.2.1.2.2.1) hS a (vx_w_at hsh) hcl k hkN (va_Nw.use rfl (C.2.2.2.2.2.2.2.1.2.1 _ hlink)) (fun x h => by rw [← hT]; exact h) hfin (by rw [← hty1]; exact hty k hkN) rfl rfl (by rw [List.length_mapIdx]; exact (List.getElem?_eq_some_iff.mp hk).1) hd (fun H1 locs1 hP1 _ hS1 => kk ls H1 locs1 hl (by rw [← vx_w_set (g := g) (S := S) (S' := vx_u S a k x) hsh (vx_fs_set (v := .int x) hk (by simp only [vx_f])) (fun i hi => vx_u_ne S k x hi) (fun i hi => rfl)]; exact hP1) hS1)
theorem vv_putZN (C : vx_C p s m args meth c own cc nL ret g) {host : String} {a k ci index : Nat} {fs : List (Nat ⊕ Nat)} {Cn : String} {T : u_T} {N : Nat} {x : Int32} (hin : ∀ w ∈ u_ws Cn T N, w ∈ wsL_law) (ty0 : Nat → FieldType) (hty : ∀ k, k < N → parseFieldDescriptor (T k).2.2.1 = some (ty0 k)) (hnm : ∀ a, a < N → ∀ b, b < N → a ≠ b → (T a).2.1 ≠ (T b).2.1) (hsh : vx_SH[a]? = some (.inr (ci, fs))) (hk : fs[k]? = some (.inl 1)) (hcl : vx_Cl[ci]? = some (Cn, T, N)) (hkN : k < N) (hT : (T k).1 = Cn) (hfin : (T k).2.2.2 = false) (hty1 : ty0 k = .boolean) (hx : vx_b01 x = x) (hlink : Cond.fieldLinkNest own index Cn (T k).2.1 (T k).2.2.1 host ∈ vx_nest) (hd : decode cc pc = .ok (.putfield index, 3)) (kk : vx_V p l e R s m args below meth c Q g nL (pc + 3) L st (vx_u S a k x)) : vx_V p l e R s m args below meth c Q g nL pc L (.int x :: .ref (g.2.2.1 a) :: st) S := fun ls H locs hl hP hS => va_putN (D := g.1) (cl := vx_Cl) (A := vx_A g) (ty := .boolean) C.1 C.2.1 C.2.2.2.2.1 hin ty0 hty hnm C.2.2.2.1 C.2.2.2.2.2.2.2.1.1 hP (vx_w_D S C.2.2.2.2.2.2.2.1.2.2.1) hS a (vx_w_at hsh) hcl k hkN (va_Nw.use rfl (C.2.2.2.2.2.2.2.1.2.1 _ hlink)) (fun x h => by rw [← hT]; exact h) hfin (by rw [← hty1]; exact hty k hkN) (vx_nb2 hx) (vx_fb2 hx) (by rw [List.length_mapIdx]; exact (List.getElem?_eq_some_iff.mp hk).1) hd (fun H1 locs1 hP1 _ hS1 => kk ls H1 locs1 hl (by rw [← vx_w_set (g := g) (S := S) (S' := vx_u S a k x) hsh (vx_fs_set (v := .int x) hk (by simp only [vx_f, hx])) (fun i hi => vx_u_ne S k x hi) (fun i hi => rfl)]; exact hP1) hS1)
theorem vv_putLN (C : vx_C p s m args meth c own cc nL ret g) {host : String} {a k ci index : Nat} {fs : List (Nat ⊕ Nat)} {Cn : String} {T : u_T} {N : Nat} {x : Int64} (hin : ∀ w ∈ u_ws Cn T N, w ∈ wsL_law) (ty0 : Nat → FieldType) (hty : ∀ k, k < N → parseFieldDescriptor (T k).2.2.1 = some (ty0 k)) (hnm : ∀ a, a < N → ∀ b, b < N → a ≠ b → (T a).2.1 ≠ (T b).2.1) (hsh : vx_SH[a]? = some (.inr (ci, fs))) (hk : fs[k]? = some (.inl 2)) (hcl : vx_Cl[ci]? = some (Cn, T, N)) (hkN : k < N) (hT : (T k).1 = Cn) (hfin : (T k).2.2.2 = false) (hty1 : ty0 k = .long)  (hlink : Cond.fieldLinkNest own index Cn (T k).2.1 (T k).2.2.1 host ∈ vx_nest) (hd : decode cc pc = .ok (.putfield index, 3)) (kk : vx_V p l e R s m args below meth c Q g nL (pc + 3) L st (vx_uL S a k x)) : vx_V p l e R s m args below meth c Q g nL pc L (.long x :: .ref (g.2.2.1 a) :: st) S := fun ls H locs hl hP hS => va_putN (D := g.1) (cl := vx_Cl) (A := vx_A g) (ty := .long) C.1 C.2.1 C.2.2.2.2.1 hin ty0 hty hnm C.2.2.2.1 C.2.2.2.2.2.2.2.1.1 hP (vx_w_D S C.2.2.2.2.2.2.2.1.2.2.1) hS a (vx_w_at hsh) hcl k hkN (va_Nw.use rfl (C.2.2.2.2.2.2.2.1.2.1 _ hlink)) (fun x h => by rw [← hT]; exact h) hfin (by rw [← hty1]; exact hty k hkN) rfl rfl (by rw [List.length_mapIdx]; exact (List.getElem?_eq_some_iff.mp hk).1) hd (fun H1 locs1 hP1 _ hS1 => kk ls H1 locs1 hl (by rw [← vx_w_set (g := g) (S := S) (S' := vx_uL S a k x) hsh (vx_fs_setL (v := .long x) hk (by simp only [vx_f])) (fun i hi => rfl) (fun i hi => vx_uL_ne S k x hi)]; exact hP1) hS1)
theorem vv_iald (C : vx_C p s m args meth c own cc nL ret g) {a n : Nat} {i : Int32} (hsh : vx_SH[a]? = some (.inl (0, n))) (hi : vp_in i n) (hd : decode cc pc = .ok (.iaload, 1)) (kk : vx_V p l e R s m args below meth c Q g nL (pc + 1) L (.int (S.1 a i.toNatClampNeg) :: st) S) : vx_V p l e R s m args below meth c Q g nL pc L (.int i :: .ref (g.2.2.1 a) :: st) S := fun ls H locs hl hP hS => va_iald C.1 C.2.1 C.2.2.2.2.2.2.2.1.1 hP a 0 (vx_w_at hsh) rfl hi hd (kk ls H locs hl hP hS)
theorem vv_bald (C : vx_C p s m args meth c own cc nL ret g) {a n : Nat} {i : Int32} (hsh : vx_SH[a]? = some (.inl (1, n))) (hi : vp_in i n) (hd : decode cc pc = .ok (.baload, 1)) (kk : vx_V p l e R s m args below meth c Q g nL (pc + 1) L (.int (S.1 a i.toNatClampNeg) :: st) S) : vx_V p l e R s m args below meth c Q g nL pc L (.int i :: .ref (g.2.2.1 a) :: st) S := fun ls H locs hl hP hS => va_bald C.1 C.2.1 C.2.2.2.2.2.2.2.1.1 hP a 1 (vx_w_at hsh) rfl hi hd (kk ls H locs hl hP hS)
theorem vv_iast (C : vx_C p s m args meth c own cc nL ret g) {a n : Nat} {i x : Int32} (hsh : vx_SH[a]? = some (.inl (0, n))) (hi : vp_in i n) (hd : decode cc pc = .ok (.iastore, 1)) (kk : vx_V p l e R s m args below meth c Q g nL (pc + 1) L st (vx_u S a i.toNatClampNeg x)) : vx_V p l e R s m args below meth c Q g nL pc L (.int x :: .int i :: .ref (g.2.2.1 a) :: st) S := fun ls H locs hl hP hS => va_iast (A := vx_A g) C.1 C.2.1 C.2.2.2.2.2.2.2.1.1 hP (vx_w_D S C.2.2.2.2.2.2.2.1.2.2.1) hS a 0 (vx_w_at hsh) rfl hi hd (fun H1 locs1 hP1 _ hS1 => kk ls H1 locs1 hl (by rw [← vx_w_set (g := g) (S := S) (S' := vx_u S a i.toNatClampNeg x) (e := .inl (g.2.1.1, n, .inl (upd (S.1 a) i.toNatClampNeg x))) hsh (by simp only [vx_c, vx_u_row]) (fun j hj => vx_u_ne S _ x hj) (fun _ _ => rfl)]; exact hP1) hS1)
theorem vv_bast (C : vx_C p s m args meth c own cc nL ret g) {a n : Nat} {i x : Int32} (hsh : vx_SH[a]? = some (.inl (1, n))) (hi : vp_in i n) (hd : decode cc pc = .ok (.bastore, 1)) (kk : vx_V p l e R s m args below meth c Q g nL (pc + 1) L st (vx_u S a i.toNatClampNeg (vp_nar .byte x))) : vx_V p l e R s m args below meth c Q g nL pc L (.int x :: .int i :: .ref (g.2.2.1 a) :: st) S := fun ls H locs hl hP hS => va_bast (A := vx_A g) C.1 C.2.1 C.2.2.2.2.2.2.2.1.1 hP (vx_w_D S C.2.2.2.2.2.2.2.1.2.2.1) hS a 1 (vx_w_at hsh) rfl hi hd (fun H1 locs1 hP1 _ hS1 => kk ls H1 locs1 hl (by rw [← vx_w_set (g := g) (S := S) (S' := vx_u S a i.toNatClampNeg (vp_nar .byte x)) (e := .inl (g.2.1.2, n, .inl (upd (S.1 a) i.toNatClampNeg (vp_nar .byte x)))) hsh (by simp only [vx_c, vx_u_row]) (fun j hj => vx_u_ne S _ _ hj) (fun _ _ => rfl)]; exact hP1) hS1)
theorem vv_copy (C : vx_C p s m args meth c own cc nL ret g) {a b : Nat} {index : Nat} (hm : (Cond.methodLink own index arraycopyName) ∈ wsL_law) (h1 : (Cond.native arraycopyName) ∈ wsL_law) (h2 : (Cond.static arraycopyName) ∈ wsL_law) (h3 : (Cond.initialized "java/lang/System") ∈ wsL_law) (ha : vx_SH[a]? = some vx_sA) (hb : vx_SH[b]? = some vx_sA) (hf : 1 ≤ R.frames) (hr : (st.map fun v => v.category).sum + (nativeFrameWords "java/lang/System" "arraycopy" 5 + 11) ≤ R.locals) (hd : decode cc pc = .ok (.invokestatic index, 3)) (kk : vx_V p l e R s m args below meth c Q g nL (pc + 3) L st (vx_ur S b (va_cpy (S.1 a) (S.1 b) 0 0 8))) : vx_V p l e R s m args below meth c Q g nL pc L (.int 8 :: .int 0 :: .ref (g.2.2.1 b) :: .int 0 :: .ref (g.2.2.1 a) :: st) S := fun ls H locs hl hP hS => va_copyi (A := vx_A g) (ty := .int) C.1 C.2.1 (C.2.2.1.trans hl.1.symm) C.2.2.2.1 (C.2.2.2.2.1 _ hm) (C.2.2.2.2.1 _ h1) (C.2.2.2.2.1 _ h2) (C.2.2.2.2.1 _ h3) C.2.2.2.2.2.2.2.1.1 hP (vx_w_D S C.2.2.2.2.2.2.2.1.2.2.1) hS a b 0 0 (vx_w_at ha) (vx_w_at hb) rfl rfl rfl (by decide) (by decide) (by decide) (by decide) (by decide) (fun i hi => rfl) hf hr hd (fun H1 locs1 hP1 _ hS1 => kk ls H1 locs1 hl (by rw [← vx_w_set (g := g) (S := S) (S' := vx_ur S b (va_cpy (S.1 a) (S.1 b) 0 0 8)) (e := .inl (g.2.1.1, 8, .inl (va_cpy (S.1 a) (S.1 b) (0 : Int32).toNatClampNeg (0 : Int32).toNatClampNeg (8 : Int32).toNatClampNeg))) hb (vx_cp_c g S a b) (fun j hj => by simp only [vx_ur, if_neg hj]) (fun _ _ => rfl)]; exact hP1) hS1)
theorem vv_mmax (C : vx_C p s m args meth c own cc nL ret g) {x y : Int32} {index : Nat} (hm : (Cond.methodLink own index Lib.Math.max.name) ∈ wsL_law) (h1 : (Cond.static Lib.Math.max.name) ∈ wsL_law) (h2 : (Cond.initialized "java/lang/Math") ∈ wsL_law) (h3 : (Cond.code Lib.Math.max.name Lib.Math.max.code 2 (some .int)) ∈ wsL_law) (hf : 1 ≤ R.frames) (hr : (st.map fun v => v.category).sum + 13 ≤ R.locals) (hd : decode cc pc = .ok (.invokestatic index, 3)) (kk : vx_V p l e R s m args below meth c Q g nL (pc + 3) L (.int (if x < y then y else x) :: st) S) : vx_V p l e R s m args below meth c Q g nL pc L (.int y :: .int x :: st) S := fun ls H locs hl hP hS => va_mmax C.1 C.2.1 (C.2.2.1.trans hl.1.symm) C.2.2.2.1 (C.2.2.2.2.1 _ hm) (C.2.2.2.2.1 _ h1) (C.2.2.2.2.1 _ h2) (C.2.2.2.2.1 _ h3) hf hr (Nat.zero_le _) (Nat.zero_le _) hd (kk ls H locs hl hP hS)
theorem vv_mmin (C : vx_C p s m args meth c own cc nL ret g) {x y : Int32} {index : Nat} (hm : (Cond.methodLink own index Lib.Math.min.name) ∈ wsL_law) (h1 : (Cond.static Lib.Math.min.name) ∈ wsL_law) (h2 : (Cond.initialized "java/lang/Math") ∈ wsL_law) (h3 : (Cond.code Lib.Math.min.name Lib.Math.min.code 2 (some .int)) ∈ wsL_law) (hf : 1 ≤ R.frames) (hr : (st.map fun v => v.category).sum + 13 ≤ R.locals) (hd : decode cc pc = .ok (.invokestatic index, 3)) (kk : vx_V p l e R s m args below meth c Q g nL (pc + 3) L (.int (if y < x then y else x) :: st) S) : vx_V p l e R s m args below meth c Q g nL pc L (.int y :: .int x :: st) S := fun ls H locs hl hP hS => va_mmin C.1 C.2.1 (C.2.2.1.trans hl.1.symm) C.2.2.2.1 (C.2.2.2.2.1 _ hm) (C.2.2.2.2.1 _ h1) (C.2.2.2.2.1 _ h2) (C.2.2.2.2.1 _ h3) hf hr (Nat.zero_le _) (Nat.zero_le _) hd (kk ls H locs hl hP hS)
theorem vv_iret {post : Option Value → vx_St → Prop} (C : vx_C p s m args meth c own cc nL (some .int) g) {v : Int32} (hd : decode cc pc = .ok (.ireturn, 1)) (h : post (some (.int v)) S) : vx_V p l e R s m args below meth c (MQ below (vx_Q g post) args s 0 0 (vx_A g)) g nL pc L [.int v] S := fun ls H locs hl hP hS => W.iret C.1 C.2.1 C.2.2.2.2.2.1 (fun t ht hW => ⟨_, S, rfl, h, by rw [ht]; exact hP, hS.F ht⟩) hS.2.2 hd C.2.2.2.2.2.2.1
theorem vv_zret {post : Option Value → vx_St → Prop} (C : vx_C p s m args meth c own cc nL (some .boolean) g) {v : Int32} (hd : decode cc pc = .ok (.ireturn, 1)) (hv : vx_b01 v = v) (h : post (some (.int v)) S) : vx_V p l e R s m args below meth c (MQ below (vx_Q g post) args s 0 0 (vx_A g)) g nL pc L [.int v] S := fun ls H locs hl hP hS => W.zret C.1 C.2.1 C.2.2.2.2.2.1 (vx_nb2 hv) (fun t ht hW => ⟨_, S, rfl, h, by rw [ht]; exact hP, hS.F ht⟩) hS.2.2 hd C.2.2.2.2.2.2.1
theorem vv_lret {post : Option Value → vx_St → Prop} (C : vx_C p s m args meth c own cc nL (some .long) g) {v : Int64} (hd : decode cc pc = .ok (.lreturn, 1)) (h : post (some (.long v)) S) : vx_V p l e R s m args below meth c (MQ below (vx_Q g post) args s 0 0 (vx_A g)) g nL pc L [.long v] S := fun ls H locs hl hP hS => W.lret C.1 C.2.1 C.2.2.2.2.2.1 (fun t ht hW => ⟨_, S, rfl, h, by rw [ht]; exact hP, hS.F ht⟩) hS.2.2 hd C.2.2.2.2.2.2.1
theorem vv_vret {post : Option Value → vx_St → Prop} (C : vx_C p s m args meth c own cc nL (none) g) (hd : decode cc pc = .ok (.return_, 1)) (h : post none S) : vx_V p l e R s m args below meth c (MQ below (vx_Q g post) args s 0 0 (vx_A g)) g nL pc L [] S := fun ls H locs hl hP hS => W.vret C.1 C.2.1 C.2.2.2.2.2.1 (fun t ht hW => ⟨_, S, rfl, h, by rw [ht]; exact hP, hS.F ht⟩) hS.2.2 hd C.2.2.2.2.2.2.1
theorem vx_call {mc : Nat} {rest st0 : List Value} {a : Array Value} {post : Option Value → vx_St → Prop} {ls : Array Slot} {H : Heap} {locs : List Loc} (hr : va_Run p l e R s m args below meth c H locs 0 0 0 0 (F0 m pc ls st0) rest (vx_Q g post a) (vx_A g)) (hl : lv_has ls nL L) (hS : va_S (vx_A g) s.heap H locs)
    (kk : ∀ v S', post v S' → vx_V p l e R s m args below meth c Q g nL (pc + 3) L (v.toList ++ rest) S') : W p l e R s m args below meth c H locs 0 0 Q (F0 m pc ls st0) := by
  intro T hT X
  obtain ⟨v, st₀, t, T', L1, h0, X', hL, e1, e2, ⟨v', S', hv, hp, hP', hF⟩, st⟩ := hr T hT X
  cases hv
  obtain ⟨t2, a1, b1⟩ := kk v S' hp ls T'.heap (locs ++ L1) hl (by rw [e1]; exact hP') ⟨Nat.le_trans hS.1 (by rw [e1, ← h0]; exact hF.1), fun q h1 h2 => by rw [e1, hF.2 q (by rw [h0]; exact Nat.lt_of_lt_of_le h1 hS.1) h2, h0]; exact hS.2.1 q h1 h2, fun q hq => by
      rcases List.mem_append.mp hq with h | h
      · exact hS.2.2 q h
      · exact hL q h⟩ T' rfl X'
  exact ⟨t2, st t2 a1, b1⟩
theorem vx_blind (av : List Value) (S : vx_St) : FrameBlind (va_Pc av (vx_P g S)) := fun a U f mk q => ⟨q.1, vx_K.same (s := U) (U := U.calling f mk a) rfl q.2.1, q.2.2.1, vx_Z.moved (s := U) (U := U.calling f mk a) (Vm.Alike.refl U.vm) q.2.2.2⟩
theorem vx_pre {U : State} {H : Heap} {locs : List Loc} (C : vx_C p s m args meth c own cc nL ret g) (hP : va_P g.1 vx_Cl (vx_w g S) H) (hS : va_S (vx_A g) s.heap H locs) (hU : U.heap = H) (hW : s.WarmedH U.vm) : vx_P g S U := ⟨vx_K.warm hW C.2.2.2.2.2.2.2.1, by rw [hU]; exact hP, by rw [hU]; exact (C.2.2.2.2.2.2.2.2.moved hW.alike).kept hS.2.1⟩
theorem vx_recv {H : Heap} {a ci : Nat} {fs : List (Nat ⊕ Nat)} {q : vw_C} (hK : vx_K g s) (hP : va_P g.1 vx_Cl (vx_w g S) H) (hsh : vx_SH[a]? = some (.inr (ci, fs))) (hcl : vx_Cl[ci]? = some q) : ∃ cell : Cell, H[g.2.2.1 a]? = some cell ∧ cell.vm.isStatics = false ∧ s.vm.findClass q.1 = some cell.cls := va_recv hK.1 hP hcl (vx_w_at hsh)
variable {y : MethodName} {bytes : ByteArray} {maxL n index fa fb FA FB : Nat} {retY : Option FieldType} {post : Option Value → vx_St → Prop} {As rest : List Value} {a ci : Nat} {fs : List (Nat ⊕ Nat)} {q : vw_C} {host : String}
theorem vv_callV (C : vx_C p s m args meth c own cc nL ret g) (hM : vx_M l g y bytes maxL retY (vx_R fa fb) (.ref (g.2.2.1 a) :: As) S post) (hy : vx_yV y bytes maxL retY n) (hl : Cond.methodLink own index y ∈ wsL_law) (hsh : vx_SH[a]? = some (.inr (ci, fs))) (hcl : vx_Cl[ci]? = some q) (hq : q.1 = y.cls) (hR : fa + 1 ≤ FA ∧ 8 + (maxL + 11) + fb ≤ FB) (hn : As.length = n) (hW : (rest.map fun v => v.category).sum ≤ 8) (hst : st = As.reverse ++ .ref (g.2.2.1 a) :: rest) (hd : decode cc pc = .ok (.invokevirtual index, 3)) (kk : ∀ v S', post v S' → vx_V p l e (vx_R FA FB) s m args below meth c Q g nL (pc + 3) L (v.toList ++ rest) S') : vx_V p l e (vx_R FA FB) s m args below meth c Q g nL pc L st S := fun ls H locs hl2 hP hS => vx_call (mc := 0) (va_runV (g := F0 m pc ls st) ⟨C.1, C.2.1, C.2.2.1, C.2.2.2.1, C.2.2.2.2.1⟩ hM ⟨callB_of n C.2.2.2.2.1 (vx_pay C.2.2.2.2.1 hy.1) rfl rfl rfl (C.2.2.2.2.1 _ hy.2.1) (C.2.2.2.2.1 _ hl) hy.2.2.1 hR, C.2.2.2.2.1 _ hy.2.2.2.1, C.2.2.2.2.1 _ hy.2.2.2.2⟩ ⟨vx_blind _ S, (by rw [← hq]; exact vx_recv C.2.2.2.2.2.2.2.1 hP hsh hcl), fun U hU hW => ⟨rfl, vx_pre C hP hS hU hW⟩⟩ rfl hn hl2.1 hst (lv_room hW) hd ⟨Nat.zero_le _, Nat.zero_le _⟩) hl2 hS kk
theorem vv_callVN (C : vx_C p s m args meth c own cc nL ret g) (hM : vx_M l g y bytes maxL retY (vx_R fa fb) (.ref (g.2.2.1 a) :: As) S post) (hy : vx_yV y bytes maxL retY n) (hl : Cond.methodLinkNest own index y host ∈ vx_nest) (hsh : vx_SH[a]? = some (.inr (ci, fs))) (hcl : vx_Cl[ci]? = some q) (hq : q.1 = y.cls) (hR : fa + 1 ≤ FA ∧ 8 + (maxL + 11) + fb ≤ FB) (hn : As.length = n) (hW : (rest.map fun v => v.category).sum ≤ 8) (hst : st = As.reverse ++ .ref (g.2.2.1 a) :: rest) (hd : decode cc pc = .ok (.invokevirtual index, 3)) (kk : ∀ v S', post v S' → vx_V p l e (vx_R FA FB) s m args below meth c Q g nL (pc + 3) L (v.toList ++ rest) S') : vx_V p l e (vx_R FA FB) s m args below meth c Q g nL pc L st S := fun ls H locs hl2 hP hS => vx_call (mc := 0) (va_runVN (g := F0 m pc ls st) ⟨C.1, C.2.1, C.2.2.1, C.2.2.2.1, C.2.2.2.2.1⟩ hM ⟨va_cnB n C.2.2.2.2.1 (vx_pay C.2.2.2.2.1 hy.1) rfl rfl rfl (C.2.2.2.2.2.2.2.1.2.1 _ hl) (C.2.2.2.2.1 _ hy.2.1) hy.2.2.1 hR, C.2.2.2.2.1 _ hy.2.2.2.1, C.2.2.2.2.1 _ hy.2.2.2.2⟩ ⟨vx_blind _ S, (by rw [← hq]; exact vx_recv C.2.2.2.2.2.2.2.1 hP hsh hcl), fun U hU hW => ⟨rfl, vx_pre C hP hS hU hW⟩⟩ rfl hn hl2.1 hst (lv_room hW) hd ⟨Nat.zero_le _, Nat.zero_le _⟩) hl2 hS kk
theorem vv_callS (C : vx_C p s m args meth c own cc nL ret g) (hM : vx_M l g y bytes maxL retY (vx_R fa fb) (As) S post) (hy : vx_yS y bytes maxL retY n) (hl : Cond.methodLink own index y ∈ wsL_law) (hR : fa + 1 ≤ FA ∧ 8 + (maxL + 11) + fb ≤ FB) (hn : As.length = n) (hW : (rest.map fun v => v.category).sum ≤ 8) (hst : st = As.reverse ++ rest) (hd : decode cc pc = .ok (.invokestatic index, 3)) (kk : ∀ v S', post v S' → vx_V p l e (vx_R FA FB) s m args below meth c Q g nL (pc + 3) L (v.toList ++ rest) S') : vx_V p l e (vx_R FA FB) s m args below meth c Q g nL pc L st S := fun ls H locs hl2 hP hS => vx_call (mc := 0) (va_runS (g := F0 m pc ls st) ⟨C.1, C.2.1, C.2.2.1, C.2.2.2.1, C.2.2.2.2.1⟩ hM ⟨callB_of n C.2.2.2.2.1 (vx_pay C.2.2.2.2.1 hy.1) rfl rfl rfl (C.2.2.2.2.1 _ hy.2.1) (C.2.2.2.2.1 _ hl) hy.2.2.1 hR, C.2.2.2.2.1 _ hy.2.2.2⟩ ⟨vx_blind _ S, fun U hU hW => ⟨rfl, vx_pre C hP hS hU hW⟩⟩ rfl hn hl2.1 hst (lv_room hW) hd ⟨Nat.zero_le _, Nat.zero_le _⟩) hl2 hS kk
theorem vv_callSN (C : vx_C p s m args meth c own cc nL ret g) (hM : vx_M l g y bytes maxL retY (vx_R fa fb) (As) S post) (hy : vx_yS y bytes maxL retY n) (hl : Cond.methodLinkNest own index y host ∈ vx_nest) (hR : fa + 1 ≤ FA ∧ 8 + (maxL + 11) + fb ≤ FB) (hn : As.length = n) (hW : (rest.map fun v => v.category).sum ≤ 8) (hst : st = As.reverse ++ rest) (hd : decode cc pc = .ok (.invokestatic index, 3)) (kk : ∀ v S', post v S' → vx_V p l e (vx_R FA FB) s m args below meth c Q g nL (pc + 3) L (v.toList ++ rest) S') : vx_V p l e (vx_R FA FB) s m args below meth c Q g nL pc L st S := fun ls H locs hl2 hP hS => vx_call (mc := 0) (va_runSN (g := F0 m pc ls st) ⟨C.1, C.2.1, C.2.2.1, C.2.2.2.1, C.2.2.2.2.1⟩ hM ⟨va_cnB n C.2.2.2.2.1 (vx_pay C.2.2.2.2.1 hy.1) rfl rfl rfl (C.2.2.2.2.2.2.2.1.2.1 _ hl) (C.2.2.2.2.1 _ hy.2.1) hy.2.2.1 hR, C.2.2.2.2.1 _ hy.2.2.2, trivial⟩ ⟨vx_blind _ S, fun U hU hW => ⟨rfl, vx_pre C hP hS hU hW⟩⟩ rfl hn hl2.1 hst (lv_room hW) hd ⟨Nat.zero_le _, Nat.zero_le _⟩) hl2 hS kk
end VV
end
