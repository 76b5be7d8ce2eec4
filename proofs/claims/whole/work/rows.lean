section
-- ===== PART A: goes FIRST, ahead of the names: the tables' words, and 'selects' of the private methods out of them =====
/-- a private method of a class that the tables say can be made, by its rows of tables_1 -/
def lw_okq (q : MethodName × Nat) : Prop := (q.1.cls ≠ "java/lang/invoke/MethodHandle" ∧ q.1.cls ≠ "java/lang/invoke/VarHandle") ∧ Cond.instantiable q.1.cls q.2 ∈ tables_1 ∧ Cond.privateMethod q.1 ∈ tables_1 ∧ Cond.instanceMethod q.1 ∈ tables_1
theorem lw_p0 : lw_okq (⟨"TownOnWeight$Page", "append", "(JI)V"⟩, 2) := ⟨⟨by decide +kernel, by decide +kernel⟩, List.mem_of_getElem? (i := 24) (by decide +kernel), List.mem_of_getElem? (i := 199) (by decide +kernel), List.mem_of_getElem? (i := 200) (by decide +kernel)⟩
theorem lw_p1 : lw_okq (⟨"TownOnWeight$Page", "faultAt", "(I)I"⟩, 2) := ⟨⟨by decide +kernel, by decide +kernel⟩, List.mem_of_getElem? (i := 24) (by decide +kernel), List.mem_of_getElem? (i := 211) (by decide +kernel), List.mem_of_getElem? (i := 212) (by decide +kernel)⟩
theorem lw_p2 : lw_okq (⟨"TownOnWeight$Page", "fits", "(II)Z"⟩, 2) := ⟨⟨by decide +kernel, by decide +kernel⟩, List.mem_of_getElem? (i := 24) (by decide +kernel), List.mem_of_getElem? (i := 215) (by decide +kernel), List.mem_of_getElem? (i := 216) (by decide +kernel)⟩
theorem lw_p3 : lw_okq (⟨"TownOnWeight$Page", "digitAt", "(I)I"⟩, 2) := ⟨⟨by decide +kernel, by decide +kernel⟩, List.mem_of_getElem? (i := 24) (by decide +kernel), List.mem_of_getElem? (i := 312) (by decide +kernel), List.mem_of_getElem? (i := 313) (by decide +kernel)⟩
theorem lw_p4 : lw_okq (⟨"TownOnWeight$Page", "isHouse", "(I)Z"⟩, 2) := ⟨⟨by decide +kernel, by decide +kernel⟩, List.mem_of_getElem? (i := 24) (by decide +kernel), List.mem_of_getElem? (i := 321) (by decide +kernel), List.mem_of_getElem? (i := 322) (by decide +kernel)⟩
theorem lw_p5 : lw_okq (⟨"TownOnWeight$Day", "hasBegun", "()Z"⟩, 14) := ⟨⟨by decide +kernel, by decide +kernel⟩, List.mem_of_getElem? (i := 83) (by decide +kernel), List.mem_of_getElem? (i := 326) (by decide +kernel), List.mem_of_getElem? (i := 327) (by decide +kernel)⟩
theorem lw_p6 : lw_okq (⟨"TownOnWeight$Houses", "add", "(LTownOnWeight$Page;)V"⟩, 8) := ⟨⟨by decide +kernel, by decide +kernel⟩, List.mem_of_getElem? (i := 41) (by decide +kernel), List.mem_of_getElem? (i := 330) (by decide +kernel), List.mem_of_getElem? (i := 331) (by decide +kernel)⟩
theorem lw_p7 : lw_okq (⟨"TownOnWeight$Houses", "has", "(I)Z"⟩, 8) := ⟨⟨by decide +kernel, by decide +kernel⟩, List.mem_of_getElem? (i := 41) (by decide +kernel), List.mem_of_getElem? (i := 339) (by decide +kernel), List.mem_of_getElem? (i := 340) (by decide +kernel)⟩
theorem lw_p8 : lw_okq (⟨"TownOnWeight$Day", "welcome", "(I)V"⟩, 14) := ⟨⟨by decide +kernel, by decide +kernel⟩, List.mem_of_getElem? (i := 83) (by decide +kernel), List.mem_of_getElem? (i := 343) (by decide +kernel), List.mem_of_getElem? (i := 344) (by decide +kernel)⟩
theorem lw_p9 : lw_okq (⟨"TownOnWeight$Houses", "isA", "(II)Z"⟩, 8) := ⟨⟨by decide +kernel, by decide +kernel⟩, List.mem_of_getElem? (i := 41) (by decide +kernel), List.mem_of_getElem? (i := 365) (by decide +kernel), List.mem_of_getElem? (i := 366) (by decide +kernel)⟩
theorem lw_p10 : lw_okq (⟨"TownOnWeight$Day", "wantOf", "(LTownOnWeight$Houses;I)I"⟩, 14) := ⟨⟨by decide +kernel, by decide +kernel⟩, List.mem_of_getElem? (i := 83) (by decide +kernel), List.mem_of_getElem? (i := 386) (by decide +kernel), List.mem_of_getElem? (i := 387) (by decide +kernel)⟩
theorem lw_p11 : lw_okq (⟨"TownOnWeight$Houses", "isOpen", "(II)Z"⟩, 8) := ⟨⟨by decide +kernel, by decide +kernel⟩, List.mem_of_getElem? (i := 41) (by decide +kernel), List.mem_of_getElem? (i := 390) (by decide +kernel), List.mem_of_getElem? (i := 391) (by decide +kernel)⟩
theorem lw_p12 : lw_okq (⟨"TownOnWeight$Houses", "areBits", "(I)Z"⟩, 8) := ⟨⟨by decide +kernel, by decide +kernel⟩, List.mem_of_getElem? (i := 41) (by decide +kernel), List.mem_of_getElem? (i := 400) (by decide +kernel), List.mem_of_getElem? (i := 401) (by decide +kernel)⟩
theorem lw_p13 : lw_okq (⟨"TownOnWeight$Houses", "all", "()I"⟩, 8) := ⟨⟨by decide +kernel, by decide +kernel⟩, List.mem_of_getElem? (i := 41) (by decide +kernel), List.mem_of_getElem? (i := 404) (by decide +kernel), List.mem_of_getElem? (i := 405) (by decide +kernel)⟩
theorem lw_p14 : lw_okq (⟨"TownOnWeight$Day", "tellWanted", "(LTownOnWeight$Houses;)V"⟩, 14) := ⟨⟨by decide +kernel, by decide +kernel⟩, List.mem_of_getElem? (i := 83) (by decide +kernel), List.mem_of_getElem? (i := 408) (by decide +kernel), List.mem_of_getElem? (i := 409) (by decide +kernel)⟩
theorem lw_p15 : lw_okq (⟨"TownOnWeight$Day", "goesBy", "(LTownOnWeight$Houses;I)I"⟩, 14) := ⟨⟨by decide +kernel, by decide +kernel⟩, List.mem_of_getElem? (i := 83) (by decide +kernel), List.mem_of_getElem? (i := 413) (by decide +kernel), List.mem_of_getElem? (i := 414) (by decide +kernel)⟩
def lw_privs_1 : List (MethodName × Nat) := [(⟨"TownOnWeight$Page", "append", "(JI)V"⟩, 2), (⟨"TownOnWeight$Page", "faultAt", "(I)I"⟩, 2), (⟨"TownOnWeight$Page", "fits", "(II)Z"⟩, 2), (⟨"TownOnWeight$Page", "digitAt", "(I)I"⟩, 2), (⟨"TownOnWeight$Page", "isHouse", "(I)Z"⟩, 2), (⟨"TownOnWeight$Day", "hasBegun", "()Z"⟩, 14), (⟨"TownOnWeight$Houses", "add", "(LTownOnWeight$Page;)V"⟩, 8), (⟨"TownOnWeight$Houses", "has", "(I)Z"⟩, 8), (⟨"TownOnWeight$Day", "welcome", "(I)V"⟩, 14), (⟨"TownOnWeight$Houses", "isA", "(II)Z"⟩, 8), (⟨"TownOnWeight$Day", "wantOf", "(LTownOnWeight$Houses;I)I"⟩, 14), (⟨"TownOnWeight$Houses", "isOpen", "(II)Z"⟩, 8), (⟨"TownOnWeight$Houses", "areBits", "(I)Z"⟩, 8), (⟨"TownOnWeight$Houses", "all", "()I"⟩, 8), (⟨"TownOnWeight$Day", "tellWanted", "(LTownOnWeight$Houses;)V"⟩, 14), (⟨"TownOnWeight$Day", "goesBy", "(LTownOnWeight$Houses;I)I"⟩, 14)]
theorem lw_r1 : ∀ q ∈ lw_privs_1, lw_okq q := List.forall_mem_cons.mpr ⟨lw_p0, List.forall_mem_cons.mpr ⟨lw_p1, List.forall_mem_cons.mpr ⟨lw_p2, List.forall_mem_cons.mpr ⟨lw_p3, List.forall_mem_cons.mpr ⟨lw_p4, List.forall_mem_cons.mpr ⟨lw_p5, List.forall_mem_cons.mpr ⟨lw_p6, List.forall_mem_cons.mpr ⟨lw_p7, List.forall_mem_cons.mpr ⟨lw_p8, List.forall_mem_cons.mpr ⟨lw_p9, List.forall_mem_cons.mpr ⟨lw_p10, List.forall_mem_cons.mpr ⟨lw_p11, List.forall_mem_cons.mpr ⟨lw_p12, List.forall_mem_cons.mpr ⟨lw_p13, List.forall_mem_cons.mpr ⟨lw_p14, List.forall_mem_cons.mpr ⟨lw_p15, fun _ h => absurd h List.not_mem_nil⟩⟩⟩⟩⟩⟩⟩⟩⟩⟩⟩⟩⟩⟩⟩⟩
theorem lw_p16 : lw_okq (⟨"TownOnWeight$Houses", "lossOf", "(IZ)I"⟩, 8) := ⟨⟨by decide +kernel, by decide +kernel⟩, List.mem_of_getElem? (i := 41) (by decide +kernel), List.mem_of_getElem? (i := 417) (by decide +kernel), List.mem_of_getElem? (i := 418) (by decide +kernel)⟩
theorem lw_p17 : lw_okq (⟨"TownOnWeight$Day", "hourComes", "()Z"⟩, 14) := ⟨⟨by decide +kernel, by decide +kernel⟩, List.mem_of_getElem? (i := 83) (by decide +kernel), List.mem_of_getElem? (i := 426) (by decide +kernel), List.mem_of_getElem? (i := 427) (by decide +kernel)⟩
theorem lw_p18 : lw_okq (⟨"TownOnWeight$Day", "passHour", "(LTownOnWeight$Houses;)I"⟩, 14) := ⟨⟨by decide +kernel, by decide +kernel⟩, List.mem_of_getElem? (i := 83) (by decide +kernel), List.mem_of_getElem? (i := 430) (by decide +kernel), List.mem_of_getElem? (i := 431) (by decide +kernel)⟩
theorem lw_p19 : lw_okq (⟨"TownOnWeight$Day", "letWork", "(III)V"⟩, 14) := ⟨⟨by decide +kernel, by decide +kernel⟩, List.mem_of_getElem? (i := 83) (by decide +kernel), List.mem_of_getElem? (i := 437) (by decide +kernel), List.mem_of_getElem? (i := 438) (by decide +kernel)⟩
theorem lw_p20 : lw_okq (⟨"TownOnWeight$Day", "tellParts", "(I)V"⟩, 14) := ⟨⟨by decide +kernel, by decide +kernel⟩, List.mem_of_getElem? (i := 83) (by decide +kernel), List.mem_of_getElem? (i := 449) (by decide +kernel), List.mem_of_getElem? (i := 450) (by decide +kernel)⟩
theorem lw_p21 : lw_okq (⟨"TownOnWeight$Day", "greatestRest", "(I)I"⟩, 14) := ⟨⟨by decide +kernel, by decide +kernel⟩, List.mem_of_getElem? (i := 83) (by decide +kernel), List.mem_of_getElem? (i := 453) (by decide +kernel), List.mem_of_getElem? (i := 454) (by decide +kernel)⟩
theorem lw_p22 : lw_okq (⟨"TownOnWeight$Day", "passNight", "(I)I"⟩, 14) := ⟨⟨by decide +kernel, by decide +kernel⟩, List.mem_of_getElem? (i := 83) (by decide +kernel), List.mem_of_getElem? (i := 461) (by decide +kernel), List.mem_of_getElem? (i := 462) (by decide +kernel)⟩
theorem lw_p23 : lw_okq (⟨"TownOnWeight", "bestBrakes", "()I"⟩, 9) := ⟨⟨by decide +kernel, by decide +kernel⟩, List.mem_of_getElem? (i := 16) (by decide +kernel), List.mem_of_getElem? (i := 471) (by decide +kernel), List.mem_of_getElem? (i := 472) (by decide +kernel)⟩
theorem lw_p24 : lw_okq (⟨"TownOnWeight", "takenAhead", "(II)I"⟩, 9) := ⟨⟨by decide +kernel, by decide +kernel⟩, List.mem_of_getElem? (i := 16) (by decide +kernel), List.mem_of_getElem? (i := 475) (by decide +kernel), List.mem_of_getElem? (i := 476) (by decide +kernel)⟩
theorem lw_p25 : lw_okq (⟨"TownOnWeight$Day", "copyFrom", "(LTownOnWeight$Day;)V"⟩, 14) := ⟨⟨by decide +kernel, by decide +kernel⟩, List.mem_of_getElem? (i := 83) (by decide +kernel), List.mem_of_getElem? (i := 479) (by decide +kernel), List.mem_of_getElem? (i := 480) (by decide +kernel)⟩
theorem lw_p26 : lw_okq (⟨"TownOnWeight$Houses", "openIn", "(I)I"⟩, 8) := ⟨⟨by decide +kernel, by decide +kernel⟩, List.mem_of_getElem? (i := 41) (by decide +kernel), List.mem_of_getElem? (i := 501) (by decide +kernel), List.mem_of_getElem? (i := 502) (by decide +kernel)⟩
theorem lw_p27 : lw_okq (⟨"TownOnWeight$Houses", "takesOf", "(I)I"⟩, 8) := ⟨⟨by decide +kernel, by decide +kernel⟩, List.mem_of_getElem? (i := 41) (by decide +kernel), List.mem_of_getElem? (i := 506) (by decide +kernel), List.mem_of_getElem? (i := 507) (by decide +kernel)⟩
theorem lw_p28 : lw_okq (⟨"TownOnWeight$Houses", "waysTo", "(I)I"⟩, 8) := ⟨⟨by decide +kernel, by decide +kernel⟩, List.mem_of_getElem? (i := 41) (by decide +kernel), List.mem_of_getElem? (i := 525) (by decide +kernel), List.mem_of_getElem? (i := 526) (by decide +kernel)⟩
theorem lw_p29 : lw_okq (⟨"TownOnWeight$Houses", "toldLossOf", "(I)I"⟩, 8) := ⟨⟨by decide +kernel, by decide +kernel⟩, List.mem_of_getElem? (i := 41) (by decide +kernel), List.mem_of_getElem? (i := 529) (by decide +kernel), List.mem_of_getElem? (i := 530) (by decide +kernel)⟩
theorem lw_p30 : lw_okq (⟨"TownOnWeight$Readings", "add", "(II)V"⟩, 3) := ⟨⟨by decide +kernel, by decide +kernel⟩, List.mem_of_getElem? (i := 144) (by decide +kernel), List.mem_of_getElem? (i := 533) (by decide +kernel), List.mem_of_getElem? (i := 534) (by decide +kernel)⟩
theorem lw_p31 : lw_okq (⟨"TownOnWeight$Readings", "leastLeakOf", "(I)I"⟩, 3) := ⟨⟨by decide +kernel, by decide +kernel⟩, List.mem_of_getElem? (i := 144) (by decide +kernel), List.mem_of_getElem? (i := 545) (by decide +kernel), List.mem_of_getElem? (i := 546) (by decide +kernel)⟩
def lw_privs_2 : List (MethodName × Nat) := [(⟨"TownOnWeight$Houses", "lossOf", "(IZ)I"⟩, 8), (⟨"TownOnWeight$Day", "hourComes", "()Z"⟩, 14), (⟨"TownOnWeight$Day", "passHour", "(LTownOnWeight$Houses;)I"⟩, 14), (⟨"TownOnWeight$Day", "letWork", "(III)V"⟩, 14), (⟨"TownOnWeight$Day", "tellParts", "(I)V"⟩, 14), (⟨"TownOnWeight$Day", "greatestRest", "(I)I"⟩, 14), (⟨"TownOnWeight$Day", "passNight", "(I)I"⟩, 14), (⟨"TownOnWeight", "bestBrakes", "()I"⟩, 9), (⟨"TownOnWeight", "takenAhead", "(II)I"⟩, 9), (⟨"TownOnWeight$Day", "copyFrom", "(LTownOnWeight$Day;)V"⟩, 14), (⟨"TownOnWeight$Houses", "openIn", "(I)I"⟩, 8), (⟨"TownOnWeight$Houses", "takesOf", "(I)I"⟩, 8), (⟨"TownOnWeight$Houses", "waysTo", "(I)I"⟩, 8), (⟨"TownOnWeight$Houses", "toldLossOf", "(I)I"⟩, 8), (⟨"TownOnWeight$Readings", "add", "(II)V"⟩, 3), (⟨"TownOnWeight$Readings", "leastLeakOf", "(I)I"⟩, 3)]
theorem lw_r2 : ∀ q ∈ lw_privs_2, lw_okq q := List.forall_mem_cons.mpr ⟨lw_p16, List.forall_mem_cons.mpr ⟨lw_p17, List.forall_mem_cons.mpr ⟨lw_p18, List.forall_mem_cons.mpr ⟨lw_p19, List.forall_mem_cons.mpr ⟨lw_p20, List.forall_mem_cons.mpr ⟨lw_p21, List.forall_mem_cons.mpr ⟨lw_p22, List.forall_mem_cons.mpr ⟨lw_p23, List.forall_mem_cons.mpr ⟨lw_p24, List.forall_mem_cons.mpr ⟨lw_p25, List.forall_mem_cons.mpr ⟨lw_p26, List.forall_mem_cons.mpr ⟨lw_p27, List.forall_mem_cons.mpr ⟨lw_p28, List.forall_mem_cons.mpr ⟨lw_p29, List.forall_mem_cons.mpr ⟨lw_p30, List.forall_mem_cons.mpr ⟨lw_p31, fun _ h => absurd h List.not_mem_nil⟩⟩⟩⟩⟩⟩⟩⟩⟩⟩⟩⟩⟩⟩⟩⟩
theorem lw_p32 : lw_okq (⟨"TownOnWeight$Readings", "givesAll", "(II)Z"⟩, 3) := ⟨⟨by decide +kernel, by decide +kernel⟩, List.mem_of_getElem? (i := 144) (by decide +kernel), List.mem_of_getElem? (i := 549) (by decide +kernel), List.mem_of_getElem? (i := 550) (by decide +kernel)⟩
theorem lw_p33 : lw_okq (⟨"TownOnWeight$Readings", "copyFrom", "(LTownOnWeight$Readings;)V"⟩, 3) := ⟨⟨by decide +kernel, by decide +kernel⟩, List.mem_of_getElem? (i := 144) (by decide +kernel), List.mem_of_getElem? (i := 568) (by decide +kernel), List.mem_of_getElem? (i := 569) (by decide +kernel)⟩
theorem lw_p34 : lw_okq (⟨"TownOnWeight", "digestOfHouses", "(J)J"⟩, 9) := ⟨⟨by decide +kernel, by decide +kernel⟩, List.mem_of_getElem? (i := 16) (by decide +kernel), List.mem_of_getElem? (i := 586) (by decide +kernel), List.mem_of_getElem? (i := 587) (by decide +kernel)⟩
theorem lw_p35 : lw_okq (⟨"TownOnWeightModel", "faultNow", "()I"⟩, 47) := ⟨⟨by decide +kernel, by decide +kernel⟩, List.mem_of_getElem? (i := 600) (by decide +kernel), List.mem_of_getElem? (i := 761) (by decide +kernel), List.mem_of_getElem? (i := 762) (by decide +kernel)⟩
theorem lw_p36 : lw_okq (⟨"TownOnWeightModel", "mayStand", "(II)Z"⟩, 47) := ⟨⟨by decide +kernel, by decide +kernel⟩, List.mem_of_getElem? (i := 600) (by decide +kernel), List.mem_of_getElem? (i := 765) (by decide +kernel), List.mem_of_getElem? (i := 766) (by decide +kernel)⟩
theorem lw_p37 : lw_okq (⟨"TownOnWeightModel", "isHouse", "(I)Z"⟩, 47) := ⟨⟨by decide +kernel, by decide +kernel⟩, List.mem_of_getElem? (i := 600) (by decide +kernel), List.mem_of_getElem? (i := 783) (by decide +kernel), List.mem_of_getElem? (i := 784) (by decide +kernel)⟩
theorem lw_p38 : lw_okq (⟨"TownOnWeightModel", "houseNow", "(II)I"⟩, 47) := ⟨⟨by decide +kernel, by decide +kernel⟩, List.mem_of_getElem? (i := 600) (by decide +kernel), List.mem_of_getElem? (i := 787) (by decide +kernel), List.mem_of_getElem? (i := 788) (by decide +kernel)⟩
theorem lw_p39 : lw_okq (⟨"TownOnWeightModel", "wantsNow", "(I)I"⟩, 47) := ⟨⟨by decide +kernel, by decide +kernel⟩, List.mem_of_getElem? (i := 600) (by decide +kernel), List.mem_of_getElem? (i := 814) (by decide +kernel), List.mem_of_getElem? (i := 815) (by decide +kernel)⟩
theorem lw_p40 : lw_okq (⟨"TownOnWeightModel", "isTime", "(I)Z"⟩, 47) := ⟨⟨by decide +kernel, by decide +kernel⟩, List.mem_of_getElem? (i := 600) (by decide +kernel), List.mem_of_getElem? (i := 818) (by decide +kernel), List.mem_of_getElem? (i := 819) (by decide +kernel)⟩
theorem lw_p41 : lw_okq (⟨"TownOnWeightModel", "everybody", "()I"⟩, 47) := ⟨⟨by decide +kernel, by decide +kernel⟩, List.mem_of_getElem? (i := 600) (by decide +kernel), List.mem_of_getElem? (i := 826) (by decide +kernel), List.mem_of_getElem? (i := 827) (by decide +kernel)⟩
theorem lw_p42 : lw_okq (⟨"TownOnWeightModel", "goesBy", "(I)I"⟩, 47) := ⟨⟨by decide +kernel, by decide +kernel⟩, List.mem_of_getElem? (i := 600) (by decide +kernel), List.mem_of_getElem? (i := 830) (by decide +kernel), List.mem_of_getElem? (i := 831) (by decide +kernel)⟩
theorem lw_p43 : lw_okq (⟨"TownOnWeightModel", "wanting", "(I)I"⟩, 47) := ⟨⟨by decide +kernel, by decide +kernel⟩, List.mem_of_getElem? (i := 600) (by decide +kernel), List.mem_of_getElem? (i := 834) (by decide +kernel), List.mem_of_getElem? (i := 835) (by decide +kernel)⟩
theorem lw_p44 : lw_okq (⟨"TownOnWeightModel", "shafts", "(I)I"⟩, 47) := ⟨⟨by decide +kernel, by decide +kernel⟩, List.mem_of_getElem? (i := 600) (by decide +kernel), List.mem_of_getElem? (i := 838) (by decide +kernel), List.mem_of_getElem? (i := 839) (by decide +kernel)⟩
theorem lw_p45 : lw_okq (⟨"TownOnWeightModel", "takesBy", "(I)I"⟩, 47) := ⟨⟨by decide +kernel, by decide +kernel⟩, List.mem_of_getElem? (i := 600) (by decide +kernel), List.mem_of_getElem? (i := 842) (by decide +kernel), List.mem_of_getElem? (i := 843) (by decide +kernel)⟩
theorem lw_p46 : lw_okq (⟨"TownOnWeightModel", "isOver", "()Z"⟩, 47) := ⟨⟨by decide +kernel, by decide +kernel⟩, List.mem_of_getElem? (i := 600) (by decide +kernel), List.mem_of_getElem? (i := 850) (by decide +kernel), List.mem_of_getElem? (i := 851) (by decide +kernel)⟩
theorem lw_p47 : lw_okq (⟨"TownOnWeightModel", "goHour", "()I"⟩, 47) := ⟨⟨by decide +kernel, by decide +kernel⟩, List.mem_of_getElem? (i := 600) (by decide +kernel), List.mem_of_getElem? (i := 854) (by decide +kernel), List.mem_of_getElem? (i := 855) (by decide +kernel)⟩
def lw_privs_3 : List (MethodName × Nat) := [(⟨"TownOnWeight$Readings", "givesAll", "(II)Z"⟩, 3), (⟨"TownOnWeight$Readings", "copyFrom", "(LTownOnWeight$Readings;)V"⟩, 3), (⟨"TownOnWeight", "digestOfHouses", "(J)J"⟩, 9), (⟨"TownOnWeightModel", "faultNow", "()I"⟩, 47), (⟨"TownOnWeightModel", "mayStand", "(II)Z"⟩, 47), (⟨"TownOnWeightModel", "isHouse", "(I)Z"⟩, 47), (⟨"TownOnWeightModel", "houseNow", "(II)I"⟩, 47), (⟨"TownOnWeightModel", "wantsNow", "(I)I"⟩, 47), (⟨"TownOnWeightModel", "isTime", "(I)Z"⟩, 47), (⟨"TownOnWeightModel", "everybody", "()I"⟩, 47), (⟨"TownOnWeightModel", "goesBy", "(I)I"⟩, 47), (⟨"TownOnWeightModel", "wanting", "(I)I"⟩, 47), (⟨"TownOnWeightModel", "shafts", "(I)I"⟩, 47), (⟨"TownOnWeightModel", "takesBy", "(I)I"⟩, 47), (⟨"TownOnWeightModel", "isOver", "()Z"⟩, 47), (⟨"TownOnWeightModel", "goHour", "()I"⟩, 47)]
theorem lw_r3 : ∀ q ∈ lw_privs_3, lw_okq q := List.forall_mem_cons.mpr ⟨lw_p32, List.forall_mem_cons.mpr ⟨lw_p33, List.forall_mem_cons.mpr ⟨lw_p34, List.forall_mem_cons.mpr ⟨lw_p35, List.forall_mem_cons.mpr ⟨lw_p36, List.forall_mem_cons.mpr ⟨lw_p37, List.forall_mem_cons.mpr ⟨lw_p38, List.forall_mem_cons.mpr ⟨lw_p39, List.forall_mem_cons.mpr ⟨lw_p40, List.forall_mem_cons.mpr ⟨lw_p41, List.forall_mem_cons.mpr ⟨lw_p42, List.forall_mem_cons.mpr ⟨lw_p43, List.forall_mem_cons.mpr ⟨lw_p44, List.forall_mem_cons.mpr ⟨lw_p45, List.forall_mem_cons.mpr ⟨lw_p46, List.forall_mem_cons.mpr ⟨lw_p47, fun _ h => absurd h List.not_mem_nil⟩⟩⟩⟩⟩⟩⟩⟩⟩⟩⟩⟩⟩⟩⟩⟩
theorem lw_p48 : lw_okq (⟨"TownOnWeightModel", "working", "()I"⟩, 47) := ⟨⟨by decide +kernel, by decide +kernel⟩, List.mem_of_getElem? (i := 600) (by decide +kernel), List.mem_of_getElem? (i := 858) (by decide +kernel), List.mem_of_getElem? (i := 859) (by decide +kernel)⟩
theorem lw_p49 : lw_okq (⟨"TownOnWeightModel", "partOf", "(I)I"⟩, 47) := ⟨⟨by decide +kernel, by decide +kernel⟩, List.mem_of_getElem? (i := 600) (by decide +kernel), List.mem_of_getElem? (i := 870) (by decide +kernel), List.mem_of_getElem? (i := 871) (by decide +kernel)⟩
theorem lw_p50 : lw_okq (⟨"TownOnWeightModel", "takenAll", "()I"⟩, 47) := ⟨⟨by decide +kernel, by decide +kernel⟩, List.mem_of_getElem? (i := 600) (by decide +kernel), List.mem_of_getElem? (i := 874) (by decide +kernel), List.mem_of_getElem? (i := 875) (by decide +kernel)⟩
theorem lw_p51 : lw_okq (⟨"TownOnWeightModel", "planNow", "(I)I"⟩, 47) := ⟨⟨by decide +kernel, by decide +kernel⟩, List.mem_of_getElem? (i := 600) (by decide +kernel), List.mem_of_getElem? (i := 886) (by decide +kernel), List.mem_of_getElem? (i := 887) (by decide +kernel)⟩
theorem lw_p52 : lw_okq (⟨"TownOnWeightModel", "takenOn", "(II)I"⟩, 47) := ⟨⟨by decide +kernel, by decide +kernel⟩, List.mem_of_getElem? (i := 600) (by decide +kernel), List.mem_of_getElem? (i := 890) (by decide +kernel), List.mem_of_getElem? (i := 891) (by decide +kernel)⟩
theorem lw_p53 : lw_okq (⟨"TownOnWeightModel", "save", "()V"⟩, 47) := ⟨⟨by decide +kernel, by decide +kernel⟩, List.mem_of_getElem? (i := 600) (by decide +kernel), List.mem_of_getElem? (i := 894) (by decide +kernel), List.mem_of_getElem? (i := 895) (by decide +kernel)⟩
theorem lw_p54 : lw_okq (⟨"TownOnWeightModel", "back", "()V"⟩, 47) := ⟨⟨by decide +kernel, by decide +kernel⟩, List.mem_of_getElem? (i := 600) (by decide +kernel), List.mem_of_getElem? (i := 898) (by decide +kernel), List.mem_of_getElem? (i := 899) (by decide +kernel)⟩
theorem lw_p55 : lw_okq (⟨"TownOnWeightModel", "moreNow", "(I)I"⟩, 47) := ⟨⟨by decide +kernel, by decide +kernel⟩, List.mem_of_getElem? (i := 600) (by decide +kernel), List.mem_of_getElem? (i := 909) (by decide +kernel), List.mem_of_getElem? (i := 910) (by decide +kernel)⟩
theorem lw_p56 : lw_okq (⟨"TownOnWeightModel", "sumOf", "(I)I"⟩, 47) := ⟨⟨by decide +kernel, by decide +kernel⟩, List.mem_of_getElem? (i := 600) (by decide +kernel), List.mem_of_getElem? (i := 917) (by decide +kernel), List.mem_of_getElem? (i := 918) (by decide +kernel)⟩
theorem lw_p57 : lw_okq (⟨"TownOnWeightModel", "draw", "(I)I"⟩, 47) := ⟨⟨by decide +kernel, by decide +kernel⟩, List.mem_of_getElem? (i := 600) (by decide +kernel), List.mem_of_getElem? (i := 925) (by decide +kernel), List.mem_of_getElem? (i := 926) (by decide +kernel)⟩
theorem lw_p58 : lw_okq (⟨"TownOnWeightModel", "leakNow", "(I)I"⟩, 47) := ⟨⟨by decide +kernel, by decide +kernel⟩, List.mem_of_getElem? (i := 600) (by decide +kernel), List.mem_of_getElem? (i := 945) (by decide +kernel), List.mem_of_getElem? (i := 946) (by decide +kernel)⟩
theorem lw_p59 : lw_okq (⟨"TownOnWeightModel", "feetBy", "(I)I"⟩, 47) := ⟨⟨by decide +kernel, by decide +kernel⟩, List.mem_of_getElem? (i := 600) (by decide +kernel), List.mem_of_getElem? (i := 949) (by decide +kernel), List.mem_of_getElem? (i := 950) (by decide +kernel)⟩
theorem lw_p60 : lw_okq (⟨"TownOnWeightModel", "leaksNow", "()I"⟩, 47) := ⟨⟨by decide +kernel, by decide +kernel⟩, List.mem_of_getElem? (i := 600) (by decide +kernel), List.mem_of_getElem? (i := 957) (by decide +kernel), List.mem_of_getElem? (i := 958) (by decide +kernel)⟩
theorem lw_p61 : lw_okq (⟨"TownOnWeightModel", "lookNow", "()I"⟩, 47) := ⟨⟨by decide +kernel, by decide +kernel⟩, List.mem_of_getElem? (i := 600) (by decide +kernel), List.mem_of_getElem? (i := 965) (by decide +kernel), List.mem_of_getElem? (i := 966) (by decide +kernel)⟩
theorem lw_p62 : lw_okq (⟨"TownOnWeightModel", "howMany", "(I)I"⟩, 47) := ⟨⟨by decide +kernel, by decide +kernel⟩, List.mem_of_getElem? (i := 600) (by decide +kernel), List.mem_of_getElem? (i := 981) (by decide +kernel), List.mem_of_getElem? (i := 982) (by decide +kernel)⟩
theorem lw_p63 : lw_okq (⟨"TownOnWeightModel", "mix", "(J)V"⟩, 47) := ⟨⟨by decide +kernel, by decide +kernel⟩, List.mem_of_getElem? (i := 600) (by decide +kernel), List.mem_of_getElem? (i := 990) (by decide +kernel), List.mem_of_getElem? (i := 991) (by decide +kernel)⟩
def lw_privs_4 : List (MethodName × Nat) := [(⟨"TownOnWeightModel", "working", "()I"⟩, 47), (⟨"TownOnWeightModel", "partOf", "(I)I"⟩, 47), (⟨"TownOnWeightModel", "takenAll", "()I"⟩, 47), (⟨"TownOnWeightModel", "planNow", "(I)I"⟩, 47), (⟨"TownOnWeightModel", "takenOn", "(II)I"⟩, 47), (⟨"TownOnWeightModel", "save", "()V"⟩, 47), (⟨"TownOnWeightModel", "back", "()V"⟩, 47), (⟨"TownOnWeightModel", "moreNow", "(I)I"⟩, 47), (⟨"TownOnWeightModel", "sumOf", "(I)I"⟩, 47), (⟨"TownOnWeightModel", "draw", "(I)I"⟩, 47), (⟨"TownOnWeightModel", "leakNow", "(I)I"⟩, 47), (⟨"TownOnWeightModel", "feetBy", "(I)I"⟩, 47), (⟨"TownOnWeightModel", "leaksNow", "()I"⟩, 47), (⟨"TownOnWeightModel", "lookNow", "()I"⟩, 47), (⟨"TownOnWeightModel", "howMany", "(I)I"⟩, 47), (⟨"TownOnWeightModel", "mix", "(J)V"⟩, 47)]
theorem lw_r4 : ∀ q ∈ lw_privs_4, lw_okq q := List.forall_mem_cons.mpr ⟨lw_p48, List.forall_mem_cons.mpr ⟨lw_p49, List.forall_mem_cons.mpr ⟨lw_p50, List.forall_mem_cons.mpr ⟨lw_p51, List.forall_mem_cons.mpr ⟨lw_p52, List.forall_mem_cons.mpr ⟨lw_p53, List.forall_mem_cons.mpr ⟨lw_p54, List.forall_mem_cons.mpr ⟨lw_p55, List.forall_mem_cons.mpr ⟨lw_p56, List.forall_mem_cons.mpr ⟨lw_p57, List.forall_mem_cons.mpr ⟨lw_p58, List.forall_mem_cons.mpr ⟨lw_p59, List.forall_mem_cons.mpr ⟨lw_p60, List.forall_mem_cons.mpr ⟨lw_p61, List.forall_mem_cons.mpr ⟨lw_p62, List.forall_mem_cons.mpr ⟨lw_p63, fun _ h => absurd h List.not_mem_nil⟩⟩⟩⟩⟩⟩⟩⟩⟩⟩⟩⟩⟩⟩⟩⟩
def lw_privs : List (MethodName × Nat) := lw_privs_1 ++ (lw_privs_2 ++ (lw_privs_3 ++ (lw_privs_4)))
def lw_tbl : List Cond := k2_sels lw_privs ++ tables_1
theorem lw_privs_ok : ∀ q ∈ lw_privs, lw_okq q := by
  show ∀ q ∈ lw_privs_1 ++ (lw_privs_2 ++ (lw_privs_3 ++ (lw_privs_4))), lw_okq q
  exact List.forall_mem_append.mpr ⟨lw_r1, List.forall_mem_append.mpr ⟨lw_r2, List.forall_mem_append.mpr ⟨lw_r3, lw_r4⟩⟩⟩
end
section
/-! ===== BEGIN words of one list among another's, by their places ===== -/
theorem goodIn_r {big : List Cond} (ws : List Cond) (ps : List Nat) (hp : ws = ps.filterMap (fun i => big[i]?)) (h : ws.all goodWord = true) : GoodIn big ws := by
  intro w hw
  have h1 := List.all_eq_true.mp h w hw
  rw [hp] at hw
  obtain ⟨i, -, hi⟩ := List.mem_filterMap.mp hw
  have hm : w ∈ big := by first | exact List.mem_of_getElem? hi | exact List.getElem?_mem hi
  exact ⟨hm, good_of_word h1⟩
theorem goodIn_app {big a b : List Cond} (ha : GoodIn big a) (hb : GoodIn big b) : GoodIn big (a ++ b) := fun w h => (List.mem_append.mp h).elim (ha w) (hb w)
theorem goodIn_ca {big a b : List Cond} {c : Cond} (ha : GoodIn big (c :: a)) (hb : GoodIn big b) : GoodIn big (c :: (a ++ b)) := fun w h => (List.mem_cons.mp h).elim (fun e => ha w (List.mem_cons.mpr (Or.inl e))) (fun h => (List.mem_append.mp h).elim (fun h => ha w (List.mem_cons.mpr (Or.inr h))) (hb w))
theorem goodIn_sub {big ws : List Cond} (hm : ∀ w ∈ ws, w ∈ big) (h : ws.all goodWord = true) : GoodIn big ws := fun w hw => ⟨hm w hw, good_of_word (List.all_eq_true.mp h w hw)⟩
/-! ===== END ===== -/

/-! ===== BEGIN printed: names, fields, word lists, decode rows ===== -/
def RX0 : String := "TownOnWeight$Day"
def TX0 : u_T := fun k => match k with
  | 0 => ("TownOnWeight$Day", "length", "I", false)
  | 1 => ("TownOnWeight$Day", "hangs", "I", false)
  | 2 => ("TownOnWeight$Day", "hour", "I", false)
  | 3 => ("TownOnWeight$Day", "lost", "I", false)
  | 4 => ("TownOnWeight$Day", "worked", "I", false)
  | 5 => ("TownOnWeight$Day", "brakes", "I", false)
  | 6 => ("TownOnWeight$Day", "rain", "Z", false)
  | 7 => ("TownOnWeight$Day", "down", "Z", false)
  | 8 => ("TownOnWeight$Day", "takenByAll", "I", false)
  | 9 => ("TownOnWeight$Day", "taken", "[I", true)
  | 10 => ("TownOnWeight$Day", "owed", "[I", true)
  | 11 => ("TownOnWeight$Day", "wanted", "[I", true)
  | 12 => ("TownOnWeight$Day", "parts", "[I", true)
  | _ => ("TownOnWeight$Day", "rests", "[I", true)
def tyX0 : Nat → FieldType := fun k => match k with
  | 0 => .int
  | 1 => .int
  | 2 => .int
  | 3 => .int
  | 4 => .int
  | 5 => .int
  | 6 => .boolean
  | 7 => .boolean
  | 8 => .int
  | 9 => .array .int
  | 10 => .array .int
  | 11 => .array .int
  | 12 => .array .int
  | _ => .array .int
abbrev wsX00 : List Cond := u_ws RX0 TX0 14
theorem nmX0 : ∀ a, a < 14 → ∀ b, b < 14 → a ≠ b → (TX0 a).2.1 ≠ (TX0 b).2.1 := by decide +kernel
theorem tyX0_ok : ∀ k, k < 14 → parseFieldDescriptor (TX0 k).2.2.1 = some (tyX0 k) := by decide +kernel
abbrev cX0_init : ByteArray := prog_2_method_1_code
def yX0_init : MethodName := ⟨RX0, "<init>", "()V"⟩
abbrev cX0_copyFrom : ByteArray := prog_2_method_2_code
def yX0_copyFrom : MethodName := ⟨RX0, "copyFrom", "(LTownOnWeight$Day;)V"⟩
abbrev cX0_hasBegun : ByteArray := prog_2_method_3_code
def yX0_hasBegun : MethodName := ⟨RX0, "hasBegun", "()Z"⟩
abbrev cX0_hourComes : ByteArray := prog_2_method_4_code
def yX0_hourComes : MethodName := ⟨RX0, "hourComes", "()Z"⟩
abbrev cX0_welcome : ByteArray := prog_2_method_5_code
def yX0_welcome : MethodName := ⟨RX0, "welcome", "(I)V"⟩
abbrev cX0_wantOf : ByteArray := prog_2_method_6_code
def yX0_wantOf : MethodName := ⟨RX0, "wantOf", "(LTownOnWeight$Houses;I)I"⟩
abbrev cX0_tellWanted : ByteArray := prog_2_method_7_code
def yX0_tellWanted : MethodName := ⟨RX0, "tellWanted", "(LTownOnWeight$Houses;)V"⟩
abbrev cX0_goesBy : ByteArray := prog_2_method_8_code
def yX0_goesBy : MethodName := ⟨RX0, "goesBy", "(LTownOnWeight$Houses;I)I"⟩
abbrev cX0_passHour : ByteArray := prog_2_method_9_code
def yX0_passHour : MethodName := ⟨RX0, "passHour", "(LTownOnWeight$Houses;)I"⟩
abbrev cX0_letWork : ByteArray := prog_2_method_10_code
def yX0_letWork : MethodName := ⟨RX0, "letWork", "(III)V"⟩
abbrev cX0_tellParts : ByteArray := prog_2_method_11_code
def yX0_tellParts : MethodName := ⟨RX0, "tellParts", "(I)V"⟩
abbrev cX0_greatestRest : ByteArray := prog_2_method_12_code
def yX0_greatestRest : MethodName := ⟨RX0, "greatestRest", "(I)I"⟩
abbrev cX0_passNight : ByteArray := prog_2_method_13_code
def yX0_passNight : MethodName := ⟨RX0, "passNight", "(I)I"⟩
def RX1 : String := "TownOnWeight$Houses"
def TX1 : u_T := fun k => match k with
  | 0 => ("TownOnWeight$Houses", "number", "I", false)
  | 1 => ("TownOnWeight$Houses", "kind", "[I", true)
  | 2 => ("TownOnWeight$Houses", "parent", "[I", true)
  | 3 => ("TownOnWeight$Houses", "from", "[I", true)
  | 4 => ("TownOnWeight$Houses", "to", "[I", true)
  | 5 => ("TownOnWeight$Houses", "takes", "[I", true)
  | 6 => ("TownOnWeight$Houses", "loss", "[I", true)
  | _ => ("TownOnWeight$Houses", "way", "[I", true)
def tyX1 : Nat → FieldType := fun k => match k with
  | 0 => .int
  | 1 => .array .int
  | 2 => .array .int
  | 3 => .array .int
  | 4 => .array .int
  | 5 => .array .int
  | 6 => .array .int
  | _ => .array .int
abbrev wsX10 : List Cond := u_ws RX1 TX1 8
theorem nmX1 : ∀ a, a < 8 → ∀ b, b < 8 → a ≠ b → (TX1 a).2.1 ≠ (TX1 b).2.1 := by decide +kernel
theorem tyX1_ok : ∀ k, k < 8 → parseFieldDescriptor (TX1 k).2.2.1 = some (tyX1 k) := by decide +kernel
abbrev cX1_init : ByteArray := prog_3_method_1_code
def yX1_init : MethodName := ⟨RX1, "<init>", "()V"⟩
abbrev cX1_has : ByteArray := prog_3_method_2_code
def yX1_has : MethodName := ⟨RX1, "has", "(I)Z"⟩
abbrev cX1_all : ByteArray := prog_3_method_3_code
def yX1_all : MethodName := ⟨RX1, "all", "()I"⟩
abbrev cX1_areBits : ByteArray := prog_3_method_4_code
def yX1_areBits : MethodName := ⟨RX1, "areBits", "(I)Z"⟩
abbrev cX1_add : ByteArray := prog_3_method_5_code
def yX1_add : MethodName := ⟨RX1, "add", "(LTownOnWeight$Page;)V"⟩
abbrev cX1_isA : ByteArray := prog_3_method_6_code
def yX1_isA : MethodName := ⟨RX1, "isA", "(II)Z"⟩
abbrev cX1_isOpen : ByteArray := prog_3_method_7_code
def yX1_isOpen : MethodName := ⟨RX1, "isOpen", "(II)Z"⟩
abbrev cX1_openIn : ByteArray := prog_3_method_8_code
def yX1_openIn : MethodName := ⟨RX1, "openIn", "(I)I"⟩
abbrev cX1_takesOf : ByteArray := prog_3_method_9_code
def yX1_takesOf : MethodName := ⟨RX1, "takesOf", "(I)I"⟩
abbrev cX1_waysTo : ByteArray := prog_3_method_10_code
def yX1_waysTo : MethodName := ⟨RX1, "waysTo", "(I)I"⟩
abbrev cX1_toldLossOf : ByteArray := prog_3_method_11_code
def yX1_toldLossOf : MethodName := ⟨RX1, "toldLossOf", "(I)I"⟩
abbrev cX1_lossOf : ByteArray := prog_3_method_12_code
def yX1_lossOf : MethodName := ⟨RX1, "lossOf", "(IZ)I"⟩
def RX2 : String := "TownOnWeight$Page"
def TX2 : u_T := fun k => match k with
  | 0 => ("TownOnWeight$Page", "size", "I", false)
  | _ => ("TownOnWeight$Page", "codes", "[I", true)
def tyX2 : Nat → FieldType := fun k => match k with
  | 0 => .int
  | _ => .array .int
abbrev wsX20 : List Cond := u_ws RX2 TX2 2
theorem nmX2 : ∀ a, a < 2 → ∀ b, b < 2 → a ≠ b → (TX2 a).2.1 ≠ (TX2 b).2.1 := by decide +kernel
theorem tyX2_ok : ∀ k, k < 2 → parseFieldDescriptor (TX2 k).2.2.1 = some (tyX2 k) := by decide +kernel
abbrev cX2_init : ByteArray := prog_4_method_1_code
def yX2_init : MethodName := ⟨RX2, "<init>", "()V"⟩
abbrev cX2_codeIn : ByteArray := prog_4_method_2_code
def yX2_codeIn : MethodName := ⟨RX2, "codeIn", "(JI)I"⟩
abbrev cX2_lettersIn : ByteArray := prog_4_method_3_code
def yX2_lettersIn : MethodName := ⟨RX2, "lettersIn", "(J)I"⟩
abbrev cX2_append : ByteArray := prog_4_method_4_code
def yX2_append : MethodName := ⟨RX2, "append", "(JI)V"⟩
abbrev cX2_faultAt : ByteArray := prog_4_method_5_code
def yX2_faultAt : MethodName := ⟨RX2, "faultAt", "(I)I"⟩
abbrev cX2_isHouse : ByteArray := prog_4_method_6_code
def yX2_isHouse : MethodName := ⟨RX2, "isHouse", "(I)Z"⟩
abbrev cX2_fits : ByteArray := prog_4_method_7_code
def yX2_fits : MethodName := ⟨RX2, "fits", "(II)Z"⟩
abbrev cX2_kindOf : ByteArray := prog_4_method_8_code
def yX2_kindOf : MethodName := ⟨RX2, "kindOf", "(I)I"⟩
abbrev cX2_isDigit : ByteArray := prog_4_method_9_code
def yX2_isDigit : MethodName := ⟨RX2, "isDigit", "(III)Z"⟩
abbrev cX2_digitAt : ByteArray := prog_4_method_10_code
def yX2_digitAt : MethodName := ⟨RX2, "digitAt", "(I)I"⟩
def RX3 : String := "TownOnWeight$Readings"
def TX3 : u_T := fun k => match k with
  | 0 => ("TownOnWeight$Readings", "number", "I", false)
  | 1 => ("TownOnWeight$Readings", "through", "[I", true)
  | _ => ("TownOnWeight$Readings", "extra", "[I", true)
def tyX3 : Nat → FieldType := fun k => match k with
  | 0 => .int
  | 1 => .array .int
  | _ => .array .int
abbrev wsX30 : List Cond := u_ws RX3 TX3 3
theorem nmX3 : ∀ a, a < 3 → ∀ b, b < 3 → a ≠ b → (TX3 a).2.1 ≠ (TX3 b).2.1 := by decide +kernel
theorem tyX3_ok : ∀ k, k < 3 → parseFieldDescriptor (TX3 k).2.2.1 = some (tyX3 k) := by decide +kernel
abbrev cX3_init : ByteArray := prog_5_method_1_code
def yX3_init : MethodName := ⟨RX3, "<init>", "()V"⟩
abbrev cX3_add : ByteArray := prog_5_method_2_code
def yX3_add : MethodName := ⟨RX3, "add", "(II)V"⟩
abbrev cX3_copyFrom : ByteArray := prog_5_method_3_code
def yX3_copyFrom : MethodName := ⟨RX3, "copyFrom", "(LTownOnWeight$Readings;)V"⟩
abbrev cX3_leastLeakOf : ByteArray := prog_5_method_4_code
def yX3_leastLeakOf : MethodName := ⟨RX3, "leastLeakOf", "(I)I"⟩
abbrev cX3_givesAll : ByteArray := prog_5_method_5_code
def yX3_givesAll : MethodName := ⟨RX3, "givesAll", "(II)Z"⟩
def RX4 : String := "TownOnWeight"
def TX4 : u_T := fun k => match k with
  | 0 => ("TownOnWeight", "page", "LTownOnWeight$Page;", true)
  | 1 => ("TownOnWeight", "houses", "LTownOnWeight$Houses;", true)
  | 2 => ("TownOnWeight", "day", "LTownOnWeight$Day;", true)
  | 3 => ("TownOnWeight", "readings", "LTownOnWeight$Readings;", true)
  | 4 => ("TownOnWeight", "ahead", "LTownOnWeight$Day;", true)
  | 5 => ("TownOnWeight", "hasImage", "Z", false)
  | 6 => ("TownOnWeight", "imageHouses", "I", false)
  | 7 => ("TownOnWeight", "imageDay", "LTownOnWeight$Day;", true)
  | _ => ("TownOnWeight", "imageReadings", "LTownOnWeight$Readings;", true)
def tyX4 : Nat → FieldType := fun k => match k with
  | 0 => .object "TownOnWeight$Page"
  | 1 => .object "TownOnWeight$Houses"
  | 2 => .object "TownOnWeight$Day"
  | 3 => .object "TownOnWeight$Readings"
  | 4 => .object "TownOnWeight$Day"
  | 5 => .boolean
  | 6 => .int
  | 7 => .object "TownOnWeight$Day"
  | _ => .object "TownOnWeight$Readings"
abbrev wsX40 : List Cond := u_ws RX4 TX4 9
theorem nmX4 : ∀ a, a < 9 → ∀ b, b < 9 → a ≠ b → (TX4 a).2.1 ≠ (TX4 b).2.1 := by decide +kernel
theorem tyX4_ok : ∀ k, k < 9 → parseFieldDescriptor (TX4 k).2.2.1 = some (tyX4 k) := by decide +kernel
abbrev cX4_init : ByteArray := prog_1_method_1_code
def yX4_init : MethodName := ⟨RX4, "<init>", "()V"⟩
abbrev cX4_letters : ByteArray := prog_1_method_2_code
def yX4_letters : MethodName := ⟨RX4, "letters", "(J)I"⟩
abbrev cX4_blank : ByteArray := prog_1_method_3_code
def yX4_blank : MethodName := ⟨RX4, "blank", "()I"⟩
abbrev cX4_fault : ByteArray := prog_1_method_4_code
def yX4_fault : MethodName := ⟨RX4, "fault", "()I"⟩
abbrev cX4_house : ByteArray := prog_1_method_5_code
def yX4_house : MethodName := ⟨RX4, "house", "()I"⟩
abbrev cX4_about : ByteArray := prog_1_method_6_code
def yX4_about : MethodName := ⟨RX4, "about", "(II)I"⟩
abbrev cX4_as : ByteArray := prog_1_method_7_code
def yX4_as : MethodName := ⟨RX4, "as", "(II)I"⟩
abbrev cX4_length : ByteArray := prog_1_method_8_code
def yX4_length : MethodName := ⟨RX4, "length", "(I)I"⟩
abbrev cX4_brake : ByteArray := prog_1_method_9_code
def yX4_brake : MethodName := ⟨RX4, "brake", "(IZ)I"⟩
abbrev cX4_rain : ByteArray := prog_1_method_10_code
def yX4_rain : MethodName := ⟨RX4, "rain", "(Z)I"⟩
abbrev cX4_wants : ByteArray := prog_1_method_11_code
def yX4_wants : MethodName := ⟨RX4, "wants", "(I)I"⟩
abbrev cX4_goes : ByteArray := prog_1_method_12_code
def yX4_goes : MethodName := ⟨RX4, "goes", "(I)I"⟩
abbrev cX4_hour : ByteArray := prog_1_method_13_code
def yX4_hour : MethodName := ⟨RX4, "hour", "()I"⟩
abbrev cX4_worked : ByteArray := prog_1_method_14_code
def yX4_worked : MethodName := ⟨RX4, "worked", "()I"⟩
abbrev cX4_part : ByteArray := prog_1_method_15_code
def yX4_part : MethodName := ⟨RX4, "part", "(I)I"⟩
abbrev cX4_night : ByteArray := prog_1_method_16_code
def yX4_night : MethodName := ⟨RX4, "night", "()I"⟩
abbrev cX4_plan : ByteArray := prog_1_method_17_code
def yX4_plan : MethodName := ⟨RX4, "plan", "(I)I"⟩
abbrev cX4_more : ByteArray := prog_1_method_18_code
def yX4_more : MethodName := ⟨RX4, "more", "(I)I"⟩
abbrev cX4_missing : ByteArray := prog_1_method_19_code
def yX4_missing : MethodName := ⟨RX4, "missing", "(II)I"⟩
abbrev cX4_rest : ByteArray := prog_1_method_20_code
def yX4_rest : MethodName := ⟨RX4, "rest", "(II)I"⟩
abbrev cX4_read : ByteArray := prog_1_method_21_code
def yX4_read : MethodName := ⟨RX4, "read", "(II)I"⟩
abbrev cX4_wipe : ByteArray := prog_1_method_22_code
def yX4_wipe : MethodName := ⟨RX4, "wipe", "()I"⟩
abbrev cX4_leaks : ByteArray := prog_1_method_23_code
def yX4_leaks : MethodName := ⟨RX4, "leaks", "()I"⟩
abbrev cX4_leak : ByteArray := prog_1_method_24_code
def yX4_leak : MethodName := ⟨RX4, "leak", "(I)I"⟩
abbrev cX4_look : ByteArray := prog_1_method_25_code
def yX4_look : MethodName := ⟨RX4, "look", "()I"⟩
abbrev cX4_image : ByteArray := prog_1_method_26_code
def yX4_image : MethodName := ⟨RX4, "image", "()I"⟩
abbrev cX4_restore : ByteArray := prog_1_method_27_code
def yX4_restore : MethodName := ⟨RX4, "restore", "()I"⟩
abbrev cX4_count : ByteArray := prog_1_method_28_code
def yX4_count : MethodName := ⟨RX4, "count", "(I)I"⟩
abbrev cX4_digest : ByteArray := prog_1_method_29_code
def yX4_digest : MethodName := ⟨RX4, "digest", "()J"⟩
abbrev cX4_digestOfHouses : ByteArray := prog_1_method_30_code
def yX4_digestOfHouses : MethodName := ⟨RX4, "digestOfHouses", "(J)J"⟩
abbrev cX4_bestBrakes : ByteArray := prog_1_method_31_code
def yX4_bestBrakes : MethodName := ⟨RX4, "bestBrakes", "()I"⟩
abbrev cX4_takenAhead : ByteArray := prog_1_method_32_code
def yX4_takenAhead : MethodName := ⟨RX4, "takenAhead", "(II)I"⟩
abbrev cX4_seedAfter : ByteArray := prog_1_method_33_code
def yX4_seedAfter : MethodName := ⟨RX4, "seedAfter", "(I)I"⟩
abbrev cX4_bit : ByteArray := prog_1_method_34_code
def yX4_bit : MethodName := ⟨RX4, "bit", "(I)I"⟩
abbrev cX4_isIn : ByteArray := prog_1_method_35_code
def yX4_isIn : MethodName := ⟨RX4, "isIn", "(II)Z"⟩
abbrev cX4_oneIf : ByteArray := prog_1_method_36_code
def yX4_oneIf : MethodName := ⟨RX4, "oneIf", "(Z)I"⟩
def RX5 : String := "TownOnWeightModel"
def TX5 : u_T := fun k => match k with
  | 0 => ("TownOnWeightModel", "houses", "I", false)
  | 1 => ("TownOnWeightModel", "kindOf", "[I", true)
  | 2 => ("TownOnWeightModel", "parentOf", "[I", true)
  | 3 => ("TownOnWeightModel", "fromOf", "[I", true)
  | 4 => ("TownOnWeightModel", "toOf", "[I", true)
  | 5 => ("TownOnWeightModel", "takesOf", "[I", true)
  | 6 => ("TownOnWeightModel", "lossOf", "[I", true)
  | 7 => ("TownOnWeightModel", "takenOf", "[I", true)
  | 8 => ("TownOnWeightModel", "owesOf", "[I", true)
  | 9 => ("TownOnWeightModel", "brakes", "I", false)
  | 10 => ("TownOnWeightModel", "longNow", "I", false)
  | 11 => ("TownOnWeightModel", "hangs", "I", false)
  | 12 => ("TownOnWeightModel", "hourNow", "I", false)
  | 13 => ("TownOnWeightModel", "lostNow", "I", false)
  | 14 => ("TownOnWeightModel", "workedNow", "I", false)
  | 15 => ("TownOnWeightModel", "isDown", "Z", false)
  | 16 => ("TownOnWeightModel", "isRain", "Z", false)
  | 17 => ("TownOnWeightModel", "readings", "I", false)
  | 18 => ("TownOnWeightModel", "readSet", "[I", true)
  | 19 => ("TownOnWeightModel", "readFeet", "[I", true)
  | 20 => ("TownOnWeightModel", "pageLength", "I", false)
  | 21 => ("TownOnWeightModel", "page", "[B", true)
  | 22 => ("TownOnWeightModel", "savedTaken", "[I", true)
  | 23 => ("TownOnWeightModel", "savedBrakes", "I", false)
  | 24 => ("TownOnWeightModel", "savedHangs", "I", false)
  | 25 => ("TownOnWeightModel", "savedHour", "I", false)
  | 26 => ("TownOnWeightModel", "savedLost", "I", false)
  | 27 => ("TownOnWeightModel", "savedWorked", "I", false)
  | 28 => ("TownOnWeightModel", "savedDown", "Z", false)
  | 29 => ("TownOnWeightModel", "savedRain", "Z", false)
  | 30 => ("TownOnWeightModel", "seedNow", "J", false)
  | 31 => ("TownOnWeightModel", "isKept", "Z", false)
  | 32 => ("TownOnWeightModel", "keptHouses", "I", false)
  | 33 => ("TownOnWeightModel", "keptLong", "I", false)
  | 34 => ("TownOnWeightModel", "keptHangs", "I", false)
  | 35 => ("TownOnWeightModel", "keptHour", "I", false)
  | 36 => ("TownOnWeightModel", "keptLost", "I", false)
  | 37 => ("TownOnWeightModel", "keptWorked", "I", false)
  | 38 => ("TownOnWeightModel", "keptBrakes", "I", false)
  | 39 => ("TownOnWeightModel", "keptDown", "Z", false)
  | 40 => ("TownOnWeightModel", "keptRain", "Z", false)
  | 41 => ("TownOnWeightModel", "keptReadings", "I", false)
  | 42 => ("TownOnWeightModel", "keptTaken", "[I", true)
  | 43 => ("TownOnWeightModel", "keptOwes", "[I", true)
  | 44 => ("TownOnWeightModel", "keptSet", "[I", true)
  | 45 => ("TownOnWeightModel", "keptFeet", "[I", true)
  | _ => ("TownOnWeightModel", "h", "J", false)
def tyX5 : Nat → FieldType := fun k => match k with
  | 0 => .int
  | 1 => .array .int
  | 2 => .array .int
  | 3 => .array .int
  | 4 => .array .int
  | 5 => .array .int
  | 6 => .array .int
  | 7 => .array .int
  | 8 => .array .int
  | 9 => .int
  | 10 => .int
  | 11 => .int
  | 12 => .int
  | 13 => .int
  | 14 => .int
  | 15 => .boolean
  | 16 => .boolean
  | 17 => .int
  | 18 => .array .int
  | 19 => .array .int
  | 20 => .int
  | 21 => .array .byte
  | 22 => .array .int
  | 23 => .int
  | 24 => .int
  | 25 => .int
  | 26 => .int
  | 27 => .int
  | 28 => .boolean
  | 29 => .boolean
  | 30 => .long
  | 31 => .boolean
  | 32 => .int
  | 33 => .int
  | 34 => .int
  | 35 => .int
  | 36 => .int
  | 37 => .int
  | 38 => .int
  | 39 => .boolean
  | 40 => .boolean
  | 41 => .int
  | 42 => .array .int
  | 43 => .array .int
  | 44 => .array .int
  | 45 => .array .int
  | _ => .long
abbrev wsX50 : List Cond := u_ws RX5 TX5 47
theorem nmX5 : ∀ a, a < 47 → ∀ b, b < 47 → a ≠ b → (TX5 a).2.1 ≠ (TX5 b).2.1 := by decide +kernel
theorem tyX5_ok : ∀ k, k < 47 → parseFieldDescriptor (TX5 k).2.2.1 = some (tyX5 k) := by decide +kernel
abbrev cX5_init : ByteArray := prog_7_method_1_code
def yX5_init : MethodName := ⟨RX5, "<init>", "()V"⟩
abbrev cX5_within : ByteArray := prog_7_method_3_code
def yX5_within : MethodName := ⟨RX5, "within", "(III)Z"⟩
abbrev cX5_has : ByteArray := prog_7_method_4_code
def yX5_has : MethodName := ⟨RX5, "has", "(II)Z"⟩
abbrev cX5_size : ByteArray := prog_7_method_5_code
def yX5_size : MethodName := ⟨RX5, "size", "(I)I"⟩
abbrev cX5_letters : ByteArray := prog_7_method_6_code
def yX5_letters : MethodName := ⟨RX5, "letters", "(J)I"⟩
abbrev cX5_blank : ByteArray := prog_7_method_7_code
def yX5_blank : MethodName := ⟨RX5, "blank", "()I"⟩
abbrev cX5_kindBy : ByteArray := prog_7_method_8_code
def yX5_kindBy : MethodName := ⟨RX5, "kindBy", "(I)I"⟩
abbrev cX5_mayStand : ByteArray := prog_7_method_9_code
def yX5_mayStand : MethodName := ⟨RX5, "mayStand", "(II)Z"⟩
abbrev cX5_faultNow : ByteArray := prog_7_method_10_code
def yX5_faultNow : MethodName := ⟨RX5, "faultNow", "()I"⟩
abbrev cX5_fault : ByteArray := prog_7_method_11_code
def yX5_fault : MethodName := ⟨RX5, "fault", "()I"⟩
abbrev cX5_house : ByteArray := prog_7_method_12_code
def yX5_house : MethodName := ⟨RX5, "house", "()I"⟩
abbrev cX5_isHouse : ByteArray := prog_7_method_13_code
def yX5_isHouse : MethodName := ⟨RX5, "isHouse", "(I)Z"⟩
abbrev cX5_houseNow : ByteArray := prog_7_method_14_code
def yX5_houseNow : MethodName := ⟨RX5, "houseNow", "(II)I"⟩
abbrev cX5_about : ByteArray := prog_7_method_15_code
def yX5_about : MethodName := ⟨RX5, "about", "(II)I"⟩
abbrev cX5_as : ByteArray := prog_7_method_16_code
def yX5_as : MethodName := ⟨RX5, "as", "(II)I"⟩
abbrev cX5_length : ByteArray := prog_7_method_17_code
def yX5_length : MethodName := ⟨RX5, "length", "(I)I"⟩
abbrev cX5_brake : ByteArray := prog_7_method_18_code
def yX5_brake : MethodName := ⟨RX5, "brake", "(IZ)I"⟩
abbrev cX5_rain : ByteArray := prog_7_method_19_code
def yX5_rain : MethodName := ⟨RX5, "rain", "(Z)I"⟩
abbrev cX5_isTime : ByteArray := prog_7_method_20_code
def yX5_isTime : MethodName := ⟨RX5, "isTime", "(I)Z"⟩
abbrev cX5_wantsNow : ByteArray := prog_7_method_21_code
def yX5_wantsNow : MethodName := ⟨RX5, "wantsNow", "(I)I"⟩
abbrev cX5_wants : ByteArray := prog_7_method_22_code
def yX5_wants : MethodName := ⟨RX5, "wants", "(I)I"⟩
abbrev cX5_shafts : ByteArray := prog_7_method_23_code
def yX5_shafts : MethodName := ⟨RX5, "shafts", "(I)I"⟩
abbrev cX5_wanting : ByteArray := prog_7_method_24_code
def yX5_wanting : MethodName := ⟨RX5, "wanting", "(I)I"⟩
abbrev cX5_takesBy : ByteArray := prog_7_method_25_code
def yX5_takesBy : MethodName := ⟨RX5, "takesBy", "(I)I"⟩
abbrev cX5_goesBy : ByteArray := prog_7_method_26_code
def yX5_goesBy : MethodName := ⟨RX5, "goesBy", "(I)I"⟩
abbrev cX5_everybody : ByteArray := prog_7_method_27_code
def yX5_everybody : MethodName := ⟨RX5, "everybody", "()I"⟩
abbrev cX5_goes : ByteArray := prog_7_method_28_code
def yX5_goes : MethodName := ⟨RX5, "goes", "(I)I"⟩
abbrev cX5_working : ByteArray := prog_7_method_29_code
def yX5_working : MethodName := ⟨RX5, "working", "()I"⟩
abbrev cX5_isOver : ByteArray := prog_7_method_30_code
def yX5_isOver : MethodName := ⟨RX5, "isOver", "()Z"⟩
abbrev cX5_goHour : ByteArray := prog_7_method_31_code
def yX5_goHour : MethodName := ⟨RX5, "goHour", "()I"⟩
abbrev cX5_hour : ByteArray := prog_7_method_32_code
def yX5_hour : MethodName := ⟨RX5, "hour", "()I"⟩
abbrev cX5_worked : ByteArray := prog_7_method_33_code
def yX5_worked : MethodName := ⟨RX5, "worked", "()I"⟩
abbrev cX5_takenAll : ByteArray := prog_7_method_34_code
def yX5_takenAll : MethodName := ⟨RX5, "takenAll", "()I"⟩
abbrev cX5_partOf : ByteArray := prog_7_method_35_code
def yX5_partOf : MethodName := ⟨RX5, "partOf", "(I)I"⟩
abbrev cX5_part : ByteArray := prog_7_method_36_code
def yX5_part : MethodName := ⟨RX5, "part", "(I)I"⟩
abbrev cX5_night : ByteArray := prog_7_method_37_code
def yX5_night : MethodName := ⟨RX5, "night", "()I"⟩
abbrev cX5_save : ByteArray := prog_7_method_38_code
def yX5_save : MethodName := ⟨RX5, "save", "()V"⟩
abbrev cX5_back : ByteArray := prog_7_method_39_code
def yX5_back : MethodName := ⟨RX5, "back", "()V"⟩
abbrev cX5_takenOn : ByteArray := prog_7_method_40_code
def yX5_takenOn : MethodName := ⟨RX5, "takenOn", "(II)I"⟩
abbrev cX5_planNow : ByteArray := prog_7_method_41_code
def yX5_planNow : MethodName := ⟨RX5, "planNow", "(I)I"⟩
abbrev cX5_plan : ByteArray := prog_7_method_42_code
def yX5_plan : MethodName := ⟨RX5, "plan", "(I)I"⟩
abbrev cX5_moreNow : ByteArray := prog_7_method_43_code
def yX5_moreNow : MethodName := ⟨RX5, "moreNow", "(I)I"⟩
abbrev cX5_more : ByteArray := prog_7_method_44_code
def yX5_more : MethodName := ⟨RX5, "more", "(I)I"⟩
abbrev cX5_sumOf : ByteArray := prog_7_method_45_code
def yX5_sumOf : MethodName := ⟨RX5, "sumOf", "(I)I"⟩
abbrev cX5_missing : ByteArray := prog_7_method_46_code
def yX5_missing : MethodName := ⟨RX5, "missing", "(II)I"⟩
abbrev cX5_draw : ByteArray := prog_7_method_47_code
def yX5_draw : MethodName := ⟨RX5, "draw", "(I)I"⟩
abbrev cX5_rest : ByteArray := prog_7_method_48_code
def yX5_rest : MethodName := ⟨RX5, "rest", "(II)I"⟩
abbrev cX5_read : ByteArray := prog_7_method_49_code
def yX5_read : MethodName := ⟨RX5, "read", "(II)I"⟩
abbrev cX5_wipe : ByteArray := prog_7_method_50_code
def yX5_wipe : MethodName := ⟨RX5, "wipe", "()I"⟩
abbrev cX5_feetBy : ByteArray := prog_7_method_51_code
def yX5_feetBy : MethodName := ⟨RX5, "feetBy", "(I)I"⟩
abbrev cX5_leakNow : ByteArray := prog_7_method_52_code
def yX5_leakNow : MethodName := ⟨RX5, "leakNow", "(I)I"⟩
abbrev cX5_leak : ByteArray := prog_7_method_53_code
def yX5_leak : MethodName := ⟨RX5, "leak", "(I)I"⟩
abbrev cX5_leaksNow : ByteArray := prog_7_method_54_code
def yX5_leaksNow : MethodName := ⟨RX5, "leaksNow", "()I"⟩
abbrev cX5_leaks : ByteArray := prog_7_method_55_code
def yX5_leaks : MethodName := ⟨RX5, "leaks", "()I"⟩
abbrev cX5_lookNow : ByteArray := prog_7_method_56_code
def yX5_lookNow : MethodName := ⟨RX5, "lookNow", "()I"⟩
abbrev cX5_look : ByteArray := prog_7_method_57_code
def yX5_look : MethodName := ⟨RX5, "look", "()I"⟩
abbrev cX5_image : ByteArray := prog_7_method_58_code
def yX5_image : MethodName := ⟨RX5, "image", "()I"⟩
abbrev cX5_restore : ByteArray := prog_7_method_59_code
def yX5_restore : MethodName := ⟨RX5, "restore", "()I"⟩
abbrev cX5_howMany : ByteArray := prog_7_method_60_code
def yX5_howMany : MethodName := ⟨RX5, "howMany", "(I)I"⟩
abbrev cX5_count : ByteArray := prog_7_method_61_code
def yX5_count : MethodName := ⟨RX5, "count", "(I)I"⟩
abbrev cX5_mix : ByteArray := prog_7_method_62_code
def yX5_mix : MethodName := ⟨RX5, "mix", "(J)V"⟩
abbrev cX5_digest : ByteArray := prog_7_method_63_code
def yX5_digest : MethodName := ⟨RX5, "digest", "()J"⟩
def RJ11 : String := "java/lang/Character"
def TJ11 : u_T := fun k => match k with
  | _ => ("", "", "", false)
def tyJ11 : Nat → FieldType := fun k => match k with
  | _ => .int
abbrev wsJ110 : List Cond := u_ws RJ11 TJ11 0
theorem nmJ11 : ∀ a, a < 0 → ∀ b, b < 0 → a ≠ b → (TJ11 a).2.1 ≠ (TJ11 b).2.1 := by decide +kernel
theorem tyJ11_ok : ∀ k, k < 0 → parseFieldDescriptor (TJ11 k).2.2.1 = some (tyJ11 k) := by decide +kernel
abbrev cJ11_isValidCodePoint_9a6ad : ByteArray := prog_8_method_11_code
def yJ11_isValidCodePoint_9a6ad : MethodName := ⟨RJ11, "isValidCodePoint", "(I)Z"⟩
abbrev cJ11_highSurrogate_5068e : ByteArray := prog_8_method_28_code
def yJ11_highSurrogate_5068e : MethodName := ⟨RJ11, "highSurrogate", "(I)C"⟩
abbrev cJ11_lowSurrogate_5068e : ByteArray := prog_8_method_29_code
def yJ11_lowSurrogate_5068e : MethodName := ⟨RJ11, "lowSurrogate", "(I)C"⟩
def RJ6 : String := "java/lang/Integer"
def TJ6 : u_T := fun k => match k with
  | _ => ("", "", "", false)
def tyJ6 : Nat → FieldType := fun k => match k with
  | _ => .int
abbrev wsJ60 : List Cond := u_ws RJ6 TJ6 0
theorem nmJ6 : ∀ a, a < 0 → ∀ b, b < 0 → a ≠ b → (TJ6 a).2.1 ≠ (TJ6 b).2.1 := by decide +kernel
theorem tyJ6_ok : ∀ k, k < 0 → parseFieldDescriptor (TJ6 k).2.2.1 = some (tyJ6 k) := by decide +kernel
abbrev cJ6_bitCount_0f7a4 : ByteArray := prog_9_method_49_code
def yJ6_bitCount_0f7a4 : MethodName := ⟨RJ6, "bitCount", "(I)I"⟩
def RJ9 : String := "java/lang/Math"
def TJ9 : u_T := fun k => match k with
  | _ => ("", "", "", false)
def tyJ9 : Nat → FieldType := fun k => match k with
  | _ => .int
abbrev wsJ90 : List Cond := u_ws RJ9 TJ9 0
theorem nmJ9 : ∀ a, a < 0 → ∀ b, b < 0 → a ≠ b → (TJ9 a).2.1 ≠ (TJ9 b).2.1 := by decide +kernel
theorem tyJ9_ok : ∀ k, k < 0 → parseFieldDescriptor (TJ9 k).2.2.1 = some (tyJ9 k) := by decide +kernel
abbrev cJ9_max_7cf53 : ByteArray := prog_10_method_65_code
def yJ9_max_7cf53 : MethodName := ⟨RJ9, "max", "(II)I"⟩
abbrev cJ9_min_7cf53 : ByteArray := prog_10_method_69_code
def yJ9_min_7cf53 : MethodName := ⟨RJ9, "min", "(II)I"⟩
def RJ0 : String := "java/lang/String"
def TJ0 : u_T := fun k => match k with
  | _ => ("", "", "", false)
def tyJ0 : Nat → FieldType := fun k => match k with
  | _ => .int
abbrev wsJ00 : List Cond := u_ws RJ0 TJ0 0
theorem nmJ0 : ∀ a, a < 0 → ∀ b, b < 0 → a ≠ b → (TJ0 a).2.1 ≠ (TJ0 b).2.1 := by decide +kernel
theorem tyJ0_ok : ∀ k, k < 0 → parseFieldDescriptor (TJ0 k).2.2.1 = some (tyJ0 k) := by decide +kernel
abbrev cJ0_length_8abf5 : ByteArray := prog_11_method_54_code
def yJ0_length_8abf5 : MethodName := ⟨RJ0, "length", "()I"⟩
abbrev cJ0_indexOf_0f7a4 : ByteArray := prog_11_method_79_code
def yJ0_indexOf_0f7a4 : MethodName := ⟨RJ0, "indexOf", "(I)I"⟩
abbrev cJ0_indexOf_7cf53 : ByteArray := prog_11_method_80_code
def yJ0_indexOf_7cf53 : MethodName := ⟨RJ0, "indexOf", "(II)I"⟩
abbrev cJ0_coder_7d493 : ByteArray := prog_11_method_152_code
def yJ0_coder_7d493 : MethodName := ⟨RJ0, "coder", "()B"⟩
abbrev cJ0_isLatin1_aae02 : ByteArray := prog_11_method_154_code
def yJ0_isLatin1_aae02 : MethodName := ⟨RJ0, "isLatin1", "()Z"⟩
abbrev cJ0_checkBoundsBeginEnd_23922 : ByteArray := prog_11_method_158_code
def yJ0_checkBoundsBeginEnd_23922 : MethodName := ⟨RJ0, "checkBoundsBeginEnd", "(III)V"⟩
def RJ1 : String := "java/lang/StringLatin1"
def TJ1 : u_T := fun k => match k with
  | _ => ("", "", "", false)
def tyJ1 : Nat → FieldType := fun k => match k with
  | _ => .int
abbrev wsJ10 : List Cond := u_ws RJ1 TJ1 0
theorem nmJ1 : ∀ a, a < 0 → ∀ b, b < 0 → a ≠ b → (TJ1 a).2.1 ≠ (TJ1 b).2.1 := by decide +kernel
theorem tyJ1_ok : ∀ k, k < 0 → parseFieldDescriptor (TJ1 k).2.2.1 = some (tyJ1 k) := by decide +kernel
abbrev cJ1_canEncode_9a6ad : ByteArray := prog_12_method_4_code
def yJ1_canEncode_9a6ad : MethodName := ⟨RJ1, "canEncode", "(I)Z"⟩
abbrev cJ1_indexOf_4cfef : ByteArray := prog_12_method_22_code
def yJ1_indexOf_4cfef : MethodName := ⟨RJ1, "indexOf", "([BIII)I"⟩
abbrev cJ1_indexOfChar_4cfef : ByteArray := prog_12_method_23_code
def yJ1_indexOfChar_4cfef : MethodName := ⟨RJ1, "indexOfChar", "([BIII)I"⟩
def RJ2 : String := "java/lang/StringUTF16"
def TJ2 : u_T := fun k => match k with
  | _ => ("", "", "", false)
def tyJ2 : Nat → FieldType := fun k => match k with
  | _ => .int
abbrev wsJ20 : List Cond := u_ws RJ2 TJ2 0
theorem nmJ2 : ∀ a, a < 0 → ∀ b, b < 0 → a ≠ b → (TJ2 a).2.1 ≠ (TJ2 b).2.1 := by decide +kernel
theorem tyJ2_ok : ∀ k, k < 0 → parseFieldDescriptor (TJ2 k).2.2.1 = some (tyJ2 k) := by decide +kernel
abbrev cJ2_getChar_3b067 : ByteArray := prog_13_method_5_code
def yJ2_getChar_3b067 : MethodName := ⟨RJ2, "getChar", "([BI)C"⟩
abbrev cJ2_length_9d52b : ByteArray := prog_13_method_6_code
def yJ2_length_9d52b : MethodName := ⟨RJ2, "length", "([B)I"⟩
abbrev cJ2_indexOf_4cfef : ByteArray := prog_13_method_40_code
def yJ2_indexOf_4cfef : MethodName := ⟨RJ2, "indexOf", "([BIII)I"⟩
abbrev cJ2_indexOfChar_4cfef : ByteArray := prog_13_method_47_code
def yJ2_indexOfChar_4cfef : MethodName := ⟨RJ2, "indexOfChar", "([BIII)I"⟩
abbrev cJ2_indexOfCharUnsafe_4cfef : ByteArray := prog_13_method_48_code
def yJ2_indexOfCharUnsafe_4cfef : MethodName := ⟨RJ2, "indexOfCharUnsafe", "([BIII)I"⟩
abbrev cJ2_indexOfSupplementary_4cfef : ByteArray := prog_13_method_49_code
def yJ2_indexOfSupplementary_4cfef : MethodName := ⟨RJ2, "indexOfSupplementary", "([BIII)I"⟩
abbrev cJ2_checkBoundsBeginEnd_d044e : ByteArray := prog_13_method_93_code
def yJ2_checkBoundsBeginEnd_d044e : MethodName := ⟨RJ2, "checkBoundsBeginEnd", "(II[B)V"⟩
def RJ10 : String := "java/lang/System"
def TJ10 : u_T := fun k => match k with
  | _ => ("", "", "", false)
def tyJ10 : Nat → FieldType := fun k => match k with
  | _ => .int
abbrev wsJ100 : List Cond := u_ws RJ10 TJ10 0
theorem nmJ10 : ∀ a, a < 0 → ∀ b, b < 0 → a ≠ b → (TJ10 a).2.1 ≠ (TJ10 b).2.1 := by decide +kernel
theorem tyJ10_ok : ∀ k, k < 0 → parseFieldDescriptor (TJ10 k).2.2.1 = some (tyJ10 k) := by decide +kernel
def RJ3 : String := "jdk/internal/util/Preconditions"
def TJ3 : u_T := fun k => match k with
  | _ => ("", "", "", false)
def tyJ3 : Nat → FieldType := fun k => match k with
  | _ => .int
abbrev wsJ30 : List Cond := u_ws RJ3 TJ3 0
theorem nmJ3 : ∀ a, a < 0 → ∀ b, b < 0 → a ≠ b → (TJ3 a).2.1 ≠ (TJ3 b).2.1 := by decide +kernel
theorem tyJ3_ok : ∀ k, k < 0 → parseFieldDescriptor (TJ3 k).2.2.1 = some (tyJ3 k) := by decide +kernel
abbrev cJ3_checkFromToIndex_8c36e : ByteArray := prog_15_method_12_code
def yJ3_checkFromToIndex_8c36e : MethodName := ⟨RJ3, "checkFromToIndex", "(IIILjava/util/function/BiFunction;)I"⟩
def RL : String := "TownOnWeightLaw"
abbrev cL_law : ByteArray := code
def yL_law : MethodName := ⟨RL, "law", "([I)Z"⟩
def wsL_law_r1 : List Cond := [Cond.classLink RL 7 RX4, Cond.instantiable RX4 9, Cond.initialized RX4, Cond.classLink RL 10 RX5, Cond.instantiable RX5 47, Cond.initialized RX5, Cond.constantLong RL 13 (4294967295), Cond.methodLink RL 9 yX4_init, Cond.instanceMethod yX4_init, Cond.code yX4_init cX4_init 1 none, Cond.methodLink RX4 1 objectInit, Cond.instanceMethod objectInit, Cond.code objectInit ⟨#[0xb1]⟩ 1 none, Cond.classLink RX4 7 RX2, Cond.instantiable RX2 2, Cond.initialized RX2, Cond.fieldLink RX4 10 "TownOnWeight" "page" "LTownOnWeight$Page;", Cond.classLink RX4 16 RX1, Cond.instantiable RX1 8, Cond.initialized RX1, Cond.fieldLink RX4 19 "TownOnWeight" "houses" "LTownOnWeight$Houses;", Cond.classLink RX4 23 RX0, Cond.instantiable RX0 14, Cond.initialized RX0]
def wsL_law_r2 : List Cond := [Cond.fieldLink RX4 26 "TownOnWeight" "day" "LTownOnWeight$Day;", Cond.classLink RX4 30 RX3, Cond.instantiable RX3 3, Cond.initialized RX3, Cond.fieldLink RX4 33 "TownOnWeight" "readings" "LTownOnWeight$Readings;", Cond.fieldLink RX4 37 "TownOnWeight" "ahead" "LTownOnWeight$Day;", Cond.fieldLink RX4 40 "TownOnWeight" "imageDay" "LTownOnWeight$Day;", Cond.fieldLink RX4 43 "TownOnWeight" "imageReadings" "LTownOnWeight$Readings;", Cond.instanceMethod yX2_init, Cond.code yX2_init cX2_init 1 none, Cond.methodLink RX2 3 objectInit, Cond.arrayClass .int, Cond.fieldLink RX2 9 "TownOnWeight$Page" "codes" "[I", Cond.instanceMethod yX1_init, Cond.code yX1_init cX1_init 1 none, Cond.methodLink RX1 3 objectInit, Cond.fieldLink RX1 9 "TownOnWeight$Houses" "kind" "[I", Cond.fieldLink RX1 15 "TownOnWeight$Houses" "parent" "[I", Cond.fieldLink RX1 18 "TownOnWeight$Houses" "from" "[I", Cond.fieldLink RX1 21 "TownOnWeight$Houses" "to" "[I", Cond.fieldLink RX1 24 "TownOnWeight$Houses" "takes" "[I", Cond.fieldLink RX1 27 "TownOnWeight$Houses" "loss" "[I", Cond.fieldLink RX1 30 "TownOnWeight$Houses" "way" "[I", Cond.instanceMethod yX0_init]
def wsL_law_r3 : List Cond := [Cond.code yX0_init cX0_init 1 none, Cond.methodLink RX0 3 objectInit, Cond.fieldLink RX0 9 "TownOnWeight$Day" "length" "I", Cond.fieldLink RX0 15 "TownOnWeight$Day" "hangs" "I", Cond.fieldLink RX0 18 "TownOnWeight$Day" "taken" "[I", Cond.fieldLink RX0 22 "TownOnWeight$Day" "owed" "[I", Cond.fieldLink RX0 25 "TownOnWeight$Day" "wanted" "[I", Cond.fieldLink RX0 28 "TownOnWeight$Day" "parts" "[I", Cond.fieldLink RX0 31 "TownOnWeight$Day" "rests" "[I", Cond.instanceMethod yX3_init, Cond.code yX3_init cX3_init 1 none, Cond.methodLink RX3 3 objectInit, Cond.fieldLink RX3 9 "TownOnWeight$Readings" "through" "[I", Cond.fieldLink RX3 15 "TownOnWeight$Readings" "extra" "[I", Cond.methodLink RL 12 yX5_init, Cond.instanceMethod yX5_init, Cond.code yX5_init cX5_init 1 none, Cond.methodLink RX5 1 objectInit, Cond.fieldLink RX5 7 "TownOnWeightModel" "kindOf" "[I", Cond.fieldLink RX5 13 "TownOnWeightModel" "parentOf" "[I", Cond.fieldLink RX5 16 "TownOnWeightModel" "fromOf" "[I", Cond.fieldLink RX5 19 "TownOnWeightModel" "toOf" "[I", Cond.fieldLink RX5 22 "TownOnWeightModel" "takesOf" "[I", Cond.fieldLink RX5 25 "TownOnWeightModel" "lossOf" "[I"]
def wsL_law_r4 : List Cond := [Cond.fieldLink RX5 28 "TownOnWeightModel" "takenOf" "[I", Cond.fieldLink RX5 31 "TownOnWeightModel" "owesOf" "[I", Cond.fieldLink RX5 34 "TownOnWeightModel" "longNow" "I", Cond.fieldLink RX5 38 "TownOnWeightModel" "hangs" "I", Cond.fieldLink RX5 41 "TownOnWeightModel" "readSet" "[I", Cond.fieldLink RX5 44 "TownOnWeightModel" "readFeet" "[I", Cond.arrayClass .byte, Cond.fieldLink RX5 47 "TownOnWeightModel" "page" "[B", Cond.fieldLink RX5 51 "TownOnWeightModel" "savedTaken" "[I", Cond.fieldLink RX5 54 "TownOnWeightModel" "keptTaken" "[I", Cond.fieldLink RX5 57 "TownOnWeightModel" "keptOwes" "[I", Cond.fieldLink RX5 60 "TownOnWeightModel" "keptSet" "[I", Cond.fieldLink RX5 63 "TownOnWeightModel" "keptFeet" "[I", Cond.methodLink RL 15 yX4_letters, Cond.instanceMethod yX4_letters, Cond.selects RX4 yX4_letters yX4_letters, Cond.code yX4_letters cX4_letters 4 (some .int), Cond.static yX2_lettersIn, Cond.code yX2_lettersIn cX2_lettersIn 6 (some .int), Cond.methodLink RX2 15 yX2_codeIn, Cond.static yX2_codeIn, Cond.code yX2_codeIn cX2_codeIn 3 (some .int), Cond.instanceMethod yX2_append, Cond.selects RX2 yX2_append yX2_append]
def wsL_law_r5 : List Cond := [Cond.code yX2_append cX2_append 5 none, Cond.fieldLink RX2 19 "TownOnWeight$Page" "size" "I", Cond.methodLink RL 19 yX5_letters, Cond.instanceMethod yX5_letters, Cond.selects RX5 yX5_letters yX5_letters, Cond.code yX5_letters cX5_letters 7 (some .int), Cond.constantLong RX5 66 (255), Cond.fieldLink RX5 68 "TownOnWeightModel" "pageLength" "I", Cond.methodLink RL 20 yX4_blank, Cond.instanceMethod yX4_blank, Cond.selects RX4 yX4_blank yX4_blank, Cond.code yX4_blank cX4_blank 2 (some .int), Cond.methodLink RL 24 yX5_blank, Cond.instanceMethod yX5_blank, Cond.selects RX5 yX5_blank yX5_blank, Cond.code yX5_blank cX5_blank 2 (some .int), Cond.methodLink RL 25 yX4_fault, Cond.instanceMethod yX4_fault, Cond.selects RX4 yX4_fault yX4_fault, Cond.code yX4_fault cX4_fault 1 (some .int), Cond.instanceMethod yX2_faultAt, Cond.selects RX2 yX2_faultAt yX2_faultAt, Cond.code yX2_faultAt cX2_faultAt 3 (some .int), Cond.methodLink RX2 23 yX2_fits]
def wsL_law_r6 : List Cond := [Cond.instanceMethod yX2_fits, Cond.selects RX2 yX2_fits yX2_fits, Cond.code yX2_fits cX2_fits 4 (some .boolean), Cond.methodLink RX2 31 yX2_kindOf, Cond.static yX2_kindOf, Cond.code yX2_kindOf cX2_kindOf 1 (some .int), Cond.methodLink RX2 43 yJ0_indexOf_0f7a4, Cond.instanceMethod yJ0_indexOf_0f7a4, Cond.selects RJ0 yJ0_indexOf_0f7a4 yJ0_indexOf_0f7a4, Cond.initialized RJ0, Cond.code yJ0_indexOf_0f7a4 cJ0_indexOf_0f7a4 2 (some .int), Cond.methodLink RJ0 633 yJ0_indexOf_7cf53, Cond.instanceMethod yJ0_indexOf_7cf53, Cond.selects RJ0 yJ0_indexOf_7cf53 yJ0_indexOf_7cf53, Cond.code yJ0_indexOf_7cf53 cJ0_indexOf_7cf53 3 (some .int), Cond.fieldLink RJ0 9 "java/lang/String" "value" "[B", Cond.methodLink RJ0 492 yJ0_isLatin1_aae02, Cond.instanceMethod yJ0_isLatin1_aae02, Cond.selects RJ0 yJ0_isLatin1_aae02 yJ0_isLatin1_aae02, Cond.code yJ0_isLatin1_aae02 cJ0_isLatin1_aae02 1 (some .boolean), Cond.fieldLink RJ0 38 "java/lang/String" "COMPACT_STRINGS" "Z", Cond.fieldLink RJ0 15 "java/lang/String" "coder" "B", Cond.methodLink RJ0 505 yJ0_length_8abf5, Cond.instanceMethod yJ0_length_8abf5]
def wsL_law_r7 : List Cond := [Cond.selects RJ0 yJ0_length_8abf5 yJ0_length_8abf5, Cond.code yJ0_length_8abf5 cJ0_length_8abf5 1 (some .int), Cond.methodLink RJ0 335 yJ0_coder_7d493, Cond.instanceMethod yJ0_coder_7d493, Cond.selects RJ0 yJ0_coder_7d493 yJ0_coder_7d493, Cond.code yJ0_coder_7d493 cJ0_coder_7d493 1 (some .byte), Cond.methodLink RJ0 637 yJ1_indexOf_4cfef, Cond.static yJ1_indexOf_4cfef, Cond.initialized RJ1, Cond.code yJ1_indexOf_4cfef cJ1_indexOf_4cfef 4 (some .int), Cond.methodLink RJ1 92 Lib.Math.max.name, Cond.static Lib.Math.max.name, Cond.initialized "java/lang/Math", Cond.code Lib.Math.max.name Lib.Math.max.code 2 (some .int), Cond.methodLink RJ1 38 Lib.Math.min.name, Cond.static Lib.Math.min.name, Cond.code Lib.Math.min.name Lib.Math.min.code 2 (some .int), Cond.methodLink RJ1 88 yJ1_canEncode_9a6ad, Cond.static yJ1_canEncode_9a6ad, Cond.code yJ1_canEncode_9a6ad cJ1_canEncode_9a6ad 1 (some .boolean), Cond.methodLink RJ1 95 yJ1_indexOfChar_4cfef, Cond.static yJ1_indexOfChar_4cfef, Cond.code yJ1_indexOfChar_4cfef cJ1_indexOfChar_4cfef 6 (some .int), Cond.methodLink RJ0 640 yJ2_indexOf_4cfef]
def wsL_law_r8 : List Cond := [Cond.static yJ2_indexOf_4cfef, Cond.initialized RJ2, Cond.code yJ2_indexOf_4cfef cJ2_indexOf_4cfef 4 (some .int), Cond.methodLink RJ2 224 Lib.Math.max.name, Cond.methodLink RJ2 183 Lib.Math.min.name, Cond.constant RJ2 227 (65536), Cond.methodLink RJ2 228 yJ2_indexOfChar_4cfef, Cond.static yJ2_indexOfChar_4cfef, Cond.code yJ2_indexOfChar_4cfef cJ2_indexOfChar_4cfef 4 (some .int), Cond.methodLink RJ2 96 yJ2_checkBoundsBeginEnd_d044e, Cond.static yJ2_checkBoundsBeginEnd_d044e, Cond.code yJ2_checkBoundsBeginEnd_d044e cJ2_checkBoundsBeginEnd_d044e 3 none, Cond.methodLink RJ2 48 yJ2_length_9d52b, Cond.static yJ2_length_9d52b, Cond.code yJ2_length_9d52b cJ2_length_9d52b 1 (some .int), Cond.methodLink RJ2 241 yJ0_checkBoundsBeginEnd_23922, Cond.static yJ0_checkBoundsBeginEnd_23922, Cond.code yJ0_checkBoundsBeginEnd_23922 cJ0_checkBoundsBeginEnd_23922 3 none, Cond.fieldLink RJ0 1053 "jdk/internal/util/Preconditions" "SIOOBE_FORMATTER" "Ljava/util/function/BiFunction;", Cond.methodLink RJ0 1062 yJ3_checkFromToIndex_8c36e, Cond.static yJ3_checkFromToIndex_8c36e, Cond.initialized RJ3, Cond.code yJ3_checkFromToIndex_8c36e cJ3_checkFromToIndex_8c36e 4 (some .int), Cond.methodLink RJ2 244 yJ2_indexOfCharUnsafe_4cfef]
def wsL_law_r9 : List Cond := [Cond.static yJ2_indexOfCharUnsafe_4cfef, Cond.code yJ2_indexOfCharUnsafe_4cfef cJ2_indexOfCharUnsafe_4cfef 5 (some .int), Cond.methodLink RJ2 71 yJ2_getChar_3b067, Cond.static yJ2_getChar_3b067, Cond.code yJ2_getChar_3b067 cJ2_getChar_3b067 2 (some .char), Cond.fieldLink RJ2 44 "java/lang/StringUTF16" "$assertionsDisabled" "Z", Cond.fieldLink RJ2 59 "java/lang/StringUTF16" "HI_BYTE_SHIFT" "I", Cond.fieldLink RJ2 63 "java/lang/StringUTF16" "LO_BYTE_SHIFT" "I", Cond.methodLink RJ2 232 yJ2_indexOfSupplementary_4cfef, Cond.static yJ2_indexOfSupplementary_4cfef, Cond.code yJ2_indexOfSupplementary_4cfef cJ2_indexOfSupplementary_4cfef 7 (some .int), Cond.methodLink RJ2 164 yJ11_isValidCodePoint_9a6ad, Cond.static yJ11_isValidCodePoint_9a6ad, Cond.initialized RJ11, Cond.code yJ11_isValidCodePoint_9a6ad cJ11_isValidCodePoint_9a6ad 2 (some .boolean), Cond.methodLink RJ2 157 yJ11_highSurrogate_5068e, Cond.static yJ11_highSurrogate_5068e, Cond.code yJ11_highSurrogate_5068e cJ11_highSurrogate_5068e 1 (some .char), Cond.constant RJ11 110 (55232), Cond.methodLink RJ2 161 yJ11_lowSurrogate_5068e, Cond.static yJ11_lowSurrogate_5068e, Cond.code yJ11_lowSurrogate_5068e cJ11_lowSurrogate_5068e 1 (some .char), Cond.constant RJ11 76 (56320), Cond.methodLink RX2 34 yX2_isDigit]
def wsL_law_r10 : List Cond := [Cond.static yX2_isDigit, Cond.code yX2_isDigit cX2_isDigit 3 (some .boolean), Cond.methodLink RX2 38 yX2_digitAt, Cond.instanceMethod yX2_digitAt, Cond.selects RX2 yX2_digitAt yX2_digitAt, Cond.code yX2_digitAt cX2_digitAt 2 (some .int), Cond.methodLink RL 28 yX5_fault, Cond.instanceMethod yX5_fault, Cond.selects RX5 yX5_fault yX5_fault, Cond.code yX5_fault cX5_fault 1 (some .int), Cond.methodLink RX5 86 yX5_faultNow, Cond.instanceMethod yX5_faultNow, Cond.selects RX5 yX5_faultNow yX5_faultNow, Cond.code yX5_faultNow cX5_faultNow 2 (some .int), Cond.methodLink RX5 82 yX5_mayStand, Cond.instanceMethod yX5_mayStand, Cond.selects RX5 yX5_mayStand yX5_mayStand, Cond.code yX5_mayStand cX5_mayStand 3 (some .boolean), Cond.fieldLink RX5 75 "TownOnWeightModel" "houses" "I", Cond.methodLink RX5 71 yX5_kindBy, Cond.static yX5_kindBy, Cond.code yX5_kindBy cX5_kindBy 1 (some .int), Cond.methodLink RX5 78 yX5_within, Cond.static yX5_within]
def wsL_law_r11 : List Cond := [Cond.code yX5_within cX5_within 3 (some .boolean), Cond.methodLink RL 29 yX4_house, Cond.instanceMethod yX4_house, Cond.selects RX4 yX4_house yX4_house, Cond.code yX4_house cX4_house 2 (some .int), Cond.instanceMethod yX2_isHouse, Cond.selects RX2 yX2_isHouse yX2_isHouse, Cond.code yX2_isHouse cX2_isHouse 2 (some .boolean), Cond.methodLink RX2 27 yX2_faultAt, Cond.instanceMethod yX0_hasBegun, Cond.selects RX0 yX0_hasBegun yX0_hasBegun, Cond.code yX0_hasBegun cX0_hasBegun 1 (some .boolean), Cond.fieldLink RX0 34 "TownOnWeight$Day" "hour" "I", Cond.instanceMethod yX1_add, Cond.selects RX1 yX1_add yX1_add, Cond.code yX1_add cX1_add 3 none, Cond.fieldLink RX1 33 "TownOnWeight$Houses" "number" "I", Cond.static yX4_bit, Cond.code yX4_bit cX4_bit 1 (some .int), Cond.methodLink RX1 56 yX1_has, Cond.instanceMethod yX1_has, Cond.selects RX1 yX1_has yX1_has, Cond.code yX1_has cX1_has 2 (some .boolean), Cond.instanceMethod yX0_welcome]
def wsL_law_r12 : List Cond := [Cond.selects RX0 yX0_welcome yX0_welcome, Cond.code yX0_welcome cX0_welcome 2 none, Cond.fieldLink RX0 43 "TownOnWeight$Day" "brakes" "I", Cond.methodLink RL 32 yX5_house, Cond.instanceMethod yX5_house, Cond.selects RX5 yX5_house yX5_house, Cond.code yX5_house cX5_house 1 (some .int), Cond.fieldLink RX5 90 "TownOnWeightModel" "hourNow" "I", Cond.fieldLink RX5 93 "TownOnWeightModel" "brakes" "I", Cond.methodLink RL 33 yX4_about, Cond.instanceMethod yX4_about, Cond.selects RX4 yX4_about yX4_about, Cond.code yX4_about cX4_about 3 (some .int), Cond.methodLink RX4 112 yX4_isIn, Cond.static yX4_isIn, Cond.code yX4_isIn cX4_isIn 2 (some .boolean), Cond.methodLink RX4 116 yX4_oneIf, Cond.static yX4_oneIf, Cond.code yX4_oneIf cX4_oneIf 1 (some .int), Cond.methodLink RL 37 yX5_about, Cond.instanceMethod yX5_about, Cond.selects RX5 yX5_about yX5_about, Cond.code yX5_about cX5_about 3 (some .int), Cond.methodLink RX5 99 yX5_isHouse]
def wsL_law_r13 : List Cond := [Cond.instanceMethod yX5_isHouse, Cond.selects RX5 yX5_isHouse yX5_isHouse, Cond.code yX5_isHouse cX5_isHouse 2 (some .boolean), Cond.methodLink RX5 103 yX5_houseNow, Cond.instanceMethod yX5_houseNow, Cond.selects RX5 yX5_houseNow yX5_houseNow, Cond.code yX5_houseNow cX5_houseNow 3 (some .int), Cond.methodLink RX5 96 yX5_has, Cond.static yX5_has, Cond.code yX5_has cX5_has 2 (some .boolean), Cond.methodLink RL 38 yX4_as, Cond.instanceMethod yX4_as, Cond.selects RX4 yX4_as yX4_as, Cond.code yX4_as cX4_as 3 (some .int), Cond.methodLink RX4 122 yJ0_length_8abf5, Cond.instanceMethod yX1_isA, Cond.selects RX1 yX1_isA yX1_isA, Cond.code yX1_isA cX1_isA 3 (some .boolean), Cond.methodLink RL 41 yX5_as, Cond.instanceMethod yX5_as, Cond.selects RX5 yX5_as yX5_as, Cond.code yX5_as cX5_as 4 (some .int), Cond.methodLink RL 42 yX4_length, Cond.instanceMethod yX4_length]
def wsL_law_r14 : List Cond := [Cond.selects RX4 yX4_length yX4_length, Cond.code yX4_length cX4_length 3 (some .int), Cond.methodLink RL 46 yX5_length, Cond.instanceMethod yX5_length, Cond.selects RX5 yX5_length yX5_length, Cond.code yX5_length cX5_length 3 (some .int), Cond.methodLink RL 47 yX4_brake, Cond.instanceMethod yX4_brake, Cond.selects RX4 yX4_brake yX4_brake, Cond.code yX4_brake cX4_brake 4 (some .int), Cond.methodLink RX4 136 yX4_bit, Cond.methodLink RL 51 yX5_brake, Cond.instanceMethod yX5_brake, Cond.selects RX5 yX5_brake yX5_brake, Cond.code yX5_brake cX5_brake 4 (some .int), Cond.methodLink RL 52 yX4_rain, Cond.instanceMethod yX4_rain, Cond.selects RX4 yX4_rain yX4_rain, Cond.code yX4_rain cX4_rain 3 (some .int), Cond.methodLink RL 56 yX5_rain, Cond.instanceMethod yX5_rain, Cond.selects RX5 yX5_rain yX5_rain, Cond.code yX5_rain cX5_rain 3 (some .int), Cond.fieldLink RX5 107 "TownOnWeightModel" "isRain" "Z"]
def wsL_law_r15 : List Cond := [Cond.methodLink RL 57 yX4_wants, Cond.instanceMethod yX4_wants, Cond.selects RX4 yX4_wants yX4_wants, Cond.code yX4_wants cX4_wants 2 (some .int), Cond.instanceMethod yX0_wantOf, Cond.selects RX0 yX0_wantOf yX0_wantOf, Cond.code yX0_wantOf cX0_wantOf 4 (some .int), Cond.fieldLink RX0 40 "TownOnWeight$Day" "worked" "I", Cond.instanceMethod yX1_isOpen, Cond.selects RX1 yX1_isOpen yX1_isOpen, Cond.code yX1_isOpen cX1_isOpen 3 (some .boolean), Cond.methodLink RL 60 yX5_wants, Cond.instanceMethod yX5_wants, Cond.selects RX5 yX5_wants yX5_wants, Cond.code yX5_wants cX5_wants 2 (some .int), Cond.methodLink RX5 117 yX5_wantsNow, Cond.instanceMethod yX5_wantsNow, Cond.selects RX5 yX5_wantsNow yX5_wantsNow, Cond.code yX5_wantsNow cX5_wantsNow 4 (some .int), Cond.fieldLink RX5 114 "TownOnWeightModel" "workedNow" "I", Cond.methodLink RX5 111 yX5_isTime, Cond.instanceMethod yX5_isTime, Cond.selects RX5 yX5_isTime yX5_isTime, Cond.code yX5_isTime cX5_isTime 2 (some .boolean)]
def wsL_law_r16 : List Cond := [Cond.methodLink RL 61 yX4_goes, Cond.instanceMethod yX4_goes, Cond.selects RX4 yX4_goes yX4_goes, Cond.code yX4_goes cX4_goes 2 (some .int), Cond.instanceMethod yX1_areBits, Cond.selects RX1 yX1_areBits yX1_areBits, Cond.code yX1_areBits cX1_areBits 2 (some .boolean), Cond.methodLink RX1 41 yX1_all, Cond.instanceMethod yX1_all, Cond.selects RX1 yX1_all yX1_all, Cond.code yX1_all cX1_all 1 (some .int), Cond.instanceMethod yX0_tellWanted, Cond.selects RX0 yX0_tellWanted yX0_tellWanted, Cond.code yX0_tellWanted cX0_tellWanted 3 none, Cond.methodLink RX0 87 yX0_wantOf, Cond.instanceMethod yX0_goesBy, Cond.selects RX0 yX0_goesBy yX0_goesBy, Cond.code yX0_goesBy cX0_goesBy 6 (some .int), Cond.fieldLink RX0 46 "TownOnWeight$Day" "rain" "Z", Cond.instanceMethod yX1_lossOf, Cond.selects RX1 yX1_lossOf yX1_lossOf, Cond.code yX1_lossOf cX1_lossOf 5 (some .int), Cond.methodLink RL 64 yX5_goes, Cond.instanceMethod yX5_goes]
def wsL_law_r17 : List Cond := [Cond.selects RX5 yX5_goes yX5_goes, Cond.code yX5_goes cX5_goes 2 (some .int), Cond.methodLink RX5 129 yX5_everybody, Cond.instanceMethod yX5_everybody, Cond.selects RX5 yX5_everybody yX5_everybody, Cond.code yX5_everybody cX5_everybody 1 (some .int), Cond.methodLink RX5 132 yX5_goesBy, Cond.instanceMethod yX5_goesBy, Cond.selects RX5 yX5_goesBy yX5_goesBy, Cond.code yX5_goesBy cX5_goesBy 6 (some .int), Cond.methodLink RX5 120 yX5_wanting, Cond.instanceMethod yX5_wanting, Cond.selects RX5 yX5_wanting yX5_wanting, Cond.code yX5_wanting cX5_wanting 4 (some .int), Cond.methodLink RX5 123 yX5_shafts, Cond.instanceMethod yX5_shafts, Cond.selects RX5 yX5_shafts yX5_shafts, Cond.code yX5_shafts cX5_shafts 4 (some .int), Cond.methodLink RX5 126 yX5_takesBy, Cond.instanceMethod yX5_takesBy, Cond.selects RX5 yX5_takesBy yX5_takesBy, Cond.code yX5_takesBy cX5_takesBy 4 (some .int), Cond.methodLink RL 65 yX4_hour, Cond.instanceMethod yX4_hour]
def wsL_law_r18 : List Cond := [Cond.selects RX4 yX4_hour yX4_hour, Cond.code yX4_hour cX4_hour 1 (some .int), Cond.instanceMethod yX0_hourComes, Cond.selects RX0 yX0_hourComes yX0_hourComes, Cond.code yX0_hourComes cX0_hourComes 1 (some .boolean), Cond.fieldLink RX0 50 "TownOnWeight$Day" "down" "Z", Cond.instanceMethod yX0_passHour, Cond.selects RX0 yX0_passHour yX0_passHour, Cond.code yX0_passHour cX0_passHour 5 (some .int), Cond.methodLink RX0 98 yX0_tellWanted, Cond.methodLink RX0 106 yX0_goesBy, Cond.methodLink RX0 109 yX0_letWork, Cond.instanceMethod yX0_letWork, Cond.selects RX0 yX0_letWork yX0_letWork, Cond.code yX0_letWork cX0_letWork 6 none, Cond.fieldLink RX0 53 "TownOnWeight$Day" "takenByAll" "I", Cond.fieldLink RX0 37 "TownOnWeight$Day" "lost" "I", Cond.methodLink RL 68 yX5_hour, Cond.instanceMethod yX5_hour, Cond.selects RX5 yX5_hour yX5_hour, Cond.code yX5_hour cX5_hour 1 (some .int), Cond.methodLink RX5 144 yX5_isOver, Cond.instanceMethod yX5_isOver, Cond.selects RX5 yX5_isOver yX5_isOver]
def wsL_law_r19 : List Cond := [Cond.code yX5_isOver cX5_isOver 1 (some .boolean), Cond.fieldLink RX5 135 "TownOnWeightModel" "isDown" "Z", Cond.methodLink RX5 148 yX5_goHour, Cond.instanceMethod yX5_goHour, Cond.selects RX5 yX5_goHour yX5_goHour, Cond.code yX5_goHour cX5_goHour 5 (some .int), Cond.fieldLink RX5 141 "TownOnWeightModel" "lostNow" "I", Cond.methodLink RX5 138 yX5_working, Cond.instanceMethod yX5_working, Cond.selects RX5 yX5_working yX5_working, Cond.code yX5_working cX5_working 4 (some .int), Cond.methodLink RL 69 yX4_worked, Cond.instanceMethod yX4_worked, Cond.selects RX4 yX4_worked yX4_worked, Cond.code yX4_worked cX4_worked 1 (some .int), Cond.methodLink RL 72 yX5_worked, Cond.instanceMethod yX5_worked, Cond.selects RX5 yX5_worked yX5_worked, Cond.code yX5_worked cX5_worked 1 (some .int), Cond.methodLink RL 73 yX4_part, Cond.instanceMethod yX4_part, Cond.selects RX4 yX4_part yX4_part, Cond.code yX4_part cX4_part 2 (some .int), Cond.instanceMethod yX0_tellParts]
def wsL_law_r20 : List Cond := [Cond.selects RX0 yX0_tellParts yX0_tellParts, Cond.code yX0_tellParts cX0_tellParts 6 none, Cond.methodLink RX0 113 yX0_greatestRest, Cond.instanceMethod yX0_greatestRest, Cond.selects RX0 yX0_greatestRest yX0_greatestRest, Cond.code yX0_greatestRest cX0_greatestRest 4 (some .int), Cond.methodLink RL 76 yX5_part, Cond.instanceMethod yX5_part, Cond.selects RX5 yX5_part yX5_part, Cond.code yX5_part cX5_part 2 (some .int), Cond.methodLink RX5 154 yX5_partOf, Cond.instanceMethod yX5_partOf, Cond.selects RX5 yX5_partOf yX5_partOf, Cond.code yX5_partOf cX5_partOf 9 (some .int), Cond.methodLink RX5 151 yX5_takenAll, Cond.instanceMethod yX5_takenAll, Cond.selects RX5 yX5_takenAll yX5_takenAll, Cond.code yX5_takenAll cX5_takenAll 3 (some .int), Cond.methodLink RL 77 yX4_night, Cond.instanceMethod yX4_night, Cond.selects RX4 yX4_night yX4_night, Cond.code yX4_night cX4_night 1 (some .int), Cond.instanceMethod yX0_passNight, Cond.selects RX0 yX0_passNight yX0_passNight]
def wsL_law_r21 : List Cond := [Cond.code yX0_passNight cX0_passNight 4 (some .int), Cond.methodLink RX0 120 Lib.Math.min.name, Cond.methodLink RX0 116 yX0_tellParts, Cond.methodLink RL 80 yX5_night, Cond.instanceMethod yX5_night, Cond.selects RX5 yX5_night yX5_night, Cond.code yX5_night cX5_night 4 (some .int), Cond.methodLink RL 81 yX4_plan, Cond.instanceMethod yX4_plan, Cond.selects RX4 yX4_plan yX4_plan, Cond.code yX4_plan cX4_plan 3 (some .int), Cond.methodLink RX4 176 yX4_bestBrakes, Cond.instanceMethod yX4_bestBrakes, Cond.selects RX4 yX4_bestBrakes yX4_bestBrakes, Cond.code yX4_bestBrakes cX4_bestBrakes 6 (some .int), Cond.methodLink RX4 179 yX4_takenAhead, Cond.instanceMethod yX4_takenAhead, Cond.selects RX4 yX4_takenAhead yX4_takenAhead, Cond.code yX4_takenAhead cX4_takenAhead 4 (some .int), Cond.instanceMethod yX0_copyFrom, Cond.selects RX0 yX0_copyFrom yX0_copyFrom, Cond.code yX0_copyFrom cX0_copyFrom 2 none, Cond.methodLink RX0 56 arraycopyName, Cond.native arraycopyName]
def wsL_law_r22 : List Cond := [Cond.static arraycopyName, Cond.initialized "java/lang/System", Cond.methodLink RX4 225 yJ6_bitCount_0f7a4, Cond.static yJ6_bitCount_0f7a4, Cond.initialized RJ6, Cond.code yJ6_bitCount_0f7a4 cJ6_bitCount_0f7a4 1 (some .int), Cond.constant RJ6 265 (1431655765), Cond.constant RJ6 266 (858993459), Cond.constant RJ6 267 (252645135), Cond.methodLink RL 84 yX5_plan, Cond.instanceMethod yX5_plan, Cond.selects RX5 yX5_plan yX5_plan, Cond.code yX5_plan cX5_plan 2 (some .int), Cond.methodLink RX5 190 yX5_planNow, Cond.instanceMethod yX5_planNow, Cond.selects RX5 yX5_planNow yX5_planNow, Cond.code yX5_planNow cX5_planNow 7 (some .int), Cond.methodLink RX5 184 yX5_takenOn, Cond.instanceMethod yX5_takenOn, Cond.selects RX5 yX5_takenOn yX5_takenOn, Cond.code yX5_takenOn cX5_takenOn 5 (some .int), Cond.methodLink RX5 178 yX5_save, Cond.instanceMethod yX5_save, Cond.selects RX5 yX5_save yX5_save]
def wsL_law_r23 : List Cond := [Cond.code yX5_save cX5_save 2 none, Cond.fieldLink RX5 157 "TownOnWeightModel" "savedBrakes" "I", Cond.fieldLink RX5 160 "TownOnWeightModel" "savedHangs" "I", Cond.fieldLink RX5 163 "TownOnWeightModel" "savedHour" "I", Cond.fieldLink RX5 166 "TownOnWeightModel" "savedLost" "I", Cond.fieldLink RX5 169 "TownOnWeightModel" "savedWorked" "I", Cond.fieldLink RX5 172 "TownOnWeightModel" "savedDown" "Z", Cond.fieldLink RX5 175 "TownOnWeightModel" "savedRain" "Z", Cond.methodLink RX5 181 yX5_back, Cond.instanceMethod yX5_back, Cond.selects RX5 yX5_back yX5_back, Cond.code yX5_back cX5_back 2 none, Cond.methodLink RX5 187 yX5_size, Cond.static yX5_size, Cond.code yX5_size cX5_size 3 (some .int), Cond.methodLink RL 85 yX4_more, Cond.instanceMethod yX4_more, Cond.selects RX4 yX4_more yX4_more, Cond.code yX4_more cX4_more 2 (some .int), Cond.methodLink RL 88 yX5_more, Cond.instanceMethod yX5_more, Cond.selects RX5 yX5_more yX5_more, Cond.code yX5_more cX5_more 2 (some .int), Cond.methodLink RX5 193 yX5_moreNow]
def wsL_law_r24 : List Cond := [Cond.instanceMethod yX5_moreNow, Cond.selects RX5 yX5_moreNow yX5_moreNow, Cond.code yX5_moreNow cX5_moreNow 2 (some .int), Cond.methodLink RL 89 yX4_missing, Cond.instanceMethod yX4_missing, Cond.selects RX4 yX4_missing yX4_missing, Cond.code yX4_missing cX4_missing 8 (some .int), Cond.instanceMethod yX1_openIn, Cond.selects RX1 yX1_openIn yX1_openIn, Cond.code yX1_openIn cX1_openIn 4 (some .int), Cond.methodLink RX1 60 yX1_isOpen, Cond.instanceMethod yX1_takesOf, Cond.selects RX1 yX1_takesOf yX1_takesOf, Cond.code yX1_takesOf cX1_takesOf 4 (some .int), Cond.methodLink RL 92 yX5_missing, Cond.instanceMethod yX5_missing, Cond.selects RX5 yX5_missing yX5_missing, Cond.code yX5_missing cX5_missing 8 (some .int), Cond.methodLink RX5 196 yX5_sumOf, Cond.instanceMethod yX5_sumOf, Cond.selects RX5 yX5_sumOf yX5_sumOf, Cond.code yX5_sumOf cX5_sumOf 4 (some .int), Cond.methodLink RL 93 yX4_rest, Cond.instanceMethod yX4_rest]
def wsL_law_r25 : List Cond := [Cond.selects RX4 yX4_rest yX4_rest, Cond.code yX4_rest cX4_rest 6 (some .int), Cond.constant RX4 202 (65536), Cond.methodLink RX4 199 yX4_seedAfter, Cond.static yX4_seedAfter, Cond.code yX4_seedAfter cX4_seedAfter 1 (some .int), Cond.constantLong RX4 284 (1103515245), Cond.constantLong RX4 286 (12345), Cond.constantLong RX4 288 (2147483648), Cond.methodLink RL 96 yX5_rest, Cond.instanceMethod yX5_rest, Cond.selects RX5 yX5_rest yX5_rest, Cond.code yX5_rest cX5_rest 7 (some .int), Cond.fieldLink RX5 201 "TownOnWeightModel" "seedNow" "J", Cond.methodLink RX5 211 yX5_draw, Cond.instanceMethod yX5_draw, Cond.selects RX5 yX5_draw yX5_draw, Cond.code yX5_draw cX5_draw 2 (some .int), Cond.constantLong RX5 199 (1103515245), Cond.constantLong RX5 205 (12345), Cond.constantLong RX5 207 (2147483647), Cond.constantLong RX5 209 (65536), Cond.methodLink RL 97 yX4_read, Cond.instanceMethod yX4_read]
def wsL_law_r26 : List Cond := [Cond.selects RX4 yX4_read yX4_read, Cond.code yX4_read cX4_read 4 (some .int), Cond.instanceMethod yX1_waysTo, Cond.selects RX1 yX1_waysTo yX1_waysTo, Cond.code yX1_waysTo cX1_waysTo 4 (some .int), Cond.instanceMethod yX1_toldLossOf, Cond.selects RX1 yX1_toldLossOf yX1_toldLossOf, Cond.code yX1_toldLossOf cX1_toldLossOf 4 (some .int), Cond.instanceMethod yX3_add, Cond.selects RX3 yX3_add yX3_add, Cond.code yX3_add cX3_add 3 none, Cond.fieldLink RX3 18 "TownOnWeight$Readings" "number" "I", Cond.methodLink RL 100 yX5_read, Cond.instanceMethod yX5_read, Cond.selects RX5 yX5_read yX5_read, Cond.code yX5_read cX5_read 3 (some .int), Cond.fieldLink RX5 214 "TownOnWeightModel" "readings" "I", Cond.methodLink RL 101 yX4_wipe, Cond.instanceMethod yX4_wipe, Cond.selects RX4 yX4_wipe yX4_wipe, Cond.code yX4_wipe cX4_wipe 2 (some .int), Cond.methodLink RL 104 yX5_wipe, Cond.instanceMethod yX5_wipe, Cond.selects RX5 yX5_wipe yX5_wipe]
def wsL_law_r27 : List Cond := [Cond.code yX5_wipe cX5_wipe 2 (some .int), Cond.methodLink RL 105 yX4_leaks, Cond.instanceMethod yX4_leaks, Cond.selects RX4 yX4_leaks yX4_leaks, Cond.code yX4_leaks cX4_leaks 3 (some .int), Cond.instanceMethod yX3_leastLeakOf, Cond.selects RX3 yX3_leastLeakOf yX3_leastLeakOf, Cond.code yX3_leastLeakOf cX3_leastLeakOf 3 (some .int), Cond.methodLink RX3 28 yX3_givesAll, Cond.instanceMethod yX3_givesAll, Cond.selects RX3 yX3_givesAll yX3_givesAll, Cond.code yX3_givesAll cX3_givesAll 5 (some .boolean), Cond.methodLink RL 108 yX5_leaks, Cond.instanceMethod yX5_leaks, Cond.selects RX5 yX5_leaks yX5_leaks, Cond.code yX5_leaks cX5_leaks 1 (some .int), Cond.methodLink RX5 223 yX5_leaksNow, Cond.instanceMethod yX5_leaksNow, Cond.selects RX5 yX5_leaksNow yX5_leaksNow, Cond.code yX5_leaksNow cX5_leaksNow 3 (some .int), Cond.methodLink RX5 220 yX5_leakNow, Cond.instanceMethod yX5_leakNow, Cond.selects RX5 yX5_leakNow yX5_leakNow, Cond.code yX5_leakNow cX5_leakNow 6 (some .int)]
def wsL_law_r28 : List Cond := [Cond.methodLink RX5 217 yX5_feetBy, Cond.instanceMethod yX5_feetBy, Cond.selects RX5 yX5_feetBy yX5_feetBy, Cond.code yX5_feetBy cX5_feetBy 5 (some .int), Cond.methodLink RL 109 yX4_leak, Cond.instanceMethod yX4_leak, Cond.selects RX4 yX4_leak yX4_leak, Cond.code yX4_leak cX4_leak 2 (some .int), Cond.methodLink RL 112 yX5_leak, Cond.instanceMethod yX5_leak, Cond.selects RX5 yX5_leak yX5_leak, Cond.code yX5_leak cX5_leak 2 (some .int), Cond.methodLink RL 113 yX4_look, Cond.instanceMethod yX4_look, Cond.selects RX4 yX4_look yX4_look, Cond.code yX4_look cX4_look 7 (some .int), Cond.methodLink RX4 230 Lib.Math.max.name, Cond.methodLink RX4 219 yX4_leaks, Cond.methodLink RL 116 yX5_look, Cond.instanceMethod yX5_look, Cond.selects RX5 yX5_look yX5_look, Cond.code yX5_look cX5_look 1 (some .int), Cond.methodLink RX5 226 yX5_lookNow, Cond.instanceMethod yX5_lookNow]
def wsL_law_r29 : List Cond := [Cond.selects RX5 yX5_lookNow yX5_lookNow, Cond.code yX5_lookNow cX5_lookNow 8 (some .int), Cond.methodLink RL 117 yX4_image, Cond.instanceMethod yX4_image, Cond.selects RX4 yX4_image yX4_image, Cond.code yX4_image cX4_image 1 (some .int), Cond.fieldLink RX4 235 "TownOnWeight" "hasImage" "Z", Cond.fieldLink RX4 238 "TownOnWeight" "imageHouses" "I", Cond.instanceMethod yX3_copyFrom, Cond.selects RX3 yX3_copyFrom yX3_copyFrom, Cond.code yX3_copyFrom cX3_copyFrom 2 none, Cond.methodLink RX3 22 arraycopyName, Cond.methodLink RL 120 yX5_image, Cond.instanceMethod yX5_image, Cond.selects RX5 yX5_image yX5_image, Cond.code yX5_image cX5_image 2 (some .int), Cond.fieldLink RX5 229 "TownOnWeightModel" "isKept" "Z", Cond.fieldLink RX5 232 "TownOnWeightModel" "keptHouses" "I", Cond.fieldLink RX5 235 "TownOnWeightModel" "keptLong" "I", Cond.fieldLink RX5 238 "TownOnWeightModel" "keptHangs" "I", Cond.fieldLink RX5 241 "TownOnWeightModel" "keptHour" "I", Cond.fieldLink RX5 244 "TownOnWeightModel" "keptLost" "I", Cond.fieldLink RX5 247 "TownOnWeightModel" "keptWorked" "I", Cond.fieldLink RX5 250 "TownOnWeightModel" "keptBrakes" "I"]
def wsL_law_r30 : List Cond := [Cond.fieldLink RX5 253 "TownOnWeightModel" "keptDown" "Z", Cond.fieldLink RX5 256 "TownOnWeightModel" "keptRain" "Z", Cond.fieldLink RX5 259 "TownOnWeightModel" "keptReadings" "I", Cond.methodLink RL 121 yX4_restore, Cond.instanceMethod yX4_restore, Cond.selects RX4 yX4_restore yX4_restore, Cond.code yX4_restore cX4_restore 1 (some .int), Cond.methodLink RL 124 yX5_restore, Cond.instanceMethod yX5_restore, Cond.selects RX5 yX5_restore yX5_restore, Cond.code yX5_restore cX5_restore 2 (some .int), Cond.methodLink RL 125 yX4_count, Cond.instanceMethod yX4_count, Cond.selects RX4 yX4_count yX4_count, Cond.code yX4_count cX4_count 2 (some .int), Cond.methodLink RL 128 yX5_count, Cond.instanceMethod yX5_count, Cond.selects RX5 yX5_count yX5_count, Cond.code yX5_count cX5_count 2 (some .int), Cond.methodLink RX5 262 yX5_howMany, Cond.instanceMethod yX5_howMany, Cond.selects RX5 yX5_howMany yX5_howMany, Cond.code yX5_howMany cX5_howMany 2 (some .int), Cond.methodLink RL 129 yX4_digest]
def wsL_law_r31 : List Cond := [Cond.instanceMethod yX4_digest, Cond.selects RX4 yX4_digest yX4_digest, Cond.code yX4_digest cX4_digest 5 (some .long), Cond.constantLong RX4 247 (601), Cond.constantLong RX4 253 (31), Cond.methodLink RX4 249 yX4_digestOfHouses, Cond.instanceMethod yX4_digestOfHouses, Cond.selects RX4 yX4_digestOfHouses yX4_digestOfHouses, Cond.code yX4_digestOfHouses cX4_digestOfHouses 7 (some .long), Cond.methodLink RX4 272 yX4_about, Cond.methodLink RX4 275 yX4_wants, Cond.methodLink RX4 278 yX4_part, Cond.methodLink RX4 281 yX4_leak, Cond.methodLink RX4 255 yX4_worked, Cond.methodLink RX4 257 yX4_goes, Cond.methodLink RX4 260 yX4_more, Cond.methodLink RX4 263 yX4_look, Cond.methodLink RX4 269 yX4_count, Cond.methodLink RL 133 yX5_digest, Cond.instanceMethod yX5_digest, Cond.selects RX5 yX5_digest yX5_digest, Cond.code yX5_digest cX5_digest 3 (some .long), Cond.constantLong RX5 270 (601), Cond.fieldLink RX5 267 "TownOnWeightModel" "h" "J"]
def wsL_law_r32 : List Cond := [Cond.methodLink RX5 272 yX5_mix, Cond.instanceMethod yX5_mix, Cond.selects RX5 yX5_mix yX5_mix, Cond.code yX5_mix cX5_mix 3 none, Cond.constantLong RX5 265 (31)]
def wsL_law : List Cond := (wsL_law_r1 ++ (wsL_law_r2 ++ (wsL_law_r3 ++ (wsL_law_r4 ++ (wsL_law_r5 ++ (wsL_law_r6 ++ (wsL_law_r7 ++ (wsL_law_r8 ++ (wsL_law_r9 ++ (wsL_law_r10 ++ (wsL_law_r11 ++ (wsL_law_r12 ++ (wsL_law_r13 ++ (wsL_law_r14 ++ (wsL_law_r15 ++ (wsL_law_r16 ++ (wsL_law_r17 ++ (wsL_law_r18 ++ (wsL_law_r19 ++ (wsL_law_r20 ++ (wsL_law_r21 ++ (wsL_law_r22 ++ (wsL_law_r23 ++ (wsL_law_r24 ++ (wsL_law_r25 ++ (wsL_law_r26 ++ (wsL_law_r27 ++ (wsL_law_r28 ++ (wsL_law_r29 ++ (wsL_law_r30 ++ (wsL_law_r31 ++ wsL_law_r32))))))))))))))))))))))))))))))) ++ wsX40 ++ wsX50 ++ wsX20 ++ wsX10 ++ wsX00 ++ wsX30 ++ ([] : List Cond)
theorem inlX0 : ∀ w ∈ wsX00, w ∈ wsL_law := fun _ h => List.mem_append_left _ (List.mem_append_left _ (List.mem_append_right _ h))
theorem inlX1 : ∀ w ∈ wsX10, w ∈ wsL_law := fun _ h => List.mem_append_left _ (List.mem_append_left _ (List.mem_append_left _ (List.mem_append_right _ h)))
theorem inlX2 : ∀ w ∈ wsX20, w ∈ wsL_law := fun _ h => List.mem_append_left _ (List.mem_append_left _ (List.mem_append_left _ (List.mem_append_left _ (List.mem_append_right _ h))))
theorem inlX3 : ∀ w ∈ wsX30, w ∈ wsL_law := fun _ h => List.mem_append_left _ (List.mem_append_right _ h)
theorem inlX4 : ∀ w ∈ wsX40, w ∈ wsL_law := fun _ h => List.mem_append_left _ (List.mem_append_left _ (List.mem_append_left _ (List.mem_append_left _ (List.mem_append_left _ (List.mem_append_left _ (List.mem_append_right _ h))))))
theorem inlX5 : ∀ w ∈ wsX50, w ∈ wsL_law := fun _ h => List.mem_append_left _ (List.mem_append_left _ (List.mem_append_left _ (List.mem_append_left _ (List.mem_append_left _ (List.mem_append_right _ h)))))
end
section
def vx_nest : List Cond := [.methodLinkNest "TownOnWeight" 9 ⟨"TownOnWeight$Page", "<init>", "()V"⟩ "TownOnWeight", .fieldLinkNest "TownOnWeight" 50 "TownOnWeight$Page" "size" "I" "TownOnWeight", .fieldLinkNest "TownOnWeight$Houses" 45 "TownOnWeight$Page" "codes" "[I" "TownOnWeight", .fieldLinkNest "TownOnWeight" 266 "TownOnWeight$Page" "codes" "[I" "TownOnWeight", .methodLinkNest "TownOnWeight" 18 ⟨"TownOnWeight$Houses", "<init>", "()V"⟩ "TownOnWeight", .fieldLinkNest "TownOnWeight" 58 "TownOnWeight$Houses" "number" "I" "TownOnWeight", .fieldLinkNest "TownOnWeight$Day" 84 "TownOnWeight$Houses" "number" "I" "TownOnWeight", .fieldLinkNest "TownOnWeight" 84 "TownOnWeight$Houses" "kind" "[I" "TownOnWeight", .fieldLinkNest "TownOnWeight" 88 "TownOnWeight$Houses" "parent" "[I" "TownOnWeight", .fieldLinkNest "TownOnWeight$Day" 81 "TownOnWeight$Houses" "from" "[I" "TownOnWeight", .fieldLinkNest "TownOnWeight" 91 "TownOnWeight$Houses" "from" "[I" "TownOnWeight", .fieldLinkNest "TownOnWeight" 94 "TownOnWeight$Houses" "to" "[I" "TownOnWeight", .fieldLinkNest "TownOnWeight$Day" 75 "TownOnWeight$Houses" "takes" "[I" "TownOnWeight", .fieldLinkNest "TownOnWeight" 97 "TownOnWeight$Houses" "takes" "[I" "TownOnWeight", .fieldLinkNest "TownOnWeight" 100 "TownOnWeight$Houses" "loss" "[I" "TownOnWeight", .fieldLinkNest "TownOnWeight$Day" 91 "TownOnWeight$Houses" "way" "[I" "TownOnWeight", .methodLinkNest "TownOnWeight" 25 ⟨"TownOnWeight$Day", "<init>", "()V"⟩ "TownOnWeight", .fieldLinkNest "TownOnWeight" 131 "TownOnWeight$Day" "length" "I" "TownOnWeight", .fieldLinkNest "TownOnWeight" 133 "TownOnWeight$Day" "hangs" "I" "TownOnWeight", .fieldLinkNest "TownOnWeight" 183 "TownOnWeight$Day" "hour" "I" "TownOnWeight", .fieldLinkNest "TownOnWeight" 244 "TownOnWeight$Day" "lost" "I" "TownOnWeight", .fieldLinkNest "TownOnWeight" 164 "TownOnWeight$Day" "worked" "I" "TownOnWeight", .fieldLinkNest "TownOnWeight" 109 "TownOnWeight$Day" "brakes" "I" "TownOnWeight", .fieldLinkNest "TownOnWeight" 139 "TownOnWeight$Day" "rain" "Z" "TownOnWeight", .fieldLinkNest "TownOnWeight" 196 "TownOnWeight$Day" "down" "Z" "TownOnWeight", .fieldLinkNest "TownOnWeight" 203 "TownOnWeight$Day" "takenByAll" "I" "TownOnWeight", .fieldLinkNest "TownOnWeight" 103 "TownOnWeight$Day" "taken" "[I" "TownOnWeight", .fieldLinkNest "TownOnWeight" 106 "TownOnWeight$Day" "owed" "[I" "TownOnWeight", .fieldLinkNest "TownOnWeight" 170 "TownOnWeight$Day" "parts" "[I" "TownOnWeight", .methodLinkNest "TownOnWeight" 32 ⟨"TownOnWeight$Readings", "<init>", "()V"⟩ "TownOnWeight", .fieldLinkNest "TownOnWeight" 206 "TownOnWeight$Readings" "number" "I" "TownOnWeight", .methodLinkNest "TownOnWeight" 46 ⟨"TownOnWeight$Page", "lettersIn", "(J)I"⟩ "TownOnWeight", .methodLinkNest "TownOnWeight" 54 ⟨"TownOnWeight$Page", "append", "(JI)V"⟩ "TownOnWeight", .methodLinkNest "TownOnWeight" 61 ⟨"TownOnWeight$Page", "faultAt", "(I)I"⟩ "TownOnWeight", .methodLinkNest "TownOnWeight" 65 ⟨"TownOnWeight$Page", "isHouse", "(I)Z"⟩ "TownOnWeight", .methodLinkNest "TownOnWeight" 69 ⟨"TownOnWeight$Day", "hasBegun", "()Z"⟩ "TownOnWeight", .methodLinkNest "TownOnWeight" 73 ⟨"TownOnWeight$Houses", "add", "(LTownOnWeight$Page;)V"⟩ "TownOnWeight", .methodLinkNest "TownOnWeight$Houses" 50 ⟨"TownOnWeight$Page", "kindOf", "(I)I"⟩ "TownOnWeight", .methodLinkNest "TownOnWeight$Houses" 53 ⟨"TownOnWeight$Page", "digitAt", "(I)I"⟩ "TownOnWeight", .methodLinkNest "TownOnWeight$Houses" 37 ⟨"TownOnWeight", "bit", "(I)I"⟩ "TownOnWeight", .methodLinkNest "TownOnWeight" 77 ⟨"TownOnWeight$Day", "welcome", "(I)V"⟩ "TownOnWeight", .methodLinkNest "TownOnWeight$Day" 62 ⟨"TownOnWeight", "bit", "(I)I"⟩ "TownOnWeight", .methodLinkNest "TownOnWeight" 81 ⟨"TownOnWeight$Houses", "has", "(I)Z"⟩ "TownOnWeight", .methodLinkNest "TownOnWeight" 128 ⟨"TownOnWeight$Houses", "isA", "(II)Z"⟩ "TownOnWeight", .methodLinkNest "TownOnWeight" 143 ⟨"TownOnWeight$Day", "wantOf", "(LTownOnWeight$Houses;I)I"⟩ "TownOnWeight", .methodLinkNest "TownOnWeight$Day" 66 ⟨"TownOnWeight$Houses", "isOpen", "(II)Z"⟩ "TownOnWeight", .methodLinkNest "TownOnWeight$Day" 72 ⟨"TownOnWeight", "isIn", "(II)Z"⟩ "TownOnWeight", .methodLinkNest "TownOnWeight$Day" 78 ⟨"TownOnWeight$Houses", "isA", "(II)Z"⟩ "TownOnWeight", .methodLinkNest "TownOnWeight" 147 ⟨"TownOnWeight$Houses", "areBits", "(I)Z"⟩ "TownOnWeight", .methodLinkNest "TownOnWeight" 150 ⟨"TownOnWeight$Day", "tellWanted", "(LTownOnWeight$Houses;)V"⟩ "TownOnWeight", .methodLinkNest "TownOnWeight" 154 ⟨"TownOnWeight$Day", "goesBy", "(LTownOnWeight$Houses;I)I"⟩ "TownOnWeight", .methodLinkNest "TownOnWeight$Day" 94 ⟨"TownOnWeight$Houses", "lossOf", "(IZ)I"⟩ "TownOnWeight", .methodLinkNest "TownOnWeight$Houses" 64 ⟨"TownOnWeight", "isIn", "(II)Z"⟩ "TownOnWeight", .methodLinkNest "TownOnWeight" 157 ⟨"TownOnWeight$Day", "hourComes", "()Z"⟩ "TownOnWeight", .methodLinkNest "TownOnWeight" 160 ⟨"TownOnWeight$Day", "passHour", "(LTownOnWeight$Houses;)I"⟩ "TownOnWeight", .methodLinkNest "TownOnWeight$Day" 102 ⟨"TownOnWeight$Houses", "all", "()I"⟩ "TownOnWeight", .methodLinkNest "TownOnWeight" 167 ⟨"TownOnWeight$Day", "tellParts", "(I)V"⟩ "TownOnWeight", .methodLinkNest "TownOnWeight" 173 ⟨"TownOnWeight$Day", "passNight", "(I)I"⟩ "TownOnWeight", .methodLinkNest "TownOnWeight" 192 ⟨"TownOnWeight$Day", "copyFrom", "(LTownOnWeight$Day;)V"⟩ "TownOnWeight", .methodLinkNest "TownOnWeight" 222 ⟨"TownOnWeight$Houses", "all", "()I"⟩ "TownOnWeight", .methodLinkNest "TownOnWeight" 186 ⟨"TownOnWeight$Houses", "openIn", "(I)I"⟩ "TownOnWeight", .methodLinkNest "TownOnWeight" 189 ⟨"TownOnWeight$Houses", "takesOf", "(I)I"⟩ "TownOnWeight", .methodLinkNest "TownOnWeight" 207 ⟨"TownOnWeight$Houses", "waysTo", "(I)I"⟩ "TownOnWeight", .methodLinkNest "TownOnWeight" 210 ⟨"TownOnWeight$Houses", "toldLossOf", "(I)I"⟩ "TownOnWeight", .methodLinkNest "TownOnWeight" 213 ⟨"TownOnWeight$Readings", "add", "(II)V"⟩ "TownOnWeight", .methodLinkNest "TownOnWeight" 216 ⟨"TownOnWeight$Readings", "leastLeakOf", "(I)I"⟩ "TownOnWeight", .methodLinkNest "TownOnWeight$Readings" 32 ⟨"TownOnWeight", "isIn", "(II)Z"⟩ "TownOnWeight", .methodLinkNest "TownOnWeight" 241 ⟨"TownOnWeight$Readings", "copyFrom", "(LTownOnWeight$Readings;)V"⟩ "TownOnWeight"]
theorem vx_ga {a b : List Cond} (ha : a.all goodWord = true) (hb : b.all goodWord = true) : (a ++ b).all goodWord = true := by rw [List.all_append, ha, hb]; rfl
theorem vx_go1 : wsL_law_r1.all goodWord = true := by decide +kernel
theorem vx_go2 : wsL_law_r2.all goodWord = true := by decide +kernel
theorem vx_go3 : wsL_law_r3.all goodWord = true := by decide +kernel
theorem vx_go4 : wsL_law_r4.all goodWord = true := by decide +kernel
theorem vx_go5 : wsL_law_r5.all goodWord = true := by decide +kernel
theorem vx_go6 : wsL_law_r6.all goodWord = true := by decide +kernel
theorem vx_go7 : wsL_law_r7.all goodWord = true := by decide +kernel
theorem vx_go8 : wsL_law_r8.all goodWord = true := by decide +kernel
theorem vx_go9 : wsL_law_r9.all goodWord = true := by decide +kernel
theorem vx_go10 : wsL_law_r10.all goodWord = true := by decide +kernel
theorem vx_go11 : wsL_law_r11.all goodWord = true := by decide +kernel
theorem vx_go12 : wsL_law_r12.all goodWord = true := by decide +kernel
theorem vx_go13 : wsL_law_r13.all goodWord = true := by decide +kernel
theorem vx_go14 : wsL_law_r14.all goodWord = true := by decide +kernel
theorem vx_go15 : wsL_law_r15.all goodWord = true := by decide +kernel
theorem vx_go16 : wsL_law_r16.all goodWord = true := by decide +kernel
theorem vx_go17 : wsL_law_r17.all goodWord = true := by decide +kernel
theorem vx_go18 : wsL_law_r18.all goodWord = true := by decide +kernel
theorem vx_go19 : wsL_law_r19.all goodWord = true := by decide +kernel
theorem vx_go20 : wsL_law_r20.all goodWord = true := by decide +kernel
theorem vx_go21 : wsL_law_r21.all goodWord = true := by decide +kernel
theorem vx_go22 : wsL_law_r22.all goodWord = true := by decide +kernel
theorem vx_go23 : wsL_law_r23.all goodWord = true := by decide +kernel
theorem vx_go24 : wsL_law_r24.all goodWord = true := by decide +kernel
theorem vx_go25 : wsL_law_r25.all goodWord = true := by decide +kernel
theorem vx_go26 : wsL_law_r26.all goodWord = true := by decide +kernel
theorem vx_go27 : wsL_law_r27.all goodWord = true := by decide +kernel
theorem vx_go28 : wsL_law_r28.all goodWord = true := by decide +kernel
theorem vx_go29 : wsL_law_r29.all goodWord = true := by decide +kernel
theorem vx_go30 : wsL_law_r30.all goodWord = true := by decide +kernel
theorem vx_go31 : wsL_law_r31.all goodWord = true := by decide +kernel
theorem vx_go32 : wsL_law_r32.all goodWord = true := by decide +kernel
theorem vx_goX0 : wsX00.all goodWord = true := by decide +kernel
theorem vx_goX1 : wsX10.all goodWord = true := by decide +kernel
theorem vx_goX2 : wsX20.all goodWord = true := by decide +kernel
theorem vx_goX3 : wsX30.all goodWord = true := by decide +kernel
theorem vx_goX4 : wsX40.all goodWord = true := by decide +kernel
theorem vx_goX5 : wsX50.all goodWord = true := by decide +kernel
theorem vx_good_all : wsL_law.all goodWord = true := (vx_ga (vx_ga (vx_ga (vx_ga (vx_ga (vx_ga (vx_ga (vx_ga vx_go1 (vx_ga vx_go2 (vx_ga vx_go3 (vx_ga vx_go4 (vx_ga vx_go5 (vx_ga vx_go6 (vx_ga vx_go7 (vx_ga vx_go8 (vx_ga vx_go9 (vx_ga vx_go10 (vx_ga vx_go11 (vx_ga vx_go12 (vx_ga vx_go13 (vx_ga vx_go14 (vx_ga vx_go15 (vx_ga vx_go16 (vx_ga vx_go17 (vx_ga vx_go18 (vx_ga vx_go19 (vx_ga vx_go20 (vx_ga vx_go21 (vx_ga vx_go22 (vx_ga vx_go23 (vx_ga vx_go24 (vx_ga vx_go25 (vx_ga vx_go26 (vx_ga vx_go27 (vx_ga vx_go28 (vx_ga vx_go29 (vx_ga vx_go30 (vx_ga vx_go31 vx_go32))))))))))))))))))))))))))))))) vx_goX4) vx_goX5) vx_goX2) vx_goX1) vx_goX0) vx_goX3) rfl)
theorem vx_good : ∀ w ∈ wsL_law, (w.onTables && w.keeps) = true ∨ ∃ ty, w = .arrayClass ty := fun w h => good_of_word (List.all_eq_true.mp vx_good_all w h)
theorem tm_1 {w : Cond} (h : w ∈ wsL_law_r1) : w ∈ wsL_law := List.mem_append_left _ (List.mem_append_left _ (List.mem_append_left _ (List.mem_append_left _ (List.mem_append_left _ (List.mem_append_left _ (List.mem_append_left _ (List.mem_append_left _ h)))))))
theorem tm_2 {w : Cond} (h : w ∈ wsL_law_r2) : w ∈ wsL_law := List.mem_append_left _ (List.mem_append_left _ (List.mem_append_left _ (List.mem_append_left _ (List.mem_append_left _ (List.mem_append_left _ (List.mem_append_left _ (List.mem_append_right _ (List.mem_append_left _ h))))))))
theorem tm_3 {w : Cond} (h : w ∈ wsL_law_r3) : w ∈ wsL_law := List.mem_append_left _ (List.mem_append_left _ (List.mem_append_left _ (List.mem_append_left _ (List.mem_append_left _ (List.mem_append_left _ (List.mem_append_left _ (List.mem_append_right _ (List.mem_append_right _ (List.mem_append_left _ h)))))))))
theorem tm_4 {w : Cond} (h : w ∈ wsL_law_r4) : w ∈ wsL_law := List.mem_append_left _ (List.mem_append_left _ (List.mem_append_left _ (List.mem_append_left _ (List.mem_append_left _ (List.mem_append_left _ (List.mem_append_left _ (List.mem_append_right _ (List.mem_append_right _ (List.mem_append_right _ (List.mem_append_left _ h))))))))))
theorem tm_5 {w : Cond} (h : w ∈ wsL_law_r5) : w ∈ wsL_law := List.mem_append_left _ (List.mem_append_left _ (List.mem_append_left _ (List.mem_append_left _ (List.mem_append_left _ (List.mem_append_left _ (List.mem_append_left _ (List.mem_append_right _ (List.mem_append_right _ (List.mem_append_right _ (List.mem_append_right _ (List.mem_append_left _ h)))))))))))
theorem tm_6 {w : Cond} (h : w ∈ wsL_law_r6) : w ∈ wsL_law := List.mem_append_left _ (List.mem_append_left _ (List.mem_append_left _ (List.mem_append_left _ (List.mem_append_left _ (List.mem_append_left _ (List.mem_append_left _ (List.mem_append_right _ (List.mem_append_right _ (List.mem_append_right _ (List.mem_append_right _ (List.mem_append_right _ (List.mem_append_left _ h))))))))))))
theorem tm_7 {w : Cond} (h : w ∈ wsL_law_r7) : w ∈ wsL_law := List.mem_append_left _ (List.mem_append_left _ (List.mem_append_left _ (List.mem_append_left _ (List.mem_append_left _ (List.mem_append_left _ (List.mem_append_left _ (List.mem_append_right _ (List.mem_append_right _ (List.mem_append_right _ (List.mem_append_right _ (List.mem_append_right _ (List.mem_append_right _ (List.mem_append_left _ h)))))))))))))
theorem tm_8 {w : Cond} (h : w ∈ wsL_law_r8) : w ∈ wsL_law := List.mem_append_left _ (List.mem_append_left _ (List.mem_append_left _ (List.mem_append_left _ (List.mem_append_left _ (List.mem_append_left _ (List.mem_append_left _ (List.mem_append_right _ (List.mem_append_right _ (List.mem_append_right _ (List.mem_append_right _ (List.mem_append_right _ (List.mem_append_right _ (List.mem_append_right _ (List.mem_append_left _ h))))))))))))))
theorem tm_9 {w : Cond} (h : w ∈ wsL_law_r9) : w ∈ wsL_law := List.mem_append_left _ (List.mem_append_left _ (List.mem_append_left _ (List.mem_append_left _ (List.mem_append_left _ (List.mem_append_left _ (List.mem_append_left _ (List.mem_append_right _ (List.mem_append_right _ (List.mem_append_right _ (List.mem_append_right _ (List.mem_append_right _ (List.mem_append_right _ (List.mem_append_right _ (List.mem_append_right _ (List.mem_append_left _ h)))))))))))))))
theorem tm_10 {w : Cond} (h : w ∈ wsL_law_r10) : w ∈ wsL_law := List.mem_append_left _ (List.mem_append_left _ (List.mem_append_left _ (List.mem_append_left _ (List.mem_append_left _ (List.mem_append_left _ (List.mem_append_left _ (List.mem_append_right _ (List.mem_append_right _ (List.mem_append_right _ (List.mem_append_right _ (List.mem_append_right _ (List.mem_append_right _ (List.mem_append_right _ (List.mem_append_right _ (List.mem_append_right _ (List.mem_append_left _ h))))))))))))))))
theorem tm_11 {w : Cond} (h : w ∈ wsL_law_r11) : w ∈ wsL_law := List.mem_append_left _ (List.mem_append_left _ (List.mem_append_left _ (List.mem_append_left _ (List.mem_append_left _ (List.mem_append_left _ (List.mem_append_left _ (List.mem_append_right _ (List.mem_append_right _ (List.mem_append_right _ (List.mem_append_right _ (List.mem_append_right _ (List.mem_append_right _ (List.mem_append_right _ (List.mem_append_right _ (List.mem_append_right _ (List.mem_append_right _ (List.mem_append_left _ h)))))))))))))))))
theorem tm_12 {w : Cond} (h : w ∈ wsL_law_r12) : w ∈ wsL_law := List.mem_append_left _ (List.mem_append_left _ (List.mem_append_left _ (List.mem_append_left _ (List.mem_append_left _ (List.mem_append_left _ (List.mem_append_left _ (List.mem_append_right _ (List.mem_append_right _ (List.mem_append_right _ (List.mem_append_right _ (List.mem_append_right _ (List.mem_append_right _ (List.mem_append_right _ (List.mem_append_right _ (List.mem_append_right _ (List.mem_append_right _ (List.mem_append_right _ (List.mem_append_left _ h))))))))))))))))))
theorem tm_13 {w : Cond} (h : w ∈ wsL_law_r13) : w ∈ wsL_law := List.mem_append_left _ (List.mem_append_left _ (List.mem_append_left _ (List.mem_append_left _ (List.mem_append_left _ (List.mem_append_left _ (List.mem_append_left _ (List.mem_append_right _ (List.mem_append_right _ (List.mem_append_right _ (List.mem_append_right _ (List.mem_append_right _ (List.mem_append_right _ (List.mem_append_right _ (List.mem_append_right _ (List.mem_append_right _ (List.mem_append_right _ (List.mem_append_right _ (List.mem_append_right _ (List.mem_append_left _ h)))))))))))))))))))
theorem tm_14 {w : Cond} (h : w ∈ wsL_law_r14) : w ∈ wsL_law := List.mem_append_left _ (List.mem_append_left _ (List.mem_append_left _ (List.mem_append_left _ (List.mem_append_left _ (List.mem_append_left _ (List.mem_append_left _ (List.mem_append_right _ (List.mem_append_right _ (List.mem_append_right _ (List.mem_append_right _ (List.mem_append_right _ (List.mem_append_right _ (List.mem_append_right _ (List.mem_append_right _ (List.mem_append_right _ (List.mem_append_right _ (List.mem_append_right _ (List.mem_append_right _ (List.mem_append_right _ (List.mem_append_left _ h))))))))))))))))))))
theorem tm_15 {w : Cond} (h : w ∈ wsL_law_r15) : w ∈ wsL_law := List.mem_append_left _ (List.mem_append_left _ (List.mem_append_left _ (List.mem_append_left _ (List.mem_append_left _ (List.mem_append_left _ (List.mem_append_left _ (List.mem_append_right _ (List.mem_append_right _ (List.mem_append_right _ (List.mem_append_right _ (List.mem_append_right _ (List.mem_append_right _ (List.mem_append_right _ (List.mem_append_right _ (List.mem_append_right _ (List.mem_append_right _ (List.mem_append_right _ (List.mem_append_right _ (List.mem_append_right _ (List.mem_append_right _ (List.mem_append_left _ h)))))))))))))))))))))
theorem tm_16 {w : Cond} (h : w ∈ wsL_law_r16) : w ∈ wsL_law := List.mem_append_left _ (List.mem_append_left _ (List.mem_append_left _ (List.mem_append_left _ (List.mem_append_left _ (List.mem_append_left _ (List.mem_append_left _ (List.mem_append_right _ (List.mem_append_right _ (List.mem_append_right _ (List.mem_append_right _ (List.mem_append_right _ (List.mem_append_right _ (List.mem_append_right _ (List.mem_append_right _ (List.mem_append_right _ (List.mem_append_right _ (List.mem_append_right _ (List.mem_append_right _ (List.mem_append_right _ (List.mem_append_right _ (List.mem_append_right _ (List.mem_append_left _ h))))))))))))))))))))))
theorem tm_17 {w : Cond} (h : w ∈ wsL_law_r17) : w ∈ wsL_law := List.mem_append_left _ (List.mem_append_left _ (List.mem_append_left _ (List.mem_append_left _ (List.mem_append_left _ (List.mem_append_left _ (List.mem_append_left _ (List.mem_append_right _ (List.mem_append_right _ (List.mem_append_right _ (List.mem_append_right _ (List.mem_append_right _ (List.mem_append_right _ (List.mem_append_right _ (List.mem_append_right _ (List.mem_append_right _ (List.mem_append_right _ (List.mem_append_right _ (List.mem_append_right _ (List.mem_append_right _ (List.mem_append_right _ (List.mem_append_right _ (List.mem_append_right _ (List.mem_append_left _ h)))))))))))))))))))))))
theorem tm_18 {w : Cond} (h : w ∈ wsL_law_r18) : w ∈ wsL_law := List.mem_append_left _ (List.mem_append_left _ (List.mem_append_left _ (List.mem_append_left _ (List.mem_append_left _ (List.mem_append_left _ (List.mem_append_left _ (List.mem_append_right _ (List.mem_append_right _ (List.mem_append_right _ (List.mem_append_right _ (List.mem_append_right _ (List.mem_append_right _ (List.mem_append_right _ (List.mem_append_right _ (List.mem_append_right _ (List.mem_append_right _ (List.mem_append_right _ (List.mem_append_right _ (List.mem_append_right _ (List.mem_append_right _ (List.mem_append_right _ (List.mem_append_right _ (List.mem_append_right _ (List.mem_append_left _ h))))))))))))))))))))))))
theorem tm_19 {w : Cond} (h : w ∈ wsL_law_r19) : w ∈ wsL_law := List.mem_append_left _ (List.mem_append_left _ (List.mem_append_left _ (List.mem_append_left _ (List.mem_append_left _ (List.mem_append_left _ (List.mem_append_left _ (List.mem_append_right _ (List.mem_append_right _ (List.mem_append_right _ (List.mem_append_right _ (List.mem_append_right _ (List.mem_append_right _ (List.mem_append_right _ (List.mem_append_right _ (List.mem_append_right _ (List.mem_append_right _ (List.mem_append_right _ (List.mem_append_right _ (List.mem_append_right _ (List.mem_append_right _ (List.mem_append_right _ (List.mem_append_right _ (List.mem_append_right _ (List.mem_append_right _ (List.mem_append_left _ h)))))))))))))))))))))))))
theorem tm_20 {w : Cond} (h : w ∈ wsL_law_r20) : w ∈ wsL_law := List.mem_append_left _ (List.mem_append_left _ (List.mem_append_left _ (List.mem_append_left _ (List.mem_append_left _ (List.mem_append_left _ (List.mem_append_left _ (List.mem_append_right _ (List.mem_append_right _ (List.mem_append_right _ (List.mem_append_right _ (List.mem_append_right _ (List.mem_append_right _ (List.mem_append_right _ (List.mem_append_right _ (List.mem_append_right _ (List.mem_append_right _ (List.mem_append_right _ (List.mem_append_right _ (List.mem_append_right _ (List.mem_append_right _ (List.mem_append_right _ (List.mem_append_right _ (List.mem_append_right _ (List.mem_append_right _ (List.mem_append_right _ (List.mem_append_left _ h))))))))))))))))))))))))))
theorem tm_21 {w : Cond} (h : w ∈ wsL_law_r21) : w ∈ wsL_law := List.mem_append_left _ (List.mem_append_left _ (List.mem_append_left _ (List.mem_append_left _ (List.mem_append_left _ (List.mem_append_left _ (List.mem_append_left _ (List.mem_append_right _ (List.mem_append_right _ (List.mem_append_right _ (List.mem_append_right _ (List.mem_append_right _ (List.mem_append_right _ (List.mem_append_right _ (List.mem_append_right _ (List.mem_append_right _ (List.mem_append_right _ (List.mem_append_right _ (List.mem_append_right _ (List.mem_append_right _ (List.mem_append_right _ (List.mem_append_right _ (List.mem_append_right _ (List.mem_append_right _ (List.mem_append_right _ (List.mem_append_right _ (List.mem_append_right _ (List.mem_append_left _ h)))))))))))))))))))))))))))
theorem tm_22 {w : Cond} (h : w ∈ wsL_law_r22) : w ∈ wsL_law := List.mem_append_left _ (List.mem_append_left _ (List.mem_append_left _ (List.mem_append_left _ (List.mem_append_left _ (List.mem_append_left _ (List.mem_append_left _ (List.mem_append_right _ (List.mem_append_right _ (List.mem_append_right _ (List.mem_append_right _ (List.mem_append_right _ (List.mem_append_right _ (List.mem_append_right _ (List.mem_append_right _ (List.mem_append_right _ (List.mem_append_right _ (List.mem_append_right _ (List.mem_append_right _ (List.mem_append_right _ (List.mem_append_right _ (List.mem_append_right _ (List.mem_append_right _ (List.mem_append_right _ (List.mem_append_right _ (List.mem_append_right _ (List.mem_append_right _ (List.mem_append_right _ (List.mem_append_left _ h))))))))))))))))))))))))))))
theorem tm_23 {w : Cond} (h : w ∈ wsL_law_r23) : w ∈ wsL_law := List.mem_append_left _ (List.mem_append_left _ (List.mem_append_left _ (List.mem_append_left _ (List.mem_append_left _ (List.mem_append_left _ (List.mem_append_left _ (List.mem_append_right _ (List.mem_append_right _ (List.mem_append_right _ (List.mem_append_right _ (List.mem_append_right _ (List.mem_append_right _ (List.mem_append_right _ (List.mem_append_right _ (List.mem_append_right _ (List.mem_append_right _ (List.mem_append_right _ (List.mem_append_right _ (List.mem_append_right _ (List.mem_append_right _ (List.mem_append_right _ (List.mem_append_right _ (List.mem_append_right _ (List.mem_append_right _ (List.mem_append_right _ (List.mem_append_right _ (List.mem_append_right _ (List.mem_append_right _ (List.mem_append_left _ h)))))))))))))))))))))))))))))
theorem tm_24 {w : Cond} (h : w ∈ wsL_law_r24) : w ∈ wsL_law := List.mem_append_left _ (List.mem_append_left _ (List.mem_append_left _ (List.mem_append_left _ (List.mem_append_left _ (List.mem_append_left _ (List.mem_append_left _ (List.mem_append_right _ (List.mem_append_right _ (List.mem_append_right _ (List.mem_append_right _ (List.mem_append_right _ (List.mem_append_right _ (List.mem_append_right _ (List.mem_append_right _ (List.mem_append_right _ (List.mem_append_right _ (List.mem_append_right _ (List.mem_append_right _ (List.mem_append_right _ (List.mem_append_right _ (List.mem_append_right _ (List.mem_append_right _ (List.mem_append_right _ (List.mem_append_right _ (List.mem_append_right _ (List.mem_append_right _ (List.mem_append_right _ (List.mem_append_right _ (List.mem_append_right _ (List.mem_append_left _ h))))))))))))))))))))))))))))))
theorem tm_25 {w : Cond} (h : w ∈ wsL_law_r25) : w ∈ wsL_law := List.mem_append_left _ (List.mem_append_left _ (List.mem_append_left _ (List.mem_append_left _ (List.mem_append_left _ (List.mem_append_left _ (List.mem_append_left _ (List.mem_append_right _ (List.mem_append_right _ (List.mem_append_right _ (List.mem_append_right _ (List.mem_append_right _ (List.mem_append_right _ (List.mem_append_right _ (List.mem_append_right _ (List.mem_append_right _ (List.mem_append_right _ (List.mem_append_right _ (List.mem_append_right _ (List.mem_append_right _ (List.mem_append_right _ (List.mem_append_right _ (List.mem_append_right _ (List.mem_append_right _ (List.mem_append_right _ (List.mem_append_right _ (List.mem_append_right _ (List.mem_append_right _ (List.mem_append_right _ (List.mem_append_right _ (List.mem_append_right _ (List.mem_append_left _ h)))))))))))))))))))))))))))))))
theorem tm_26 {w : Cond} (h : w ∈ wsL_law_r26) : w ∈ wsL_law := List.mem_append_left _ (List.mem_append_left _ (List.mem_append_left _ (List.mem_append_left _ (List.mem_append_left _ (List.mem_append_left _ (List.mem_append_left _ (List.mem_append_right _ (List.mem_append_right _ (List.mem_append_right _ (List.mem_append_right _ (List.mem_append_right _ (List.mem_append_right _ (List.mem_append_right _ (List.mem_append_right _ (List.mem_append_right _ (List.mem_append_right _ (List.mem_append_right _ (List.mem_append_right _ (List.mem_append_right _ (List.mem_append_right _ (List.mem_append_right _ (List.mem_append_right _ (List.mem_append_right _ (List.mem_append_right _ (List.mem_append_right _ (List.mem_append_right _ (List.mem_append_right _ (List.mem_append_right _ (List.mem_append_right _ (List.mem_append_right _ (List.mem_append_right _ (List.mem_append_left _ h))))))))))))))))))))))))))))))))
theorem tm_27 {w : Cond} (h : w ∈ wsL_law_r27) : w ∈ wsL_law := List.mem_append_left _ (List.mem_append_left _ (List.mem_append_left _ (List.mem_append_left _ (List.mem_append_left _ (List.mem_append_left _ (List.mem_append_left _ (List.mem_append_right _ (List.mem_append_right _ (List.mem_append_right _ (List.mem_append_right _ (List.mem_append_right _ (List.mem_append_right _ (List.mem_append_right _ (List.mem_append_right _ (List.mem_append_right _ (List.mem_append_right _ (List.mem_append_right _ (List.mem_append_right _ (List.mem_append_right _ (List.mem_append_right _ (List.mem_append_right _ (List.mem_append_right _ (List.mem_append_right _ (List.mem_append_right _ (List.mem_append_right _ (List.mem_append_right _ (List.mem_append_right _ (List.mem_append_right _ (List.mem_append_right _ (List.mem_append_right _ (List.mem_append_right _ (List.mem_append_right _ (List.mem_append_left _ h)))))))))))))))))))))))))))))))))
theorem tm_28 {w : Cond} (h : w ∈ wsL_law_r28) : w ∈ wsL_law := List.mem_append_left _ (List.mem_append_left _ (List.mem_append_left _ (List.mem_append_left _ (List.mem_append_left _ (List.mem_append_left _ (List.mem_append_left _ (List.mem_append_right _ (List.mem_append_right _ (List.mem_append_right _ (List.mem_append_right _ (List.mem_append_right _ (List.mem_append_right _ (List.mem_append_right _ (List.mem_append_right _ (List.mem_append_right _ (List.mem_append_right _ (List.mem_append_right _ (List.mem_append_right _ (List.mem_append_right _ (List.mem_append_right _ (List.mem_append_right _ (List.mem_append_right _ (List.mem_append_right _ (List.mem_append_right _ (List.mem_append_right _ (List.mem_append_right _ (List.mem_append_right _ (List.mem_append_right _ (List.mem_append_right _ (List.mem_append_right _ (List.mem_append_right _ (List.mem_append_right _ (List.mem_append_right _ (List.mem_append_left _ h))))))))))))))))))))))))))))))))))
theorem tm_29 {w : Cond} (h : w ∈ wsL_law_r29) : w ∈ wsL_law := List.mem_append_left _ (List.mem_append_left _ (List.mem_append_left _ (List.mem_append_left _ (List.mem_append_left _ (List.mem_append_left _ (List.mem_append_left _ (List.mem_append_right _ (List.mem_append_right _ (List.mem_append_right _ (List.mem_append_right _ (List.mem_append_right _ (List.mem_append_right _ (List.mem_append_right _ (List.mem_append_right _ (List.mem_append_right _ (List.mem_append_right _ (List.mem_append_right _ (List.mem_append_right _ (List.mem_append_right _ (List.mem_append_right _ (List.mem_append_right _ (List.mem_append_right _ (List.mem_append_right _ (List.mem_append_right _ (List.mem_append_right _ (List.mem_append_right _ (List.mem_append_right _ (List.mem_append_right _ (List.mem_append_right _ (List.mem_append_right _ (List.mem_append_right _ (List.mem_append_right _ (List.mem_append_right _ (List.mem_append_right _ (List.mem_append_left _ h)))))))))))))))))))))))))))))))))))
theorem tm_30 {w : Cond} (h : w ∈ wsL_law_r30) : w ∈ wsL_law := List.mem_append_left _ (List.mem_append_left _ (List.mem_append_left _ (List.mem_append_left _ (List.mem_append_left _ (List.mem_append_left _ (List.mem_append_left _ (List.mem_append_right _ (List.mem_append_right _ (List.mem_append_right _ (List.mem_append_right _ (List.mem_append_right _ (List.mem_append_right _ (List.mem_append_right _ (List.mem_append_right _ (List.mem_append_right _ (List.mem_append_right _ (List.mem_append_right _ (List.mem_append_right _ (List.mem_append_right _ (List.mem_append_right _ (List.mem_append_right _ (List.mem_append_right _ (List.mem_append_right _ (List.mem_append_right _ (List.mem_append_right _ (List.mem_append_right _ (List.mem_append_right _ (List.mem_append_right _ (List.mem_append_right _ (List.mem_append_right _ (List.mem_append_right _ (List.mem_append_right _ (List.mem_append_right _ (List.mem_append_right _ (List.mem_append_right _ (List.mem_append_left _ h))))))))))))))))))))))))))))))))))))
theorem tm_31 {w : Cond} (h : w ∈ wsL_law_r31) : w ∈ wsL_law := List.mem_append_left _ (List.mem_append_left _ (List.mem_append_left _ (List.mem_append_left _ (List.mem_append_left _ (List.mem_append_left _ (List.mem_append_left _ (List.mem_append_right _ (List.mem_append_right _ (List.mem_append_right _ (List.mem_append_right _ (List.mem_append_right _ (List.mem_append_right _ (List.mem_append_right _ (List.mem_append_right _ (List.mem_append_right _ (List.mem_append_right _ (List.mem_append_right _ (List.mem_append_right _ (List.mem_append_right _ (List.mem_append_right _ (List.mem_append_right _ (List.mem_append_right _ (List.mem_append_right _ (List.mem_append_right _ (List.mem_append_right _ (List.mem_append_right _ (List.mem_append_right _ (List.mem_append_right _ (List.mem_append_right _ (List.mem_append_right _ (List.mem_append_right _ (List.mem_append_right _ (List.mem_append_right _ (List.mem_append_right _ (List.mem_append_right _ (List.mem_append_right _ (List.mem_append_left _ h)))))))))))))))))))))))))))))))))))))
theorem tm_32 {w : Cond} (h : w ∈ wsL_law_r32) : w ∈ wsL_law := List.mem_append_left _ (List.mem_append_left _ (List.mem_append_left _ (List.mem_append_left _ (List.mem_append_left _ (List.mem_append_left _ (List.mem_append_left _ (List.mem_append_right _ (List.mem_append_right _ (List.mem_append_right _ (List.mem_append_right _ (List.mem_append_right _ (List.mem_append_right _ (List.mem_append_right _ (List.mem_append_right _ (List.mem_append_right _ (List.mem_append_right _ (List.mem_append_right _ (List.mem_append_right _ (List.mem_append_right _ (List.mem_append_right _ (List.mem_append_right _ (List.mem_append_right _ (List.mem_append_right _ (List.mem_append_right _ (List.mem_append_right _ (List.mem_append_right _ (List.mem_append_right _ (List.mem_append_right _ (List.mem_append_right _ (List.mem_append_right _ (List.mem_append_right _ (List.mem_append_right _ (List.mem_append_right _ (List.mem_append_right _ (List.mem_append_right _ (List.mem_append_right _ (List.mem_append_right _ (h))))))))))))))))))))))))))))))))))))))
theorem vx_pay {args : Array Value} {s : State} (hts : ∀ w ∈ wsL_law, w.before args s = true) {y : MethodName} {bytes : ByteArray} {maxL : Nat} {ret : Option FieldType} (h : Cond.code y bytes maxL ret ∈ wsL_law) : GoodIn wsL_law (Cond.code y bytes maxL ret :: wsL_law) := fun w hw => by
  rcases List.mem_cons.mp hw with rfl | hw
  · exact ⟨h, vx_good _ h⟩
  · exact ⟨hw, vx_good _ hw⟩
/-! ===== the store, the world, the walk: every cell of both objects, at addresses that are variables; what changes is one store of numbers ===== -/
abbrev vx_St : Type := (Nat → Nat → Int32) × (Nat → Nat → Int64)
abbrev vx_D : Type := (Nat × Nat) ⊕ (Nat × List (Nat ⊕ Nat))
abbrev vx_G : Type := va_G × (ClassId × ClassId) × (Nat → Nat) × (Nat → Nat) × (Nat → Nat)
def vx_b01 (x : Int32) : Int32 := if x = 0 then 0 else 1
def vx_f (ad : Nat → Nat) (c : Nat) (x : Int32) (y : Int64) : Nat ⊕ Nat → Value
  | .inl 0 => .int x
  | .inl 1 => .int (vx_b01 x)
  | .inl _ => .long y
  | .inr o => .ref (ad (c + o))
def vx_c (g : vx_G) (S : vx_St) (c : Nat) : vx_D → va_E
  | .inl (0, n) => .inl (g.2.1.1, n, .inl (S.1 c))
  | .inl (_, n) => .inl (g.2.1.2, n, .inl (S.1 c))
  | .inr (ci, fs) => .inr (ci, fs.mapIdx (fun k d => vx_f g.2.2.1 c (S.1 c k) (S.2 c k) d))
abbrev vx_Cl : List vw_C := [(RX0, TX0, 14), (RX1, TX1, 8), (RX2, TX2, 2), (RX3, TX3, 3), (RX4, TX4, 9), (RX5, TX5, 47)]
abbrev vx_sA : vx_D := .inl (0, 8)
abbrev vx_sDay : vx_D := .inr (0, [.inl 0, .inl 0, .inl 0, .inl 0, .inl 0, .inl 0, .inl 1, .inl 1, .inl 0, .inr 1, .inr 2, .inr 3, .inr 4, .inr 5])
abbrev vx_sRd : vx_D := .inr (3, [.inl 0, .inr 1, .inr 2])
/-- 0 the class's object; 1 Page, 2 its codes; 3 Houses, 4 kind, 5 parent, 6 from, 7 to, 8 takes, 9 loss, 10 way; 11 day, 12 taken, 13 owed, 14 wanted, 15 parts, 16 rests; 17 readings, 18 through, 19 extra; 20 ahead (21 to 25); 26 imageDay (27 to 31); 32 imageReadings (33, 34); 35 the model's object, 36 to 51 its arrays -/
def vx_SH : List vx_D := [
  .inr (4, [.inr 1, .inr 3, .inr 11, .inr 17, .inr 20, .inl 1, .inl 0, .inr 26, .inr 32]),
  .inr (2, [.inl 0, .inr 1]), .inl (0, 12),
  .inr (1, [.inl 0, .inr 1, .inr 2, .inr 3, .inr 4, .inr 5, .inr 6, .inr 7]), vx_sA, vx_sA, vx_sA, vx_sA, vx_sA, vx_sA, vx_sA,
  vx_sDay, vx_sA, vx_sA, vx_sA, vx_sA, vx_sA,
  vx_sRd, vx_sA, vx_sA,
  vx_sDay, vx_sA, vx_sA, vx_sA, vx_sA, vx_sA,
  vx_sDay, vx_sA, vx_sA, vx_sA, vx_sA, vx_sA,
  vx_sRd, vx_sA, vx_sA,
  .inr (5, [.inl 0, .inr 1, .inr 2, .inr 3, .inr 4, .inr 5, .inr 6, .inr 7, .inr 8, .inl 0, .inl 0, .inl 0, .inl 0, .inl 0, .inl 0, .inl 1, .inl 1, .inl 0, .inr 9, .inr 10, .inl 0, .inr 11, .inr 12, .inl 0, .inl 0, .inl 0, .inl 0, .inl 0, .inl 1, .inl 1, .inl 2, .inl 1, .inl 0, .inl 0, .inl 0, .inl 0, .inl 0, .inl 0, .inl 0, .inl 1, .inl 1, .inl 0, .inr 13, .inr 14, .inr 15, .inr 16, .inl 2]),
  vx_sA, vx_sA, vx_sA, vx_sA, vx_sA, vx_sA, vx_sA, vx_sA, vx_sA, vx_sA, .inl (1, 12), vx_sA, vx_sA, vx_sA, vx_sA, vx_sA]
theorem vx_SH_len : vx_SH.length = 52 := by decide +kernel
def vx_w (g : vx_G) (S : vx_St) : va_W := vx_SH.mapIdx (fun c d => (g.2.2.1 c, vx_c g S c d))
def vx_A (g : vx_G) : Nat → Prop := fun q => ∃ c, c < 52 ∧ q = g.2.2.1 c
theorem vx_w_at {g : vx_G} {S : vx_St} {c : Nat} {d : vx_D} (h : vx_SH[c]? = some d) : (vx_w g S)[c]? = some (g.2.2.1 c, vx_c g S c d) := by
  simp [vx_w, List.getElem?_mapIdx, h]
theorem vx_w_of {g : vx_G} {S : vx_St} {c : Nat} {q : Nat × va_E} (h : (vx_w g S)[c]? = some q) : c < 52 ∧ q.1 = g.2.2.1 c := by
  have hl := (List.getElem?_eq_some_iff.mp h).1
  simp only [vx_w, List.length_mapIdx, vx_SH_len] at hl
  refine ⟨hl, ?_⟩
  have hs : vx_SH[c]? = some (vx_SH[c]'(by rw [vx_SH_len]; exact hl)) := List.getElem?_eq_getElem _
  rw [vx_w_at hs] at h
  cases h
  rfl
def vx_inj (g : vx_G) : Prop := ∀ i j, i < 52 → j < 52 → g.2.2.1 i = g.2.2.1 j → i = j
theorem vx_w_D {g : vx_G} (S : vx_St) (hi : vx_inj g) : va_D (vx_A g) (vx_w g S) := by
  refine ⟨fun i j p q hp hq e => ?_, fun k q hq => ?_⟩
  · obtain ⟨h1, e1⟩ := vx_w_of hp
    obtain ⟨h2, e2⟩ := vx_w_of hq
    exact hi i j h1 h2 (by rw [← e1, ← e2]; exact e)
  · obtain ⟨h1, e1⟩ := vx_w_of hq
    exact ⟨k, h1, e1⟩
/-- the store, changed at one place -/
def vx_u (S : vx_St) (c k : Nat) (x : Int32) : vx_St := (fun i j => if i = c ∧ j = k then x else S.1 i j, S.2)
def vx_uL (S : vx_St) (c k : Nat) (x : Int64) : vx_St := (S.1, fun i j => if i = c ∧ j = k then x else S.2 i j)
/-- a whole row -/
def vx_ur (S : vx_St) (c : Nat) (f : Nat → Int32) : vx_St := (fun i => if i = c then f else S.1 i, S.2)
theorem vx_u_row (S : vx_St) (c k : Nat) (x : Int32) : (vx_u S c k x).1 c = upd (S.1 c) k x := by
  funext j
  simp [vx_u, upd]
theorem vx_u_ne (S : vx_St) {c i : Nat} (k : Nat) (x : Int32) (h : i ≠ c) : (vx_u S c k x).1 i = S.1 i := by
  funext j
  simp [vx_u, h]
theorem vx_u_ur (S : vx_St) (c k : Nat) (x : Int32) : vx_u S c k x = vx_ur S c (upd (S.1 c) k x) := by
  refine Prod.ext (funext fun i => ?_) rfl
  by_cases h : i = c
  · subst h; rw [vx_u_row]; simp [vx_ur]
  · rw [vx_u_ne S k x h]; simp [vx_ur, h]
/-- the world after one row has changed -/
theorem vx_w_set {g : vx_G} {S S' : vx_St} {c : Nat} {d : vx_D} (h : vx_SH[c]? = some d) {e : va_E} (he : vx_c g S' c d = e) (h1 : ∀ i, i ≠ c → S'.1 i = S.1 i) (h2 : ∀ i, i ≠ c → S'.2 i = S.2 i) : (vx_w g S).set c (g.2.2.1 c, e) = vx_w g S' := by
  have hc : c < vx_SH.length := (List.getElem?_eq_some_iff.mp h).1
  apply List.ext_getElem?
  intro i
  by_cases hi : i = c
  · subst hi
    rw [List.getElem?_set_self (by simp [vx_w]; exact hc), vx_w_at h, he]
  · rw [List.getElem?_set_ne (Ne.symm hi)]
    simp only [vx_w, List.getElem?_mapIdx]
    cases hs : vx_SH[i]? with
    | none => rfl
    | some d' =>
      simp only [Option.map_some]
      congr 2
      unfold vx_c
      split <;> simp [h1 i hi, h2 i hi]
theorem vx_fs_set {g : vx_G} {S : vx_St} {c k ci : Nat} {fs : List (Nat ⊕ Nat)} {x : Int32} {v : Value} {d : Nat ⊕ Nat} (hk : fs[k]? = some d) (hv : vx_f g.2.2.1 c x (S.2 c k) d = v) : vx_c g (vx_u S c k x) c (.inr (ci, fs)) = .inr (ci, (fs.mapIdx (fun k d => vx_f g.2.2.1 c (S.1 c k) (S.2 c k) d)).set k v) := by
  have hl : k < fs.length := (List.getElem?_eq_some_iff.mp hk).1
  simp only [vx_c]
  congr 2
  apply List.ext_getElem?
  intro i
  by_cases hi : i = k
  · subst hi
    rw [List.getElem?_set_self (by simpa using hl)]
    simp [List.getElem?_mapIdx, hk, vx_u, hv]
  · rw [List.getElem?_set_ne (Ne.symm hi)]
    simp [List.getElem?_mapIdx, vx_u, hi]
theorem vx_fs_setL {g : vx_G} {S : vx_St} {c k ci : Nat} {fs : List (Nat ⊕ Nat)} {x : Int64} {v : Value} {d : Nat ⊕ Nat} (hk : fs[k]? = some d) (hv : vx_f g.2.2.1 c (S.1 c k) x d = v) : vx_c g (vx_uL S c k x) c (.inr (ci, fs)) = .inr (ci, (fs.mapIdx (fun k d => vx_f g.2.2.1 c (S.1 c k) (S.2 c k) d)).set k v) := by
  have hl : k < fs.length := (List.getElem?_eq_some_iff.mp hk).1
  simp only [vx_c]
  congr 2
  apply List.ext_getElem?
  intro i
  by_cases hi : i = k
  · subst hi
    rw [List.getElem?_set_self (by simpa using hl)]
    simp [List.getElem?_mapIdx, hk, vx_uL, hv]
  · rw [List.getElem?_set_ne (Ne.symm hi)]
    simp [List.getElem?_mapIdx, vx_uL, hi]
/-- the nest mates' links, the strings, the tables: what holds at every state -/
def vx_isN : Cond → Bool
  | .fieldLinkNest .. => true
  | .methodLinkNest .. => true
  | _ => false
theorem vx_nest_ok : vx_nest.all vx_isN = true := by decide +kernel
def vx_K (g : vx_G) (U : State) : Prop := va_K g.1 vx_Cl [(g.2.1.1, .int), (g.2.1.2, .byte)] U ∧ (∀ w ∈ vx_nest, va_Nw w U) ∧ vx_inj g ∧ vk_R "TownOnWeight$Page" 41 "hcusx" (g.2.2.2.1 0) U ∧ vk_R "TownOnWeight" 120 "hcusx" (g.2.2.2.1 0) U
def vx_Z (g : vx_G) (U : State) (H : Heap) : Prop := vk_S 1 [5] [[104, 99, 117, 115, 120]] g.2.2.2.1 g.2.2.2.2 (vx_A g) U H ∧ va_Z "java/lang/String" "COMPACT_STRINGS" "Z" (.int 1) (vx_A g) U H
theorem vx_nest_warm {s U : State} (hW : s.WarmedH U.vm) (h : ∀ w ∈ vx_nest, va_Nw w s) : ∀ w ∈ vx_nest, va_Nw w U := by
  intro w hw
  have h1 := h w hw
  have h2 := List.all_eq_true.mp vx_nest_ok w hw
  cases w with
  | fieldLinkNest a i b n d h => exact va_Nw.warmF hW h1
  | methodLinkNest a i x h => exact va_Nw.warmM hW h1
  | _ => simp [vx_isN] at h2
theorem vx_nest_same {s U : State} (hv : s.vm = U.vm) (h : ∀ w ∈ vx_nest, va_Nw w s) : ∀ w ∈ vx_nest, va_Nw w U := by
  intro w hw
  have h1 := h w hw
  have h2 := List.all_eq_true.mp vx_nest_ok w hw
  cases w with
  | fieldLinkNest a i b n d h => exact va_Nw.same rfl hv h1
  | methodLinkNest a i x h => exact va_Nw.same rfl hv h1
  | _ => simp [vx_isN] at h2
theorem vx_K.warm {g : vx_G} {s U : State} (hW : s.WarmedH U.vm) (h : vx_K g s) : vx_K g U := ⟨va_K.moved hW.alike h.1, vx_nest_warm hW h.2.1, h.2.2.1, vk_R.warm hW h.2.2.2.1, vk_R.warm hW h.2.2.2.2⟩
theorem vx_K.same {g : vx_G} {s U : State} (hv : s.vm = U.vm) (h : vx_K g s) : vx_K g U := ⟨va_K.moved (by rw [hv]; exact Vm.Alike.refl _) h.1, vx_nest_same hv h.2.1, h.2.2.1, vk_R.same hv.symm h.2.2.2.1, vk_R.same hv.symm h.2.2.2.2⟩
theorem vx_Z.moved {g : vx_G} {s U : State} {H : Heap} (hv : s.vm.Alike U.vm) (h : vx_Z g s H) : vx_Z g U H := ⟨vk_S.moved hv h.1, va_Z.moved hv h.2⟩
theorem vx_Z.kept {g : vx_G} {U : State} {H H1 : Heap} (h : vx_Z g U H) (hq : ∀ a : Nat, a < H.size → ¬ vx_A g a → H1[a]? = H[a]?) : vx_Z g U H1 := ⟨h.1.kept hq, h.2.kept hq⟩
/-- a method's contract: from the store S with these arguments it returns, 'post answer store' -/
def vx_P (g : vx_G) (S : vx_St) (U : State) : Prop := vx_K g U ∧ va_P g.1 vx_Cl (vx_w g S) U.heap ∧ vx_Z g U U.heap
def vx_Q (g : vx_G) (post : Option Value → vx_St → Prop) : Array Value → State → Outcome → State → Prop := fun _ st oc t => ∃ (v : Option Value) (S' : vx_St), oc = .returned v ∧ post v S' ∧ va_P g.1 vx_Cl (vx_w g S') t.heap ∧ va_F (vx_A g) st t
abbrev vx_R (a b : Nat) : Room := { frames := a, cells := 0, slots := 0, locals := b }
def vx_M (l : Launch) (g : vx_G) (y : MethodName) (cc : ByteArray) (maxL : Nat) (ret : Option FieldType) (rm : Room) (av : List Value) (S : vx_St) (post : Option Value → vx_St → Prop) : Prop := Met l y (Cond.code y cc maxL ret :: wsL_law) rm (va_Pc av (vx_P g S)) (vx_Q g post) 0 0 (vx_A g)
def vx_C (p : Program) (s : State) (m : MethodId) (args : Array Value) (meth : Method) (c : Code) (own : String) (cc : ByteArray) (nL : Nat) (ret : Option FieldType) (g : vx_G) : Prop :=
  p.tables.exec = Jvm.exec ∧ c.code = cc ∧ c.maxLocals = nL ∧ s.vm.findClass own = some m.cls ∧ (∀ w ∈ wsL_law, w.before args s = true) ∧ meth.sig.returnType = ret ∧ meth.locks = false ∧ vx_K g s ∧ vx_Z g s s.heap
def vx_V (p : Program) (l : Launch) (e : Env) (R : Room) (s : State) (m : MethodId) (args : Array Value) (below : List Frame) (meth : Method) (c : Code) (Q : State → Prop) (g : vx_G) (nL pc : Nat) (L : List (Nat × Value)) (st : List Value) (S : vx_St) : Prop :=
  ∀ (ls : Array Slot) (H : Heap) (locs : List Loc), lv_has ls nL L → va_P g.1 vx_Cl (vx_w g S) H → va_S (vx_A g) s.heap H locs → W p l e R s m args below meth c H locs 0 0 Q (F0 m pc ls st)
theorem vx_M.intro {l : Launch} {g : vx_G} {y : MethodName} {rm : Room} {av : List Value} {S : vx_St} {post : Option Value → vx_St → Prop} {cc : ByteArray} {maxL : Nat} {ret : Option FieldType} (hy : plainName y.cls = true) (hlen : (lg_sl av).length ≤ maxL)
    (body : ∀ (p : Program) (e : Env) (s : State) (m : MethodId) (args : Array Value) (below : List Frame) (meth : Method) (c : Code), vx_C p s m args meth c y.cls cc maxL ret g → vx_V p l e rm s m args below meth c (MQ below (vx_Q g post) args s 0 0 (vx_A g)) g maxL 0 (lv_args 0 av) [] S) : vx_M l g y cc maxL ret rm av S post := by
  refine Met.ofW (cc := cc) (maxL := maxL) (ret := ret) hy rfl ?_
  intro p e s m args below meth c s₁ B hml hv
  obtain ⟨rfl, hK, hP, hZ⟩ := hv
  have hts := atoms_spec (ws := Cond.code y cc maxL ret :: wsL_law) B.pre
  have hown : s.vm.findClass y.cls = some m.cls := findClass_of_methodNamed B.named
  have b := body p e s m av.toArray below meth c ⟨B.exec, B.bytes, hml, hown, fun w hw => hts w (List.mem_cons_of_mem _ hw), B.returns, B.notSynchronized, hK, hZ⟩
  rw [lg_entry_eq]
  exact b _ s.heap [] (lv_entry av hlen) hP va_S.rf
/-- the words that a callee needs -/
def vx_yV (y : MethodName) (bytes : ByteArray) (maxL : Nat) (ret : Option FieldType) (n : Nat) : Prop := Cond.code y bytes maxL ret ∈ wsL_law ∧ Cond.initialized y.cls ∈ wsL_law ∧ (y.cls ≠ "java/lang/invoke/MethodHandle" ∧ y.cls ≠ "java/lang/invoke/VarHandle" ∧ (parseMethodDescriptor y.desc).map (fun d => d.parameters.length) = some n) ∧ Cond.instanceMethod y ∈ wsL_law ∧ Cond.selects y.cls y y ∈ wsL_law
def vx_yS (y : MethodName) (bytes : ByteArray) (maxL : Nat) (ret : Option FieldType) (n : Nat) : Prop := Cond.code y bytes maxL ret ∈ wsL_law ∧ Cond.initialized y.cls ∈ wsL_law ∧ (y.cls ≠ "java/lang/invoke/MethodHandle" ∧ y.cls ≠ "java/lang/invoke/VarHandle" ∧ (parseMethodDescriptor y.desc).map (fun d => d.parameters.length) = some n) ∧ Cond.static y ∈ wsL_law
theorem vx_nb (x : Int32) : narrow .boolean (.int (vx_b01 x)) = .int (vx_b01 x) := by
  unfold vx_b01
  split <;> rfl
theorem vx_fb (x : Int32) : fits .boolean (.int (vx_b01 x)) = true := by
  unfold vx_b01
  split <;> rfl
theorem vx_c8 : (8 : Int32).toNatClampNeg = 8 := by decide
theorem vx_cp_eq (f h : Nat → Int32) : va_cpy f h (0 : Int32).toNatClampNeg (0 : Int32).toNatClampNeg (8 : Int32).toNatClampNeg = va_cpy f h 0 0 8 := by rw [sb_cl0, vx_c8]
theorem vx_cp_c (g : vx_G) (S : vx_St) (a b : Nat) : vx_c g (vx_ur S b (va_cpy (S.1 a) (S.1 b) 0 0 8)) b vx_sA = .inl (g.2.1.1, 8, .inl (va_cpy (S.1 a) (S.1 b) (0 : Int32).toNatClampNeg (0 : Int32).toNatClampNeg (8 : Int32).toNatClampNeg)) := by
  rw [vx_cp_eq]
  simp only [vx_c, vx_ur, if_true]
theorem vx_nb2 {x : Int32} (h : vx_b01 x = x) : narrow .boolean (.int x) = .int x := by
  have h2 := vx_nb x
  rw [h] at h2
  exact h2
theorem vx_fb2 {x : Int32} (h : vx_b01 x = x) : fits .boolean (.int x) = true := by
  have h2 := vx_fb x
  rw [h] at h2
  exact h2
theorem vx_uL_ne (S : vx_St) {c i : Nat} (k : Nat) (x : Int64) (h : i ≠ c) : (vx_uL S c k x).2 i = S.2 i := by
  funext j
  simp [vx_uL, h]
section VV
variable {p : Program} {l : Launch} {e : Env} {R : Room} {s : State} {m : MethodId} {args : Array Value} {below : List Frame} {meth : Method} {c : Code} {Q : State → Prop} {g : vx_G} {nL pc : Nat} {L L' : List (Nat × Value)} {st : List Value} {S : vx_St} {own : String} {cc : ByteArray} {ret : Option FieldType}
theorem vv_iconst (C : vx_C p s m args meth c own cc nL ret g) {n : Int} {v : Int32} (hd : decode cc pc = .ok (.iconst n, 1)) (hv : Int32.ofInt n = v) (k : vx_V p l e R s m args below meth c Q g nL (pc + 1) L (.int v :: st) S) : vx_V p l e R s m args below meth c Q g nL pc L (st) S := fun ls H locs hl hP hS => lv_iconst C.1 C.2.1 hd hv (k ls H locs hl hP hS)
theorem vv_bipush (C : vx_C p s m args meth c own cc nL ret g) {n : Int} {v : Int32} (hd : decode cc pc = .ok (.bipush n, 2)) (hv : (Int8.ofInt n).toInt32 = v) (k : vx_V p l e R s m args below meth c Q g nL (pc + 2) L (.int v :: st) S) : vx_V p l e R s m args below meth c Q g nL pc L (st) S := fun ls H locs hl hP hS => lv_bipush C.1 C.2.1 hd hv (k ls H locs hl hP hS)
theorem vv_sipush (C : vx_C p s m args meth c own cc nL ret g) {n : Int} {v : Int32} (hd : decode cc pc = .ok (.sipush n, 3)) (hv : (Int16.ofInt n).toInt32 = v) (k : vx_V p l e R s m args below meth c Q g nL (pc + 3) L (.int v :: st) S) : vx_V p l e R s m args below meth c Q g nL pc L (st) S := fun ls H locs hl hP hS => lv_sipush C.1 C.2.1 hd hv (k ls H locs hl hP hS)
theorem vv_lconst (C : vx_C p s m args meth c own cc nL ret g) {n : Fin 2} {v : Int64} (hd : decode cc pc = .ok (.lconst n, 1)) (hv : Int64.ofNat (n : Nat) = v) (k : vx_V p l e R s m args below meth c Q g nL (pc + 1) L (.long v :: st) S) : vx_V p l e R s m args below meth c Q g nL pc L (st) S := fun ls H locs hl hP hS => lv_lconst C.1 C.2.1 hd hv (k ls H locs hl hP hS)
theorem vv_iload_n (C : vx_C p s m args meth c own cc nL ret g) {k : Fin 4} {i : Nat} {x : Int32} (hd : decode cc pc = .ok (.iload_n k, 1)) (hi : (k : Nat) = i) (j : Nat) (h : L[j]? = some (i, .int x)) (kk : vx_V p l e R s m args below meth c Q g nL (pc + 1) L (.int x :: st) S) : vx_V p l e R s m args below meth c Q g nL pc L st S := fun ls H locs hl hP hS => lv_iload_n C.1 C.2.1 hd hi (lv_at hl j h) (kk ls H locs hl hP hS)
theorem vv_iload (C : vx_C p s m args meth c own cc nL ret g) {i : Nat} {x : Int32} (hd : decode cc pc = .ok (.iload i, 2)) (j : Nat) (h : L[j]? = some (i, .int x)) (kk : vx_V p l e R s m args below meth c Q g nL (pc + 2) L (.int x :: st) S) : vx_V p l e R s m args below meth c Q g nL pc L st S := fun ls H locs hl hP hS => lv_iload C.1 C.2.1 hd (lv_at hl j h) (kk ls H locs hl hP hS)
theorem vv_istore_n (C : vx_C p s m args meth c own cc nL ret g) {k : Fin 4} {i : Nat} {x : Int32} (hd : decode cc pc = .ok (.istore_n k, 1)) (hi : (k : Nat) = i) (hn : i < nL) (hl : (i, Value.int x) :: L.filter (fun q => !(q.1 == i) && !(q.1 + 1 == i && q.2.category == 2)) = L') (kk : vx_V p l e R s m args below meth c Q g nL (pc + 1) L' st S) : vx_V p l e R s m args below meth c Q g nL pc L (.int x :: st) S := fun ls H locs h hP hS => lv_istore_n C.1 C.2.1 hd hi h hn hl (fun ls2 h2 => kk ls2 H locs h2 hP hS)
theorem vv_istore (C : vx_C p s m args meth c own cc nL ret g) {i : Nat} {x : Int32} (hd : decode cc pc = .ok (.istore i, 2)) (hn : i < nL) (hl : (i, Value.int x) :: L.filter (fun q => !(q.1 == i) && !(q.1 + 1 == i && q.2.category == 2)) = L') (kk : vx_V p l e R s m args below meth c Q g nL (pc + 2) L' st S) : vx_V p l e R s m args below meth c Q g nL pc L (.int x :: st) S := fun ls H locs h hP hS => lv_istore C.1 C.2.1 hd h hn hl (fun ls2 h2 => kk ls2 H locs h2 hP hS)
theorem vv_lload_n (C : vx_C p s m args meth c own cc nL ret g) {k : Fin 4} {i : Nat} {x : Int64} (hd : decode cc pc = .ok (.lload_n k, 1)) (hi : (k : Nat) = i) (j : Nat) (h : L[j]? = some (i, .long x)) (kk : vx_V p l e R s m args below meth c Q g nL (pc + 1) L (.long x :: st) S) : vx_V p l e R s m args below meth c Q g nL pc L st S := fun ls H locs hl hP hS => lv_lload_n C.1 C.2.1 hd hi (lv_at hl j h) (kk ls H locs hl hP hS)
theorem vv_lload (C : vx_C p s m args meth c own cc nL ret g) {i : Nat} {x : Int64} (hd : decode cc pc = .ok (.lload i, 2)) (j : Nat) (h : L[j]? = some (i, .long x)) (kk : vx_V p l e R s m args below meth c Q g nL (pc + 2) L (.long x :: st) S) : vx_V p l e R s m args below meth c Q g nL pc L st S := fun ls H locs hl hP hS => lv_lload C.1 C.2.1 hd (lv_at hl j h) (kk ls H locs hl hP hS)
theorem vv_lstore_n (C : vx_C p s m args meth c own cc nL ret g) {k : Fin 4} {i : Nat} {x : Int64} (hd : decode cc pc = .ok (.lstore_n k, 1)) (hi : (k : Nat) = i) (hn : i + 1 < nL) (hl : (i, Value.long x) :: L.filter (fun q => !(q.1 == i) && (!(q.1 == i + 1) && !(q.1 + 1 == i && q.2.category == 2))) = L') (kk : vx_V p l e R s m args below meth c Q g nL (pc + 1) L' st S) : vx_V p l e R s m args below meth c Q g nL pc L (.long x :: st) S := fun ls H locs h hP hS => lv_lstore_n C.1 C.2.1 hd hi h hn hl (fun ls2 h2 => kk ls2 H locs h2 hP hS)
theorem vv_lstore (C : vx_C p s m args meth c own cc nL ret g) {i : Nat} {x : Int64} (hd : decode cc pc = .ok (.lstore i, 2)) (hn : i + 1 < nL) (hl : (i, Value.long x) :: L.filter (fun q => !(q.1 == i) && (!(q.1 == i + 1) && !(q.1 + 1 == i && q.2.category == 2))) = L') (kk : vx_V p l e R s m args below meth c Q g nL (pc + 2) L' st S) : vx_V p l e R s m args below meth c Q g nL pc L (.long x :: st) S := fun ls H locs h hP hS => lv_lstore C.1 C.2.1 hd h hn hl (fun ls2 h2 => kk ls2 H locs h2 hP hS)
theorem vv_aload_n (C : vx_C p s m args meth c own cc nL ret g) {k : Fin 4} {i : Nat} {x : Nat} (hd : decode cc pc = .ok (.aload_n k, 1)) (hi : (k : Nat) = i) (j : Nat) (h : L[j]? = some (i, .ref x)) (kk : vx_V p l e R s m args below meth c Q g nL (pc + 1) L (.ref x :: st) S) : vx_V p l e R s m args below meth c Q g nL pc L st S := fun ls H locs hl hP hS => lv_aload_n C.1 C.2.1 hd hi (lv_at hl j h) (kk ls H locs hl hP hS)
theorem vv_aload (C : vx_C p s m args meth c own cc nL ret g) {i : Nat} {x : Nat} (hd : decode cc pc = .ok (.aload i, 2)) (j : Nat) (h : L[j]? = some (i, .ref x)) (kk : vx_V p l e R s m args below meth c Q g nL (pc + 2) L (.ref x :: st) S) : vx_V p l e R s m args below meth c Q g nL pc L st S := fun ls H locs hl hP hS => lv_aload C.1 C.2.1 hd (lv_at hl j h) (kk ls H locs hl hP hS)
theorem vv_astore_n (C : vx_C p s m args meth c own cc nL ret g) {k : Fin 4} {i : Nat} {x : Nat} (hd : decode cc pc = .ok (.astore_n k, 1)) (hi : (k : Nat) = i) (hn : i < nL) (hl : (i, Value.ref x) :: L.filter (fun q => !(q.1 == i) && !(q.1 + 1 == i && q.2.category == 2)) = L') (kk : vx_V p l e R s m args below meth c Q g nL (pc + 1) L' st S) : vx_V p l e R s m args below meth c Q g nL pc L (.ref x :: st) S := fun ls H locs h hP hS => lv_astore_n C.1 C.2.1 hd hi h hn hl (fun ls2 h2 => kk ls2 H locs h2 hP hS)
theorem vv_astore (C : vx_C p s m args meth c own cc nL ret g) {i : Nat} {x : Nat} (hd : decode cc pc = .ok (.astore i, 2)) (hn : i < nL) (hl : (i, Value.ref x) :: L.filter (fun q => !(q.1 == i) && !(q.1 + 1 == i && q.2.category == 2)) = L') (kk : vx_V p l e R s m args below meth c Q g nL (pc + 2) L' st S) : vx_V p l e R s m args below meth c Q g nL pc L (.ref x :: st) S := fun ls H locs h hP hS => lv_astore C.1 C.2.1 hd h hn hl (fun ls2 h2 => kk ls2 H locs h2 hP hS)
theorem vv_iinc (C : vx_C p s m args meth c own cc nL ret g) {i j : Nat} {n : Int} {x v : Int32} (hd : decode cc pc = .ok (.iinc i n, 3)) (hk : L[j]? = some (i, .int x)) (hv : x + Int32.ofInt n = v) (hn : i < nL) (hl : (i, Value.int v) :: L.filter (fun q => !(q.1 == i) && !(q.1 + 1 == i && q.2.category == 2)) = L') (kk : vx_V p l e R s m args below meth c Q g nL (pc + 3) L' st S) : vx_V p l e R s m args below meth c Q g nL pc L st S := fun ls H locs h hP hS => lv_iinc C.1 C.2.1 hd h hk hv hn hl (fun ls2 h2 => kk ls2 H locs h2 hP hS)
theorem vv_iadd (C : vx_C p s m args meth c own cc nL ret g) {x y : Int32} (hd : decode cc pc = .ok (.iadd, 1))  (k : vx_V p l e R s m args below meth c Q g nL (pc + 1) L (.int (x + y) :: st) S) : vx_V p l e R s m args below meth c Q g nL pc L (.int y :: .int x :: st) S := fun ls H locs hl hP hS => lv_iadd C.1 C.2.1 hd  (k ls H locs hl hP hS)
theorem vv_isub (C : vx_C p s m args meth c own cc nL ret g) {x y : Int32} (hd : decode cc pc = .ok (.isub, 1))  (k : vx_V p l e R s m args below meth c Q g nL (pc + 1) L (.int (x - y) :: st) S) : vx_V p l e R s m args below meth c Q g nL pc L (.int y :: .int x :: st) S := fun ls H locs hl hP hS => lv_isub C.1 C.2.1 hd  (k ls H locs hl hP hS)
theorem vv_imul (C : vx_C p s m args meth c own cc nL ret g) {x y : Int32} (hd : decode cc pc = .ok (.imul, 1))  (k : vx_V p l e R s m args below meth c Q g nL (pc + 1) L (.int (x * y) :: st) S) : vx_V p l e R s m args below meth c Q g nL pc L (.int y :: .int x :: st) S := fun ls H locs hl hP hS => lv_imul C.1 C.2.1 hd  (k ls H locs hl hP hS)
theorem vv_iand (C : vx_C p s m args meth c own cc nL ret g) {x y : Int32} (hd : decode cc pc = .ok (.iand, 1))  (k : vx_V p l e R s m args below meth c Q g nL (pc + 1) L (.int (x &&& y) :: st) S) : vx_V p l e R s m args below meth c Q g nL pc L (.int y :: .int x :: st) S := fun ls H locs hl hP hS => lv_iand C.1 C.2.1 hd  (k ls H locs hl hP hS)
theorem vv_ior (C : vx_C p s m args meth c own cc nL ret g) {x y : Int32} (hd : decode cc pc = .ok (.ior, 1))  (k : vx_V p l e R s m args below meth c Q g nL (pc + 1) L (.int (x ||| y) :: st) S) : vx_V p l e R s m args below meth c Q g nL pc L (.int y :: .int x :: st) S := fun ls H locs hl hP hS => lv_ior C.1 C.2.1 hd  (k ls H locs hl hP hS)
theorem vv_ixor (C : vx_C p s m args meth c own cc nL ret g) {x y : Int32} (hd : decode cc pc = .ok (.ixor, 1))  (k : vx_V p l e R s m args below meth c Q g nL (pc + 1) L (.int (x ^^^ y) :: st) S) : vx_V p l e R s m args below meth c Q g nL pc L (.int y :: .int x :: st) S := fun ls H locs hl hP hS => lv_ixor C.1 C.2.1 hd  (k ls H locs hl hP hS)
theorem vv_ishl (C : vx_C p s m args meth c own cc nL ret g) {x y : Int32} (hd : decode cc pc = .ok (.ishl, 1))  (k : vx_V p l e R s m args below meth c Q g nL (pc + 1) L (.int (x <<< (y &&& 31)) :: st) S) : vx_V p l e R s m args below meth c Q g nL pc L (.int y :: .int x :: st) S := fun ls H locs hl hP hS => lv_ishl C.1 C.2.1 hd  (k ls H locs hl hP hS)
theorem vv_ishr (C : vx_C p s m args meth c own cc nL ret g) {x y : Int32} (hd : decode cc pc = .ok (.ishr, 1))  (k : vx_V p l e R s m args below meth c Q g nL (pc + 1) L (.int (x >>> (y &&& 31)) :: st) S) : vx_V p l e R s m args below meth c Q g nL pc L (.int y :: .int x :: st) S := fun ls H locs hl hP hS => lv_ishr C.1 C.2.1 hd  (k ls H locs hl hP hS)
theorem vv_ladd (C : vx_C p s m args meth c own cc nL ret g) {x y : Int64} (hd : decode cc pc = .ok (.ladd, 1))  (k : vx_V p l e R s m args below meth c Q g nL (pc + 1) L (.long (x + y) :: st) S) : vx_V p l e R s m args below meth c Q g nL pc L (.long y :: .long x :: st) S := fun ls H locs hl hP hS => lv_ladd C.1 C.2.1 hd  (k ls H locs hl hP hS)
theorem vv_lmul (C : vx_C p s m args meth c own cc nL ret g) {x y : Int64} (hd : decode cc pc = .ok (.lmul, 1))  (k : vx_V p l e R s m args below meth c Q g nL (pc + 1) L (.long (x * y) :: st) S) : vx_V p l e R s m args below meth c Q g nL pc L (.long y :: .long x :: st) S := fun ls H locs hl hP hS => lv_lmul C.1 C.2.1 hd  (k ls H locs hl hP hS)
theorem vv_land (C : vx_C p s m args meth c own cc nL ret g) {x y : Int64} (hd : decode cc pc = .ok (.land, 1))  (k : vx_V p l e R s m args below meth c Q g nL (pc + 1) L (.long (x &&& y) :: st) S) : vx_V p l e R s m args below meth c Q g nL pc L (.long y :: .long x :: st) S := fun ls H locs hl hP hS => lv_land C.1 C.2.1 hd  (k ls H locs hl hP hS)
theorem vv_lor (C : vx_C p s m args meth c own cc nL ret g) {x y : Int64} (hd : decode cc pc = .ok (.lor, 1))  (k : vx_V p l e R s m args below meth c Q g nL (pc + 1) L (.long (x ||| y) :: st) S) : vx_V p l e R s m args below meth c Q g nL pc L (.long y :: .long x :: st) S := fun ls H locs hl hP hS => lv_lor C.1 C.2.1 hd  (k ls H locs hl hP hS)
theorem vv_idiv (C : vx_C p s m args meth c own cc nL ret g) {x y : Int32} (hd : decode cc pc = .ok (.idiv, 1)) (hne : ¬ y = 0) (k : vx_V p l e R s m args below meth c Q g nL (pc + 1) L (.int (x / y) :: st) S) : vx_V p l e R s m args below meth c Q g nL pc L (.int y :: .int x :: st) S := fun ls H locs hl hP hS => lv_idiv C.1 C.2.1 hd hne (k ls H locs hl hP hS)
theorem vv_irem (C : vx_C p s m args meth c own cc nL ret g) {x y : Int32} (hd : decode cc pc = .ok (.irem, 1)) (hne : ¬ y = 0) (k : vx_V p l e R s m args below meth c Q g nL (pc + 1) L (.int (x - x / y * y) :: st) S) : vx_V p l e R s m args below meth c Q g nL pc L (.int y :: .int x :: st) S := fun ls H locs hl hP hS => lv_irem C.1 C.2.1 hd hne (k ls H locs hl hP hS)
theorem vv_ldiv (C : vx_C p s m args meth c own cc nL ret g) {x y : Int64} (hd : decode cc pc = .ok (.ldiv, 1)) (hne : ¬ y = 0) (k : vx_V p l e R s m args below meth c Q g nL (pc + 1) L (.long (x / y) :: st) S) : vx_V p l e R s m args below meth c Q g nL pc L (.long y :: .long x :: st) S := fun ls H locs hl hP hS => lv_ldiv C.1 C.2.1 hd hne (k ls H locs hl hP hS)
theorem vv_lrem (C : vx_C p s m args meth c own cc nL ret g) {x y : Int64} (hd : decode cc pc = .ok (.lrem, 1)) (hne : ¬ y = 0) (k : vx_V p l e R s m args below meth c Q g nL (pc + 1) L (.long (x - x / y * y) :: st) S) : vx_V p l e R s m args below meth c Q g nL pc L (.long y :: .long x :: st) S := fun ls H locs hl hP hS => lv_lrem C.1 C.2.1 hd hne (k ls H locs hl hP hS)
theorem vv_iushr (C : vx_C p s m args meth c own cc nL ret g) {x y : Int32} (hd : decode cc pc = .ok (.iushr, 1))  (k : vx_V p l e R s m args below meth c Q g nL (pc + 1) L (.int ((x.toUInt32 >>> (y.toUInt32 &&& Int32.toUInt32 31)).toInt32) :: st) S) : vx_V p l e R s m args below meth c Q g nL pc L (.int y :: .int x :: st) S := fun ls H locs hl hP hS => lv_iushr C.1 C.2.1 hd rfl (k ls H locs hl hP hS)
theorem vv_lushr (C : vx_C p s m args meth c own cc nL ret g) {x : Int64} {y : Int32} (hd : decode cc pc = .ok (.lushr, 1))  (k : vx_V p l e R s m args below meth c Q g nL (pc + 1) L (.long ((x.toUInt64 >>> (y.toInt64.toUInt64 &&& Int64.toUInt64 63)).toInt64) :: st) S) : vx_V p l e R s m args below meth c Q g nL pc L (.int y :: .long x :: st) S := fun ls H locs hl hP hS => lv_lushr C.1 C.2.1 hd rfl (k ls H locs hl hP hS)
theorem vv_lshl (C : vx_C p s m args meth c own cc nL ret g) {x : Int64} {y : Int32} (hd : decode cc pc = .ok (.lshl, 1))  (k : vx_V p l e R s m args below meth c Q g nL (pc + 1) L (.long (x <<< (y.toInt64 &&& 63)) :: st) S) : vx_V p l e R s m args below meth c Q g nL pc L (.int y :: .long x :: st) S := fun ls H locs hl hP hS => lv_lshl C.1 C.2.1 hd rfl (k ls H locs hl hP hS)
theorem vv_lshr (C : vx_C p s m args meth c own cc nL ret g) {x : Int64} {y : Int32} (hd : decode cc pc = .ok (.lshr, 1))  (k : vx_V p l e R s m args below meth c Q g nL (pc + 1) L (.long (x >>> (y.toInt64 &&& 63)) :: st) S) : vx_V p l e R s m args below meth c Q g nL pc L (.int y :: .long x :: st) S := fun ls H locs hl hP hS => lv_lshr C.1 C.2.1 hd rfl (k ls H locs hl hP hS)
theorem vv_i2l (C : vx_C p s m args meth c own cc nL ret g) {x : Int32} (hd : decode cc pc = .ok (.i2l, 1))  (k : vx_V p l e R s m args below meth c Q g nL (pc + 1) L (.long x.toInt64 :: st) S) : vx_V p l e R s m args below meth c Q g nL pc L (.int x :: st) S := fun ls H locs hl hP hS => lv_i2l C.1 C.2.1 hd rfl (k ls H locs hl hP hS)
theorem vv_l2i (C : vx_C p s m args meth c own cc nL ret g) {x : Int64} (hd : decode cc pc = .ok (.l2i, 1))  (k : vx_V p l e R s m args below meth c Q g nL (pc + 1) L (.int x.toInt32 :: st) S) : vx_V p l e R s m args below meth c Q g nL pc L (.long x :: st) S := fun ls H locs hl hP hS => lv_l2i C.1 C.2.1 hd rfl (k ls H locs hl hP hS)
theorem vv_i2b (C : vx_C p s m args meth c own cc nL ret g) {x : Int32} (hd : decode cc pc = .ok (.i2b, 1))  (k : vx_V p l e R s m args below meth c Q g nL (pc + 1) L (.int x.toInt8.toInt32 :: st) S) : vx_V p l e R s m args below meth c Q g nL pc L (.int x :: st) S := fun ls H locs hl hP hS => lv_i2b C.1 C.2.1 hd rfl (k ls H locs hl hP hS)
theorem vv_i2c (C : vx_C p s m args meth c own cc nL ret g) {x : Int32} (hd : decode cc pc = .ok (.i2c, 1))  (k : vx_V p l e R s m args below meth c Q g nL (pc + 1) L (.int (x.toUInt32 % 65536).toInt32 :: st) S) : vx_V p l e R s m args below meth c Q g nL pc L (.int x :: st) S := fun ls H locs hl hP hS => lv_i2c C.1 C.2.1 hd rfl (k ls H locs hl hP hS)
theorem vv_dup (C : vx_C p s m args meth c own cc nL ret g) {v : Value} (hd : decode cc pc = .ok (.dup, 1)) (hv : v.category = 1) (k : vx_V p l e R s m args below meth c Q g nL (pc + 1) L (v :: v :: st) S) : vx_V p l e R s m args below meth c Q g nL pc L (v :: st) S := fun ls H locs hl hP hS => lv_dup C.1 C.2.1 hd hv (k ls H locs hl hP hS)
theorem vv_pop (C : vx_C p s m args meth c own cc nL ret g) {v : Value} (hd : decode cc pc = .ok (.pop, 1)) (hv : v.category = 1) (k : vx_V p l e R s m args below meth c Q g nL (pc + 1) L (st) S) : vx_V p l e R s m args below meth c Q g nL pc L (v :: st) S := fun ls H locs hl hP hS => lv_pop C.1 C.2.1 hd hv (k ls H locs hl hP hS)
theorem vv_dup2 (C : vx_C p s m args meth c own cc nL ret g) {v w : Value} (hd : decode cc pc = .ok (.dup2, 1)) (hv : v.category = 1) (hw : w.category = 1) (k : vx_V p l e R s m args below meth c Q g nL (pc + 1) L (v :: w :: v :: w :: st) S) : vx_V p l e R s m args below meth c Q g nL pc L (v :: w :: st) S := fun ls H locs hl hP hS => lv_dup2_11 C.1 C.2.1 hd hv hw (k ls H locs hl hP hS)
theorem vv_lcmp (C : vx_C p s m args meth c own cc nL ret g) {x y : Int64} (hd : decode cc pc = .ok (.lcmp, 1))  (k : vx_V p l e R s m args below meth c Q g nL (pc + 1) L (.int (lg_cmp x y) :: st) S) : vx_V p l e R s m args below meth c Q g nL pc L (.long y :: .long x :: st) S := fun ls H locs hl hP hS => W.lcmp C.1 C.2.1 hd  (k ls H locs hl hP hS)
theorem vv_goto (C : vx_C p s m args meth c own cc nL ret g) {off : Int} {tgt : Nat} (hd : decode cc pc = .ok (.goto off, 3)) (ht : (pc : Int) + off = (tgt : Int)) (k : vx_V p l e R s m args below meth c Q g nL tgt L st S) : vx_V p l e R s m args below meth c Q g nL pc L st S := fun ls H locs hl hP hS => lv_goto C.1 C.2.1 hd ht (k ls H locs hl hP hS)
theorem vv_if_eq (C : vx_C p s m args meth c own cc nL ret g) {x : Int32} {off : Int} {tgt : Nat} (hd : decode cc pc = .ok (.ifCond .eq off, 3)) (ht : (pc : Int) + off = (tgt : Int)) (kt : x = 0 → vx_V p l e R s m args below meth c Q g nL tgt L st S) (kf : ¬ x = 0 → vx_V p l e R s m args below meth c Q g nL (pc + 3) L st S) : vx_V p l e R s m args below meth c Q g nL pc L (.int x :: st) S := fun ls H locs hl hP hS => lv_if_eq C.1 C.2.1 hd ht (fun h => kt h ls H locs hl hP hS) (fun h => kf h ls H locs hl hP hS)
theorem vv_if_ne (C : vx_C p s m args meth c own cc nL ret g) {x : Int32} {off : Int} {tgt : Nat} (hd : decode cc pc = .ok (.ifCond .ne off, 3)) (ht : (pc : Int) + off = (tgt : Int)) (kt : ¬ x = 0 → vx_V p l e R s m args below meth c Q g nL tgt L st S) (kf : x = 0 → vx_V p l e R s m args below meth c Q g nL (pc + 3) L st S) : vx_V p l e R s m args below meth c Q g nL pc L (.int x :: st) S := fun ls H locs hl hP hS => lv_if_ne C.1 C.2.1 hd ht (fun h => kt h ls H locs hl hP hS) (fun h => kf h ls H locs hl hP hS)
theorem vv_if_lt (C : vx_C p s m args meth c own cc nL ret g) {x : Int32} {off : Int} {tgt : Nat} (hd : decode cc pc = .ok (.ifCond .lt off, 3)) (ht : (pc : Int) + off = (tgt : Int)) (kt : x < 0 → vx_V p l e R s m args below meth c Q g nL tgt L st S) (kf : ¬ x < 0 → vx_V p l e R s m args below meth c Q g nL (pc + 3) L st S) : vx_V p l e R s m args below meth c Q g nL pc L (.int x :: st) S := fun ls H locs hl hP hS => lv_if_lt C.1 C.2.1 hd ht (fun h => kt h ls H locs hl hP hS) (fun h => kf h ls H locs hl hP hS)
theorem vv_if_ge (C : vx_C p s m args meth c own cc nL ret g) {x : Int32} {off : Int} {tgt : Nat} (hd : decode cc pc = .ok (.ifCond .ge off, 3)) (ht : (pc : Int) + off = (tgt : Int)) (kt : 0 ≤ x → vx_V p l e R s m args below meth c Q g nL tgt L st S) (kf : ¬ 0 ≤ x → vx_V p l e R s m args below meth c Q g nL (pc + 3) L st S) : vx_V p l e R s m args below meth c Q g nL pc L (.int x :: st) S := fun ls H locs hl hP hS => lv_if_ge C.1 C.2.1 hd ht (fun h => kt h ls H locs hl hP hS) (fun h => kf h ls H locs hl hP hS)
theorem vv_if_gt (C : vx_C p s m args meth c own cc nL ret g) {x : Int32} {off : Int} {tgt : Nat} (hd : decode cc pc = .ok (.ifCond .gt off, 3)) (ht : (pc : Int) + off = (tgt : Int)) (kt : 0 < x → vx_V p l e R s m args below meth c Q g nL tgt L st S) (kf : ¬ 0 < x → vx_V p l e R s m args below meth c Q g nL (pc + 3) L st S) : vx_V p l e R s m args below meth c Q g nL pc L (.int x :: st) S := fun ls H locs hl hP hS => lv_if_gt C.1 C.2.1 hd ht (fun h => kt h ls H locs hl hP hS) (fun h => kf h ls H locs hl hP hS)
theorem vv_if_le (C : vx_C p s m args meth c own cc nL ret g) {x : Int32} {off : Int} {tgt : Nat} (hd : decode cc pc = .ok (.ifCond .le off, 3)) (ht : (pc : Int) + off = (tgt : Int)) (kt : x ≤ 0 → vx_V p l e R s m args below meth c Q g nL tgt L st S) (kf : ¬ x ≤ 0 → vx_V p l e R s m args below meth c Q g nL (pc + 3) L st S) : vx_V p l e R s m args below meth c Q g nL pc L (.int x :: st) S := fun ls H locs hl hP hS => lv_if_le C.1 C.2.1 hd ht (fun h => kt h ls H locs hl hP hS) (fun h => kf h ls H locs hl hP hS)
theorem vv_icmp_eq (C : vx_C p s m args meth c own cc nL ret g) {x y : Int32} {off : Int} {tgt : Nat} (hd : decode cc pc = .ok (.if_icmp .eq off, 3)) (ht : (pc : Int) + off = (tgt : Int)) (kt : x = y → vx_V p l e R s m args below meth c Q g nL tgt L st S) (kf : ¬ x = y → vx_V p l e R s m args below meth c Q g nL (pc + 3) L st S) : vx_V p l e R s m args below meth c Q g nL pc L (.int y :: .int x :: st) S := fun ls H locs hl hP hS => lv_icmp_eq C.1 C.2.1 hd ht (fun h => kt h ls H locs hl hP hS) (fun h => kf h ls H locs hl hP hS)
theorem vv_icmp_ne (C : vx_C p s m args meth c own cc nL ret g) {x y : Int32} {off : Int} {tgt : Nat} (hd : decode cc pc = .ok (.if_icmp .ne off, 3)) (ht : (pc : Int) + off = (tgt : Int)) (kt : ¬ x = y → vx_V p l e R s m args below meth c Q g nL tgt L st S) (kf : x = y → vx_V p l e R s m args below meth c Q g nL (pc + 3) L st S) : vx_V p l e R s m args below meth c Q g nL pc L (.int y :: .int x :: st) S := fun ls H locs hl hP hS => lv_icmp_ne C.1 C.2.1 hd ht (fun h => kt h ls H locs hl hP hS) (fun h => kf h ls H locs hl hP hS)
theorem vv_icmp_lt (C : vx_C p s m args meth c own cc nL ret g) {x y : Int32} {off : Int} {tgt : Nat} (hd : decode cc pc = .ok (.if_icmp .lt off, 3)) (ht : (pc : Int) + off = (tgt : Int)) (kt : x < y → vx_V p l e R s m args below meth c Q g nL tgt L st S) (kf : ¬ x < y → vx_V p l e R s m args below meth c Q g nL (pc + 3) L st S) : vx_V p l e R s m args below meth c Q g nL pc L (.int y :: .int x :: st) S := fun ls H locs hl hP hS => lv_icmp_lt C.1 C.2.1 hd ht (fun h => kt h ls H locs hl hP hS) (fun h => kf h ls H locs hl hP hS)
theorem vv_icmp_ge (C : vx_C p s m args meth c own cc nL ret g) {x y : Int32} {off : Int} {tgt : Nat} (hd : decode cc pc = .ok (.if_icmp .ge off, 3)) (ht : (pc : Int) + off = (tgt : Int)) (kt : y ≤ x → vx_V p l e R s m args below meth c Q g nL tgt L st S) (kf : ¬ y ≤ x → vx_V p l e R s m args below meth c Q g nL (pc + 3) L st S) : vx_V p l e R s m args below meth c Q g nL pc L (.int y :: .int x :: st) S := fun ls H locs hl hP hS => lv_icmp_ge C.1 C.2.1 hd ht (fun h => kt h ls H locs hl hP hS) (fun h => kf h ls H locs hl hP hS)
theorem vv_icmp_gt (C : vx_C p s m args meth c own cc nL ret g) {x y : Int32} {off : Int} {tgt : Nat} (hd : decode cc pc = .ok (.if_icmp .gt off, 3)) (ht : (pc : Int) + off = (tgt : Int)) (kt : y < x → vx_V p l e R s m args below meth c Q g nL tgt L st S) (kf : ¬ y < x → vx_V p l e R s m args below meth c Q g nL (pc + 3) L st S) : vx_V p l e R s m args below meth c Q g nL pc L (.int y :: .int x :: st) S := fun ls H locs hl hP hS => lv_icmp_gt C.1 C.2.1 hd ht (fun h => kt h ls H locs hl hP hS) (fun h => kf h ls H locs hl hP hS)
theorem vv_icmp_le (C : vx_C p s m args meth c own cc nL ret g) {x y : Int32} {off : Int} {tgt : Nat} (hd : decode cc pc = .ok (.if_icmp .le off, 3)) (ht : (pc : Int) + off = (tgt : Int)) (kt : x ≤ y → vx_V p l e R s m args below meth c Q g nL tgt L st S) (kf : ¬ x ≤ y → vx_V p l e R s m args below meth c Q g nL (pc + 3) L st S) : vx_V p l e R s m args below meth c Q g nL pc L (.int y :: .int x :: st) S := fun ls H locs hl hP hS => lv_icmp_le C.1 C.2.1 hd ht (fun h => kt h ls H locs hl hP hS) (fun h => kf h ls H locs hl hP hS)
theorem vv_tableOut (C : vx_C p s m args meth c own cc nL ret g) {dflt lo hi : Int} {offs : Array Int} {len : Nat} {x : Int32} {tgt : Nat} (hd : decode cc pc = .ok (.tableswitch dflt lo hi offs, len)) (h : x.toInt < lo ∨ hi < x.toInt) (ht : (pc : Int) + dflt = (tgt : Int)) (k : vx_V p l e R s m args below meth c Q g nL tgt L st S) : vx_V p l e R s m args below meth c Q g nL pc L (.int x :: st) S := fun ls H locs hl hP hS => lv_tableOut C.1 C.2.1 hd h ht (k ls H locs hl hP hS)
theorem vv_tableIn (C : vx_C p s m args meth c own cc nL ret g) {dflt lo hi : Int} {offs : Array Int} {len : Nat} {x : Int32} {off : Int} {tgt : Nat} (hd : decode cc pc = .ok (.tableswitch dflt lo hi offs, len)) (h1 : ¬ x.toInt < lo) (h2 : ¬ hi < x.toInt) (ho : offs[(x.toInt - lo).toNat]? = some off) (ht : (pc : Int) + off = (tgt : Int)) (k : vx_V p l e R s m args below meth c Q g nL tgt L st S) : vx_V p l e R s m args below meth c Q g nL pc L (.int x :: st) S := fun ls H locs hl hP hS => lv_tableIn C.1 C.2.1 hd h1 h2 ho ht (k ls H locs hl hP hS)
theorem vv_ldc (C : vx_C p s m args meth c own cc nL ret g) {index : Nat} {v : Int32} (hc : Jvm.Cond.constant own index v ∈ wsL_law) (hd : decode cc pc = .ok (.ldc index, 2)) (k : vx_V p l e R s m args below meth c Q g nL (pc + 2) L (.int v :: st) S) : vx_V p l e R s m args below meth c Q g nL pc L st S := fun ls H locs hl hP hS => lv_ldc C.1 C.2.1 C.2.2.2.1 (C.2.2.2.2.1 _ hc) hd (k ls H locs hl hP hS)
theorem vv_ldc2 (C : vx_C p s m args meth c own cc nL ret g) {index : Nat} {v : Int64} (hc : Jvm.Cond.constantLong own index v ∈ wsL_law) (hd : decode cc pc = .ok (.ldc2_w index, 3)) (k : vx_V p l e R s m args below meth c Q g nL (pc + 3) L (.long v :: st) S) : vx_V p l e R s m args below meth c Q g nL pc L st S := fun ls H locs hl hP hS => lv_ldc2 C.1 C.2.1 C.2.2.2.1 (C.2.2.2.2.1 _ hc) hd (k ls H locs hl hP hS)
theorem vv_sub (ks : List Nat) (hl : lv_pick L ks = L') (k : vx_V p l e R s m args below meth c Q g nL pc L' st S) : vx_V p l e R s m args below meth c Q g nL pc L st S := fun ls H locs h hP hS => k ls H locs (lv_sub h ks hl) hP hS
theorem vv_getI (C : vx_C p s m args meth c own cc nL ret g) {a k ci o index : Nat} {fs : List (Nat ⊕ Nat)} {Cn : String} {T : u_T} {N : Nat} (hin : ∀ w ∈ u_ws Cn T N, w ∈ wsL_law) (hsh : vx_SH[a]? = some (.inr (ci, fs))) (hk : fs[k]? = some (.inl 0)) (hcl : vx_Cl[ci]? = some (Cn, T, N)) (hkN : k < N) (hT : (T k).1 = Cn) (hlink : Cond.fieldLink own index Cn (T k).2.1 (T k).2.2.1 ∈ wsL_law) (hd : decode cc pc = .ok (.getfield index, 3)) (kk : vx_V p l e R s m args below meth c Q g nL (pc + 3) L (.int (S.1 a k) :: st) S) : vx_V p l e R s m args below meth c Q g nL pc L (.ref (g.2.2.1 a) :: st) S := fun ls H locs hl hP hS => va_get (D := g.1) (cl := vx_Cl) C.1 C.2.1 C.2.2.2.2.1 hin C.2.2.2.1 C.2.2.2.2.2.2.2.1.1 hP a (vx_w_at hsh) hcl k hkN (C.2.2.2.2.1 _ hlink) (fun x h => by rw [← hT]; exact h) (by simp only [List.getElem?_mapIdx, hk, Option.map_some, vx_f]) hd (kk ls H locs hl hP hS)
theorem vv_getZ (C : vx_C p s m args meth c own cc nL ret g) {a k ci o index : Nat} {fs : List (Nat ⊕ Nat)} {Cn : String} {T : u_T} {N : Nat} (hin : ∀ w ∈ u_ws Cn T N, w ∈ wsL_law) (hsh : vx_SH[a]? = some (.inr (ci, fs))) (hk : fs[k]? = some (.inl 1)) (hcl : vx_Cl[ci]? = some (Cn, T, N)) (hkN : k < N) (hT : (T k).1 = Cn) (hlink : Cond.fieldLink own index Cn (T k).2.1 (T k).2.2.1 ∈ wsL_law) (hd : decode cc pc = .ok (.getfield index, 3)) (kk : vx_V p l e R s m args below meth c Q g nL (pc + 3) L (.int (vx_b01 (S.1 a k)) :: st) S) : vx_V p l e R s m args below meth c Q g nL pc L (.ref (g.2.2.1 a) :: st) S := fun ls H locs hl hP hS => va_get (D := g.1) (cl := vx_Cl) C.1 C.2.1 C.2.2.2.2.1 hin C.2.2.2.1 C.2.2.2.2.2.2.2.1.1 hP a (vx_w_at hsh) hcl k hkN (C.2.2.2.2.1 _ hlink) (fun x h => by rw [← hT]; exact h) (by simp only [List.getElem?_mapIdx, hk, Option.map_some, vx_f]) hd (kk ls H locs hl hP hS)
theorem vv_getL (C : vx_C p s m args meth c own cc nL ret g) {a k ci o index : Nat} {fs : List (Nat ⊕ Nat)} {Cn : String} {T : u_T} {N : Nat} (hin : ∀ w ∈ u_ws Cn T N, w ∈ wsL_law) (hsh : vx_SH[a]? = some (.inr (ci, fs))) (hk : fs[k]? = some (.inl 2)) (hcl : vx_Cl[ci]? = some (Cn, T, N)) (hkN : k < N) (hT : (T k).1 = Cn) (hlink : Cond.fieldLink own index Cn (T k).2.1 (T k).2.2.1 ∈ wsL_law) (hd : decode cc pc = .ok (.getfield index, 3)) (kk : vx_V p l e R s m args below meth c Q g nL (pc + 3) L (.long (S.2 a k) :: st) S) : vx_V p l e R s m args below meth c Q g nL pc L (.ref (g.2.2.1 a) :: st) S := fun ls H locs hl hP hS => va_get (D := g.1) (cl := vx_Cl) C.1 C.2.1 C.2.2.2.2.1 hin C.2.2.2.1 C.2.2.2.2.2.2.2.1.1 hP a (vx_w_at hsh) hcl k hkN (C.2.2.2.2.1 _ hlink) (fun x h => by rw [← hT]; exact h) (by simp only [List.getElem?_mapIdx, hk, Option.map_some, vx_f]) hd (kk ls H locs hl hP hS)
theorem vv_getR (C : vx_C p s m args meth c own cc nL ret g) {a k ci o index : Nat} {fs : List (Nat ⊕ Nat)} {Cn : String} {T : u_T} {N : Nat} (hin : ∀ w ∈ u_ws Cn T N, w ∈ wsL_law) (hsh : vx_SH[a]? = some (.inr (ci, fs))) (hk : fs[k]? = some (.inr o)) (hcl : vx_Cl[ci]? = some (Cn, T, N)) (hkN : k < N) (hT : (T k).1 = Cn) (hlink : Cond.fieldLink own index Cn (T k).2.1 (T k).2.2.1 ∈ wsL_law) (hd : decode cc pc = .ok (.getfield index, 3)) (kk : vx_V p l e R s m args below meth c Q g nL (pc + 3) L (.ref (g.2.2.1 (a + o)) :: st) S) : vx_V p l e R s m args below meth c Q g nL pc L (.ref (g.2.2.1 a) :: st) S := fun ls H locs hl hP hS => va_get (D := g.1) (cl := vx_Cl) C.1 C.2.1 C.2.2.2.2.1 hin C.2.2.2.1 C.2.2.2.2.2.2.2.1.1 hP a (vx_w_at hsh) hcl k hkN (C.2.2.2.2.1 _ hlink) (fun x h => by rw [← hT]; exact h) (by simp only [List.getElem?_mapIdx, hk, Option.map_some, vx_f]) hd (kk ls H locs hl hP hS)
theorem vv_putI (C : vx_C p s m args meth c own cc nL ret g) {a k ci index : Nat} {fs : List (Nat ⊕ Nat)} {Cn : String} {T : u_T} {N : Nat} {x : Int32} (hin : ∀ w ∈ u_ws Cn T N, w ∈ wsL_law) (ty0 : Nat → FieldType) (hty : ∀ k, k < N → parseFieldDescriptor (T k).2.2.1 = some (ty0 k)) (hnm : ∀ a, a < N → ∀ b, b < N → a ≠ b → (T a).2.1 ≠ (T b).2.1) (hsh : vx_SH[a]? = some (.inr (ci, fs))) (hk : fs[k]? = some (.inl 0)) (hcl : vx_Cl[ci]? = some (Cn, T, N)) (hkN : k < N) (hT : (T k).1 = Cn) (hfin : (T k).2.2.2 = false) (hty1 : ty0 k = .int)  (hlink : Cond.fieldLink own index Cn (T k).2.1 (T k).2.2.1 ∈ wsL_law) (hd : decode cc pc = .ok (.putfield index, 3)) (kk : vx_V p l e R s m args below meth c Q g nL (pc + 3) L st (vx_u S a k x)) : vx_V p l e R s m args below meth c Q g nL pc L (.int x :: .ref (g.2.2.1 a) :: st) S := fun ls H locs hl hP hS => va_put (D := g.1) (cl := vx_Cl) (A := vx_A g) (ty := .int) C.1 C.2.1 C.2.2.2.2.1 hin ty0 hty hnm C.2.2.2.1 C.2.2.2.2.2.2.2.1.1 hP (vx_w_D S C.2.2.2.2.2.2.2.1.2.2.1) hS a (vx_w_at hsh) hcl k hkN (C.2.2.2.2.1 _ hlink) (fun x h => by rw [← hT]; exact h) hfin (by rw [← hty1]; exact hty k hkN) rfl rfl (by rw [List.length_mapIdx]; exact (List.getElem?_eq_some_iff.mp hk).1) hd (fun H1 locs1 hP1 _ hS1 => kk ls H1 locs1 hl (by rw [← vx_w_set (g := g) (S := S) (S' := vx_u S a k x) hsh (vx_fs_set (v := .int x) hk (by simp only [vx_f])) (fun i hi => vx_u_ne S k x hi) (fun i hi => rfl)]; exact hP1) hS1)
theorem vv_putZ (C : vx_C p s m args meth c own cc nL ret g) {a k ci index : Nat} {fs : List (Nat ⊕ Nat)} {Cn : String} {T : u_T} {N : Nat} {x : Int32} (hin : ∀ w ∈ u_ws Cn T N, w ∈ wsL_law) (ty0 : Nat → FieldType) (hty : ∀ k, k < N → parseFieldDescriptor (T k).2.2.1 = some (ty0 k)) (hnm : ∀ a, a < N → ∀ b, b < N → a ≠ b → (T a).2.1 ≠ (T b).2.1) (hsh : vx_SH[a]? = some (.inr (ci, fs))) (hk : fs[k]? = some (.inl 1)) (hcl : vx_Cl[ci]? = some (Cn, T, N)) (hkN : k < N) (hT : (T k).1 = Cn) (hfin : (T k).2.2.2 = false) (hty1 : ty0 k = .boolean) (hx : vx_b01 x = x) (hlink : Cond.fieldLink own index Cn (T k).2.1 (T k).2.2.1 ∈ wsL_law) (hd : decode cc pc = .ok (.putfield index, 3)) (kk : vx_V p l e R s m args below meth c Q g nL (pc + 3) L st (vx_u S a k x)) : vx_V p l e R s m args below meth c Q g nL pc L (.int x :: .ref (g.2.2.1 a) :: st) S := fun ls H locs hl hP hS => va_put (D := g.1) (cl := vx_Cl) (A := vx_A g) (ty := .boolean) C.1 C.2.1 C.2.2.2.2.1 hin ty0 hty hnm C.2.2.2.1 C.2.2.2.2.2.2.2.1.1 hP (vx_w_D S C.2.2.2.2.2.2.2.1.2.2.1) hS a (vx_w_at hsh) hcl k hkN (C.2.2.2.2.1 _ hlink) (fun x h => by rw [← hT]; exact h) hfin (by rw [← hty1]; exact hty k hkN) (vx_nb2 hx) (vx_fb2 hx) (by rw [List.length_mapIdx]; exact (List.getElem?_eq_some_iff.mp hk).1) hd (fun H1 locs1 hP1 _ hS1 => kk ls H1 locs1 hl (by rw [← vx_w_set (g := g) (S := S) (S' := vx_u S a k x) hsh (vx_fs_set (v := .int x) hk (by simp only [vx_f, hx])) (fun i hi => vx_u_ne S k x hi) (fun i hi => rfl)]; exact hP1) hS1)
theorem vv_putL (C : vx_C p s m args meth c own cc nL ret g) {a k ci index : Nat} {fs : List (Nat ⊕ Nat)} {Cn : String} {T : u_T} {N : Nat} {x : Int64} (hin : ∀ w ∈ u_ws Cn T N, w ∈ wsL_law) (ty0 : Nat → FieldType) (hty : ∀ k, k < N → parseFieldDescriptor (T k).2.2.1 = some (ty0 k)) (hnm : ∀ a, a < N → ∀ b, b < N → a ≠ b → (T a).2.1 ≠ (T b).2.1) (hsh : vx_SH[a]? = some (.inr (ci, fs))) (hk : fs[k]? = some (.inl 2)) (hcl : vx_Cl[ci]? = some (Cn, T, N)) (hkN : k < N) (hT : (T k).1 = Cn) (hfin : (T k).2.2.2 = false) (hty1 : ty0 k = .long)  (hlink : Cond.fieldLink own index Cn (T k).2.1 (T k).2.2.1 ∈ wsL_law) (hd : decode cc pc = .ok (.putfield index, 3)) (kk : vx_V p l e R s m args below meth c Q g nL (pc + 3) L st (vx_uL S a k x)) : vx_V p l e R s m args below meth c Q g nL pc L (.long x :: .ref (g.2.2.1 a) :: st) S := fun ls H locs hl hP hS => va_put (D := g.1) (cl := vx_Cl) (A := vx_A g) (ty := .long) C.1 C.2.1 C.2.2.2.2.1 hin ty0 hty hnm C.2.2.2.1 C.2.2.2.2.2.2.2.1.1 hP (vx_w_D S C.2.2.2.2.2.2.2.1.2.2.1) hS a (vx_w_at hsh) hcl k hkN (C.2.2.2.2.1 _ hlink) (fun x h => by rw [← hT]; exact h) hfin (by rw [← hty1]; exact hty k hkN) rfl rfl (by rw [List.length_mapIdx]; exact (List.getElem?_eq_some_iff.mp hk).1) hd (fun H1 locs1 hP1 _ hS1 => kk ls H1 locs1 hl (by rw [← vx_w_set (g := g) (S := S) (S' := vx_uL S a k x) hsh (vx_fs_setL (v := .long x) hk (by simp only [vx_f])) (fun i hi => rfl) (fun i hi => vx_uL_ne S k x hi)]; exact hP1) hS1)
theorem vv_getIN (C : vx_C p s m args meth c own cc nL ret g) {host : String} {a k ci o index : Nat} {fs : List (Nat ⊕ Nat)} {Cn : String} {T : u_T} {N : Nat} (hin : ∀ w ∈ u_ws Cn T N, w ∈ wsL_law) (hsh : vx_SH[a]? = some (.inr (ci, fs))) (hk : fs[k]? = some (.inl 0)) (hcl : vx_Cl[ci]? = some (Cn, T, N)) (hkN : k < N) (hT : (T k).1 = Cn) (hlink : Cond.fieldLinkNest own index Cn (T k).2.1 (T k).2.2.1 host ∈ vx_nest) (hd : decode cc pc = .ok (.getfield index, 3)) (kk : vx_V p l e R s m args below meth c Q g nL (pc + 3) L (.int (S.1 a k) :: st) S) : vx_V p l e R s m args below meth c Q g nL pc L (.ref (g.2.2.1 a) :: st) S := fun ls H locs hl hP hS => va_getN (D := g.1) (cl := vx_Cl) C.1 C.2.1 C.2.2.2.2.1 hin C.2.2.2.1 C.2.2.2.2.2.2.2.1.1 hP a (vx_w_at hsh) hcl k hkN (va_Nw.use rfl (C.2.2.2.2.2.2.2.1.2.1 _ hlink)) (fun x h => by rw [← hT]; exact h) (by simp only [List.getElem?_mapIdx, hk, Option.map_some, vx_f]) hd (kk ls H locs hl hP hS)
theorem vv_getZN (C : vx_C p s m args meth c own cc nL ret g) {host : String} {a k ci o index : Nat} {fs : List (Nat ⊕ Nat)} {Cn : String} {T : u_T} {N : Nat} (hin : ∀ w ∈ u_ws Cn T N, w ∈ wsL_law) (hsh : vx_SH[a]? = some (.inr (ci, fs))) (hk : fs[k]? = some (.inl 1)) (hcl : vx_Cl[ci]? = some (Cn, T, N)) (hkN : k < N) (hT : (T k).1 = Cn) (hlink : Cond.fieldLinkNest own index Cn (T k).2.1 (T k).2.2.1 host ∈ vx_nest) (hd : decode cc pc = .ok (.getfield index, 3)) (kk : vx_V p l e R s m args below meth c Q g nL (pc + 3) L (.int (vx_b01 (S.1 a k)) :: st) S) : vx_V p l e R s m args below meth c Q g nL pc L (.ref (g.2.2.1 a) :: st) S := fun ls H locs hl hP hS => va_getN (D := g.1) (cl := vx_Cl) C.1 C.2.1 C.2.2.2.2.1 hin C.2.2.2.1 C.2.2.2.2.2.2.2.1.1 hP a (vx_w_at hsh) hcl k hkN (va_Nw.use rfl (C.2.2.2.2.2.2.2.1.2.1 _ hlink)) (fun x h => by rw [← hT]; exact h) (by simp only [List.getElem?_mapIdx, hk, Option.map_some, vx_f]) hd (kk ls H locs hl hP hS)
theorem vv_getLN (C : vx_C p s m args meth c own cc nL ret g) {host : String} {a k ci o index : Nat} {fs : List (Nat ⊕ Nat)} {Cn : String} {T : u_T} {N : Nat} (hin : ∀ w ∈ u_ws Cn T N, w ∈ wsL_law) (hsh : vx_SH[a]? = some (.inr (ci, fs))) (hk : fs[k]? = some (.inl 2)) (hcl : vx_Cl[ci]? = some (Cn, T, N)) (hkN : k < N) (hT : (T k).1 = Cn) (hlink : Cond.fieldLinkNest own index Cn (T k).2.1 (T k).2.2.1 host ∈ vx_nest) (hd : decode cc pc = .ok (.getfield index, 3)) (kk : vx_V p l e R s m args below meth c Q g nL (pc + 3) L (.long (S.2 a k) :: st) S) : vx_V p l e R s m args below meth c Q g nL pc L (.ref (g.2.2.1 a) :: st) S := fun ls H locs hl hP hS => va_getN (D := g.1) (cl := vx_Cl) C.1 C.2.1 C.2.2.2.2.1 hin C.2.2.2.1 C.2.2.2.2.2.2.2.1.1 hP a (vx_w_at hsh) hcl k hkN (va_Nw.use rfl (C.2.2.2.2.2.2.2.1.2.1 _ hlink)) (fun x h => by rw [← hT]; exact h) (by simp only [List.getElem?_mapIdx, hk, Option.map_some, vx_f]) hd (kk ls H locs hl hP hS)
theorem vv_getRN (C : vx_C p s m args meth c own cc nL ret g) {host : String} {a k ci o index : Nat} {fs : List (Nat ⊕ Nat)} {Cn : String} {T : u_T} {N : Nat} (hin : ∀ w ∈ u_ws Cn T N, w ∈ wsL_law) (hsh : vx_SH[a]? = some (.inr (ci, fs))) (hk : fs[k]? = some (.inr o)) (hcl : vx_Cl[ci]? = some (Cn, T, N)) (hkN : k < N) (hT : (T k).1 = Cn) (hlink : Cond.fieldLinkNest own index Cn (T k).2.1 (T k).2.2.1 host ∈ vx_nest) (hd : decode cc pc = .ok (.getfield index, 3)) (kk : vx_V p l e R s m args below meth c Q g nL (pc + 3) L (.ref (g.2.2.1 (a + o)) :: st) S) : vx_V p l e R s m args below meth c Q g nL pc L (.ref (g.2.2.1 a) :: st) S := fun ls H locs hl hP hS => va_getN (D := g.1) (cl := vx_Cl) C.1 C.2.1 C.2.2.2.2.1 hin C.2.2.2.1 C.2.2.2.2.2.2.2.1.1 hP a (vx_w_at hsh) hcl k hkN (va_Nw.use rfl (C.2.2.2.2.2.2.2.1.2.1 _ hlink)) (fun x h => by rw [← hT]; exact h) (by simp only [List.getElem?_mapIdx, hk, Option.map_some, vx_f]) hd (kk ls H locs hl hP hS)
theorem vv_putIN (C : vx_C p s m args meth c own cc nL ret g) {host : String} {a k ci index : Nat} {fs : List (Nat ⊕ Nat)} {Cn : String} {T : u_T} {N : Nat} {x : Int32} (hin : ∀ w ∈ u_ws Cn T N, w ∈ wsL_law) (ty0 : Nat → FieldType) (hty : ∀ k, k < N → parseFieldDescriptor (T k).2.2.1 = some (ty0 k)) (hnm : ∀ a, a < N → ∀ b, b < N → a ≠ b → (T a).2.1 ≠ (T b).2.1) (hsh : vx_SH[a]? = some (.inr (ci, fs))) (hk : fs[k]? = some (.inl 0)) (hcl : vx_Cl[ci]? = some (Cn, T, N)) (hkN : k < N) (hT : (T k).1 = Cn) (hfin : (T k).2.2.2 = false) (hty1 : ty0 k = .int)  (hlink : Cond.fieldLinkNest own index Cn (T k).2.1 (T k).2.2.1 host ∈ vx_nest) (hd : decode cc pc = .ok (.putfield index, 3)) (kk : vx_V p l e R s m args below meth c Q g nL (pc + 3) L st (vx_u S a k x)) : vx_V p l e R s m args below meth c Q g nL pc L (.int x :: .ref (g.2.2.1 a) :: st) S := fun ls H locs hl hP hS => va_putN (D := g.1) (cl := vx_Cl) (A := vx_A g) (ty := .int) C.1 C.2.1 C.2.2.2.2.1 hin ty0 hty hnm C.2.2.2.1 C.2.2.2.2.2.2.2.1.1 hP (vx_w_D S C.2.2.2.2.2.2.2.1.2.2.1) hS a (vx_w_at hsh) hcl k hkN (va_Nw.use rfl (C.2.2.2.2.2.2.2.1.2.1 _ hlink)) (fun x h => by rw [← hT]; exact h) hfin (by rw [← hty1]; exact hty k hkN) rfl rfl (by rw [List.length_mapIdx]; exact (List.getElem?_eq_some_iff.mp hk).1) hd (fun H1 locs1 hP1 _ hS1 => kk ls H1 locs1 hl (by rw [← vx_w_set (g := g) (S := S) (S' := vx_u S a k x) hsh (vx_fs_set (v := .int x) hk (by simp only [vx_f])) (fun i hi => vx_u_ne S k x hi) (fun i hi => rfl)]; exact hP1) hS1)
theorem vv_putZN (C : vx_C p s m args meth c own cc nL ret g) {host : String} {a k ci index : Nat} {fs : List (Nat ⊕ Nat)} {Cn : String} {T : u_T} {N : Nat} {x : Int32} (hin : ∀ w ∈ u_ws Cn T N, w ∈ wsL_law) (ty0 : Nat → FieldType) (hty : ∀ k, k < N → parseFieldDescriptor (T k).2.2.1 = some (ty0 k)) (hnm : ∀ a, a < N → ∀ b, b < N → a ≠ b → (T a).2.1 ≠ (T b).2.1) (hsh : vx_SH[a]? = some (.inr (ci, fs))) (hk : fs[k]? = some (.inl 1)) (hcl : vx_Cl[ci]? = some (Cn, T, N)) (hkN : k < N) (hT : (T k).1 = Cn) (hfin : (T k).2.2.2 = false) (hty1 : ty0 k = .boolean) (hx : vx_b01 x = x) (hlink : Cond.fieldLinkNest own index Cn (T k).2.1 (T k).2.2.1 host ∈ vx_nest) (hd : decode cc pc = .ok (.putfield index, 3)) (kk : vx_V p l e R s m args below meth c Q g nL (pc + 3) L st (vx_u S a k x)) : vx_V p l e R s m args below meth c Q g nL pc L (.int x :: .ref (g.2.2.1 a) :: st) S := fun ls H locs hl hP hS => va_putN (D := g.1) (cl := vx_Cl) (A := vx_A g) (ty := .boolean) C.1 C.2.1 C.2.2.2.2.1 hin ty0 hty hnm C.2.2.2.1 C.2.2.2.2.2.2.2.1.1 hP (vx_w_D S C.2.2.2.2.2.2.2.1.2.2.1) hS a (vx_w_at hsh) hcl k hkN (va_Nw.use rfl (C.2.2.2.2.2.2.2.1.2.1 _ hlink)) (fun x h => by rw [← hT]; exact h) hfin (by rw [← hty1]; exact hty k hkN) (vx_nb2 hx) (vx_fb2 hx) (by rw [List.length_mapIdx]; exact (List.getElem?_eq_some_iff.mp hk).1) hd (fun H1 locs1 hP1 _ hS1 => kk ls H1 locs1 hl (by rw [← vx_w_set (g := g) (S := S) (S' := vx_u S a k x) hsh (vx_fs_set (v := .int x) hk (by simp only [vx_f, hx])) (fun i hi => vx_u_ne S k x hi) (fun i hi => rfl)]; exact hP1) hS1)
theorem vv_putLN (C : vx_C p s m args meth c own cc nL ret g) {host : String} {a k ci index : Nat} {fs : List (Nat ⊕ Nat)} {Cn : String} {T : u_T} {N : Nat} {x : Int64} (hin : ∀ w ∈ u_ws Cn T N, w ∈ wsL_law) (ty0 : Nat → FieldType) (hty : ∀ k, k < N → parseFieldDescriptor (T k).2.2.1 = some (ty0 k)) (hnm : ∀ a, a < N → ∀ b, b < N → a ≠ b → (T a).2.1 ≠ (T b).2.1) (hsh : vx_SH[a]? = some (.inr (ci, fs))) (hk : fs[k]? = some (.inl 2)) (hcl : vx_Cl[ci]? = some (Cn, T, N)) (hkN : k < N) (hT : (T k).1 = Cn) (hfin : (T k).2.2.2 = false) (hty1 : ty0 k = .long)  (hlink : Cond.fieldLinkNest own index Cn (T k).2.1 (T k).2.2.1 host ∈ vx_nest) (hd : decode cc pc = .ok (.putfield index, 3)) (kk : vx_V p l e R s m args below meth c Q g nL (pc + 3) L st (vx_uL S a k x)) : vx_V p l e R s m args below meth c Q g nL pc L (.long x :: .ref (g.2.2.1 a) :: st) S := fun ls H locs hl hP hS => va_putN (D := g.1) (cl := vx_Cl) (A := vx_A g) (ty := .long) C.1 C.2.1 C.2.2.2.2.1 hin ty0 hty hnm C.2.2.2.1 C.2.2.2.2.2.2.2.1.1 hP (vx_w_D S C.2.2.2.2.2.2.2.1.2.2.1) hS a (vx_w_at hsh) hcl k hkN (va_Nw.use rfl (C.2.2.2.2.2.2.2.1.2.1 _ hlink)) (fun x h => by rw [← hT]; exact h) hfin (by rw [← hty1]; exact hty k hkN) rfl rfl (by rw [List.length_mapIdx]; exact (List.getElem?_eq_some_iff.mp hk).1) hd (fun H1 locs1 hP1 _ hS1 => kk ls H1 locs1 hl (by rw [← vx_w_set (g := g) (S := S) (S' := vx_uL S a k x) hsh (vx_fs_setL (v := .long x) hk (by simp only [vx_f])) (fun i hi => rfl) (fun i hi => vx_uL_ne S k x hi)]; exact hP1) hS1)
theorem vv_iald (C : vx_C p s m args meth c own cc nL ret g) {a n : Nat} {i : Int32} (hsh : vx_SH[a]? = some (.inl (0, n))) (hi : vp_in i n) (hd : decode cc pc = .ok (.iaload, 1)) (kk : vx_V p l e R s m args below meth c Q g nL (pc + 1) L (.int (S.1 a i.toNatClampNeg) :: st) S) : vx_V p l e R s m args below meth c Q g nL pc L (.int i :: .ref (g.2.2.1 a) :: st) S := fun ls H locs hl hP hS => va_iald C.1 C.2.1 C.2.2.2.2.2.2.2.1.1 hP a 0 (vx_w_at hsh) rfl hi hd (kk ls H locs hl hP hS)
theorem vv_bald (C : vx_C p s m args meth c own cc nL ret g) {a n : Nat} {i : Int32} (hsh : vx_SH[a]? = some (.inl (1, n))) (hi : vp_in i n) (hd : decode cc pc = .ok (.baload, 1)) (kk : vx_V p l e R s m args below meth c Q g nL (pc + 1) L (.int (S.1 a i.toNatClampNeg) :: st) S) : vx_V p l e R s m args below meth c Q g nL pc L (.int i :: .ref (g.2.2.1 a) :: st) S := fun ls H locs hl hP hS => va_bald C.1 C.2.1 C.2.2.2.2.2.2.2.1.1 hP a 1 (vx_w_at hsh) rfl hi hd (kk ls H locs hl hP hS)
theorem vv_iast (C : vx_C p s m args meth c own cc nL ret g) {a n : Nat} {i x : Int32} (hsh : vx_SH[a]? = some (.inl (0, n))) (hi : vp_in i n) (hd : decode cc pc = .ok (.iastore, 1)) (kk : vx_V p l e R s m args below meth c Q g nL (pc + 1) L st (vx_u S a i.toNatClampNeg x)) : vx_V p l e R s m args below meth c Q g nL pc L (.int x :: .int i :: .ref (g.2.2.1 a) :: st) S := fun ls H locs hl hP hS => va_iast (A := vx_A g) C.1 C.2.1 C.2.2.2.2.2.2.2.1.1 hP (vx_w_D S C.2.2.2.2.2.2.2.1.2.2.1) hS a 0 (vx_w_at hsh) rfl hi hd (fun H1 locs1 hP1 _ hS1 => kk ls H1 locs1 hl (by rw [← vx_w_set (g := g) (S := S) (S' := vx_u S a i.toNatClampNeg x) (e := .inl (g.2.1.1, n, .inl (upd (S.1 a) i.toNatClampNeg x))) hsh (by simp only [vx_c, vx_u_row]) (fun j hj => vx_u_ne S _ x hj) (fun _ _ => rfl)]; exact hP1) hS1)
theorem vv_bast (C : vx_C p s m args meth c own cc nL ret g) {a n : Nat} {i x : Int32} (hsh : vx_SH[a]? = some (.inl (1, n))) (hi : vp_in i n) (hd : decode cc pc = .ok (.bastore, 1)) (kk : vx_V p l e R s m args below meth c Q g nL (pc + 1) L st (vx_u S a i.toNatClampNeg (vp_nar .byte x))) : vx_V p l e R s m args below meth c Q g nL pc L (.int x :: .int i :: .ref (g.2.2.1 a) :: st) S := fun ls H locs hl hP hS => va_bast (A := vx_A g) C.1 C.2.1 C.2.2.2.2.2.2.2.1.1 hP (vx_w_D S C.2.2.2.2.2.2.2.1.2.2.1) hS a 1 (vx_w_at hsh) rfl hi hd (fun H1 locs1 hP1 _ hS1 => kk ls H1 locs1 hl (by rw [← vx_w_set (g := g) (S := S) (S' := vx_u S a i.toNatClampNeg (vp_nar .byte x)) (e := .inl (g.2.1.2, n, .inl (upd (S.1 a) i.toNatClampNeg (vp_nar .byte x)))) hsh (by simp only [vx_c, vx_u_row]) (fun j hj => vx_u_ne S _ _ hj) (fun _ _ => rfl)]; exact hP1) hS1)
theorem vv_copy (C : vx_C p s m args meth c own cc nL ret g) {a b : Nat} {index : Nat} (hm : (Cond.methodLink own index arraycopyName) ∈ wsL_law) (h1 : (Cond.native arraycopyName) ∈ wsL_law) (h2 : (Cond.static arraycopyName) ∈ wsL_law) (h3 : (Cond.initialized "java/lang/System") ∈ wsL_law) (ha : vx_SH[a]? = some vx_sA) (hb : vx_SH[b]? = some vx_sA) (hf : 1 ≤ R.frames) (hr : (st.map fun v => v.category).sum + (nativeFrameWords "java/lang/System" "arraycopy" 5 + 11) ≤ R.locals) (hd : decode cc pc = .ok (.invokestatic index, 3)) (kk : vx_V p l e R s m args below meth c Q g nL (pc + 3) L st (vx_ur S b (va_cpy (S.1 a) (S.1 b) 0 0 8))) : vx_V p l e R s m args below meth c Q g nL pc L (.int 8 :: .int 0 :: .ref (g.2.2.1 b) :: .int 0 :: .ref (g.2.2.1 a) :: st) S := fun ls H locs hl hP hS => va_copyi (A := vx_A g) (ty := .int) C.1 C.2.1 (C.2.2.1.trans hl.1.symm) C.2.2.2.1 (C.2.2.2.2.1 _ hm) (C.2.2.2.2.1 _ h1) (C.2.2.2.2.1 _ h2) (C.2.2.2.2.1 _ h3) C.2.2.2.2.2.2.2.1.1 hP (vx_w_D S C.2.2.2.2.2.2.2.1.2.2.1) hS a b 0 0 (vx_w_at ha) (vx_w_at hb) rfl rfl rfl (by decide) (by decide) (by decide) (by decide) (by decide) (fun i hi => rfl) hf hr hd (fun H1 locs1 hP1 _ hS1 => kk ls H1 locs1 hl (by rw [← vx_w_set (g := g) (S := S) (S' := vx_ur S b (va_cpy (S.1 a) (S.1 b) 0 0 8)) (e := .inl (g.2.1.1, 8, .inl (va_cpy (S.1 a) (S.1 b) (0 : Int32).toNatClampNeg (0 : Int32).toNatClampNeg (8 : Int32).toNatClampNeg))) hb (vx_cp_c g S a b) (fun j hj => by simp only [vx_ur, if_neg hj]) (fun _ _ => rfl)]; exact hP1) hS1)
theorem vv_mmax (C : vx_C p s m args meth c own cc nL ret g) {x y : Int32} {index : Nat} (hm : (Cond.methodLink own index Lib.Math.max.name) ∈ wsL_law) (h1 : (Cond.static Lib.Math.max.name) ∈ wsL_law) (h2 : (Cond.initialized "java/lang/Math") ∈ wsL_law) (h3 : (Cond.code Lib.Math.max.name Lib.Math.max.code 2 (some .int)) ∈ wsL_law) (hf : 1 ≤ R.frames) (hr : (st.map fun v => v.category).sum + 13 ≤ R.locals) (hd : decode cc pc = .ok (.invokestatic index, 3)) (kk : vx_V p l e R s m args below meth c Q g nL (pc + 3) L (.int (if x < y then y else x) :: st) S) : vx_V p l e R s m args below meth c Q g nL pc L (.int y :: .int x :: st) S := fun ls H locs hl hP hS => va_mmax C.1 C.2.1 (C.2.2.1.trans hl.1.symm) C.2.2.2.1 (C.2.2.2.2.1 _ hm) (C.2.2.2.2.1 _ h1) (C.2.2.2.2.1 _ h2) (C.2.2.2.2.1 _ h3) hf hr (Nat.zero_le _) (Nat.zero_le _) hd (kk ls H locs hl hP hS)
theorem vv_mmin (C : vx_C p s m args meth c own cc nL ret g) {x y : Int32} {index : Nat} (hm : (Cond.methodLink own index Lib.Math.min.name) ∈ wsL_law) (h1 : (Cond.static Lib.Math.min.name) ∈ wsL_law) (h2 : (Cond.initialized "java/lang/Math") ∈ wsL_law) (h3 : (Cond.code Lib.Math.min.name Lib.Math.min.code 2 (some .int)) ∈ wsL_law) (hf : 1 ≤ R.frames) (hr : (st.map fun v => v.category).sum + 13 ≤ R.locals) (hd : decode cc pc = .ok (.invokestatic index, 3)) (kk : vx_V p l e R s m args below meth c Q g nL (pc + 3) L (.int (if y < x then y else x) :: st) S) : vx_V p l e R s m args below meth c Q g nL pc L (.int y :: .int x :: st) S := fun ls H locs hl hP hS => va_mmin C.1 C.2.1 (C.2.2.1.trans hl.1.symm) C.2.2.2.1 (C.2.2.2.2.1 _ hm) (C.2.2.2.2.1 _ h1) (C.2.2.2.2.1 _ h2) (C.2.2.2.2.1 _ h3) hf hr (Nat.zero_le _) (Nat.zero_le _) hd (kk ls H locs hl hP hS)
theorem vv_iret {post : Option Value → vx_St → Prop} (C : vx_C p s m args meth c own cc nL (some .int) g) {v : Int32} (hd : decode cc pc = .ok (.ireturn, 1)) (h : post (some (.int v)) S) : vx_V p l e R s m args below meth c (MQ below (vx_Q g post) args s 0 0 (vx_A g)) g nL pc L [.int v] S := fun ls H locs hl hP hS => W.iret C.1 C.2.1 C.2.2.2.2.2.1 (fun t ht hW => ⟨_, S, rfl, h, by rw [ht]; exact hP, hS.F ht⟩) hS.2.2 hd C.2.2.2.2.2.2.1
theorem vv_zret {post : Option Value → vx_St → Prop} (C : vx_C p s m args meth c own cc nL (some .boolean) g) {v : Int32} (hd : decode cc pc = .ok (.ireturn, 1)) (hv : vx_b01 v = v) (h : post (some (.int v)) S) : vx_V p l e R s m args below meth c (MQ below (vx_Q g post) args s 0 0 (vx_A g)) g nL pc L [.int v] S := fun ls H locs hl hP hS => W.zret C.1 C.2.1 C.2.2.2.2.2.1 (vx_nb2 hv) (fun t ht hW => ⟨_, S, rfl, h, by rw [ht]; exact hP, hS.F ht⟩) hS.2.2 hd C.2.2.2.2.2.2.1
theorem vv_lret {post : Option Value → vx_St → Prop} (C : vx_C p s m args meth c own cc nL (some .long) g) {v : Int64} (hd : decode cc pc = .ok (.lreturn, 1)) (h : post (some (.long v)) S) : vx_V p l e R s m args below meth c (MQ below (vx_Q g post) args s 0 0 (vx_A g)) g nL pc L [.long v] S := fun ls H locs hl hP hS => W.lret C.1 C.2.1 C.2.2.2.2.2.1 (fun t ht hW => ⟨_, S, rfl, h, by rw [ht]; exact hP, hS.F ht⟩) hS.2.2 hd C.2.2.2.2.2.2.1
theorem vv_vret {post : Option Value → vx_St → Prop} (C : vx_C p s m args meth c own cc nL (none) g) (hd : decode cc pc = .ok (.return_, 1)) (h : post none S) : vx_V p l e R s m args below meth c (MQ below (vx_Q g post) args s 0 0 (vx_A g)) g nL pc L [] S := fun ls H locs hl hP hS => W.vret C.1 C.2.1 C.2.2.2.2.2.1 (fun t ht hW => ⟨_, S, rfl, h, by rw [ht]; exact hP, hS.F ht⟩) hS.2.2 hd C.2.2.2.2.2.2.1
theorem vx_call {mc : Nat} {rest st0 : List Value} {a : Array Value} {post : Option Value → vx_St → Prop} {ls : Array Slot} {H : Heap} {locs : List Loc} (hr : va_Run p l e R s m args below meth c H locs 0 0 0 0 (F0 m pc ls st0) rest (vx_Q g post a) (vx_A g)) (hl : lv_has ls nL L) (hS : va_S (vx_A g) s.heap H locs)
    (kk : ∀ v S', post v S' → vx_V p l e R s m args below meth c Q g nL (pc + 3) L (v.toList ++ rest) S') : W p l e R s m args below meth c H locs 0 0 Q (F0 m pc ls st0) := by
  intro T hT X
  obtain ⟨v, st₀, t, T', L1, h0, X', hL, e1, e2, ⟨v', S', hv, hp, hP', hF⟩, st⟩ := hr T hT X
  cases hv
  obtain ⟨t2, a1, b1⟩ := kk v S' hp ls T'.heap (locs ++ L1) hl (by rw [e1]; exact hP') ⟨Nat.le_trans hS.1 (by rw [e1, ← h0]; exact hF.1), fun q h1 h2 => by rw [e1, hF.2 q (by rw [h0]; exact Nat.lt_of_lt_of_le h1 hS.1) h2, h0]; exact hS.2.1 q h1 h2, fun q hq => by
      rcases List.mem_append.mp hq with h | h
      · exact hS.2.2 q h
      · exact hL q h⟩ T' rfl X'
  exact ⟨t2, st t2 a1, b1⟩
theorem vx_blind (av : List Value) (S : vx_St) : FrameBlind (va_Pc av (vx_P g S)) := fun a U f mk q => ⟨q.1, vx_K.same (s := U) (U := U.calling f mk a) rfl q.2.1, q.2.2.1, vx_Z.moved (s := U) (U := U.calling f mk a) (Vm.Alike.refl U.vm) q.2.2.2⟩
theorem vx_pre {U : State} {H : Heap} {locs : List Loc} (C : vx_C p s m args meth c own cc nL ret g) (hP : va_P g.1 vx_Cl (vx_w g S) H) (hS : va_S (vx_A g) s.heap H locs) (hU : U.heap = H) (hW : s.WarmedH U.vm) : vx_P g S U := ⟨vx_K.warm hW C.2.2.2.2.2.2.2.1, by rw [hU]; exact hP, by rw [hU]; exact (C.2.2.2.2.2.2.2.2.moved hW.alike).kept hS.2.1⟩
theorem vx_recv {H : Heap} {a ci : Nat} {fs : List (Nat ⊕ Nat)} {q : vw_C} (hK : vx_K g s) (hP : va_P g.1 vx_Cl (vx_w g S) H) (hsh : vx_SH[a]? = some (.inr (ci, fs))) (hcl : vx_Cl[ci]? = some q) : ∃ cell : Cell, H[g.2.2.1 a]? = some cell ∧ cell.vm.isStatics = false ∧ s.vm.findClass q.1 = some cell.cls := va_recv hK.1 hP hcl (vx_w_at hsh)
variable {y : MethodName} {bytes : ByteArray} {maxL n index fa fb FA FB : Nat} {retY : Option FieldType} {post : Option Value → vx_St → Prop} {As rest : List Value} {a ci : Nat} {fs : List (Nat ⊕ Nat)} {q : vw_C} {host : String}
theorem vv_callV (C : vx_C p s m args meth c own cc nL ret g) (hM : vx_M l g y bytes maxL retY (vx_R fa fb) (.ref (g.2.2.1 a) :: As) S post) (hy : vx_yV y bytes maxL retY n) (hl : Cond.methodLink own index y ∈ wsL_law) (hsh : vx_SH[a]? = some (.inr (ci, fs))) (hcl : vx_Cl[ci]? = some q) (hq : q.1 = y.cls) (hR : fa + 1 ≤ FA ∧ 8 + (maxL + 11) + fb ≤ FB) (hn : As.length = n) (hW : (rest.map fun v => v.category).sum ≤ 8) (hst : st = As.reverse ++ .ref (g.2.2.1 a) :: rest) (hd : decode cc pc = .ok (.invokevirtual index, 3)) (kk : ∀ v S', post v S' → vx_V p l e (vx_R FA FB) s m args below meth c Q g nL (pc + 3) L (v.toList ++ rest) S') : vx_V p l e (vx_R FA FB) s m args below meth c Q g nL pc L st S := fun ls H locs hl2 hP hS => vx_call (mc := 0) (va_runV (g := F0 m pc ls st) ⟨C.1, C.2.1, C.2.2.1, C.2.2.2.1, C.2.2.2.2.1⟩ hM ⟨callB_of n C.2.2.2.2.1 (vx_pay C.2.2.2.2.1 hy.1) rfl rfl rfl (C.2.2.2.2.1 _ hy.2.1) (C.2.2.2.2.1 _ hl) hy.2.2.1 hR, C.2.2.2.2.1 _ hy.2.2.2.1, C.2.2.2.2.1 _ hy.2.2.2.2⟩ ⟨vx_blind _ S, (by rw [← hq]; exact vx_recv C.2.2.2.2.2.2.2.1 hP hsh hcl), fun U hU hW => ⟨rfl, vx_pre C hP hS hU hW⟩⟩ rfl hn hl2.1 hst (lv_room hW) hd ⟨Nat.zero_le _, Nat.zero_le _⟩) hl2 hS kk
theorem vv_callVN (C : vx_C p s m args meth c own cc nL ret g) (hM : vx_M l g y bytes maxL retY (vx_R fa fb) (.ref (g.2.2.1 a) :: As) S post) (hy : vx_yV y bytes maxL retY n) (hl : Cond.methodLinkNest own index y host ∈ vx_nest) (hsh : vx_SH[a]? = some (.inr (ci, fs))) (hcl : vx_Cl[ci]? = some q) (hq : q.1 = y.cls) (hR : fa + 1 ≤ FA ∧ 8 + (maxL + 11) + fb ≤ FB) (hn : As.length = n) (hW : (rest.map fun v => v.category).sum ≤ 8) (hst : st = As.reverse ++ .ref (g.2.2.1 a) :: rest) (hd : decode cc pc = .ok (.invokevirtual index, 3)) (kk : ∀ v S', post v S' → vx_V p l e (vx_R FA FB) s m args below meth c Q g nL (pc + 3) L (v.toList ++ rest) S') : vx_V p l e (vx_R FA FB) s m args below meth c Q g nL pc L st S := fun ls H locs hl2 hP hS => vx_call (mc := 0) (va_runVN (g := F0 m pc ls st) ⟨C.1, C.2.1, C.2.2.1, C.2.2.2.1, C.2.2.2.2.1⟩ hM ⟨va_cnB n C.2.2.2.2.1 (vx_pay C.2.2.2.2.1 hy.1) rfl rfl rfl (C.2.2.2.2.2.2.2.1.2.1 _ hl) (C.2.2.2.2.1 _ hy.2.1) hy.2.2.1 hR, C.2.2.2.2.1 _ hy.2.2.2.1, C.2.2.2.2.1 _ hy.2.2.2.2⟩ ⟨vx_blind _ S, (by rw [← hq]; exact vx_recv C.2.2.2.2.2.2.2.1 hP hsh hcl), fun U hU hW => ⟨rfl, vx_pre C hP hS hU hW⟩⟩ rfl hn hl2.1 hst (lv_room hW) hd ⟨Nat.zero_le _, Nat.zero_le _⟩) hl2 hS kk
theorem vv_callS (C : vx_C p s m args meth c own cc nL ret g) (hM : vx_M l g y bytes maxL retY (vx_R fa fb) (As) S post) (hy : vx_yS y bytes maxL retY n) (hl : Cond.methodLink own index y ∈ wsL_law) (hR : fa + 1 ≤ FA ∧ 8 + (maxL + 11) + fb ≤ FB) (hn : As.length = n) (hW : (rest.map fun v => v.category).sum ≤ 8) (hst : st = As.reverse ++ rest) (hd : decode cc pc = .ok (.invokestatic index, 3)) (kk : ∀ v S', post v S' → vx_V p l e (vx_R FA FB) s m args below meth c Q g nL (pc + 3) L (v.toList ++ rest) S') : vx_V p l e (vx_R FA FB) s m args below meth c Q g nL pc L st S := fun ls H locs hl2 hP hS => vx_call (mc := 0) (va_runS (g := F0 m pc ls st) ⟨C.1, C.2.1, C.2.2.1, C.2.2.2.1, C.2.2.2.2.1⟩ hM ⟨callB_of n C.2.2.2.2.1 (vx_pay C.2.2.2.2.1 hy.1) rfl rfl rfl (C.2.2.2.2.1 _ hy.2.1) (C.2.2.2.2.1 _ hl) hy.2.2.1 hR, C.2.2.2.2.1 _ hy.2.2.2⟩ ⟨vx_blind _ S, fun U hU hW => ⟨rfl, vx_pre C hP hS hU hW⟩⟩ rfl hn hl2.1 hst (lv_room hW) hd ⟨Nat.zero_le _, Nat.zero_le _⟩) hl2 hS kk
theorem vv_callSN (C : vx_C p s m args meth c own cc nL ret g) (hM : vx_M l g y bytes maxL retY (vx_R fa fb) (As) S post) (hy : vx_yS y bytes maxL retY n) (hl : Cond.methodLinkNest own index y host ∈ vx_nest) (hR : fa + 1 ≤ FA ∧ 8 + (maxL + 11) + fb ≤ FB) (hn : As.length = n) (hW : (rest.map fun v => v.category).sum ≤ 8) (hst : st = As.reverse ++ rest) (hd : decode cc pc = .ok (.invokestatic index, 3)) (kk : ∀ v S', post v S' → vx_V p l e (vx_R FA FB) s m args below meth c Q g nL (pc + 3) L (v.toList ++ rest) S') : vx_V p l e (vx_R FA FB) s m args below meth c Q g nL pc L st S := fun ls H locs hl2 hP hS => vx_call (mc := 0) (va_runSN (g := F0 m pc ls st) ⟨C.1, C.2.1, C.2.2.1, C.2.2.2.1, C.2.2.2.2.1⟩ hM ⟨va_cnB n C.2.2.2.2.1 (vx_pay C.2.2.2.2.1 hy.1) rfl rfl rfl (C.2.2.2.2.2.2.2.1.2.1 _ hl) (C.2.2.2.2.1 _ hy.2.1) hy.2.2.1 hR, C.2.2.2.2.1 _ hy.2.2.2, trivial⟩ ⟨vx_blind _ S, fun U hU hW => ⟨rfl, vx_pre C hP hS hU hW⟩⟩ rfl hn hl2.1 hst (lv_room hW) hd ⟨Nat.zero_le _, Nat.zero_le _⟩) hl2 hS kk
end VV
end
section
theorem dX0_init_0 : decode cX0_init 0 = .ok (.aload_n 0, 1) := by decide +kernel
theorem dX0_init_1 : decode cX0_init 1 = .ok (.invokespecial 3, 3) := by decide +kernel
theorem dX0_init_4 : decode cX0_init 4 = .ok (.aload_n 0, 1) := by decide +kernel
theorem dX0_init_5 : decode cX0_init 5 = .ok (.bipush 60, 2) := by decide +kernel
theorem dX0_init_7 : decode cX0_init 7 = .ok (.putfield 9, 3) := by decide +kernel
theorem dX0_init_10 : decode cX0_init 10 = .ok (.aload_n 0, 1) := by decide +kernel
theorem dX0_init_11 : decode cX0_init 11 = .ok (.bipush 60, 2) := by decide +kernel
theorem dX0_init_13 : decode cX0_init 13 = .ok (.putfield 15, 3) := by decide +kernel
theorem dX0_init_16 : decode cX0_init 16 = .ok (.aload_n 0, 1) := by decide +kernel
theorem dX0_init_17 : decode cX0_init 17 = .ok (.bipush 8, 2) := by decide +kernel
theorem dX0_init_19 : decode cX0_init 19 = .ok (.newarray .int, 2) := by decide +kernel
theorem dX0_init_21 : decode cX0_init 21 = .ok (.putfield 18, 3) := by decide +kernel
theorem dX0_init_24 : decode cX0_init 24 = .ok (.aload_n 0, 1) := by decide +kernel
theorem dX0_init_25 : decode cX0_init 25 = .ok (.bipush 8, 2) := by decide +kernel
theorem dX0_init_27 : decode cX0_init 27 = .ok (.newarray .int, 2) := by decide +kernel
theorem dX0_init_29 : decode cX0_init 29 = .ok (.putfield 22, 3) := by decide +kernel
theorem dX0_init_32 : decode cX0_init 32 = .ok (.aload_n 0, 1) := by decide +kernel
theorem dX0_init_33 : decode cX0_init 33 = .ok (.bipush 8, 2) := by decide +kernel
theorem dX0_init_35 : decode cX0_init 35 = .ok (.newarray .int, 2) := by decide +kernel
theorem dX0_init_37 : decode cX0_init 37 = .ok (.putfield 25, 3) := by decide +kernel
theorem dX0_init_40 : decode cX0_init 40 = .ok (.aload_n 0, 1) := by decide +kernel
theorem dX0_init_41 : decode cX0_init 41 = .ok (.bipush 8, 2) := by decide +kernel
theorem dX0_init_43 : decode cX0_init 43 = .ok (.newarray .int, 2) := by decide +kernel
theorem dX0_init_45 : decode cX0_init 45 = .ok (.putfield 28, 3) := by decide +kernel
theorem dX0_init_48 : decode cX0_init 48 = .ok (.aload_n 0, 1) := by decide +kernel
theorem dX0_init_49 : decode cX0_init 49 = .ok (.bipush 8, 2) := by decide +kernel
theorem dX0_init_51 : decode cX0_init 51 = .ok (.newarray .int, 2) := by decide +kernel
theorem dX0_init_53 : decode cX0_init 53 = .ok (.putfield 31, 3) := by decide +kernel
theorem dX0_init_56 : decode cX0_init 56 = .ok (.return_, 1) := by decide +kernel
theorem dX0_copyFrom_0 : decode cX0_copyFrom 0 = .ok (.aload_n 0, 1) := by decide +kernel
theorem dX0_copyFrom_1 : decode cX0_copyFrom 1 = .ok (.aload_n 1, 1) := by decide +kernel
theorem dX0_copyFrom_2 : decode cX0_copyFrom 2 = .ok (.getfield 9, 3) := by decide +kernel
theorem dX0_copyFrom_5 : decode cX0_copyFrom 5 = .ok (.putfield 9, 3) := by decide +kernel
theorem dX0_copyFrom_8 : decode cX0_copyFrom 8 = .ok (.aload_n 0, 1) := by decide +kernel
theorem dX0_copyFrom_9 : decode cX0_copyFrom 9 = .ok (.aload_n 1, 1) := by decide +kernel
theorem dX0_copyFrom_10 : decode cX0_copyFrom 10 = .ok (.getfield 15, 3) := by decide +kernel
theorem dX0_copyFrom_13 : decode cX0_copyFrom 13 = .ok (.putfield 15, 3) := by decide +kernel
theorem dX0_copyFrom_16 : decode cX0_copyFrom 16 = .ok (.aload_n 0, 1) := by decide +kernel
theorem dX0_copyFrom_17 : decode cX0_copyFrom 17 = .ok (.aload_n 1, 1) := by decide +kernel
theorem dX0_copyFrom_18 : decode cX0_copyFrom 18 = .ok (.getfield 34, 3) := by decide +kernel
theorem dX0_copyFrom_21 : decode cX0_copyFrom 21 = .ok (.putfield 34, 3) := by decide +kernel
theorem dX0_copyFrom_24 : decode cX0_copyFrom 24 = .ok (.aload_n 0, 1) := by decide +kernel
theorem dX0_copyFrom_25 : decode cX0_copyFrom 25 = .ok (.aload_n 1, 1) := by decide +kernel
theorem dX0_copyFrom_26 : decode cX0_copyFrom 26 = .ok (.getfield 37, 3) := by decide +kernel
theorem dX0_copyFrom_29 : decode cX0_copyFrom 29 = .ok (.putfield 37, 3) := by decide +kernel
theorem dX0_copyFrom_32 : decode cX0_copyFrom 32 = .ok (.aload_n 0, 1) := by decide +kernel
theorem dX0_copyFrom_33 : decode cX0_copyFrom 33 = .ok (.aload_n 1, 1) := by decide +kernel
theorem dX0_copyFrom_34 : decode cX0_copyFrom 34 = .ok (.getfield 40, 3) := by decide +kernel
theorem dX0_copyFrom_37 : decode cX0_copyFrom 37 = .ok (.putfield 40, 3) := by decide +kernel
theorem dX0_copyFrom_40 : decode cX0_copyFrom 40 = .ok (.aload_n 0, 1) := by decide +kernel
theorem dX0_copyFrom_41 : decode cX0_copyFrom 41 = .ok (.aload_n 1, 1) := by decide +kernel
theorem dX0_copyFrom_42 : decode cX0_copyFrom 42 = .ok (.getfield 43, 3) := by decide +kernel
theorem dX0_copyFrom_45 : decode cX0_copyFrom 45 = .ok (.putfield 43, 3) := by decide +kernel
theorem dX0_copyFrom_48 : decode cX0_copyFrom 48 = .ok (.aload_n 0, 1) := by decide +kernel
theorem dX0_copyFrom_49 : decode cX0_copyFrom 49 = .ok (.aload_n 1, 1) := by decide +kernel
theorem dX0_copyFrom_50 : decode cX0_copyFrom 50 = .ok (.getfield 46, 3) := by decide +kernel
theorem dX0_copyFrom_53 : decode cX0_copyFrom 53 = .ok (.putfield 46, 3) := by decide +kernel
theorem dX0_copyFrom_56 : decode cX0_copyFrom 56 = .ok (.aload_n 0, 1) := by decide +kernel
theorem dX0_copyFrom_57 : decode cX0_copyFrom 57 = .ok (.aload_n 1, 1) := by decide +kernel
theorem dX0_copyFrom_58 : decode cX0_copyFrom 58 = .ok (.getfield 50, 3) := by decide +kernel
theorem dX0_copyFrom_61 : decode cX0_copyFrom 61 = .ok (.putfield 50, 3) := by decide +kernel
theorem dX0_copyFrom_64 : decode cX0_copyFrom 64 = .ok (.aload_n 0, 1) := by decide +kernel
theorem dX0_copyFrom_65 : decode cX0_copyFrom 65 = .ok (.aload_n 1, 1) := by decide +kernel
theorem dX0_copyFrom_66 : decode cX0_copyFrom 66 = .ok (.getfield 53, 3) := by decide +kernel
theorem dX0_copyFrom_69 : decode cX0_copyFrom 69 = .ok (.putfield 53, 3) := by decide +kernel
theorem dX0_copyFrom_72 : decode cX0_copyFrom 72 = .ok (.aload_n 1, 1) := by decide +kernel
theorem dX0_copyFrom_73 : decode cX0_copyFrom 73 = .ok (.getfield 18, 3) := by decide +kernel
theorem dX0_copyFrom_76 : decode cX0_copyFrom 76 = .ok (.iconst 0, 1) := by decide +kernel
theorem dX0_copyFrom_77 : decode cX0_copyFrom 77 = .ok (.aload_n 0, 1) := by decide +kernel
theorem dX0_copyFrom_78 : decode cX0_copyFrom 78 = .ok (.getfield 18, 3) := by decide +kernel
theorem dX0_copyFrom_81 : decode cX0_copyFrom 81 = .ok (.iconst 0, 1) := by decide +kernel
theorem dX0_copyFrom_82 : decode cX0_copyFrom 82 = .ok (.bipush 8, 2) := by decide +kernel
theorem dX0_copyFrom_84 : decode cX0_copyFrom 84 = .ok (.invokestatic 56, 3) := by decide +kernel
theorem dX0_copyFrom_87 : decode cX0_copyFrom 87 = .ok (.aload_n 1, 1) := by decide +kernel
theorem dX0_copyFrom_88 : decode cX0_copyFrom 88 = .ok (.getfield 22, 3) := by decide +kernel
theorem dX0_copyFrom_91 : decode cX0_copyFrom 91 = .ok (.iconst 0, 1) := by decide +kernel
theorem dX0_copyFrom_92 : decode cX0_copyFrom 92 = .ok (.aload_n 0, 1) := by decide +kernel
theorem dX0_copyFrom_93 : decode cX0_copyFrom 93 = .ok (.getfield 22, 3) := by decide +kernel
theorem dX0_copyFrom_96 : decode cX0_copyFrom 96 = .ok (.iconst 0, 1) := by decide +kernel
theorem dX0_copyFrom_97 : decode cX0_copyFrom 97 = .ok (.bipush 8, 2) := by decide +kernel
theorem dX0_copyFrom_99 : decode cX0_copyFrom 99 = .ok (.invokestatic 56, 3) := by decide +kernel
theorem dX0_copyFrom_102 : decode cX0_copyFrom 102 = .ok (.return_, 1) := by decide +kernel
theorem dX0_hasBegun_0 : decode cX0_hasBegun 0 = .ok (.aload_n 0, 1) := by decide +kernel
theorem dX0_hasBegun_1 : decode cX0_hasBegun 1 = .ok (.getfield 34, 3) := by decide +kernel
theorem dX0_hasBegun_4 : decode cX0_hasBegun 4 = .ok (.ifCond .le 7, 3) := by decide +kernel
theorem dX0_hasBegun_7 : decode cX0_hasBegun 7 = .ok (.iconst 1, 1) := by decide +kernel
theorem dX0_hasBegun_8 : decode cX0_hasBegun 8 = .ok (.goto 4, 3) := by decide +kernel
theorem dX0_hasBegun_11 : decode cX0_hasBegun 11 = .ok (.iconst 0, 1) := by decide +kernel
theorem dX0_hasBegun_12 : decode cX0_hasBegun 12 = .ok (.ireturn, 1) := by decide +kernel
theorem dX0_hourComes_0 : decode cX0_hourComes 0 = .ok (.aload_n 0, 1) := by decide +kernel
theorem dX0_hourComes_1 : decode cX0_hourComes 1 = .ok (.getfield 34, 3) := by decide +kernel
theorem dX0_hourComes_4 : decode cX0_hourComes 4 = .ok (.bipush 9, 2) := by decide +kernel
theorem dX0_hourComes_6 : decode cX0_hourComes 6 = .ok (.if_icmp .ge 14, 3) := by decide +kernel
theorem dX0_hourComes_9 : decode cX0_hourComes 9 = .ok (.aload_n 0, 1) := by decide +kernel
theorem dX0_hourComes_10 : decode cX0_hourComes 10 = .ok (.getfield 50, 3) := by decide +kernel
theorem dX0_hourComes_13 : decode cX0_hourComes 13 = .ok (.ifCond .ne 7, 3) := by decide +kernel
theorem dX0_hourComes_16 : decode cX0_hourComes 16 = .ok (.iconst 1, 1) := by decide +kernel
theorem dX0_hourComes_17 : decode cX0_hourComes 17 = .ok (.goto 4, 3) := by decide +kernel
theorem dX0_hourComes_20 : decode cX0_hourComes 20 = .ok (.iconst 0, 1) := by decide +kernel
theorem dX0_hourComes_21 : decode cX0_hourComes 21 = .ok (.ireturn, 1) := by decide +kernel
theorem dX0_welcome_0 : decode cX0_welcome 0 = .ok (.aload_n 0, 1) := by decide +kernel
theorem dX0_welcome_1 : decode cX0_welcome 1 = .ok (.getfield 18, 3) := by decide +kernel
theorem dX0_welcome_4 : decode cX0_welcome 4 = .ok (.iload_n 1, 1) := by decide +kernel
theorem dX0_welcome_5 : decode cX0_welcome 5 = .ok (.iconst 0, 1) := by decide +kernel
theorem dX0_welcome_6 : decode cX0_welcome 6 = .ok (.iastore, 1) := by decide +kernel
theorem dX0_welcome_7 : decode cX0_welcome 7 = .ok (.aload_n 0, 1) := by decide +kernel
theorem dX0_welcome_8 : decode cX0_welcome 8 = .ok (.getfield 22, 3) := by decide +kernel
theorem dX0_welcome_11 : decode cX0_welcome 11 = .ok (.iload_n 1, 1) := by decide +kernel
theorem dX0_welcome_12 : decode cX0_welcome 12 = .ok (.iconst 0, 1) := by decide +kernel
theorem dX0_welcome_13 : decode cX0_welcome 13 = .ok (.iastore, 1) := by decide +kernel
theorem dX0_welcome_14 : decode cX0_welcome 14 = .ok (.aload_n 0, 1) := by decide +kernel
theorem dX0_welcome_15 : decode cX0_welcome 15 = .ok (.dup, 1) := by decide +kernel
theorem dX0_welcome_16 : decode cX0_welcome 16 = .ok (.getfield 43, 3) := by decide +kernel
theorem dX0_welcome_19 : decode cX0_welcome 19 = .ok (.iload_n 1, 1) := by decide +kernel
theorem dX0_welcome_20 : decode cX0_welcome 20 = .ok (.invokestatic 62, 3) := by decide +kernel
theorem dX0_welcome_23 : decode cX0_welcome 23 = .ok (.iconst (-1), 1) := by decide +kernel
theorem dX0_welcome_24 : decode cX0_welcome 24 = .ok (.ixor, 1) := by decide +kernel
theorem dX0_welcome_25 : decode cX0_welcome 25 = .ok (.iand, 1) := by decide +kernel
theorem dX0_welcome_26 : decode cX0_welcome 26 = .ok (.putfield 43, 3) := by decide +kernel
theorem dX0_welcome_29 : decode cX0_welcome 29 = .ok (.return_, 1) := by decide +kernel
theorem dX0_wantOf_0 : decode cX0_wantOf 0 = .ok (.aload_n 1, 1) := by decide +kernel
theorem dX0_wantOf_1 : decode cX0_wantOf 1 = .ok (.iload_n 2, 1) := by decide +kernel
theorem dX0_wantOf_2 : decode cX0_wantOf 2 = .ok (.aload_n 0, 1) := by decide +kernel
theorem dX0_wantOf_3 : decode cX0_wantOf 3 = .ok (.getfield 34, 3) := by decide +kernel
theorem dX0_wantOf_6 : decode cX0_wantOf 6 = .ok (.invokevirtual 66, 3) := by decide +kernel
theorem dX0_wantOf_9 : decode cX0_wantOf 9 = .ok (.ifCond .eq 14, 3) := by decide +kernel
theorem dX0_wantOf_12 : decode cX0_wantOf 12 = .ok (.aload_n 0, 1) := by decide +kernel
theorem dX0_wantOf_13 : decode cX0_wantOf 13 = .ok (.getfield 43, 3) := by decide +kernel
theorem dX0_wantOf_16 : decode cX0_wantOf 16 = .ok (.iload_n 2, 1) := by decide +kernel
theorem dX0_wantOf_17 : decode cX0_wantOf 17 = .ok (.invokestatic 72, 3) := by decide +kernel
theorem dX0_wantOf_20 : decode cX0_wantOf 20 = .ok (.ifCond .eq 5, 3) := by decide +kernel
theorem dX0_wantOf_23 : decode cX0_wantOf 23 = .ok (.iconst 0, 1) := by decide +kernel
theorem dX0_wantOf_24 : decode cX0_wantOf 24 = .ok (.ireturn, 1) := by decide +kernel
theorem dX0_wantOf_25 : decode cX0_wantOf 25 = .ok (.aload_n 1, 1) := by decide +kernel
theorem dX0_wantOf_26 : decode cX0_wantOf 26 = .ok (.getfield 75, 3) := by decide +kernel
theorem dX0_wantOf_29 : decode cX0_wantOf 29 = .ok (.iload_n 2, 1) := by decide +kernel
theorem dX0_wantOf_30 : decode cX0_wantOf 30 = .ok (.iaload, 1) := by decide +kernel
theorem dX0_wantOf_31 : decode cX0_wantOf 31 = .ok (.istore_n 3, 1) := by decide +kernel
theorem dX0_wantOf_32 : decode cX0_wantOf 32 = .ok (.aload_n 1, 1) := by decide +kernel
theorem dX0_wantOf_33 : decode cX0_wantOf 33 = .ok (.iload_n 2, 1) := by decide +kernel
theorem dX0_wantOf_34 : decode cX0_wantOf 34 = .ok (.iconst 2, 1) := by decide +kernel
theorem dX0_wantOf_35 : decode cX0_wantOf 35 = .ok (.invokevirtual 78, 3) := by decide +kernel
theorem dX0_wantOf_38 : decode cX0_wantOf 38 = .ok (.ifCond .eq 20, 3) := by decide +kernel
theorem dX0_wantOf_41 : decode cX0_wantOf 41 = .ok (.aload_n 0, 1) := by decide +kernel
theorem dX0_wantOf_42 : decode cX0_wantOf 42 = .ok (.getfield 34, 3) := by decide +kernel
theorem dX0_wantOf_45 : decode cX0_wantOf 45 = .ok (.aload_n 1, 1) := by decide +kernel
theorem dX0_wantOf_46 : decode cX0_wantOf 46 = .ok (.getfield 81, 3) := by decide +kernel
theorem dX0_wantOf_49 : decode cX0_wantOf 49 = .ok (.iload_n 2, 1) := by decide +kernel
theorem dX0_wantOf_50 : decode cX0_wantOf 50 = .ok (.iaload, 1) := by decide +kernel
theorem dX0_wantOf_51 : decode cX0_wantOf 51 = .ok (.if_icmp .ne 7, 3) := by decide +kernel
theorem dX0_wantOf_54 : decode cX0_wantOf 54 = .ok (.iconst 2, 1) := by decide +kernel
theorem dX0_wantOf_55 : decode cX0_wantOf 55 = .ok (.iload_n 3, 1) := by decide +kernel
theorem dX0_wantOf_56 : decode cX0_wantOf 56 = .ok (.imul, 1) := by decide +kernel
theorem dX0_wantOf_57 : decode cX0_wantOf 57 = .ok (.ireturn, 1) := by decide +kernel
theorem dX0_wantOf_58 : decode cX0_wantOf 58 = .ok (.aload_n 1, 1) := by decide +kernel
theorem dX0_wantOf_59 : decode cX0_wantOf 59 = .ok (.iload_n 2, 1) := by decide +kernel
theorem dX0_wantOf_60 : decode cX0_wantOf 60 = .ok (.iconst 3, 1) := by decide +kernel
theorem dX0_wantOf_61 : decode cX0_wantOf 61 = .ok (.invokevirtual 78, 3) := by decide +kernel
theorem dX0_wantOf_64 : decode cX0_wantOf 64 = .ok (.ifCond .eq 18, 3) := by decide +kernel
theorem dX0_wantOf_67 : decode cX0_wantOf 67 = .ok (.aload_n 0, 1) := by decide +kernel
theorem dX0_wantOf_68 : decode cX0_wantOf 68 = .ok (.getfield 40, 3) := by decide +kernel
theorem dX0_wantOf_71 : decode cX0_wantOf 71 = .ok (.iload_n 2, 1) := by decide +kernel
theorem dX0_wantOf_72 : decode cX0_wantOf 72 = .ok (.invokestatic 72, 3) := by decide +kernel
theorem dX0_wantOf_75 : decode cX0_wantOf 75 = .ok (.ifCond .eq 7, 3) := by decide +kernel
theorem dX0_wantOf_78 : decode cX0_wantOf 78 = .ok (.iload_n 3, 1) := by decide +kernel
theorem dX0_wantOf_79 : decode cX0_wantOf 79 = .ok (.iconst 1, 1) := by decide +kernel
theorem dX0_wantOf_80 : decode cX0_wantOf 80 = .ok (.isub, 1) := by decide +kernel
theorem dX0_wantOf_81 : decode cX0_wantOf 81 = .ok (.ireturn, 1) := by decide +kernel
theorem dX0_wantOf_82 : decode cX0_wantOf 82 = .ok (.iload_n 3, 1) := by decide +kernel
theorem dX0_wantOf_83 : decode cX0_wantOf 83 = .ok (.ireturn, 1) := by decide +kernel
theorem dX0_tellWanted_0 : decode cX0_tellWanted 0 = .ok (.iconst 0, 1) := by decide +kernel
theorem dX0_tellWanted_1 : decode cX0_tellWanted 1 = .ok (.istore_n 2, 1) := by decide +kernel
theorem dX0_tellWanted_2 : decode cX0_tellWanted 2 = .ok (.iload_n 2, 1) := by decide +kernel
theorem dX0_tellWanted_3 : decode cX0_tellWanted 3 = .ok (.aload_n 1, 1) := by decide +kernel
theorem dX0_tellWanted_4 : decode cX0_tellWanted 4 = .ok (.getfield 84, 3) := by decide +kernel
theorem dX0_tellWanted_7 : decode cX0_tellWanted 7 = .ok (.if_icmp .ge 21, 3) := by decide +kernel
theorem dX0_tellWanted_10 : decode cX0_tellWanted 10 = .ok (.aload_n 0, 1) := by decide +kernel
theorem dX0_tellWanted_11 : decode cX0_tellWanted 11 = .ok (.getfield 25, 3) := by decide +kernel
theorem dX0_tellWanted_14 : decode cX0_tellWanted 14 = .ok (.iload_n 2, 1) := by decide +kernel
theorem dX0_tellWanted_15 : decode cX0_tellWanted 15 = .ok (.aload_n 0, 1) := by decide +kernel
theorem dX0_tellWanted_16 : decode cX0_tellWanted 16 = .ok (.aload_n 1, 1) := by decide +kernel
theorem dX0_tellWanted_17 : decode cX0_tellWanted 17 = .ok (.iload_n 2, 1) := by decide +kernel
theorem dX0_tellWanted_18 : decode cX0_tellWanted 18 = .ok (.invokevirtual 87, 3) := by decide +kernel
theorem dX0_tellWanted_21 : decode cX0_tellWanted 21 = .ok (.iastore, 1) := by decide +kernel
theorem dX0_tellWanted_22 : decode cX0_tellWanted 22 = .ok (.iinc 2 1, 3) := by decide +kernel
theorem dX0_tellWanted_25 : decode cX0_tellWanted 25 = .ok (.goto (-23), 3) := by decide +kernel
theorem dX0_tellWanted_28 : decode cX0_tellWanted 28 = .ok (.return_, 1) := by decide +kernel
theorem dX0_goesBy_0 : decode cX0_goesBy 0 = .ok (.iconst 0, 1) := by decide +kernel
theorem dX0_goesBy_1 : decode cX0_goesBy 1 = .ok (.istore_n 3, 1) := by decide +kernel
theorem dX0_goesBy_2 : decode cX0_goesBy 2 = .ok (.iconst 0, 1) := by decide +kernel
theorem dX0_goesBy_3 : decode cX0_goesBy 3 = .ok (.istore 4, 2) := by decide +kernel
theorem dX0_goesBy_5 : decode cX0_goesBy 5 = .ok (.iconst 0, 1) := by decide +kernel
theorem dX0_goesBy_6 : decode cX0_goesBy 6 = .ok (.istore 5, 2) := by decide +kernel
theorem dX0_goesBy_8 : decode cX0_goesBy 8 = .ok (.iload 5, 2) := by decide +kernel
theorem dX0_goesBy_10 : decode cX0_goesBy 10 = .ok (.aload_n 1, 1) := by decide +kernel
theorem dX0_goesBy_11 : decode cX0_goesBy 11 = .ok (.getfield 84, 3) := by decide +kernel
theorem dX0_goesBy_14 : decode cX0_goesBy 14 = .ok (.if_icmp .ge 50, 3) := by decide +kernel
theorem dX0_goesBy_17 : decode cX0_goesBy 17 = .ok (.iload_n 2, 1) := by decide +kernel
theorem dX0_goesBy_18 : decode cX0_goesBy 18 = .ok (.iload 5, 2) := by decide +kernel
theorem dX0_goesBy_20 : decode cX0_goesBy 20 = .ok (.invokestatic 72, 3) := by decide +kernel
theorem dX0_goesBy_23 : decode cX0_goesBy 23 = .ok (.ifCond .eq 35, 3) := by decide +kernel
theorem dX0_goesBy_26 : decode cX0_goesBy 26 = .ok (.aload_n 0, 1) := by decide +kernel
theorem dX0_goesBy_27 : decode cX0_goesBy 27 = .ok (.getfield 25, 3) := by decide +kernel
theorem dX0_goesBy_30 : decode cX0_goesBy 30 = .ok (.iload 5, 2) := by decide +kernel
theorem dX0_goesBy_32 : decode cX0_goesBy 32 = .ok (.iaload, 1) := by decide +kernel
theorem dX0_goesBy_33 : decode cX0_goesBy 33 = .ok (.ifCond .le 25, 3) := by decide +kernel
theorem dX0_goesBy_36 : decode cX0_goesBy 36 = .ok (.iload_n 3, 1) := by decide +kernel
theorem dX0_goesBy_37 : decode cX0_goesBy 37 = .ok (.aload_n 0, 1) := by decide +kernel
theorem dX0_goesBy_38 : decode cX0_goesBy 38 = .ok (.getfield 25, 3) := by decide +kernel
theorem dX0_goesBy_41 : decode cX0_goesBy 41 = .ok (.iload 5, 2) := by decide +kernel
theorem dX0_goesBy_43 : decode cX0_goesBy 43 = .ok (.iaload, 1) := by decide +kernel
theorem dX0_goesBy_44 : decode cX0_goesBy 44 = .ok (.iadd, 1) := by decide +kernel
theorem dX0_goesBy_45 : decode cX0_goesBy 45 = .ok (.istore_n 3, 1) := by decide +kernel
theorem dX0_goesBy_46 : decode cX0_goesBy 46 = .ok (.iload 4, 2) := by decide +kernel
theorem dX0_goesBy_48 : decode cX0_goesBy 48 = .ok (.aload_n 1, 1) := by decide +kernel
theorem dX0_goesBy_49 : decode cX0_goesBy 49 = .ok (.getfield 91, 3) := by decide +kernel
theorem dX0_goesBy_52 : decode cX0_goesBy 52 = .ok (.iload 5, 2) := by decide +kernel
theorem dX0_goesBy_54 : decode cX0_goesBy 54 = .ok (.iaload, 1) := by decide +kernel
theorem dX0_goesBy_55 : decode cX0_goesBy 55 = .ok (.ior, 1) := by decide +kernel
theorem dX0_goesBy_56 : decode cX0_goesBy 56 = .ok (.istore 4, 2) := by decide +kernel
theorem dX0_goesBy_58 : decode cX0_goesBy 58 = .ok (.iinc 5 1, 3) := by decide +kernel
theorem dX0_goesBy_61 : decode cX0_goesBy 61 = .ok (.goto (-53), 3) := by decide +kernel
theorem dX0_goesBy_64 : decode cX0_goesBy 64 = .ok (.iload_n 3, 1) := by decide +kernel
theorem dX0_goesBy_65 : decode cX0_goesBy 65 = .ok (.aload_n 1, 1) := by decide +kernel
theorem dX0_goesBy_66 : decode cX0_goesBy 66 = .ok (.iload 4, 2) := by decide +kernel
theorem dX0_goesBy_68 : decode cX0_goesBy 68 = .ok (.aload_n 0, 1) := by decide +kernel
theorem dX0_goesBy_69 : decode cX0_goesBy 69 = .ok (.getfield 46, 3) := by decide +kernel
theorem dX0_goesBy_72 : decode cX0_goesBy 72 = .ok (.invokevirtual 94, 3) := by decide +kernel
theorem dX0_goesBy_75 : decode cX0_goesBy 75 = .ok (.iadd, 1) := by decide +kernel
theorem dX0_goesBy_76 : decode cX0_goesBy 76 = .ok (.ireturn, 1) := by decide +kernel
theorem dX0_passHour_0 : decode cX0_passHour 0 = .ok (.aload_n 0, 1) := by decide +kernel
theorem dX0_passHour_1 : decode cX0_passHour 1 = .ok (.aload_n 1, 1) := by decide +kernel
theorem dX0_passHour_2 : decode cX0_passHour 2 = .ok (.invokevirtual 98, 3) := by decide +kernel
theorem dX0_passHour_5 : decode cX0_passHour 5 = .ok (.aload_n 1, 1) := by decide +kernel
theorem dX0_passHour_6 : decode cX0_passHour 6 = .ok (.invokevirtual 102, 3) := by decide +kernel
theorem dX0_passHour_9 : decode cX0_passHour 9 = .ok (.istore_n 2, 1) := by decide +kernel
theorem dX0_passHour_10 : decode cX0_passHour 10 = .ok (.aload_n 0, 1) := by decide +kernel
theorem dX0_passHour_11 : decode cX0_passHour 11 = .ok (.aload_n 1, 1) := by decide +kernel
theorem dX0_passHour_12 : decode cX0_passHour 12 = .ok (.iload_n 2, 1) := by decide +kernel
theorem dX0_passHour_13 : decode cX0_passHour 13 = .ok (.invokevirtual 106, 3) := by decide +kernel
theorem dX0_passHour_16 : decode cX0_passHour 16 = .ok (.istore_n 3, 1) := by decide +kernel
theorem dX0_passHour_17 : decode cX0_passHour 17 = .ok (.aload_n 1, 1) := by decide +kernel
theorem dX0_passHour_18 : decode cX0_passHour 18 = .ok (.getfield 84, 3) := by decide +kernel
theorem dX0_passHour_21 : decode cX0_passHour 21 = .ok (.iconst 1, 1) := by decide +kernel
theorem dX0_passHour_22 : decode cX0_passHour 22 = .ok (.isub, 1) := by decide +kernel
theorem dX0_passHour_23 : decode cX0_passHour 23 = .ok (.istore 4, 2) := by decide +kernel
theorem dX0_passHour_25 : decode cX0_passHour 25 = .ok (.iload 4, 2) := by decide +kernel
theorem dX0_passHour_27 : decode cX0_passHour 27 = .ok (.ifCond .lt 54, 3) := by decide +kernel
theorem dX0_passHour_30 : decode cX0_passHour 30 = .ok (.iload_n 3, 1) := by decide +kernel
theorem dX0_passHour_31 : decode cX0_passHour 31 = .ok (.aload_n 0, 1) := by decide +kernel
theorem dX0_passHour_32 : decode cX0_passHour 32 = .ok (.getfield 15, 3) := by decide +kernel
theorem dX0_passHour_35 : decode cX0_passHour 35 = .ok (.if_icmp .le 46, 3) := by decide +kernel
theorem dX0_passHour_38 : decode cX0_passHour 38 = .ok (.aload_n 0, 1) := by decide +kernel
theorem dX0_passHour_39 : decode cX0_passHour 39 = .ok (.getfield 25, 3) := by decide +kernel
theorem dX0_passHour_42 : decode cX0_passHour 42 = .ok (.iload 4, 2) := by decide +kernel
theorem dX0_passHour_44 : decode cX0_passHour 44 = .ok (.iaload, 1) := by decide +kernel
theorem dX0_passHour_45 : decode cX0_passHour 45 = .ok (.ifCond .le 30, 3) := by decide +kernel
theorem dX0_passHour_48 : decode cX0_passHour 48 = .ok (.aload_n 1, 1) := by decide +kernel
theorem dX0_passHour_49 : decode cX0_passHour 49 = .ok (.iload 4, 2) := by decide +kernel
theorem dX0_passHour_51 : decode cX0_passHour 51 = .ok (.iconst 1, 1) := by decide +kernel
theorem dX0_passHour_52 : decode cX0_passHour 52 = .ok (.invokevirtual 78, 3) := by decide +kernel
theorem dX0_passHour_55 : decode cX0_passHour 55 = .ok (.ifCond .ne 20, 3) := by decide +kernel
theorem dX0_passHour_58 : decode cX0_passHour 58 = .ok (.iload_n 2, 1) := by decide +kernel
theorem dX0_passHour_59 : decode cX0_passHour 59 = .ok (.iload 4, 2) := by decide +kernel
theorem dX0_passHour_61 : decode cX0_passHour 61 = .ok (.invokestatic 62, 3) := by decide +kernel
theorem dX0_passHour_64 : decode cX0_passHour 64 = .ok (.iconst (-1), 1) := by decide +kernel
theorem dX0_passHour_65 : decode cX0_passHour 65 = .ok (.ixor, 1) := by decide +kernel
theorem dX0_passHour_66 : decode cX0_passHour 66 = .ok (.iand, 1) := by decide +kernel
theorem dX0_passHour_67 : decode cX0_passHour 67 = .ok (.istore_n 2, 1) := by decide +kernel
theorem dX0_passHour_68 : decode cX0_passHour 68 = .ok (.aload_n 0, 1) := by decide +kernel
theorem dX0_passHour_69 : decode cX0_passHour 69 = .ok (.aload_n 1, 1) := by decide +kernel
theorem dX0_passHour_70 : decode cX0_passHour 70 = .ok (.iload_n 2, 1) := by decide +kernel
theorem dX0_passHour_71 : decode cX0_passHour 71 = .ok (.invokevirtual 106, 3) := by decide +kernel
theorem dX0_passHour_74 : decode cX0_passHour 74 = .ok (.istore_n 3, 1) := by decide +kernel
theorem dX0_passHour_75 : decode cX0_passHour 75 = .ok (.iinc 4 (-1), 3) := by decide +kernel
theorem dX0_passHour_78 : decode cX0_passHour 78 = .ok (.goto (-53), 3) := by decide +kernel
theorem dX0_passHour_81 : decode cX0_passHour 81 = .ok (.iload_n 3, 1) := by decide +kernel
theorem dX0_passHour_82 : decode cX0_passHour 82 = .ok (.aload_n 0, 1) := by decide +kernel
theorem dX0_passHour_83 : decode cX0_passHour 83 = .ok (.getfield 15, 3) := by decide +kernel
theorem dX0_passHour_86 : decode cX0_passHour 86 = .ok (.if_icmp .le 15, 3) := by decide +kernel
theorem dX0_passHour_89 : decode cX0_passHour 89 = .ok (.aload_n 0, 1) := by decide +kernel
theorem dX0_passHour_90 : decode cX0_passHour 90 = .ok (.iconst 1, 1) := by decide +kernel
theorem dX0_passHour_91 : decode cX0_passHour 91 = .ok (.putfield 50, 3) := by decide +kernel
theorem dX0_passHour_94 : decode cX0_passHour 94 = .ok (.aload_n 0, 1) := by decide +kernel
theorem dX0_passHour_95 : decode cX0_passHour 95 = .ok (.getfield 15, 3) := by decide +kernel
theorem dX0_passHour_98 : decode cX0_passHour 98 = .ok (.istore_n 3, 1) := by decide +kernel
theorem dX0_passHour_99 : decode cX0_passHour 99 = .ok (.iconst 0, 1) := by decide +kernel
theorem dX0_passHour_100 : decode cX0_passHour 100 = .ok (.istore_n 2, 1) := by decide +kernel
theorem dX0_passHour_101 : decode cX0_passHour 101 = .ok (.aload_n 0, 1) := by decide +kernel
theorem dX0_passHour_102 : decode cX0_passHour 102 = .ok (.aload_n 1, 1) := by decide +kernel
theorem dX0_passHour_103 : decode cX0_passHour 103 = .ok (.getfield 84, 3) := by decide +kernel
theorem dX0_passHour_106 : decode cX0_passHour 106 = .ok (.iload_n 2, 1) := by decide +kernel
theorem dX0_passHour_107 : decode cX0_passHour 107 = .ok (.iload_n 3, 1) := by decide +kernel
theorem dX0_passHour_108 : decode cX0_passHour 108 = .ok (.invokevirtual 109, 3) := by decide +kernel
theorem dX0_passHour_111 : decode cX0_passHour 111 = .ok (.aload_n 0, 1) := by decide +kernel
theorem dX0_passHour_112 : decode cX0_passHour 112 = .ok (.dup, 1) := by decide +kernel
theorem dX0_passHour_113 : decode cX0_passHour 113 = .ok (.getfield 34, 3) := by decide +kernel
theorem dX0_passHour_116 : decode cX0_passHour 116 = .ok (.iconst 1, 1) := by decide +kernel
theorem dX0_passHour_117 : decode cX0_passHour 117 = .ok (.iadd, 1) := by decide +kernel
theorem dX0_passHour_118 : decode cX0_passHour 118 = .ok (.putfield 34, 3) := by decide +kernel
theorem dX0_passHour_121 : decode cX0_passHour 121 = .ok (.iload_n 3, 1) := by decide +kernel
theorem dX0_passHour_122 : decode cX0_passHour 122 = .ok (.ireturn, 1) := by decide +kernel
theorem dX0_letWork_0 : decode cX0_letWork 0 = .ok (.iconst 0, 1) := by decide +kernel
theorem dX0_letWork_1 : decode cX0_letWork 1 = .ok (.istore 4, 2) := by decide +kernel
theorem dX0_letWork_3 : decode cX0_letWork 3 = .ok (.aload_n 0, 1) := by decide +kernel
theorem dX0_letWork_4 : decode cX0_letWork 4 = .ok (.iconst 0, 1) := by decide +kernel
theorem dX0_letWork_5 : decode cX0_letWork 5 = .ok (.putfield 40, 3) := by decide +kernel
theorem dX0_letWork_8 : decode cX0_letWork 8 = .ok (.iconst 0, 1) := by decide +kernel
theorem dX0_letWork_9 : decode cX0_letWork 9 = .ok (.istore 5, 2) := by decide +kernel
theorem dX0_letWork_11 : decode cX0_letWork 11 = .ok (.iload 5, 2) := by decide +kernel
theorem dX0_letWork_13 : decode cX0_letWork 13 = .ok (.iload_n 1, 1) := by decide +kernel
theorem dX0_letWork_14 : decode cX0_letWork 14 = .ok (.if_icmp .ge 71, 3) := by decide +kernel
theorem dX0_letWork_17 : decode cX0_letWork 17 = .ok (.iload_n 2, 1) := by decide +kernel
theorem dX0_letWork_18 : decode cX0_letWork 18 = .ok (.iload 5, 2) := by decide +kernel
theorem dX0_letWork_20 : decode cX0_letWork 20 = .ok (.invokestatic 72, 3) := by decide +kernel
theorem dX0_letWork_23 : decode cX0_letWork 23 = .ok (.ifCond .eq 56, 3) := by decide +kernel
theorem dX0_letWork_26 : decode cX0_letWork 26 = .ok (.aload_n 0, 1) := by decide +kernel
theorem dX0_letWork_27 : decode cX0_letWork 27 = .ok (.getfield 25, 3) := by decide +kernel
theorem dX0_letWork_30 : decode cX0_letWork 30 = .ok (.iload 5, 2) := by decide +kernel
theorem dX0_letWork_32 : decode cX0_letWork 32 = .ok (.iaload, 1) := by decide +kernel
theorem dX0_letWork_33 : decode cX0_letWork 33 = .ok (.ifCond .le 46, 3) := by decide +kernel
theorem dX0_letWork_36 : decode cX0_letWork 36 = .ok (.aload_n 0, 1) := by decide +kernel
theorem dX0_letWork_37 : decode cX0_letWork 37 = .ok (.getfield 18, 3) := by decide +kernel
theorem dX0_letWork_40 : decode cX0_letWork 40 = .ok (.iload 5, 2) := by decide +kernel
theorem dX0_letWork_42 : decode cX0_letWork 42 = .ok (.dup2, 1) := by decide +kernel
theorem dX0_letWork_43 : decode cX0_letWork 43 = .ok (.iaload, 1) := by decide +kernel
theorem dX0_letWork_44 : decode cX0_letWork 44 = .ok (.aload_n 0, 1) := by decide +kernel
theorem dX0_letWork_45 : decode cX0_letWork 45 = .ok (.getfield 25, 3) := by decide +kernel
theorem dX0_letWork_48 : decode cX0_letWork 48 = .ok (.iload 5, 2) := by decide +kernel
theorem dX0_letWork_50 : decode cX0_letWork 50 = .ok (.iaload, 1) := by decide +kernel
theorem dX0_letWork_51 : decode cX0_letWork 51 = .ok (.iadd, 1) := by decide +kernel
theorem dX0_letWork_52 : decode cX0_letWork 52 = .ok (.iastore, 1) := by decide +kernel
theorem dX0_letWork_53 : decode cX0_letWork 53 = .ok (.iload 4, 2) := by decide +kernel
theorem dX0_letWork_55 : decode cX0_letWork 55 = .ok (.aload_n 0, 1) := by decide +kernel
theorem dX0_letWork_56 : decode cX0_letWork 56 = .ok (.getfield 25, 3) := by decide +kernel
theorem dX0_letWork_59 : decode cX0_letWork 59 = .ok (.iload 5, 2) := by decide +kernel
theorem dX0_letWork_61 : decode cX0_letWork 61 = .ok (.iaload, 1) := by decide +kernel
theorem dX0_letWork_62 : decode cX0_letWork 62 = .ok (.iadd, 1) := by decide +kernel
theorem dX0_letWork_63 : decode cX0_letWork 63 = .ok (.istore 4, 2) := by decide +kernel
theorem dX0_letWork_65 : decode cX0_letWork 65 = .ok (.aload_n 0, 1) := by decide +kernel
theorem dX0_letWork_66 : decode cX0_letWork 66 = .ok (.dup, 1) := by decide +kernel
theorem dX0_letWork_67 : decode cX0_letWork 67 = .ok (.getfield 40, 3) := by decide +kernel
theorem dX0_letWork_70 : decode cX0_letWork 70 = .ok (.iload 5, 2) := by decide +kernel
theorem dX0_letWork_72 : decode cX0_letWork 72 = .ok (.invokestatic 62, 3) := by decide +kernel
theorem dX0_letWork_75 : decode cX0_letWork 75 = .ok (.ior, 1) := by decide +kernel
theorem dX0_letWork_76 : decode cX0_letWork 76 = .ok (.putfield 40, 3) := by decide +kernel
theorem dX0_letWork_79 : decode cX0_letWork 79 = .ok (.iinc 5 1, 3) := by decide +kernel
theorem dX0_letWork_82 : decode cX0_letWork 82 = .ok (.goto (-71), 3) := by decide +kernel
theorem dX0_letWork_85 : decode cX0_letWork 85 = .ok (.aload_n 0, 1) := by decide +kernel
theorem dX0_letWork_86 : decode cX0_letWork 86 = .ok (.dup, 1) := by decide +kernel
theorem dX0_letWork_87 : decode cX0_letWork 87 = .ok (.getfield 53, 3) := by decide +kernel
theorem dX0_letWork_90 : decode cX0_letWork 90 = .ok (.iload 4, 2) := by decide +kernel
theorem dX0_letWork_92 : decode cX0_letWork 92 = .ok (.iadd, 1) := by decide +kernel
theorem dX0_letWork_93 : decode cX0_letWork 93 = .ok (.putfield 53, 3) := by decide +kernel
theorem dX0_letWork_96 : decode cX0_letWork 96 = .ok (.aload_n 0, 1) := by decide +kernel
theorem dX0_letWork_97 : decode cX0_letWork 97 = .ok (.dup, 1) := by decide +kernel
theorem dX0_letWork_98 : decode cX0_letWork 98 = .ok (.getfield 37, 3) := by decide +kernel
theorem dX0_letWork_101 : decode cX0_letWork 101 = .ok (.iload_n 3, 1) := by decide +kernel
theorem dX0_letWork_102 : decode cX0_letWork 102 = .ok (.iload 4, 2) := by decide +kernel
theorem dX0_letWork_104 : decode cX0_letWork 104 = .ok (.isub, 1) := by decide +kernel
theorem dX0_letWork_105 : decode cX0_letWork 105 = .ok (.iadd, 1) := by decide +kernel
theorem dX0_letWork_106 : decode cX0_letWork 106 = .ok (.putfield 37, 3) := by decide +kernel
theorem dX0_letWork_109 : decode cX0_letWork 109 = .ok (.aload_n 0, 1) := by decide +kernel
theorem dX0_letWork_110 : decode cX0_letWork 110 = .ok (.dup, 1) := by decide +kernel
theorem dX0_letWork_111 : decode cX0_letWork 111 = .ok (.getfield 15, 3) := by decide +kernel
theorem dX0_letWork_114 : decode cX0_letWork 114 = .ok (.iload_n 3, 1) := by decide +kernel
theorem dX0_letWork_115 : decode cX0_letWork 115 = .ok (.isub, 1) := by decide +kernel
theorem dX0_letWork_116 : decode cX0_letWork 116 = .ok (.putfield 15, 3) := by decide +kernel
theorem dX0_letWork_119 : decode cX0_letWork 119 = .ok (.return_, 1) := by decide +kernel
theorem dX0_tellParts_0 : decode cX0_tellParts 0 = .ok (.aload_n 0, 1) := by decide +kernel
theorem dX0_tellParts_1 : decode cX0_tellParts 1 = .ok (.getfield 9, 3) := by decide +kernel
theorem dX0_tellParts_4 : decode cX0_tellParts 4 = .ok (.aload_n 0, 1) := by decide +kernel
theorem dX0_tellParts_5 : decode cX0_tellParts 5 = .ok (.getfield 15, 3) := by decide +kernel
theorem dX0_tellParts_8 : decode cX0_tellParts 8 = .ok (.isub, 1) := by decide +kernel
theorem dX0_tellParts_9 : decode cX0_tellParts 9 = .ok (.istore_n 2, 1) := by decide +kernel
theorem dX0_tellParts_10 : decode cX0_tellParts 10 = .ok (.aload_n 0, 1) := by decide +kernel
theorem dX0_tellParts_11 : decode cX0_tellParts 11 = .ok (.getfield 53, 3) := by decide +kernel
theorem dX0_tellParts_14 : decode cX0_tellParts 14 = .ok (.ifCond .le 7, 3) := by decide +kernel
theorem dX0_tellParts_17 : decode cX0_tellParts 17 = .ok (.iload_n 2, 1) := by decide +kernel
theorem dX0_tellParts_18 : decode cX0_tellParts 18 = .ok (.goto 4, 3) := by decide +kernel
theorem dX0_tellParts_21 : decode cX0_tellParts 21 = .ok (.iconst 0, 1) := by decide +kernel
theorem dX0_tellParts_22 : decode cX0_tellParts 22 = .ok (.istore_n 3, 1) := by decide +kernel
theorem dX0_tellParts_23 : decode cX0_tellParts 23 = .ok (.iconst 0, 1) := by decide +kernel
theorem dX0_tellParts_24 : decode cX0_tellParts 24 = .ok (.istore 4, 2) := by decide +kernel
theorem dX0_tellParts_26 : decode cX0_tellParts 26 = .ok (.iload 4, 2) := by decide +kernel
theorem dX0_tellParts_28 : decode cX0_tellParts 28 = .ok (.iload_n 1, 1) := by decide +kernel
theorem dX0_tellParts_29 : decode cX0_tellParts 29 = .ok (.if_icmp .ge 83, 3) := by decide +kernel
theorem dX0_tellParts_32 : decode cX0_tellParts 32 = .ok (.aload_n 0, 1) := by decide +kernel
theorem dX0_tellParts_33 : decode cX0_tellParts 33 = .ok (.getfield 28, 3) := by decide +kernel
theorem dX0_tellParts_36 : decode cX0_tellParts 36 = .ok (.iload 4, 2) := by decide +kernel
theorem dX0_tellParts_38 : decode cX0_tellParts 38 = .ok (.aload_n 0, 1) := by decide +kernel
theorem dX0_tellParts_39 : decode cX0_tellParts 39 = .ok (.getfield 53, 3) := by decide +kernel
theorem dX0_tellParts_42 : decode cX0_tellParts 42 = .ok (.ifCond .le 20, 3) := by decide +kernel
theorem dX0_tellParts_45 : decode cX0_tellParts 45 = .ok (.iload_n 2, 1) := by decide +kernel
theorem dX0_tellParts_46 : decode cX0_tellParts 46 = .ok (.aload_n 0, 1) := by decide +kernel
theorem dX0_tellParts_47 : decode cX0_tellParts 47 = .ok (.getfield 18, 3) := by decide +kernel
theorem dX0_tellParts_50 : decode cX0_tellParts 50 = .ok (.iload 4, 2) := by decide +kernel
theorem dX0_tellParts_52 : decode cX0_tellParts 52 = .ok (.iaload, 1) := by decide +kernel
theorem dX0_tellParts_53 : decode cX0_tellParts 53 = .ok (.imul, 1) := by decide +kernel
theorem dX0_tellParts_54 : decode cX0_tellParts 54 = .ok (.aload_n 0, 1) := by decide +kernel
theorem dX0_tellParts_55 : decode cX0_tellParts 55 = .ok (.getfield 53, 3) := by decide +kernel
theorem dX0_tellParts_58 : decode cX0_tellParts 58 = .ok (.idiv, 1) := by decide +kernel
theorem dX0_tellParts_59 : decode cX0_tellParts 59 = .ok (.goto 4, 3) := by decide +kernel
theorem dX0_tellParts_62 : decode cX0_tellParts 62 = .ok (.iconst 0, 1) := by decide +kernel
theorem dX0_tellParts_63 : decode cX0_tellParts 63 = .ok (.iastore, 1) := by decide +kernel
theorem dX0_tellParts_64 : decode cX0_tellParts 64 = .ok (.aload_n 0, 1) := by decide +kernel
theorem dX0_tellParts_65 : decode cX0_tellParts 65 = .ok (.getfield 31, 3) := by decide +kernel
theorem dX0_tellParts_68 : decode cX0_tellParts 68 = .ok (.iload 4, 2) := by decide +kernel
theorem dX0_tellParts_70 : decode cX0_tellParts 70 = .ok (.aload_n 0, 1) := by decide +kernel
theorem dX0_tellParts_71 : decode cX0_tellParts 71 = .ok (.getfield 53, 3) := by decide +kernel
theorem dX0_tellParts_74 : decode cX0_tellParts 74 = .ok (.ifCond .le 20, 3) := by decide +kernel
theorem dX0_tellParts_77 : decode cX0_tellParts 77 = .ok (.iload_n 2, 1) := by decide +kernel
theorem dX0_tellParts_78 : decode cX0_tellParts 78 = .ok (.aload_n 0, 1) := by decide +kernel
theorem dX0_tellParts_79 : decode cX0_tellParts 79 = .ok (.getfield 18, 3) := by decide +kernel
theorem dX0_tellParts_82 : decode cX0_tellParts 82 = .ok (.iload 4, 2) := by decide +kernel
theorem dX0_tellParts_84 : decode cX0_tellParts 84 = .ok (.iaload, 1) := by decide +kernel
theorem dX0_tellParts_85 : decode cX0_tellParts 85 = .ok (.imul, 1) := by decide +kernel
theorem dX0_tellParts_86 : decode cX0_tellParts 86 = .ok (.aload_n 0, 1) := by decide +kernel
theorem dX0_tellParts_87 : decode cX0_tellParts 87 = .ok (.getfield 53, 3) := by decide +kernel
theorem dX0_tellParts_90 : decode cX0_tellParts 90 = .ok (.irem, 1) := by decide +kernel
theorem dX0_tellParts_91 : decode cX0_tellParts 91 = .ok (.goto 4, 3) := by decide +kernel
theorem dX0_tellParts_94 : decode cX0_tellParts 94 = .ok (.iconst 0, 1) := by decide +kernel
theorem dX0_tellParts_95 : decode cX0_tellParts 95 = .ok (.iastore, 1) := by decide +kernel
theorem dX0_tellParts_96 : decode cX0_tellParts 96 = .ok (.iload_n 3, 1) := by decide +kernel
theorem dX0_tellParts_97 : decode cX0_tellParts 97 = .ok (.aload_n 0, 1) := by decide +kernel
theorem dX0_tellParts_98 : decode cX0_tellParts 98 = .ok (.getfield 28, 3) := by decide +kernel
theorem dX0_tellParts_101 : decode cX0_tellParts 101 = .ok (.iload 4, 2) := by decide +kernel
theorem dX0_tellParts_103 : decode cX0_tellParts 103 = .ok (.iaload, 1) := by decide +kernel
theorem dX0_tellParts_104 : decode cX0_tellParts 104 = .ok (.isub, 1) := by decide +kernel
theorem dX0_tellParts_105 : decode cX0_tellParts 105 = .ok (.istore_n 3, 1) := by decide +kernel
theorem dX0_tellParts_106 : decode cX0_tellParts 106 = .ok (.iinc 4 1, 3) := by decide +kernel
theorem dX0_tellParts_109 : decode cX0_tellParts 109 = .ok (.goto (-83), 3) := by decide +kernel
theorem dX0_tellParts_112 : decode cX0_tellParts 112 = .ok (.iconst 0, 1) := by decide +kernel
theorem dX0_tellParts_113 : decode cX0_tellParts 113 = .ok (.istore 4, 2) := by decide +kernel
theorem dX0_tellParts_115 : decode cX0_tellParts 115 = .ok (.iload 4, 2) := by decide +kernel
theorem dX0_tellParts_117 : decode cX0_tellParts 117 = .ok (.iload_n 1, 1) := by decide +kernel
theorem dX0_tellParts_118 : decode cX0_tellParts 118 = .ok (.if_icmp .ge 42, 3) := by decide +kernel
theorem dX0_tellParts_121 : decode cX0_tellParts 121 = .ok (.iload_n 3, 1) := by decide +kernel
theorem dX0_tellParts_122 : decode cX0_tellParts 122 = .ok (.ifCond .le 38, 3) := by decide +kernel
theorem dX0_tellParts_125 : decode cX0_tellParts 125 = .ok (.aload_n 0, 1) := by decide +kernel
theorem dX0_tellParts_126 : decode cX0_tellParts 126 = .ok (.iload_n 1, 1) := by decide +kernel
theorem dX0_tellParts_127 : decode cX0_tellParts 127 = .ok (.invokevirtual 113, 3) := by decide +kernel
theorem dX0_tellParts_130 : decode cX0_tellParts 130 = .ok (.istore 5, 2) := by decide +kernel
theorem dX0_tellParts_132 : decode cX0_tellParts 132 = .ok (.aload_n 0, 1) := by decide +kernel
theorem dX0_tellParts_133 : decode cX0_tellParts 133 = .ok (.getfield 28, 3) := by decide +kernel
theorem dX0_tellParts_136 : decode cX0_tellParts 136 = .ok (.iload 5, 2) := by decide +kernel
theorem dX0_tellParts_138 : decode cX0_tellParts 138 = .ok (.dup2, 1) := by decide +kernel
theorem dX0_tellParts_139 : decode cX0_tellParts 139 = .ok (.iaload, 1) := by decide +kernel
theorem dX0_tellParts_140 : decode cX0_tellParts 140 = .ok (.iconst 1, 1) := by decide +kernel
theorem dX0_tellParts_141 : decode cX0_tellParts 141 = .ok (.iadd, 1) := by decide +kernel
theorem dX0_tellParts_142 : decode cX0_tellParts 142 = .ok (.iastore, 1) := by decide +kernel
theorem dX0_tellParts_143 : decode cX0_tellParts 143 = .ok (.aload_n 0, 1) := by decide +kernel
theorem dX0_tellParts_144 : decode cX0_tellParts 144 = .ok (.getfield 31, 3) := by decide +kernel
theorem dX0_tellParts_147 : decode cX0_tellParts 147 = .ok (.iload 5, 2) := by decide +kernel
theorem dX0_tellParts_149 : decode cX0_tellParts 149 = .ok (.iconst (-1), 1) := by decide +kernel
theorem dX0_tellParts_150 : decode cX0_tellParts 150 = .ok (.iastore, 1) := by decide +kernel
theorem dX0_tellParts_151 : decode cX0_tellParts 151 = .ok (.iinc 3 (-1), 3) := by decide +kernel
theorem dX0_tellParts_154 : decode cX0_tellParts 154 = .ok (.iinc 4 1, 3) := by decide +kernel
theorem dX0_tellParts_157 : decode cX0_tellParts 157 = .ok (.goto (-42), 3) := by decide +kernel
theorem dX0_tellParts_160 : decode cX0_tellParts 160 = .ok (.return_, 1) := by decide +kernel
theorem dX0_greatestRest_0 : decode cX0_greatestRest 0 = .ok (.iconst 0, 1) := by decide +kernel
theorem dX0_greatestRest_1 : decode cX0_greatestRest 1 = .ok (.istore_n 2, 1) := by decide +kernel
theorem dX0_greatestRest_2 : decode cX0_greatestRest 2 = .ok (.iconst 1, 1) := by decide +kernel
theorem dX0_greatestRest_3 : decode cX0_greatestRest 3 = .ok (.istore_n 3, 1) := by decide +kernel
theorem dX0_greatestRest_4 : decode cX0_greatestRest 4 = .ok (.iload_n 3, 1) := by decide +kernel
theorem dX0_greatestRest_5 : decode cX0_greatestRest 5 = .ok (.iload_n 1, 1) := by decide +kernel
theorem dX0_greatestRest_6 : decode cX0_greatestRest 6 = .ok (.if_icmp .ge 26, 3) := by decide +kernel
theorem dX0_greatestRest_9 : decode cX0_greatestRest 9 = .ok (.aload_n 0, 1) := by decide +kernel
theorem dX0_greatestRest_10 : decode cX0_greatestRest 10 = .ok (.getfield 31, 3) := by decide +kernel
theorem dX0_greatestRest_13 : decode cX0_greatestRest 13 = .ok (.iload_n 3, 1) := by decide +kernel
theorem dX0_greatestRest_14 : decode cX0_greatestRest 14 = .ok (.iaload, 1) := by decide +kernel
theorem dX0_greatestRest_15 : decode cX0_greatestRest 15 = .ok (.aload_n 0, 1) := by decide +kernel
theorem dX0_greatestRest_16 : decode cX0_greatestRest 16 = .ok (.getfield 31, 3) := by decide +kernel
theorem dX0_greatestRest_19 : decode cX0_greatestRest 19 = .ok (.iload_n 2, 1) := by decide +kernel
theorem dX0_greatestRest_20 : decode cX0_greatestRest 20 = .ok (.iaload, 1) := by decide +kernel
theorem dX0_greatestRest_21 : decode cX0_greatestRest 21 = .ok (.if_icmp .le 5, 3) := by decide +kernel
theorem dX0_greatestRest_24 : decode cX0_greatestRest 24 = .ok (.iload_n 3, 1) := by decide +kernel
theorem dX0_greatestRest_25 : decode cX0_greatestRest 25 = .ok (.istore_n 2, 1) := by decide +kernel
theorem dX0_greatestRest_26 : decode cX0_greatestRest 26 = .ok (.iinc 3 1, 3) := by decide +kernel
theorem dX0_greatestRest_29 : decode cX0_greatestRest 29 = .ok (.goto (-25), 3) := by decide +kernel
theorem dX0_greatestRest_32 : decode cX0_greatestRest 32 = .ok (.iload_n 2, 1) := by decide +kernel
theorem dX0_greatestRest_33 : decode cX0_greatestRest 33 = .ok (.ireturn, 1) := by decide +kernel
theorem dX0_passNight_0 : decode cX0_passNight 0 = .ok (.aload_n 0, 1) := by decide +kernel
theorem dX0_passNight_1 : decode cX0_passNight 1 = .ok (.getfield 9, 3) := by decide +kernel
theorem dX0_passNight_4 : decode cX0_passNight 4 = .ok (.aload_n 0, 1) := by decide +kernel
theorem dX0_passNight_5 : decode cX0_passNight 5 = .ok (.getfield 15, 3) := by decide +kernel
theorem dX0_passNight_8 : decode cX0_passNight 8 = .ok (.isub, 1) := by decide +kernel
theorem dX0_passNight_9 : decode cX0_passNight 9 = .ok (.istore_n 2, 1) := by decide +kernel
theorem dX0_passNight_10 : decode cX0_passNight 10 = .ok (.aload_n 0, 1) := by decide +kernel
theorem dX0_passNight_11 : decode cX0_passNight 11 = .ok (.iload_n 1, 1) := by decide +kernel
theorem dX0_passNight_12 : decode cX0_passNight 12 = .ok (.invokevirtual 116, 3) := by decide +kernel
theorem dX0_passNight_15 : decode cX0_passNight 15 = .ok (.iconst 0, 1) := by decide +kernel
theorem dX0_passNight_16 : decode cX0_passNight 16 = .ok (.istore_n 3, 1) := by decide +kernel
theorem dX0_passNight_17 : decode cX0_passNight 17 = .ok (.iload_n 3, 1) := by decide +kernel
theorem dX0_passNight_18 : decode cX0_passNight 18 = .ok (.iload_n 1, 1) := by decide +kernel
theorem dX0_passNight_19 : decode cX0_passNight 19 = .ok (.if_icmp .ge 41, 3) := by decide +kernel
theorem dX0_passNight_22 : decode cX0_passNight 22 = .ok (.aload_n 0, 1) := by decide +kernel
theorem dX0_passNight_23 : decode cX0_passNight 23 = .ok (.getfield 22, 3) := by decide +kernel
theorem dX0_passNight_26 : decode cX0_passNight 26 = .ok (.iload_n 3, 1) := by decide +kernel
theorem dX0_passNight_27 : decode cX0_passNight 27 = .ok (.sipush 999, 3) := by decide +kernel
theorem dX0_passNight_30 : decode cX0_passNight 30 = .ok (.aload_n 0, 1) := by decide +kernel
theorem dX0_passNight_31 : decode cX0_passNight 31 = .ok (.getfield 22, 3) := by decide +kernel
theorem dX0_passNight_34 : decode cX0_passNight 34 = .ok (.iload_n 3, 1) := by decide +kernel
theorem dX0_passNight_35 : decode cX0_passNight 35 = .ok (.iaload, 1) := by decide +kernel
theorem dX0_passNight_36 : decode cX0_passNight 36 = .ok (.aload_n 0, 1) := by decide +kernel
theorem dX0_passNight_37 : decode cX0_passNight 37 = .ok (.getfield 28, 3) := by decide +kernel
theorem dX0_passNight_40 : decode cX0_passNight 40 = .ok (.iload_n 3, 1) := by decide +kernel
theorem dX0_passNight_41 : decode cX0_passNight 41 = .ok (.iaload, 1) := by decide +kernel
theorem dX0_passNight_42 : decode cX0_passNight 42 = .ok (.iadd, 1) := by decide +kernel
theorem dX0_passNight_43 : decode cX0_passNight 43 = .ok (.invokestatic 120, 3) := by decide +kernel
theorem dX0_passNight_46 : decode cX0_passNight 46 = .ok (.iastore, 1) := by decide +kernel
theorem dX0_passNight_47 : decode cX0_passNight 47 = .ok (.aload_n 0, 1) := by decide +kernel
theorem dX0_passNight_48 : decode cX0_passNight 48 = .ok (.getfield 18, 3) := by decide +kernel
theorem dX0_passNight_51 : decode cX0_passNight 51 = .ok (.iload_n 3, 1) := by decide +kernel
theorem dX0_passNight_52 : decode cX0_passNight 52 = .ok (.iconst 0, 1) := by decide +kernel
theorem dX0_passNight_53 : decode cX0_passNight 53 = .ok (.iastore, 1) := by decide +kernel
theorem dX0_passNight_54 : decode cX0_passNight 54 = .ok (.iinc 3 1, 3) := by decide +kernel
theorem dX0_passNight_57 : decode cX0_passNight 57 = .ok (.goto (-40), 3) := by decide +kernel
theorem dX0_passNight_60 : decode cX0_passNight 60 = .ok (.aload_n 0, 1) := by decide +kernel
theorem dX0_passNight_61 : decode cX0_passNight 61 = .ok (.iconst 0, 1) := by decide +kernel
theorem dX0_passNight_62 : decode cX0_passNight 62 = .ok (.putfield 34, 3) := by decide +kernel
theorem dX0_passNight_65 : decode cX0_passNight 65 = .ok (.aload_n 0, 1) := by decide +kernel
theorem dX0_passNight_66 : decode cX0_passNight 66 = .ok (.aload_n 0, 1) := by decide +kernel
theorem dX0_passNight_67 : decode cX0_passNight 67 = .ok (.getfield 9, 3) := by decide +kernel
theorem dX0_passNight_70 : decode cX0_passNight 70 = .ok (.putfield 15, 3) := by decide +kernel
theorem dX0_passNight_73 : decode cX0_passNight 73 = .ok (.aload_n 0, 1) := by decide +kernel
theorem dX0_passNight_74 : decode cX0_passNight 74 = .ok (.iconst 0, 1) := by decide +kernel
theorem dX0_passNight_75 : decode cX0_passNight 75 = .ok (.putfield 53, 3) := by decide +kernel
theorem dX0_passNight_78 : decode cX0_passNight 78 = .ok (.aload_n 0, 1) := by decide +kernel
theorem dX0_passNight_79 : decode cX0_passNight 79 = .ok (.iconst 0, 1) := by decide +kernel
theorem dX0_passNight_80 : decode cX0_passNight 80 = .ok (.putfield 37, 3) := by decide +kernel
theorem dX0_passNight_83 : decode cX0_passNight 83 = .ok (.aload_n 0, 1) := by decide +kernel
theorem dX0_passNight_84 : decode cX0_passNight 84 = .ok (.iconst 0, 1) := by decide +kernel
theorem dX0_passNight_85 : decode cX0_passNight 85 = .ok (.putfield 40, 3) := by decide +kernel
theorem dX0_passNight_88 : decode cX0_passNight 88 = .ok (.aload_n 0, 1) := by decide +kernel
theorem dX0_passNight_89 : decode cX0_passNight 89 = .ok (.iconst 0, 1) := by decide +kernel
theorem dX0_passNight_90 : decode cX0_passNight 90 = .ok (.putfield 50, 3) := by decide +kernel
theorem dX0_passNight_93 : decode cX0_passNight 93 = .ok (.iload_n 2, 1) := by decide +kernel
theorem dX0_passNight_94 : decode cX0_passNight 94 = .ok (.ireturn, 1) := by decide +kernel
theorem dX1_init_0 : decode cX1_init 0 = .ok (.aload_n 0, 1) := by decide +kernel
theorem dX1_init_1 : decode cX1_init 1 = .ok (.invokespecial 3, 3) := by decide +kernel
theorem dX1_init_4 : decode cX1_init 4 = .ok (.aload_n 0, 1) := by decide +kernel
theorem dX1_init_5 : decode cX1_init 5 = .ok (.bipush 8, 2) := by decide +kernel
theorem dX1_init_7 : decode cX1_init 7 = .ok (.newarray .int, 2) := by decide +kernel
theorem dX1_init_9 : decode cX1_init 9 = .ok (.putfield 9, 3) := by decide +kernel
theorem dX1_init_12 : decode cX1_init 12 = .ok (.aload_n 0, 1) := by decide +kernel
theorem dX1_init_13 : decode cX1_init 13 = .ok (.bipush 8, 2) := by decide +kernel
theorem dX1_init_15 : decode cX1_init 15 = .ok (.newarray .int, 2) := by decide +kernel
theorem dX1_init_17 : decode cX1_init 17 = .ok (.putfield 15, 3) := by decide +kernel
theorem dX1_init_20 : decode cX1_init 20 = .ok (.aload_n 0, 1) := by decide +kernel
theorem dX1_init_21 : decode cX1_init 21 = .ok (.bipush 8, 2) := by decide +kernel
theorem dX1_init_23 : decode cX1_init 23 = .ok (.newarray .int, 2) := by decide +kernel
theorem dX1_init_25 : decode cX1_init 25 = .ok (.putfield 18, 3) := by decide +kernel
theorem dX1_init_28 : decode cX1_init 28 = .ok (.aload_n 0, 1) := by decide +kernel
theorem dX1_init_29 : decode cX1_init 29 = .ok (.bipush 8, 2) := by decide +kernel
theorem dX1_init_31 : decode cX1_init 31 = .ok (.newarray .int, 2) := by decide +kernel
theorem dX1_init_33 : decode cX1_init 33 = .ok (.putfield 21, 3) := by decide +kernel
theorem dX1_init_36 : decode cX1_init 36 = .ok (.aload_n 0, 1) := by decide +kernel
theorem dX1_init_37 : decode cX1_init 37 = .ok (.bipush 8, 2) := by decide +kernel
theorem dX1_init_39 : decode cX1_init 39 = .ok (.newarray .int, 2) := by decide +kernel
theorem dX1_init_41 : decode cX1_init 41 = .ok (.putfield 24, 3) := by decide +kernel
theorem dX1_init_44 : decode cX1_init 44 = .ok (.aload_n 0, 1) := by decide +kernel
theorem dX1_init_45 : decode cX1_init 45 = .ok (.bipush 8, 2) := by decide +kernel
theorem dX1_init_47 : decode cX1_init 47 = .ok (.newarray .int, 2) := by decide +kernel
theorem dX1_init_49 : decode cX1_init 49 = .ok (.putfield 27, 3) := by decide +kernel
theorem dX1_init_52 : decode cX1_init 52 = .ok (.aload_n 0, 1) := by decide +kernel
theorem dX1_init_53 : decode cX1_init 53 = .ok (.bipush 8, 2) := by decide +kernel
theorem dX1_init_55 : decode cX1_init 55 = .ok (.newarray .int, 2) := by decide +kernel
theorem dX1_init_57 : decode cX1_init 57 = .ok (.putfield 30, 3) := by decide +kernel
theorem dX1_init_60 : decode cX1_init 60 = .ok (.return_, 1) := by decide +kernel
theorem dX1_has_0 : decode cX1_has 0 = .ok (.iload_n 1, 1) := by decide +kernel
theorem dX1_has_1 : decode cX1_has 1 = .ok (.ifCond .lt 15, 3) := by decide +kernel
theorem dX1_has_4 : decode cX1_has 4 = .ok (.iload_n 1, 1) := by decide +kernel
theorem dX1_has_5 : decode cX1_has 5 = .ok (.aload_n 0, 1) := by decide +kernel
theorem dX1_has_6 : decode cX1_has 6 = .ok (.getfield 33, 3) := by decide +kernel
theorem dX1_has_9 : decode cX1_has 9 = .ok (.if_icmp .ge 7, 3) := by decide +kernel
theorem dX1_has_12 : decode cX1_has 12 = .ok (.iconst 1, 1) := by decide +kernel
theorem dX1_has_13 : decode cX1_has 13 = .ok (.goto 4, 3) := by decide +kernel
theorem dX1_has_16 : decode cX1_has 16 = .ok (.iconst 0, 1) := by decide +kernel
theorem dX1_has_17 : decode cX1_has 17 = .ok (.ireturn, 1) := by decide +kernel
theorem dX1_all_0 : decode cX1_all 0 = .ok (.aload_n 0, 1) := by decide +kernel
theorem dX1_all_1 : decode cX1_all 1 = .ok (.getfield 33, 3) := by decide +kernel
theorem dX1_all_4 : decode cX1_all 4 = .ok (.invokestatic 37, 3) := by decide +kernel
theorem dX1_all_7 : decode cX1_all 7 = .ok (.iconst 1, 1) := by decide +kernel
theorem dX1_all_8 : decode cX1_all 8 = .ok (.isub, 1) := by decide +kernel
theorem dX1_all_9 : decode cX1_all 9 = .ok (.ireturn, 1) := by decide +kernel
theorem dX1_areBits_0 : decode cX1_areBits 0 = .ok (.iload_n 1, 1) := by decide +kernel
theorem dX1_areBits_1 : decode cX1_areBits 1 = .ok (.ifCond .lt 15, 3) := by decide +kernel
theorem dX1_areBits_4 : decode cX1_areBits 4 = .ok (.iload_n 1, 1) := by decide +kernel
theorem dX1_areBits_5 : decode cX1_areBits 5 = .ok (.aload_n 0, 1) := by decide +kernel
theorem dX1_areBits_6 : decode cX1_areBits 6 = .ok (.invokevirtual 41, 3) := by decide +kernel
theorem dX1_areBits_9 : decode cX1_areBits 9 = .ok (.if_icmp .gt 7, 3) := by decide +kernel
theorem dX1_areBits_12 : decode cX1_areBits 12 = .ok (.iconst 1, 1) := by decide +kernel
theorem dX1_areBits_13 : decode cX1_areBits 13 = .ok (.goto 4, 3) := by decide +kernel
theorem dX1_areBits_16 : decode cX1_areBits 16 = .ok (.iconst 0, 1) := by decide +kernel
theorem dX1_areBits_17 : decode cX1_areBits 17 = .ok (.ireturn, 1) := by decide +kernel
theorem dX1_add_0 : decode cX1_add 0 = .ok (.aload_n 0, 1) := by decide +kernel
theorem dX1_add_1 : decode cX1_add 1 = .ok (.getfield 33, 3) := by decide +kernel
theorem dX1_add_4 : decode cX1_add 4 = .ok (.istore_n 2, 1) := by decide +kernel
theorem dX1_add_5 : decode cX1_add 5 = .ok (.aload_n 0, 1) := by decide +kernel
theorem dX1_add_6 : decode cX1_add 6 = .ok (.getfield 9, 3) := by decide +kernel
theorem dX1_add_9 : decode cX1_add 9 = .ok (.iload_n 2, 1) := by decide +kernel
theorem dX1_add_10 : decode cX1_add 10 = .ok (.aload_n 1, 1) := by decide +kernel
theorem dX1_add_11 : decode cX1_add 11 = .ok (.getfield 45, 3) := by decide +kernel
theorem dX1_add_14 : decode cX1_add 14 = .ok (.iconst 0, 1) := by decide +kernel
theorem dX1_add_15 : decode cX1_add 15 = .ok (.iaload, 1) := by decide +kernel
theorem dX1_add_16 : decode cX1_add 16 = .ok (.invokestatic 50, 3) := by decide +kernel
theorem dX1_add_19 : decode cX1_add 19 = .ok (.iastore, 1) := by decide +kernel
theorem dX1_add_20 : decode cX1_add 20 = .ok (.aload_n 0, 1) := by decide +kernel
theorem dX1_add_21 : decode cX1_add 21 = .ok (.getfield 15, 3) := by decide +kernel
theorem dX1_add_24 : decode cX1_add 24 = .ok (.iload_n 2, 1) := by decide +kernel
theorem dX1_add_25 : decode cX1_add 25 = .ok (.aload_n 1, 1) := by decide +kernel
theorem dX1_add_26 : decode cX1_add 26 = .ok (.getfield 45, 3) := by decide +kernel
theorem dX1_add_29 : decode cX1_add 29 = .ok (.iconst 1, 1) := by decide +kernel
theorem dX1_add_30 : decode cX1_add 30 = .ok (.iaload, 1) := by decide +kernel
theorem dX1_add_31 : decode cX1_add 31 = .ok (.bipush 45, 2) := by decide +kernel
theorem dX1_add_33 : decode cX1_add 33 = .ok (.if_icmp .ne 7, 3) := by decide +kernel
theorem dX1_add_36 : decode cX1_add 36 = .ok (.iconst (-1), 1) := by decide +kernel
theorem dX1_add_37 : decode cX1_add 37 = .ok (.goto 8, 3) := by decide +kernel
theorem dX1_add_40 : decode cX1_add 40 = .ok (.aload_n 1, 1) := by decide +kernel
theorem dX1_add_41 : decode cX1_add 41 = .ok (.iconst 1, 1) := by decide +kernel
theorem dX1_add_42 : decode cX1_add 42 = .ok (.invokevirtual 53, 3) := by decide +kernel
theorem dX1_add_45 : decode cX1_add 45 = .ok (.iastore, 1) := by decide +kernel
theorem dX1_add_46 : decode cX1_add 46 = .ok (.aload_n 0, 1) := by decide +kernel
theorem dX1_add_47 : decode cX1_add 47 = .ok (.getfield 18, 3) := by decide +kernel
theorem dX1_add_50 : decode cX1_add 50 = .ok (.iload_n 2, 1) := by decide +kernel
theorem dX1_add_51 : decode cX1_add 51 = .ok (.aload_n 1, 1) := by decide +kernel
theorem dX1_add_52 : decode cX1_add 52 = .ok (.iconst 2, 1) := by decide +kernel
theorem dX1_add_53 : decode cX1_add 53 = .ok (.invokevirtual 53, 3) := by decide +kernel
theorem dX1_add_56 : decode cX1_add 56 = .ok (.iastore, 1) := by decide +kernel
theorem dX1_add_57 : decode cX1_add 57 = .ok (.aload_n 0, 1) := by decide +kernel
theorem dX1_add_58 : decode cX1_add 58 = .ok (.getfield 21, 3) := by decide +kernel
theorem dX1_add_61 : decode cX1_add 61 = .ok (.iload_n 2, 1) := by decide +kernel
theorem dX1_add_62 : decode cX1_add 62 = .ok (.aload_n 1, 1) := by decide +kernel
theorem dX1_add_63 : decode cX1_add 63 = .ok (.iconst 3, 1) := by decide +kernel
theorem dX1_add_64 : decode cX1_add 64 = .ok (.invokevirtual 53, 3) := by decide +kernel
theorem dX1_add_67 : decode cX1_add 67 = .ok (.iastore, 1) := by decide +kernel
theorem dX1_add_68 : decode cX1_add 68 = .ok (.aload_n 0, 1) := by decide +kernel
theorem dX1_add_69 : decode cX1_add 69 = .ok (.getfield 24, 3) := by decide +kernel
theorem dX1_add_72 : decode cX1_add 72 = .ok (.iload_n 2, 1) := by decide +kernel
theorem dX1_add_73 : decode cX1_add 73 = .ok (.aload_n 1, 1) := by decide +kernel
theorem dX1_add_74 : decode cX1_add 74 = .ok (.iconst 4, 1) := by decide +kernel
theorem dX1_add_75 : decode cX1_add 75 = .ok (.invokevirtual 53, 3) := by decide +kernel
theorem dX1_add_78 : decode cX1_add 78 = .ok (.iastore, 1) := by decide +kernel
theorem dX1_add_79 : decode cX1_add 79 = .ok (.aload_n 0, 1) := by decide +kernel
theorem dX1_add_80 : decode cX1_add 80 = .ok (.getfield 27, 3) := by decide +kernel
theorem dX1_add_83 : decode cX1_add 83 = .ok (.iload_n 2, 1) := by decide +kernel
theorem dX1_add_84 : decode cX1_add 84 = .ok (.aload_n 1, 1) := by decide +kernel
theorem dX1_add_85 : decode cX1_add 85 = .ok (.iconst 5, 1) := by decide +kernel
theorem dX1_add_86 : decode cX1_add 86 = .ok (.invokevirtual 53, 3) := by decide +kernel
theorem dX1_add_89 : decode cX1_add 89 = .ok (.iastore, 1) := by decide +kernel
theorem dX1_add_90 : decode cX1_add 90 = .ok (.aload_n 0, 1) := by decide +kernel
theorem dX1_add_91 : decode cX1_add 91 = .ok (.getfield 30, 3) := by decide +kernel
theorem dX1_add_94 : decode cX1_add 94 = .ok (.iload_n 2, 1) := by decide +kernel
theorem dX1_add_95 : decode cX1_add 95 = .ok (.iload_n 2, 1) := by decide +kernel
theorem dX1_add_96 : decode cX1_add 96 = .ok (.invokestatic 37, 3) := by decide +kernel
theorem dX1_add_99 : decode cX1_add 99 = .ok (.aload_n 0, 1) := by decide +kernel
theorem dX1_add_100 : decode cX1_add 100 = .ok (.aload_n 0, 1) := by decide +kernel
theorem dX1_add_101 : decode cX1_add 101 = .ok (.getfield 15, 3) := by decide +kernel
theorem dX1_add_104 : decode cX1_add 104 = .ok (.iload_n 2, 1) := by decide +kernel
theorem dX1_add_105 : decode cX1_add 105 = .ok (.iaload, 1) := by decide +kernel
theorem dX1_add_106 : decode cX1_add 106 = .ok (.invokevirtual 56, 3) := by decide +kernel
theorem dX1_add_109 : decode cX1_add 109 = .ok (.ifCond .eq 17, 3) := by decide +kernel
theorem dX1_add_112 : decode cX1_add 112 = .ok (.aload_n 0, 1) := by decide +kernel
theorem dX1_add_113 : decode cX1_add 113 = .ok (.getfield 30, 3) := by decide +kernel
theorem dX1_add_116 : decode cX1_add 116 = .ok (.aload_n 0, 1) := by decide +kernel
theorem dX1_add_117 : decode cX1_add 117 = .ok (.getfield 15, 3) := by decide +kernel
theorem dX1_add_120 : decode cX1_add 120 = .ok (.iload_n 2, 1) := by decide +kernel
theorem dX1_add_121 : decode cX1_add 121 = .ok (.iaload, 1) := by decide +kernel
theorem dX1_add_122 : decode cX1_add 122 = .ok (.iaload, 1) := by decide +kernel
theorem dX1_add_123 : decode cX1_add 123 = .ok (.goto 4, 3) := by decide +kernel
theorem dX1_add_126 : decode cX1_add 126 = .ok (.iconst 0, 1) := by decide +kernel
theorem dX1_add_127 : decode cX1_add 127 = .ok (.ior, 1) := by decide +kernel
theorem dX1_add_128 : decode cX1_add 128 = .ok (.iastore, 1) := by decide +kernel
theorem dX1_add_129 : decode cX1_add 129 = .ok (.aload_n 0, 1) := by decide +kernel
theorem dX1_add_130 : decode cX1_add 130 = .ok (.dup, 1) := by decide +kernel
theorem dX1_add_131 : decode cX1_add 131 = .ok (.getfield 33, 3) := by decide +kernel
theorem dX1_add_134 : decode cX1_add 134 = .ok (.iconst 1, 1) := by decide +kernel
theorem dX1_add_135 : decode cX1_add 135 = .ok (.iadd, 1) := by decide +kernel
theorem dX1_add_136 : decode cX1_add 136 = .ok (.putfield 33, 3) := by decide +kernel
theorem dX1_add_139 : decode cX1_add 139 = .ok (.return_, 1) := by decide +kernel
theorem dX1_isA_0 : decode cX1_isA 0 = .ok (.iload_n 2, 1) := by decide +kernel
theorem dX1_isA_1 : decode cX1_isA 1 = .ok (.ifCond .eq 28, 3) := by decide +kernel
theorem dX1_isA_4 : decode cX1_isA 4 = .ok (.aload_n 0, 1) := by decide +kernel
theorem dX1_isA_5 : decode cX1_isA 5 = .ok (.getfield 9, 3) := by decide +kernel
theorem dX1_isA_8 : decode cX1_isA 8 = .ok (.iload_n 1, 1) := by decide +kernel
theorem dX1_isA_9 : decode cX1_isA 9 = .ok (.iaload, 1) := by decide +kernel
theorem dX1_isA_10 : decode cX1_isA 10 = .ok (.iload_n 2, 1) := by decide +kernel
theorem dX1_isA_11 : decode cX1_isA 11 = .ok (.if_icmp .eq 18, 3) := by decide +kernel
theorem dX1_isA_14 : decode cX1_isA 14 = .ok (.iload_n 2, 1) := by decide +kernel
theorem dX1_isA_15 : decode cX1_isA 15 = .ok (.iconst 2, 1) := by decide +kernel
theorem dX1_isA_16 : decode cX1_isA 16 = .ok (.if_icmp .ne 17, 3) := by decide +kernel
theorem dX1_isA_19 : decode cX1_isA 19 = .ok (.aload_n 0, 1) := by decide +kernel
theorem dX1_isA_20 : decode cX1_isA 20 = .ok (.getfield 9, 3) := by decide +kernel
theorem dX1_isA_23 : decode cX1_isA 23 = .ok (.iload_n 1, 1) := by decide +kernel
theorem dX1_isA_24 : decode cX1_isA 24 = .ok (.iaload, 1) := by decide +kernel
theorem dX1_isA_25 : decode cX1_isA 25 = .ok (.iconst 4, 1) := by decide +kernel
theorem dX1_isA_26 : decode cX1_isA 26 = .ok (.if_icmp .ne 7, 3) := by decide +kernel
theorem dX1_isA_29 : decode cX1_isA 29 = .ok (.iconst 1, 1) := by decide +kernel
theorem dX1_isA_30 : decode cX1_isA 30 = .ok (.goto 4, 3) := by decide +kernel
theorem dX1_isA_33 : decode cX1_isA 33 = .ok (.iconst 0, 1) := by decide +kernel
theorem dX1_isA_34 : decode cX1_isA 34 = .ok (.ireturn, 1) := by decide +kernel
theorem dX1_isOpen_0 : decode cX1_isOpen 0 = .ok (.aload_n 0, 1) := by decide +kernel
theorem dX1_isOpen_1 : decode cX1_isOpen 1 = .ok (.getfield 18, 3) := by decide +kernel
theorem dX1_isOpen_4 : decode cX1_isOpen 4 = .ok (.iload_n 1, 1) := by decide +kernel
theorem dX1_isOpen_5 : decode cX1_isOpen 5 = .ok (.iaload, 1) := by decide +kernel
theorem dX1_isOpen_6 : decode cX1_isOpen 6 = .ok (.iload_n 2, 1) := by decide +kernel
theorem dX1_isOpen_7 : decode cX1_isOpen 7 = .ok (.if_icmp .gt 17, 3) := by decide +kernel
theorem dX1_isOpen_10 : decode cX1_isOpen 10 = .ok (.iload_n 2, 1) := by decide +kernel
theorem dX1_isOpen_11 : decode cX1_isOpen 11 = .ok (.aload_n 0, 1) := by decide +kernel
theorem dX1_isOpen_12 : decode cX1_isOpen 12 = .ok (.getfield 21, 3) := by decide +kernel
theorem dX1_isOpen_15 : decode cX1_isOpen 15 = .ok (.iload_n 1, 1) := by decide +kernel
theorem dX1_isOpen_16 : decode cX1_isOpen 16 = .ok (.iaload, 1) := by decide +kernel
theorem dX1_isOpen_17 : decode cX1_isOpen 17 = .ok (.if_icmp .ge 7, 3) := by decide +kernel
theorem dX1_isOpen_20 : decode cX1_isOpen 20 = .ok (.iconst 1, 1) := by decide +kernel
theorem dX1_isOpen_21 : decode cX1_isOpen 21 = .ok (.goto 4, 3) := by decide +kernel
theorem dX1_isOpen_24 : decode cX1_isOpen 24 = .ok (.iconst 0, 1) := by decide +kernel
theorem dX1_isOpen_25 : decode cX1_isOpen 25 = .ok (.ireturn, 1) := by decide +kernel
theorem dX1_openIn_0 : decode cX1_openIn 0 = .ok (.iconst 0, 1) := by decide +kernel
theorem dX1_openIn_1 : decode cX1_openIn 1 = .ok (.istore_n 2, 1) := by decide +kernel
theorem dX1_openIn_2 : decode cX1_openIn 2 = .ok (.iconst 0, 1) := by decide +kernel
theorem dX1_openIn_3 : decode cX1_openIn 3 = .ok (.istore_n 3, 1) := by decide +kernel
theorem dX1_openIn_4 : decode cX1_openIn 4 = .ok (.iload_n 3, 1) := by decide +kernel
theorem dX1_openIn_5 : decode cX1_openIn 5 = .ok (.aload_n 0, 1) := by decide +kernel
theorem dX1_openIn_6 : decode cX1_openIn 6 = .ok (.getfield 33, 3) := by decide +kernel
theorem dX1_openIn_9 : decode cX1_openIn 9 = .ok (.if_icmp .ge 25, 3) := by decide +kernel
theorem dX1_openIn_12 : decode cX1_openIn 12 = .ok (.aload_n 0, 1) := by decide +kernel
theorem dX1_openIn_13 : decode cX1_openIn 13 = .ok (.iload_n 3, 1) := by decide +kernel
theorem dX1_openIn_14 : decode cX1_openIn 14 = .ok (.iload_n 1, 1) := by decide +kernel
theorem dX1_openIn_15 : decode cX1_openIn 15 = .ok (.invokevirtual 60, 3) := by decide +kernel
theorem dX1_openIn_18 : decode cX1_openIn 18 = .ok (.ifCond .eq 10, 3) := by decide +kernel
theorem dX1_openIn_21 : decode cX1_openIn 21 = .ok (.iload_n 2, 1) := by decide +kernel
theorem dX1_openIn_22 : decode cX1_openIn 22 = .ok (.iload_n 3, 1) := by decide +kernel
theorem dX1_openIn_23 : decode cX1_openIn 23 = .ok (.invokestatic 37, 3) := by decide +kernel
theorem dX1_openIn_26 : decode cX1_openIn 26 = .ok (.ior, 1) := by decide +kernel
theorem dX1_openIn_27 : decode cX1_openIn 27 = .ok (.istore_n 2, 1) := by decide +kernel
theorem dX1_openIn_28 : decode cX1_openIn 28 = .ok (.iinc 3 1, 3) := by decide +kernel
theorem dX1_openIn_31 : decode cX1_openIn 31 = .ok (.goto (-27), 3) := by decide +kernel
theorem dX1_openIn_34 : decode cX1_openIn 34 = .ok (.iload_n 2, 1) := by decide +kernel
theorem dX1_openIn_35 : decode cX1_openIn 35 = .ok (.ireturn, 1) := by decide +kernel
theorem dX1_takesOf_0 : decode cX1_takesOf 0 = .ok (.iconst 0, 1) := by decide +kernel
theorem dX1_takesOf_1 : decode cX1_takesOf 1 = .ok (.istore_n 2, 1) := by decide +kernel
theorem dX1_takesOf_2 : decode cX1_takesOf 2 = .ok (.iconst 0, 1) := by decide +kernel
theorem dX1_takesOf_3 : decode cX1_takesOf 3 = .ok (.istore_n 3, 1) := by decide +kernel
theorem dX1_takesOf_4 : decode cX1_takesOf 4 = .ok (.iload_n 3, 1) := by decide +kernel
theorem dX1_takesOf_5 : decode cX1_takesOf 5 = .ok (.aload_n 0, 1) := by decide +kernel
theorem dX1_takesOf_6 : decode cX1_takesOf 6 = .ok (.getfield 33, 3) := by decide +kernel
theorem dX1_takesOf_9 : decode cX1_takesOf 9 = .ok (.if_icmp .ge 26, 3) := by decide +kernel
theorem dX1_takesOf_12 : decode cX1_takesOf 12 = .ok (.iload_n 1, 1) := by decide +kernel
theorem dX1_takesOf_13 : decode cX1_takesOf 13 = .ok (.iload_n 3, 1) := by decide +kernel
theorem dX1_takesOf_14 : decode cX1_takesOf 14 = .ok (.invokestatic 64, 3) := by decide +kernel
theorem dX1_takesOf_17 : decode cX1_takesOf 17 = .ok (.ifCond .eq 12, 3) := by decide +kernel
theorem dX1_takesOf_20 : decode cX1_takesOf 20 = .ok (.iload_n 2, 1) := by decide +kernel
theorem dX1_takesOf_21 : decode cX1_takesOf 21 = .ok (.aload_n 0, 1) := by decide +kernel
theorem dX1_takesOf_22 : decode cX1_takesOf 22 = .ok (.getfield 24, 3) := by decide +kernel
theorem dX1_takesOf_25 : decode cX1_takesOf 25 = .ok (.iload_n 3, 1) := by decide +kernel
theorem dX1_takesOf_26 : decode cX1_takesOf 26 = .ok (.iaload, 1) := by decide +kernel
theorem dX1_takesOf_27 : decode cX1_takesOf 27 = .ok (.iadd, 1) := by decide +kernel
theorem dX1_takesOf_28 : decode cX1_takesOf 28 = .ok (.istore_n 2, 1) := by decide +kernel
theorem dX1_takesOf_29 : decode cX1_takesOf 29 = .ok (.iinc 3 1, 3) := by decide +kernel
theorem dX1_takesOf_32 : decode cX1_takesOf 32 = .ok (.goto (-28), 3) := by decide +kernel
theorem dX1_takesOf_35 : decode cX1_takesOf 35 = .ok (.iload_n 2, 1) := by decide +kernel
theorem dX1_takesOf_36 : decode cX1_takesOf 36 = .ok (.ireturn, 1) := by decide +kernel
theorem dX1_waysTo_0 : decode cX1_waysTo 0 = .ok (.iconst 0, 1) := by decide +kernel
theorem dX1_waysTo_1 : decode cX1_waysTo 1 = .ok (.istore_n 2, 1) := by decide +kernel
theorem dX1_waysTo_2 : decode cX1_waysTo 2 = .ok (.iconst 0, 1) := by decide +kernel
theorem dX1_waysTo_3 : decode cX1_waysTo 3 = .ok (.istore_n 3, 1) := by decide +kernel
theorem dX1_waysTo_4 : decode cX1_waysTo 4 = .ok (.iload_n 3, 1) := by decide +kernel
theorem dX1_waysTo_5 : decode cX1_waysTo 5 = .ok (.aload_n 0, 1) := by decide +kernel
theorem dX1_waysTo_6 : decode cX1_waysTo 6 = .ok (.getfield 33, 3) := by decide +kernel
theorem dX1_waysTo_9 : decode cX1_waysTo 9 = .ok (.if_icmp .ge 26, 3) := by decide +kernel
theorem dX1_waysTo_12 : decode cX1_waysTo 12 = .ok (.iload_n 1, 1) := by decide +kernel
theorem dX1_waysTo_13 : decode cX1_waysTo 13 = .ok (.iload_n 3, 1) := by decide +kernel
theorem dX1_waysTo_14 : decode cX1_waysTo 14 = .ok (.invokestatic 64, 3) := by decide +kernel
theorem dX1_waysTo_17 : decode cX1_waysTo 17 = .ok (.ifCond .eq 12, 3) := by decide +kernel
theorem dX1_waysTo_20 : decode cX1_waysTo 20 = .ok (.iload_n 2, 1) := by decide +kernel
theorem dX1_waysTo_21 : decode cX1_waysTo 21 = .ok (.aload_n 0, 1) := by decide +kernel
theorem dX1_waysTo_22 : decode cX1_waysTo 22 = .ok (.getfield 30, 3) := by decide +kernel
theorem dX1_waysTo_25 : decode cX1_waysTo 25 = .ok (.iload_n 3, 1) := by decide +kernel
theorem dX1_waysTo_26 : decode cX1_waysTo 26 = .ok (.iaload, 1) := by decide +kernel
theorem dX1_waysTo_27 : decode cX1_waysTo 27 = .ok (.ior, 1) := by decide +kernel
theorem dX1_waysTo_28 : decode cX1_waysTo 28 = .ok (.istore_n 2, 1) := by decide +kernel
theorem dX1_waysTo_29 : decode cX1_waysTo 29 = .ok (.iinc 3 1, 3) := by decide +kernel
theorem dX1_waysTo_32 : decode cX1_waysTo 32 = .ok (.goto (-28), 3) := by decide +kernel
theorem dX1_waysTo_35 : decode cX1_waysTo 35 = .ok (.iload_n 2, 1) := by decide +kernel
theorem dX1_waysTo_36 : decode cX1_waysTo 36 = .ok (.ireturn, 1) := by decide +kernel
theorem dX1_toldLossOf_0 : decode cX1_toldLossOf 0 = .ok (.iconst 0, 1) := by decide +kernel
theorem dX1_toldLossOf_1 : decode cX1_toldLossOf 1 = .ok (.istore_n 2, 1) := by decide +kernel
theorem dX1_toldLossOf_2 : decode cX1_toldLossOf 2 = .ok (.iconst 0, 1) := by decide +kernel
theorem dX1_toldLossOf_3 : decode cX1_toldLossOf 3 = .ok (.istore_n 3, 1) := by decide +kernel
theorem dX1_toldLossOf_4 : decode cX1_toldLossOf 4 = .ok (.iload_n 3, 1) := by decide +kernel
theorem dX1_toldLossOf_5 : decode cX1_toldLossOf 5 = .ok (.aload_n 0, 1) := by decide +kernel
theorem dX1_toldLossOf_6 : decode cX1_toldLossOf 6 = .ok (.getfield 33, 3) := by decide +kernel
theorem dX1_toldLossOf_9 : decode cX1_toldLossOf 9 = .ok (.if_icmp .ge 26, 3) := by decide +kernel
theorem dX1_toldLossOf_12 : decode cX1_toldLossOf 12 = .ok (.iload_n 1, 1) := by decide +kernel
theorem dX1_toldLossOf_13 : decode cX1_toldLossOf 13 = .ok (.iload_n 3, 1) := by decide +kernel
theorem dX1_toldLossOf_14 : decode cX1_toldLossOf 14 = .ok (.invokestatic 64, 3) := by decide +kernel
theorem dX1_toldLossOf_17 : decode cX1_toldLossOf 17 = .ok (.ifCond .eq 12, 3) := by decide +kernel
theorem dX1_toldLossOf_20 : decode cX1_toldLossOf 20 = .ok (.iload_n 2, 1) := by decide +kernel
theorem dX1_toldLossOf_21 : decode cX1_toldLossOf 21 = .ok (.aload_n 0, 1) := by decide +kernel
theorem dX1_toldLossOf_22 : decode cX1_toldLossOf 22 = .ok (.getfield 27, 3) := by decide +kernel
theorem dX1_toldLossOf_25 : decode cX1_toldLossOf 25 = .ok (.iload_n 3, 1) := by decide +kernel
theorem dX1_toldLossOf_26 : decode cX1_toldLossOf 26 = .ok (.iaload, 1) := by decide +kernel
theorem dX1_toldLossOf_27 : decode cX1_toldLossOf 27 = .ok (.iadd, 1) := by decide +kernel
theorem dX1_toldLossOf_28 : decode cX1_toldLossOf 28 = .ok (.istore_n 2, 1) := by decide +kernel
theorem dX1_toldLossOf_29 : decode cX1_toldLossOf 29 = .ok (.iinc 3 1, 3) := by decide +kernel
theorem dX1_toldLossOf_32 : decode cX1_toldLossOf 32 = .ok (.goto (-28), 3) := by decide +kernel
theorem dX1_toldLossOf_35 : decode cX1_toldLossOf 35 = .ok (.iload_n 2, 1) := by decide +kernel
theorem dX1_toldLossOf_36 : decode cX1_toldLossOf 36 = .ok (.ireturn, 1) := by decide +kernel
theorem dX1_lossOf_0 : decode cX1_lossOf 0 = .ok (.iconst 0, 1) := by decide +kernel
theorem dX1_lossOf_1 : decode cX1_lossOf 1 = .ok (.istore_n 3, 1) := by decide +kernel
theorem dX1_lossOf_2 : decode cX1_lossOf 2 = .ok (.iconst 0, 1) := by decide +kernel
theorem dX1_lossOf_3 : decode cX1_lossOf 3 = .ok (.istore 4, 2) := by decide +kernel
theorem dX1_lossOf_5 : decode cX1_lossOf 5 = .ok (.iload 4, 2) := by decide +kernel
theorem dX1_lossOf_7 : decode cX1_lossOf 7 = .ok (.aload_n 0, 1) := by decide +kernel
theorem dX1_lossOf_8 : decode cX1_lossOf 8 = .ok (.getfield 33, 3) := by decide +kernel
theorem dX1_lossOf_11 : decode cX1_lossOf 11 = .ok (.if_icmp .ge 55, 3) := by decide +kernel
theorem dX1_lossOf_14 : decode cX1_lossOf 14 = .ok (.iload_n 1, 1) := by decide +kernel
theorem dX1_lossOf_15 : decode cX1_lossOf 15 = .ok (.iload 4, 2) := by decide +kernel
theorem dX1_lossOf_17 : decode cX1_lossOf 17 = .ok (.invokestatic 64, 3) := by decide +kernel
theorem dX1_lossOf_20 : decode cX1_lossOf 20 = .ok (.ifCond .eq 40, 3) := by decide +kernel
theorem dX1_lossOf_23 : decode cX1_lossOf 23 = .ok (.aload_n 0, 1) := by decide +kernel
theorem dX1_lossOf_24 : decode cX1_lossOf 24 = .ok (.getfield 9, 3) := by decide +kernel
theorem dX1_lossOf_27 : decode cX1_lossOf 27 = .ok (.iload 4, 2) := by decide +kernel
theorem dX1_lossOf_29 : decode cX1_lossOf 29 = .ok (.iaload, 1) := by decide +kernel
theorem dX1_lossOf_30 : decode cX1_lossOf 30 = .ok (.iconst 4, 1) := by decide +kernel
theorem dX1_lossOf_31 : decode cX1_lossOf 31 = .ok (.if_icmp .eq 29, 3) := by decide +kernel
theorem dX1_lossOf_34 : decode cX1_lossOf 34 = .ok (.iload_n 3, 1) := by decide +kernel
theorem dX1_lossOf_35 : decode cX1_lossOf 35 = .ok (.iload_n 2, 1) := by decide +kernel
theorem dX1_lossOf_36 : decode cX1_lossOf 36 = .ok (.ifCond .eq 15, 3) := by decide +kernel
theorem dX1_lossOf_39 : decode cX1_lossOf 39 = .ok (.aload_n 0, 1) := by decide +kernel
theorem dX1_lossOf_40 : decode cX1_lossOf 40 = .ok (.getfield 27, 3) := by decide +kernel
theorem dX1_lossOf_43 : decode cX1_lossOf 43 = .ok (.iload 4, 2) := by decide +kernel
theorem dX1_lossOf_45 : decode cX1_lossOf 45 = .ok (.iaload, 1) := by decide +kernel
theorem dX1_lossOf_46 : decode cX1_lossOf 46 = .ok (.iconst 1, 1) := by decide +kernel
theorem dX1_lossOf_47 : decode cX1_lossOf 47 = .ok (.iadd, 1) := by decide +kernel
theorem dX1_lossOf_48 : decode cX1_lossOf 48 = .ok (.goto 10, 3) := by decide +kernel
theorem dX1_lossOf_51 : decode cX1_lossOf 51 = .ok (.aload_n 0, 1) := by decide +kernel
theorem dX1_lossOf_52 : decode cX1_lossOf 52 = .ok (.getfield 27, 3) := by decide +kernel
theorem dX1_lossOf_55 : decode cX1_lossOf 55 = .ok (.iload 4, 2) := by decide +kernel
theorem dX1_lossOf_57 : decode cX1_lossOf 57 = .ok (.iaload, 1) := by decide +kernel
theorem dX1_lossOf_58 : decode cX1_lossOf 58 = .ok (.iadd, 1) := by decide +kernel
theorem dX1_lossOf_59 : decode cX1_lossOf 59 = .ok (.istore_n 3, 1) := by decide +kernel
theorem dX1_lossOf_60 : decode cX1_lossOf 60 = .ok (.iinc 4 1, 3) := by decide +kernel
theorem dX1_lossOf_63 : decode cX1_lossOf 63 = .ok (.goto (-58), 3) := by decide +kernel
theorem dX1_lossOf_66 : decode cX1_lossOf 66 = .ok (.iload_n 3, 1) := by decide +kernel
theorem dX1_lossOf_67 : decode cX1_lossOf 67 = .ok (.ireturn, 1) := by decide +kernel
theorem dX2_init_0 : decode cX2_init 0 = .ok (.aload_n 0, 1) := by decide +kernel
theorem dX2_init_1 : decode cX2_init 1 = .ok (.invokespecial 3, 3) := by decide +kernel
theorem dX2_init_4 : decode cX2_init 4 = .ok (.aload_n 0, 1) := by decide +kernel
theorem dX2_init_5 : decode cX2_init 5 = .ok (.bipush 12, 2) := by decide +kernel
theorem dX2_init_7 : decode cX2_init 7 = .ok (.newarray .int, 2) := by decide +kernel
theorem dX2_init_9 : decode cX2_init 9 = .ok (.putfield 9, 3) := by decide +kernel
theorem dX2_init_12 : decode cX2_init 12 = .ok (.return_, 1) := by decide +kernel
theorem dX2_codeIn_0 : decode cX2_codeIn 0 = .ok (.lload_n 0, 1) := by decide +kernel
theorem dX2_codeIn_1 : decode cX2_codeIn 1 = .ok (.bipush 8, 2) := by decide +kernel
theorem dX2_codeIn_3 : decode cX2_codeIn 3 = .ok (.iload_n 2, 1) := by decide +kernel
theorem dX2_codeIn_4 : decode cX2_codeIn 4 = .ok (.imul, 1) := by decide +kernel
theorem dX2_codeIn_5 : decode cX2_codeIn 5 = .ok (.lushr, 1) := by decide +kernel
theorem dX2_codeIn_6 : decode cX2_codeIn 6 = .ok (.l2i, 1) := by decide +kernel
theorem dX2_codeIn_7 : decode cX2_codeIn 7 = .ok (.sipush 255, 3) := by decide +kernel
theorem dX2_codeIn_10 : decode cX2_codeIn 10 = .ok (.iand, 1) := by decide +kernel
theorem dX2_codeIn_11 : decode cX2_codeIn 11 = .ok (.ireturn, 1) := by decide +kernel
theorem dX2_lettersIn_0 : decode cX2_lettersIn 0 = .ok (.iconst 0, 1) := by decide +kernel
theorem dX2_lettersIn_1 : decode cX2_lettersIn 1 = .ok (.istore_n 2, 1) := by decide +kernel
theorem dX2_lettersIn_2 : decode cX2_lettersIn 2 = .ok (.iconst 0, 1) := by decide +kernel
theorem dX2_lettersIn_3 : decode cX2_lettersIn 3 = .ok (.istore_n 3, 1) := by decide +kernel
theorem dX2_lettersIn_4 : decode cX2_lettersIn 4 = .ok (.iconst 0, 1) := by decide +kernel
theorem dX2_lettersIn_5 : decode cX2_lettersIn 5 = .ok (.istore 4, 2) := by decide +kernel
theorem dX2_lettersIn_7 : decode cX2_lettersIn 7 = .ok (.iload 4, 2) := by decide +kernel
theorem dX2_lettersIn_9 : decode cX2_lettersIn 9 = .ok (.bipush 8, 2) := by decide +kernel
theorem dX2_lettersIn_11 : decode cX2_lettersIn 11 = .ok (.if_icmp .ge 48, 3) := by decide +kernel
theorem dX2_lettersIn_14 : decode cX2_lettersIn 14 = .ok (.lload_n 0, 1) := by decide +kernel
theorem dX2_lettersIn_15 : decode cX2_lettersIn 15 = .ok (.iload 4, 2) := by decide +kernel
theorem dX2_lettersIn_17 : decode cX2_lettersIn 17 = .ok (.invokestatic 15, 3) := by decide +kernel
theorem dX2_lettersIn_20 : decode cX2_lettersIn 20 = .ok (.istore 5, 2) := by decide +kernel
theorem dX2_lettersIn_22 : decode cX2_lettersIn 22 = .ok (.iload 5, 2) := by decide +kernel
theorem dX2_lettersIn_24 : decode cX2_lettersIn 24 = .ok (.bipush 126, 2) := by decide +kernel
theorem dX2_lettersIn_26 : decode cX2_lettersIn 26 = .ok (.if_icmp .gt 12, 3) := by decide +kernel
theorem dX2_lettersIn_29 : decode cX2_lettersIn 29 = .ok (.iload_n 3, 1) := by decide +kernel
theorem dX2_lettersIn_30 : decode cX2_lettersIn 30 = .ok (.ifCond .eq 10, 3) := by decide +kernel
theorem dX2_lettersIn_33 : decode cX2_lettersIn 33 = .ok (.iload 5, 2) := by decide +kernel
theorem dX2_lettersIn_35 : decode cX2_lettersIn 35 = .ok (.ifCond .eq 5, 3) := by decide +kernel
theorem dX2_lettersIn_38 : decode cX2_lettersIn 38 = .ok (.iconst (-1), 1) := by decide +kernel
theorem dX2_lettersIn_39 : decode cX2_lettersIn 39 = .ok (.ireturn, 1) := by decide +kernel
theorem dX2_lettersIn_40 : decode cX2_lettersIn 40 = .ok (.iload 5, 2) := by decide +kernel
theorem dX2_lettersIn_42 : decode cX2_lettersIn 42 = .ok (.ifCond .ne 8, 3) := by decide +kernel
theorem dX2_lettersIn_45 : decode cX2_lettersIn 45 = .ok (.iconst 1, 1) := by decide +kernel
theorem dX2_lettersIn_46 : decode cX2_lettersIn 46 = .ok (.istore_n 3, 1) := by decide +kernel
theorem dX2_lettersIn_47 : decode cX2_lettersIn 47 = .ok (.goto 6, 3) := by decide +kernel
theorem dX2_lettersIn_50 : decode cX2_lettersIn 50 = .ok (.iinc 2 1, 3) := by decide +kernel
theorem dX2_lettersIn_53 : decode cX2_lettersIn 53 = .ok (.iinc 4 1, 3) := by decide +kernel
theorem dX2_lettersIn_56 : decode cX2_lettersIn 56 = .ok (.goto (-49), 3) := by decide +kernel
theorem dX2_lettersIn_59 : decode cX2_lettersIn 59 = .ok (.iload_n 2, 1) := by decide +kernel
theorem dX2_lettersIn_60 : decode cX2_lettersIn 60 = .ok (.ireturn, 1) := by decide +kernel
theorem dX2_append_0 : decode cX2_append 0 = .ok (.iconst 0, 1) := by decide +kernel
theorem dX2_append_1 : decode cX2_append 1 = .ok (.istore 4, 2) := by decide +kernel
theorem dX2_append_3 : decode cX2_append 3 = .ok (.iload 4, 2) := by decide +kernel
theorem dX2_append_5 : decode cX2_append 5 = .ok (.iload_n 3, 1) := by decide +kernel
theorem dX2_append_6 : decode cX2_append 6 = .ok (.if_icmp .ge 43, 3) := by decide +kernel
end
section
theorem dX2_append_9 : decode cX2_append 9 = .ok (.aload_n 0, 1) := by decide +kernel
theorem dX2_append_10 : decode cX2_append 10 = .ok (.getfield 19, 3) := by decide +kernel
theorem dX2_append_13 : decode cX2_append 13 = .ok (.bipush 12, 2) := by decide +kernel
theorem dX2_append_15 : decode cX2_append 15 = .ok (.if_icmp .ge 34, 3) := by decide +kernel
theorem dX2_append_18 : decode cX2_append 18 = .ok (.aload_n 0, 1) := by decide +kernel
theorem dX2_append_19 : decode cX2_append 19 = .ok (.getfield 9, 3) := by decide +kernel
theorem dX2_append_22 : decode cX2_append 22 = .ok (.aload_n 0, 1) := by decide +kernel
theorem dX2_append_23 : decode cX2_append 23 = .ok (.getfield 19, 3) := by decide +kernel
theorem dX2_append_26 : decode cX2_append 26 = .ok (.lload_n 1, 1) := by decide +kernel
theorem dX2_append_27 : decode cX2_append 27 = .ok (.iload 4, 2) := by decide +kernel
theorem dX2_append_29 : decode cX2_append 29 = .ok (.invokestatic 15, 3) := by decide +kernel
theorem dX2_append_32 : decode cX2_append 32 = .ok (.iastore, 1) := by decide +kernel
theorem dX2_append_33 : decode cX2_append 33 = .ok (.aload_n 0, 1) := by decide +kernel
theorem dX2_append_34 : decode cX2_append 34 = .ok (.dup, 1) := by decide +kernel
theorem dX2_append_35 : decode cX2_append 35 = .ok (.getfield 19, 3) := by decide +kernel
theorem dX2_append_38 : decode cX2_append 38 = .ok (.iconst 1, 1) := by decide +kernel
theorem dX2_append_39 : decode cX2_append 39 = .ok (.iadd, 1) := by decide +kernel
theorem dX2_append_40 : decode cX2_append 40 = .ok (.putfield 19, 3) := by decide +kernel
theorem dX2_append_43 : decode cX2_append 43 = .ok (.iinc 4 1, 3) := by decide +kernel
theorem dX2_append_46 : decode cX2_append 46 = .ok (.goto (-43), 3) := by decide +kernel
theorem dX2_append_49 : decode cX2_append 49 = .ok (.return_, 1) := by decide +kernel
theorem dX2_faultAt_0 : decode cX2_faultAt 0 = .ok (.iconst 0, 1) := by decide +kernel
theorem dX2_faultAt_1 : decode cX2_faultAt 1 = .ok (.istore_n 2, 1) := by decide +kernel
theorem dX2_faultAt_2 : decode cX2_faultAt 2 = .ok (.iload_n 2, 1) := by decide +kernel
theorem dX2_faultAt_3 : decode cX2_faultAt 3 = .ok (.aload_n 0, 1) := by decide +kernel
theorem dX2_faultAt_4 : decode cX2_faultAt 4 = .ok (.getfield 19, 3) := by decide +kernel
theorem dX2_faultAt_7 : decode cX2_faultAt 7 = .ok (.if_icmp .ge 20, 3) := by decide +kernel
theorem dX2_faultAt_10 : decode cX2_faultAt 10 = .ok (.aload_n 0, 1) := by decide +kernel
theorem dX2_faultAt_11 : decode cX2_faultAt 11 = .ok (.iload_n 2, 1) := by decide +kernel
theorem dX2_faultAt_12 : decode cX2_faultAt 12 = .ok (.iload_n 1, 1) := by decide +kernel
theorem dX2_faultAt_13 : decode cX2_faultAt 13 = .ok (.invokevirtual 23, 3) := by decide +kernel
theorem dX2_faultAt_16 : decode cX2_faultAt 16 = .ok (.ifCond .ne 5, 3) := by decide +kernel
theorem dX2_faultAt_19 : decode cX2_faultAt 19 = .ok (.iload_n 2, 1) := by decide +kernel
theorem dX2_faultAt_20 : decode cX2_faultAt 20 = .ok (.ireturn, 1) := by decide +kernel
theorem dX2_faultAt_21 : decode cX2_faultAt 21 = .ok (.iinc 2 1, 3) := by decide +kernel
theorem dX2_faultAt_24 : decode cX2_faultAt 24 = .ok (.goto (-22), 3) := by decide +kernel
theorem dX2_faultAt_27 : decode cX2_faultAt 27 = .ok (.aload_n 0, 1) := by decide +kernel
theorem dX2_faultAt_28 : decode cX2_faultAt 28 = .ok (.getfield 19, 3) := by decide +kernel
theorem dX2_faultAt_31 : decode cX2_faultAt 31 = .ok (.ireturn, 1) := by decide +kernel
theorem dX2_isHouse_0 : decode cX2_isHouse 0 = .ok (.aload_n 0, 1) := by decide +kernel
theorem dX2_isHouse_1 : decode cX2_isHouse 1 = .ok (.getfield 19, 3) := by decide +kernel
theorem dX2_isHouse_4 : decode cX2_isHouse 4 = .ok (.bipush 6, 2) := by decide +kernel
theorem dX2_isHouse_6 : decode cX2_isHouse 6 = .ok (.if_icmp .ne 19, 3) := by decide +kernel
theorem dX2_isHouse_9 : decode cX2_isHouse 9 = .ok (.aload_n 0, 1) := by decide +kernel
theorem dX2_isHouse_10 : decode cX2_isHouse 10 = .ok (.iload_n 1, 1) := by decide +kernel
theorem dX2_isHouse_11 : decode cX2_isHouse 11 = .ok (.invokevirtual 27, 3) := by decide +kernel
theorem dX2_isHouse_14 : decode cX2_isHouse 14 = .ok (.aload_n 0, 1) := by decide +kernel
theorem dX2_isHouse_15 : decode cX2_isHouse 15 = .ok (.getfield 19, 3) := by decide +kernel
theorem dX2_isHouse_18 : decode cX2_isHouse 18 = .ok (.if_icmp .ne 7, 3) := by decide +kernel
theorem dX2_isHouse_21 : decode cX2_isHouse 21 = .ok (.iconst 1, 1) := by decide +kernel
theorem dX2_isHouse_22 : decode cX2_isHouse 22 = .ok (.goto 4, 3) := by decide +kernel
theorem dX2_isHouse_25 : decode cX2_isHouse 25 = .ok (.iconst 0, 1) := by decide +kernel
theorem dX2_isHouse_26 : decode cX2_isHouse 26 = .ok (.ireturn, 1) := by decide +kernel
theorem dX2_fits_0 : decode cX2_fits 0 = .ok (.aload_n 0, 1) := by decide +kernel
theorem dX2_fits_1 : decode cX2_fits 1 = .ok (.getfield 9, 3) := by decide +kernel
theorem dX2_fits_4 : decode cX2_fits 4 = .ok (.iload_n 1, 1) := by decide +kernel
theorem dX2_fits_5 : decode cX2_fits 5 = .ok (.iaload, 1) := by decide +kernel
theorem dX2_fits_6 : decode cX2_fits 6 = .ok (.istore_n 3, 1) := by decide +kernel
theorem dX2_fits_7 : decode cX2_fits 7 = .ok (.iload_n 1, 1) := by decide +kernel
theorem dX2_fits_8 : decode cX2_fits 8 = .ok (.tableswitch 114 0 5 #[40, 53, 76, 84, 98, 106], 40) := by decide +kernel
theorem dX2_fits_48 : decode cX2_fits 48 = .ok (.iload_n 3, 1) := by decide +kernel
theorem dX2_fits_49 : decode cX2_fits 49 = .ok (.invokestatic 31, 3) := by decide +kernel
theorem dX2_fits_52 : decode cX2_fits 52 = .ok (.ifCond .lt 7, 3) := by decide +kernel
theorem dX2_fits_55 : decode cX2_fits 55 = .ok (.iconst 1, 1) := by decide +kernel
theorem dX2_fits_56 : decode cX2_fits 56 = .ok (.goto 4, 3) := by decide +kernel
theorem dX2_fits_59 : decode cX2_fits 59 = .ok (.iconst 0, 1) := by decide +kernel
theorem dX2_fits_60 : decode cX2_fits 60 = .ok (.ireturn, 1) := by decide +kernel
theorem dX2_fits_61 : decode cX2_fits 61 = .ok (.iload_n 3, 1) := by decide +kernel
theorem dX2_fits_62 : decode cX2_fits 62 = .ok (.bipush 45, 2) := by decide +kernel
theorem dX2_fits_64 : decode cX2_fits 64 = .ok (.if_icmp .eq 14, 3) := by decide +kernel
theorem dX2_fits_67 : decode cX2_fits 67 = .ok (.iload_n 3, 1) := by decide +kernel
theorem dX2_fits_68 : decode cX2_fits 68 = .ok (.iconst 0, 1) := by decide +kernel
theorem dX2_fits_69 : decode cX2_fits 69 = .ok (.iload_n 2, 1) := by decide +kernel
theorem dX2_fits_70 : decode cX2_fits 70 = .ok (.iconst 1, 1) := by decide +kernel
theorem dX2_fits_71 : decode cX2_fits 71 = .ok (.isub, 1) := by decide +kernel
theorem dX2_fits_72 : decode cX2_fits 72 = .ok (.invokestatic 34, 3) := by decide +kernel
theorem dX2_fits_75 : decode cX2_fits 75 = .ok (.ifCond .eq 7, 3) := by decide +kernel
theorem dX2_fits_78 : decode cX2_fits 78 = .ok (.iconst 1, 1) := by decide +kernel
theorem dX2_fits_79 : decode cX2_fits 79 = .ok (.goto 4, 3) := by decide +kernel
theorem dX2_fits_82 : decode cX2_fits 82 = .ok (.iconst 0, 1) := by decide +kernel
theorem dX2_fits_83 : decode cX2_fits 83 = .ok (.ireturn, 1) := by decide +kernel
theorem dX2_fits_84 : decode cX2_fits 84 = .ok (.iload_n 3, 1) := by decide +kernel
theorem dX2_fits_85 : decode cX2_fits 85 = .ok (.iconst 0, 1) := by decide +kernel
theorem dX2_fits_86 : decode cX2_fits 86 = .ok (.bipush 8, 2) := by decide +kernel
theorem dX2_fits_88 : decode cX2_fits 88 = .ok (.invokestatic 34, 3) := by decide +kernel
theorem dX2_fits_91 : decode cX2_fits 91 = .ok (.ireturn, 1) := by decide +kernel
theorem dX2_fits_92 : decode cX2_fits 92 = .ok (.iload_n 3, 1) := by decide +kernel
theorem dX2_fits_93 : decode cX2_fits 93 = .ok (.aload_n 0, 1) := by decide +kernel
theorem dX2_fits_94 : decode cX2_fits 94 = .ok (.iconst 2, 1) := by decide +kernel
theorem dX2_fits_95 : decode cX2_fits 95 = .ok (.invokevirtual 38, 3) := by decide +kernel
theorem dX2_fits_98 : decode cX2_fits 98 = .ok (.iconst 1, 1) := by decide +kernel
theorem dX2_fits_99 : decode cX2_fits 99 = .ok (.iadd, 1) := by decide +kernel
theorem dX2_fits_100 : decode cX2_fits 100 = .ok (.bipush 9, 2) := by decide +kernel
theorem dX2_fits_102 : decode cX2_fits 102 = .ok (.invokestatic 34, 3) := by decide +kernel
theorem dX2_fits_105 : decode cX2_fits 105 = .ok (.ireturn, 1) := by decide +kernel
theorem dX2_fits_106 : decode cX2_fits 106 = .ok (.iload_n 3, 1) := by decide +kernel
theorem dX2_fits_107 : decode cX2_fits 107 = .ok (.iconst 1, 1) := by decide +kernel
theorem dX2_fits_108 : decode cX2_fits 108 = .ok (.bipush 9, 2) := by decide +kernel
theorem dX2_fits_110 : decode cX2_fits 110 = .ok (.invokestatic 34, 3) := by decide +kernel
theorem dX2_fits_113 : decode cX2_fits 113 = .ok (.ireturn, 1) := by decide +kernel
theorem dX2_fits_114 : decode cX2_fits 114 = .ok (.iload_n 3, 1) := by decide +kernel
theorem dX2_fits_115 : decode cX2_fits 115 = .ok (.iconst 0, 1) := by decide +kernel
theorem dX2_fits_116 : decode cX2_fits 116 = .ok (.bipush 9, 2) := by decide +kernel
theorem dX2_fits_118 : decode cX2_fits 118 = .ok (.invokestatic 34, 3) := by decide +kernel
theorem dX2_fits_121 : decode cX2_fits 121 = .ok (.ireturn, 1) := by decide +kernel
theorem dX2_fits_122 : decode cX2_fits 122 = .ok (.iconst 0, 1) := by decide +kernel
theorem dX2_fits_123 : decode cX2_fits 123 = .ok (.ireturn, 1) := by decide +kernel
theorem dX2_kindOf_0 : decode cX2_kindOf 0 = .ok (.ldc 41, 2) := by decide +kernel
theorem dX2_kindOf_2 : decode cX2_kindOf 2 = .ok (.iload_n 0, 1) := by decide +kernel
theorem dX2_kindOf_3 : decode cX2_kindOf 3 = .ok (.i2c, 1) := by decide +kernel
theorem dX2_kindOf_4 : decode cX2_kindOf 4 = .ok (.invokevirtual 43, 3) := by decide +kernel
theorem dX2_kindOf_7 : decode cX2_kindOf 7 = .ok (.ireturn, 1) := by decide +kernel
theorem dX2_isDigit_0 : decode cX2_isDigit 0 = .ok (.iload_n 0, 1) := by decide +kernel
theorem dX2_isDigit_1 : decode cX2_isDigit 1 = .ok (.bipush 48, 2) := by decide +kernel
theorem dX2_isDigit_3 : decode cX2_isDigit 3 = .ok (.iload_n 1, 1) := by decide +kernel
theorem dX2_isDigit_4 : decode cX2_isDigit 4 = .ok (.iadd, 1) := by decide +kernel
theorem dX2_isDigit_5 : decode cX2_isDigit 5 = .ok (.if_icmp .lt 15, 3) := by decide +kernel
theorem dX2_isDigit_8 : decode cX2_isDigit 8 = .ok (.iload_n 0, 1) := by decide +kernel
theorem dX2_isDigit_9 : decode cX2_isDigit 9 = .ok (.bipush 48, 2) := by decide +kernel
theorem dX2_isDigit_11 : decode cX2_isDigit 11 = .ok (.iload_n 2, 1) := by decide +kernel
theorem dX2_isDigit_12 : decode cX2_isDigit 12 = .ok (.iadd, 1) := by decide +kernel
theorem dX2_isDigit_13 : decode cX2_isDigit 13 = .ok (.if_icmp .gt 7, 3) := by decide +kernel
theorem dX2_isDigit_16 : decode cX2_isDigit 16 = .ok (.iconst 1, 1) := by decide +kernel
theorem dX2_isDigit_17 : decode cX2_isDigit 17 = .ok (.goto 4, 3) := by decide +kernel
theorem dX2_isDigit_20 : decode cX2_isDigit 20 = .ok (.iconst 0, 1) := by decide +kernel
theorem dX2_isDigit_21 : decode cX2_isDigit 21 = .ok (.ireturn, 1) := by decide +kernel
theorem dX2_digitAt_0 : decode cX2_digitAt 0 = .ok (.aload_n 0, 1) := by decide +kernel
theorem dX2_digitAt_1 : decode cX2_digitAt 1 = .ok (.getfield 9, 3) := by decide +kernel
theorem dX2_digitAt_4 : decode cX2_digitAt 4 = .ok (.iload_n 1, 1) := by decide +kernel
theorem dX2_digitAt_5 : decode cX2_digitAt 5 = .ok (.iaload, 1) := by decide +kernel
theorem dX2_digitAt_6 : decode cX2_digitAt 6 = .ok (.bipush 48, 2) := by decide +kernel
theorem dX2_digitAt_8 : decode cX2_digitAt 8 = .ok (.isub, 1) := by decide +kernel
theorem dX2_digitAt_9 : decode cX2_digitAt 9 = .ok (.ireturn, 1) := by decide +kernel
theorem dX3_init_0 : decode cX3_init 0 = .ok (.aload_n 0, 1) := by decide +kernel
theorem dX3_init_1 : decode cX3_init 1 = .ok (.invokespecial 3, 3) := by decide +kernel
theorem dX3_init_4 : decode cX3_init 4 = .ok (.aload_n 0, 1) := by decide +kernel
theorem dX3_init_5 : decode cX3_init 5 = .ok (.bipush 8, 2) := by decide +kernel
theorem dX3_init_7 : decode cX3_init 7 = .ok (.newarray .int, 2) := by decide +kernel
theorem dX3_init_9 : decode cX3_init 9 = .ok (.putfield 9, 3) := by decide +kernel
theorem dX3_init_12 : decode cX3_init 12 = .ok (.aload_n 0, 1) := by decide +kernel
theorem dX3_init_13 : decode cX3_init 13 = .ok (.bipush 8, 2) := by decide +kernel
theorem dX3_init_15 : decode cX3_init 15 = .ok (.newarray .int, 2) := by decide +kernel
theorem dX3_init_17 : decode cX3_init 17 = .ok (.putfield 15, 3) := by decide +kernel
theorem dX3_init_20 : decode cX3_init 20 = .ok (.return_, 1) := by decide +kernel
theorem dX3_add_0 : decode cX3_add 0 = .ok (.aload_n 0, 1) := by decide +kernel
theorem dX3_add_1 : decode cX3_add 1 = .ok (.getfield 18, 3) := by decide +kernel
theorem dX3_add_4 : decode cX3_add 4 = .ok (.bipush 8, 2) := by decide +kernel
theorem dX3_add_6 : decode cX3_add 6 = .ok (.if_icmp .ge 33, 3) := by decide +kernel
theorem dX3_add_9 : decode cX3_add 9 = .ok (.aload_n 0, 1) := by decide +kernel
theorem dX3_add_10 : decode cX3_add 10 = .ok (.getfield 9, 3) := by decide +kernel
theorem dX3_add_13 : decode cX3_add 13 = .ok (.aload_n 0, 1) := by decide +kernel
theorem dX3_add_14 : decode cX3_add 14 = .ok (.getfield 18, 3) := by decide +kernel
theorem dX3_add_17 : decode cX3_add 17 = .ok (.iload_n 1, 1) := by decide +kernel
theorem dX3_add_18 : decode cX3_add 18 = .ok (.iastore, 1) := by decide +kernel
theorem dX3_add_19 : decode cX3_add 19 = .ok (.aload_n 0, 1) := by decide +kernel
theorem dX3_add_20 : decode cX3_add 20 = .ok (.getfield 15, 3) := by decide +kernel
theorem dX3_add_23 : decode cX3_add 23 = .ok (.aload_n 0, 1) := by decide +kernel
theorem dX3_add_24 : decode cX3_add 24 = .ok (.getfield 18, 3) := by decide +kernel
theorem dX3_add_27 : decode cX3_add 27 = .ok (.iload_n 2, 1) := by decide +kernel
theorem dX3_add_28 : decode cX3_add 28 = .ok (.iastore, 1) := by decide +kernel
theorem dX3_add_29 : decode cX3_add 29 = .ok (.aload_n 0, 1) := by decide +kernel
theorem dX3_add_30 : decode cX3_add 30 = .ok (.dup, 1) := by decide +kernel
theorem dX3_add_31 : decode cX3_add 31 = .ok (.getfield 18, 3) := by decide +kernel
theorem dX3_add_34 : decode cX3_add 34 = .ok (.iconst 1, 1) := by decide +kernel
theorem dX3_add_35 : decode cX3_add 35 = .ok (.iadd, 1) := by decide +kernel
theorem dX3_add_36 : decode cX3_add 36 = .ok (.putfield 18, 3) := by decide +kernel
theorem dX3_add_39 : decode cX3_add 39 = .ok (.return_, 1) := by decide +kernel
theorem dX3_copyFrom_0 : decode cX3_copyFrom 0 = .ok (.aload_n 0, 1) := by decide +kernel
theorem dX3_copyFrom_1 : decode cX3_copyFrom 1 = .ok (.aload_n 1, 1) := by decide +kernel
theorem dX3_copyFrom_2 : decode cX3_copyFrom 2 = .ok (.getfield 18, 3) := by decide +kernel
theorem dX3_copyFrom_5 : decode cX3_copyFrom 5 = .ok (.putfield 18, 3) := by decide +kernel
theorem dX3_copyFrom_8 : decode cX3_copyFrom 8 = .ok (.aload_n 1, 1) := by decide +kernel
theorem dX3_copyFrom_9 : decode cX3_copyFrom 9 = .ok (.getfield 9, 3) := by decide +kernel
theorem dX3_copyFrom_12 : decode cX3_copyFrom 12 = .ok (.iconst 0, 1) := by decide +kernel
theorem dX3_copyFrom_13 : decode cX3_copyFrom 13 = .ok (.aload_n 0, 1) := by decide +kernel
theorem dX3_copyFrom_14 : decode cX3_copyFrom 14 = .ok (.getfield 9, 3) := by decide +kernel
theorem dX3_copyFrom_17 : decode cX3_copyFrom 17 = .ok (.iconst 0, 1) := by decide +kernel
theorem dX3_copyFrom_18 : decode cX3_copyFrom 18 = .ok (.bipush 8, 2) := by decide +kernel
theorem dX3_copyFrom_20 : decode cX3_copyFrom 20 = .ok (.invokestatic 22, 3) := by decide +kernel
theorem dX3_copyFrom_23 : decode cX3_copyFrom 23 = .ok (.aload_n 1, 1) := by decide +kernel
theorem dX3_copyFrom_24 : decode cX3_copyFrom 24 = .ok (.getfield 15, 3) := by decide +kernel
theorem dX3_copyFrom_27 : decode cX3_copyFrom 27 = .ok (.iconst 0, 1) := by decide +kernel
theorem dX3_copyFrom_28 : decode cX3_copyFrom 28 = .ok (.aload_n 0, 1) := by decide +kernel
theorem dX3_copyFrom_29 : decode cX3_copyFrom 29 = .ok (.getfield 15, 3) := by decide +kernel
theorem dX3_copyFrom_32 : decode cX3_copyFrom 32 = .ok (.iconst 0, 1) := by decide +kernel
theorem dX3_copyFrom_33 : decode cX3_copyFrom 33 = .ok (.bipush 8, 2) := by decide +kernel
theorem dX3_copyFrom_35 : decode cX3_copyFrom 35 = .ok (.invokestatic 22, 3) := by decide +kernel
theorem dX3_copyFrom_38 : decode cX3_copyFrom 38 = .ok (.return_, 1) := by decide +kernel
theorem dX3_leastLeakOf_0 : decode cX3_leastLeakOf 0 = .ok (.iconst 1, 1) := by decide +kernel
theorem dX3_leastLeakOf_1 : decode cX3_leastLeakOf 1 = .ok (.istore_n 2, 1) := by decide +kernel
theorem dX3_leastLeakOf_2 : decode cX3_leastLeakOf 2 = .ok (.iload_n 2, 1) := by decide +kernel
theorem dX3_leastLeakOf_3 : decode cX3_leastLeakOf 3 = .ok (.bipush 9, 2) := by decide +kernel
theorem dX3_leastLeakOf_5 : decode cX3_leastLeakOf 5 = .ok (.if_icmp .gt 20, 3) := by decide +kernel
theorem dX3_leastLeakOf_8 : decode cX3_leastLeakOf 8 = .ok (.aload_n 0, 1) := by decide +kernel
theorem dX3_leastLeakOf_9 : decode cX3_leastLeakOf 9 = .ok (.iload_n 1, 1) := by decide +kernel
theorem dX3_leastLeakOf_10 : decode cX3_leastLeakOf 10 = .ok (.iload_n 2, 1) := by decide +kernel
theorem dX3_leastLeakOf_11 : decode cX3_leastLeakOf 11 = .ok (.invokevirtual 28, 3) := by decide +kernel
theorem dX3_leastLeakOf_14 : decode cX3_leastLeakOf 14 = .ok (.ifCond .eq 5, 3) := by decide +kernel
theorem dX3_leastLeakOf_17 : decode cX3_leastLeakOf 17 = .ok (.iload_n 2, 1) := by decide +kernel
theorem dX3_leastLeakOf_18 : decode cX3_leastLeakOf 18 = .ok (.ireturn, 1) := by decide +kernel
theorem dX3_leastLeakOf_19 : decode cX3_leastLeakOf 19 = .ok (.iinc 2 1, 3) := by decide +kernel
theorem dX3_leastLeakOf_22 : decode cX3_leastLeakOf 22 = .ok (.goto (-20), 3) := by decide +kernel
theorem dX3_leastLeakOf_25 : decode cX3_leastLeakOf 25 = .ok (.iconst (-1), 1) := by decide +kernel
theorem dX3_leastLeakOf_26 : decode cX3_leastLeakOf 26 = .ok (.ireturn, 1) := by decide +kernel
theorem dX3_givesAll_0 : decode cX3_givesAll 0 = .ok (.iconst 0, 1) := by decide +kernel
theorem dX3_givesAll_1 : decode cX3_givesAll 1 = .ok (.istore_n 3, 1) := by decide +kernel
theorem dX3_givesAll_2 : decode cX3_givesAll 2 = .ok (.iload_n 3, 1) := by decide +kernel
theorem dX3_givesAll_3 : decode cX3_givesAll 3 = .ok (.aload_n 0, 1) := by decide +kernel
theorem dX3_givesAll_4 : decode cX3_givesAll 4 = .ok (.getfield 18, 3) := by decide +kernel
theorem dX3_givesAll_7 : decode cX3_givesAll 7 = .ok (.if_icmp .ge 42, 3) := by decide +kernel
theorem dX3_givesAll_10 : decode cX3_givesAll 10 = .ok (.aload_n 0, 1) := by decide +kernel
theorem dX3_givesAll_11 : decode cX3_givesAll 11 = .ok (.getfield 9, 3) := by decide +kernel
theorem dX3_givesAll_14 : decode cX3_givesAll 14 = .ok (.iload_n 3, 1) := by decide +kernel
theorem dX3_givesAll_15 : decode cX3_givesAll 15 = .ok (.iaload, 1) := by decide +kernel
theorem dX3_givesAll_16 : decode cX3_givesAll 16 = .ok (.iload_n 1, 1) := by decide +kernel
theorem dX3_givesAll_17 : decode cX3_givesAll 17 = .ok (.invokestatic 32, 3) := by decide +kernel
theorem dX3_givesAll_20 : decode cX3_givesAll 20 = .ok (.ifCond .eq 7, 3) := by decide +kernel
theorem dX3_givesAll_23 : decode cX3_givesAll 23 = .ok (.iload_n 2, 1) := by decide +kernel
theorem dX3_givesAll_24 : decode cX3_givesAll 24 = .ok (.goto 4, 3) := by decide +kernel
theorem dX3_givesAll_27 : decode cX3_givesAll 27 = .ok (.iconst 0, 1) := by decide +kernel
theorem dX3_givesAll_28 : decode cX3_givesAll 28 = .ok (.istore 4, 2) := by decide +kernel
theorem dX3_givesAll_30 : decode cX3_givesAll 30 = .ok (.iload 4, 2) := by decide +kernel
theorem dX3_givesAll_32 : decode cX3_givesAll 32 = .ok (.aload_n 0, 1) := by decide +kernel
theorem dX3_givesAll_33 : decode cX3_givesAll 33 = .ok (.getfield 15, 3) := by decide +kernel
theorem dX3_givesAll_36 : decode cX3_givesAll 36 = .ok (.iload_n 3, 1) := by decide +kernel
theorem dX3_givesAll_37 : decode cX3_givesAll 37 = .ok (.iaload, 1) := by decide +kernel
theorem dX3_givesAll_38 : decode cX3_givesAll 38 = .ok (.if_icmp .eq 5, 3) := by decide +kernel
theorem dX3_givesAll_41 : decode cX3_givesAll 41 = .ok (.iconst 0, 1) := by decide +kernel
theorem dX3_givesAll_42 : decode cX3_givesAll 42 = .ok (.ireturn, 1) := by decide +kernel
theorem dX3_givesAll_43 : decode cX3_givesAll 43 = .ok (.iinc 3 1, 3) := by decide +kernel
theorem dX3_givesAll_46 : decode cX3_givesAll 46 = .ok (.goto (-44), 3) := by decide +kernel
theorem dX3_givesAll_49 : decode cX3_givesAll 49 = .ok (.iconst 1, 1) := by decide +kernel
theorem dX3_givesAll_50 : decode cX3_givesAll 50 = .ok (.ireturn, 1) := by decide +kernel
theorem dX4_init_0 : decode cX4_init 0 = .ok (.aload_n 0, 1) := by decide +kernel
theorem dX4_init_1 : decode cX4_init 1 = .ok (.invokespecial 1, 3) := by decide +kernel
theorem dX4_init_4 : decode cX4_init 4 = .ok (.aload_n 0, 1) := by decide +kernel
theorem dX4_init_5 : decode cX4_init 5 = .ok (.new 7, 3) := by decide +kernel
theorem dX4_init_8 : decode cX4_init 8 = .ok (.dup, 1) := by decide +kernel
theorem dX4_init_9 : decode cX4_init 9 = .ok (.invokespecial 9, 3) := by decide +kernel
theorem dX4_init_12 : decode cX4_init 12 = .ok (.putfield 10, 3) := by decide +kernel
theorem dX4_init_15 : decode cX4_init 15 = .ok (.aload_n 0, 1) := by decide +kernel
theorem dX4_init_16 : decode cX4_init 16 = .ok (.new 16, 3) := by decide +kernel
theorem dX4_init_19 : decode cX4_init 19 = .ok (.dup, 1) := by decide +kernel
theorem dX4_init_20 : decode cX4_init 20 = .ok (.invokespecial 18, 3) := by decide +kernel
theorem dX4_init_23 : decode cX4_init 23 = .ok (.putfield 19, 3) := by decide +kernel
theorem dX4_init_26 : decode cX4_init 26 = .ok (.aload_n 0, 1) := by decide +kernel
theorem dX4_init_27 : decode cX4_init 27 = .ok (.new 23, 3) := by decide +kernel
theorem dX4_init_30 : decode cX4_init 30 = .ok (.dup, 1) := by decide +kernel
theorem dX4_init_31 : decode cX4_init 31 = .ok (.invokespecial 25, 3) := by decide +kernel
theorem dX4_init_34 : decode cX4_init 34 = .ok (.putfield 26, 3) := by decide +kernel
theorem dX4_init_37 : decode cX4_init 37 = .ok (.aload_n 0, 1) := by decide +kernel
theorem dX4_init_38 : decode cX4_init 38 = .ok (.new 30, 3) := by decide +kernel
theorem dX4_init_41 : decode cX4_init 41 = .ok (.dup, 1) := by decide +kernel
theorem dX4_init_42 : decode cX4_init 42 = .ok (.invokespecial 32, 3) := by decide +kernel
theorem dX4_init_45 : decode cX4_init 45 = .ok (.putfield 33, 3) := by decide +kernel
theorem dX4_init_48 : decode cX4_init 48 = .ok (.aload_n 0, 1) := by decide +kernel
theorem dX4_init_49 : decode cX4_init 49 = .ok (.new 23, 3) := by decide +kernel
theorem dX4_init_52 : decode cX4_init 52 = .ok (.dup, 1) := by decide +kernel
theorem dX4_init_53 : decode cX4_init 53 = .ok (.invokespecial 25, 3) := by decide +kernel
theorem dX4_init_56 : decode cX4_init 56 = .ok (.putfield 37, 3) := by decide +kernel
theorem dX4_init_59 : decode cX4_init 59 = .ok (.aload_n 0, 1) := by decide +kernel
theorem dX4_init_60 : decode cX4_init 60 = .ok (.new 23, 3) := by decide +kernel
theorem dX4_init_63 : decode cX4_init 63 = .ok (.dup, 1) := by decide +kernel
theorem dX4_init_64 : decode cX4_init 64 = .ok (.invokespecial 25, 3) := by decide +kernel
theorem dX4_init_67 : decode cX4_init 67 = .ok (.putfield 40, 3) := by decide +kernel
theorem dX4_init_70 : decode cX4_init 70 = .ok (.aload_n 0, 1) := by decide +kernel
theorem dX4_init_71 : decode cX4_init 71 = .ok (.new 30, 3) := by decide +kernel
theorem dX4_init_74 : decode cX4_init 74 = .ok (.dup, 1) := by decide +kernel
theorem dX4_init_75 : decode cX4_init 75 = .ok (.invokespecial 32, 3) := by decide +kernel
theorem dX4_init_78 : decode cX4_init 78 = .ok (.putfield 43, 3) := by decide +kernel
theorem dX4_init_81 : decode cX4_init 81 = .ok (.return_, 1) := by decide +kernel
theorem dX4_letters_0 : decode cX4_letters 0 = .ok (.lload_n 1, 1) := by decide +kernel
theorem dX4_letters_1 : decode cX4_letters 1 = .ok (.invokestatic 46, 3) := by decide +kernel
theorem dX4_letters_4 : decode cX4_letters 4 = .ok (.istore_n 3, 1) := by decide +kernel
theorem dX4_letters_5 : decode cX4_letters 5 = .ok (.iload_n 3, 1) := by decide +kernel
theorem dX4_letters_6 : decode cX4_letters 6 = .ok (.ifCond .ge 6, 3) := by decide +kernel
theorem dX4_letters_9 : decode cX4_letters 9 = .ok (.bipush (-102), 2) := by decide +kernel
theorem dX4_letters_11 : decode cX4_letters 11 = .ok (.ireturn, 1) := by decide +kernel
theorem dX4_letters_12 : decode cX4_letters 12 = .ok (.aload_n 0, 1) := by decide +kernel
theorem dX4_letters_13 : decode cX4_letters 13 = .ok (.getfield 10, 3) := by decide +kernel
theorem dX4_letters_16 : decode cX4_letters 16 = .ok (.getfield 50, 3) := by decide +kernel
theorem dX4_letters_19 : decode cX4_letters 19 = .ok (.iload_n 3, 1) := by decide +kernel
theorem dX4_letters_20 : decode cX4_letters 20 = .ok (.iadd, 1) := by decide +kernel
theorem dX4_letters_21 : decode cX4_letters 21 = .ok (.bipush 12, 2) := by decide +kernel
theorem dX4_letters_23 : decode cX4_letters 23 = .ok (.if_icmp .le 6, 3) := by decide +kernel
theorem dX4_letters_26 : decode cX4_letters 26 = .ok (.bipush (-104), 2) := by decide +kernel
theorem dX4_letters_28 : decode cX4_letters 28 = .ok (.ireturn, 1) := by decide +kernel
theorem dX4_letters_29 : decode cX4_letters 29 = .ok (.aload_n 0, 1) := by decide +kernel
theorem dX4_letters_30 : decode cX4_letters 30 = .ok (.getfield 10, 3) := by decide +kernel
theorem dX4_letters_33 : decode cX4_letters 33 = .ok (.lload_n 1, 1) := by decide +kernel
theorem dX4_letters_34 : decode cX4_letters 34 = .ok (.iload_n 3, 1) := by decide +kernel
theorem dX4_letters_35 : decode cX4_letters 35 = .ok (.invokevirtual 54, 3) := by decide +kernel
theorem dX4_letters_38 : decode cX4_letters 38 = .ok (.aload_n 0, 1) := by decide +kernel
theorem dX4_letters_39 : decode cX4_letters 39 = .ok (.getfield 10, 3) := by decide +kernel
theorem dX4_letters_42 : decode cX4_letters 42 = .ok (.getfield 50, 3) := by decide +kernel
theorem dX4_letters_45 : decode cX4_letters 45 = .ok (.ireturn, 1) := by decide +kernel
theorem dX4_blank_0 : decode cX4_blank 0 = .ok (.aload_n 0, 1) := by decide +kernel
theorem dX4_blank_1 : decode cX4_blank 1 = .ok (.getfield 10, 3) := by decide +kernel
theorem dX4_blank_4 : decode cX4_blank 4 = .ok (.getfield 50, 3) := by decide +kernel
theorem dX4_blank_7 : decode cX4_blank 7 = .ok (.istore_n 1, 1) := by decide +kernel
theorem dX4_blank_8 : decode cX4_blank 8 = .ok (.aload_n 0, 1) := by decide +kernel
theorem dX4_blank_9 : decode cX4_blank 9 = .ok (.getfield 10, 3) := by decide +kernel
theorem dX4_blank_12 : decode cX4_blank 12 = .ok (.iconst 0, 1) := by decide +kernel
theorem dX4_blank_13 : decode cX4_blank 13 = .ok (.putfield 50, 3) := by decide +kernel
theorem dX4_blank_16 : decode cX4_blank 16 = .ok (.iload_n 1, 1) := by decide +kernel
theorem dX4_blank_17 : decode cX4_blank 17 = .ok (.ireturn, 1) := by decide +kernel
theorem dX4_fault_0 : decode cX4_fault 0 = .ok (.aload_n 0, 1) := by decide +kernel
theorem dX4_fault_1 : decode cX4_fault 1 = .ok (.getfield 10, 3) := by decide +kernel
theorem dX4_fault_4 : decode cX4_fault 4 = .ok (.aload_n 0, 1) := by decide +kernel
theorem dX4_fault_5 : decode cX4_fault 5 = .ok (.getfield 19, 3) := by decide +kernel
theorem dX4_fault_8 : decode cX4_fault 8 = .ok (.getfield 58, 3) := by decide +kernel
theorem dX4_fault_11 : decode cX4_fault 11 = .ok (.invokevirtual 61, 3) := by decide +kernel
theorem dX4_fault_14 : decode cX4_fault 14 = .ok (.ireturn, 1) := by decide +kernel
theorem dX4_house_0 : decode cX4_house 0 = .ok (.aload_n 0, 1) := by decide +kernel
theorem dX4_house_1 : decode cX4_house 1 = .ok (.getfield 10, 3) := by decide +kernel
theorem dX4_house_4 : decode cX4_house 4 = .ok (.aload_n 0, 1) := by decide +kernel
theorem dX4_house_5 : decode cX4_house 5 = .ok (.getfield 19, 3) := by decide +kernel
theorem dX4_house_8 : decode cX4_house 8 = .ok (.getfield 58, 3) := by decide +kernel
theorem dX4_house_11 : decode cX4_house 11 = .ok (.invokevirtual 65, 3) := by decide +kernel
theorem dX4_house_14 : decode cX4_house 14 = .ok (.ifCond .eq 13, 3) := by decide +kernel
theorem dX4_house_17 : decode cX4_house 17 = .ok (.aload_n 0, 1) := by decide +kernel
theorem dX4_house_18 : decode cX4_house 18 = .ok (.getfield 26, 3) := by decide +kernel
theorem dX4_house_21 : decode cX4_house 21 = .ok (.invokevirtual 69, 3) := by decide +kernel
theorem dX4_house_24 : decode cX4_house 24 = .ok (.ifCond .eq 6, 3) := by decide +kernel
theorem dX4_house_27 : decode cX4_house 27 = .ok (.bipush (-103), 2) := by decide +kernel
theorem dX4_house_29 : decode cX4_house 29 = .ok (.ireturn, 1) := by decide +kernel
theorem dX4_house_30 : decode cX4_house 30 = .ok (.aload_n 0, 1) := by decide +kernel
theorem dX4_house_31 : decode cX4_house 31 = .ok (.getfield 19, 3) := by decide +kernel
theorem dX4_house_34 : decode cX4_house 34 = .ok (.getfield 58, 3) := by decide +kernel
theorem dX4_house_37 : decode cX4_house 37 = .ok (.bipush 8, 2) := by decide +kernel
theorem dX4_house_39 : decode cX4_house 39 = .ok (.if_icmp .lt 6, 3) := by decide +kernel
theorem dX4_house_42 : decode cX4_house 42 = .ok (.bipush (-104), 2) := by decide +kernel
theorem dX4_house_44 : decode cX4_house 44 = .ok (.ireturn, 1) := by decide +kernel
theorem dX4_house_45 : decode cX4_house 45 = .ok (.aload_n 0, 1) := by decide +kernel
theorem dX4_house_46 : decode cX4_house 46 = .ok (.getfield 19, 3) := by decide +kernel
theorem dX4_house_49 : decode cX4_house 49 = .ok (.getfield 58, 3) := by decide +kernel
theorem dX4_house_52 : decode cX4_house 52 = .ok (.istore_n 1, 1) := by decide +kernel
theorem dX4_house_53 : decode cX4_house 53 = .ok (.aload_n 0, 1) := by decide +kernel
theorem dX4_house_54 : decode cX4_house 54 = .ok (.getfield 19, 3) := by decide +kernel
theorem dX4_house_57 : decode cX4_house 57 = .ok (.aload_n 0, 1) := by decide +kernel
theorem dX4_house_58 : decode cX4_house 58 = .ok (.getfield 10, 3) := by decide +kernel
theorem dX4_house_61 : decode cX4_house 61 = .ok (.invokevirtual 73, 3) := by decide +kernel
theorem dX4_house_64 : decode cX4_house 64 = .ok (.aload_n 0, 1) := by decide +kernel
theorem dX4_house_65 : decode cX4_house 65 = .ok (.getfield 26, 3) := by decide +kernel
theorem dX4_house_68 : decode cX4_house 68 = .ok (.iload_n 1, 1) := by decide +kernel
theorem dX4_house_69 : decode cX4_house 69 = .ok (.invokevirtual 77, 3) := by decide +kernel
theorem dX4_house_72 : decode cX4_house 72 = .ok (.aload_n 0, 1) := by decide +kernel
theorem dX4_house_73 : decode cX4_house 73 = .ok (.getfield 10, 3) := by decide +kernel
theorem dX4_house_76 : decode cX4_house 76 = .ok (.iconst 0, 1) := by decide +kernel
theorem dX4_house_77 : decode cX4_house 77 = .ok (.putfield 50, 3) := by decide +kernel
theorem dX4_house_80 : decode cX4_house 80 = .ok (.iload_n 1, 1) := by decide +kernel
theorem dX4_house_81 : decode cX4_house 81 = .ok (.ireturn, 1) := by decide +kernel
theorem dX4_about_0 : decode cX4_about 0 = .ok (.aload_n 0, 1) := by decide +kernel
theorem dX4_about_1 : decode cX4_about 1 = .ok (.getfield 19, 3) := by decide +kernel
theorem dX4_about_4 : decode cX4_about 4 = .ok (.iload_n 1, 1) := by decide +kernel
theorem dX4_about_5 : decode cX4_about 5 = .ok (.invokevirtual 81, 3) := by decide +kernel
theorem dX4_about_8 : decode cX4_about 8 = .ok (.ifCond .ne 6, 3) := by decide +kernel
theorem dX4_about_11 : decode cX4_about 11 = .ok (.bipush (-101), 2) := by decide +kernel
theorem dX4_about_13 : decode cX4_about 13 = .ok (.ireturn, 1) := by decide +kernel
theorem dX4_about_14 : decode cX4_about 14 = .ok (.iload_n 2, 1) := by decide +kernel
theorem dX4_about_15 : decode cX4_about 15 = .ok (.tableswitch 144 0 8 #[49, 59, 69, 79, 89, 99, 109, 119, 129], 49) := by decide +kernel
theorem dX4_about_64 : decode cX4_about 64 = .ok (.aload_n 0, 1) := by decide +kernel
theorem dX4_about_65 : decode cX4_about 65 = .ok (.getfield 19, 3) := by decide +kernel
theorem dX4_about_68 : decode cX4_about 68 = .ok (.getfield 84, 3) := by decide +kernel
theorem dX4_about_71 : decode cX4_about 71 = .ok (.iload_n 1, 1) := by decide +kernel
theorem dX4_about_72 : decode cX4_about 72 = .ok (.iaload, 1) := by decide +kernel
theorem dX4_about_73 : decode cX4_about 73 = .ok (.ireturn, 1) := by decide +kernel
theorem dX4_about_74 : decode cX4_about 74 = .ok (.aload_n 0, 1) := by decide +kernel
theorem dX4_about_75 : decode cX4_about 75 = .ok (.getfield 19, 3) := by decide +kernel
theorem dX4_about_78 : decode cX4_about 78 = .ok (.getfield 88, 3) := by decide +kernel
theorem dX4_about_81 : decode cX4_about 81 = .ok (.iload_n 1, 1) := by decide +kernel
theorem dX4_about_82 : decode cX4_about 82 = .ok (.iaload, 1) := by decide +kernel
theorem dX4_about_83 : decode cX4_about 83 = .ok (.ireturn, 1) := by decide +kernel
theorem dX4_about_84 : decode cX4_about 84 = .ok (.aload_n 0, 1) := by decide +kernel
theorem dX4_about_85 : decode cX4_about 85 = .ok (.getfield 19, 3) := by decide +kernel
theorem dX4_about_88 : decode cX4_about 88 = .ok (.getfield 91, 3) := by decide +kernel
theorem dX4_about_91 : decode cX4_about 91 = .ok (.iload_n 1, 1) := by decide +kernel
theorem dX4_about_92 : decode cX4_about 92 = .ok (.iaload, 1) := by decide +kernel
theorem dX4_about_93 : decode cX4_about 93 = .ok (.ireturn, 1) := by decide +kernel
theorem dX4_about_94 : decode cX4_about 94 = .ok (.aload_n 0, 1) := by decide +kernel
theorem dX4_about_95 : decode cX4_about 95 = .ok (.getfield 19, 3) := by decide +kernel
theorem dX4_about_98 : decode cX4_about 98 = .ok (.getfield 94, 3) := by decide +kernel
theorem dX4_about_101 : decode cX4_about 101 = .ok (.iload_n 1, 1) := by decide +kernel
theorem dX4_about_102 : decode cX4_about 102 = .ok (.iaload, 1) := by decide +kernel
theorem dX4_about_103 : decode cX4_about 103 = .ok (.ireturn, 1) := by decide +kernel
theorem dX4_about_104 : decode cX4_about 104 = .ok (.aload_n 0, 1) := by decide +kernel
theorem dX4_about_105 : decode cX4_about 105 = .ok (.getfield 19, 3) := by decide +kernel
theorem dX4_about_108 : decode cX4_about 108 = .ok (.getfield 97, 3) := by decide +kernel
theorem dX4_about_111 : decode cX4_about 111 = .ok (.iload_n 1, 1) := by decide +kernel
theorem dX4_about_112 : decode cX4_about 112 = .ok (.iaload, 1) := by decide +kernel
theorem dX4_about_113 : decode cX4_about 113 = .ok (.ireturn, 1) := by decide +kernel
theorem dX4_about_114 : decode cX4_about 114 = .ok (.aload_n 0, 1) := by decide +kernel
theorem dX4_about_115 : decode cX4_about 115 = .ok (.getfield 19, 3) := by decide +kernel
theorem dX4_about_118 : decode cX4_about 118 = .ok (.getfield 100, 3) := by decide +kernel
theorem dX4_about_121 : decode cX4_about 121 = .ok (.iload_n 1, 1) := by decide +kernel
theorem dX4_about_122 : decode cX4_about 122 = .ok (.iaload, 1) := by decide +kernel
theorem dX4_about_123 : decode cX4_about 123 = .ok (.ireturn, 1) := by decide +kernel
theorem dX4_about_124 : decode cX4_about 124 = .ok (.aload_n 0, 1) := by decide +kernel
theorem dX4_about_125 : decode cX4_about 125 = .ok (.getfield 26, 3) := by decide +kernel
theorem dX4_about_128 : decode cX4_about 128 = .ok (.getfield 103, 3) := by decide +kernel
theorem dX4_about_131 : decode cX4_about 131 = .ok (.iload_n 1, 1) := by decide +kernel
theorem dX4_about_132 : decode cX4_about 132 = .ok (.iaload, 1) := by decide +kernel
theorem dX4_about_133 : decode cX4_about 133 = .ok (.ireturn, 1) := by decide +kernel
theorem dX4_about_134 : decode cX4_about 134 = .ok (.aload_n 0, 1) := by decide +kernel
theorem dX4_about_135 : decode cX4_about 135 = .ok (.getfield 26, 3) := by decide +kernel
theorem dX4_about_138 : decode cX4_about 138 = .ok (.getfield 106, 3) := by decide +kernel
theorem dX4_about_141 : decode cX4_about 141 = .ok (.iload_n 1, 1) := by decide +kernel
theorem dX4_about_142 : decode cX4_about 142 = .ok (.iaload, 1) := by decide +kernel
theorem dX4_about_143 : decode cX4_about 143 = .ok (.ireturn, 1) := by decide +kernel
theorem dX4_about_144 : decode cX4_about 144 = .ok (.aload_n 0, 1) := by decide +kernel
theorem dX4_about_145 : decode cX4_about 145 = .ok (.getfield 26, 3) := by decide +kernel
theorem dX4_about_148 : decode cX4_about 148 = .ok (.getfield 109, 3) := by decide +kernel
theorem dX4_about_151 : decode cX4_about 151 = .ok (.iload_n 1, 1) := by decide +kernel
theorem dX4_about_152 : decode cX4_about 152 = .ok (.invokestatic 112, 3) := by decide +kernel
theorem dX4_about_155 : decode cX4_about 155 = .ok (.invokestatic 116, 3) := by decide +kernel
theorem dX4_about_158 : decode cX4_about 158 = .ok (.ireturn, 1) := by decide +kernel
theorem dX4_about_159 : decode cX4_about 159 = .ok (.bipush (-102), 2) := by decide +kernel
theorem dX4_about_161 : decode cX4_about 161 = .ok (.ireturn, 1) := by decide +kernel
theorem dX4_as_0 : decode cX4_as 0 = .ok (.aload_n 0, 1) := by decide +kernel
theorem dX4_as_1 : decode cX4_as 1 = .ok (.getfield 19, 3) := by decide +kernel
theorem dX4_as_4 : decode cX4_as 4 = .ok (.iload_n 1, 1) := by decide +kernel
theorem dX4_as_5 : decode cX4_as 5 = .ok (.invokevirtual 81, 3) := by decide +kernel
theorem dX4_as_8 : decode cX4_as 8 = .ok (.ifCond .ne 6, 3) := by decide +kernel
theorem dX4_as_11 : decode cX4_as 11 = .ok (.bipush (-101), 2) := by decide +kernel
theorem dX4_as_13 : decode cX4_as 13 = .ok (.ireturn, 1) := by decide +kernel
theorem dX4_as_14 : decode cX4_as 14 = .ok (.iload_n 2, 1) := by decide +kernel
theorem dX4_as_15 : decode cX4_as 15 = .ok (.ifCond .lt 12, 3) := by decide +kernel
theorem dX4_as_18 : decode cX4_as 18 = .ok (.iload_n 2, 1) := by decide +kernel
theorem dX4_as_19 : decode cX4_as 19 = .ok (.ldc 120, 2) := by decide +kernel
theorem dX4_as_21 : decode cX4_as 21 = .ok (.invokevirtual 122, 3) := by decide +kernel
theorem dX4_as_24 : decode cX4_as 24 = .ok (.if_icmp .lt 6, 3) := by decide +kernel
theorem dX4_as_27 : decode cX4_as 27 = .ok (.bipush (-102), 2) := by decide +kernel
theorem dX4_as_29 : decode cX4_as 29 = .ok (.ireturn, 1) := by decide +kernel
theorem dX4_as_30 : decode cX4_as 30 = .ok (.aload_n 0, 1) := by decide +kernel
theorem dX4_as_31 : decode cX4_as 31 = .ok (.getfield 19, 3) := by decide +kernel
theorem dX4_as_34 : decode cX4_as 34 = .ok (.iload_n 1, 1) := by decide +kernel
theorem dX4_as_35 : decode cX4_as 35 = .ok (.iload_n 2, 1) := by decide +kernel
theorem dX4_as_36 : decode cX4_as 36 = .ok (.invokevirtual 128, 3) := by decide +kernel
theorem dX4_as_39 : decode cX4_as 39 = .ok (.ifCond .eq 7, 3) := by decide +kernel
theorem dX4_as_42 : decode cX4_as 42 = .ok (.iload_n 1, 1) := by decide +kernel
theorem dX4_as_43 : decode cX4_as 43 = .ok (.goto 4, 3) := by decide +kernel
theorem dX4_as_46 : decode cX4_as 46 = .ok (.iconst (-1), 1) := by decide +kernel
theorem dX4_as_47 : decode cX4_as 47 = .ok (.ireturn, 1) := by decide +kernel
theorem dX4_length_0 : decode cX4_length 0 = .ok (.iload_n 1, 1) := by decide +kernel
theorem dX4_length_1 : decode cX4_length 1 = .ok (.iconst 1, 1) := by decide +kernel
theorem dX4_length_2 : decode cX4_length 2 = .ok (.if_icmp .lt 9, 3) := by decide +kernel
theorem dX4_length_5 : decode cX4_length 5 = .ok (.iload_n 1, 1) := by decide +kernel
theorem dX4_length_6 : decode cX4_length 6 = .ok (.bipush 99, 2) := by decide +kernel
theorem dX4_length_8 : decode cX4_length 8 = .ok (.if_icmp .le 6, 3) := by decide +kernel
theorem dX4_length_11 : decode cX4_length 11 = .ok (.bipush (-102), 2) := by decide +kernel
theorem dX4_length_13 : decode cX4_length 13 = .ok (.ireturn, 1) := by decide +kernel
theorem dX4_length_14 : decode cX4_length 14 = .ok (.aload_n 0, 1) := by decide +kernel
theorem dX4_length_15 : decode cX4_length 15 = .ok (.getfield 26, 3) := by decide +kernel
theorem dX4_length_18 : decode cX4_length 18 = .ok (.invokevirtual 69, 3) := by decide +kernel
theorem dX4_length_21 : decode cX4_length 21 = .ok (.ifCond .eq 6, 3) := by decide +kernel
theorem dX4_length_24 : decode cX4_length 24 = .ok (.bipush (-103), 2) := by decide +kernel
theorem dX4_length_26 : decode cX4_length 26 = .ok (.ireturn, 1) := by decide +kernel
theorem dX4_length_27 : decode cX4_length 27 = .ok (.aload_n 0, 1) := by decide +kernel
theorem dX4_length_28 : decode cX4_length 28 = .ok (.getfield 26, 3) := by decide +kernel
theorem dX4_length_31 : decode cX4_length 31 = .ok (.getfield 131, 3) := by decide +kernel
theorem dX4_length_34 : decode cX4_length 34 = .ok (.istore_n 2, 1) := by decide +kernel
theorem dX4_length_35 : decode cX4_length 35 = .ok (.aload_n 0, 1) := by decide +kernel
theorem dX4_length_36 : decode cX4_length 36 = .ok (.getfield 26, 3) := by decide +kernel
theorem dX4_length_39 : decode cX4_length 39 = .ok (.iload_n 1, 1) := by decide +kernel
theorem dX4_length_40 : decode cX4_length 40 = .ok (.putfield 131, 3) := by decide +kernel
theorem dX4_length_43 : decode cX4_length 43 = .ok (.aload_n 0, 1) := by decide +kernel
theorem dX4_length_44 : decode cX4_length 44 = .ok (.getfield 26, 3) := by decide +kernel
theorem dX4_length_47 : decode cX4_length 47 = .ok (.iload_n 1, 1) := by decide +kernel
theorem dX4_length_48 : decode cX4_length 48 = .ok (.putfield 133, 3) := by decide +kernel
theorem dX4_length_51 : decode cX4_length 51 = .ok (.iload_n 2, 1) := by decide +kernel
theorem dX4_length_52 : decode cX4_length 52 = .ok (.ireturn, 1) := by decide +kernel
theorem dX4_brake_0 : decode cX4_brake 0 = .ok (.aload_n 0, 1) := by decide +kernel
theorem dX4_brake_1 : decode cX4_brake 1 = .ok (.getfield 19, 3) := by decide +kernel
theorem dX4_brake_4 : decode cX4_brake 4 = .ok (.iload_n 1, 1) := by decide +kernel
theorem dX4_brake_5 : decode cX4_brake 5 = .ok (.invokevirtual 81, 3) := by decide +kernel
theorem dX4_brake_8 : decode cX4_brake 8 = .ok (.ifCond .ne 6, 3) := by decide +kernel
theorem dX4_brake_11 : decode cX4_brake 11 = .ok (.bipush (-101), 2) := by decide +kernel
theorem dX4_brake_13 : decode cX4_brake 13 = .ok (.ireturn, 1) := by decide +kernel
theorem dX4_brake_14 : decode cX4_brake 14 = .ok (.aload_n 0, 1) := by decide +kernel
theorem dX4_brake_15 : decode cX4_brake 15 = .ok (.getfield 26, 3) := by decide +kernel
theorem dX4_brake_18 : decode cX4_brake 18 = .ok (.getfield 109, 3) := by decide +kernel
theorem dX4_brake_21 : decode cX4_brake 21 = .ok (.iload_n 1, 1) := by decide +kernel
theorem dX4_brake_22 : decode cX4_brake 22 = .ok (.invokestatic 112, 3) := by decide +kernel
theorem dX4_brake_25 : decode cX4_brake 25 = .ok (.invokestatic 116, 3) := by decide +kernel
theorem dX4_brake_28 : decode cX4_brake 28 = .ok (.istore_n 3, 1) := by decide +kernel
theorem dX4_brake_29 : decode cX4_brake 29 = .ok (.aload_n 0, 1) := by decide +kernel
theorem dX4_brake_30 : decode cX4_brake 30 = .ok (.getfield 26, 3) := by decide +kernel
theorem dX4_brake_33 : decode cX4_brake 33 = .ok (.iload_n 2, 1) := by decide +kernel
theorem dX4_brake_34 : decode cX4_brake 34 = .ok (.ifCond .eq 18, 3) := by decide +kernel
theorem dX4_brake_37 : decode cX4_brake 37 = .ok (.aload_n 0, 1) := by decide +kernel
theorem dX4_brake_38 : decode cX4_brake 38 = .ok (.getfield 26, 3) := by decide +kernel
theorem dX4_brake_41 : decode cX4_brake 41 = .ok (.getfield 109, 3) := by decide +kernel
theorem dX4_brake_44 : decode cX4_brake 44 = .ok (.iload_n 1, 1) := by decide +kernel
theorem dX4_brake_45 : decode cX4_brake 45 = .ok (.invokestatic 136, 3) := by decide +kernel
theorem dX4_brake_48 : decode cX4_brake 48 = .ok (.ior, 1) := by decide +kernel
theorem dX4_brake_49 : decode cX4_brake 49 = .ok (.goto 17, 3) := by decide +kernel
theorem dX4_brake_52 : decode cX4_brake 52 = .ok (.aload_n 0, 1) := by decide +kernel
theorem dX4_brake_53 : decode cX4_brake 53 = .ok (.getfield 26, 3) := by decide +kernel
theorem dX4_brake_56 : decode cX4_brake 56 = .ok (.getfield 109, 3) := by decide +kernel
theorem dX4_brake_59 : decode cX4_brake 59 = .ok (.iload_n 1, 1) := by decide +kernel
theorem dX4_brake_60 : decode cX4_brake 60 = .ok (.invokestatic 136, 3) := by decide +kernel
theorem dX4_brake_63 : decode cX4_brake 63 = .ok (.iconst (-1), 1) := by decide +kernel
theorem dX4_brake_64 : decode cX4_brake 64 = .ok (.ixor, 1) := by decide +kernel
theorem dX4_brake_65 : decode cX4_brake 65 = .ok (.iand, 1) := by decide +kernel
theorem dX4_brake_66 : decode cX4_brake 66 = .ok (.putfield 109, 3) := by decide +kernel
theorem dX4_brake_69 : decode cX4_brake 69 = .ok (.iload_n 3, 1) := by decide +kernel
theorem dX4_brake_70 : decode cX4_brake 70 = .ok (.ireturn, 1) := by decide +kernel
theorem dX4_rain_0 : decode cX4_rain 0 = .ok (.aload_n 0, 1) := by decide +kernel
theorem dX4_rain_1 : decode cX4_rain 1 = .ok (.getfield 26, 3) := by decide +kernel
theorem dX4_rain_4 : decode cX4_rain 4 = .ok (.getfield 139, 3) := by decide +kernel
theorem dX4_rain_7 : decode cX4_rain 7 = .ok (.invokestatic 116, 3) := by decide +kernel
theorem dX4_rain_10 : decode cX4_rain 10 = .ok (.istore_n 2, 1) := by decide +kernel
theorem dX4_rain_11 : decode cX4_rain 11 = .ok (.aload_n 0, 1) := by decide +kernel
theorem dX4_rain_12 : decode cX4_rain 12 = .ok (.getfield 26, 3) := by decide +kernel
theorem dX4_rain_15 : decode cX4_rain 15 = .ok (.iload_n 1, 1) := by decide +kernel
theorem dX4_rain_16 : decode cX4_rain 16 = .ok (.putfield 139, 3) := by decide +kernel
theorem dX4_rain_19 : decode cX4_rain 19 = .ok (.iload_n 2, 1) := by decide +kernel
theorem dX4_rain_20 : decode cX4_rain 20 = .ok (.ireturn, 1) := by decide +kernel
theorem dX4_wants_0 : decode cX4_wants 0 = .ok (.aload_n 0, 1) := by decide +kernel
theorem dX4_wants_1 : decode cX4_wants 1 = .ok (.getfield 19, 3) := by decide +kernel
theorem dX4_wants_4 : decode cX4_wants 4 = .ok (.iload_n 1, 1) := by decide +kernel
theorem dX4_wants_5 : decode cX4_wants 5 = .ok (.invokevirtual 81, 3) := by decide +kernel
theorem dX4_wants_8 : decode cX4_wants 8 = .ok (.ifCond .eq 18, 3) := by decide +kernel
theorem dX4_wants_11 : decode cX4_wants 11 = .ok (.aload_n 0, 1) := by decide +kernel
theorem dX4_wants_12 : decode cX4_wants 12 = .ok (.getfield 26, 3) := by decide +kernel
theorem dX4_wants_15 : decode cX4_wants 15 = .ok (.aload_n 0, 1) := by decide +kernel
theorem dX4_wants_16 : decode cX4_wants 16 = .ok (.getfield 19, 3) := by decide +kernel
theorem dX4_wants_19 : decode cX4_wants 19 = .ok (.iload_n 1, 1) := by decide +kernel
theorem dX4_wants_20 : decode cX4_wants 20 = .ok (.invokevirtual 143, 3) := by decide +kernel
theorem dX4_wants_23 : decode cX4_wants 23 = .ok (.goto 5, 3) := by decide +kernel
theorem dX4_wants_26 : decode cX4_wants 26 = .ok (.bipush (-101), 2) := by decide +kernel
theorem dX4_wants_28 : decode cX4_wants 28 = .ok (.ireturn, 1) := by decide +kernel
theorem dX4_goes_0 : decode cX4_goes 0 = .ok (.aload_n 0, 1) := by decide +kernel
theorem dX4_goes_1 : decode cX4_goes 1 = .ok (.getfield 19, 3) := by decide +kernel
theorem dX4_goes_4 : decode cX4_goes 4 = .ok (.iload_n 1, 1) := by decide +kernel
theorem dX4_goes_5 : decode cX4_goes 5 = .ok (.invokevirtual 147, 3) := by decide +kernel
theorem dX4_goes_8 : decode cX4_goes 8 = .ok (.ifCond .ne 6, 3) := by decide +kernel
theorem dX4_goes_11 : decode cX4_goes 11 = .ok (.bipush (-102), 2) := by decide +kernel
theorem dX4_goes_13 : decode cX4_goes 13 = .ok (.ireturn, 1) := by decide +kernel
theorem dX4_goes_14 : decode cX4_goes 14 = .ok (.aload_n 0, 1) := by decide +kernel
theorem dX4_goes_15 : decode cX4_goes 15 = .ok (.getfield 26, 3) := by decide +kernel
theorem dX4_goes_18 : decode cX4_goes 18 = .ok (.aload_n 0, 1) := by decide +kernel
theorem dX4_goes_19 : decode cX4_goes 19 = .ok (.getfield 19, 3) := by decide +kernel
theorem dX4_goes_22 : decode cX4_goes 22 = .ok (.invokevirtual 150, 3) := by decide +kernel
theorem dX4_goes_25 : decode cX4_goes 25 = .ok (.aload_n 0, 1) := by decide +kernel
theorem dX4_goes_26 : decode cX4_goes 26 = .ok (.getfield 26, 3) := by decide +kernel
theorem dX4_goes_29 : decode cX4_goes 29 = .ok (.aload_n 0, 1) := by decide +kernel
theorem dX4_goes_30 : decode cX4_goes 30 = .ok (.getfield 19, 3) := by decide +kernel
theorem dX4_goes_33 : decode cX4_goes 33 = .ok (.iload_n 1, 1) := by decide +kernel
theorem dX4_goes_34 : decode cX4_goes 34 = .ok (.invokevirtual 154, 3) := by decide +kernel
theorem dX4_goes_37 : decode cX4_goes 37 = .ok (.ireturn, 1) := by decide +kernel
theorem dX4_hour_0 : decode cX4_hour 0 = .ok (.aload_n 0, 1) := by decide +kernel
theorem dX4_hour_1 : decode cX4_hour 1 = .ok (.getfield 26, 3) := by decide +kernel
theorem dX4_hour_4 : decode cX4_hour 4 = .ok (.invokevirtual 157, 3) := by decide +kernel
theorem dX4_hour_7 : decode cX4_hour 7 = .ok (.ifCond .eq 17, 3) := by decide +kernel
theorem dX4_hour_10 : decode cX4_hour 10 = .ok (.aload_n 0, 1) := by decide +kernel
theorem dX4_hour_11 : decode cX4_hour 11 = .ok (.getfield 26, 3) := by decide +kernel
theorem dX4_hour_14 : decode cX4_hour 14 = .ok (.aload_n 0, 1) := by decide +kernel
theorem dX4_hour_15 : decode cX4_hour 15 = .ok (.getfield 19, 3) := by decide +kernel
theorem dX4_hour_18 : decode cX4_hour 18 = .ok (.invokevirtual 160, 3) := by decide +kernel
theorem dX4_hour_21 : decode cX4_hour 21 = .ok (.goto 5, 3) := by decide +kernel
theorem dX4_hour_24 : decode cX4_hour 24 = .ok (.bipush (-103), 2) := by decide +kernel
theorem dX4_hour_26 : decode cX4_hour 26 = .ok (.ireturn, 1) := by decide +kernel
theorem dX4_worked_0 : decode cX4_worked 0 = .ok (.aload_n 0, 1) := by decide +kernel
theorem dX4_worked_1 : decode cX4_worked 1 = .ok (.getfield 26, 3) := by decide +kernel
theorem dX4_worked_4 : decode cX4_worked 4 = .ok (.getfield 164, 3) := by decide +kernel
theorem dX4_worked_7 : decode cX4_worked 7 = .ok (.ireturn, 1) := by decide +kernel
theorem dX4_part_0 : decode cX4_part 0 = .ok (.aload_n 0, 1) := by decide +kernel
theorem dX4_part_1 : decode cX4_part 1 = .ok (.getfield 19, 3) := by decide +kernel
theorem dX4_part_4 : decode cX4_part 4 = .ok (.iload_n 1, 1) := by decide +kernel
theorem dX4_part_5 : decode cX4_part 5 = .ok (.invokevirtual 81, 3) := by decide +kernel
theorem dX4_part_8 : decode cX4_part 8 = .ok (.ifCond .ne 6, 3) := by decide +kernel
theorem dX4_part_11 : decode cX4_part 11 = .ok (.bipush (-101), 2) := by decide +kernel
theorem dX4_part_13 : decode cX4_part 13 = .ok (.ireturn, 1) := by decide +kernel
theorem dX4_part_14 : decode cX4_part 14 = .ok (.aload_n 0, 1) := by decide +kernel
theorem dX4_part_15 : decode cX4_part 15 = .ok (.getfield 26, 3) := by decide +kernel
theorem dX4_part_18 : decode cX4_part 18 = .ok (.aload_n 0, 1) := by decide +kernel
theorem dX4_part_19 : decode cX4_part 19 = .ok (.getfield 19, 3) := by decide +kernel
theorem dX4_part_22 : decode cX4_part 22 = .ok (.getfield 58, 3) := by decide +kernel
theorem dX4_part_25 : decode cX4_part 25 = .ok (.invokevirtual 167, 3) := by decide +kernel
theorem dX4_part_28 : decode cX4_part 28 = .ok (.aload_n 0, 1) := by decide +kernel
theorem dX4_part_29 : decode cX4_part 29 = .ok (.getfield 26, 3) := by decide +kernel
theorem dX4_part_32 : decode cX4_part 32 = .ok (.getfield 170, 3) := by decide +kernel
theorem dX4_part_35 : decode cX4_part 35 = .ok (.iload_n 1, 1) := by decide +kernel
theorem dX4_part_36 : decode cX4_part 36 = .ok (.iaload, 1) := by decide +kernel
theorem dX4_part_37 : decode cX4_part 37 = .ok (.ireturn, 1) := by decide +kernel
theorem dX4_night_0 : decode cX4_night 0 = .ok (.aload_n 0, 1) := by decide +kernel
theorem dX4_night_1 : decode cX4_night 1 = .ok (.getfield 26, 3) := by decide +kernel
theorem dX4_night_4 : decode cX4_night 4 = .ok (.aload_n 0, 1) := by decide +kernel
theorem dX4_night_5 : decode cX4_night 5 = .ok (.getfield 19, 3) := by decide +kernel
theorem dX4_night_8 : decode cX4_night 8 = .ok (.getfield 58, 3) := by decide +kernel
theorem dX4_night_11 : decode cX4_night 11 = .ok (.invokevirtual 173, 3) := by decide +kernel
theorem dX4_night_14 : decode cX4_night 14 = .ok (.ireturn, 1) := by decide +kernel
theorem dX4_plan_0 : decode cX4_plan 0 = .ok (.iload_n 1, 1) := by decide +kernel
theorem dX4_plan_1 : decode cX4_plan 1 = .ok (.ifCond .lt 8, 3) := by decide +kernel
theorem dX4_plan_4 : decode cX4_plan 4 = .ok (.iload_n 1, 1) := by decide +kernel
theorem dX4_plan_5 : decode cX4_plan 5 = .ok (.iconst 1, 1) := by decide +kernel
theorem dX4_plan_6 : decode cX4_plan 6 = .ok (.if_icmp .le 6, 3) := by decide +kernel
theorem dX4_plan_9 : decode cX4_plan 9 = .ok (.bipush (-102), 2) := by decide +kernel
theorem dX4_plan_11 : decode cX4_plan 11 = .ok (.ireturn, 1) := by decide +kernel
theorem dX4_plan_12 : decode cX4_plan 12 = .ok (.aload_n 0, 1) := by decide +kernel
theorem dX4_plan_13 : decode cX4_plan 13 = .ok (.invokevirtual 176, 3) := by decide +kernel
theorem dX4_plan_16 : decode cX4_plan 16 = .ok (.istore_n 2, 1) := by decide +kernel
theorem dX4_plan_17 : decode cX4_plan 17 = .ok (.iload_n 1, 1) := by decide +kernel
theorem dX4_plan_18 : decode cX4_plan 18 = .ok (.ifCond .ne 18, 3) := by decide +kernel
theorem dX4_plan_21 : decode cX4_plan 21 = .ok (.aload_n 0, 1) := by decide +kernel
theorem dX4_plan_22 : decode cX4_plan 22 = .ok (.aload_n 0, 1) := by decide +kernel
theorem dX4_plan_23 : decode cX4_plan 23 = .ok (.getfield 26, 3) := by decide +kernel
theorem dX4_plan_26 : decode cX4_plan 26 = .ok (.getfield 133, 3) := by decide +kernel
theorem dX4_plan_29 : decode cX4_plan 29 = .ok (.iload_n 2, 1) := by decide +kernel
theorem dX4_plan_30 : decode cX4_plan 30 = .ok (.invokevirtual 179, 3) := by decide +kernel
theorem dX4_plan_33 : decode cX4_plan 33 = .ok (.goto 4, 3) := by decide +kernel
theorem dX4_plan_36 : decode cX4_plan 36 = .ok (.iload_n 2, 1) := by decide +kernel
theorem dX4_plan_37 : decode cX4_plan 37 = .ok (.ireturn, 1) := by decide +kernel
theorem dX4_more_0 : decode cX4_more 0 = .ok (.iload_n 1, 1) := by decide +kernel
theorem dX4_more_1 : decode cX4_more 1 = .ok (.ifCond .lt 9, 3) := by decide +kernel
theorem dX4_more_4 : decode cX4_more 4 = .ok (.iload_n 1, 1) := by decide +kernel
theorem dX4_more_5 : decode cX4_more 5 = .ok (.bipush 99, 2) := by decide +kernel
theorem dX4_more_7 : decode cX4_more 7 = .ok (.if_icmp .le 6, 3) := by decide +kernel
theorem dX4_more_10 : decode cX4_more 10 = .ok (.bipush (-102), 2) := by decide +kernel
theorem dX4_more_12 : decode cX4_more 12 = .ok (.ireturn, 1) := by decide +kernel
theorem dX4_more_13 : decode cX4_more 13 = .ok (.aload_n 0, 1) := by decide +kernel
theorem dX4_more_14 : decode cX4_more 14 = .ok (.aload_n 0, 1) := by decide +kernel
theorem dX4_more_15 : decode cX4_more 15 = .ok (.getfield 26, 3) := by decide +kernel
theorem dX4_more_18 : decode cX4_more 18 = .ok (.getfield 133, 3) := by decide +kernel
theorem dX4_more_21 : decode cX4_more 21 = .ok (.iload_n 1, 1) := by decide +kernel
theorem dX4_more_22 : decode cX4_more 22 = .ok (.iadd, 1) := by decide +kernel
theorem dX4_more_23 : decode cX4_more 23 = .ok (.aload_n 0, 1) := by decide +kernel
theorem dX4_more_24 : decode cX4_more 24 = .ok (.getfield 26, 3) := by decide +kernel
theorem dX4_more_27 : decode cX4_more 27 = .ok (.getfield 109, 3) := by decide +kernel
theorem dX4_more_30 : decode cX4_more 30 = .ok (.invokevirtual 179, 3) := by decide +kernel
theorem dX4_more_33 : decode cX4_more 33 = .ok (.aload_n 0, 1) := by decide +kernel
theorem dX4_more_34 : decode cX4_more 34 = .ok (.aload_n 0, 1) := by decide +kernel
theorem dX4_more_35 : decode cX4_more 35 = .ok (.getfield 26, 3) := by decide +kernel
theorem dX4_more_38 : decode cX4_more 38 = .ok (.getfield 133, 3) := by decide +kernel
theorem dX4_more_41 : decode cX4_more 41 = .ok (.aload_n 0, 1) := by decide +kernel
theorem dX4_more_42 : decode cX4_more 42 = .ok (.getfield 26, 3) := by decide +kernel
theorem dX4_more_45 : decode cX4_more 45 = .ok (.getfield 109, 3) := by decide +kernel
theorem dX4_more_48 : decode cX4_more 48 = .ok (.invokevirtual 179, 3) := by decide +kernel
theorem dX4_more_51 : decode cX4_more 51 = .ok (.isub, 1) := by decide +kernel
theorem dX4_more_52 : decode cX4_more 52 = .ok (.ireturn, 1) := by decide +kernel
theorem dX4_missing_0 : decode cX4_missing 0 = .ok (.iload_n 1, 1) := by decide +kernel
theorem dX4_missing_1 : decode cX4_missing 1 = .ok (.iconst 1, 1) := by decide +kernel
theorem dX4_missing_2 : decode cX4_missing 2 = .ok (.if_icmp .lt 18, 3) := by decide +kernel
theorem dX4_missing_5 : decode cX4_missing 5 = .ok (.iload_n 1, 1) := by decide +kernel
theorem dX4_missing_6 : decode cX4_missing 6 = .ok (.bipush 72, 2) := by decide +kernel
theorem dX4_missing_8 : decode cX4_missing 8 = .ok (.if_icmp .gt 12, 3) := by decide +kernel
theorem dX4_missing_11 : decode cX4_missing 11 = .ok (.iload_n 2, 1) := by decide +kernel
theorem dX4_missing_12 : decode cX4_missing 12 = .ok (.ifCond .lt 8, 3) := by decide +kernel
theorem dX4_missing_15 : decode cX4_missing 15 = .ok (.iload_n 2, 1) := by decide +kernel
theorem dX4_missing_16 : decode cX4_missing 16 = .ok (.iconst 2, 1) := by decide +kernel
theorem dX4_missing_17 : decode cX4_missing 17 = .ok (.if_icmp .le 6, 3) := by decide +kernel
theorem dX4_missing_20 : decode cX4_missing 20 = .ok (.bipush (-102), 2) := by decide +kernel
theorem dX4_missing_22 : decode cX4_missing 22 = .ok (.ireturn, 1) := by decide +kernel
theorem dX4_missing_23 : decode cX4_missing 23 = .ok (.aload_n 0, 1) := by decide +kernel
theorem dX4_missing_24 : decode cX4_missing 24 = .ok (.getfield 19, 3) := by decide +kernel
theorem dX4_missing_27 : decode cX4_missing 27 = .ok (.aload_n 0, 1) := by decide +kernel
theorem dX4_missing_28 : decode cX4_missing 28 = .ok (.getfield 26, 3) := by decide +kernel
theorem dX4_missing_31 : decode cX4_missing 31 = .ok (.getfield 183, 3) := by decide +kernel
theorem dX4_missing_34 : decode cX4_missing 34 = .ok (.invokevirtual 186, 3) := by decide +kernel
theorem dX4_missing_37 : decode cX4_missing 37 = .ok (.istore_n 3, 1) := by decide +kernel
theorem dX4_missing_38 : decode cX4_missing 38 = .ok (.iconst 0, 1) := by decide +kernel
theorem dX4_missing_39 : decode cX4_missing 39 = .ok (.istore 4, 2) := by decide +kernel
theorem dX4_missing_41 : decode cX4_missing 41 = .ok (.iload_n 3, 1) := by decide +kernel
theorem dX4_missing_42 : decode cX4_missing 42 = .ok (.istore 5, 2) := by decide +kernel
theorem dX4_missing_44 : decode cX4_missing 44 = .ok (.iconst 0, 1) := by decide +kernel
theorem dX4_missing_45 : decode cX4_missing 45 = .ok (.istore 6, 2) := by decide +kernel
theorem dX4_missing_47 : decode cX4_missing 47 = .ok (.iconst 1, 1) := by decide +kernel
theorem dX4_missing_48 : decode cX4_missing 48 = .ok (.istore 7, 2) := by decide +kernel
theorem dX4_missing_50 : decode cX4_missing 50 = .ok (.iload 7, 2) := by decide +kernel
theorem dX4_missing_52 : decode cX4_missing 52 = .ok (.iload_n 3, 1) := by decide +kernel
theorem dX4_missing_53 : decode cX4_missing 53 = .ok (.if_icmp .gt 48, 3) := by decide +kernel
theorem dX4_missing_56 : decode cX4_missing 56 = .ok (.iload 7, 2) := by decide +kernel
theorem dX4_missing_58 : decode cX4_missing 58 = .ok (.iload_n 3, 1) := by decide +kernel
theorem dX4_missing_59 : decode cX4_missing 59 = .ok (.iconst (-1), 1) := by decide +kernel
theorem dX4_missing_60 : decode cX4_missing 60 = .ok (.ixor, 1) := by decide +kernel
theorem dX4_missing_61 : decode cX4_missing 61 = .ok (.iand, 1) := by decide +kernel
theorem dX4_missing_62 : decode cX4_missing 62 = .ok (.ifCond .ne 33, 3) := by decide +kernel
theorem dX4_missing_65 : decode cX4_missing 65 = .ok (.aload_n 0, 1) := by decide +kernel
theorem dX4_missing_66 : decode cX4_missing 66 = .ok (.getfield 19, 3) := by decide +kernel
theorem dX4_missing_69 : decode cX4_missing 69 = .ok (.iload 7, 2) := by decide +kernel
theorem dX4_missing_71 : decode cX4_missing 71 = .ok (.invokevirtual 189, 3) := by decide +kernel
theorem dX4_missing_74 : decode cX4_missing 74 = .ok (.iload_n 1, 1) := by decide +kernel
theorem dX4_missing_75 : decode cX4_missing 75 = .ok (.if_icmp .ne 20, 3) := by decide +kernel
theorem dX4_missing_78 : decode cX4_missing 78 = .ok (.iinc 4 1, 3) := by decide +kernel
theorem dX4_missing_81 : decode cX4_missing 81 = .ok (.iload 5, 2) := by decide +kernel
theorem dX4_missing_83 : decode cX4_missing 83 = .ok (.iload 7, 2) := by decide +kernel
theorem dX4_missing_85 : decode cX4_missing 85 = .ok (.iand, 1) := by decide +kernel
theorem dX4_missing_86 : decode cX4_missing 86 = .ok (.istore 5, 2) := by decide +kernel
theorem dX4_missing_88 : decode cX4_missing 88 = .ok (.iload 6, 2) := by decide +kernel
theorem dX4_missing_90 : decode cX4_missing 90 = .ok (.iload 7, 2) := by decide +kernel
theorem dX4_missing_92 : decode cX4_missing 92 = .ok (.ior, 1) := by decide +kernel
theorem dX4_missing_93 : decode cX4_missing 93 = .ok (.istore 6, 2) := by decide +kernel
theorem dX4_missing_95 : decode cX4_missing 95 = .ok (.iinc 7 1, 3) := by decide +kernel
theorem dX4_missing_98 : decode cX4_missing 98 = .ok (.goto (-48), 3) := by decide +kernel
theorem dX4_missing_101 : decode cX4_missing 101 = .ok (.iload 4, 2) := by decide +kernel
theorem dX4_missing_103 : decode cX4_missing 103 = .ok (.ifCond .eq 7, 3) := by decide +kernel
theorem dX4_missing_106 : decode cX4_missing 106 = .ok (.iload_n 2, 1) := by decide +kernel
theorem dX4_missing_107 : decode cX4_missing 107 = .ok (.ifCond .ne 6, 3) := by decide +kernel
theorem dX4_missing_110 : decode cX4_missing 110 = .ok (.iload 4, 2) := by decide +kernel
theorem dX4_missing_112 : decode cX4_missing 112 = .ok (.ireturn, 1) := by decide +kernel
theorem dX4_missing_113 : decode cX4_missing 113 = .ok (.iload_n 2, 1) := by decide +kernel
theorem dX4_missing_114 : decode cX4_missing 114 = .ok (.iconst 1, 1) := by decide +kernel
theorem dX4_missing_115 : decode cX4_missing 115 = .ok (.if_icmp .ne 8, 3) := by decide +kernel
theorem dX4_missing_118 : decode cX4_missing 118 = .ok (.iload 5, 2) := by decide +kernel
theorem dX4_missing_120 : decode cX4_missing 120 = .ok (.goto 5, 3) := by decide +kernel
theorem dX4_missing_123 : decode cX4_missing 123 = .ok (.iload 6, 2) := by decide +kernel
theorem dX4_missing_125 : decode cX4_missing 125 = .ok (.ireturn, 1) := by decide +kernel
theorem dX4_rest_0 : decode cX4_rest 0 = .ok (.iload_n 1, 1) := by decide +kernel
theorem dX4_rest_1 : decode cX4_rest 1 = .ok (.ifCond .lt 12, 3) := by decide +kernel
theorem dX4_rest_4 : decode cX4_rest 4 = .ok (.iload_n 2, 1) := by decide +kernel
theorem dX4_rest_5 : decode cX4_rest 5 = .ok (.ifCond .lt 8, 3) := by decide +kernel
theorem dX4_rest_8 : decode cX4_rest 8 = .ok (.iload_n 2, 1) := by decide +kernel
theorem dX4_rest_9 : decode cX4_rest 9 = .ok (.iconst 3, 1) := by decide +kernel
theorem dX4_rest_10 : decode cX4_rest 10 = .ok (.if_icmp .le 6, 3) := by decide +kernel
theorem dX4_rest_13 : decode cX4_rest 13 = .ok (.bipush (-102), 2) := by decide +kernel
theorem dX4_rest_15 : decode cX4_rest 15 = .ok (.ireturn, 1) := by decide +kernel
theorem dX4_rest_16 : decode cX4_rest 16 = .ok (.aload_n 0, 1) := by decide +kernel
theorem dX4_rest_17 : decode cX4_rest 17 = .ok (.getfield 37, 3) := by decide +kernel
theorem dX4_rest_20 : decode cX4_rest 20 = .ok (.aload_n 0, 1) := by decide +kernel
theorem dX4_rest_21 : decode cX4_rest 21 = .ok (.getfield 26, 3) := by decide +kernel
theorem dX4_rest_24 : decode cX4_rest 24 = .ok (.invokevirtual 192, 3) := by decide +kernel
theorem dX4_rest_27 : decode cX4_rest 27 = .ok (.iload_n 1, 1) := by decide +kernel
theorem dX4_rest_28 : decode cX4_rest 28 = .ok (.istore_n 3, 1) := by decide +kernel
theorem dX4_rest_29 : decode cX4_rest 29 = .ok (.iconst (-1), 1) := by decide +kernel
theorem dX4_rest_30 : decode cX4_rest 30 = .ok (.istore 4, 2) := by decide +kernel
theorem dX4_rest_32 : decode cX4_rest 32 = .ok (.aload_n 0, 1) := by decide +kernel
theorem dX4_rest_33 : decode cX4_rest 33 = .ok (.getfield 26, 3) := by decide +kernel
theorem dX4_rest_36 : decode cX4_rest 36 = .ok (.getfield 183, 3) := by decide +kernel
theorem dX4_rest_39 : decode cX4_rest 39 = .ok (.istore 5, 2) := by decide +kernel
theorem dX4_rest_41 : decode cX4_rest 41 = .ok (.iload 5, 2) := by decide +kernel
theorem dX4_rest_43 : decode cX4_rest 43 = .ok (.bipush 9, 2) := by decide +kernel
theorem dX4_rest_45 : decode cX4_rest 45 = .ok (.if_icmp .ge 71, 3) := by decide +kernel
theorem dX4_rest_48 : decode cX4_rest 48 = .ok (.aload_n 0, 1) := by decide +kernel
theorem dX4_rest_49 : decode cX4_rest 49 = .ok (.getfield 37, 3) := by decide +kernel
theorem dX4_rest_52 : decode cX4_rest 52 = .ok (.getfield 196, 3) := by decide +kernel
theorem dX4_rest_55 : decode cX4_rest 55 = .ok (.ifCond .ne 61, 3) := by decide +kernel
theorem dX4_rest_58 : decode cX4_rest 58 = .ok (.iload_n 3, 1) := by decide +kernel
theorem dX4_rest_59 : decode cX4_rest 59 = .ok (.invokestatic 199, 3) := by decide +kernel
theorem dX4_rest_62 : decode cX4_rest 62 = .ok (.istore_n 3, 1) := by decide +kernel
theorem dX4_rest_63 : decode cX4_rest 63 = .ok (.aload_n 0, 1) := by decide +kernel
theorem dX4_rest_64 : decode cX4_rest 64 = .ok (.getfield 37, 3) := by decide +kernel
theorem dX4_rest_67 : decode cX4_rest 67 = .ok (.iload_n 3, 1) := by decide +kernel
theorem dX4_rest_68 : decode cX4_rest 68 = .ok (.ldc 202, 2) := by decide +kernel
theorem dX4_rest_70 : decode cX4_rest 70 = .ok (.idiv, 1) := by decide +kernel
theorem dX4_rest_71 : decode cX4_rest 71 = .ok (.iconst 3, 1) := by decide +kernel
theorem dX4_rest_72 : decode cX4_rest 72 = .ok (.irem, 1) := by decide +kernel
theorem dX4_rest_73 : decode cX4_rest 73 = .ok (.ifCond .ne 7, 3) := by decide +kernel
theorem dX4_rest_76 : decode cX4_rest 76 = .ok (.iconst 1, 1) := by decide +kernel
theorem dX4_rest_77 : decode cX4_rest 77 = .ok (.goto 4, 3) := by decide +kernel
theorem dX4_rest_80 : decode cX4_rest 80 = .ok (.iconst 0, 1) := by decide +kernel
theorem dX4_rest_81 : decode cX4_rest 81 = .ok (.putfield 139, 3) := by decide +kernel
theorem dX4_rest_84 : decode cX4_rest 84 = .ok (.aload_n 0, 1) := by decide +kernel
theorem dX4_rest_85 : decode cX4_rest 85 = .ok (.getfield 37, 3) := by decide +kernel
theorem dX4_rest_88 : decode cX4_rest 88 = .ok (.aload_n 0, 1) := by decide +kernel
theorem dX4_rest_89 : decode cX4_rest 89 = .ok (.getfield 19, 3) := by decide +kernel
theorem dX4_rest_92 : decode cX4_rest 92 = .ok (.invokevirtual 160, 3) := by decide +kernel
theorem dX4_rest_95 : decode cX4_rest 95 = .ok (.pop, 1) := by decide +kernel
theorem dX4_rest_96 : decode cX4_rest 96 = .ok (.aload_n 0, 1) := by decide +kernel
theorem dX4_rest_97 : decode cX4_rest 97 = .ok (.getfield 37, 3) := by decide +kernel
theorem dX4_rest_100 : decode cX4_rest 100 = .ok (.getfield 196, 3) := by decide +kernel
theorem dX4_rest_103 : decode cX4_rest 103 = .ok (.ifCond .eq 7, 3) := by decide +kernel
theorem dX4_rest_106 : decode cX4_rest 106 = .ok (.iload 5, 2) := by decide +kernel
theorem dX4_rest_108 : decode cX4_rest 108 = .ok (.istore 4, 2) := by decide +kernel
theorem dX4_rest_110 : decode cX4_rest 110 = .ok (.iinc 5 1, 3) := by decide +kernel
theorem dX4_rest_113 : decode cX4_rest 113 = .ok (.goto (-72), 3) := by decide +kernel
theorem dX4_rest_116 : decode cX4_rest 116 = .ok (.iload_n 2, 1) := by decide +kernel
theorem dX4_rest_117 : decode cX4_rest 117 = .ok (.tableswitch 54 0 2 #[27, 43, 51], 27) := by decide +kernel
theorem dX4_rest_144 : decode cX4_rest 144 = .ok (.aload_n 0, 1) := by decide +kernel
theorem dX4_rest_145 : decode cX4_rest 145 = .ok (.getfield 37, 3) := by decide +kernel
theorem dX4_rest_148 : decode cX4_rest 148 = .ok (.getfield 203, 3) := by decide +kernel
theorem dX4_rest_151 : decode cX4_rest 151 = .ok (.aload_n 0, 1) := by decide +kernel
theorem dX4_rest_152 : decode cX4_rest 152 = .ok (.getfield 26, 3) := by decide +kernel
theorem dX4_rest_155 : decode cX4_rest 155 = .ok (.getfield 203, 3) := by decide +kernel
theorem dX4_rest_158 : decode cX4_rest 158 = .ok (.isub, 1) := by decide +kernel
theorem dX4_rest_159 : decode cX4_rest 159 = .ok (.ireturn, 1) := by decide +kernel
theorem dX4_rest_160 : decode cX4_rest 160 = .ok (.aload_n 0, 1) := by decide +kernel
theorem dX4_rest_161 : decode cX4_rest 161 = .ok (.getfield 37, 3) := by decide +kernel
theorem dX4_rest_164 : decode cX4_rest 164 = .ok (.getfield 133, 3) := by decide +kernel
theorem dX4_rest_167 : decode cX4_rest 167 = .ok (.ireturn, 1) := by decide +kernel
theorem dX4_rest_168 : decode cX4_rest 168 = .ok (.iload 4, 2) := by decide +kernel
theorem dX4_rest_170 : decode cX4_rest 170 = .ok (.ireturn, 1) := by decide +kernel
theorem dX4_rest_171 : decode cX4_rest 171 = .ok (.iload_n 3, 1) := by decide +kernel
theorem dX4_rest_172 : decode cX4_rest 172 = .ok (.ireturn, 1) := by decide +kernel
theorem dX4_read_0 : decode cX4_read 0 = .ok (.iload_n 1, 1) := by decide +kernel
theorem dX4_read_1 : decode cX4_read 1 = .ok (.ifCond .eq 26, 3) := by decide +kernel
theorem dX4_read_4 : decode cX4_read 4 = .ok (.aload_n 0, 1) := by decide +kernel
theorem dX4_read_5 : decode cX4_read 5 = .ok (.getfield 19, 3) := by decide +kernel
theorem dX4_read_8 : decode cX4_read 8 = .ok (.iload_n 1, 1) := by decide +kernel
theorem dX4_read_9 : decode cX4_read 9 = .ok (.invokevirtual 147, 3) := by decide +kernel
theorem dX4_read_12 : decode cX4_read 12 = .ok (.ifCond .eq 15, 3) := by decide +kernel
theorem dX4_read_15 : decode cX4_read 15 = .ok (.iload_n 2, 1) := by decide +kernel
theorem dX4_read_16 : decode cX4_read 16 = .ok (.iconst 1, 1) := by decide +kernel
theorem dX4_read_17 : decode cX4_read 17 = .ok (.if_icmp .lt 10, 3) := by decide +kernel
theorem dX4_read_20 : decode cX4_read 20 = .ok (.iload_n 2, 1) := by decide +kernel
theorem dX4_read_21 : decode cX4_read 21 = .ok (.sipush 199, 3) := by decide +kernel
theorem dX4_read_24 : decode cX4_read 24 = .ok (.if_icmp .le 6, 3) := by decide +kernel
theorem dX4_read_27 : decode cX4_read 27 = .ok (.bipush (-102), 2) := by decide +kernel
theorem dX4_read_29 : decode cX4_read 29 = .ok (.ireturn, 1) := by decide +kernel
theorem dX4_read_30 : decode cX4_read 30 = .ok (.aload_n 0, 1) := by decide +kernel
theorem dX4_read_31 : decode cX4_read 31 = .ok (.getfield 33, 3) := by decide +kernel
theorem dX4_read_34 : decode cX4_read 34 = .ok (.getfield 206, 3) := by decide +kernel
theorem dX4_read_37 : decode cX4_read 37 = .ok (.bipush 8, 2) := by decide +kernel
theorem dX4_read_39 : decode cX4_read 39 = .ok (.if_icmp .lt 6, 3) := by decide +kernel
theorem dX4_read_42 : decode cX4_read 42 = .ok (.bipush (-104), 2) := by decide +kernel
theorem dX4_read_44 : decode cX4_read 44 = .ok (.ireturn, 1) := by decide +kernel
theorem dX4_read_45 : decode cX4_read 45 = .ok (.aload_n 0, 1) := by decide +kernel
theorem dX4_read_46 : decode cX4_read 46 = .ok (.getfield 19, 3) := by decide +kernel
theorem dX4_read_49 : decode cX4_read 49 = .ok (.iload_n 1, 1) := by decide +kernel
theorem dX4_read_50 : decode cX4_read 50 = .ok (.invokevirtual 207, 3) := by decide +kernel
theorem dX4_read_53 : decode cX4_read 53 = .ok (.istore_n 3, 1) := by decide +kernel
theorem dX4_read_54 : decode cX4_read 54 = .ok (.aload_n 0, 1) := by decide +kernel
theorem dX4_read_55 : decode cX4_read 55 = .ok (.getfield 33, 3) := by decide +kernel
theorem dX4_read_58 : decode cX4_read 58 = .ok (.iload_n 3, 1) := by decide +kernel
theorem dX4_read_59 : decode cX4_read 59 = .ok (.iload_n 2, 1) := by decide +kernel
theorem dX4_read_60 : decode cX4_read 60 = .ok (.aload_n 0, 1) := by decide +kernel
theorem dX4_read_61 : decode cX4_read 61 = .ok (.getfield 19, 3) := by decide +kernel
theorem dX4_read_64 : decode cX4_read 64 = .ok (.iload_n 1, 1) := by decide +kernel
theorem dX4_read_65 : decode cX4_read 65 = .ok (.invokevirtual 189, 3) := by decide +kernel
theorem dX4_read_68 : decode cX4_read 68 = .ok (.isub, 1) := by decide +kernel
theorem dX4_read_69 : decode cX4_read 69 = .ok (.aload_n 0, 1) := by decide +kernel
theorem dX4_read_70 : decode cX4_read 70 = .ok (.getfield 19, 3) := by decide +kernel
theorem dX4_read_73 : decode cX4_read 73 = .ok (.iload_n 3, 1) := by decide +kernel
theorem dX4_read_74 : decode cX4_read 74 = .ok (.invokevirtual 210, 3) := by decide +kernel
theorem dX4_read_77 : decode cX4_read 77 = .ok (.isub, 1) := by decide +kernel
theorem dX4_read_78 : decode cX4_read 78 = .ok (.invokevirtual 213, 3) := by decide +kernel
theorem dX4_read_81 : decode cX4_read 81 = .ok (.aload_n 0, 1) := by decide +kernel
theorem dX4_read_82 : decode cX4_read 82 = .ok (.getfield 33, 3) := by decide +kernel
theorem dX4_read_85 : decode cX4_read 85 = .ok (.getfield 206, 3) := by decide +kernel
theorem dX4_read_88 : decode cX4_read 88 = .ok (.ireturn, 1) := by decide +kernel
theorem dX4_wipe_0 : decode cX4_wipe 0 = .ok (.aload_n 0, 1) := by decide +kernel
theorem dX4_wipe_1 : decode cX4_wipe 1 = .ok (.getfield 33, 3) := by decide +kernel
theorem dX4_wipe_4 : decode cX4_wipe 4 = .ok (.getfield 206, 3) := by decide +kernel
theorem dX4_wipe_7 : decode cX4_wipe 7 = .ok (.istore_n 1, 1) := by decide +kernel
theorem dX4_wipe_8 : decode cX4_wipe 8 = .ok (.aload_n 0, 1) := by decide +kernel
theorem dX4_wipe_9 : decode cX4_wipe 9 = .ok (.getfield 33, 3) := by decide +kernel
theorem dX4_wipe_12 : decode cX4_wipe 12 = .ok (.iconst 0, 1) := by decide +kernel
theorem dX4_wipe_13 : decode cX4_wipe 13 = .ok (.putfield 206, 3) := by decide +kernel
theorem dX4_wipe_16 : decode cX4_wipe 16 = .ok (.iload_n 1, 1) := by decide +kernel
theorem dX4_wipe_17 : decode cX4_wipe 17 = .ok (.ireturn, 1) := by decide +kernel
theorem dX4_leaks_0 : decode cX4_leaks 0 = .ok (.iconst 0, 1) := by decide +kernel
theorem dX4_leaks_1 : decode cX4_leaks 1 = .ok (.istore_n 1, 1) := by decide +kernel
theorem dX4_leaks_2 : decode cX4_leaks 2 = .ok (.iconst 0, 1) := by decide +kernel
theorem dX4_leaks_3 : decode cX4_leaks 3 = .ok (.istore_n 2, 1) := by decide +kernel
theorem dX4_leaks_4 : decode cX4_leaks 4 = .ok (.iload_n 2, 1) := by decide +kernel
theorem dX4_leaks_5 : decode cX4_leaks 5 = .ok (.aload_n 0, 1) := by decide +kernel
theorem dX4_leaks_6 : decode cX4_leaks 6 = .ok (.getfield 19, 3) := by decide +kernel
theorem dX4_leaks_9 : decode cX4_leaks 9 = .ok (.getfield 58, 3) := by decide +kernel
theorem dX4_leaks_12 : decode cX4_leaks 12 = .ok (.if_icmp .ge 28, 3) := by decide +kernel
theorem dX4_leaks_15 : decode cX4_leaks 15 = .ok (.aload_n 0, 1) := by decide +kernel
theorem dX4_leaks_16 : decode cX4_leaks 16 = .ok (.getfield 33, 3) := by decide +kernel
theorem dX4_leaks_19 : decode cX4_leaks 19 = .ok (.iload_n 2, 1) := by decide +kernel
theorem dX4_leaks_20 : decode cX4_leaks 20 = .ok (.invokevirtual 216, 3) := by decide +kernel
theorem dX4_leaks_23 : decode cX4_leaks 23 = .ok (.iconst (-1), 1) := by decide +kernel
theorem dX4_leaks_24 : decode cX4_leaks 24 = .ok (.if_icmp .eq 10, 3) := by decide +kernel
theorem dX4_leaks_27 : decode cX4_leaks 27 = .ok (.iload_n 1, 1) := by decide +kernel
theorem dX4_leaks_28 : decode cX4_leaks 28 = .ok (.iload_n 2, 1) := by decide +kernel
theorem dX4_leaks_29 : decode cX4_leaks 29 = .ok (.invokestatic 136, 3) := by decide +kernel
theorem dX4_leaks_32 : decode cX4_leaks 32 = .ok (.ior, 1) := by decide +kernel
theorem dX4_leaks_33 : decode cX4_leaks 33 = .ok (.istore_n 1, 1) := by decide +kernel
theorem dX4_leaks_34 : decode cX4_leaks 34 = .ok (.iinc 2 1, 3) := by decide +kernel
theorem dX4_leaks_37 : decode cX4_leaks 37 = .ok (.goto (-33), 3) := by decide +kernel
theorem dX4_leaks_40 : decode cX4_leaks 40 = .ok (.iload_n 1, 1) := by decide +kernel
theorem dX4_leaks_41 : decode cX4_leaks 41 = .ok (.ireturn, 1) := by decide +kernel
theorem dX4_leak_0 : decode cX4_leak 0 = .ok (.aload_n 0, 1) := by decide +kernel
theorem dX4_leak_1 : decode cX4_leak 1 = .ok (.getfield 19, 3) := by decide +kernel
theorem dX4_leak_4 : decode cX4_leak 4 = .ok (.iload_n 1, 1) := by decide +kernel
theorem dX4_leak_5 : decode cX4_leak 5 = .ok (.invokevirtual 81, 3) := by decide +kernel
theorem dX4_leak_8 : decode cX4_leak 8 = .ok (.ifCond .eq 14, 3) := by decide +kernel
theorem dX4_leak_11 : decode cX4_leak 11 = .ok (.aload_n 0, 1) := by decide +kernel
theorem dX4_leak_12 : decode cX4_leak 12 = .ok (.getfield 33, 3) := by decide +kernel
theorem dX4_leak_15 : decode cX4_leak 15 = .ok (.iload_n 1, 1) := by decide +kernel
theorem dX4_leak_16 : decode cX4_leak 16 = .ok (.invokevirtual 216, 3) := by decide +kernel
theorem dX4_leak_19 : decode cX4_leak 19 = .ok (.goto 5, 3) := by decide +kernel
theorem dX4_leak_22 : decode cX4_leak 22 = .ok (.bipush (-101), 2) := by decide +kernel
theorem dX4_leak_24 : decode cX4_leak 24 = .ok (.ireturn, 1) := by decide +kernel
theorem dX4_look_0 : decode cX4_look 0 = .ok (.aload_n 0, 1) := by decide +kernel
theorem dX4_look_1 : decode cX4_look 1 = .ok (.invokevirtual 219, 3) := by decide +kernel
theorem dX4_look_4 : decode cX4_look 4 = .ok (.istore_n 1, 1) := by decide +kernel
theorem dX4_look_5 : decode cX4_look 5 = .ok (.iload_n 1, 1) := by decide +kernel
theorem dX4_look_6 : decode cX4_look 6 = .ok (.ifCond .ne 5, 3) := by decide +kernel
theorem dX4_look_9 : decode cX4_look 9 = .ok (.iconst (-1), 1) := by decide +kernel
theorem dX4_look_10 : decode cX4_look 10 = .ok (.ireturn, 1) := by decide +kernel
theorem dX4_look_11 : decode cX4_look 11 = .ok (.iconst (-1), 1) := by decide +kernel
theorem dX4_look_12 : decode cX4_look 12 = .ok (.istore_n 2, 1) := by decide +kernel
theorem dX4_look_13 : decode cX4_look 13 = .ok (.bipush 9, 2) := by decide +kernel
theorem dX4_look_15 : decode cX4_look 15 = .ok (.istore_n 3, 1) := by decide +kernel
theorem dX4_look_16 : decode cX4_look 16 = .ok (.iconst 1, 1) := by decide +kernel
theorem dX4_look_17 : decode cX4_look 17 = .ok (.istore 4, 2) := by decide +kernel
theorem dX4_look_19 : decode cX4_look 19 = .ok (.iload 4, 2) := by decide +kernel
theorem dX4_look_21 : decode cX4_look 21 = .ok (.aload_n 0, 1) := by decide +kernel
theorem dX4_look_22 : decode cX4_look 22 = .ok (.getfield 19, 3) := by decide +kernel
theorem dX4_look_25 : decode cX4_look 25 = .ok (.invokevirtual 222, 3) := by decide +kernel
theorem dX4_look_28 : decode cX4_look 28 = .ok (.if_icmp .gt 53, 3) := by decide +kernel
theorem dX4_look_31 : decode cX4_look 31 = .ok (.aload_n 0, 1) := by decide +kernel
theorem dX4_look_32 : decode cX4_look 32 = .ok (.getfield 19, 3) := by decide +kernel
theorem dX4_look_35 : decode cX4_look 35 = .ok (.iload 4, 2) := by decide +kernel
theorem dX4_look_37 : decode cX4_look 37 = .ok (.invokevirtual 207, 3) := by decide +kernel
theorem dX4_look_40 : decode cX4_look 40 = .ok (.istore 5, 2) := by decide +kernel
theorem dX4_look_42 : decode cX4_look 42 = .ok (.iload_n 1, 1) := by decide +kernel
end
section
theorem dX4_look_43 : decode cX4_look 43 = .ok (.iload 5, 2) := by decide +kernel
theorem dX4_look_45 : decode cX4_look 45 = .ok (.iand, 1) := by decide +kernel
theorem dX4_look_46 : decode cX4_look 46 = .ok (.invokestatic 225, 3) := by decide +kernel
theorem dX4_look_49 : decode cX4_look 49 = .ok (.iload_n 1, 1) := by decide +kernel
theorem dX4_look_50 : decode cX4_look 50 = .ok (.iload 5, 2) := by decide +kernel
theorem dX4_look_52 : decode cX4_look 52 = .ok (.iconst (-1), 1) := by decide +kernel
theorem dX4_look_53 : decode cX4_look 53 = .ok (.ixor, 1) := by decide +kernel
theorem dX4_look_54 : decode cX4_look 54 = .ok (.iand, 1) := by decide +kernel
theorem dX4_look_55 : decode cX4_look 55 = .ok (.invokestatic 225, 3) := by decide +kernel
theorem dX4_look_58 : decode cX4_look 58 = .ok (.invokestatic 230, 3) := by decide +kernel
theorem dX4_look_61 : decode cX4_look 61 = .ok (.istore 6, 2) := by decide +kernel
theorem dX4_look_63 : decode cX4_look 63 = .ok (.iload 6, 2) := by decide +kernel
theorem dX4_look_65 : decode cX4_look 65 = .ok (.iload_n 3, 1) := by decide +kernel
theorem dX4_look_66 : decode cX4_look 66 = .ok (.if_icmp .ge 9, 3) := by decide +kernel
theorem dX4_look_69 : decode cX4_look 69 = .ok (.iload 6, 2) := by decide +kernel
theorem dX4_look_71 : decode cX4_look 71 = .ok (.istore_n 3, 1) := by decide +kernel
theorem dX4_look_72 : decode cX4_look 72 = .ok (.iload 4, 2) := by decide +kernel
theorem dX4_look_74 : decode cX4_look 74 = .ok (.istore_n 2, 1) := by decide +kernel
theorem dX4_look_75 : decode cX4_look 75 = .ok (.iinc 4 1, 3) := by decide +kernel
theorem dX4_look_78 : decode cX4_look 78 = .ok (.goto (-59), 3) := by decide +kernel
theorem dX4_look_81 : decode cX4_look 81 = .ok (.iload_n 2, 1) := by decide +kernel
theorem dX4_look_82 : decode cX4_look 82 = .ok (.ireturn, 1) := by decide +kernel
theorem dX4_image_0 : decode cX4_image 0 = .ok (.aload_n 0, 1) := by decide +kernel
theorem dX4_image_1 : decode cX4_image 1 = .ok (.iconst 1, 1) := by decide +kernel
theorem dX4_image_2 : decode cX4_image 2 = .ok (.putfield 235, 3) := by decide +kernel
theorem dX4_image_5 : decode cX4_image 5 = .ok (.aload_n 0, 1) := by decide +kernel
theorem dX4_image_6 : decode cX4_image 6 = .ok (.aload_n 0, 1) := by decide +kernel
theorem dX4_image_7 : decode cX4_image 7 = .ok (.getfield 19, 3) := by decide +kernel
theorem dX4_image_10 : decode cX4_image 10 = .ok (.getfield 58, 3) := by decide +kernel
theorem dX4_image_13 : decode cX4_image 13 = .ok (.putfield 238, 3) := by decide +kernel
theorem dX4_image_16 : decode cX4_image 16 = .ok (.aload_n 0, 1) := by decide +kernel
theorem dX4_image_17 : decode cX4_image 17 = .ok (.getfield 40, 3) := by decide +kernel
theorem dX4_image_20 : decode cX4_image 20 = .ok (.aload_n 0, 1) := by decide +kernel
theorem dX4_image_21 : decode cX4_image 21 = .ok (.getfield 26, 3) := by decide +kernel
theorem dX4_image_24 : decode cX4_image 24 = .ok (.invokevirtual 192, 3) := by decide +kernel
theorem dX4_image_27 : decode cX4_image 27 = .ok (.aload_n 0, 1) := by decide +kernel
theorem dX4_image_28 : decode cX4_image 28 = .ok (.getfield 43, 3) := by decide +kernel
theorem dX4_image_31 : decode cX4_image 31 = .ok (.aload_n 0, 1) := by decide +kernel
theorem dX4_image_32 : decode cX4_image 32 = .ok (.getfield 33, 3) := by decide +kernel
theorem dX4_image_35 : decode cX4_image 35 = .ok (.invokevirtual 241, 3) := by decide +kernel
theorem dX4_image_38 : decode cX4_image 38 = .ok (.aload_n 0, 1) := by decide +kernel
theorem dX4_image_39 : decode cX4_image 39 = .ok (.getfield 26, 3) := by decide +kernel
theorem dX4_image_42 : decode cX4_image 42 = .ok (.getfield 133, 3) := by decide +kernel
theorem dX4_image_45 : decode cX4_image 45 = .ok (.ireturn, 1) := by decide +kernel
theorem dX4_restore_0 : decode cX4_restore 0 = .ok (.aload_n 0, 1) := by decide +kernel
theorem dX4_restore_1 : decode cX4_restore 1 = .ok (.getfield 235, 3) := by decide +kernel
theorem dX4_restore_4 : decode cX4_restore 4 = .ok (.ifCond .ne 6, 3) := by decide +kernel
theorem dX4_restore_7 : decode cX4_restore 7 = .ok (.bipush (-103), 2) := by decide +kernel
theorem dX4_restore_9 : decode cX4_restore 9 = .ok (.ireturn, 1) := by decide +kernel
theorem dX4_restore_10 : decode cX4_restore 10 = .ok (.aload_n 0, 1) := by decide +kernel
theorem dX4_restore_11 : decode cX4_restore 11 = .ok (.getfield 19, 3) := by decide +kernel
theorem dX4_restore_14 : decode cX4_restore 14 = .ok (.aload_n 0, 1) := by decide +kernel
theorem dX4_restore_15 : decode cX4_restore 15 = .ok (.getfield 238, 3) := by decide +kernel
theorem dX4_restore_18 : decode cX4_restore 18 = .ok (.putfield 58, 3) := by decide +kernel
theorem dX4_restore_21 : decode cX4_restore 21 = .ok (.aload_n 0, 1) := by decide +kernel
theorem dX4_restore_22 : decode cX4_restore 22 = .ok (.getfield 26, 3) := by decide +kernel
theorem dX4_restore_25 : decode cX4_restore 25 = .ok (.aload_n 0, 1) := by decide +kernel
theorem dX4_restore_26 : decode cX4_restore 26 = .ok (.getfield 40, 3) := by decide +kernel
theorem dX4_restore_29 : decode cX4_restore 29 = .ok (.invokevirtual 192, 3) := by decide +kernel
theorem dX4_restore_32 : decode cX4_restore 32 = .ok (.aload_n 0, 1) := by decide +kernel
theorem dX4_restore_33 : decode cX4_restore 33 = .ok (.getfield 33, 3) := by decide +kernel
theorem dX4_restore_36 : decode cX4_restore 36 = .ok (.aload_n 0, 1) := by decide +kernel
theorem dX4_restore_37 : decode cX4_restore 37 = .ok (.getfield 43, 3) := by decide +kernel
theorem dX4_restore_40 : decode cX4_restore 40 = .ok (.invokevirtual 241, 3) := by decide +kernel
theorem dX4_restore_43 : decode cX4_restore 43 = .ok (.aload_n 0, 1) := by decide +kernel
theorem dX4_restore_44 : decode cX4_restore 44 = .ok (.getfield 26, 3) := by decide +kernel
theorem dX4_restore_47 : decode cX4_restore 47 = .ok (.getfield 133, 3) := by decide +kernel
theorem dX4_restore_50 : decode cX4_restore 50 = .ok (.ireturn, 1) := by decide +kernel
theorem dX4_count_0 : decode cX4_count 0 = .ok (.iload_n 1, 1) := by decide +kernel
theorem dX4_count_1 : decode cX4_count 1 = .ok (.tableswitch 141 0 9 #[55, 63, 71, 79, 87, 95, 103, 114, 125, 133], 55) := by decide +kernel
theorem dX4_count_56 : decode cX4_count 56 = .ok (.aload_n 0, 1) := by decide +kernel
theorem dX4_count_57 : decode cX4_count 57 = .ok (.getfield 19, 3) := by decide +kernel
theorem dX4_count_60 : decode cX4_count 60 = .ok (.getfield 58, 3) := by decide +kernel
theorem dX4_count_63 : decode cX4_count 63 = .ok (.ireturn, 1) := by decide +kernel
theorem dX4_count_64 : decode cX4_count 64 = .ok (.aload_n 0, 1) := by decide +kernel
theorem dX4_count_65 : decode cX4_count 65 = .ok (.getfield 26, 3) := by decide +kernel
theorem dX4_count_68 : decode cX4_count 68 = .ok (.getfield 131, 3) := by decide +kernel
theorem dX4_count_71 : decode cX4_count 71 = .ok (.ireturn, 1) := by decide +kernel
theorem dX4_count_72 : decode cX4_count 72 = .ok (.aload_n 0, 1) := by decide +kernel
theorem dX4_count_73 : decode cX4_count 73 = .ok (.getfield 26, 3) := by decide +kernel
theorem dX4_count_76 : decode cX4_count 76 = .ok (.getfield 133, 3) := by decide +kernel
theorem dX4_count_79 : decode cX4_count 79 = .ok (.ireturn, 1) := by decide +kernel
theorem dX4_count_80 : decode cX4_count 80 = .ok (.aload_n 0, 1) := by decide +kernel
theorem dX4_count_81 : decode cX4_count 81 = .ok (.getfield 26, 3) := by decide +kernel
theorem dX4_count_84 : decode cX4_count 84 = .ok (.getfield 183, 3) := by decide +kernel
theorem dX4_count_87 : decode cX4_count 87 = .ok (.ireturn, 1) := by decide +kernel
theorem dX4_count_88 : decode cX4_count 88 = .ok (.aload_n 0, 1) := by decide +kernel
theorem dX4_count_89 : decode cX4_count 89 = .ok (.getfield 26, 3) := by decide +kernel
theorem dX4_count_92 : decode cX4_count 92 = .ok (.getfield 203, 3) := by decide +kernel
theorem dX4_count_95 : decode cX4_count 95 = .ok (.ireturn, 1) := by decide +kernel
theorem dX4_count_96 : decode cX4_count 96 = .ok (.aload_n 0, 1) := by decide +kernel
theorem dX4_count_97 : decode cX4_count 97 = .ok (.getfield 26, 3) := by decide +kernel
theorem dX4_count_100 : decode cX4_count 100 = .ok (.getfield 244, 3) := by decide +kernel
theorem dX4_count_103 : decode cX4_count 103 = .ok (.ireturn, 1) := by decide +kernel
theorem dX4_count_104 : decode cX4_count 104 = .ok (.aload_n 0, 1) := by decide +kernel
theorem dX4_count_105 : decode cX4_count 105 = .ok (.getfield 26, 3) := by decide +kernel
theorem dX4_count_108 : decode cX4_count 108 = .ok (.getfield 196, 3) := by decide +kernel
theorem dX4_count_111 : decode cX4_count 111 = .ok (.invokestatic 116, 3) := by decide +kernel
theorem dX4_count_114 : decode cX4_count 114 = .ok (.ireturn, 1) := by decide +kernel
theorem dX4_count_115 : decode cX4_count 115 = .ok (.aload_n 0, 1) := by decide +kernel
theorem dX4_count_116 : decode cX4_count 116 = .ok (.getfield 26, 3) := by decide +kernel
theorem dX4_count_119 : decode cX4_count 119 = .ok (.getfield 139, 3) := by decide +kernel
theorem dX4_count_122 : decode cX4_count 122 = .ok (.invokestatic 116, 3) := by decide +kernel
theorem dX4_count_125 : decode cX4_count 125 = .ok (.ireturn, 1) := by decide +kernel
theorem dX4_count_126 : decode cX4_count 126 = .ok (.aload_n 0, 1) := by decide +kernel
theorem dX4_count_127 : decode cX4_count 127 = .ok (.getfield 33, 3) := by decide +kernel
theorem dX4_count_130 : decode cX4_count 130 = .ok (.getfield 206, 3) := by decide +kernel
theorem dX4_count_133 : decode cX4_count 133 = .ok (.ireturn, 1) := by decide +kernel
theorem dX4_count_134 : decode cX4_count 134 = .ok (.aload_n 0, 1) := by decide +kernel
theorem dX4_count_135 : decode cX4_count 135 = .ok (.getfield 10, 3) := by decide +kernel
theorem dX4_count_138 : decode cX4_count 138 = .ok (.getfield 50, 3) := by decide +kernel
theorem dX4_count_141 : decode cX4_count 141 = .ok (.ireturn, 1) := by decide +kernel
theorem dX4_count_142 : decode cX4_count 142 = .ok (.bipush (-102), 2) := by decide +kernel
theorem dX4_count_144 : decode cX4_count 144 = .ok (.ireturn, 1) := by decide +kernel
theorem dX4_digest_0 : decode cX4_digest 0 = .ok (.aload_n 0, 1) := by decide +kernel
theorem dX4_digest_1 : decode cX4_digest 1 = .ok (.ldc2_w 247, 3) := by decide +kernel
theorem dX4_digest_4 : decode cX4_digest 4 = .ok (.invokevirtual 249, 3) := by decide +kernel
theorem dX4_digest_7 : decode cX4_digest 7 = .ok (.lstore_n 1, 1) := by decide +kernel
theorem dX4_digest_8 : decode cX4_digest 8 = .ok (.ldc2_w 253, 3) := by decide +kernel
theorem dX4_digest_11 : decode cX4_digest 11 = .ok (.lload_n 1, 1) := by decide +kernel
theorem dX4_digest_12 : decode cX4_digest 12 = .ok (.lmul, 1) := by decide +kernel
theorem dX4_digest_13 : decode cX4_digest 13 = .ok (.aload_n 0, 1) := by decide +kernel
theorem dX4_digest_14 : decode cX4_digest 14 = .ok (.invokevirtual 255, 3) := by decide +kernel
theorem dX4_digest_17 : decode cX4_digest 17 = .ok (.i2l, 1) := by decide +kernel
theorem dX4_digest_18 : decode cX4_digest 18 = .ok (.ladd, 1) := by decide +kernel
theorem dX4_digest_19 : decode cX4_digest 19 = .ok (.lstore_n 1, 1) := by decide +kernel
theorem dX4_digest_20 : decode cX4_digest 20 = .ok (.ldc2_w 253, 3) := by decide +kernel
theorem dX4_digest_23 : decode cX4_digest 23 = .ok (.lload_n 1, 1) := by decide +kernel
theorem dX4_digest_24 : decode cX4_digest 24 = .ok (.lmul, 1) := by decide +kernel
theorem dX4_digest_25 : decode cX4_digest 25 = .ok (.aload_n 0, 1) := by decide +kernel
theorem dX4_digest_26 : decode cX4_digest 26 = .ok (.aload_n 0, 1) := by decide +kernel
theorem dX4_digest_27 : decode cX4_digest 27 = .ok (.getfield 19, 3) := by decide +kernel
theorem dX4_digest_30 : decode cX4_digest 30 = .ok (.invokevirtual 222, 3) := by decide +kernel
theorem dX4_digest_33 : decode cX4_digest 33 = .ok (.invokevirtual 257, 3) := by decide +kernel
theorem dX4_digest_36 : decode cX4_digest 36 = .ok (.i2l, 1) := by decide +kernel
theorem dX4_digest_37 : decode cX4_digest 37 = .ok (.ladd, 1) := by decide +kernel
theorem dX4_digest_38 : decode cX4_digest 38 = .ok (.lstore_n 1, 1) := by decide +kernel
theorem dX4_digest_39 : decode cX4_digest 39 = .ok (.aload_n 0, 1) := by decide +kernel
theorem dX4_digest_40 : decode cX4_digest 40 = .ok (.invokevirtual 176, 3) := by decide +kernel
theorem dX4_digest_43 : decode cX4_digest 43 = .ok (.istore_n 3, 1) := by decide +kernel
theorem dX4_digest_44 : decode cX4_digest 44 = .ok (.ldc2_w 253, 3) := by decide +kernel
theorem dX4_digest_47 : decode cX4_digest 47 = .ok (.lload_n 1, 1) := by decide +kernel
theorem dX4_digest_48 : decode cX4_digest 48 = .ok (.lmul, 1) := by decide +kernel
theorem dX4_digest_49 : decode cX4_digest 49 = .ok (.aload_n 0, 1) := by decide +kernel
theorem dX4_digest_50 : decode cX4_digest 50 = .ok (.aload_n 0, 1) := by decide +kernel
theorem dX4_digest_51 : decode cX4_digest 51 = .ok (.getfield 26, 3) := by decide +kernel
theorem dX4_digest_54 : decode cX4_digest 54 = .ok (.getfield 133, 3) := by decide +kernel
theorem dX4_digest_57 : decode cX4_digest 57 = .ok (.iload_n 3, 1) := by decide +kernel
theorem dX4_digest_58 : decode cX4_digest 58 = .ok (.invokevirtual 179, 3) := by decide +kernel
theorem dX4_digest_61 : decode cX4_digest 61 = .ok (.i2l, 1) := by decide +kernel
theorem dX4_digest_62 : decode cX4_digest 62 = .ok (.ladd, 1) := by decide +kernel
theorem dX4_digest_63 : decode cX4_digest 63 = .ok (.lstore_n 1, 1) := by decide +kernel
theorem dX4_digest_64 : decode cX4_digest 64 = .ok (.ldc2_w 253, 3) := by decide +kernel
theorem dX4_digest_67 : decode cX4_digest 67 = .ok (.lload_n 1, 1) := by decide +kernel
theorem dX4_digest_68 : decode cX4_digest 68 = .ok (.lmul, 1) := by decide +kernel
theorem dX4_digest_69 : decode cX4_digest 69 = .ok (.iload_n 3, 1) := by decide +kernel
theorem dX4_digest_70 : decode cX4_digest 70 = .ok (.i2l, 1) := by decide +kernel
theorem dX4_digest_71 : decode cX4_digest 71 = .ok (.ladd, 1) := by decide +kernel
theorem dX4_digest_72 : decode cX4_digest 72 = .ok (.lstore_n 1, 1) := by decide +kernel
theorem dX4_digest_73 : decode cX4_digest 73 = .ok (.ldc2_w 253, 3) := by decide +kernel
theorem dX4_digest_76 : decode cX4_digest 76 = .ok (.lload_n 1, 1) := by decide +kernel
theorem dX4_digest_77 : decode cX4_digest 77 = .ok (.lmul, 1) := by decide +kernel
theorem dX4_digest_78 : decode cX4_digest 78 = .ok (.aload_n 0, 1) := by decide +kernel
theorem dX4_digest_79 : decode cX4_digest 79 = .ok (.bipush 9, 2) := by decide +kernel
theorem dX4_digest_81 : decode cX4_digest 81 = .ok (.invokevirtual 260, 3) := by decide +kernel
theorem dX4_digest_84 : decode cX4_digest 84 = .ok (.i2l, 1) := by decide +kernel
theorem dX4_digest_85 : decode cX4_digest 85 = .ok (.ladd, 1) := by decide +kernel
theorem dX4_digest_86 : decode cX4_digest 86 = .ok (.lstore_n 1, 1) := by decide +kernel
theorem dX4_digest_87 : decode cX4_digest 87 = .ok (.ldc2_w 253, 3) := by decide +kernel
theorem dX4_digest_90 : decode cX4_digest 90 = .ok (.lload_n 1, 1) := by decide +kernel
theorem dX4_digest_91 : decode cX4_digest 91 = .ok (.lmul, 1) := by decide +kernel
theorem dX4_digest_92 : decode cX4_digest 92 = .ok (.aload_n 0, 1) := by decide +kernel
theorem dX4_digest_93 : decode cX4_digest 93 = .ok (.invokevirtual 219, 3) := by decide +kernel
theorem dX4_digest_96 : decode cX4_digest 96 = .ok (.i2l, 1) := by decide +kernel
theorem dX4_digest_97 : decode cX4_digest 97 = .ok (.ladd, 1) := by decide +kernel
theorem dX4_digest_98 : decode cX4_digest 98 = .ok (.lstore_n 1, 1) := by decide +kernel
theorem dX4_digest_99 : decode cX4_digest 99 = .ok (.ldc2_w 253, 3) := by decide +kernel
theorem dX4_digest_102 : decode cX4_digest 102 = .ok (.lload_n 1, 1) := by decide +kernel
theorem dX4_digest_103 : decode cX4_digest 103 = .ok (.lmul, 1) := by decide +kernel
theorem dX4_digest_104 : decode cX4_digest 104 = .ok (.aload_n 0, 1) := by decide +kernel
theorem dX4_digest_105 : decode cX4_digest 105 = .ok (.invokevirtual 263, 3) := by decide +kernel
theorem dX4_digest_108 : decode cX4_digest 108 = .ok (.i2l, 1) := by decide +kernel
theorem dX4_digest_109 : decode cX4_digest 109 = .ok (.ladd, 1) := by decide +kernel
theorem dX4_digest_110 : decode cX4_digest 110 = .ok (.lstore_n 1, 1) := by decide +kernel
theorem dX4_digest_111 : decode cX4_digest 111 = .ok (.iconst 0, 1) := by decide +kernel
theorem dX4_digest_112 : decode cX4_digest 112 = .ok (.istore 4, 2) := by decide +kernel
theorem dX4_digest_114 : decode cX4_digest 114 = .ok (.iload 4, 2) := by decide +kernel
theorem dX4_digest_116 : decode cX4_digest 116 = .ok (.aload_n 0, 1) := by decide +kernel
theorem dX4_digest_117 : decode cX4_digest 117 = .ok (.getfield 10, 3) := by decide +kernel
theorem dX4_digest_120 : decode cX4_digest 120 = .ok (.getfield 50, 3) := by decide +kernel
theorem dX4_digest_123 : decode cX4_digest 123 = .ok (.if_icmp .ge 27, 3) := by decide +kernel
theorem dX4_digest_126 : decode cX4_digest 126 = .ok (.ldc2_w 253, 3) := by decide +kernel
theorem dX4_digest_129 : decode cX4_digest 129 = .ok (.lload_n 1, 1) := by decide +kernel
theorem dX4_digest_130 : decode cX4_digest 130 = .ok (.lmul, 1) := by decide +kernel
theorem dX4_digest_131 : decode cX4_digest 131 = .ok (.aload_n 0, 1) := by decide +kernel
theorem dX4_digest_132 : decode cX4_digest 132 = .ok (.getfield 10, 3) := by decide +kernel
theorem dX4_digest_135 : decode cX4_digest 135 = .ok (.getfield 266, 3) := by decide +kernel
theorem dX4_digest_138 : decode cX4_digest 138 = .ok (.iload 4, 2) := by decide +kernel
theorem dX4_digest_140 : decode cX4_digest 140 = .ok (.iaload, 1) := by decide +kernel
theorem dX4_digest_141 : decode cX4_digest 141 = .ok (.i2l, 1) := by decide +kernel
theorem dX4_digest_142 : decode cX4_digest 142 = .ok (.ladd, 1) := by decide +kernel
theorem dX4_digest_143 : decode cX4_digest 143 = .ok (.lstore_n 1, 1) := by decide +kernel
theorem dX4_digest_144 : decode cX4_digest 144 = .ok (.iinc 4 1, 3) := by decide +kernel
theorem dX4_digest_147 : decode cX4_digest 147 = .ok (.goto (-33), 3) := by decide +kernel
theorem dX4_digest_150 : decode cX4_digest 150 = .ok (.iconst 0, 1) := by decide +kernel
theorem dX4_digest_151 : decode cX4_digest 151 = .ok (.istore 4, 2) := by decide +kernel
theorem dX4_digest_153 : decode cX4_digest 153 = .ok (.iload 4, 2) := by decide +kernel
theorem dX4_digest_155 : decode cX4_digest 155 = .ok (.bipush 9, 2) := by decide +kernel
theorem dX4_digest_157 : decode cX4_digest 157 = .ok (.if_icmp .gt 23, 3) := by decide +kernel
theorem dX4_digest_160 : decode cX4_digest 160 = .ok (.ldc2_w 253, 3) := by decide +kernel
theorem dX4_digest_163 : decode cX4_digest 163 = .ok (.lload_n 1, 1) := by decide +kernel
theorem dX4_digest_164 : decode cX4_digest 164 = .ok (.lmul, 1) := by decide +kernel
theorem dX4_digest_165 : decode cX4_digest 165 = .ok (.aload_n 0, 1) := by decide +kernel
theorem dX4_digest_166 : decode cX4_digest 166 = .ok (.iload 4, 2) := by decide +kernel
theorem dX4_digest_168 : decode cX4_digest 168 = .ok (.invokevirtual 269, 3) := by decide +kernel
theorem dX4_digest_171 : decode cX4_digest 171 = .ok (.i2l, 1) := by decide +kernel
theorem dX4_digest_172 : decode cX4_digest 172 = .ok (.ladd, 1) := by decide +kernel
theorem dX4_digest_173 : decode cX4_digest 173 = .ok (.lstore_n 1, 1) := by decide +kernel
theorem dX4_digest_174 : decode cX4_digest 174 = .ok (.iinc 4 1, 3) := by decide +kernel
theorem dX4_digest_177 : decode cX4_digest 177 = .ok (.goto (-24), 3) := by decide +kernel
theorem dX4_digest_180 : decode cX4_digest 180 = .ok (.lload_n 1, 1) := by decide +kernel
theorem dX4_digest_181 : decode cX4_digest 181 = .ok (.lreturn, 1) := by decide +kernel
theorem dX4_digestOfHouses_0 : decode cX4_digestOfHouses 0 = .ok (.lload_n 1, 1) := by decide +kernel
theorem dX4_digestOfHouses_1 : decode cX4_digestOfHouses 1 = .ok (.lstore_n 3, 1) := by decide +kernel
theorem dX4_digestOfHouses_2 : decode cX4_digestOfHouses 2 = .ok (.iconst 0, 1) := by decide +kernel
theorem dX4_digestOfHouses_3 : decode cX4_digestOfHouses 3 = .ok (.istore 5, 2) := by decide +kernel
theorem dX4_digestOfHouses_5 : decode cX4_digestOfHouses 5 = .ok (.iload 5, 2) := by decide +kernel
theorem dX4_digestOfHouses_7 : decode cX4_digestOfHouses 7 = .ok (.aload_n 0, 1) := by decide +kernel
theorem dX4_digestOfHouses_8 : decode cX4_digestOfHouses 8 = .ok (.getfield 19, 3) := by decide +kernel
theorem dX4_digestOfHouses_11 : decode cX4_digestOfHouses 11 = .ok (.getfield 58, 3) := by decide +kernel
theorem dX4_digestOfHouses_14 : decode cX4_digestOfHouses 14 = .ok (.if_icmp .ge 83, 3) := by decide +kernel
theorem dX4_digestOfHouses_17 : decode cX4_digestOfHouses 17 = .ok (.iconst 0, 1) := by decide +kernel
theorem dX4_digestOfHouses_18 : decode cX4_digestOfHouses 18 = .ok (.istore 6, 2) := by decide +kernel
theorem dX4_digestOfHouses_20 : decode cX4_digestOfHouses 20 = .ok (.iload 6, 2) := by decide +kernel
theorem dX4_digestOfHouses_22 : decode cX4_digestOfHouses 22 = .ok (.bipush 8, 2) := by decide +kernel
theorem dX4_digestOfHouses_24 : decode cX4_digestOfHouses 24 = .ok (.if_icmp .gt 25, 3) := by decide +kernel
theorem dX4_digestOfHouses_27 : decode cX4_digestOfHouses 27 = .ok (.ldc2_w 253, 3) := by decide +kernel
theorem dX4_digestOfHouses_30 : decode cX4_digestOfHouses 30 = .ok (.lload_n 3, 1) := by decide +kernel
theorem dX4_digestOfHouses_31 : decode cX4_digestOfHouses 31 = .ok (.lmul, 1) := by decide +kernel
theorem dX4_digestOfHouses_32 : decode cX4_digestOfHouses 32 = .ok (.aload_n 0, 1) := by decide +kernel
theorem dX4_digestOfHouses_33 : decode cX4_digestOfHouses 33 = .ok (.iload 5, 2) := by decide +kernel
theorem dX4_digestOfHouses_35 : decode cX4_digestOfHouses 35 = .ok (.iload 6, 2) := by decide +kernel
theorem dX4_digestOfHouses_37 : decode cX4_digestOfHouses 37 = .ok (.invokevirtual 272, 3) := by decide +kernel
theorem dX4_digestOfHouses_40 : decode cX4_digestOfHouses 40 = .ok (.i2l, 1) := by decide +kernel
theorem dX4_digestOfHouses_41 : decode cX4_digestOfHouses 41 = .ok (.ladd, 1) := by decide +kernel
theorem dX4_digestOfHouses_42 : decode cX4_digestOfHouses 42 = .ok (.lstore_n 3, 1) := by decide +kernel
theorem dX4_digestOfHouses_43 : decode cX4_digestOfHouses 43 = .ok (.iinc 6 1, 3) := by decide +kernel
theorem dX4_digestOfHouses_46 : decode cX4_digestOfHouses 46 = .ok (.goto (-26), 3) := by decide +kernel
theorem dX4_digestOfHouses_49 : decode cX4_digestOfHouses 49 = .ok (.ldc2_w 253, 3) := by decide +kernel
theorem dX4_digestOfHouses_52 : decode cX4_digestOfHouses 52 = .ok (.lload_n 3, 1) := by decide +kernel
theorem dX4_digestOfHouses_53 : decode cX4_digestOfHouses 53 = .ok (.lmul, 1) := by decide +kernel
theorem dX4_digestOfHouses_54 : decode cX4_digestOfHouses 54 = .ok (.aload_n 0, 1) := by decide +kernel
theorem dX4_digestOfHouses_55 : decode cX4_digestOfHouses 55 = .ok (.iload 5, 2) := by decide +kernel
theorem dX4_digestOfHouses_57 : decode cX4_digestOfHouses 57 = .ok (.invokevirtual 275, 3) := by decide +kernel
theorem dX4_digestOfHouses_60 : decode cX4_digestOfHouses 60 = .ok (.i2l, 1) := by decide +kernel
theorem dX4_digestOfHouses_61 : decode cX4_digestOfHouses 61 = .ok (.ladd, 1) := by decide +kernel
theorem dX4_digestOfHouses_62 : decode cX4_digestOfHouses 62 = .ok (.lstore_n 3, 1) := by decide +kernel
theorem dX4_digestOfHouses_63 : decode cX4_digestOfHouses 63 = .ok (.ldc2_w 253, 3) := by decide +kernel
theorem dX4_digestOfHouses_66 : decode cX4_digestOfHouses 66 = .ok (.lload_n 3, 1) := by decide +kernel
theorem dX4_digestOfHouses_67 : decode cX4_digestOfHouses 67 = .ok (.lmul, 1) := by decide +kernel
theorem dX4_digestOfHouses_68 : decode cX4_digestOfHouses 68 = .ok (.aload_n 0, 1) := by decide +kernel
theorem dX4_digestOfHouses_69 : decode cX4_digestOfHouses 69 = .ok (.iload 5, 2) := by decide +kernel
theorem dX4_digestOfHouses_71 : decode cX4_digestOfHouses 71 = .ok (.invokevirtual 278, 3) := by decide +kernel
theorem dX4_digestOfHouses_74 : decode cX4_digestOfHouses 74 = .ok (.i2l, 1) := by decide +kernel
theorem dX4_digestOfHouses_75 : decode cX4_digestOfHouses 75 = .ok (.ladd, 1) := by decide +kernel
theorem dX4_digestOfHouses_76 : decode cX4_digestOfHouses 76 = .ok (.lstore_n 3, 1) := by decide +kernel
theorem dX4_digestOfHouses_77 : decode cX4_digestOfHouses 77 = .ok (.ldc2_w 253, 3) := by decide +kernel
theorem dX4_digestOfHouses_80 : decode cX4_digestOfHouses 80 = .ok (.lload_n 3, 1) := by decide +kernel
theorem dX4_digestOfHouses_81 : decode cX4_digestOfHouses 81 = .ok (.lmul, 1) := by decide +kernel
theorem dX4_digestOfHouses_82 : decode cX4_digestOfHouses 82 = .ok (.aload_n 0, 1) := by decide +kernel
theorem dX4_digestOfHouses_83 : decode cX4_digestOfHouses 83 = .ok (.iload 5, 2) := by decide +kernel
theorem dX4_digestOfHouses_85 : decode cX4_digestOfHouses 85 = .ok (.invokevirtual 281, 3) := by decide +kernel
theorem dX4_digestOfHouses_88 : decode cX4_digestOfHouses 88 = .ok (.i2l, 1) := by decide +kernel
theorem dX4_digestOfHouses_89 : decode cX4_digestOfHouses 89 = .ok (.ladd, 1) := by decide +kernel
theorem dX4_digestOfHouses_90 : decode cX4_digestOfHouses 90 = .ok (.lstore_n 3, 1) := by decide +kernel
theorem dX4_digestOfHouses_91 : decode cX4_digestOfHouses 91 = .ok (.iinc 5 1, 3) := by decide +kernel
theorem dX4_digestOfHouses_94 : decode cX4_digestOfHouses 94 = .ok (.goto (-89), 3) := by decide +kernel
theorem dX4_digestOfHouses_97 : decode cX4_digestOfHouses 97 = .ok (.lload_n 3, 1) := by decide +kernel
theorem dX4_digestOfHouses_98 : decode cX4_digestOfHouses 98 = .ok (.lreturn, 1) := by decide +kernel
theorem dX4_bestBrakes_0 : decode cX4_bestBrakes 0 = .ok (.iconst 0, 1) := by decide +kernel
theorem dX4_bestBrakes_1 : decode cX4_bestBrakes 1 = .ok (.istore_n 1, 1) := by decide +kernel
theorem dX4_bestBrakes_2 : decode cX4_bestBrakes 2 = .ok (.aload_n 0, 1) := by decide +kernel
theorem dX4_bestBrakes_3 : decode cX4_bestBrakes 3 = .ok (.aload_n 0, 1) := by decide +kernel
theorem dX4_bestBrakes_4 : decode cX4_bestBrakes 4 = .ok (.getfield 26, 3) := by decide +kernel
theorem dX4_bestBrakes_7 : decode cX4_bestBrakes 7 = .ok (.getfield 133, 3) := by decide +kernel
theorem dX4_bestBrakes_10 : decode cX4_bestBrakes 10 = .ok (.iconst 0, 1) := by decide +kernel
theorem dX4_bestBrakes_11 : decode cX4_bestBrakes 11 = .ok (.invokevirtual 179, 3) := by decide +kernel
theorem dX4_bestBrakes_14 : decode cX4_bestBrakes 14 = .ok (.istore_n 2, 1) := by decide +kernel
theorem dX4_bestBrakes_15 : decode cX4_bestBrakes 15 = .ok (.iconst 1, 1) := by decide +kernel
theorem dX4_bestBrakes_16 : decode cX4_bestBrakes 16 = .ok (.istore_n 3, 1) := by decide +kernel
theorem dX4_bestBrakes_17 : decode cX4_bestBrakes 17 = .ok (.iload_n 3, 1) := by decide +kernel
theorem dX4_bestBrakes_18 : decode cX4_bestBrakes 18 = .ok (.aload_n 0, 1) := by decide +kernel
theorem dX4_bestBrakes_19 : decode cX4_bestBrakes 19 = .ok (.getfield 19, 3) := by decide +kernel
theorem dX4_bestBrakes_22 : decode cX4_bestBrakes 22 = .ok (.invokevirtual 222, 3) := by decide +kernel
theorem dX4_bestBrakes_25 : decode cX4_bestBrakes 25 = .ok (.if_icmp .gt 63, 3) := by decide +kernel
theorem dX4_bestBrakes_28 : decode cX4_bestBrakes 28 = .ok (.aload_n 0, 1) := by decide +kernel
theorem dX4_bestBrakes_29 : decode cX4_bestBrakes 29 = .ok (.aload_n 0, 1) := by decide +kernel
theorem dX4_bestBrakes_30 : decode cX4_bestBrakes 30 = .ok (.getfield 26, 3) := by decide +kernel
theorem dX4_bestBrakes_33 : decode cX4_bestBrakes 33 = .ok (.getfield 133, 3) := by decide +kernel
theorem dX4_bestBrakes_36 : decode cX4_bestBrakes 36 = .ok (.iload_n 3, 1) := by decide +kernel
theorem dX4_bestBrakes_37 : decode cX4_bestBrakes 37 = .ok (.invokevirtual 179, 3) := by decide +kernel
theorem dX4_bestBrakes_40 : decode cX4_bestBrakes 40 = .ok (.istore 4, 2) := by decide +kernel
theorem dX4_bestBrakes_42 : decode cX4_bestBrakes 42 = .ok (.iload_n 3, 1) := by decide +kernel
theorem dX4_bestBrakes_43 : decode cX4_bestBrakes 43 = .ok (.invokestatic 225, 3) := by decide +kernel
theorem dX4_bestBrakes_46 : decode cX4_bestBrakes 46 = .ok (.iload_n 1, 1) := by decide +kernel
theorem dX4_bestBrakes_47 : decode cX4_bestBrakes 47 = .ok (.invokestatic 225, 3) := by decide +kernel
theorem dX4_bestBrakes_50 : decode cX4_bestBrakes 50 = .ok (.if_icmp .ge 7, 3) := by decide +kernel
theorem dX4_bestBrakes_53 : decode cX4_bestBrakes 53 = .ok (.iconst 1, 1) := by decide +kernel
theorem dX4_bestBrakes_54 : decode cX4_bestBrakes 54 = .ok (.goto 4, 3) := by decide +kernel
theorem dX4_bestBrakes_57 : decode cX4_bestBrakes 57 = .ok (.iconst 0, 1) := by decide +kernel
theorem dX4_bestBrakes_58 : decode cX4_bestBrakes 58 = .ok (.istore 5, 2) := by decide +kernel
theorem dX4_bestBrakes_60 : decode cX4_bestBrakes 60 = .ok (.iload 4, 2) := by decide +kernel
theorem dX4_bestBrakes_62 : decode cX4_bestBrakes 62 = .ok (.iload_n 2, 1) := by decide +kernel
theorem dX4_bestBrakes_63 : decode cX4_bestBrakes 63 = .ok (.if_icmp .gt 14, 3) := by decide +kernel
theorem dX4_bestBrakes_66 : decode cX4_bestBrakes 66 = .ok (.iload 4, 2) := by decide +kernel
theorem dX4_bestBrakes_68 : decode cX4_bestBrakes 68 = .ok (.iload_n 2, 1) := by decide +kernel
theorem dX4_bestBrakes_69 : decode cX4_bestBrakes 69 = .ok (.if_icmp .ne 13, 3) := by decide +kernel
theorem dX4_bestBrakes_72 : decode cX4_bestBrakes 72 = .ok (.iload 5, 2) := by decide +kernel
theorem dX4_bestBrakes_74 : decode cX4_bestBrakes 74 = .ok (.ifCond .eq 8, 3) := by decide +kernel
theorem dX4_bestBrakes_77 : decode cX4_bestBrakes 77 = .ok (.iload 4, 2) := by decide +kernel
theorem dX4_bestBrakes_79 : decode cX4_bestBrakes 79 = .ok (.istore_n 2, 1) := by decide +kernel
theorem dX4_bestBrakes_80 : decode cX4_bestBrakes 80 = .ok (.iload_n 3, 1) := by decide +kernel
theorem dX4_bestBrakes_81 : decode cX4_bestBrakes 81 = .ok (.istore_n 1, 1) := by decide +kernel
theorem dX4_bestBrakes_82 : decode cX4_bestBrakes 82 = .ok (.iinc 3 1, 3) := by decide +kernel
theorem dX4_bestBrakes_85 : decode cX4_bestBrakes 85 = .ok (.goto (-68), 3) := by decide +kernel
theorem dX4_bestBrakes_88 : decode cX4_bestBrakes 88 = .ok (.iload_n 1, 1) := by decide +kernel
theorem dX4_bestBrakes_89 : decode cX4_bestBrakes 89 = .ok (.ireturn, 1) := by decide +kernel
theorem dX4_takenAhead_0 : decode cX4_takenAhead 0 = .ok (.aload_n 0, 1) := by decide +kernel
theorem dX4_takenAhead_1 : decode cX4_takenAhead 1 = .ok (.getfield 37, 3) := by decide +kernel
theorem dX4_takenAhead_4 : decode cX4_takenAhead 4 = .ok (.aload_n 0, 1) := by decide +kernel
theorem dX4_takenAhead_5 : decode cX4_takenAhead 5 = .ok (.getfield 26, 3) := by decide +kernel
theorem dX4_takenAhead_8 : decode cX4_takenAhead 8 = .ok (.invokevirtual 192, 3) := by decide +kernel
theorem dX4_takenAhead_11 : decode cX4_takenAhead 11 = .ok (.aload_n 0, 1) := by decide +kernel
theorem dX4_takenAhead_12 : decode cX4_takenAhead 12 = .ok (.getfield 37, 3) := by decide +kernel
theorem dX4_takenAhead_15 : decode cX4_takenAhead 15 = .ok (.iload_n 1, 1) := by decide +kernel
theorem dX4_takenAhead_16 : decode cX4_takenAhead 16 = .ok (.putfield 133, 3) := by decide +kernel
theorem dX4_takenAhead_19 : decode cX4_takenAhead 19 = .ok (.aload_n 0, 1) := by decide +kernel
theorem dX4_takenAhead_20 : decode cX4_takenAhead 20 = .ok (.getfield 37, 3) := by decide +kernel
theorem dX4_takenAhead_23 : decode cX4_takenAhead 23 = .ok (.iload_n 2, 1) := by decide +kernel
theorem dX4_takenAhead_24 : decode cX4_takenAhead 24 = .ok (.putfield 109, 3) := by decide +kernel
theorem dX4_takenAhead_27 : decode cX4_takenAhead 27 = .ok (.aload_n 0, 1) := by decide +kernel
theorem dX4_takenAhead_28 : decode cX4_takenAhead 28 = .ok (.getfield 26, 3) := by decide +kernel
theorem dX4_takenAhead_31 : decode cX4_takenAhead 31 = .ok (.getfield 183, 3) := by decide +kernel
theorem dX4_takenAhead_34 : decode cX4_takenAhead 34 = .ok (.istore_n 3, 1) := by decide +kernel
theorem dX4_takenAhead_35 : decode cX4_takenAhead 35 = .ok (.iload_n 3, 1) := by decide +kernel
theorem dX4_takenAhead_36 : decode cX4_takenAhead 36 = .ok (.bipush 9, 2) := by decide +kernel
theorem dX4_takenAhead_38 : decode cX4_takenAhead 38 = .ok (.if_icmp .ge 41, 3) := by decide +kernel
theorem dX4_takenAhead_41 : decode cX4_takenAhead 41 = .ok (.aload_n 0, 1) := by decide +kernel
theorem dX4_takenAhead_42 : decode cX4_takenAhead 42 = .ok (.getfield 37, 3) := by decide +kernel
theorem dX4_takenAhead_45 : decode cX4_takenAhead 45 = .ok (.getfield 196, 3) := by decide +kernel
theorem dX4_takenAhead_48 : decode cX4_takenAhead 48 = .ok (.ifCond .ne 31, 3) := by decide +kernel
theorem dX4_takenAhead_51 : decode cX4_takenAhead 51 = .ok (.aload_n 0, 1) := by decide +kernel
theorem dX4_takenAhead_52 : decode cX4_takenAhead 52 = .ok (.getfield 37, 3) := by decide +kernel
theorem dX4_takenAhead_55 : decode cX4_takenAhead 55 = .ok (.getfield 133, 3) := by decide +kernel
theorem dX4_takenAhead_58 : decode cX4_takenAhead 58 = .ok (.ifCond .le 21, 3) := by decide +kernel
theorem dX4_takenAhead_61 : decode cX4_takenAhead 61 = .ok (.aload_n 0, 1) := by decide +kernel
theorem dX4_takenAhead_62 : decode cX4_takenAhead 62 = .ok (.getfield 37, 3) := by decide +kernel
theorem dX4_takenAhead_65 : decode cX4_takenAhead 65 = .ok (.aload_n 0, 1) := by decide +kernel
theorem dX4_takenAhead_66 : decode cX4_takenAhead 66 = .ok (.getfield 19, 3) := by decide +kernel
theorem dX4_takenAhead_69 : decode cX4_takenAhead 69 = .ok (.invokevirtual 160, 3) := by decide +kernel
theorem dX4_takenAhead_72 : decode cX4_takenAhead 72 = .ok (.pop, 1) := by decide +kernel
theorem dX4_takenAhead_73 : decode cX4_takenAhead 73 = .ok (.iinc 3 1, 3) := by decide +kernel
theorem dX4_takenAhead_76 : decode cX4_takenAhead 76 = .ok (.goto (-41), 3) := by decide +kernel
theorem dX4_takenAhead_79 : decode cX4_takenAhead 79 = .ok (.aload_n 0, 1) := by decide +kernel
theorem dX4_takenAhead_80 : decode cX4_takenAhead 80 = .ok (.getfield 37, 3) := by decide +kernel
theorem dX4_takenAhead_83 : decode cX4_takenAhead 83 = .ok (.getfield 203, 3) := by decide +kernel
theorem dX4_takenAhead_86 : decode cX4_takenAhead 86 = .ok (.aload_n 0, 1) := by decide +kernel
theorem dX4_takenAhead_87 : decode cX4_takenAhead 87 = .ok (.getfield 26, 3) := by decide +kernel
theorem dX4_takenAhead_90 : decode cX4_takenAhead 90 = .ok (.getfield 203, 3) := by decide +kernel
theorem dX4_takenAhead_93 : decode cX4_takenAhead 93 = .ok (.isub, 1) := by decide +kernel
theorem dX4_takenAhead_94 : decode cX4_takenAhead 94 = .ok (.ireturn, 1) := by decide +kernel
theorem dX4_seedAfter_0 : decode cX4_seedAfter 0 = .ok (.ldc2_w 284, 3) := by decide +kernel
theorem dX4_seedAfter_3 : decode cX4_seedAfter 3 = .ok (.iload_n 0, 1) := by decide +kernel
theorem dX4_seedAfter_4 : decode cX4_seedAfter 4 = .ok (.i2l, 1) := by decide +kernel
theorem dX4_seedAfter_5 : decode cX4_seedAfter 5 = .ok (.lmul, 1) := by decide +kernel
theorem dX4_seedAfter_6 : decode cX4_seedAfter 6 = .ok (.ldc2_w 286, 3) := by decide +kernel
theorem dX4_seedAfter_9 : decode cX4_seedAfter 9 = .ok (.ladd, 1) := by decide +kernel
theorem dX4_seedAfter_10 : decode cX4_seedAfter 10 = .ok (.ldc2_w 288, 3) := by decide +kernel
theorem dX4_seedAfter_13 : decode cX4_seedAfter 13 = .ok (.lrem, 1) := by decide +kernel
theorem dX4_seedAfter_14 : decode cX4_seedAfter 14 = .ok (.l2i, 1) := by decide +kernel
theorem dX4_seedAfter_15 : decode cX4_seedAfter 15 = .ok (.ireturn, 1) := by decide +kernel
theorem dX4_bit_0 : decode cX4_bit 0 = .ok (.iconst 1, 1) := by decide +kernel
theorem dX4_bit_1 : decode cX4_bit 1 = .ok (.iload_n 0, 1) := by decide +kernel
theorem dX4_bit_2 : decode cX4_bit 2 = .ok (.ishl, 1) := by decide +kernel
theorem dX4_bit_3 : decode cX4_bit 3 = .ok (.ireturn, 1) := by decide +kernel
theorem dX4_isIn_0 : decode cX4_isIn 0 = .ok (.iload_n 0, 1) := by decide +kernel
theorem dX4_isIn_1 : decode cX4_isIn 1 = .ok (.iload_n 1, 1) := by decide +kernel
theorem dX4_isIn_2 : decode cX4_isIn 2 = .ok (.ishr, 1) := by decide +kernel
theorem dX4_isIn_3 : decode cX4_isIn 3 = .ok (.iconst 1, 1) := by decide +kernel
theorem dX4_isIn_4 : decode cX4_isIn 4 = .ok (.iand, 1) := by decide +kernel
theorem dX4_isIn_5 : decode cX4_isIn 5 = .ok (.ifCond .eq 7, 3) := by decide +kernel
theorem dX4_isIn_8 : decode cX4_isIn 8 = .ok (.iconst 1, 1) := by decide +kernel
theorem dX4_isIn_9 : decode cX4_isIn 9 = .ok (.goto 4, 3) := by decide +kernel
theorem dX4_isIn_12 : decode cX4_isIn 12 = .ok (.iconst 0, 1) := by decide +kernel
theorem dX4_isIn_13 : decode cX4_isIn 13 = .ok (.ireturn, 1) := by decide +kernel
theorem dX4_oneIf_0 : decode cX4_oneIf 0 = .ok (.iload_n 0, 1) := by decide +kernel
theorem dX4_oneIf_1 : decode cX4_oneIf 1 = .ok (.ifCond .eq 7, 3) := by decide +kernel
theorem dX4_oneIf_4 : decode cX4_oneIf 4 = .ok (.iconst 1, 1) := by decide +kernel
theorem dX4_oneIf_5 : decode cX4_oneIf 5 = .ok (.goto 4, 3) := by decide +kernel
theorem dX4_oneIf_8 : decode cX4_oneIf 8 = .ok (.iconst 0, 1) := by decide +kernel
theorem dX4_oneIf_9 : decode cX4_oneIf 9 = .ok (.ireturn, 1) := by decide +kernel
theorem dX5_init_0 : decode cX5_init 0 = .ok (.aload_n 0, 1) := by decide +kernel
theorem dX5_init_1 : decode cX5_init 1 = .ok (.invokespecial 1, 3) := by decide +kernel
theorem dX5_init_4 : decode cX5_init 4 = .ok (.aload_n 0, 1) := by decide +kernel
theorem dX5_init_5 : decode cX5_init 5 = .ok (.bipush 8, 2) := by decide +kernel
theorem dX5_init_7 : decode cX5_init 7 = .ok (.newarray .int, 2) := by decide +kernel
theorem dX5_init_9 : decode cX5_init 9 = .ok (.putfield 7, 3) := by decide +kernel
theorem dX5_init_12 : decode cX5_init 12 = .ok (.aload_n 0, 1) := by decide +kernel
theorem dX5_init_13 : decode cX5_init 13 = .ok (.bipush 8, 2) := by decide +kernel
theorem dX5_init_15 : decode cX5_init 15 = .ok (.newarray .int, 2) := by decide +kernel
theorem dX5_init_17 : decode cX5_init 17 = .ok (.putfield 13, 3) := by decide +kernel
theorem dX5_init_20 : decode cX5_init 20 = .ok (.aload_n 0, 1) := by decide +kernel
theorem dX5_init_21 : decode cX5_init 21 = .ok (.bipush 8, 2) := by decide +kernel
theorem dX5_init_23 : decode cX5_init 23 = .ok (.newarray .int, 2) := by decide +kernel
theorem dX5_init_25 : decode cX5_init 25 = .ok (.putfield 16, 3) := by decide +kernel
theorem dX5_init_28 : decode cX5_init 28 = .ok (.aload_n 0, 1) := by decide +kernel
theorem dX5_init_29 : decode cX5_init 29 = .ok (.bipush 8, 2) := by decide +kernel
theorem dX5_init_31 : decode cX5_init 31 = .ok (.newarray .int, 2) := by decide +kernel
theorem dX5_init_33 : decode cX5_init 33 = .ok (.putfield 19, 3) := by decide +kernel
theorem dX5_init_36 : decode cX5_init 36 = .ok (.aload_n 0, 1) := by decide +kernel
theorem dX5_init_37 : decode cX5_init 37 = .ok (.bipush 8, 2) := by decide +kernel
theorem dX5_init_39 : decode cX5_init 39 = .ok (.newarray .int, 2) := by decide +kernel
theorem dX5_init_41 : decode cX5_init 41 = .ok (.putfield 22, 3) := by decide +kernel
theorem dX5_init_44 : decode cX5_init 44 = .ok (.aload_n 0, 1) := by decide +kernel
theorem dX5_init_45 : decode cX5_init 45 = .ok (.bipush 8, 2) := by decide +kernel
theorem dX5_init_47 : decode cX5_init 47 = .ok (.newarray .int, 2) := by decide +kernel
theorem dX5_init_49 : decode cX5_init 49 = .ok (.putfield 25, 3) := by decide +kernel
theorem dX5_init_52 : decode cX5_init 52 = .ok (.aload_n 0, 1) := by decide +kernel
theorem dX5_init_53 : decode cX5_init 53 = .ok (.bipush 8, 2) := by decide +kernel
theorem dX5_init_55 : decode cX5_init 55 = .ok (.newarray .int, 2) := by decide +kernel
theorem dX5_init_57 : decode cX5_init 57 = .ok (.putfield 28, 3) := by decide +kernel
theorem dX5_init_60 : decode cX5_init 60 = .ok (.aload_n 0, 1) := by decide +kernel
theorem dX5_init_61 : decode cX5_init 61 = .ok (.bipush 8, 2) := by decide +kernel
theorem dX5_init_63 : decode cX5_init 63 = .ok (.newarray .int, 2) := by decide +kernel
theorem dX5_init_65 : decode cX5_init 65 = .ok (.putfield 31, 3) := by decide +kernel
theorem dX5_init_68 : decode cX5_init 68 = .ok (.aload_n 0, 1) := by decide +kernel
theorem dX5_init_69 : decode cX5_init 69 = .ok (.bipush 60, 2) := by decide +kernel
theorem dX5_init_71 : decode cX5_init 71 = .ok (.putfield 34, 3) := by decide +kernel
theorem dX5_init_74 : decode cX5_init 74 = .ok (.aload_n 0, 1) := by decide +kernel
theorem dX5_init_75 : decode cX5_init 75 = .ok (.bipush 60, 2) := by decide +kernel
theorem dX5_init_77 : decode cX5_init 77 = .ok (.putfield 38, 3) := by decide +kernel
theorem dX5_init_80 : decode cX5_init 80 = .ok (.aload_n 0, 1) := by decide +kernel
theorem dX5_init_81 : decode cX5_init 81 = .ok (.bipush 8, 2) := by decide +kernel
theorem dX5_init_83 : decode cX5_init 83 = .ok (.newarray .int, 2) := by decide +kernel
theorem dX5_init_85 : decode cX5_init 85 = .ok (.putfield 41, 3) := by decide +kernel
theorem dX5_init_88 : decode cX5_init 88 = .ok (.aload_n 0, 1) := by decide +kernel
theorem dX5_init_89 : decode cX5_init 89 = .ok (.bipush 8, 2) := by decide +kernel
theorem dX5_init_91 : decode cX5_init 91 = .ok (.newarray .int, 2) := by decide +kernel
theorem dX5_init_93 : decode cX5_init 93 = .ok (.putfield 44, 3) := by decide +kernel
theorem dX5_init_96 : decode cX5_init 96 = .ok (.aload_n 0, 1) := by decide +kernel
theorem dX5_init_97 : decode cX5_init 97 = .ok (.bipush 12, 2) := by decide +kernel
theorem dX5_init_99 : decode cX5_init 99 = .ok (.newarray .byte, 2) := by decide +kernel
theorem dX5_init_101 : decode cX5_init 101 = .ok (.putfield 47, 3) := by decide +kernel
theorem dX5_init_104 : decode cX5_init 104 = .ok (.aload_n 0, 1) := by decide +kernel
theorem dX5_init_105 : decode cX5_init 105 = .ok (.bipush 8, 2) := by decide +kernel
theorem dX5_init_107 : decode cX5_init 107 = .ok (.newarray .int, 2) := by decide +kernel
theorem dX5_init_109 : decode cX5_init 109 = .ok (.putfield 51, 3) := by decide +kernel
theorem dX5_init_112 : decode cX5_init 112 = .ok (.aload_n 0, 1) := by decide +kernel
theorem dX5_init_113 : decode cX5_init 113 = .ok (.bipush 8, 2) := by decide +kernel
theorem dX5_init_115 : decode cX5_init 115 = .ok (.newarray .int, 2) := by decide +kernel
theorem dX5_init_117 : decode cX5_init 117 = .ok (.putfield 54, 3) := by decide +kernel
theorem dX5_init_120 : decode cX5_init 120 = .ok (.aload_n 0, 1) := by decide +kernel
theorem dX5_init_121 : decode cX5_init 121 = .ok (.bipush 8, 2) := by decide +kernel
theorem dX5_init_123 : decode cX5_init 123 = .ok (.newarray .int, 2) := by decide +kernel
theorem dX5_init_125 : decode cX5_init 125 = .ok (.putfield 57, 3) := by decide +kernel
theorem dX5_init_128 : decode cX5_init 128 = .ok (.aload_n 0, 1) := by decide +kernel
theorem dX5_init_129 : decode cX5_init 129 = .ok (.bipush 8, 2) := by decide +kernel
theorem dX5_init_131 : decode cX5_init 131 = .ok (.newarray .int, 2) := by decide +kernel
theorem dX5_init_133 : decode cX5_init 133 = .ok (.putfield 60, 3) := by decide +kernel
theorem dX5_init_136 : decode cX5_init 136 = .ok (.aload_n 0, 1) := by decide +kernel
theorem dX5_init_137 : decode cX5_init 137 = .ok (.bipush 8, 2) := by decide +kernel
theorem dX5_init_139 : decode cX5_init 139 = .ok (.newarray .int, 2) := by decide +kernel
theorem dX5_init_141 : decode cX5_init 141 = .ok (.putfield 63, 3) := by decide +kernel
theorem dX5_init_144 : decode cX5_init 144 = .ok (.return_, 1) := by decide +kernel
theorem dX5_within_0 : decode cX5_within 0 = .ok (.iload_n 0, 1) := by decide +kernel
theorem dX5_within_1 : decode cX5_within 1 = .ok (.iload_n 1, 1) := by decide +kernel
theorem dX5_within_2 : decode cX5_within 2 = .ok (.if_icmp .lt 12, 3) := by decide +kernel
theorem dX5_within_5 : decode cX5_within 5 = .ok (.iload_n 0, 1) := by decide +kernel
theorem dX5_within_6 : decode cX5_within 6 = .ok (.iload_n 2, 1) := by decide +kernel
theorem dX5_within_7 : decode cX5_within 7 = .ok (.if_icmp .gt 7, 3) := by decide +kernel
theorem dX5_within_10 : decode cX5_within 10 = .ok (.iconst 1, 1) := by decide +kernel
theorem dX5_within_11 : decode cX5_within 11 = .ok (.goto 4, 3) := by decide +kernel
theorem dX5_within_14 : decode cX5_within 14 = .ok (.iconst 0, 1) := by decide +kernel
theorem dX5_within_15 : decode cX5_within 15 = .ok (.ireturn, 1) := by decide +kernel
theorem dX5_has_0 : decode cX5_has 0 = .ok (.iload_n 0, 1) := by decide +kernel
theorem dX5_has_1 : decode cX5_has 1 = .ok (.iload_n 1, 1) := by decide +kernel
theorem dX5_has_2 : decode cX5_has 2 = .ok (.ishr, 1) := by decide +kernel
theorem dX5_has_3 : decode cX5_has 3 = .ok (.iconst 1, 1) := by decide +kernel
theorem dX5_has_4 : decode cX5_has 4 = .ok (.iand, 1) := by decide +kernel
theorem dX5_has_5 : decode cX5_has 5 = .ok (.iconst 1, 1) := by decide +kernel
theorem dX5_has_6 : decode cX5_has 6 = .ok (.if_icmp .ne 7, 3) := by decide +kernel
theorem dX5_has_9 : decode cX5_has 9 = .ok (.iconst 1, 1) := by decide +kernel
theorem dX5_has_10 : decode cX5_has 10 = .ok (.goto 4, 3) := by decide +kernel
theorem dX5_has_13 : decode cX5_has 13 = .ok (.iconst 0, 1) := by decide +kernel
theorem dX5_has_14 : decode cX5_has 14 = .ok (.ireturn, 1) := by decide +kernel
theorem dX5_size_0 : decode cX5_size 0 = .ok (.iconst 0, 1) := by decide +kernel
theorem dX5_size_1 : decode cX5_size 1 = .ok (.istore_n 1, 1) := by decide +kernel
theorem dX5_size_2 : decode cX5_size 2 = .ok (.iconst 0, 1) := by decide +kernel
theorem dX5_size_3 : decode cX5_size 3 = .ok (.istore_n 2, 1) := by decide +kernel
theorem dX5_size_4 : decode cX5_size 4 = .ok (.iload_n 2, 1) := by decide +kernel
theorem dX5_size_5 : decode cX5_size 5 = .ok (.bipush 8, 2) := by decide +kernel
theorem dX5_size_7 : decode cX5_size 7 = .ok (.if_icmp .ge 17, 3) := by decide +kernel
theorem dX5_size_10 : decode cX5_size 10 = .ok (.iload_n 1, 1) := by decide +kernel
theorem dX5_size_11 : decode cX5_size 11 = .ok (.iload_n 0, 1) := by decide +kernel
theorem dX5_size_12 : decode cX5_size 12 = .ok (.iload_n 2, 1) := by decide +kernel
theorem dX5_size_13 : decode cX5_size 13 = .ok (.ishr, 1) := by decide +kernel
theorem dX5_size_14 : decode cX5_size 14 = .ok (.iconst 1, 1) := by decide +kernel
theorem dX5_size_15 : decode cX5_size 15 = .ok (.iand, 1) := by decide +kernel
theorem dX5_size_16 : decode cX5_size 16 = .ok (.iadd, 1) := by decide +kernel
theorem dX5_size_17 : decode cX5_size 17 = .ok (.istore_n 1, 1) := by decide +kernel
theorem dX5_size_18 : decode cX5_size 18 = .ok (.iinc 2 1, 3) := by decide +kernel
theorem dX5_size_21 : decode cX5_size 21 = .ok (.goto (-17), 3) := by decide +kernel
theorem dX5_size_24 : decode cX5_size 24 = .ok (.iload_n 1, 1) := by decide +kernel
theorem dX5_size_25 : decode cX5_size 25 = .ok (.ireturn, 1) := by decide +kernel
theorem dX5_letters_0 : decode cX5_letters 0 = .ok (.iconst 0, 1) := by decide +kernel
theorem dX5_letters_1 : decode cX5_letters 1 = .ok (.istore_n 3, 1) := by decide +kernel
theorem dX5_letters_2 : decode cX5_letters 2 = .ok (.iconst 0, 1) := by decide +kernel
theorem dX5_letters_3 : decode cX5_letters 3 = .ok (.istore 4, 2) := by decide +kernel
theorem dX5_letters_5 : decode cX5_letters 5 = .ok (.iconst 0, 1) := by decide +kernel
theorem dX5_letters_6 : decode cX5_letters 6 = .ok (.istore 5, 2) := by decide +kernel
theorem dX5_letters_8 : decode cX5_letters 8 = .ok (.iload 5, 2) := by decide +kernel
theorem dX5_letters_10 : decode cX5_letters 10 = .ok (.bipush 8, 2) := by decide +kernel
theorem dX5_letters_12 : decode cX5_letters 12 = .ok (.if_icmp .ge 73, 3) := by decide +kernel
theorem dX5_letters_15 : decode cX5_letters 15 = .ok (.lload_n 1, 1) := by decide +kernel
theorem dX5_letters_16 : decode cX5_letters 16 = .ok (.bipush 8, 2) := by decide +kernel
theorem dX5_letters_18 : decode cX5_letters 18 = .ok (.iload 5, 2) := by decide +kernel
theorem dX5_letters_20 : decode cX5_letters 20 = .ok (.imul, 1) := by decide +kernel
theorem dX5_letters_21 : decode cX5_letters 21 = .ok (.lshr, 1) := by decide +kernel
theorem dX5_letters_22 : decode cX5_letters 22 = .ok (.ldc2_w 66, 3) := by decide +kernel
theorem dX5_letters_25 : decode cX5_letters 25 = .ok (.land, 1) := by decide +kernel
theorem dX5_letters_26 : decode cX5_letters 26 = .ok (.l2i, 1) := by decide +kernel
theorem dX5_letters_27 : decode cX5_letters 27 = .ok (.istore 6, 2) := by decide +kernel
theorem dX5_letters_29 : decode cX5_letters 29 = .ok (.iload 6, 2) := by decide +kernel
theorem dX5_letters_31 : decode cX5_letters 31 = .ok (.bipush 126, 2) := by decide +kernel
theorem dX5_letters_33 : decode cX5_letters 33 = .ok (.if_icmp .gt 13, 3) := by decide +kernel
theorem dX5_letters_36 : decode cX5_letters 36 = .ok (.iload 4, 2) := by decide +kernel
theorem dX5_letters_38 : decode cX5_letters 38 = .ok (.ifCond .eq 11, 3) := by decide +kernel
theorem dX5_letters_41 : decode cX5_letters 41 = .ok (.iload 6, 2) := by decide +kernel
theorem dX5_letters_43 : decode cX5_letters 43 = .ok (.ifCond .eq 6, 3) := by decide +kernel
theorem dX5_letters_46 : decode cX5_letters 46 = .ok (.bipush (-102), 2) := by decide +kernel
theorem dX5_letters_48 : decode cX5_letters 48 = .ok (.ireturn, 1) := by decide +kernel
theorem dX5_letters_49 : decode cX5_letters 49 = .ok (.iload 4, 2) := by decide +kernel
theorem dX5_letters_51 : decode cX5_letters 51 = .ok (.ifCond .ne 8, 3) := by decide +kernel
theorem dX5_letters_54 : decode cX5_letters 54 = .ok (.iload 6, 2) := by decide +kernel
theorem dX5_letters_56 : decode cX5_letters 56 = .ok (.ifCond .ne 7, 3) := by decide +kernel
theorem dX5_letters_59 : decode cX5_letters 59 = .ok (.iconst 1, 1) := by decide +kernel
theorem dX5_letters_60 : decode cX5_letters 60 = .ok (.goto 4, 3) := by decide +kernel
theorem dX5_letters_63 : decode cX5_letters 63 = .ok (.iconst 0, 1) := by decide +kernel
theorem dX5_letters_64 : decode cX5_letters 64 = .ok (.istore 4, 2) := by decide +kernel
theorem dX5_letters_66 : decode cX5_letters 66 = .ok (.iload_n 3, 1) := by decide +kernel
theorem dX5_letters_67 : decode cX5_letters 67 = .ok (.iload 6, 2) := by decide +kernel
theorem dX5_letters_69 : decode cX5_letters 69 = .ok (.ifCond .ne 7, 3) := by decide +kernel
theorem dX5_letters_72 : decode cX5_letters 72 = .ok (.iconst 0, 1) := by decide +kernel
theorem dX5_letters_73 : decode cX5_letters 73 = .ok (.goto 4, 3) := by decide +kernel
theorem dX5_letters_76 : decode cX5_letters 76 = .ok (.iconst 1, 1) := by decide +kernel
theorem dX5_letters_77 : decode cX5_letters 77 = .ok (.iadd, 1) := by decide +kernel
theorem dX5_letters_78 : decode cX5_letters 78 = .ok (.istore_n 3, 1) := by decide +kernel
theorem dX5_letters_79 : decode cX5_letters 79 = .ok (.iinc 5 1, 3) := by decide +kernel
theorem dX5_letters_82 : decode cX5_letters 82 = .ok (.goto (-74), 3) := by decide +kernel
theorem dX5_letters_85 : decode cX5_letters 85 = .ok (.aload_n 0, 1) := by decide +kernel
theorem dX5_letters_86 : decode cX5_letters 86 = .ok (.getfield 68, 3) := by decide +kernel
theorem dX5_letters_89 : decode cX5_letters 89 = .ok (.iload_n 3, 1) := by decide +kernel
theorem dX5_letters_90 : decode cX5_letters 90 = .ok (.iadd, 1) := by decide +kernel
theorem dX5_letters_91 : decode cX5_letters 91 = .ok (.bipush 12, 2) := by decide +kernel
theorem dX5_letters_93 : decode cX5_letters 93 = .ok (.if_icmp .le 6, 3) := by decide +kernel
theorem dX5_letters_96 : decode cX5_letters 96 = .ok (.bipush (-104), 2) := by decide +kernel
theorem dX5_letters_98 : decode cX5_letters 98 = .ok (.ireturn, 1) := by decide +kernel
theorem dX5_letters_99 : decode cX5_letters 99 = .ok (.iconst 0, 1) := by decide +kernel
theorem dX5_letters_100 : decode cX5_letters 100 = .ok (.istore 5, 2) := by decide +kernel
theorem dX5_letters_102 : decode cX5_letters 102 = .ok (.iload 5, 2) := by decide +kernel
theorem dX5_letters_104 : decode cX5_letters 104 = .ok (.iload_n 3, 1) := by decide +kernel
theorem dX5_letters_105 : decode cX5_letters 105 = .ok (.if_icmp .ge 30, 3) := by decide +kernel
theorem dX5_letters_108 : decode cX5_letters 108 = .ok (.aload_n 0, 1) := by decide +kernel
theorem dX5_letters_109 : decode cX5_letters 109 = .ok (.getfield 47, 3) := by decide +kernel
theorem dX5_letters_112 : decode cX5_letters 112 = .ok (.aload_n 0, 1) := by decide +kernel
theorem dX5_letters_113 : decode cX5_letters 113 = .ok (.getfield 68, 3) := by decide +kernel
theorem dX5_letters_116 : decode cX5_letters 116 = .ok (.iload 5, 2) := by decide +kernel
theorem dX5_letters_118 : decode cX5_letters 118 = .ok (.iadd, 1) := by decide +kernel
theorem dX5_letters_119 : decode cX5_letters 119 = .ok (.lload_n 1, 1) := by decide +kernel
theorem dX5_letters_120 : decode cX5_letters 120 = .ok (.bipush 8, 2) := by decide +kernel
theorem dX5_letters_122 : decode cX5_letters 122 = .ok (.iload 5, 2) := by decide +kernel
theorem dX5_letters_124 : decode cX5_letters 124 = .ok (.imul, 1) := by decide +kernel
theorem dX5_letters_125 : decode cX5_letters 125 = .ok (.lshr, 1) := by decide +kernel
theorem dX5_letters_126 : decode cX5_letters 126 = .ok (.l2i, 1) := by decide +kernel
theorem dX5_letters_127 : decode cX5_letters 127 = .ok (.i2b, 1) := by decide +kernel
theorem dX5_letters_128 : decode cX5_letters 128 = .ok (.bastore, 1) := by decide +kernel
theorem dX5_letters_129 : decode cX5_letters 129 = .ok (.iinc 5 1, 3) := by decide +kernel
theorem dX5_letters_132 : decode cX5_letters 132 = .ok (.goto (-30), 3) := by decide +kernel
theorem dX5_letters_135 : decode cX5_letters 135 = .ok (.aload_n 0, 1) := by decide +kernel
theorem dX5_letters_136 : decode cX5_letters 136 = .ok (.dup, 1) := by decide +kernel
theorem dX5_letters_137 : decode cX5_letters 137 = .ok (.getfield 68, 3) := by decide +kernel
theorem dX5_letters_140 : decode cX5_letters 140 = .ok (.iload_n 3, 1) := by decide +kernel
theorem dX5_letters_141 : decode cX5_letters 141 = .ok (.iadd, 1) := by decide +kernel
theorem dX5_letters_142 : decode cX5_letters 142 = .ok (.putfield 68, 3) := by decide +kernel
theorem dX5_letters_145 : decode cX5_letters 145 = .ok (.aload_n 0, 1) := by decide +kernel
theorem dX5_letters_146 : decode cX5_letters 146 = .ok (.getfield 68, 3) := by decide +kernel
theorem dX5_letters_149 : decode cX5_letters 149 = .ok (.ireturn, 1) := by decide +kernel
theorem dX5_blank_0 : decode cX5_blank 0 = .ok (.aload_n 0, 1) := by decide +kernel
theorem dX5_blank_1 : decode cX5_blank 1 = .ok (.getfield 68, 3) := by decide +kernel
theorem dX5_blank_4 : decode cX5_blank 4 = .ok (.istore_n 1, 1) := by decide +kernel
theorem dX5_blank_5 : decode cX5_blank 5 = .ok (.aload_n 0, 1) := by decide +kernel
theorem dX5_blank_6 : decode cX5_blank 6 = .ok (.iconst 0, 1) := by decide +kernel
theorem dX5_blank_7 : decode cX5_blank 7 = .ok (.putfield 68, 3) := by decide +kernel
theorem dX5_blank_10 : decode cX5_blank 10 = .ok (.iload_n 1, 1) := by decide +kernel
theorem dX5_blank_11 : decode cX5_blank 11 = .ok (.ireturn, 1) := by decide +kernel
theorem dX5_kindBy_0 : decode cX5_kindBy 0 = .ok (.iload_n 0, 1) := by decide +kernel
theorem dX5_kindBy_1 : decode cX5_kindBy 1 = .ok (.bipush 104, 2) := by decide +kernel
theorem dX5_kindBy_3 : decode cX5_kindBy 3 = .ok (.if_icmp .ne 7, 3) := by decide +kernel
theorem dX5_kindBy_6 : decode cX5_kindBy 6 = .ok (.iconst 0, 1) := by decide +kernel
theorem dX5_kindBy_7 : decode cX5_kindBy 7 = .ok (.goto 44, 3) := by decide +kernel
theorem dX5_kindBy_10 : decode cX5_kindBy 10 = .ok (.iload_n 0, 1) := by decide +kernel
theorem dX5_kindBy_11 : decode cX5_kindBy 11 = .ok (.bipush 99, 2) := by decide +kernel
theorem dX5_kindBy_13 : decode cX5_kindBy 13 = .ok (.if_icmp .ne 7, 3) := by decide +kernel
theorem dX5_kindBy_16 : decode cX5_kindBy 16 = .ok (.iconst 1, 1) := by decide +kernel
theorem dX5_kindBy_17 : decode cX5_kindBy 17 = .ok (.goto 34, 3) := by decide +kernel
theorem dX5_kindBy_20 : decode cX5_kindBy 20 = .ok (.iload_n 0, 1) := by decide +kernel
theorem dX5_kindBy_21 : decode cX5_kindBy 21 = .ok (.bipush 117, 2) := by decide +kernel
theorem dX5_kindBy_23 : decode cX5_kindBy 23 = .ok (.if_icmp .ne 7, 3) := by decide +kernel
theorem dX5_kindBy_26 : decode cX5_kindBy 26 = .ok (.iconst 2, 1) := by decide +kernel
theorem dX5_kindBy_27 : decode cX5_kindBy 27 = .ok (.goto 24, 3) := by decide +kernel
theorem dX5_kindBy_30 : decode cX5_kindBy 30 = .ok (.iload_n 0, 1) := by decide +kernel
theorem dX5_kindBy_31 : decode cX5_kindBy 31 = .ok (.bipush 115, 2) := by decide +kernel
theorem dX5_kindBy_33 : decode cX5_kindBy 33 = .ok (.if_icmp .ne 7, 3) := by decide +kernel
theorem dX5_kindBy_36 : decode cX5_kindBy 36 = .ok (.iconst 3, 1) := by decide +kernel
theorem dX5_kindBy_37 : decode cX5_kindBy 37 = .ok (.goto 14, 3) := by decide +kernel
theorem dX5_kindBy_40 : decode cX5_kindBy 40 = .ok (.iload_n 0, 1) := by decide +kernel
theorem dX5_kindBy_41 : decode cX5_kindBy 41 = .ok (.bipush 120, 2) := by decide +kernel
theorem dX5_kindBy_43 : decode cX5_kindBy 43 = .ok (.if_icmp .ne 7, 3) := by decide +kernel
theorem dX5_kindBy_46 : decode cX5_kindBy 46 = .ok (.iconst 4, 1) := by decide +kernel
theorem dX5_kindBy_47 : decode cX5_kindBy 47 = .ok (.goto 4, 3) := by decide +kernel
theorem dX5_kindBy_50 : decode cX5_kindBy 50 = .ok (.iconst (-1), 1) := by decide +kernel
theorem dX5_kindBy_51 : decode cX5_kindBy 51 = .ok (.ireturn, 1) := by decide +kernel
theorem dX5_mayStand_0 : decode cX5_mayStand 0 = .ok (.iload_n 1, 1) := by decide +kernel
theorem dX5_mayStand_1 : decode cX5_mayStand 1 = .ok (.tableswitch 122 0 4 #[35, 49, 77, 86, 113], 35) := by decide +kernel
theorem dX5_mayStand_36 : decode cX5_mayStand 36 = .ok (.iload_n 2, 1) := by decide +kernel
theorem dX5_mayStand_37 : decode cX5_mayStand 37 = .ok (.invokestatic 71, 3) := by decide +kernel
theorem dX5_mayStand_40 : decode cX5_mayStand 40 = .ok (.iconst (-1), 1) := by decide +kernel
theorem dX5_mayStand_41 : decode cX5_mayStand 41 = .ok (.if_icmp .eq 7, 3) := by decide +kernel
theorem dX5_mayStand_44 : decode cX5_mayStand 44 = .ok (.iconst 1, 1) := by decide +kernel
theorem dX5_mayStand_45 : decode cX5_mayStand 45 = .ok (.goto 4, 3) := by decide +kernel
theorem dX5_mayStand_48 : decode cX5_mayStand 48 = .ok (.iconst 0, 1) := by decide +kernel
theorem dX5_mayStand_49 : decode cX5_mayStand 49 = .ok (.ireturn, 1) := by decide +kernel
theorem dX5_mayStand_50 : decode cX5_mayStand 50 = .ok (.iload_n 2, 1) := by decide +kernel
theorem dX5_mayStand_51 : decode cX5_mayStand 51 = .ok (.bipush 45, 2) := by decide +kernel
theorem dX5_mayStand_53 : decode cX5_mayStand 53 = .ok (.if_icmp .eq 19, 3) := by decide +kernel
theorem dX5_mayStand_56 : decode cX5_mayStand 56 = .ok (.iload_n 2, 1) := by decide +kernel
theorem dX5_mayStand_57 : decode cX5_mayStand 57 = .ok (.bipush 48, 2) := by decide +kernel
theorem dX5_mayStand_59 : decode cX5_mayStand 59 = .ok (.bipush 47, 2) := by decide +kernel
theorem dX5_mayStand_61 : decode cX5_mayStand 61 = .ok (.aload_n 0, 1) := by decide +kernel
theorem dX5_mayStand_62 : decode cX5_mayStand 62 = .ok (.getfield 75, 3) := by decide +kernel
theorem dX5_mayStand_65 : decode cX5_mayStand 65 = .ok (.iadd, 1) := by decide +kernel
theorem dX5_mayStand_66 : decode cX5_mayStand 66 = .ok (.invokestatic 78, 3) := by decide +kernel
theorem dX5_mayStand_69 : decode cX5_mayStand 69 = .ok (.ifCond .eq 7, 3) := by decide +kernel
theorem dX5_mayStand_72 : decode cX5_mayStand 72 = .ok (.iconst 1, 1) := by decide +kernel
theorem dX5_mayStand_73 : decode cX5_mayStand 73 = .ok (.goto 4, 3) := by decide +kernel
theorem dX5_mayStand_76 : decode cX5_mayStand 76 = .ok (.iconst 0, 1) := by decide +kernel
theorem dX5_mayStand_77 : decode cX5_mayStand 77 = .ok (.ireturn, 1) := by decide +kernel
theorem dX5_mayStand_78 : decode cX5_mayStand 78 = .ok (.iload_n 2, 1) := by decide +kernel
theorem dX5_mayStand_79 : decode cX5_mayStand 79 = .ok (.bipush 48, 2) := by decide +kernel
theorem dX5_mayStand_81 : decode cX5_mayStand 81 = .ok (.bipush 56, 2) := by decide +kernel
theorem dX5_mayStand_83 : decode cX5_mayStand 83 = .ok (.invokestatic 78, 3) := by decide +kernel
theorem dX5_mayStand_86 : decode cX5_mayStand 86 = .ok (.ireturn, 1) := by decide +kernel
theorem dX5_mayStand_87 : decode cX5_mayStand 87 = .ok (.iload_n 2, 1) := by decide +kernel
theorem dX5_mayStand_88 : decode cX5_mayStand 88 = .ok (.bipush 49, 2) := by decide +kernel
theorem dX5_mayStand_90 : decode cX5_mayStand 90 = .ok (.bipush 57, 2) := by decide +kernel
theorem dX5_mayStand_92 : decode cX5_mayStand 92 = .ok (.invokestatic 78, 3) := by decide +kernel
theorem dX5_mayStand_95 : decode cX5_mayStand 95 = .ok (.ifCond .eq 17, 3) := by decide +kernel
theorem dX5_mayStand_98 : decode cX5_mayStand 98 = .ok (.iload_n 2, 1) := by decide +kernel
theorem dX5_mayStand_99 : decode cX5_mayStand 99 = .ok (.aload_n 0, 1) := by decide +kernel
theorem dX5_mayStand_100 : decode cX5_mayStand 100 = .ok (.getfield 47, 3) := by decide +kernel
theorem dX5_mayStand_103 : decode cX5_mayStand 103 = .ok (.iconst 2, 1) := by decide +kernel
theorem dX5_mayStand_104 : decode cX5_mayStand 104 = .ok (.baload, 1) := by decide +kernel
theorem dX5_mayStand_105 : decode cX5_mayStand 105 = .ok (.if_icmp .le 7, 3) := by decide +kernel
theorem dX5_mayStand_108 : decode cX5_mayStand 108 = .ok (.iconst 1, 1) := by decide +kernel
theorem dX5_mayStand_109 : decode cX5_mayStand 109 = .ok (.goto 4, 3) := by decide +kernel
theorem dX5_mayStand_112 : decode cX5_mayStand 112 = .ok (.iconst 0, 1) := by decide +kernel
theorem dX5_mayStand_113 : decode cX5_mayStand 113 = .ok (.ireturn, 1) := by decide +kernel
theorem dX5_mayStand_114 : decode cX5_mayStand 114 = .ok (.iload_n 2, 1) := by decide +kernel
theorem dX5_mayStand_115 : decode cX5_mayStand 115 = .ok (.bipush 49, 2) := by decide +kernel
theorem dX5_mayStand_117 : decode cX5_mayStand 117 = .ok (.bipush 57, 2) := by decide +kernel
theorem dX5_mayStand_119 : decode cX5_mayStand 119 = .ok (.invokestatic 78, 3) := by decide +kernel
theorem dX5_mayStand_122 : decode cX5_mayStand 122 = .ok (.ireturn, 1) := by decide +kernel
theorem dX5_mayStand_123 : decode cX5_mayStand 123 = .ok (.iload_n 1, 1) := by decide +kernel
theorem dX5_mayStand_124 : decode cX5_mayStand 124 = .ok (.iconst 5, 1) := by decide +kernel
theorem dX5_mayStand_125 : decode cX5_mayStand 125 = .ok (.if_icmp .ne 18, 3) := by decide +kernel
theorem dX5_mayStand_128 : decode cX5_mayStand 128 = .ok (.iload_n 2, 1) := by decide +kernel
theorem dX5_mayStand_129 : decode cX5_mayStand 129 = .ok (.bipush 48, 2) := by decide +kernel
theorem dX5_mayStand_131 : decode cX5_mayStand 131 = .ok (.bipush 57, 2) := by decide +kernel
theorem dX5_mayStand_133 : decode cX5_mayStand 133 = .ok (.invokestatic 78, 3) := by decide +kernel
theorem dX5_mayStand_136 : decode cX5_mayStand 136 = .ok (.ifCond .eq 7, 3) := by decide +kernel
theorem dX5_mayStand_139 : decode cX5_mayStand 139 = .ok (.iconst 1, 1) := by decide +kernel
theorem dX5_mayStand_140 : decode cX5_mayStand 140 = .ok (.goto 4, 3) := by decide +kernel
theorem dX5_mayStand_143 : decode cX5_mayStand 143 = .ok (.iconst 0, 1) := by decide +kernel
theorem dX5_mayStand_144 : decode cX5_mayStand 144 = .ok (.ireturn, 1) := by decide +kernel
theorem dX5_faultNow_0 : decode cX5_faultNow 0 = .ok (.iconst 0, 1) := by decide +kernel
theorem dX5_faultNow_1 : decode cX5_faultNow 1 = .ok (.istore_n 1, 1) := by decide +kernel
theorem dX5_faultNow_2 : decode cX5_faultNow 2 = .ok (.iload_n 1, 1) := by decide +kernel
theorem dX5_faultNow_3 : decode cX5_faultNow 3 = .ok (.aload_n 0, 1) := by decide +kernel
theorem dX5_faultNow_4 : decode cX5_faultNow 4 = .ok (.getfield 68, 3) := by decide +kernel
theorem dX5_faultNow_7 : decode cX5_faultNow 7 = .ok (.if_icmp .ge 23, 3) := by decide +kernel
theorem dX5_faultNow_10 : decode cX5_faultNow 10 = .ok (.aload_n 0, 1) := by decide +kernel
theorem dX5_faultNow_11 : decode cX5_faultNow 11 = .ok (.iload_n 1, 1) := by decide +kernel
theorem dX5_faultNow_12 : decode cX5_faultNow 12 = .ok (.aload_n 0, 1) := by decide +kernel
theorem dX5_faultNow_13 : decode cX5_faultNow 13 = .ok (.getfield 47, 3) := by decide +kernel
theorem dX5_faultNow_16 : decode cX5_faultNow 16 = .ok (.iload_n 1, 1) := by decide +kernel
theorem dX5_faultNow_17 : decode cX5_faultNow 17 = .ok (.baload, 1) := by decide +kernel
theorem dX5_faultNow_18 : decode cX5_faultNow 18 = .ok (.invokevirtual 82, 3) := by decide +kernel
theorem dX5_faultNow_21 : decode cX5_faultNow 21 = .ok (.ifCond .eq 9, 3) := by decide +kernel
theorem dX5_faultNow_24 : decode cX5_faultNow 24 = .ok (.iinc 1 1, 3) := by decide +kernel
theorem dX5_faultNow_27 : decode cX5_faultNow 27 = .ok (.goto (-25), 3) := by decide +kernel
theorem dX5_faultNow_30 : decode cX5_faultNow 30 = .ok (.iload_n 1, 1) := by decide +kernel
theorem dX5_faultNow_31 : decode cX5_faultNow 31 = .ok (.ireturn, 1) := by decide +kernel
theorem dX5_fault_0 : decode cX5_fault 0 = .ok (.aload_n 0, 1) := by decide +kernel
theorem dX5_fault_1 : decode cX5_fault 1 = .ok (.invokevirtual 86, 3) := by decide +kernel
theorem dX5_fault_4 : decode cX5_fault 4 = .ok (.ireturn, 1) := by decide +kernel
theorem dX5_house_0 : decode cX5_house 0 = .ok (.aload_n 0, 1) := by decide +kernel
theorem dX5_house_1 : decode cX5_house 1 = .ok (.invokevirtual 86, 3) := by decide +kernel
theorem dX5_house_4 : decode cX5_house 4 = .ok (.aload_n 0, 1) := by decide +kernel
theorem dX5_house_5 : decode cX5_house 5 = .ok (.getfield 68, 3) := by decide +kernel
theorem dX5_house_8 : decode cX5_house 8 = .ok (.if_icmp .lt 19, 3) := by decide +kernel
theorem dX5_house_11 : decode cX5_house 11 = .ok (.aload_n 0, 1) := by decide +kernel
theorem dX5_house_12 : decode cX5_house 12 = .ok (.getfield 68, 3) := by decide +kernel
theorem dX5_house_15 : decode cX5_house 15 = .ok (.bipush 6, 2) := by decide +kernel
theorem dX5_house_17 : decode cX5_house 17 = .ok (.if_icmp .ne 10, 3) := by decide +kernel
theorem dX5_house_20 : decode cX5_house 20 = .ok (.aload_n 0, 1) := by decide +kernel
theorem dX5_house_21 : decode cX5_house 21 = .ok (.getfield 90, 3) := by decide +kernel
theorem dX5_house_24 : decode cX5_house 24 = .ok (.ifCond .le 6, 3) := by decide +kernel
theorem dX5_house_27 : decode cX5_house 27 = .ok (.bipush (-103), 2) := by decide +kernel
theorem dX5_house_29 : decode cX5_house 29 = .ok (.ireturn, 1) := by decide +kernel
theorem dX5_house_30 : decode cX5_house 30 = .ok (.aload_n 0, 1) := by decide +kernel
theorem dX5_house_31 : decode cX5_house 31 = .ok (.getfield 75, 3) := by decide +kernel
theorem dX5_house_34 : decode cX5_house 34 = .ok (.bipush 8, 2) := by decide +kernel
theorem dX5_house_36 : decode cX5_house 36 = .ok (.if_icmp .ne 6, 3) := by decide +kernel
theorem dX5_house_39 : decode cX5_house 39 = .ok (.bipush (-104), 2) := by decide +kernel
theorem dX5_house_41 : decode cX5_house 41 = .ok (.ireturn, 1) := by decide +kernel
theorem dX5_house_42 : decode cX5_house 42 = .ok (.aload_n 0, 1) := by decide +kernel
theorem dX5_house_43 : decode cX5_house 43 = .ok (.getfield 7, 3) := by decide +kernel
theorem dX5_house_46 : decode cX5_house 46 = .ok (.aload_n 0, 1) := by decide +kernel
theorem dX5_house_47 : decode cX5_house 47 = .ok (.getfield 75, 3) := by decide +kernel
theorem dX5_house_50 : decode cX5_house 50 = .ok (.aload_n 0, 1) := by decide +kernel
theorem dX5_house_51 : decode cX5_house 51 = .ok (.getfield 47, 3) := by decide +kernel
theorem dX5_house_54 : decode cX5_house 54 = .ok (.iconst 0, 1) := by decide +kernel
theorem dX5_house_55 : decode cX5_house 55 = .ok (.baload, 1) := by decide +kernel
theorem dX5_house_56 : decode cX5_house 56 = .ok (.invokestatic 71, 3) := by decide +kernel
theorem dX5_house_59 : decode cX5_house 59 = .ok (.iastore, 1) := by decide +kernel
theorem dX5_house_60 : decode cX5_house 60 = .ok (.aload_n 0, 1) := by decide +kernel
theorem dX5_house_61 : decode cX5_house 61 = .ok (.getfield 13, 3) := by decide +kernel
theorem dX5_house_64 : decode cX5_house 64 = .ok (.aload_n 0, 1) := by decide +kernel
theorem dX5_house_65 : decode cX5_house 65 = .ok (.getfield 75, 3) := by decide +kernel
theorem dX5_house_68 : decode cX5_house 68 = .ok (.aload_n 0, 1) := by decide +kernel
theorem dX5_house_69 : decode cX5_house 69 = .ok (.getfield 47, 3) := by decide +kernel
theorem dX5_house_72 : decode cX5_house 72 = .ok (.iconst 1, 1) := by decide +kernel
theorem dX5_house_73 : decode cX5_house 73 = .ok (.baload, 1) := by decide +kernel
theorem dX5_house_74 : decode cX5_house 74 = .ok (.bipush 45, 2) := by decide +kernel
theorem dX5_house_76 : decode cX5_house 76 = .ok (.if_icmp .ne 7, 3) := by decide +kernel
theorem dX5_house_79 : decode cX5_house 79 = .ok (.iconst (-1), 1) := by decide +kernel
theorem dX5_house_80 : decode cX5_house 80 = .ok (.goto 12, 3) := by decide +kernel
theorem dX5_house_83 : decode cX5_house 83 = .ok (.aload_n 0, 1) := by decide +kernel
theorem dX5_house_84 : decode cX5_house 84 = .ok (.getfield 47, 3) := by decide +kernel
theorem dX5_house_87 : decode cX5_house 87 = .ok (.iconst 1, 1) := by decide +kernel
theorem dX5_house_88 : decode cX5_house 88 = .ok (.baload, 1) := by decide +kernel
theorem dX5_house_89 : decode cX5_house 89 = .ok (.bipush 48, 2) := by decide +kernel
theorem dX5_house_91 : decode cX5_house 91 = .ok (.isub, 1) := by decide +kernel
theorem dX5_house_92 : decode cX5_house 92 = .ok (.iastore, 1) := by decide +kernel
theorem dX5_house_93 : decode cX5_house 93 = .ok (.aload_n 0, 1) := by decide +kernel
theorem dX5_house_94 : decode cX5_house 94 = .ok (.getfield 16, 3) := by decide +kernel
theorem dX5_house_97 : decode cX5_house 97 = .ok (.aload_n 0, 1) := by decide +kernel
theorem dX5_house_98 : decode cX5_house 98 = .ok (.getfield 75, 3) := by decide +kernel
theorem dX5_house_101 : decode cX5_house 101 = .ok (.aload_n 0, 1) := by decide +kernel
theorem dX5_house_102 : decode cX5_house 102 = .ok (.getfield 47, 3) := by decide +kernel
theorem dX5_house_105 : decode cX5_house 105 = .ok (.iconst 2, 1) := by decide +kernel
theorem dX5_house_106 : decode cX5_house 106 = .ok (.baload, 1) := by decide +kernel
theorem dX5_house_107 : decode cX5_house 107 = .ok (.bipush 48, 2) := by decide +kernel
theorem dX5_house_109 : decode cX5_house 109 = .ok (.isub, 1) := by decide +kernel
theorem dX5_house_110 : decode cX5_house 110 = .ok (.iastore, 1) := by decide +kernel
theorem dX5_house_111 : decode cX5_house 111 = .ok (.aload_n 0, 1) := by decide +kernel
theorem dX5_house_112 : decode cX5_house 112 = .ok (.getfield 19, 3) := by decide +kernel
theorem dX5_house_115 : decode cX5_house 115 = .ok (.aload_n 0, 1) := by decide +kernel
theorem dX5_house_116 : decode cX5_house 116 = .ok (.getfield 75, 3) := by decide +kernel
theorem dX5_house_119 : decode cX5_house 119 = .ok (.aload_n 0, 1) := by decide +kernel
theorem dX5_house_120 : decode cX5_house 120 = .ok (.getfield 47, 3) := by decide +kernel
theorem dX5_house_123 : decode cX5_house 123 = .ok (.iconst 3, 1) := by decide +kernel
theorem dX5_house_124 : decode cX5_house 124 = .ok (.baload, 1) := by decide +kernel
theorem dX5_house_125 : decode cX5_house 125 = .ok (.bipush 48, 2) := by decide +kernel
theorem dX5_house_127 : decode cX5_house 127 = .ok (.isub, 1) := by decide +kernel
theorem dX5_house_128 : decode cX5_house 128 = .ok (.iastore, 1) := by decide +kernel
theorem dX5_house_129 : decode cX5_house 129 = .ok (.aload_n 0, 1) := by decide +kernel
theorem dX5_house_130 : decode cX5_house 130 = .ok (.getfield 22, 3) := by decide +kernel
theorem dX5_house_133 : decode cX5_house 133 = .ok (.aload_n 0, 1) := by decide +kernel
theorem dX5_house_134 : decode cX5_house 134 = .ok (.getfield 75, 3) := by decide +kernel
theorem dX5_house_137 : decode cX5_house 137 = .ok (.aload_n 0, 1) := by decide +kernel
theorem dX5_house_138 : decode cX5_house 138 = .ok (.getfield 47, 3) := by decide +kernel
theorem dX5_house_141 : decode cX5_house 141 = .ok (.iconst 4, 1) := by decide +kernel
theorem dX5_house_142 : decode cX5_house 142 = .ok (.baload, 1) := by decide +kernel
theorem dX5_house_143 : decode cX5_house 143 = .ok (.bipush 48, 2) := by decide +kernel
theorem dX5_house_145 : decode cX5_house 145 = .ok (.isub, 1) := by decide +kernel
theorem dX5_house_146 : decode cX5_house 146 = .ok (.iastore, 1) := by decide +kernel
theorem dX5_house_147 : decode cX5_house 147 = .ok (.aload_n 0, 1) := by decide +kernel
theorem dX5_house_148 : decode cX5_house 148 = .ok (.getfield 25, 3) := by decide +kernel
theorem dX5_house_151 : decode cX5_house 151 = .ok (.aload_n 0, 1) := by decide +kernel
theorem dX5_house_152 : decode cX5_house 152 = .ok (.getfield 75, 3) := by decide +kernel
theorem dX5_house_155 : decode cX5_house 155 = .ok (.aload_n 0, 1) := by decide +kernel
theorem dX5_house_156 : decode cX5_house 156 = .ok (.getfield 47, 3) := by decide +kernel
theorem dX5_house_159 : decode cX5_house 159 = .ok (.iconst 5, 1) := by decide +kernel
theorem dX5_house_160 : decode cX5_house 160 = .ok (.baload, 1) := by decide +kernel
theorem dX5_house_161 : decode cX5_house 161 = .ok (.bipush 48, 2) := by decide +kernel
theorem dX5_house_163 : decode cX5_house 163 = .ok (.isub, 1) := by decide +kernel
theorem dX5_house_164 : decode cX5_house 164 = .ok (.iastore, 1) := by decide +kernel
theorem dX5_house_165 : decode cX5_house 165 = .ok (.aload_n 0, 1) := by decide +kernel
theorem dX5_house_166 : decode cX5_house 166 = .ok (.getfield 28, 3) := by decide +kernel
theorem dX5_house_169 : decode cX5_house 169 = .ok (.aload_n 0, 1) := by decide +kernel
theorem dX5_house_170 : decode cX5_house 170 = .ok (.getfield 75, 3) := by decide +kernel
theorem dX5_house_173 : decode cX5_house 173 = .ok (.iconst 0, 1) := by decide +kernel
theorem dX5_house_174 : decode cX5_house 174 = .ok (.iastore, 1) := by decide +kernel
theorem dX5_house_175 : decode cX5_house 175 = .ok (.aload_n 0, 1) := by decide +kernel
theorem dX5_house_176 : decode cX5_house 176 = .ok (.getfield 31, 3) := by decide +kernel
theorem dX5_house_179 : decode cX5_house 179 = .ok (.aload_n 0, 1) := by decide +kernel
theorem dX5_house_180 : decode cX5_house 180 = .ok (.getfield 75, 3) := by decide +kernel
theorem dX5_house_183 : decode cX5_house 183 = .ok (.iconst 0, 1) := by decide +kernel
theorem dX5_house_184 : decode cX5_house 184 = .ok (.iastore, 1) := by decide +kernel
theorem dX5_house_185 : decode cX5_house 185 = .ok (.aload_n 0, 1) := by decide +kernel
theorem dX5_house_186 : decode cX5_house 186 = .ok (.dup, 1) := by decide +kernel
theorem dX5_house_187 : decode cX5_house 187 = .ok (.getfield 93, 3) := by decide +kernel
theorem dX5_house_190 : decode cX5_house 190 = .ok (.iconst 1, 1) := by decide +kernel
theorem dX5_house_191 : decode cX5_house 191 = .ok (.aload_n 0, 1) := by decide +kernel
theorem dX5_house_192 : decode cX5_house 192 = .ok (.getfield 75, 3) := by decide +kernel
theorem dX5_house_195 : decode cX5_house 195 = .ok (.ishl, 1) := by decide +kernel
theorem dX5_house_196 : decode cX5_house 196 = .ok (.iconst (-1), 1) := by decide +kernel
theorem dX5_house_197 : decode cX5_house 197 = .ok (.ixor, 1) := by decide +kernel
theorem dX5_house_198 : decode cX5_house 198 = .ok (.iand, 1) := by decide +kernel
theorem dX5_house_199 : decode cX5_house 199 = .ok (.putfield 93, 3) := by decide +kernel
theorem dX5_house_202 : decode cX5_house 202 = .ok (.aload_n 0, 1) := by decide +kernel
theorem dX5_house_203 : decode cX5_house 203 = .ok (.dup, 1) := by decide +kernel
theorem dX5_house_204 : decode cX5_house 204 = .ok (.getfield 75, 3) := by decide +kernel
theorem dX5_house_207 : decode cX5_house 207 = .ok (.iconst 1, 1) := by decide +kernel
theorem dX5_house_208 : decode cX5_house 208 = .ok (.iadd, 1) := by decide +kernel
theorem dX5_house_209 : decode cX5_house 209 = .ok (.putfield 75, 3) := by decide +kernel
theorem dX5_house_212 : decode cX5_house 212 = .ok (.aload_n 0, 1) := by decide +kernel
theorem dX5_house_213 : decode cX5_house 213 = .ok (.iconst 0, 1) := by decide +kernel
theorem dX5_house_214 : decode cX5_house 214 = .ok (.putfield 68, 3) := by decide +kernel
theorem dX5_house_217 : decode cX5_house 217 = .ok (.aload_n 0, 1) := by decide +kernel
theorem dX5_house_218 : decode cX5_house 218 = .ok (.getfield 75, 3) := by decide +kernel
theorem dX5_house_221 : decode cX5_house 221 = .ok (.iconst 1, 1) := by decide +kernel
theorem dX5_house_222 : decode cX5_house 222 = .ok (.isub, 1) := by decide +kernel
theorem dX5_house_223 : decode cX5_house 223 = .ok (.ireturn, 1) := by decide +kernel
theorem dX5_isHouse_0 : decode cX5_isHouse 0 = .ok (.iload_n 1, 1) := by decide +kernel
theorem dX5_isHouse_1 : decode cX5_isHouse 1 = .ok (.iconst 0, 1) := by decide +kernel
theorem dX5_isHouse_2 : decode cX5_isHouse 2 = .ok (.aload_n 0, 1) := by decide +kernel
theorem dX5_isHouse_3 : decode cX5_isHouse 3 = .ok (.getfield 75, 3) := by decide +kernel
theorem dX5_isHouse_6 : decode cX5_isHouse 6 = .ok (.iconst 1, 1) := by decide +kernel
theorem dX5_isHouse_7 : decode cX5_isHouse 7 = .ok (.isub, 1) := by decide +kernel
theorem dX5_isHouse_8 : decode cX5_isHouse 8 = .ok (.invokestatic 78, 3) := by decide +kernel
theorem dX5_isHouse_11 : decode cX5_isHouse 11 = .ok (.ireturn, 1) := by decide +kernel
theorem dX5_houseNow_0 : decode cX5_houseNow 0 = .ok (.iload_n 2, 1) := by decide +kernel
theorem dX5_houseNow_1 : decode cX5_houseNow 1 = .ok (.tableswitch 103 0 7 #[47, 54, 61, 68, 75, 82, 89, 96], 47) := by decide +kernel
theorem dX5_houseNow_48 : decode cX5_houseNow 48 = .ok (.aload_n 0, 1) := by decide +kernel
theorem dX5_houseNow_49 : decode cX5_houseNow 49 = .ok (.getfield 7, 3) := by decide +kernel
theorem dX5_houseNow_52 : decode cX5_houseNow 52 = .ok (.iload_n 1, 1) := by decide +kernel
theorem dX5_houseNow_53 : decode cX5_houseNow 53 = .ok (.iaload, 1) := by decide +kernel
theorem dX5_houseNow_54 : decode cX5_houseNow 54 = .ok (.ireturn, 1) := by decide +kernel
theorem dX5_houseNow_55 : decode cX5_houseNow 55 = .ok (.aload_n 0, 1) := by decide +kernel
theorem dX5_houseNow_56 : decode cX5_houseNow 56 = .ok (.getfield 13, 3) := by decide +kernel
theorem dX5_houseNow_59 : decode cX5_houseNow 59 = .ok (.iload_n 1, 1) := by decide +kernel
theorem dX5_houseNow_60 : decode cX5_houseNow 60 = .ok (.iaload, 1) := by decide +kernel
theorem dX5_houseNow_61 : decode cX5_houseNow 61 = .ok (.ireturn, 1) := by decide +kernel
theorem dX5_houseNow_62 : decode cX5_houseNow 62 = .ok (.aload_n 0, 1) := by decide +kernel
theorem dX5_houseNow_63 : decode cX5_houseNow 63 = .ok (.getfield 16, 3) := by decide +kernel
theorem dX5_houseNow_66 : decode cX5_houseNow 66 = .ok (.iload_n 1, 1) := by decide +kernel
theorem dX5_houseNow_67 : decode cX5_houseNow 67 = .ok (.iaload, 1) := by decide +kernel
theorem dX5_houseNow_68 : decode cX5_houseNow 68 = .ok (.ireturn, 1) := by decide +kernel
theorem dX5_houseNow_69 : decode cX5_houseNow 69 = .ok (.aload_n 0, 1) := by decide +kernel
theorem dX5_houseNow_70 : decode cX5_houseNow 70 = .ok (.getfield 19, 3) := by decide +kernel
theorem dX5_houseNow_73 : decode cX5_houseNow 73 = .ok (.iload_n 1, 1) := by decide +kernel
theorem dX5_houseNow_74 : decode cX5_houseNow 74 = .ok (.iaload, 1) := by decide +kernel
theorem dX5_houseNow_75 : decode cX5_houseNow 75 = .ok (.ireturn, 1) := by decide +kernel
theorem dX5_houseNow_76 : decode cX5_houseNow 76 = .ok (.aload_n 0, 1) := by decide +kernel
theorem dX5_houseNow_77 : decode cX5_houseNow 77 = .ok (.getfield 22, 3) := by decide +kernel
theorem dX5_houseNow_80 : decode cX5_houseNow 80 = .ok (.iload_n 1, 1) := by decide +kernel
theorem dX5_houseNow_81 : decode cX5_houseNow 81 = .ok (.iaload, 1) := by decide +kernel
theorem dX5_houseNow_82 : decode cX5_houseNow 82 = .ok (.ireturn, 1) := by decide +kernel
theorem dX5_houseNow_83 : decode cX5_houseNow 83 = .ok (.aload_n 0, 1) := by decide +kernel
theorem dX5_houseNow_84 : decode cX5_houseNow 84 = .ok (.getfield 25, 3) := by decide +kernel
theorem dX5_houseNow_87 : decode cX5_houseNow 87 = .ok (.iload_n 1, 1) := by decide +kernel
theorem dX5_houseNow_88 : decode cX5_houseNow 88 = .ok (.iaload, 1) := by decide +kernel
theorem dX5_houseNow_89 : decode cX5_houseNow 89 = .ok (.ireturn, 1) := by decide +kernel
theorem dX5_houseNow_90 : decode cX5_houseNow 90 = .ok (.aload_n 0, 1) := by decide +kernel
theorem dX5_houseNow_91 : decode cX5_houseNow 91 = .ok (.getfield 28, 3) := by decide +kernel
theorem dX5_houseNow_94 : decode cX5_houseNow 94 = .ok (.iload_n 1, 1) := by decide +kernel
theorem dX5_houseNow_95 : decode cX5_houseNow 95 = .ok (.iaload, 1) := by decide +kernel
theorem dX5_houseNow_96 : decode cX5_houseNow 96 = .ok (.ireturn, 1) := by decide +kernel
theorem dX5_houseNow_97 : decode cX5_houseNow 97 = .ok (.aload_n 0, 1) := by decide +kernel
theorem dX5_houseNow_98 : decode cX5_houseNow 98 = .ok (.getfield 31, 3) := by decide +kernel
theorem dX5_houseNow_101 : decode cX5_houseNow 101 = .ok (.iload_n 1, 1) := by decide +kernel
theorem dX5_houseNow_102 : decode cX5_houseNow 102 = .ok (.iaload, 1) := by decide +kernel
theorem dX5_houseNow_103 : decode cX5_houseNow 103 = .ok (.ireturn, 1) := by decide +kernel
theorem dX5_houseNow_104 : decode cX5_houseNow 104 = .ok (.aload_n 0, 1) := by decide +kernel
theorem dX5_houseNow_105 : decode cX5_houseNow 105 = .ok (.getfield 93, 3) := by decide +kernel
theorem dX5_houseNow_108 : decode cX5_houseNow 108 = .ok (.iload_n 1, 1) := by decide +kernel
theorem dX5_houseNow_109 : decode cX5_houseNow 109 = .ok (.invokestatic 96, 3) := by decide +kernel
theorem dX5_houseNow_112 : decode cX5_houseNow 112 = .ok (.ifCond .eq 7, 3) := by decide +kernel
end
section
theorem dX5_houseNow_115 : decode cX5_houseNow 115 = .ok (.iconst 1, 1) := by decide +kernel
theorem dX5_houseNow_116 : decode cX5_houseNow 116 = .ok (.goto 4, 3) := by decide +kernel
theorem dX5_houseNow_119 : decode cX5_houseNow 119 = .ok (.iconst 0, 1) := by decide +kernel
theorem dX5_houseNow_120 : decode cX5_houseNow 120 = .ok (.ireturn, 1) := by decide +kernel
theorem dX5_about_0 : decode cX5_about 0 = .ok (.aload_n 0, 1) := by decide +kernel
theorem dX5_about_1 : decode cX5_about 1 = .ok (.iload_n 1, 1) := by decide +kernel
theorem dX5_about_2 : decode cX5_about 2 = .ok (.invokevirtual 99, 3) := by decide +kernel
theorem dX5_about_5 : decode cX5_about 5 = .ok (.ifCond .ne 8, 3) := by decide +kernel
theorem dX5_about_8 : decode cX5_about 8 = .ok (.bipush (-101), 2) := by decide +kernel
theorem dX5_about_10 : decode cX5_about 10 = .ok (.goto 24, 3) := by decide +kernel
theorem dX5_about_13 : decode cX5_about 13 = .ok (.iload_n 2, 1) := by decide +kernel
theorem dX5_about_14 : decode cX5_about 14 = .ok (.iconst 0, 1) := by decide +kernel
theorem dX5_about_15 : decode cX5_about 15 = .ok (.bipush 8, 2) := by decide +kernel
theorem dX5_about_17 : decode cX5_about 17 = .ok (.invokestatic 78, 3) := by decide +kernel
theorem dX5_about_20 : decode cX5_about 20 = .ok (.ifCond .eq 12, 3) := by decide +kernel
theorem dX5_about_23 : decode cX5_about 23 = .ok (.aload_n 0, 1) := by decide +kernel
theorem dX5_about_24 : decode cX5_about 24 = .ok (.iload_n 1, 1) := by decide +kernel
theorem dX5_about_25 : decode cX5_about 25 = .ok (.iload_n 2, 1) := by decide +kernel
theorem dX5_about_26 : decode cX5_about 26 = .ok (.invokevirtual 103, 3) := by decide +kernel
theorem dX5_about_29 : decode cX5_about 29 = .ok (.goto 5, 3) := by decide +kernel
theorem dX5_about_32 : decode cX5_about 32 = .ok (.bipush (-102), 2) := by decide +kernel
theorem dX5_about_34 : decode cX5_about 34 = .ok (.ireturn, 1) := by decide +kernel
theorem dX5_as_0 : decode cX5_as 0 = .ok (.aload_n 0, 1) := by decide +kernel
theorem dX5_as_1 : decode cX5_as 1 = .ok (.iload_n 1, 1) := by decide +kernel
theorem dX5_as_2 : decode cX5_as 2 = .ok (.invokevirtual 99, 3) := by decide +kernel
theorem dX5_as_5 : decode cX5_as 5 = .ok (.ifCond .ne 6, 3) := by decide +kernel
theorem dX5_as_8 : decode cX5_as 8 = .ok (.bipush (-101), 2) := by decide +kernel
theorem dX5_as_10 : decode cX5_as 10 = .ok (.ireturn, 1) := by decide +kernel
theorem dX5_as_11 : decode cX5_as 11 = .ok (.iload_n 2, 1) := by decide +kernel
theorem dX5_as_12 : decode cX5_as 12 = .ok (.iconst 0, 1) := by decide +kernel
theorem dX5_as_13 : decode cX5_as 13 = .ok (.iconst 4, 1) := by decide +kernel
theorem dX5_as_14 : decode cX5_as 14 = .ok (.invokestatic 78, 3) := by decide +kernel
theorem dX5_as_17 : decode cX5_as 17 = .ok (.ifCond .ne 6, 3) := by decide +kernel
theorem dX5_as_20 : decode cX5_as 20 = .ok (.bipush (-102), 2) := by decide +kernel
theorem dX5_as_22 : decode cX5_as 22 = .ok (.ireturn, 1) := by decide +kernel
theorem dX5_as_23 : decode cX5_as 23 = .ok (.aload_n 0, 1) := by decide +kernel
theorem dX5_as_24 : decode cX5_as 24 = .ok (.getfield 7, 3) := by decide +kernel
theorem dX5_as_27 : decode cX5_as 27 = .ok (.iload_n 1, 1) := by decide +kernel
theorem dX5_as_28 : decode cX5_as 28 = .ok (.iaload, 1) := by decide +kernel
theorem dX5_as_29 : decode cX5_as 29 = .ok (.istore_n 3, 1) := by decide +kernel
theorem dX5_as_30 : decode cX5_as 30 = .ok (.iload_n 2, 1) := by decide +kernel
theorem dX5_as_31 : decode cX5_as 31 = .ok (.ifCond .eq 18, 3) := by decide +kernel
theorem dX5_as_34 : decode cX5_as 34 = .ok (.iload_n 3, 1) := by decide +kernel
theorem dX5_as_35 : decode cX5_as 35 = .ok (.iload_n 2, 1) := by decide +kernel
theorem dX5_as_36 : decode cX5_as 36 = .ok (.if_icmp .eq 13, 3) := by decide +kernel
theorem dX5_as_39 : decode cX5_as 39 = .ok (.iload_n 2, 1) := by decide +kernel
theorem dX5_as_40 : decode cX5_as 40 = .ok (.iconst 2, 1) := by decide +kernel
theorem dX5_as_41 : decode cX5_as 41 = .ok (.if_icmp .ne 12, 3) := by decide +kernel
theorem dX5_as_44 : decode cX5_as 44 = .ok (.iload_n 3, 1) := by decide +kernel
theorem dX5_as_45 : decode cX5_as 45 = .ok (.iconst 4, 1) := by decide +kernel
theorem dX5_as_46 : decode cX5_as 46 = .ok (.if_icmp .ne 7, 3) := by decide +kernel
theorem dX5_as_49 : decode cX5_as 49 = .ok (.iload_n 1, 1) := by decide +kernel
theorem dX5_as_50 : decode cX5_as 50 = .ok (.goto 4, 3) := by decide +kernel
theorem dX5_as_53 : decode cX5_as 53 = .ok (.iconst (-1), 1) := by decide +kernel
theorem dX5_as_54 : decode cX5_as 54 = .ok (.ireturn, 1) := by decide +kernel
theorem dX5_length_0 : decode cX5_length 0 = .ok (.iload_n 1, 1) := by decide +kernel
theorem dX5_length_1 : decode cX5_length 1 = .ok (.iconst 1, 1) := by decide +kernel
theorem dX5_length_2 : decode cX5_length 2 = .ok (.bipush 99, 2) := by decide +kernel
theorem dX5_length_4 : decode cX5_length 4 = .ok (.invokestatic 78, 3) := by decide +kernel
theorem dX5_length_7 : decode cX5_length 7 = .ok (.ifCond .ne 6, 3) := by decide +kernel
theorem dX5_length_10 : decode cX5_length 10 = .ok (.bipush (-102), 2) := by decide +kernel
theorem dX5_length_12 : decode cX5_length 12 = .ok (.ireturn, 1) := by decide +kernel
theorem dX5_length_13 : decode cX5_length 13 = .ok (.aload_n 0, 1) := by decide +kernel
theorem dX5_length_14 : decode cX5_length 14 = .ok (.getfield 90, 3) := by decide +kernel
theorem dX5_length_17 : decode cX5_length 17 = .ok (.ifCond .le 6, 3) := by decide +kernel
theorem dX5_length_20 : decode cX5_length 20 = .ok (.bipush (-103), 2) := by decide +kernel
theorem dX5_length_22 : decode cX5_length 22 = .ok (.ireturn, 1) := by decide +kernel
theorem dX5_length_23 : decode cX5_length 23 = .ok (.aload_n 0, 1) := by decide +kernel
theorem dX5_length_24 : decode cX5_length 24 = .ok (.getfield 34, 3) := by decide +kernel
theorem dX5_length_27 : decode cX5_length 27 = .ok (.istore_n 2, 1) := by decide +kernel
theorem dX5_length_28 : decode cX5_length 28 = .ok (.aload_n 0, 1) := by decide +kernel
theorem dX5_length_29 : decode cX5_length 29 = .ok (.iload_n 1, 1) := by decide +kernel
theorem dX5_length_30 : decode cX5_length 30 = .ok (.putfield 34, 3) := by decide +kernel
theorem dX5_length_33 : decode cX5_length 33 = .ok (.aload_n 0, 1) := by decide +kernel
theorem dX5_length_34 : decode cX5_length 34 = .ok (.iload_n 1, 1) := by decide +kernel
theorem dX5_length_35 : decode cX5_length 35 = .ok (.putfield 38, 3) := by decide +kernel
theorem dX5_length_38 : decode cX5_length 38 = .ok (.iload_n 2, 1) := by decide +kernel
theorem dX5_length_39 : decode cX5_length 39 = .ok (.ireturn, 1) := by decide +kernel
theorem dX5_brake_0 : decode cX5_brake 0 = .ok (.aload_n 0, 1) := by decide +kernel
theorem dX5_brake_1 : decode cX5_brake 1 = .ok (.iload_n 1, 1) := by decide +kernel
theorem dX5_brake_2 : decode cX5_brake 2 = .ok (.invokevirtual 99, 3) := by decide +kernel
theorem dX5_brake_5 : decode cX5_brake 5 = .ok (.ifCond .ne 6, 3) := by decide +kernel
theorem dX5_brake_8 : decode cX5_brake 8 = .ok (.bipush (-101), 2) := by decide +kernel
theorem dX5_brake_10 : decode cX5_brake 10 = .ok (.ireturn, 1) := by decide +kernel
theorem dX5_brake_11 : decode cX5_brake 11 = .ok (.aload_n 0, 1) := by decide +kernel
theorem dX5_brake_12 : decode cX5_brake 12 = .ok (.getfield 93, 3) := by decide +kernel
theorem dX5_brake_15 : decode cX5_brake 15 = .ok (.iload_n 1, 1) := by decide +kernel
theorem dX5_brake_16 : decode cX5_brake 16 = .ok (.ishr, 1) := by decide +kernel
theorem dX5_brake_17 : decode cX5_brake 17 = .ok (.iconst 1, 1) := by decide +kernel
theorem dX5_brake_18 : decode cX5_brake 18 = .ok (.iand, 1) := by decide +kernel
theorem dX5_brake_19 : decode cX5_brake 19 = .ok (.istore_n 3, 1) := by decide +kernel
theorem dX5_brake_20 : decode cX5_brake 20 = .ok (.aload_n 0, 1) := by decide +kernel
theorem dX5_brake_21 : decode cX5_brake 21 = .ok (.iload_n 2, 1) := by decide +kernel
theorem dX5_brake_22 : decode cX5_brake 22 = .ok (.ifCond .eq 14, 3) := by decide +kernel
theorem dX5_brake_25 : decode cX5_brake 25 = .ok (.aload_n 0, 1) := by decide +kernel
theorem dX5_brake_26 : decode cX5_brake 26 = .ok (.getfield 93, 3) := by decide +kernel
theorem dX5_brake_29 : decode cX5_brake 29 = .ok (.iconst 1, 1) := by decide +kernel
theorem dX5_brake_30 : decode cX5_brake 30 = .ok (.iload_n 1, 1) := by decide +kernel
theorem dX5_brake_31 : decode cX5_brake 31 = .ok (.ishl, 1) := by decide +kernel
theorem dX5_brake_32 : decode cX5_brake 32 = .ok (.ior, 1) := by decide +kernel
theorem dX5_brake_33 : decode cX5_brake 33 = .ok (.goto 13, 3) := by decide +kernel
theorem dX5_brake_36 : decode cX5_brake 36 = .ok (.aload_n 0, 1) := by decide +kernel
theorem dX5_brake_37 : decode cX5_brake 37 = .ok (.getfield 93, 3) := by decide +kernel
theorem dX5_brake_40 : decode cX5_brake 40 = .ok (.iconst 1, 1) := by decide +kernel
theorem dX5_brake_41 : decode cX5_brake 41 = .ok (.iload_n 1, 1) := by decide +kernel
theorem dX5_brake_42 : decode cX5_brake 42 = .ok (.ishl, 1) := by decide +kernel
theorem dX5_brake_43 : decode cX5_brake 43 = .ok (.iconst (-1), 1) := by decide +kernel
theorem dX5_brake_44 : decode cX5_brake 44 = .ok (.ixor, 1) := by decide +kernel
theorem dX5_brake_45 : decode cX5_brake 45 = .ok (.iand, 1) := by decide +kernel
theorem dX5_brake_46 : decode cX5_brake 46 = .ok (.putfield 93, 3) := by decide +kernel
theorem dX5_brake_49 : decode cX5_brake 49 = .ok (.iload_n 3, 1) := by decide +kernel
theorem dX5_brake_50 : decode cX5_brake 50 = .ok (.ireturn, 1) := by decide +kernel
theorem dX5_rain_0 : decode cX5_rain 0 = .ok (.aload_n 0, 1) := by decide +kernel
theorem dX5_rain_1 : decode cX5_rain 1 = .ok (.getfield 107, 3) := by decide +kernel
theorem dX5_rain_4 : decode cX5_rain 4 = .ok (.ifCond .eq 7, 3) := by decide +kernel
theorem dX5_rain_7 : decode cX5_rain 7 = .ok (.iconst 1, 1) := by decide +kernel
theorem dX5_rain_8 : decode cX5_rain 8 = .ok (.goto 4, 3) := by decide +kernel
theorem dX5_rain_11 : decode cX5_rain 11 = .ok (.iconst 0, 1) := by decide +kernel
theorem dX5_rain_12 : decode cX5_rain 12 = .ok (.istore_n 2, 1) := by decide +kernel
theorem dX5_rain_13 : decode cX5_rain 13 = .ok (.aload_n 0, 1) := by decide +kernel
theorem dX5_rain_14 : decode cX5_rain 14 = .ok (.iload_n 1, 1) := by decide +kernel
theorem dX5_rain_15 : decode cX5_rain 15 = .ok (.putfield 107, 3) := by decide +kernel
theorem dX5_rain_18 : decode cX5_rain 18 = .ok (.iload_n 2, 1) := by decide +kernel
theorem dX5_rain_19 : decode cX5_rain 19 = .ok (.ireturn, 1) := by decide +kernel
theorem dX5_isTime_0 : decode cX5_isTime 0 = .ok (.aload_n 0, 1) := by decide +kernel
theorem dX5_isTime_1 : decode cX5_isTime 1 = .ok (.getfield 90, 3) := by decide +kernel
theorem dX5_isTime_4 : decode cX5_isTime 4 = .ok (.bipush 9, 2) := by decide +kernel
theorem dX5_isTime_6 : decode cX5_isTime 6 = .ok (.if_icmp .ge 33, 3) := by decide +kernel
theorem dX5_isTime_9 : decode cX5_isTime 9 = .ok (.aload_n 0, 1) := by decide +kernel
theorem dX5_isTime_10 : decode cX5_isTime 10 = .ok (.getfield 90, 3) := by decide +kernel
theorem dX5_isTime_13 : decode cX5_isTime 13 = .ok (.aload_n 0, 1) := by decide +kernel
theorem dX5_isTime_14 : decode cX5_isTime 14 = .ok (.getfield 16, 3) := by decide +kernel
theorem dX5_isTime_17 : decode cX5_isTime 17 = .ok (.iload_n 1, 1) := by decide +kernel
theorem dX5_isTime_18 : decode cX5_isTime 18 = .ok (.iaload, 1) := by decide +kernel
theorem dX5_isTime_19 : decode cX5_isTime 19 = .ok (.if_icmp .lt 20, 3) := by decide +kernel
theorem dX5_isTime_22 : decode cX5_isTime 22 = .ok (.aload_n 0, 1) := by decide +kernel
theorem dX5_isTime_23 : decode cX5_isTime 23 = .ok (.getfield 90, 3) := by decide +kernel
theorem dX5_isTime_26 : decode cX5_isTime 26 = .ok (.aload_n 0, 1) := by decide +kernel
theorem dX5_isTime_27 : decode cX5_isTime 27 = .ok (.getfield 19, 3) := by decide +kernel
theorem dX5_isTime_30 : decode cX5_isTime 30 = .ok (.iload_n 1, 1) := by decide +kernel
theorem dX5_isTime_31 : decode cX5_isTime 31 = .ok (.iaload, 1) := by decide +kernel
theorem dX5_isTime_32 : decode cX5_isTime 32 = .ok (.if_icmp .ge 7, 3) := by decide +kernel
theorem dX5_isTime_35 : decode cX5_isTime 35 = .ok (.iconst 1, 1) := by decide +kernel
theorem dX5_isTime_36 : decode cX5_isTime 36 = .ok (.goto 4, 3) := by decide +kernel
theorem dX5_isTime_39 : decode cX5_isTime 39 = .ok (.iconst 0, 1) := by decide +kernel
theorem dX5_isTime_40 : decode cX5_isTime 40 = .ok (.ireturn, 1) := by decide +kernel
theorem dX5_wantsNow_0 : decode cX5_wantsNow 0 = .ok (.aload_n 0, 1) := by decide +kernel
theorem dX5_wantsNow_1 : decode cX5_wantsNow 1 = .ok (.iload_n 1, 1) := by decide +kernel
theorem dX5_wantsNow_2 : decode cX5_wantsNow 2 = .ok (.invokevirtual 111, 3) := by decide +kernel
theorem dX5_wantsNow_5 : decode cX5_wantsNow 5 = .ok (.ifCond .eq 14, 3) := by decide +kernel
theorem dX5_wantsNow_8 : decode cX5_wantsNow 8 = .ok (.aload_n 0, 1) := by decide +kernel
theorem dX5_wantsNow_9 : decode cX5_wantsNow 9 = .ok (.getfield 93, 3) := by decide +kernel
theorem dX5_wantsNow_12 : decode cX5_wantsNow 12 = .ok (.iload_n 1, 1) := by decide +kernel
theorem dX5_wantsNow_13 : decode cX5_wantsNow 13 = .ok (.invokestatic 96, 3) := by decide +kernel
theorem dX5_wantsNow_16 : decode cX5_wantsNow 16 = .ok (.ifCond .eq 5, 3) := by decide +kernel
theorem dX5_wantsNow_19 : decode cX5_wantsNow 19 = .ok (.iconst 0, 1) := by decide +kernel
theorem dX5_wantsNow_20 : decode cX5_wantsNow 20 = .ok (.ireturn, 1) := by decide +kernel
theorem dX5_wantsNow_21 : decode cX5_wantsNow 21 = .ok (.aload_n 0, 1) := by decide +kernel
theorem dX5_wantsNow_22 : decode cX5_wantsNow 22 = .ok (.getfield 7, 3) := by decide +kernel
theorem dX5_wantsNow_25 : decode cX5_wantsNow 25 = .ok (.iload_n 1, 1) := by decide +kernel
theorem dX5_wantsNow_26 : decode cX5_wantsNow 26 = .ok (.iaload, 1) := by decide +kernel
theorem dX5_wantsNow_27 : decode cX5_wantsNow 27 = .ok (.iconst 2, 1) := by decide +kernel
theorem dX5_wantsNow_28 : decode cX5_wantsNow 28 = .ok (.if_icmp .eq 13, 3) := by decide +kernel
theorem dX5_wantsNow_31 : decode cX5_wantsNow 31 = .ok (.aload_n 0, 1) := by decide +kernel
theorem dX5_wantsNow_32 : decode cX5_wantsNow 32 = .ok (.getfield 7, 3) := by decide +kernel
theorem dX5_wantsNow_35 : decode cX5_wantsNow 35 = .ok (.iload_n 1, 1) := by decide +kernel
theorem dX5_wantsNow_36 : decode cX5_wantsNow 36 = .ok (.iaload, 1) := by decide +kernel
theorem dX5_wantsNow_37 : decode cX5_wantsNow 37 = .ok (.iconst 4, 1) := by decide +kernel
theorem dX5_wantsNow_38 : decode cX5_wantsNow 38 = .ok (.if_icmp .ne 20, 3) := by decide +kernel
theorem dX5_wantsNow_41 : decode cX5_wantsNow 41 = .ok (.aload_n 0, 1) := by decide +kernel
theorem dX5_wantsNow_42 : decode cX5_wantsNow 42 = .ok (.getfield 90, 3) := by decide +kernel
theorem dX5_wantsNow_45 : decode cX5_wantsNow 45 = .ok (.aload_n 0, 1) := by decide +kernel
theorem dX5_wantsNow_46 : decode cX5_wantsNow 46 = .ok (.getfield 16, 3) := by decide +kernel
theorem dX5_wantsNow_49 : decode cX5_wantsNow 49 = .ok (.iload_n 1, 1) := by decide +kernel
theorem dX5_wantsNow_50 : decode cX5_wantsNow 50 = .ok (.iaload, 1) := by decide +kernel
theorem dX5_wantsNow_51 : decode cX5_wantsNow 51 = .ok (.if_icmp .ne 7, 3) := by decide +kernel
theorem dX5_wantsNow_54 : decode cX5_wantsNow 54 = .ok (.iconst 1, 1) := by decide +kernel
theorem dX5_wantsNow_55 : decode cX5_wantsNow 55 = .ok (.goto 4, 3) := by decide +kernel
theorem dX5_wantsNow_58 : decode cX5_wantsNow 58 = .ok (.iconst 0, 1) := by decide +kernel
theorem dX5_wantsNow_59 : decode cX5_wantsNow 59 = .ok (.istore_n 2, 1) := by decide +kernel
theorem dX5_wantsNow_60 : decode cX5_wantsNow 60 = .ok (.aload_n 0, 1) := by decide +kernel
theorem dX5_wantsNow_61 : decode cX5_wantsNow 61 = .ok (.getfield 7, 3) := by decide +kernel
theorem dX5_wantsNow_64 : decode cX5_wantsNow 64 = .ok (.iload_n 1, 1) := by decide +kernel
theorem dX5_wantsNow_65 : decode cX5_wantsNow 65 = .ok (.iaload, 1) := by decide +kernel
theorem dX5_wantsNow_66 : decode cX5_wantsNow 66 = .ok (.iconst 3, 1) := by decide +kernel
theorem dX5_wantsNow_67 : decode cX5_wantsNow 67 = .ok (.if_icmp .ne 18, 3) := by decide +kernel
theorem dX5_wantsNow_70 : decode cX5_wantsNow 70 = .ok (.aload_n 0, 1) := by decide +kernel
theorem dX5_wantsNow_71 : decode cX5_wantsNow 71 = .ok (.getfield 114, 3) := by decide +kernel
theorem dX5_wantsNow_74 : decode cX5_wantsNow 74 = .ok (.iload_n 1, 1) := by decide +kernel
theorem dX5_wantsNow_75 : decode cX5_wantsNow 75 = .ok (.invokestatic 96, 3) := by decide +kernel
theorem dX5_wantsNow_78 : decode cX5_wantsNow 78 = .ok (.ifCond .eq 7, 3) := by decide +kernel
theorem dX5_wantsNow_81 : decode cX5_wantsNow 81 = .ok (.iconst 1, 1) := by decide +kernel
theorem dX5_wantsNow_82 : decode cX5_wantsNow 82 = .ok (.goto 4, 3) := by decide +kernel
theorem dX5_wantsNow_85 : decode cX5_wantsNow 85 = .ok (.iconst 0, 1) := by decide +kernel
theorem dX5_wantsNow_86 : decode cX5_wantsNow 86 = .ok (.istore_n 3, 1) := by decide +kernel
theorem dX5_wantsNow_87 : decode cX5_wantsNow 87 = .ok (.iload_n 2, 1) := by decide +kernel
theorem dX5_wantsNow_88 : decode cX5_wantsNow 88 = .ok (.ifCond .eq 14, 3) := by decide +kernel
theorem dX5_wantsNow_91 : decode cX5_wantsNow 91 = .ok (.iconst 2, 1) := by decide +kernel
theorem dX5_wantsNow_92 : decode cX5_wantsNow 92 = .ok (.aload_n 0, 1) := by decide +kernel
theorem dX5_wantsNow_93 : decode cX5_wantsNow 93 = .ok (.getfield 22, 3) := by decide +kernel
theorem dX5_wantsNow_96 : decode cX5_wantsNow 96 = .ok (.iload_n 1, 1) := by decide +kernel
theorem dX5_wantsNow_97 : decode cX5_wantsNow 97 = .ok (.iaload, 1) := by decide +kernel
theorem dX5_wantsNow_98 : decode cX5_wantsNow 98 = .ok (.imul, 1) := by decide +kernel
theorem dX5_wantsNow_99 : decode cX5_wantsNow 99 = .ok (.goto 11, 3) := by decide +kernel
theorem dX5_wantsNow_102 : decode cX5_wantsNow 102 = .ok (.aload_n 0, 1) := by decide +kernel
theorem dX5_wantsNow_103 : decode cX5_wantsNow 103 = .ok (.getfield 22, 3) := by decide +kernel
theorem dX5_wantsNow_106 : decode cX5_wantsNow 106 = .ok (.iload_n 1, 1) := by decide +kernel
theorem dX5_wantsNow_107 : decode cX5_wantsNow 107 = .ok (.iaload, 1) := by decide +kernel
theorem dX5_wantsNow_108 : decode cX5_wantsNow 108 = .ok (.iload_n 3, 1) := by decide +kernel
theorem dX5_wantsNow_109 : decode cX5_wantsNow 109 = .ok (.isub, 1) := by decide +kernel
theorem dX5_wantsNow_110 : decode cX5_wantsNow 110 = .ok (.ireturn, 1) := by decide +kernel
theorem dX5_wants_0 : decode cX5_wants 0 = .ok (.aload_n 0, 1) := by decide +kernel
theorem dX5_wants_1 : decode cX5_wants 1 = .ok (.iload_n 1, 1) := by decide +kernel
theorem dX5_wants_2 : decode cX5_wants 2 = .ok (.invokevirtual 99, 3) := by decide +kernel
theorem dX5_wants_5 : decode cX5_wants 5 = .ok (.ifCond .eq 11, 3) := by decide +kernel
theorem dX5_wants_8 : decode cX5_wants 8 = .ok (.aload_n 0, 1) := by decide +kernel
theorem dX5_wants_9 : decode cX5_wants 9 = .ok (.iload_n 1, 1) := by decide +kernel
theorem dX5_wants_10 : decode cX5_wants 10 = .ok (.invokevirtual 117, 3) := by decide +kernel
theorem dX5_wants_13 : decode cX5_wants 13 = .ok (.goto 5, 3) := by decide +kernel
theorem dX5_wants_16 : decode cX5_wants 16 = .ok (.bipush (-101), 2) := by decide +kernel
theorem dX5_wants_18 : decode cX5_wants 18 = .ok (.ireturn, 1) := by decide +kernel
theorem dX5_shafts_0 : decode cX5_shafts 0 = .ok (.iload_n 1, 1) := by decide +kernel
theorem dX5_shafts_1 : decode cX5_shafts 1 = .ok (.istore_n 2, 1) := by decide +kernel
theorem dX5_shafts_2 : decode cX5_shafts 2 = .ok (.aload_n 0, 1) := by decide +kernel
theorem dX5_shafts_3 : decode cX5_shafts 3 = .ok (.getfield 75, 3) := by decide +kernel
theorem dX5_shafts_6 : decode cX5_shafts 6 = .ok (.iconst 1, 1) := by decide +kernel
theorem dX5_shafts_7 : decode cX5_shafts 7 = .ok (.isub, 1) := by decide +kernel
theorem dX5_shafts_8 : decode cX5_shafts 8 = .ok (.istore_n 3, 1) := by decide +kernel
theorem dX5_shafts_9 : decode cX5_shafts 9 = .ok (.iload_n 3, 1) := by decide +kernel
theorem dX5_shafts_10 : decode cX5_shafts 10 = .ok (.ifCond .lt 42, 3) := by decide +kernel
theorem dX5_shafts_13 : decode cX5_shafts 13 = .ok (.iload_n 2, 1) := by decide +kernel
theorem dX5_shafts_14 : decode cX5_shafts 14 = .ok (.iload_n 2, 1) := by decide +kernel
theorem dX5_shafts_15 : decode cX5_shafts 15 = .ok (.iload_n 3, 1) := by decide +kernel
theorem dX5_shafts_16 : decode cX5_shafts 16 = .ok (.invokestatic 96, 3) := by decide +kernel
theorem dX5_shafts_19 : decode cX5_shafts 19 = .ok (.ifCond .eq 24, 3) := by decide +kernel
theorem dX5_shafts_22 : decode cX5_shafts 22 = .ok (.aload_n 0, 1) := by decide +kernel
theorem dX5_shafts_23 : decode cX5_shafts 23 = .ok (.getfield 13, 3) := by decide +kernel
theorem dX5_shafts_26 : decode cX5_shafts 26 = .ok (.iload_n 3, 1) := by decide +kernel
theorem dX5_shafts_27 : decode cX5_shafts 27 = .ok (.iaload, 1) := by decide +kernel
theorem dX5_shafts_28 : decode cX5_shafts 28 = .ok (.iconst (-1), 1) := by decide +kernel
theorem dX5_shafts_29 : decode cX5_shafts 29 = .ok (.if_icmp .eq 14, 3) := by decide +kernel
theorem dX5_shafts_32 : decode cX5_shafts 32 = .ok (.iconst 1, 1) := by decide +kernel
theorem dX5_shafts_33 : decode cX5_shafts 33 = .ok (.aload_n 0, 1) := by decide +kernel
theorem dX5_shafts_34 : decode cX5_shafts 34 = .ok (.getfield 13, 3) := by decide +kernel
theorem dX5_shafts_37 : decode cX5_shafts 37 = .ok (.iload_n 3, 1) := by decide +kernel
theorem dX5_shafts_38 : decode cX5_shafts 38 = .ok (.iaload, 1) := by decide +kernel
theorem dX5_shafts_39 : decode cX5_shafts 39 = .ok (.ishl, 1) := by decide +kernel
theorem dX5_shafts_40 : decode cX5_shafts 40 = .ok (.goto 4, 3) := by decide +kernel
theorem dX5_shafts_43 : decode cX5_shafts 43 = .ok (.iconst 0, 1) := by decide +kernel
theorem dX5_shafts_44 : decode cX5_shafts 44 = .ok (.ior, 1) := by decide +kernel
theorem dX5_shafts_45 : decode cX5_shafts 45 = .ok (.istore_n 2, 1) := by decide +kernel
theorem dX5_shafts_46 : decode cX5_shafts 46 = .ok (.iinc 3 (-1), 3) := by decide +kernel
theorem dX5_shafts_49 : decode cX5_shafts 49 = .ok (.goto (-40), 3) := by decide +kernel
theorem dX5_shafts_52 : decode cX5_shafts 52 = .ok (.iload_n 2, 1) := by decide +kernel
theorem dX5_shafts_53 : decode cX5_shafts 53 = .ok (.ireturn, 1) := by decide +kernel
theorem dX5_wanting_0 : decode cX5_wanting 0 = .ok (.iconst 0, 1) := by decide +kernel
theorem dX5_wanting_1 : decode cX5_wanting 1 = .ok (.istore_n 2, 1) := by decide +kernel
theorem dX5_wanting_2 : decode cX5_wanting 2 = .ok (.iconst 0, 1) := by decide +kernel
theorem dX5_wanting_3 : decode cX5_wanting 3 = .ok (.istore_n 3, 1) := by decide +kernel
theorem dX5_wanting_4 : decode cX5_wanting 4 = .ok (.iload_n 3, 1) := by decide +kernel
theorem dX5_wanting_5 : decode cX5_wanting 5 = .ok (.aload_n 0, 1) := by decide +kernel
theorem dX5_wanting_6 : decode cX5_wanting 6 = .ok (.getfield 75, 3) := by decide +kernel
theorem dX5_wanting_9 : decode cX5_wanting 9 = .ok (.if_icmp .ge 35, 3) := by decide +kernel
theorem dX5_wanting_12 : decode cX5_wanting 12 = .ok (.iload_n 2, 1) := by decide +kernel
theorem dX5_wanting_13 : decode cX5_wanting 13 = .ok (.iload_n 1, 1) := by decide +kernel
theorem dX5_wanting_14 : decode cX5_wanting 14 = .ok (.iload_n 3, 1) := by decide +kernel
theorem dX5_wanting_15 : decode cX5_wanting 15 = .ok (.invokestatic 96, 3) := by decide +kernel
theorem dX5_wanting_18 : decode cX5_wanting 18 = .ok (.ifCond .eq 17, 3) := by decide +kernel
theorem dX5_wanting_21 : decode cX5_wanting 21 = .ok (.aload_n 0, 1) := by decide +kernel
theorem dX5_wanting_22 : decode cX5_wanting 22 = .ok (.iload_n 3, 1) := by decide +kernel
theorem dX5_wanting_23 : decode cX5_wanting 23 = .ok (.invokevirtual 117, 3) := by decide +kernel
theorem dX5_wanting_26 : decode cX5_wanting 26 = .ok (.ifCond .le 9, 3) := by decide +kernel
theorem dX5_wanting_29 : decode cX5_wanting 29 = .ok (.iconst 1, 1) := by decide +kernel
theorem dX5_wanting_30 : decode cX5_wanting 30 = .ok (.iload_n 3, 1) := by decide +kernel
theorem dX5_wanting_31 : decode cX5_wanting 31 = .ok (.ishl, 1) := by decide +kernel
theorem dX5_wanting_32 : decode cX5_wanting 32 = .ok (.goto 4, 3) := by decide +kernel
theorem dX5_wanting_35 : decode cX5_wanting 35 = .ok (.iconst 0, 1) := by decide +kernel
theorem dX5_wanting_36 : decode cX5_wanting 36 = .ok (.ior, 1) := by decide +kernel
theorem dX5_wanting_37 : decode cX5_wanting 37 = .ok (.istore_n 2, 1) := by decide +kernel
theorem dX5_wanting_38 : decode cX5_wanting 38 = .ok (.iinc 3 1, 3) := by decide +kernel
theorem dX5_wanting_41 : decode cX5_wanting 41 = .ok (.goto (-37), 3) := by decide +kernel
theorem dX5_wanting_44 : decode cX5_wanting 44 = .ok (.iload_n 2, 1) := by decide +kernel
theorem dX5_wanting_45 : decode cX5_wanting 45 = .ok (.ireturn, 1) := by decide +kernel
theorem dX5_takesBy_0 : decode cX5_takesBy 0 = .ok (.iconst 0, 1) := by decide +kernel
theorem dX5_takesBy_1 : decode cX5_takesBy 1 = .ok (.istore_n 2, 1) := by decide +kernel
theorem dX5_takesBy_2 : decode cX5_takesBy 2 = .ok (.iconst 0, 1) := by decide +kernel
theorem dX5_takesBy_3 : decode cX5_takesBy 3 = .ok (.istore_n 3, 1) := by decide +kernel
theorem dX5_takesBy_4 : decode cX5_takesBy 4 = .ok (.iload_n 3, 1) := by decide +kernel
theorem dX5_takesBy_5 : decode cX5_takesBy 5 = .ok (.aload_n 0, 1) := by decide +kernel
theorem dX5_takesBy_6 : decode cX5_takesBy 6 = .ok (.getfield 75, 3) := by decide +kernel
theorem dX5_takesBy_9 : decode cX5_takesBy 9 = .ok (.if_icmp .ge 29, 3) := by decide +kernel
theorem dX5_takesBy_12 : decode cX5_takesBy 12 = .ok (.iload_n 2, 1) := by decide +kernel
theorem dX5_takesBy_13 : decode cX5_takesBy 13 = .ok (.iload_n 1, 1) := by decide +kernel
theorem dX5_takesBy_14 : decode cX5_takesBy 14 = .ok (.iload_n 3, 1) := by decide +kernel
theorem dX5_takesBy_15 : decode cX5_takesBy 15 = .ok (.invokestatic 96, 3) := by decide +kernel
theorem dX5_takesBy_18 : decode cX5_takesBy 18 = .ok (.ifCond .eq 11, 3) := by decide +kernel
theorem dX5_takesBy_21 : decode cX5_takesBy 21 = .ok (.aload_n 0, 1) := by decide +kernel
theorem dX5_takesBy_22 : decode cX5_takesBy 22 = .ok (.iload_n 3, 1) := by decide +kernel
theorem dX5_takesBy_23 : decode cX5_takesBy 23 = .ok (.invokevirtual 117, 3) := by decide +kernel
theorem dX5_takesBy_26 : decode cX5_takesBy 26 = .ok (.goto 4, 3) := by decide +kernel
theorem dX5_takesBy_29 : decode cX5_takesBy 29 = .ok (.iconst 0, 1) := by decide +kernel
theorem dX5_takesBy_30 : decode cX5_takesBy 30 = .ok (.iadd, 1) := by decide +kernel
theorem dX5_takesBy_31 : decode cX5_takesBy 31 = .ok (.istore_n 2, 1) := by decide +kernel
theorem dX5_takesBy_32 : decode cX5_takesBy 32 = .ok (.iinc 3 1, 3) := by decide +kernel
theorem dX5_takesBy_35 : decode cX5_takesBy 35 = .ok (.goto (-31), 3) := by decide +kernel
theorem dX5_takesBy_38 : decode cX5_takesBy 38 = .ok (.iload_n 2, 1) := by decide +kernel
theorem dX5_takesBy_39 : decode cX5_takesBy 39 = .ok (.ireturn, 1) := by decide +kernel
theorem dX5_goesBy_0 : decode cX5_goesBy 0 = .ok (.aload_n 0, 1) := by decide +kernel
theorem dX5_goesBy_1 : decode cX5_goesBy 1 = .ok (.iload_n 1, 1) := by decide +kernel
theorem dX5_goesBy_2 : decode cX5_goesBy 2 = .ok (.invokevirtual 120, 3) := by decide +kernel
theorem dX5_goesBy_5 : decode cX5_goesBy 5 = .ok (.istore_n 2, 1) := by decide +kernel
theorem dX5_goesBy_6 : decode cX5_goesBy 6 = .ok (.aload_n 0, 1) := by decide +kernel
theorem dX5_goesBy_7 : decode cX5_goesBy 7 = .ok (.iload_n 2, 1) := by decide +kernel
theorem dX5_goesBy_8 : decode cX5_goesBy 8 = .ok (.invokevirtual 123, 3) := by decide +kernel
theorem dX5_goesBy_11 : decode cX5_goesBy 11 = .ok (.istore_n 3, 1) := by decide +kernel
theorem dX5_goesBy_12 : decode cX5_goesBy 12 = .ok (.aload_n 0, 1) := by decide +kernel
theorem dX5_goesBy_13 : decode cX5_goesBy 13 = .ok (.iload_n 2, 1) := by decide +kernel
theorem dX5_goesBy_14 : decode cX5_goesBy 14 = .ok (.invokevirtual 126, 3) := by decide +kernel
theorem dX5_goesBy_17 : decode cX5_goesBy 17 = .ok (.istore 4, 2) := by decide +kernel
theorem dX5_goesBy_19 : decode cX5_goesBy 19 = .ok (.iconst 0, 1) := by decide +kernel
theorem dX5_goesBy_20 : decode cX5_goesBy 20 = .ok (.istore 5, 2) := by decide +kernel
theorem dX5_goesBy_22 : decode cX5_goesBy 22 = .ok (.iload 5, 2) := by decide +kernel
theorem dX5_goesBy_24 : decode cX5_goesBy 24 = .ok (.aload_n 0, 1) := by decide +kernel
theorem dX5_goesBy_25 : decode cX5_goesBy 25 = .ok (.getfield 75, 3) := by decide +kernel
theorem dX5_goesBy_28 : decode cX5_goesBy 28 = .ok (.if_icmp .ge 58, 3) := by decide +kernel
theorem dX5_goesBy_31 : decode cX5_goesBy 31 = .ok (.iload 4, 2) := by decide +kernel
theorem dX5_goesBy_33 : decode cX5_goesBy 33 = .ok (.iload_n 3, 1) := by decide +kernel
theorem dX5_goesBy_34 : decode cX5_goesBy 34 = .ok (.iload 5, 2) := by decide +kernel
theorem dX5_goesBy_36 : decode cX5_goesBy 36 = .ok (.invokestatic 96, 3) := by decide +kernel
theorem dX5_goesBy_39 : decode cX5_goesBy 39 = .ok (.ifCond .eq 37, 3) := by decide +kernel
theorem dX5_goesBy_42 : decode cX5_goesBy 42 = .ok (.aload_n 0, 1) := by decide +kernel
theorem dX5_goesBy_43 : decode cX5_goesBy 43 = .ok (.getfield 7, 3) := by decide +kernel
theorem dX5_goesBy_46 : decode cX5_goesBy 46 = .ok (.iload 5, 2) := by decide +kernel
theorem dX5_goesBy_48 : decode cX5_goesBy 48 = .ok (.iaload, 1) := by decide +kernel
theorem dX5_goesBy_49 : decode cX5_goesBy 49 = .ok (.iconst 4, 1) := by decide +kernel
theorem dX5_goesBy_50 : decode cX5_goesBy 50 = .ok (.if_icmp .eq 26, 3) := by decide +kernel
theorem dX5_goesBy_53 : decode cX5_goesBy 53 = .ok (.aload_n 0, 1) := by decide +kernel
theorem dX5_goesBy_54 : decode cX5_goesBy 54 = .ok (.getfield 25, 3) := by decide +kernel
theorem dX5_goesBy_57 : decode cX5_goesBy 57 = .ok (.iload 5, 2) := by decide +kernel
theorem dX5_goesBy_59 : decode cX5_goesBy 59 = .ok (.iaload, 1) := by decide +kernel
theorem dX5_goesBy_60 : decode cX5_goesBy 60 = .ok (.aload_n 0, 1) := by decide +kernel
theorem dX5_goesBy_61 : decode cX5_goesBy 61 = .ok (.getfield 107, 3) := by decide +kernel
theorem dX5_goesBy_64 : decode cX5_goesBy 64 = .ok (.ifCond .eq 7, 3) := by decide +kernel
theorem dX5_goesBy_67 : decode cX5_goesBy 67 = .ok (.iconst 1, 1) := by decide +kernel
theorem dX5_goesBy_68 : decode cX5_goesBy 68 = .ok (.goto 4, 3) := by decide +kernel
theorem dX5_goesBy_71 : decode cX5_goesBy 71 = .ok (.iconst 0, 1) := by decide +kernel
theorem dX5_goesBy_72 : decode cX5_goesBy 72 = .ok (.iadd, 1) := by decide +kernel
theorem dX5_goesBy_73 : decode cX5_goesBy 73 = .ok (.goto 4, 3) := by decide +kernel
theorem dX5_goesBy_76 : decode cX5_goesBy 76 = .ok (.iconst 0, 1) := by decide +kernel
theorem dX5_goesBy_77 : decode cX5_goesBy 77 = .ok (.iadd, 1) := by decide +kernel
theorem dX5_goesBy_78 : decode cX5_goesBy 78 = .ok (.istore 4, 2) := by decide +kernel
theorem dX5_goesBy_80 : decode cX5_goesBy 80 = .ok (.iinc 5 1, 3) := by decide +kernel
theorem dX5_goesBy_83 : decode cX5_goesBy 83 = .ok (.goto (-61), 3) := by decide +kernel
theorem dX5_goesBy_86 : decode cX5_goesBy 86 = .ok (.iload 4, 2) := by decide +kernel
theorem dX5_goesBy_88 : decode cX5_goesBy 88 = .ok (.ireturn, 1) := by decide +kernel
theorem dX5_everybody_0 : decode cX5_everybody 0 = .ok (.iconst 1, 1) := by decide +kernel
theorem dX5_everybody_1 : decode cX5_everybody 1 = .ok (.aload_n 0, 1) := by decide +kernel
theorem dX5_everybody_2 : decode cX5_everybody 2 = .ok (.getfield 75, 3) := by decide +kernel
theorem dX5_everybody_5 : decode cX5_everybody 5 = .ok (.ishl, 1) := by decide +kernel
theorem dX5_everybody_6 : decode cX5_everybody 6 = .ok (.iconst 1, 1) := by decide +kernel
theorem dX5_everybody_7 : decode cX5_everybody 7 = .ok (.isub, 1) := by decide +kernel
theorem dX5_everybody_8 : decode cX5_everybody 8 = .ok (.ireturn, 1) := by decide +kernel
theorem dX5_goes_0 : decode cX5_goes 0 = .ok (.iload_n 1, 1) := by decide +kernel
theorem dX5_goes_1 : decode cX5_goes 1 = .ok (.iconst 0, 1) := by decide +kernel
theorem dX5_goes_2 : decode cX5_goes 2 = .ok (.aload_n 0, 1) := by decide +kernel
theorem dX5_goes_3 : decode cX5_goes 3 = .ok (.invokevirtual 129, 3) := by decide +kernel
theorem dX5_goes_6 : decode cX5_goes 6 = .ok (.invokestatic 78, 3) := by decide +kernel
theorem dX5_goes_9 : decode cX5_goes 9 = .ok (.ifCond .eq 11, 3) := by decide +kernel
theorem dX5_goes_12 : decode cX5_goes 12 = .ok (.aload_n 0, 1) := by decide +kernel
theorem dX5_goes_13 : decode cX5_goes 13 = .ok (.iload_n 1, 1) := by decide +kernel
theorem dX5_goes_14 : decode cX5_goes 14 = .ok (.invokevirtual 132, 3) := by decide +kernel
theorem dX5_goes_17 : decode cX5_goes 17 = .ok (.goto 5, 3) := by decide +kernel
theorem dX5_goes_20 : decode cX5_goes 20 = .ok (.bipush (-102), 2) := by decide +kernel
theorem dX5_goes_22 : decode cX5_goes 22 = .ok (.ireturn, 1) := by decide +kernel
theorem dX5_working_0 : decode cX5_working 0 = .ok (.aload_n 0, 1) := by decide +kernel
theorem dX5_working_1 : decode cX5_working 1 = .ok (.aload_n 0, 1) := by decide +kernel
theorem dX5_working_2 : decode cX5_working 2 = .ok (.invokevirtual 129, 3) := by decide +kernel
theorem dX5_working_5 : decode cX5_working 5 = .ok (.invokevirtual 120, 3) := by decide +kernel
theorem dX5_working_8 : decode cX5_working 8 = .ok (.istore_n 1, 1) := by decide +kernel
theorem dX5_working_9 : decode cX5_working 9 = .ok (.aload_n 0, 1) := by decide +kernel
theorem dX5_working_10 : decode cX5_working 10 = .ok (.getfield 75, 3) := by decide +kernel
theorem dX5_working_13 : decode cX5_working 13 = .ok (.iconst 1, 1) := by decide +kernel
theorem dX5_working_14 : decode cX5_working 14 = .ok (.isub, 1) := by decide +kernel
theorem dX5_working_15 : decode cX5_working 15 = .ok (.istore_n 2, 1) := by decide +kernel
theorem dX5_working_16 : decode cX5_working 16 = .ok (.iload_n 2, 1) := by decide +kernel
theorem dX5_working_17 : decode cX5_working 17 = .ok (.ifCond .lt 61, 3) := by decide +kernel
theorem dX5_working_20 : decode cX5_working 20 = .ok (.iload_n 1, 1) := by decide +kernel
theorem dX5_working_21 : decode cX5_working 21 = .ok (.iload_n 2, 1) := by decide +kernel
theorem dX5_working_22 : decode cX5_working 22 = .ok (.invokestatic 96, 3) := by decide +kernel
theorem dX5_working_25 : decode cX5_working 25 = .ok (.ifCond .eq 29, 3) := by decide +kernel
theorem dX5_working_28 : decode cX5_working 28 = .ok (.aload_n 0, 1) := by decide +kernel
theorem dX5_working_29 : decode cX5_working 29 = .ok (.getfield 7, 3) := by decide +kernel
theorem dX5_working_32 : decode cX5_working 32 = .ok (.iload_n 2, 1) := by decide +kernel
theorem dX5_working_33 : decode cX5_working 33 = .ok (.iaload, 1) := by decide +kernel
theorem dX5_working_34 : decode cX5_working 34 = .ok (.iconst 1, 1) := by decide +kernel
theorem dX5_working_35 : decode cX5_working 35 = .ok (.if_icmp .eq 19, 3) := by decide +kernel
theorem dX5_working_38 : decode cX5_working 38 = .ok (.aload_n 0, 1) := by decide +kernel
theorem dX5_working_39 : decode cX5_working 39 = .ok (.iload_n 1, 1) := by decide +kernel
theorem dX5_working_40 : decode cX5_working 40 = .ok (.invokevirtual 132, 3) := by decide +kernel
theorem dX5_working_43 : decode cX5_working 43 = .ok (.aload_n 0, 1) := by decide +kernel
theorem dX5_working_44 : decode cX5_working 44 = .ok (.getfield 38, 3) := by decide +kernel
theorem dX5_working_47 : decode cX5_working 47 = .ok (.if_icmp .le 7, 3) := by decide +kernel
theorem dX5_working_50 : decode cX5_working 50 = .ok (.iconst 1, 1) := by decide +kernel
theorem dX5_working_51 : decode cX5_working 51 = .ok (.goto 4, 3) := by decide +kernel
theorem dX5_working_54 : decode cX5_working 54 = .ok (.iconst 0, 1) := by decide +kernel
theorem dX5_working_55 : decode cX5_working 55 = .ok (.istore_n 3, 1) := by decide +kernel
theorem dX5_working_56 : decode cX5_working 56 = .ok (.iload_n 3, 1) := by decide +kernel
theorem dX5_working_57 : decode cX5_working 57 = .ok (.ifCond .eq 13, 3) := by decide +kernel
theorem dX5_working_60 : decode cX5_working 60 = .ok (.iload_n 1, 1) := by decide +kernel
theorem dX5_working_61 : decode cX5_working 61 = .ok (.iconst 1, 1) := by decide +kernel
theorem dX5_working_62 : decode cX5_working 62 = .ok (.iload_n 2, 1) := by decide +kernel
theorem dX5_working_63 : decode cX5_working 63 = .ok (.ishl, 1) := by decide +kernel
theorem dX5_working_64 : decode cX5_working 64 = .ok (.iconst (-1), 1) := by decide +kernel
theorem dX5_working_65 : decode cX5_working 65 = .ok (.ixor, 1) := by decide +kernel
theorem dX5_working_66 : decode cX5_working 66 = .ok (.iand, 1) := by decide +kernel
theorem dX5_working_67 : decode cX5_working 67 = .ok (.goto 4, 3) := by decide +kernel
theorem dX5_working_70 : decode cX5_working 70 = .ok (.iload_n 1, 1) := by decide +kernel
theorem dX5_working_71 : decode cX5_working 71 = .ok (.istore_n 1, 1) := by decide +kernel
theorem dX5_working_72 : decode cX5_working 72 = .ok (.iinc 2 (-1), 3) := by decide +kernel
theorem dX5_working_75 : decode cX5_working 75 = .ok (.goto (-59), 3) := by decide +kernel
theorem dX5_working_78 : decode cX5_working 78 = .ok (.iload_n 1, 1) := by decide +kernel
theorem dX5_working_79 : decode cX5_working 79 = .ok (.ireturn, 1) := by decide +kernel
theorem dX5_isOver_0 : decode cX5_isOver 0 = .ok (.aload_n 0, 1) := by decide +kernel
theorem dX5_isOver_1 : decode cX5_isOver 1 = .ok (.getfield 90, 3) := by decide +kernel
theorem dX5_isOver_4 : decode cX5_isOver 4 = .ok (.bipush 9, 2) := by decide +kernel
theorem dX5_isOver_6 : decode cX5_isOver 6 = .ok (.if_icmp .ge 10, 3) := by decide +kernel
theorem dX5_isOver_9 : decode cX5_isOver 9 = .ok (.aload_n 0, 1) := by decide +kernel
theorem dX5_isOver_10 : decode cX5_isOver 10 = .ok (.getfield 135, 3) := by decide +kernel
theorem dX5_isOver_13 : decode cX5_isOver 13 = .ok (.ifCond .eq 7, 3) := by decide +kernel
theorem dX5_isOver_16 : decode cX5_isOver 16 = .ok (.iconst 1, 1) := by decide +kernel
theorem dX5_isOver_17 : decode cX5_isOver 17 = .ok (.goto 4, 3) := by decide +kernel
theorem dX5_isOver_20 : decode cX5_isOver 20 = .ok (.iconst 0, 1) := by decide +kernel
theorem dX5_isOver_21 : decode cX5_isOver 21 = .ok (.ireturn, 1) := by decide +kernel
theorem dX5_goHour_0 : decode cX5_goHour 0 = .ok (.aload_n 0, 1) := by decide +kernel
theorem dX5_goHour_1 : decode cX5_goHour 1 = .ok (.invokevirtual 138, 3) := by decide +kernel
theorem dX5_goHour_4 : decode cX5_goHour 4 = .ok (.istore_n 1, 1) := by decide +kernel
theorem dX5_goHour_5 : decode cX5_goHour 5 = .ok (.aload_n 0, 1) := by decide +kernel
theorem dX5_goHour_6 : decode cX5_goHour 6 = .ok (.iload_n 1, 1) := by decide +kernel
theorem dX5_goHour_7 : decode cX5_goHour 7 = .ok (.invokevirtual 132, 3) := by decide +kernel
theorem dX5_goHour_10 : decode cX5_goHour 10 = .ok (.istore_n 2, 1) := by decide +kernel
theorem dX5_goHour_11 : decode cX5_goHour 11 = .ok (.iload_n 2, 1) := by decide +kernel
theorem dX5_goHour_12 : decode cX5_goHour 12 = .ok (.aload_n 0, 1) := by decide +kernel
theorem dX5_goHour_13 : decode cX5_goHour 13 = .ok (.getfield 38, 3) := by decide +kernel
theorem dX5_goHour_16 : decode cX5_goHour 16 = .ok (.if_icmp .le 45, 3) := by decide +kernel
theorem dX5_goHour_19 : decode cX5_goHour 19 = .ok (.aload_n 0, 1) := by decide +kernel
theorem dX5_goHour_20 : decode cX5_goHour 20 = .ok (.getfield 38, 3) := by decide +kernel
theorem dX5_goHour_23 : decode cX5_goHour 23 = .ok (.istore_n 3, 1) := by decide +kernel
theorem dX5_goHour_24 : decode cX5_goHour 24 = .ok (.aload_n 0, 1) := by decide +kernel
theorem dX5_goHour_25 : decode cX5_goHour 25 = .ok (.dup, 1) := by decide +kernel
theorem dX5_goHour_26 : decode cX5_goHour 26 = .ok (.getfield 141, 3) := by decide +kernel
theorem dX5_goHour_29 : decode cX5_goHour 29 = .ok (.iload_n 3, 1) := by decide +kernel
theorem dX5_goHour_30 : decode cX5_goHour 30 = .ok (.iadd, 1) := by decide +kernel
theorem dX5_goHour_31 : decode cX5_goHour 31 = .ok (.putfield 141, 3) := by decide +kernel
theorem dX5_goHour_34 : decode cX5_goHour 34 = .ok (.aload_n 0, 1) := by decide +kernel
theorem dX5_goHour_35 : decode cX5_goHour 35 = .ok (.iconst 0, 1) := by decide +kernel
theorem dX5_goHour_36 : decode cX5_goHour 36 = .ok (.putfield 38, 3) := by decide +kernel
theorem dX5_goHour_39 : decode cX5_goHour 39 = .ok (.aload_n 0, 1) := by decide +kernel
theorem dX5_goHour_40 : decode cX5_goHour 40 = .ok (.iconst 1, 1) := by decide +kernel
theorem dX5_goHour_41 : decode cX5_goHour 41 = .ok (.putfield 135, 3) := by decide +kernel
theorem dX5_goHour_44 : decode cX5_goHour 44 = .ok (.aload_n 0, 1) := by decide +kernel
theorem dX5_goHour_45 : decode cX5_goHour 45 = .ok (.iconst 0, 1) := by decide +kernel
theorem dX5_goHour_46 : decode cX5_goHour 46 = .ok (.putfield 114, 3) := by decide +kernel
theorem dX5_goHour_49 : decode cX5_goHour 49 = .ok (.aload_n 0, 1) := by decide +kernel
theorem dX5_goHour_50 : decode cX5_goHour 50 = .ok (.dup, 1) := by decide +kernel
theorem dX5_goHour_51 : decode cX5_goHour 51 = .ok (.getfield 90, 3) := by decide +kernel
theorem dX5_goHour_54 : decode cX5_goHour 54 = .ok (.iconst 1, 1) := by decide +kernel
theorem dX5_goHour_55 : decode cX5_goHour 55 = .ok (.iadd, 1) := by decide +kernel
theorem dX5_goHour_56 : decode cX5_goHour 56 = .ok (.putfield 90, 3) := by decide +kernel
theorem dX5_goHour_59 : decode cX5_goHour 59 = .ok (.iload_n 3, 1) := by decide +kernel
theorem dX5_goHour_60 : decode cX5_goHour 60 = .ok (.ireturn, 1) := by decide +kernel
theorem dX5_goHour_61 : decode cX5_goHour 61 = .ok (.aload_n 0, 1) := by decide +kernel
theorem dX5_goHour_62 : decode cX5_goHour 62 = .ok (.iload_n 1, 1) := by decide +kernel
theorem dX5_goHour_63 : decode cX5_goHour 63 = .ok (.invokevirtual 126, 3) := by decide +kernel
theorem dX5_goHour_66 : decode cX5_goHour 66 = .ok (.istore_n 3, 1) := by decide +kernel
theorem dX5_goHour_67 : decode cX5_goHour 67 = .ok (.aload_n 0, 1) := by decide +kernel
theorem dX5_goHour_68 : decode cX5_goHour 68 = .ok (.dup, 1) := by decide +kernel
theorem dX5_goHour_69 : decode cX5_goHour 69 = .ok (.getfield 141, 3) := by decide +kernel
theorem dX5_goHour_72 : decode cX5_goHour 72 = .ok (.iload_n 2, 1) := by decide +kernel
theorem dX5_goHour_73 : decode cX5_goHour 73 = .ok (.iload_n 3, 1) := by decide +kernel
theorem dX5_goHour_74 : decode cX5_goHour 74 = .ok (.isub, 1) := by decide +kernel
theorem dX5_goHour_75 : decode cX5_goHour 75 = .ok (.iadd, 1) := by decide +kernel
theorem dX5_goHour_76 : decode cX5_goHour 76 = .ok (.putfield 141, 3) := by decide +kernel
theorem dX5_goHour_79 : decode cX5_goHour 79 = .ok (.iconst 0, 1) := by decide +kernel
theorem dX5_goHour_80 : decode cX5_goHour 80 = .ok (.istore 4, 2) := by decide +kernel
theorem dX5_goHour_82 : decode cX5_goHour 82 = .ok (.iload 4, 2) := by decide +kernel
theorem dX5_goHour_84 : decode cX5_goHour 84 = .ok (.aload_n 0, 1) := by decide +kernel
theorem dX5_goHour_85 : decode cX5_goHour 85 = .ok (.getfield 75, 3) := by decide +kernel
theorem dX5_goHour_88 : decode cX5_goHour 88 = .ok (.if_icmp .ge 38, 3) := by decide +kernel
theorem dX5_goHour_91 : decode cX5_goHour 91 = .ok (.aload_n 0, 1) := by decide +kernel
theorem dX5_goHour_92 : decode cX5_goHour 92 = .ok (.getfield 28, 3) := by decide +kernel
theorem dX5_goHour_95 : decode cX5_goHour 95 = .ok (.iload 4, 2) := by decide +kernel
theorem dX5_goHour_97 : decode cX5_goHour 97 = .ok (.dup2, 1) := by decide +kernel
theorem dX5_goHour_98 : decode cX5_goHour 98 = .ok (.iaload, 1) := by decide +kernel
theorem dX5_goHour_99 : decode cX5_goHour 99 = .ok (.iload_n 1, 1) := by decide +kernel
theorem dX5_goHour_100 : decode cX5_goHour 100 = .ok (.iload 4, 2) := by decide +kernel
theorem dX5_goHour_102 : decode cX5_goHour 102 = .ok (.invokestatic 96, 3) := by decide +kernel
theorem dX5_goHour_105 : decode cX5_goHour 105 = .ok (.ifCond .eq 12, 3) := by decide +kernel
theorem dX5_goHour_108 : decode cX5_goHour 108 = .ok (.aload_n 0, 1) := by decide +kernel
theorem dX5_goHour_109 : decode cX5_goHour 109 = .ok (.iload 4, 2) := by decide +kernel
theorem dX5_goHour_111 : decode cX5_goHour 111 = .ok (.invokevirtual 117, 3) := by decide +kernel
theorem dX5_goHour_114 : decode cX5_goHour 114 = .ok (.goto 4, 3) := by decide +kernel
theorem dX5_goHour_117 : decode cX5_goHour 117 = .ok (.iconst 0, 1) := by decide +kernel
theorem dX5_goHour_118 : decode cX5_goHour 118 = .ok (.iadd, 1) := by decide +kernel
theorem dX5_goHour_119 : decode cX5_goHour 119 = .ok (.iastore, 1) := by decide +kernel
theorem dX5_goHour_120 : decode cX5_goHour 120 = .ok (.iinc 4 1, 3) := by decide +kernel
theorem dX5_goHour_123 : decode cX5_goHour 123 = .ok (.goto (-41), 3) := by decide +kernel
theorem dX5_goHour_126 : decode cX5_goHour 126 = .ok (.aload_n 0, 1) := by decide +kernel
theorem dX5_goHour_127 : decode cX5_goHour 127 = .ok (.dup, 1) := by decide +kernel
theorem dX5_goHour_128 : decode cX5_goHour 128 = .ok (.getfield 38, 3) := by decide +kernel
theorem dX5_goHour_131 : decode cX5_goHour 131 = .ok (.iload_n 2, 1) := by decide +kernel
theorem dX5_goHour_132 : decode cX5_goHour 132 = .ok (.isub, 1) := by decide +kernel
theorem dX5_goHour_133 : decode cX5_goHour 133 = .ok (.putfield 38, 3) := by decide +kernel
theorem dX5_goHour_136 : decode cX5_goHour 136 = .ok (.aload_n 0, 1) := by decide +kernel
theorem dX5_goHour_137 : decode cX5_goHour 137 = .ok (.iload_n 1, 1) := by decide +kernel
theorem dX5_goHour_138 : decode cX5_goHour 138 = .ok (.putfield 114, 3) := by decide +kernel
theorem dX5_goHour_141 : decode cX5_goHour 141 = .ok (.aload_n 0, 1) := by decide +kernel
theorem dX5_goHour_142 : decode cX5_goHour 142 = .ok (.dup, 1) := by decide +kernel
theorem dX5_goHour_143 : decode cX5_goHour 143 = .ok (.getfield 90, 3) := by decide +kernel
theorem dX5_goHour_146 : decode cX5_goHour 146 = .ok (.iconst 1, 1) := by decide +kernel
theorem dX5_goHour_147 : decode cX5_goHour 147 = .ok (.iadd, 1) := by decide +kernel
theorem dX5_goHour_148 : decode cX5_goHour 148 = .ok (.putfield 90, 3) := by decide +kernel
theorem dX5_goHour_151 : decode cX5_goHour 151 = .ok (.iload_n 2, 1) := by decide +kernel
theorem dX5_goHour_152 : decode cX5_goHour 152 = .ok (.ireturn, 1) := by decide +kernel
theorem dX5_hour_0 : decode cX5_hour 0 = .ok (.aload_n 0, 1) := by decide +kernel
theorem dX5_hour_1 : decode cX5_hour 1 = .ok (.invokevirtual 144, 3) := by decide +kernel
theorem dX5_hour_4 : decode cX5_hour 4 = .ok (.ifCond .eq 8, 3) := by decide +kernel
theorem dX5_hour_7 : decode cX5_hour 7 = .ok (.bipush (-103), 2) := by decide +kernel
theorem dX5_hour_9 : decode cX5_hour 9 = .ok (.goto 7, 3) := by decide +kernel
theorem dX5_hour_12 : decode cX5_hour 12 = .ok (.aload_n 0, 1) := by decide +kernel
theorem dX5_hour_13 : decode cX5_hour 13 = .ok (.invokevirtual 148, 3) := by decide +kernel
theorem dX5_hour_16 : decode cX5_hour 16 = .ok (.ireturn, 1) := by decide +kernel
theorem dX5_worked_0 : decode cX5_worked 0 = .ok (.aload_n 0, 1) := by decide +kernel
theorem dX5_worked_1 : decode cX5_worked 1 = .ok (.getfield 114, 3) := by decide +kernel
theorem dX5_worked_4 : decode cX5_worked 4 = .ok (.ireturn, 1) := by decide +kernel
theorem dX5_takenAll_0 : decode cX5_takenAll 0 = .ok (.iconst 0, 1) := by decide +kernel
theorem dX5_takenAll_1 : decode cX5_takenAll 1 = .ok (.istore_n 1, 1) := by decide +kernel
theorem dX5_takenAll_2 : decode cX5_takenAll 2 = .ok (.iconst 0, 1) := by decide +kernel
theorem dX5_takenAll_3 : decode cX5_takenAll 3 = .ok (.istore_n 2, 1) := by decide +kernel
theorem dX5_takenAll_4 : decode cX5_takenAll 4 = .ok (.iload_n 2, 1) := by decide +kernel
theorem dX5_takenAll_5 : decode cX5_takenAll 5 = .ok (.aload_n 0, 1) := by decide +kernel
theorem dX5_takenAll_6 : decode cX5_takenAll 6 = .ok (.getfield 75, 3) := by decide +kernel
theorem dX5_takenAll_9 : decode cX5_takenAll 9 = .ok (.if_icmp .ge 18, 3) := by decide +kernel
theorem dX5_takenAll_12 : decode cX5_takenAll 12 = .ok (.iload_n 1, 1) := by decide +kernel
theorem dX5_takenAll_13 : decode cX5_takenAll 13 = .ok (.aload_n 0, 1) := by decide +kernel
theorem dX5_takenAll_14 : decode cX5_takenAll 14 = .ok (.getfield 28, 3) := by decide +kernel
theorem dX5_takenAll_17 : decode cX5_takenAll 17 = .ok (.iload_n 2, 1) := by decide +kernel
theorem dX5_takenAll_18 : decode cX5_takenAll 18 = .ok (.iaload, 1) := by decide +kernel
theorem dX5_takenAll_19 : decode cX5_takenAll 19 = .ok (.iadd, 1) := by decide +kernel
theorem dX5_takenAll_20 : decode cX5_takenAll 20 = .ok (.istore_n 1, 1) := by decide +kernel
theorem dX5_takenAll_21 : decode cX5_takenAll 21 = .ok (.iinc 2 1, 3) := by decide +kernel
theorem dX5_takenAll_24 : decode cX5_takenAll 24 = .ok (.goto (-20), 3) := by decide +kernel
theorem dX5_takenAll_27 : decode cX5_takenAll 27 = .ok (.iload_n 1, 1) := by decide +kernel
theorem dX5_takenAll_28 : decode cX5_takenAll 28 = .ok (.ireturn, 1) := by decide +kernel
theorem dX5_partOf_0 : decode cX5_partOf 0 = .ok (.aload_n 0, 1) := by decide +kernel
theorem dX5_partOf_1 : decode cX5_partOf 1 = .ok (.invokevirtual 151, 3) := by decide +kernel
theorem dX5_partOf_4 : decode cX5_partOf 4 = .ok (.istore_n 2, 1) := by decide +kernel
theorem dX5_partOf_5 : decode cX5_partOf 5 = .ok (.aload_n 0, 1) := by decide +kernel
theorem dX5_partOf_6 : decode cX5_partOf 6 = .ok (.getfield 34, 3) := by decide +kernel
theorem dX5_partOf_9 : decode cX5_partOf 9 = .ok (.aload_n 0, 1) := by decide +kernel
theorem dX5_partOf_10 : decode cX5_partOf 10 = .ok (.getfield 38, 3) := by decide +kernel
theorem dX5_partOf_13 : decode cX5_partOf 13 = .ok (.isub, 1) := by decide +kernel
theorem dX5_partOf_14 : decode cX5_partOf 14 = .ok (.istore_n 3, 1) := by decide +kernel
theorem dX5_partOf_15 : decode cX5_partOf 15 = .ok (.iload_n 2, 1) := by decide +kernel
theorem dX5_partOf_16 : decode cX5_partOf 16 = .ok (.ifCond .ne 5, 3) := by decide +kernel
theorem dX5_partOf_19 : decode cX5_partOf 19 = .ok (.iconst 0, 1) := by decide +kernel
theorem dX5_partOf_20 : decode cX5_partOf 20 = .ok (.ireturn, 1) := by decide +kernel
theorem dX5_partOf_21 : decode cX5_partOf 21 = .ok (.iconst 0, 1) := by decide +kernel
theorem dX5_partOf_22 : decode cX5_partOf 22 = .ok (.istore 4, 2) := by decide +kernel
theorem dX5_partOf_24 : decode cX5_partOf 24 = .ok (.iconst 0, 1) := by decide +kernel
theorem dX5_partOf_25 : decode cX5_partOf 25 = .ok (.istore 5, 2) := by decide +kernel
theorem dX5_partOf_27 : decode cX5_partOf 27 = .ok (.iconst 0, 1) := by decide +kernel
theorem dX5_partOf_28 : decode cX5_partOf 28 = .ok (.istore 6, 2) := by decide +kernel
theorem dX5_partOf_30 : decode cX5_partOf 30 = .ok (.iload 6, 2) := by decide +kernel
theorem dX5_partOf_32 : decode cX5_partOf 32 = .ok (.aload_n 0, 1) := by decide +kernel
theorem dX5_partOf_33 : decode cX5_partOf 33 = .ok (.getfield 75, 3) := by decide +kernel
theorem dX5_partOf_36 : decode cX5_partOf 36 = .ok (.if_icmp .ge 80, 3) := by decide +kernel
theorem dX5_partOf_39 : decode cX5_partOf 39 = .ok (.iload 4, 2) := by decide +kernel
theorem dX5_partOf_41 : decode cX5_partOf 41 = .ok (.iload_n 3, 1) := by decide +kernel
theorem dX5_partOf_42 : decode cX5_partOf 42 = .ok (.aload_n 0, 1) := by decide +kernel
theorem dX5_partOf_43 : decode cX5_partOf 43 = .ok (.getfield 28, 3) := by decide +kernel
theorem dX5_partOf_46 : decode cX5_partOf 46 = .ok (.iload 6, 2) := by decide +kernel
theorem dX5_partOf_48 : decode cX5_partOf 48 = .ok (.iaload, 1) := by decide +kernel
theorem dX5_partOf_49 : decode cX5_partOf 49 = .ok (.imul, 1) := by decide +kernel
theorem dX5_partOf_50 : decode cX5_partOf 50 = .ok (.iload_n 2, 1) := by decide +kernel
theorem dX5_partOf_51 : decode cX5_partOf 51 = .ok (.idiv, 1) := by decide +kernel
theorem dX5_partOf_52 : decode cX5_partOf 52 = .ok (.iadd, 1) := by decide +kernel
theorem dX5_partOf_53 : decode cX5_partOf 53 = .ok (.istore 4, 2) := by decide +kernel
theorem dX5_partOf_55 : decode cX5_partOf 55 = .ok (.iload_n 3, 1) := by decide +kernel
theorem dX5_partOf_56 : decode cX5_partOf 56 = .ok (.aload_n 0, 1) := by decide +kernel
theorem dX5_partOf_57 : decode cX5_partOf 57 = .ok (.getfield 28, 3) := by decide +kernel
theorem dX5_partOf_60 : decode cX5_partOf 60 = .ok (.iload 6, 2) := by decide +kernel
theorem dX5_partOf_62 : decode cX5_partOf 62 = .ok (.iaload, 1) := by decide +kernel
theorem dX5_partOf_63 : decode cX5_partOf 63 = .ok (.imul, 1) := by decide +kernel
theorem dX5_partOf_64 : decode cX5_partOf 64 = .ok (.iload_n 2, 1) := by decide +kernel
theorem dX5_partOf_65 : decode cX5_partOf 65 = .ok (.irem, 1) := by decide +kernel
theorem dX5_partOf_66 : decode cX5_partOf 66 = .ok (.istore 7, 2) := by decide +kernel
theorem dX5_partOf_68 : decode cX5_partOf 68 = .ok (.iload_n 3, 1) := by decide +kernel
theorem dX5_partOf_69 : decode cX5_partOf 69 = .ok (.aload_n 0, 1) := by decide +kernel
theorem dX5_partOf_70 : decode cX5_partOf 70 = .ok (.getfield 28, 3) := by decide +kernel
theorem dX5_partOf_73 : decode cX5_partOf 73 = .ok (.iload_n 1, 1) := by decide +kernel
theorem dX5_partOf_74 : decode cX5_partOf 74 = .ok (.iaload, 1) := by decide +kernel
theorem dX5_partOf_75 : decode cX5_partOf 75 = .ok (.imul, 1) := by decide +kernel
theorem dX5_partOf_76 : decode cX5_partOf 76 = .ok (.iload_n 2, 1) := by decide +kernel
theorem dX5_partOf_77 : decode cX5_partOf 77 = .ok (.irem, 1) := by decide +kernel
theorem dX5_partOf_78 : decode cX5_partOf 78 = .ok (.istore 8, 2) := by decide +kernel
theorem dX5_partOf_80 : decode cX5_partOf 80 = .ok (.iload 5, 2) := by decide +kernel
theorem dX5_partOf_82 : decode cX5_partOf 82 = .ok (.iload 7, 2) := by decide +kernel
theorem dX5_partOf_84 : decode cX5_partOf 84 = .ok (.iload 8, 2) := by decide +kernel
theorem dX5_partOf_86 : decode cX5_partOf 86 = .ok (.if_icmp .gt 16, 3) := by decide +kernel
theorem dX5_partOf_89 : decode cX5_partOf 89 = .ok (.iload 7, 2) := by decide +kernel
theorem dX5_partOf_91 : decode cX5_partOf 91 = .ok (.iload 8, 2) := by decide +kernel
theorem dX5_partOf_93 : decode cX5_partOf 93 = .ok (.if_icmp .ne 13, 3) := by decide +kernel
theorem dX5_partOf_96 : decode cX5_partOf 96 = .ok (.iload 6, 2) := by decide +kernel
theorem dX5_partOf_98 : decode cX5_partOf 98 = .ok (.iload_n 1, 1) := by decide +kernel
theorem dX5_partOf_99 : decode cX5_partOf 99 = .ok (.if_icmp .ge 7, 3) := by decide +kernel
theorem dX5_partOf_102 : decode cX5_partOf 102 = .ok (.iconst 1, 1) := by decide +kernel
theorem dX5_partOf_103 : decode cX5_partOf 103 = .ok (.goto 4, 3) := by decide +kernel
theorem dX5_partOf_106 : decode cX5_partOf 106 = .ok (.iconst 0, 1) := by decide +kernel
theorem dX5_partOf_107 : decode cX5_partOf 107 = .ok (.iadd, 1) := by decide +kernel
theorem dX5_partOf_108 : decode cX5_partOf 108 = .ok (.istore 5, 2) := by decide +kernel
theorem dX5_partOf_110 : decode cX5_partOf 110 = .ok (.iinc 6 1, 3) := by decide +kernel
theorem dX5_partOf_113 : decode cX5_partOf 113 = .ok (.goto (-83), 3) := by decide +kernel
theorem dX5_partOf_116 : decode cX5_partOf 116 = .ok (.iload_n 3, 1) := by decide +kernel
theorem dX5_partOf_117 : decode cX5_partOf 117 = .ok (.aload_n 0, 1) := by decide +kernel
theorem dX5_partOf_118 : decode cX5_partOf 118 = .ok (.getfield 28, 3) := by decide +kernel
theorem dX5_partOf_121 : decode cX5_partOf 121 = .ok (.iload_n 1, 1) := by decide +kernel
theorem dX5_partOf_122 : decode cX5_partOf 122 = .ok (.iaload, 1) := by decide +kernel
theorem dX5_partOf_123 : decode cX5_partOf 123 = .ok (.imul, 1) := by decide +kernel
theorem dX5_partOf_124 : decode cX5_partOf 124 = .ok (.iload_n 2, 1) := by decide +kernel
theorem dX5_partOf_125 : decode cX5_partOf 125 = .ok (.idiv, 1) := by decide +kernel
theorem dX5_partOf_126 : decode cX5_partOf 126 = .ok (.iload 5, 2) := by decide +kernel
theorem dX5_partOf_128 : decode cX5_partOf 128 = .ok (.iload_n 3, 1) := by decide +kernel
theorem dX5_partOf_129 : decode cX5_partOf 129 = .ok (.iload 4, 2) := by decide +kernel
theorem dX5_partOf_131 : decode cX5_partOf 131 = .ok (.isub, 1) := by decide +kernel
theorem dX5_partOf_132 : decode cX5_partOf 132 = .ok (.if_icmp .ge 7, 3) := by decide +kernel
theorem dX5_partOf_135 : decode cX5_partOf 135 = .ok (.iconst 1, 1) := by decide +kernel
theorem dX5_partOf_136 : decode cX5_partOf 136 = .ok (.goto 4, 3) := by decide +kernel
theorem dX5_partOf_139 : decode cX5_partOf 139 = .ok (.iconst 0, 1) := by decide +kernel
theorem dX5_partOf_140 : decode cX5_partOf 140 = .ok (.iadd, 1) := by decide +kernel
theorem dX5_partOf_141 : decode cX5_partOf 141 = .ok (.ireturn, 1) := by decide +kernel
theorem dX5_part_0 : decode cX5_part 0 = .ok (.aload_n 0, 1) := by decide +kernel
theorem dX5_part_1 : decode cX5_part 1 = .ok (.iload_n 1, 1) := by decide +kernel
theorem dX5_part_2 : decode cX5_part 2 = .ok (.invokevirtual 99, 3) := by decide +kernel
theorem dX5_part_5 : decode cX5_part 5 = .ok (.ifCond .eq 11, 3) := by decide +kernel
theorem dX5_part_8 : decode cX5_part 8 = .ok (.aload_n 0, 1) := by decide +kernel
theorem dX5_part_9 : decode cX5_part 9 = .ok (.iload_n 1, 1) := by decide +kernel
theorem dX5_part_10 : decode cX5_part 10 = .ok (.invokevirtual 154, 3) := by decide +kernel
theorem dX5_part_13 : decode cX5_part 13 = .ok (.goto 5, 3) := by decide +kernel
theorem dX5_part_16 : decode cX5_part 16 = .ok (.bipush (-101), 2) := by decide +kernel
theorem dX5_part_18 : decode cX5_part 18 = .ok (.ireturn, 1) := by decide +kernel
theorem dX5_night_0 : decode cX5_night 0 = .ok (.aload_n 0, 1) := by decide +kernel
theorem dX5_night_1 : decode cX5_night 1 = .ok (.getfield 34, 3) := by decide +kernel
theorem dX5_night_4 : decode cX5_night 4 = .ok (.aload_n 0, 1) := by decide +kernel
theorem dX5_night_5 : decode cX5_night 5 = .ok (.getfield 38, 3) := by decide +kernel
theorem dX5_night_8 : decode cX5_night 8 = .ok (.isub, 1) := by decide +kernel
theorem dX5_night_9 : decode cX5_night 9 = .ok (.istore_n 1, 1) := by decide +kernel
theorem dX5_night_10 : decode cX5_night 10 = .ok (.iconst 0, 1) := by decide +kernel
theorem dX5_night_11 : decode cX5_night 11 = .ok (.istore_n 2, 1) := by decide +kernel
theorem dX5_night_12 : decode cX5_night 12 = .ok (.iload_n 2, 1) := by decide +kernel
theorem dX5_night_13 : decode cX5_night 13 = .ok (.aload_n 0, 1) := by decide +kernel
theorem dX5_night_14 : decode cX5_night 14 = .ok (.getfield 75, 3) := by decide +kernel
theorem dX5_night_17 : decode cX5_night 17 = .ok (.if_icmp .ge 42, 3) := by decide +kernel
theorem dX5_night_20 : decode cX5_night 20 = .ok (.aload_n 0, 1) := by decide +kernel
theorem dX5_night_21 : decode cX5_night 21 = .ok (.getfield 31, 3) := by decide +kernel
theorem dX5_night_24 : decode cX5_night 24 = .ok (.iload_n 2, 1) := by decide +kernel
theorem dX5_night_25 : decode cX5_night 25 = .ok (.iaload, 1) := by decide +kernel
theorem dX5_night_26 : decode cX5_night 26 = .ok (.aload_n 0, 1) := by decide +kernel
theorem dX5_night_27 : decode cX5_night 27 = .ok (.iload_n 2, 1) := by decide +kernel
theorem dX5_night_28 : decode cX5_night 28 = .ok (.invokevirtual 154, 3) := by decide +kernel
theorem dX5_night_31 : decode cX5_night 31 = .ok (.iadd, 1) := by decide +kernel
theorem dX5_night_32 : decode cX5_night 32 = .ok (.istore_n 3, 1) := by decide +kernel
theorem dX5_night_33 : decode cX5_night 33 = .ok (.aload_n 0, 1) := by decide +kernel
theorem dX5_night_34 : decode cX5_night 34 = .ok (.getfield 31, 3) := by decide +kernel
theorem dX5_night_37 : decode cX5_night 37 = .ok (.iload_n 2, 1) := by decide +kernel
theorem dX5_night_38 : decode cX5_night 38 = .ok (.iload_n 3, 1) := by decide +kernel
theorem dX5_night_39 : decode cX5_night 39 = .ok (.sipush 999, 3) := by decide +kernel
theorem dX5_night_42 : decode cX5_night 42 = .ok (.if_icmp .le 9, 3) := by decide +kernel
theorem dX5_night_45 : decode cX5_night 45 = .ok (.sipush 999, 3) := by decide +kernel
theorem dX5_night_48 : decode cX5_night 48 = .ok (.goto 4, 3) := by decide +kernel
theorem dX5_night_51 : decode cX5_night 51 = .ok (.iload_n 3, 1) := by decide +kernel
theorem dX5_night_52 : decode cX5_night 52 = .ok (.iastore, 1) := by decide +kernel
theorem dX5_night_53 : decode cX5_night 53 = .ok (.iinc 2 1, 3) := by decide +kernel
theorem dX5_night_56 : decode cX5_night 56 = .ok (.goto (-44), 3) := by decide +kernel
theorem dX5_night_59 : decode cX5_night 59 = .ok (.iconst 0, 1) := by decide +kernel
theorem dX5_night_60 : decode cX5_night 60 = .ok (.istore_n 2, 1) := by decide +kernel
theorem dX5_night_61 : decode cX5_night 61 = .ok (.iload_n 2, 1) := by decide +kernel
theorem dX5_night_62 : decode cX5_night 62 = .ok (.aload_n 0, 1) := by decide +kernel
theorem dX5_night_63 : decode cX5_night 63 = .ok (.getfield 75, 3) := by decide +kernel
theorem dX5_night_66 : decode cX5_night 66 = .ok (.if_icmp .ge 16, 3) := by decide +kernel
theorem dX5_night_69 : decode cX5_night 69 = .ok (.aload_n 0, 1) := by decide +kernel
theorem dX5_night_70 : decode cX5_night 70 = .ok (.getfield 28, 3) := by decide +kernel
theorem dX5_night_73 : decode cX5_night 73 = .ok (.iload_n 2, 1) := by decide +kernel
theorem dX5_night_74 : decode cX5_night 74 = .ok (.iconst 0, 1) := by decide +kernel
theorem dX5_night_75 : decode cX5_night 75 = .ok (.iastore, 1) := by decide +kernel
theorem dX5_night_76 : decode cX5_night 76 = .ok (.iinc 2 1, 3) := by decide +kernel
theorem dX5_night_79 : decode cX5_night 79 = .ok (.goto (-18), 3) := by decide +kernel
theorem dX5_night_82 : decode cX5_night 82 = .ok (.aload_n 0, 1) := by decide +kernel
theorem dX5_night_83 : decode cX5_night 83 = .ok (.iconst 0, 1) := by decide +kernel
theorem dX5_night_84 : decode cX5_night 84 = .ok (.putfield 90, 3) := by decide +kernel
theorem dX5_night_87 : decode cX5_night 87 = .ok (.aload_n 0, 1) := by decide +kernel
theorem dX5_night_88 : decode cX5_night 88 = .ok (.aload_n 0, 1) := by decide +kernel
theorem dX5_night_89 : decode cX5_night 89 = .ok (.getfield 34, 3) := by decide +kernel
theorem dX5_night_92 : decode cX5_night 92 = .ok (.putfield 38, 3) := by decide +kernel
theorem dX5_night_95 : decode cX5_night 95 = .ok (.aload_n 0, 1) := by decide +kernel
theorem dX5_night_96 : decode cX5_night 96 = .ok (.iconst 0, 1) := by decide +kernel
theorem dX5_night_97 : decode cX5_night 97 = .ok (.putfield 141, 3) := by decide +kernel
theorem dX5_night_100 : decode cX5_night 100 = .ok (.aload_n 0, 1) := by decide +kernel
theorem dX5_night_101 : decode cX5_night 101 = .ok (.iconst 0, 1) := by decide +kernel
theorem dX5_night_102 : decode cX5_night 102 = .ok (.putfield 114, 3) := by decide +kernel
theorem dX5_night_105 : decode cX5_night 105 = .ok (.aload_n 0, 1) := by decide +kernel
theorem dX5_night_106 : decode cX5_night 106 = .ok (.iconst 0, 1) := by decide +kernel
theorem dX5_night_107 : decode cX5_night 107 = .ok (.putfield 135, 3) := by decide +kernel
theorem dX5_night_110 : decode cX5_night 110 = .ok (.iload_n 1, 1) := by decide +kernel
theorem dX5_night_111 : decode cX5_night 111 = .ok (.ireturn, 1) := by decide +kernel
theorem dX5_save_0 : decode cX5_save 0 = .ok (.iconst 0, 1) := by decide +kernel
theorem dX5_save_1 : decode cX5_save 1 = .ok (.istore_n 1, 1) := by decide +kernel
theorem dX5_save_2 : decode cX5_save 2 = .ok (.iload_n 1, 1) := by decide +kernel
theorem dX5_save_3 : decode cX5_save 3 = .ok (.bipush 8, 2) := by decide +kernel
theorem dX5_save_5 : decode cX5_save 5 = .ok (.if_icmp .ge 21, 3) := by decide +kernel
theorem dX5_save_8 : decode cX5_save 8 = .ok (.aload_n 0, 1) := by decide +kernel
theorem dX5_save_9 : decode cX5_save 9 = .ok (.getfield 51, 3) := by decide +kernel
theorem dX5_save_12 : decode cX5_save 12 = .ok (.iload_n 1, 1) := by decide +kernel
theorem dX5_save_13 : decode cX5_save 13 = .ok (.aload_n 0, 1) := by decide +kernel
theorem dX5_save_14 : decode cX5_save 14 = .ok (.getfield 28, 3) := by decide +kernel
theorem dX5_save_17 : decode cX5_save 17 = .ok (.iload_n 1, 1) := by decide +kernel
theorem dX5_save_18 : decode cX5_save 18 = .ok (.iaload, 1) := by decide +kernel
theorem dX5_save_19 : decode cX5_save 19 = .ok (.iastore, 1) := by decide +kernel
theorem dX5_save_20 : decode cX5_save 20 = .ok (.iinc 1 1, 3) := by decide +kernel
theorem dX5_save_23 : decode cX5_save 23 = .ok (.goto (-21), 3) := by decide +kernel
theorem dX5_save_26 : decode cX5_save 26 = .ok (.aload_n 0, 1) := by decide +kernel
theorem dX5_save_27 : decode cX5_save 27 = .ok (.aload_n 0, 1) := by decide +kernel
theorem dX5_save_28 : decode cX5_save 28 = .ok (.getfield 93, 3) := by decide +kernel
theorem dX5_save_31 : decode cX5_save 31 = .ok (.putfield 157, 3) := by decide +kernel
theorem dX5_save_34 : decode cX5_save 34 = .ok (.aload_n 0, 1) := by decide +kernel
theorem dX5_save_35 : decode cX5_save 35 = .ok (.aload_n 0, 1) := by decide +kernel
theorem dX5_save_36 : decode cX5_save 36 = .ok (.getfield 38, 3) := by decide +kernel
theorem dX5_save_39 : decode cX5_save 39 = .ok (.putfield 160, 3) := by decide +kernel
theorem dX5_save_42 : decode cX5_save 42 = .ok (.aload_n 0, 1) := by decide +kernel
theorem dX5_save_43 : decode cX5_save 43 = .ok (.aload_n 0, 1) := by decide +kernel
theorem dX5_save_44 : decode cX5_save 44 = .ok (.getfield 90, 3) := by decide +kernel
theorem dX5_save_47 : decode cX5_save 47 = .ok (.putfield 163, 3) := by decide +kernel
theorem dX5_save_50 : decode cX5_save 50 = .ok (.aload_n 0, 1) := by decide +kernel
theorem dX5_save_51 : decode cX5_save 51 = .ok (.aload_n 0, 1) := by decide +kernel
theorem dX5_save_52 : decode cX5_save 52 = .ok (.getfield 141, 3) := by decide +kernel
theorem dX5_save_55 : decode cX5_save 55 = .ok (.putfield 166, 3) := by decide +kernel
theorem dX5_save_58 : decode cX5_save 58 = .ok (.aload_n 0, 1) := by decide +kernel
theorem dX5_save_59 : decode cX5_save 59 = .ok (.aload_n 0, 1) := by decide +kernel
theorem dX5_save_60 : decode cX5_save 60 = .ok (.getfield 114, 3) := by decide +kernel
theorem dX5_save_63 : decode cX5_save 63 = .ok (.putfield 169, 3) := by decide +kernel
theorem dX5_save_66 : decode cX5_save 66 = .ok (.aload_n 0, 1) := by decide +kernel
theorem dX5_save_67 : decode cX5_save 67 = .ok (.aload_n 0, 1) := by decide +kernel
theorem dX5_save_68 : decode cX5_save 68 = .ok (.getfield 135, 3) := by decide +kernel
theorem dX5_save_71 : decode cX5_save 71 = .ok (.putfield 172, 3) := by decide +kernel
theorem dX5_save_74 : decode cX5_save 74 = .ok (.aload_n 0, 1) := by decide +kernel
theorem dX5_save_75 : decode cX5_save 75 = .ok (.aload_n 0, 1) := by decide +kernel
theorem dX5_save_76 : decode cX5_save 76 = .ok (.getfield 107, 3) := by decide +kernel
theorem dX5_save_79 : decode cX5_save 79 = .ok (.putfield 175, 3) := by decide +kernel
theorem dX5_save_82 : decode cX5_save 82 = .ok (.return_, 1) := by decide +kernel
theorem dX5_back_0 : decode cX5_back 0 = .ok (.iconst 0, 1) := by decide +kernel
theorem dX5_back_1 : decode cX5_back 1 = .ok (.istore_n 1, 1) := by decide +kernel
theorem dX5_back_2 : decode cX5_back 2 = .ok (.iload_n 1, 1) := by decide +kernel
theorem dX5_back_3 : decode cX5_back 3 = .ok (.bipush 8, 2) := by decide +kernel
theorem dX5_back_5 : decode cX5_back 5 = .ok (.if_icmp .ge 21, 3) := by decide +kernel
theorem dX5_back_8 : decode cX5_back 8 = .ok (.aload_n 0, 1) := by decide +kernel
theorem dX5_back_9 : decode cX5_back 9 = .ok (.getfield 28, 3) := by decide +kernel
theorem dX5_back_12 : decode cX5_back 12 = .ok (.iload_n 1, 1) := by decide +kernel
theorem dX5_back_13 : decode cX5_back 13 = .ok (.aload_n 0, 1) := by decide +kernel
theorem dX5_back_14 : decode cX5_back 14 = .ok (.getfield 51, 3) := by decide +kernel
theorem dX5_back_17 : decode cX5_back 17 = .ok (.iload_n 1, 1) := by decide +kernel
theorem dX5_back_18 : decode cX5_back 18 = .ok (.iaload, 1) := by decide +kernel
theorem dX5_back_19 : decode cX5_back 19 = .ok (.iastore, 1) := by decide +kernel
theorem dX5_back_20 : decode cX5_back 20 = .ok (.iinc 1 1, 3) := by decide +kernel
theorem dX5_back_23 : decode cX5_back 23 = .ok (.goto (-21), 3) := by decide +kernel
theorem dX5_back_26 : decode cX5_back 26 = .ok (.aload_n 0, 1) := by decide +kernel
theorem dX5_back_27 : decode cX5_back 27 = .ok (.aload_n 0, 1) := by decide +kernel
theorem dX5_back_28 : decode cX5_back 28 = .ok (.getfield 157, 3) := by decide +kernel
theorem dX5_back_31 : decode cX5_back 31 = .ok (.putfield 93, 3) := by decide +kernel
theorem dX5_back_34 : decode cX5_back 34 = .ok (.aload_n 0, 1) := by decide +kernel
theorem dX5_back_35 : decode cX5_back 35 = .ok (.aload_n 0, 1) := by decide +kernel
theorem dX5_back_36 : decode cX5_back 36 = .ok (.getfield 160, 3) := by decide +kernel
theorem dX5_back_39 : decode cX5_back 39 = .ok (.putfield 38, 3) := by decide +kernel
theorem dX5_back_42 : decode cX5_back 42 = .ok (.aload_n 0, 1) := by decide +kernel
theorem dX5_back_43 : decode cX5_back 43 = .ok (.aload_n 0, 1) := by decide +kernel
theorem dX5_back_44 : decode cX5_back 44 = .ok (.getfield 163, 3) := by decide +kernel
theorem dX5_back_47 : decode cX5_back 47 = .ok (.putfield 90, 3) := by decide +kernel
theorem dX5_back_50 : decode cX5_back 50 = .ok (.aload_n 0, 1) := by decide +kernel
theorem dX5_back_51 : decode cX5_back 51 = .ok (.aload_n 0, 1) := by decide +kernel
theorem dX5_back_52 : decode cX5_back 52 = .ok (.getfield 166, 3) := by decide +kernel
theorem dX5_back_55 : decode cX5_back 55 = .ok (.putfield 141, 3) := by decide +kernel
theorem dX5_back_58 : decode cX5_back 58 = .ok (.aload_n 0, 1) := by decide +kernel
theorem dX5_back_59 : decode cX5_back 59 = .ok (.aload_n 0, 1) := by decide +kernel
theorem dX5_back_60 : decode cX5_back 60 = .ok (.getfield 169, 3) := by decide +kernel
theorem dX5_back_63 : decode cX5_back 63 = .ok (.putfield 114, 3) := by decide +kernel
theorem dX5_back_66 : decode cX5_back 66 = .ok (.aload_n 0, 1) := by decide +kernel
theorem dX5_back_67 : decode cX5_back 67 = .ok (.aload_n 0, 1) := by decide +kernel
theorem dX5_back_68 : decode cX5_back 68 = .ok (.getfield 172, 3) := by decide +kernel
theorem dX5_back_71 : decode cX5_back 71 = .ok (.putfield 135, 3) := by decide +kernel
theorem dX5_back_74 : decode cX5_back 74 = .ok (.aload_n 0, 1) := by decide +kernel
theorem dX5_back_75 : decode cX5_back 75 = .ok (.aload_n 0, 1) := by decide +kernel
theorem dX5_back_76 : decode cX5_back 76 = .ok (.getfield 175, 3) := by decide +kernel
theorem dX5_back_79 : decode cX5_back 79 = .ok (.putfield 107, 3) := by decide +kernel
theorem dX5_back_82 : decode cX5_back 82 = .ok (.return_, 1) := by decide +kernel
theorem dX5_takenOn_0 : decode cX5_takenOn 0 = .ok (.aload_n 0, 1) := by decide +kernel
theorem dX5_takenOn_1 : decode cX5_takenOn 1 = .ok (.invokevirtual 178, 3) := by decide +kernel
theorem dX5_takenOn_4 : decode cX5_takenOn 4 = .ok (.aload_n 0, 1) := by decide +kernel
theorem dX5_takenOn_5 : decode cX5_takenOn 5 = .ok (.invokevirtual 151, 3) := by decide +kernel
theorem dX5_takenOn_8 : decode cX5_takenOn 8 = .ok (.istore_n 3, 1) := by decide +kernel
theorem dX5_takenOn_9 : decode cX5_takenOn 9 = .ok (.aload_n 0, 1) := by decide +kernel
theorem dX5_takenOn_10 : decode cX5_takenOn 10 = .ok (.iload_n 1, 1) := by decide +kernel
theorem dX5_takenOn_11 : decode cX5_takenOn 11 = .ok (.putfield 93, 3) := by decide +kernel
theorem dX5_takenOn_14 : decode cX5_takenOn 14 = .ok (.aload_n 0, 1) := by decide +kernel
theorem dX5_takenOn_15 : decode cX5_takenOn 15 = .ok (.dup, 1) := by decide +kernel
theorem dX5_takenOn_16 : decode cX5_takenOn 16 = .ok (.getfield 38, 3) := by decide +kernel
theorem dX5_takenOn_19 : decode cX5_takenOn 19 = .ok (.iload_n 2, 1) := by decide +kernel
theorem dX5_takenOn_20 : decode cX5_takenOn 20 = .ok (.iadd, 1) := by decide +kernel
theorem dX5_takenOn_21 : decode cX5_takenOn 21 = .ok (.putfield 38, 3) := by decide +kernel
theorem dX5_takenOn_24 : decode cX5_takenOn 24 = .ok (.aload_n 0, 1) := by decide +kernel
theorem dX5_takenOn_25 : decode cX5_takenOn 25 = .ok (.invokevirtual 144, 3) := by decide +kernel
theorem dX5_takenOn_28 : decode cX5_takenOn 28 = .ok (.ifCond .ne 11, 3) := by decide +kernel
theorem dX5_takenOn_31 : decode cX5_takenOn 31 = .ok (.aload_n 0, 1) := by decide +kernel
theorem dX5_takenOn_32 : decode cX5_takenOn 32 = .ok (.invokevirtual 148, 3) := by decide +kernel
theorem dX5_takenOn_35 : decode cX5_takenOn 35 = .ok (.pop, 1) := by decide +kernel
theorem dX5_takenOn_36 : decode cX5_takenOn 36 = .ok (.goto (-12), 3) := by decide +kernel
theorem dX5_takenOn_39 : decode cX5_takenOn 39 = .ok (.aload_n 0, 1) := by decide +kernel
theorem dX5_takenOn_40 : decode cX5_takenOn 40 = .ok (.invokevirtual 151, 3) := by decide +kernel
theorem dX5_takenOn_43 : decode cX5_takenOn 43 = .ok (.iload_n 3, 1) := by decide +kernel
theorem dX5_takenOn_44 : decode cX5_takenOn 44 = .ok (.isub, 1) := by decide +kernel
theorem dX5_takenOn_45 : decode cX5_takenOn 45 = .ok (.istore 4, 2) := by decide +kernel
theorem dX5_takenOn_47 : decode cX5_takenOn 47 = .ok (.aload_n 0, 1) := by decide +kernel
theorem dX5_takenOn_48 : decode cX5_takenOn 48 = .ok (.invokevirtual 181, 3) := by decide +kernel
theorem dX5_takenOn_51 : decode cX5_takenOn 51 = .ok (.iload 4, 2) := by decide +kernel
theorem dX5_takenOn_53 : decode cX5_takenOn 53 = .ok (.ireturn, 1) := by decide +kernel
theorem dX5_planNow_0 : decode cX5_planNow 0 = .ok (.iconst 0, 1) := by decide +kernel
theorem dX5_planNow_1 : decode cX5_planNow 1 = .ok (.istore_n 2, 1) := by decide +kernel
theorem dX5_planNow_2 : decode cX5_planNow 2 = .ok (.aload_n 0, 1) := by decide +kernel
theorem dX5_planNow_3 : decode cX5_planNow 3 = .ok (.iconst 0, 1) := by decide +kernel
theorem dX5_planNow_4 : decode cX5_planNow 4 = .ok (.iconst 0, 1) := by decide +kernel
theorem dX5_planNow_5 : decode cX5_planNow 5 = .ok (.invokevirtual 184, 3) := by decide +kernel
theorem dX5_planNow_8 : decode cX5_planNow 8 = .ok (.istore_n 3, 1) := by decide +kernel
theorem dX5_planNow_9 : decode cX5_planNow 9 = .ok (.iconst 1, 1) := by decide +kernel
theorem dX5_planNow_10 : decode cX5_planNow 10 = .ok (.istore 4, 2) := by decide +kernel
theorem dX5_planNow_12 : decode cX5_planNow 12 = .ok (.iload 4, 2) := by decide +kernel
theorem dX5_planNow_14 : decode cX5_planNow 14 = .ok (.aload_n 0, 1) := by decide +kernel
theorem dX5_planNow_15 : decode cX5_planNow 15 = .ok (.invokevirtual 129, 3) := by decide +kernel
theorem dX5_planNow_18 : decode cX5_planNow 18 = .ok (.if_icmp .gt 73, 3) := by decide +kernel
theorem dX5_planNow_21 : decode cX5_planNow 21 = .ok (.aload_n 0, 1) := by decide +kernel
theorem dX5_planNow_22 : decode cX5_planNow 22 = .ok (.iload 4, 2) := by decide +kernel
theorem dX5_planNow_24 : decode cX5_planNow 24 = .ok (.iconst 0, 1) := by decide +kernel
theorem dX5_planNow_25 : decode cX5_planNow 25 = .ok (.invokevirtual 184, 3) := by decide +kernel
theorem dX5_planNow_28 : decode cX5_planNow 28 = .ok (.istore 5, 2) := by decide +kernel
theorem dX5_planNow_30 : decode cX5_planNow 30 = .ok (.iload 5, 2) := by decide +kernel
theorem dX5_planNow_32 : decode cX5_planNow 32 = .ok (.iload_n 3, 1) := by decide +kernel
theorem dX5_planNow_33 : decode cX5_planNow 33 = .ok (.if_icmp .gt 21, 3) := by decide +kernel
theorem dX5_planNow_36 : decode cX5_planNow 36 = .ok (.iload 5, 2) := by decide +kernel
theorem dX5_planNow_38 : decode cX5_planNow 38 = .ok (.iload_n 3, 1) := by decide +kernel
theorem dX5_planNow_39 : decode cX5_planNow 39 = .ok (.if_icmp .ne 19, 3) := by decide +kernel
theorem dX5_planNow_42 : decode cX5_planNow 42 = .ok (.iload 4, 2) := by decide +kernel
theorem dX5_planNow_44 : decode cX5_planNow 44 = .ok (.invokestatic 187, 3) := by decide +kernel
theorem dX5_planNow_47 : decode cX5_planNow 47 = .ok (.iload_n 2, 1) := by decide +kernel
theorem dX5_planNow_48 : decode cX5_planNow 48 = .ok (.invokestatic 187, 3) := by decide +kernel
theorem dX5_planNow_51 : decode cX5_planNow 51 = .ok (.if_icmp .ge 7, 3) := by decide +kernel
theorem dX5_planNow_54 : decode cX5_planNow 54 = .ok (.iconst 1, 1) := by decide +kernel
theorem dX5_planNow_55 : decode cX5_planNow 55 = .ok (.goto 4, 3) := by decide +kernel
theorem dX5_planNow_58 : decode cX5_planNow 58 = .ok (.iconst 0, 1) := by decide +kernel
theorem dX5_planNow_59 : decode cX5_planNow 59 = .ok (.istore 6, 2) := by decide +kernel
theorem dX5_planNow_61 : decode cX5_planNow 61 = .ok (.iload 6, 2) := by decide +kernel
theorem dX5_planNow_63 : decode cX5_planNow 63 = .ok (.ifCond .eq 8, 3) := by decide +kernel
theorem dX5_planNow_66 : decode cX5_planNow 66 = .ok (.iload 4, 2) := by decide +kernel
theorem dX5_planNow_68 : decode cX5_planNow 68 = .ok (.goto 4, 3) := by decide +kernel
theorem dX5_planNow_71 : decode cX5_planNow 71 = .ok (.iload_n 2, 1) := by decide +kernel
theorem dX5_planNow_72 : decode cX5_planNow 72 = .ok (.istore_n 2, 1) := by decide +kernel
theorem dX5_planNow_73 : decode cX5_planNow 73 = .ok (.iload 6, 2) := by decide +kernel
theorem dX5_planNow_75 : decode cX5_planNow 75 = .ok (.ifCond .eq 8, 3) := by decide +kernel
theorem dX5_planNow_78 : decode cX5_planNow 78 = .ok (.iload 5, 2) := by decide +kernel
theorem dX5_planNow_80 : decode cX5_planNow 80 = .ok (.goto 4, 3) := by decide +kernel
theorem dX5_planNow_83 : decode cX5_planNow 83 = .ok (.iload_n 3, 1) := by decide +kernel
theorem dX5_planNow_84 : decode cX5_planNow 84 = .ok (.istore_n 3, 1) := by decide +kernel
theorem dX5_planNow_85 : decode cX5_planNow 85 = .ok (.iinc 4 1, 3) := by decide +kernel
theorem dX5_planNow_88 : decode cX5_planNow 88 = .ok (.goto (-76), 3) := by decide +kernel
theorem dX5_planNow_91 : decode cX5_planNow 91 = .ok (.iload_n 1, 1) := by decide +kernel
theorem dX5_planNow_92 : decode cX5_planNow 92 = .ok (.ifCond .ne 7, 3) := by decide +kernel
theorem dX5_planNow_95 : decode cX5_planNow 95 = .ok (.iload_n 3, 1) := by decide +kernel
theorem dX5_planNow_96 : decode cX5_planNow 96 = .ok (.goto 4, 3) := by decide +kernel
theorem dX5_planNow_99 : decode cX5_planNow 99 = .ok (.iload_n 2, 1) := by decide +kernel
theorem dX5_planNow_100 : decode cX5_planNow 100 = .ok (.ireturn, 1) := by decide +kernel
theorem dX5_plan_0 : decode cX5_plan 0 = .ok (.iload_n 1, 1) := by decide +kernel
theorem dX5_plan_1 : decode cX5_plan 1 = .ok (.iconst 0, 1) := by decide +kernel
theorem dX5_plan_2 : decode cX5_plan 2 = .ok (.iconst 1, 1) := by decide +kernel
theorem dX5_plan_3 : decode cX5_plan 3 = .ok (.invokestatic 78, 3) := by decide +kernel
theorem dX5_plan_6 : decode cX5_plan 6 = .ok (.ifCond .eq 11, 3) := by decide +kernel
theorem dX5_plan_9 : decode cX5_plan 9 = .ok (.aload_n 0, 1) := by decide +kernel
theorem dX5_plan_10 : decode cX5_plan 10 = .ok (.iload_n 1, 1) := by decide +kernel
theorem dX5_plan_11 : decode cX5_plan 11 = .ok (.invokevirtual 190, 3) := by decide +kernel
theorem dX5_plan_14 : decode cX5_plan 14 = .ok (.goto 5, 3) := by decide +kernel
theorem dX5_plan_17 : decode cX5_plan 17 = .ok (.bipush (-102), 2) := by decide +kernel
theorem dX5_plan_19 : decode cX5_plan 19 = .ok (.ireturn, 1) := by decide +kernel
theorem dX5_moreNow_0 : decode cX5_moreNow 0 = .ok (.aload_n 0, 1) := by decide +kernel
theorem dX5_moreNow_1 : decode cX5_moreNow 1 = .ok (.aload_n 0, 1) := by decide +kernel
theorem dX5_moreNow_2 : decode cX5_moreNow 2 = .ok (.getfield 93, 3) := by decide +kernel
theorem dX5_moreNow_5 : decode cX5_moreNow 5 = .ok (.iload_n 1, 1) := by decide +kernel
end
section
theorem dX5_moreNow_6 : decode cX5_moreNow 6 = .ok (.invokevirtual 184, 3) := by decide +kernel
theorem dX5_moreNow_9 : decode cX5_moreNow 9 = .ok (.aload_n 0, 1) := by decide +kernel
theorem dX5_moreNow_10 : decode cX5_moreNow 10 = .ok (.aload_n 0, 1) := by decide +kernel
theorem dX5_moreNow_11 : decode cX5_moreNow 11 = .ok (.getfield 93, 3) := by decide +kernel
theorem dX5_moreNow_14 : decode cX5_moreNow 14 = .ok (.iconst 0, 1) := by decide +kernel
theorem dX5_moreNow_15 : decode cX5_moreNow 15 = .ok (.invokevirtual 184, 3) := by decide +kernel
theorem dX5_moreNow_18 : decode cX5_moreNow 18 = .ok (.isub, 1) := by decide +kernel
theorem dX5_moreNow_19 : decode cX5_moreNow 19 = .ok (.ireturn, 1) := by decide +kernel
theorem dX5_more_0 : decode cX5_more 0 = .ok (.iload_n 1, 1) := by decide +kernel
theorem dX5_more_1 : decode cX5_more 1 = .ok (.iconst 0, 1) := by decide +kernel
theorem dX5_more_2 : decode cX5_more 2 = .ok (.bipush 99, 2) := by decide +kernel
theorem dX5_more_4 : decode cX5_more 4 = .ok (.invokestatic 78, 3) := by decide +kernel
theorem dX5_more_7 : decode cX5_more 7 = .ok (.ifCond .eq 11, 3) := by decide +kernel
theorem dX5_more_10 : decode cX5_more 10 = .ok (.aload_n 0, 1) := by decide +kernel
theorem dX5_more_11 : decode cX5_more 11 = .ok (.iload_n 1, 1) := by decide +kernel
theorem dX5_more_12 : decode cX5_more 12 = .ok (.invokevirtual 193, 3) := by decide +kernel
theorem dX5_more_15 : decode cX5_more 15 = .ok (.goto 5, 3) := by decide +kernel
theorem dX5_more_18 : decode cX5_more 18 = .ok (.bipush (-102), 2) := by decide +kernel
theorem dX5_more_20 : decode cX5_more 20 = .ok (.ireturn, 1) := by decide +kernel
theorem dX5_sumOf_0 : decode cX5_sumOf 0 = .ok (.iconst 0, 1) := by decide +kernel
theorem dX5_sumOf_1 : decode cX5_sumOf 1 = .ok (.istore_n 2, 1) := by decide +kernel
theorem dX5_sumOf_2 : decode cX5_sumOf 2 = .ok (.iconst 0, 1) := by decide +kernel
theorem dX5_sumOf_3 : decode cX5_sumOf 3 = .ok (.istore_n 3, 1) := by decide +kernel
theorem dX5_sumOf_4 : decode cX5_sumOf 4 = .ok (.iload_n 3, 1) := by decide +kernel
theorem dX5_sumOf_5 : decode cX5_sumOf 5 = .ok (.aload_n 0, 1) := by decide +kernel
theorem dX5_sumOf_6 : decode cX5_sumOf 6 = .ok (.getfield 75, 3) := by decide +kernel
theorem dX5_sumOf_9 : decode cX5_sumOf 9 = .ok (.if_icmp .ge 30, 3) := by decide +kernel
theorem dX5_sumOf_12 : decode cX5_sumOf 12 = .ok (.iload_n 2, 1) := by decide +kernel
theorem dX5_sumOf_13 : decode cX5_sumOf 13 = .ok (.iload_n 1, 1) := by decide +kernel
theorem dX5_sumOf_14 : decode cX5_sumOf 14 = .ok (.iload_n 3, 1) := by decide +kernel
theorem dX5_sumOf_15 : decode cX5_sumOf 15 = .ok (.invokestatic 96, 3) := by decide +kernel
theorem dX5_sumOf_18 : decode cX5_sumOf 18 = .ok (.ifCond .eq 12, 3) := by decide +kernel
theorem dX5_sumOf_21 : decode cX5_sumOf 21 = .ok (.aload_n 0, 1) := by decide +kernel
theorem dX5_sumOf_22 : decode cX5_sumOf 22 = .ok (.getfield 22, 3) := by decide +kernel
theorem dX5_sumOf_25 : decode cX5_sumOf 25 = .ok (.iload_n 3, 1) := by decide +kernel
theorem dX5_sumOf_26 : decode cX5_sumOf 26 = .ok (.iaload, 1) := by decide +kernel
theorem dX5_sumOf_27 : decode cX5_sumOf 27 = .ok (.goto 4, 3) := by decide +kernel
theorem dX5_sumOf_30 : decode cX5_sumOf 30 = .ok (.iconst 0, 1) := by decide +kernel
theorem dX5_sumOf_31 : decode cX5_sumOf 31 = .ok (.iadd, 1) := by decide +kernel
theorem dX5_sumOf_32 : decode cX5_sumOf 32 = .ok (.istore_n 2, 1) := by decide +kernel
theorem dX5_sumOf_33 : decode cX5_sumOf 33 = .ok (.iinc 3 1, 3) := by decide +kernel
theorem dX5_sumOf_36 : decode cX5_sumOf 36 = .ok (.goto (-32), 3) := by decide +kernel
theorem dX5_sumOf_39 : decode cX5_sumOf 39 = .ok (.iload_n 2, 1) := by decide +kernel
theorem dX5_sumOf_40 : decode cX5_sumOf 40 = .ok (.ireturn, 1) := by decide +kernel
theorem dX5_missing_0 : decode cX5_missing 0 = .ok (.iload_n 1, 1) := by decide +kernel
theorem dX5_missing_1 : decode cX5_missing 1 = .ok (.iconst 1, 1) := by decide +kernel
theorem dX5_missing_2 : decode cX5_missing 2 = .ok (.bipush 72, 2) := by decide +kernel
theorem dX5_missing_4 : decode cX5_missing 4 = .ok (.invokestatic 78, 3) := by decide +kernel
theorem dX5_missing_7 : decode cX5_missing 7 = .ok (.ifCond .eq 12, 3) := by decide +kernel
theorem dX5_missing_10 : decode cX5_missing 10 = .ok (.iload_n 2, 1) := by decide +kernel
theorem dX5_missing_11 : decode cX5_missing 11 = .ok (.iconst 0, 1) := by decide +kernel
theorem dX5_missing_12 : decode cX5_missing 12 = .ok (.iconst 2, 1) := by decide +kernel
theorem dX5_missing_13 : decode cX5_missing 13 = .ok (.invokestatic 78, 3) := by decide +kernel
theorem dX5_missing_16 : decode cX5_missing 16 = .ok (.ifCond .ne 6, 3) := by decide +kernel
theorem dX5_missing_19 : decode cX5_missing 19 = .ok (.bipush (-102), 2) := by decide +kernel
theorem dX5_missing_21 : decode cX5_missing 21 = .ok (.ireturn, 1) := by decide +kernel
theorem dX5_missing_22 : decode cX5_missing 22 = .ok (.iconst 0, 1) := by decide +kernel
theorem dX5_missing_23 : decode cX5_missing 23 = .ok (.istore_n 3, 1) := by decide +kernel
theorem dX5_missing_24 : decode cX5_missing 24 = .ok (.iconst 0, 1) := by decide +kernel
theorem dX5_missing_25 : decode cX5_missing 25 = .ok (.istore 4, 2) := by decide +kernel
theorem dX5_missing_27 : decode cX5_missing 27 = .ok (.iload 4, 2) := by decide +kernel
theorem dX5_missing_29 : decode cX5_missing 29 = .ok (.aload_n 0, 1) := by decide +kernel
theorem dX5_missing_30 : decode cX5_missing 30 = .ok (.getfield 75, 3) := by decide +kernel
theorem dX5_missing_33 : decode cX5_missing 33 = .ok (.if_icmp .ge 29, 3) := by decide +kernel
theorem dX5_missing_36 : decode cX5_missing 36 = .ok (.iload_n 3, 1) := by decide +kernel
theorem dX5_missing_37 : decode cX5_missing 37 = .ok (.aload_n 0, 1) := by decide +kernel
theorem dX5_missing_38 : decode cX5_missing 38 = .ok (.iload 4, 2) := by decide +kernel
theorem dX5_missing_40 : decode cX5_missing 40 = .ok (.invokevirtual 111, 3) := by decide +kernel
theorem dX5_missing_43 : decode cX5_missing 43 = .ok (.ifCond .eq 10, 3) := by decide +kernel
theorem dX5_missing_46 : decode cX5_missing 46 = .ok (.iconst 1, 1) := by decide +kernel
theorem dX5_missing_47 : decode cX5_missing 47 = .ok (.iload 4, 2) := by decide +kernel
theorem dX5_missing_49 : decode cX5_missing 49 = .ok (.ishl, 1) := by decide +kernel
theorem dX5_missing_50 : decode cX5_missing 50 = .ok (.goto 4, 3) := by decide +kernel
theorem dX5_missing_53 : decode cX5_missing 53 = .ok (.iconst 0, 1) := by decide +kernel
theorem dX5_missing_54 : decode cX5_missing 54 = .ok (.ior, 1) := by decide +kernel
theorem dX5_missing_55 : decode cX5_missing 55 = .ok (.istore_n 3, 1) := by decide +kernel
theorem dX5_missing_56 : decode cX5_missing 56 = .ok (.iinc 4 1, 3) := by decide +kernel
theorem dX5_missing_59 : decode cX5_missing 59 = .ok (.goto (-32), 3) := by decide +kernel
theorem dX5_missing_62 : decode cX5_missing 62 = .ok (.iconst 0, 1) := by decide +kernel
theorem dX5_missing_63 : decode cX5_missing 63 = .ok (.istore 4, 2) := by decide +kernel
theorem dX5_missing_65 : decode cX5_missing 65 = .ok (.aload_n 0, 1) := by decide +kernel
theorem dX5_missing_66 : decode cX5_missing 66 = .ok (.invokevirtual 129, 3) := by decide +kernel
theorem dX5_missing_69 : decode cX5_missing 69 = .ok (.istore 5, 2) := by decide +kernel
theorem dX5_missing_71 : decode cX5_missing 71 = .ok (.iconst 0, 1) := by decide +kernel
theorem dX5_missing_72 : decode cX5_missing 72 = .ok (.istore 6, 2) := by decide +kernel
theorem dX5_missing_74 : decode cX5_missing 74 = .ok (.iconst 1, 1) := by decide +kernel
theorem dX5_missing_75 : decode cX5_missing 75 = .ok (.istore 7, 2) := by decide +kernel
theorem dX5_missing_77 : decode cX5_missing 77 = .ok (.iload 7, 2) := by decide +kernel
theorem dX5_missing_79 : decode cX5_missing 79 = .ok (.aload_n 0, 1) := by decide +kernel
theorem dX5_missing_80 : decode cX5_missing 80 = .ok (.invokevirtual 129, 3) := by decide +kernel
theorem dX5_missing_83 : decode cX5_missing 83 = .ok (.if_icmp .gt 45, 3) := by decide +kernel
theorem dX5_missing_86 : decode cX5_missing 86 = .ok (.iload 7, 2) := by decide +kernel
theorem dX5_missing_88 : decode cX5_missing 88 = .ok (.iload_n 3, 1) := by decide +kernel
theorem dX5_missing_89 : decode cX5_missing 89 = .ok (.iconst (-1), 1) := by decide +kernel
theorem dX5_missing_90 : decode cX5_missing 90 = .ok (.ixor, 1) := by decide +kernel
theorem dX5_missing_91 : decode cX5_missing 91 = .ok (.iand, 1) := by decide +kernel
theorem dX5_missing_92 : decode cX5_missing 92 = .ok (.ifCond .ne 30, 3) := by decide +kernel
theorem dX5_missing_95 : decode cX5_missing 95 = .ok (.aload_n 0, 1) := by decide +kernel
theorem dX5_missing_96 : decode cX5_missing 96 = .ok (.iload 7, 2) := by decide +kernel
theorem dX5_missing_98 : decode cX5_missing 98 = .ok (.invokevirtual 196, 3) := by decide +kernel
theorem dX5_missing_101 : decode cX5_missing 101 = .ok (.iload_n 1, 1) := by decide +kernel
theorem dX5_missing_102 : decode cX5_missing 102 = .ok (.if_icmp .ne 20, 3) := by decide +kernel
theorem dX5_missing_105 : decode cX5_missing 105 = .ok (.iinc 4 1, 3) := by decide +kernel
theorem dX5_missing_108 : decode cX5_missing 108 = .ok (.iload 5, 2) := by decide +kernel
theorem dX5_missing_110 : decode cX5_missing 110 = .ok (.iload 7, 2) := by decide +kernel
theorem dX5_missing_112 : decode cX5_missing 112 = .ok (.iand, 1) := by decide +kernel
theorem dX5_missing_113 : decode cX5_missing 113 = .ok (.istore 5, 2) := by decide +kernel
theorem dX5_missing_115 : decode cX5_missing 115 = .ok (.iload 6, 2) := by decide +kernel
theorem dX5_missing_117 : decode cX5_missing 117 = .ok (.iload 7, 2) := by decide +kernel
theorem dX5_missing_119 : decode cX5_missing 119 = .ok (.ior, 1) := by decide +kernel
theorem dX5_missing_120 : decode cX5_missing 120 = .ok (.istore 6, 2) := by decide +kernel
theorem dX5_missing_122 : decode cX5_missing 122 = .ok (.iinc 7 1, 3) := by decide +kernel
theorem dX5_missing_125 : decode cX5_missing 125 = .ok (.goto (-48), 3) := by decide +kernel
theorem dX5_missing_128 : decode cX5_missing 128 = .ok (.iload_n 2, 1) := by decide +kernel
theorem dX5_missing_129 : decode cX5_missing 129 = .ok (.ifCond .ne 8, 3) := by decide +kernel
theorem dX5_missing_132 : decode cX5_missing 132 = .ok (.iload 4, 2) := by decide +kernel
theorem dX5_missing_134 : decode cX5_missing 134 = .ok (.goto 24, 3) := by decide +kernel
theorem dX5_missing_137 : decode cX5_missing 137 = .ok (.iload_n 2, 1) := by decide +kernel
theorem dX5_missing_138 : decode cX5_missing 138 = .ok (.iconst 2, 1) := by decide +kernel
theorem dX5_missing_139 : decode cX5_missing 139 = .ok (.if_icmp .ne 8, 3) := by decide +kernel
theorem dX5_missing_142 : decode cX5_missing 142 = .ok (.iload 6, 2) := by decide +kernel
theorem dX5_missing_144 : decode cX5_missing 144 = .ok (.goto 14, 3) := by decide +kernel
theorem dX5_missing_147 : decode cX5_missing 147 = .ok (.iload 4, 2) := by decide +kernel
theorem dX5_missing_149 : decode cX5_missing 149 = .ok (.ifCond .ne 7, 3) := by decide +kernel
theorem dX5_missing_152 : decode cX5_missing 152 = .ok (.iconst 0, 1) := by decide +kernel
theorem dX5_missing_153 : decode cX5_missing 153 = .ok (.goto 5, 3) := by decide +kernel
theorem dX5_missing_156 : decode cX5_missing 156 = .ok (.iload 5, 2) := by decide +kernel
theorem dX5_missing_158 : decode cX5_missing 158 = .ok (.ireturn, 1) := by decide +kernel
theorem dX5_draw_0 : decode cX5_draw 0 = .ok (.aload_n 0, 1) := by decide +kernel
theorem dX5_draw_1 : decode cX5_draw 1 = .ok (.ldc2_w 199, 3) := by decide +kernel
theorem dX5_draw_4 : decode cX5_draw 4 = .ok (.aload_n 0, 1) := by decide +kernel
theorem dX5_draw_5 : decode cX5_draw 5 = .ok (.getfield 201, 3) := by decide +kernel
theorem dX5_draw_8 : decode cX5_draw 8 = .ok (.lmul, 1) := by decide +kernel
theorem dX5_draw_9 : decode cX5_draw 9 = .ok (.ldc2_w 205, 3) := by decide +kernel
theorem dX5_draw_12 : decode cX5_draw 12 = .ok (.ladd, 1) := by decide +kernel
theorem dX5_draw_13 : decode cX5_draw 13 = .ok (.ldc2_w 207, 3) := by decide +kernel
theorem dX5_draw_16 : decode cX5_draw 16 = .ok (.land, 1) := by decide +kernel
theorem dX5_draw_17 : decode cX5_draw 17 = .ok (.putfield 201, 3) := by decide +kernel
theorem dX5_draw_20 : decode cX5_draw 20 = .ok (.aload_n 0, 1) := by decide +kernel
theorem dX5_draw_21 : decode cX5_draw 21 = .ok (.getfield 201, 3) := by decide +kernel
theorem dX5_draw_24 : decode cX5_draw 24 = .ok (.ldc2_w 209, 3) := by decide +kernel
theorem dX5_draw_27 : decode cX5_draw 27 = .ok (.ldiv, 1) := by decide +kernel
theorem dX5_draw_28 : decode cX5_draw 28 = .ok (.iload_n 1, 1) := by decide +kernel
theorem dX5_draw_29 : decode cX5_draw 29 = .ok (.i2l, 1) := by decide +kernel
theorem dX5_draw_30 : decode cX5_draw 30 = .ok (.lrem, 1) := by decide +kernel
theorem dX5_draw_31 : decode cX5_draw 31 = .ok (.l2i, 1) := by decide +kernel
theorem dX5_draw_32 : decode cX5_draw 32 = .ok (.ireturn, 1) := by decide +kernel
theorem dX5_rest_0 : decode cX5_rest 0 = .ok (.iload_n 1, 1) := by decide +kernel
theorem dX5_rest_1 : decode cX5_rest 1 = .ok (.ifCond .lt 12, 3) := by decide +kernel
theorem dX5_rest_4 : decode cX5_rest 4 = .ok (.iload_n 2, 1) := by decide +kernel
theorem dX5_rest_5 : decode cX5_rest 5 = .ok (.iconst 0, 1) := by decide +kernel
theorem dX5_rest_6 : decode cX5_rest 6 = .ok (.iconst 3, 1) := by decide +kernel
theorem dX5_rest_7 : decode cX5_rest 7 = .ok (.invokestatic 78, 3) := by decide +kernel
theorem dX5_rest_10 : decode cX5_rest 10 = .ok (.ifCond .ne 6, 3) := by decide +kernel
theorem dX5_rest_13 : decode cX5_rest 13 = .ok (.bipush (-102), 2) := by decide +kernel
theorem dX5_rest_15 : decode cX5_rest 15 = .ok (.ireturn, 1) := by decide +kernel
theorem dX5_rest_16 : decode cX5_rest 16 = .ok (.aload_n 0, 1) := by decide +kernel
theorem dX5_rest_17 : decode cX5_rest 17 = .ok (.invokevirtual 178, 3) := by decide +kernel
theorem dX5_rest_20 : decode cX5_rest 20 = .ok (.aload_n 0, 1) := by decide +kernel
theorem dX5_rest_21 : decode cX5_rest 21 = .ok (.iload_n 1, 1) := by decide +kernel
theorem dX5_rest_22 : decode cX5_rest 22 = .ok (.i2l, 1) := by decide +kernel
theorem dX5_rest_23 : decode cX5_rest 23 = .ok (.putfield 201, 3) := by decide +kernel
theorem dX5_rest_26 : decode cX5_rest 26 = .ok (.aload_n 0, 1) := by decide +kernel
theorem dX5_rest_27 : decode cX5_rest 27 = .ok (.invokevirtual 151, 3) := by decide +kernel
theorem dX5_rest_30 : decode cX5_rest 30 = .ok (.istore_n 3, 1) := by decide +kernel
theorem dX5_rest_31 : decode cX5_rest 31 = .ok (.iconst (-1), 1) := by decide +kernel
theorem dX5_rest_32 : decode cX5_rest 32 = .ok (.istore 4, 2) := by decide +kernel
theorem dX5_rest_34 : decode cX5_rest 34 = .ok (.aload_n 0, 1) := by decide +kernel
theorem dX5_rest_35 : decode cX5_rest 35 = .ok (.invokevirtual 144, 3) := by decide +kernel
theorem dX5_rest_38 : decode cX5_rest 38 = .ok (.ifCond .ne 47, 3) := by decide +kernel
theorem dX5_rest_41 : decode cX5_rest 41 = .ok (.aload_n 0, 1) := by decide +kernel
theorem dX5_rest_42 : decode cX5_rest 42 = .ok (.aload_n 0, 1) := by decide +kernel
theorem dX5_rest_43 : decode cX5_rest 43 = .ok (.iconst 3, 1) := by decide +kernel
theorem dX5_rest_44 : decode cX5_rest 44 = .ok (.invokevirtual 211, 3) := by decide +kernel
theorem dX5_rest_47 : decode cX5_rest 47 = .ok (.ifCond .ne 7, 3) := by decide +kernel
theorem dX5_rest_50 : decode cX5_rest 50 = .ok (.iconst 1, 1) := by decide +kernel
theorem dX5_rest_51 : decode cX5_rest 51 = .ok (.goto 4, 3) := by decide +kernel
theorem dX5_rest_54 : decode cX5_rest 54 = .ok (.iconst 0, 1) := by decide +kernel
theorem dX5_rest_55 : decode cX5_rest 55 = .ok (.putfield 107, 3) := by decide +kernel
theorem dX5_rest_58 : decode cX5_rest 58 = .ok (.aload_n 0, 1) := by decide +kernel
theorem dX5_rest_59 : decode cX5_rest 59 = .ok (.invokevirtual 148, 3) := by decide +kernel
theorem dX5_rest_62 : decode cX5_rest 62 = .ok (.pop, 1) := by decide +kernel
theorem dX5_rest_63 : decode cX5_rest 63 = .ok (.aload_n 0, 1) := by decide +kernel
theorem dX5_rest_64 : decode cX5_rest 64 = .ok (.getfield 135, 3) := by decide +kernel
theorem dX5_rest_67 : decode cX5_rest 67 = .ok (.ifCond .eq 12, 3) := by decide +kernel
theorem dX5_rest_70 : decode cX5_rest 70 = .ok (.aload_n 0, 1) := by decide +kernel
theorem dX5_rest_71 : decode cX5_rest 71 = .ok (.getfield 90, 3) := by decide +kernel
theorem dX5_rest_74 : decode cX5_rest 74 = .ok (.iconst 1, 1) := by decide +kernel
theorem dX5_rest_75 : decode cX5_rest 75 = .ok (.isub, 1) := by decide +kernel
theorem dX5_rest_76 : decode cX5_rest 76 = .ok (.goto 4, 3) := by decide +kernel
theorem dX5_rest_79 : decode cX5_rest 79 = .ok (.iconst (-1), 1) := by decide +kernel
theorem dX5_rest_80 : decode cX5_rest 80 = .ok (.istore 4, 2) := by decide +kernel
theorem dX5_rest_82 : decode cX5_rest 82 = .ok (.goto (-48), 3) := by decide +kernel
theorem dX5_rest_85 : decode cX5_rest 85 = .ok (.aload_n 0, 1) := by decide +kernel
theorem dX5_rest_86 : decode cX5_rest 86 = .ok (.invokevirtual 151, 3) := by decide +kernel
theorem dX5_rest_89 : decode cX5_rest 89 = .ok (.iload_n 3, 1) := by decide +kernel
theorem dX5_rest_90 : decode cX5_rest 90 = .ok (.isub, 1) := by decide +kernel
theorem dX5_rest_91 : decode cX5_rest 91 = .ok (.istore 5, 2) := by decide +kernel
theorem dX5_rest_93 : decode cX5_rest 93 = .ok (.aload_n 0, 1) := by decide +kernel
theorem dX5_rest_94 : decode cX5_rest 94 = .ok (.getfield 38, 3) := by decide +kernel
theorem dX5_rest_97 : decode cX5_rest 97 = .ok (.istore 6, 2) := by decide +kernel
theorem dX5_rest_99 : decode cX5_rest 99 = .ok (.aload_n 0, 1) := by decide +kernel
theorem dX5_rest_100 : decode cX5_rest 100 = .ok (.invokevirtual 181, 3) := by decide +kernel
theorem dX5_rest_103 : decode cX5_rest 103 = .ok (.iload_n 2, 1) := by decide +kernel
theorem dX5_rest_104 : decode cX5_rest 104 = .ok (.ifCond .ne 8, 3) := by decide +kernel
theorem dX5_rest_107 : decode cX5_rest 107 = .ok (.iload 5, 2) := by decide +kernel
theorem dX5_rest_109 : decode cX5_rest 109 = .ok (.goto 28, 3) := by decide +kernel
theorem dX5_rest_112 : decode cX5_rest 112 = .ok (.iload_n 2, 1) := by decide +kernel
theorem dX5_rest_113 : decode cX5_rest 113 = .ok (.iconst 1, 1) := by decide +kernel
theorem dX5_rest_114 : decode cX5_rest 114 = .ok (.if_icmp .ne 8, 3) := by decide +kernel
theorem dX5_rest_117 : decode cX5_rest 117 = .ok (.iload 6, 2) := by decide +kernel
theorem dX5_rest_119 : decode cX5_rest 119 = .ok (.goto 18, 3) := by decide +kernel
theorem dX5_rest_122 : decode cX5_rest 122 = .ok (.iload_n 2, 1) := by decide +kernel
theorem dX5_rest_123 : decode cX5_rest 123 = .ok (.iconst 2, 1) := by decide +kernel
theorem dX5_rest_124 : decode cX5_rest 124 = .ok (.if_icmp .ne 8, 3) := by decide +kernel
theorem dX5_rest_127 : decode cX5_rest 127 = .ok (.iload 4, 2) := by decide +kernel
theorem dX5_rest_129 : decode cX5_rest 129 = .ok (.goto 8, 3) := by decide +kernel
theorem dX5_rest_132 : decode cX5_rest 132 = .ok (.aload_n 0, 1) := by decide +kernel
theorem dX5_rest_133 : decode cX5_rest 133 = .ok (.getfield 201, 3) := by decide +kernel
theorem dX5_rest_136 : decode cX5_rest 136 = .ok (.l2i, 1) := by decide +kernel
theorem dX5_rest_137 : decode cX5_rest 137 = .ok (.ireturn, 1) := by decide +kernel
theorem dX5_read_0 : decode cX5_read 0 = .ok (.iload_n 1, 1) := by decide +kernel
theorem dX5_read_1 : decode cX5_read 1 = .ok (.iconst 1, 1) := by decide +kernel
theorem dX5_read_2 : decode cX5_read 2 = .ok (.aload_n 0, 1) := by decide +kernel
theorem dX5_read_3 : decode cX5_read 3 = .ok (.invokevirtual 129, 3) := by decide +kernel
theorem dX5_read_6 : decode cX5_read 6 = .ok (.invokestatic 78, 3) := by decide +kernel
theorem dX5_read_9 : decode cX5_read 9 = .ok (.ifCond .eq 14, 3) := by decide +kernel
theorem dX5_read_12 : decode cX5_read 12 = .ok (.iload_n 2, 1) := by decide +kernel
theorem dX5_read_13 : decode cX5_read 13 = .ok (.iconst 1, 1) := by decide +kernel
theorem dX5_read_14 : decode cX5_read 14 = .ok (.sipush 199, 3) := by decide +kernel
theorem dX5_read_17 : decode cX5_read 17 = .ok (.invokestatic 78, 3) := by decide +kernel
theorem dX5_read_20 : decode cX5_read 20 = .ok (.ifCond .ne 6, 3) := by decide +kernel
theorem dX5_read_23 : decode cX5_read 23 = .ok (.bipush (-102), 2) := by decide +kernel
theorem dX5_read_25 : decode cX5_read 25 = .ok (.ireturn, 1) := by decide +kernel
theorem dX5_read_26 : decode cX5_read 26 = .ok (.aload_n 0, 1) := by decide +kernel
theorem dX5_read_27 : decode cX5_read 27 = .ok (.getfield 214, 3) := by decide +kernel
theorem dX5_read_30 : decode cX5_read 30 = .ok (.bipush 8, 2) := by decide +kernel
theorem dX5_read_32 : decode cX5_read 32 = .ok (.if_icmp .ne 6, 3) := by decide +kernel
theorem dX5_read_35 : decode cX5_read 35 = .ok (.bipush (-104), 2) := by decide +kernel
theorem dX5_read_37 : decode cX5_read 37 = .ok (.ireturn, 1) := by decide +kernel
theorem dX5_read_38 : decode cX5_read 38 = .ok (.aload_n 0, 1) := by decide +kernel
theorem dX5_read_39 : decode cX5_read 39 = .ok (.getfield 41, 3) := by decide +kernel
theorem dX5_read_42 : decode cX5_read 42 = .ok (.aload_n 0, 1) := by decide +kernel
theorem dX5_read_43 : decode cX5_read 43 = .ok (.getfield 214, 3) := by decide +kernel
theorem dX5_read_46 : decode cX5_read 46 = .ok (.iload_n 1, 1) := by decide +kernel
theorem dX5_read_47 : decode cX5_read 47 = .ok (.iastore, 1) := by decide +kernel
theorem dX5_read_48 : decode cX5_read 48 = .ok (.aload_n 0, 1) := by decide +kernel
theorem dX5_read_49 : decode cX5_read 49 = .ok (.getfield 44, 3) := by decide +kernel
theorem dX5_read_52 : decode cX5_read 52 = .ok (.aload_n 0, 1) := by decide +kernel
theorem dX5_read_53 : decode cX5_read 53 = .ok (.getfield 214, 3) := by decide +kernel
theorem dX5_read_56 : decode cX5_read 56 = .ok (.iload_n 2, 1) := by decide +kernel
theorem dX5_read_57 : decode cX5_read 57 = .ok (.iastore, 1) := by decide +kernel
theorem dX5_read_58 : decode cX5_read 58 = .ok (.aload_n 0, 1) := by decide +kernel
theorem dX5_read_59 : decode cX5_read 59 = .ok (.dup, 1) := by decide +kernel
theorem dX5_read_60 : decode cX5_read 60 = .ok (.getfield 214, 3) := by decide +kernel
theorem dX5_read_63 : decode cX5_read 63 = .ok (.iconst 1, 1) := by decide +kernel
theorem dX5_read_64 : decode cX5_read 64 = .ok (.iadd, 1) := by decide +kernel
theorem dX5_read_65 : decode cX5_read 65 = .ok (.putfield 214, 3) := by decide +kernel
theorem dX5_read_68 : decode cX5_read 68 = .ok (.aload_n 0, 1) := by decide +kernel
theorem dX5_read_69 : decode cX5_read 69 = .ok (.getfield 214, 3) := by decide +kernel
theorem dX5_read_72 : decode cX5_read 72 = .ok (.ireturn, 1) := by decide +kernel
theorem dX5_wipe_0 : decode cX5_wipe 0 = .ok (.aload_n 0, 1) := by decide +kernel
theorem dX5_wipe_1 : decode cX5_wipe 1 = .ok (.getfield 214, 3) := by decide +kernel
theorem dX5_wipe_4 : decode cX5_wipe 4 = .ok (.istore_n 1, 1) := by decide +kernel
theorem dX5_wipe_5 : decode cX5_wipe 5 = .ok (.aload_n 0, 1) := by decide +kernel
theorem dX5_wipe_6 : decode cX5_wipe 6 = .ok (.iconst 0, 1) := by decide +kernel
theorem dX5_wipe_7 : decode cX5_wipe 7 = .ok (.putfield 214, 3) := by decide +kernel
theorem dX5_wipe_10 : decode cX5_wipe 10 = .ok (.iload_n 1, 1) := by decide +kernel
theorem dX5_wipe_11 : decode cX5_wipe 11 = .ok (.ireturn, 1) := by decide +kernel
theorem dX5_feetBy_0 : decode cX5_feetBy 0 = .ok (.aload_n 0, 1) := by decide +kernel
theorem dX5_feetBy_1 : decode cX5_feetBy 1 = .ok (.iload_n 1, 1) := by decide +kernel
theorem dX5_feetBy_2 : decode cX5_feetBy 2 = .ok (.invokevirtual 123, 3) := by decide +kernel
theorem dX5_feetBy_5 : decode cX5_feetBy 5 = .ok (.istore_n 2, 1) := by decide +kernel
theorem dX5_feetBy_6 : decode cX5_feetBy 6 = .ok (.aload_n 0, 1) := by decide +kernel
theorem dX5_feetBy_7 : decode cX5_feetBy 7 = .ok (.iload_n 1, 1) := by decide +kernel
theorem dX5_feetBy_8 : decode cX5_feetBy 8 = .ok (.invokevirtual 196, 3) := by decide +kernel
theorem dX5_feetBy_11 : decode cX5_feetBy 11 = .ok (.istore_n 3, 1) := by decide +kernel
theorem dX5_feetBy_12 : decode cX5_feetBy 12 = .ok (.iconst 0, 1) := by decide +kernel
theorem dX5_feetBy_13 : decode cX5_feetBy 13 = .ok (.istore 4, 2) := by decide +kernel
theorem dX5_feetBy_15 : decode cX5_feetBy 15 = .ok (.iload 4, 2) := by decide +kernel
theorem dX5_feetBy_17 : decode cX5_feetBy 17 = .ok (.aload_n 0, 1) := by decide +kernel
theorem dX5_feetBy_18 : decode cX5_feetBy 18 = .ok (.getfield 75, 3) := by decide +kernel
theorem dX5_feetBy_21 : decode cX5_feetBy 21 = .ok (.if_icmp .ge 32, 3) := by decide +kernel
theorem dX5_feetBy_24 : decode cX5_feetBy 24 = .ok (.iload_n 3, 1) := by decide +kernel
theorem dX5_feetBy_25 : decode cX5_feetBy 25 = .ok (.iload_n 2, 1) := by decide +kernel
theorem dX5_feetBy_26 : decode cX5_feetBy 26 = .ok (.iload 4, 2) := by decide +kernel
theorem dX5_feetBy_28 : decode cX5_feetBy 28 = .ok (.invokestatic 96, 3) := by decide +kernel
theorem dX5_feetBy_31 : decode cX5_feetBy 31 = .ok (.ifCond .eq 13, 3) := by decide +kernel
theorem dX5_feetBy_34 : decode cX5_feetBy 34 = .ok (.aload_n 0, 1) := by decide +kernel
theorem dX5_feetBy_35 : decode cX5_feetBy 35 = .ok (.getfield 25, 3) := by decide +kernel
theorem dX5_feetBy_38 : decode cX5_feetBy 38 = .ok (.iload 4, 2) := by decide +kernel
theorem dX5_feetBy_40 : decode cX5_feetBy 40 = .ok (.iaload, 1) := by decide +kernel
theorem dX5_feetBy_41 : decode cX5_feetBy 41 = .ok (.goto 4, 3) := by decide +kernel
theorem dX5_feetBy_44 : decode cX5_feetBy 44 = .ok (.iconst 0, 1) := by decide +kernel
theorem dX5_feetBy_45 : decode cX5_feetBy 45 = .ok (.iadd, 1) := by decide +kernel
theorem dX5_feetBy_46 : decode cX5_feetBy 46 = .ok (.istore_n 3, 1) := by decide +kernel
theorem dX5_feetBy_47 : decode cX5_feetBy 47 = .ok (.iinc 4 1, 3) := by decide +kernel
theorem dX5_feetBy_50 : decode cX5_feetBy 50 = .ok (.goto (-35), 3) := by decide +kernel
theorem dX5_feetBy_53 : decode cX5_feetBy 53 = .ok (.iload_n 3, 1) := by decide +kernel
theorem dX5_feetBy_54 : decode cX5_feetBy 54 = .ok (.ireturn, 1) := by decide +kernel
theorem dX5_leakNow_0 : decode cX5_leakNow 0 = .ok (.iconst 1, 1) := by decide +kernel
theorem dX5_leakNow_1 : decode cX5_leakNow 1 = .ok (.istore_n 2, 1) := by decide +kernel
theorem dX5_leakNow_2 : decode cX5_leakNow 2 = .ok (.iload_n 2, 1) := by decide +kernel
theorem dX5_leakNow_3 : decode cX5_leakNow 3 = .ok (.bipush 10, 2) := by decide +kernel
theorem dX5_leakNow_5 : decode cX5_leakNow 5 = .ok (.if_icmp .ge 94, 3) := by decide +kernel
theorem dX5_leakNow_8 : decode cX5_leakNow 8 = .ok (.iconst 1, 1) := by decide +kernel
theorem dX5_leakNow_9 : decode cX5_leakNow 9 = .ok (.istore_n 3, 1) := by decide +kernel
theorem dX5_leakNow_10 : decode cX5_leakNow 10 = .ok (.iconst 0, 1) := by decide +kernel
theorem dX5_leakNow_11 : decode cX5_leakNow 11 = .ok (.istore 4, 2) := by decide +kernel
theorem dX5_leakNow_13 : decode cX5_leakNow 13 = .ok (.iload 4, 2) := by decide +kernel
theorem dX5_leakNow_15 : decode cX5_leakNow 15 = .ok (.aload_n 0, 1) := by decide +kernel
theorem dX5_leakNow_16 : decode cX5_leakNow 16 = .ok (.getfield 214, 3) := by decide +kernel
theorem dX5_leakNow_19 : decode cX5_leakNow 19 = .ok (.if_icmp .ge 68, 3) := by decide +kernel
theorem dX5_leakNow_22 : decode cX5_leakNow 22 = .ok (.aload_n 0, 1) := by decide +kernel
theorem dX5_leakNow_23 : decode cX5_leakNow 23 = .ok (.aload_n 0, 1) := by decide +kernel
theorem dX5_leakNow_24 : decode cX5_leakNow 24 = .ok (.getfield 41, 3) := by decide +kernel
theorem dX5_leakNow_27 : decode cX5_leakNow 27 = .ok (.iload 4, 2) := by decide +kernel
theorem dX5_leakNow_29 : decode cX5_leakNow 29 = .ok (.iaload, 1) := by decide +kernel
theorem dX5_leakNow_30 : decode cX5_leakNow 30 = .ok (.invokevirtual 123, 3) := by decide +kernel
theorem dX5_leakNow_33 : decode cX5_leakNow 33 = .ok (.iload_n 1, 1) := by decide +kernel
theorem dX5_leakNow_34 : decode cX5_leakNow 34 = .ok (.invokestatic 96, 3) := by decide +kernel
theorem dX5_leakNow_37 : decode cX5_leakNow 37 = .ok (.ifCond .eq 7, 3) := by decide +kernel
theorem dX5_leakNow_40 : decode cX5_leakNow 40 = .ok (.iload_n 2, 1) := by decide +kernel
theorem dX5_leakNow_41 : decode cX5_leakNow 41 = .ok (.goto 4, 3) := by decide +kernel
theorem dX5_leakNow_44 : decode cX5_leakNow 44 = .ok (.iconst 0, 1) := by decide +kernel
theorem dX5_leakNow_45 : decode cX5_leakNow 45 = .ok (.istore 5, 2) := by decide +kernel
theorem dX5_leakNow_47 : decode cX5_leakNow 47 = .ok (.iload_n 3, 1) := by decide +kernel
theorem dX5_leakNow_48 : decode cX5_leakNow 48 = .ok (.ifCond .eq 31, 3) := by decide +kernel
theorem dX5_leakNow_51 : decode cX5_leakNow 51 = .ok (.aload_n 0, 1) := by decide +kernel
theorem dX5_leakNow_52 : decode cX5_leakNow 52 = .ok (.aload_n 0, 1) := by decide +kernel
theorem dX5_leakNow_53 : decode cX5_leakNow 53 = .ok (.getfield 41, 3) := by decide +kernel
theorem dX5_leakNow_56 : decode cX5_leakNow 56 = .ok (.iload 4, 2) := by decide +kernel
theorem dX5_leakNow_58 : decode cX5_leakNow 58 = .ok (.iaload, 1) := by decide +kernel
theorem dX5_leakNow_59 : decode cX5_leakNow 59 = .ok (.invokevirtual 217, 3) := by decide +kernel
theorem dX5_leakNow_62 : decode cX5_leakNow 62 = .ok (.iload 5, 2) := by decide +kernel
theorem dX5_leakNow_64 : decode cX5_leakNow 64 = .ok (.iadd, 1) := by decide +kernel
theorem dX5_leakNow_65 : decode cX5_leakNow 65 = .ok (.aload_n 0, 1) := by decide +kernel
theorem dX5_leakNow_66 : decode cX5_leakNow 66 = .ok (.getfield 44, 3) := by decide +kernel
theorem dX5_leakNow_69 : decode cX5_leakNow 69 = .ok (.iload 4, 2) := by decide +kernel
theorem dX5_leakNow_71 : decode cX5_leakNow 71 = .ok (.iaload, 1) := by decide +kernel
theorem dX5_leakNow_72 : decode cX5_leakNow 72 = .ok (.if_icmp .ne 7, 3) := by decide +kernel
theorem dX5_leakNow_75 : decode cX5_leakNow 75 = .ok (.iconst 1, 1) := by decide +kernel
theorem dX5_leakNow_76 : decode cX5_leakNow 76 = .ok (.goto 4, 3) := by decide +kernel
theorem dX5_leakNow_79 : decode cX5_leakNow 79 = .ok (.iconst 0, 1) := by decide +kernel
theorem dX5_leakNow_80 : decode cX5_leakNow 80 = .ok (.istore_n 3, 1) := by decide +kernel
theorem dX5_leakNow_81 : decode cX5_leakNow 81 = .ok (.iinc 4 1, 3) := by decide +kernel
theorem dX5_leakNow_84 : decode cX5_leakNow 84 = .ok (.goto (-71), 3) := by decide +kernel
theorem dX5_leakNow_87 : decode cX5_leakNow 87 = .ok (.iload_n 3, 1) := by decide +kernel
theorem dX5_leakNow_88 : decode cX5_leakNow 88 = .ok (.ifCond .eq 5, 3) := by decide +kernel
theorem dX5_leakNow_91 : decode cX5_leakNow 91 = .ok (.iload_n 2, 1) := by decide +kernel
theorem dX5_leakNow_92 : decode cX5_leakNow 92 = .ok (.ireturn, 1) := by decide +kernel
theorem dX5_leakNow_93 : decode cX5_leakNow 93 = .ok (.iinc 2 1, 3) := by decide +kernel
theorem dX5_leakNow_96 : decode cX5_leakNow 96 = .ok (.goto (-94), 3) := by decide +kernel
theorem dX5_leakNow_99 : decode cX5_leakNow 99 = .ok (.iconst (-1), 1) := by decide +kernel
theorem dX5_leakNow_100 : decode cX5_leakNow 100 = .ok (.ireturn, 1) := by decide +kernel
theorem dX5_leak_0 : decode cX5_leak 0 = .ok (.aload_n 0, 1) := by decide +kernel
theorem dX5_leak_1 : decode cX5_leak 1 = .ok (.iload_n 1, 1) := by decide +kernel
theorem dX5_leak_2 : decode cX5_leak 2 = .ok (.invokevirtual 99, 3) := by decide +kernel
theorem dX5_leak_5 : decode cX5_leak 5 = .ok (.ifCond .eq 11, 3) := by decide +kernel
theorem dX5_leak_8 : decode cX5_leak 8 = .ok (.aload_n 0, 1) := by decide +kernel
theorem dX5_leak_9 : decode cX5_leak 9 = .ok (.iload_n 1, 1) := by decide +kernel
theorem dX5_leak_10 : decode cX5_leak 10 = .ok (.invokevirtual 220, 3) := by decide +kernel
theorem dX5_leak_13 : decode cX5_leak 13 = .ok (.goto 5, 3) := by decide +kernel
theorem dX5_leak_16 : decode cX5_leak 16 = .ok (.bipush (-101), 2) := by decide +kernel
theorem dX5_leak_18 : decode cX5_leak 18 = .ok (.ireturn, 1) := by decide +kernel
theorem dX5_leaksNow_0 : decode cX5_leaksNow 0 = .ok (.iconst 0, 1) := by decide +kernel
theorem dX5_leaksNow_1 : decode cX5_leaksNow 1 = .ok (.istore_n 1, 1) := by decide +kernel
theorem dX5_leaksNow_2 : decode cX5_leaksNow 2 = .ok (.iconst 0, 1) := by decide +kernel
theorem dX5_leaksNow_3 : decode cX5_leaksNow 3 = .ok (.istore_n 2, 1) := by decide +kernel
theorem dX5_leaksNow_4 : decode cX5_leaksNow 4 = .ok (.iload_n 2, 1) := by decide +kernel
theorem dX5_leaksNow_5 : decode cX5_leaksNow 5 = .ok (.aload_n 0, 1) := by decide +kernel
theorem dX5_leaksNow_6 : decode cX5_leaksNow 6 = .ok (.getfield 75, 3) := by decide +kernel
theorem dX5_leaksNow_9 : decode cX5_leaksNow 9 = .ok (.if_icmp .ge 28, 3) := by decide +kernel
theorem dX5_leaksNow_12 : decode cX5_leaksNow 12 = .ok (.iload_n 1, 1) := by decide +kernel
theorem dX5_leaksNow_13 : decode cX5_leaksNow 13 = .ok (.aload_n 0, 1) := by decide +kernel
theorem dX5_leaksNow_14 : decode cX5_leaksNow 14 = .ok (.iload_n 2, 1) := by decide +kernel
theorem dX5_leaksNow_15 : decode cX5_leaksNow 15 = .ok (.invokevirtual 220, 3) := by decide +kernel
theorem dX5_leaksNow_18 : decode cX5_leaksNow 18 = .ok (.iconst (-1), 1) := by decide +kernel
theorem dX5_leaksNow_19 : decode cX5_leaksNow 19 = .ok (.if_icmp .eq 9, 3) := by decide +kernel
theorem dX5_leaksNow_22 : decode cX5_leaksNow 22 = .ok (.iconst 1, 1) := by decide +kernel
theorem dX5_leaksNow_23 : decode cX5_leaksNow 23 = .ok (.iload_n 2, 1) := by decide +kernel
theorem dX5_leaksNow_24 : decode cX5_leaksNow 24 = .ok (.ishl, 1) := by decide +kernel
theorem dX5_leaksNow_25 : decode cX5_leaksNow 25 = .ok (.goto 4, 3) := by decide +kernel
theorem dX5_leaksNow_28 : decode cX5_leaksNow 28 = .ok (.iconst 0, 1) := by decide +kernel
theorem dX5_leaksNow_29 : decode cX5_leaksNow 29 = .ok (.ior, 1) := by decide +kernel
theorem dX5_leaksNow_30 : decode cX5_leaksNow 30 = .ok (.istore_n 1, 1) := by decide +kernel
theorem dX5_leaksNow_31 : decode cX5_leaksNow 31 = .ok (.iinc 2 1, 3) := by decide +kernel
theorem dX5_leaksNow_34 : decode cX5_leaksNow 34 = .ok (.goto (-30), 3) := by decide +kernel
theorem dX5_leaksNow_37 : decode cX5_leaksNow 37 = .ok (.iload_n 1, 1) := by decide +kernel
theorem dX5_leaksNow_38 : decode cX5_leaksNow 38 = .ok (.ireturn, 1) := by decide +kernel
theorem dX5_leaks_0 : decode cX5_leaks 0 = .ok (.aload_n 0, 1) := by decide +kernel
theorem dX5_leaks_1 : decode cX5_leaks 1 = .ok (.invokevirtual 223, 3) := by decide +kernel
theorem dX5_leaks_4 : decode cX5_leaks 4 = .ok (.ireturn, 1) := by decide +kernel
theorem dX5_lookNow_0 : decode cX5_lookNow 0 = .ok (.aload_n 0, 1) := by decide +kernel
theorem dX5_lookNow_1 : decode cX5_lookNow 1 = .ok (.invokevirtual 223, 3) := by decide +kernel
theorem dX5_lookNow_4 : decode cX5_lookNow 4 = .ok (.istore_n 1, 1) := by decide +kernel
theorem dX5_lookNow_5 : decode cX5_lookNow 5 = .ok (.iload_n 1, 1) := by decide +kernel
theorem dX5_lookNow_6 : decode cX5_lookNow 6 = .ok (.ifCond .ne 5, 3) := by decide +kernel
theorem dX5_lookNow_9 : decode cX5_lookNow 9 = .ok (.iconst (-1), 1) := by decide +kernel
theorem dX5_lookNow_10 : decode cX5_lookNow 10 = .ok (.ireturn, 1) := by decide +kernel
theorem dX5_lookNow_11 : decode cX5_lookNow 11 = .ok (.iconst (-1), 1) := by decide +kernel
theorem dX5_lookNow_12 : decode cX5_lookNow 12 = .ok (.istore_n 2, 1) := by decide +kernel
theorem dX5_lookNow_13 : decode cX5_lookNow 13 = .ok (.bipush 9, 2) := by decide +kernel
theorem dX5_lookNow_15 : decode cX5_lookNow 15 = .ok (.istore_n 3, 1) := by decide +kernel
theorem dX5_lookNow_16 : decode cX5_lookNow 16 = .ok (.iconst 1, 1) := by decide +kernel
theorem dX5_lookNow_17 : decode cX5_lookNow 17 = .ok (.istore 4, 2) := by decide +kernel
theorem dX5_lookNow_19 : decode cX5_lookNow 19 = .ok (.iload 4, 2) := by decide +kernel
theorem dX5_lookNow_21 : decode cX5_lookNow 21 = .ok (.aload_n 0, 1) := by decide +kernel
theorem dX5_lookNow_22 : decode cX5_lookNow 22 = .ok (.invokevirtual 129, 3) := by decide +kernel
theorem dX5_lookNow_25 : decode cX5_lookNow 25 = .ok (.if_icmp .gt 73, 3) := by decide +kernel
theorem dX5_lookNow_28 : decode cX5_lookNow 28 = .ok (.iload_n 1, 1) := by decide +kernel
theorem dX5_lookNow_29 : decode cX5_lookNow 29 = .ok (.aload_n 0, 1) := by decide +kernel
theorem dX5_lookNow_30 : decode cX5_lookNow 30 = .ok (.iload 4, 2) := by decide +kernel
theorem dX5_lookNow_32 : decode cX5_lookNow 32 = .ok (.invokevirtual 123, 3) := by decide +kernel
theorem dX5_lookNow_35 : decode cX5_lookNow 35 = .ok (.iand, 1) := by decide +kernel
theorem dX5_lookNow_36 : decode cX5_lookNow 36 = .ok (.invokestatic 187, 3) := by decide +kernel
theorem dX5_lookNow_39 : decode cX5_lookNow 39 = .ok (.istore 5, 2) := by decide +kernel
theorem dX5_lookNow_41 : decode cX5_lookNow 41 = .ok (.iload_n 1, 1) := by decide +kernel
theorem dX5_lookNow_42 : decode cX5_lookNow 42 = .ok (.invokestatic 187, 3) := by decide +kernel
theorem dX5_lookNow_45 : decode cX5_lookNow 45 = .ok (.iload 5, 2) := by decide +kernel
theorem dX5_lookNow_47 : decode cX5_lookNow 47 = .ok (.isub, 1) := by decide +kernel
theorem dX5_lookNow_48 : decode cX5_lookNow 48 = .ok (.istore 6, 2) := by decide +kernel
theorem dX5_lookNow_50 : decode cX5_lookNow 50 = .ok (.iload 5, 2) := by decide +kernel
theorem dX5_lookNow_52 : decode cX5_lookNow 52 = .ok (.iload 6, 2) := by decide +kernel
theorem dX5_lookNow_54 : decode cX5_lookNow 54 = .ok (.if_icmp .le 8, 3) := by decide +kernel
theorem dX5_lookNow_57 : decode cX5_lookNow 57 = .ok (.iload 5, 2) := by decide +kernel
theorem dX5_lookNow_59 : decode cX5_lookNow 59 = .ok (.goto 5, 3) := by decide +kernel
theorem dX5_lookNow_62 : decode cX5_lookNow 62 = .ok (.iload 6, 2) := by decide +kernel
theorem dX5_lookNow_64 : decode cX5_lookNow 64 = .ok (.istore 7, 2) := by decide +kernel
theorem dX5_lookNow_66 : decode cX5_lookNow 66 = .ok (.iload 7, 2) := by decide +kernel
theorem dX5_lookNow_68 : decode cX5_lookNow 68 = .ok (.iload_n 3, 1) := by decide +kernel
theorem dX5_lookNow_69 : decode cX5_lookNow 69 = .ok (.if_icmp .ge 8, 3) := by decide +kernel
theorem dX5_lookNow_72 : decode cX5_lookNow 72 = .ok (.iload 4, 2) := by decide +kernel
theorem dX5_lookNow_74 : decode cX5_lookNow 74 = .ok (.goto 4, 3) := by decide +kernel
theorem dX5_lookNow_77 : decode cX5_lookNow 77 = .ok (.iload_n 2, 1) := by decide +kernel
theorem dX5_lookNow_78 : decode cX5_lookNow 78 = .ok (.istore_n 2, 1) := by decide +kernel
theorem dX5_lookNow_79 : decode cX5_lookNow 79 = .ok (.iload 7, 2) := by decide +kernel
theorem dX5_lookNow_81 : decode cX5_lookNow 81 = .ok (.iload_n 3, 1) := by decide +kernel
theorem dX5_lookNow_82 : decode cX5_lookNow 82 = .ok (.if_icmp .ge 8, 3) := by decide +kernel
theorem dX5_lookNow_85 : decode cX5_lookNow 85 = .ok (.iload 7, 2) := by decide +kernel
theorem dX5_lookNow_87 : decode cX5_lookNow 87 = .ok (.goto 4, 3) := by decide +kernel
theorem dX5_lookNow_90 : decode cX5_lookNow 90 = .ok (.iload_n 3, 1) := by decide +kernel
theorem dX5_lookNow_91 : decode cX5_lookNow 91 = .ok (.istore_n 3, 1) := by decide +kernel
theorem dX5_lookNow_92 : decode cX5_lookNow 92 = .ok (.iinc 4 1, 3) := by decide +kernel
theorem dX5_lookNow_95 : decode cX5_lookNow 95 = .ok (.goto (-76), 3) := by decide +kernel
theorem dX5_lookNow_98 : decode cX5_lookNow 98 = .ok (.iload_n 2, 1) := by decide +kernel
theorem dX5_lookNow_99 : decode cX5_lookNow 99 = .ok (.ireturn, 1) := by decide +kernel
theorem dX5_look_0 : decode cX5_look 0 = .ok (.aload_n 0, 1) := by decide +kernel
theorem dX5_look_1 : decode cX5_look 1 = .ok (.invokevirtual 226, 3) := by decide +kernel
theorem dX5_look_4 : decode cX5_look 4 = .ok (.ireturn, 1) := by decide +kernel
theorem dX5_image_0 : decode cX5_image 0 = .ok (.aload_n 0, 1) := by decide +kernel
theorem dX5_image_1 : decode cX5_image 1 = .ok (.iconst 1, 1) := by decide +kernel
theorem dX5_image_2 : decode cX5_image 2 = .ok (.putfield 229, 3) := by decide +kernel
theorem dX5_image_5 : decode cX5_image 5 = .ok (.aload_n 0, 1) := by decide +kernel
theorem dX5_image_6 : decode cX5_image 6 = .ok (.aload_n 0, 1) := by decide +kernel
theorem dX5_image_7 : decode cX5_image 7 = .ok (.getfield 75, 3) := by decide +kernel
theorem dX5_image_10 : decode cX5_image 10 = .ok (.putfield 232, 3) := by decide +kernel
theorem dX5_image_13 : decode cX5_image 13 = .ok (.aload_n 0, 1) := by decide +kernel
theorem dX5_image_14 : decode cX5_image 14 = .ok (.aload_n 0, 1) := by decide +kernel
theorem dX5_image_15 : decode cX5_image 15 = .ok (.getfield 34, 3) := by decide +kernel
theorem dX5_image_18 : decode cX5_image 18 = .ok (.putfield 235, 3) := by decide +kernel
theorem dX5_image_21 : decode cX5_image 21 = .ok (.aload_n 0, 1) := by decide +kernel
theorem dX5_image_22 : decode cX5_image 22 = .ok (.aload_n 0, 1) := by decide +kernel
theorem dX5_image_23 : decode cX5_image 23 = .ok (.getfield 38, 3) := by decide +kernel
theorem dX5_image_26 : decode cX5_image 26 = .ok (.putfield 238, 3) := by decide +kernel
theorem dX5_image_29 : decode cX5_image 29 = .ok (.aload_n 0, 1) := by decide +kernel
theorem dX5_image_30 : decode cX5_image 30 = .ok (.aload_n 0, 1) := by decide +kernel
theorem dX5_image_31 : decode cX5_image 31 = .ok (.getfield 90, 3) := by decide +kernel
theorem dX5_image_34 : decode cX5_image 34 = .ok (.putfield 241, 3) := by decide +kernel
theorem dX5_image_37 : decode cX5_image 37 = .ok (.aload_n 0, 1) := by decide +kernel
theorem dX5_image_38 : decode cX5_image 38 = .ok (.aload_n 0, 1) := by decide +kernel
theorem dX5_image_39 : decode cX5_image 39 = .ok (.getfield 141, 3) := by decide +kernel
theorem dX5_image_42 : decode cX5_image 42 = .ok (.putfield 244, 3) := by decide +kernel
theorem dX5_image_45 : decode cX5_image 45 = .ok (.aload_n 0, 1) := by decide +kernel
theorem dX5_image_46 : decode cX5_image 46 = .ok (.aload_n 0, 1) := by decide +kernel
theorem dX5_image_47 : decode cX5_image 47 = .ok (.getfield 114, 3) := by decide +kernel
theorem dX5_image_50 : decode cX5_image 50 = .ok (.putfield 247, 3) := by decide +kernel
theorem dX5_image_53 : decode cX5_image 53 = .ok (.aload_n 0, 1) := by decide +kernel
theorem dX5_image_54 : decode cX5_image 54 = .ok (.aload_n 0, 1) := by decide +kernel
theorem dX5_image_55 : decode cX5_image 55 = .ok (.getfield 93, 3) := by decide +kernel
theorem dX5_image_58 : decode cX5_image 58 = .ok (.putfield 250, 3) := by decide +kernel
theorem dX5_image_61 : decode cX5_image 61 = .ok (.aload_n 0, 1) := by decide +kernel
theorem dX5_image_62 : decode cX5_image 62 = .ok (.aload_n 0, 1) := by decide +kernel
theorem dX5_image_63 : decode cX5_image 63 = .ok (.getfield 135, 3) := by decide +kernel
theorem dX5_image_66 : decode cX5_image 66 = .ok (.putfield 253, 3) := by decide +kernel
theorem dX5_image_69 : decode cX5_image 69 = .ok (.aload_n 0, 1) := by decide +kernel
theorem dX5_image_70 : decode cX5_image 70 = .ok (.aload_n 0, 1) := by decide +kernel
theorem dX5_image_71 : decode cX5_image 71 = .ok (.getfield 107, 3) := by decide +kernel
theorem dX5_image_74 : decode cX5_image 74 = .ok (.putfield 256, 3) := by decide +kernel
theorem dX5_image_77 : decode cX5_image 77 = .ok (.aload_n 0, 1) := by decide +kernel
theorem dX5_image_78 : decode cX5_image 78 = .ok (.aload_n 0, 1) := by decide +kernel
theorem dX5_image_79 : decode cX5_image 79 = .ok (.getfield 214, 3) := by decide +kernel
theorem dX5_image_82 : decode cX5_image 82 = .ok (.putfield 259, 3) := by decide +kernel
theorem dX5_image_85 : decode cX5_image 85 = .ok (.iconst 0, 1) := by decide +kernel
theorem dX5_image_86 : decode cX5_image 86 = .ok (.istore_n 1, 1) := by decide +kernel
theorem dX5_image_87 : decode cX5_image 87 = .ok (.iload_n 1, 1) := by decide +kernel
theorem dX5_image_88 : decode cX5_image 88 = .ok (.bipush 8, 2) := by decide +kernel
theorem dX5_image_90 : decode cX5_image 90 = .ok (.if_icmp .ge 57, 3) := by decide +kernel
theorem dX5_image_93 : decode cX5_image 93 = .ok (.aload_n 0, 1) := by decide +kernel
theorem dX5_image_94 : decode cX5_image 94 = .ok (.getfield 54, 3) := by decide +kernel
theorem dX5_image_97 : decode cX5_image 97 = .ok (.iload_n 1, 1) := by decide +kernel
theorem dX5_image_98 : decode cX5_image 98 = .ok (.aload_n 0, 1) := by decide +kernel
theorem dX5_image_99 : decode cX5_image 99 = .ok (.getfield 28, 3) := by decide +kernel
theorem dX5_image_102 : decode cX5_image 102 = .ok (.iload_n 1, 1) := by decide +kernel
theorem dX5_image_103 : decode cX5_image 103 = .ok (.iaload, 1) := by decide +kernel
theorem dX5_image_104 : decode cX5_image 104 = .ok (.iastore, 1) := by decide +kernel
theorem dX5_image_105 : decode cX5_image 105 = .ok (.aload_n 0, 1) := by decide +kernel
theorem dX5_image_106 : decode cX5_image 106 = .ok (.getfield 57, 3) := by decide +kernel
theorem dX5_image_109 : decode cX5_image 109 = .ok (.iload_n 1, 1) := by decide +kernel
theorem dX5_image_110 : decode cX5_image 110 = .ok (.aload_n 0, 1) := by decide +kernel
theorem dX5_image_111 : decode cX5_image 111 = .ok (.getfield 31, 3) := by decide +kernel
theorem dX5_image_114 : decode cX5_image 114 = .ok (.iload_n 1, 1) := by decide +kernel
theorem dX5_image_115 : decode cX5_image 115 = .ok (.iaload, 1) := by decide +kernel
theorem dX5_image_116 : decode cX5_image 116 = .ok (.iastore, 1) := by decide +kernel
theorem dX5_image_117 : decode cX5_image 117 = .ok (.aload_n 0, 1) := by decide +kernel
theorem dX5_image_118 : decode cX5_image 118 = .ok (.getfield 60, 3) := by decide +kernel
theorem dX5_image_121 : decode cX5_image 121 = .ok (.iload_n 1, 1) := by decide +kernel
theorem dX5_image_122 : decode cX5_image 122 = .ok (.aload_n 0, 1) := by decide +kernel
theorem dX5_image_123 : decode cX5_image 123 = .ok (.getfield 41, 3) := by decide +kernel
theorem dX5_image_126 : decode cX5_image 126 = .ok (.iload_n 1, 1) := by decide +kernel
theorem dX5_image_127 : decode cX5_image 127 = .ok (.iaload, 1) := by decide +kernel
theorem dX5_image_128 : decode cX5_image 128 = .ok (.iastore, 1) := by decide +kernel
theorem dX5_image_129 : decode cX5_image 129 = .ok (.aload_n 0, 1) := by decide +kernel
theorem dX5_image_130 : decode cX5_image 130 = .ok (.getfield 63, 3) := by decide +kernel
theorem dX5_image_133 : decode cX5_image 133 = .ok (.iload_n 1, 1) := by decide +kernel
theorem dX5_image_134 : decode cX5_image 134 = .ok (.aload_n 0, 1) := by decide +kernel
theorem dX5_image_135 : decode cX5_image 135 = .ok (.getfield 44, 3) := by decide +kernel
theorem dX5_image_138 : decode cX5_image 138 = .ok (.iload_n 1, 1) := by decide +kernel
theorem dX5_image_139 : decode cX5_image 139 = .ok (.iaload, 1) := by decide +kernel
theorem dX5_image_140 : decode cX5_image 140 = .ok (.iastore, 1) := by decide +kernel
theorem dX5_image_141 : decode cX5_image 141 = .ok (.iinc 1 1, 3) := by decide +kernel
theorem dX5_image_144 : decode cX5_image 144 = .ok (.goto (-57), 3) := by decide +kernel
theorem dX5_image_147 : decode cX5_image 147 = .ok (.aload_n 0, 1) := by decide +kernel
theorem dX5_image_148 : decode cX5_image 148 = .ok (.getfield 38, 3) := by decide +kernel
theorem dX5_image_151 : decode cX5_image 151 = .ok (.ireturn, 1) := by decide +kernel
theorem dX5_restore_0 : decode cX5_restore 0 = .ok (.aload_n 0, 1) := by decide +kernel
theorem dX5_restore_1 : decode cX5_restore 1 = .ok (.getfield 229, 3) := by decide +kernel
theorem dX5_restore_4 : decode cX5_restore 4 = .ok (.ifCond .ne 6, 3) := by decide +kernel
theorem dX5_restore_7 : decode cX5_restore 7 = .ok (.bipush (-103), 2) := by decide +kernel
theorem dX5_restore_9 : decode cX5_restore 9 = .ok (.ireturn, 1) := by decide +kernel
theorem dX5_restore_10 : decode cX5_restore 10 = .ok (.aload_n 0, 1) := by decide +kernel
theorem dX5_restore_11 : decode cX5_restore 11 = .ok (.aload_n 0, 1) := by decide +kernel
theorem dX5_restore_12 : decode cX5_restore 12 = .ok (.getfield 232, 3) := by decide +kernel
theorem dX5_restore_15 : decode cX5_restore 15 = .ok (.putfield 75, 3) := by decide +kernel
theorem dX5_restore_18 : decode cX5_restore 18 = .ok (.aload_n 0, 1) := by decide +kernel
theorem dX5_restore_19 : decode cX5_restore 19 = .ok (.aload_n 0, 1) := by decide +kernel
theorem dX5_restore_20 : decode cX5_restore 20 = .ok (.getfield 235, 3) := by decide +kernel
theorem dX5_restore_23 : decode cX5_restore 23 = .ok (.putfield 34, 3) := by decide +kernel
theorem dX5_restore_26 : decode cX5_restore 26 = .ok (.aload_n 0, 1) := by decide +kernel
theorem dX5_restore_27 : decode cX5_restore 27 = .ok (.aload_n 0, 1) := by decide +kernel
theorem dX5_restore_28 : decode cX5_restore 28 = .ok (.getfield 238, 3) := by decide +kernel
theorem dX5_restore_31 : decode cX5_restore 31 = .ok (.putfield 38, 3) := by decide +kernel
theorem dX5_restore_34 : decode cX5_restore 34 = .ok (.aload_n 0, 1) := by decide +kernel
theorem dX5_restore_35 : decode cX5_restore 35 = .ok (.aload_n 0, 1) := by decide +kernel
theorem dX5_restore_36 : decode cX5_restore 36 = .ok (.getfield 241, 3) := by decide +kernel
theorem dX5_restore_39 : decode cX5_restore 39 = .ok (.putfield 90, 3) := by decide +kernel
theorem dX5_restore_42 : decode cX5_restore 42 = .ok (.aload_n 0, 1) := by decide +kernel
theorem dX5_restore_43 : decode cX5_restore 43 = .ok (.aload_n 0, 1) := by decide +kernel
theorem dX5_restore_44 : decode cX5_restore 44 = .ok (.getfield 244, 3) := by decide +kernel
theorem dX5_restore_47 : decode cX5_restore 47 = .ok (.putfield 141, 3) := by decide +kernel
theorem dX5_restore_50 : decode cX5_restore 50 = .ok (.aload_n 0, 1) := by decide +kernel
theorem dX5_restore_51 : decode cX5_restore 51 = .ok (.aload_n 0, 1) := by decide +kernel
theorem dX5_restore_52 : decode cX5_restore 52 = .ok (.getfield 247, 3) := by decide +kernel
theorem dX5_restore_55 : decode cX5_restore 55 = .ok (.putfield 114, 3) := by decide +kernel
theorem dX5_restore_58 : decode cX5_restore 58 = .ok (.aload_n 0, 1) := by decide +kernel
theorem dX5_restore_59 : decode cX5_restore 59 = .ok (.aload_n 0, 1) := by decide +kernel
theorem dX5_restore_60 : decode cX5_restore 60 = .ok (.getfield 250, 3) := by decide +kernel
theorem dX5_restore_63 : decode cX5_restore 63 = .ok (.putfield 93, 3) := by decide +kernel
theorem dX5_restore_66 : decode cX5_restore 66 = .ok (.aload_n 0, 1) := by decide +kernel
theorem dX5_restore_67 : decode cX5_restore 67 = .ok (.aload_n 0, 1) := by decide +kernel
theorem dX5_restore_68 : decode cX5_restore 68 = .ok (.getfield 253, 3) := by decide +kernel
theorem dX5_restore_71 : decode cX5_restore 71 = .ok (.putfield 135, 3) := by decide +kernel
theorem dX5_restore_74 : decode cX5_restore 74 = .ok (.aload_n 0, 1) := by decide +kernel
theorem dX5_restore_75 : decode cX5_restore 75 = .ok (.aload_n 0, 1) := by decide +kernel
theorem dX5_restore_76 : decode cX5_restore 76 = .ok (.getfield 256, 3) := by decide +kernel
theorem dX5_restore_79 : decode cX5_restore 79 = .ok (.putfield 107, 3) := by decide +kernel
theorem dX5_restore_82 : decode cX5_restore 82 = .ok (.aload_n 0, 1) := by decide +kernel
theorem dX5_restore_83 : decode cX5_restore 83 = .ok (.aload_n 0, 1) := by decide +kernel
theorem dX5_restore_84 : decode cX5_restore 84 = .ok (.getfield 259, 3) := by decide +kernel
theorem dX5_restore_87 : decode cX5_restore 87 = .ok (.putfield 214, 3) := by decide +kernel
theorem dX5_restore_90 : decode cX5_restore 90 = .ok (.iconst 0, 1) := by decide +kernel
theorem dX5_restore_91 : decode cX5_restore 91 = .ok (.istore_n 1, 1) := by decide +kernel
theorem dX5_restore_92 : decode cX5_restore 92 = .ok (.iload_n 1, 1) := by decide +kernel
theorem dX5_restore_93 : decode cX5_restore 93 = .ok (.bipush 8, 2) := by decide +kernel
theorem dX5_restore_95 : decode cX5_restore 95 = .ok (.if_icmp .ge 57, 3) := by decide +kernel
theorem dX5_restore_98 : decode cX5_restore 98 = .ok (.aload_n 0, 1) := by decide +kernel
theorem dX5_restore_99 : decode cX5_restore 99 = .ok (.getfield 28, 3) := by decide +kernel
theorem dX5_restore_102 : decode cX5_restore 102 = .ok (.iload_n 1, 1) := by decide +kernel
theorem dX5_restore_103 : decode cX5_restore 103 = .ok (.aload_n 0, 1) := by decide +kernel
theorem dX5_restore_104 : decode cX5_restore 104 = .ok (.getfield 54, 3) := by decide +kernel
theorem dX5_restore_107 : decode cX5_restore 107 = .ok (.iload_n 1, 1) := by decide +kernel
theorem dX5_restore_108 : decode cX5_restore 108 = .ok (.iaload, 1) := by decide +kernel
theorem dX5_restore_109 : decode cX5_restore 109 = .ok (.iastore, 1) := by decide +kernel
theorem dX5_restore_110 : decode cX5_restore 110 = .ok (.aload_n 0, 1) := by decide +kernel
theorem dX5_restore_111 : decode cX5_restore 111 = .ok (.getfield 31, 3) := by decide +kernel
theorem dX5_restore_114 : decode cX5_restore 114 = .ok (.iload_n 1, 1) := by decide +kernel
theorem dX5_restore_115 : decode cX5_restore 115 = .ok (.aload_n 0, 1) := by decide +kernel
theorem dX5_restore_116 : decode cX5_restore 116 = .ok (.getfield 57, 3) := by decide +kernel
theorem dX5_restore_119 : decode cX5_restore 119 = .ok (.iload_n 1, 1) := by decide +kernel
theorem dX5_restore_120 : decode cX5_restore 120 = .ok (.iaload, 1) := by decide +kernel
theorem dX5_restore_121 : decode cX5_restore 121 = .ok (.iastore, 1) := by decide +kernel
theorem dX5_restore_122 : decode cX5_restore 122 = .ok (.aload_n 0, 1) := by decide +kernel
theorem dX5_restore_123 : decode cX5_restore 123 = .ok (.getfield 41, 3) := by decide +kernel
theorem dX5_restore_126 : decode cX5_restore 126 = .ok (.iload_n 1, 1) := by decide +kernel
theorem dX5_restore_127 : decode cX5_restore 127 = .ok (.aload_n 0, 1) := by decide +kernel
theorem dX5_restore_128 : decode cX5_restore 128 = .ok (.getfield 60, 3) := by decide +kernel
theorem dX5_restore_131 : decode cX5_restore 131 = .ok (.iload_n 1, 1) := by decide +kernel
theorem dX5_restore_132 : decode cX5_restore 132 = .ok (.iaload, 1) := by decide +kernel
theorem dX5_restore_133 : decode cX5_restore 133 = .ok (.iastore, 1) := by decide +kernel
theorem dX5_restore_134 : decode cX5_restore 134 = .ok (.aload_n 0, 1) := by decide +kernel
theorem dX5_restore_135 : decode cX5_restore 135 = .ok (.getfield 44, 3) := by decide +kernel
theorem dX5_restore_138 : decode cX5_restore 138 = .ok (.iload_n 1, 1) := by decide +kernel
theorem dX5_restore_139 : decode cX5_restore 139 = .ok (.aload_n 0, 1) := by decide +kernel
theorem dX5_restore_140 : decode cX5_restore 140 = .ok (.getfield 63, 3) := by decide +kernel
theorem dX5_restore_143 : decode cX5_restore 143 = .ok (.iload_n 1, 1) := by decide +kernel
theorem dX5_restore_144 : decode cX5_restore 144 = .ok (.iaload, 1) := by decide +kernel
theorem dX5_restore_145 : decode cX5_restore 145 = .ok (.iastore, 1) := by decide +kernel
theorem dX5_restore_146 : decode cX5_restore 146 = .ok (.iinc 1 1, 3) := by decide +kernel
theorem dX5_restore_149 : decode cX5_restore 149 = .ok (.goto (-57), 3) := by decide +kernel
theorem dX5_restore_152 : decode cX5_restore 152 = .ok (.aload_n 0, 1) := by decide +kernel
theorem dX5_restore_153 : decode cX5_restore 153 = .ok (.getfield 38, 3) := by decide +kernel
theorem dX5_restore_156 : decode cX5_restore 156 = .ok (.ireturn, 1) := by decide +kernel
theorem dX5_howMany_0 : decode cX5_howMany 0 = .ok (.iload_n 1, 1) := by decide +kernel
theorem dX5_howMany_1 : decode cX5_howMany 1 = .ok (.tableswitch 121 0 9 #[55, 60, 65, 70, 75, 80, 85, 98, 111, 116], 55) := by decide +kernel
theorem dX5_howMany_56 : decode cX5_howMany 56 = .ok (.aload_n 0, 1) := by decide +kernel
theorem dX5_howMany_57 : decode cX5_howMany 57 = .ok (.getfield 75, 3) := by decide +kernel
theorem dX5_howMany_60 : decode cX5_howMany 60 = .ok (.ireturn, 1) := by decide +kernel
theorem dX5_howMany_61 : decode cX5_howMany 61 = .ok (.aload_n 0, 1) := by decide +kernel
theorem dX5_howMany_62 : decode cX5_howMany 62 = .ok (.getfield 34, 3) := by decide +kernel
theorem dX5_howMany_65 : decode cX5_howMany 65 = .ok (.ireturn, 1) := by decide +kernel
theorem dX5_howMany_66 : decode cX5_howMany 66 = .ok (.aload_n 0, 1) := by decide +kernel
theorem dX5_howMany_67 : decode cX5_howMany 67 = .ok (.getfield 38, 3) := by decide +kernel
theorem dX5_howMany_70 : decode cX5_howMany 70 = .ok (.ireturn, 1) := by decide +kernel
theorem dX5_howMany_71 : decode cX5_howMany 71 = .ok (.aload_n 0, 1) := by decide +kernel
theorem dX5_howMany_72 : decode cX5_howMany 72 = .ok (.getfield 90, 3) := by decide +kernel
theorem dX5_howMany_75 : decode cX5_howMany 75 = .ok (.ireturn, 1) := by decide +kernel
theorem dX5_howMany_76 : decode cX5_howMany 76 = .ok (.aload_n 0, 1) := by decide +kernel
theorem dX5_howMany_77 : decode cX5_howMany 77 = .ok (.invokevirtual 151, 3) := by decide +kernel
theorem dX5_howMany_80 : decode cX5_howMany 80 = .ok (.ireturn, 1) := by decide +kernel
theorem dX5_howMany_81 : decode cX5_howMany 81 = .ok (.aload_n 0, 1) := by decide +kernel
theorem dX5_howMany_82 : decode cX5_howMany 82 = .ok (.getfield 141, 3) := by decide +kernel
theorem dX5_howMany_85 : decode cX5_howMany 85 = .ok (.ireturn, 1) := by decide +kernel
theorem dX5_howMany_86 : decode cX5_howMany 86 = .ok (.aload_n 0, 1) := by decide +kernel
theorem dX5_howMany_87 : decode cX5_howMany 87 = .ok (.getfield 135, 3) := by decide +kernel
theorem dX5_howMany_90 : decode cX5_howMany 90 = .ok (.ifCond .eq 7, 3) := by decide +kernel
theorem dX5_howMany_93 : decode cX5_howMany 93 = .ok (.iconst 1, 1) := by decide +kernel
theorem dX5_howMany_94 : decode cX5_howMany 94 = .ok (.goto 4, 3) := by decide +kernel
theorem dX5_howMany_97 : decode cX5_howMany 97 = .ok (.iconst 0, 1) := by decide +kernel
theorem dX5_howMany_98 : decode cX5_howMany 98 = .ok (.ireturn, 1) := by decide +kernel
theorem dX5_howMany_99 : decode cX5_howMany 99 = .ok (.aload_n 0, 1) := by decide +kernel
theorem dX5_howMany_100 : decode cX5_howMany 100 = .ok (.getfield 107, 3) := by decide +kernel
theorem dX5_howMany_103 : decode cX5_howMany 103 = .ok (.ifCond .eq 7, 3) := by decide +kernel
theorem dX5_howMany_106 : decode cX5_howMany 106 = .ok (.iconst 1, 1) := by decide +kernel
theorem dX5_howMany_107 : decode cX5_howMany 107 = .ok (.goto 4, 3) := by decide +kernel
theorem dX5_howMany_110 : decode cX5_howMany 110 = .ok (.iconst 0, 1) := by decide +kernel
theorem dX5_howMany_111 : decode cX5_howMany 111 = .ok (.ireturn, 1) := by decide +kernel
theorem dX5_howMany_112 : decode cX5_howMany 112 = .ok (.aload_n 0, 1) := by decide +kernel
theorem dX5_howMany_113 : decode cX5_howMany 113 = .ok (.getfield 214, 3) := by decide +kernel
theorem dX5_howMany_116 : decode cX5_howMany 116 = .ok (.ireturn, 1) := by decide +kernel
theorem dX5_howMany_117 : decode cX5_howMany 117 = .ok (.aload_n 0, 1) := by decide +kernel
theorem dX5_howMany_118 : decode cX5_howMany 118 = .ok (.getfield 68, 3) := by decide +kernel
theorem dX5_howMany_121 : decode cX5_howMany 121 = .ok (.ireturn, 1) := by decide +kernel
theorem dX5_howMany_122 : decode cX5_howMany 122 = .ok (.bipush (-102), 2) := by decide +kernel
theorem dX5_howMany_124 : decode cX5_howMany 124 = .ok (.ireturn, 1) := by decide +kernel
theorem dX5_count_0 : decode cX5_count 0 = .ok (.aload_n 0, 1) := by decide +kernel
theorem dX5_count_1 : decode cX5_count 1 = .ok (.iload_n 1, 1) := by decide +kernel
theorem dX5_count_2 : decode cX5_count 2 = .ok (.invokevirtual 262, 3) := by decide +kernel
theorem dX5_count_5 : decode cX5_count 5 = .ok (.ireturn, 1) := by decide +kernel
theorem dX5_mix_0 : decode cX5_mix 0 = .ok (.aload_n 0, 1) := by decide +kernel
theorem dX5_mix_1 : decode cX5_mix 1 = .ok (.ldc2_w 265, 3) := by decide +kernel
theorem dX5_mix_4 : decode cX5_mix 4 = .ok (.aload_n 0, 1) := by decide +kernel
theorem dX5_mix_5 : decode cX5_mix 5 = .ok (.getfield 267, 3) := by decide +kernel
theorem dX5_mix_8 : decode cX5_mix 8 = .ok (.lmul, 1) := by decide +kernel
theorem dX5_mix_9 : decode cX5_mix 9 = .ok (.lload_n 1, 1) := by decide +kernel
theorem dX5_mix_10 : decode cX5_mix 10 = .ok (.ladd, 1) := by decide +kernel
theorem dX5_mix_11 : decode cX5_mix 11 = .ok (.putfield 267, 3) := by decide +kernel
theorem dX5_mix_14 : decode cX5_mix 14 = .ok (.return_, 1) := by decide +kernel
theorem dX5_digest_0 : decode cX5_digest 0 = .ok (.aload_n 0, 1) := by decide +kernel
theorem dX5_digest_1 : decode cX5_digest 1 = .ok (.ldc2_w 270, 3) := by decide +kernel
theorem dX5_digest_4 : decode cX5_digest 4 = .ok (.putfield 267, 3) := by decide +kernel
theorem dX5_digest_7 : decode cX5_digest 7 = .ok (.iconst 0, 1) := by decide +kernel
theorem dX5_digest_8 : decode cX5_digest 8 = .ok (.istore_n 1, 1) := by decide +kernel
theorem dX5_digest_9 : decode cX5_digest 9 = .ok (.iload_n 1, 1) := by decide +kernel
theorem dX5_digest_10 : decode cX5_digest 10 = .ok (.aload_n 0, 1) := by decide +kernel
theorem dX5_digest_11 : decode cX5_digest 11 = .ok (.getfield 75, 3) := by decide +kernel
theorem dX5_digest_14 : decode cX5_digest 14 = .ok (.if_icmp .ge 64, 3) := by decide +kernel
theorem dX5_digest_17 : decode cX5_digest 17 = .ok (.iconst 0, 1) := by decide +kernel
theorem dX5_digest_18 : decode cX5_digest 18 = .ok (.istore_n 2, 1) := by decide +kernel
theorem dX5_digest_19 : decode cX5_digest 19 = .ok (.iload_n 2, 1) := by decide +kernel
theorem dX5_digest_20 : decode cX5_digest 20 = .ok (.bipush 9, 2) := by decide +kernel
theorem dX5_digest_22 : decode cX5_digest 22 = .ok (.if_icmp .ge 20, 3) := by decide +kernel
theorem dX5_digest_25 : decode cX5_digest 25 = .ok (.aload_n 0, 1) := by decide +kernel
theorem dX5_digest_26 : decode cX5_digest 26 = .ok (.aload_n 0, 1) := by decide +kernel
theorem dX5_digest_27 : decode cX5_digest 27 = .ok (.iload_n 1, 1) := by decide +kernel
theorem dX5_digest_28 : decode cX5_digest 28 = .ok (.iload_n 2, 1) := by decide +kernel
theorem dX5_digest_29 : decode cX5_digest 29 = .ok (.invokevirtual 103, 3) := by decide +kernel
theorem dX5_digest_32 : decode cX5_digest 32 = .ok (.i2l, 1) := by decide +kernel
theorem dX5_digest_33 : decode cX5_digest 33 = .ok (.invokevirtual 272, 3) := by decide +kernel
theorem dX5_digest_36 : decode cX5_digest 36 = .ok (.iinc 2 1, 3) := by decide +kernel
theorem dX5_digest_39 : decode cX5_digest 39 = .ok (.goto (-20), 3) := by decide +kernel
theorem dX5_digest_42 : decode cX5_digest 42 = .ok (.aload_n 0, 1) := by decide +kernel
theorem dX5_digest_43 : decode cX5_digest 43 = .ok (.aload_n 0, 1) := by decide +kernel
theorem dX5_digest_44 : decode cX5_digest 44 = .ok (.iload_n 1, 1) := by decide +kernel
theorem dX5_digest_45 : decode cX5_digest 45 = .ok (.invokevirtual 117, 3) := by decide +kernel
theorem dX5_digest_48 : decode cX5_digest 48 = .ok (.i2l, 1) := by decide +kernel
theorem dX5_digest_49 : decode cX5_digest 49 = .ok (.invokevirtual 272, 3) := by decide +kernel
theorem dX5_digest_52 : decode cX5_digest 52 = .ok (.aload_n 0, 1) := by decide +kernel
theorem dX5_digest_53 : decode cX5_digest 53 = .ok (.aload_n 0, 1) := by decide +kernel
theorem dX5_digest_54 : decode cX5_digest 54 = .ok (.iload_n 1, 1) := by decide +kernel
theorem dX5_digest_55 : decode cX5_digest 55 = .ok (.invokevirtual 154, 3) := by decide +kernel
theorem dX5_digest_58 : decode cX5_digest 58 = .ok (.i2l, 1) := by decide +kernel
theorem dX5_digest_59 : decode cX5_digest 59 = .ok (.invokevirtual 272, 3) := by decide +kernel
theorem dX5_digest_62 : decode cX5_digest 62 = .ok (.aload_n 0, 1) := by decide +kernel
theorem dX5_digest_63 : decode cX5_digest 63 = .ok (.aload_n 0, 1) := by decide +kernel
theorem dX5_digest_64 : decode cX5_digest 64 = .ok (.iload_n 1, 1) := by decide +kernel
theorem dX5_digest_65 : decode cX5_digest 65 = .ok (.invokevirtual 220, 3) := by decide +kernel
theorem dX5_digest_68 : decode cX5_digest 68 = .ok (.i2l, 1) := by decide +kernel
theorem dX5_digest_69 : decode cX5_digest 69 = .ok (.invokevirtual 272, 3) := by decide +kernel
theorem dX5_digest_72 : decode cX5_digest 72 = .ok (.iinc 1 1, 3) := by decide +kernel
theorem dX5_digest_75 : decode cX5_digest 75 = .ok (.goto (-66), 3) := by decide +kernel
theorem dX5_digest_78 : decode cX5_digest 78 = .ok (.aload_n 0, 1) := by decide +kernel
theorem dX5_digest_79 : decode cX5_digest 79 = .ok (.aload_n 0, 1) := by decide +kernel
theorem dX5_digest_80 : decode cX5_digest 80 = .ok (.getfield 114, 3) := by decide +kernel
theorem dX5_digest_83 : decode cX5_digest 83 = .ok (.i2l, 1) := by decide +kernel
theorem dX5_digest_84 : decode cX5_digest 84 = .ok (.invokevirtual 272, 3) := by decide +kernel
theorem dX5_digest_87 : decode cX5_digest 87 = .ok (.aload_n 0, 1) := by decide +kernel
theorem dX5_digest_88 : decode cX5_digest 88 = .ok (.aload_n 0, 1) := by decide +kernel
theorem dX5_digest_89 : decode cX5_digest 89 = .ok (.aload_n 0, 1) := by decide +kernel
theorem dX5_digest_90 : decode cX5_digest 90 = .ok (.invokevirtual 129, 3) := by decide +kernel
theorem dX5_digest_93 : decode cX5_digest 93 = .ok (.invokevirtual 132, 3) := by decide +kernel
theorem dX5_digest_96 : decode cX5_digest 96 = .ok (.i2l, 1) := by decide +kernel
theorem dX5_digest_97 : decode cX5_digest 97 = .ok (.invokevirtual 272, 3) := by decide +kernel
theorem dX5_digest_100 : decode cX5_digest 100 = .ok (.aload_n 0, 1) := by decide +kernel
theorem dX5_digest_101 : decode cX5_digest 101 = .ok (.aload_n 0, 1) := by decide +kernel
theorem dX5_digest_102 : decode cX5_digest 102 = .ok (.iconst 0, 1) := by decide +kernel
theorem dX5_digest_103 : decode cX5_digest 103 = .ok (.invokevirtual 190, 3) := by decide +kernel
theorem dX5_digest_106 : decode cX5_digest 106 = .ok (.i2l, 1) := by decide +kernel
theorem dX5_digest_107 : decode cX5_digest 107 = .ok (.invokevirtual 272, 3) := by decide +kernel
theorem dX5_digest_110 : decode cX5_digest 110 = .ok (.aload_n 0, 1) := by decide +kernel
theorem dX5_digest_111 : decode cX5_digest 111 = .ok (.aload_n 0, 1) := by decide +kernel
theorem dX5_digest_112 : decode cX5_digest 112 = .ok (.iconst 1, 1) := by decide +kernel
theorem dX5_digest_113 : decode cX5_digest 113 = .ok (.invokevirtual 190, 3) := by decide +kernel
theorem dX5_digest_116 : decode cX5_digest 116 = .ok (.i2l, 1) := by decide +kernel
theorem dX5_digest_117 : decode cX5_digest 117 = .ok (.invokevirtual 272, 3) := by decide +kernel
theorem dX5_digest_120 : decode cX5_digest 120 = .ok (.aload_n 0, 1) := by decide +kernel
theorem dX5_digest_121 : decode cX5_digest 121 = .ok (.aload_n 0, 1) := by decide +kernel
theorem dX5_digest_122 : decode cX5_digest 122 = .ok (.bipush 9, 2) := by decide +kernel
theorem dX5_digest_124 : decode cX5_digest 124 = .ok (.invokevirtual 193, 3) := by decide +kernel
theorem dX5_digest_127 : decode cX5_digest 127 = .ok (.i2l, 1) := by decide +kernel
theorem dX5_digest_128 : decode cX5_digest 128 = .ok (.invokevirtual 272, 3) := by decide +kernel
theorem dX5_digest_131 : decode cX5_digest 131 = .ok (.aload_n 0, 1) := by decide +kernel
theorem dX5_digest_132 : decode cX5_digest 132 = .ok (.aload_n 0, 1) := by decide +kernel
theorem dX5_digest_133 : decode cX5_digest 133 = .ok (.invokevirtual 223, 3) := by decide +kernel
theorem dX5_digest_136 : decode cX5_digest 136 = .ok (.i2l, 1) := by decide +kernel
theorem dX5_digest_137 : decode cX5_digest 137 = .ok (.invokevirtual 272, 3) := by decide +kernel
theorem dX5_digest_140 : decode cX5_digest 140 = .ok (.aload_n 0, 1) := by decide +kernel
theorem dX5_digest_141 : decode cX5_digest 141 = .ok (.aload_n 0, 1) := by decide +kernel
theorem dX5_digest_142 : decode cX5_digest 142 = .ok (.invokevirtual 226, 3) := by decide +kernel
theorem dX5_digest_145 : decode cX5_digest 145 = .ok (.i2l, 1) := by decide +kernel
theorem dX5_digest_146 : decode cX5_digest 146 = .ok (.invokevirtual 272, 3) := by decide +kernel
theorem dX5_digest_149 : decode cX5_digest 149 = .ok (.iconst 0, 1) := by decide +kernel
theorem dX5_digest_150 : decode cX5_digest 150 = .ok (.istore_n 1, 1) := by decide +kernel
theorem dX5_digest_151 : decode cX5_digest 151 = .ok (.iload_n 1, 1) := by decide +kernel
theorem dX5_digest_152 : decode cX5_digest 152 = .ok (.aload_n 0, 1) := by decide +kernel
theorem dX5_digest_153 : decode cX5_digest 153 = .ok (.getfield 68, 3) := by decide +kernel
theorem dX5_digest_156 : decode cX5_digest 156 = .ok (.if_icmp .ge 20, 3) := by decide +kernel
theorem dX5_digest_159 : decode cX5_digest 159 = .ok (.aload_n 0, 1) := by decide +kernel
theorem dX5_digest_160 : decode cX5_digest 160 = .ok (.aload_n 0, 1) := by decide +kernel
theorem dX5_digest_161 : decode cX5_digest 161 = .ok (.getfield 47, 3) := by decide +kernel
theorem dX5_digest_164 : decode cX5_digest 164 = .ok (.iload_n 1, 1) := by decide +kernel
theorem dX5_digest_165 : decode cX5_digest 165 = .ok (.baload, 1) := by decide +kernel
theorem dX5_digest_166 : decode cX5_digest 166 = .ok (.i2l, 1) := by decide +kernel
theorem dX5_digest_167 : decode cX5_digest 167 = .ok (.invokevirtual 272, 3) := by decide +kernel
theorem dX5_digest_170 : decode cX5_digest 170 = .ok (.iinc 1 1, 3) := by decide +kernel
theorem dX5_digest_173 : decode cX5_digest 173 = .ok (.goto (-22), 3) := by decide +kernel
theorem dX5_digest_176 : decode cX5_digest 176 = .ok (.iconst 0, 1) := by decide +kernel
theorem dX5_digest_177 : decode cX5_digest 177 = .ok (.istore_n 1, 1) := by decide +kernel
theorem dX5_digest_178 : decode cX5_digest 178 = .ok (.iload_n 1, 1) := by decide +kernel
theorem dX5_digest_179 : decode cX5_digest 179 = .ok (.bipush 10, 2) := by decide +kernel
theorem dX5_digest_181 : decode cX5_digest 181 = .ok (.if_icmp .ge 19, 3) := by decide +kernel
theorem dX5_digest_184 : decode cX5_digest 184 = .ok (.aload_n 0, 1) := by decide +kernel
theorem dX5_digest_185 : decode cX5_digest 185 = .ok (.aload_n 0, 1) := by decide +kernel
theorem dX5_digest_186 : decode cX5_digest 186 = .ok (.iload_n 1, 1) := by decide +kernel
theorem dX5_digest_187 : decode cX5_digest 187 = .ok (.invokevirtual 262, 3) := by decide +kernel
theorem dX5_digest_190 : decode cX5_digest 190 = .ok (.i2l, 1) := by decide +kernel
theorem dX5_digest_191 : decode cX5_digest 191 = .ok (.invokevirtual 272, 3) := by decide +kernel
theorem dX5_digest_194 : decode cX5_digest 194 = .ok (.iinc 1 1, 3) := by decide +kernel
theorem dX5_digest_197 : decode cX5_digest 197 = .ok (.goto (-19), 3) := by decide +kernel
theorem dX5_digest_200 : decode cX5_digest 200 = .ok (.aload_n 0, 1) := by decide +kernel
theorem dX5_digest_201 : decode cX5_digest 201 = .ok (.getfield 267, 3) := by decide +kernel
theorem dX5_digest_204 : decode cX5_digest 204 = .ok (.lreturn, 1) := by decide +kernel
theorem dJ11_isValidCodePoint_9a6ad_0 : decode cJ11_isValidCodePoint_9a6ad 0 = .ok (.iload_n 0, 1) := by decide +kernel
theorem dJ11_isValidCodePoint_9a6ad_1 : decode cJ11_isValidCodePoint_9a6ad 1 = .ok (.bipush 16, 2) := by decide +kernel
theorem dJ11_isValidCodePoint_9a6ad_3 : decode cJ11_isValidCodePoint_9a6ad 3 = .ok (.iushr, 1) := by decide +kernel
theorem dJ11_isValidCodePoint_9a6ad_4 : decode cJ11_isValidCodePoint_9a6ad 4 = .ok (.istore_n 1, 1) := by decide +kernel
theorem dJ11_isValidCodePoint_9a6ad_5 : decode cJ11_isValidCodePoint_9a6ad 5 = .ok (.iload_n 1, 1) := by decide +kernel
theorem dJ11_isValidCodePoint_9a6ad_6 : decode cJ11_isValidCodePoint_9a6ad 6 = .ok (.bipush 17, 2) := by decide +kernel
theorem dJ11_isValidCodePoint_9a6ad_8 : decode cJ11_isValidCodePoint_9a6ad 8 = .ok (.if_icmp .ge 7, 3) := by decide +kernel
theorem dJ11_isValidCodePoint_9a6ad_11 : decode cJ11_isValidCodePoint_9a6ad 11 = .ok (.iconst 1, 1) := by decide +kernel
theorem dJ11_isValidCodePoint_9a6ad_12 : decode cJ11_isValidCodePoint_9a6ad 12 = .ok (.goto 4, 3) := by decide +kernel
theorem dJ11_isValidCodePoint_9a6ad_15 : decode cJ11_isValidCodePoint_9a6ad 15 = .ok (.iconst 0, 1) := by decide +kernel
theorem dJ11_isValidCodePoint_9a6ad_16 : decode cJ11_isValidCodePoint_9a6ad 16 = .ok (.ireturn, 1) := by decide +kernel
theorem dJ11_highSurrogate_5068e_0 : decode cJ11_highSurrogate_5068e 0 = .ok (.iload_n 0, 1) := by decide +kernel
theorem dJ11_highSurrogate_5068e_1 : decode cJ11_highSurrogate_5068e 1 = .ok (.bipush 10, 2) := by decide +kernel
theorem dJ11_highSurrogate_5068e_3 : decode cJ11_highSurrogate_5068e 3 = .ok (.iushr, 1) := by decide +kernel
theorem dJ11_highSurrogate_5068e_4 : decode cJ11_highSurrogate_5068e 4 = .ok (.ldc 110, 2) := by decide +kernel
theorem dJ11_highSurrogate_5068e_6 : decode cJ11_highSurrogate_5068e 6 = .ok (.iadd, 1) := by decide +kernel
theorem dJ11_highSurrogate_5068e_7 : decode cJ11_highSurrogate_5068e 7 = .ok (.i2c, 1) := by decide +kernel
theorem dJ11_highSurrogate_5068e_8 : decode cJ11_highSurrogate_5068e 8 = .ok (.ireturn, 1) := by decide +kernel
theorem dJ11_lowSurrogate_5068e_0 : decode cJ11_lowSurrogate_5068e 0 = .ok (.iload_n 0, 1) := by decide +kernel
theorem dJ11_lowSurrogate_5068e_1 : decode cJ11_lowSurrogate_5068e 1 = .ok (.sipush 1023, 3) := by decide +kernel
theorem dJ11_lowSurrogate_5068e_4 : decode cJ11_lowSurrogate_5068e 4 = .ok (.iand, 1) := by decide +kernel
theorem dJ11_lowSurrogate_5068e_5 : decode cJ11_lowSurrogate_5068e 5 = .ok (.ldc 76, 2) := by decide +kernel
theorem dJ11_lowSurrogate_5068e_7 : decode cJ11_lowSurrogate_5068e 7 = .ok (.iadd, 1) := by decide +kernel
theorem dJ11_lowSurrogate_5068e_8 : decode cJ11_lowSurrogate_5068e 8 = .ok (.i2c, 1) := by decide +kernel
theorem dJ11_lowSurrogate_5068e_9 : decode cJ11_lowSurrogate_5068e 9 = .ok (.ireturn, 1) := by decide +kernel
theorem dJ6_bitCount_0f7a4_0 : decode cJ6_bitCount_0f7a4 0 = .ok (.iload_n 0, 1) := by decide +kernel
theorem dJ6_bitCount_0f7a4_1 : decode cJ6_bitCount_0f7a4 1 = .ok (.iload_n 0, 1) := by decide +kernel
theorem dJ6_bitCount_0f7a4_2 : decode cJ6_bitCount_0f7a4 2 = .ok (.iconst 1, 1) := by decide +kernel
theorem dJ6_bitCount_0f7a4_3 : decode cJ6_bitCount_0f7a4 3 = .ok (.iushr, 1) := by decide +kernel
theorem dJ6_bitCount_0f7a4_4 : decode cJ6_bitCount_0f7a4 4 = .ok (.ldc_w 265, 3) := by decide +kernel
theorem dJ6_bitCount_0f7a4_7 : decode cJ6_bitCount_0f7a4 7 = .ok (.iand, 1) := by decide +kernel
theorem dJ6_bitCount_0f7a4_8 : decode cJ6_bitCount_0f7a4 8 = .ok (.isub, 1) := by decide +kernel
theorem dJ6_bitCount_0f7a4_9 : decode cJ6_bitCount_0f7a4 9 = .ok (.istore_n 0, 1) := by decide +kernel
theorem dJ6_bitCount_0f7a4_10 : decode cJ6_bitCount_0f7a4 10 = .ok (.iload_n 0, 1) := by decide +kernel
theorem dJ6_bitCount_0f7a4_11 : decode cJ6_bitCount_0f7a4 11 = .ok (.ldc_w 266, 3) := by decide +kernel
theorem dJ6_bitCount_0f7a4_14 : decode cJ6_bitCount_0f7a4 14 = .ok (.iand, 1) := by decide +kernel
theorem dJ6_bitCount_0f7a4_15 : decode cJ6_bitCount_0f7a4 15 = .ok (.iload_n 0, 1) := by decide +kernel
theorem dJ6_bitCount_0f7a4_16 : decode cJ6_bitCount_0f7a4 16 = .ok (.iconst 2, 1) := by decide +kernel
theorem dJ6_bitCount_0f7a4_17 : decode cJ6_bitCount_0f7a4 17 = .ok (.iushr, 1) := by decide +kernel
theorem dJ6_bitCount_0f7a4_18 : decode cJ6_bitCount_0f7a4 18 = .ok (.ldc_w 266, 3) := by decide +kernel
theorem dJ6_bitCount_0f7a4_21 : decode cJ6_bitCount_0f7a4 21 = .ok (.iand, 1) := by decide +kernel
theorem dJ6_bitCount_0f7a4_22 : decode cJ6_bitCount_0f7a4 22 = .ok (.iadd, 1) := by decide +kernel
theorem dJ6_bitCount_0f7a4_23 : decode cJ6_bitCount_0f7a4 23 = .ok (.istore_n 0, 1) := by decide +kernel
theorem dJ6_bitCount_0f7a4_24 : decode cJ6_bitCount_0f7a4 24 = .ok (.iload_n 0, 1) := by decide +kernel
theorem dJ6_bitCount_0f7a4_25 : decode cJ6_bitCount_0f7a4 25 = .ok (.iload_n 0, 1) := by decide +kernel
theorem dJ6_bitCount_0f7a4_26 : decode cJ6_bitCount_0f7a4 26 = .ok (.iconst 4, 1) := by decide +kernel
theorem dJ6_bitCount_0f7a4_27 : decode cJ6_bitCount_0f7a4 27 = .ok (.iushr, 1) := by decide +kernel
theorem dJ6_bitCount_0f7a4_28 : decode cJ6_bitCount_0f7a4 28 = .ok (.iadd, 1) := by decide +kernel
theorem dJ6_bitCount_0f7a4_29 : decode cJ6_bitCount_0f7a4 29 = .ok (.ldc_w 267, 3) := by decide +kernel
theorem dJ6_bitCount_0f7a4_32 : decode cJ6_bitCount_0f7a4 32 = .ok (.iand, 1) := by decide +kernel
theorem dJ6_bitCount_0f7a4_33 : decode cJ6_bitCount_0f7a4 33 = .ok (.istore_n 0, 1) := by decide +kernel
theorem dJ6_bitCount_0f7a4_34 : decode cJ6_bitCount_0f7a4 34 = .ok (.iload_n 0, 1) := by decide +kernel
theorem dJ6_bitCount_0f7a4_35 : decode cJ6_bitCount_0f7a4 35 = .ok (.iload_n 0, 1) := by decide +kernel
theorem dJ6_bitCount_0f7a4_36 : decode cJ6_bitCount_0f7a4 36 = .ok (.bipush 8, 2) := by decide +kernel
theorem dJ6_bitCount_0f7a4_38 : decode cJ6_bitCount_0f7a4 38 = .ok (.iushr, 1) := by decide +kernel
theorem dJ6_bitCount_0f7a4_39 : decode cJ6_bitCount_0f7a4 39 = .ok (.iadd, 1) := by decide +kernel
theorem dJ6_bitCount_0f7a4_40 : decode cJ6_bitCount_0f7a4 40 = .ok (.istore_n 0, 1) := by decide +kernel
theorem dJ6_bitCount_0f7a4_41 : decode cJ6_bitCount_0f7a4 41 = .ok (.iload_n 0, 1) := by decide +kernel
theorem dJ6_bitCount_0f7a4_42 : decode cJ6_bitCount_0f7a4 42 = .ok (.iload_n 0, 1) := by decide +kernel
theorem dJ6_bitCount_0f7a4_43 : decode cJ6_bitCount_0f7a4 43 = .ok (.bipush 16, 2) := by decide +kernel
theorem dJ6_bitCount_0f7a4_45 : decode cJ6_bitCount_0f7a4 45 = .ok (.iushr, 1) := by decide +kernel
theorem dJ6_bitCount_0f7a4_46 : decode cJ6_bitCount_0f7a4 46 = .ok (.iadd, 1) := by decide +kernel
theorem dJ6_bitCount_0f7a4_47 : decode cJ6_bitCount_0f7a4 47 = .ok (.istore_n 0, 1) := by decide +kernel
theorem dJ6_bitCount_0f7a4_48 : decode cJ6_bitCount_0f7a4 48 = .ok (.iload_n 0, 1) := by decide +kernel
theorem dJ6_bitCount_0f7a4_49 : decode cJ6_bitCount_0f7a4 49 = .ok (.bipush 63, 2) := by decide +kernel
theorem dJ6_bitCount_0f7a4_51 : decode cJ6_bitCount_0f7a4 51 = .ok (.iand, 1) := by decide +kernel
theorem dJ6_bitCount_0f7a4_52 : decode cJ6_bitCount_0f7a4 52 = .ok (.ireturn, 1) := by decide +kernel
theorem dJ9_max_7cf53_0 : decode cJ9_max_7cf53 0 = .ok (.iload_n 0, 1) := by decide +kernel
theorem dJ9_max_7cf53_1 : decode cJ9_max_7cf53 1 = .ok (.iload_n 1, 1) := by decide +kernel
theorem dJ9_max_7cf53_2 : decode cJ9_max_7cf53 2 = .ok (.if_icmp .lt 7, 3) := by decide +kernel
theorem dJ9_max_7cf53_5 : decode cJ9_max_7cf53 5 = .ok (.iload_n 0, 1) := by decide +kernel
theorem dJ9_max_7cf53_6 : decode cJ9_max_7cf53 6 = .ok (.goto 4, 3) := by decide +kernel
theorem dJ9_max_7cf53_9 : decode cJ9_max_7cf53 9 = .ok (.iload_n 1, 1) := by decide +kernel
theorem dJ9_max_7cf53_10 : decode cJ9_max_7cf53 10 = .ok (.ireturn, 1) := by decide +kernel
theorem dJ9_min_7cf53_0 : decode cJ9_min_7cf53 0 = .ok (.iload_n 0, 1) := by decide +kernel
theorem dJ9_min_7cf53_1 : decode cJ9_min_7cf53 1 = .ok (.iload_n 1, 1) := by decide +kernel
theorem dJ9_min_7cf53_2 : decode cJ9_min_7cf53 2 = .ok (.if_icmp .gt 7, 3) := by decide +kernel
theorem dJ9_min_7cf53_5 : decode cJ9_min_7cf53 5 = .ok (.iload_n 0, 1) := by decide +kernel
theorem dJ9_min_7cf53_6 : decode cJ9_min_7cf53 6 = .ok (.goto 4, 3) := by decide +kernel
theorem dJ9_min_7cf53_9 : decode cJ9_min_7cf53 9 = .ok (.iload_n 1, 1) := by decide +kernel
theorem dJ9_min_7cf53_10 : decode cJ9_min_7cf53 10 = .ok (.ireturn, 1) := by decide +kernel
theorem dJ0_length_8abf5_0 : decode cJ0_length_8abf5 0 = .ok (.aload_n 0, 1) := by decide +kernel
theorem dJ0_length_8abf5_1 : decode cJ0_length_8abf5 1 = .ok (.getfield 9, 3) := by decide +kernel
theorem dJ0_length_8abf5_4 : decode cJ0_length_8abf5 4 = .ok (.arraylength, 1) := by decide +kernel
theorem dJ0_length_8abf5_5 : decode cJ0_length_8abf5 5 = .ok (.aload_n 0, 1) := by decide +kernel
theorem dJ0_length_8abf5_6 : decode cJ0_length_8abf5 6 = .ok (.invokevirtual 335, 3) := by decide +kernel
theorem dJ0_length_8abf5_9 : decode cJ0_length_8abf5 9 = .ok (.ishr, 1) := by decide +kernel
theorem dJ0_length_8abf5_10 : decode cJ0_length_8abf5 10 = .ok (.ireturn, 1) := by decide +kernel
theorem dJ0_indexOf_0f7a4_0 : decode cJ0_indexOf_0f7a4 0 = .ok (.aload_n 0, 1) := by decide +kernel
theorem dJ0_indexOf_0f7a4_1 : decode cJ0_indexOf_0f7a4 1 = .ok (.iload_n 1, 1) := by decide +kernel
theorem dJ0_indexOf_0f7a4_2 : decode cJ0_indexOf_0f7a4 2 = .ok (.iconst 0, 1) := by decide +kernel
theorem dJ0_indexOf_0f7a4_3 : decode cJ0_indexOf_0f7a4 3 = .ok (.invokevirtual 633, 3) := by decide +kernel
theorem dJ0_indexOf_0f7a4_6 : decode cJ0_indexOf_0f7a4 6 = .ok (.ireturn, 1) := by decide +kernel
theorem dJ0_indexOf_7cf53_0 : decode cJ0_indexOf_7cf53 0 = .ok (.aload_n 0, 1) := by decide +kernel
theorem dJ0_indexOf_7cf53_1 : decode cJ0_indexOf_7cf53 1 = .ok (.invokevirtual 492, 3) := by decide +kernel
theorem dJ0_indexOf_7cf53_4 : decode cJ0_indexOf_7cf53 4 = .ok (.ifCond .eq 19, 3) := by decide +kernel
theorem dJ0_indexOf_7cf53_7 : decode cJ0_indexOf_7cf53 7 = .ok (.aload_n 0, 1) := by decide +kernel
theorem dJ0_indexOf_7cf53_8 : decode cJ0_indexOf_7cf53 8 = .ok (.getfield 9, 3) := by decide +kernel
theorem dJ0_indexOf_7cf53_11 : decode cJ0_indexOf_7cf53 11 = .ok (.iload_n 1, 1) := by decide +kernel
theorem dJ0_indexOf_7cf53_12 : decode cJ0_indexOf_7cf53 12 = .ok (.iload_n 2, 1) := by decide +kernel
theorem dJ0_indexOf_7cf53_13 : decode cJ0_indexOf_7cf53 13 = .ok (.aload_n 0, 1) := by decide +kernel
theorem dJ0_indexOf_7cf53_14 : decode cJ0_indexOf_7cf53 14 = .ok (.invokevirtual 505, 3) := by decide +kernel
theorem dJ0_indexOf_7cf53_17 : decode cJ0_indexOf_7cf53 17 = .ok (.invokestatic 637, 3) := by decide +kernel
theorem dJ0_indexOf_7cf53_20 : decode cJ0_indexOf_7cf53 20 = .ok (.goto 16, 3) := by decide +kernel
theorem dJ0_indexOf_7cf53_23 : decode cJ0_indexOf_7cf53 23 = .ok (.aload_n 0, 1) := by decide +kernel
theorem dJ0_indexOf_7cf53_24 : decode cJ0_indexOf_7cf53 24 = .ok (.getfield 9, 3) := by decide +kernel
theorem dJ0_indexOf_7cf53_27 : decode cJ0_indexOf_7cf53 27 = .ok (.iload_n 1, 1) := by decide +kernel
theorem dJ0_indexOf_7cf53_28 : decode cJ0_indexOf_7cf53 28 = .ok (.iload_n 2, 1) := by decide +kernel
theorem dJ0_indexOf_7cf53_29 : decode cJ0_indexOf_7cf53 29 = .ok (.aload_n 0, 1) := by decide +kernel
end
section
theorem dJ0_indexOf_7cf53_30 : decode cJ0_indexOf_7cf53 30 = .ok (.invokevirtual 505, 3) := by decide +kernel
theorem dJ0_indexOf_7cf53_33 : decode cJ0_indexOf_7cf53 33 = .ok (.invokestatic 640, 3) := by decide +kernel
theorem dJ0_indexOf_7cf53_36 : decode cJ0_indexOf_7cf53 36 = .ok (.ireturn, 1) := by decide +kernel
theorem dJ0_coder_7d493_0 : decode cJ0_coder_7d493 0 = .ok (.getstatic 38, 3) := by decide +kernel
theorem dJ0_coder_7d493_3 : decode cJ0_coder_7d493 3 = .ok (.ifCond .eq 10, 3) := by decide +kernel
theorem dJ0_coder_7d493_6 : decode cJ0_coder_7d493 6 = .ok (.aload_n 0, 1) := by decide +kernel
theorem dJ0_coder_7d493_7 : decode cJ0_coder_7d493 7 = .ok (.getfield 15, 3) := by decide +kernel
theorem dJ0_coder_7d493_10 : decode cJ0_coder_7d493 10 = .ok (.goto 4, 3) := by decide +kernel
theorem dJ0_coder_7d493_13 : decode cJ0_coder_7d493 13 = .ok (.iconst 1, 1) := by decide +kernel
theorem dJ0_coder_7d493_14 : decode cJ0_coder_7d493 14 = .ok (.ireturn, 1) := by decide +kernel
theorem dJ0_isLatin1_aae02_0 : decode cJ0_isLatin1_aae02 0 = .ok (.getstatic 38, 3) := by decide +kernel
theorem dJ0_isLatin1_aae02_3 : decode cJ0_isLatin1_aae02 3 = .ok (.ifCond .eq 14, 3) := by decide +kernel
theorem dJ0_isLatin1_aae02_6 : decode cJ0_isLatin1_aae02 6 = .ok (.aload_n 0, 1) := by decide +kernel
theorem dJ0_isLatin1_aae02_7 : decode cJ0_isLatin1_aae02 7 = .ok (.getfield 15, 3) := by decide +kernel
theorem dJ0_isLatin1_aae02_10 : decode cJ0_isLatin1_aae02 10 = .ok (.ifCond .ne 7, 3) := by decide +kernel
theorem dJ0_isLatin1_aae02_13 : decode cJ0_isLatin1_aae02 13 = .ok (.iconst 1, 1) := by decide +kernel
theorem dJ0_isLatin1_aae02_14 : decode cJ0_isLatin1_aae02 14 = .ok (.goto 4, 3) := by decide +kernel
theorem dJ0_isLatin1_aae02_17 : decode cJ0_isLatin1_aae02 17 = .ok (.iconst 0, 1) := by decide +kernel
theorem dJ0_isLatin1_aae02_18 : decode cJ0_isLatin1_aae02 18 = .ok (.ireturn, 1) := by decide +kernel
theorem dJ0_checkBoundsBeginEnd_23922_0 : decode cJ0_checkBoundsBeginEnd_23922 0 = .ok (.iload_n 0, 1) := by decide +kernel
theorem dJ0_checkBoundsBeginEnd_23922_1 : decode cJ0_checkBoundsBeginEnd_23922 1 = .ok (.iload_n 1, 1) := by decide +kernel
theorem dJ0_checkBoundsBeginEnd_23922_2 : decode cJ0_checkBoundsBeginEnd_23922 2 = .ok (.iload_n 2, 1) := by decide +kernel
theorem dJ0_checkBoundsBeginEnd_23922_3 : decode cJ0_checkBoundsBeginEnd_23922 3 = .ok (.getstatic 1053, 3) := by decide +kernel
theorem dJ0_checkBoundsBeginEnd_23922_6 : decode cJ0_checkBoundsBeginEnd_23922 6 = .ok (.invokestatic 1062, 3) := by decide +kernel
theorem dJ0_checkBoundsBeginEnd_23922_9 : decode cJ0_checkBoundsBeginEnd_23922 9 = .ok (.pop, 1) := by decide +kernel
theorem dJ0_checkBoundsBeginEnd_23922_10 : decode cJ0_checkBoundsBeginEnd_23922 10 = .ok (.return_, 1) := by decide +kernel
theorem dJ1_canEncode_9a6ad_0 : decode cJ1_canEncode_9a6ad 0 = .ok (.iload_n 0, 1) := by decide +kernel
theorem dJ1_canEncode_9a6ad_1 : decode cJ1_canEncode_9a6ad 1 = .ok (.ifCond .lt 14, 3) := by decide +kernel
theorem dJ1_canEncode_9a6ad_4 : decode cJ1_canEncode_9a6ad 4 = .ok (.iload_n 0, 1) := by decide +kernel
theorem dJ1_canEncode_9a6ad_5 : decode cJ1_canEncode_9a6ad 5 = .ok (.sipush 255, 3) := by decide +kernel
theorem dJ1_canEncode_9a6ad_8 : decode cJ1_canEncode_9a6ad 8 = .ok (.if_icmp .gt 7, 3) := by decide +kernel
theorem dJ1_canEncode_9a6ad_11 : decode cJ1_canEncode_9a6ad 11 = .ok (.iconst 1, 1) := by decide +kernel
theorem dJ1_canEncode_9a6ad_12 : decode cJ1_canEncode_9a6ad 12 = .ok (.goto 4, 3) := by decide +kernel
theorem dJ1_canEncode_9a6ad_15 : decode cJ1_canEncode_9a6ad 15 = .ok (.iconst 0, 1) := by decide +kernel
theorem dJ1_canEncode_9a6ad_16 : decode cJ1_canEncode_9a6ad 16 = .ok (.ireturn, 1) := by decide +kernel
theorem dJ1_indexOf_4cfef_0 : decode cJ1_indexOf_4cfef 0 = .ok (.iload_n 1, 1) := by decide +kernel
theorem dJ1_indexOf_4cfef_1 : decode cJ1_indexOf_4cfef 1 = .ok (.invokestatic 88, 3) := by decide +kernel
theorem dJ1_indexOf_4cfef_4 : decode cJ1_indexOf_4cfef 4 = .ok (.ifCond .ne 5, 3) := by decide +kernel
theorem dJ1_indexOf_4cfef_7 : decode cJ1_indexOf_4cfef 7 = .ok (.iconst (-1), 1) := by decide +kernel
theorem dJ1_indexOf_4cfef_8 : decode cJ1_indexOf_4cfef 8 = .ok (.ireturn, 1) := by decide +kernel
theorem dJ1_indexOf_4cfef_9 : decode cJ1_indexOf_4cfef 9 = .ok (.iload_n 2, 1) := by decide +kernel
theorem dJ1_indexOf_4cfef_10 : decode cJ1_indexOf_4cfef 10 = .ok (.iconst 0, 1) := by decide +kernel
theorem dJ1_indexOf_4cfef_11 : decode cJ1_indexOf_4cfef 11 = .ok (.invokestatic 92, 3) := by decide +kernel
theorem dJ1_indexOf_4cfef_14 : decode cJ1_indexOf_4cfef 14 = .ok (.istore_n 2, 1) := by decide +kernel
theorem dJ1_indexOf_4cfef_15 : decode cJ1_indexOf_4cfef 15 = .ok (.iload_n 3, 1) := by decide +kernel
theorem dJ1_indexOf_4cfef_16 : decode cJ1_indexOf_4cfef 16 = .ok (.aload_n 0, 1) := by decide +kernel
theorem dJ1_indexOf_4cfef_17 : decode cJ1_indexOf_4cfef 17 = .ok (.arraylength, 1) := by decide +kernel
theorem dJ1_indexOf_4cfef_18 : decode cJ1_indexOf_4cfef 18 = .ok (.invokestatic 38, 3) := by decide +kernel
theorem dJ1_indexOf_4cfef_21 : decode cJ1_indexOf_4cfef 21 = .ok (.istore_n 3, 1) := by decide +kernel
theorem dJ1_indexOf_4cfef_22 : decode cJ1_indexOf_4cfef 22 = .ok (.iload_n 2, 1) := by decide +kernel
theorem dJ1_indexOf_4cfef_23 : decode cJ1_indexOf_4cfef 23 = .ok (.iload_n 3, 1) := by decide +kernel
theorem dJ1_indexOf_4cfef_24 : decode cJ1_indexOf_4cfef 24 = .ok (.if_icmp .lt 5, 3) := by decide +kernel
theorem dJ1_indexOf_4cfef_27 : decode cJ1_indexOf_4cfef 27 = .ok (.iconst (-1), 1) := by decide +kernel
theorem dJ1_indexOf_4cfef_28 : decode cJ1_indexOf_4cfef 28 = .ok (.ireturn, 1) := by decide +kernel
theorem dJ1_indexOf_4cfef_29 : decode cJ1_indexOf_4cfef 29 = .ok (.aload_n 0, 1) := by decide +kernel
theorem dJ1_indexOf_4cfef_30 : decode cJ1_indexOf_4cfef 30 = .ok (.iload_n 1, 1) := by decide +kernel
theorem dJ1_indexOf_4cfef_31 : decode cJ1_indexOf_4cfef 31 = .ok (.iload_n 2, 1) := by decide +kernel
theorem dJ1_indexOf_4cfef_32 : decode cJ1_indexOf_4cfef 32 = .ok (.iload_n 3, 1) := by decide +kernel
theorem dJ1_indexOf_4cfef_33 : decode cJ1_indexOf_4cfef 33 = .ok (.invokestatic 95, 3) := by decide +kernel
theorem dJ1_indexOf_4cfef_36 : decode cJ1_indexOf_4cfef 36 = .ok (.ireturn, 1) := by decide +kernel
theorem dJ1_indexOfChar_4cfef_0 : decode cJ1_indexOfChar_4cfef 0 = .ok (.iload_n 1, 1) := by decide +kernel
theorem dJ1_indexOfChar_4cfef_1 : decode cJ1_indexOfChar_4cfef 1 = .ok (.i2b, 1) := by decide +kernel
theorem dJ1_indexOfChar_4cfef_2 : decode cJ1_indexOfChar_4cfef 2 = .ok (.istore 4, 2) := by decide +kernel
theorem dJ1_indexOfChar_4cfef_4 : decode cJ1_indexOfChar_4cfef 4 = .ok (.iload_n 2, 1) := by decide +kernel
theorem dJ1_indexOfChar_4cfef_5 : decode cJ1_indexOfChar_4cfef 5 = .ok (.istore 5, 2) := by decide +kernel
theorem dJ1_indexOfChar_4cfef_7 : decode cJ1_indexOfChar_4cfef 7 = .ok (.iload 5, 2) := by decide +kernel
theorem dJ1_indexOfChar_4cfef_9 : decode cJ1_indexOfChar_4cfef 9 = .ok (.iload_n 3, 1) := by decide +kernel
theorem dJ1_indexOfChar_4cfef_10 : decode cJ1_indexOfChar_4cfef 10 = .ok (.if_icmp .ge 21, 3) := by decide +kernel
theorem dJ1_indexOfChar_4cfef_13 : decode cJ1_indexOfChar_4cfef 13 = .ok (.aload_n 0, 1) := by decide +kernel
theorem dJ1_indexOfChar_4cfef_14 : decode cJ1_indexOfChar_4cfef 14 = .ok (.iload 5, 2) := by decide +kernel
theorem dJ1_indexOfChar_4cfef_16 : decode cJ1_indexOfChar_4cfef 16 = .ok (.baload, 1) := by decide +kernel
theorem dJ1_indexOfChar_4cfef_17 : decode cJ1_indexOfChar_4cfef 17 = .ok (.iload 4, 2) := by decide +kernel
theorem dJ1_indexOfChar_4cfef_19 : decode cJ1_indexOfChar_4cfef 19 = .ok (.if_icmp .ne 6, 3) := by decide +kernel
theorem dJ1_indexOfChar_4cfef_22 : decode cJ1_indexOfChar_4cfef 22 = .ok (.iload 5, 2) := by decide +kernel
theorem dJ1_indexOfChar_4cfef_24 : decode cJ1_indexOfChar_4cfef 24 = .ok (.ireturn, 1) := by decide +kernel
theorem dJ1_indexOfChar_4cfef_25 : decode cJ1_indexOfChar_4cfef 25 = .ok (.iinc 5 1, 3) := by decide +kernel
theorem dJ1_indexOfChar_4cfef_28 : decode cJ1_indexOfChar_4cfef 28 = .ok (.goto (-21), 3) := by decide +kernel
theorem dJ1_indexOfChar_4cfef_31 : decode cJ1_indexOfChar_4cfef 31 = .ok (.iconst (-1), 1) := by decide +kernel
theorem dJ1_indexOfChar_4cfef_32 : decode cJ1_indexOfChar_4cfef 32 = .ok (.ireturn, 1) := by decide +kernel
theorem dJ2_getChar_3b067_0 : decode cJ2_getChar_3b067 0 = .ok (.getstatic 44, 3) := by decide +kernel
theorem dJ2_getChar_3b067_3 : decode cJ2_getChar_3b067 3 = .ok (.ifCond .ne 25, 3) := by decide +kernel
theorem dJ2_getChar_3b067_6 : decode cJ2_getChar_3b067 6 = .ok (.iload_n 1, 1) := by decide +kernel
theorem dJ2_getChar_3b067_7 : decode cJ2_getChar_3b067 7 = .ok (.ifCond .lt 11, 3) := by decide +kernel
theorem dJ2_getChar_3b067_10 : decode cJ2_getChar_3b067 10 = .ok (.iload_n 1, 1) := by decide +kernel
theorem dJ2_getChar_3b067_11 : decode cJ2_getChar_3b067 11 = .ok (.aload_n 0, 1) := by decide +kernel
theorem dJ2_getChar_3b067_12 : decode cJ2_getChar_3b067 12 = .ok (.invokestatic 48, 3) := by decide +kernel
theorem dJ2_getChar_3b067_15 : decode cJ2_getChar_3b067 15 = .ok (.if_icmp .lt 13, 3) := by decide +kernel
theorem dJ2_getChar_3b067_18 : decode cJ2_getChar_3b067 18 = .ok (.new 52, 3) := by decide +kernel
theorem dJ2_getChar_3b067_21 : decode cJ2_getChar_3b067 21 = .ok (.dup, 1) := by decide +kernel
theorem dJ2_getChar_3b067_22 : decode cJ2_getChar_3b067 22 = .ok (.ldc 54, 2) := by decide +kernel
theorem dJ2_getChar_3b067_24 : decode cJ2_getChar_3b067 24 = .ok (.invokespecial 56, 3) := by decide +kernel
theorem dJ2_getChar_3b067_27 : decode cJ2_getChar_3b067 27 = .ok (.athrow, 1) := by decide +kernel
theorem dJ2_getChar_3b067_28 : decode cJ2_getChar_3b067 28 = .ok (.iload_n 1, 1) := by decide +kernel
theorem dJ2_getChar_3b067_29 : decode cJ2_getChar_3b067 29 = .ok (.iconst 1, 1) := by decide +kernel
theorem dJ2_getChar_3b067_30 : decode cJ2_getChar_3b067 30 = .ok (.ishl, 1) := by decide +kernel
theorem dJ2_getChar_3b067_31 : decode cJ2_getChar_3b067 31 = .ok (.istore_n 1, 1) := by decide +kernel
theorem dJ2_getChar_3b067_32 : decode cJ2_getChar_3b067 32 = .ok (.aload_n 0, 1) := by decide +kernel
theorem dJ2_getChar_3b067_33 : decode cJ2_getChar_3b067 33 = .ok (.iload_n 1, 1) := by decide +kernel
theorem dJ2_getChar_3b067_34 : decode cJ2_getChar_3b067 34 = .ok (.iinc 1 1, 3) := by decide +kernel
theorem dJ2_getChar_3b067_37 : decode cJ2_getChar_3b067 37 = .ok (.baload, 1) := by decide +kernel
theorem dJ2_getChar_3b067_38 : decode cJ2_getChar_3b067 38 = .ok (.sipush 255, 3) := by decide +kernel
theorem dJ2_getChar_3b067_41 : decode cJ2_getChar_3b067 41 = .ok (.iand, 1) := by decide +kernel
theorem dJ2_getChar_3b067_42 : decode cJ2_getChar_3b067 42 = .ok (.getstatic 59, 3) := by decide +kernel
theorem dJ2_getChar_3b067_45 : decode cJ2_getChar_3b067 45 = .ok (.ishl, 1) := by decide +kernel
theorem dJ2_getChar_3b067_46 : decode cJ2_getChar_3b067 46 = .ok (.aload_n 0, 1) := by decide +kernel
theorem dJ2_getChar_3b067_47 : decode cJ2_getChar_3b067 47 = .ok (.iload_n 1, 1) := by decide +kernel
theorem dJ2_getChar_3b067_48 : decode cJ2_getChar_3b067 48 = .ok (.baload, 1) := by decide +kernel
theorem dJ2_getChar_3b067_49 : decode cJ2_getChar_3b067 49 = .ok (.sipush 255, 3) := by decide +kernel
theorem dJ2_getChar_3b067_52 : decode cJ2_getChar_3b067 52 = .ok (.iand, 1) := by decide +kernel
theorem dJ2_getChar_3b067_53 : decode cJ2_getChar_3b067 53 = .ok (.getstatic 63, 3) := by decide +kernel
theorem dJ2_getChar_3b067_56 : decode cJ2_getChar_3b067 56 = .ok (.ishl, 1) := by decide +kernel
theorem dJ2_getChar_3b067_57 : decode cJ2_getChar_3b067 57 = .ok (.ior, 1) := by decide +kernel
theorem dJ2_getChar_3b067_58 : decode cJ2_getChar_3b067 58 = .ok (.i2c, 1) := by decide +kernel
theorem dJ2_getChar_3b067_59 : decode cJ2_getChar_3b067 59 = .ok (.ireturn, 1) := by decide +kernel
theorem dJ2_length_9d52b_0 : decode cJ2_length_9d52b 0 = .ok (.aload_n 0, 1) := by decide +kernel
theorem dJ2_length_9d52b_1 : decode cJ2_length_9d52b 1 = .ok (.arraylength, 1) := by decide +kernel
theorem dJ2_length_9d52b_2 : decode cJ2_length_9d52b 2 = .ok (.iconst 1, 1) := by decide +kernel
theorem dJ2_length_9d52b_3 : decode cJ2_length_9d52b 3 = .ok (.ishr, 1) := by decide +kernel
theorem dJ2_length_9d52b_4 : decode cJ2_length_9d52b 4 = .ok (.ireturn, 1) := by decide +kernel
theorem dJ2_indexOf_4cfef_0 : decode cJ2_indexOf_4cfef 0 = .ok (.iload_n 2, 1) := by decide +kernel
theorem dJ2_indexOf_4cfef_1 : decode cJ2_indexOf_4cfef 1 = .ok (.iconst 0, 1) := by decide +kernel
theorem dJ2_indexOf_4cfef_2 : decode cJ2_indexOf_4cfef 2 = .ok (.invokestatic 224, 3) := by decide +kernel
theorem dJ2_indexOf_4cfef_5 : decode cJ2_indexOf_4cfef 5 = .ok (.istore_n 2, 1) := by decide +kernel
theorem dJ2_indexOf_4cfef_6 : decode cJ2_indexOf_4cfef 6 = .ok (.iload_n 3, 1) := by decide +kernel
theorem dJ2_indexOf_4cfef_7 : decode cJ2_indexOf_4cfef 7 = .ok (.aload_n 0, 1) := by decide +kernel
theorem dJ2_indexOf_4cfef_8 : decode cJ2_indexOf_4cfef 8 = .ok (.arraylength, 1) := by decide +kernel
theorem dJ2_indexOf_4cfef_9 : decode cJ2_indexOf_4cfef 9 = .ok (.iconst 1, 1) := by decide +kernel
theorem dJ2_indexOf_4cfef_10 : decode cJ2_indexOf_4cfef 10 = .ok (.ishr, 1) := by decide +kernel
theorem dJ2_indexOf_4cfef_11 : decode cJ2_indexOf_4cfef 11 = .ok (.invokestatic 183, 3) := by decide +kernel
theorem dJ2_indexOf_4cfef_14 : decode cJ2_indexOf_4cfef 14 = .ok (.istore_n 3, 1) := by decide +kernel
theorem dJ2_indexOf_4cfef_15 : decode cJ2_indexOf_4cfef 15 = .ok (.iload_n 2, 1) := by decide +kernel
theorem dJ2_indexOf_4cfef_16 : decode cJ2_indexOf_4cfef 16 = .ok (.iload_n 3, 1) := by decide +kernel
theorem dJ2_indexOf_4cfef_17 : decode cJ2_indexOf_4cfef 17 = .ok (.if_icmp .lt 5, 3) := by decide +kernel
theorem dJ2_indexOf_4cfef_20 : decode cJ2_indexOf_4cfef 20 = .ok (.iconst (-1), 1) := by decide +kernel
theorem dJ2_indexOf_4cfef_21 : decode cJ2_indexOf_4cfef 21 = .ok (.ireturn, 1) := by decide +kernel
theorem dJ2_indexOf_4cfef_22 : decode cJ2_indexOf_4cfef 22 = .ok (.iload_n 1, 1) := by decide +kernel
theorem dJ2_indexOf_4cfef_23 : decode cJ2_indexOf_4cfef 23 = .ok (.ldc 227, 2) := by decide +kernel
theorem dJ2_indexOf_4cfef_25 : decode cJ2_indexOf_4cfef 25 = .ok (.if_icmp .ge 11, 3) := by decide +kernel
theorem dJ2_indexOf_4cfef_28 : decode cJ2_indexOf_4cfef 28 = .ok (.aload_n 0, 1) := by decide +kernel
theorem dJ2_indexOf_4cfef_29 : decode cJ2_indexOf_4cfef 29 = .ok (.iload_n 1, 1) := by decide +kernel
theorem dJ2_indexOf_4cfef_30 : decode cJ2_indexOf_4cfef 30 = .ok (.iload_n 2, 1) := by decide +kernel
theorem dJ2_indexOf_4cfef_31 : decode cJ2_indexOf_4cfef 31 = .ok (.iload_n 3, 1) := by decide +kernel
theorem dJ2_indexOf_4cfef_32 : decode cJ2_indexOf_4cfef 32 = .ok (.invokestatic 228, 3) := by decide +kernel
theorem dJ2_indexOf_4cfef_35 : decode cJ2_indexOf_4cfef 35 = .ok (.ireturn, 1) := by decide +kernel
theorem dJ2_indexOf_4cfef_36 : decode cJ2_indexOf_4cfef 36 = .ok (.aload_n 0, 1) := by decide +kernel
theorem dJ2_indexOf_4cfef_37 : decode cJ2_indexOf_4cfef 37 = .ok (.iload_n 1, 1) := by decide +kernel
theorem dJ2_indexOf_4cfef_38 : decode cJ2_indexOf_4cfef 38 = .ok (.iload_n 2, 1) := by decide +kernel
theorem dJ2_indexOf_4cfef_39 : decode cJ2_indexOf_4cfef 39 = .ok (.iload_n 3, 1) := by decide +kernel
theorem dJ2_indexOf_4cfef_40 : decode cJ2_indexOf_4cfef 40 = .ok (.invokestatic 232, 3) := by decide +kernel
theorem dJ2_indexOf_4cfef_43 : decode cJ2_indexOf_4cfef 43 = .ok (.ireturn, 1) := by decide +kernel
theorem dJ2_indexOfChar_4cfef_0 : decode cJ2_indexOfChar_4cfef 0 = .ok (.iload_n 2, 1) := by decide +kernel
theorem dJ2_indexOfChar_4cfef_1 : decode cJ2_indexOfChar_4cfef 1 = .ok (.iload_n 3, 1) := by decide +kernel
theorem dJ2_indexOfChar_4cfef_2 : decode cJ2_indexOfChar_4cfef 2 = .ok (.aload_n 0, 1) := by decide +kernel
theorem dJ2_indexOfChar_4cfef_3 : decode cJ2_indexOfChar_4cfef 3 = .ok (.invokestatic 96, 3) := by decide +kernel
theorem dJ2_indexOfChar_4cfef_6 : decode cJ2_indexOfChar_4cfef 6 = .ok (.aload_n 0, 1) := by decide +kernel
theorem dJ2_indexOfChar_4cfef_7 : decode cJ2_indexOfChar_4cfef 7 = .ok (.iload_n 1, 1) := by decide +kernel
theorem dJ2_indexOfChar_4cfef_8 : decode cJ2_indexOfChar_4cfef 8 = .ok (.iload_n 2, 1) := by decide +kernel
theorem dJ2_indexOfChar_4cfef_9 : decode cJ2_indexOfChar_4cfef 9 = .ok (.iload_n 3, 1) := by decide +kernel
theorem dJ2_indexOfChar_4cfef_10 : decode cJ2_indexOfChar_4cfef 10 = .ok (.invokestatic 244, 3) := by decide +kernel
theorem dJ2_indexOfChar_4cfef_13 : decode cJ2_indexOfChar_4cfef 13 = .ok (.ireturn, 1) := by decide +kernel
theorem dJ2_indexOfCharUnsafe_4cfef_0 : decode cJ2_indexOfCharUnsafe_4cfef 0 = .ok (.iload_n 2, 1) := by decide +kernel
theorem dJ2_indexOfCharUnsafe_4cfef_1 : decode cJ2_indexOfCharUnsafe_4cfef 1 = .ok (.istore 4, 2) := by decide +kernel
theorem dJ2_indexOfCharUnsafe_4cfef_3 : decode cJ2_indexOfCharUnsafe_4cfef 3 = .ok (.iload 4, 2) := by decide +kernel
theorem dJ2_indexOfCharUnsafe_4cfef_5 : decode cJ2_indexOfCharUnsafe_4cfef 5 = .ok (.iload_n 3, 1) := by decide +kernel
theorem dJ2_indexOfCharUnsafe_4cfef_6 : decode cJ2_indexOfCharUnsafe_4cfef 6 = .ok (.if_icmp .ge 22, 3) := by decide +kernel
theorem dJ2_indexOfCharUnsafe_4cfef_9 : decode cJ2_indexOfCharUnsafe_4cfef 9 = .ok (.aload_n 0, 1) := by decide +kernel
theorem dJ2_indexOfCharUnsafe_4cfef_10 : decode cJ2_indexOfCharUnsafe_4cfef 10 = .ok (.iload 4, 2) := by decide +kernel
theorem dJ2_indexOfCharUnsafe_4cfef_12 : decode cJ2_indexOfCharUnsafe_4cfef 12 = .ok (.invokestatic 71, 3) := by decide +kernel
theorem dJ2_indexOfCharUnsafe_4cfef_15 : decode cJ2_indexOfCharUnsafe_4cfef 15 = .ok (.iload_n 1, 1) := by decide +kernel
theorem dJ2_indexOfCharUnsafe_4cfef_16 : decode cJ2_indexOfCharUnsafe_4cfef 16 = .ok (.if_icmp .ne 6, 3) := by decide +kernel
theorem dJ2_indexOfCharUnsafe_4cfef_19 : decode cJ2_indexOfCharUnsafe_4cfef 19 = .ok (.iload 4, 2) := by decide +kernel
theorem dJ2_indexOfCharUnsafe_4cfef_21 : decode cJ2_indexOfCharUnsafe_4cfef 21 = .ok (.ireturn, 1) := by decide +kernel
theorem dJ2_indexOfCharUnsafe_4cfef_22 : decode cJ2_indexOfCharUnsafe_4cfef 22 = .ok (.iinc 4 1, 3) := by decide +kernel
theorem dJ2_indexOfCharUnsafe_4cfef_25 : decode cJ2_indexOfCharUnsafe_4cfef 25 = .ok (.goto (-22), 3) := by decide +kernel
theorem dJ2_indexOfCharUnsafe_4cfef_28 : decode cJ2_indexOfCharUnsafe_4cfef 28 = .ok (.iconst (-1), 1) := by decide +kernel
theorem dJ2_indexOfCharUnsafe_4cfef_29 : decode cJ2_indexOfCharUnsafe_4cfef 29 = .ok (.ireturn, 1) := by decide +kernel
theorem dJ2_indexOfSupplementary_4cfef_0 : decode cJ2_indexOfSupplementary_4cfef 0 = .ok (.iload_n 1, 1) := by decide +kernel
theorem dJ2_indexOfSupplementary_4cfef_1 : decode cJ2_indexOfSupplementary_4cfef 1 = .ok (.invokestatic 164, 3) := by decide +kernel
theorem dJ2_indexOfSupplementary_4cfef_4 : decode cJ2_indexOfSupplementary_4cfef 4 = .ok (.ifCond .eq 65, 3) := by decide +kernel
theorem dJ2_indexOfSupplementary_4cfef_7 : decode cJ2_indexOfSupplementary_4cfef 7 = .ok (.iload_n 1, 1) := by decide +kernel
theorem dJ2_indexOfSupplementary_4cfef_8 : decode cJ2_indexOfSupplementary_4cfef 8 = .ok (.invokestatic 157, 3) := by decide +kernel
theorem dJ2_indexOfSupplementary_4cfef_11 : decode cJ2_indexOfSupplementary_4cfef 11 = .ok (.istore 4, 2) := by decide +kernel
theorem dJ2_indexOfSupplementary_4cfef_13 : decode cJ2_indexOfSupplementary_4cfef 13 = .ok (.iload_n 1, 1) := by decide +kernel
theorem dJ2_indexOfSupplementary_4cfef_14 : decode cJ2_indexOfSupplementary_4cfef 14 = .ok (.invokestatic 161, 3) := by decide +kernel
theorem dJ2_indexOfSupplementary_4cfef_17 : decode cJ2_indexOfSupplementary_4cfef 17 = .ok (.istore 5, 2) := by decide +kernel
theorem dJ2_indexOfSupplementary_4cfef_19 : decode cJ2_indexOfSupplementary_4cfef 19 = .ok (.iload_n 2, 1) := by decide +kernel
theorem dJ2_indexOfSupplementary_4cfef_20 : decode cJ2_indexOfSupplementary_4cfef 20 = .ok (.iload_n 3, 1) := by decide +kernel
theorem dJ2_indexOfSupplementary_4cfef_21 : decode cJ2_indexOfSupplementary_4cfef 21 = .ok (.aload_n 0, 1) := by decide +kernel
theorem dJ2_indexOfSupplementary_4cfef_22 : decode cJ2_indexOfSupplementary_4cfef 22 = .ok (.invokestatic 96, 3) := by decide +kernel
theorem dJ2_indexOfSupplementary_4cfef_25 : decode cJ2_indexOfSupplementary_4cfef 25 = .ok (.iload_n 2, 1) := by decide +kernel
theorem dJ2_indexOfSupplementary_4cfef_26 : decode cJ2_indexOfSupplementary_4cfef 26 = .ok (.istore 6, 2) := by decide +kernel
theorem dJ2_indexOfSupplementary_4cfef_28 : decode cJ2_indexOfSupplementary_4cfef 28 = .ok (.iload 6, 2) := by decide +kernel
theorem dJ2_indexOfSupplementary_4cfef_30 : decode cJ2_indexOfSupplementary_4cfef 30 = .ok (.iload_n 3, 1) := by decide +kernel
theorem dJ2_indexOfSupplementary_4cfef_31 : decode cJ2_indexOfSupplementary_4cfef 31 = .ok (.iconst 1, 1) := by decide +kernel
theorem dJ2_indexOfSupplementary_4cfef_32 : decode cJ2_indexOfSupplementary_4cfef 32 = .ok (.isub, 1) := by decide +kernel
theorem dJ2_indexOfSupplementary_4cfef_33 : decode cJ2_indexOfSupplementary_4cfef 33 = .ok (.if_icmp .ge 36, 3) := by decide +kernel
theorem dJ2_indexOfSupplementary_4cfef_36 : decode cJ2_indexOfSupplementary_4cfef 36 = .ok (.aload_n 0, 1) := by decide +kernel
theorem dJ2_indexOfSupplementary_4cfef_37 : decode cJ2_indexOfSupplementary_4cfef 37 = .ok (.iload 6, 2) := by decide +kernel
theorem dJ2_indexOfSupplementary_4cfef_39 : decode cJ2_indexOfSupplementary_4cfef 39 = .ok (.invokestatic 71, 3) := by decide +kernel
theorem dJ2_indexOfSupplementary_4cfef_42 : decode cJ2_indexOfSupplementary_4cfef 42 = .ok (.iload 4, 2) := by decide +kernel
theorem dJ2_indexOfSupplementary_4cfef_44 : decode cJ2_indexOfSupplementary_4cfef 44 = .ok (.if_icmp .ne 19, 3) := by decide +kernel
theorem dJ2_indexOfSupplementary_4cfef_47 : decode cJ2_indexOfSupplementary_4cfef 47 = .ok (.aload_n 0, 1) := by decide +kernel
theorem dJ2_indexOfSupplementary_4cfef_48 : decode cJ2_indexOfSupplementary_4cfef 48 = .ok (.iload 6, 2) := by decide +kernel
theorem dJ2_indexOfSupplementary_4cfef_50 : decode cJ2_indexOfSupplementary_4cfef 50 = .ok (.iconst 1, 1) := by decide +kernel
theorem dJ2_indexOfSupplementary_4cfef_51 : decode cJ2_indexOfSupplementary_4cfef 51 = .ok (.iadd, 1) := by decide +kernel
theorem dJ2_indexOfSupplementary_4cfef_52 : decode cJ2_indexOfSupplementary_4cfef 52 = .ok (.invokestatic 71, 3) := by decide +kernel
theorem dJ2_indexOfSupplementary_4cfef_55 : decode cJ2_indexOfSupplementary_4cfef 55 = .ok (.iload 5, 2) := by decide +kernel
theorem dJ2_indexOfSupplementary_4cfef_57 : decode cJ2_indexOfSupplementary_4cfef 57 = .ok (.if_icmp .ne 6, 3) := by decide +kernel
theorem dJ2_indexOfSupplementary_4cfef_60 : decode cJ2_indexOfSupplementary_4cfef 60 = .ok (.iload 6, 2) := by decide +kernel
theorem dJ2_indexOfSupplementary_4cfef_62 : decode cJ2_indexOfSupplementary_4cfef 62 = .ok (.ireturn, 1) := by decide +kernel
theorem dJ2_indexOfSupplementary_4cfef_63 : decode cJ2_indexOfSupplementary_4cfef 63 = .ok (.iinc 6 1, 3) := by decide +kernel
theorem dJ2_indexOfSupplementary_4cfef_66 : decode cJ2_indexOfSupplementary_4cfef 66 = .ok (.goto (-38), 3) := by decide +kernel
theorem dJ2_indexOfSupplementary_4cfef_69 : decode cJ2_indexOfSupplementary_4cfef 69 = .ok (.iconst (-1), 1) := by decide +kernel
theorem dJ2_indexOfSupplementary_4cfef_70 : decode cJ2_indexOfSupplementary_4cfef 70 = .ok (.ireturn, 1) := by decide +kernel
theorem dJ2_checkBoundsBeginEnd_d044e_0 : decode cJ2_checkBoundsBeginEnd_d044e 0 = .ok (.iload_n 0, 1) := by decide +kernel
theorem dJ2_checkBoundsBeginEnd_d044e_1 : decode cJ2_checkBoundsBeginEnd_d044e 1 = .ok (.iload_n 1, 1) := by decide +kernel
theorem dJ2_checkBoundsBeginEnd_d044e_2 : decode cJ2_checkBoundsBeginEnd_d044e 2 = .ok (.aload_n 2, 1) := by decide +kernel
theorem dJ2_checkBoundsBeginEnd_d044e_3 : decode cJ2_checkBoundsBeginEnd_d044e 3 = .ok (.invokestatic 48, 3) := by decide +kernel
theorem dJ2_checkBoundsBeginEnd_d044e_6 : decode cJ2_checkBoundsBeginEnd_d044e 6 = .ok (.invokestatic 241, 3) := by decide +kernel
theorem dJ2_checkBoundsBeginEnd_d044e_9 : decode cJ2_checkBoundsBeginEnd_d044e 9 = .ok (.return_, 1) := by decide +kernel
theorem dJ3_checkFromToIndex_8c36e_0 : decode cJ3_checkFromToIndex_8c36e 0 = .ok (.iload_n 0, 1) := by decide +kernel
theorem dJ3_checkFromToIndex_8c36e_1 : decode cJ3_checkFromToIndex_8c36e 1 = .ok (.ifCond .lt 13, 3) := by decide +kernel
theorem dJ3_checkFromToIndex_8c36e_4 : decode cJ3_checkFromToIndex_8c36e 4 = .ok (.iload_n 0, 1) := by decide +kernel
theorem dJ3_checkFromToIndex_8c36e_5 : decode cJ3_checkFromToIndex_8c36e 5 = .ok (.iload_n 1, 1) := by decide +kernel
theorem dJ3_checkFromToIndex_8c36e_6 : decode cJ3_checkFromToIndex_8c36e 6 = .ok (.if_icmp .gt 8, 3) := by decide +kernel
theorem dJ3_checkFromToIndex_8c36e_9 : decode cJ3_checkFromToIndex_8c36e 9 = .ok (.iload_n 1, 1) := by decide +kernel
theorem dJ3_checkFromToIndex_8c36e_10 : decode cJ3_checkFromToIndex_8c36e 10 = .ok (.iload_n 2, 1) := by decide +kernel
theorem dJ3_checkFromToIndex_8c36e_11 : decode cJ3_checkFromToIndex_8c36e 11 = .ok (.if_icmp .le 11, 3) := by decide +kernel
theorem dJ3_checkFromToIndex_8c36e_14 : decode cJ3_checkFromToIndex_8c36e 14 = .ok (.aload_n 3, 1) := by decide +kernel
theorem dJ3_checkFromToIndex_8c36e_15 : decode cJ3_checkFromToIndex_8c36e 15 = .ok (.iload_n 0, 1) := by decide +kernel
theorem dJ3_checkFromToIndex_8c36e_16 : decode cJ3_checkFromToIndex_8c36e 16 = .ok (.iload_n 1, 1) := by decide +kernel
theorem dJ3_checkFromToIndex_8c36e_17 : decode cJ3_checkFromToIndex_8c36e 17 = .ok (.iload_n 2, 1) := by decide +kernel
theorem dJ3_checkFromToIndex_8c36e_18 : decode cJ3_checkFromToIndex_8c36e 18 = .ok (.invokestatic 99, 3) := by decide +kernel
theorem dJ3_checkFromToIndex_8c36e_21 : decode cJ3_checkFromToIndex_8c36e 21 = .ok (.athrow, 1) := by decide +kernel
theorem dJ3_checkFromToIndex_8c36e_22 : decode cJ3_checkFromToIndex_8c36e 22 = .ok (.iload_n 0, 1) := by decide +kernel
theorem dJ3_checkFromToIndex_8c36e_23 : decode cJ3_checkFromToIndex_8c36e 23 = .ok (.ireturn, 1) := by decide +kernel
theorem dL_law_0 : decode cL_law 0 = .ok (.new 7, 3) := by decide +kernel
theorem dL_law_3 : decode cL_law 3 = .ok (.dup, 1) := by decide +kernel
theorem dL_law_4 : decode cL_law 4 = .ok (.invokespecial 9, 3) := by decide +kernel
theorem dL_law_7 : decode cL_law 7 = .ok (.astore_n 1, 1) := by decide +kernel
theorem dL_law_8 : decode cL_law 8 = .ok (.new 10, 3) := by decide +kernel
theorem dL_law_11 : decode cL_law 11 = .ok (.dup, 1) := by decide +kernel
theorem dL_law_12 : decode cL_law 12 = .ok (.invokespecial 12, 3) := by decide +kernel
theorem dL_law_15 : decode cL_law 15 = .ok (.astore_n 2, 1) := by decide +kernel
theorem dL_law_16 : decode cL_law 16 = .ok (.iconst 0, 1) := by decide +kernel
theorem dL_law_17 : decode cL_law 17 = .ok (.istore_n 3, 1) := by decide +kernel
theorem dL_law_18 : decode cL_law 18 = .ok (.iload_n 3, 1) := by decide +kernel
theorem dL_law_19 : decode cL_law 19 = .ok (.aload_n 0, 1) := by decide +kernel
theorem dL_law_20 : decode cL_law 20 = .ok (.arraylength, 1) := by decide +kernel
theorem dL_law_21 : decode cL_law 21 = .ok (.iconst 3, 1) := by decide +kernel
theorem dL_law_22 : decode cL_law 22 = .ok (.isub, 1) := by decide +kernel
theorem dL_law_23 : decode cL_law 23 = .ok (.if_icmp .gt 790, 3) := by decide +kernel
theorem dL_law_26 : decode cL_law 26 = .ok (.aload_n 0, 1) := by decide +kernel
theorem dL_law_27 : decode cL_law 27 = .ok (.iload_n 3, 1) := by decide +kernel
theorem dL_law_28 : decode cL_law 28 = .ok (.iaload, 1) := by decide +kernel
theorem dL_law_29 : decode cL_law 29 = .ok (.bipush 31, 2) := by decide +kernel
theorem dL_law_31 : decode cL_law 31 = .ok (.iand, 1) := by decide +kernel
theorem dL_law_32 : decode cL_law 32 = .ok (.tableswitch 775 0 27 #[128, 181, 194, 207, 220, 253, 286, 309, 358, 397, 420, 443, 456, 469, 492, 505, 528, 551, 584, 617, 650, 663, 676, 699, 712, 725, 738, 761], 128) := by decide +kernel
theorem dL_law_160 : decode cL_law 160 = .ok (.aload_n 1, 1) := by decide +kernel
theorem dL_law_161 : decode cL_law 161 = .ok (.aload_n 0, 1) := by decide +kernel
theorem dL_law_162 : decode cL_law 162 = .ok (.iload_n 3, 1) := by decide +kernel
theorem dL_law_163 : decode cL_law 163 = .ok (.iconst 1, 1) := by decide +kernel
theorem dL_law_164 : decode cL_law 164 = .ok (.iadd, 1) := by decide +kernel
theorem dL_law_165 : decode cL_law 165 = .ok (.iaload, 1) := by decide +kernel
theorem dL_law_166 : decode cL_law 166 = .ok (.i2l, 1) := by decide +kernel
theorem dL_law_167 : decode cL_law 167 = .ok (.bipush 32, 2) := by decide +kernel
theorem dL_law_169 : decode cL_law 169 = .ok (.lshl, 1) := by decide +kernel
theorem dL_law_170 : decode cL_law 170 = .ok (.aload_n 0, 1) := by decide +kernel
theorem dL_law_171 : decode cL_law 171 = .ok (.iload_n 3, 1) := by decide +kernel
theorem dL_law_172 : decode cL_law 172 = .ok (.iconst 2, 1) := by decide +kernel
theorem dL_law_173 : decode cL_law 173 = .ok (.iadd, 1) := by decide +kernel
theorem dL_law_174 : decode cL_law 174 = .ok (.iaload, 1) := by decide +kernel
theorem dL_law_175 : decode cL_law 175 = .ok (.i2l, 1) := by decide +kernel
theorem dL_law_176 : decode cL_law 176 = .ok (.ldc2_w 13, 3) := by decide +kernel
theorem dL_law_179 : decode cL_law 179 = .ok (.land, 1) := by decide +kernel
theorem dL_law_180 : decode cL_law 180 = .ok (.lor, 1) := by decide +kernel
theorem dL_law_181 : decode cL_law 181 = .ok (.invokevirtual 15, 3) := by decide +kernel
theorem dL_law_184 : decode cL_law 184 = .ok (.aload_n 2, 1) := by decide +kernel
theorem dL_law_185 : decode cL_law 185 = .ok (.aload_n 0, 1) := by decide +kernel
theorem dL_law_186 : decode cL_law 186 = .ok (.iload_n 3, 1) := by decide +kernel
theorem dL_law_187 : decode cL_law 187 = .ok (.iconst 1, 1) := by decide +kernel
theorem dL_law_188 : decode cL_law 188 = .ok (.iadd, 1) := by decide +kernel
theorem dL_law_189 : decode cL_law 189 = .ok (.iaload, 1) := by decide +kernel
theorem dL_law_190 : decode cL_law 190 = .ok (.i2l, 1) := by decide +kernel
theorem dL_law_191 : decode cL_law 191 = .ok (.bipush 32, 2) := by decide +kernel
theorem dL_law_193 : decode cL_law 193 = .ok (.lshl, 1) := by decide +kernel
theorem dL_law_194 : decode cL_law 194 = .ok (.aload_n 0, 1) := by decide +kernel
theorem dL_law_195 : decode cL_law 195 = .ok (.iload_n 3, 1) := by decide +kernel
theorem dL_law_196 : decode cL_law 196 = .ok (.iconst 2, 1) := by decide +kernel
theorem dL_law_197 : decode cL_law 197 = .ok (.iadd, 1) := by decide +kernel
theorem dL_law_198 : decode cL_law 198 = .ok (.iaload, 1) := by decide +kernel
theorem dL_law_199 : decode cL_law 199 = .ok (.i2l, 1) := by decide +kernel
theorem dL_law_200 : decode cL_law 200 = .ok (.ldc2_w 13, 3) := by decide +kernel
theorem dL_law_203 : decode cL_law 203 = .ok (.land, 1) := by decide +kernel
theorem dL_law_204 : decode cL_law 204 = .ok (.lor, 1) := by decide +kernel
theorem dL_law_205 : decode cL_law 205 = .ok (.invokevirtual 19, 3) := by decide +kernel
theorem dL_law_208 : decode cL_law 208 = .ok (.if_icmp .eq 599, 3) := by decide +kernel
theorem dL_law_211 : decode cL_law 211 = .ok (.iconst 0, 1) := by decide +kernel
theorem dL_law_212 : decode cL_law 212 = .ok (.ireturn, 1) := by decide +kernel
theorem dL_law_213 : decode cL_law 213 = .ok (.aload_n 1, 1) := by decide +kernel
theorem dL_law_214 : decode cL_law 214 = .ok (.invokevirtual 20, 3) := by decide +kernel
theorem dL_law_217 : decode cL_law 217 = .ok (.aload_n 2, 1) := by decide +kernel
theorem dL_law_218 : decode cL_law 218 = .ok (.invokevirtual 24, 3) := by decide +kernel
theorem dL_law_221 : decode cL_law 221 = .ok (.if_icmp .eq 586, 3) := by decide +kernel
theorem dL_law_224 : decode cL_law 224 = .ok (.iconst 0, 1) := by decide +kernel
theorem dL_law_225 : decode cL_law 225 = .ok (.ireturn, 1) := by decide +kernel
theorem dL_law_226 : decode cL_law 226 = .ok (.aload_n 1, 1) := by decide +kernel
theorem dL_law_227 : decode cL_law 227 = .ok (.invokevirtual 25, 3) := by decide +kernel
theorem dL_law_230 : decode cL_law 230 = .ok (.aload_n 2, 1) := by decide +kernel
theorem dL_law_231 : decode cL_law 231 = .ok (.invokevirtual 28, 3) := by decide +kernel
theorem dL_law_234 : decode cL_law 234 = .ok (.if_icmp .eq 573, 3) := by decide +kernel
theorem dL_law_237 : decode cL_law 237 = .ok (.iconst 0, 1) := by decide +kernel
theorem dL_law_238 : decode cL_law 238 = .ok (.ireturn, 1) := by decide +kernel
theorem dL_law_239 : decode cL_law 239 = .ok (.aload_n 1, 1) := by decide +kernel
theorem dL_law_240 : decode cL_law 240 = .ok (.invokevirtual 29, 3) := by decide +kernel
theorem dL_law_243 : decode cL_law 243 = .ok (.aload_n 2, 1) := by decide +kernel
theorem dL_law_244 : decode cL_law 244 = .ok (.invokevirtual 32, 3) := by decide +kernel
theorem dL_law_247 : decode cL_law 247 = .ok (.if_icmp .eq 560, 3) := by decide +kernel
theorem dL_law_250 : decode cL_law 250 = .ok (.iconst 0, 1) := by decide +kernel
theorem dL_law_251 : decode cL_law 251 = .ok (.ireturn, 1) := by decide +kernel
theorem dL_law_252 : decode cL_law 252 = .ok (.aload_n 1, 1) := by decide +kernel
theorem dL_law_253 : decode cL_law 253 = .ok (.aload_n 0, 1) := by decide +kernel
theorem dL_law_254 : decode cL_law 254 = .ok (.iload_n 3, 1) := by decide +kernel
theorem dL_law_255 : decode cL_law 255 = .ok (.iconst 1, 1) := by decide +kernel
theorem dL_law_256 : decode cL_law 256 = .ok (.iadd, 1) := by decide +kernel
theorem dL_law_257 : decode cL_law 257 = .ok (.iaload, 1) := by decide +kernel
theorem dL_law_258 : decode cL_law 258 = .ok (.aload_n 0, 1) := by decide +kernel
theorem dL_law_259 : decode cL_law 259 = .ok (.iload_n 3, 1) := by decide +kernel
theorem dL_law_260 : decode cL_law 260 = .ok (.iconst 2, 1) := by decide +kernel
theorem dL_law_261 : decode cL_law 261 = .ok (.iadd, 1) := by decide +kernel
theorem dL_law_262 : decode cL_law 262 = .ok (.iaload, 1) := by decide +kernel
theorem dL_law_263 : decode cL_law 263 = .ok (.invokevirtual 33, 3) := by decide +kernel
theorem dL_law_266 : decode cL_law 266 = .ok (.aload_n 2, 1) := by decide +kernel
theorem dL_law_267 : decode cL_law 267 = .ok (.aload_n 0, 1) := by decide +kernel
theorem dL_law_268 : decode cL_law 268 = .ok (.iload_n 3, 1) := by decide +kernel
theorem dL_law_269 : decode cL_law 269 = .ok (.iconst 1, 1) := by decide +kernel
theorem dL_law_270 : decode cL_law 270 = .ok (.iadd, 1) := by decide +kernel
theorem dL_law_271 : decode cL_law 271 = .ok (.iaload, 1) := by decide +kernel
theorem dL_law_272 : decode cL_law 272 = .ok (.aload_n 0, 1) := by decide +kernel
theorem dL_law_273 : decode cL_law 273 = .ok (.iload_n 3, 1) := by decide +kernel
theorem dL_law_274 : decode cL_law 274 = .ok (.iconst 2, 1) := by decide +kernel
theorem dL_law_275 : decode cL_law 275 = .ok (.iadd, 1) := by decide +kernel
theorem dL_law_276 : decode cL_law 276 = .ok (.iaload, 1) := by decide +kernel
theorem dL_law_277 : decode cL_law 277 = .ok (.invokevirtual 37, 3) := by decide +kernel
theorem dL_law_280 : decode cL_law 280 = .ok (.if_icmp .eq 527, 3) := by decide +kernel
theorem dL_law_283 : decode cL_law 283 = .ok (.iconst 0, 1) := by decide +kernel
theorem dL_law_284 : decode cL_law 284 = .ok (.ireturn, 1) := by decide +kernel
theorem dL_law_285 : decode cL_law 285 = .ok (.aload_n 1, 1) := by decide +kernel
theorem dL_law_286 : decode cL_law 286 = .ok (.aload_n 0, 1) := by decide +kernel
theorem dL_law_287 : decode cL_law 287 = .ok (.iload_n 3, 1) := by decide +kernel
theorem dL_law_288 : decode cL_law 288 = .ok (.iconst 1, 1) := by decide +kernel
theorem dL_law_289 : decode cL_law 289 = .ok (.iadd, 1) := by decide +kernel
theorem dL_law_290 : decode cL_law 290 = .ok (.iaload, 1) := by decide +kernel
theorem dL_law_291 : decode cL_law 291 = .ok (.aload_n 0, 1) := by decide +kernel
theorem dL_law_292 : decode cL_law 292 = .ok (.iload_n 3, 1) := by decide +kernel
theorem dL_law_293 : decode cL_law 293 = .ok (.iconst 2, 1) := by decide +kernel
theorem dL_law_294 : decode cL_law 294 = .ok (.iadd, 1) := by decide +kernel
theorem dL_law_295 : decode cL_law 295 = .ok (.iaload, 1) := by decide +kernel
theorem dL_law_296 : decode cL_law 296 = .ok (.invokevirtual 38, 3) := by decide +kernel
theorem dL_law_299 : decode cL_law 299 = .ok (.aload_n 2, 1) := by decide +kernel
theorem dL_law_300 : decode cL_law 300 = .ok (.aload_n 0, 1) := by decide +kernel
theorem dL_law_301 : decode cL_law 301 = .ok (.iload_n 3, 1) := by decide +kernel
theorem dL_law_302 : decode cL_law 302 = .ok (.iconst 1, 1) := by decide +kernel
theorem dL_law_303 : decode cL_law 303 = .ok (.iadd, 1) := by decide +kernel
theorem dL_law_304 : decode cL_law 304 = .ok (.iaload, 1) := by decide +kernel
theorem dL_law_305 : decode cL_law 305 = .ok (.aload_n 0, 1) := by decide +kernel
theorem dL_law_306 : decode cL_law 306 = .ok (.iload_n 3, 1) := by decide +kernel
theorem dL_law_307 : decode cL_law 307 = .ok (.iconst 2, 1) := by decide +kernel
theorem dL_law_308 : decode cL_law 308 = .ok (.iadd, 1) := by decide +kernel
theorem dL_law_309 : decode cL_law 309 = .ok (.iaload, 1) := by decide +kernel
theorem dL_law_310 : decode cL_law 310 = .ok (.invokevirtual 41, 3) := by decide +kernel
theorem dL_law_313 : decode cL_law 313 = .ok (.if_icmp .eq 494, 3) := by decide +kernel
theorem dL_law_316 : decode cL_law 316 = .ok (.iconst 0, 1) := by decide +kernel
theorem dL_law_317 : decode cL_law 317 = .ok (.ireturn, 1) := by decide +kernel
theorem dL_law_318 : decode cL_law 318 = .ok (.aload_n 1, 1) := by decide +kernel
theorem dL_law_319 : decode cL_law 319 = .ok (.aload_n 0, 1) := by decide +kernel
theorem dL_law_320 : decode cL_law 320 = .ok (.iload_n 3, 1) := by decide +kernel
theorem dL_law_321 : decode cL_law 321 = .ok (.iconst 1, 1) := by decide +kernel
theorem dL_law_322 : decode cL_law 322 = .ok (.iadd, 1) := by decide +kernel
theorem dL_law_323 : decode cL_law 323 = .ok (.iaload, 1) := by decide +kernel
theorem dL_law_324 : decode cL_law 324 = .ok (.invokevirtual 42, 3) := by decide +kernel
theorem dL_law_327 : decode cL_law 327 = .ok (.aload_n 2, 1) := by decide +kernel
theorem dL_law_328 : decode cL_law 328 = .ok (.aload_n 0, 1) := by decide +kernel
theorem dL_law_329 : decode cL_law 329 = .ok (.iload_n 3, 1) := by decide +kernel
theorem dL_law_330 : decode cL_law 330 = .ok (.iconst 1, 1) := by decide +kernel
theorem dL_law_331 : decode cL_law 331 = .ok (.iadd, 1) := by decide +kernel
theorem dL_law_332 : decode cL_law 332 = .ok (.iaload, 1) := by decide +kernel
theorem dL_law_333 : decode cL_law 333 = .ok (.invokevirtual 46, 3) := by decide +kernel
theorem dL_law_336 : decode cL_law 336 = .ok (.if_icmp .eq 471, 3) := by decide +kernel
theorem dL_law_339 : decode cL_law 339 = .ok (.iconst 0, 1) := by decide +kernel
theorem dL_law_340 : decode cL_law 340 = .ok (.ireturn, 1) := by decide +kernel
theorem dL_law_341 : decode cL_law 341 = .ok (.aload_n 1, 1) := by decide +kernel
theorem dL_law_342 : decode cL_law 342 = .ok (.aload_n 0, 1) := by decide +kernel
theorem dL_law_343 : decode cL_law 343 = .ok (.iload_n 3, 1) := by decide +kernel
theorem dL_law_344 : decode cL_law 344 = .ok (.iconst 1, 1) := by decide +kernel
theorem dL_law_345 : decode cL_law 345 = .ok (.iadd, 1) := by decide +kernel
theorem dL_law_346 : decode cL_law 346 = .ok (.iaload, 1) := by decide +kernel
theorem dL_law_347 : decode cL_law 347 = .ok (.aload_n 0, 1) := by decide +kernel
theorem dL_law_348 : decode cL_law 348 = .ok (.iload_n 3, 1) := by decide +kernel
theorem dL_law_349 : decode cL_law 349 = .ok (.iconst 2, 1) := by decide +kernel
theorem dL_law_350 : decode cL_law 350 = .ok (.iadd, 1) := by decide +kernel
theorem dL_law_351 : decode cL_law 351 = .ok (.iaload, 1) := by decide +kernel
theorem dL_law_352 : decode cL_law 352 = .ok (.ifCond .eq 7, 3) := by decide +kernel
theorem dL_law_355 : decode cL_law 355 = .ok (.iconst 1, 1) := by decide +kernel
theorem dL_law_356 : decode cL_law 356 = .ok (.goto 4, 3) := by decide +kernel
theorem dL_law_359 : decode cL_law 359 = .ok (.iconst 0, 1) := by decide +kernel
theorem dL_law_360 : decode cL_law 360 = .ok (.invokevirtual 47, 3) := by decide +kernel
theorem dL_law_363 : decode cL_law 363 = .ok (.aload_n 2, 1) := by decide +kernel
theorem dL_law_364 : decode cL_law 364 = .ok (.aload_n 0, 1) := by decide +kernel
theorem dL_law_365 : decode cL_law 365 = .ok (.iload_n 3, 1) := by decide +kernel
theorem dL_law_366 : decode cL_law 366 = .ok (.iconst 1, 1) := by decide +kernel
theorem dL_law_367 : decode cL_law 367 = .ok (.iadd, 1) := by decide +kernel
theorem dL_law_368 : decode cL_law 368 = .ok (.iaload, 1) := by decide +kernel
theorem dL_law_369 : decode cL_law 369 = .ok (.aload_n 0, 1) := by decide +kernel
theorem dL_law_370 : decode cL_law 370 = .ok (.iload_n 3, 1) := by decide +kernel
theorem dL_law_371 : decode cL_law 371 = .ok (.iconst 2, 1) := by decide +kernel
theorem dL_law_372 : decode cL_law 372 = .ok (.iadd, 1) := by decide +kernel
theorem dL_law_373 : decode cL_law 373 = .ok (.iaload, 1) := by decide +kernel
theorem dL_law_374 : decode cL_law 374 = .ok (.ifCond .eq 7, 3) := by decide +kernel
theorem dL_law_377 : decode cL_law 377 = .ok (.iconst 1, 1) := by decide +kernel
theorem dL_law_378 : decode cL_law 378 = .ok (.goto 4, 3) := by decide +kernel
theorem dL_law_381 : decode cL_law 381 = .ok (.iconst 0, 1) := by decide +kernel
theorem dL_law_382 : decode cL_law 382 = .ok (.invokevirtual 51, 3) := by decide +kernel
theorem dL_law_385 : decode cL_law 385 = .ok (.if_icmp .eq 422, 3) := by decide +kernel
theorem dL_law_388 : decode cL_law 388 = .ok (.iconst 0, 1) := by decide +kernel
theorem dL_law_389 : decode cL_law 389 = .ok (.ireturn, 1) := by decide +kernel
theorem dL_law_390 : decode cL_law 390 = .ok (.aload_n 1, 1) := by decide +kernel
theorem dL_law_391 : decode cL_law 391 = .ok (.aload_n 0, 1) := by decide +kernel
theorem dL_law_392 : decode cL_law 392 = .ok (.iload_n 3, 1) := by decide +kernel
theorem dL_law_393 : decode cL_law 393 = .ok (.iconst 1, 1) := by decide +kernel
theorem dL_law_394 : decode cL_law 394 = .ok (.iadd, 1) := by decide +kernel
theorem dL_law_395 : decode cL_law 395 = .ok (.iaload, 1) := by decide +kernel
theorem dL_law_396 : decode cL_law 396 = .ok (.ifCond .eq 7, 3) := by decide +kernel
theorem dL_law_399 : decode cL_law 399 = .ok (.iconst 1, 1) := by decide +kernel
theorem dL_law_400 : decode cL_law 400 = .ok (.goto 4, 3) := by decide +kernel
theorem dL_law_403 : decode cL_law 403 = .ok (.iconst 0, 1) := by decide +kernel
theorem dL_law_404 : decode cL_law 404 = .ok (.invokevirtual 52, 3) := by decide +kernel
theorem dL_law_407 : decode cL_law 407 = .ok (.aload_n 2, 1) := by decide +kernel
theorem dL_law_408 : decode cL_law 408 = .ok (.aload_n 0, 1) := by decide +kernel
theorem dL_law_409 : decode cL_law 409 = .ok (.iload_n 3, 1) := by decide +kernel
theorem dL_law_410 : decode cL_law 410 = .ok (.iconst 1, 1) := by decide +kernel
theorem dL_law_411 : decode cL_law 411 = .ok (.iadd, 1) := by decide +kernel
theorem dL_law_412 : decode cL_law 412 = .ok (.iaload, 1) := by decide +kernel
theorem dL_law_413 : decode cL_law 413 = .ok (.ifCond .eq 7, 3) := by decide +kernel
theorem dL_law_416 : decode cL_law 416 = .ok (.iconst 1, 1) := by decide +kernel
theorem dL_law_417 : decode cL_law 417 = .ok (.goto 4, 3) := by decide +kernel
theorem dL_law_420 : decode cL_law 420 = .ok (.iconst 0, 1) := by decide +kernel
theorem dL_law_421 : decode cL_law 421 = .ok (.invokevirtual 56, 3) := by decide +kernel
theorem dL_law_424 : decode cL_law 424 = .ok (.if_icmp .eq 383, 3) := by decide +kernel
theorem dL_law_427 : decode cL_law 427 = .ok (.iconst 0, 1) := by decide +kernel
theorem dL_law_428 : decode cL_law 428 = .ok (.ireturn, 1) := by decide +kernel
theorem dL_law_429 : decode cL_law 429 = .ok (.aload_n 1, 1) := by decide +kernel
theorem dL_law_430 : decode cL_law 430 = .ok (.aload_n 0, 1) := by decide +kernel
theorem dL_law_431 : decode cL_law 431 = .ok (.iload_n 3, 1) := by decide +kernel
theorem dL_law_432 : decode cL_law 432 = .ok (.iconst 1, 1) := by decide +kernel
theorem dL_law_433 : decode cL_law 433 = .ok (.iadd, 1) := by decide +kernel
theorem dL_law_434 : decode cL_law 434 = .ok (.iaload, 1) := by decide +kernel
theorem dL_law_435 : decode cL_law 435 = .ok (.invokevirtual 57, 3) := by decide +kernel
theorem dL_law_438 : decode cL_law 438 = .ok (.aload_n 2, 1) := by decide +kernel
theorem dL_law_439 : decode cL_law 439 = .ok (.aload_n 0, 1) := by decide +kernel
theorem dL_law_440 : decode cL_law 440 = .ok (.iload_n 3, 1) := by decide +kernel
theorem dL_law_441 : decode cL_law 441 = .ok (.iconst 1, 1) := by decide +kernel
theorem dL_law_442 : decode cL_law 442 = .ok (.iadd, 1) := by decide +kernel
theorem dL_law_443 : decode cL_law 443 = .ok (.iaload, 1) := by decide +kernel
theorem dL_law_444 : decode cL_law 444 = .ok (.invokevirtual 60, 3) := by decide +kernel
theorem dL_law_447 : decode cL_law 447 = .ok (.if_icmp .eq 360, 3) := by decide +kernel
theorem dL_law_450 : decode cL_law 450 = .ok (.iconst 0, 1) := by decide +kernel
theorem dL_law_451 : decode cL_law 451 = .ok (.ireturn, 1) := by decide +kernel
theorem dL_law_452 : decode cL_law 452 = .ok (.aload_n 1, 1) := by decide +kernel
theorem dL_law_453 : decode cL_law 453 = .ok (.aload_n 0, 1) := by decide +kernel
theorem dL_law_454 : decode cL_law 454 = .ok (.iload_n 3, 1) := by decide +kernel
theorem dL_law_455 : decode cL_law 455 = .ok (.iconst 1, 1) := by decide +kernel
theorem dL_law_456 : decode cL_law 456 = .ok (.iadd, 1) := by decide +kernel
theorem dL_law_457 : decode cL_law 457 = .ok (.iaload, 1) := by decide +kernel
theorem dL_law_458 : decode cL_law 458 = .ok (.invokevirtual 61, 3) := by decide +kernel
theorem dL_law_461 : decode cL_law 461 = .ok (.aload_n 2, 1) := by decide +kernel
theorem dL_law_462 : decode cL_law 462 = .ok (.aload_n 0, 1) := by decide +kernel
theorem dL_law_463 : decode cL_law 463 = .ok (.iload_n 3, 1) := by decide +kernel
theorem dL_law_464 : decode cL_law 464 = .ok (.iconst 1, 1) := by decide +kernel
theorem dL_law_465 : decode cL_law 465 = .ok (.iadd, 1) := by decide +kernel
theorem dL_law_466 : decode cL_law 466 = .ok (.iaload, 1) := by decide +kernel
theorem dL_law_467 : decode cL_law 467 = .ok (.invokevirtual 64, 3) := by decide +kernel
theorem dL_law_470 : decode cL_law 470 = .ok (.if_icmp .eq 337, 3) := by decide +kernel
theorem dL_law_473 : decode cL_law 473 = .ok (.iconst 0, 1) := by decide +kernel
theorem dL_law_474 : decode cL_law 474 = .ok (.ireturn, 1) := by decide +kernel
theorem dL_law_475 : decode cL_law 475 = .ok (.aload_n 1, 1) := by decide +kernel
theorem dL_law_476 : decode cL_law 476 = .ok (.invokevirtual 65, 3) := by decide +kernel
theorem dL_law_479 : decode cL_law 479 = .ok (.aload_n 2, 1) := by decide +kernel
theorem dL_law_480 : decode cL_law 480 = .ok (.invokevirtual 68, 3) := by decide +kernel
theorem dL_law_483 : decode cL_law 483 = .ok (.if_icmp .eq 324, 3) := by decide +kernel
theorem dL_law_486 : decode cL_law 486 = .ok (.iconst 0, 1) := by decide +kernel
theorem dL_law_487 : decode cL_law 487 = .ok (.ireturn, 1) := by decide +kernel
theorem dL_law_488 : decode cL_law 488 = .ok (.aload_n 1, 1) := by decide +kernel
theorem dL_law_489 : decode cL_law 489 = .ok (.invokevirtual 69, 3) := by decide +kernel
theorem dL_law_492 : decode cL_law 492 = .ok (.aload_n 2, 1) := by decide +kernel
theorem dL_law_493 : decode cL_law 493 = .ok (.invokevirtual 72, 3) := by decide +kernel
theorem dL_law_496 : decode cL_law 496 = .ok (.if_icmp .eq 311, 3) := by decide +kernel
theorem dL_law_499 : decode cL_law 499 = .ok (.iconst 0, 1) := by decide +kernel
theorem dL_law_500 : decode cL_law 500 = .ok (.ireturn, 1) := by decide +kernel
theorem dL_law_501 : decode cL_law 501 = .ok (.aload_n 1, 1) := by decide +kernel
theorem dL_law_502 : decode cL_law 502 = .ok (.aload_n 0, 1) := by decide +kernel
theorem dL_law_503 : decode cL_law 503 = .ok (.iload_n 3, 1) := by decide +kernel
theorem dL_law_504 : decode cL_law 504 = .ok (.iconst 1, 1) := by decide +kernel
theorem dL_law_505 : decode cL_law 505 = .ok (.iadd, 1) := by decide +kernel
theorem dL_law_506 : decode cL_law 506 = .ok (.iaload, 1) := by decide +kernel
theorem dL_law_507 : decode cL_law 507 = .ok (.invokevirtual 73, 3) := by decide +kernel
theorem dL_law_510 : decode cL_law 510 = .ok (.aload_n 2, 1) := by decide +kernel
theorem dL_law_511 : decode cL_law 511 = .ok (.aload_n 0, 1) := by decide +kernel
theorem dL_law_512 : decode cL_law 512 = .ok (.iload_n 3, 1) := by decide +kernel
theorem dL_law_513 : decode cL_law 513 = .ok (.iconst 1, 1) := by decide +kernel
theorem dL_law_514 : decode cL_law 514 = .ok (.iadd, 1) := by decide +kernel
theorem dL_law_515 : decode cL_law 515 = .ok (.iaload, 1) := by decide +kernel
theorem dL_law_516 : decode cL_law 516 = .ok (.invokevirtual 76, 3) := by decide +kernel
theorem dL_law_519 : decode cL_law 519 = .ok (.if_icmp .eq 288, 3) := by decide +kernel
theorem dL_law_522 : decode cL_law 522 = .ok (.iconst 0, 1) := by decide +kernel
theorem dL_law_523 : decode cL_law 523 = .ok (.ireturn, 1) := by decide +kernel
theorem dL_law_524 : decode cL_law 524 = .ok (.aload_n 1, 1) := by decide +kernel
theorem dL_law_525 : decode cL_law 525 = .ok (.invokevirtual 77, 3) := by decide +kernel
theorem dL_law_528 : decode cL_law 528 = .ok (.aload_n 2, 1) := by decide +kernel
theorem dL_law_529 : decode cL_law 529 = .ok (.invokevirtual 80, 3) := by decide +kernel
theorem dL_law_532 : decode cL_law 532 = .ok (.if_icmp .eq 275, 3) := by decide +kernel
theorem dL_law_535 : decode cL_law 535 = .ok (.iconst 0, 1) := by decide +kernel
theorem dL_law_536 : decode cL_law 536 = .ok (.ireturn, 1) := by decide +kernel
theorem dL_law_537 : decode cL_law 537 = .ok (.aload_n 1, 1) := by decide +kernel
theorem dL_law_538 : decode cL_law 538 = .ok (.aload_n 0, 1) := by decide +kernel
theorem dL_law_539 : decode cL_law 539 = .ok (.iload_n 3, 1) := by decide +kernel
theorem dL_law_540 : decode cL_law 540 = .ok (.iconst 1, 1) := by decide +kernel
theorem dL_law_541 : decode cL_law 541 = .ok (.iadd, 1) := by decide +kernel
theorem dL_law_542 : decode cL_law 542 = .ok (.iaload, 1) := by decide +kernel
theorem dL_law_543 : decode cL_law 543 = .ok (.invokevirtual 81, 3) := by decide +kernel
theorem dL_law_546 : decode cL_law 546 = .ok (.aload_n 2, 1) := by decide +kernel
theorem dL_law_547 : decode cL_law 547 = .ok (.aload_n 0, 1) := by decide +kernel
theorem dL_law_548 : decode cL_law 548 = .ok (.iload_n 3, 1) := by decide +kernel
theorem dL_law_549 : decode cL_law 549 = .ok (.iconst 1, 1) := by decide +kernel
theorem dL_law_550 : decode cL_law 550 = .ok (.iadd, 1) := by decide +kernel
theorem dL_law_551 : decode cL_law 551 = .ok (.iaload, 1) := by decide +kernel
theorem dL_law_552 : decode cL_law 552 = .ok (.invokevirtual 84, 3) := by decide +kernel
theorem dL_law_555 : decode cL_law 555 = .ok (.if_icmp .eq 252, 3) := by decide +kernel
theorem dL_law_558 : decode cL_law 558 = .ok (.iconst 0, 1) := by decide +kernel
theorem dL_law_559 : decode cL_law 559 = .ok (.ireturn, 1) := by decide +kernel
theorem dL_law_560 : decode cL_law 560 = .ok (.aload_n 1, 1) := by decide +kernel
theorem dL_law_561 : decode cL_law 561 = .ok (.aload_n 0, 1) := by decide +kernel
theorem dL_law_562 : decode cL_law 562 = .ok (.iload_n 3, 1) := by decide +kernel
theorem dL_law_563 : decode cL_law 563 = .ok (.iconst 1, 1) := by decide +kernel
theorem dL_law_564 : decode cL_law 564 = .ok (.iadd, 1) := by decide +kernel
theorem dL_law_565 : decode cL_law 565 = .ok (.iaload, 1) := by decide +kernel
theorem dL_law_566 : decode cL_law 566 = .ok (.invokevirtual 85, 3) := by decide +kernel
theorem dL_law_569 : decode cL_law 569 = .ok (.aload_n 2, 1) := by decide +kernel
theorem dL_law_570 : decode cL_law 570 = .ok (.aload_n 0, 1) := by decide +kernel
theorem dL_law_571 : decode cL_law 571 = .ok (.iload_n 3, 1) := by decide +kernel
theorem dL_law_572 : decode cL_law 572 = .ok (.iconst 1, 1) := by decide +kernel
theorem dL_law_573 : decode cL_law 573 = .ok (.iadd, 1) := by decide +kernel
theorem dL_law_574 : decode cL_law 574 = .ok (.iaload, 1) := by decide +kernel
theorem dL_law_575 : decode cL_law 575 = .ok (.invokevirtual 88, 3) := by decide +kernel
theorem dL_law_578 : decode cL_law 578 = .ok (.if_icmp .eq 229, 3) := by decide +kernel
theorem dL_law_581 : decode cL_law 581 = .ok (.iconst 0, 1) := by decide +kernel
theorem dL_law_582 : decode cL_law 582 = .ok (.ireturn, 1) := by decide +kernel
theorem dL_law_583 : decode cL_law 583 = .ok (.aload_n 1, 1) := by decide +kernel
theorem dL_law_584 : decode cL_law 584 = .ok (.aload_n 0, 1) := by decide +kernel
theorem dL_law_585 : decode cL_law 585 = .ok (.iload_n 3, 1) := by decide +kernel
theorem dL_law_586 : decode cL_law 586 = .ok (.iconst 1, 1) := by decide +kernel
theorem dL_law_587 : decode cL_law 587 = .ok (.iadd, 1) := by decide +kernel
theorem dL_law_588 : decode cL_law 588 = .ok (.iaload, 1) := by decide +kernel
theorem dL_law_589 : decode cL_law 589 = .ok (.aload_n 0, 1) := by decide +kernel
theorem dL_law_590 : decode cL_law 590 = .ok (.iload_n 3, 1) := by decide +kernel
theorem dL_law_591 : decode cL_law 591 = .ok (.iconst 2, 1) := by decide +kernel
theorem dL_law_592 : decode cL_law 592 = .ok (.iadd, 1) := by decide +kernel
theorem dL_law_593 : decode cL_law 593 = .ok (.iaload, 1) := by decide +kernel
theorem dL_law_594 : decode cL_law 594 = .ok (.invokevirtual 89, 3) := by decide +kernel
theorem dL_law_597 : decode cL_law 597 = .ok (.aload_n 2, 1) := by decide +kernel
theorem dL_law_598 : decode cL_law 598 = .ok (.aload_n 0, 1) := by decide +kernel
theorem dL_law_599 : decode cL_law 599 = .ok (.iload_n 3, 1) := by decide +kernel
theorem dL_law_600 : decode cL_law 600 = .ok (.iconst 1, 1) := by decide +kernel
theorem dL_law_601 : decode cL_law 601 = .ok (.iadd, 1) := by decide +kernel
theorem dL_law_602 : decode cL_law 602 = .ok (.iaload, 1) := by decide +kernel
theorem dL_law_603 : decode cL_law 603 = .ok (.aload_n 0, 1) := by decide +kernel
theorem dL_law_604 : decode cL_law 604 = .ok (.iload_n 3, 1) := by decide +kernel
theorem dL_law_605 : decode cL_law 605 = .ok (.iconst 2, 1) := by decide +kernel
theorem dL_law_606 : decode cL_law 606 = .ok (.iadd, 1) := by decide +kernel
theorem dL_law_607 : decode cL_law 607 = .ok (.iaload, 1) := by decide +kernel
theorem dL_law_608 : decode cL_law 608 = .ok (.invokevirtual 92, 3) := by decide +kernel
theorem dL_law_611 : decode cL_law 611 = .ok (.if_icmp .eq 196, 3) := by decide +kernel
theorem dL_law_614 : decode cL_law 614 = .ok (.iconst 0, 1) := by decide +kernel
theorem dL_law_615 : decode cL_law 615 = .ok (.ireturn, 1) := by decide +kernel
theorem dL_law_616 : decode cL_law 616 = .ok (.aload_n 1, 1) := by decide +kernel
theorem dL_law_617 : decode cL_law 617 = .ok (.aload_n 0, 1) := by decide +kernel
theorem dL_law_618 : decode cL_law 618 = .ok (.iload_n 3, 1) := by decide +kernel
theorem dL_law_619 : decode cL_law 619 = .ok (.iconst 1, 1) := by decide +kernel
theorem dL_law_620 : decode cL_law 620 = .ok (.iadd, 1) := by decide +kernel
theorem dL_law_621 : decode cL_law 621 = .ok (.iaload, 1) := by decide +kernel
theorem dL_law_622 : decode cL_law 622 = .ok (.aload_n 0, 1) := by decide +kernel
theorem dL_law_623 : decode cL_law 623 = .ok (.iload_n 3, 1) := by decide +kernel
theorem dL_law_624 : decode cL_law 624 = .ok (.iconst 2, 1) := by decide +kernel
theorem dL_law_625 : decode cL_law 625 = .ok (.iadd, 1) := by decide +kernel
theorem dL_law_626 : decode cL_law 626 = .ok (.iaload, 1) := by decide +kernel
theorem dL_law_627 : decode cL_law 627 = .ok (.invokevirtual 93, 3) := by decide +kernel
theorem dL_law_630 : decode cL_law 630 = .ok (.aload_n 2, 1) := by decide +kernel
theorem dL_law_631 : decode cL_law 631 = .ok (.aload_n 0, 1) := by decide +kernel
theorem dL_law_632 : decode cL_law 632 = .ok (.iload_n 3, 1) := by decide +kernel
theorem dL_law_633 : decode cL_law 633 = .ok (.iconst 1, 1) := by decide +kernel
theorem dL_law_634 : decode cL_law 634 = .ok (.iadd, 1) := by decide +kernel
theorem dL_law_635 : decode cL_law 635 = .ok (.iaload, 1) := by decide +kernel
theorem dL_law_636 : decode cL_law 636 = .ok (.aload_n 0, 1) := by decide +kernel
theorem dL_law_637 : decode cL_law 637 = .ok (.iload_n 3, 1) := by decide +kernel
theorem dL_law_638 : decode cL_law 638 = .ok (.iconst 2, 1) := by decide +kernel
theorem dL_law_639 : decode cL_law 639 = .ok (.iadd, 1) := by decide +kernel
theorem dL_law_640 : decode cL_law 640 = .ok (.iaload, 1) := by decide +kernel
theorem dL_law_641 : decode cL_law 641 = .ok (.invokevirtual 96, 3) := by decide +kernel
theorem dL_law_644 : decode cL_law 644 = .ok (.if_icmp .eq 163, 3) := by decide +kernel
theorem dL_law_647 : decode cL_law 647 = .ok (.iconst 0, 1) := by decide +kernel
theorem dL_law_648 : decode cL_law 648 = .ok (.ireturn, 1) := by decide +kernel
theorem dL_law_649 : decode cL_law 649 = .ok (.aload_n 1, 1) := by decide +kernel
theorem dL_law_650 : decode cL_law 650 = .ok (.aload_n 0, 1) := by decide +kernel
theorem dL_law_651 : decode cL_law 651 = .ok (.iload_n 3, 1) := by decide +kernel
theorem dL_law_652 : decode cL_law 652 = .ok (.iconst 1, 1) := by decide +kernel
theorem dL_law_653 : decode cL_law 653 = .ok (.iadd, 1) := by decide +kernel
theorem dL_law_654 : decode cL_law 654 = .ok (.iaload, 1) := by decide +kernel
theorem dL_law_655 : decode cL_law 655 = .ok (.aload_n 0, 1) := by decide +kernel
theorem dL_law_656 : decode cL_law 656 = .ok (.iload_n 3, 1) := by decide +kernel
theorem dL_law_657 : decode cL_law 657 = .ok (.iconst 2, 1) := by decide +kernel
theorem dL_law_658 : decode cL_law 658 = .ok (.iadd, 1) := by decide +kernel
theorem dL_law_659 : decode cL_law 659 = .ok (.iaload, 1) := by decide +kernel
theorem dL_law_660 : decode cL_law 660 = .ok (.invokevirtual 97, 3) := by decide +kernel
theorem dL_law_663 : decode cL_law 663 = .ok (.aload_n 2, 1) := by decide +kernel
theorem dL_law_664 : decode cL_law 664 = .ok (.aload_n 0, 1) := by decide +kernel
theorem dL_law_665 : decode cL_law 665 = .ok (.iload_n 3, 1) := by decide +kernel
theorem dL_law_666 : decode cL_law 666 = .ok (.iconst 1, 1) := by decide +kernel
theorem dL_law_667 : decode cL_law 667 = .ok (.iadd, 1) := by decide +kernel
theorem dL_law_668 : decode cL_law 668 = .ok (.iaload, 1) := by decide +kernel
theorem dL_law_669 : decode cL_law 669 = .ok (.aload_n 0, 1) := by decide +kernel
theorem dL_law_670 : decode cL_law 670 = .ok (.iload_n 3, 1) := by decide +kernel
theorem dL_law_671 : decode cL_law 671 = .ok (.iconst 2, 1) := by decide +kernel
theorem dL_law_672 : decode cL_law 672 = .ok (.iadd, 1) := by decide +kernel
theorem dL_law_673 : decode cL_law 673 = .ok (.iaload, 1) := by decide +kernel
theorem dL_law_674 : decode cL_law 674 = .ok (.invokevirtual 100, 3) := by decide +kernel
theorem dL_law_677 : decode cL_law 677 = .ok (.if_icmp .eq 130, 3) := by decide +kernel
theorem dL_law_680 : decode cL_law 680 = .ok (.iconst 0, 1) := by decide +kernel
theorem dL_law_681 : decode cL_law 681 = .ok (.ireturn, 1) := by decide +kernel
theorem dL_law_682 : decode cL_law 682 = .ok (.aload_n 1, 1) := by decide +kernel
theorem dL_law_683 : decode cL_law 683 = .ok (.invokevirtual 101, 3) := by decide +kernel
theorem dL_law_686 : decode cL_law 686 = .ok (.aload_n 2, 1) := by decide +kernel
theorem dL_law_687 : decode cL_law 687 = .ok (.invokevirtual 104, 3) := by decide +kernel
theorem dL_law_690 : decode cL_law 690 = .ok (.if_icmp .eq 117, 3) := by decide +kernel
theorem dL_law_693 : decode cL_law 693 = .ok (.iconst 0, 1) := by decide +kernel
theorem dL_law_694 : decode cL_law 694 = .ok (.ireturn, 1) := by decide +kernel
theorem dL_law_695 : decode cL_law 695 = .ok (.aload_n 1, 1) := by decide +kernel
theorem dL_law_696 : decode cL_law 696 = .ok (.invokevirtual 105, 3) := by decide +kernel
theorem dL_law_699 : decode cL_law 699 = .ok (.aload_n 2, 1) := by decide +kernel
theorem dL_law_700 : decode cL_law 700 = .ok (.invokevirtual 108, 3) := by decide +kernel
theorem dL_law_703 : decode cL_law 703 = .ok (.if_icmp .eq 104, 3) := by decide +kernel
theorem dL_law_706 : decode cL_law 706 = .ok (.iconst 0, 1) := by decide +kernel
theorem dL_law_707 : decode cL_law 707 = .ok (.ireturn, 1) := by decide +kernel
theorem dL_law_708 : decode cL_law 708 = .ok (.aload_n 1, 1) := by decide +kernel
theorem dL_law_709 : decode cL_law 709 = .ok (.aload_n 0, 1) := by decide +kernel
theorem dL_law_710 : decode cL_law 710 = .ok (.iload_n 3, 1) := by decide +kernel
theorem dL_law_711 : decode cL_law 711 = .ok (.iconst 1, 1) := by decide +kernel
theorem dL_law_712 : decode cL_law 712 = .ok (.iadd, 1) := by decide +kernel
theorem dL_law_713 : decode cL_law 713 = .ok (.iaload, 1) := by decide +kernel
theorem dL_law_714 : decode cL_law 714 = .ok (.invokevirtual 109, 3) := by decide +kernel
theorem dL_law_717 : decode cL_law 717 = .ok (.aload_n 2, 1) := by decide +kernel
theorem dL_law_718 : decode cL_law 718 = .ok (.aload_n 0, 1) := by decide +kernel
theorem dL_law_719 : decode cL_law 719 = .ok (.iload_n 3, 1) := by decide +kernel
theorem dL_law_720 : decode cL_law 720 = .ok (.iconst 1, 1) := by decide +kernel
theorem dL_law_721 : decode cL_law 721 = .ok (.iadd, 1) := by decide +kernel
theorem dL_law_722 : decode cL_law 722 = .ok (.iaload, 1) := by decide +kernel
theorem dL_law_723 : decode cL_law 723 = .ok (.invokevirtual 112, 3) := by decide +kernel
theorem dL_law_726 : decode cL_law 726 = .ok (.if_icmp .eq 81, 3) := by decide +kernel
theorem dL_law_729 : decode cL_law 729 = .ok (.iconst 0, 1) := by decide +kernel
theorem dL_law_730 : decode cL_law 730 = .ok (.ireturn, 1) := by decide +kernel
theorem dL_law_731 : decode cL_law 731 = .ok (.aload_n 1, 1) := by decide +kernel
theorem dL_law_732 : decode cL_law 732 = .ok (.invokevirtual 113, 3) := by decide +kernel
theorem dL_law_735 : decode cL_law 735 = .ok (.aload_n 2, 1) := by decide +kernel
theorem dL_law_736 : decode cL_law 736 = .ok (.invokevirtual 116, 3) := by decide +kernel
theorem dL_law_739 : decode cL_law 739 = .ok (.if_icmp .eq 68, 3) := by decide +kernel
theorem dL_law_742 : decode cL_law 742 = .ok (.iconst 0, 1) := by decide +kernel
theorem dL_law_743 : decode cL_law 743 = .ok (.ireturn, 1) := by decide +kernel
theorem dL_law_744 : decode cL_law 744 = .ok (.aload_n 1, 1) := by decide +kernel
theorem dL_law_745 : decode cL_law 745 = .ok (.invokevirtual 117, 3) := by decide +kernel
theorem dL_law_748 : decode cL_law 748 = .ok (.aload_n 2, 1) := by decide +kernel
theorem dL_law_749 : decode cL_law 749 = .ok (.invokevirtual 120, 3) := by decide +kernel
theorem dL_law_752 : decode cL_law 752 = .ok (.if_icmp .eq 55, 3) := by decide +kernel
theorem dL_law_755 : decode cL_law 755 = .ok (.iconst 0, 1) := by decide +kernel
theorem dL_law_756 : decode cL_law 756 = .ok (.ireturn, 1) := by decide +kernel
theorem dL_law_757 : decode cL_law 757 = .ok (.aload_n 1, 1) := by decide +kernel
theorem dL_law_758 : decode cL_law 758 = .ok (.invokevirtual 121, 3) := by decide +kernel
theorem dL_law_761 : decode cL_law 761 = .ok (.aload_n 2, 1) := by decide +kernel
theorem dL_law_762 : decode cL_law 762 = .ok (.invokevirtual 124, 3) := by decide +kernel
theorem dL_law_765 : decode cL_law 765 = .ok (.if_icmp .eq 42, 3) := by decide +kernel
theorem dL_law_768 : decode cL_law 768 = .ok (.iconst 0, 1) := by decide +kernel
theorem dL_law_769 : decode cL_law 769 = .ok (.ireturn, 1) := by decide +kernel
theorem dL_law_770 : decode cL_law 770 = .ok (.aload_n 1, 1) := by decide +kernel
theorem dL_law_771 : decode cL_law 771 = .ok (.aload_n 0, 1) := by decide +kernel
theorem dL_law_772 : decode cL_law 772 = .ok (.iload_n 3, 1) := by decide +kernel
theorem dL_law_773 : decode cL_law 773 = .ok (.iconst 1, 1) := by decide +kernel
theorem dL_law_774 : decode cL_law 774 = .ok (.iadd, 1) := by decide +kernel
theorem dL_law_775 : decode cL_law 775 = .ok (.iaload, 1) := by decide +kernel
theorem dL_law_776 : decode cL_law 776 = .ok (.invokevirtual 125, 3) := by decide +kernel
theorem dL_law_779 : decode cL_law 779 = .ok (.aload_n 2, 1) := by decide +kernel
theorem dL_law_780 : decode cL_law 780 = .ok (.aload_n 0, 1) := by decide +kernel
theorem dL_law_781 : decode cL_law 781 = .ok (.iload_n 3, 1) := by decide +kernel
theorem dL_law_782 : decode cL_law 782 = .ok (.iconst 1, 1) := by decide +kernel
theorem dL_law_783 : decode cL_law 783 = .ok (.iadd, 1) := by decide +kernel
theorem dL_law_784 : decode cL_law 784 = .ok (.iaload, 1) := by decide +kernel
theorem dL_law_785 : decode cL_law 785 = .ok (.invokevirtual 128, 3) := by decide +kernel
theorem dL_law_788 : decode cL_law 788 = .ok (.if_icmp .eq 19, 3) := by decide +kernel
theorem dL_law_791 : decode cL_law 791 = .ok (.iconst 0, 1) := by decide +kernel
theorem dL_law_792 : decode cL_law 792 = .ok (.ireturn, 1) := by decide +kernel
theorem dL_law_793 : decode cL_law 793 = .ok (.aload_n 1, 1) := by decide +kernel
theorem dL_law_794 : decode cL_law 794 = .ok (.invokevirtual 129, 3) := by decide +kernel
theorem dL_law_797 : decode cL_law 797 = .ok (.aload_n 2, 1) := by decide +kernel
theorem dL_law_798 : decode cL_law 798 = .ok (.invokevirtual 133, 3) := by decide +kernel
theorem dL_law_801 : decode cL_law 801 = .ok (.lcmp, 1) := by decide +kernel
theorem dL_law_802 : decode cL_law 802 = .ok (.ifCond .eq 5, 3) := by decide +kernel
theorem dL_law_805 : decode cL_law 805 = .ok (.iconst 0, 1) := by decide +kernel
theorem dL_law_806 : decode cL_law 806 = .ok (.ireturn, 1) := by decide +kernel
theorem dL_law_807 : decode cL_law 807 = .ok (.iinc 3 3, 3) := by decide +kernel
theorem dL_law_810 : decode cL_law 810 = .ok (.goto (-792), 3) := by decide +kernel
theorem dL_law_813 : decode cL_law 813 = .ok (.iconst 1, 1) := by decide +kernel
theorem dL_law_814 : decode cL_law 814 = .ok (.ireturn, 1) := by decide +kernel
end
section
/-! ===== answers: a function of the store (nothing changes), an int, a long, none ===== -/
def vx_i (b : Bool) : Int32 := if b = true then 1 else 0
theorem vx_i_b (b : Bool) : vx_b01 (vx_i b) = vx_i b := by cases b <;> rfl
theorem vx_b_b (x : Int32) : vx_b01 (vx_b01 x) = vx_b01 x := by
  unfold vx_b01
  split <;> rfl
theorem vx_i_0 {b : Bool} : vx_i b = 0 ↔ b = false := by cases b <;> decide
theorem vx_i_1 {b : Bool} : ¬ vx_i b = 0 ↔ b = true := by cases b <;> decide
theorem vx_b_0 {x : Int32} : vx_b01 x = 0 ↔ x = 0 := by
  unfold vx_b01
  split
  · rename_i h
    exact ⟨fun _ => h, fun _ => rfl⟩
  · rename_i h
    exact ⟨fun q => absurd q (by decide), fun q => absurd q h⟩
def vx_pf (F : Int32) (S : vx_St) : Option Value → vx_St → Prop := fun v S' => v = some (.int F) ∧ S' = S
def vx_pi (P : Int32 → vx_St → Prop) : Option Value → vx_St → Prop := fun v S' => ∃ r : Int32, v = some (.int r) ∧ P r S'
def vx_pl (P : Int64 → vx_St → Prop) : Option Value → vx_St → Prop := fun v S' => ∃ r : Int64, v = some (.long r) ∧ P r S'
def vx_pv (P : vx_St → Prop) : Option Value → vx_St → Prop := fun v S' => v = none ∧ P S'
section VW
variable {p : Program} {l : Launch} {e : Env} {R : Room} {s : State} {m : MethodId} {args : Array Value} {below : List Frame} {meth : Method} {c : Code} {Q : State → Prop} {g : vx_G} {nL pc : Nat} {L L' : List (Nat × Value)} {st : List Value} {S : vx_St} {own : String} {cc : ByteArray} {ret : Option FieldType}
theorem vv_fret (C : vx_C p s m args meth c own cc nL (some .int) g) {v F : Int32} (hd : decode cc pc = .ok (.ireturn, 1)) (h : v = F) : vx_V p l e R s m args below meth c (MQ below (vx_Q g (vx_pf F S)) args s 0 0 (vx_A g)) g nL pc L [.int v] S := vv_iret C hd ⟨by rw [h], rfl⟩
theorem vv_fzret (C : vx_C p s m args meth c own cc nL (some .boolean) g) {v F : Int32} (hd : decode cc pc = .ok (.ireturn, 1)) (hv : vx_b01 v = v) (h : v = F) : vx_V p l e R s m args below meth c (MQ below (vx_Q g (vx_pf F S)) args s 0 0 (vx_A g)) g nL pc L [.int v] S := vv_zret C hd hv ⟨by rw [h], rfl⟩
theorem vv_jret (C : vx_C p s m args meth c own cc nL (some .int) g) {v : Int32} {P : Int32 → vx_St → Prop} (hd : decode cc pc = .ok (.ireturn, 1)) (h : P v S) : vx_V p l e R s m args below meth c (MQ below (vx_Q g (vx_pi P)) args s 0 0 (vx_A g)) g nL pc L [.int v] S := vv_iret C hd ⟨v, rfl, h⟩
theorem vv_llret (C : vx_C p s m args meth c own cc nL (some .long) g) {v : Int64} {P : Int64 → vx_St → Prop} (hd : decode cc pc = .ok (.lreturn, 1)) (h : P v S) : vx_V p l e R s m args below meth c (MQ below (vx_Q g (vx_pl P)) args s 0 0 (vx_A g)) g nL pc L [.long v] S := vv_lret C hd ⟨v, rfl, h⟩
theorem vv_nret (C : vx_C p s m args meth c own cc nL (none) g) {P : vx_St → Prop} (hd : decode cc pc = .ok (.return_, 1)) (h : P S) : vx_V p l e R s m args below meth c (MQ below (vx_Q g (vx_pv P)) args s 0 0 (vx_A g)) g nL pc L [] S := vv_vret C hd ⟨rfl, h⟩
theorem vv_ifb_eq (C : vx_C p s m args meth c own cc nL ret g) {b : Bool} {off : Int} {tgt : Nat} (hd : decode cc pc = .ok (.ifCond .eq off, 3)) (ht : (pc : Int) + off = (tgt : Int)) (kt : b = false → vx_V p l e R s m args below meth c Q g nL tgt L st S) (kf : b = true → vx_V p l e R s m args below meth c Q g nL (pc + 3) L st S) : vx_V p l e R s m args below meth c Q g nL pc L (.int (vx_i b) :: st) S := vv_if_eq C hd ht (fun h => kt (vx_i_0.mp h)) (fun h => kf (vx_i_1.mp h))
theorem vv_ifb_ne (C : vx_C p s m args meth c own cc nL ret g) {b : Bool} {off : Int} {tgt : Nat} (hd : decode cc pc = .ok (.ifCond .ne off, 3)) (ht : (pc : Int) + off = (tgt : Int)) (kt : b = true → vx_V p l e R s m args below meth c Q g nL tgt L st S) (kf : b = false → vx_V p l e R s m args below meth c Q g nL (pc + 3) L st S) : vx_V p l e R s m args below meth c Q g nL pc L (.int (vx_i b) :: st) S := vv_if_ne C hd ht (fun h => kt (vx_i_1.mp h)) (fun h => kf (vx_i_0.mp h))
theorem vv_ifz_eq (C : vx_C p s m args meth c own cc nL ret g) {x : Int32} {off : Int} {tgt : Nat} (hd : decode cc pc = .ok (.ifCond .eq off, 3)) (ht : (pc : Int) + off = (tgt : Int)) (kt : x = 0 → vx_V p l e R s m args below meth c Q g nL tgt L st S) (kf : ¬ x = 0 → vx_V p l e R s m args below meth c Q g nL (pc + 3) L st S) : vx_V p l e R s m args below meth c Q g nL pc L (.int (vx_b01 x) :: st) S := vv_if_eq C hd ht (fun h => kt (vx_b_0.mp h)) (fun h => kf (fun q => h (vx_b_0.mpr q)))
theorem vv_ifz_ne (C : vx_C p s m args meth c own cc nL ret g) {x : Int32} {off : Int} {tgt : Nat} (hd : decode cc pc = .ok (.ifCond .ne off, 3)) (ht : (pc : Int) + off = (tgt : Int)) (kt : ¬ x = 0 → vx_V p l e R s m args below meth c Q g nL tgt L st S) (kf : x = 0 → vx_V p l e R s m args below meth c Q g nL (pc + 3) L st S) : vx_V p l e R s m args below meth c Q g nL pc L (.int (vx_b01 x) :: st) S := vv_if_ne C hd ht (fun h => kt (fun q => h (vx_b_0.mpr q))) (fun h => kf (vx_b_0.mp h))
theorem vv_ialdN (C : vx_C p s m args meth c own cc nL ret g) {a n i : Nat} (hsh : vx_SH[a]? = some (.inl (0, n))) (hi : i < n) (hn : n < 100) (hd : decode cc pc = .ok (.iaload, 1)) (kk : vx_V p l e R s m args below meth c Q g nL (pc + 1) L (.int (S.1 a i) :: st) S) : vx_V p l e R s m args below meth c Q g nL pc L (.int (nI i) :: .ref (g.2.2.1 a) :: st) S := vv_iald C hsh (vp_in_nI hi (by omega)) hd (by rw [nI_clamp (by omega)]; exact kk)
theorem vv_baldN (C : vx_C p s m args meth c own cc nL ret g) {a n i : Nat} (hsh : vx_SH[a]? = some (.inl (1, n))) (hi : i < n) (hn : n < 100) (hd : decode cc pc = .ok (.baload, 1)) (kk : vx_V p l e R s m args below meth c Q g nL (pc + 1) L (.int (S.1 a i) :: st) S) : vx_V p l e R s m args below meth c Q g nL pc L (.int (nI i) :: .ref (g.2.2.1 a) :: st) S := vv_bald C hsh (vp_in_nI hi (by omega)) hd (by rw [nI_clamp (by omega)]; exact kk)
theorem vv_iastN (C : vx_C p s m args meth c own cc nL ret g) {a n i : Nat} {x : Int32} (hsh : vx_SH[a]? = some (.inl (0, n))) (hi : i < n) (hn : n < 100) (hd : decode cc pc = .ok (.iastore, 1)) (kk : vx_V p l e R s m args below meth c Q g nL (pc + 1) L st (vx_u S a i x)) : vx_V p l e R s m args below meth c Q g nL pc L (.int x :: .int (nI i) :: .ref (g.2.2.1 a) :: st) S := vv_iast C hsh (vp_in_nI hi (by omega)) hd (by rw [nI_clamp (by omega)]; exact kk)
theorem vv_bastN (C : vx_C p s m args meth c own cc nL ret g) {a n i : Nat} {x : Int32} (hsh : vx_SH[a]? = some (.inl (1, n))) (hi : i < n) (hn : n < 100) (hd : decode cc pc = .ok (.bastore, 1)) (kk : vx_V p l e R s m args below meth c Q g nL (pc + 1) L st (vx_u S a i (vp_nar .byte x))) : vx_V p l e R s m args below meth c Q g nL pc L (.int x :: .int (nI i) :: .ref (g.2.2.1 a) :: st) S := vv_bast C hsh (vp_in_nI hi (by omega)) hd (by rw [nI_clamp (by omega)]; exact kk)
theorem vx_of1 : Int32.ofInt 1 = 1 := by decide
theorem vv_iincN (C : vx_C p s m args meth c own cc nL ret g) {i j n : Nat} (hd : decode cc pc = .ok (.iinc i 1, 3)) (hk : L[j]? = some (i, .int (nI n))) (hn : i < nL) (hl : (i, Value.int (nI (n + 1))) :: L.filter (fun q => !(q.1 == i) && !(q.1 + 1 == i && q.2.category == 2)) = L') (kk : vx_V p l e R s m args below meth c Q g nL (pc + 3) L' st S) : vx_V p l e R s m args below meth c Q g nL pc L st S := vv_iinc C hd hk (by rw [vx_of1, nI_1]) hn hl kk
theorem vv_gR (C : vx_C p s m args meth c own cc nL ret g) {a k ci o b index : Nat} {fs : List (Nat ⊕ Nat)} {Cn : String} {T : u_T} {N : Nat} (hin : ∀ w ∈ u_ws Cn T N, w ∈ wsL_law) (hsh : vx_SH[a]? = some (.inr (ci, fs))) (hk : fs[k]? = some (.inr o)) (hb : a + o = b) (hcl : vx_Cl[ci]? = some (Cn, T, N)) (hkN : k < N) (hT : (T k).1 = Cn) (hlink : Cond.fieldLink own index Cn (T k).2.1 (T k).2.2.1 ∈ wsL_law) (hd : decode cc pc = .ok (.getfield index, 3)) (kk : vx_V p l e R s m args below meth c Q g nL (pc + 3) L (.ref (g.2.2.1 b) :: st) S) : vx_V p l e R s m args below meth c Q g nL pc L (.ref (g.2.2.1 a) :: st) S := vv_getR C hin hsh hk hcl hkN hT hlink hd (by rw [hb]; exact kk)
theorem vv_gRN (C : vx_C p s m args meth c own cc nL ret g) {host : String} {a k ci o b index : Nat} {fs : List (Nat ⊕ Nat)} {Cn : String} {T : u_T} {N : Nat} (hin : ∀ w ∈ u_ws Cn T N, w ∈ wsL_law) (hsh : vx_SH[a]? = some (.inr (ci, fs))) (hk : fs[k]? = some (.inr o)) (hb : a + o = b) (hcl : vx_Cl[ci]? = some (Cn, T, N)) (hkN : k < N) (hT : (T k).1 = Cn) (hlink : Cond.fieldLinkNest own index Cn (T k).2.1 (T k).2.2.1 host ∈ vx_nest) (hd : decode cc pc = .ok (.getfield index, 3)) (kk : vx_V p l e R s m args below meth c Q g nL (pc + 3) L (.ref (g.2.2.1 b) :: st) S) : vx_V p l e R s m args below meth c Q g nL pc L (.ref (g.2.2.1 a) :: st) S := vv_getRN C hin hsh hk hcl hkN hT hlink hd (by rw [hb]; exact kk)
variable {y : MethodName} {bytes : ByteArray} {maxL n index fa fb FA FB : Nat} {retY : Option FieldType} {As rest : List Value} {a ci : Nat} {fs : List (Nat ⊕ Nat)} {q : vw_C} {host : String}
theorem vv_cV_F (C : vx_C p s m args meth c own cc nL ret g) {F : Int32} (hM : vx_M l g y bytes maxL retY (vx_R fa fb) (.ref (g.2.2.1 a) :: As) S (vx_pf F S)) (hy : vx_yV y bytes maxL retY n) (hl : Cond.methodLink own index y ∈ wsL_law) (hsh : vx_SH[a]? = some (.inr (ci, fs))) (hcl : vx_Cl[ci]? = some q) (hq : q.1 = y.cls) (hR : fa + 1 ≤ FA ∧ 8 + (maxL + 11) + fb ≤ FB) (hn : As.length = n) (hW : (rest.map fun v => v.category).sum ≤ 8) (hst : st = As.reverse ++ .ref (g.2.2.1 a) :: rest) (hd : decode cc pc = .ok (.invokevirtual index, 3)) (kk : vx_V p l e (vx_R FA FB) s m args below meth c Q g nL (pc + 3) L (.int F :: rest) S) : vx_V p l e (vx_R FA FB) s m args below meth c Q g nL pc L st S := vv_callV C hM hy hl hsh hcl hq hR hn hW hst hd (fun v S' h => by obtain ⟨rfl, rfl⟩ := h; exact kk)
theorem vv_cV_i (C : vx_C p s m args meth c own cc nL ret g) {P : Int32 → vx_St → Prop} (hM : vx_M l g y bytes maxL retY (vx_R fa fb) (.ref (g.2.2.1 a) :: As) S (vx_pi P)) (hy : vx_yV y bytes maxL retY n) (hl : Cond.methodLink own index y ∈ wsL_law) (hsh : vx_SH[a]? = some (.inr (ci, fs))) (hcl : vx_Cl[ci]? = some q) (hq : q.1 = y.cls) (hR : fa + 1 ≤ FA ∧ 8 + (maxL + 11) + fb ≤ FB) (hn : As.length = n) (hW : (rest.map fun v => v.category).sum ≤ 8) (hst : st = As.reverse ++ .ref (g.2.2.1 a) :: rest) (hd : decode cc pc = .ok (.invokevirtual index, 3)) (kk : ∀ r S', P r S' → vx_V p l e (vx_R FA FB) s m args below meth c Q g nL (pc + 3) L (.int r :: rest) S') : vx_V p l e (vx_R FA FB) s m args below meth c Q g nL pc L st S := vv_callV C hM hy hl hsh hcl hq hR hn hW hst hd (fun v S' h => by obtain ⟨r, rfl, h⟩ := h; exact kk r S' h)
theorem vv_cV_l (C : vx_C p s m args meth c own cc nL ret g) {P : Int64 → vx_St → Prop} (hM : vx_M l g y bytes maxL retY (vx_R fa fb) (.ref (g.2.2.1 a) :: As) S (vx_pl P)) (hy : vx_yV y bytes maxL retY n) (hl : Cond.methodLink own index y ∈ wsL_law) (hsh : vx_SH[a]? = some (.inr (ci, fs))) (hcl : vx_Cl[ci]? = some q) (hq : q.1 = y.cls) (hR : fa + 1 ≤ FA ∧ 8 + (maxL + 11) + fb ≤ FB) (hn : As.length = n) (hW : (rest.map fun v => v.category).sum ≤ 8) (hst : st = As.reverse ++ .ref (g.2.2.1 a) :: rest) (hd : decode cc pc = .ok (.invokevirtual index, 3)) (kk : ∀ r S', P r S' → vx_V p l e (vx_R FA FB) s m args below meth c Q g nL (pc + 3) L (.long r :: rest) S') : vx_V p l e (vx_R FA FB) s m args below meth c Q g nL pc L st S := vv_callV C hM hy hl hsh hcl hq hR hn hW hst hd (fun v S' h => by obtain ⟨r, rfl, h⟩ := h; exact kk r S' h)
theorem vv_cV_v (C : vx_C p s m args meth c own cc nL ret g) {P : vx_St → Prop} (hM : vx_M l g y bytes maxL retY (vx_R fa fb) (.ref (g.2.2.1 a) :: As) S (vx_pv P)) (hy : vx_yV y bytes maxL retY n) (hl : Cond.methodLink own index y ∈ wsL_law) (hsh : vx_SH[a]? = some (.inr (ci, fs))) (hcl : vx_Cl[ci]? = some q) (hq : q.1 = y.cls) (hR : fa + 1 ≤ FA ∧ 8 + (maxL + 11) + fb ≤ FB) (hn : As.length = n) (hW : (rest.map fun v => v.category).sum ≤ 8) (hst : st = As.reverse ++ .ref (g.2.2.1 a) :: rest) (hd : decode cc pc = .ok (.invokevirtual index, 3)) (kk : ∀ S', P S' → vx_V p l e (vx_R FA FB) s m args below meth c Q g nL (pc + 3) L rest S') : vx_V p l e (vx_R FA FB) s m args below meth c Q g nL pc L st S := vv_callV C hM hy hl hsh hcl hq hR hn hW hst hd (fun v S' h => by obtain ⟨rfl, h⟩ := h; exact kk S' h)
theorem vv_cVN_F (C : vx_C p s m args meth c own cc nL ret g) {F : Int32} (hM : vx_M l g y bytes maxL retY (vx_R fa fb) (.ref (g.2.2.1 a) :: As) S (vx_pf F S)) (hy : vx_yV y bytes maxL retY n) (hl : Cond.methodLinkNest own index y host ∈ vx_nest) (hsh : vx_SH[a]? = some (.inr (ci, fs))) (hcl : vx_Cl[ci]? = some q) (hq : q.1 = y.cls) (hR : fa + 1 ≤ FA ∧ 8 + (maxL + 11) + fb ≤ FB) (hn : As.length = n) (hW : (rest.map fun v => v.category).sum ≤ 8) (hst : st = As.reverse ++ .ref (g.2.2.1 a) :: rest) (hd : decode cc pc = .ok (.invokevirtual index, 3)) (kk : vx_V p l e (vx_R FA FB) s m args below meth c Q g nL (pc + 3) L (.int F :: rest) S) : vx_V p l e (vx_R FA FB) s m args below meth c Q g nL pc L st S := vv_callVN C hM hy hl hsh hcl hq hR hn hW hst hd (fun v S' h => by obtain ⟨rfl, rfl⟩ := h; exact kk)
theorem vv_cVN_i (C : vx_C p s m args meth c own cc nL ret g) {P : Int32 → vx_St → Prop} (hM : vx_M l g y bytes maxL retY (vx_R fa fb) (.ref (g.2.2.1 a) :: As) S (vx_pi P)) (hy : vx_yV y bytes maxL retY n) (hl : Cond.methodLinkNest own index y host ∈ vx_nest) (hsh : vx_SH[a]? = some (.inr (ci, fs))) (hcl : vx_Cl[ci]? = some q) (hq : q.1 = y.cls) (hR : fa + 1 ≤ FA ∧ 8 + (maxL + 11) + fb ≤ FB) (hn : As.length = n) (hW : (rest.map fun v => v.category).sum ≤ 8) (hst : st = As.reverse ++ .ref (g.2.2.1 a) :: rest) (hd : decode cc pc = .ok (.invokevirtual index, 3)) (kk : ∀ r S', P r S' → vx_V p l e (vx_R FA FB) s m args below meth c Q g nL (pc + 3) L (.int r :: rest) S') : vx_V p l e (vx_R FA FB) s m args below meth c Q g nL pc L st S := vv_callVN C hM hy hl hsh hcl hq hR hn hW hst hd (fun v S' h => by obtain ⟨r, rfl, h⟩ := h; exact kk r S' h)
theorem vv_cVN_l (C : vx_C p s m args meth c own cc nL ret g) {P : Int64 → vx_St → Prop} (hM : vx_M l g y bytes maxL retY (vx_R fa fb) (.ref (g.2.2.1 a) :: As) S (vx_pl P)) (hy : vx_yV y bytes maxL retY n) (hl : Cond.methodLinkNest own index y host ∈ vx_nest) (hsh : vx_SH[a]? = some (.inr (ci, fs))) (hcl : vx_Cl[ci]? = some q) (hq : q.1 = y.cls) (hR : fa + 1 ≤ FA ∧ 8 + (maxL + 11) + fb ≤ FB) (hn : As.length = n) (hW : (rest.map fun v => v.category).sum ≤ 8) (hst : st = As.reverse ++ .ref (g.2.2.1 a) :: rest) (hd : decode cc pc = .ok (.invokevirtual index, 3)) (kk : ∀ r S', P r S' → vx_V p l e (vx_R FA FB) s m args below meth c Q g nL (pc + 3) L (.long r :: rest) S') : vx_V p l e (vx_R FA FB) s m args below meth c Q g nL pc L st S := vv_callVN C hM hy hl hsh hcl hq hR hn hW hst hd (fun v S' h => by obtain ⟨r, rfl, h⟩ := h; exact kk r S' h)
theorem vv_cVN_v (C : vx_C p s m args meth c own cc nL ret g) {P : vx_St → Prop} (hM : vx_M l g y bytes maxL retY (vx_R fa fb) (.ref (g.2.2.1 a) :: As) S (vx_pv P)) (hy : vx_yV y bytes maxL retY n) (hl : Cond.methodLinkNest own index y host ∈ vx_nest) (hsh : vx_SH[a]? = some (.inr (ci, fs))) (hcl : vx_Cl[ci]? = some q) (hq : q.1 = y.cls) (hR : fa + 1 ≤ FA ∧ 8 + (maxL + 11) + fb ≤ FB) (hn : As.length = n) (hW : (rest.map fun v => v.category).sum ≤ 8) (hst : st = As.reverse ++ .ref (g.2.2.1 a) :: rest) (hd : decode cc pc = .ok (.invokevirtual index, 3)) (kk : ∀ S', P S' → vx_V p l e (vx_R FA FB) s m args below meth c Q g nL (pc + 3) L rest S') : vx_V p l e (vx_R FA FB) s m args below meth c Q g nL pc L st S := vv_callVN C hM hy hl hsh hcl hq hR hn hW hst hd (fun v S' h => by obtain ⟨rfl, h⟩ := h; exact kk S' h)
theorem vv_cS_F (C : vx_C p s m args meth c own cc nL ret g) {F : Int32} (hM : vx_M l g y bytes maxL retY (vx_R fa fb) (As) S (vx_pf F S)) (hy : vx_yS y bytes maxL retY n) (hl : Cond.methodLink own index y ∈ wsL_law)  (hR : fa + 1 ≤ FA ∧ 8 + (maxL + 11) + fb ≤ FB) (hn : As.length = n) (hW : (rest.map fun v => v.category).sum ≤ 8) (hst : st = As.reverse ++ rest) (hd : decode cc pc = .ok (.invokestatic index, 3)) (kk : vx_V p l e (vx_R FA FB) s m args below meth c Q g nL (pc + 3) L (.int F :: rest) S) : vx_V p l e (vx_R FA FB) s m args below meth c Q g nL pc L st S := vv_callS C hM hy hl hR hn hW hst hd (fun v S' h => by obtain ⟨rfl, rfl⟩ := h; exact kk)
theorem vv_cS_i (C : vx_C p s m args meth c own cc nL ret g) {P : Int32 → vx_St → Prop} (hM : vx_M l g y bytes maxL retY (vx_R fa fb) (As) S (vx_pi P)) (hy : vx_yS y bytes maxL retY n) (hl : Cond.methodLink own index y ∈ wsL_law)  (hR : fa + 1 ≤ FA ∧ 8 + (maxL + 11) + fb ≤ FB) (hn : As.length = n) (hW : (rest.map fun v => v.category).sum ≤ 8) (hst : st = As.reverse ++ rest) (hd : decode cc pc = .ok (.invokestatic index, 3)) (kk : ∀ r S', P r S' → vx_V p l e (vx_R FA FB) s m args below meth c Q g nL (pc + 3) L (.int r :: rest) S') : vx_V p l e (vx_R FA FB) s m args below meth c Q g nL pc L st S := vv_callS C hM hy hl hR hn hW hst hd (fun v S' h => by obtain ⟨r, rfl, h⟩ := h; exact kk r S' h)
theorem vv_cS_l (C : vx_C p s m args meth c own cc nL ret g) {P : Int64 → vx_St → Prop} (hM : vx_M l g y bytes maxL retY (vx_R fa fb) (As) S (vx_pl P)) (hy : vx_yS y bytes maxL retY n) (hl : Cond.methodLink own index y ∈ wsL_law)  (hR : fa + 1 ≤ FA ∧ 8 + (maxL + 11) + fb ≤ FB) (hn : As.length = n) (hW : (rest.map fun v => v.category).sum ≤ 8) (hst : st = As.reverse ++ rest) (hd : decode cc pc = .ok (.invokestatic index, 3)) (kk : ∀ r S', P r S' → vx_V p l e (vx_R FA FB) s m args below meth c Q g nL (pc + 3) L (.long r :: rest) S') : vx_V p l e (vx_R FA FB) s m args below meth c Q g nL pc L st S := vv_callS C hM hy hl hR hn hW hst hd (fun v S' h => by obtain ⟨r, rfl, h⟩ := h; exact kk r S' h)
theorem vv_cS_v (C : vx_C p s m args meth c own cc nL ret g) {P : vx_St → Prop} (hM : vx_M l g y bytes maxL retY (vx_R fa fb) (As) S (vx_pv P)) (hy : vx_yS y bytes maxL retY n) (hl : Cond.methodLink own index y ∈ wsL_law)  (hR : fa + 1 ≤ FA ∧ 8 + (maxL + 11) + fb ≤ FB) (hn : As.length = n) (hW : (rest.map fun v => v.category).sum ≤ 8) (hst : st = As.reverse ++ rest) (hd : decode cc pc = .ok (.invokestatic index, 3)) (kk : ∀ S', P S' → vx_V p l e (vx_R FA FB) s m args below meth c Q g nL (pc + 3) L rest S') : vx_V p l e (vx_R FA FB) s m args below meth c Q g nL pc L st S := vv_callS C hM hy hl hR hn hW hst hd (fun v S' h => by obtain ⟨rfl, h⟩ := h; exact kk S' h)
theorem vv_cSN_F (C : vx_C p s m args meth c own cc nL ret g) {F : Int32} (hM : vx_M l g y bytes maxL retY (vx_R fa fb) (As) S (vx_pf F S)) (hy : vx_yS y bytes maxL retY n) (hl : Cond.methodLinkNest own index y host ∈ vx_nest)  (hR : fa + 1 ≤ FA ∧ 8 + (maxL + 11) + fb ≤ FB) (hn : As.length = n) (hW : (rest.map fun v => v.category).sum ≤ 8) (hst : st = As.reverse ++ rest) (hd : decode cc pc = .ok (.invokestatic index, 3)) (kk : vx_V p l e (vx_R FA FB) s m args below meth c Q g nL (pc + 3) L (.int F :: rest) S) : vx_V p l e (vx_R FA FB) s m args below meth c Q g nL pc L st S := vv_callSN C hM hy hl hR hn hW hst hd (fun v S' h => by obtain ⟨rfl, rfl⟩ := h; exact kk)
theorem vv_cSN_i (C : vx_C p s m args meth c own cc nL ret g) {P : Int32 → vx_St → Prop} (hM : vx_M l g y bytes maxL retY (vx_R fa fb) (As) S (vx_pi P)) (hy : vx_yS y bytes maxL retY n) (hl : Cond.methodLinkNest own index y host ∈ vx_nest)  (hR : fa + 1 ≤ FA ∧ 8 + (maxL + 11) + fb ≤ FB) (hn : As.length = n) (hW : (rest.map fun v => v.category).sum ≤ 8) (hst : st = As.reverse ++ rest) (hd : decode cc pc = .ok (.invokestatic index, 3)) (kk : ∀ r S', P r S' → vx_V p l e (vx_R FA FB) s m args below meth c Q g nL (pc + 3) L (.int r :: rest) S') : vx_V p l e (vx_R FA FB) s m args below meth c Q g nL pc L st S := vv_callSN C hM hy hl hR hn hW hst hd (fun v S' h => by obtain ⟨r, rfl, h⟩ := h; exact kk r S' h)
theorem vv_cSN_l (C : vx_C p s m args meth c own cc nL ret g) {P : Int64 → vx_St → Prop} (hM : vx_M l g y bytes maxL retY (vx_R fa fb) (As) S (vx_pl P)) (hy : vx_yS y bytes maxL retY n) (hl : Cond.methodLinkNest own index y host ∈ vx_nest)  (hR : fa + 1 ≤ FA ∧ 8 + (maxL + 11) + fb ≤ FB) (hn : As.length = n) (hW : (rest.map fun v => v.category).sum ≤ 8) (hst : st = As.reverse ++ rest) (hd : decode cc pc = .ok (.invokestatic index, 3)) (kk : ∀ r S', P r S' → vx_V p l e (vx_R FA FB) s m args below meth c Q g nL (pc + 3) L (.long r :: rest) S') : vx_V p l e (vx_R FA FB) s m args below meth c Q g nL pc L st S := vv_callSN C hM hy hl hR hn hW hst hd (fun v S' h => by obtain ⟨r, rfl, h⟩ := h; exact kk r S' h)
theorem vv_cSN_v (C : vx_C p s m args meth c own cc nL ret g) {P : vx_St → Prop} (hM : vx_M l g y bytes maxL retY (vx_R fa fb) (As) S (vx_pv P)) (hy : vx_yS y bytes maxL retY n) (hl : Cond.methodLinkNest own index y host ∈ vx_nest)  (hR : fa + 1 ≤ FA ∧ 8 + (maxL + 11) + fb ≤ FB) (hn : As.length = n) (hW : (rest.map fun v => v.category).sum ≤ 8) (hst : st = As.reverse ++ rest) (hd : decode cc pc = .ok (.invokestatic index, 3)) (kk : ∀ S', P S' → vx_V p l e (vx_R FA FB) s m args below meth c Q g nL (pc + 3) L rest S') : vx_V p l e (vx_R FA FB) s m args below meth c Q g nL pc L st S := vv_callSN C hM hy hl hR hn hW hst hd (fun v S' h => by obtain ⟨rfl, h⟩ := h; exact kk S' h)
end VW
end
section
/-! ===== numbers and sets, as the two programs have them ===== -/
theorem pu_geT {x : Int32} {n i : Nat} (hx : x = nI n) (hn : n ≤ 1000) (hi : i ≤ 1000) (h : x ≤ nI i) : n ≤ i := by
  rw [hx] at h
  exact (nI_leI (by omega) (by omega)).mp h
theorem pu_geF {x : Int32} {n i : Nat} (hx : x = nI n) (hn : n ≤ 1000) (hi : i ≤ 1000) (h : ¬ x ≤ nI i) : i < n := by
  rw [hx] at h
  exact Nat.not_le.mp (fun q => h ((nI_leI (by omega) (by omega)).mpr q))
theorem pu_lt {a b : Int32} (h : a < b) : ¬ b ≤ a := by rw [Int32.lt_iff_toInt_lt] at h; rw [Int32.le_iff_toInt_le]; omega
theorem pu_nlt {a b : Int32} (h : ¬ a < b) : b ≤ a := by rw [Int32.lt_iff_toInt_lt] at h; rw [Int32.le_iff_toInt_le]; omega
theorem pu_le {a b : Int32} (h : a ≤ b) : ¬ b < a := by rw [Int32.le_iff_toInt_le] at h; rw [Int32.lt_iff_toInt_lt]; omega
theorem pu_nle {a b : Int32} (h : ¬ a ≤ b) : b < a := by rw [Int32.le_iff_toInt_le] at h; rw [Int32.lt_iff_toInt_lt]; omega
/-- is k in the set -/
def pu_in (s k : Int32) : Bool := decide (¬ (s >>> (k &&& 31)) &&& 1 = 0)
def pu_bit (k : Int32) : Int32 := 1 <<< (k &&& 31)
def pu_all (n : Int32) : Int32 := pu_bit n - 1
/-- what the places of a set hold together -/
def pu_sum (f : Nat → Int32) (s : Int32) : Nat → Int32
  | 0 => 0
  | n + 1 => if pu_in s (nI n) = true then pu_sum f s n + f n else pu_sum f s n
def pu_or (f : Nat → Int32) (s : Int32) : Nat → Int32
  | 0 => 0
  | n + 1 => if pu_in s (nI n) = true then pu_or f s n ||| f n else pu_or f s n
def pu_loss (kind loss : Nat → Int32) (rain s : Int32) : Nat → Int32
  | 0 => 0
  | n + 1 => if pu_in s (nI n) = true ∧ ¬ kind n = 4 then pu_loss kind loss rain s n + (if rain = 0 then loss n else loss n + 1) else pu_loss kind loss rain s n
def pu_isA (kind : Nat → Int32) (h : Nat) (k : Int32) : Bool := decide (k = 0) || (decide (kind h = k) || (decide (k = 2) && decide (kind h = 4)))
def pu_open (fr to : Nat → Int32) (hr : Int32) (h : Nat) : Bool := decide (fr h ≤ hr) && decide (hr < to h)
def pu_openIn (fr to : Nat → Int32) (hr : Int32) : Nat → Int32
  | 0 => 0
  | n + 1 => if pu_open fr to hr n = true then pu_openIn fr to hr n ||| pu_bit (nI n) else pu_openIn fr to hr n
/-- what a house wants: its arrays, the hour, the brakes, who worked -/
def pu_want (kind fr to takes : Nat → Int32) (hr br wk : Int32) (h : Nat) : Int32 :=
  if pu_open fr to hr h = false ∨ pu_in br (nI h) = true then 0
  else if pu_isA kind h 2 = true ∧ hr = fr h then 2 * takes h
  else if pu_isA kind h 3 = true ∧ pu_in wk (nI h) = true then takes h - 1
  else takes h
/-- the feet and the shafts of those of a set that want something -/
def pu_gof (wd : Nat → Int32) (s : Int32) : Nat → Int32
  | 0 => 0
  | n + 1 => if pu_in s (nI n) = true ∧ 0 < wd n then pu_gof wd s n + wd n else pu_gof wd s n
def pu_gos (wd way : Nat → Int32) (s : Int32) : Nat → Int32
  | 0 => 0
  | n + 1 => if pu_in s (nI n) = true ∧ 0 < wd n then pu_gos wd way s n ||| way n else pu_gos wd way s n
def pu_goes (kind loss way : Nat → Int32) (rain : Int32) (wd : Nat → Int32) (s : Int32) (n : Nat) : Int32 := pu_gof wd s n + pu_loss kind loss rain (pu_gos wd way s n) n
/-- the readings: does the shaft give them all with e -/
def pu_shown (th : Nat → Int32) (sh e : Int32) (r : Nat) : Int32 := if pu_in (th r) sh = true then e else 0
def pu_gives (th ex : Nat → Int32) (sh e : Int32) : Nat → Bool
  | 0 => true
  | n + 1 => pu_gives th ex sh e n && decide (pu_shown th sh e n = ex n)
/-- the least e from 9 - k on; -1 if none -/
def pu_leak (th ex : Nat → Int32) (sh : Int32) (n : Nat) : Nat → Int32
  | 0 => -1
  | k + 1 => if pu_gives th ex sh (nI (9 - k)) n = true then nI (9 - k) else pu_leak th ex sh n k
theorem pu_gives_no {th ex : Nat → Int32} {sh e : Int32} {i : Nat} (h : ¬ pu_shown th sh e i = ex i) : ∀ n, i < n → pu_gives th ex sh e n = false
  | 0, hn => absurd hn (Nat.not_lt_zero i)
  | n + 1, hn => by
    rcases Nat.lt_or_ge i n with q | q
    · simp [pu_gives, pu_gives_no h n q]
    · have e : i = n := by omega
      subst e
      simp [pu_gives, h]
theorem pu_leak_step (th ex : Nat → Int32) (sh : Int32) (n : Nat) {i : Nat} (h1 : 1 ≤ i) (h9 : i ≤ 9) : pu_leak th ex sh n (10 - i) = if pu_gives th ex sh (nI i) n = true then nI i else pu_leak th ex sh n (10 - (i + 1)) := by
  have e : 10 - i = (9 - i) + 1 := by omega
  have e2 : 9 - (9 - i) = i := by omega
  have e3 : 10 - (i + 1) = 9 - i := by omega
  rw [e, pu_leak, e2, e3]
end
section
theorem yk_X4_bit : vx_yS yX4_bit cX4_bit 1 (some .int) 1 := ⟨(tm_11 (List.mem_of_getElem? (i := 18) rfl)), (tm_1 (List.mem_of_getElem? (i := 2) rfl)), by decide +kernel, (tm_11 (List.mem_of_getElem? (i := 17) rfl))⟩
set_option maxHeartbeats 4000000 in
set_option maxRecDepth 100000 in
theorem kk_X4_bit (l : Launch) (g : vx_G) (S : vx_St) (k : Int32) : vx_M l g yX4_bit cX4_bit 1 (some .int) (vx_R 0 0) [.int k] S (vx_pf (pu_bit k) S) := by
  refine vx_M.intro (by decide) (Nat.le_of_ble_eq_true rfl) ?_
  intro p e s m args below meth c C
  refine vv_iconst (v := (1)) C dX4_bit_0 (by decide) ?_
  refine vv_iload_n C dX4_bit_1 rfl 0 rfl ?_
  refine vv_ishl C dX4_bit_2 ?_
  refine vv_fret C dX4_bit_3 ?_
  rfl
theorem yk_X4_isIn : vx_yS yX4_isIn cX4_isIn 2 (some .boolean) 2 := ⟨(tm_12 (List.mem_of_getElem? (i := 15) rfl)), (tm_1 (List.mem_of_getElem? (i := 2) rfl)), by decide +kernel, (tm_12 (List.mem_of_getElem? (i := 14) rfl))⟩
set_option maxHeartbeats 4000000 in
set_option maxRecDepth 100000 in
theorem kk_X4_isIn (l : Launch) (g : vx_G) (S : vx_St) (x k : Int32) : vx_M l g yX4_isIn cX4_isIn 2 (some .boolean) (vx_R 0 0) [.int x, .int k] S (vx_pf (vx_i (pu_in x k)) S) := by
  refine vx_M.intro (by decide) (Nat.le_of_ble_eq_true rfl) ?_
  intro p e s m args below meth c C
  refine vv_iload_n C dX4_isIn_0 rfl 0 rfl ?_
  refine vv_iload_n C dX4_isIn_1 rfl 1 rfl ?_
  refine vv_ishr C dX4_isIn_2 ?_
  refine vv_iconst (v := (1)) C dX4_isIn_3 (by decide) ?_
  refine vv_iand C dX4_isIn_4 ?_
  refine vv_if_eq (tgt := 12) C dX4_isIn_5 (by decide) (fun h5 => ?_) (fun h5 => ?_)
  · refine vv_iconst (v := (0)) C dX4_isIn_12 (by decide) ?_
    refine vv_fzret C dX4_isIn_13 rfl ?_
    simp [vx_i, pu_in, *]
  · refine vv_iconst (v := (1)) C dX4_isIn_8 (by decide) ?_
    refine vv_goto (tgt := 13) C dX4_isIn_9 (by decide) ?_
    refine vv_fzret C dX4_isIn_13 rfl ?_
    simp [vx_i, pu_in, *]
theorem yk_X4_oneIf : vx_yS yX4_oneIf cX4_oneIf 1 (some .int) 1 := ⟨(tm_12 (List.mem_of_getElem? (i := 18) rfl)), (tm_1 (List.mem_of_getElem? (i := 2) rfl)), by decide +kernel, (tm_12 (List.mem_of_getElem? (i := 17) rfl))⟩
set_option maxHeartbeats 4000000 in
set_option maxRecDepth 100000 in
theorem kk_X4_oneIf (l : Launch) (g : vx_G) (S : vx_St) (x : Int32) : vx_M l g yX4_oneIf cX4_oneIf 1 (some .int) (vx_R 0 0) [.int x] S (vx_pf (vx_b01 x) S) := by
  refine vx_M.intro (by decide) (Nat.le_of_ble_eq_true rfl) ?_
  intro p e s m args below meth c C
  refine vv_iload_n C dX4_oneIf_0 rfl 0 rfl ?_
  refine vv_if_eq (tgt := 8) C dX4_oneIf_1 (by decide) (fun h1 => ?_) (fun h1 => ?_)
  · refine vv_iconst (v := (0)) C dX4_oneIf_8 (by decide) ?_
    refine vv_fret C dX4_oneIf_9 ?_
    simp [vx_b01, *]
  · refine vv_iconst (v := (1)) C dX4_oneIf_4 (by decide) ?_
    refine vv_goto (tgt := 9) C dX4_oneIf_5 (by decide) ?_
    refine vv_fret C dX4_oneIf_9 ?_
    simp [vx_b01, *]
theorem yk_X1_has : vx_yV yX1_has cX1_has 2 (some .boolean) 1 := ⟨(tm_11 (List.mem_of_getElem? (i := 22) rfl)), (tm_1 (List.mem_of_getElem? (i := 19) rfl)), by decide +kernel, (tm_11 (List.mem_of_getElem? (i := 20) rfl)), (tm_11 (List.mem_of_getElem? (i := 21) rfl))⟩
set_option maxHeartbeats 4000000 in
set_option maxRecDepth 100000 in
theorem kk_X1_has (l : Launch) (g : vx_G) (S : vx_St) (h : Int32) : vx_M l g yX1_has cX1_has 2 (some .boolean) (vx_R 0 0) [.ref (g.2.2.1 3), .int h] S (vx_pf (vx_i (decide (0 ≤ h) && decide (h < S.1 3 0))) S) := by
  refine vx_M.intro (by decide) (Nat.le_of_ble_eq_true rfl) ?_
  intro p e s m args below meth c C
  refine vv_iload_n C dX1_has_0 rfl 1 rfl ?_
  refine vv_if_lt (tgt := 16) C dX1_has_1 (by decide) (fun h1 => ?_) (fun h1 => ?_)
  · have g1 := pu_lt h1
    refine vv_iconst (v := (0)) C dX1_has_16 (by decide) ?_
    refine vv_fzret C dX1_has_17 rfl ?_
    simp [vx_i, h1, g1]
  · have g1 := pu_nlt h1
    refine vv_iload_n C dX1_has_4 rfl 1 rfl ?_
    refine vv_aload_n C dX1_has_5 rfl 0 rfl ?_
    refine vv_getI C (a := 3) (k := 0) (o := 0) inlX1 rfl rfl rfl (by decide) rfl (tm_11 (List.mem_of_getElem? (i := 16) rfl)) dX1_has_6 ?_
    refine vv_icmp_ge (tgt := 16) C dX1_has_9 (by decide) (fun h9 => ?_) (fun h9 => ?_)
    · have g9 := pu_le h9
      refine vv_iconst (v := (0)) C dX1_has_16 (by decide) ?_
      refine vv_fzret C dX1_has_17 rfl ?_
      simp [vx_i, h1, g1, h9, g9]
    · have g9 := pu_nle h9
      refine vv_iconst (v := (1)) C dX1_has_12 (by decide) ?_
      refine vv_goto (tgt := 17) C dX1_has_13 (by decide) ?_
      refine vv_fzret C dX1_has_17 rfl ?_
      simp [vx_i, h1, g1, h9, g9]
theorem yk_X1_all : vx_yV yX1_all cX1_all 1 (some .int) 0 := ⟨(tm_16 (List.mem_of_getElem? (i := 10) rfl)), (tm_1 (List.mem_of_getElem? (i := 19) rfl)), by decide +kernel, (tm_16 (List.mem_of_getElem? (i := 8) rfl)), (tm_16 (List.mem_of_getElem? (i := 9) rfl))⟩
set_option maxHeartbeats 4000000 in
set_option maxRecDepth 100000 in
theorem kk_X1_all (l : Launch) (g : vx_G) (S : vx_St)  : vx_M l g yX1_all cX1_all 1 (some .int) (vx_R 1 20) [.ref (g.2.2.1 3)] S (vx_pf (pu_all (S.1 3 0)) S) := by
  refine vx_M.intro (by decide) (Nat.le_of_ble_eq_true rfl) ?_
  intro p e s m args below meth c C
  refine vv_aload_n C dX1_all_0 rfl 0 rfl ?_
  refine vv_getI C (a := 3) (k := 0) (o := 0) inlX1 rfl rfl rfl (by decide) rfl (tm_11 (List.mem_of_getElem? (i := 16) rfl)) dX1_all_1 ?_
  refine vv_cSN_F C (kk_X4_bit l g _ _) yk_X4_bit (List.mem_of_getElem? (i := 39) rfl) (by decide) rfl (Nat.le_of_ble_eq_true rfl) rfl dX1_all_4 ?_
  refine vv_iconst (v := (1)) C dX1_all_7 (by decide) ?_
  refine vv_isub C dX1_all_8 ?_
  refine vv_fret C dX1_all_9 ?_
  rfl
theorem yk_X1_areBits : vx_yV yX1_areBits cX1_areBits 2 (some .boolean) 1 := ⟨(tm_16 (List.mem_of_getElem? (i := 6) rfl)), (tm_1 (List.mem_of_getElem? (i := 19) rfl)), by decide +kernel, (tm_16 (List.mem_of_getElem? (i := 4) rfl)), (tm_16 (List.mem_of_getElem? (i := 5) rfl))⟩
set_option maxHeartbeats 4000000 in
set_option maxRecDepth 100000 in
theorem kk_X1_areBits (l : Launch) (g : vx_G) (S : vx_St) (t : Int32) : vx_M l g yX1_areBits cX1_areBits 2 (some .boolean) (vx_R 2 40) [.ref (g.2.2.1 3), .int t] S (vx_pf (vx_i (decide (0 ≤ t) && decide (t ≤ pu_all (S.1 3 0)))) S) := by
  refine vx_M.intro (by decide) (Nat.le_of_ble_eq_true rfl) ?_
  intro p e s m args below meth c C
  refine vv_iload_n C dX1_areBits_0 rfl 1 rfl ?_
  refine vv_if_lt (tgt := 16) C dX1_areBits_1 (by decide) (fun h1 => ?_) (fun h1 => ?_)
  · have g1 := pu_lt h1
    refine vv_iconst (v := (0)) C dX1_areBits_16 (by decide) ?_
    refine vv_fzret C dX1_areBits_17 rfl ?_
    simp [vx_i, h1, g1]
  · have g1 := pu_nlt h1
    refine vv_iload_n C dX1_areBits_4 rfl 1 rfl ?_
    refine vv_aload_n C dX1_areBits_5 rfl 0 rfl ?_
    refine vv_cV_F C (a := 3) (kk_X1_all l g _) yk_X1_all (tm_16 (List.mem_of_getElem? (i := 7) rfl)) rfl rfl rfl (by decide) rfl (Nat.le_of_ble_eq_true rfl) rfl dX1_areBits_6 ?_
    refine vv_icmp_gt (tgt := 16) C dX1_areBits_9 (by decide) (fun h9 => ?_) (fun h9 => ?_)
    · have g9 := pu_lt h9
      refine vv_iconst (v := (0)) C dX1_areBits_16 (by decide) ?_
      refine vv_fzret C dX1_areBits_17 rfl ?_
      simp [vx_i, h1, g1, h9, g9]
    · have g9 := pu_nlt h9
      refine vv_iconst (v := (1)) C dX1_areBits_12 (by decide) ?_
      refine vv_goto (tgt := 17) C dX1_areBits_13 (by decide) ?_
      refine vv_fzret C dX1_areBits_17 rfl ?_
      simp [vx_i, h1, g1, h9, g9]
theorem yk_X1_isA : vx_yV yX1_isA cX1_isA 3 (some .boolean) 2 := ⟨(tm_13 (List.mem_of_getElem? (i := 17) rfl)), (tm_1 (List.mem_of_getElem? (i := 19) rfl)), by decide +kernel, (tm_13 (List.mem_of_getElem? (i := 15) rfl)), (tm_13 (List.mem_of_getElem? (i := 16) rfl))⟩
set_option maxHeartbeats 4000000 in
set_option maxRecDepth 100000 in
theorem kk_X1_isA (l : Launch) (g : vx_G) (S : vx_St) (h : Nat) (hh : h < 8) (k : Int32) : vx_M l g yX1_isA cX1_isA 3 (some .boolean) (vx_R 0 0) [.ref (g.2.2.1 3), .int (nI h), .int k] S (vx_pf (vx_i (pu_isA (S.1 4) h k)) S) := by
  refine vx_M.intro (by decide) (Nat.le_of_ble_eq_true rfl) ?_
  intro p e s m args below meth c C
  refine vv_iload_n C dX1_isA_0 rfl 2 rfl ?_
  refine vv_if_eq (tgt := 29) C dX1_isA_1 (by decide) (fun h1 => ?_) (fun h1 => ?_)
  · refine vv_iconst (v := (1)) C dX1_isA_29 (by decide) ?_
    refine vv_goto (tgt := 34) C dX1_isA_30 (by decide) ?_
    refine vv_fzret C dX1_isA_34 rfl ?_
    simp_all [vx_i, pu_isA]
  · refine vv_aload_n C dX1_isA_4 rfl 0 rfl ?_
    refine vv_gR C (a := 3) (k := 1) (b := 4) inlX1 rfl rfl rfl rfl (by decide) rfl (tm_2 (List.mem_of_getElem? (i := 16) rfl)) dX1_isA_5 ?_
    refine vv_iload_n C dX1_isA_8 rfl 1 rfl ?_
    refine vv_ialdN C (a := 4) rfl (by omega) (by decide) dX1_isA_9 ?_
    refine vv_iload_n C dX1_isA_10 rfl 2 rfl ?_
    refine vv_icmp_eq (tgt := 29) C dX1_isA_11 (by decide) (fun h11 => ?_) (fun h11 => ?_)
    · refine vv_iconst (v := (1)) C dX1_isA_29 (by decide) ?_
      refine vv_goto (tgt := 34) C dX1_isA_30 (by decide) ?_
      refine vv_fzret C dX1_isA_34 rfl ?_
      simp_all [vx_i, pu_isA]
    · refine vv_iload_n C dX1_isA_14 rfl 2 rfl ?_
      refine vv_iconst (v := (2)) C dX1_isA_15 (by decide) ?_
      refine vv_icmp_ne (tgt := 33) C dX1_isA_16 (by decide) (fun h16 => ?_) (fun h16 => ?_)
      · refine vv_iconst (v := (0)) C dX1_isA_33 (by decide) ?_
        refine vv_fzret C dX1_isA_34 rfl ?_
        simp_all [vx_i, pu_isA]
      · refine vv_aload_n C dX1_isA_19 rfl 0 rfl ?_
        refine vv_gR C (a := 3) (k := 1) (b := 4) inlX1 rfl rfl rfl rfl (by decide) rfl (tm_2 (List.mem_of_getElem? (i := 16) rfl)) dX1_isA_20 ?_
        refine vv_iload_n C dX1_isA_23 rfl 1 rfl ?_
        refine vv_ialdN C (a := 4) rfl (by omega) (by decide) dX1_isA_24 ?_
        refine vv_iconst (v := (4)) C dX1_isA_25 (by decide) ?_
        refine vv_icmp_ne (tgt := 33) C dX1_isA_26 (by decide) (fun h26 => ?_) (fun h26 => ?_)
        · refine vv_iconst (v := (0)) C dX1_isA_33 (by decide) ?_
          refine vv_fzret C dX1_isA_34 rfl ?_
          simp_all [vx_i, pu_isA]
        · refine vv_iconst (v := (1)) C dX1_isA_29 (by decide) ?_
          refine vv_goto (tgt := 34) C dX1_isA_30 (by decide) ?_
          refine vv_fzret C dX1_isA_34 rfl ?_
          simp_all [vx_i, pu_isA]
theorem yk_X1_isOpen : vx_yV yX1_isOpen cX1_isOpen 3 (some .boolean) 2 := ⟨(tm_15 (List.mem_of_getElem? (i := 10) rfl)), (tm_1 (List.mem_of_getElem? (i := 19) rfl)), by decide +kernel, (tm_15 (List.mem_of_getElem? (i := 8) rfl)), (tm_15 (List.mem_of_getElem? (i := 9) rfl))⟩
set_option maxHeartbeats 4000000 in
set_option maxRecDepth 100000 in
theorem kk_X1_isOpen (l : Launch) (g : vx_G) (S : vx_St) (h : Nat) (hh : h < 8) (hr : Int32) : vx_M l g yX1_isOpen cX1_isOpen 3 (some .boolean) (vx_R 0 0) [.ref (g.2.2.1 3), .int (nI h), .int hr] S (vx_pf (vx_i (pu_open (S.1 6) (S.1 7) hr h)) S) := by
  refine vx_M.intro (by decide) (Nat.le_of_ble_eq_true rfl) ?_
  intro p e s m args below meth c C
  refine vv_aload_n C dX1_isOpen_0 rfl 0 rfl ?_
  refine vv_gR C (a := 3) (k := 3) (b := 6) inlX1 rfl rfl rfl rfl (by decide) rfl (tm_2 (List.mem_of_getElem? (i := 18) rfl)) dX1_isOpen_1 ?_
  refine vv_iload_n C dX1_isOpen_4 rfl 1 rfl ?_
  refine vv_ialdN C (a := 6) rfl (by omega) (by decide) dX1_isOpen_5 ?_
  refine vv_iload_n C dX1_isOpen_6 rfl 2 rfl ?_
  refine vv_icmp_gt (tgt := 24) C dX1_isOpen_7 (by decide) (fun h7 => ?_) (fun h7 => ?_)
  · have g7 := pu_lt h7
    refine vv_iconst (v := (0)) C dX1_isOpen_24 (by decide) ?_
    refine vv_fzret C dX1_isOpen_25 rfl ?_
    simp [vx_i, pu_open, h7, g7]
  · have g7 := pu_nlt h7
    refine vv_iload_n C dX1_isOpen_10 rfl 2 rfl ?_
    refine vv_aload_n C dX1_isOpen_11 rfl 0 rfl ?_
    refine vv_gR C (a := 3) (k := 4) (b := 7) inlX1 rfl rfl rfl rfl (by decide) rfl (tm_2 (List.mem_of_getElem? (i := 19) rfl)) dX1_isOpen_12 ?_
    refine vv_iload_n C dX1_isOpen_15 rfl 1 rfl ?_
    refine vv_ialdN C (a := 7) rfl (by omega) (by decide) dX1_isOpen_16 ?_
    refine vv_icmp_ge (tgt := 24) C dX1_isOpen_17 (by decide) (fun h17 => ?_) (fun h17 => ?_)
    · have g17 := pu_le h17
      refine vv_iconst (v := (0)) C dX1_isOpen_24 (by decide) ?_
      refine vv_fzret C dX1_isOpen_25 rfl ?_
      simp [vx_i, pu_open, h7, g7, h17, g17]
    · have g17 := pu_nle h17
      refine vv_iconst (v := (1)) C dX1_isOpen_20 (by decide) ?_
      refine vv_goto (tgt := 25) C dX1_isOpen_21 (by decide) ?_
      refine vv_fzret C dX1_isOpen_25 rfl ?_
      simp [vx_i, pu_open, h7, g7, h17, g17]
theorem yk_X1_takesOf : vx_yV yX1_takesOf cX1_takesOf 4 (some .int) 1 := ⟨(tm_24 (List.mem_of_getElem? (i := 13) rfl)), (tm_1 (List.mem_of_getElem? (i := 19) rfl)), by decide +kernel, (tm_24 (List.mem_of_getElem? (i := 11) rfl)), (tm_24 (List.mem_of_getElem? (i := 12) rfl))⟩
set_option maxHeartbeats 4000000 in
set_option maxRecDepth 100000 in
theorem kk_X1_takesOf (l : Launch) (g : vx_G) (S : vx_St) (t : Int32) (n : Nat) (hn : S.1 3 0 = nI n) (hn8 : n ≤ 8) : vx_M l g yX1_takesOf cX1_takesOf 4 (some .int) (vx_R 1 21) [.ref (g.2.2.1 3), .int t] S (vx_pf (pu_sum (S.1 8) t n) S) := by
  refine vx_M.intro (by decide) (Nat.le_of_ble_eq_true rfl) ?_
  intro p e s m args below meth c C
  have lp4 : ∀ (fu : Nat) (i : Nat), (n - i < fu ∧ i ≤ n) → vx_V p l e (vx_R 1 21) s m args below meth c (MQ below (vx_Q g (vx_pf (pu_sum (S.1 8) t n) S)) args s 0 0 (vx_A g)) g 4 4 [(0, .ref (g.2.2.1 3)), (1, .int t), (2, .int (pu_sum (S.1 8) t i)), (3, .int (nI i))] [] (S) := by
    intro fu
    induction fu with
    | zero =>
      intro i hfu
      exact absurd hfu.1 (by omega)
    | succ fu ih =>
      intro i hfu
      obtain ⟨hf1, hf2⟩ := hfu
      refine vv_iload_n C dX1_takesOf_4 rfl 3 rfl ?_
      refine vv_aload_n C dX1_takesOf_5 rfl 0 rfl ?_
      refine vv_getI C (a := 3) (k := 0) (o := 0) inlX1 rfl rfl rfl (by decide) rfl (tm_11 (List.mem_of_getElem? (i := 16) rfl)) dX1_takesOf_6 ?_
      refine vv_icmp_ge (tgt := 35) C dX1_takesOf_9 (by decide) (fun h9 => ?_) (fun h9 => ?_)
      · have hge := pu_geT hn (by omega) (by omega) h9
        obtain rfl : n = i := by omega
        refine vv_iload_n C dX1_takesOf_35 rfl 2 rfl ?_
        refine vv_fret C dX1_takesOf_36 ?_
        rfl
      · have hlt := pu_geF hn (by omega) (by omega) h9
        refine vv_iload_n C dX1_takesOf_12 rfl 1 rfl ?_
        refine vv_iload_n C dX1_takesOf_13 rfl 3 rfl ?_
        refine vv_cSN_F C (kk_X4_isIn l g _ _ _) yk_X4_isIn (List.mem_of_getElem? (i := 52) rfl) (by decide) rfl (Nat.le_of_ble_eq_true rfl) rfl dX1_takesOf_14 ?_
        refine vv_ifb_eq (tgt := 29) C dX1_takesOf_17 (by decide) (fun h17 => ?_) (fun h17 => ?_)
        · refine vv_iincN (L' := [_, _, _, _]) (j := 3) C dX1_takesOf_29 rfl (by decide) rfl ?_
          refine vv_goto (tgt := 4) C dX1_takesOf_32 (by decide) ?_
          refine vv_sub (L' := [_, _, _, _]) [1, 2, 3, 0] rfl ?_
          have q := ih (i + 1) ⟨by omega, by omega⟩
          simp only [pu_sum, h9, h17, if_true, if_false, reduceIte, Bool.false_eq_true, and_true, true_and, and_false, false_and, not_true, not_false_iff, and_self, ite_true, ite_false, not_true_eq_false, not_false_eq_true, or_true, true_or, or_false, false_or] at q
          exact q
        · refine vv_iload_n C dX1_takesOf_20 rfl 2 rfl ?_
          refine vv_aload_n C dX1_takesOf_21 rfl 0 rfl ?_
          refine vv_gR C (a := 3) (k := 5) (b := 8) inlX1 rfl rfl rfl rfl (by decide) rfl (tm_2 (List.mem_of_getElem? (i := 20) rfl)) dX1_takesOf_22 ?_
          refine vv_iload_n C dX1_takesOf_25 rfl 3 rfl ?_
          refine vv_ialdN C (a := 8) rfl (by omega) (by decide) dX1_takesOf_26 ?_
          refine vv_iadd C dX1_takesOf_27 ?_
          refine vv_istore_n (i := 2) (L' := [_, _, _, _]) C dX1_takesOf_28 rfl (by decide) rfl ?_
          refine vv_iincN (L' := [_, _, _, _]) (j := 3) C dX1_takesOf_29 rfl (by decide) rfl ?_
          refine vv_goto (tgt := 4) C dX1_takesOf_32 (by decide) ?_
          refine vv_sub (L' := [_, _, _, _]) [2, 3, 1, 0] rfl ?_
          have q := ih (i + 1) ⟨by omega, by omega⟩
          simp only [pu_sum, h9, h17, if_true, if_false, reduceIte, Bool.false_eq_true, and_true, true_and, and_false, false_and, not_true, not_false_iff, and_self, ite_true, ite_false, not_true_eq_false, not_false_eq_true, or_true, true_or, or_false, false_or] at q
          exact q
  refine vv_iconst (v := (0)) C dX1_takesOf_0 (by decide) ?_
  refine vv_istore_n (i := 2) (L' := [_, _, _]) C dX1_takesOf_1 rfl (by decide) rfl ?_
  refine vv_iconst (v := (nI 0)) C dX1_takesOf_2 (by decide) ?_
  refine vv_istore_n (i := 3) (L' := [_, _, _, _]) C dX1_takesOf_3 rfl (by decide) rfl ?_
  refine vv_sub (L' := [_, _, _, _]) [2, 3, 1, 0] rfl ?_
  exact lp4 (n + 1) 0 ⟨by omega, by omega⟩
theorem yk_X1_waysTo : vx_yV yX1_waysTo cX1_waysTo 4 (some .int) 1 := ⟨(tm_26 (List.mem_of_getElem? (i := 4) rfl)), (tm_1 (List.mem_of_getElem? (i := 19) rfl)), by decide +kernel, (tm_26 (List.mem_of_getElem? (i := 2) rfl)), (tm_26 (List.mem_of_getElem? (i := 3) rfl))⟩
set_option maxHeartbeats 4000000 in
set_option maxRecDepth 100000 in
theorem kk_X1_waysTo (l : Launch) (g : vx_G) (S : vx_St) (t : Int32) (n : Nat) (hn : S.1 3 0 = nI n) (hn8 : n ≤ 8) : vx_M l g yX1_waysTo cX1_waysTo 4 (some .int) (vx_R 1 21) [.ref (g.2.2.1 3), .int t] S (vx_pf (pu_or (S.1 10) t n) S) := by
  refine vx_M.intro (by decide) (Nat.le_of_ble_eq_true rfl) ?_
  intro p e s m args below meth c C
  have lp4 : ∀ (fu : Nat) (i : Nat), (n - i < fu ∧ i ≤ n) → vx_V p l e (vx_R 1 21) s m args below meth c (MQ below (vx_Q g (vx_pf (pu_or (S.1 10) t n) S)) args s 0 0 (vx_A g)) g 4 4 [(0, .ref (g.2.2.1 3)), (1, .int t), (2, .int (pu_or (S.1 10) t i)), (3, .int (nI i))] [] (S) := by
    intro fu
    induction fu with
    | zero =>
      intro i hfu
      exact absurd hfu.1 (by omega)
    | succ fu ih =>
      intro i hfu
      obtain ⟨hf1, hf2⟩ := hfu
      refine vv_iload_n C dX1_waysTo_4 rfl 3 rfl ?_
      refine vv_aload_n C dX1_waysTo_5 rfl 0 rfl ?_
      refine vv_getI C (a := 3) (k := 0) (o := 0) inlX1 rfl rfl rfl (by decide) rfl (tm_11 (List.mem_of_getElem? (i := 16) rfl)) dX1_waysTo_6 ?_
      refine vv_icmp_ge (tgt := 35) C dX1_waysTo_9 (by decide) (fun h9 => ?_) (fun h9 => ?_)
      · have hge := pu_geT hn (by omega) (by omega) h9
        obtain rfl : n = i := by omega
        refine vv_iload_n C dX1_waysTo_35 rfl 2 rfl ?_
        refine vv_fret C dX1_waysTo_36 ?_
        rfl
      · have hlt := pu_geF hn (by omega) (by omega) h9
        refine vv_iload_n C dX1_waysTo_12 rfl 1 rfl ?_
        refine vv_iload_n C dX1_waysTo_13 rfl 3 rfl ?_
        refine vv_cSN_F C (kk_X4_isIn l g _ _ _) yk_X4_isIn (List.mem_of_getElem? (i := 52) rfl) (by decide) rfl (Nat.le_of_ble_eq_true rfl) rfl dX1_waysTo_14 ?_
        refine vv_ifb_eq (tgt := 29) C dX1_waysTo_17 (by decide) (fun h17 => ?_) (fun h17 => ?_)
        · refine vv_iincN (L' := [_, _, _, _]) (j := 3) C dX1_waysTo_29 rfl (by decide) rfl ?_
          refine vv_goto (tgt := 4) C dX1_waysTo_32 (by decide) ?_
          refine vv_sub (L' := [_, _, _, _]) [1, 2, 3, 0] rfl ?_
          have q := ih (i + 1) ⟨by omega, by omega⟩
          simp only [pu_or, h9, h17, if_true, if_false, reduceIte, Bool.false_eq_true, and_true, true_and, and_false, false_and, not_true, not_false_iff, and_self, ite_true, ite_false, not_true_eq_false, not_false_eq_true, or_true, true_or, or_false, false_or] at q
          exact q
        · refine vv_iload_n C dX1_waysTo_20 rfl 2 rfl ?_
          refine vv_aload_n C dX1_waysTo_21 rfl 0 rfl ?_
          refine vv_gR C (a := 3) (k := 7) (b := 10) inlX1 rfl rfl rfl rfl (by decide) rfl (tm_2 (List.mem_of_getElem? (i := 22) rfl)) dX1_waysTo_22 ?_
          refine vv_iload_n C dX1_waysTo_25 rfl 3 rfl ?_
          refine vv_ialdN C (a := 10) rfl (by omega) (by decide) dX1_waysTo_26 ?_
          refine vv_ior C dX1_waysTo_27 ?_
          refine vv_istore_n (i := 2) (L' := [_, _, _, _]) C dX1_waysTo_28 rfl (by decide) rfl ?_
          refine vv_iincN (L' := [_, _, _, _]) (j := 3) C dX1_waysTo_29 rfl (by decide) rfl ?_
          refine vv_goto (tgt := 4) C dX1_waysTo_32 (by decide) ?_
          refine vv_sub (L' := [_, _, _, _]) [2, 3, 1, 0] rfl ?_
          have q := ih (i + 1) ⟨by omega, by omega⟩
          simp only [pu_or, h9, h17, if_true, if_false, reduceIte, Bool.false_eq_true, and_true, true_and, and_false, false_and, not_true, not_false_iff, and_self, ite_true, ite_false, not_true_eq_false, not_false_eq_true, or_true, true_or, or_false, false_or] at q
          exact q
  refine vv_iconst (v := (0)) C dX1_waysTo_0 (by decide) ?_
  refine vv_istore_n (i := 2) (L' := [_, _, _]) C dX1_waysTo_1 rfl (by decide) rfl ?_
  refine vv_iconst (v := (nI 0)) C dX1_waysTo_2 (by decide) ?_
  refine vv_istore_n (i := 3) (L' := [_, _, _, _]) C dX1_waysTo_3 rfl (by decide) rfl ?_
  refine vv_sub (L' := [_, _, _, _]) [2, 3, 1, 0] rfl ?_
  exact lp4 (n + 1) 0 ⟨by omega, by omega⟩
theorem yk_X1_toldLossOf : vx_yV yX1_toldLossOf cX1_toldLossOf 4 (some .int) 1 := ⟨(tm_26 (List.mem_of_getElem? (i := 7) rfl)), (tm_1 (List.mem_of_getElem? (i := 19) rfl)), by decide +kernel, (tm_26 (List.mem_of_getElem? (i := 5) rfl)), (tm_26 (List.mem_of_getElem? (i := 6) rfl))⟩
set_option maxHeartbeats 4000000 in
set_option maxRecDepth 100000 in
theorem kk_X1_toldLossOf (l : Launch) (g : vx_G) (S : vx_St) (t : Int32) (n : Nat) (hn : S.1 3 0 = nI n) (hn8 : n ≤ 8) : vx_M l g yX1_toldLossOf cX1_toldLossOf 4 (some .int) (vx_R 1 21) [.ref (g.2.2.1 3), .int t] S (vx_pf (pu_sum (S.1 9) t n) S) := by
  refine vx_M.intro (by decide) (Nat.le_of_ble_eq_true rfl) ?_
  intro p e s m args below meth c C
  have lp4 : ∀ (fu : Nat) (i : Nat), (n - i < fu ∧ i ≤ n) → vx_V p l e (vx_R 1 21) s m args below meth c (MQ below (vx_Q g (vx_pf (pu_sum (S.1 9) t n) S)) args s 0 0 (vx_A g)) g 4 4 [(0, .ref (g.2.2.1 3)), (1, .int t), (2, .int (pu_sum (S.1 9) t i)), (3, .int (nI i))] [] (S) := by
    intro fu
    induction fu with
    | zero =>
      intro i hfu
      exact absurd hfu.1 (by omega)
    | succ fu ih =>
      intro i hfu
      obtain ⟨hf1, hf2⟩ := hfu
      refine vv_iload_n C dX1_toldLossOf_4 rfl 3 rfl ?_
      refine vv_aload_n C dX1_toldLossOf_5 rfl 0 rfl ?_
      refine vv_getI C (a := 3) (k := 0) (o := 0) inlX1 rfl rfl rfl (by decide) rfl (tm_11 (List.mem_of_getElem? (i := 16) rfl)) dX1_toldLossOf_6 ?_
      refine vv_icmp_ge (tgt := 35) C dX1_toldLossOf_9 (by decide) (fun h9 => ?_) (fun h9 => ?_)
      · have hge := pu_geT hn (by omega) (by omega) h9
        obtain rfl : n = i := by omega
        refine vv_iload_n C dX1_toldLossOf_35 rfl 2 rfl ?_
        refine vv_fret C dX1_toldLossOf_36 ?_
        rfl
      · have hlt := pu_geF hn (by omega) (by omega) h9
        refine vv_iload_n C dX1_toldLossOf_12 rfl 1 rfl ?_
        refine vv_iload_n C dX1_toldLossOf_13 rfl 3 rfl ?_
        refine vv_cSN_F C (kk_X4_isIn l g _ _ _) yk_X4_isIn (List.mem_of_getElem? (i := 52) rfl) (by decide) rfl (Nat.le_of_ble_eq_true rfl) rfl dX1_toldLossOf_14 ?_
        refine vv_ifb_eq (tgt := 29) C dX1_toldLossOf_17 (by decide) (fun h17 => ?_) (fun h17 => ?_)
        · refine vv_iincN (L' := [_, _, _, _]) (j := 3) C dX1_toldLossOf_29 rfl (by decide) rfl ?_
          refine vv_goto (tgt := 4) C dX1_toldLossOf_32 (by decide) ?_
          refine vv_sub (L' := [_, _, _, _]) [1, 2, 3, 0] rfl ?_
          have q := ih (i + 1) ⟨by omega, by omega⟩
          simp only [pu_sum, h9, h17, if_true, if_false, reduceIte, Bool.false_eq_true, and_true, true_and, and_false, false_and, not_true, not_false_iff, and_self, ite_true, ite_false, not_true_eq_false, not_false_eq_true, or_true, true_or, or_false, false_or] at q
          exact q
        · refine vv_iload_n C dX1_toldLossOf_20 rfl 2 rfl ?_
          refine vv_aload_n C dX1_toldLossOf_21 rfl 0 rfl ?_
          refine vv_gR C (a := 3) (k := 6) (b := 9) inlX1 rfl rfl rfl rfl (by decide) rfl (tm_2 (List.mem_of_getElem? (i := 21) rfl)) dX1_toldLossOf_22 ?_
          refine vv_iload_n C dX1_toldLossOf_25 rfl 3 rfl ?_
          refine vv_ialdN C (a := 9) rfl (by omega) (by decide) dX1_toldLossOf_26 ?_
          refine vv_iadd C dX1_toldLossOf_27 ?_
          refine vv_istore_n (i := 2) (L' := [_, _, _, _]) C dX1_toldLossOf_28 rfl (by decide) rfl ?_
          refine vv_iincN (L' := [_, _, _, _]) (j := 3) C dX1_toldLossOf_29 rfl (by decide) rfl ?_
          refine vv_goto (tgt := 4) C dX1_toldLossOf_32 (by decide) ?_
          refine vv_sub (L' := [_, _, _, _]) [2, 3, 1, 0] rfl ?_
          have q := ih (i + 1) ⟨by omega, by omega⟩
          simp only [pu_sum, h9, h17, if_true, if_false, reduceIte, Bool.false_eq_true, and_true, true_and, and_false, false_and, not_true, not_false_iff, and_self, ite_true, ite_false, not_true_eq_false, not_false_eq_true, or_true, true_or, or_false, false_or] at q
          exact q
  refine vv_iconst (v := (0)) C dX1_toldLossOf_0 (by decide) ?_
  refine vv_istore_n (i := 2) (L' := [_, _, _]) C dX1_toldLossOf_1 rfl (by decide) rfl ?_
  refine vv_iconst (v := (nI 0)) C dX1_toldLossOf_2 (by decide) ?_
  refine vv_istore_n (i := 3) (L' := [_, _, _, _]) C dX1_toldLossOf_3 rfl (by decide) rfl ?_
  refine vv_sub (L' := [_, _, _, _]) [2, 3, 1, 0] rfl ?_
  exact lp4 (n + 1) 0 ⟨by omega, by omega⟩
theorem yk_X1_openIn : vx_yV yX1_openIn cX1_openIn 4 (some .int) 1 := ⟨(tm_24 (List.mem_of_getElem? (i := 9) rfl)), (tm_1 (List.mem_of_getElem? (i := 19) rfl)), by decide +kernel, (tm_24 (List.mem_of_getElem? (i := 7) rfl)), (tm_24 (List.mem_of_getElem? (i := 8) rfl))⟩
set_option maxHeartbeats 4000000 in
set_option maxRecDepth 100000 in
theorem kk_X1_openIn (l : Launch) (g : vx_G) (S : vx_St) (hr : Int32) (n : Nat) (hn : S.1 3 0 = nI n) (hn8 : n ≤ 8) : vx_M l g yX1_openIn cX1_openIn 4 (some .int) (vx_R 1 22) [.ref (g.2.2.1 3), .int hr] S (vx_pf (pu_openIn (S.1 6) (S.1 7) hr n) S) := by
  refine vx_M.intro (by decide) (Nat.le_of_ble_eq_true rfl) ?_
  intro p e s m args below meth c C
  have lp4 : ∀ (fu : Nat) (i : Nat), (n - i < fu ∧ i ≤ n) → vx_V p l e (vx_R 1 22) s m args below meth c (MQ below (vx_Q g (vx_pf (pu_openIn (S.1 6) (S.1 7) hr n) S)) args s 0 0 (vx_A g)) g 4 4 [(0, .ref (g.2.2.1 3)), (1, .int hr), (2, .int (pu_openIn (S.1 6) (S.1 7) hr i)), (3, .int (nI i))] [] (S) := by
    intro fu
    induction fu with
    | zero =>
      intro i hfu
      exact absurd hfu.1 (by omega)
    | succ fu ih =>
      intro i hfu
      obtain ⟨hf1, hf2⟩ := hfu
      refine vv_iload_n C dX1_openIn_4 rfl 3 rfl ?_
      refine vv_aload_n C dX1_openIn_5 rfl 0 rfl ?_
      refine vv_getI C (a := 3) (k := 0) (o := 0) inlX1 rfl rfl rfl (by decide) rfl (tm_11 (List.mem_of_getElem? (i := 16) rfl)) dX1_openIn_6 ?_
      refine vv_icmp_ge (tgt := 34) C dX1_openIn_9 (by decide) (fun h9 => ?_) (fun h9 => ?_)
      · have hge := pu_geT hn (by omega) (by omega) h9
        obtain rfl : n = i := by omega
        refine vv_iload_n C dX1_openIn_34 rfl 2 rfl ?_
        refine vv_fret C dX1_openIn_35 ?_
        rfl
      · have hlt := pu_geF hn (by omega) (by omega) h9
        refine vv_aload_n C dX1_openIn_12 rfl 0 rfl ?_
        refine vv_iload_n C dX1_openIn_13 rfl 3 rfl ?_
        refine vv_iload_n C dX1_openIn_14 rfl 1 rfl ?_
        refine vv_cV_F C (a := 3) (kk_X1_isOpen l g _ _ (by omega) _) yk_X1_isOpen (tm_24 (List.mem_of_getElem? (i := 10) rfl)) rfl rfl rfl (by decide) rfl (Nat.le_of_ble_eq_true rfl) rfl dX1_openIn_15 ?_
        refine vv_ifb_eq (tgt := 28) C dX1_openIn_18 (by decide) (fun h18 => ?_) (fun h18 => ?_)
        · refine vv_iincN (L' := [_, _, _, _]) (j := 3) C dX1_openIn_28 rfl (by decide) rfl ?_
          refine vv_goto (tgt := 4) C dX1_openIn_31 (by decide) ?_
          refine vv_sub (L' := [_, _, _, _]) [1, 2, 3, 0] rfl ?_
          have q := ih (i + 1) ⟨by omega, by omega⟩
          simp only [pu_openIn, h9, h18, if_true, if_false, reduceIte, Bool.false_eq_true, and_true, true_and, and_false, false_and, not_true, not_false_iff, and_self, ite_true, ite_false, not_true_eq_false, not_false_eq_true, or_true, true_or, or_false, false_or] at q
          exact q
        · refine vv_iload_n C dX1_openIn_21 rfl 2 rfl ?_
          refine vv_iload_n C dX1_openIn_22 rfl 3 rfl ?_
          refine vv_cSN_F C (kk_X4_bit l g _ _) yk_X4_bit (List.mem_of_getElem? (i := 39) rfl) (by decide) rfl (Nat.le_of_ble_eq_true rfl) rfl dX1_openIn_23 ?_
          refine vv_ior C dX1_openIn_26 ?_
          refine vv_istore_n (i := 2) (L' := [_, _, _, _]) C dX1_openIn_27 rfl (by decide) rfl ?_
          refine vv_iincN (L' := [_, _, _, _]) (j := 3) C dX1_openIn_28 rfl (by decide) rfl ?_
          refine vv_goto (tgt := 4) C dX1_openIn_31 (by decide) ?_
          refine vv_sub (L' := [_, _, _, _]) [2, 3, 1, 0] rfl ?_
          have q := ih (i + 1) ⟨by omega, by omega⟩
          simp only [pu_openIn, h9, h18, if_true, if_false, reduceIte, Bool.false_eq_true, and_true, true_and, and_false, false_and, not_true, not_false_iff, and_self, ite_true, ite_false, not_true_eq_false, not_false_eq_true, or_true, true_or, or_false, false_or] at q
          exact q
  refine vv_iconst (v := (0)) C dX1_openIn_0 (by decide) ?_
  refine vv_istore_n (i := 2) (L' := [_, _, _]) C dX1_openIn_1 rfl (by decide) rfl ?_
  refine vv_iconst (v := (nI 0)) C dX1_openIn_2 (by decide) ?_
  refine vv_istore_n (i := 3) (L' := [_, _, _, _]) C dX1_openIn_3 rfl (by decide) rfl ?_
  refine vv_sub (L' := [_, _, _, _]) [2, 3, 1, 0] rfl ?_
  exact lp4 (n + 1) 0 ⟨by omega, by omega⟩
theorem yk_X1_lossOf : vx_yV yX1_lossOf cX1_lossOf 5 (some .int) 2 := ⟨(tm_16 (List.mem_of_getElem? (i := 21) rfl)), (tm_1 (List.mem_of_getElem? (i := 19) rfl)), by decide +kernel, (tm_16 (List.mem_of_getElem? (i := 19) rfl)), (tm_16 (List.mem_of_getElem? (i := 20) rfl))⟩
set_option maxHeartbeats 4000000 in
set_option maxRecDepth 100000 in
theorem kk_X1_lossOf (l : Launch) (g : vx_G) (S : vx_St) (t rn : Int32) (n : Nat) (hn : S.1 3 0 = nI n) (hn8 : n ≤ 8) : vx_M l g yX1_lossOf cX1_lossOf 5 (some .int) (vx_R 1 21) [.ref (g.2.2.1 3), .int t, .int rn] S (vx_pf (pu_loss (S.1 4) (S.1 9) rn t n) S) := by
  refine vx_M.intro (by decide) (Nat.le_of_ble_eq_true rfl) ?_
  intro p e s m args below meth c C
  have lp5 : ∀ (fu : Nat) (i : Nat), (n - i < fu ∧ i ≤ n) → vx_V p l e (vx_R 1 21) s m args below meth c (MQ below (vx_Q g (vx_pf (pu_loss (S.1 4) (S.1 9) rn t n) S)) args s 0 0 (vx_A g)) g 5 5 [(0, .ref (g.2.2.1 3)), (1, .int t), (2, .int rn), (3, .int (pu_loss (S.1 4) (S.1 9) rn t i)), (4, .int (nI i))] [] (S) := by
    intro fu
    induction fu with
    | zero =>
      intro i hfu
      exact absurd hfu.1 (by omega)
    | succ fu ih =>
      intro i hfu
      obtain ⟨hf1, hf2⟩ := hfu
      refine vv_iload C dX1_lossOf_5 4 rfl ?_
      refine vv_aload_n C dX1_lossOf_7 rfl 0 rfl ?_
      refine vv_getI C (a := 3) (k := 0) (o := 0) inlX1 rfl rfl rfl (by decide) rfl (tm_11 (List.mem_of_getElem? (i := 16) rfl)) dX1_lossOf_8 ?_
      refine vv_icmp_ge (tgt := 66) C dX1_lossOf_11 (by decide) (fun h11 => ?_) (fun h11 => ?_)
      · have hge := pu_geT hn (by omega) (by omega) h11
        obtain rfl : n = i := by omega
        refine vv_iload_n C dX1_lossOf_66 rfl 3 rfl ?_
        refine vv_fret C dX1_lossOf_67 ?_
        rfl
      · have hlt := pu_geF hn (by omega) (by omega) h11
        refine vv_iload_n C dX1_lossOf_14 rfl 1 rfl ?_
        refine vv_iload C dX1_lossOf_15 4 rfl ?_
        refine vv_cSN_F C (kk_X4_isIn l g _ _ _) yk_X4_isIn (List.mem_of_getElem? (i := 52) rfl) (by decide) rfl (Nat.le_of_ble_eq_true rfl) rfl dX1_lossOf_17 ?_
        refine vv_ifb_eq (tgt := 60) C dX1_lossOf_20 (by decide) (fun h20 => ?_) (fun h20 => ?_)
        · refine vv_iincN (L' := [_, _, _, _, _]) (j := 4) C dX1_lossOf_60 rfl (by decide) rfl ?_
          refine vv_goto (tgt := 5) C dX1_lossOf_63 (by decide) ?_
          refine vv_sub (L' := [_, _, _, _, _]) [1, 2, 3, 4, 0] rfl ?_
          have q := ih (i + 1) ⟨by omega, by omega⟩
          simp only [pu_loss, h11, h20, if_true, if_false, reduceIte, Bool.false_eq_true, and_true, true_and, and_false, false_and, not_true, not_false_iff, and_self, ite_true, ite_false, not_true_eq_false, not_false_eq_true, or_true, true_or, or_false, false_or] at q
          exact q
        · refine vv_aload_n C dX1_lossOf_23 rfl 0 rfl ?_
          refine vv_gR C (a := 3) (k := 1) (b := 4) inlX1 rfl rfl rfl rfl (by decide) rfl (tm_2 (List.mem_of_getElem? (i := 16) rfl)) dX1_lossOf_24 ?_
          refine vv_iload C dX1_lossOf_27 4 rfl ?_
          refine vv_ialdN C (a := 4) rfl (by omega) (by decide) dX1_lossOf_29 ?_
          refine vv_iconst (v := (4)) C dX1_lossOf_30 (by decide) ?_
          refine vv_icmp_eq (tgt := 60) C dX1_lossOf_31 (by decide) (fun h31 => ?_) (fun h31 => ?_)
          · refine vv_iincN (L' := [_, _, _, _, _]) (j := 4) C dX1_lossOf_60 rfl (by decide) rfl ?_
            refine vv_goto (tgt := 5) C dX1_lossOf_63 (by decide) ?_
            refine vv_sub (L' := [_, _, _, _, _]) [1, 2, 3, 4, 0] rfl ?_
            have q := ih (i + 1) ⟨by omega, by omega⟩
            simp only [pu_loss, h11, h20, h31, if_true, if_false, reduceIte, Bool.false_eq_true, and_true, true_and, and_false, false_and, not_true, not_false_iff, and_self, ite_true, ite_false, not_true_eq_false, not_false_eq_true, or_true, true_or, or_false, false_or] at q
            exact q
          · refine vv_iload_n C dX1_lossOf_34 rfl 3 rfl ?_
            refine vv_iload_n C dX1_lossOf_35 rfl 2 rfl ?_
            refine vv_if_eq (tgt := 51) C dX1_lossOf_36 (by decide) (fun h36 => ?_) (fun h36 => ?_)
            · refine vv_aload_n C dX1_lossOf_51 rfl 0 rfl ?_
              refine vv_gR C (a := 3) (k := 6) (b := 9) inlX1 rfl rfl rfl rfl (by decide) rfl (tm_2 (List.mem_of_getElem? (i := 21) rfl)) dX1_lossOf_52 ?_
              refine vv_iload C dX1_lossOf_55 4 rfl ?_
              refine vv_ialdN C (a := 9) rfl (by omega) (by decide) dX1_lossOf_57 ?_
              refine vv_iadd C dX1_lossOf_58 ?_
              refine vv_istore_n (i := 3) (L' := [_, _, _, _, _]) C dX1_lossOf_59 rfl (by decide) rfl ?_
              refine vv_iincN (L' := [_, _, _, _, _]) (j := 4) C dX1_lossOf_60 rfl (by decide) rfl ?_
              refine vv_goto (tgt := 5) C dX1_lossOf_63 (by decide) ?_
              refine vv_sub (L' := [_, _, _, _, _]) [2, 3, 4, 1, 0] rfl ?_
              have q := ih (i + 1) ⟨by omega, by omega⟩
              simp only [pu_loss, h11, h20, h31, if_pos h36, if_true, if_false, reduceIte, Bool.false_eq_true, and_true, true_and, and_false, false_and, not_true, not_false_iff, and_self, ite_true, ite_false, not_true_eq_false, not_false_eq_true, or_true, true_or, or_false, false_or] at q
              exact q
            · refine vv_aload_n C dX1_lossOf_39 rfl 0 rfl ?_
              refine vv_gR C (a := 3) (k := 6) (b := 9) inlX1 rfl rfl rfl rfl (by decide) rfl (tm_2 (List.mem_of_getElem? (i := 21) rfl)) dX1_lossOf_40 ?_
              refine vv_iload C dX1_lossOf_43 4 rfl ?_
              refine vv_ialdN C (a := 9) rfl (by omega) (by decide) dX1_lossOf_45 ?_
              refine vv_iconst (v := (1)) C dX1_lossOf_46 (by decide) ?_
              refine vv_iadd C dX1_lossOf_47 ?_
              refine vv_goto (tgt := 58) C dX1_lossOf_48 (by decide) ?_
              refine vv_iadd C dX1_lossOf_58 ?_
              refine vv_istore_n (i := 3) (L' := [_, _, _, _, _]) C dX1_lossOf_59 rfl (by decide) rfl ?_
              refine vv_iincN (L' := [_, _, _, _, _]) (j := 4) C dX1_lossOf_60 rfl (by decide) rfl ?_
              refine vv_goto (tgt := 5) C dX1_lossOf_63 (by decide) ?_
              refine vv_sub (L' := [_, _, _, _, _]) [2, 3, 4, 1, 0] rfl ?_
              have q := ih (i + 1) ⟨by omega, by omega⟩
              simp only [pu_loss, h11, h20, h31, if_neg h36, if_true, if_false, reduceIte, Bool.false_eq_true, and_true, true_and, and_false, false_and, not_true, not_false_iff, and_self, ite_true, ite_false, not_true_eq_false, not_false_eq_true, or_true, true_or, or_false, false_or] at q
              exact q
  refine vv_iconst (v := (0)) C dX1_lossOf_0 (by decide) ?_
  refine vv_istore_n (i := 3) (L' := [_, _, _, _]) C dX1_lossOf_1 rfl (by decide) rfl ?_
  refine vv_iconst (v := (nI 0)) C dX1_lossOf_2 (by decide) ?_
  refine vv_istore (L' := [_, _, _, _, _]) C dX1_lossOf_3 (by decide) rfl ?_
  refine vv_sub (L' := [_, _, _, _, _]) [2, 3, 4, 1, 0] rfl ?_
  exact lp5 (n + 1) 0 ⟨by omega, by omega⟩
theorem yk_X0_hasBegun : vx_yV yX0_hasBegun cX0_hasBegun 1 (some .boolean) 0 := ⟨(tm_11 (List.mem_of_getElem? (i := 11) rfl)), (tm_1 (List.mem_of_getElem? (i := 23) rfl)), by decide +kernel, (tm_11 (List.mem_of_getElem? (i := 9) rfl)), (tm_11 (List.mem_of_getElem? (i := 10) rfl))⟩
set_option maxHeartbeats 4000000 in
set_option maxRecDepth 100000 in
theorem kk_X0_hasBegun (l : Launch) (g : vx_G) (S : vx_St) (d : Nat) (hd0 : vx_SH[d]? = some vx_sDay) : vx_M l g yX0_hasBegun cX0_hasBegun 1 (some .boolean) (vx_R 0 0) [.ref (g.2.2.1 d)] S (vx_pf (vx_i (decide (0 < S.1 d 2))) S) := by
  refine vx_M.intro (by decide) (Nat.le_of_ble_eq_true rfl) ?_
  intro p e s m args below meth c C
  refine vv_aload_n C dX0_hasBegun_0 rfl 0 rfl ?_
  refine vv_getI C (a := d) (k := 2) (o := 0) inlX0 hd0 rfl rfl (by decide) rfl (tm_11 (List.mem_of_getElem? (i := 12) rfl)) dX0_hasBegun_1 ?_
  refine vv_if_le (tgt := 11) C dX0_hasBegun_4 (by decide) (fun h4 => ?_) (fun h4 => ?_)
  · have g4 := pu_le h4
    refine vv_iconst (v := (0)) C dX0_hasBegun_11 (by decide) ?_
    refine vv_fzret C dX0_hasBegun_12 rfl ?_
    simp [vx_i, h4, g4]
  · have g4 := pu_nle h4
    refine vv_iconst (v := (1)) C dX0_hasBegun_7 (by decide) ?_
    refine vv_goto (tgt := 12) C dX0_hasBegun_8 (by decide) ?_
    refine vv_fzret C dX0_hasBegun_12 rfl ?_
    simp [vx_i, h4, g4]
theorem yk_X0_hourComes : vx_yV yX0_hourComes cX0_hourComes 1 (some .boolean) 0 := ⟨(tm_18 (List.mem_of_getElem? (i := 4) rfl)), (tm_1 (List.mem_of_getElem? (i := 23) rfl)), by decide +kernel, (tm_18 (List.mem_of_getElem? (i := 2) rfl)), (tm_18 (List.mem_of_getElem? (i := 3) rfl))⟩
set_option maxHeartbeats 4000000 in
set_option maxRecDepth 100000 in
theorem kk_X0_hourComes (l : Launch) (g : vx_G) (S : vx_St) (d : Nat) (hd0 : vx_SH[d]? = some vx_sDay) : vx_M l g yX0_hourComes cX0_hourComes 1 (some .boolean) (vx_R 0 0) [.ref (g.2.2.1 d)] S (vx_pf (vx_i (decide (S.1 d 2 < 9) && decide (S.1 d 7 = 0))) S) := by
  refine vx_M.intro (by decide) (Nat.le_of_ble_eq_true rfl) ?_
  intro p e s m args below meth c C
  refine vv_aload_n C dX0_hourComes_0 rfl 0 rfl ?_
  refine vv_getI C (a := d) (k := 2) (o := 0) inlX0 hd0 rfl rfl (by decide) rfl (tm_11 (List.mem_of_getElem? (i := 12) rfl)) dX0_hourComes_1 ?_
  refine vv_bipush (v := (9)) C dX0_hourComes_4 (by decide) ?_
  refine vv_icmp_ge (tgt := 20) C dX0_hourComes_6 (by decide) (fun h6 => ?_) (fun h6 => ?_)
  · have g6 := pu_le h6
    refine vv_iconst (v := (0)) C dX0_hourComes_20 (by decide) ?_
    refine vv_fzret C dX0_hourComes_21 rfl ?_
    simp [vx_i, h6, g6]
  · have g6 := pu_nle h6
    refine vv_aload_n C dX0_hourComes_9 rfl 0 rfl ?_
    refine vv_getZ C (a := d) (k := 7) (o := 0) inlX0 hd0 rfl rfl (by decide) rfl (tm_18 (List.mem_of_getElem? (i := 5) rfl)) dX0_hourComes_10 ?_
    refine vv_ifz_ne (tgt := 20) C dX0_hourComes_13 (by decide) (fun h13 => ?_) (fun h13 => ?_)
    · refine vv_iconst (v := (0)) C dX0_hourComes_20 (by decide) ?_
      refine vv_fzret C dX0_hourComes_21 rfl ?_
      simp [vx_i, h6, g6, h13]
    · refine vv_iconst (v := (1)) C dX0_hourComes_16 (by decide) ?_
      refine vv_goto (tgt := 21) C dX0_hourComes_17 (by decide) ?_
      refine vv_fzret C dX0_hourComes_21 rfl ?_
      simp [vx_i, h6, g6, h13]
theorem yk_X0_wantOf : vx_yV yX0_wantOf cX0_wantOf 4 (some .int) 2 := ⟨(tm_15 (List.mem_of_getElem? (i := 6) rfl)), (tm_1 (List.mem_of_getElem? (i := 23) rfl)), by decide +kernel, (tm_15 (List.mem_of_getElem? (i := 4) rfl)), (tm_15 (List.mem_of_getElem? (i := 5) rfl))⟩
set_option maxHeartbeats 4000000 in
set_option maxRecDepth 100000 in
theorem kk_X0_wantOf (l : Launch) (g : vx_G) (S : vx_St) (d : Nat) (hd0 : vx_SH[d]? = some vx_sDay) (h : Nat) (hh : h < 8) : vx_M l g yX0_wantOf cX0_wantOf 4 (some .int) (vx_R 1 22) [.ref (g.2.2.1 d), .ref (g.2.2.1 3), .int (nI h)] S (vx_pf (pu_want (S.1 4) (S.1 6) (S.1 7) (S.1 8) (S.1 d 2) (S.1 d 5) (S.1 d 4) h) S) := by
  refine vx_M.intro (by decide) (Nat.le_of_ble_eq_true rfl) ?_
  intro p e s m args below meth c C
  refine vv_aload_n C dX0_wantOf_0 rfl 1 rfl ?_
  refine vv_iload_n C dX0_wantOf_1 rfl 2 rfl ?_
  refine vv_aload_n C dX0_wantOf_2 rfl 0 rfl ?_
  refine vv_getI C (a := d) (k := 2) (o := 0) inlX0 hd0 rfl rfl (by decide) rfl (tm_11 (List.mem_of_getElem? (i := 12) rfl)) dX0_wantOf_3 ?_
  refine vv_cVN_F C (a := 3) (kk_X1_isOpen l g _ _ (by omega) _) yk_X1_isOpen (List.mem_of_getElem? (i := 45) rfl) rfl rfl rfl (by decide) rfl (Nat.le_of_ble_eq_true rfl) rfl dX0_wantOf_6 ?_
  refine vv_ifb_eq (tgt := 23) C dX0_wantOf_9 (by decide) (fun h9 => ?_) (fun h9 => ?_)
  · refine vv_iconst (v := (0)) C dX0_wantOf_23 (by decide) ?_
    refine vv_fret C dX0_wantOf_24 ?_
    simp_all [pu_want]
  · refine vv_aload_n C dX0_wantOf_12 rfl 0 rfl ?_
    refine vv_getI C (a := d) (k := 5) (o := 0) inlX0 hd0 rfl rfl (by decide) rfl (tm_12 (List.mem_of_getElem? (i := 2) rfl)) dX0_wantOf_13 ?_
    refine vv_iload_n C dX0_wantOf_16 rfl 2 rfl ?_
    refine vv_cSN_F C (kk_X4_isIn l g _ _ _) yk_X4_isIn (List.mem_of_getElem? (i := 46) rfl) (by decide) rfl (Nat.le_of_ble_eq_true rfl) rfl dX0_wantOf_17 ?_
    refine vv_ifb_eq (tgt := 25) C dX0_wantOf_20 (by decide) (fun h20 => ?_) (fun h20 => ?_)
    · refine vv_aload_n C dX0_wantOf_25 rfl 1 rfl ?_
      refine vv_gRN C (a := 3) (k := 5) (b := 8) inlX1 rfl rfl rfl rfl (by decide) rfl (List.mem_of_getElem? (i := 12) rfl) dX0_wantOf_26 ?_
      refine vv_iload_n C dX0_wantOf_29 rfl 2 rfl ?_
      refine vv_ialdN C (a := 8) rfl (by omega) (by decide) dX0_wantOf_30 ?_
      refine vv_istore_n (i := 3) (L' := [_, _, _, _]) C dX0_wantOf_31 rfl (by decide) rfl ?_
      refine vv_aload_n C dX0_wantOf_32 rfl 2 rfl ?_
      refine vv_iload_n C dX0_wantOf_33 rfl 3 rfl ?_
      refine vv_iconst (v := (2)) C dX0_wantOf_34 (by decide) ?_
      refine vv_cVN_F C (a := 3) (kk_X1_isA l g _ _ (by omega) _) yk_X1_isA (List.mem_of_getElem? (i := 47) rfl) rfl rfl rfl (by decide) rfl (Nat.le_of_ble_eq_true rfl) rfl dX0_wantOf_35 ?_
      refine vv_ifb_eq (tgt := 58) C dX0_wantOf_38 (by decide) (fun h38 => ?_) (fun h38 => ?_)
      · refine vv_aload_n C dX0_wantOf_58 rfl 2 rfl ?_
        refine vv_iload_n C dX0_wantOf_59 rfl 3 rfl ?_
        refine vv_iconst (v := (3)) C dX0_wantOf_60 (by decide) ?_
        refine vv_cVN_F C (a := 3) (kk_X1_isA l g _ _ (by omega) _) yk_X1_isA (List.mem_of_getElem? (i := 47) rfl) rfl rfl rfl (by decide) rfl (Nat.le_of_ble_eq_true rfl) rfl dX0_wantOf_61 ?_
        refine vv_ifb_eq (tgt := 82) C dX0_wantOf_64 (by decide) (fun h64 => ?_) (fun h64 => ?_)
        · refine vv_iload_n C dX0_wantOf_82 rfl 0 rfl ?_
          refine vv_fret C dX0_wantOf_83 ?_
          simp_all [pu_want]
        · refine vv_aload_n C dX0_wantOf_67 rfl 1 rfl ?_
          refine vv_getI C (a := d) (k := 4) (o := 0) inlX0 hd0 rfl rfl (by decide) rfl (tm_15 (List.mem_of_getElem? (i := 7) rfl)) dX0_wantOf_68 ?_
          refine vv_iload_n C dX0_wantOf_71 rfl 3 rfl ?_
          refine vv_cSN_F C (kk_X4_isIn l g _ _ _) yk_X4_isIn (List.mem_of_getElem? (i := 46) rfl) (by decide) rfl (Nat.le_of_ble_eq_true rfl) rfl dX0_wantOf_72 ?_
          refine vv_ifb_eq (tgt := 82) C dX0_wantOf_75 (by decide) (fun h75 => ?_) (fun h75 => ?_)
          · refine vv_iload_n C dX0_wantOf_82 rfl 0 rfl ?_
            refine vv_fret C dX0_wantOf_83 ?_
            simp_all [pu_want]
          · refine vv_iload_n C dX0_wantOf_78 rfl 0 rfl ?_
            refine vv_iconst (v := (1)) C dX0_wantOf_79 (by decide) ?_
            refine vv_isub C dX0_wantOf_80 ?_
            refine vv_fret C dX0_wantOf_81 ?_
            simp_all [pu_want]
      · refine vv_aload_n C dX0_wantOf_41 rfl 1 rfl ?_
        refine vv_getI C (a := d) (k := 2) (o := 0) inlX0 hd0 rfl rfl (by decide) rfl (tm_11 (List.mem_of_getElem? (i := 12) rfl)) dX0_wantOf_42 ?_
        refine vv_aload_n C dX0_wantOf_45 rfl 2 rfl ?_
        refine vv_gRN C (a := 3) (k := 3) (b := 6) inlX1 rfl rfl rfl rfl (by decide) rfl (List.mem_of_getElem? (i := 9) rfl) dX0_wantOf_46 ?_
        refine vv_iload_n C dX0_wantOf_49 rfl 3 rfl ?_
        refine vv_ialdN C (a := 6) rfl (by omega) (by decide) dX0_wantOf_50 ?_
        refine vv_icmp_ne (tgt := 58) C dX0_wantOf_51 (by decide) (fun h51 => ?_) (fun h51 => ?_)
        · refine vv_aload_n C dX0_wantOf_58 rfl 2 rfl ?_
          refine vv_iload_n C dX0_wantOf_59 rfl 3 rfl ?_
          refine vv_iconst (v := (3)) C dX0_wantOf_60 (by decide) ?_
          refine vv_cVN_F C (a := 3) (kk_X1_isA l g _ _ (by omega) _) yk_X1_isA (List.mem_of_getElem? (i := 47) rfl) rfl rfl rfl (by decide) rfl (Nat.le_of_ble_eq_true rfl) rfl dX0_wantOf_61 ?_
          refine vv_ifb_eq (tgt := 82) C dX0_wantOf_64 (by decide) (fun h64 => ?_) (fun h64 => ?_)
          · refine vv_iload_n C dX0_wantOf_82 rfl 0 rfl ?_
            refine vv_fret C dX0_wantOf_83 ?_
            simp_all [pu_want]
          · refine vv_aload_n C dX0_wantOf_67 rfl 1 rfl ?_
            refine vv_getI C (a := d) (k := 4) (o := 0) inlX0 hd0 rfl rfl (by decide) rfl (tm_15 (List.mem_of_getElem? (i := 7) rfl)) dX0_wantOf_68 ?_
            refine vv_iload_n C dX0_wantOf_71 rfl 3 rfl ?_
            refine vv_cSN_F C (kk_X4_isIn l g _ _ _) yk_X4_isIn (List.mem_of_getElem? (i := 46) rfl) (by decide) rfl (Nat.le_of_ble_eq_true rfl) rfl dX0_wantOf_72 ?_
            refine vv_ifb_eq (tgt := 82) C dX0_wantOf_75 (by decide) (fun h75 => ?_) (fun h75 => ?_)
            · refine vv_iload_n C dX0_wantOf_82 rfl 0 rfl ?_
              refine vv_fret C dX0_wantOf_83 ?_
              simp_all [pu_want]
            · refine vv_iload_n C dX0_wantOf_78 rfl 0 rfl ?_
              refine vv_iconst (v := (1)) C dX0_wantOf_79 (by decide) ?_
              refine vv_isub C dX0_wantOf_80 ?_
              refine vv_fret C dX0_wantOf_81 ?_
              simp_all [pu_want]
        · refine vv_iconst (v := (2)) C dX0_wantOf_54 (by decide) ?_
          refine vv_iload_n C dX0_wantOf_55 rfl 0 rfl ?_
          refine vv_imul C dX0_wantOf_56 ?_
          refine vv_fret C dX0_wantOf_57 ?_
          simp_all [pu_want]
    · refine vv_iconst (v := (0)) C dX0_wantOf_23 (by decide) ?_
      refine vv_fret C dX0_wantOf_24 ?_
      simp_all [pu_want]
theorem yk_X0_goesBy : vx_yV yX0_goesBy cX0_goesBy 6 (some .int) 2 := ⟨(tm_16 (List.mem_of_getElem? (i := 17) rfl)), (tm_1 (List.mem_of_getElem? (i := 23) rfl)), by decide +kernel, (tm_16 (List.mem_of_getElem? (i := 15) rfl)), (tm_16 (List.mem_of_getElem? (i := 16) rfl))⟩
set_option maxHeartbeats 4000000 in
set_option maxRecDepth 100000 in
theorem kk_X0_goesBy (l : Launch) (g : vx_G) (S : vx_St) (d : Nat) (hd0 : vx_SH[d]? = some vx_sDay) (hd3 : vx_SH[d + 3]? = some vx_sA) (t : Int32) (n : Nat) (hn : S.1 3 0 = nI n) (hn8 : n ≤ 8) : vx_M l g yX0_goesBy cX0_goesBy 6 (some .int) (vx_R 2 45) [.ref (g.2.2.1 d), .ref (g.2.2.1 3), .int t] S (vx_pf (pu_goes (S.1 4) (S.1 9) (S.1 10) (vx_b01 (S.1 d 6)) (S.1 (d + 3)) t n) S) := by
  refine vx_M.intro (by decide) (Nat.le_of_ble_eq_true rfl) ?_
  intro p e s m args below meth c C
  have lp8 : ∀ (fu : Nat) (i : Nat), (n - i < fu ∧ i ≤ n) → vx_V p l e (vx_R 2 45) s m args below meth c (MQ below (vx_Q g (vx_pf (pu_goes (S.1 4) (S.1 9) (S.1 10) (vx_b01 (S.1 d 6)) (S.1 (d + 3)) t n) S)) args s 0 0 (vx_A g)) g 6 8 [(0, .ref (g.2.2.1 d)), (1, .ref (g.2.2.1 3)), (2, .int t), (3, .int (pu_gof (S.1 (d + 3)) t i)), (4, .int (pu_gos (S.1 (d + 3)) (S.1 10) t i)), (5, .int (nI i))] [] (S) := by
    intro fu
    induction fu with
    | zero =>
      intro i hfu
      exact absurd hfu.1 (by omega)
    | succ fu ih =>
      intro i hfu
      obtain ⟨hf1, hf2⟩ := hfu
      refine vv_iload C dX0_goesBy_8 5 rfl ?_
      refine vv_aload_n C dX0_goesBy_10 rfl 1 rfl ?_
      refine vv_getIN C (a := 3) (k := 0) (o := 0) inlX1 rfl rfl rfl (by decide) rfl (List.mem_of_getElem? (i := 6) rfl) dX0_goesBy_11 ?_
      refine vv_icmp_ge (tgt := 64) C dX0_goesBy_14 (by decide) (fun h14 => ?_) (fun h14 => ?_)
      · have g14 := pu_le h14
        have hge := pu_geT hn (by omega) (by omega) h14
        obtain rfl : n = i := by omega
        refine vv_iload_n C dX0_goesBy_64 rfl 3 rfl ?_
        refine vv_aload_n C dX0_goesBy_65 rfl 1 rfl ?_
        refine vv_iload C dX0_goesBy_66 4 rfl ?_
        refine vv_aload_n C dX0_goesBy_68 rfl 0 rfl ?_
        refine vv_getZ C (a := d) (k := 6) (o := 0) inlX0 hd0 rfl rfl (by decide) rfl (tm_16 (List.mem_of_getElem? (i := 18) rfl)) dX0_goesBy_69 ?_
        refine vv_cVN_F C (a := 3) (kk_X1_lossOf l g _ _ _ n hn hn8) yk_X1_lossOf (List.mem_of_getElem? (i := 51) rfl) rfl rfl rfl (by decide) rfl (Nat.le_of_ble_eq_true rfl) rfl dX0_goesBy_72 ?_
        refine vv_iadd C dX0_goesBy_75 ?_
        refine vv_fret C dX0_goesBy_76 ?_
        rfl
      · have g14 := pu_nle h14
        have hlt := pu_geF hn (by omega) (by omega) h14
        refine vv_iload_n C dX0_goesBy_17 rfl 2 rfl ?_
        refine vv_iload C dX0_goesBy_18 5 rfl ?_
        refine vv_cSN_F C (kk_X4_isIn l g _ _ _) yk_X4_isIn (List.mem_of_getElem? (i := 46) rfl) (by decide) rfl (Nat.le_of_ble_eq_true rfl) rfl dX0_goesBy_20 ?_
        refine vv_ifb_eq (tgt := 58) C dX0_goesBy_23 (by decide) (fun h23 => ?_) (fun h23 => ?_)
        · refine vv_iincN (L' := [_, _, _, _, _, _]) (j := 5) C dX0_goesBy_58 rfl (by decide) rfl ?_
          refine vv_goto (tgt := 8) C dX0_goesBy_61 (by decide) ?_
          refine vv_sub (L' := [_, _, _, _, _, _]) [1, 2, 3, 4, 5, 0] rfl ?_
          have q := ih (i + 1) ⟨by omega, by omega⟩
          simp only [pu_gof, pu_gos, h14, g14, h23, if_true, if_false, reduceIte, Bool.false_eq_true, and_true, true_and, and_false, false_and, not_true, not_false_iff, and_self, ite_true, ite_false, not_true_eq_false, not_false_eq_true, or_true, true_or, or_false, false_or] at q
          exact q
        · refine vv_aload_n C dX0_goesBy_26 rfl 0 rfl ?_
          refine vv_gR C (a := d) (k := 11) (b := d + 3) inlX0 hd0 rfl rfl rfl (by decide) rfl (tm_3 (List.mem_of_getElem? (i := 6) rfl)) dX0_goesBy_27 ?_
          refine vv_iload C dX0_goesBy_30 5 rfl ?_
          refine vv_ialdN C (a := d + 3) hd3 (by omega) (by decide) dX0_goesBy_32 ?_
          refine vv_if_le (tgt := 58) C dX0_goesBy_33 (by decide) (fun h33 => ?_) (fun h33 => ?_)
          · have g33 := pu_le h33
            refine vv_iincN (L' := [_, _, _, _, _, _]) (j := 5) C dX0_goesBy_58 rfl (by decide) rfl ?_
            refine vv_goto (tgt := 8) C dX0_goesBy_61 (by decide) ?_
            refine vv_sub (L' := [_, _, _, _, _, _]) [1, 2, 3, 4, 5, 0] rfl ?_
            have q := ih (i + 1) ⟨by omega, by omega⟩
            simp only [pu_gof, pu_gos, h14, g14, h23, h33, g33, if_true, if_false, reduceIte, Bool.false_eq_true, and_true, true_and, and_false, false_and, not_true, not_false_iff, and_self, ite_true, ite_false, not_true_eq_false, not_false_eq_true, or_true, true_or, or_false, false_or] at q
            exact q
          · have g33 := pu_nle h33
            refine vv_iload_n C dX0_goesBy_36 rfl 3 rfl ?_
            refine vv_aload_n C dX0_goesBy_37 rfl 0 rfl ?_
            refine vv_gR C (a := d) (k := 11) (b := d + 3) inlX0 hd0 rfl rfl rfl (by decide) rfl (tm_3 (List.mem_of_getElem? (i := 6) rfl)) dX0_goesBy_38 ?_
            refine vv_iload C dX0_goesBy_41 5 rfl ?_
            refine vv_ialdN C (a := d + 3) hd3 (by omega) (by decide) dX0_goesBy_43 ?_
            refine vv_iadd C dX0_goesBy_44 ?_
            refine vv_istore_n (i := 3) (L' := [_, _, _, _, _, _]) C dX0_goesBy_45 rfl (by decide) rfl ?_
            refine vv_iload C dX0_goesBy_46 4 rfl ?_
            refine vv_aload_n C dX0_goesBy_48 rfl 2 rfl ?_
            refine vv_gRN C (a := 3) (k := 7) (b := 10) inlX1 rfl rfl rfl rfl (by decide) rfl (List.mem_of_getElem? (i := 15) rfl) dX0_goesBy_49 ?_
            refine vv_iload C dX0_goesBy_52 5 rfl ?_
            refine vv_ialdN C (a := 10) rfl (by omega) (by decide) dX0_goesBy_54 ?_
            refine vv_ior C dX0_goesBy_55 ?_
            refine vv_istore (L' := [_, _, _, _, _, _]) C dX0_goesBy_56 (by decide) rfl ?_
            refine vv_iincN (L' := [_, _, _, _, _, _]) (j := 5) C dX0_goesBy_58 rfl (by decide) rfl ?_
            refine vv_goto (tgt := 8) C dX0_goesBy_61 (by decide) ?_
            refine vv_sub (L' := [_, _, _, _, _, _]) [3, 4, 5, 2, 1, 0] rfl ?_
            have q := ih (i + 1) ⟨by omega, by omega⟩
            simp only [pu_gof, pu_gos, h14, g14, h23, h33, g33, if_true, if_false, reduceIte, Bool.false_eq_true, and_true, true_and, and_false, false_and, not_true, not_false_iff, and_self, ite_true, ite_false, not_true_eq_false, not_false_eq_true, or_true, true_or, or_false, false_or] at q
            exact q
  refine vv_iconst (v := (0)) C dX0_goesBy_0 (by decide) ?_
  refine vv_istore_n (i := 3) (L' := [_, _, _, _]) C dX0_goesBy_1 rfl (by decide) rfl ?_
  refine vv_iconst (v := (0)) C dX0_goesBy_2 (by decide) ?_
  refine vv_istore (L' := [_, _, _, _, _]) C dX0_goesBy_3 (by decide) rfl ?_
  refine vv_iconst (v := (nI 0)) C dX0_goesBy_5 (by decide) ?_
  refine vv_istore (L' := [_, _, _, _, _, _]) C dX0_goesBy_6 (by decide) rfl ?_
  refine vv_sub (L' := [_, _, _, _, _, _]) [3, 4, 5, 2, 1, 0] rfl ?_
  exact lp8 (n + 1) 0 ⟨by omega, by omega⟩
theorem yk_X3_givesAll : vx_yV yX3_givesAll cX3_givesAll 5 (some .boolean) 2 := ⟨(tm_27 (List.mem_of_getElem? (i := 11) rfl)), (tm_2 (List.mem_of_getElem? (i := 3) rfl)), by decide +kernel, (tm_27 (List.mem_of_getElem? (i := 9) rfl)), (tm_27 (List.mem_of_getElem? (i := 10) rfl))⟩
set_option maxHeartbeats 4000000 in
set_option maxRecDepth 100000 in
theorem kk_X3_givesAll (l : Launch) (g : vx_G) (S : vx_St) (r : Nat) (hr0 : vx_SH[r]? = some vx_sRd) (hr1 : vx_SH[r + 1]? = some vx_sA) (hr2 : vx_SH[r + 2]? = some vx_sA) (n : Nat) (hn : S.1 r 0 = nI n) (hn8 : n ≤ 8) (sh ev : Int32) : vx_M l g yX3_givesAll cX3_givesAll 5 (some .boolean) (vx_R 1 21) [.ref (g.2.2.1 r), .int sh, .int ev] S (vx_pf (vx_i (pu_gives (S.1 (r + 1)) (S.1 (r + 2)) sh ev n)) S) := by
  refine vx_M.intro (by decide) (Nat.le_of_ble_eq_true rfl) ?_
  intro p e s m args below meth c C
  have lp2 : ∀ (fu : Nat) (i : Nat), (n - i < fu ∧ i ≤ n ∧ pu_gives (S.1 (r + 1)) (S.1 (r + 2)) sh ev i = true) → vx_V p l e (vx_R 1 21) s m args below meth c (MQ below (vx_Q g (vx_pf (vx_i (pu_gives (S.1 (r + 1)) (S.1 (r + 2)) sh ev n)) S)) args s 0 0 (vx_A g)) g 5 2 [(0, .ref (g.2.2.1 r)), (1, .int sh), (2, .int ev), (3, .int (nI i))] [] (S) := by
    intro fu
    induction fu with
    | zero =>
      intro i hfu
      exact absurd hfu.1 (by omega)
    | succ fu ih =>
      intro i hfu
      obtain ⟨hf1, hf2, hf3⟩ := hfu
      refine vv_iload_n C dX3_givesAll_2 rfl 3 rfl ?_
      refine vv_aload_n C dX3_givesAll_3 rfl 0 rfl ?_
      refine vv_getI C (a := r) (k := 0) (o := 0) inlX3 hr0 rfl rfl (by decide) rfl (tm_26 (List.mem_of_getElem? (i := 11) rfl)) dX3_givesAll_4 ?_
      refine vv_icmp_ge (tgt := 49) C dX3_givesAll_7 (by decide) (fun h7 => ?_) (fun h7 => ?_)
      · have hge := pu_geT hn (by omega) (by omega) h7
        obtain rfl : n = i := by omega
        refine vv_iconst (v := (1)) C dX3_givesAll_49 (by decide) ?_
        refine vv_fzret C dX3_givesAll_50 rfl ?_
        rw [hf3]; rfl
      · have hlt := pu_geF hn (by omega) (by omega) h7
        refine vv_aload_n C dX3_givesAll_10 rfl 0 rfl ?_
        refine vv_gR C (a := r) (k := 1) (b := r + 1) inlX3 hr0 rfl rfl rfl (by decide) rfl (tm_3 (List.mem_of_getElem? (i := 12) rfl)) dX3_givesAll_11 ?_
        refine vv_iload_n C dX3_givesAll_14 rfl 3 rfl ?_
        refine vv_ialdN C (a := r + 1) hr1 (by omega) (by decide) dX3_givesAll_15 ?_
        refine vv_iload_n C dX3_givesAll_16 rfl 1 rfl ?_
        refine vv_cSN_F C (kk_X4_isIn l g _ _ _) yk_X4_isIn (List.mem_of_getElem? (i := 66) rfl) (by decide) rfl (Nat.le_of_ble_eq_true rfl) rfl dX3_givesAll_17 ?_
        refine vv_ifb_eq (tgt := 27) C dX3_givesAll_20 (by decide) (fun h20 => ?_) (fun h20 => ?_)
        · refine vv_iconst (v := (0)) C dX3_givesAll_27 (by decide) ?_
          refine vv_istore (L' := [_, _, _, _, _]) C dX3_givesAll_28 (by decide) rfl ?_
          refine vv_iload C dX3_givesAll_30 0 rfl ?_
          refine vv_aload_n C dX3_givesAll_32 rfl 1 rfl ?_
          refine vv_gR C (a := r) (k := 2) (b := r + 2) inlX3 hr0 rfl rfl rfl (by decide) rfl (tm_3 (List.mem_of_getElem? (i := 13) rfl)) dX3_givesAll_33 ?_
          refine vv_iload_n C dX3_givesAll_36 rfl 4 rfl ?_
          refine vv_ialdN C (a := r + 2) hr2 (by omega) (by decide) dX3_givesAll_37 ?_
          refine vv_icmp_eq (tgt := 43) C dX3_givesAll_38 (by decide) (fun h38 => ?_) (fun h38 => ?_)
          · refine vv_iincN (L' := [_, _, _, _, _]) (j := 4) C dX3_givesAll_43 rfl (by decide) rfl ?_
            refine vv_goto (tgt := 2) C dX3_givesAll_46 (by decide) ?_
            refine vv_sub (L' := [_, _, _, _]) [2, 3, 4, 0] rfl ?_
            exact ih (i + 1) ⟨by omega, by omega, by simp_all [pu_gives, pu_shown]⟩
          · refine vv_iconst (v := (0)) C dX3_givesAll_41 (by decide) ?_
            refine vv_fzret C dX3_givesAll_42 rfl ?_
            rw [pu_gives_no (i := i) (by simp_all [pu_shown]) n hlt]; rfl
        · refine vv_iload_n C dX3_givesAll_23 rfl 2 rfl ?_
          refine vv_goto (tgt := 28) C dX3_givesAll_24 (by decide) ?_
          refine vv_istore (L' := [_, _, _, _, _]) C dX3_givesAll_28 (by decide) rfl ?_
          refine vv_iload C dX3_givesAll_30 0 rfl ?_
          refine vv_aload_n C dX3_givesAll_32 rfl 1 rfl ?_
          refine vv_gR C (a := r) (k := 2) (b := r + 2) inlX3 hr0 rfl rfl rfl (by decide) rfl (tm_3 (List.mem_of_getElem? (i := 13) rfl)) dX3_givesAll_33 ?_
          refine vv_iload_n C dX3_givesAll_36 rfl 4 rfl ?_
          refine vv_ialdN C (a := r + 2) hr2 (by omega) (by decide) dX3_givesAll_37 ?_
          refine vv_icmp_eq (tgt := 43) C dX3_givesAll_38 (by decide) (fun h38 => ?_) (fun h38 => ?_)
          · refine vv_iincN (L' := [_, _, _, _, _]) (j := 4) C dX3_givesAll_43 rfl (by decide) rfl ?_
            refine vv_goto (tgt := 2) C dX3_givesAll_46 (by decide) ?_
            refine vv_sub (L' := [_, _, _, _]) [2, 3, 4, 0] rfl ?_
            exact ih (i + 1) ⟨by omega, by omega, by simp_all [pu_gives, pu_shown]⟩
          · refine vv_iconst (v := (0)) C dX3_givesAll_41 (by decide) ?_
            refine vv_fzret C dX3_givesAll_42 rfl ?_
            rw [pu_gives_no (i := i) (by simp_all [pu_shown]) n hlt]; rfl
  refine vv_iconst (v := (nI 0)) C dX3_givesAll_0 (by decide) ?_
  refine vv_istore_n (i := 3) (L' := [_, _, _, _]) C dX3_givesAll_1 rfl (by decide) rfl ?_
  refine vv_sub (L' := [_, _, _, _]) [1, 2, 3, 0] rfl ?_
  exact lp2 (n + 1) 0 ⟨by omega, by omega, rfl⟩
theorem yk_X3_leastLeakOf : vx_yV yX3_leastLeakOf cX3_leastLeakOf 3 (some .int) 1 := ⟨(tm_27 (List.mem_of_getElem? (i := 7) rfl)), (tm_2 (List.mem_of_getElem? (i := 3) rfl)), by decide +kernel, (tm_27 (List.mem_of_getElem? (i := 5) rfl)), (tm_27 (List.mem_of_getElem? (i := 6) rfl))⟩
set_option maxHeartbeats 4000000 in
set_option maxRecDepth 100000 in
theorem kk_X3_leastLeakOf (l : Launch) (g : vx_G) (S : vx_St) (r : Nat) (hr0 : vx_SH[r]? = some vx_sRd) (hr1 : vx_SH[r + 1]? = some vx_sA) (hr2 : vx_SH[r + 2]? = some vx_sA) (n : Nat) (hn : S.1 r 0 = nI n) (hn8 : n ≤ 8) (sh : Int32) : vx_M l g yX3_leastLeakOf cX3_leastLeakOf 3 (some .int) (vx_R 2 45) [.ref (g.2.2.1 r), .int sh] S (vx_pf (pu_leak (S.1 (r + 1)) (S.1 (r + 2)) sh n 9) S) := by
  refine vx_M.intro (by decide) (Nat.le_of_ble_eq_true rfl) ?_
  intro p e s m args below meth c C
  have lp2 : ∀ (fu : Nat) (i : Nat), (10 - i < fu ∧ 1 ≤ i ∧ i ≤ 10 ∧ pu_leak (S.1 (r + 1)) (S.1 (r + 2)) sh n 9 = pu_leak (S.1 (r + 1)) (S.1 (r + 2)) sh n (10 - i)) → vx_V p l e (vx_R 2 45) s m args below meth c (MQ below (vx_Q g (vx_pf (pu_leak (S.1 (r + 1)) (S.1 (r + 2)) sh n 9) S)) args s 0 0 (vx_A g)) g 3 2 [(0, .ref (g.2.2.1 r)), (1, .int sh), (2, .int (nI i))] [] (S) := by
    intro fu
    induction fu with
    | zero =>
      intro i hfu
      exact absurd hfu.1 (by omega)
    | succ fu ih =>
      intro i hfu
      obtain ⟨hf1, hf2, hf3, hf4⟩ := hfu
      refine vv_iload_n C dX3_leastLeakOf_2 rfl 2 rfl ?_
      refine vv_bipush (v := (nI 9)) C dX3_leastLeakOf_3 (by decide) ?_
      refine vv_icmp_gt (tgt := 25) C dX3_leastLeakOf_5 (by decide) (fun h5 => ?_) (fun h5 => ?_)
      · have hge := (nI_ltI (by omega) (by omega)).mp h5
        refine vv_iconst (v := (-1)) C dX3_leastLeakOf_25 (by decide) ?_
        refine vv_fret C dX3_leastLeakOf_26 ?_
        rw [hf4, show 10 - i = 0 from by omega]; rfl
      · have hlt : i ≤ 9 := Nat.not_lt.mp (fun q => h5 ((nI_ltI (by omega) (by omega)).mpr q))
        refine vv_aload_n C dX3_leastLeakOf_8 rfl 0 rfl ?_
        refine vv_iload_n C dX3_leastLeakOf_9 rfl 1 rfl ?_
        refine vv_iload_n C dX3_leastLeakOf_10 rfl 2 rfl ?_
        refine vv_cV_F C (a := r) (kk_X3_givesAll l g _ _ hr0 hr1 hr2 n hn hn8 _ _) yk_X3_givesAll (tm_27 (List.mem_of_getElem? (i := 8) rfl)) hr0 rfl rfl (by decide) rfl (Nat.le_of_ble_eq_true rfl) rfl dX3_leastLeakOf_11 ?_
        refine vv_ifb_eq (tgt := 19) C dX3_leastLeakOf_14 (by decide) (fun h14 => ?_) (fun h14 => ?_)
        · refine vv_iincN (L' := [_, _, _]) (j := 2) C dX3_leastLeakOf_19 rfl (by decide) rfl ?_
          refine vv_goto (tgt := 2) C dX3_leastLeakOf_22 (by decide) ?_
          refine vv_sub (L' := [_, _, _]) [1, 2, 0] rfl ?_
          exact ih (i + 1) ⟨by omega, by omega, by omega, by rw [hf4, pu_leak_step _ _ _ _ hf2 (by omega), if_neg (by simp_all)]⟩
        · refine vv_iload_n C dX3_leastLeakOf_17 rfl 2 rfl ?_
          refine vv_fret C dX3_leastLeakOf_18 ?_
          rw [hf4, pu_leak_step _ _ _ _ hf2 hlt, if_pos h14]
  refine vv_iconst (v := (nI 1)) C dX3_leastLeakOf_0 (by decide) ?_
  refine vv_istore_n (i := 2) (L' := [_, _, _]) C dX3_leastLeakOf_1 rfl (by decide) rfl ?_
  refine vv_sub (L' := [_, _, _]) [1, 2, 0] rfl ?_
  exact lp2 10 1 ⟨by omega, by omega, by omega, rfl⟩
end
section
/-! ===== stores that differ at some rows ===== -/
def pu_chg (S S' : vx_St) (cs : List Nat) : Prop := S'.2 = S.2 ∧ ∀ c, c ∉ cs → S'.1 c = S.1 c
theorem pu_chg_rf (S : vx_St) (cs : List Nat) : pu_chg S S cs := ⟨rfl, fun _ _ => rfl⟩
theorem pu_chg_u {S S' : vx_St} {cs : List Nat} (h : pu_chg S S' cs) {c : Nat} (k : Nat) (x : Int32) (hc : c ∈ cs) : pu_chg S (vx_u S' c k x) cs := ⟨h.1, fun i hi => by
  have e : i ≠ c := fun e => hi (e ▸ hc)
  rw [vx_u_ne S' k x e]
  exact h.2 i hi⟩
theorem pu_chg_ur {S S' : vx_St} {cs : List Nat} (h : pu_chg S S' cs) {c : Nat} (f : Nat → Int32) (hc : c ∈ cs) : pu_chg S (vx_ur S' c f) cs := ⟨h.1, fun i hi => by
  have e : i ≠ c := fun e => hi (e ▸ hc)
  simp only [vx_ur, if_neg e]
  exact h.2 i hi⟩
theorem pu_chg_tr {S S1 S2 : vx_St} {cs c1 : List Nat} (h : pu_chg S S1 cs) (h1 : pu_chg S1 S2 c1) (hs : ∀ c ∈ c1, c ∈ cs) : pu_chg S S2 cs := ⟨h1.1.trans h.1, fun i hi => (h1.2 i (fun q => hi (hs i q))).trans (h.2 i hi)⟩
theorem vx_ur_ne (S : vx_St) {c i : Nat} (f : Nat → Int32) (h : i ≠ c) : (vx_ur S c f).1 i = S.1 i := by simp only [vx_ur, if_neg h]
theorem vx_ur_eq (S : vx_St) (c : Nat) (f : Nat → Int32) : (vx_ur S c f).1 c = f := by simp only [vx_ur, if_true]
/-- the first n places by f, the others by g -/
def pu_fill (f g : Nat → Int32) (n : Nat) : Nat → Int32 := fun j => if j < n then f j else g j
theorem pu_fill_0 (f g : Nat → Int32) : pu_fill f g 0 = g := rfl
theorem pu_fill_in {f g : Nat → Int32} {n j : Nat} (h : j < n) : pu_fill f g n j = f j := if_pos h
theorem pu_fill_s (f g : Nat → Int32) (n : Nat) : upd (pu_fill f g n) n (f n) = pu_fill f g (n + 1) := by
  funext j
  simp only [upd, pu_fill]
  by_cases h : j = n
  · subst h
    simp
  · rw [if_neg h]
    by_cases h2 : j < n
    · rw [if_pos h2, if_pos (show j < n + 1 by omega)]
    · rw [if_neg h2, if_neg (show ¬ j < n + 1 by omega)]
theorem pu_dT {k : Nat} (hk : k ≤ 1000) (h : nI k - 1 < 0) : k = 0 := by
  cases k with
  | zero => rfl
  | succ j => rw [nI_pred] at h; exact absurd h (nI_pos (by omega))
theorem pu_dF {k : Nat} (h : ¬ nI k - 1 < 0) : ∃ j, k = j + 1 := by
  cases k with
  | zero => exact absurd (by decide) h
  | succ j => exact ⟨j, rfl⟩
theorem pu_m1 (x : Int32) : x + Int32.ofInt (-1) = x - 1 := by
  rw [show Int32.ofInt (-1) = -1 from by decide, Int32.sub_eq_add_neg]
/-! ===== an hour: hs by kind of row (0 kind, 1 parent, 2 from, 3 to, 4 takes, 5 loss), wy the ways ===== -/
def pu_hs (S : vx_St) (w : Nat) : Nat → Int32 := S.1 (4 + w)
def pu_W (hs : Nat → Nat → Int32) (hr br wk : Int32) (h : Nat) : Int32 := pu_want (hs 0) (hs 2) (hs 3) (hs 4) hr br wk h
def pu_G (hs : Nat → Nat → Int32) (wy : Nat → Int32) (rn hr br wk : Int32) (n : Nat) (t : Int32) : Int32 := pu_goes (hs 0) (hs 5) wy (vx_b01 rn) (pu_W hs hr br wk) t n
/-- who goes on to work, where k houses are still to be asked, the last first -/
def pu_stop (G : Int32 → Int32) (W kind : Nat → Int32) (hg : Int32) : Nat → Int32 → Int32
  | 0, t => t
  | k + 1, t => if G t ≤ hg then t else if 0 < W k ∧ ¬ kind k = 1 then pu_stop G W kind hg k (t &&& (pu_bit (nI k) ^^^ -1)) else pu_stop G W kind hg k t
def pu_set (hs : Nat → Nat → Int32) (wy : Nat → Int32) (rn hg hr br wk : Int32) (n : Nat) : Int32 := pu_stop (pu_G hs wy rn hr br wk n) (pu_W hs hr br wk) (hs 0) hg n (pu_all (nI n))
def pu_dn (hs : Nat → Nat → Int32) (wy : Nat → Int32) (rn hg hr br wk : Int32) (n : Nat) : Bool := decide (¬ pu_G hs wy rn hr br wk n (pu_set hs wy rn hg hr br wk n) ≤ hg)
def pu_feet (hs : Nat → Nat → Int32) (wy : Nat → Int32) (rn hg hr br wk : Int32) (n : Nat) : Int32 := if pu_dn hs wy rn hg hr br wk n = true then hg else pu_G hs wy rn hr br wk n (pu_set hs wy rn hg hr br wk n)
def pu_set2 (hs : Nat → Nat → Int32) (wy : Nat → Int32) (rn hg hr br wk : Int32) (n : Nat) : Int32 := if pu_dn hs wy rn hg hr br wk n = true then 0 else pu_set hs wy rn hg hr br wk n
/-- who worked, as bits; what each has taken then -/
def pu_work (wd : Nat → Int32) (t : Int32) : Nat → Int32
  | 0 => 0
  | n + 1 => if pu_in t (nI n) = true ∧ 0 < wd n then pu_work wd t n ||| pu_bit (nI n) else pu_work wd t n
def pu_took (tk wd : Nat → Int32) (t : Int32) (n : Nat) : Nat → Int32 := fun j => if j < n then (if pu_in t (nI j) = true ∧ 0 < wd j then tk j + wd j else tk j) else tk j
theorem pu_took_s1 {tk wd : Nat → Int32} {t : Int32} {n : Nat} (h1 : pu_in t (nI n) = true) (h2 : 0 < wd n) : upd (pu_took tk wd t n) n (pu_took tk wd t n n + wd n) = pu_took tk wd t (n + 1) := by
  funext j
  simp only [upd, pu_took]
  by_cases h : j = n
  · subst h
    simp [h1, h2]
  · rw [if_neg h]
    by_cases h3 : j < n
    · rw [if_pos h3, if_pos (show j < n + 1 by omega)]
    · rw [if_neg h3, if_neg (show ¬ j < n + 1 by omega)]
theorem pu_took_s2 {tk wd : Nat → Int32} {t : Int32} {n : Nat} (h1 : ¬ (pu_in t (nI n) = true ∧ 0 < wd n)) : pu_took tk wd t n = pu_took tk wd t (n + 1) := by
  funext j
  simp only [pu_took]
  by_cases h : j = n
  · subst h
    rw [if_neg (Nat.lt_irrefl j), if_pos (Nat.lt_succ_self j), if_neg h1]
  · by_cases h3 : j < n
    · rw [if_pos h3, if_pos (show j < n + 1 by omega)]
    · rw [if_neg h3, if_neg (show ¬ j < n + 1 by omega)]
theorem pu_gof_c {f g : Nat → Int32} (t : Int32) : ∀ n, (∀ j, j < n → f j = g j) → pu_gof f t n = pu_gof g t n
  | 0, _ => rfl
  | n + 1, h => by simp only [pu_gof]; rw [pu_gof_c t n (fun j hj => h j (by omega)), h n (by omega)]
theorem pu_gos_c {f g : Nat → Int32} (w : Nat → Int32) (t : Int32) : ∀ n, (∀ j, j < n → f j = g j) → pu_gos f w t n = pu_gos g w t n
  | 0, _ => rfl
  | n + 1, h => by simp only [pu_gos]; rw [pu_gos_c w t n (fun j hj => h j (by omega)), h n (by omega)]
theorem pu_work_c {f g : Nat → Int32} (t : Int32) : ∀ n, (∀ j, j < n → f j = g j) → pu_work f t n = pu_work g t n
  | 0, _ => rfl
  | n + 1, h => by simp only [pu_work]; rw [pu_work_c t n (fun j hj => h j (by omega)), h n (by omega)]
theorem pu_took_c {f g : Nat → Int32} (tk : Nat → Int32) (t : Int32) (n : Nat) (h : ∀ j, j < n → f j = g j) : pu_took tk f t n = pu_took tk g t n := by
  funext j
  simp only [pu_took]
  by_cases h3 : j < n
  · rw [if_pos h3, if_pos h3, h j h3]
  · rw [if_neg h3, if_neg h3]
theorem pu_goes_c {f g : Nat → Int32} (k ls w : Nat → Int32) (rn t : Int32) (n : Nat) (h : ∀ j, j < n → f j = g j) : pu_goes k ls w rn f t n = pu_goes k ls w rn g t n := by
  simp only [pu_goes]
  rw [pu_gof_c t n h, pu_gos_c w t n h]
/-- a day's numbers behind letWork: hangs 1, lost 3, worked 4, taken by all 8 -/
def pu_let (sc wd : Nat → Int32) (t ft : Int32) (n : Nat) : Nat → Int32 := upd (upd (upd (upd sc 4 (pu_work wd t n)) 8 (sc 8 + pu_gof wd t n)) 3 (sc 3 + (ft - pu_gof wd t n))) 1 (sc 1 - ft)
/-! ===== parts ===== -/
def pu_p0 (dp tb : Int32) (tk : Nat → Int32) (h : Nat) : Int32 := if tb ≤ 0 then 0 else dp * tk h / tb
def pu_r0 (dp tb : Int32) (tk : Nat → Int32) (h : Nat) : Int32 := if tb ≤ 0 then 0 else dp * tk h - dp * tk h / tb * tb
def pu_lf (dp tb : Int32) (tk : Nat → Int32) : Nat → Int32
  | 0 => if tb ≤ 0 then 0 else dp
  | n + 1 => pu_lf dp tb tk n - pu_p0 dp tb tk n
/-- the least place with the greatest rest -/
def pu_gr (rs : Nat → Int32) : Nat → Nat
  | 0 => 0
  | k + 1 => if rs k ≤ rs (pu_gr rs k) then pu_gr rs k else k
theorem pu_gr_lt (rs : Nat → Int32) : ∀ n, 0 < n → pu_gr rs n < n
  | 0, h => absurd h (Nat.lt_irrefl 0)
  | n + 1, _ => by
    simp only [pu_gr]
    split
    · rcases Nat.eq_zero_or_pos n with rfl | h
      · exact Nat.lt_succ_self 0
      · exact Nat.lt_succ_of_lt (pu_gr_lt rs n h)
    · exact Nat.lt_succ_self n
theorem pu_gr_1 (rs : Nat → Int32) : pu_gr rs 1 = 0 := by
  have h : pu_gr rs 1 = if rs 0 ≤ rs (pu_gr rs 0) then pu_gr rs 0 else 0 := rfl
  rw [h]
  split <;> rfl
def pu_give (n : Nat) : Nat → (Nat → Int32) → (Nat → Int32) → Int32 → (Nat → Int32)
  | 0, p, _, _ => p
  | k + 1, p, r, lf => if lf ≤ 0 then p else pu_give n k (upd p (pu_gr r n) (p (pu_gr r n) + 1)) (upd r (pu_gr r n) (-1)) (lf - 1)
def pu_pts (dp tb : Int32) (tk po ro : Nat → Int32) (n : Nat) : Nat → Int32 := pu_give n n (pu_fill (pu_p0 dp tb tk) po n) (pu_fill (pu_r0 dp tb tk) ro n) (pu_lf dp tb tk n)
def pu_mn (x : Int32) : Int32 := if x < 999 then x else 999
theorem pu_isA_1 (kind : Nat → Int32) (h : Nat) : pu_isA kind h 1 = decide (kind h = 1) := by
  unfold pu_isA
  rw [show decide ((1 : Int32) = 0) = false from by decide, show decide ((1 : Int32) = 2) = false from by decide]
  simp
theorem pu_let_c {f g : Nat → Int32} (sc : Nat → Int32) (t ft : Int32) (n : Nat) (h : ∀ j, j < n → f j = g j) : pu_let sc f t ft n = pu_let sc g t ft n := by
  simp only [pu_let]
  rw [pu_work_c t n h, pu_gof_c t n h]
/-- a day's numbers behind an hour -/
def pu_nx (hs : Nat → Nat → Int32) (wy sc : Nat → Int32) (n : Nat) : Nat → Int32 :=
  upd (pu_let (if pu_dn hs wy (sc 6) (sc 1) (sc 2) (sc 5) (sc 4) n = true then upd sc 7 1 else sc) (pu_W hs (sc 2) (sc 5) (sc 4)) (pu_set2 hs wy (sc 6) (sc 1) (sc 2) (sc 5) (sc 4) n) (pu_feet hs wy (sc 6) (sc 1) (sc 2) (sc 5) (sc 4) n) n) 2 (sc 2 + 1)
theorem pu_Gof {S S2 : vx_St} {d n : Nat} (hd : d = 11 ∨ d = 20 ∨ d = 26) (hc : pu_chg S S2 [d + 3]) (hw : S2.1 (d + 3) = pu_fill (pu_W (pu_hs S) (S.1 d 2) (S.1 d 5) (S.1 d 4)) (S.1 (d + 3)) n) (t : Int32) : pu_goes (S2.1 4) (S2.1 9) (S2.1 10) (vx_b01 (S2.1 d 6)) (S2.1 (d + 3)) t n = pu_G (pu_hs S) (S.1 10) (S.1 d 6) (S.1 d 2) (S.1 d 5) (S.1 d 4) n t := by
  rw [hc.2 4 (by simp only [List.mem_cons, List.not_mem_nil, or_false, not_or]; omega), hc.2 9 (by simp only [List.mem_cons, List.not_mem_nil, or_false, not_or]; omega), hc.2 10 (by simp only [List.mem_cons, List.not_mem_nil, or_false, not_or]; omega), hc.2 d (by simp only [List.mem_cons, List.not_mem_nil, or_false, not_or]; omega), hw]
  exact pu_goes_c _ _ _ _ _ _ (fun j hj => pu_fill_in hj)
def pu_ngt (sc : Nat → Int32) : Nat → Int32 := upd (upd (upd (upd (upd (upd sc 2 0) 1 (sc 0)) 8 0) 3 0) 4 0) 7 0
end
section
theorem pu_dsh {d : Nat} (hd : d = 11 ∨ d = 20 ∨ d = 26) : vx_SH[d]? = some vx_sDay ∧ vx_SH[d + 1]? = some vx_sA ∧ vx_SH[d + 2]? = some vx_sA ∧ vx_SH[d + 3]? = some vx_sA ∧ vx_SH[d + 4]? = some vx_sA ∧ vx_SH[d + 5]? = some vx_sA := by
  rcases hd with rfl | rfl | rfl <;> exact ⟨rfl, rfl, rfl, rfl, rfl, rfl⟩
theorem yk_X0_tellWanted : vx_yV yX0_tellWanted cX0_tellWanted 3 none 1 := ⟨(tm_16 (List.mem_of_getElem? (i := 13) rfl)), (tm_1 (List.mem_of_getElem? (i := 23) rfl)), by decide +kernel, (tm_16 (List.mem_of_getElem? (i := 11) rfl)), (tm_16 (List.mem_of_getElem? (i := 12) rfl))⟩
set_option maxHeartbeats 4000000 in
set_option maxRecDepth 100000 in
theorem kk_X0_tellWanted (l : Launch) (g : vx_G) (S : vx_St) (d : Nat) (hd : d = 11 ∨ d = 20 ∨ d = 26) (n : Nat) (hn : S.1 3 0 = nI n) (hn8 : n ≤ 8) : vx_M l g yX0_tellWanted cX0_tellWanted 3 none (vx_R 2 45) [.ref (g.2.2.1 d), .ref (g.2.2.1 3)] S (vx_pv (fun S' => pu_chg S S' [d + 3] ∧ S'.1 (d + 3) = pu_fill (pu_W (pu_hs S) (S.1 d 2) (S.1 d 5) (S.1 d 4)) (S.1 (d + 3)) n)) := by
  obtain ⟨hd0, hd1, hd2, hd3, hd4, hd5⟩ := pu_dsh hd
  refine vx_M.intro (by decide) (Nat.le_of_ble_eq_true rfl) ?_
  intro p e s m args below meth c C
  have lp2 : ∀ (fu : Nat) (i : Nat) (S1 : vx_St), (n - i < fu ∧ i ≤ n ∧ pu_chg S S1 [d + 3] ∧ S1.1 (d + 3) = pu_fill (pu_W (pu_hs S) (S.1 d 2) (S.1 d 5) (S.1 d 4)) (S.1 (d + 3)) i) → vx_V p l e (vx_R 2 45) s m args below meth c (MQ below (vx_Q g (vx_pv (fun S' => pu_chg S S' [d + 3] ∧ S'.1 (d + 3) = pu_fill (pu_W (pu_hs S) (S.1 d 2) (S.1 d 5) (S.1 d 4)) (S.1 (d + 3)) n))) args s 0 0 (vx_A g)) g 3 2 [(0, .ref (g.2.2.1 d)), (1, .ref (g.2.2.1 3)), (2, .int (nI i))] [] (S1) := by
    intro fu
    induction fu with
    | zero =>
      intro i S1 hfu
      exact absurd hfu.1 (by omega)
    | succ fu ih =>
      intro i S1 hfu
      obtain ⟨hf1, hf2, hf3, hf4⟩ := hfu
      have hn1 : S1.1 3 0 = nI n := by rw [hf3.2 3 (by simp only [List.mem_cons, List.not_mem_nil, or_false, not_or]; omega)]; exact hn
      refine vv_iload_n C dX0_tellWanted_2 rfl 2 rfl ?_
      refine vv_aload_n C dX0_tellWanted_3 rfl 1 rfl ?_
      refine vv_getIN C (a := 3) (k := 0) (o := 0) inlX1 rfl rfl rfl (by decide) rfl (List.mem_of_getElem? (i := 6) rfl) dX0_tellWanted_4 ?_
      refine vv_icmp_ge (tgt := 28) C dX0_tellWanted_7 (by decide) (fun h7 => ?_) (fun h7 => ?_)
      · have hge := pu_geT hn1 (by omega) (by omega) h7
        obtain rfl : n = i := by omega
        refine vv_nret C dX0_tellWanted_28 ?_
        exact ⟨hf3, hf4⟩
      · have hlt := pu_geF hn1 (by omega) (by omega) h7
        refine vv_aload_n C dX0_tellWanted_10 rfl 0 rfl ?_
        refine vv_gR C (a := d) (k := 11) (b := d + 3) inlX0 hd0 rfl rfl rfl (by decide) rfl (tm_3 (List.mem_of_getElem? (i := 6) rfl)) dX0_tellWanted_11 ?_
        refine vv_iload_n C dX0_tellWanted_14 rfl 2 rfl ?_
        refine vv_aload_n C dX0_tellWanted_15 rfl 0 rfl ?_
        refine vv_aload_n C dX0_tellWanted_16 rfl 1 rfl ?_
        refine vv_iload_n C dX0_tellWanted_17 rfl 2 rfl ?_
        refine vv_cV_F C (a := d) (kk_X0_wantOf l g _ _ hd0 _ (by omega)) yk_X0_wantOf (tm_16 (List.mem_of_getElem? (i := 14) rfl)) hd0 rfl rfl (by decide) rfl (Nat.le_of_ble_eq_true rfl) rfl dX0_tellWanted_18 ?_
        refine vv_iastN C (a := d + 3) hd3 (by omega) (by decide) dX0_tellWanted_21 ?_
        refine vv_iincN (L' := [_, _, _]) (j := 2) C dX0_tellWanted_22 rfl (by decide) rfl ?_
        refine vv_goto (tgt := 2) C dX0_tellWanted_25 (by decide) ?_
        refine vv_sub (L' := [_, _, _]) [1, 2, 0] rfl ?_
        refine ih (i + 1) _ ⟨by omega, by omega, pu_chg_u hf3 _ _ (by simp), ?_⟩
        rw [vx_u_row, hf4, hf3.2 4 (by simp only [List.mem_cons, List.not_mem_nil, or_false, not_or]; omega), hf3.2 6 (by simp only [List.mem_cons, List.not_mem_nil, or_false, not_or]; omega), hf3.2 7 (by simp only [List.mem_cons, List.not_mem_nil, or_false, not_or]; omega), hf3.2 8 (by simp only [List.mem_cons, List.not_mem_nil, or_false, not_or]; omega), hf3.2 d (by simp only [List.mem_cons, List.not_mem_nil, or_false, not_or]; omega)]
        exact pu_fill_s _ _ i
  refine vv_iconst (v := (nI 0)) C dX0_tellWanted_0 (by decide) ?_
  refine vv_istore_n (i := 2) (L' := [_, _, _]) C dX0_tellWanted_1 rfl (by decide) rfl ?_
  refine vv_sub (L' := [_, _, _]) [1, 2, 0] rfl ?_
  exact lp2 (n + 1) 0 S ⟨by omega, by omega, pu_chg_rf S _, rfl⟩
theorem yk_X0_letWork : vx_yV yX0_letWork cX0_letWork 6 none 3 := ⟨(tm_18 (List.mem_of_getElem? (i := 14) rfl)), (tm_1 (List.mem_of_getElem? (i := 23) rfl)), by decide +kernel, (tm_18 (List.mem_of_getElem? (i := 12) rfl)), (tm_18 (List.mem_of_getElem? (i := 13) rfl))⟩
set_option maxHeartbeats 4000000 in
set_option maxRecDepth 100000 in
theorem kk_X0_letWork (l : Launch) (g : vx_G) (S : vx_St) (d : Nat) (hd : d = 11 ∨ d = 20 ∨ d = 26) (t ft : Int32) (n : Nat) (hn8 : n ≤ 8) : vx_M l g yX0_letWork cX0_letWork 6 none (vx_R 1 21) [.ref (g.2.2.1 d), .int (nI n), .int t, .int ft] S (vx_pv (fun S' => pu_chg S S' [d, d + 1] ∧ S'.1 d = pu_let (S.1 d) (S.1 (d + 3)) t ft n ∧ S'.1 (d + 1) = pu_took (S.1 (d + 1)) (S.1 (d + 3)) t n)) := by
  obtain ⟨hd0, hd1, hd2, hd3, hd4, hd5⟩ := pu_dsh hd
  refine vx_M.intro (by decide) (Nat.le_of_ble_eq_true rfl) ?_
  intro p e s m args below meth c C
  have lp11 : ∀ (fu : Nat) (i : Nat) (S1 : vx_St), (n - i < fu ∧ i ≤ n ∧ pu_chg S S1 [d, d + 1] ∧ S1.1 d = upd (S.1 d) 4 (pu_work (S.1 (d + 3)) t i) ∧ S1.1 (d + 1) = pu_took (S.1 (d + 1)) (S.1 (d + 3)) t i) → vx_V p l e (vx_R 1 21) s m args below meth c (MQ below (vx_Q g (vx_pv (fun S' => pu_chg S S' [d, d + 1] ∧ S'.1 d = pu_let (S.1 d) (S.1 (d + 3)) t ft n ∧ S'.1 (d + 1) = pu_took (S.1 (d + 1)) (S.1 (d + 3)) t n))) args s 0 0 (vx_A g)) g 6 11 [(0, .ref (g.2.2.1 d)), (1, .int (nI n)), (2, .int t), (3, .int ft), (4, .int (pu_gof (S.1 (d + 3)) t i)), (5, .int (nI i))] [] (S1) := by
    intro fu
    induction fu with
    | zero =>
      intro i S1 hfu
      exact absurd hfu.1 (by omega)
    | succ fu ih =>
      intro i S1 hfu
      obtain ⟨hf1, hf2, hf3, hf4, hf5⟩ := hfu
      have w3 : S1.1 (d + 3) = S.1 (d + 3) := hf3.2 _ (by simp only [List.mem_cons, List.not_mem_nil, or_false, not_or]; omega)
      refine vv_iload C dX0_letWork_11 5 rfl ?_
      refine vv_iload_n C dX0_letWork_13 rfl 1 rfl ?_
      refine vv_icmp_ge (tgt := 85) C dX0_letWork_14 (by decide) (fun h14 => ?_) (fun h14 => ?_)
      · have g14 := pu_le h14
        have hge := pu_geT rfl (by omega) (by omega) h14
        obtain rfl : n = i := by omega
        refine vv_aload_n C dX0_letWork_85 rfl 0 rfl ?_
        refine vv_dup C dX0_letWork_86 rfl ?_
        refine vv_getI C (a := d) (k := 8) (o := 0) inlX0 hd0 rfl rfl (by decide) rfl (tm_18 (List.mem_of_getElem? (i := 15) rfl)) dX0_letWork_87 ?_
        refine vv_iload C dX0_letWork_90 4 rfl ?_
        refine vv_iadd C dX0_letWork_92 ?_
        refine vv_putI C (a := d) (k := 8) inlX0 tyX0 tyX0_ok nmX0 hd0 rfl rfl (by decide) rfl rfl rfl (tm_18 (List.mem_of_getElem? (i := 15) rfl)) dX0_letWork_93 ?_
        refine vv_aload_n C dX0_letWork_96 rfl 0 rfl ?_
        refine vv_dup C dX0_letWork_97 rfl ?_
        refine vv_getI C (a := d) (k := 3) (o := 0) inlX0 hd0 rfl rfl (by decide) rfl (tm_18 (List.mem_of_getElem? (i := 16) rfl)) dX0_letWork_98 ?_
        refine vv_iload_n C dX0_letWork_101 rfl 3 rfl ?_
        refine vv_iload C dX0_letWork_102 4 rfl ?_
        refine vv_isub C dX0_letWork_104 ?_
        refine vv_iadd C dX0_letWork_105 ?_
        refine vv_putI C (a := d) (k := 3) inlX0 tyX0 tyX0_ok nmX0 hd0 rfl rfl (by decide) rfl rfl rfl (tm_18 (List.mem_of_getElem? (i := 16) rfl)) dX0_letWork_106 ?_
        refine vv_aload_n C dX0_letWork_109 rfl 0 rfl ?_
        refine vv_dup C dX0_letWork_110 rfl ?_
        refine vv_getI C (a := d) (k := 1) (o := 0) inlX0 hd0 rfl rfl (by decide) rfl (tm_3 (List.mem_of_getElem? (i := 3) rfl)) dX0_letWork_111 ?_
        refine vv_iload_n C dX0_letWork_114 rfl 3 rfl ?_
        refine vv_isub C dX0_letWork_115 ?_
        refine vv_putI C (a := d) (k := 1) inlX0 tyX0 tyX0_ok nmX0 hd0 rfl rfl (by decide) rfl rfl rfl (tm_3 (List.mem_of_getElem? (i := 3) rfl)) dX0_letWork_116 ?_
        refine vv_nret C dX0_letWork_119 ?_
        refine ⟨pu_chg_u (pu_chg_u (pu_chg_u hf3 _ _ (by simp)) _ _ (by simp)) _ _ (by simp), ?_, ?_⟩
        · simp only [vx_u_row, hf4, pu_let]
          simp [vx_u, upd, hf4]
        · rw [vx_u_ne _ _ _ (by omega), vx_u_ne _ _ _ (by omega), vx_u_ne _ _ _ (by omega)]
          exact hf5
      · have g14 := pu_nle h14
        have hlt := pu_geF rfl (by omega) (by omega) h14
        refine vv_iload_n C dX0_letWork_17 rfl 2 rfl ?_
        refine vv_iload C dX0_letWork_18 5 rfl ?_
        refine vv_cSN_F C (kk_X4_isIn l g _ _ _) yk_X4_isIn (List.mem_of_getElem? (i := 46) rfl) (by decide) rfl (Nat.le_of_ble_eq_true rfl) rfl dX0_letWork_20 ?_
        refine vv_ifb_eq (tgt := 79) C dX0_letWork_23 (by decide) (fun h23 => ?_) (fun h23 => ?_)
        · refine vv_iincN (L' := [_, _, _, _, _, _]) (j := 5) C dX0_letWork_79 rfl (by decide) rfl ?_
          refine vv_goto (tgt := 11) C dX0_letWork_82 (by decide) ?_
          refine vv_sub (L' := [_, _, _, _, _, _]) [1, 2, 3, 4, 5, 0] rfl ?_
          have q := ih (i + 1) S1 ⟨by omega, by omega, hf3, (by rw [hf4]; simp only [pu_work, h14, g14, h23, if_true, if_false, reduceIte, Bool.false_eq_true, and_true, true_and, and_false, false_and, not_true, not_false_iff, and_self, ite_true, ite_false, not_true_eq_false, not_false_eq_true, or_true, true_or, or_false, false_or]), (by rw [hf5]; exact pu_took_s2 (by simp only [h14, g14, h23, if_true, if_false, reduceIte, Bool.false_eq_true, and_true, true_and, and_false, false_and, not_true, not_false_iff, and_self, ite_true, ite_false, not_true_eq_false, not_false_eq_true, or_true, true_or, or_false, false_or]))⟩
          simp only [pu_gof, h14, g14, h23, if_true, if_false, reduceIte, Bool.false_eq_true, and_true, true_and, and_false, false_and, not_true, not_false_iff, and_self, ite_true, ite_false, not_true_eq_false, not_false_eq_true, or_true, true_or, or_false, false_or] at q
          exact q
        · refine vv_aload_n C dX0_letWork_26 rfl 0 rfl ?_
          refine vv_gR C (a := d) (k := 11) (b := d + 3) inlX0 hd0 rfl rfl rfl (by decide) rfl (tm_3 (List.mem_of_getElem? (i := 6) rfl)) dX0_letWork_27 ?_
          refine vv_iload C dX0_letWork_30 5 rfl ?_
          refine vv_ialdN C (a := d + 3) hd3 (by omega) (by decide) dX0_letWork_32 ?_
          refine vv_if_le (tgt := 79) C dX0_letWork_33 (by decide) (fun h33 => ?_) (fun h33 => ?_)
          · have g33 := pu_le h33
            rw [w3] at h33 g33
            refine vv_iincN (L' := [_, _, _, _, _, _]) (j := 5) C dX0_letWork_79 rfl (by decide) rfl ?_
            refine vv_goto (tgt := 11) C dX0_letWork_82 (by decide) ?_
            refine vv_sub (L' := [_, _, _, _, _, _]) [1, 2, 3, 4, 5, 0] rfl ?_
            have q := ih (i + 1) S1 ⟨by omega, by omega, hf3, (by rw [hf4]; simp only [pu_work, h14, g14, h23, h33, g33, if_true, if_false, reduceIte, Bool.false_eq_true, and_true, true_and, and_false, false_and, not_true, not_false_iff, and_self, ite_true, ite_false, not_true_eq_false, not_false_eq_true, or_true, true_or, or_false, false_or]), (by rw [hf5]; exact pu_took_s2 (by simp only [h14, g14, h23, h33, g33, if_true, if_false, reduceIte, Bool.false_eq_true, and_true, true_and, and_false, false_and, not_true, not_false_iff, and_self, ite_true, ite_false, not_true_eq_false, not_false_eq_true, or_true, true_or, or_false, false_or]))⟩
            simp only [pu_gof, h14, g14, h23, h33, g33, if_true, if_false, reduceIte, Bool.false_eq_true, and_true, true_and, and_false, false_and, not_true, not_false_iff, and_self, ite_true, ite_false, not_true_eq_false, not_false_eq_true, or_true, true_or, or_false, false_or] at q
            exact q
          · have g33 := pu_nle h33
            rw [w3] at h33 g33
            refine vv_aload_n C dX0_letWork_36 rfl 0 rfl ?_
            refine vv_gR C (a := d) (k := 9) (b := d + 1) inlX0 hd0 rfl rfl rfl (by decide) rfl (tm_3 (List.mem_of_getElem? (i := 4) rfl)) dX0_letWork_37 ?_
            refine vv_iload C dX0_letWork_40 5 rfl ?_
            refine vv_dup2 C dX0_letWork_42 rfl rfl ?_
            refine vv_ialdN C (a := d + 1) hd1 (by omega) (by decide) dX0_letWork_43 ?_
            refine vv_aload_n C dX0_letWork_44 rfl 0 rfl ?_
            refine vv_gR C (a := d) (k := 11) (b := d + 3) inlX0 hd0 rfl rfl rfl (by decide) rfl (tm_3 (List.mem_of_getElem? (i := 6) rfl)) dX0_letWork_45 ?_
            refine vv_iload C dX0_letWork_48 5 rfl ?_
            refine vv_ialdN C (a := d + 3) hd3 (by omega) (by decide) dX0_letWork_50 ?_
            refine vv_iadd C dX0_letWork_51 ?_
            refine vv_iastN C (a := d + 1) hd1 (by omega) (by decide) dX0_letWork_52 ?_
            refine vv_iload C dX0_letWork_53 4 rfl ?_
            refine vv_aload_n C dX0_letWork_55 rfl 0 rfl ?_
            refine vv_gR C (a := d) (k := 11) (b := d + 3) inlX0 hd0 rfl rfl rfl (by decide) rfl (tm_3 (List.mem_of_getElem? (i := 6) rfl)) dX0_letWork_56 ?_
            refine vv_iload C dX0_letWork_59 5 rfl ?_
            refine vv_ialdN C (a := d + 3) hd3 (by omega) (by decide) dX0_letWork_61 ?_
            refine vv_iadd C dX0_letWork_62 ?_
            refine vv_istore (L' := [_, _, _, _, _, _]) C dX0_letWork_63 (by decide) rfl ?_
            refine vv_aload_n C dX0_letWork_65 rfl 1 rfl ?_
            refine vv_dup C dX0_letWork_66 rfl ?_
            refine vv_getI C (a := d) (k := 4) (o := 0) inlX0 hd0 rfl rfl (by decide) rfl (tm_15 (List.mem_of_getElem? (i := 7) rfl)) dX0_letWork_67 ?_
            refine vv_iload C dX0_letWork_70 5 rfl ?_
            refine vv_cSN_F C (kk_X4_bit l g _ _) yk_X4_bit (List.mem_of_getElem? (i := 41) rfl) (by decide) rfl (Nat.le_of_ble_eq_true rfl) rfl dX0_letWork_72 ?_
            refine vv_ior C dX0_letWork_75 ?_
            refine vv_putI C (a := d) (k := 4) inlX0 tyX0 tyX0_ok nmX0 hd0 rfl rfl (by decide) rfl rfl rfl (tm_15 (List.mem_of_getElem? (i := 7) rfl)) dX0_letWork_76 ?_
            refine vv_iincN (L' := [_, _, _, _, _, _]) (j := 5) C dX0_letWork_79 rfl (by decide) rfl ?_
            refine vv_goto (tgt := 11) C dX0_letWork_82 (by decide) ?_
            refine vv_sub (L' := [_, _, _, _, _, _]) [2, 3, 4, 5, 1, 0] rfl ?_
            have q := ih (i + 1) _ ⟨by omega, by omega, pu_chg_u (pu_chg_u hf3 (c := d + 1) i (pu_took (S.1 (d + 1)) (S.1 (d + 3)) t i i + S.1 (d + 3) i) (by simp)) (c := d) 4 (pu_work (S.1 (d + 3)) t i ||| pu_bit (nI i)) (by simp), (by rw [vx_u_row, vx_u_ne _ _ _ (by omega), hf4]; simp only [pu_work, h14, g14, h23, h33, g33, if_true, if_false, reduceIte, Bool.false_eq_true, and_true, true_and, and_false, false_and, not_true, not_false_iff, and_self, ite_true, ite_false, not_true_eq_false, not_false_eq_true, or_true, true_or, or_false, false_or]; funext j; simp only [upd]; split <;> rfl), (by rw [vx_u_ne _ _ _ (by omega), vx_u_row, hf5]; exact pu_took_s1 h23 g33)⟩
            simp only [pu_gof, h14, g14, h23, h33, g33, if_true, if_false, reduceIte, Bool.false_eq_true, and_true, true_and, and_false, false_and, not_true, not_false_iff, and_self, ite_true, ite_false, not_true_eq_false, not_false_eq_true, or_true, true_or, or_false, false_or] at q
            have e4 : (vx_u S1 (d + 1) i (S1.1 (d + 1) i + S1.1 (d + 3) i)).1 d 4 = pu_work (S.1 (d + 3)) t i := by rw [vx_u_ne _ _ _ (by omega), hf4]; simp [upd]
            have e3 : (vx_u S1 (d + 1) i (S1.1 (d + 1) i + S1.1 (d + 3) i)).1 (d + 3) i = S.1 (d + 3) i := by rw [vx_u_ne _ _ _ (by omega), w3]
            rw [e4, e3, w3, hf5]
            exact q
  refine vv_iconst (v := (0)) C dX0_letWork_0 (by decide) ?_
  refine vv_istore (L' := [_, _, _, _, _]) C dX0_letWork_1 (by decide) rfl ?_
  refine vv_aload_n C dX0_letWork_3 rfl 1 rfl ?_
  refine vv_iconst (v := (0)) C dX0_letWork_4 (by decide) ?_
  refine vv_putI C (a := d) (k := 4) inlX0 tyX0 tyX0_ok nmX0 hd0 rfl rfl (by decide) rfl rfl rfl (tm_15 (List.mem_of_getElem? (i := 7) rfl)) dX0_letWork_5 ?_
  refine vv_iconst (v := (nI 0)) C dX0_letWork_8 (by decide) ?_
  refine vv_istore (L' := [_, _, _, _, _, _]) C dX0_letWork_9 (by decide) rfl ?_
  refine vv_sub (L' := [_, _, _, _, _, _]) [2, 3, 4, 5, 1, 0] rfl ?_
  refine lp11 (n + 1) 0 _ ⟨by omega, by omega, pu_chg_u (pu_chg_rf S _) _ _ (by simp), vx_u_row _ _ _ _, ?_⟩
  rw [vx_u_ne _ _ _ (by omega)]
  funext j
  simp [pu_took]
theorem yk_X0_passHour : vx_yV yX0_passHour cX0_passHour 5 (some .int) 1 := ⟨(tm_18 (List.mem_of_getElem? (i := 8) rfl)), (tm_1 (List.mem_of_getElem? (i := 23) rfl)), by decide +kernel, (tm_18 (List.mem_of_getElem? (i := 6) rfl)), (tm_18 (List.mem_of_getElem? (i := 7) rfl))⟩
set_option maxHeartbeats 4000000 in
set_option maxRecDepth 100000 in
theorem kk_X0_passHour (l : Launch) (g : vx_G) (S : vx_St) (d : Nat) (hd : d = 11 ∨ d = 20 ∨ d = 26) (n : Nat) (hn : S.1 3 0 = nI n) (hn8 : n ≤ 8) : vx_M l g yX0_passHour cX0_passHour 5 (some .int) (vx_R 3 70) [.ref (g.2.2.1 d), .ref (g.2.2.1 3)] S (vx_pi (fun r S' => r = pu_feet (pu_hs S) (S.1 10) (S.1 d 6) (S.1 d 1) (S.1 d 2) (S.1 d 5) (S.1 d 4) n ∧ pu_chg S S' [d, d + 1, d + 3] ∧ S'.1 d = pu_nx (pu_hs S) (S.1 10) (S.1 d) n ∧ S'.1 (d + 1) = pu_took (S.1 (d + 1)) (pu_W (pu_hs S) (S.1 d 2) (S.1 d 5) (S.1 d 4)) (pu_set2 (pu_hs S) (S.1 10) (S.1 d 6) (S.1 d 1) (S.1 d 2) (S.1 d 5) (S.1 d 4) n) n)) := by
  obtain ⟨hd0, hd1, hd2, hd3, hd4, hd5⟩ := pu_dsh hd
  refine vx_M.intro (by decide) (Nat.le_of_ble_eq_true rfl) ?_
  intro p e s m args below meth c C
  have lp25 : ∀ (fu : Nat) (k : Nat) (t : Int32) (S2 : vx_St), (k < fu ∧ k ≤ n ∧ pu_chg S S2 [d + 3] ∧ S2.1 (d + 3) = pu_fill (pu_W (pu_hs S) (S.1 d 2) (S.1 d 5) (S.1 d 4)) (S.1 (d + 3)) n ∧ pu_stop (pu_G (pu_hs S) (S.1 10) (S.1 d 6) (S.1 d 2) (S.1 d 5) (S.1 d 4) n) (pu_W (pu_hs S) (S.1 d 2) (S.1 d 5) (S.1 d 4)) (S.1 4) (S.1 d 1) k t = pu_set (pu_hs S) (S.1 10) (S.1 d 6) (S.1 d 1) (S.1 d 2) (S.1 d 5) (S.1 d 4) n) → vx_V p l e (vx_R 3 70) s m args below meth c (MQ below (vx_Q g (vx_pi (fun r S' => r = pu_feet (pu_hs S) (S.1 10) (S.1 d 6) (S.1 d 1) (S.1 d 2) (S.1 d 5) (S.1 d 4) n ∧ pu_chg S S' [d, d + 1, d + 3] ∧ S'.1 d = pu_nx (pu_hs S) (S.1 10) (S.1 d) n ∧ S'.1 (d + 1) = pu_took (S.1 (d + 1)) (pu_W (pu_hs S) (S.1 d 2) (S.1 d 5) (S.1 d 4)) (pu_set2 (pu_hs S) (S.1 10) (S.1 d 6) (S.1 d 1) (S.1 d 2) (S.1 d 5) (S.1 d 4) n) n))) args s 0 0 (vx_A g)) g 5 25 [(0, .ref (g.2.2.1 d)), (1, .ref (g.2.2.1 3)), (2, .int t), (3, .int (pu_G (pu_hs S) (S.1 10) (S.1 d 6) (S.1 d 2) (S.1 d 5) (S.1 d 4) n t)), (4, .int (nI k - 1))] [] (S2) := by
    intro fu
    induction fu with
    | zero =>
      intro k t S2 hfu
      exact absurd hfu.1 (by omega)
    | succ fu ih =>
      intro k t S2 hfu
      obtain ⟨hf1, hf2, hc, hw, hst⟩ := hfu
      have hn2 : S2.1 3 0 = nI n := by rw [hc.2 3 (by simp only [List.mem_cons, List.not_mem_nil, or_false, not_or]; omega)]; exact hn
      refine vv_iload C dX0_passHour_25 4 rfl ?_
      refine vv_if_lt (tgt := 81) C dX0_passHour_27 (by decide) (fun h27 => ?_) (fun h27 => ?_)
      · have g27 := pu_lt h27
        obtain rfl := pu_dT (by omega) h27
        have ht : t = pu_set (pu_hs S) (S.1 10) (S.1 d 6) (S.1 d 1) (S.1 d 2) (S.1 d 5) (S.1 d 4) n := hst
        refine vv_iload_n C dX0_passHour_81 rfl 3 rfl ?_
        refine vv_aload_n C dX0_passHour_82 rfl 0 rfl ?_
        refine vv_getI C (a := d) (k := 1) (o := 0) inlX0 hd0 rfl rfl (by decide) rfl (tm_3 (List.mem_of_getElem? (i := 3) rfl)) dX0_passHour_83 ?_
        refine vv_icmp_le (tgt := 101) C dX0_passHour_86 (by decide) (fun h86 => ?_) (fun h86 => ?_)
        · have g86 := pu_le h86
          rw [hc.2 d (by simp only [List.mem_cons, List.not_mem_nil, or_false, not_or]; omega)] at h86 g86
          refine vv_aload_n C dX0_passHour_101 rfl 0 rfl ?_
          refine vv_aload_n C dX0_passHour_102 rfl 1 rfl ?_
          refine vv_getIN C (a := 3) (k := 0) (o := 0) inlX1 rfl rfl rfl (by decide) rfl (List.mem_of_getElem? (i := 6) rfl) dX0_passHour_103 ?_
          have hrowd : S2.1 d = S.1 d := hc.2 d (by simp only [List.mem_cons, List.not_mem_nil, or_false, not_or]; omega)
          have hrow3 : S2.1 (d + 3) = pu_fill (pu_W (pu_hs S) (S.1 d 2) (S.1 d 5) (S.1 d 4)) (S.1 (d + 3)) n := hw
          have hrow1 : S2.1 (d + 1) = S.1 (d + 1) := hc.2 _ (by simp only [List.mem_cons, List.not_mem_nil, or_false, not_or]; omega)
          have hwj : ∀ j, j < n → pu_fill (pu_W (pu_hs S) (S.1 d 2) (S.1 d 5) (S.1 d 4)) (S.1 (d + 3)) n j = pu_W (pu_hs S) (S.1 d 2) (S.1 d 5) (S.1 d 4) j := fun j hj => pu_fill_in hj
          have hnx : S2.1 3 0 = nI n := by exact hn2
          rw [hnx]
          refine vv_iload_n C dX0_passHour_106 rfl 2 rfl ?_
          refine vv_iload_n C dX0_passHour_107 rfl 3 rfl ?_
          refine vv_cV_v C (a := d) (kk_X0_letWork l g _ _ hd _ _ n hn8) yk_X0_letWork (tm_18 (List.mem_of_getElem? (i := 11) rfl)) hd0 rfl rfl (by decide) rfl (Nat.le_of_ble_eq_true rfl) rfl dX0_passHour_108 (fun S108 h108 => ?_)
          refine vv_aload_n C dX0_passHour_111 rfl 0 rfl ?_
          refine vv_dup C dX0_passHour_112 rfl ?_
          refine vv_getI C (a := d) (k := 2) (o := 0) inlX0 hd0 rfl rfl (by decide) rfl (tm_11 (List.mem_of_getElem? (i := 12) rfl)) dX0_passHour_113 ?_
          refine vv_iconst (v := (1)) C dX0_passHour_116 (by decide) ?_
          refine vv_iadd C dX0_passHour_117 ?_
          refine vv_putI C (a := d) (k := 2) inlX0 tyX0 tyX0_ok nmX0 hd0 rfl rfl (by decide) rfl rfl rfl (tm_11 (List.mem_of_getElem? (i := 12) rfl)) dX0_passHour_118 ?_
          refine vv_iload_n C dX0_passHour_121 rfl 3 rfl ?_
          refine vv_jret C dX0_passHour_122 ?_
          obtain ⟨k1, k2, k3⟩ := h108
          have hdn : pu_dn (pu_hs S) (S.1 10) (S.1 d 6) (S.1 d 1) (S.1 d 2) (S.1 d 5) (S.1 d 4) n = false := by simp only [pu_dn]; rw [← ht]; simp [h27, g27, h86, g86]
          have hft : pu_feet (pu_hs S) (S.1 10) (S.1 d 6) (S.1 d 1) (S.1 d 2) (S.1 d 5) (S.1 d 4) n = pu_G (pu_hs S) (S.1 10) (S.1 d 6) (S.1 d 2) (S.1 d 5) (S.1 d 4) n t := by simp only [pu_feet, hdn, if_true, if_false, reduceIte, Bool.false_eq_true, and_true, true_and, and_false, false_and, not_true, not_false_iff, and_self, ite_true, ite_false, not_true_eq_false, not_false_eq_true, or_true, true_or, or_false, false_or]; rw [← ht]
          have hs2 : pu_set2 (pu_hs S) (S.1 10) (S.1 d 6) (S.1 d 1) (S.1 d 2) (S.1 d 5) (S.1 d 4) n = t := by simp only [pu_set2, hdn, if_true, if_false, reduceIte, Bool.false_eq_true, and_true, true_and, and_false, false_and, not_true, not_false_iff, and_self, ite_true, ite_false, not_true_eq_false, not_false_eq_true, or_true, true_or, or_false, false_or]; exact ht.symm
          refine ⟨hft.symm, ?_, ?_, ?_⟩
          · exact pu_chg_u (pu_chg_tr (c1 := [d, d + 1]) (pu_chg_tr (pu_chg_rf S _) hc (by simp)) k1 (by simp)) _ _ (by simp)
          · rw [vx_u_row, k2, hrow3, hrowd]
            simp only [pu_nx, hdn, hft, hs2, if_true, if_false, reduceIte, Bool.false_eq_true, and_true, true_and, and_false, false_and, not_true, not_false_iff, and_self, ite_true, ite_false, not_true_eq_false, not_false_eq_true, or_true, true_or, or_false, false_or]
            rw [pu_let_c _ _ _ n hwj]
            simp [pu_let, upd]
          · rw [vx_u_ne _ _ _ (by omega), k3, hrow3, hrow1, hs2]
            exact pu_took_c _ _ _ hwj
        · have g86 := pu_nle h86
          rw [hc.2 d (by simp only [List.mem_cons, List.not_mem_nil, or_false, not_or]; omega)] at h86 g86
          refine vv_aload_n C dX0_passHour_89 rfl 0 rfl ?_
          refine vv_iconst (v := (1)) C dX0_passHour_90 (by decide) ?_
          refine vv_putZ C (a := d) (k := 7) inlX0 tyX0 tyX0_ok nmX0 hd0 rfl rfl (by decide) rfl rfl rfl rfl (tm_18 (List.mem_of_getElem? (i := 5) rfl)) dX0_passHour_91 ?_
          refine vv_aload_n C dX0_passHour_94 rfl 0 rfl ?_
          refine vv_getI C (a := d) (k := 1) (o := 0) inlX0 hd0 rfl rfl (by decide) rfl (tm_3 (List.mem_of_getElem? (i := 3) rfl)) dX0_passHour_95 ?_
          refine vv_istore_n (i := 3) (L' := [_, _, _, _, _]) C dX0_passHour_98 rfl (by decide) rfl ?_
          refine vv_iconst (v := (0)) C dX0_passHour_99 (by decide) ?_
          refine vv_istore_n (i := 2) (L' := [_, _, _, _, _]) C dX0_passHour_100 rfl (by decide) rfl ?_
          refine vv_aload_n C dX0_passHour_101 rfl 2 rfl ?_
          refine vv_aload_n C dX0_passHour_102 rfl 3 rfl ?_
          refine vv_getIN C (a := 3) (k := 0) (o := 0) inlX1 rfl rfl rfl (by decide) rfl (List.mem_of_getElem? (i := 6) rfl) dX0_passHour_103 ?_
          have hrowd : (vx_u S2 d 7 1).1 d = upd (S.1 d) 7 1 := by rw [vx_u_row, hc.2 d (by simp only [List.mem_cons, List.not_mem_nil, or_false, not_or]; omega)]
          have hrow3 : (vx_u S2 d 7 1).1 (d + 3) = pu_fill (pu_W (pu_hs S) (S.1 d 2) (S.1 d 5) (S.1 d 4)) (S.1 (d + 3)) n := by rw [vx_u_ne _ _ _ (by omega)]; exact hw
          have hrow1 : (vx_u S2 d 7 1).1 (d + 1) = S.1 (d + 1) := by rw [vx_u_ne _ _ _ (by omega)]; exact hc.2 _ (by simp only [List.mem_cons, List.not_mem_nil, or_false, not_or]; omega)
          have hwj : ∀ j, j < n → pu_fill (pu_W (pu_hs S) (S.1 d 2) (S.1 d 5) (S.1 d 4)) (S.1 (d + 3)) n j = pu_W (pu_hs S) (S.1 d 2) (S.1 d 5) (S.1 d 4) j := fun j hj => pu_fill_in hj
          have hnx : (vx_u S2 d 7 1).1 3 0 = nI n := by rw [vx_u_ne _ _ _ (by omega)]; exact hn2
          rw [hnx]
          have hfe : (vx_u S2 d 7 1).1 d 1 = S.1 d 1 := by rw [hrowd]; simp [upd]
          rw [hfe]
          refine vv_iload_n C dX0_passHour_106 rfl 0 rfl ?_
          refine vv_iload_n C dX0_passHour_107 rfl 1 rfl ?_
          refine vv_cV_v C (a := d) (kk_X0_letWork l g _ _ hd _ _ n hn8) yk_X0_letWork (tm_18 (List.mem_of_getElem? (i := 11) rfl)) hd0 rfl rfl (by decide) rfl (Nat.le_of_ble_eq_true rfl) rfl dX0_passHour_108 (fun S108 h108 => ?_)
          refine vv_aload_n C dX0_passHour_111 rfl 2 rfl ?_
          refine vv_dup C dX0_passHour_112 rfl ?_
          refine vv_getI C (a := d) (k := 2) (o := 0) inlX0 hd0 rfl rfl (by decide) rfl (tm_11 (List.mem_of_getElem? (i := 12) rfl)) dX0_passHour_113 ?_
          refine vv_iconst (v := (1)) C dX0_passHour_116 (by decide) ?_
          refine vv_iadd C dX0_passHour_117 ?_
          refine vv_putI C (a := d) (k := 2) inlX0 tyX0 tyX0_ok nmX0 hd0 rfl rfl (by decide) rfl rfl rfl (tm_11 (List.mem_of_getElem? (i := 12) rfl)) dX0_passHour_118 ?_
          refine vv_iload_n C dX0_passHour_121 rfl 1 rfl ?_
          refine vv_jret C dX0_passHour_122 ?_
          obtain ⟨k1, k2, k3⟩ := h108
          have hdn : pu_dn (pu_hs S) (S.1 10) (S.1 d 6) (S.1 d 1) (S.1 d 2) (S.1 d 5) (S.1 d 4) n = true := by simp only [pu_dn]; rw [← ht]; simp [h27, g27, h86, g86]
          have hft : pu_feet (pu_hs S) (S.1 10) (S.1 d 6) (S.1 d 1) (S.1 d 2) (S.1 d 5) (S.1 d 4) n = S.1 d 1 := by simp only [pu_feet, hdn, if_true, if_false, reduceIte, Bool.false_eq_true, and_true, true_and, and_false, false_and, not_true, not_false_iff, and_self, ite_true, ite_false, not_true_eq_false, not_false_eq_true, or_true, true_or, or_false, false_or]
          have hs2 : pu_set2 (pu_hs S) (S.1 10) (S.1 d 6) (S.1 d 1) (S.1 d 2) (S.1 d 5) (S.1 d 4) n = 0 := by simp only [pu_set2, hdn, if_true, if_false, reduceIte, Bool.false_eq_true, and_true, true_and, and_false, false_and, not_true, not_false_iff, and_self, ite_true, ite_false, not_true_eq_false, not_false_eq_true, or_true, true_or, or_false, false_or]
          refine ⟨hft.symm, ?_, ?_, ?_⟩
          · exact pu_chg_u (pu_chg_tr (c1 := [d, d + 1]) (pu_chg_u (pu_chg_tr (pu_chg_rf S _) hc (by simp)) _ _ (by simp)) k1 (by simp)) _ _ (by simp)
          · rw [vx_u_row, k2, hrow3, hrowd]
            simp only [pu_nx, hdn, hft, hs2, if_true, if_false, reduceIte, Bool.false_eq_true, and_true, true_and, and_false, false_and, not_true, not_false_iff, and_self, ite_true, ite_false, not_true_eq_false, not_false_eq_true, or_true, true_or, or_false, false_or]
            rw [pu_let_c _ _ _ n hwj]
            simp [pu_let, upd]
          · rw [vx_u_ne _ _ _ (by omega), k3, hrow3, hrow1, hs2]
            exact pu_took_c _ _ _ hwj
      · have g27 := pu_nlt h27
        obtain ⟨j, rfl⟩ := pu_dF h27
        rw [nI_pred]
        refine vv_iload_n C dX0_passHour_30 rfl 3 rfl ?_
        refine vv_aload_n C dX0_passHour_31 rfl 0 rfl ?_
        refine vv_getI C (a := d) (k := 1) (o := 0) inlX0 hd0 rfl rfl (by decide) rfl (tm_3 (List.mem_of_getElem? (i := 3) rfl)) dX0_passHour_32 ?_
        refine vv_icmp_le (tgt := 81) C dX0_passHour_35 (by decide) (fun h35 => ?_) (fun h35 => ?_)
        · have g35 := pu_le h35
          rw [hc.2 d (by simp only [List.mem_cons, List.not_mem_nil, or_false, not_or]; omega)] at h35 g35
          have ht : t = pu_set (pu_hs S) (S.1 10) (S.1 d 6) (S.1 d 1) (S.1 d 2) (S.1 d 5) (S.1 d 4) n := by rw [← hst, pu_stop, if_pos h35]
          refine vv_iload_n C dX0_passHour_81 rfl 3 rfl ?_
          refine vv_aload_n C dX0_passHour_82 rfl 0 rfl ?_
          refine vv_getI C (a := d) (k := 1) (o := 0) inlX0 hd0 rfl rfl (by decide) rfl (tm_3 (List.mem_of_getElem? (i := 3) rfl)) dX0_passHour_83 ?_
          refine vv_icmp_le (tgt := 101) C dX0_passHour_86 (by decide) (fun h86 => ?_) (fun h86 => ?_)
          · have g86 := pu_le h86
            rw [hc.2 d (by simp only [List.mem_cons, List.not_mem_nil, or_false, not_or]; omega)] at h86 g86
            refine vv_aload_n C dX0_passHour_101 rfl 0 rfl ?_
            refine vv_aload_n C dX0_passHour_102 rfl 1 rfl ?_
            refine vv_getIN C (a := 3) (k := 0) (o := 0) inlX1 rfl rfl rfl (by decide) rfl (List.mem_of_getElem? (i := 6) rfl) dX0_passHour_103 ?_
            have hrowd : S2.1 d = S.1 d := hc.2 d (by simp only [List.mem_cons, List.not_mem_nil, or_false, not_or]; omega)
            have hrow3 : S2.1 (d + 3) = pu_fill (pu_W (pu_hs S) (S.1 d 2) (S.1 d 5) (S.1 d 4)) (S.1 (d + 3)) n := hw
            have hrow1 : S2.1 (d + 1) = S.1 (d + 1) := hc.2 _ (by simp only [List.mem_cons, List.not_mem_nil, or_false, not_or]; omega)
            have hwj : ∀ j, j < n → pu_fill (pu_W (pu_hs S) (S.1 d 2) (S.1 d 5) (S.1 d 4)) (S.1 (d + 3)) n j = pu_W (pu_hs S) (S.1 d 2) (S.1 d 5) (S.1 d 4) j := fun j hj => pu_fill_in hj
            have hnx : S2.1 3 0 = nI n := by exact hn2
            rw [hnx]
            refine vv_iload_n C dX0_passHour_106 rfl 2 rfl ?_
            refine vv_iload_n C dX0_passHour_107 rfl 3 rfl ?_
            refine vv_cV_v C (a := d) (kk_X0_letWork l g _ _ hd _ _ n hn8) yk_X0_letWork (tm_18 (List.mem_of_getElem? (i := 11) rfl)) hd0 rfl rfl (by decide) rfl (Nat.le_of_ble_eq_true rfl) rfl dX0_passHour_108 (fun S108 h108 => ?_)
            refine vv_aload_n C dX0_passHour_111 rfl 0 rfl ?_
            refine vv_dup C dX0_passHour_112 rfl ?_
            refine vv_getI C (a := d) (k := 2) (o := 0) inlX0 hd0 rfl rfl (by decide) rfl (tm_11 (List.mem_of_getElem? (i := 12) rfl)) dX0_passHour_113 ?_
            refine vv_iconst (v := (1)) C dX0_passHour_116 (by decide) ?_
            refine vv_iadd C dX0_passHour_117 ?_
            refine vv_putI C (a := d) (k := 2) inlX0 tyX0 tyX0_ok nmX0 hd0 rfl rfl (by decide) rfl rfl rfl (tm_11 (List.mem_of_getElem? (i := 12) rfl)) dX0_passHour_118 ?_
            refine vv_iload_n C dX0_passHour_121 rfl 3 rfl ?_
            refine vv_jret C dX0_passHour_122 ?_
            obtain ⟨k1, k2, k3⟩ := h108
            have hdn : pu_dn (pu_hs S) (S.1 10) (S.1 d 6) (S.1 d 1) (S.1 d 2) (S.1 d 5) (S.1 d 4) n = false := by simp only [pu_dn]; rw [← ht]; simp [h27, g27, h35, g35, h86, g86]
            have hft : pu_feet (pu_hs S) (S.1 10) (S.1 d 6) (S.1 d 1) (S.1 d 2) (S.1 d 5) (S.1 d 4) n = pu_G (pu_hs S) (S.1 10) (S.1 d 6) (S.1 d 2) (S.1 d 5) (S.1 d 4) n t := by simp only [pu_feet, hdn, if_true, if_false, reduceIte, Bool.false_eq_true, and_true, true_and, and_false, false_and, not_true, not_false_iff, and_self, ite_true, ite_false, not_true_eq_false, not_false_eq_true, or_true, true_or, or_false, false_or]; rw [← ht]
            have hs2 : pu_set2 (pu_hs S) (S.1 10) (S.1 d 6) (S.1 d 1) (S.1 d 2) (S.1 d 5) (S.1 d 4) n = t := by simp only [pu_set2, hdn, if_true, if_false, reduceIte, Bool.false_eq_true, and_true, true_and, and_false, false_and, not_true, not_false_iff, and_self, ite_true, ite_false, not_true_eq_false, not_false_eq_true, or_true, true_or, or_false, false_or]; exact ht.symm
            refine ⟨hft.symm, ?_, ?_, ?_⟩
            · exact pu_chg_u (pu_chg_tr (c1 := [d, d + 1]) (pu_chg_tr (pu_chg_rf S _) hc (by simp)) k1 (by simp)) _ _ (by simp)
            · rw [vx_u_row, k2, hrow3, hrowd]
              simp only [pu_nx, hdn, hft, hs2, if_true, if_false, reduceIte, Bool.false_eq_true, and_true, true_and, and_false, false_and, not_true, not_false_iff, and_self, ite_true, ite_false, not_true_eq_false, not_false_eq_true, or_true, true_or, or_false, false_or]
              rw [pu_let_c _ _ _ n hwj]
              simp [pu_let, upd]
            · rw [vx_u_ne _ _ _ (by omega), k3, hrow3, hrow1, hs2]
              exact pu_took_c _ _ _ hwj
          · rw [hc.2 d (by simp only [List.mem_cons, List.not_mem_nil, or_false, not_or]; omega)] at h86
            exact absurd h35 h86
        · have g35 := pu_nle h35
          rw [hc.2 d (by simp only [List.mem_cons, List.not_mem_nil, or_false, not_or]; omega)] at h35 g35
          refine vv_aload_n C dX0_passHour_38 rfl 0 rfl ?_
          refine vv_gR C (a := d) (k := 11) (b := d + 3) inlX0 hd0 rfl rfl rfl (by decide) rfl (tm_3 (List.mem_of_getElem? (i := 6) rfl)) dX0_passHour_39 ?_
          refine vv_iload C dX0_passHour_42 4 rfl ?_
          refine vv_ialdN C (a := d + 3) hd3 (by omega) (by decide) dX0_passHour_44 ?_
          refine vv_if_le (tgt := 75) C dX0_passHour_45 (by decide) (fun h45 => ?_) (fun h45 => ?_)
          · have g45 := pu_le h45
            rw [hw, pu_fill_in (by omega)] at h45 g45
            refine vv_iinc (L' := [_, _, _, _, _]) (j := 4) (v := (nI j - 1)) C dX0_passHour_75 rfl (pu_m1 _) (by decide) rfl ?_
            refine vv_goto (tgt := 25) C dX0_passHour_78 (by decide) ?_
            refine vv_sub (L' := [_, _, _, _, _]) [1, 2, 3, 4, 0] rfl ?_
            refine ih j _ S2 ⟨by omega, by omega, hc, hw, ?_⟩
            rw [← hst, pu_stop, if_neg h35, if_neg (fun q => g45 q.1)]
          · have g45 := pu_nle h45
            rw [hw, pu_fill_in (by omega)] at h45 g45
            refine vv_aload_n C dX0_passHour_48 rfl 1 rfl ?_
            refine vv_iload C dX0_passHour_49 4 rfl ?_
            refine vv_iconst (v := (1)) C dX0_passHour_51 (by decide) ?_
            refine vv_cVN_F C (a := 3) (kk_X1_isA l g _ _ (by omega) _) yk_X1_isA (List.mem_of_getElem? (i := 47) rfl) rfl rfl rfl (by decide) rfl (Nat.le_of_ble_eq_true rfl) rfl dX0_passHour_52 ?_
            refine vv_ifb_ne (tgt := 75) C dX0_passHour_55 (by decide) (fun h55 => ?_) (fun h55 => ?_)
            · refine vv_iinc (L' := [_, _, _, _, _]) (j := 4) (v := (nI j - 1)) C dX0_passHour_75 rfl (pu_m1 _) (by decide) rfl ?_
              refine vv_goto (tgt := 25) C dX0_passHour_78 (by decide) ?_
              refine vv_sub (L' := [_, _, _, _, _]) [1, 2, 3, 4, 0] rfl ?_
              refine ih j _ S2 ⟨by omega, by omega, hc, hw, ?_⟩
              rw [← hst, pu_stop, if_neg h35, if_neg (fun q => absurd (by simpa [pu_isA_1, hc.2 4 (by simp only [List.mem_cons, List.not_mem_nil, or_false, not_or]; omega)] using h55) q.2)]
            · refine vv_iload_n C dX0_passHour_58 rfl 2 rfl ?_
              refine vv_iload C dX0_passHour_59 4 rfl ?_
              refine vv_cSN_F C (kk_X4_bit l g _ _) yk_X4_bit (List.mem_of_getElem? (i := 41) rfl) (by decide) rfl (Nat.le_of_ble_eq_true rfl) rfl dX0_passHour_61 ?_
              refine vv_iconst (v := (-1)) C dX0_passHour_64 (by decide) ?_
              refine vv_ixor C dX0_passHour_65 ?_
              refine vv_iand C dX0_passHour_66 ?_
              refine vv_istore_n (i := 2) (L' := [_, _, _, _, _]) C dX0_passHour_67 rfl (by decide) rfl ?_
              refine vv_aload_n C dX0_passHour_68 rfl 1 rfl ?_
              refine vv_aload_n C dX0_passHour_69 rfl 2 rfl ?_
              refine vv_iload_n C dX0_passHour_70 rfl 0 rfl ?_
              refine vv_cV_F C (a := d) (kk_X0_goesBy l g _ _ hd0 hd3 _ n hn2 hn8) yk_X0_goesBy (tm_18 (List.mem_of_getElem? (i := 10) rfl)) hd0 rfl rfl (by decide) rfl (Nat.le_of_ble_eq_true rfl) rfl dX0_passHour_71 ?_
              rw [pu_Gof hd hc hw]
              refine vv_istore_n (i := 3) (L' := [_, _, _, _, _]) C dX0_passHour_74 rfl (by decide) rfl ?_
              refine vv_iinc (L' := [_, _, _, _, _]) (j := 4) (v := (nI j - 1)) C dX0_passHour_75 rfl (pu_m1 _) (by decide) rfl ?_
              refine vv_goto (tgt := 25) C dX0_passHour_78 (by decide) ?_
              refine vv_sub (L' := [_, _, _, _, _]) [3, 4, 2, 1, 0] rfl ?_
              refine ih j _ S2 ⟨by omega, by omega, hc, hw, ?_⟩
              rw [← hst, pu_stop, if_neg h35, if_pos ⟨g45, by simpa [pu_isA_1, hc.2 4 (by simp only [List.mem_cons, List.not_mem_nil, or_false, not_or]; omega)] using h55⟩]
  refine vv_aload_n C dX0_passHour_0 rfl 0 rfl ?_
  refine vv_aload_n C dX0_passHour_1 rfl 1 rfl ?_
  refine vv_cV_v C (a := d) (kk_X0_tellWanted l g _ _ hd n hn hn8) yk_X0_tellWanted (tm_18 (List.mem_of_getElem? (i := 9) rfl)) hd0 rfl rfl (by decide) rfl (Nat.le_of_ble_eq_true rfl) rfl dX0_passHour_2 (fun S2 h2 => ?_)
  obtain ⟨hc, hw⟩ := h2
  have hn2 : S2.1 3 0 = nI n := by rw [hc.2 3 (by simp only [List.mem_cons, List.not_mem_nil, or_false, not_or]; omega)]; exact hn
  refine vv_aload_n C dX0_passHour_5 rfl 1 rfl ?_
  refine vv_cVN_F C (a := 3) (kk_X1_all l g _) yk_X1_all (List.mem_of_getElem? (i := 55) rfl) rfl rfl rfl (by decide) rfl (Nat.le_of_ble_eq_true rfl) rfl dX0_passHour_6 ?_
  refine vv_istore_n (i := 2) (L' := [_, _, _]) C dX0_passHour_9 rfl (by decide) rfl ?_
  refine vv_aload_n C dX0_passHour_10 rfl 1 rfl ?_
  refine vv_aload_n C dX0_passHour_11 rfl 2 rfl ?_
  refine vv_iload_n C dX0_passHour_12 rfl 0 rfl ?_
  refine vv_cV_F C (a := d) (kk_X0_goesBy l g _ _ hd0 hd3 _ n hn2 hn8) yk_X0_goesBy (tm_18 (List.mem_of_getElem? (i := 10) rfl)) hd0 rfl rfl (by decide) rfl (Nat.le_of_ble_eq_true rfl) rfl dX0_passHour_13 ?_
  rw [pu_Gof hd hc hw, hn2]
  refine vv_istore_n (i := 3) (L' := [_, _, _, _]) C dX0_passHour_16 rfl (by decide) rfl ?_
  refine vv_aload_n C dX0_passHour_17 rfl 3 rfl ?_
  refine vv_getIN C (a := 3) (k := 0) (o := 0) inlX1 rfl rfl rfl (by decide) rfl (List.mem_of_getElem? (i := 6) rfl) dX0_passHour_18 ?_
  rw [hn2]
  refine vv_iconst (v := (1)) C dX0_passHour_21 (by decide) ?_
  refine vv_isub C dX0_passHour_22 ?_
  refine vv_istore (L' := [_, _, _, _, _]) C dX0_passHour_23 (by decide) rfl ?_
  refine vv_sub (L' := [_, _, _, _, _]) [3, 4, 2, 1, 0] rfl ?_
  exact lp25 (n + 1) n _ S2 ⟨by omega, by omega, hc, hw, rfl⟩
theorem yk_X0_copyFrom : vx_yV yX0_copyFrom cX0_copyFrom 2 none 1 := ⟨(tm_21 (List.mem_of_getElem? (i := 21) rfl)), (tm_1 (List.mem_of_getElem? (i := 23) rfl)), by decide +kernel, (tm_21 (List.mem_of_getElem? (i := 19) rfl)), (tm_21 (List.mem_of_getElem? (i := 20) rfl))⟩
set_option maxHeartbeats 4000000 in
set_option maxRecDepth 100000 in
theorem kk_X0_copyFrom (l : Launch) (g : vx_G) (S : vx_St) (d : Nat) (hd : d = 11 ∨ d = 20 ∨ d = 26) (o : Nat) (ho : o = 11 ∨ o = 20 ∨ o = 26) (hne : d ≠ o) (hb6 : vx_b01 (S.1 o 6) = S.1 o 6) (hb7 : vx_b01 (S.1 o 7) = S.1 o 7) : vx_M l g yX0_copyFrom cX0_copyFrom 2 none (vx_R 1 40) [.ref (g.2.2.1 d), .ref (g.2.2.1 o)] S (vx_pv (fun S' => pu_chg S S' [d, d + 1, d + 2] ∧ (∀ k, k < 9 → S'.1 d k = S.1 o k) ∧ (∀ k, k < 8 → S'.1 (d + 1) k = S.1 (o + 1) k) ∧ (∀ k, k < 8 → S'.1 (d + 2) k = S.1 (o + 2) k))) := by
  obtain ⟨hd0, hd1, hd2, hd3, hd4, hd5⟩ := pu_dsh hd
  obtain ⟨ho0, ho1, ho2, ho3, ho4, ho5⟩ := pu_dsh ho
  refine vx_M.intro (by decide) (Nat.le_of_ble_eq_true rfl) ?_
  intro p e s m args below meth c C
  refine vv_aload_n C dX0_copyFrom_0 rfl 0 rfl ?_
  refine vv_aload_n C dX0_copyFrom_1 rfl 1 rfl ?_
  refine vv_getI C (a := o) (k := 0) (o := 0) inlX0 ho0 rfl rfl (by decide) rfl (tm_3 (List.mem_of_getElem? (i := 2) rfl)) dX0_copyFrom_2 ?_
  refine vv_putI C (a := d) (k := 0) inlX0 tyX0 tyX0_ok nmX0 hd0 rfl rfl (by decide) rfl rfl rfl (tm_3 (List.mem_of_getElem? (i := 2) rfl)) dX0_copyFrom_5 ?_
  refine vv_aload_n C dX0_copyFrom_8 rfl 0 rfl ?_
  refine vv_aload_n C dX0_copyFrom_9 rfl 1 rfl ?_
  refine vv_getI C (a := o) (k := 1) (o := 0) inlX0 ho0 rfl rfl (by decide) rfl (tm_3 (List.mem_of_getElem? (i := 3) rfl)) dX0_copyFrom_10 ?_
  refine vv_putI C (a := d) (k := 1) inlX0 tyX0 tyX0_ok nmX0 hd0 rfl rfl (by decide) rfl rfl rfl (tm_3 (List.mem_of_getElem? (i := 3) rfl)) dX0_copyFrom_13 ?_
  refine vv_aload_n C dX0_copyFrom_16 rfl 0 rfl ?_
  refine vv_aload_n C dX0_copyFrom_17 rfl 1 rfl ?_
  refine vv_getI C (a := o) (k := 2) (o := 0) inlX0 ho0 rfl rfl (by decide) rfl (tm_11 (List.mem_of_getElem? (i := 12) rfl)) dX0_copyFrom_18 ?_
  refine vv_putI C (a := d) (k := 2) inlX0 tyX0 tyX0_ok nmX0 hd0 rfl rfl (by decide) rfl rfl rfl (tm_11 (List.mem_of_getElem? (i := 12) rfl)) dX0_copyFrom_21 ?_
  refine vv_aload_n C dX0_copyFrom_24 rfl 0 rfl ?_
  refine vv_aload_n C dX0_copyFrom_25 rfl 1 rfl ?_
  refine vv_getI C (a := o) (k := 3) (o := 0) inlX0 ho0 rfl rfl (by decide) rfl (tm_18 (List.mem_of_getElem? (i := 16) rfl)) dX0_copyFrom_26 ?_
  refine vv_putI C (a := d) (k := 3) inlX0 tyX0 tyX0_ok nmX0 hd0 rfl rfl (by decide) rfl rfl rfl (tm_18 (List.mem_of_getElem? (i := 16) rfl)) dX0_copyFrom_29 ?_
  refine vv_aload_n C dX0_copyFrom_32 rfl 0 rfl ?_
  refine vv_aload_n C dX0_copyFrom_33 rfl 1 rfl ?_
  refine vv_getI C (a := o) (k := 4) (o := 0) inlX0 ho0 rfl rfl (by decide) rfl (tm_15 (List.mem_of_getElem? (i := 7) rfl)) dX0_copyFrom_34 ?_
  refine vv_putI C (a := d) (k := 4) inlX0 tyX0 tyX0_ok nmX0 hd0 rfl rfl (by decide) rfl rfl rfl (tm_15 (List.mem_of_getElem? (i := 7) rfl)) dX0_copyFrom_37 ?_
  refine vv_aload_n C dX0_copyFrom_40 rfl 0 rfl ?_
  refine vv_aload_n C dX0_copyFrom_41 rfl 1 rfl ?_
  refine vv_getI C (a := o) (k := 5) (o := 0) inlX0 ho0 rfl rfl (by decide) rfl (tm_12 (List.mem_of_getElem? (i := 2) rfl)) dX0_copyFrom_42 ?_
  refine vv_putI C (a := d) (k := 5) inlX0 tyX0 tyX0_ok nmX0 hd0 rfl rfl (by decide) rfl rfl rfl (tm_12 (List.mem_of_getElem? (i := 2) rfl)) dX0_copyFrom_45 ?_
  refine vv_aload_n C dX0_copyFrom_48 rfl 0 rfl ?_
  refine vv_aload_n C dX0_copyFrom_49 rfl 1 rfl ?_
  refine vv_getZ C (a := o) (k := 6) (o := 0) inlX0 ho0 rfl rfl (by decide) rfl (tm_16 (List.mem_of_getElem? (i := 18) rfl)) dX0_copyFrom_50 ?_
  refine vv_putZ C (a := d) (k := 6) inlX0 tyX0 tyX0_ok nmX0 hd0 rfl rfl (by decide) rfl rfl rfl (vx_b_b _) (tm_16 (List.mem_of_getElem? (i := 18) rfl)) dX0_copyFrom_53 ?_
  refine vv_aload_n C dX0_copyFrom_56 rfl 0 rfl ?_
  refine vv_aload_n C dX0_copyFrom_57 rfl 1 rfl ?_
  refine vv_getZ C (a := o) (k := 7) (o := 0) inlX0 ho0 rfl rfl (by decide) rfl (tm_18 (List.mem_of_getElem? (i := 5) rfl)) dX0_copyFrom_58 ?_
  refine vv_putZ C (a := d) (k := 7) inlX0 tyX0 tyX0_ok nmX0 hd0 rfl rfl (by decide) rfl rfl rfl (vx_b_b _) (tm_18 (List.mem_of_getElem? (i := 5) rfl)) dX0_copyFrom_61 ?_
  refine vv_aload_n C dX0_copyFrom_64 rfl 0 rfl ?_
  refine vv_aload_n C dX0_copyFrom_65 rfl 1 rfl ?_
  refine vv_getI C (a := o) (k := 8) (o := 0) inlX0 ho0 rfl rfl (by decide) rfl (tm_18 (List.mem_of_getElem? (i := 15) rfl)) dX0_copyFrom_66 ?_
  refine vv_putI C (a := d) (k := 8) inlX0 tyX0 tyX0_ok nmX0 hd0 rfl rfl (by decide) rfl rfl rfl (tm_18 (List.mem_of_getElem? (i := 15) rfl)) dX0_copyFrom_69 ?_
  refine vv_aload_n C dX0_copyFrom_72 rfl 1 rfl ?_
  refine vv_gR C (a := o) (k := 9) (b := o + 1) inlX0 ho0 rfl rfl rfl (by decide) rfl (tm_3 (List.mem_of_getElem? (i := 4) rfl)) dX0_copyFrom_73 ?_
  refine vv_iconst (v := (0)) C dX0_copyFrom_76 (by decide) ?_
  refine vv_aload_n C dX0_copyFrom_77 rfl 0 rfl ?_
  refine vv_gR C (a := d) (k := 9) (b := d + 1) inlX0 hd0 rfl rfl rfl (by decide) rfl (tm_3 (List.mem_of_getElem? (i := 4) rfl)) dX0_copyFrom_78 ?_
  refine vv_iconst (v := (0)) C dX0_copyFrom_81 (by decide) ?_
  refine vv_bipush (v := (8)) C dX0_copyFrom_82 (by decide) ?_
  refine vv_copy C (tm_21 (List.mem_of_getElem? (i := 22) rfl)) (tm_21 (List.mem_of_getElem? (i := 23) rfl)) (tm_22 (List.mem_of_getElem? (i := 0) rfl)) (tm_22 (List.mem_of_getElem? (i := 1) rfl)) ho1 hd1 (by decide) (by decide) dX0_copyFrom_84 ?_
  refine vv_aload_n C dX0_copyFrom_87 rfl 1 rfl ?_
  refine vv_gR C (a := o) (k := 10) (b := o + 2) inlX0 ho0 rfl rfl rfl (by decide) rfl (tm_3 (List.mem_of_getElem? (i := 5) rfl)) dX0_copyFrom_88 ?_
  refine vv_iconst (v := (0)) C dX0_copyFrom_91 (by decide) ?_
  refine vv_aload_n C dX0_copyFrom_92 rfl 0 rfl ?_
  refine vv_gR C (a := d) (k := 10) (b := d + 2) inlX0 hd0 rfl rfl rfl (by decide) rfl (tm_3 (List.mem_of_getElem? (i := 5) rfl)) dX0_copyFrom_93 ?_
  refine vv_iconst (v := (0)) C dX0_copyFrom_96 (by decide) ?_
  refine vv_bipush (v := (8)) C dX0_copyFrom_97 (by decide) ?_
  refine vv_copy C (tm_21 (List.mem_of_getElem? (i := 22) rfl)) (tm_21 (List.mem_of_getElem? (i := 23) rfl)) (tm_22 (List.mem_of_getElem? (i := 0) rfl)) (tm_22 (List.mem_of_getElem? (i := 1) rfl)) ho2 hd2 (by decide) (by decide) dX0_copyFrom_99 ?_
  refine vv_nret C dX0_copyFrom_102 ?_
  refine ⟨?_, ?_, ?_, ?_⟩
  · refine pu_chg_ur (pu_chg_ur ?_ _ (by simp)) _ (by simp)
    iterate 9 refine pu_chg_u ?_ _ _ (by simp)
    exact pu_chg_rf S _
  · intro k hk
    rw [vx_ur_ne _ _ (by omega), vx_ur_ne _ _ (by omega)]
    simp only [vx_u_ne _ _ _ (show o ≠ d by omega), vx_u_row, hb6, hb7]
    simp only [upd]
    rcases (show k = 0 ∨ k = 1 ∨ k = 2 ∨ k = 3 ∨ k = 4 ∨ k = 5 ∨ k = 6 ∨ k = 7 ∨ k = 8 by omega) with rfl | rfl | rfl | rfl | rfl | rfl | rfl | rfl | rfl <;> simp
  · intro k hk
    rw [vx_ur_ne _ _ (by omega), vx_ur_eq]
    simp only [va_cpy, Nat.zero_le, Nat.zero_add, true_and, if_pos hk, Nat.sub_zero]
    simp only [vx_u_ne _ _ _ (show o + 1 ≠ d by omega)]
  · intro k hk
    rw [vx_ur_eq]
    simp only [va_cpy, Nat.zero_le, Nat.zero_add, true_and, if_pos hk, Nat.sub_zero]
    simp only [vx_ur_ne _ _ (show o + 2 ≠ d + 1 by omega), vx_u_ne _ _ _ (show o + 2 ≠ d by omega)]
theorem yk_X0_welcome : vx_yV yX0_welcome cX0_welcome 2 none 1 := ⟨(tm_12 (List.mem_of_getElem? (i := 1) rfl)), (tm_1 (List.mem_of_getElem? (i := 23) rfl)), by decide +kernel, (tm_11 (List.mem_of_getElem? (i := 23) rfl)), (tm_12 (List.mem_of_getElem? (i := 0) rfl))⟩
set_option maxHeartbeats 4000000 in
set_option maxRecDepth 100000 in
theorem kk_X0_welcome (l : Launch) (g : vx_G) (S : vx_St) (h : Nat) (hh : h < 8) : vx_M l g yX0_welcome cX0_welcome 2 none (vx_R 1 20) [.ref (g.2.2.1 11), .int (nI h)] S (vx_pv (fun S' => S' = vx_u (vx_u (vx_u S 12 h 0) 13 h 0) 11 5 (S.1 11 5 &&& (pu_bit (nI h) ^^^ -1)))) := by
  refine vx_M.intro (by decide) (Nat.le_of_ble_eq_true rfl) ?_
  intro p e s m args below meth c C
  refine vv_aload_n C dX0_welcome_0 rfl 0 rfl ?_
  refine vv_gR C (a := 11) (k := 9) (b := 12) inlX0 rfl rfl rfl rfl (by decide) rfl (tm_3 (List.mem_of_getElem? (i := 4) rfl)) dX0_welcome_1 ?_
  refine vv_iload_n C dX0_welcome_4 rfl 1 rfl ?_
  refine vv_iconst (v := (0)) C dX0_welcome_5 (by decide) ?_
  refine vv_iastN C (a := 12) rfl (by omega) (by decide) dX0_welcome_6 ?_
  refine vv_aload_n C dX0_welcome_7 rfl 0 rfl ?_
  refine vv_gR C (a := 11) (k := 10) (b := 13) inlX0 rfl rfl rfl rfl (by decide) rfl (tm_3 (List.mem_of_getElem? (i := 5) rfl)) dX0_welcome_8 ?_
  refine vv_iload_n C dX0_welcome_11 rfl 1 rfl ?_
  refine vv_iconst (v := (0)) C dX0_welcome_12 (by decide) ?_
  refine vv_iastN C (a := 13) rfl (by omega) (by decide) dX0_welcome_13 ?_
  refine vv_aload_n C dX0_welcome_14 rfl 0 rfl ?_
  refine vv_dup C dX0_welcome_15 rfl ?_
  refine vv_getI C (a := 11) (k := 5) (o := 0) inlX0 rfl rfl rfl (by decide) rfl (tm_12 (List.mem_of_getElem? (i := 2) rfl)) dX0_welcome_16 ?_
  refine vv_iload_n C dX0_welcome_19 rfl 1 rfl ?_
  refine vv_cSN_F C (kk_X4_bit l g _ _) yk_X4_bit (List.mem_of_getElem? (i := 41) rfl) (by decide) rfl (Nat.le_of_ble_eq_true rfl) rfl dX0_welcome_20 ?_
  refine vv_iconst (v := (-1)) C dX0_welcome_23 (by decide) ?_
  refine vv_ixor C dX0_welcome_24 ?_
  refine vv_iand C dX0_welcome_25 ?_
  refine vv_putI C (a := 11) (k := 5) inlX0 tyX0 tyX0_ok nmX0 rfl rfl rfl (by decide) rfl rfl rfl (tm_12 (List.mem_of_getElem? (i := 2) rfl)) dX0_welcome_26 ?_
  refine vv_nret C dX0_welcome_29 ?_
  rfl
theorem pu_rsh {r : Nat} (hr : r = 17 ∨ r = 32) : vx_SH[r]? = some vx_sRd ∧ vx_SH[r + 1]? = some vx_sA ∧ vx_SH[r + 2]? = some vx_sA := by
  rcases hr with rfl | rfl <;> exact ⟨rfl, rfl, rfl⟩
theorem yk_X3_copyFrom : vx_yV yX3_copyFrom cX3_copyFrom 2 none 1 := ⟨(tm_29 (List.mem_of_getElem? (i := 10) rfl)), (tm_2 (List.mem_of_getElem? (i := 3) rfl)), by decide +kernel, (tm_29 (List.mem_of_getElem? (i := 8) rfl)), (tm_29 (List.mem_of_getElem? (i := 9) rfl))⟩
set_option maxHeartbeats 4000000 in
set_option maxRecDepth 100000 in
theorem kk_X3_copyFrom (l : Launch) (g : vx_G) (S : vx_St) (r : Nat) (hr : r = 17 ∨ r = 32) (w : Nat) (hw : w = 17 ∨ w = 32) (hne : r ≠ w) : vx_M l g yX3_copyFrom cX3_copyFrom 2 none (vx_R 1 40) [.ref (g.2.2.1 r), .ref (g.2.2.1 w)] S (vx_pv (fun S' => pu_chg S S' [r, r + 1, r + 2] ∧ S'.1 r 0 = S.1 w 0 ∧ (∀ k, k < 8 → S'.1 (r + 1) k = S.1 (w + 1) k) ∧ (∀ k, k < 8 → S'.1 (r + 2) k = S.1 (w + 2) k))) := by
  obtain ⟨hr0, hr1, hr2⟩ := pu_rsh hr
  obtain ⟨hw0, hw1, hw2⟩ := pu_rsh hw
  refine vx_M.intro (by decide) (Nat.le_of_ble_eq_true rfl) ?_
  intro p e s m args below meth c C
  refine vv_aload_n C dX3_copyFrom_0 rfl 0 rfl ?_
  refine vv_aload_n C dX3_copyFrom_1 rfl 1 rfl ?_
  refine vv_getI C (a := w) (k := 0) (o := 0) inlX3 hw0 rfl rfl (by decide) rfl (tm_26 (List.mem_of_getElem? (i := 11) rfl)) dX3_copyFrom_2 ?_
  refine vv_putI C (a := r) (k := 0) inlX3 tyX3 tyX3_ok nmX3 hr0 rfl rfl (by decide) rfl rfl rfl (tm_26 (List.mem_of_getElem? (i := 11) rfl)) dX3_copyFrom_5 ?_
  refine vv_aload_n C dX3_copyFrom_8 rfl 1 rfl ?_
  refine vv_gR C (a := w) (k := 1) (b := w + 1) inlX3 hw0 rfl rfl rfl (by decide) rfl (tm_3 (List.mem_of_getElem? (i := 12) rfl)) dX3_copyFrom_9 ?_
  refine vv_iconst (v := (0)) C dX3_copyFrom_12 (by decide) ?_
  refine vv_aload_n C dX3_copyFrom_13 rfl 0 rfl ?_
  refine vv_gR C (a := r) (k := 1) (b := r + 1) inlX3 hr0 rfl rfl rfl (by decide) rfl (tm_3 (List.mem_of_getElem? (i := 12) rfl)) dX3_copyFrom_14 ?_
  refine vv_iconst (v := (0)) C dX3_copyFrom_17 (by decide) ?_
  refine vv_bipush (v := (8)) C dX3_copyFrom_18 (by decide) ?_
  refine vv_copy C (tm_29 (List.mem_of_getElem? (i := 11) rfl)) (tm_21 (List.mem_of_getElem? (i := 23) rfl)) (tm_22 (List.mem_of_getElem? (i := 0) rfl)) (tm_22 (List.mem_of_getElem? (i := 1) rfl)) hw1 hr1 (by decide) (by decide) dX3_copyFrom_20 ?_
  refine vv_aload_n C dX3_copyFrom_23 rfl 1 rfl ?_
  refine vv_gR C (a := w) (k := 2) (b := w + 2) inlX3 hw0 rfl rfl rfl (by decide) rfl (tm_3 (List.mem_of_getElem? (i := 13) rfl)) dX3_copyFrom_24 ?_
  refine vv_iconst (v := (0)) C dX3_copyFrom_27 (by decide) ?_
  refine vv_aload_n C dX3_copyFrom_28 rfl 0 rfl ?_
  refine vv_gR C (a := r) (k := 2) (b := r + 2) inlX3 hr0 rfl rfl rfl (by decide) rfl (tm_3 (List.mem_of_getElem? (i := 13) rfl)) dX3_copyFrom_29 ?_
  refine vv_iconst (v := (0)) C dX3_copyFrom_32 (by decide) ?_
  refine vv_bipush (v := (8)) C dX3_copyFrom_33 (by decide) ?_
  refine vv_copy C (tm_29 (List.mem_of_getElem? (i := 11) rfl)) (tm_21 (List.mem_of_getElem? (i := 23) rfl)) (tm_22 (List.mem_of_getElem? (i := 0) rfl)) (tm_22 (List.mem_of_getElem? (i := 1) rfl)) hw2 hr2 (by decide) (by decide) dX3_copyFrom_35 ?_
  refine vv_nret C dX3_copyFrom_38 ?_
  refine ⟨?_, ?_, ?_, ?_⟩
  · refine pu_chg_ur (pu_chg_ur (pu_chg_u (pu_chg_rf S _) _ _ (by simp)) _ (by simp)) _ (by simp)
  · rw [vx_ur_ne _ _ (by omega), vx_ur_ne _ _ (by omega), vx_u_row]
    simp [upd]
  · intro k hk
    rw [vx_ur_ne _ _ (by omega), vx_ur_eq]
    simp only [va_cpy, Nat.zero_le, Nat.zero_add, true_and, if_pos hk, Nat.sub_zero]
    simp only [vx_u_ne _ _ _ (show w + 1 ≠ r by omega)]
  · intro k hk
    rw [vx_ur_eq]
    simp only [va_cpy, Nat.zero_le, Nat.zero_add, true_and, if_pos hk, Nat.sub_zero]
    simp only [vx_ur_ne _ _ (show w + 2 ≠ r + 1 by omega), vx_u_ne _ _ _ (show w + 2 ≠ r by omega)]
theorem yk_X3_add : vx_yV yX3_add cX3_add 3 none 2 := ⟨(tm_26 (List.mem_of_getElem? (i := 10) rfl)), (tm_2 (List.mem_of_getElem? (i := 3) rfl)), by decide +kernel, (tm_26 (List.mem_of_getElem? (i := 8) rfl)), (tm_26 (List.mem_of_getElem? (i := 9) rfl))⟩
set_option maxHeartbeats 4000000 in
set_option maxRecDepth 100000 in
theorem kk_X3_add (l : Launch) (g : vx_G) (S : vx_St) (n : Nat) (hn : S.1 17 0 = nI n) (hn8 : n < 8) (x y : Int32) : vx_M l g yX3_add cX3_add 3 none (vx_R 0 0) [.ref (g.2.2.1 17), .int x, .int y] S (vx_pv (fun S' => S' = vx_u (vx_u (vx_u S 18 n x) 19 n y) 17 0 (nI (n + 1)))) := by
  refine vx_M.intro (by decide) (Nat.le_of_ble_eq_true rfl) ?_
  intro p e s m args below meth c C
  refine vv_aload_n C dX3_add_0 rfl 0 rfl ?_
  refine vv_getI C (a := 17) (k := 0) (o := 0) inlX3 rfl rfl rfl (by decide) rfl (tm_26 (List.mem_of_getElem? (i := 11) rfl)) dX3_add_1 ?_
  refine vv_bipush (v := (nI 8)) C dX3_add_4 (by decide) ?_
  refine vv_icmp_ge (tgt := 39) C dX3_add_6 (by decide) (fun h6 => ?_) (fun h6 => ?_)
  · exact absurd (pu_geT (i := n) (x := nI 8) rfl (by omega) (by omega) (by rw [← hn]; exact h6)) (by omega)
  · refine vv_aload_n C dX3_add_9 rfl 0 rfl ?_
    refine vv_gR C (a := 17) (k := 1) (b := 18) inlX3 rfl rfl rfl rfl (by decide) rfl (tm_3 (List.mem_of_getElem? (i := 12) rfl)) dX3_add_10 ?_
    refine vv_aload_n C dX3_add_13 rfl 0 rfl ?_
    refine vv_getI C (a := 17) (k := 0) (o := 0) inlX3 rfl rfl rfl (by decide) rfl (tm_26 (List.mem_of_getElem? (i := 11) rfl)) dX3_add_14 ?_
    rw [hn]
    refine vv_iload_n C dX3_add_17 rfl 1 rfl ?_
    refine vv_iastN C (a := 18) rfl (by omega) (by decide) dX3_add_18 ?_
    refine vv_aload_n C dX3_add_19 rfl 0 rfl ?_
    refine vv_gR C (a := 17) (k := 2) (b := 19) inlX3 rfl rfl rfl rfl (by decide) rfl (tm_3 (List.mem_of_getElem? (i := 13) rfl)) dX3_add_20 ?_
    refine vv_aload_n C dX3_add_23 rfl 0 rfl ?_
    refine vv_getI C (a := 17) (k := 0) (o := 0) inlX3 rfl rfl rfl (by decide) rfl (tm_26 (List.mem_of_getElem? (i := 11) rfl)) dX3_add_24 ?_
    rw [show (vx_u S 18 n x).1 17 0 = nI n from by rw [vx_u_ne _ _ _ (by decide)]; exact hn]
    refine vv_iload_n C dX3_add_27 rfl 2 rfl ?_
    refine vv_iastN C (a := 19) rfl (by omega) (by decide) dX3_add_28 ?_
    refine vv_aload_n C dX3_add_29 rfl 0 rfl ?_
    refine vv_dup C dX3_add_30 rfl ?_
    refine vv_getI C (a := 17) (k := 0) (o := 0) inlX3 rfl rfl rfl (by decide) rfl (tm_26 (List.mem_of_getElem? (i := 11) rfl)) dX3_add_31 ?_
    refine vv_iconst (v := (1)) C dX3_add_34 (by decide) ?_
    refine vv_iadd C dX3_add_35 ?_
    refine vv_putI C (a := 17) (k := 0) inlX3 tyX3 tyX3_ok nmX3 rfl rfl rfl (by decide) rfl rfl rfl (tm_26 (List.mem_of_getElem? (i := 11) rfl)) dX3_add_36 ?_
    refine vv_nret C dX3_add_39 ?_
    rw [vx_u_ne _ _ _ (by decide), vx_u_ne _ _ _ (by decide), hn, nI_1]
theorem yk_X0_greatestRest : vx_yV yX0_greatestRest cX0_greatestRest 4 (some .int) 1 := ⟨(tm_20 (List.mem_of_getElem? (i := 5) rfl)), (tm_1 (List.mem_of_getElem? (i := 23) rfl)), by decide +kernel, (tm_20 (List.mem_of_getElem? (i := 3) rfl)), (tm_20 (List.mem_of_getElem? (i := 4) rfl))⟩
set_option maxHeartbeats 4000000 in
set_option maxRecDepth 100000 in
theorem kk_X0_greatestRest (l : Launch) (g : vx_G) (S : vx_St) (d : Nat) (hd : d = 11 ∨ d = 20 ∨ d = 26) (n : Nat) (hn8 : n ≤ 8) : vx_M l g yX0_greatestRest cX0_greatestRest 4 (some .int) (vx_R 0 0) [.ref (g.2.2.1 d), .int (nI n)] S (vx_pf (nI (pu_gr (S.1 (d + 5)) n)) S) := by
  obtain ⟨hd0, hd1, hd2, hd3, hd4, hd5⟩ := pu_dsh hd
  refine vx_M.intro (by decide) (Nat.le_of_ble_eq_true rfl) ?_
  intro p e s m args below meth c C
  have lp4 : ∀ (fu : Nat) (i : Nat), (9 - i < fu ∧ 1 ≤ i ∧ (i ≤ n ∨ (i = 1 ∧ n = 0))) → vx_V p l e (vx_R 0 0) s m args below meth c (MQ below (vx_Q g (vx_pf (nI (pu_gr (S.1 (d + 5)) n)) S)) args s 0 0 (vx_A g)) g 4 4 [(0, .ref (g.2.2.1 d)), (1, .int (nI n)), (2, .int (nI (pu_gr (S.1 (d + 5)) i))), (3, .int (nI i))] [] (S) := by
    intro fu
    induction fu with
    | zero =>
      intro i hfu
      exact absurd hfu.1 (by omega)
    | succ fu ih =>
      intro i hfu
      obtain ⟨hf1, hf2, hf3⟩ := hfu
      have hb := pu_gr_lt (S.1 (d + 5)) i (by omega)
      refine vv_iload_n C dX0_greatestRest_4 rfl 3 rfl ?_
      refine vv_iload_n C dX0_greatestRest_5 rfl 1 rfl ?_
      refine vv_icmp_ge (tgt := 32) C dX0_greatestRest_6 (by decide) (fun h6 => ?_) (fun h6 => ?_)
      · have hge := pu_geT rfl (by omega) (by omega) h6
        refine vv_iload_n C dX0_greatestRest_32 rfl 2 rfl ?_
        refine vv_fret C dX0_greatestRest_33 ?_
        rcases hf3 with q | ⟨rfl, rfl⟩
        · rw [show i = n by omega]
        · rw [pu_gr_1]; rfl
      · have hlt := pu_geF rfl (by omega) (by omega) h6
        refine vv_aload_n C dX0_greatestRest_9 rfl 0 rfl ?_
        refine vv_gR C (a := d) (k := 13) (b := d + 5) inlX0 hd0 rfl rfl rfl (by decide) rfl (tm_3 (List.mem_of_getElem? (i := 8) rfl)) dX0_greatestRest_10 ?_
        refine vv_iload_n C dX0_greatestRest_13 rfl 3 rfl ?_
        refine vv_ialdN C (a := d + 5) hd5 (by omega) (by decide) dX0_greatestRest_14 ?_
        refine vv_aload_n C dX0_greatestRest_15 rfl 0 rfl ?_
        refine vv_gR C (a := d) (k := 13) (b := d + 5) inlX0 hd0 rfl rfl rfl (by decide) rfl (tm_3 (List.mem_of_getElem? (i := 8) rfl)) dX0_greatestRest_16 ?_
        refine vv_iload_n C dX0_greatestRest_19 rfl 2 rfl ?_
        refine vv_ialdN C (a := d + 5) hd5 (by omega) (by decide) dX0_greatestRest_20 ?_
        refine vv_icmp_le (tgt := 26) C dX0_greatestRest_21 (by decide) (fun h21 => ?_) (fun h21 => ?_)
        · refine vv_iincN (L' := [_, _, _, _]) (j := 3) C dX0_greatestRest_26 rfl (by decide) rfl ?_
          refine vv_goto (tgt := 4) C dX0_greatestRest_29 (by decide) ?_
          refine vv_sub (L' := [_, _, _, _]) [1, 2, 3, 0] rfl ?_
          have q := ih (i + 1) ⟨by omega, by omega, by omega⟩
          simp only [pu_gr] at q
          rw [if_pos h21] at q
          exact q
        · refine vv_iload_n C dX0_greatestRest_24 rfl 3 rfl ?_
          refine vv_istore_n (i := 2) (L' := [_, _, _, _]) C dX0_greatestRest_25 rfl (by decide) rfl ?_
          refine vv_iincN (L' := [_, _, _, _]) (j := 3) C dX0_greatestRest_26 rfl (by decide) rfl ?_
          refine vv_goto (tgt := 4) C dX0_greatestRest_29 (by decide) ?_
          refine vv_sub (L' := [_, _, _, _]) [2, 3, 1, 0] rfl ?_
          have q := ih (i + 1) ⟨by omega, by omega, by omega⟩
          simp only [pu_gr] at q
          rw [if_neg h21] at q
          exact q
  refine vv_iconst (v := (nI 0)) C dX0_greatestRest_0 (by decide) ?_
  refine vv_istore_n (i := 2) (L' := [_, _, _]) C dX0_greatestRest_1 rfl (by decide) rfl ?_
  refine vv_iconst (v := (nI 1)) C dX0_greatestRest_2 (by decide) ?_
  refine vv_istore_n (i := 3) (L' := [_, _, _, _]) C dX0_greatestRest_3 rfl (by decide) rfl ?_
  refine vv_sub (L' := [_, _, _, _]) [2, 3, 1, 0] rfl ?_
  have q := lp4 9 1 ⟨by omega, by omega, by omega⟩
  rw [pu_gr_1] at q
  exact q
theorem yk_X0_tellParts : vx_yV yX0_tellParts cX0_tellParts 6 none 1 := ⟨(tm_20 (List.mem_of_getElem? (i := 1) rfl)), (tm_1 (List.mem_of_getElem? (i := 23) rfl)), by decide +kernel, (tm_19 (List.mem_of_getElem? (i := 23) rfl)), (tm_20 (List.mem_of_getElem? (i := 0) rfl))⟩
set_option maxHeartbeats 4000000 in
set_option maxRecDepth 100000 in
theorem kk_X0_tellParts (l : Launch) (g : vx_G) (S : vx_St) (d : Nat) (hd : d = 11 ∨ d = 20 ∨ d = 26) (n : Nat) (hn8 : n ≤ 8) : vx_M l g yX0_tellParts cX0_tellParts 6 none (vx_R 1 23) [.ref (g.2.2.1 d), .int (nI n)] S (vx_pv (fun S' => pu_chg S S' [d + 4, d + 5] ∧ S'.1 (d + 4) = pu_pts (S.1 d 0 - S.1 d 1) (S.1 d 8) (S.1 (d + 1)) (S.1 (d + 4)) (S.1 (d + 5)) n)) := by
  obtain ⟨hd0, hd1, hd2, hd3, hd4, hd5⟩ := pu_dsh hd
  refine vx_M.intro (by decide) (Nat.le_of_ble_eq_true rfl) ?_
  intro p e s m args below meth c C
  have lp115 : ∀ (fu : Nat) (i : Nat) (lf : Int32) (S1 : vx_St), (n - i < fu ∧ i ≤ n ∧ pu_chg S S1 [d + 4, d + 5] ∧ pu_give n (n - i) (S1.1 (d + 4)) (S1.1 (d + 5)) lf = pu_pts (S.1 d 0 - S.1 d 1) (S.1 d 8) (S.1 (d + 1)) (S.1 (d + 4)) (S.1 (d + 5)) n) → vx_V p l e (vx_R 1 23) s m args below meth c (MQ below (vx_Q g (vx_pv (fun S' => pu_chg S S' [d + 4, d + 5] ∧ S'.1 (d + 4) = pu_pts (S.1 d 0 - S.1 d 1) (S.1 d 8) (S.1 (d + 1)) (S.1 (d + 4)) (S.1 (d + 5)) n))) args s 0 0 (vx_A g)) g 6 115 [(0, .ref (g.2.2.1 d)), (1, .int (nI n)), (3, .int lf), (4, .int (nI i))] [] (S1) := by
    intro fu
    induction fu with
    | zero =>
      intro i lf S1 hfu
      exact absurd hfu.1 (by omega)
    | succ fu ih =>
      intro i lf S1 hfu
      obtain ⟨hf1, hf2, hc, hst⟩ := hfu
      refine vv_iload C dX0_tellParts_115 3 rfl ?_
      refine vv_iload_n C dX0_tellParts_117 rfl 1 rfl ?_
      refine vv_icmp_ge (tgt := 160) C dX0_tellParts_118 (by decide) (fun h118 => ?_) (fun h118 => ?_)
      · have hge := pu_geT rfl (by omega) (by omega) h118
        refine vv_nret C dX0_tellParts_160 ?_
        exact ⟨hc, by rw [← hst, show n - i = 0 by omega, pu_give]⟩
      · have hlt := pu_geF rfl (by omega) (by omega) h118
        have hb := pu_gr_lt (S1.1 (d + 5)) n (by omega)
        refine vv_iload_n C dX0_tellParts_121 rfl 2 rfl ?_
        refine vv_if_le (tgt := 160) C dX0_tellParts_122 (by decide) (fun h122 => ?_) (fun h122 => ?_)
        · refine vv_nret C dX0_tellParts_160 ?_
          exact ⟨hc, by rw [← hst, show n - i = (n - (i + 1)) + 1 by omega, pu_give, if_pos h122]⟩
        · refine vv_aload_n C dX0_tellParts_125 rfl 0 rfl ?_
          refine vv_iload_n C dX0_tellParts_126 rfl 1 rfl ?_
          refine vv_cV_F C (a := d) (kk_X0_greatestRest l g _ _ hd n hn8) yk_X0_greatestRest (tm_20 (List.mem_of_getElem? (i := 2) rfl)) hd0 rfl rfl (by decide) rfl (Nat.le_of_ble_eq_true rfl) rfl dX0_tellParts_127 ?_
          refine vv_istore (L' := [_, _, _, _, _]) C dX0_tellParts_130 (by decide) rfl ?_
          refine vv_aload_n C dX0_tellParts_132 rfl 1 rfl ?_
          refine vv_gR C (a := d) (k := 12) (b := d + 4) inlX0 hd0 rfl rfl rfl (by decide) rfl (tm_3 (List.mem_of_getElem? (i := 7) rfl)) dX0_tellParts_133 ?_
          refine vv_iload C dX0_tellParts_136 0 rfl ?_
          refine vv_dup2 C dX0_tellParts_138 rfl rfl ?_
          refine vv_ialdN C (a := d + 4) hd4 (by omega) (by decide) dX0_tellParts_139 ?_
          refine vv_iconst (v := (1)) C dX0_tellParts_140 (by decide) ?_
          refine vv_iadd C dX0_tellParts_141 ?_
          refine vv_iastN C (a := d + 4) hd4 (by omega) (by decide) dX0_tellParts_142 ?_
          refine vv_aload_n C dX0_tellParts_143 rfl 1 rfl ?_
          refine vv_gR C (a := d) (k := 13) (b := d + 5) inlX0 hd0 rfl rfl rfl (by decide) rfl (tm_3 (List.mem_of_getElem? (i := 8) rfl)) dX0_tellParts_144 ?_
          refine vv_iload C dX0_tellParts_147 0 rfl ?_
          refine vv_iconst (v := (-1)) C dX0_tellParts_149 (by decide) ?_
          refine vv_iastN C (a := d + 5) hd5 (by omega) (by decide) dX0_tellParts_150 ?_
          refine vv_iinc (L' := [_, _, _, _, _]) (j := 3) (v := (lf - 1)) C dX0_tellParts_151 rfl (pu_m1 _) (by decide) rfl ?_
          refine vv_iincN (L' := [_, _, _, _, _]) (j := 4) C dX0_tellParts_154 rfl (by decide) rfl ?_
          refine vv_goto (tgt := 115) C dX0_tellParts_157 (by decide) ?_
          refine vv_sub (L' := [_, _, _, _]) [3, 4, 1, 0] rfl ?_
          refine ih (i + 1) _ _ ⟨by omega, by omega, pu_chg_u (pu_chg_u hc _ _ (by simp)) _ _ (by simp), ?_⟩
          rw [← hst, show n - i = (n - (i + 1)) + 1 by omega, pu_give, if_neg h122, vx_u_ne _ _ _ (show d + 4 ≠ d + 5 by omega), vx_u_row, vx_u_row, vx_u_ne _ _ _ (show d + 5 ≠ d + 4 by omega)]
  have lp26 : ∀ (fu : Nat) (i : Nat) (S1 : vx_St), (n - i < fu ∧ i ≤ n ∧ pu_chg S S1 [d + 4, d + 5] ∧ S1.1 (d + 4) = pu_fill (pu_p0 (S.1 d 0 - S.1 d 1) (S.1 d 8) (S.1 (d + 1))) (S.1 (d + 4)) i ∧ S1.1 (d + 5) = pu_fill (pu_r0 (S.1 d 0 - S.1 d 1) (S.1 d 8) (S.1 (d + 1))) (S.1 (d + 5)) i) → vx_V p l e (vx_R 1 23) s m args below meth c (MQ below (vx_Q g (vx_pv (fun S' => pu_chg S S' [d + 4, d + 5] ∧ S'.1 (d + 4) = pu_pts (S.1 d 0 - S.1 d 1) (S.1 d 8) (S.1 (d + 1)) (S.1 (d + 4)) (S.1 (d + 5)) n))) args s 0 0 (vx_A g)) g 6 26 [(0, .ref (g.2.2.1 d)), (1, .int (nI n)), (2, .int (S.1 d 0 - S.1 d 1)), (3, .int (pu_lf (S.1 d 0 - S.1 d 1) (S.1 d 8) (S.1 (d + 1)) i)), (4, .int (nI i))] [] (S1) := by
    intro fu
    induction fu with
    | zero =>
      intro i S1 hfu
      exact absurd hfu.1 (by omega)
    | succ fu ih =>
      intro i S1 hfu
      obtain ⟨hf1, hf2, hc, hr4, hr5⟩ := hfu
      have rd : S1.1 d = S.1 d := hc.2 _ (by simp only [List.mem_cons, List.not_mem_nil, or_false, not_or]; omega)
      have rt : S1.1 (d + 1) = S.1 (d + 1) := hc.2 _ (by simp only [List.mem_cons, List.not_mem_nil, or_false, not_or]; omega)
      refine vv_iload C dX0_tellParts_26 4 rfl ?_
      refine vv_iload_n C dX0_tellParts_28 rfl 1 rfl ?_
      refine vv_icmp_ge (tgt := 112) C dX0_tellParts_29 (by decide) (fun h29 => ?_) (fun h29 => ?_)
      · have hge := pu_geT rfl (by omega) (by omega) h29
        obtain rfl : n = i := by omega
        refine vv_iconst (v := (nI 0)) C dX0_tellParts_112 (by decide) ?_
        refine vv_istore (L' := [_, _, _, _, _]) C dX0_tellParts_113 (by decide) rfl ?_
        refine vv_sub (L' := [_, _, _, _]) [1, 2, 4, 0] rfl ?_
        refine lp115 (n + 1) 0 _ S1 ⟨by omega, by omega, hc, ?_⟩
        rw [hr4, hr5]
        rfl
      · have hlt := pu_geF rfl (by omega) (by omega) h29
        refine vv_aload_n C dX0_tellParts_32 rfl 0 rfl ?_
        refine vv_gR C (a := d) (k := 12) (b := d + 4) inlX0 hd0 rfl rfl rfl (by decide) rfl (tm_3 (List.mem_of_getElem? (i := 7) rfl)) dX0_tellParts_33 ?_
        refine vv_iload C dX0_tellParts_36 4 rfl ?_
        refine vv_aload_n C dX0_tellParts_38 rfl 0 rfl ?_
        refine vv_getI C (a := d) (k := 8) (o := 0) inlX0 hd0 rfl rfl (by decide) rfl (tm_18 (List.mem_of_getElem? (i := 15) rfl)) dX0_tellParts_39 ?_
        refine vv_if_le (tgt := 62) C dX0_tellParts_42 (by decide) (fun h42 => ?_) (fun h42 => ?_)
        · rw [rd] at h42
          refine vv_iconst (v := (0)) C dX0_tellParts_62 (by decide) ?_
          refine vv_iastN C (a := d + 4) hd4 (by omega) (by decide) dX0_tellParts_63 ?_
          refine vv_aload_n C dX0_tellParts_64 rfl 0 rfl ?_
          refine vv_gR C (a := d) (k := 13) (b := d + 5) inlX0 hd0 rfl rfl rfl (by decide) rfl (tm_3 (List.mem_of_getElem? (i := 8) rfl)) dX0_tellParts_65 ?_
          refine vv_iload C dX0_tellParts_68 4 rfl ?_
          refine vv_aload_n C dX0_tellParts_70 rfl 0 rfl ?_
          refine vv_getI C (a := d) (k := 8) (o := 0) inlX0 hd0 rfl rfl (by decide) rfl (tm_18 (List.mem_of_getElem? (i := 15) rfl)) dX0_tellParts_71 ?_
          refine vv_if_le (tgt := 94) C dX0_tellParts_74 (by decide) (fun h74 => ?_) (fun h74 => ?_)
          · rw [vx_u_ne _ _ _ (by omega), rd] at h74
            refine vv_iconst (v := (0)) C dX0_tellParts_94 (by decide) ?_
            refine vv_iastN C (a := d + 5) hd5 (by omega) (by decide) dX0_tellParts_95 ?_
            refine vv_iload_n C dX0_tellParts_96 rfl 3 rfl ?_
            refine vv_aload_n C dX0_tellParts_97 rfl 0 rfl ?_
            refine vv_gR C (a := d) (k := 12) (b := d + 4) inlX0 hd0 rfl rfl rfl (by decide) rfl (tm_3 (List.mem_of_getElem? (i := 7) rfl)) dX0_tellParts_98 ?_
            refine vv_iload C dX0_tellParts_101 4 rfl ?_
            refine vv_ialdN C (a := d + 4) hd4 (by omega) (by decide) dX0_tellParts_103 ?_
            refine vv_isub C dX0_tellParts_104 ?_
            refine vv_istore_n (i := 3) (L' := [_, _, _, _, _]) C dX0_tellParts_105 rfl (by decide) rfl ?_
            refine vv_iincN (L' := [_, _, _, _, _]) (j := 4) C dX0_tellParts_106 rfl (by decide) rfl ?_
            refine vv_goto (tgt := 26) C dX0_tellParts_109 (by decide) ?_
            refine vv_sub (L' := [_, _, _, _, _]) [2, 3, 4, 1, 0] rfl ?_
            have q := ih (i + 1) (vx_u (vx_u S1 (d + 4) i (pu_p0 (S.1 d 0 - S.1 d 1) (S.1 d 8) (S.1 (d + 1)) i)) (d + 5) i (pu_r0 (S.1 d 0 - S.1 d 1) (S.1 d 8) (S.1 (d + 1)) i)) ⟨by omega, by omega, pu_chg_u (pu_chg_u hc _ _ (by simp)) _ _ (by simp), (by rw [vx_u_ne _ _ _ (by omega), vx_u_row, hr4]; exact pu_fill_s _ _ i), (by rw [vx_u_row, vx_u_ne _ _ _ (by omega), hr5]; exact pu_fill_s _ _ i)⟩
            simp only [pu_p0, pu_r0, pu_lf, if_pos h42] at q
            simp only [vx_u_ne _ _ _ (show d ≠ d + 4 by omega), vx_u_ne _ _ _ (show d + 1 ≠ d + 4 by omega), vx_u_ne _ _ _ (show d ≠ d + 5 by omega), vx_u_ne _ _ _ (show d + 4 ≠ d + 5 by omega), rd, rt]
            simp only [vx_u_row, upd, if_true]
            exact q
          · rw [vx_u_ne _ _ _ (by omega), rd] at h74
            exact absurd h42 h74
        · rw [rd] at h42
          refine vv_iload_n C dX0_tellParts_45 rfl 2 rfl ?_
          refine vv_aload_n C dX0_tellParts_46 rfl 0 rfl ?_
          refine vv_gR C (a := d) (k := 9) (b := d + 1) inlX0 hd0 rfl rfl rfl (by decide) rfl (tm_3 (List.mem_of_getElem? (i := 4) rfl)) dX0_tellParts_47 ?_
          refine vv_iload C dX0_tellParts_50 4 rfl ?_
          refine vv_ialdN C (a := d + 1) hd1 (by omega) (by decide) dX0_tellParts_52 ?_
          refine vv_imul C dX0_tellParts_53 ?_
          refine vv_aload_n C dX0_tellParts_54 rfl 0 rfl ?_
          refine vv_getI C (a := d) (k := 8) (o := 0) inlX0 hd0 rfl rfl (by decide) rfl (tm_18 (List.mem_of_getElem? (i := 15) rfl)) dX0_tellParts_55 ?_
          refine vv_idiv C dX0_tellParts_58 (fun q => h42 (by rw [← rd, q]; decide)) ?_
          refine vv_goto (tgt := 63) C dX0_tellParts_59 (by decide) ?_
          refine vv_iastN C (a := d + 4) hd4 (by omega) (by decide) dX0_tellParts_63 ?_
          refine vv_aload_n C dX0_tellParts_64 rfl 0 rfl ?_
          refine vv_gR C (a := d) (k := 13) (b := d + 5) inlX0 hd0 rfl rfl rfl (by decide) rfl (tm_3 (List.mem_of_getElem? (i := 8) rfl)) dX0_tellParts_65 ?_
          refine vv_iload C dX0_tellParts_68 4 rfl ?_
          refine vv_aload_n C dX0_tellParts_70 rfl 0 rfl ?_
          refine vv_getI C (a := d) (k := 8) (o := 0) inlX0 hd0 rfl rfl (by decide) rfl (tm_18 (List.mem_of_getElem? (i := 15) rfl)) dX0_tellParts_71 ?_
          refine vv_if_le (tgt := 94) C dX0_tellParts_74 (by decide) (fun h74 => ?_) (fun h74 => ?_)
          · rw [vx_u_ne _ _ _ (by omega), rd] at h74
            exact absurd h74 h42
          · rw [vx_u_ne _ _ _ (by omega), rd] at h74
            refine vv_iload_n C dX0_tellParts_77 rfl 2 rfl ?_
            refine vv_aload_n C dX0_tellParts_78 rfl 0 rfl ?_
            refine vv_gR C (a := d) (k := 9) (b := d + 1) inlX0 hd0 rfl rfl rfl (by decide) rfl (tm_3 (List.mem_of_getElem? (i := 4) rfl)) dX0_tellParts_79 ?_
            refine vv_iload C dX0_tellParts_82 4 rfl ?_
            refine vv_ialdN C (a := d + 1) hd1 (by omega) (by decide) dX0_tellParts_84 ?_
            refine vv_imul C dX0_tellParts_85 ?_
            refine vv_aload_n C dX0_tellParts_86 rfl 0 rfl ?_
            refine vv_getI C (a := d) (k := 8) (o := 0) inlX0 hd0 rfl rfl (by decide) rfl (tm_18 (List.mem_of_getElem? (i := 15) rfl)) dX0_tellParts_87 ?_
            refine vv_irem C dX0_tellParts_90 (fun q => h74 (by rw [← rd]; rw [vx_u_ne _ _ _ (show d ≠ d + 4 by omega)] at q; rw [q]; decide)) ?_
            refine vv_goto (tgt := 95) C dX0_tellParts_91 (by decide) ?_
            refine vv_iastN C (a := d + 5) hd5 (by omega) (by decide) dX0_tellParts_95 ?_
            refine vv_iload_n C dX0_tellParts_96 rfl 3 rfl ?_
            refine vv_aload_n C dX0_tellParts_97 rfl 0 rfl ?_
            refine vv_gR C (a := d) (k := 12) (b := d + 4) inlX0 hd0 rfl rfl rfl (by decide) rfl (tm_3 (List.mem_of_getElem? (i := 7) rfl)) dX0_tellParts_98 ?_
            refine vv_iload C dX0_tellParts_101 4 rfl ?_
            refine vv_ialdN C (a := d + 4) hd4 (by omega) (by decide) dX0_tellParts_103 ?_
            refine vv_isub C dX0_tellParts_104 ?_
            refine vv_istore_n (i := 3) (L' := [_, _, _, _, _]) C dX0_tellParts_105 rfl (by decide) rfl ?_
            refine vv_iincN (L' := [_, _, _, _, _]) (j := 4) C dX0_tellParts_106 rfl (by decide) rfl ?_
            refine vv_goto (tgt := 26) C dX0_tellParts_109 (by decide) ?_
            refine vv_sub (L' := [_, _, _, _, _]) [2, 3, 4, 1, 0] rfl ?_
            have q := ih (i + 1) (vx_u (vx_u S1 (d + 4) i (pu_p0 (S.1 d 0 - S.1 d 1) (S.1 d 8) (S.1 (d + 1)) i)) (d + 5) i (pu_r0 (S.1 d 0 - S.1 d 1) (S.1 d 8) (S.1 (d + 1)) i)) ⟨by omega, by omega, pu_chg_u (pu_chg_u hc _ _ (by simp)) _ _ (by simp), (by rw [vx_u_ne _ _ _ (by omega), vx_u_row, hr4]; exact pu_fill_s _ _ i), (by rw [vx_u_row, vx_u_ne _ _ _ (by omega), hr5]; exact pu_fill_s _ _ i)⟩
            simp only [pu_p0, pu_r0, pu_lf, if_neg h42] at q
            simp only [vx_u_ne _ _ _ (show d ≠ d + 4 by omega), vx_u_ne _ _ _ (show d + 1 ≠ d + 4 by omega), vx_u_ne _ _ _ (show d ≠ d + 5 by omega), vx_u_ne _ _ _ (show d + 4 ≠ d + 5 by omega), rd, rt]
            simp only [vx_u_row, upd, if_true]
            exact q
  refine vv_aload_n C dX0_tellParts_0 rfl 0 rfl ?_
  refine vv_getI C (a := d) (k := 0) (o := 0) inlX0 hd0 rfl rfl (by decide) rfl (tm_3 (List.mem_of_getElem? (i := 2) rfl)) dX0_tellParts_1 ?_
  refine vv_aload_n C dX0_tellParts_4 rfl 0 rfl ?_
  refine vv_getI C (a := d) (k := 1) (o := 0) inlX0 hd0 rfl rfl (by decide) rfl (tm_3 (List.mem_of_getElem? (i := 3) rfl)) dX0_tellParts_5 ?_
  refine vv_isub C dX0_tellParts_8 ?_
  refine vv_istore_n (i := 2) (L' := [_, _, _]) C dX0_tellParts_9 rfl (by decide) rfl ?_
  refine vv_aload_n C dX0_tellParts_10 rfl 1 rfl ?_
  refine vv_getI C (a := d) (k := 8) (o := 0) inlX0 hd0 rfl rfl (by decide) rfl (tm_18 (List.mem_of_getElem? (i := 15) rfl)) dX0_tellParts_11 ?_
  refine vv_if_le (tgt := 21) C dX0_tellParts_14 (by decide) (fun h14 => ?_) (fun h14 => ?_)
  · refine vv_iconst (v := (0)) C dX0_tellParts_21 (by decide) ?_
    refine vv_istore_n (i := 3) (L' := [_, _, _, _]) C dX0_tellParts_22 rfl (by decide) rfl ?_
    refine vv_iconst (v := (nI 0)) C dX0_tellParts_23 (by decide) ?_
    refine vv_istore (L' := [_, _, _, _, _]) C dX0_tellParts_24 (by decide) rfl ?_
    refine vv_sub (L' := [_, _, _, _, _]) [3, 4, 2, 1, 0] rfl ?_
    have q := lp26 (n + 1) 0 S ⟨by omega, by omega, pu_chg_rf S _, rfl, rfl⟩
    simp only [pu_lf, if_pos h14] at q
    exact q
  · refine vv_iload_n C dX0_tellParts_17 rfl 0 rfl ?_
    refine vv_goto (tgt := 22) C dX0_tellParts_18 (by decide) ?_
    refine vv_istore_n (i := 3) (L' := [_, _, _, _]) C dX0_tellParts_22 rfl (by decide) rfl ?_
    refine vv_iconst (v := (nI 0)) C dX0_tellParts_23 (by decide) ?_
    refine vv_istore (L' := [_, _, _, _, _]) C dX0_tellParts_24 (by decide) rfl ?_
    refine vv_sub (L' := [_, _, _, _, _]) [3, 4, 2, 1, 0] rfl ?_
    have q := lp26 (n + 1) 0 S ⟨by omega, by omega, pu_chg_rf S _, rfl, rfl⟩
    simp only [pu_lf, if_neg h14] at q
    exact q
theorem yk_X0_passNight : vx_yV yX0_passNight cX0_passNight 4 (some .int) 1 := ⟨(tm_21 (List.mem_of_getElem? (i := 0) rfl)), (tm_1 (List.mem_of_getElem? (i := 23) rfl)), by decide +kernel, (tm_20 (List.mem_of_getElem? (i := 22) rfl)), (tm_20 (List.mem_of_getElem? (i := 23) rfl))⟩
set_option maxHeartbeats 4000000 in
set_option maxRecDepth 100000 in
theorem kk_X0_passNight (l : Launch) (g : vx_G) (S : vx_St) (d : Nat) (hd : d = 11 ∨ d = 20 ∨ d = 26) (n : Nat) (hn8 : n ≤ 8) : vx_M l g yX0_passNight cX0_passNight 4 (some .int) (vx_R 2 48) [.ref (g.2.2.1 d), .int (nI n)] S (vx_pi (fun r S' => r = (S.1 d 0 - S.1 d 1) ∧ pu_chg S S' [d, d + 1, d + 2, d + 4, d + 5] ∧ S'.1 d = pu_ngt (S.1 d) ∧ S'.1 (d + 1) = pu_fill (fun _ => 0) (S.1 (d + 1)) n ∧ S'.1 (d + 2) = pu_fill (fun h => pu_mn (S.1 (d + 2) h + pu_pts (S.1 d 0 - S.1 d 1) (S.1 d 8) (S.1 (d + 1)) (S.1 (d + 4)) (S.1 (d + 5)) n h)) (S.1 (d + 2)) n)) := by
  obtain ⟨hd0, hd1, hd2, hd3, hd4, hd5⟩ := pu_dsh hd
  refine vx_M.intro (by decide) (Nat.le_of_ble_eq_true rfl) ?_
  intro p e s m args below meth c C
  have lp17 : ∀ (fu : Nat) (i : Nat) (S1 : vx_St), (n - i < fu ∧ i ≤ n ∧ pu_chg S S1 [d, d + 1, d + 2, d + 4, d + 5] ∧ S1.1 d = S.1 d ∧ S1.1 (d + 1) = pu_fill (fun _ => 0) (S.1 (d + 1)) i ∧ S1.1 (d + 2) = pu_fill (fun h => pu_mn (S.1 (d + 2) h + pu_pts (S.1 d 0 - S.1 d 1) (S.1 d 8) (S.1 (d + 1)) (S.1 (d + 4)) (S.1 (d + 5)) n h)) (S.1 (d + 2)) i ∧ S1.1 (d + 4) = pu_pts (S.1 d 0 - S.1 d 1) (S.1 d 8) (S.1 (d + 1)) (S.1 (d + 4)) (S.1 (d + 5)) n) → vx_V p l e (vx_R 2 48) s m args below meth c (MQ below (vx_Q g (vx_pi (fun r S' => r = (S.1 d 0 - S.1 d 1) ∧ pu_chg S S' [d, d + 1, d + 2, d + 4, d + 5] ∧ S'.1 d = pu_ngt (S.1 d) ∧ S'.1 (d + 1) = pu_fill (fun _ => 0) (S.1 (d + 1)) n ∧ S'.1 (d + 2) = pu_fill (fun h => pu_mn (S.1 (d + 2) h + pu_pts (S.1 d 0 - S.1 d 1) (S.1 d 8) (S.1 (d + 1)) (S.1 (d + 4)) (S.1 (d + 5)) n h)) (S.1 (d + 2)) n))) args s 0 0 (vx_A g)) g 4 17 [(0, .ref (g.2.2.1 d)), (1, .int (nI n)), (2, .int (S.1 d 0 - S.1 d 1)), (3, .int (nI i))] [] (S1) := by
    intro fu
    induction fu with
    | zero =>
      intro i S1 hfu
      exact absurd hfu.1 (by omega)
    | succ fu ih =>
      intro i S1 hfu
      obtain ⟨hf1, hf2, hc, rd, r1, r2, r4⟩ := hfu
      refine vv_iload_n C dX0_passNight_17 rfl 3 rfl ?_
      refine vv_iload_n C dX0_passNight_18 rfl 1 rfl ?_
      refine vv_icmp_ge (tgt := 60) C dX0_passNight_19 (by decide) (fun h19 => ?_) (fun h19 => ?_)
      · have hge := pu_geT rfl (by omega) (by omega) h19
        obtain rfl : n = i := by omega
        refine vv_aload_n C dX0_passNight_60 rfl 0 rfl ?_
        refine vv_iconst (v := (0)) C dX0_passNight_61 (by decide) ?_
        refine vv_putI C (a := d) (k := 2) inlX0 tyX0 tyX0_ok nmX0 hd0 rfl rfl (by decide) rfl rfl rfl (tm_11 (List.mem_of_getElem? (i := 12) rfl)) dX0_passNight_62 ?_
        refine vv_aload_n C dX0_passNight_65 rfl 0 rfl ?_
        refine vv_aload_n C dX0_passNight_66 rfl 0 rfl ?_
        refine vv_getI C (a := d) (k := 0) (o := 0) inlX0 hd0 rfl rfl (by decide) rfl (tm_3 (List.mem_of_getElem? (i := 2) rfl)) dX0_passNight_67 ?_
        refine vv_putI C (a := d) (k := 1) inlX0 tyX0 tyX0_ok nmX0 hd0 rfl rfl (by decide) rfl rfl rfl (tm_3 (List.mem_of_getElem? (i := 3) rfl)) dX0_passNight_70 ?_
        refine vv_aload_n C dX0_passNight_73 rfl 0 rfl ?_
        refine vv_iconst (v := (0)) C dX0_passNight_74 (by decide) ?_
        refine vv_putI C (a := d) (k := 8) inlX0 tyX0 tyX0_ok nmX0 hd0 rfl rfl (by decide) rfl rfl rfl (tm_18 (List.mem_of_getElem? (i := 15) rfl)) dX0_passNight_75 ?_
        refine vv_aload_n C dX0_passNight_78 rfl 0 rfl ?_
        refine vv_iconst (v := (0)) C dX0_passNight_79 (by decide) ?_
        refine vv_putI C (a := d) (k := 3) inlX0 tyX0 tyX0_ok nmX0 hd0 rfl rfl (by decide) rfl rfl rfl (tm_18 (List.mem_of_getElem? (i := 16) rfl)) dX0_passNight_80 ?_
        refine vv_aload_n C dX0_passNight_83 rfl 0 rfl ?_
        refine vv_iconst (v := (0)) C dX0_passNight_84 (by decide) ?_
        refine vv_putI C (a := d) (k := 4) inlX0 tyX0 tyX0_ok nmX0 hd0 rfl rfl (by decide) rfl rfl rfl (tm_15 (List.mem_of_getElem? (i := 7) rfl)) dX0_passNight_85 ?_
        refine vv_aload_n C dX0_passNight_88 rfl 0 rfl ?_
        refine vv_iconst (v := (0)) C dX0_passNight_89 (by decide) ?_
        refine vv_putZ C (a := d) (k := 7) inlX0 tyX0 tyX0_ok nmX0 hd0 rfl rfl (by decide) rfl rfl rfl rfl (tm_18 (List.mem_of_getElem? (i := 5) rfl)) dX0_passNight_90 ?_
        refine vv_iload_n C dX0_passNight_93 rfl 2 rfl ?_
        refine vv_jret C dX0_passNight_94 ?_
        refine ⟨rfl, ?_, ?_, ?_, ?_⟩
        · iterate 6 refine pu_chg_u ?_ _ _ (by simp)
          exact hc
        · simp only [vx_u_row, rd, pu_ngt]
          simp [upd]
        · simp only [vx_u_ne _ _ _ (show d + 1 ≠ d by omega)]
          exact r1
        · simp only [vx_u_ne _ _ _ (show d + 2 ≠ d by omega)]
          exact r2
      · have hlt := pu_geF rfl (by omega) (by omega) h19
        refine vv_aload_n C dX0_passNight_22 rfl 0 rfl ?_
        refine vv_gR C (a := d) (k := 10) (b := d + 2) inlX0 hd0 rfl rfl rfl (by decide) rfl (tm_3 (List.mem_of_getElem? (i := 5) rfl)) dX0_passNight_23 ?_
        refine vv_iload_n C dX0_passNight_26 rfl 3 rfl ?_
        refine vv_sipush (v := (999)) C dX0_passNight_27 (by decide) ?_
        refine vv_aload_n C dX0_passNight_30 rfl 0 rfl ?_
        refine vv_gR C (a := d) (k := 10) (b := d + 2) inlX0 hd0 rfl rfl rfl (by decide) rfl (tm_3 (List.mem_of_getElem? (i := 5) rfl)) dX0_passNight_31 ?_
        refine vv_iload_n C dX0_passNight_34 rfl 3 rfl ?_
        refine vv_ialdN C (a := d + 2) hd2 (by omega) (by decide) dX0_passNight_35 ?_
        refine vv_aload_n C dX0_passNight_36 rfl 0 rfl ?_
        refine vv_gR C (a := d) (k := 12) (b := d + 4) inlX0 hd0 rfl rfl rfl (by decide) rfl (tm_3 (List.mem_of_getElem? (i := 7) rfl)) dX0_passNight_37 ?_
        refine vv_iload_n C dX0_passNight_40 rfl 3 rfl ?_
        refine vv_ialdN C (a := d + 4) hd4 (by omega) (by decide) dX0_passNight_41 ?_
        refine vv_iadd C dX0_passNight_42 ?_
        refine vv_mmin C (tm_21 (List.mem_of_getElem? (i := 1) rfl)) (tm_7 (List.mem_of_getElem? (i := 15) rfl)) (tm_7 (List.mem_of_getElem? (i := 12) rfl)) (tm_7 (List.mem_of_getElem? (i := 16) rfl)) (by decide) (Nat.le_of_ble_eq_true rfl) dX0_passNight_43 ?_
        refine vv_iastN C (a := d + 2) hd2 (by omega) (by decide) dX0_passNight_46 ?_
        refine vv_aload_n C dX0_passNight_47 rfl 0 rfl ?_
        refine vv_gR C (a := d) (k := 9) (b := d + 1) inlX0 hd0 rfl rfl rfl (by decide) rfl (tm_3 (List.mem_of_getElem? (i := 4) rfl)) dX0_passNight_48 ?_
        refine vv_iload_n C dX0_passNight_51 rfl 3 rfl ?_
        refine vv_iconst (v := (0)) C dX0_passNight_52 (by decide) ?_
        refine vv_iastN C (a := d + 1) hd1 (by omega) (by decide) dX0_passNight_53 ?_
        refine vv_iincN (L' := [_, _, _, _]) (j := 3) C dX0_passNight_54 rfl (by decide) rfl ?_
        refine vv_goto (tgt := 17) C dX0_passNight_57 (by decide) ?_
        refine vv_sub (L' := [_, _, _, _]) [1, 2, 3, 0] rfl ?_
        refine ih (i + 1) _ ⟨by omega, by omega, pu_chg_u (pu_chg_u hc _ _ (by simp)) _ _ (by simp), ?_, ?_, ?_, ?_⟩
        · rw [vx_u_ne _ _ _ (by omega), vx_u_ne _ _ _ (by omega)]; exact rd
        · rw [vx_u_row, vx_u_ne _ _ _ (by omega), r1]; exact pu_fill_s (fun _ => 0) _ i
        · rw [vx_u_ne _ _ _ (by omega), vx_u_row, r2, r4]
          have e : pu_fill (fun h => pu_mn (S.1 (d + 2) h + pu_pts (S.1 d 0 - S.1 d 1) (S.1 d 8) (S.1 (d + 1)) (S.1 (d + 4)) (S.1 (d + 5)) n h)) (S.1 (d + 2)) i i = S.1 (d + 2) i := if_neg (Nat.lt_irrefl i)
          rw [e]
          exact pu_fill_s (fun h => pu_mn (S.1 (d + 2) h + pu_pts (S.1 d 0 - S.1 d 1) (S.1 d 8) (S.1 (d + 1)) (S.1 (d + 4)) (S.1 (d + 5)) n h)) _ i
        · rw [vx_u_ne _ _ _ (by omega), vx_u_ne _ _ _ (by omega)]; exact r4
  refine vv_aload_n C dX0_passNight_0 rfl 0 rfl ?_
  refine vv_getI C (a := d) (k := 0) (o := 0) inlX0 hd0 rfl rfl (by decide) rfl (tm_3 (List.mem_of_getElem? (i := 2) rfl)) dX0_passNight_1 ?_
  refine vv_aload_n C dX0_passNight_4 rfl 0 rfl ?_
  refine vv_getI C (a := d) (k := 1) (o := 0) inlX0 hd0 rfl rfl (by decide) rfl (tm_3 (List.mem_of_getElem? (i := 3) rfl)) dX0_passNight_5 ?_
  refine vv_isub C dX0_passNight_8 ?_
  refine vv_istore_n (i := 2) (L' := [_, _, _]) C dX0_passNight_9 rfl (by decide) rfl ?_
  refine vv_aload_n C dX0_passNight_10 rfl 1 rfl ?_
  refine vv_iload_n C dX0_passNight_11 rfl 2 rfl ?_
  refine vv_cV_v C (a := d) (kk_X0_tellParts l g _ _ hd n hn8) yk_X0_tellParts (tm_21 (List.mem_of_getElem? (i := 2) rfl)) hd0 rfl rfl (by decide) rfl (Nat.le_of_ble_eq_true rfl) rfl dX0_passNight_12 (fun S12 h12 => ?_)
  obtain ⟨hc12, hp12⟩ := h12
  refine vv_iconst (v := (nI 0)) C dX0_passNight_15 (by decide) ?_
  refine vv_istore_n (i := 3) (L' := [_, _, _, _]) C dX0_passNight_16 rfl (by decide) rfl ?_
  refine vv_sub (L' := [_, _, _, _]) [2, 3, 1, 0] rfl ?_
  exact lp17 (n + 1) 0 S12 ⟨by omega, by omega, pu_chg_tr (pu_chg_rf S _) hc12 (by simp), hc12.2 _ (by simp only [List.mem_cons, List.not_mem_nil, or_false, not_or]; omega), hc12.2 _ (by simp only [List.mem_cons, List.not_mem_nil, or_false, not_or]; omega), hc12.2 _ (by simp only [List.mem_cons, List.not_mem_nil, or_false, not_or]; omega), hp12⟩
end
section
section VJ
variable {p : Program} {l : Launch} {e : Env} {R : Room} {s : State} {m : MethodId} {args : Array Value} {below : List Frame} {meth : Method} {c : Code} {Q : State → Prop} {g : vx_G} {nL pc : Nat} {L L' : List (Nat × Value)} {st : List Value} {S : vx_St} {own : String} {cc : ByteArray} {ret : Option FieldType}
theorem vv_ldcS2 (C : vx_C p s m args meth c RX2 cc nL ret g) (hd : decode cc pc = .ok (.ldc 41, 2)) (kk : vx_V p l e R s m args below meth c Q g nL (pc + 2) L (.ref (g.2.2.2.1 0) :: st) S) : vx_V p l e R s m args below meth c Q g nL pc L st S := fun ls H locs hl hP hS => va_ldcS C.1 C.2.1 C.2.2.2.1 C.2.2.2.2.2.2.2.1.2.2.2.1 hd (kk ls H locs hl hP hS)
theorem vv_ldcS4 (C : vx_C p s m args meth c RX4 cc nL ret g) (hd : decode cc pc = .ok (.ldc 120, 2)) (kk : vx_V p l e R s m args below meth c Q g nL (pc + 2) L (.ref (g.2.2.2.1 0) :: st) S) : vx_V p l e R s m args below meth c Q g nL pc L st S := fun ls H locs hl hP hS => va_ldcS C.1 C.2.1 C.2.2.2.1 C.2.2.2.2.2.2.2.1.2.2.2.2 hd (kk ls H locs hl hP hS)
theorem vv_cs (C : vx_C p s m args meth c RJ0 cc nL ret g) (hd : decode cc pc = .ok (.getstatic 38, 3)) (kk : vx_V p l e R s m args below meth c Q g nL (pc + 3) L (.int 1 :: st) S) : vx_V p l e R s m args below meth c Q g nL pc L st S := fun ls H locs hl hP hS => va_gets C.1 C.2.1 C.2.2.2.2.2.2.2.2.2 hS C.2.2.2.1 (C.2.2.2.2.1 _ (tm_6 (List.mem_of_getElem? (i := 20) rfl))) (fun _ h => h) hd (kk ls H locs hl hP hS)
theorem vv_sv (C : vx_C p s m args meth c RJ0 cc nL ret g) (hd : decode cc pc = .ok (.getfield 9, 3)) (kk : vx_V p l e R s m args below meth c Q g nL (pc + 3) L (.ref (g.2.2.2.2 0) :: st) S) : vx_V p l e R s m args below meth c Q g nL pc L (.ref (g.2.2.2.1 0) :: st) S := fun ls H locs hl hP hS => vk_getf C.1 C.2.1 (C.2.2.2.2.2.2.2.2.1.1 0 (by decide)).2.2.1 hS C.2.2.2.1 (C.2.2.2.2.1 _ (tm_6 (List.mem_of_getElem? (i := 15) rfl))) (fun _ h => h) hd (kk ls H locs hl hP hS)
theorem vv_sc (C : vx_C p s m args meth c RJ0 cc nL ret g) (hd : decode cc pc = .ok (.getfield 15, 3)) (kk : vx_V p l e R s m args below meth c Q g nL (pc + 3) L (.int 0 :: st) S) : vx_V p l e R s m args below meth c Q g nL pc L (.ref (g.2.2.2.1 0) :: st) S := fun ls H locs hl hP hS => vk_getf C.1 C.2.1 (C.2.2.2.2.2.2.2.2.1.1 0 (by decide)).2.1 hS C.2.2.2.1 (C.2.2.2.2.1 _ (tm_6 (List.mem_of_getElem? (i := 21) rfl))) (fun _ h => h) hd (kk ls H locs hl hP hS)
theorem vv_sl (C : vx_C p s m args meth c own cc nL ret g) (hd : decode cc pc = .ok (.arraylength, 1)) (kk : vx_V p l e R s m args below meth c Q g nL (pc + 1) L (.int (nI 5) :: st) S) : vx_V p l e R s m args below meth c Q g nL pc L (.ref (g.2.2.2.2 0) :: st) S := fun ls H locs hl hP hS => va_tlen (N := 5) C.1 C.2.1 (C.2.2.2.2.2.2.2.2.1.1 0 (by decide)).2.2.2 hS (by decide) hd (kk ls H locs hl hP hS)
theorem vv_sb (C : vx_C p s m args meth c own cc nL ret g) {i : Nat} (hi : i < 5) (hd : decode cc pc = .ok (.baload, 1)) (kk : vx_V p l e R s m args below meth c Q g nL (pc + 1) L (.int (([104, 99, 117, 115, 120] : List Int32).getD i 0) :: st) S) : vx_V p l e R s m args below meth c Q g nL pc L (.int (nI i) :: .ref (g.2.2.2.2 0) :: st) S := fun ls H locs hl hP hS => va_tb (N := 5) C.1 C.2.1 (C.2.2.2.2.2.2.2.2.1.1 0 (by decide)).2.2.2 hS (vp_in_nI hi (by omega)) (by rw [nI_clamp (by omega)]; rfl) hd (kk ls H locs hl hP hS)
theorem vv_ldcw (C : vx_C p s m args meth c own cc nL ret g) {index : Nat} {v : Int32} (hc : Jvm.Cond.constant own index v ∈ wsL_law) (hd : decode cc pc = .ok (.ldc_w index, 3)) (k : vx_V p l e R s m args below meth c Q g nL (pc + 3) L (.int v :: st) S) : vx_V p l e R s m args below meth c Q g nL pc L st S := fun ls H locs hl hP hS => lv_ldcw C.1 C.2.1 C.2.2.2.1 (C.2.2.2.2.1 _ hc) hd (k ls H locs hl hP hS)
theorem vv_ftret {ty : FieldType} (C : vx_C p s m args meth c own cc nL (some ty) g) {v F : Int32} (hd : decode cc pc = .ok (.ireturn, 1)) (hv : narrow ty (.int v) = .int v) (h : v = F) : vx_V p l e R s m args below meth c (MQ below (vx_Q g (vx_pf F S)) args s 0 0 (vx_A g)) g nL pc L [.int v] S := fun ls H locs hl hP hS => W.zret C.1 C.2.1 C.2.2.2.2.2.1 hv (fun t ht hW => ⟨_, S, rfl, ⟨by rw [h], rfl⟩, by rw [ht]; exact hP, hS.F ht⟩) hS.2.2 hd C.2.2.2.2.2.2.1
variable {y : MethodName} {bytes : ByteArray} {maxL n index fa fb FA FB : Nat} {retY : Option FieldType} {As rest : List Value} {F : Int32}
theorem vv_cJ (C : vx_C p s m args meth c own cc nL ret g) (hM : vx_M l g y bytes maxL retY (vx_R fa fb) (.ref (g.2.2.2.1 0) :: As) S (vx_pf F S)) (hy : vx_yV y bytes maxL retY n) (hl : Cond.methodLink own index y ∈ wsL_law) (hq : "java/lang/String" = y.cls) (hR : fa + 1 ≤ FA ∧ 8 + (maxL + 11) + fb ≤ FB) (hn : As.length = n) (hW : (rest.map fun v => v.category).sum ≤ 8) (hst : st = As.reverse ++ .ref (g.2.2.2.1 0) :: rest) (hd : decode cc pc = .ok (.invokevirtual index, 3)) (kk : vx_V p l e (vx_R FA FB) s m args below meth c Q g nL (pc + 3) L (.int F :: rest) S) : vx_V p l e (vx_R FA FB) s m args below meth c Q g nL pc L st S := fun ls H locs hl2 hP hS => vx_call (mc := 0) (va_runV (g := F0 m pc ls st) ⟨C.1, C.2.1, C.2.2.1, C.2.2.2.1, C.2.2.2.2.1⟩ hM ⟨callB_of n C.2.2.2.2.1 (vx_pay C.2.2.2.2.1 hy.1) rfl rfl rfl (C.2.2.2.2.1 _ hy.2.1) (C.2.2.2.2.1 _ hl) hy.2.2.1 hR, C.2.2.2.2.1 _ hy.2.2.2.1, C.2.2.2.2.1 _ hy.2.2.2.2⟩ ⟨vx_blind _ S, (by rw [← hq]; exact vk_recv C.2.2.2.2.2.2.2.2.1 (i := 0) (by decide) hS), fun U hU hW => ⟨rfl, vx_pre C hP hS hU hW⟩⟩ rfl hn hl2.1 hst (lv_room hW) hd ⟨Nat.zero_le _, Nat.zero_le _⟩) hl2 hS (fun v S' h => by obtain ⟨rfl, rfl⟩ := h; exact kk)
end VJ
def pu_ixL (c : Int32) : List Int32 → Nat → Int32
  | [], _ => -1
  | b :: l, k => if b = c then nI k else pu_ixL c l (k + 1)
abbrev pu_by : List Int32 := [104, 99, 117, 115, 120]
def pu_ix (c : Int32) : Int32 := if 0 ≤ c ∧ c ≤ 255 then pu_ixL c.toInt8.toInt32 pu_by 0 else -1
def pu_kind (c : Int32) : Int32 := pu_ix (c.toUInt32 % 65536).toInt32
def pu_bc (x0 : Int32) : Int32 :=
  let sh := fun (a b : Int32) => (a.toUInt32 >>> (b.toUInt32 &&& Int32.toUInt32 31)).toInt32
  let x1 := x0 - (sh x0 1 &&& 1431655765)
  let x2 := (x1 &&& 858993459) + (sh x1 2 &&& 858993459)
  let x3 := (x2 + sh x2 4) &&& 252645135
  let x4 := x3 + sh x3 8
  let x5 := x4 + sh x4 16
  x5 &&& 63
theorem yk_J0_coder_7d493 : vx_yV yJ0_coder_7d493 cJ0_coder_7d493 1 (some .byte) 0 := ⟨(tm_7 (List.mem_of_getElem? (i := 5) rfl)), (tm_6 (List.mem_of_getElem? (i := 9) rfl)), by decide +kernel, (tm_7 (List.mem_of_getElem? (i := 3) rfl)), (tm_7 (List.mem_of_getElem? (i := 4) rfl))⟩
theorem yk_J0_isLatin1_aae02 : vx_yV yJ0_isLatin1_aae02 cJ0_isLatin1_aae02 1 (some .boolean) 0 := ⟨(tm_6 (List.mem_of_getElem? (i := 19) rfl)), (tm_6 (List.mem_of_getElem? (i := 9) rfl)), by decide +kernel, (tm_6 (List.mem_of_getElem? (i := 17) rfl)), (tm_6 (List.mem_of_getElem? (i := 18) rfl))⟩
theorem yk_J0_length_8abf5 : vx_yV yJ0_length_8abf5 cJ0_length_8abf5 1 (some .int) 0 := ⟨(tm_7 (List.mem_of_getElem? (i := 1) rfl)), (tm_6 (List.mem_of_getElem? (i := 9) rfl)), by decide +kernel, (tm_6 (List.mem_of_getElem? (i := 23) rfl)), (tm_7 (List.mem_of_getElem? (i := 0) rfl))⟩
theorem yk_J1_canEncode_9a6ad : vx_yS yJ1_canEncode_9a6ad cJ1_canEncode_9a6ad 1 (some .boolean) 1 := ⟨(tm_7 (List.mem_of_getElem? (i := 19) rfl)), (tm_7 (List.mem_of_getElem? (i := 8) rfl)), by decide +kernel, (tm_7 (List.mem_of_getElem? (i := 18) rfl))⟩
theorem yk_J1_indexOfChar_4cfef : vx_yS yJ1_indexOfChar_4cfef cJ1_indexOfChar_4cfef 6 (some .int) 4 := ⟨(tm_7 (List.mem_of_getElem? (i := 22) rfl)), (tm_7 (List.mem_of_getElem? (i := 8) rfl)), by decide +kernel, (tm_7 (List.mem_of_getElem? (i := 21) rfl))⟩
theorem yk_J1_indexOf_4cfef : vx_yS yJ1_indexOf_4cfef cJ1_indexOf_4cfef 4 (some .int) 4 := ⟨(tm_7 (List.mem_of_getElem? (i := 9) rfl)), (tm_7 (List.mem_of_getElem? (i := 8) rfl)), by decide +kernel, (tm_7 (List.mem_of_getElem? (i := 7) rfl))⟩
theorem yk_J0_indexOf_7cf53 : vx_yV yJ0_indexOf_7cf53 cJ0_indexOf_7cf53 3 (some .int) 2 := ⟨(tm_6 (List.mem_of_getElem? (i := 14) rfl)), (tm_6 (List.mem_of_getElem? (i := 9) rfl)), by decide +kernel, (tm_6 (List.mem_of_getElem? (i := 12) rfl)), (tm_6 (List.mem_of_getElem? (i := 13) rfl))⟩
theorem yk_J0_indexOf_0f7a4 : vx_yV yJ0_indexOf_0f7a4 cJ0_indexOf_0f7a4 2 (some .int) 1 := ⟨(tm_6 (List.mem_of_getElem? (i := 10) rfl)), (tm_6 (List.mem_of_getElem? (i := 9) rfl)), by decide +kernel, (tm_6 (List.mem_of_getElem? (i := 7) rfl)), (tm_6 (List.mem_of_getElem? (i := 8) rfl))⟩
theorem yk_J6_bitCount_0f7a4 : vx_yS yJ6_bitCount_0f7a4 cJ6_bitCount_0f7a4 1 (some .int) 1 := ⟨(tm_22 (List.mem_of_getElem? (i := 5) rfl)), (tm_22 (List.mem_of_getElem? (i := 4) rfl)), by decide +kernel, (tm_22 (List.mem_of_getElem? (i := 3) rfl))⟩
set_option maxHeartbeats 4000000 in
set_option maxRecDepth 100000 in
theorem kk_J0_coder_7d493 (l : Launch) (g : vx_G) (S : vx_St)  : vx_M l g yJ0_coder_7d493 cJ0_coder_7d493 1 (some .byte) (vx_R 0 0) [.ref (g.2.2.2.1 0)] S (vx_pf (0) S) := by
  refine vx_M.intro (by decide) (Nat.le_of_ble_eq_true rfl) ?_
  intro p e s m args below meth c C
  refine vv_cs C dJ0_coder_7d493_0 ?_
  refine vv_if_eq (tgt := 13) C dJ0_coder_7d493_3 (by decide) (fun h => absurd h (by decide)) (fun _ => ?_)
  refine vv_aload_n C dJ0_coder_7d493_6 rfl 0 rfl ?_
  refine vv_sc C dJ0_coder_7d493_7 ?_
  refine vv_goto (tgt := 14) C dJ0_coder_7d493_10 (by decide) ?_
  exact vv_ftret C dJ0_coder_7d493_14 rfl rfl
set_option maxHeartbeats 4000000 in
set_option maxRecDepth 100000 in
theorem kk_J0_isLatin1_aae02 (l : Launch) (g : vx_G) (S : vx_St)  : vx_M l g yJ0_isLatin1_aae02 cJ0_isLatin1_aae02 1 (some .boolean) (vx_R 0 0) [.ref (g.2.2.2.1 0)] S (vx_pf (1) S) := by
  refine vx_M.intro (by decide) (Nat.le_of_ble_eq_true rfl) ?_
  intro p e s m args below meth c C
  refine vv_cs C dJ0_isLatin1_aae02_0 ?_
  refine vv_if_eq (tgt := 17) C dJ0_isLatin1_aae02_3 (by decide) (fun h => absurd h (by decide)) (fun _ => ?_)
  refine vv_aload_n C dJ0_isLatin1_aae02_6 rfl 0 rfl ?_
  refine vv_sc C dJ0_isLatin1_aae02_7 ?_
  refine vv_if_ne (tgt := 17) C dJ0_isLatin1_aae02_10 (by decide) (fun h => absurd rfl h) (fun _ => ?_)
  refine vv_iconst (v := 1) C dJ0_isLatin1_aae02_13 (by decide) ?_
  refine vv_goto (tgt := 18) C dJ0_isLatin1_aae02_14 (by decide) ?_
  exact vv_fzret C dJ0_isLatin1_aae02_18 rfl rfl
set_option maxHeartbeats 4000000 in
set_option maxRecDepth 100000 in
theorem kk_J0_length_8abf5 (l : Launch) (g : vx_G) (S : vx_St)  : vx_M l g yJ0_length_8abf5 cJ0_length_8abf5 1 (some .int) (vx_R 1 20) [.ref (g.2.2.2.1 0)] S (vx_pf (nI 5) S) := by
  refine vx_M.intro (by decide) (Nat.le_of_ble_eq_true rfl) ?_
  intro p e s m args below meth c C
  refine vv_aload_n C dJ0_length_8abf5_0 rfl 0 rfl ?_
  refine vv_sv C dJ0_length_8abf5_1 ?_
  refine vv_sl C dJ0_length_8abf5_4 ?_
  refine vv_aload_n C dJ0_length_8abf5_5 rfl 0 rfl ?_
  refine vv_cJ C (kk_J0_coder_7d493 l g S) yk_J0_coder_7d493 (tm_7 (List.mem_of_getElem? (i := 2) rfl)) rfl (by decide) rfl (Nat.le_of_ble_eq_true rfl) rfl dJ0_length_8abf5_6 ?_
  refine vv_ishr C dJ0_length_8abf5_9 ?_
  exact vv_fret C dJ0_length_8abf5_10 (by decide)
set_option maxHeartbeats 4000000 in
set_option maxRecDepth 100000 in
theorem kk_J1_canEncode_9a6ad (l : Launch) (g : vx_G) (S : vx_St) (x : Int32) : vx_M l g yJ1_canEncode_9a6ad cJ1_canEncode_9a6ad 1 (some .boolean) (vx_R 0 0) [.int x] S (vx_pf (vx_i (decide (0 ≤ x) && decide (x ≤ 255))) S) := by
  refine vx_M.intro (by decide) (Nat.le_of_ble_eq_true rfl) ?_
  intro p e s m args below meth c C
  refine vv_iload_n C dJ1_canEncode_9a6ad_0 rfl 0 rfl ?_
  refine vv_if_lt (tgt := 15) C dJ1_canEncode_9a6ad_1 (by decide) (fun h1 => ?_) (fun h1 => ?_)
  · have g1 := pu_lt h1
    refine vv_iconst (v := 0) C dJ1_canEncode_9a6ad_15 (by decide) ?_
    exact vv_fzret C dJ1_canEncode_9a6ad_16 rfl (by simp [vx_i, g1])
  · have g1 := pu_nlt h1
    refine vv_iload_n C dJ1_canEncode_9a6ad_4 rfl 0 rfl ?_
    refine vv_sipush (v := 255) C dJ1_canEncode_9a6ad_5 (by decide) ?_
    refine vv_icmp_gt (tgt := 15) C dJ1_canEncode_9a6ad_8 (by decide) (fun h8 => ?_) (fun h8 => ?_)
    · have g8 := pu_lt h8
      refine vv_iconst (v := 0) C dJ1_canEncode_9a6ad_15 (by decide) ?_
      exact vv_fzret C dJ1_canEncode_9a6ad_16 rfl (by simp [vx_i, g8])
    · have g8 := pu_nlt h8
      refine vv_iconst (v := 1) C dJ1_canEncode_9a6ad_11 (by decide) ?_
      refine vv_goto (tgt := 16) C dJ1_canEncode_9a6ad_12 (by decide) ?_
      exact vv_fzret C dJ1_canEncode_9a6ad_16 rfl (by simp [vx_i, g1, g8])
theorem pu_ix_at : ∀ (c : Int32) (i : Nat), i < 5 → pu_ixL c (pu_by.drop i) i = if pu_by.getD i 0 = c then nI i else pu_ixL c (pu_by.drop (i + 1)) (i + 1) := by
  intro c i hi
  rcases (show i = 0 ∨ i = 1 ∨ i = 2 ∨ i = 3 ∨ i = 4 by omega) with rfl | rfl | rfl | rfl | rfl <;> rfl
set_option maxHeartbeats 4000000 in
set_option maxRecDepth 100000 in
theorem kk_J1_indexOfChar_4cfef (l : Launch) (g : vx_G) (S : vx_St) (x : Int32) : vx_M l g yJ1_indexOfChar_4cfef cJ1_indexOfChar_4cfef 6 (some .int) (vx_R 0 0) [.ref (g.2.2.2.2 0), .int x, .int (nI 0), .int (nI 5)] S (vx_pf (pu_ixL x.toInt8.toInt32 pu_by 0) S) := by
  refine vx_M.intro (by decide) (Nat.le_of_ble_eq_true rfl) ?_
  intro p e s m args below meth c C
  have lp : ∀ (fu i : Nat), 5 - i < fu ∧ i ≤ 5 ∧ pu_ixL x.toInt8.toInt32 pu_by 0 = pu_ixL x.toInt8.toInt32 (pu_by.drop i) i → vx_V p l e (vx_R 0 0) s m args below meth c (MQ below (vx_Q g (vx_pf (pu_ixL x.toInt8.toInt32 pu_by 0) S)) args s 0 0 (vx_A g)) g 6 7 [(0, .ref (g.2.2.2.2 0)), (3, .int (nI 5)), (4, .int x.toInt8.toInt32), (5, .int (nI i))] [] S := by
    intro fu
    induction fu with
    | zero => intro i h; exact absurd h.1 (by omega)
    | succ fu ih =>
      intro i h
      obtain ⟨h1, h2, h3⟩ := h
      refine vv_iload C dJ1_indexOfChar_4cfef_7 3 rfl ?_
      refine vv_iload_n C dJ1_indexOfChar_4cfef_9 rfl 1 rfl ?_
      refine vv_icmp_ge (tgt := 31) C dJ1_indexOfChar_4cfef_10 (by decide) (fun h10 => ?_) (fun h10 => ?_)
      · have hge := pu_geT rfl (by omega) (by omega) h10
        obtain rfl : 5 = i := by omega
        refine vv_iconst (v := -1) C dJ1_indexOfChar_4cfef_31 (by decide) ?_
        exact vv_fret C dJ1_indexOfChar_4cfef_32 (by rw [h3]; rfl)
      · have hlt := pu_geF rfl (by omega) (by omega) h10
        rw [pu_ix_at _ _ hlt] at h3
        refine vv_aload_n C dJ1_indexOfChar_4cfef_13 rfl 0 rfl ?_
        refine vv_iload C dJ1_indexOfChar_4cfef_14 3 rfl ?_
        refine vv_sb C hlt dJ1_indexOfChar_4cfef_16 ?_
        refine vv_iload C dJ1_indexOfChar_4cfef_17 2 rfl ?_
        refine vv_icmp_ne (tgt := 25) C dJ1_indexOfChar_4cfef_19 (by decide) (fun h19 => ?_) (fun h19 => ?_)
        · rw [if_neg h19] at h3
          refine vv_iincN (L' := [_, _, _, _]) (j := 3) C dJ1_indexOfChar_4cfef_25 rfl (by decide) rfl ?_
          refine vv_goto (tgt := 7) C dJ1_indexOfChar_4cfef_28 (by decide) ?_
          refine vv_sub (L' := [_, _, _, _]) [1, 2, 3, 0] rfl ?_
          exact ih (i + 1) ⟨by omega, by omega, h3⟩
        · rw [if_pos h19] at h3
          refine vv_iload C dJ1_indexOfChar_4cfef_22 3 rfl ?_
          exact vv_fret C dJ1_indexOfChar_4cfef_24 h3.symm
  refine vv_iload_n C dJ1_indexOfChar_4cfef_0 rfl 1 rfl ?_
  refine vv_i2b C dJ1_indexOfChar_4cfef_1 ?_
  refine vv_istore (L' := [_, _, _, _, _]) C dJ1_indexOfChar_4cfef_2 (by decide) rfl ?_
  refine vv_iload_n C dJ1_indexOfChar_4cfef_4 rfl 3 rfl ?_
  refine vv_istore (L' := [_, _, _, _, _, _]) C dJ1_indexOfChar_4cfef_5 (by decide) rfl ?_
  refine vv_sub (L' := [_, _, _, _]) [2, 5, 1, 0] rfl ?_
  exact lp 6 0 ⟨by omega, by omega, rfl⟩
set_option maxHeartbeats 4000000 in
set_option maxRecDepth 100000 in
theorem kk_J1_indexOf_4cfef (l : Launch) (g : vx_G) (S : vx_St) (x : Int32) : vx_M l g yJ1_indexOf_4cfef cJ1_indexOf_4cfef 4 (some .int) (vx_R 1 25) [.ref (g.2.2.2.2 0), .int x, .int (nI 0), .int (nI 5)] S (vx_pf (pu_ix x) S) := by
  refine vx_M.intro (by decide) (Nat.le_of_ble_eq_true rfl) ?_
  intro p e s m args below meth c C
  refine vv_iload_n C dJ1_indexOf_4cfef_0 rfl 1 rfl ?_
  refine vv_cS_F C (kk_J1_canEncode_9a6ad l g S x) yk_J1_canEncode_9a6ad (tm_7 (List.mem_of_getElem? (i := 17) rfl)) (by decide) rfl (Nat.le_of_ble_eq_true rfl) rfl dJ1_indexOf_4cfef_1 ?_
  refine vv_ifb_ne (tgt := 9) C dJ1_indexOf_4cfef_4 (by decide) (fun h4 => ?_) (fun h4 => ?_)
  · simp only [Bool.and_eq_true, decide_eq_true_eq] at h4
    refine vv_iload_n C dJ1_indexOf_4cfef_9 rfl 2 rfl ?_
    refine vv_iconst (v := nI 0) C dJ1_indexOf_4cfef_10 (by decide) ?_
    refine vv_mmax C (tm_7 (List.mem_of_getElem? (i := 10) rfl)) (tm_7 (List.mem_of_getElem? (i := 11) rfl)) (tm_7 (List.mem_of_getElem? (i := 12) rfl)) (tm_7 (List.mem_of_getElem? (i := 13) rfl)) (by decide) (Nat.le_of_ble_eq_true rfl) dJ1_indexOf_4cfef_11 ?_
    rw [show (if nI 0 < nI 0 then nI 0 else nI 0) = nI 0 from by decide]
    refine vv_istore_n (i := 2) (L' := [_, _, _, _]) C dJ1_indexOf_4cfef_14 rfl (by decide) rfl ?_
    refine vv_iload_n C dJ1_indexOf_4cfef_15 rfl 3 rfl ?_
    refine vv_aload_n C dJ1_indexOf_4cfef_16 rfl 1 rfl ?_
    refine vv_sl C dJ1_indexOf_4cfef_17 ?_
    refine vv_mmin C (tm_7 (List.mem_of_getElem? (i := 14) rfl)) (tm_7 (List.mem_of_getElem? (i := 15) rfl)) (tm_7 (List.mem_of_getElem? (i := 12) rfl)) (tm_7 (List.mem_of_getElem? (i := 16) rfl)) (by decide) (Nat.le_of_ble_eq_true rfl) dJ1_indexOf_4cfef_18 ?_
    rw [show (if nI 5 < nI 5 then nI 5 else nI 5) = nI 5 from by decide]
    refine vv_istore_n (i := 3) (L' := [_, _, _, _]) C dJ1_indexOf_4cfef_21 rfl (by decide) rfl ?_
    refine vv_iload_n C dJ1_indexOf_4cfef_22 rfl 1 rfl ?_
    refine vv_iload_n C dJ1_indexOf_4cfef_23 rfl 0 rfl ?_
    refine vv_icmp_lt (tgt := 29) C dJ1_indexOf_4cfef_24 (by decide) (fun _ => ?_) (fun h => absurd (by decide) h)
    refine vv_aload_n C dJ1_indexOf_4cfef_29 rfl 2 rfl ?_
    refine vv_iload_n C dJ1_indexOf_4cfef_30 rfl 3 rfl ?_
    refine vv_iload_n C dJ1_indexOf_4cfef_31 rfl 1 rfl ?_
    refine vv_iload_n C dJ1_indexOf_4cfef_32 rfl 0 rfl ?_
    refine vv_cS_F C (kk_J1_indexOfChar_4cfef l g S x) yk_J1_indexOfChar_4cfef (tm_7 (List.mem_of_getElem? (i := 20) rfl)) (by decide) rfl (Nat.le_of_ble_eq_true rfl) rfl dJ1_indexOf_4cfef_33 ?_
    exact vv_fret C dJ1_indexOf_4cfef_36 (by rw [pu_ix, if_pos h4])
  · refine vv_iconst (v := -1) C dJ1_indexOf_4cfef_7 (by decide) ?_
    exact vv_fret C dJ1_indexOf_4cfef_8 (by rw [pu_ix, if_neg (by simpa using h4)])
set_option maxHeartbeats 4000000 in
set_option maxRecDepth 100000 in
theorem kk_J0_indexOf_7cf53 (l : Launch) (g : vx_G) (S : vx_St) (x : Int32) : vx_M l g yJ0_indexOf_7cf53 cJ0_indexOf_7cf53 3 (some .int) (vx_R 2 48) [.ref (g.2.2.2.1 0), .int x, .int (nI 0)] S (vx_pf (pu_ix x) S) := by
  refine vx_M.intro (by decide) (Nat.le_of_ble_eq_true rfl) ?_
  intro p e s m args below meth c C
  refine vv_aload_n C dJ0_indexOf_7cf53_0 rfl 0 rfl ?_
  refine vv_cJ C (kk_J0_isLatin1_aae02 l g S) yk_J0_isLatin1_aae02 (tm_6 (List.mem_of_getElem? (i := 16) rfl)) rfl (by decide) rfl (Nat.le_of_ble_eq_true rfl) rfl dJ0_indexOf_7cf53_1 ?_
  refine vv_if_eq (tgt := 23) C dJ0_indexOf_7cf53_4 (by decide) (fun h => absurd h (by decide)) (fun _ => ?_)
  refine vv_aload_n C dJ0_indexOf_7cf53_7 rfl 0 rfl ?_
  refine vv_sv C dJ0_indexOf_7cf53_8 ?_
  refine vv_iload_n C dJ0_indexOf_7cf53_11 rfl 1 rfl ?_
  refine vv_iload_n C dJ0_indexOf_7cf53_12 rfl 2 rfl ?_
  refine vv_aload_n C dJ0_indexOf_7cf53_13 rfl 0 rfl ?_
  refine vv_cJ C (kk_J0_length_8abf5 l g S) yk_J0_length_8abf5 (tm_6 (List.mem_of_getElem? (i := 22) rfl)) rfl (by decide) rfl (Nat.le_of_ble_eq_true rfl) rfl dJ0_indexOf_7cf53_14 ?_
  refine vv_cS_F C (kk_J1_indexOf_4cfef l g S x) yk_J1_indexOf_4cfef (tm_7 (List.mem_of_getElem? (i := 6) rfl)) (by decide) rfl (Nat.le_of_ble_eq_true rfl) rfl dJ0_indexOf_7cf53_17 ?_
  refine vv_goto (tgt := 36) C dJ0_indexOf_7cf53_20 (by decide) ?_
  exact vv_fret C dJ0_indexOf_7cf53_36 rfl
set_option maxHeartbeats 4000000 in
set_option maxRecDepth 100000 in
theorem kk_J0_indexOf_0f7a4 (l : Launch) (g : vx_G) (S : vx_St) (x : Int32) : vx_M l g yJ0_indexOf_0f7a4 cJ0_indexOf_0f7a4 2 (some .int) (vx_R 3 70) [.ref (g.2.2.2.1 0), .int x] S (vx_pf (pu_ix x) S) := by
  refine vx_M.intro (by decide) (Nat.le_of_ble_eq_true rfl) ?_
  intro p e s m args below meth c C
  refine vv_aload_n C dJ0_indexOf_0f7a4_0 rfl 0 rfl ?_
  refine vv_iload_n C dJ0_indexOf_0f7a4_1 rfl 1 rfl ?_
  refine vv_iconst (v := nI 0) C dJ0_indexOf_0f7a4_2 (by decide) ?_
  refine vv_cJ C (kk_J0_indexOf_7cf53 l g S x) yk_J0_indexOf_7cf53 (tm_6 (List.mem_of_getElem? (i := 11) rfl)) rfl (by decide) rfl (Nat.le_of_ble_eq_true rfl) rfl dJ0_indexOf_0f7a4_3 ?_
  exact vv_fret C dJ0_indexOf_0f7a4_6 rfl
set_option maxHeartbeats 4000000 in
set_option maxRecDepth 100000 in
theorem kk_J6_bitCount_0f7a4 (l : Launch) (g : vx_G) (S : vx_St) (x : Int32) : vx_M l g yJ6_bitCount_0f7a4 cJ6_bitCount_0f7a4 1 (some .int) (vx_R 0 0) [.int x] S (vx_pf (pu_bc x) S) := by
  refine vx_M.intro (by decide) (Nat.le_of_ble_eq_true rfl) ?_
  intro p e s m args below meth c C
  refine vv_iload_n C dJ6_bitCount_0f7a4_0 rfl 0 rfl ?_
  refine vv_iload_n C dJ6_bitCount_0f7a4_1 rfl 0 rfl ?_
  refine vv_iconst (v := 1) C dJ6_bitCount_0f7a4_2 (by decide) ?_
  refine vv_iushr C dJ6_bitCount_0f7a4_3 ?_
  refine vv_ldcw C (tm_22 (List.mem_of_getElem? (i := 6) rfl)) dJ6_bitCount_0f7a4_4 ?_
  refine vv_iand C dJ6_bitCount_0f7a4_7 ?_
  refine vv_isub C dJ6_bitCount_0f7a4_8 ?_
  refine vv_istore_n (i := 0) (L' := [_]) C dJ6_bitCount_0f7a4_9 rfl (by decide) rfl ?_
  refine vv_iload_n C dJ6_bitCount_0f7a4_10 rfl 0 rfl ?_
  refine vv_ldcw C (tm_22 (List.mem_of_getElem? (i := 7) rfl)) dJ6_bitCount_0f7a4_11 ?_
  refine vv_iand C dJ6_bitCount_0f7a4_14 ?_
  refine vv_iload_n C dJ6_bitCount_0f7a4_15 rfl 0 rfl ?_
  refine vv_iconst (v := 2) C dJ6_bitCount_0f7a4_16 (by decide) ?_
  refine vv_iushr C dJ6_bitCount_0f7a4_17 ?_
  refine vv_ldcw C (tm_22 (List.mem_of_getElem? (i := 7) rfl)) dJ6_bitCount_0f7a4_18 ?_
  refine vv_iand C dJ6_bitCount_0f7a4_21 ?_
  refine vv_iadd C dJ6_bitCount_0f7a4_22 ?_
  refine vv_istore_n (i := 0) (L' := [_]) C dJ6_bitCount_0f7a4_23 rfl (by decide) rfl ?_
  refine vv_iload_n C dJ6_bitCount_0f7a4_24 rfl 0 rfl ?_
  refine vv_iload_n C dJ6_bitCount_0f7a4_25 rfl 0 rfl ?_
  refine vv_iconst (v := 4) C dJ6_bitCount_0f7a4_26 (by decide) ?_
  refine vv_iushr C dJ6_bitCount_0f7a4_27 ?_
  refine vv_iadd C dJ6_bitCount_0f7a4_28 ?_
  refine vv_ldcw C (tm_22 (List.mem_of_getElem? (i := 8) rfl)) dJ6_bitCount_0f7a4_29 ?_
  refine vv_iand C dJ6_bitCount_0f7a4_32 ?_
  refine vv_istore_n (i := 0) (L' := [_]) C dJ6_bitCount_0f7a4_33 rfl (by decide) rfl ?_
  refine vv_iload_n C dJ6_bitCount_0f7a4_34 rfl 0 rfl ?_
  refine vv_iload_n C dJ6_bitCount_0f7a4_35 rfl 0 rfl ?_
  refine vv_bipush (v := 8) C dJ6_bitCount_0f7a4_36 (by decide) ?_
  refine vv_iushr C dJ6_bitCount_0f7a4_38 ?_
  refine vv_iadd C dJ6_bitCount_0f7a4_39 ?_
  refine vv_istore_n (i := 0) (L' := [_]) C dJ6_bitCount_0f7a4_40 rfl (by decide) rfl ?_
  refine vv_iload_n C dJ6_bitCount_0f7a4_41 rfl 0 rfl ?_
  refine vv_iload_n C dJ6_bitCount_0f7a4_42 rfl 0 rfl ?_
  refine vv_bipush (v := 16) C dJ6_bitCount_0f7a4_43 (by decide) ?_
  refine vv_iushr C dJ6_bitCount_0f7a4_45 ?_
  refine vv_iadd C dJ6_bitCount_0f7a4_46 ?_
  refine vv_istore_n (i := 0) (L' := [_]) C dJ6_bitCount_0f7a4_47 rfl (by decide) rfl ?_
  refine vv_iload_n C dJ6_bitCount_0f7a4_48 rfl 0 rfl ?_
  refine vv_bipush (v := 63) C dJ6_bitCount_0f7a4_49 (by decide) ?_
  refine vv_iand C dJ6_bitCount_0f7a4_51 ?_
  exact vv_fret C dJ6_bitCount_0f7a4_52 rfl
end
section
/-! ===== the page ===== -/
def pu_code (w : Int64) (p : Int32) : Int32 := (w.toUInt64 >>> (((8 : Int32) * p).toInt64.toUInt64 &&& Int64.toUInt64 63)).toInt64.toInt32 &&& 255
/-- of the codes c: how many of the first i are letters; has a 0 been; are all as told -/
def pu_many (c : Nat → Int32) : Nat → Nat
  | 0 => 0
  | i + 1 => if c i = 0 then pu_many c i else pu_many c i + 1
def pu_end (c : Nat → Int32) : Nat → Bool
  | 0 => false
  | i + 1 => if c i = 0 then true else pu_end c i
def pu_okl (c : Nat → Int32) : Nat → Bool
  | 0 => true
  | i + 1 => pu_okl c i && !(decide (126 < c i) || (pu_end c i && decide (¬ c i = 0)))
theorem pu_many_le (c : Nat → Int32) : ∀ i, pu_many c i ≤ i
  | 0 => Nat.le_refl 0
  | i + 1 => by
    have := pu_many_le c i
    simp only [pu_many]
    split <;> omega
theorem pu_many_z {c : Nat → Int32} {i : Nat} (h : c i = 0) : pu_many c (i + 1) = pu_many c i := by simp only [pu_many, h, if_true]
theorem pu_many_n {c : Nat → Int32} {i : Nat} (h : ¬ c i = 0) : pu_many c (i + 1) = pu_many c i + 1 := by simp only [pu_many, h, if_false]
theorem pu_end_z {c : Nat → Int32} {i : Nat} (h : c i = 0) : pu_end c (i + 1) = true := by simp only [pu_end, h, if_true]
theorem pu_end_n {c : Nat → Int32} {i : Nat} (h : ¬ c i = 0) : pu_end c (i + 1) = pu_end c i := by simp only [pu_end, h, if_false]
theorem pu_okl_no {c : Nat → Int32} {i : Nat} (h : pu_okl c (i + 1) = false) : ∀ n, i < n → pu_okl c n = false
  | 0, hn => absurd hn (Nat.not_lt_zero i)
  | n + 1, hn => by
    rcases Nat.lt_or_ge i n with q | q
    · simp [pu_okl, pu_okl_no h n q]
    · have e : i = n := by omega
      subst e
      exact h
def pu_app (f c : Nat → Int32) (z k : Nat) : Nat → Int32 := fun j => if z ≤ j ∧ j < z + k then c (j - z) else f j
theorem pu_app_0 (f c : Nat → Int32) (z : Nat) : pu_app f c z 0 = f := by
  funext j
  simp only [pu_app]
  rw [if_neg (by omega)]
theorem pu_app_s (f c : Nat → Int32) (z k : Nat) : upd (pu_app f c z k) (z + k) (c k) = pu_app f c z (k + 1) := by
  funext j
  simp only [upd, pu_app]
  by_cases h : j = z + k
  · subst h
    rw [if_pos rfl, if_pos (by omega), show z + k - z = k by omega]
  · rw [if_neg h]
    by_cases h2 : z ≤ j ∧ j < z + k
    · rw [if_pos h2, if_pos (by omega)]
    · rw [if_neg h2, if_neg (by omega)]
/-- the first place below s where p fails; s, if there is none -/
def pu_fst (p : Nat → Bool) : Nat → Nat
  | 0 => 0
  | s + 1 => if pu_fst p s < s then pu_fst p s else if p s = true then s + 1 else s
theorem pu_fst_all {p : Nat → Bool} : ∀ s, (∀ j, j < s → p j = true) → pu_fst p s = s
  | 0, _ => rfl
  | s + 1, h => by
    have e := pu_fst_all s (fun j hj => h j (by omega))
    simp only [pu_fst, e, Nat.lt_irrefl, if_false, h s (by omega), if_true]
theorem pu_fst_at {p : Nat → Bool} {i : Nat} (h : ∀ j, j < i → p j = true) (hi : p i = false) : ∀ s, i < s → pu_fst p s = i
  | 0, hs => absurd hs (Nat.not_lt_zero i)
  | s + 1, hs => by
    rcases Nat.lt_or_ge i s with q | q
    · simp only [pu_fst, pu_fst_at h hi s q, q, if_true]
    · have e : i = s := by omega
      subst e
      simp [pu_fst, pu_fst_all i h, hi]
def pu_dig (c lo hi : Int32) : Bool := decide (48 + lo ≤ c) && decide (c ≤ 48 + hi)
def pu_fits (cd : Nat → Int32) (n : Int32) (i : Nat) : Bool :=
  if i = 0 then decide (0 ≤ pu_kind (cd 0))
  else if i = 1 then decide (cd 1 = 45) || pu_dig (cd 1) 0 (n - 1)
  else if i = 2 then pu_dig (cd 2) 0 8
  else if i = 3 then pu_dig (cd 3) (cd 2 - 48 + 1) 9
  else if i = 4 then pu_dig (cd 4) 1 9
  else if i = 5 then pu_dig (cd 5) 0 9
  else false
/-! ===== is it a house's number; which number is asked ===== -/
def pu_hq (h x : Int32) : Bool := decide (0 ≤ h) && decide (h < x)
theorem pu_hq_k {h x : Int32} {n : Nat} (hx : x = nI n) (hn : n ≤ 1000) (q : pu_hq h x = true) : ∃ k : Nat, k < n ∧ h = nI k := by
  simp only [pu_hq, Bool.and_eq_true, decide_eq_true_eq] at q
  obtain ⟨j, hj, rfl⟩ := nI_of (x := h) (by intro z; exact absurd q.1 (pu_lt z))
  refine ⟨j, ?_, rfl⟩
  rw [hx] at q
  exact (nI_ltI hj (by omega)).mp q.2
theorem pu_sw (x : Int32) (m : Nat) (hm : m ≤ 1000) : (∃ k : Nat, k < m ∧ x = nI k) ∨ (x.toInt < 0 ∨ (m : Int) - 1 < x.toInt) := by
  rcases pk_ix x (n := m) (by omega) with h | h | ⟨j, h1, h2⟩
  · right; left
    rw [Int32.lt_iff_toInt_lt, Int32.toInt_zero] at h
    exact h
  · right; right
    rw [Int32.le_iff_toInt_le, nI_toInt (by omega)] at h
    omega
  · exact Or.inl ⟨j, h1, h2⟩
/-! ===== answers ===== -/
def aw_about (n : Int32) (hs : Nat → Nat → Int32) (tk ow : Nat → Int32) (br h w : Int32) : Int32 :=
  if pu_hq h n = false then -101
  else if w = nI 0 then hs 0 h.toNatClampNeg else if w = nI 1 then hs 1 h.toNatClampNeg else if w = nI 2 then hs 2 h.toNatClampNeg
  else if w = nI 3 then hs 3 h.toNatClampNeg else if w = nI 4 then hs 4 h.toNatClampNeg else if w = nI 5 then hs 5 h.toNatClampNeg
  else if w = nI 6 then tk h.toNatClampNeg else if w = nI 7 then ow h.toNatClampNeg
  else if w = nI 8 then vx_i (pu_in br h) else -102
def aw_as (n : Int32) (kind : Nat → Int32) (h k : Int32) : Int32 :=
  if pu_hq h n = false then -101 else if 0 ≤ k ∧ k < nI 5 then (if pu_isA kind h.toNatClampNeg k = true then h else -1) else -102
def aw_lenB (v hr : Int32) : Bool := decide (1 ≤ v) && (decide (v ≤ 99) && decide (¬ 0 < hr))
def aw_len (v hr ln : Int32) : Int32 := if 1 ≤ v ∧ v ≤ 99 then (if 0 < hr then -103 else ln) else -102
def aw_brk (br h b : Int32) : Int32 := if b = 0 then br &&& (pu_bit h ^^^ -1) else br ||| pu_bit h
def aw_cnt (n ln hg hr tb lo dn rn rd pg w : Int32) : Int32 :=
  if w = nI 0 then n else if w = nI 1 then ln else if w = nI 2 then hg else if w = nI 3 then hr else if w = nI 4 then tb else if w = nI 5 then lo
  else if w = nI 6 then vx_b01 dn else if w = nI 7 then vx_b01 rn else if w = nI 8 then rd else if w = nI 9 then pg else -102
theorem aw_ne {a b : Nat} (ha : a ≤ 1000) (hb : b ≤ 1000) (h : a ≠ b) : ¬ nI a = nI b := fun q => h ((nI_eq (by omega) (by omega)).mp q)
theorem pu_fst_le (p : Nat → Bool) : ∀ s, pu_fst p s ≤ s
  | 0 => Nat.le_refl 0
  | s + 1 => by
    have := pu_fst_le p s
    simp only [pu_fst]
    split
    · omega
    · split <;> omega
theorem vx_u_if (S : vx_St) (c k i : Nat) (x : Int32) : (vx_u S c k x).1 i = if i = c then upd (S.1 c) k x else S.1 i := by
  by_cases h : i = c
  · subst h; rw [if_pos rfl, vx_u_row]
  · rw [if_neg h, vx_u_ne S k x h]
def pu_par (c : Int32) : Int32 := if c = 45 then -1 else c - 48
/-- the way of a new house under the number n -/
def pu_newway (wy : Nat → Int32) (par : Int32) (n : Nat) : Int32 := pu_bit (nI n) ||| (if pu_hq par (nI n) = true then wy par.toNatClampNeg else 0)
def aw_hB (cd : Nat → Int32) (z : Nat) (x hr : Int32) (n : Nat) : Bool := (decide (z = 6) && decide (pu_fst (pu_fits cd x) z = z)) && (decide (¬ 0 < hr) && decide (n < 8))
def aw_hou (cd : Nat → Int32) (z : Nat) (x hr : Int32) (n : Nat) : Int32 := if (decide (z = 6) && decide (pu_fst (pu_fits cd x) z = z)) = true ∧ ¬ 0 < hr then (if n < 8 then nI n else -104) else -103
def aw_letR (c : Nat → Int32) (z : Nat) : Int32 := if pu_okl c 8 = true then (if z + pu_many c 8 ≤ 12 then nI (z + pu_many c 8) else -104) else -102
def aw_letK (c : Nat → Int32) (z : Nat) : Nat := if pu_okl c 8 = true ∧ z + pu_many c 8 ≤ 12 then pu_many c 8 else 0
def aw_want (n : Int32) (hs : Nat → Nat → Int32) (hr br wk h : Int32) : Int32 := if pu_hq h n = true then pu_W hs hr br wk h.toNatClampNeg else -101
def aw_bits (t n : Int32) : Bool := decide (0 ≤ t) && decide (t ≤ pu_all n)
def aw_goB (hr dn : Int32) : Bool := decide (hr < 9) && decide (dn = 0)
def pu_leaks (th ex : Nat → Int32) (m : Nat) : Nat → Int32
  | 0 => 0
  | n + 1 => if pu_leak th ex (nI n) m 9 = -1 then pu_leaks th ex m n else pu_leaks th ex m n ||| pu_bit (nI n)
def aw_rdB (t f n : Int32) : Bool := decide (¬ t = 0) && (aw_bits t n && (decide (1 ≤ f) && decide (f ≤ 199)))
def aw_read (t f n : Int32) (m : Nat) : Int32 := if aw_rdB t f n = true then (if m < 8 then nI (m + 1) else -104) else -102
def pu_seed (x : Int32) : Int32 := (((1103515245 : Int64) * x.toInt64 + 12345) - ((1103515245 : Int64) * x.toInt64 + 12345) / 2147483648 * 2147483648).toInt32
end
section
theorem yk_X2_codeIn : vx_yS yX2_codeIn cX2_codeIn 3 (some .int) 2 := ⟨(tm_4 (List.mem_of_getElem? (i := 21) rfl)), (tm_1 (List.mem_of_getElem? (i := 15) rfl)), by decide +kernel, (tm_4 (List.mem_of_getElem? (i := 20) rfl))⟩
set_option maxHeartbeats 4000000 in
set_option maxRecDepth 100000 in
theorem kk_X2_codeIn (l : Launch) (g : vx_G) (S : vx_St) (w : Int64) (q : Int32) : vx_M l g yX2_codeIn cX2_codeIn 3 (some .int) (vx_R 0 0) [.long w, .int q] S (vx_pf (pu_code w q) S) := by
  refine vx_M.intro (by decide) (Nat.le_of_ble_eq_true rfl) ?_
  intro p e s m args below meth c C
  refine vv_lload_n C dX2_codeIn_0 rfl 0 rfl ?_
  refine vv_bipush (v := (8)) C dX2_codeIn_1 (by decide) ?_
  refine vv_iload_n C dX2_codeIn_3 rfl 1 rfl ?_
  refine vv_imul C dX2_codeIn_4 ?_
  refine vv_lushr C dX2_codeIn_5 ?_
  refine vv_l2i C dX2_codeIn_6 ?_
  refine vv_sipush (v := (255)) C dX2_codeIn_7 (by decide) ?_
  refine vv_iand C dX2_codeIn_10 ?_
  refine vv_fret C dX2_codeIn_11 ?_
  rfl
theorem yk_X2_lettersIn : vx_yS yX2_lettersIn cX2_lettersIn 6 (some .int) 1 := ⟨(tm_4 (List.mem_of_getElem? (i := 18) rfl)), (tm_1 (List.mem_of_getElem? (i := 15) rfl)), by decide +kernel, (tm_4 (List.mem_of_getElem? (i := 17) rfl))⟩
set_option maxHeartbeats 4000000 in
set_option maxRecDepth 100000 in
theorem kk_X2_lettersIn (l : Launch) (g : vx_G) (S : vx_St) (w : Int64) : vx_M l g yX2_lettersIn cX2_lettersIn 6 (some .int) (vx_R 1 22) [.long w] S (vx_pf (if pu_okl (fun i => pu_code w (nI i)) 8 = true then nI (pu_many (fun i => pu_code w (nI i)) 8) else -1) S) := by
  refine vx_M.intro (by decide) (Nat.le_of_ble_eq_true rfl) ?_
  intro p e s m args below meth c C
  have lp7 : ∀ (fu : Nat) (i : Nat), (8 - i < fu ∧ i ≤ 8 ∧ pu_okl (fun i => pu_code w (nI i)) i = true) → vx_V p l e (vx_R 1 22) s m args below meth c (MQ below (vx_Q g (vx_pf (if pu_okl (fun i => pu_code w (nI i)) 8 = true then nI (pu_many (fun i => pu_code w (nI i)) 8) else -1) S)) args s 0 0 (vx_A g)) g 6 7 [(0, .long w), (2, .int (nI (pu_many (fun i => pu_code w (nI i)) i))), (3, .int (vx_i (pu_end (fun i => pu_code w (nI i)) i))), (4, .int (nI i))] [] (S) := by
    intro fu
    induction fu with
    | zero =>
      intro i hfu
      exact absurd hfu.1 (by omega)
    | succ fu ih =>
      intro i hfu
      obtain ⟨hf1, hf2, hf3⟩ := hfu
      refine vv_iload C dX2_lettersIn_7 3 rfl ?_
      refine vv_bipush (v := (nI 8)) C dX2_lettersIn_9 (by decide) ?_
      refine vv_icmp_ge (tgt := 59) C dX2_lettersIn_11 (by decide) (fun h11 => ?_) (fun h11 => ?_)
      · have g11 := pu_le h11
        have hge := pu_geT rfl (by omega) (by omega) h11
        obtain rfl : 8 = i := by omega
        refine vv_iload_n C dX2_lettersIn_59 rfl 1 rfl ?_
        refine vv_fret C dX2_lettersIn_60 ?_
        rw [if_pos hf3]
      · have g11 := pu_nle h11
        have hlt := pu_geF rfl (by omega) (by omega) h11
        refine vv_lload_n C dX2_lettersIn_14 rfl 0 rfl ?_
        refine vv_iload C dX2_lettersIn_15 3 rfl ?_
        refine vv_cS_F C (kk_X2_codeIn l g _ _ _) yk_X2_codeIn (tm_4 (List.mem_of_getElem? (i := 19) rfl)) (by decide) rfl (Nat.le_of_ble_eq_true rfl) rfl dX2_lettersIn_17 ?_
        refine vv_istore (L' := [_, _, _, _, _]) C dX2_lettersIn_20 (by decide) rfl ?_
        refine vv_iload C dX2_lettersIn_22 0 rfl ?_
        refine vv_bipush (v := (126)) C dX2_lettersIn_24 (by decide) ?_
        refine vv_icmp_gt (tgt := 38) C dX2_lettersIn_26 (by decide) (fun h26 => ?_) (fun h26 => ?_)
        · have g26 := pu_lt h26
          refine vv_iconst (v := (-1)) C dX2_lettersIn_38 (by decide) ?_
          refine vv_fret C dX2_lettersIn_39 ?_
          rw [pu_okl_no (i := i) (by simp [pu_okl, h11, g11, h26, g26]) 8 (by omega)]; rfl
        · have g26 := pu_nlt h26
          refine vv_iload_n C dX2_lettersIn_29 rfl 3 rfl ?_
          refine vv_ifb_eq (tgt := 40) C dX2_lettersIn_30 (by decide) (fun h30 => ?_) (fun h30 => ?_)
          · refine vv_iload C dX2_lettersIn_40 0 rfl ?_
            refine vv_if_ne (tgt := 50) C dX2_lettersIn_42 (by decide) (fun h42 => ?_) (fun h42 => ?_)
            · refine vv_iincN (L' := [_, _, _, _, _]) (j := 2) C dX2_lettersIn_50 rfl (by decide) rfl ?_
              refine vv_iincN (L' := [_, _, _, _, _]) (j := 4) C dX2_lettersIn_53 rfl (by decide) rfl ?_
              refine vv_goto (tgt := 7) C dX2_lettersIn_56 (by decide) ?_
              refine vv_sub (L' := [_, _, _, _]) [3, 1, 4, 0] rfl ?_
              have q := ih (i + 1) ⟨by omega, by omega, by simp [pu_okl, hf3, h11, g11, h26, g26, h30, h42]⟩
              rw [pu_many_n (c := (fun i => pu_code w (nI i))) h42, pu_end_n (c := (fun i => pu_code w (nI i))) h42] at q
              exact q
            · refine vv_iconst (v := (1)) C dX2_lettersIn_45 (by decide) ?_
              refine vv_istore_n (i := 3) (L' := [_, _, _, _, _]) C dX2_lettersIn_46 rfl (by decide) rfl ?_
              refine vv_goto (tgt := 53) C dX2_lettersIn_47 (by decide) ?_
              refine vv_iincN (L' := [_, _, _, _, _]) (j := 4) C dX2_lettersIn_53 rfl (by decide) rfl ?_
              refine vv_goto (tgt := 7) C dX2_lettersIn_56 (by decide) ?_
              refine vv_sub (L' := [_, _, _, _]) [3, 4, 1, 0] rfl ?_
              have q := ih (i + 1) ⟨by omega, by omega, by simp [pu_okl, hf3, h11, g11, h26, g26, h30, h42]⟩
              rw [pu_many_z (c := (fun i => pu_code w (nI i))) h42, pu_end_z (c := (fun i => pu_code w (nI i))) h42] at q
              exact q
          · refine vv_iload C dX2_lettersIn_33 0 rfl ?_
            refine vv_if_eq (tgt := 40) C dX2_lettersIn_35 (by decide) (fun h35 => ?_) (fun h35 => ?_)
            · refine vv_iload C dX2_lettersIn_40 0 rfl ?_
              refine vv_if_ne (tgt := 50) C dX2_lettersIn_42 (by decide) (fun h42 => ?_) (fun h42 => ?_)
              · refine vv_iincN (L' := [_, _, _, _, _]) (j := 2) C dX2_lettersIn_50 rfl (by decide) rfl ?_
                refine vv_iincN (L' := [_, _, _, _, _]) (j := 4) C dX2_lettersIn_53 rfl (by decide) rfl ?_
                refine vv_goto (tgt := 7) C dX2_lettersIn_56 (by decide) ?_
                refine vv_sub (L' := [_, _, _, _]) [3, 1, 4, 0] rfl ?_
                have q := ih (i + 1) ⟨by omega, by omega, by simp [pu_okl, hf3, h11, g11, h26, g26, h30, h35, h42]⟩
                rw [pu_many_n (c := (fun i => pu_code w (nI i))) h42, pu_end_n (c := (fun i => pu_code w (nI i))) h42] at q
                exact q
              · refine vv_iconst (v := (1)) C dX2_lettersIn_45 (by decide) ?_
                refine vv_istore_n (i := 3) (L' := [_, _, _, _, _]) C dX2_lettersIn_46 rfl (by decide) rfl ?_
                refine vv_goto (tgt := 53) C dX2_lettersIn_47 (by decide) ?_
                refine vv_iincN (L' := [_, _, _, _, _]) (j := 4) C dX2_lettersIn_53 rfl (by decide) rfl ?_
                refine vv_goto (tgt := 7) C dX2_lettersIn_56 (by decide) ?_
                refine vv_sub (L' := [_, _, _, _]) [3, 4, 1, 0] rfl ?_
                have q := ih (i + 1) ⟨by omega, by omega, by simp [pu_okl, hf3, h11, g11, h26, g26, h30, h35, h42]⟩
                rw [pu_many_z (c := (fun i => pu_code w (nI i))) h42, pu_end_z (c := (fun i => pu_code w (nI i))) h42] at q
                exact q
            · refine vv_iconst (v := (-1)) C dX2_lettersIn_38 (by decide) ?_
              refine vv_fret C dX2_lettersIn_39 ?_
              rw [pu_okl_no (i := i) (by simp [pu_okl, h11, g11, h26, g26, h30, h35]) 8 (by omega)]; rfl
  refine vv_iconst (v := (nI 0)) C dX2_lettersIn_0 (by decide) ?_
  refine vv_istore_n (i := 2) (L' := [_, _]) C dX2_lettersIn_1 rfl (by decide) rfl ?_
  refine vv_iconst (v := (0)) C dX2_lettersIn_2 (by decide) ?_
  refine vv_istore_n (i := 3) (L' := [_, _, _]) C dX2_lettersIn_3 rfl (by decide) rfl ?_
  refine vv_iconst (v := (nI 0)) C dX2_lettersIn_4 (by decide) ?_
  refine vv_istore (L' := [_, _, _, _]) C dX2_lettersIn_5 (by decide) rfl ?_
  refine vv_sub (L' := [_, _, _, _]) [3, 2, 1, 0] rfl ?_
  exact lp7 9 0 ⟨by omega, by omega, rfl⟩
theorem yk_X2_append : vx_yV yX2_append cX2_append 5 none 2 := ⟨(tm_5 (List.mem_of_getElem? (i := 0) rfl)), (tm_1 (List.mem_of_getElem? (i := 15) rfl)), by decide +kernel, (tm_4 (List.mem_of_getElem? (i := 22) rfl)), (tm_4 (List.mem_of_getElem? (i := 23) rfl))⟩
set_option maxHeartbeats 4000000 in
set_option maxRecDepth 100000 in
theorem kk_X2_append (l : Launch) (g : vx_G) (S : vx_St) (w : Int64) (k : Nat) (z : Nat) (hz : S.1 1 0 = nI z) (hk : z + k ≤ 12) : vx_M l g yX2_append cX2_append 5 none (vx_R 1 22) [.ref (g.2.2.1 1), .long w, .int (nI k)] S (vx_pv (fun S' => pu_chg S S' [1, 2] ∧ S'.1 1 = upd (S.1 1) 0 (nI (z + k)) ∧ S'.1 2 = pu_app (S.1 2) (fun i => pu_code w (nI i)) z k)) := by
  refine vx_M.intro (by decide) (Nat.le_of_ble_eq_true rfl) ?_
  intro p e s m args below meth c C
  have lp3 : ∀ (fu : Nat) (i : Nat) (S1 : vx_St), (k - i < fu ∧ i ≤ k ∧ pu_chg S S1 [1, 2] ∧ S1.1 1 = upd (S.1 1) 0 (nI (z + i)) ∧ S1.1 2 = pu_app (S.1 2) (fun i => pu_code w (nI i)) z i) → vx_V p l e (vx_R 1 22) s m args below meth c (MQ below (vx_Q g (vx_pv (fun S' => pu_chg S S' [1, 2] ∧ S'.1 1 = upd (S.1 1) 0 (nI (z + k)) ∧ S'.1 2 = pu_app (S.1 2) (fun i => pu_code w (nI i)) z k))) args s 0 0 (vx_A g)) g 5 3 [(0, .ref (g.2.2.1 1)), (1, .long w), (3, .int (nI k)), (4, .int (nI i))] [] (S1) := by
    intro fu
    induction fu with
    | zero =>
      intro i S1 hfu
      exact absurd hfu.1 (by omega)
    | succ fu ih =>
      intro i S1 hfu
      obtain ⟨hf1, hf2, hc, r1, r2⟩ := hfu
      have hz1 : S1.1 1 0 = nI (z + i) := by rw [r1]; simp [upd]
      refine vv_iload C dX2_append_3 3 rfl ?_
      refine vv_iload_n C dX2_append_5 rfl 2 rfl ?_
      refine vv_icmp_ge (tgt := 49) C dX2_append_6 (by decide) (fun h6 => ?_) (fun h6 => ?_)
      · have hge := pu_geT rfl (by omega) (by omega) h6
        obtain rfl : k = i := by omega
        refine vv_nret C dX2_append_49 ?_
        exact ⟨hc, r1, r2⟩
      · have hlt := pu_geF rfl (by omega) (by omega) h6
        refine vv_aload_n C dX2_append_9 rfl 0 rfl ?_
        refine vv_getI C (a := 1) (k := 0) (o := 0) inlX2 rfl rfl rfl (by decide) rfl (tm_5 (List.mem_of_getElem? (i := 1) rfl)) dX2_append_10 ?_
        refine vv_bipush (v := (nI 12)) C dX2_append_13 (by decide) ?_
        refine vv_icmp_ge (tgt := 49) C dX2_append_15 (by decide) (fun h15 => ?_) (fun h15 => ?_)
        · rw [hz1] at h15
          exact absurd (pu_geT rfl (by omega) (by omega) h15) (by omega)
        · refine vv_aload_n C dX2_append_18 rfl 0 rfl ?_
          refine vv_gR C (a := 1) (k := 1) (b := 2) inlX2 rfl rfl rfl rfl (by decide) rfl (tm_2 (List.mem_of_getElem? (i := 12) rfl)) dX2_append_19 ?_
          refine vv_aload_n C dX2_append_22 rfl 0 rfl ?_
          refine vv_getI C (a := 1) (k := 0) (o := 0) inlX2 rfl rfl rfl (by decide) rfl (tm_5 (List.mem_of_getElem? (i := 1) rfl)) dX2_append_23 ?_
          rw [hz1]
          refine vv_lload_n C dX2_append_26 rfl 1 rfl ?_
          refine vv_iload C dX2_append_27 3 rfl ?_
          refine vv_cS_F C (kk_X2_codeIn l g _ _ _) yk_X2_codeIn (tm_4 (List.mem_of_getElem? (i := 19) rfl)) (by decide) rfl (Nat.le_of_ble_eq_true rfl) rfl dX2_append_29 ?_
          refine vv_iastN C (a := 2) rfl (show z + i < 12 by omega) (by decide) dX2_append_32 ?_
          refine vv_aload_n C dX2_append_33 rfl 0 rfl ?_
          refine vv_dup C dX2_append_34 rfl ?_
          refine vv_getI C (a := 1) (k := 0) (o := 0) inlX2 rfl rfl rfl (by decide) rfl (tm_5 (List.mem_of_getElem? (i := 1) rfl)) dX2_append_35 ?_
          refine vv_iconst (v := (1)) C dX2_append_38 (by decide) ?_
          refine vv_iadd C dX2_append_39 ?_
          refine vv_putI C (a := 1) (k := 0) inlX2 tyX2 tyX2_ok nmX2 rfl rfl rfl (by decide) rfl rfl rfl (tm_5 (List.mem_of_getElem? (i := 1) rfl)) dX2_append_40 ?_
          refine vv_iincN (L' := [_, _, _, _]) (j := 3) C dX2_append_43 rfl (by decide) rfl ?_
          refine vv_goto (tgt := 3) C dX2_append_46 (by decide) ?_
          refine vv_sub (L' := [_, _, _, _]) [1, 2, 3, 0] rfl ?_
          refine ih (i + 1) _ ⟨by omega, by omega, pu_chg_u (pu_chg_u hc _ _ (by simp)) _ _ (by simp), ?_, ?_⟩
          · rw [vx_u_row, vx_u_ne _ _ _ (by decide), hz1, r1, nI_1]; funext j; simp only [upd]; split <;> rfl
          · rw [vx_u_ne _ _ _ (by decide), vx_u_row, r2]; exact pu_app_s _ _ z i
  refine vv_iconst (v := (nI 0)) C dX2_append_0 (by decide) ?_
  refine vv_istore (L' := [_, _, _, _]) C dX2_append_1 (by decide) rfl ?_
  refine vv_sub (L' := [_, _, _, _]) [1, 2, 3, 0] rfl ?_
  exact lp3 (k + 1) 0 S ⟨by omega, by omega, pu_chg_rf S _, by funext j; simp only [upd, Nat.add_zero]; split <;> simp_all, (pu_app_0 _ _ _).symm⟩
theorem yk_X2_isDigit : vx_yS yX2_isDigit cX2_isDigit 3 (some .boolean) 3 := ⟨(tm_10 (List.mem_of_getElem? (i := 1) rfl)), (tm_1 (List.mem_of_getElem? (i := 15) rfl)), by decide +kernel, (tm_10 (List.mem_of_getElem? (i := 0) rfl))⟩
set_option maxHeartbeats 4000000 in
set_option maxRecDepth 100000 in
theorem kk_X2_isDigit (l : Launch) (g : vx_G) (S : vx_St) (q lo hi : Int32) : vx_M l g yX2_isDigit cX2_isDigit 3 (some .boolean) (vx_R 0 0) [.int q, .int lo, .int hi] S (vx_pf (vx_i (pu_dig q lo hi)) S) := by
  refine vx_M.intro (by decide) (Nat.le_of_ble_eq_true rfl) ?_
  intro p e s m args below meth c C
  refine vv_iload_n C dX2_isDigit_0 rfl 0 rfl ?_
  refine vv_bipush (v := (48)) C dX2_isDigit_1 (by decide) ?_
  refine vv_iload_n C dX2_isDigit_3 rfl 1 rfl ?_
  refine vv_iadd C dX2_isDigit_4 ?_
  refine vv_icmp_lt (tgt := 20) C dX2_isDigit_5 (by decide) (fun h5 => ?_) (fun h5 => ?_)
  · have g5 := pu_lt h5
    refine vv_iconst (v := (0)) C dX2_isDigit_20 (by decide) ?_
    refine vv_fzret C dX2_isDigit_21 rfl ?_
    simp [vx_i, pu_dig, h5, g5]
  · have g5 := pu_nlt h5
    refine vv_iload_n C dX2_isDigit_8 rfl 0 rfl ?_
    refine vv_bipush (v := (48)) C dX2_isDigit_9 (by decide) ?_
    refine vv_iload_n C dX2_isDigit_11 rfl 2 rfl ?_
    refine vv_iadd C dX2_isDigit_12 ?_
    refine vv_icmp_gt (tgt := 20) C dX2_isDigit_13 (by decide) (fun h13 => ?_) (fun h13 => ?_)
    · have g13 := pu_lt h13
      refine vv_iconst (v := (0)) C dX2_isDigit_20 (by decide) ?_
      refine vv_fzret C dX2_isDigit_21 rfl ?_
      simp [vx_i, pu_dig, h5, g5, h13, g13]
    · have g13 := pu_nlt h13
      refine vv_iconst (v := (1)) C dX2_isDigit_16 (by decide) ?_
      refine vv_goto (tgt := 21) C dX2_isDigit_17 (by decide) ?_
      refine vv_fzret C dX2_isDigit_21 rfl ?_
      simp [vx_i, pu_dig, h5, g5, h13, g13]
theorem yk_X2_digitAt : vx_yV yX2_digitAt cX2_digitAt 2 (some .int) 1 := ⟨(tm_10 (List.mem_of_getElem? (i := 5) rfl)), (tm_1 (List.mem_of_getElem? (i := 15) rfl)), by decide +kernel, (tm_10 (List.mem_of_getElem? (i := 3) rfl)), (tm_10 (List.mem_of_getElem? (i := 4) rfl))⟩
set_option maxHeartbeats 4000000 in
set_option maxRecDepth 100000 in
theorem kk_X2_digitAt (l : Launch) (g : vx_G) (S : vx_St) (i : Nat) (hi : i < 12) : vx_M l g yX2_digitAt cX2_digitAt 2 (some .int) (vx_R 0 0) [.ref (g.2.2.1 1), .int (nI i)] S (vx_pf (S.1 2 i - 48) S) := by
  refine vx_M.intro (by decide) (Nat.le_of_ble_eq_true rfl) ?_
  intro p e s m args below meth c C
  refine vv_aload_n C dX2_digitAt_0 rfl 0 rfl ?_
  refine vv_gR C (a := 1) (k := 1) (b := 2) inlX2 rfl rfl rfl rfl (by decide) rfl (tm_2 (List.mem_of_getElem? (i := 12) rfl)) dX2_digitAt_1 ?_
  refine vv_iload_n C dX2_digitAt_4 rfl 1 rfl ?_
  refine vv_ialdN C (a := 2) rfl (by omega) (by decide) dX2_digitAt_5 ?_
  refine vv_bipush (v := (48)) C dX2_digitAt_6 (by decide) ?_
  refine vv_isub C dX2_digitAt_8 ?_
  refine vv_fret C dX2_digitAt_9 ?_
  rfl
theorem yk_X2_kindOf : vx_yS yX2_kindOf cX2_kindOf 1 (some .int) 1 := ⟨(tm_6 (List.mem_of_getElem? (i := 5) rfl)), (tm_1 (List.mem_of_getElem? (i := 15) rfl)), by decide +kernel, (tm_6 (List.mem_of_getElem? (i := 4) rfl))⟩
theorem kk_X2_kindOf (l : Launch) (g : vx_G) (S : vx_St) (q : Int32) : vx_M l g yX2_kindOf cX2_kindOf 1 (some .int) (vx_R 4 91) [.int q] S (vx_pf (pu_kind q) S) := by
  refine vx_M.intro (by decide) (Nat.le_of_ble_eq_true rfl) ?_
  intro p e s m args below meth c C
  refine vv_ldcS2 C dX2_kindOf_0 ?_
  refine vv_iload_n C dX2_kindOf_2 rfl 0 rfl ?_
  refine vv_i2c C dX2_kindOf_3 ?_
  refine vv_cJ C (kk_J0_indexOf_0f7a4 l g S _) yk_J0_indexOf_0f7a4 (tm_6 (List.mem_of_getElem? (i := 6) rfl)) rfl (by decide) rfl (Nat.le_of_ble_eq_true rfl) rfl dX2_kindOf_4 ?_
  exact vv_fret C dX2_kindOf_7 rfl
theorem yk_X2_fits : vx_yV yX2_fits cX2_fits 4 (some .boolean) 2 := ⟨(tm_6 (List.mem_of_getElem? (i := 2) rfl)), (tm_1 (List.mem_of_getElem? (i := 15) rfl)), by decide +kernel, (tm_6 (List.mem_of_getElem? (i := 0) rfl)), (tm_6 (List.mem_of_getElem? (i := 1) rfl))⟩
set_option maxHeartbeats 4000000 in
set_option maxRecDepth 100000 in
theorem kk_X2_fits (l : Launch) (g : vx_G) (S : vx_St) (i : Nat) (hi : i < 12) (x : Int32) : vx_M l g yX2_fits cX2_fits 4 (some .boolean) (vx_R 5 111) [.ref (g.2.2.1 1), .int (nI i), .int x] S (vx_pf (vx_i (pu_fits (S.1 2) x i)) S) := by
  refine vx_M.intro (by decide) (Nat.le_of_ble_eq_true rfl) ?_
  intro p e s m args below meth c C
  refine vv_aload_n C dX2_fits_0 rfl 0 rfl ?_
  refine vv_gR C (a := 1) (k := 1) (b := 2) inlX2 rfl rfl rfl rfl (by decide) rfl (tm_2 (List.mem_of_getElem? (i := 12) rfl)) dX2_fits_1 ?_
  refine vv_iload_n C dX2_fits_4 rfl 1 rfl ?_
  refine vv_ialdN C (a := 2) rfl (by omega) (by decide) dX2_fits_5 ?_
  refine vv_istore_n (i := 3) (L' := [_, _, _, _]) C dX2_fits_6 rfl (by decide) rfl ?_
  refine vv_iload_n C dX2_fits_7 rfl 2 rfl ?_
  rcases (show i = 0 ∨ i = 1 ∨ i = 2 ∨ i = 3 ∨ i = 4 ∨ i = 5 ∨ 6 ≤ i by omega) with rfl | rfl | rfl | rfl | rfl | rfl | h6
  · refine vv_tableIn (tgt := 48) C dX2_fits_8 (by decide) (by decide) rfl (by decide) ?_
    refine vv_iload_n C dX2_fits_48 rfl 0 rfl ?_
    refine vv_cS_F C (kk_X2_kindOf l g _ _) yk_X2_kindOf (tm_6 (List.mem_of_getElem? (i := 3) rfl)) (by decide) rfl (Nat.le_of_ble_eq_true rfl) rfl dX2_fits_49 ?_
    refine vv_if_lt (tgt := 59) C dX2_fits_52 (by decide) (fun h52 => ?_) (fun h52 => ?_)
    · have g52 := pu_lt h52
      refine vv_iconst (v := (0)) C dX2_fits_59 (by decide) ?_
      refine vv_fzret C dX2_fits_60 rfl ?_
      simp [vx_i, pu_fits, h52, g52]
    · have g52 := pu_nlt h52
      refine vv_iconst (v := (1)) C dX2_fits_55 (by decide) ?_
      refine vv_goto (tgt := 60) C dX2_fits_56 (by decide) ?_
      refine vv_fzret C dX2_fits_60 rfl ?_
      simp [vx_i, pu_fits, h52, g52]
  · refine vv_tableIn (tgt := 61) C dX2_fits_8 (by decide) (by decide) rfl (by decide) ?_
    refine vv_iload_n C dX2_fits_61 rfl 0 rfl ?_
    refine vv_bipush (v := (45)) C dX2_fits_62 (by decide) ?_
    refine vv_icmp_eq (tgt := 78) C dX2_fits_64 (by decide) (fun h64 => ?_) (fun h64 => ?_)
    · refine vv_iconst (v := (1)) C dX2_fits_78 (by decide) ?_
      refine vv_goto (tgt := 83) C dX2_fits_79 (by decide) ?_
      refine vv_fzret C dX2_fits_83 rfl ?_
      simp [vx_i, pu_fits, h64]
    · refine vv_iload_n C dX2_fits_67 rfl 0 rfl ?_
      refine vv_iconst (v := (0)) C dX2_fits_68 (by decide) ?_
      refine vv_iload_n C dX2_fits_69 rfl 3 rfl ?_
      refine vv_iconst (v := (1)) C dX2_fits_70 (by decide) ?_
      refine vv_isub C dX2_fits_71 ?_
      refine vv_cS_F C (kk_X2_isDigit l g _ _ _ _) yk_X2_isDigit (tm_9 (List.mem_of_getElem? (i := 23) rfl)) (by decide) rfl (Nat.le_of_ble_eq_true rfl) rfl dX2_fits_72 ?_
      refine vv_ifb_eq (tgt := 82) C dX2_fits_75 (by decide) (fun h75 => ?_) (fun h75 => ?_)
      · refine vv_iconst (v := (0)) C dX2_fits_82 (by decide) ?_
        refine vv_fzret C dX2_fits_83 rfl ?_
        simp [vx_i, pu_fits, h64, h75]
      · refine vv_iconst (v := (1)) C dX2_fits_78 (by decide) ?_
        refine vv_goto (tgt := 83) C dX2_fits_79 (by decide) ?_
        refine vv_fzret C dX2_fits_83 rfl ?_
        simp [vx_i, pu_fits, h64, h75]
  · refine vv_tableIn (tgt := 84) C dX2_fits_8 (by decide) (by decide) rfl (by decide) ?_
    refine vv_iload_n C dX2_fits_84 rfl 0 rfl ?_
    refine vv_iconst (v := (0)) C dX2_fits_85 (by decide) ?_
    refine vv_bipush (v := (8)) C dX2_fits_86 (by decide) ?_
    refine vv_cS_F C (kk_X2_isDigit l g _ _ _ _) yk_X2_isDigit (tm_9 (List.mem_of_getElem? (i := 23) rfl)) (by decide) rfl (Nat.le_of_ble_eq_true rfl) rfl dX2_fits_88 ?_
    refine vv_fzret C dX2_fits_91 (vx_i_b _) ?_
    rfl
  · refine vv_tableIn (tgt := 92) C dX2_fits_8 (by decide) (by decide) rfl (by decide) ?_
    refine vv_iload_n C dX2_fits_92 rfl 0 rfl ?_
    refine vv_aload_n C dX2_fits_93 rfl 1 rfl ?_
    refine vv_iconst (v := (nI 2)) C dX2_fits_94 (by decide) ?_
    refine vv_cV_F C (a := 1) (kk_X2_digitAt l g _ _ (by omega)) yk_X2_digitAt (tm_10 (List.mem_of_getElem? (i := 2) rfl)) rfl rfl rfl (by decide) rfl (Nat.le_of_ble_eq_true rfl) rfl dX2_fits_95 ?_
    refine vv_iconst (v := (1)) C dX2_fits_98 (by decide) ?_
    refine vv_iadd C dX2_fits_99 ?_
    refine vv_bipush (v := (9)) C dX2_fits_100 (by decide) ?_
    refine vv_cS_F C (kk_X2_isDigit l g _ _ _ _) yk_X2_isDigit (tm_9 (List.mem_of_getElem? (i := 23) rfl)) (by decide) rfl (Nat.le_of_ble_eq_true rfl) rfl dX2_fits_102 ?_
    refine vv_fzret C dX2_fits_105 (vx_i_b _) ?_
    rfl
  · refine vv_tableIn (tgt := 106) C dX2_fits_8 (by decide) (by decide) rfl (by decide) ?_
    refine vv_iload_n C dX2_fits_106 rfl 0 rfl ?_
    refine vv_iconst (v := (1)) C dX2_fits_107 (by decide) ?_
    refine vv_bipush (v := (9)) C dX2_fits_108 (by decide) ?_
    refine vv_cS_F C (kk_X2_isDigit l g _ _ _ _) yk_X2_isDigit (tm_9 (List.mem_of_getElem? (i := 23) rfl)) (by decide) rfl (Nat.le_of_ble_eq_true rfl) rfl dX2_fits_110 ?_
    refine vv_fzret C dX2_fits_113 (vx_i_b _) ?_
    rfl
  · refine vv_tableIn (tgt := 114) C dX2_fits_8 (by decide) (by decide) rfl (by decide) ?_
    refine vv_iload_n C dX2_fits_114 rfl 0 rfl ?_
    refine vv_iconst (v := (0)) C dX2_fits_115 (by decide) ?_
    refine vv_bipush (v := (9)) C dX2_fits_116 (by decide) ?_
    refine vv_cS_F C (kk_X2_isDigit l g _ _ _ _) yk_X2_isDigit (tm_9 (List.mem_of_getElem? (i := 23) rfl)) (by decide) rfl (Nat.le_of_ble_eq_true rfl) rfl dX2_fits_118 ?_
    refine vv_fzret C dX2_fits_121 (vx_i_b _) ?_
    rfl
  · refine vv_tableOut (tgt := 122) C dX2_fits_8 (Or.inr (by rw [nI_toInt (by omega)]; omega)) (by decide) ?_
    refine vv_iconst (v := (0)) C dX2_fits_122 (by decide) ?_
    refine vv_fzret C dX2_fits_123 rfl ?_
    simp only [pu_fits, show ¬ i = 0 by omega, show ¬ i = 1 by omega, show ¬ i = 2 by omega, show ¬ i = 3 by omega, show ¬ i = 4 by omega, show ¬ i = 5 by omega, if_false]; rfl
theorem yk_X2_faultAt : vx_yV yX2_faultAt cX2_faultAt 3 (some .int) 1 := ⟨(tm_5 (List.mem_of_getElem? (i := 22) rfl)), (tm_1 (List.mem_of_getElem? (i := 15) rfl)), by decide +kernel, (tm_5 (List.mem_of_getElem? (i := 20) rfl)), (tm_5 (List.mem_of_getElem? (i := 21) rfl))⟩
set_option maxHeartbeats 4000000 in
set_option maxRecDepth 100000 in
theorem kk_X2_faultAt (l : Launch) (g : vx_G) (S : vx_St) (x : Int32) (z : Nat) (hz : S.1 1 0 = nI z) (hz12 : z ≤ 12) : vx_M l g yX2_faultAt cX2_faultAt 3 (some .int) (vx_R 6 134) [.ref (g.2.2.1 1), .int x] S (vx_pf (nI (pu_fst (pu_fits (S.1 2) x) z)) S) := by
  refine vx_M.intro (by decide) (Nat.le_of_ble_eq_true rfl) ?_
  intro p e s m args below meth c C
  have lp2 : ∀ (fu : Nat) (i : Nat), (z - i < fu ∧ i ≤ z ∧ ∀ j, j < i → pu_fits (S.1 2) x j = true) → vx_V p l e (vx_R 6 134) s m args below meth c (MQ below (vx_Q g (vx_pf (nI (pu_fst (pu_fits (S.1 2) x) z)) S)) args s 0 0 (vx_A g)) g 3 2 [(0, .ref (g.2.2.1 1)), (1, .int x), (2, .int (nI i))] [] (S) := by
    intro fu
    induction fu with
    | zero =>
      intro i hfu
      exact absurd hfu.1 (by omega)
    | succ fu ih =>
      intro i hfu
      obtain ⟨hf1, hf2, hf3⟩ := hfu
      refine vv_iload_n C dX2_faultAt_2 rfl 2 rfl ?_
      refine vv_aload_n C dX2_faultAt_3 rfl 0 rfl ?_
      refine vv_getI C (a := 1) (k := 0) (o := 0) inlX2 rfl rfl rfl (by decide) rfl (tm_5 (List.mem_of_getElem? (i := 1) rfl)) dX2_faultAt_4 ?_
      refine vv_icmp_ge (tgt := 27) C dX2_faultAt_7 (by decide) (fun h7 => ?_) (fun h7 => ?_)
      · have hge := pu_geT hz (by omega) (by omega) h7
        obtain rfl : z = i := by omega
        refine vv_aload_n C dX2_faultAt_27 rfl 0 rfl ?_
        refine vv_getI C (a := 1) (k := 0) (o := 0) inlX2 rfl rfl rfl (by decide) rfl (tm_5 (List.mem_of_getElem? (i := 1) rfl)) dX2_faultAt_28 ?_
        refine vv_fret C dX2_faultAt_31 ?_
        rw [pu_fst_all z hf3]; exact hz
      · have hlt := pu_geF hz (by omega) (by omega) h7
        refine vv_aload_n C dX2_faultAt_10 rfl 0 rfl ?_
        refine vv_iload_n C dX2_faultAt_11 rfl 2 rfl ?_
        refine vv_iload_n C dX2_faultAt_12 rfl 1 rfl ?_
        refine vv_cV_F C (a := 1) (kk_X2_fits l g _ _ (by omega) _) yk_X2_fits (tm_5 (List.mem_of_getElem? (i := 23) rfl)) rfl rfl rfl (by decide) rfl (Nat.le_of_ble_eq_true rfl) rfl dX2_faultAt_13 ?_
        refine vv_ifb_ne (tgt := 21) C dX2_faultAt_16 (by decide) (fun h16 => ?_) (fun h16 => ?_)
        · refine vv_iincN (L' := [_, _, _]) (j := 2) C dX2_faultAt_21 rfl (by decide) rfl ?_
          refine vv_goto (tgt := 2) C dX2_faultAt_24 (by decide) ?_
          refine vv_sub (L' := [_, _, _]) [1, 2, 0] rfl ?_
          exact ih (i + 1) ⟨by omega, by omega, fun j hj => by rcases Nat.lt_or_ge j i with q | q; exact hf3 j q; rw [show j = i by omega]; exact h16⟩
        · refine vv_iload_n C dX2_faultAt_19 rfl 2 rfl ?_
          refine vv_fret C dX2_faultAt_20 ?_
          rw [pu_fst_at hf3 h16 z hlt]
  refine vv_iconst (v := (nI 0)) C dX2_faultAt_0 (by decide) ?_
  refine vv_istore_n (i := 2) (L' := [_, _, _]) C dX2_faultAt_1 rfl (by decide) rfl ?_
  refine vv_sub (L' := [_, _, _]) [1, 2, 0] rfl ?_
  exact lp2 (z + 1) 0 ⟨by omega, by omega, fun j hj => absurd hj (Nat.not_lt_zero j)⟩
theorem yk_X2_isHouse : vx_yV yX2_isHouse cX2_isHouse 2 (some .boolean) 1 := ⟨(tm_11 (List.mem_of_getElem? (i := 7) rfl)), (tm_1 (List.mem_of_getElem? (i := 15) rfl)), by decide +kernel, (tm_11 (List.mem_of_getElem? (i := 5) rfl)), (tm_11 (List.mem_of_getElem? (i := 6) rfl))⟩
set_option maxHeartbeats 4000000 in
set_option maxRecDepth 100000 in
theorem kk_X2_isHouse (l : Launch) (g : vx_G) (S : vx_St) (x : Int32) (z : Nat) (hz : S.1 1 0 = nI z) (hz12 : z ≤ 12) : vx_M l g yX2_isHouse cX2_isHouse 2 (some .boolean) (vx_R 7 156) [.ref (g.2.2.1 1), .int x] S (vx_pf (vx_i (decide (z = 6) && decide (pu_fst (pu_fits (S.1 2) x) z = z))) S) := by
  refine vx_M.intro (by decide) (Nat.le_of_ble_eq_true rfl) ?_
  intro p e s m args below meth c C
  refine vv_aload_n C dX2_isHouse_0 rfl 0 rfl ?_
  refine vv_getI C (a := 1) (k := 0) (o := 0) inlX2 rfl rfl rfl (by decide) rfl (tm_5 (List.mem_of_getElem? (i := 1) rfl)) dX2_isHouse_1 ?_
  refine vv_bipush (v := (nI 6)) C dX2_isHouse_4 (by decide) ?_
  refine vv_icmp_ne (tgt := 25) C dX2_isHouse_6 (by decide) (fun h6 => ?_) (fun h6 => ?_)
  · rw [hz, nI_eq (by omega) (by omega)] at h6
    refine vv_iconst (v := (0)) C dX2_isHouse_25 (by decide) ?_
    refine vv_fzret C dX2_isHouse_26 rfl ?_
    simp_all [vx_i]
  · rw [hz, nI_eq (by omega) (by omega)] at h6
    refine vv_aload_n C dX2_isHouse_9 rfl 0 rfl ?_
    refine vv_iload_n C dX2_isHouse_10 rfl 1 rfl ?_
    refine vv_cV_F C (a := 1) (kk_X2_faultAt l g _ _ z hz hz12) yk_X2_faultAt (tm_11 (List.mem_of_getElem? (i := 8) rfl)) rfl rfl rfl (by decide) rfl (Nat.le_of_ble_eq_true rfl) rfl dX2_isHouse_11 ?_
    refine vv_aload_n C dX2_isHouse_14 rfl 0 rfl ?_
    refine vv_getI C (a := 1) (k := 0) (o := 0) inlX2 rfl rfl rfl (by decide) rfl (tm_5 (List.mem_of_getElem? (i := 1) rfl)) dX2_isHouse_15 ?_
    refine vv_icmp_ne (tgt := 25) C dX2_isHouse_18 (by decide) (fun h18 => ?_) (fun h18 => ?_)
    · have hb : pu_fst (pu_fits (S.1 2) x) z ≤ z := pu_fst_le _ z
      rw [hz, nI_eq (by omega) (by omega)] at h18
      refine vv_iconst (v := (0)) C dX2_isHouse_25 (by decide) ?_
      refine vv_fzret C dX2_isHouse_26 rfl ?_
      simp_all [vx_i]
    · have hb : pu_fst (pu_fits (S.1 2) x) z ≤ z := pu_fst_le _ z
      rw [hz, nI_eq (by omega) (by omega)] at h18
      refine vv_iconst (v := (1)) C dX2_isHouse_21 (by decide) ?_
      refine vv_goto (tgt := 26) C dX2_isHouse_22 (by decide) ?_
      refine vv_fzret C dX2_isHouse_26 rfl ?_
      simp_all [vx_i]
end
section
theorem yk_X1_add : vx_yV yX1_add cX1_add 3 none 1 := ⟨(tm_11 (List.mem_of_getElem? (i := 15) rfl)), (tm_1 (List.mem_of_getElem? (i := 19) rfl)), by decide +kernel, (tm_11 (List.mem_of_getElem? (i := 13) rfl)), (tm_11 (List.mem_of_getElem? (i := 14) rfl))⟩
set_option maxHeartbeats 4000000 in
set_option maxRecDepth 100000 in
theorem kk_X1_add (l : Launch) (g : vx_G) (S : vx_St) (n : Nat) (hn : S.1 3 0 = nI n) (hn8 : n < 8) : vx_M l g yX1_add cX1_add 3 none (vx_R 5 111) [.ref (g.2.2.1 3), .ref (g.2.2.1 1)] S (vx_pv (fun S' => pu_chg S S' [3, 4, 5, 6, 7, 8, 9, 10] ∧ S'.1 3 = upd (S.1 3) 0 (nI (n + 1)) ∧ S'.1 4 = upd (S.1 4) n (pu_kind (S.1 2 0)) ∧ S'.1 5 = upd (S.1 5) n (pu_par (S.1 2 1)) ∧ S'.1 6 = upd (S.1 6) n (S.1 2 2 - 48) ∧ S'.1 7 = upd (S.1 7) n (S.1 2 3 - 48) ∧ S'.1 8 = upd (S.1 8) n (S.1 2 4 - 48) ∧ S'.1 9 = upd (S.1 9) n (S.1 2 5 - 48) ∧ S'.1 10 = upd (S.1 10) n (pu_newway (S.1 10) (pu_par (S.1 2 1)) n))) := by
  refine vx_M.intro (by decide) (Nat.le_of_ble_eq_true rfl) ?_
  intro p e s m args below meth c C
  refine vv_aload_n C dX1_add_0 rfl 0 rfl ?_
  refine vv_getI C (a := 3) (k := 0) (o := 0) inlX1 rfl rfl rfl (by decide) rfl (tm_11 (List.mem_of_getElem? (i := 16) rfl)) dX1_add_1 ?_
  rw [hn]
  refine vv_istore_n (i := 2) (L' := [_, _, _]) C dX1_add_4 rfl (by decide) rfl ?_
  refine vv_aload_n C dX1_add_5 rfl 1 rfl ?_
  refine vv_gR C (a := 3) (k := 1) (b := 4) inlX1 rfl rfl rfl rfl (by decide) rfl (tm_2 (List.mem_of_getElem? (i := 16) rfl)) dX1_add_6 ?_
  refine vv_iload_n C dX1_add_9 rfl 0 rfl ?_
  refine vv_aload_n C dX1_add_10 rfl 2 rfl ?_
  refine vv_gRN C (a := 1) (k := 1) (b := 2) inlX2 rfl rfl rfl rfl (by decide) rfl (List.mem_of_getElem? (i := 2) rfl) dX1_add_11 ?_
  refine vv_iconst (v := (nI 0)) C dX1_add_14 (by decide) ?_
  refine vv_ialdN C (a := 2) rfl (by omega) (by decide) dX1_add_15 ?_
  refine vv_cSN_F C (kk_X2_kindOf l g _ _) yk_X2_kindOf (List.mem_of_getElem? (i := 37) rfl) (by decide) rfl (Nat.le_of_ble_eq_true rfl) rfl dX1_add_16 ?_
  refine vv_iastN C (a := 4) rfl (by omega) (by decide) dX1_add_19 ?_
  refine vv_aload_n C dX1_add_20 rfl 1 rfl ?_
  refine vv_gR C (a := 3) (k := 2) (b := 5) inlX1 rfl rfl rfl rfl (by decide) rfl (tm_2 (List.mem_of_getElem? (i := 17) rfl)) dX1_add_21 ?_
  refine vv_iload_n C dX1_add_24 rfl 0 rfl ?_
  refine vv_aload_n C dX1_add_25 rfl 2 rfl ?_
  refine vv_gRN C (a := 1) (k := 1) (b := 2) inlX2 rfl rfl rfl rfl (by decide) rfl (List.mem_of_getElem? (i := 2) rfl) dX1_add_26 ?_
  refine vv_iconst (v := (nI 1)) C dX1_add_29 (by decide) ?_
  refine vv_ialdN C (a := 2) rfl (by omega) (by decide) dX1_add_30 ?_
  refine vv_bipush (v := (45)) C dX1_add_31 (by decide) ?_
  refine vv_icmp_ne (tgt := 40) C dX1_add_33 (by decide) (fun h33 => ?_) (fun h33 => ?_)
  · rw [vx_u_ne _ _ _ (by decide)] at h33
    refine vv_aload_n C dX1_add_40 rfl 2 rfl ?_
    refine vv_iconst (v := (nI 1)) C dX1_add_41 (by decide) ?_
    refine vv_cVN_F C (a := 1) (kk_X2_digitAt l g _ _ (by omega)) yk_X2_digitAt (List.mem_of_getElem? (i := 38) rfl) rfl rfl rfl (by decide) rfl (Nat.le_of_ble_eq_true rfl) rfl dX1_add_42 ?_
    simp only [vx_u_if, reduceIte, Nat.reduceEqDiff]
    refine vv_iastN C (a := 5) rfl (by omega) (by decide) dX1_add_45 ?_
    refine vv_aload_n C dX1_add_46 rfl 1 rfl ?_
    refine vv_gR C (a := 3) (k := 3) (b := 6) inlX1 rfl rfl rfl rfl (by decide) rfl (tm_2 (List.mem_of_getElem? (i := 18) rfl)) dX1_add_47 ?_
    refine vv_iload_n C dX1_add_50 rfl 0 rfl ?_
    refine vv_aload_n C dX1_add_51 rfl 2 rfl ?_
    refine vv_iconst (v := (nI 2)) C dX1_add_52 (by decide) ?_
    refine vv_cVN_F C (a := 1) (kk_X2_digitAt l g _ _ (by omega)) yk_X2_digitAt (List.mem_of_getElem? (i := 38) rfl) rfl rfl rfl (by decide) rfl (Nat.le_of_ble_eq_true rfl) rfl dX1_add_53 ?_
    simp only [vx_u_if, reduceIte, Nat.reduceEqDiff]
    refine vv_iastN C (a := 6) rfl (by omega) (by decide) dX1_add_56 ?_
    refine vv_aload_n C dX1_add_57 rfl 1 rfl ?_
    refine vv_gR C (a := 3) (k := 4) (b := 7) inlX1 rfl rfl rfl rfl (by decide) rfl (tm_2 (List.mem_of_getElem? (i := 19) rfl)) dX1_add_58 ?_
    refine vv_iload_n C dX1_add_61 rfl 0 rfl ?_
    refine vv_aload_n C dX1_add_62 rfl 2 rfl ?_
    refine vv_iconst (v := (nI 3)) C dX1_add_63 (by decide) ?_
    refine vv_cVN_F C (a := 1) (kk_X2_digitAt l g _ _ (by omega)) yk_X2_digitAt (List.mem_of_getElem? (i := 38) rfl) rfl rfl rfl (by decide) rfl (Nat.le_of_ble_eq_true rfl) rfl dX1_add_64 ?_
    simp only [vx_u_if, reduceIte, Nat.reduceEqDiff]
    refine vv_iastN C (a := 7) rfl (by omega) (by decide) dX1_add_67 ?_
    refine vv_aload_n C dX1_add_68 rfl 1 rfl ?_
    refine vv_gR C (a := 3) (k := 5) (b := 8) inlX1 rfl rfl rfl rfl (by decide) rfl (tm_2 (List.mem_of_getElem? (i := 20) rfl)) dX1_add_69 ?_
    refine vv_iload_n C dX1_add_72 rfl 0 rfl ?_
    refine vv_aload_n C dX1_add_73 rfl 2 rfl ?_
    refine vv_iconst (v := (nI 4)) C dX1_add_74 (by decide) ?_
    refine vv_cVN_F C (a := 1) (kk_X2_digitAt l g _ _ (by omega)) yk_X2_digitAt (List.mem_of_getElem? (i := 38) rfl) rfl rfl rfl (by decide) rfl (Nat.le_of_ble_eq_true rfl) rfl dX1_add_75 ?_
    simp only [vx_u_if, reduceIte, Nat.reduceEqDiff]
    refine vv_iastN C (a := 8) rfl (by omega) (by decide) dX1_add_78 ?_
    refine vv_aload_n C dX1_add_79 rfl 1 rfl ?_
    refine vv_gR C (a := 3) (k := 6) (b := 9) inlX1 rfl rfl rfl rfl (by decide) rfl (tm_2 (List.mem_of_getElem? (i := 21) rfl)) dX1_add_80 ?_
    refine vv_iload_n C dX1_add_83 rfl 0 rfl ?_
    refine vv_aload_n C dX1_add_84 rfl 2 rfl ?_
    refine vv_iconst (v := (nI 5)) C dX1_add_85 (by decide) ?_
    refine vv_cVN_F C (a := 1) (kk_X2_digitAt l g _ _ (by omega)) yk_X2_digitAt (List.mem_of_getElem? (i := 38) rfl) rfl rfl rfl (by decide) rfl (Nat.le_of_ble_eq_true rfl) rfl dX1_add_86 ?_
    simp only [vx_u_if, reduceIte, Nat.reduceEqDiff]
    refine vv_iastN C (a := 9) rfl (by omega) (by decide) dX1_add_89 ?_
    refine vv_aload_n C dX1_add_90 rfl 1 rfl ?_
    refine vv_gR C (a := 3) (k := 7) (b := 10) inlX1 rfl rfl rfl rfl (by decide) rfl (tm_2 (List.mem_of_getElem? (i := 22) rfl)) dX1_add_91 ?_
    refine vv_iload_n C dX1_add_94 rfl 0 rfl ?_
    refine vv_iload_n C dX1_add_95 rfl 0 rfl ?_
    refine vv_cSN_F C (kk_X4_bit l g _ _) yk_X4_bit (List.mem_of_getElem? (i := 39) rfl) (by decide) rfl (Nat.le_of_ble_eq_true rfl) rfl dX1_add_96 ?_
    refine vv_aload_n C dX1_add_99 rfl 1 rfl ?_
    refine vv_aload_n C dX1_add_100 rfl 1 rfl ?_
    refine vv_gR C (a := 3) (k := 2) (b := 5) inlX1 rfl rfl rfl rfl (by decide) rfl (tm_2 (List.mem_of_getElem? (i := 17) rfl)) dX1_add_101 ?_
    refine vv_iload_n C dX1_add_104 rfl 0 rfl ?_
    refine vv_ialdN C (a := 5) rfl (by omega) (by decide) dX1_add_105 ?_
    refine vv_cV_F C (a := 3) (kk_X1_has l g _ _) yk_X1_has (tm_11 (List.mem_of_getElem? (i := 19) rfl)) rfl rfl rfl (by decide) rfl (Nat.le_of_ble_eq_true rfl) rfl dX1_add_106 ?_
    refine vv_ifb_eq (tgt := 126) C dX1_add_109 (by decide) (fun h109 => ?_) (fun h109 => ?_)
    · refine vv_iconst (v := (0)) C dX1_add_126 (by decide) ?_
      refine vv_ior C dX1_add_127 ?_
      refine vv_iastN C (a := 10) rfl (by omega) (by decide) dX1_add_128 ?_
      refine vv_aload_n C dX1_add_129 rfl 1 rfl ?_
      refine vv_dup C dX1_add_130 rfl ?_
      refine vv_getI C (a := 3) (k := 0) (o := 0) inlX1 rfl rfl rfl (by decide) rfl (tm_11 (List.mem_of_getElem? (i := 16) rfl)) dX1_add_131 ?_
      refine vv_iconst (v := (1)) C dX1_add_134 (by decide) ?_
      refine vv_iadd C dX1_add_135 ?_
      refine vv_putI C (a := 3) (k := 0) inlX1 tyX1 tyX1_ok nmX1 rfl rfl rfl (by decide) rfl rfl rfl (tm_11 (List.mem_of_getElem? (i := 16) rfl)) dX1_add_136 ?_
      refine vv_nret C dX1_add_139 ?_
      have hpar : pu_par (S.1 2 1) = S.1 2 1 - 48 := by simp [pu_par, h33]
      have hq : pu_hq (pu_par (S.1 2 1)) (nI n) = false := by rw [hpar]; rw [← hn]; simpa [vx_u_if, upd, pu_hq] using h109
      refine ⟨?_, ?_, ?_, ?_, ?_, ?_, ?_, ?_, ?_⟩
      · iterate 8 refine pu_chg_u ?_ _ _ (by simp)
        exact pu_chg_rf S _
      · simp [vx_u_if, hn, nI_1]
      · simp [vx_u_if]
      · simp [vx_u_if, hpar]
      · simp [vx_u_if]
      · simp [vx_u_if]
      · simp [vx_u_if]
      · simp [vx_u_if]
      · rw [pu_newway, hq, hpar]
        simp [vx_u_if, upd]
    · obtain ⟨k, hk, hpk⟩ := pu_hq_k (n := n) (by simp [vx_u_if, hn]) (by omega) h109
      refine vv_aload_n C dX1_add_112 rfl 1 rfl ?_
      refine vv_gR C (a := 3) (k := 7) (b := 10) inlX1 rfl rfl rfl rfl (by decide) rfl (tm_2 (List.mem_of_getElem? (i := 22) rfl)) dX1_add_113 ?_
      refine vv_aload_n C dX1_add_116 rfl 1 rfl ?_
      refine vv_gR C (a := 3) (k := 2) (b := 5) inlX1 rfl rfl rfl rfl (by decide) rfl (tm_2 (List.mem_of_getElem? (i := 17) rfl)) dX1_add_117 ?_
      refine vv_iload_n C dX1_add_120 rfl 0 rfl ?_
      refine vv_ialdN C (a := 5) rfl (by omega) (by decide) dX1_add_121 ?_
      refine vv_iald C (a := 10) rfl (by rw [hpk]; exact vp_in_nI (by omega) (by omega)) dX1_add_122 ?_
      refine vv_goto (tgt := 127) C dX1_add_123 (by decide) ?_
      refine vv_ior C dX1_add_127 ?_
      refine vv_iastN C (a := 10) rfl (by omega) (by decide) dX1_add_128 ?_
      refine vv_aload_n C dX1_add_129 rfl 1 rfl ?_
      refine vv_dup C dX1_add_130 rfl ?_
      refine vv_getI C (a := 3) (k := 0) (o := 0) inlX1 rfl rfl rfl (by decide) rfl (tm_11 (List.mem_of_getElem? (i := 16) rfl)) dX1_add_131 ?_
      refine vv_iconst (v := (1)) C dX1_add_134 (by decide) ?_
      refine vv_iadd C dX1_add_135 ?_
      refine vv_putI C (a := 3) (k := 0) inlX1 tyX1 tyX1_ok nmX1 rfl rfl rfl (by decide) rfl rfl rfl (tm_11 (List.mem_of_getElem? (i := 16) rfl)) dX1_add_136 ?_
      refine vv_nret C dX1_add_139 ?_
      have hpar : pu_par (S.1 2 1) = S.1 2 1 - 48 := by simp [pu_par, h33]
      have hq : pu_hq (pu_par (S.1 2 1)) (nI n) = true := by rw [hpar]; rw [← hn]; simpa [vx_u_if, upd, pu_hq] using h109
      refine ⟨?_, ?_, ?_, ?_, ?_, ?_, ?_, ?_, ?_⟩
      · iterate 8 refine pu_chg_u ?_ _ _ (by simp)
        exact pu_chg_rf S _
      · simp [vx_u_if, hn, nI_1]
      · simp [vx_u_if]
      · simp [vx_u_if, hpar]
      · simp [vx_u_if]
      · simp [vx_u_if]
      · simp [vx_u_if]
      · simp [vx_u_if]
      · rw [pu_newway, hq, hpar]
        simp [vx_u_if, upd]
  · rw [vx_u_ne _ _ _ (by decide)] at h33
    refine vv_iconst (v := (-1)) C dX1_add_36 (by decide) ?_
    refine vv_goto (tgt := 45) C dX1_add_37 (by decide) ?_
    refine vv_iastN C (a := 5) rfl (by omega) (by decide) dX1_add_45 ?_
    refine vv_aload_n C dX1_add_46 rfl 1 rfl ?_
    refine vv_gR C (a := 3) (k := 3) (b := 6) inlX1 rfl rfl rfl rfl (by decide) rfl (tm_2 (List.mem_of_getElem? (i := 18) rfl)) dX1_add_47 ?_
    refine vv_iload_n C dX1_add_50 rfl 0 rfl ?_
    refine vv_aload_n C dX1_add_51 rfl 2 rfl ?_
    refine vv_iconst (v := (nI 2)) C dX1_add_52 (by decide) ?_
    refine vv_cVN_F C (a := 1) (kk_X2_digitAt l g _ _ (by omega)) yk_X2_digitAt (List.mem_of_getElem? (i := 38) rfl) rfl rfl rfl (by decide) rfl (Nat.le_of_ble_eq_true rfl) rfl dX1_add_53 ?_
    simp only [vx_u_if, reduceIte, Nat.reduceEqDiff]
    refine vv_iastN C (a := 6) rfl (by omega) (by decide) dX1_add_56 ?_
    refine vv_aload_n C dX1_add_57 rfl 1 rfl ?_
    refine vv_gR C (a := 3) (k := 4) (b := 7) inlX1 rfl rfl rfl rfl (by decide) rfl (tm_2 (List.mem_of_getElem? (i := 19) rfl)) dX1_add_58 ?_
    refine vv_iload_n C dX1_add_61 rfl 0 rfl ?_
    refine vv_aload_n C dX1_add_62 rfl 2 rfl ?_
    refine vv_iconst (v := (nI 3)) C dX1_add_63 (by decide) ?_
    refine vv_cVN_F C (a := 1) (kk_X2_digitAt l g _ _ (by omega)) yk_X2_digitAt (List.mem_of_getElem? (i := 38) rfl) rfl rfl rfl (by decide) rfl (Nat.le_of_ble_eq_true rfl) rfl dX1_add_64 ?_
    simp only [vx_u_if, reduceIte, Nat.reduceEqDiff]
    refine vv_iastN C (a := 7) rfl (by omega) (by decide) dX1_add_67 ?_
    refine vv_aload_n C dX1_add_68 rfl 1 rfl ?_
    refine vv_gR C (a := 3) (k := 5) (b := 8) inlX1 rfl rfl rfl rfl (by decide) rfl (tm_2 (List.mem_of_getElem? (i := 20) rfl)) dX1_add_69 ?_
    refine vv_iload_n C dX1_add_72 rfl 0 rfl ?_
    refine vv_aload_n C dX1_add_73 rfl 2 rfl ?_
    refine vv_iconst (v := (nI 4)) C dX1_add_74 (by decide) ?_
    refine vv_cVN_F C (a := 1) (kk_X2_digitAt l g _ _ (by omega)) yk_X2_digitAt (List.mem_of_getElem? (i := 38) rfl) rfl rfl rfl (by decide) rfl (Nat.le_of_ble_eq_true rfl) rfl dX1_add_75 ?_
    simp only [vx_u_if, reduceIte, Nat.reduceEqDiff]
    refine vv_iastN C (a := 8) rfl (by omega) (by decide) dX1_add_78 ?_
    refine vv_aload_n C dX1_add_79 rfl 1 rfl ?_
    refine vv_gR C (a := 3) (k := 6) (b := 9) inlX1 rfl rfl rfl rfl (by decide) rfl (tm_2 (List.mem_of_getElem? (i := 21) rfl)) dX1_add_80 ?_
    refine vv_iload_n C dX1_add_83 rfl 0 rfl ?_
    refine vv_aload_n C dX1_add_84 rfl 2 rfl ?_
    refine vv_iconst (v := (nI 5)) C dX1_add_85 (by decide) ?_
    refine vv_cVN_F C (a := 1) (kk_X2_digitAt l g _ _ (by omega)) yk_X2_digitAt (List.mem_of_getElem? (i := 38) rfl) rfl rfl rfl (by decide) rfl (Nat.le_of_ble_eq_true rfl) rfl dX1_add_86 ?_
    simp only [vx_u_if, reduceIte, Nat.reduceEqDiff]
    refine vv_iastN C (a := 9) rfl (by omega) (by decide) dX1_add_89 ?_
    refine vv_aload_n C dX1_add_90 rfl 1 rfl ?_
    refine vv_gR C (a := 3) (k := 7) (b := 10) inlX1 rfl rfl rfl rfl (by decide) rfl (tm_2 (List.mem_of_getElem? (i := 22) rfl)) dX1_add_91 ?_
    refine vv_iload_n C dX1_add_94 rfl 0 rfl ?_
    refine vv_iload_n C dX1_add_95 rfl 0 rfl ?_
    refine vv_cSN_F C (kk_X4_bit l g _ _) yk_X4_bit (List.mem_of_getElem? (i := 39) rfl) (by decide) rfl (Nat.le_of_ble_eq_true rfl) rfl dX1_add_96 ?_
    refine vv_aload_n C dX1_add_99 rfl 1 rfl ?_
    refine vv_aload_n C dX1_add_100 rfl 1 rfl ?_
    refine vv_gR C (a := 3) (k := 2) (b := 5) inlX1 rfl rfl rfl rfl (by decide) rfl (tm_2 (List.mem_of_getElem? (i := 17) rfl)) dX1_add_101 ?_
    refine vv_iload_n C dX1_add_104 rfl 0 rfl ?_
    refine vv_ialdN C (a := 5) rfl (by omega) (by decide) dX1_add_105 ?_
    refine vv_cV_F C (a := 3) (kk_X1_has l g _ _) yk_X1_has (tm_11 (List.mem_of_getElem? (i := 19) rfl)) rfl rfl rfl (by decide) rfl (Nat.le_of_ble_eq_true rfl) rfl dX1_add_106 ?_
    refine vv_ifb_eq (tgt := 126) C dX1_add_109 (by decide) (fun h109 => ?_) (fun h109 => ?_)
    · refine vv_iconst (v := (0)) C dX1_add_126 (by decide) ?_
      refine vv_ior C dX1_add_127 ?_
      refine vv_iastN C (a := 10) rfl (by omega) (by decide) dX1_add_128 ?_
      refine vv_aload_n C dX1_add_129 rfl 1 rfl ?_
      refine vv_dup C dX1_add_130 rfl ?_
      refine vv_getI C (a := 3) (k := 0) (o := 0) inlX1 rfl rfl rfl (by decide) rfl (tm_11 (List.mem_of_getElem? (i := 16) rfl)) dX1_add_131 ?_
      refine vv_iconst (v := (1)) C dX1_add_134 (by decide) ?_
      refine vv_iadd C dX1_add_135 ?_
      refine vv_putI C (a := 3) (k := 0) inlX1 tyX1 tyX1_ok nmX1 rfl rfl rfl (by decide) rfl rfl rfl (tm_11 (List.mem_of_getElem? (i := 16) rfl)) dX1_add_136 ?_
      refine vv_nret C dX1_add_139 ?_
      have hpar : pu_par (S.1 2 1) = -1 := by simp [pu_par, h33]
      have hq : pu_hq (pu_par (S.1 2 1)) (nI n) = false := by rw [hpar]; rw [← hn]; simpa [vx_u_if, upd, pu_hq] using h109
      refine ⟨?_, ?_, ?_, ?_, ?_, ?_, ?_, ?_, ?_⟩
      · iterate 8 refine pu_chg_u ?_ _ _ (by simp)
        exact pu_chg_rf S _
      · simp [vx_u_if, hn, nI_1]
      · simp [vx_u_if]
      · simp [vx_u_if, hpar]
      · simp [vx_u_if]
      · simp [vx_u_if]
      · simp [vx_u_if]
      · simp [vx_u_if]
      · rw [pu_newway, hq, hpar]
        simp [vx_u_if, upd]
    · obtain ⟨k, hk, hpk⟩ := pu_hq_k (n := n) (by simp [vx_u_if, hn]) (by omega) h109
      refine vv_aload_n C dX1_add_112 rfl 1 rfl ?_
      refine vv_gR C (a := 3) (k := 7) (b := 10) inlX1 rfl rfl rfl rfl (by decide) rfl (tm_2 (List.mem_of_getElem? (i := 22) rfl)) dX1_add_113 ?_
      refine vv_aload_n C dX1_add_116 rfl 1 rfl ?_
      refine vv_gR C (a := 3) (k := 2) (b := 5) inlX1 rfl rfl rfl rfl (by decide) rfl (tm_2 (List.mem_of_getElem? (i := 17) rfl)) dX1_add_117 ?_
      refine vv_iload_n C dX1_add_120 rfl 0 rfl ?_
      refine vv_ialdN C (a := 5) rfl (by omega) (by decide) dX1_add_121 ?_
      refine vv_iald C (a := 10) rfl (by rw [hpk]; exact vp_in_nI (by omega) (by omega)) dX1_add_122 ?_
      refine vv_goto (tgt := 127) C dX1_add_123 (by decide) ?_
      refine vv_ior C dX1_add_127 ?_
      refine vv_iastN C (a := 10) rfl (by omega) (by decide) dX1_add_128 ?_
      refine vv_aload_n C dX1_add_129 rfl 1 rfl ?_
      refine vv_dup C dX1_add_130 rfl ?_
      refine vv_getI C (a := 3) (k := 0) (o := 0) inlX1 rfl rfl rfl (by decide) rfl (tm_11 (List.mem_of_getElem? (i := 16) rfl)) dX1_add_131 ?_
      refine vv_iconst (v := (1)) C dX1_add_134 (by decide) ?_
      refine vv_iadd C dX1_add_135 ?_
      refine vv_putI C (a := 3) (k := 0) inlX1 tyX1 tyX1_ok nmX1 rfl rfl rfl (by decide) rfl rfl rfl (tm_11 (List.mem_of_getElem? (i := 16) rfl)) dX1_add_136 ?_
      refine vv_nret C dX1_add_139 ?_
      have hpar : pu_par (S.1 2 1) = -1 := by simp [pu_par, h33]
      have hq : pu_hq (pu_par (S.1 2 1)) (nI n) = true := by rw [hpar]; rw [← hn]; simpa [vx_u_if, upd, pu_hq] using h109
      refine ⟨?_, ?_, ?_, ?_, ?_, ?_, ?_, ?_, ?_⟩
      · iterate 8 refine pu_chg_u ?_ _ _ (by simp)
        exact pu_chg_rf S _
      · simp [vx_u_if, hn, nI_1]
      · simp [vx_u_if]
      · simp [vx_u_if, hpar]
      · simp [vx_u_if]
      · simp [vx_u_if]
      · simp [vx_u_if]
      · simp [vx_u_if]
      · rw [pu_newway, hq, hpar]
        simp [vx_u_if, upd]
theorem yk_X4_letters : vx_yV yX4_letters cX4_letters 4 (some .int) 1 := ⟨(tm_4 (List.mem_of_getElem? (i := 16) rfl)), (tm_1 (List.mem_of_getElem? (i := 2) rfl)), by decide +kernel, (tm_4 (List.mem_of_getElem? (i := 14) rfl)), (tm_4 (List.mem_of_getElem? (i := 15) rfl))⟩
set_option maxHeartbeats 4000000 in
set_option maxRecDepth 100000 in
theorem kk_X4_letters (l : Launch) (g : vx_G) (S : vx_St) (w : Int64) (z : Nat) (hz : S.1 1 0 = nI z) (hz12 : z ≤ 12) : vx_M l g yX4_letters cX4_letters 4 (some .int) (vx_R 2 47) [.ref (g.2.2.1 0), .long w] S (vx_pi (fun r S' => r = aw_letR (fun i => pu_code w (nI i)) z ∧ pu_chg S S' [1, 2] ∧ S'.1 1 = upd (S.1 1) 0 (nI (z + aw_letK (fun i => pu_code w (nI i)) z)) ∧ S'.1 2 = pu_app (S.1 2) (fun i => pu_code w (nI i)) z (aw_letK (fun i => pu_code w (nI i)) z))) := by
  refine vx_M.intro (by decide) (Nat.le_of_ble_eq_true rfl) ?_
  intro p e s m args below meth c C
  refine vv_lload_n C dX4_letters_0 rfl 1 rfl ?_
  refine vv_cSN_F C (kk_X2_lettersIn l g _ _) yk_X2_lettersIn (List.mem_of_getElem? (i := 31) rfl) (by decide) rfl (Nat.le_of_ble_eq_true rfl) rfl dX4_letters_1 ?_
  refine vv_istore_n (i := 3) (L' := [_, _, _]) C dX4_letters_4 rfl (by decide) rfl ?_
  have hml := pu_many_le (fun i => pu_code w (nI i)) 8
  generalize hmm : pu_many (fun i => pu_code w (nI i)) 8 = mm at *
  generalize hoo : pu_okl (fun i => pu_code w (nI i)) 8 = oo at *
  refine vv_iload_n C dX4_letters_5 rfl 0 rfl ?_
  refine vv_if_ge (tgt := 12) C dX4_letters_6 (by decide) (fun h6 => ?_) (fun h6 => ?_)
  · have g6 := pu_le h6
    have ho : oo = true := by cases oo with | true => rfl | false => exact absurd h6 (by rw [if_neg (by decide)]; decide)
    subst ho
    rw [if_pos rfl]
    refine vv_aload_n C dX4_letters_12 rfl 1 rfl ?_
    refine vv_gR C (a := 0) (k := 0) (b := 1) inlX4 rfl rfl rfl rfl (by decide) rfl (tm_1 (List.mem_of_getElem? (i := 16) rfl)) dX4_letters_13 ?_
    refine vv_getIN C (a := 1) (k := 0) (o := 0) inlX2 rfl rfl rfl (by decide) rfl (List.mem_of_getElem? (i := 1) rfl) dX4_letters_16 ?_
    refine vv_iload_n C dX4_letters_19 rfl 0 rfl ?_
    refine vv_iadd C dX4_letters_20 ?_
    refine vv_bipush (v := (nI 12)) C dX4_letters_21 (by decide) ?_
    refine vv_icmp_le (tgt := 29) C dX4_letters_23 (by decide) (fun h23 => ?_) (fun h23 => ?_)
    · have g23 := pu_le h23
      rw [hz, nI_add] at h23
      have hle : z + mm ≤ 12 := pu_geT (x := nI (z + mm)) rfl (by omega) (by omega) h23
      refine vv_aload_n C dX4_letters_29 rfl 1 rfl ?_
      refine vv_gR C (a := 0) (k := 0) (b := 1) inlX4 rfl rfl rfl rfl (by decide) rfl (tm_1 (List.mem_of_getElem? (i := 16) rfl)) dX4_letters_30 ?_
      refine vv_lload_n C dX4_letters_33 rfl 2 rfl ?_
      refine vv_iload_n C dX4_letters_34 rfl 0 rfl ?_
      refine vv_cVN_v C (a := 1) (kk_X2_append l g _ _ mm z hz hle) yk_X2_append (List.mem_of_getElem? (i := 32) rfl) rfl rfl rfl (by decide) rfl (Nat.le_of_ble_eq_true rfl) rfl dX4_letters_35 (fun S35 h35 => ?_)
      obtain ⟨k1, k2, k3⟩ := h35
      refine vv_aload_n C dX4_letters_38 rfl 1 rfl ?_
      refine vv_gR C (a := 0) (k := 0) (b := 1) inlX4 rfl rfl rfl rfl (by decide) rfl (tm_1 (List.mem_of_getElem? (i := 16) rfl)) dX4_letters_39 ?_
      refine vv_getIN C (a := 1) (k := 0) (o := 0) inlX2 rfl rfl rfl (by decide) rfl (List.mem_of_getElem? (i := 1) rfl) dX4_letters_42 ?_
      refine vv_jret C dX4_letters_45 ?_
      have e : aw_letK (fun i => pu_code w (nI i)) z = mm := by simp only [aw_letK, hoo, hmm]; rw [if_pos ⟨trivial, hle⟩]
      exact ⟨by rw [k2]; simp only [aw_letR, hoo, hmm, if_true]; rw [if_pos hle]; simp [upd], k1, by rw [e]; exact k2, by rw [e]; exact k3⟩
    · have g23 := pu_nle h23
      rw [hz, nI_add] at h23
      have hgt : 12 < z + mm := pu_geF (x := nI (z + mm)) rfl (by omega) (by omega) h23
      refine vv_bipush (v := (-104)) C dX4_letters_26 (by decide) ?_
      refine vv_jret C dX4_letters_28 ?_
      have e : aw_letK (fun i => pu_code w (nI i)) z = 0 := by simp only [aw_letK, hoo, hmm]; rw [if_neg (by omega)]
      exact ⟨by simp only [aw_letR, hoo, hmm, if_true]; rw [if_neg (by omega)], pu_chg_rf S _, by rw [e, Nat.add_zero, ← hz]; funext j; simp only [upd]; split <;> simp_all, by rw [e, pu_app_0]⟩
  · have g6 := pu_nle h6
    have ho : oo = false := by cases oo with | false => rfl | true => exact absurd (nI_pos' (by omega)) h6
    subst ho
    refine vv_bipush (v := (-102)) C dX4_letters_9 (by decide) ?_
    refine vv_jret C dX4_letters_11 ?_
    have e : aw_letK (fun i => pu_code w (nI i)) z = 0 := by simp [aw_letK, hoo]
    exact ⟨by simp [aw_letR, hoo], pu_chg_rf S _, by rw [e, Nat.add_zero, ← hz]; funext j; simp only [upd]; split <;> simp_all, by rw [e, pu_app_0]⟩
theorem yk_X4_blank : vx_yV yX4_blank cX4_blank 2 (some .int) 0 := ⟨(tm_5 (List.mem_of_getElem? (i := 11) rfl)), (tm_1 (List.mem_of_getElem? (i := 2) rfl)), by decide +kernel, (tm_5 (List.mem_of_getElem? (i := 9) rfl)), (tm_5 (List.mem_of_getElem? (i := 10) rfl))⟩
set_option maxHeartbeats 4000000 in
set_option maxRecDepth 100000 in
theorem kk_X4_blank (l : Launch) (g : vx_G) (S : vx_St)  : vx_M l g yX4_blank cX4_blank 2 (some .int) (vx_R 0 0) [.ref (g.2.2.1 0)] S (vx_pi (fun r S' => r = S.1 1 0 ∧ S' = vx_u S 1 0 0)) := by
  refine vx_M.intro (by decide) (Nat.le_of_ble_eq_true rfl) ?_
  intro p e s m args below meth c C
  refine vv_aload_n C dX4_blank_0 rfl 0 rfl ?_
  refine vv_gR C (a := 0) (k := 0) (b := 1) inlX4 rfl rfl rfl rfl (by decide) rfl (tm_1 (List.mem_of_getElem? (i := 16) rfl)) dX4_blank_1 ?_
  refine vv_getIN C (a := 1) (k := 0) (o := 0) inlX2 rfl rfl rfl (by decide) rfl (List.mem_of_getElem? (i := 1) rfl) dX4_blank_4 ?_
  refine vv_istore_n (i := 1) (L' := [_, _]) C dX4_blank_7 rfl (by decide) rfl ?_
  refine vv_aload_n C dX4_blank_8 rfl 1 rfl ?_
  refine vv_gR C (a := 0) (k := 0) (b := 1) inlX4 rfl rfl rfl rfl (by decide) rfl (tm_1 (List.mem_of_getElem? (i := 16) rfl)) dX4_blank_9 ?_
  refine vv_iconst (v := (0)) C dX4_blank_12 (by decide) ?_
  refine vv_putIN C (a := 1) (k := 0) inlX2 tyX2 tyX2_ok nmX2 rfl rfl rfl (by decide) rfl rfl rfl (List.mem_of_getElem? (i := 1) rfl) dX4_blank_13 ?_
  refine vv_iload_n C dX4_blank_16 rfl 0 rfl ?_
  refine vv_jret C dX4_blank_17 ?_
  exact ⟨rfl, rfl⟩
theorem yk_X4_fault : vx_yV yX4_fault cX4_fault 1 (some .int) 0 := ⟨(tm_5 (List.mem_of_getElem? (i := 19) rfl)), (tm_1 (List.mem_of_getElem? (i := 2) rfl)), by decide +kernel, (tm_5 (List.mem_of_getElem? (i := 17) rfl)), (tm_5 (List.mem_of_getElem? (i := 18) rfl))⟩
set_option maxHeartbeats 4000000 in
set_option maxRecDepth 100000 in
theorem kk_X4_fault (l : Launch) (g : vx_G) (S : vx_St) (z : Nat) (hz : S.1 1 0 = nI z) (hz12 : z ≤ 12) : vx_M l g yX4_fault cX4_fault 1 (some .int) (vx_R 7 156) [.ref (g.2.2.1 0)] S (vx_pf (nI (pu_fst (pu_fits (S.1 2) (S.1 3 0)) z)) S) := by
  refine vx_M.intro (by decide) (Nat.le_of_ble_eq_true rfl) ?_
  intro p e s m args below meth c C
  refine vv_aload_n C dX4_fault_0 rfl 0 rfl ?_
  refine vv_gR C (a := 0) (k := 0) (b := 1) inlX4 rfl rfl rfl rfl (by decide) rfl (tm_1 (List.mem_of_getElem? (i := 16) rfl)) dX4_fault_1 ?_
  refine vv_aload_n C dX4_fault_4 rfl 0 rfl ?_
  refine vv_gR C (a := 0) (k := 1) (b := 3) inlX4 rfl rfl rfl rfl (by decide) rfl (tm_1 (List.mem_of_getElem? (i := 20) rfl)) dX4_fault_5 ?_
  refine vv_getIN C (a := 3) (k := 0) (o := 0) inlX1 rfl rfl rfl (by decide) rfl (List.mem_of_getElem? (i := 5) rfl) dX4_fault_8 ?_
  refine vv_cVN_F C (a := 1) (kk_X2_faultAt l g _ _ z hz hz12) yk_X2_faultAt (List.mem_of_getElem? (i := 33) rfl) rfl rfl rfl (by decide) rfl (Nat.le_of_ble_eq_true rfl) rfl dX4_fault_11 ?_
  refine vv_fret C dX4_fault_14 ?_
  rfl
theorem yk_X4_house : vx_yV yX4_house cX4_house 2 (some .int) 0 := ⟨(tm_11 (List.mem_of_getElem? (i := 4) rfl)), (tm_1 (List.mem_of_getElem? (i := 2) rfl)), by decide +kernel, (tm_11 (List.mem_of_getElem? (i := 2) rfl)), (tm_11 (List.mem_of_getElem? (i := 3) rfl))⟩
set_option maxHeartbeats 4000000 in
set_option maxRecDepth 100000 in
theorem kk_X4_house (l : Launch) (g : vx_G) (S : vx_St) (z : Nat) (hz : S.1 1 0 = nI z) (hz12 : z ≤ 12) (n : Nat) (hn : S.1 3 0 = nI n) (hn8 : n ≤ 8) : vx_M l g yX4_house cX4_house 2 (some .int) (vx_R 8 177) [.ref (g.2.2.1 0)] S (vx_pi (fun r S' => r = aw_hou (S.1 2) z (S.1 3 0) (S.1 11 2) n ∧ (aw_hB (S.1 2) z (S.1 3 0) (S.1 11 2) n = false → S' = S) ∧ (aw_hB (S.1 2) z (S.1 3 0) (S.1 11 2) n = true → pu_chg S S' [1, 3, 4, 5, 6, 7, 8, 9, 10, 11, 12, 13] ∧ S'.1 1 = upd (S.1 1) 0 0 ∧ S'.1 3 = upd (S.1 3) 0 (nI (n + 1)) ∧ S'.1 4 = upd (S.1 4) n (pu_kind (S.1 2 0)) ∧ S'.1 5 = upd (S.1 5) n (pu_par (S.1 2 1)) ∧ S'.1 6 = upd (S.1 6) n (S.1 2 2 - 48) ∧ S'.1 7 = upd (S.1 7) n (S.1 2 3 - 48) ∧ S'.1 8 = upd (S.1 8) n (S.1 2 4 - 48) ∧ S'.1 9 = upd (S.1 9) n (S.1 2 5 - 48) ∧ S'.1 10 = upd (S.1 10) n (pu_newway (S.1 10) (pu_par (S.1 2 1)) n) ∧ S'.1 11 = upd (S.1 11) 5 (S.1 11 5 &&& (pu_bit (nI n) ^^^ -1)) ∧ S'.1 12 = upd (S.1 12) n 0 ∧ S'.1 13 = upd (S.1 13) n 0))) := by
  refine vx_M.intro (by decide) (Nat.le_of_ble_eq_true rfl) ?_
  intro p e s m args below meth c C
  refine vv_aload_n C dX4_house_0 rfl 0 rfl ?_
  refine vv_gR C (a := 0) (k := 0) (b := 1) inlX4 rfl rfl rfl rfl (by decide) rfl (tm_1 (List.mem_of_getElem? (i := 16) rfl)) dX4_house_1 ?_
  refine vv_aload_n C dX4_house_4 rfl 0 rfl ?_
  refine vv_gR C (a := 0) (k := 1) (b := 3) inlX4 rfl rfl rfl rfl (by decide) rfl (tm_1 (List.mem_of_getElem? (i := 20) rfl)) dX4_house_5 ?_
  refine vv_getIN C (a := 3) (k := 0) (o := 0) inlX1 rfl rfl rfl (by decide) rfl (List.mem_of_getElem? (i := 5) rfl) dX4_house_8 ?_
  refine vv_cVN_F C (a := 1) (kk_X2_isHouse l g _ _ z hz hz12) yk_X2_isHouse (List.mem_of_getElem? (i := 34) rfl) rfl rfl rfl (by decide) rfl (Nat.le_of_ble_eq_true rfl) rfl dX4_house_11 ?_
  refine vv_ifb_eq (tgt := 27) C dX4_house_14 (by decide) (fun h14 => ?_) (fun h14 => ?_)
  · refine vv_bipush (v := (-103)) C dX4_house_27 (by decide) ?_
    refine vv_jret C dX4_house_29 ?_
    exact ⟨by simp [aw_hou, h14], fun _ => rfl, fun q => by simp [aw_hB, h14] at q⟩
  · refine vv_aload_n C dX4_house_17 rfl 0 rfl ?_
    refine vv_gR C (a := 0) (k := 2) (b := 11) inlX4 rfl rfl rfl rfl (by decide) rfl (tm_2 (List.mem_of_getElem? (i := 0) rfl)) dX4_house_18 ?_
    refine vv_cVN_F C (a := 11) (kk_X0_hasBegun l g _ _ rfl) yk_X0_hasBegun (List.mem_of_getElem? (i := 35) rfl) rfl rfl rfl (by decide) rfl (Nat.le_of_ble_eq_true rfl) rfl dX4_house_21 ?_
    refine vv_ifb_eq (tgt := 30) C dX4_house_24 (by decide) (fun h24 => ?_) (fun h24 => ?_)
    · simp only [decide_eq_false_iff_not] at h24
      refine vv_aload_n C dX4_house_30 rfl 0 rfl ?_
      refine vv_gR C (a := 0) (k := 1) (b := 3) inlX4 rfl rfl rfl rfl (by decide) rfl (tm_1 (List.mem_of_getElem? (i := 20) rfl)) dX4_house_31 ?_
      refine vv_getIN C (a := 3) (k := 0) (o := 0) inlX1 rfl rfl rfl (by decide) rfl (List.mem_of_getElem? (i := 5) rfl) dX4_house_34 ?_
      refine vv_bipush (v := (nI 8)) C dX4_house_37 (by decide) ?_
      refine vv_icmp_lt (tgt := 45) C dX4_house_39 (by decide) (fun h39 => ?_) (fun h39 => ?_)
      · have g39 := pu_lt h39
        have hlt : n < 8 := pu_geF (x := nI 8) rfl (by omega) (by omega) (by rw [← hn]; exact g39)
        refine vv_aload_n C dX4_house_45 rfl 0 rfl ?_
        refine vv_gR C (a := 0) (k := 1) (b := 3) inlX4 rfl rfl rfl rfl (by decide) rfl (tm_1 (List.mem_of_getElem? (i := 20) rfl)) dX4_house_46 ?_
        refine vv_getIN C (a := 3) (k := 0) (o := 0) inlX1 rfl rfl rfl (by decide) rfl (List.mem_of_getElem? (i := 5) rfl) dX4_house_49 ?_
        rw [hn] at h14
        rw [hn]
        refine vv_istore_n (i := 1) (L' := [_, _]) C dX4_house_52 rfl (by decide) rfl ?_
        refine vv_aload_n C dX4_house_53 rfl 1 rfl ?_
        refine vv_gR C (a := 0) (k := 1) (b := 3) inlX4 rfl rfl rfl rfl (by decide) rfl (tm_1 (List.mem_of_getElem? (i := 20) rfl)) dX4_house_54 ?_
        refine vv_aload_n C dX4_house_57 rfl 1 rfl ?_
        refine vv_gR C (a := 0) (k := 0) (b := 1) inlX4 rfl rfl rfl rfl (by decide) rfl (tm_1 (List.mem_of_getElem? (i := 16) rfl)) dX4_house_58 ?_
        refine vv_cVN_v C (a := 3) (kk_X1_add l g _ n hn hlt) yk_X1_add (List.mem_of_getElem? (i := 36) rfl) rfl rfl rfl (by decide) rfl (Nat.le_of_ble_eq_true rfl) rfl dX4_house_61 (fun S61 h61 => ?_)
        obtain ⟨c1, c3, c4, c5, c6, c7, c8, c9, c10⟩ := h61
        refine vv_aload_n C dX4_house_64 rfl 1 rfl ?_
        refine vv_gR C (a := 0) (k := 2) (b := 11) inlX4 rfl rfl rfl rfl (by decide) rfl (tm_2 (List.mem_of_getElem? (i := 0) rfl)) dX4_house_65 ?_
        refine vv_iload_n C dX4_house_68 rfl 0 rfl ?_
        refine vv_cVN_v C (a := 11) (kk_X0_welcome l g _ n hlt) yk_X0_welcome (List.mem_of_getElem? (i := 40) rfl) rfl rfl rfl (by decide) rfl (Nat.le_of_ble_eq_true rfl) rfl dX4_house_69 (fun S69 h69 => ?_)
        subst h69
        refine vv_aload_n C dX4_house_72 rfl 1 rfl ?_
        refine vv_gR C (a := 0) (k := 0) (b := 1) inlX4 rfl rfl rfl rfl (by decide) rfl (tm_1 (List.mem_of_getElem? (i := 16) rfl)) dX4_house_73 ?_
        refine vv_iconst (v := (0)) C dX4_house_76 (by decide) ?_
        refine vv_putIN C (a := 1) (k := 0) inlX2 tyX2 tyX2_ok nmX2 rfl rfl rfl (by decide) rfl rfl rfl (List.mem_of_getElem? (i := 1) rfl) dX4_house_77 ?_
        refine vv_iload_n C dX4_house_80 rfl 0 rfl ?_
        refine vv_jret C dX4_house_81 ?_
        refine ⟨by simp [aw_hou, h14, h24, hlt], fun q => by simp [aw_hB, h14, h24, hlt] at q, fun _ => ?_⟩
        have x11 : S61.1 11 = S.1 11 := c1.2 _ (by simp)
        have x12 : S61.1 12 = S.1 12 := c1.2 _ (by simp)
        have x13 : S61.1 13 = S.1 13 := c1.2 _ (by simp)
        have x1 : S61.1 1 = S.1 1 := c1.2 _ (by simp)
        refine ⟨?_, ?_⟩
        · iterate 4 refine pu_chg_u ?_ _ _ (by simp)
          exact pu_chg_tr (pu_chg_rf S _) c1 (by simp)
        · simp [vx_u_if, c3, c4, c5, c6, c7, c8, c9, c10, x11, x12, x13, x1]
      · have g39 := pu_nlt h39
        have hge : ¬ n < 8 := by have := pu_geT (x := nI 8) (n := 8) (i := n) rfl (by omega) (by omega) (by rw [← hn]; exact g39); omega
        refine vv_bipush (v := (-104)) C dX4_house_42 (by decide) ?_
        refine vv_jret C dX4_house_44 ?_
        exact ⟨by simp [aw_hou, h14, h24, hge], fun _ => rfl, fun q => by simp [aw_hB, h14, h24, hge] at q⟩
    · simp only [decide_eq_true_eq] at h24
      refine vv_bipush (v := (-103)) C dX4_house_27 (by decide) ?_
      refine vv_jret C dX4_house_29 ?_
      exact ⟨by simp [aw_hou, h14, h24], fun _ => rfl, fun q => by simp [aw_hB, h14, h24] at q⟩
theorem yk_X4_about : vx_yV yX4_about cX4_about 3 (some .int) 2 := ⟨(tm_12 (List.mem_of_getElem? (i := 12) rfl)), (tm_1 (List.mem_of_getElem? (i := 2) rfl)), by decide +kernel, (tm_12 (List.mem_of_getElem? (i := 10) rfl)), (tm_12 (List.mem_of_getElem? (i := 11) rfl))⟩
set_option maxHeartbeats 4000000 in
set_option maxRecDepth 100000 in
theorem kk_X4_about (l : Launch) (g : vx_G) (S : vx_St) (h w : Int32) (n : Nat) (hn : S.1 3 0 = nI n) (hn8 : n ≤ 8) : vx_M l g yX4_about cX4_about 3 (some .int) (vx_R 1 21) [.ref (g.2.2.1 0), .int h, .int w] S (vx_pf (aw_about (S.1 3 0) (pu_hs S) (S.1 12) (S.1 13) (S.1 11 5) h w) S) := by
  refine vx_M.intro (by decide) (Nat.le_of_ble_eq_true rfl) ?_
  intro p e s m args below meth c C
  refine vv_aload_n C dX4_about_0 rfl 0 rfl ?_
  refine vv_gR C (a := 0) (k := 1) (b := 3) inlX4 rfl rfl rfl rfl (by decide) rfl (tm_1 (List.mem_of_getElem? (i := 20) rfl)) dX4_about_1 ?_
  refine vv_iload_n C dX4_about_4 rfl 1 rfl ?_
  refine vv_cVN_F C (a := 3) (kk_X1_has l g _ _) yk_X1_has (List.mem_of_getElem? (i := 42) rfl) rfl rfl rfl (by decide) rfl (Nat.le_of_ble_eq_true rfl) rfl dX4_about_5 ?_
  refine vv_ifb_ne (tgt := 14) C dX4_about_8 (by decide) (fun h8 => ?_) (fun h8 => ?_)
  · have hq := h8
    obtain ⟨k, hk, rfl⟩ := pu_hq_k hn (by omega) h8
    refine vv_iload_n C dX4_about_14 rfl 2 rfl ?_
    rcases pu_sw w 9 (by omega) with ⟨j, hj, hw⟩ | hw
    rcases (show j = 0 ∨ j = 1 ∨ j = 2 ∨ j = 3 ∨ j = 4 ∨ j = 5 ∨ j = 6 ∨ j = 7 ∨ j = 8 by omega) with rfl | rfl | rfl | rfl | rfl | rfl | rfl | rfl | rfl
    · subst hw
      refine vv_tableIn (tgt := 64) C dX4_about_15 (by decide) (by decide) rfl (by decide) ?_
      refine vv_aload_n C dX4_about_64 rfl 0 rfl ?_
      refine vv_gR C (a := 0) (k := 1) (b := 3) inlX4 rfl rfl rfl rfl (by decide) rfl (tm_1 (List.mem_of_getElem? (i := 20) rfl)) dX4_about_65 ?_
      refine vv_gRN C (a := 3) (k := 1) (b := 4) inlX1 rfl rfl rfl rfl (by decide) rfl (List.mem_of_getElem? (i := 7) rfl) dX4_about_68 ?_
      refine vv_iload_n C dX4_about_71 rfl 1 rfl ?_
      refine vv_ialdN C (a := 4) rfl (by omega) (by decide) dX4_about_72 ?_
      refine vv_fret C dX4_about_73 ?_
      rw [aw_about, if_neg (show ¬ pu_hq (nI k) (S.1 3 0) = false by rw [show pu_hq (nI k) (S.1 3 0) = true from hq]; decide), if_pos rfl, nI_clamp (by omega)]
      try rfl
    · subst hw
      refine vv_tableIn (tgt := 74) C dX4_about_15 (by decide) (by decide) rfl (by decide) ?_
      refine vv_aload_n C dX4_about_74 rfl 0 rfl ?_
      refine vv_gR C (a := 0) (k := 1) (b := 3) inlX4 rfl rfl rfl rfl (by decide) rfl (tm_1 (List.mem_of_getElem? (i := 20) rfl)) dX4_about_75 ?_
      refine vv_gRN C (a := 3) (k := 2) (b := 5) inlX1 rfl rfl rfl rfl (by decide) rfl (List.mem_of_getElem? (i := 8) rfl) dX4_about_78 ?_
      refine vv_iload_n C dX4_about_81 rfl 1 rfl ?_
      refine vv_ialdN C (a := 5) rfl (by omega) (by decide) dX4_about_82 ?_
      refine vv_fret C dX4_about_83 ?_
      rw [aw_about, if_neg (show ¬ pu_hq (nI k) (S.1 3 0) = false by rw [show pu_hq (nI k) (S.1 3 0) = true from hq]; decide), if_neg (show ¬ nI 1 = nI 0 by decide), if_pos rfl, nI_clamp (by omega)]
      try rfl
    · subst hw
      refine vv_tableIn (tgt := 84) C dX4_about_15 (by decide) (by decide) rfl (by decide) ?_
      refine vv_aload_n C dX4_about_84 rfl 0 rfl ?_
      refine vv_gR C (a := 0) (k := 1) (b := 3) inlX4 rfl rfl rfl rfl (by decide) rfl (tm_1 (List.mem_of_getElem? (i := 20) rfl)) dX4_about_85 ?_
      refine vv_gRN C (a := 3) (k := 3) (b := 6) inlX1 rfl rfl rfl rfl (by decide) rfl (List.mem_of_getElem? (i := 10) rfl) dX4_about_88 ?_
      refine vv_iload_n C dX4_about_91 rfl 1 rfl ?_
      refine vv_ialdN C (a := 6) rfl (by omega) (by decide) dX4_about_92 ?_
      refine vv_fret C dX4_about_93 ?_
      rw [aw_about, if_neg (show ¬ pu_hq (nI k) (S.1 3 0) = false by rw [show pu_hq (nI k) (S.1 3 0) = true from hq]; decide), if_neg (show ¬ nI 2 = nI 0 by decide), if_neg (show ¬ nI 2 = nI 1 by decide), if_pos rfl, nI_clamp (by omega)]
      try rfl
    · subst hw
      refine vv_tableIn (tgt := 94) C dX4_about_15 (by decide) (by decide) rfl (by decide) ?_
      refine vv_aload_n C dX4_about_94 rfl 0 rfl ?_
      refine vv_gR C (a := 0) (k := 1) (b := 3) inlX4 rfl rfl rfl rfl (by decide) rfl (tm_1 (List.mem_of_getElem? (i := 20) rfl)) dX4_about_95 ?_
      refine vv_gRN C (a := 3) (k := 4) (b := 7) inlX1 rfl rfl rfl rfl (by decide) rfl (List.mem_of_getElem? (i := 11) rfl) dX4_about_98 ?_
      refine vv_iload_n C dX4_about_101 rfl 1 rfl ?_
      refine vv_ialdN C (a := 7) rfl (by omega) (by decide) dX4_about_102 ?_
      refine vv_fret C dX4_about_103 ?_
      rw [aw_about, if_neg (show ¬ pu_hq (nI k) (S.1 3 0) = false by rw [show pu_hq (nI k) (S.1 3 0) = true from hq]; decide), if_neg (show ¬ nI 3 = nI 0 by decide), if_neg (show ¬ nI 3 = nI 1 by decide), if_neg (show ¬ nI 3 = nI 2 by decide), if_pos rfl, nI_clamp (by omega)]
      try rfl
    · subst hw
      refine vv_tableIn (tgt := 104) C dX4_about_15 (by decide) (by decide) rfl (by decide) ?_
      refine vv_aload_n C dX4_about_104 rfl 0 rfl ?_
      refine vv_gR C (a := 0) (k := 1) (b := 3) inlX4 rfl rfl rfl rfl (by decide) rfl (tm_1 (List.mem_of_getElem? (i := 20) rfl)) dX4_about_105 ?_
      refine vv_gRN C (a := 3) (k := 5) (b := 8) inlX1 rfl rfl rfl rfl (by decide) rfl (List.mem_of_getElem? (i := 13) rfl) dX4_about_108 ?_
      refine vv_iload_n C dX4_about_111 rfl 1 rfl ?_
      refine vv_ialdN C (a := 8) rfl (by omega) (by decide) dX4_about_112 ?_
      refine vv_fret C dX4_about_113 ?_
      rw [aw_about, if_neg (show ¬ pu_hq (nI k) (S.1 3 0) = false by rw [show pu_hq (nI k) (S.1 3 0) = true from hq]; decide), if_neg (show ¬ nI 4 = nI 0 by decide), if_neg (show ¬ nI 4 = nI 1 by decide), if_neg (show ¬ nI 4 = nI 2 by decide), if_neg (show ¬ nI 4 = nI 3 by decide), if_pos rfl, nI_clamp (by omega)]
      try rfl
    · subst hw
      refine vv_tableIn (tgt := 114) C dX4_about_15 (by decide) (by decide) rfl (by decide) ?_
      refine vv_aload_n C dX4_about_114 rfl 0 rfl ?_
      refine vv_gR C (a := 0) (k := 1) (b := 3) inlX4 rfl rfl rfl rfl (by decide) rfl (tm_1 (List.mem_of_getElem? (i := 20) rfl)) dX4_about_115 ?_
      refine vv_gRN C (a := 3) (k := 6) (b := 9) inlX1 rfl rfl rfl rfl (by decide) rfl (List.mem_of_getElem? (i := 14) rfl) dX4_about_118 ?_
      refine vv_iload_n C dX4_about_121 rfl 1 rfl ?_
      refine vv_ialdN C (a := 9) rfl (by omega) (by decide) dX4_about_122 ?_
      refine vv_fret C dX4_about_123 ?_
      rw [aw_about, if_neg (show ¬ pu_hq (nI k) (S.1 3 0) = false by rw [show pu_hq (nI k) (S.1 3 0) = true from hq]; decide), if_neg (show ¬ nI 5 = nI 0 by decide), if_neg (show ¬ nI 5 = nI 1 by decide), if_neg (show ¬ nI 5 = nI 2 by decide), if_neg (show ¬ nI 5 = nI 3 by decide), if_neg (show ¬ nI 5 = nI 4 by decide), if_pos rfl, nI_clamp (by omega)]
      try rfl
    · subst hw
      refine vv_tableIn (tgt := 124) C dX4_about_15 (by decide) (by decide) rfl (by decide) ?_
      refine vv_aload_n C dX4_about_124 rfl 0 rfl ?_
      refine vv_gR C (a := 0) (k := 2) (b := 11) inlX4 rfl rfl rfl rfl (by decide) rfl (tm_2 (List.mem_of_getElem? (i := 0) rfl)) dX4_about_125 ?_
      refine vv_gRN C (a := 11) (k := 9) (b := 12) inlX0 rfl rfl rfl rfl (by decide) rfl (List.mem_of_getElem? (i := 26) rfl) dX4_about_128 ?_
      refine vv_iload_n C dX4_about_131 rfl 1 rfl ?_
      refine vv_ialdN C (a := 12) rfl (by omega) (by decide) dX4_about_132 ?_
      refine vv_fret C dX4_about_133 ?_
      rw [aw_about, if_neg (show ¬ pu_hq (nI k) (S.1 3 0) = false by rw [show pu_hq (nI k) (S.1 3 0) = true from hq]; decide), if_neg (show ¬ nI 6 = nI 0 by decide), if_neg (show ¬ nI 6 = nI 1 by decide), if_neg (show ¬ nI 6 = nI 2 by decide), if_neg (show ¬ nI 6 = nI 3 by decide), if_neg (show ¬ nI 6 = nI 4 by decide), if_neg (show ¬ nI 6 = nI 5 by decide), if_pos rfl, nI_clamp (by omega)]
      try rfl
    · subst hw
      refine vv_tableIn (tgt := 134) C dX4_about_15 (by decide) (by decide) rfl (by decide) ?_
      refine vv_aload_n C dX4_about_134 rfl 0 rfl ?_
      refine vv_gR C (a := 0) (k := 2) (b := 11) inlX4 rfl rfl rfl rfl (by decide) rfl (tm_2 (List.mem_of_getElem? (i := 0) rfl)) dX4_about_135 ?_
      refine vv_gRN C (a := 11) (k := 10) (b := 13) inlX0 rfl rfl rfl rfl (by decide) rfl (List.mem_of_getElem? (i := 27) rfl) dX4_about_138 ?_
      refine vv_iload_n C dX4_about_141 rfl 1 rfl ?_
      refine vv_ialdN C (a := 13) rfl (by omega) (by decide) dX4_about_142 ?_
      refine vv_fret C dX4_about_143 ?_
      rw [aw_about, if_neg (show ¬ pu_hq (nI k) (S.1 3 0) = false by rw [show pu_hq (nI k) (S.1 3 0) = true from hq]; decide), if_neg (show ¬ nI 7 = nI 0 by decide), if_neg (show ¬ nI 7 = nI 1 by decide), if_neg (show ¬ nI 7 = nI 2 by decide), if_neg (show ¬ nI 7 = nI 3 by decide), if_neg (show ¬ nI 7 = nI 4 by decide), if_neg (show ¬ nI 7 = nI 5 by decide), if_neg (show ¬ nI 7 = nI 6 by decide), if_pos rfl, nI_clamp (by omega)]
      try rfl
    · subst hw
      refine vv_tableIn (tgt := 144) C dX4_about_15 (by decide) (by decide) rfl (by decide) ?_
      refine vv_aload_n C dX4_about_144 rfl 0 rfl ?_
      refine vv_gR C (a := 0) (k := 2) (b := 11) inlX4 rfl rfl rfl rfl (by decide) rfl (tm_2 (List.mem_of_getElem? (i := 0) rfl)) dX4_about_145 ?_
      refine vv_getIN C (a := 11) (k := 5) (o := 0) inlX0 rfl rfl rfl (by decide) rfl (List.mem_of_getElem? (i := 22) rfl) dX4_about_148 ?_
      refine vv_iload_n C dX4_about_151 rfl 1 rfl ?_
      refine vv_cS_F C (kk_X4_isIn l g _ _ _) yk_X4_isIn (tm_12 (List.mem_of_getElem? (i := 13) rfl)) (by decide) rfl (Nat.le_of_ble_eq_true rfl) rfl dX4_about_152 ?_
      refine vv_cS_F C (kk_X4_oneIf l g _ _) yk_X4_oneIf (tm_12 (List.mem_of_getElem? (i := 16) rfl)) (by decide) rfl (Nat.le_of_ble_eq_true rfl) rfl dX4_about_155 ?_
      refine vv_fret C dX4_about_158 ?_
      rw [aw_about, if_neg (show ¬ pu_hq (nI k) (S.1 3 0) = false by rw [show pu_hq (nI k) (S.1 3 0) = true from hq]; decide), if_neg (show ¬ nI 8 = nI 0 by decide), if_neg (show ¬ nI 8 = nI 1 by decide), if_neg (show ¬ nI 8 = nI 2 by decide), if_neg (show ¬ nI 8 = nI 3 by decide), if_neg (show ¬ nI 8 = nI 4 by decide), if_neg (show ¬ nI 8 = nI 5 by decide), if_neg (show ¬ nI 8 = nI 6 by decide), if_neg (show ¬ nI 8 = nI 7 by decide), if_pos rfl]
      exact vx_i_b _
    · refine vv_tableOut (tgt := 159) C dX4_about_15 hw (by decide) ?_
      refine vv_bipush (v := (-102)) C dX4_about_159 (by decide) ?_
      refine vv_fret C dX4_about_161 ?_
      have ne : ∀ j : Nat, j < 9 → ¬ w = nI j := fun j hj e => by rw [e, nI_toInt (by omega)] at hw; omega
      simp only [aw_about, show pu_hq (nI k) (S.1 3 0) = true from hq, ne 0 (by decide), ne 1 (by decide), ne 2 (by decide), ne 3 (by decide), ne 4 (by decide), ne 5 (by decide), ne 6 (by decide), ne 7 (by decide), ne 8 (by decide), if_false, Bool.true_eq_false]
  · refine vv_bipush (v := (-101)) C dX4_about_11 (by decide) ?_
    refine vv_fret C dX4_about_13 ?_
    simp [aw_about, pu_hq, h8]
theorem yk_X4_count : vx_yV yX4_count cX4_count 2 (some .int) 1 := ⟨(tm_30 (List.mem_of_getElem? (i := 14) rfl)), (tm_1 (List.mem_of_getElem? (i := 2) rfl)), by decide +kernel, (tm_30 (List.mem_of_getElem? (i := 12) rfl)), (tm_30 (List.mem_of_getElem? (i := 13) rfl))⟩
set_option maxHeartbeats 4000000 in
set_option maxRecDepth 100000 in
theorem kk_X4_count (l : Launch) (g : vx_G) (S : vx_St) (w : Int32) : vx_M l g yX4_count cX4_count 2 (some .int) (vx_R 1 20) [.ref (g.2.2.1 0), .int w] S (vx_pf (aw_cnt (S.1 3 0) (S.1 11 0) (S.1 11 1) (S.1 11 2) (S.1 11 8) (S.1 11 3) (S.1 11 7) (S.1 11 6) (S.1 17 0) (S.1 1 0) w) S) := by
  refine vx_M.intro (by decide) (Nat.le_of_ble_eq_true rfl) ?_
  intro p e s m args below meth c C
  refine vv_iload_n C dX4_count_0 rfl 1 rfl ?_
  rcases pu_sw w 10 (by omega) with ⟨j, hj, hw⟩ | hw
  rcases (show j = 0 ∨ j = 1 ∨ j = 2 ∨ j = 3 ∨ j = 4 ∨ j = 5 ∨ j = 6 ∨ j = 7 ∨ j = 8 ∨ j = 9 by omega) with rfl | rfl | rfl | rfl | rfl | rfl | rfl | rfl | rfl | rfl
  · subst hw
    refine vv_tableIn (tgt := 56) C dX4_count_1 (by decide) (by decide) rfl (by decide) ?_
    refine vv_aload_n C dX4_count_56 rfl 0 rfl ?_
    refine vv_gR C (a := 0) (k := 1) (b := 3) inlX4 rfl rfl rfl rfl (by decide) rfl (tm_1 (List.mem_of_getElem? (i := 20) rfl)) dX4_count_57 ?_
    refine vv_getIN C (a := 3) (k := 0) (o := 0) inlX1 rfl rfl rfl (by decide) rfl (List.mem_of_getElem? (i := 5) rfl) dX4_count_60 ?_
    refine vv_fret C dX4_count_63 ?_
    rw [aw_cnt, if_pos rfl]
  · subst hw
    refine vv_tableIn (tgt := 64) C dX4_count_1 (by decide) (by decide) rfl (by decide) ?_
    refine vv_aload_n C dX4_count_64 rfl 0 rfl ?_
    refine vv_gR C (a := 0) (k := 2) (b := 11) inlX4 rfl rfl rfl rfl (by decide) rfl (tm_2 (List.mem_of_getElem? (i := 0) rfl)) dX4_count_65 ?_
    refine vv_getIN C (a := 11) (k := 0) (o := 0) inlX0 rfl rfl rfl (by decide) rfl (List.mem_of_getElem? (i := 17) rfl) dX4_count_68 ?_
    refine vv_fret C dX4_count_71 ?_
    rw [aw_cnt, if_neg (show ¬ nI 1 = nI 0 by decide), if_pos rfl]
  · subst hw
    refine vv_tableIn (tgt := 72) C dX4_count_1 (by decide) (by decide) rfl (by decide) ?_
    refine vv_aload_n C dX4_count_72 rfl 0 rfl ?_
    refine vv_gR C (a := 0) (k := 2) (b := 11) inlX4 rfl rfl rfl rfl (by decide) rfl (tm_2 (List.mem_of_getElem? (i := 0) rfl)) dX4_count_73 ?_
    refine vv_getIN C (a := 11) (k := 1) (o := 0) inlX0 rfl rfl rfl (by decide) rfl (List.mem_of_getElem? (i := 18) rfl) dX4_count_76 ?_
    refine vv_fret C dX4_count_79 ?_
    rw [aw_cnt, if_neg (show ¬ nI 2 = nI 0 by decide), if_neg (show ¬ nI 2 = nI 1 by decide), if_pos rfl]
  · subst hw
    refine vv_tableIn (tgt := 80) C dX4_count_1 (by decide) (by decide) rfl (by decide) ?_
    refine vv_aload_n C dX4_count_80 rfl 0 rfl ?_
    refine vv_gR C (a := 0) (k := 2) (b := 11) inlX4 rfl rfl rfl rfl (by decide) rfl (tm_2 (List.mem_of_getElem? (i := 0) rfl)) dX4_count_81 ?_
    refine vv_getIN C (a := 11) (k := 2) (o := 0) inlX0 rfl rfl rfl (by decide) rfl (List.mem_of_getElem? (i := 19) rfl) dX4_count_84 ?_
    refine vv_fret C dX4_count_87 ?_
    rw [aw_cnt, if_neg (show ¬ nI 3 = nI 0 by decide), if_neg (show ¬ nI 3 = nI 1 by decide), if_neg (show ¬ nI 3 = nI 2 by decide), if_pos rfl]
  · subst hw
    refine vv_tableIn (tgt := 88) C dX4_count_1 (by decide) (by decide) rfl (by decide) ?_
    refine vv_aload_n C dX4_count_88 rfl 0 rfl ?_
    refine vv_gR C (a := 0) (k := 2) (b := 11) inlX4 rfl rfl rfl rfl (by decide) rfl (tm_2 (List.mem_of_getElem? (i := 0) rfl)) dX4_count_89 ?_
    refine vv_getIN C (a := 11) (k := 8) (o := 0) inlX0 rfl rfl rfl (by decide) rfl (List.mem_of_getElem? (i := 25) rfl) dX4_count_92 ?_
    refine vv_fret C dX4_count_95 ?_
    rw [aw_cnt, if_neg (show ¬ nI 4 = nI 0 by decide), if_neg (show ¬ nI 4 = nI 1 by decide), if_neg (show ¬ nI 4 = nI 2 by decide), if_neg (show ¬ nI 4 = nI 3 by decide), if_pos rfl]
  · subst hw
    refine vv_tableIn (tgt := 96) C dX4_count_1 (by decide) (by decide) rfl (by decide) ?_
    refine vv_aload_n C dX4_count_96 rfl 0 rfl ?_
    refine vv_gR C (a := 0) (k := 2) (b := 11) inlX4 rfl rfl rfl rfl (by decide) rfl (tm_2 (List.mem_of_getElem? (i := 0) rfl)) dX4_count_97 ?_
    refine vv_getIN C (a := 11) (k := 3) (o := 0) inlX0 rfl rfl rfl (by decide) rfl (List.mem_of_getElem? (i := 20) rfl) dX4_count_100 ?_
    refine vv_fret C dX4_count_103 ?_
    rw [aw_cnt, if_neg (show ¬ nI 5 = nI 0 by decide), if_neg (show ¬ nI 5 = nI 1 by decide), if_neg (show ¬ nI 5 = nI 2 by decide), if_neg (show ¬ nI 5 = nI 3 by decide), if_neg (show ¬ nI 5 = nI 4 by decide), if_pos rfl]
  · subst hw
    refine vv_tableIn (tgt := 104) C dX4_count_1 (by decide) (by decide) rfl (by decide) ?_
    refine vv_aload_n C dX4_count_104 rfl 0 rfl ?_
    refine vv_gR C (a := 0) (k := 2) (b := 11) inlX4 rfl rfl rfl rfl (by decide) rfl (tm_2 (List.mem_of_getElem? (i := 0) rfl)) dX4_count_105 ?_
    refine vv_getZN C (a := 11) (k := 7) (o := 0) inlX0 rfl rfl rfl (by decide) rfl (List.mem_of_getElem? (i := 24) rfl) dX4_count_108 ?_
    refine vv_cS_F C (kk_X4_oneIf l g _ _) yk_X4_oneIf (tm_12 (List.mem_of_getElem? (i := 16) rfl)) (by decide) rfl (Nat.le_of_ble_eq_true rfl) rfl dX4_count_111 ?_
    refine vv_fret C dX4_count_114 ?_
    rw [aw_cnt, if_neg (show ¬ nI 6 = nI 0 by decide), if_neg (show ¬ nI 6 = nI 1 by decide), if_neg (show ¬ nI 6 = nI 2 by decide), if_neg (show ¬ nI 6 = nI 3 by decide), if_neg (show ¬ nI 6 = nI 4 by decide), if_neg (show ¬ nI 6 = nI 5 by decide), if_pos rfl]
    exact vx_b_b _
  · subst hw
    refine vv_tableIn (tgt := 115) C dX4_count_1 (by decide) (by decide) rfl (by decide) ?_
    refine vv_aload_n C dX4_count_115 rfl 0 rfl ?_
    refine vv_gR C (a := 0) (k := 2) (b := 11) inlX4 rfl rfl rfl rfl (by decide) rfl (tm_2 (List.mem_of_getElem? (i := 0) rfl)) dX4_count_116 ?_
    refine vv_getZN C (a := 11) (k := 6) (o := 0) inlX0 rfl rfl rfl (by decide) rfl (List.mem_of_getElem? (i := 23) rfl) dX4_count_119 ?_
    refine vv_cS_F C (kk_X4_oneIf l g _ _) yk_X4_oneIf (tm_12 (List.mem_of_getElem? (i := 16) rfl)) (by decide) rfl (Nat.le_of_ble_eq_true rfl) rfl dX4_count_122 ?_
    refine vv_fret C dX4_count_125 ?_
    rw [aw_cnt, if_neg (show ¬ nI 7 = nI 0 by decide), if_neg (show ¬ nI 7 = nI 1 by decide), if_neg (show ¬ nI 7 = nI 2 by decide), if_neg (show ¬ nI 7 = nI 3 by decide), if_neg (show ¬ nI 7 = nI 4 by decide), if_neg (show ¬ nI 7 = nI 5 by decide), if_neg (show ¬ nI 7 = nI 6 by decide), if_pos rfl]
    exact vx_b_b _
  · subst hw
    refine vv_tableIn (tgt := 126) C dX4_count_1 (by decide) (by decide) rfl (by decide) ?_
    refine vv_aload_n C dX4_count_126 rfl 0 rfl ?_
    refine vv_gR C (a := 0) (k := 3) (b := 17) inlX4 rfl rfl rfl rfl (by decide) rfl (tm_2 (List.mem_of_getElem? (i := 4) rfl)) dX4_count_127 ?_
    refine vv_getIN C (a := 17) (k := 0) (o := 0) inlX3 rfl rfl rfl (by decide) rfl (List.mem_of_getElem? (i := 30) rfl) dX4_count_130 ?_
    refine vv_fret C dX4_count_133 ?_
    rw [aw_cnt, if_neg (show ¬ nI 8 = nI 0 by decide), if_neg (show ¬ nI 8 = nI 1 by decide), if_neg (show ¬ nI 8 = nI 2 by decide), if_neg (show ¬ nI 8 = nI 3 by decide), if_neg (show ¬ nI 8 = nI 4 by decide), if_neg (show ¬ nI 8 = nI 5 by decide), if_neg (show ¬ nI 8 = nI 6 by decide), if_neg (show ¬ nI 8 = nI 7 by decide), if_pos rfl]
  · subst hw
    refine vv_tableIn (tgt := 134) C dX4_count_1 (by decide) (by decide) rfl (by decide) ?_
    refine vv_aload_n C dX4_count_134 rfl 0 rfl ?_
    refine vv_gR C (a := 0) (k := 0) (b := 1) inlX4 rfl rfl rfl rfl (by decide) rfl (tm_1 (List.mem_of_getElem? (i := 16) rfl)) dX4_count_135 ?_
    refine vv_getIN C (a := 1) (k := 0) (o := 0) inlX2 rfl rfl rfl (by decide) rfl (List.mem_of_getElem? (i := 1) rfl) dX4_count_138 ?_
    refine vv_fret C dX4_count_141 ?_
    rw [aw_cnt, if_neg (show ¬ nI 9 = nI 0 by decide), if_neg (show ¬ nI 9 = nI 1 by decide), if_neg (show ¬ nI 9 = nI 2 by decide), if_neg (show ¬ nI 9 = nI 3 by decide), if_neg (show ¬ nI 9 = nI 4 by decide), if_neg (show ¬ nI 9 = nI 5 by decide), if_neg (show ¬ nI 9 = nI 6 by decide), if_neg (show ¬ nI 9 = nI 7 by decide), if_neg (show ¬ nI 9 = nI 8 by decide), if_pos rfl]
  · refine vv_tableOut (tgt := 142) C dX4_count_1 hw (by decide) ?_
    refine vv_bipush (v := (-102)) C dX4_count_142 (by decide) ?_
    refine vv_fret C dX4_count_144 ?_
    have ne : ∀ j : Nat, j < 10 → ¬ w = nI j := fun j hj e => by rw [e, nI_toInt (by omega)] at hw; omega
    simp only [aw_cnt, ne 0 (by decide), ne 1 (by decide), ne 2 (by decide), ne 3 (by decide), ne 4 (by decide), ne 5 (by decide), ne 6 (by decide), ne 7 (by decide), ne 8 (by decide), ne 9 (by decide), if_false]
theorem yk_X4_length : vx_yV yX4_length cX4_length 3 (some .int) 1 := ⟨(tm_14 (List.mem_of_getElem? (i := 1) rfl)), (tm_1 (List.mem_of_getElem? (i := 2) rfl)), by decide +kernel, (tm_13 (List.mem_of_getElem? (i := 23) rfl)), (tm_14 (List.mem_of_getElem? (i := 0) rfl))⟩
set_option maxHeartbeats 4000000 in
set_option maxRecDepth 100000 in
theorem kk_X4_length (l : Launch) (g : vx_G) (S : vx_St) (v : Int32) : vx_M l g yX4_length cX4_length 3 (some .int) (vx_R 1 20) [.ref (g.2.2.1 0), .int v] S (vx_pi (fun r S' => r = aw_len v (S.1 11 2) (S.1 11 0) ∧ S' = if aw_lenB v (S.1 11 2) = true then vx_u (vx_u S 11 0 v) 11 1 v else S)) := by
  refine vx_M.intro (by decide) (Nat.le_of_ble_eq_true rfl) ?_
  intro p e s m args below meth c C
  refine vv_iload_n C dX4_length_0 rfl 1 rfl ?_
  refine vv_iconst (v := (1)) C dX4_length_1 (by decide) ?_
  refine vv_icmp_lt (tgt := 11) C dX4_length_2 (by decide) (fun h2 => ?_) (fun h2 => ?_)
  · have g2 := pu_lt h2
    refine vv_bipush (v := (-102)) C dX4_length_11 (by decide) ?_
    refine vv_jret C dX4_length_13 ?_
    exact ⟨by simp [aw_len, h2, g2], by simp [aw_lenB, h2, g2]⟩
  · have g2 := pu_nlt h2
    refine vv_iload_n C dX4_length_5 rfl 1 rfl ?_
    refine vv_bipush (v := (99)) C dX4_length_6 (by decide) ?_
    refine vv_icmp_le (tgt := 14) C dX4_length_8 (by decide) (fun h8 => ?_) (fun h8 => ?_)
    · have g8 := pu_le h8
      refine vv_aload_n C dX4_length_14 rfl 0 rfl ?_
      refine vv_gR C (a := 0) (k := 2) (b := 11) inlX4 rfl rfl rfl rfl (by decide) rfl (tm_2 (List.mem_of_getElem? (i := 0) rfl)) dX4_length_15 ?_
      refine vv_cVN_F C (a := 11) (kk_X0_hasBegun l g _ _ rfl) yk_X0_hasBegun (List.mem_of_getElem? (i := 35) rfl) rfl rfl rfl (by decide) rfl (Nat.le_of_ble_eq_true rfl) rfl dX4_length_18 ?_
      refine vv_ifb_eq (tgt := 27) C dX4_length_21 (by decide) (fun h21 => ?_) (fun h21 => ?_)
      · simp only [decide_eq_false_iff_not] at h21
        refine vv_aload_n C dX4_length_27 rfl 0 rfl ?_
        refine vv_gR C (a := 0) (k := 2) (b := 11) inlX4 rfl rfl rfl rfl (by decide) rfl (tm_2 (List.mem_of_getElem? (i := 0) rfl)) dX4_length_28 ?_
        refine vv_getIN C (a := 11) (k := 0) (o := 0) inlX0 rfl rfl rfl (by decide) rfl (List.mem_of_getElem? (i := 17) rfl) dX4_length_31 ?_
        refine vv_istore_n (i := 2) (L' := [_, _, _]) C dX4_length_34 rfl (by decide) rfl ?_
        refine vv_aload_n C dX4_length_35 rfl 1 rfl ?_
        refine vv_gR C (a := 0) (k := 2) (b := 11) inlX4 rfl rfl rfl rfl (by decide) rfl (tm_2 (List.mem_of_getElem? (i := 0) rfl)) dX4_length_36 ?_
        refine vv_iload_n C dX4_length_39 rfl 2 rfl ?_
        refine vv_putIN C (a := 11) (k := 0) inlX0 tyX0 tyX0_ok nmX0 rfl rfl rfl (by decide) rfl rfl rfl (List.mem_of_getElem? (i := 17) rfl) dX4_length_40 ?_
        refine vv_aload_n C dX4_length_43 rfl 1 rfl ?_
        refine vv_gR C (a := 0) (k := 2) (b := 11) inlX4 rfl rfl rfl rfl (by decide) rfl (tm_2 (List.mem_of_getElem? (i := 0) rfl)) dX4_length_44 ?_
        refine vv_iload_n C dX4_length_47 rfl 2 rfl ?_
        refine vv_putIN C (a := 11) (k := 1) inlX0 tyX0 tyX0_ok nmX0 rfl rfl rfl (by decide) rfl rfl rfl (List.mem_of_getElem? (i := 18) rfl) dX4_length_48 ?_
        refine vv_iload_n C dX4_length_51 rfl 0 rfl ?_
        refine vv_jret C dX4_length_52 ?_
        exact ⟨by simp [aw_len, h2, g2, h8, g8, h21], by simp [aw_lenB, h2, g2, h8, g8, h21]⟩
      · simp only [decide_eq_true_eq] at h21
        refine vv_bipush (v := (-103)) C dX4_length_24 (by decide) ?_
        refine vv_jret C dX4_length_26 ?_
        exact ⟨by simp [aw_len, h2, g2, h8, g8, h21], by simp [aw_lenB, h2, g2, h8, g8, h21]⟩
    · have g8 := pu_nle h8
      refine vv_bipush (v := (-102)) C dX4_length_11 (by decide) ?_
      refine vv_jret C dX4_length_13 ?_
      exact ⟨by simp [aw_len, h2, g2, h8, g8], by simp [aw_lenB, h2, g2, h8, g8]⟩
theorem yk_X4_brake : vx_yV yX4_brake cX4_brake 4 (some .int) 2 := ⟨(tm_14 (List.mem_of_getElem? (i := 9) rfl)), (tm_1 (List.mem_of_getElem? (i := 2) rfl)), by decide +kernel, (tm_14 (List.mem_of_getElem? (i := 7) rfl)), (tm_14 (List.mem_of_getElem? (i := 8) rfl))⟩
set_option maxHeartbeats 4000000 in
set_option maxRecDepth 100000 in
theorem kk_X4_brake (l : Launch) (g : vx_G) (S : vx_St) (h b : Int32) (n : Nat) (hn : S.1 3 0 = nI n) (hn8 : n ≤ 8) : vx_M l g yX4_brake cX4_brake 4 (some .int) (vx_R 1 21) [.ref (g.2.2.1 0), .int h, .int b] S (vx_pi (fun r S' => r = (if pu_hq h (S.1 3 0) = true then vx_i (pu_in (S.1 11 5) h) else -101) ∧ S' = if pu_hq h (S.1 3 0) = true then vx_u S 11 5 (aw_brk (S.1 11 5) h b) else S)) := by
  refine vx_M.intro (by decide) (Nat.le_of_ble_eq_true rfl) ?_
  intro p e s m args below meth c C
  refine vv_aload_n C dX4_brake_0 rfl 0 rfl ?_
  refine vv_gR C (a := 0) (k := 1) (b := 3) inlX4 rfl rfl rfl rfl (by decide) rfl (tm_1 (List.mem_of_getElem? (i := 20) rfl)) dX4_brake_1 ?_
  refine vv_iload_n C dX4_brake_4 rfl 1 rfl ?_
  refine vv_cVN_F C (a := 3) (kk_X1_has l g _ _) yk_X1_has (List.mem_of_getElem? (i := 42) rfl) rfl rfl rfl (by decide) rfl (Nat.le_of_ble_eq_true rfl) rfl dX4_brake_5 ?_
  refine vv_ifb_ne (tgt := 14) C dX4_brake_8 (by decide) (fun h8 => ?_) (fun h8 => ?_)
  · refine vv_aload_n C dX4_brake_14 rfl 0 rfl ?_
    refine vv_gR C (a := 0) (k := 2) (b := 11) inlX4 rfl rfl rfl rfl (by decide) rfl (tm_2 (List.mem_of_getElem? (i := 0) rfl)) dX4_brake_15 ?_
    refine vv_getIN C (a := 11) (k := 5) (o := 0) inlX0 rfl rfl rfl (by decide) rfl (List.mem_of_getElem? (i := 22) rfl) dX4_brake_18 ?_
    refine vv_iload_n C dX4_brake_21 rfl 1 rfl ?_
    refine vv_cS_F C (kk_X4_isIn l g _ _ _) yk_X4_isIn (tm_12 (List.mem_of_getElem? (i := 13) rfl)) (by decide) rfl (Nat.le_of_ble_eq_true rfl) rfl dX4_brake_22 ?_
    refine vv_cS_F C (kk_X4_oneIf l g _ _) yk_X4_oneIf (tm_12 (List.mem_of_getElem? (i := 16) rfl)) (by decide) rfl (Nat.le_of_ble_eq_true rfl) rfl dX4_brake_25 ?_
    refine vv_istore_n (i := 3) (L' := [_, _, _, _]) C dX4_brake_28 rfl (by decide) rfl ?_
    refine vv_aload_n C dX4_brake_29 rfl 1 rfl ?_
    refine vv_gR C (a := 0) (k := 2) (b := 11) inlX4 rfl rfl rfl rfl (by decide) rfl (tm_2 (List.mem_of_getElem? (i := 0) rfl)) dX4_brake_30 ?_
    refine vv_iload_n C dX4_brake_33 rfl 3 rfl ?_
    refine vv_if_eq (tgt := 52) C dX4_brake_34 (by decide) (fun h34 => ?_) (fun h34 => ?_)
    · refine vv_aload_n C dX4_brake_52 rfl 1 rfl ?_
      refine vv_gR C (a := 0) (k := 2) (b := 11) inlX4 rfl rfl rfl rfl (by decide) rfl (tm_2 (List.mem_of_getElem? (i := 0) rfl)) dX4_brake_53 ?_
      refine vv_getIN C (a := 11) (k := 5) (o := 0) inlX0 rfl rfl rfl (by decide) rfl (List.mem_of_getElem? (i := 22) rfl) dX4_brake_56 ?_
      refine vv_iload_n C dX4_brake_59 rfl 2 rfl ?_
      refine vv_cS_F C (kk_X4_bit l g _ _) yk_X4_bit (tm_14 (List.mem_of_getElem? (i := 10) rfl)) (by decide) rfl (Nat.le_of_ble_eq_true rfl) rfl dX4_brake_60 ?_
      refine vv_iconst (v := (-1)) C dX4_brake_63 (by decide) ?_
      refine vv_ixor C dX4_brake_64 ?_
      refine vv_iand C dX4_brake_65 ?_
      refine vv_putIN C (a := 11) (k := 5) inlX0 tyX0 tyX0_ok nmX0 rfl rfl rfl (by decide) rfl rfl rfl (List.mem_of_getElem? (i := 22) rfl) dX4_brake_66 ?_
      refine vv_iload_n C dX4_brake_69 rfl 0 rfl ?_
      refine vv_jret C dX4_brake_70 ?_
      exact ⟨by rw [if_pos (show pu_hq h (S.1 3 0) = true from h8)]; exact vx_i_b _, by rw [if_pos (show pu_hq h (S.1 3 0) = true from h8), aw_brk, if_pos h34]⟩
    · refine vv_aload_n C dX4_brake_37 rfl 1 rfl ?_
      refine vv_gR C (a := 0) (k := 2) (b := 11) inlX4 rfl rfl rfl rfl (by decide) rfl (tm_2 (List.mem_of_getElem? (i := 0) rfl)) dX4_brake_38 ?_
      refine vv_getIN C (a := 11) (k := 5) (o := 0) inlX0 rfl rfl rfl (by decide) rfl (List.mem_of_getElem? (i := 22) rfl) dX4_brake_41 ?_
      refine vv_iload_n C dX4_brake_44 rfl 2 rfl ?_
      refine vv_cS_F C (kk_X4_bit l g _ _) yk_X4_bit (tm_14 (List.mem_of_getElem? (i := 10) rfl)) (by decide) rfl (Nat.le_of_ble_eq_true rfl) rfl dX4_brake_45 ?_
      refine vv_ior C dX4_brake_48 ?_
      refine vv_goto (tgt := 66) C dX4_brake_49 (by decide) ?_
      refine vv_putIN C (a := 11) (k := 5) inlX0 tyX0 tyX0_ok nmX0 rfl rfl rfl (by decide) rfl rfl rfl (List.mem_of_getElem? (i := 22) rfl) dX4_brake_66 ?_
      refine vv_iload_n C dX4_brake_69 rfl 0 rfl ?_
      refine vv_jret C dX4_brake_70 ?_
      exact ⟨by rw [if_pos (show pu_hq h (S.1 3 0) = true from h8)]; exact vx_i_b _, by rw [if_pos (show pu_hq h (S.1 3 0) = true from h8), aw_brk, if_neg h34]⟩
  · refine vv_bipush (v := (-101)) C dX4_brake_11 (by decide) ?_
    refine vv_jret C dX4_brake_13 ?_
    exact ⟨by simp [pu_hq, h8], by simp [pu_hq, h8]⟩
theorem yk_X4_rain : vx_yV yX4_rain cX4_rain 3 (some .int) 1 := ⟨(tm_14 (List.mem_of_getElem? (i := 18) rfl)), (tm_1 (List.mem_of_getElem? (i := 2) rfl)), by decide +kernel, (tm_14 (List.mem_of_getElem? (i := 16) rfl)), (tm_14 (List.mem_of_getElem? (i := 17) rfl))⟩
set_option maxHeartbeats 4000000 in
set_option maxRecDepth 100000 in
theorem kk_X4_rain (l : Launch) (g : vx_G) (S : vx_St) (b : Int32) (hb : vx_b01 b = b) : vx_M l g yX4_rain cX4_rain 3 (some .int) (vx_R 1 20) [.ref (g.2.2.1 0), .int b] S (vx_pi (fun r S' => r = vx_b01 (S.1 11 6) ∧ S' = vx_u S 11 6 b)) := by
  refine vx_M.intro (by decide) (Nat.le_of_ble_eq_true rfl) ?_
  intro p e s m args below meth c C
  refine vv_aload_n C dX4_rain_0 rfl 0 rfl ?_
  refine vv_gR C (a := 0) (k := 2) (b := 11) inlX4 rfl rfl rfl rfl (by decide) rfl (tm_2 (List.mem_of_getElem? (i := 0) rfl)) dX4_rain_1 ?_
  refine vv_getZN C (a := 11) (k := 6) (o := 0) inlX0 rfl rfl rfl (by decide) rfl (List.mem_of_getElem? (i := 23) rfl) dX4_rain_4 ?_
  refine vv_cS_F C (kk_X4_oneIf l g _ _) yk_X4_oneIf (tm_12 (List.mem_of_getElem? (i := 16) rfl)) (by decide) rfl (Nat.le_of_ble_eq_true rfl) rfl dX4_rain_7 ?_
  refine vv_istore_n (i := 2) (L' := [_, _, _]) C dX4_rain_10 rfl (by decide) rfl ?_
  refine vv_aload_n C dX4_rain_11 rfl 1 rfl ?_
  refine vv_gR C (a := 0) (k := 2) (b := 11) inlX4 rfl rfl rfl rfl (by decide) rfl (tm_2 (List.mem_of_getElem? (i := 0) rfl)) dX4_rain_12 ?_
  refine vv_iload_n C dX4_rain_15 rfl 2 rfl ?_
  refine vv_putZN C (a := 11) (k := 6) inlX0 tyX0 tyX0_ok nmX0 rfl rfl rfl (by decide) rfl rfl rfl hb (List.mem_of_getElem? (i := 23) rfl) dX4_rain_16 ?_
  refine vv_iload_n C dX4_rain_19 rfl 0 rfl ?_
  refine vv_jret C dX4_rain_20 ?_
  exact ⟨vx_b_b _, rfl⟩
theorem yk_X4_wants : vx_yV yX4_wants cX4_wants 2 (some .int) 1 := ⟨(tm_15 (List.mem_of_getElem? (i := 3) rfl)), (tm_1 (List.mem_of_getElem? (i := 2) rfl)), by decide +kernel, (tm_15 (List.mem_of_getElem? (i := 1) rfl)), (tm_15 (List.mem_of_getElem? (i := 2) rfl))⟩
set_option maxHeartbeats 4000000 in
set_option maxRecDepth 100000 in
theorem kk_X4_wants (l : Launch) (g : vx_G) (S : vx_St) (h : Int32) (n : Nat) (hn : S.1 3 0 = nI n) (hn8 : n ≤ 8) : vx_M l g yX4_wants cX4_wants 2 (some .int) (vx_R 2 45) [.ref (g.2.2.1 0), .int h] S (vx_pf (aw_want (S.1 3 0) (pu_hs S) (S.1 11 2) (S.1 11 5) (S.1 11 4) h) S) := by
  refine vx_M.intro (by decide) (Nat.le_of_ble_eq_true rfl) ?_
  intro p e s m args below meth c C
  refine vv_aload_n C dX4_wants_0 rfl 0 rfl ?_
  refine vv_gR C (a := 0) (k := 1) (b := 3) inlX4 rfl rfl rfl rfl (by decide) rfl (tm_1 (List.mem_of_getElem? (i := 20) rfl)) dX4_wants_1 ?_
  refine vv_iload_n C dX4_wants_4 rfl 1 rfl ?_
  refine vv_cVN_F C (a := 3) (kk_X1_has l g _ _) yk_X1_has (List.mem_of_getElem? (i := 42) rfl) rfl rfl rfl (by decide) rfl (Nat.le_of_ble_eq_true rfl) rfl dX4_wants_5 ?_
  refine vv_ifb_eq (tgt := 26) C dX4_wants_8 (by decide) (fun h8 => ?_) (fun h8 => ?_)
  · refine vv_bipush (v := (-101)) C dX4_wants_26 (by decide) ?_
    refine vv_fret C dX4_wants_28 ?_
    simp [aw_want, pu_hq, h8]
  · have hq := h8
    obtain ⟨k, hk, rfl⟩ := pu_hq_k hn (by omega) h8
    refine vv_aload_n C dX4_wants_11 rfl 0 rfl ?_
    refine vv_gR C (a := 0) (k := 2) (b := 11) inlX4 rfl rfl rfl rfl (by decide) rfl (tm_2 (List.mem_of_getElem? (i := 0) rfl)) dX4_wants_12 ?_
    refine vv_aload_n C dX4_wants_15 rfl 0 rfl ?_
    refine vv_gR C (a := 0) (k := 1) (b := 3) inlX4 rfl rfl rfl rfl (by decide) rfl (tm_1 (List.mem_of_getElem? (i := 20) rfl)) dX4_wants_16 ?_
    refine vv_iload_n C dX4_wants_19 rfl 1 rfl ?_
    refine vv_cVN_F C (a := 11) (kk_X0_wantOf l g _ _ rfl k (by omega)) yk_X0_wantOf (List.mem_of_getElem? (i := 44) rfl) rfl rfl rfl (by decide) rfl (Nat.le_of_ble_eq_true rfl) rfl dX4_wants_20 ?_
    refine vv_goto (tgt := 28) C dX4_wants_23 (by decide) ?_
    refine vv_fret C dX4_wants_28 ?_
    rw [aw_want, if_pos (show pu_hq (nI k) (S.1 3 0) = true from hq), nI_clamp (by omega)]
    rfl
theorem yk_X4_goes : vx_yV yX4_goes cX4_goes 2 (some .int) 1 := ⟨(tm_16 (List.mem_of_getElem? (i := 3) rfl)), (tm_1 (List.mem_of_getElem? (i := 2) rfl)), by decide +kernel, (tm_16 (List.mem_of_getElem? (i := 1) rfl)), (tm_16 (List.mem_of_getElem? (i := 2) rfl))⟩
set_option maxHeartbeats 4000000 in
set_option maxRecDepth 100000 in
theorem kk_X4_goes (l : Launch) (g : vx_G) (S : vx_St) (t : Int32) (n : Nat) (hn : S.1 3 0 = nI n) (hn8 : n ≤ 8) : vx_M l g yX4_goes cX4_goes 2 (some .int) (vx_R 3 70) [.ref (g.2.2.1 0), .int t] S (vx_pi (fun r S' => r = (if aw_bits t (S.1 3 0) = true then pu_G (pu_hs S) (S.1 10) (S.1 11 6) (S.1 11 2) (S.1 11 5) (S.1 11 4) n t else -102) ∧ pu_chg S S' [14])) := by
  refine vx_M.intro (by decide) (Nat.le_of_ble_eq_true rfl) ?_
  intro p e s m args below meth c C
  refine vv_aload_n C dX4_goes_0 rfl 0 rfl ?_
  refine vv_gR C (a := 0) (k := 1) (b := 3) inlX4 rfl rfl rfl rfl (by decide) rfl (tm_1 (List.mem_of_getElem? (i := 20) rfl)) dX4_goes_1 ?_
  refine vv_iload_n C dX4_goes_4 rfl 1 rfl ?_
  refine vv_cVN_F C (a := 3) (kk_X1_areBits l g _ _) yk_X1_areBits (List.mem_of_getElem? (i := 48) rfl) rfl rfl rfl (by decide) rfl (Nat.le_of_ble_eq_true rfl) rfl dX4_goes_5 ?_
  refine vv_ifb_ne (tgt := 14) C dX4_goes_8 (by decide) (fun h8 => ?_) (fun h8 => ?_)
  · refine vv_aload_n C dX4_goes_14 rfl 0 rfl ?_
    refine vv_gR C (a := 0) (k := 2) (b := 11) inlX4 rfl rfl rfl rfl (by decide) rfl (tm_2 (List.mem_of_getElem? (i := 0) rfl)) dX4_goes_15 ?_
    refine vv_aload_n C dX4_goes_18 rfl 0 rfl ?_
    refine vv_gR C (a := 0) (k := 1) (b := 3) inlX4 rfl rfl rfl rfl (by decide) rfl (tm_1 (List.mem_of_getElem? (i := 20) rfl)) dX4_goes_19 ?_
    refine vv_cVN_v C (a := 11) (kk_X0_tellWanted l g _ _ (show (11 : Nat) = 11 ∨ (11 : Nat) = 20 ∨ (11 : Nat) = 26 from Or.inl rfl) n hn hn8) yk_X0_tellWanted (List.mem_of_getElem? (i := 49) rfl) rfl rfl rfl (by decide) rfl (Nat.le_of_ble_eq_true rfl) rfl dX4_goes_22 (fun S22 h22 => ?_)
    obtain ⟨hc, hw⟩ := h22
    have hn2 : S22.1 3 0 = nI n := by rw [hc.2 3 (by decide)]; exact hn
    refine vv_aload_n C dX4_goes_25 rfl 0 rfl ?_
    refine vv_gR C (a := 0) (k := 2) (b := 11) inlX4 rfl rfl rfl rfl (by decide) rfl (tm_2 (List.mem_of_getElem? (i := 0) rfl)) dX4_goes_26 ?_
    refine vv_aload_n C dX4_goes_29 rfl 0 rfl ?_
    refine vv_gR C (a := 0) (k := 1) (b := 3) inlX4 rfl rfl rfl rfl (by decide) rfl (tm_1 (List.mem_of_getElem? (i := 20) rfl)) dX4_goes_30 ?_
    refine vv_iload_n C dX4_goes_33 rfl 1 rfl ?_
    refine vv_cVN_F C (a := 11) (kk_X0_goesBy l g _ _ rfl rfl _ n hn2 hn8) yk_X0_goesBy (List.mem_of_getElem? (i := 50) rfl) rfl rfl rfl (by decide) rfl (Nat.le_of_ble_eq_true rfl) rfl dX4_goes_34 ?_
    refine vv_jret C dX4_goes_37 ?_
    exact ⟨by rw [if_pos (show aw_bits t (S.1 3 0) = true from h8)]; exact pu_Gof (d := 11) (show (11 : Nat) = 11 ∨ (11 : Nat) = 20 ∨ (11 : Nat) = 26 from Or.inl rfl) hc hw t, hc⟩
  · refine vv_bipush (v := (-102)) C dX4_goes_11 (by decide) ?_
    refine vv_jret C dX4_goes_13 ?_
    exact ⟨by simp [aw_bits, h8], pu_chg_rf S _⟩
theorem yk_X4_hour : vx_yV yX4_hour cX4_hour 1 (some .int) 0 := ⟨(tm_18 (List.mem_of_getElem? (i := 1) rfl)), (tm_1 (List.mem_of_getElem? (i := 2) rfl)), by decide +kernel, (tm_17 (List.mem_of_getElem? (i := 23) rfl)), (tm_18 (List.mem_of_getElem? (i := 0) rfl))⟩
set_option maxHeartbeats 4000000 in
set_option maxRecDepth 100000 in
theorem kk_X4_hour (l : Launch) (g : vx_G) (S : vx_St) (n : Nat) (hn : S.1 3 0 = nI n) (hn8 : n ≤ 8) : vx_M l g yX4_hour cX4_hour 1 (some .int) (vx_R 4 94) [.ref (g.2.2.1 0)] S (vx_pi (fun r S' => r = (if aw_goB (S.1 11 2) (S.1 11 7) = true then pu_feet (pu_hs S) (S.1 10) (S.1 11 6) (S.1 11 1) (S.1 11 2) (S.1 11 5) (S.1 11 4) n else -103) ∧ pu_chg S S' [11, 12, 14] ∧ S'.1 11 = (if aw_goB (S.1 11 2) (S.1 11 7) = true then pu_nx (pu_hs S) (S.1 10) (S.1 11) n else S.1 11) ∧ S'.1 12 = (if aw_goB (S.1 11 2) (S.1 11 7) = true then pu_took (S.1 12) (pu_W (pu_hs S) (S.1 11 2) (S.1 11 5) (S.1 11 4)) (pu_set2 (pu_hs S) (S.1 10) (S.1 11 6) (S.1 11 1) (S.1 11 2) (S.1 11 5) (S.1 11 4) n) n else S.1 12))) := by
  refine vx_M.intro (by decide) (Nat.le_of_ble_eq_true rfl) ?_
  intro p e s m args below meth c C
  refine vv_aload_n C dX4_hour_0 rfl 0 rfl ?_
  refine vv_gR C (a := 0) (k := 2) (b := 11) inlX4 rfl rfl rfl rfl (by decide) rfl (tm_2 (List.mem_of_getElem? (i := 0) rfl)) dX4_hour_1 ?_
  refine vv_cVN_F C (a := 11) (kk_X0_hourComes l g _ _ rfl) yk_X0_hourComes (List.mem_of_getElem? (i := 53) rfl) rfl rfl rfl (by decide) rfl (Nat.le_of_ble_eq_true rfl) rfl dX4_hour_4 ?_
  refine vv_ifb_eq (tgt := 24) C dX4_hour_7 (by decide) (fun h7 => ?_) (fun h7 => ?_)
  · refine vv_bipush (v := (-103)) C dX4_hour_24 (by decide) ?_
    refine vv_jret C dX4_hour_26 ?_
    have hg : ¬ aw_goB (S.1 11 2) (S.1 11 7) = true := by rw [show aw_goB (S.1 11 2) (S.1 11 7) = false from h7]; decide
    exact ⟨by rw [if_neg hg], pu_chg_rf S _, by rw [if_neg hg], by rw [if_neg hg]⟩
  · refine vv_aload_n C dX4_hour_10 rfl 0 rfl ?_
    refine vv_gR C (a := 0) (k := 2) (b := 11) inlX4 rfl rfl rfl rfl (by decide) rfl (tm_2 (List.mem_of_getElem? (i := 0) rfl)) dX4_hour_11 ?_
    refine vv_aload_n C dX4_hour_14 rfl 0 rfl ?_
    refine vv_gR C (a := 0) (k := 1) (b := 3) inlX4 rfl rfl rfl rfl (by decide) rfl (tm_1 (List.mem_of_getElem? (i := 20) rfl)) dX4_hour_15 ?_
    refine vv_cVN_i C (a := 11) (kk_X0_passHour l g _ _ (show (11 : Nat) = 11 ∨ (11 : Nat) = 20 ∨ (11 : Nat) = 26 from Or.inl rfl) n hn hn8) yk_X0_passHour (List.mem_of_getElem? (i := 54) rfl) rfl rfl rfl (by decide) rfl (Nat.le_of_ble_eq_true rfl) rfl dX4_hour_18 (fun r18 S18 h18 => ?_)
    obtain ⟨k1, k2, k3, k4⟩ := h18
    refine vv_goto (tgt := 26) C dX4_hour_21 (by decide) ?_
    refine vv_jret C dX4_hour_26 ?_
    have hg : aw_goB (S.1 11 2) (S.1 11 7) = true := h7
    exact ⟨by rw [if_pos hg]; exact k1, k2, by rw [if_pos hg]; exact k3, by rw [if_pos hg]; exact k4⟩
theorem yk_X4_worked : vx_yV yX4_worked cX4_worked 1 (some .int) 0 := ⟨(tm_19 (List.mem_of_getElem? (i := 14) rfl)), (tm_1 (List.mem_of_getElem? (i := 2) rfl)), by decide +kernel, (tm_19 (List.mem_of_getElem? (i := 12) rfl)), (tm_19 (List.mem_of_getElem? (i := 13) rfl))⟩
set_option maxHeartbeats 4000000 in
set_option maxRecDepth 100000 in
theorem kk_X4_worked (l : Launch) (g : vx_G) (S : vx_St)  : vx_M l g yX4_worked cX4_worked 1 (some .int) (vx_R 0 0) [.ref (g.2.2.1 0)] S (vx_pf (S.1 11 4) S) := by
  refine vx_M.intro (by decide) (Nat.le_of_ble_eq_true rfl) ?_
  intro p e s m args below meth c C
  refine vv_aload_n C dX4_worked_0 rfl 0 rfl ?_
  refine vv_gR C (a := 0) (k := 2) (b := 11) inlX4 rfl rfl rfl rfl (by decide) rfl (tm_2 (List.mem_of_getElem? (i := 0) rfl)) dX4_worked_1 ?_
  refine vv_getIN C (a := 11) (k := 4) (o := 0) inlX0 rfl rfl rfl (by decide) rfl (List.mem_of_getElem? (i := 21) rfl) dX4_worked_4 ?_
  refine vv_fret C dX4_worked_7 ?_
  rfl
theorem yk_X4_part : vx_yV yX4_part cX4_part 2 (some .int) 1 := ⟨(tm_19 (List.mem_of_getElem? (i := 22) rfl)), (tm_1 (List.mem_of_getElem? (i := 2) rfl)), by decide +kernel, (tm_19 (List.mem_of_getElem? (i := 20) rfl)), (tm_19 (List.mem_of_getElem? (i := 21) rfl))⟩
set_option maxHeartbeats 4000000 in
set_option maxRecDepth 100000 in
theorem kk_X4_part (l : Launch) (g : vx_G) (S : vx_St) (h : Int32) (n : Nat) (hn : S.1 3 0 = nI n) (hn8 : n ≤ 8) : vx_M l g yX4_part cX4_part 2 (some .int) (vx_R 2 48) [.ref (g.2.2.1 0), .int h] S (vx_pi (fun r S' => r = (if pu_hq h (S.1 3 0) = true then pu_pts (S.1 11 0 - S.1 11 1) (S.1 11 8) (S.1 12) (S.1 15) (S.1 16) n h.toNatClampNeg else -101) ∧ pu_chg S S' [15, 16])) := by
  refine vx_M.intro (by decide) (Nat.le_of_ble_eq_true rfl) ?_
  intro p e s m args below meth c C
  refine vv_aload_n C dX4_part_0 rfl 0 rfl ?_
  refine vv_gR C (a := 0) (k := 1) (b := 3) inlX4 rfl rfl rfl rfl (by decide) rfl (tm_1 (List.mem_of_getElem? (i := 20) rfl)) dX4_part_1 ?_
  refine vv_iload_n C dX4_part_4 rfl 1 rfl ?_
  refine vv_cVN_F C (a := 3) (kk_X1_has l g _ _) yk_X1_has (List.mem_of_getElem? (i := 42) rfl) rfl rfl rfl (by decide) rfl (Nat.le_of_ble_eq_true rfl) rfl dX4_part_5 ?_
  refine vv_ifb_ne (tgt := 14) C dX4_part_8 (by decide) (fun h8 => ?_) (fun h8 => ?_)
  · have hq := h8
    obtain ⟨k, hk, rfl⟩ := pu_hq_k hn (by omega) h8
    refine vv_aload_n C dX4_part_14 rfl 0 rfl ?_
    refine vv_gR C (a := 0) (k := 2) (b := 11) inlX4 rfl rfl rfl rfl (by decide) rfl (tm_2 (List.mem_of_getElem? (i := 0) rfl)) dX4_part_15 ?_
    refine vv_aload_n C dX4_part_18 rfl 0 rfl ?_
    refine vv_gR C (a := 0) (k := 1) (b := 3) inlX4 rfl rfl rfl rfl (by decide) rfl (tm_1 (List.mem_of_getElem? (i := 20) rfl)) dX4_part_19 ?_
    refine vv_getIN C (a := 3) (k := 0) (o := 0) inlX1 rfl rfl rfl (by decide) rfl (List.mem_of_getElem? (i := 5) rfl) dX4_part_22 ?_
    rw [hn]
    refine vv_cVN_v C (a := 11) (kk_X0_tellParts l g _ _ (show (11 : Nat) = 11 ∨ (11 : Nat) = 20 ∨ (11 : Nat) = 26 from Or.inl rfl) n hn8) yk_X0_tellParts (List.mem_of_getElem? (i := 56) rfl) rfl rfl rfl (by decide) rfl (Nat.le_of_ble_eq_true rfl) rfl dX4_part_25 (fun S25 h25 => ?_)
    obtain ⟨hc, hp⟩ := h25
    refine vv_aload_n C dX4_part_28 rfl 0 rfl ?_
    refine vv_gR C (a := 0) (k := 2) (b := 11) inlX4 rfl rfl rfl rfl (by decide) rfl (tm_2 (List.mem_of_getElem? (i := 0) rfl)) dX4_part_29 ?_
    refine vv_gRN C (a := 11) (k := 12) (b := 15) inlX0 rfl rfl rfl rfl (by decide) rfl (List.mem_of_getElem? (i := 28) rfl) dX4_part_32 ?_
    refine vv_iload_n C dX4_part_35 rfl 1 rfl ?_
    refine vv_ialdN C (a := 15) rfl (by omega) (by decide) dX4_part_36 ?_
    refine vv_jret C dX4_part_37 ?_
    exact ⟨by rw [← hn, if_pos (show pu_hq (nI k) (S.1 3 0) = true from hq), nI_clamp (by omega)]; rw [show S25.1 15 = _ from hp], hc⟩
  · refine vv_bipush (v := (-101)) C dX4_part_11 (by decide) ?_
    refine vv_jret C dX4_part_13 ?_
    exact ⟨by simp [pu_hq, h8], pu_chg_rf S _⟩
theorem yk_X4_night : vx_yV yX4_night cX4_night 1 (some .int) 0 := ⟨(tm_20 (List.mem_of_getElem? (i := 21) rfl)), (tm_1 (List.mem_of_getElem? (i := 2) rfl)), by decide +kernel, (tm_20 (List.mem_of_getElem? (i := 19) rfl)), (tm_20 (List.mem_of_getElem? (i := 20) rfl))⟩
set_option maxHeartbeats 4000000 in
set_option maxRecDepth 100000 in
theorem kk_X4_night (l : Launch) (g : vx_G) (S : vx_St) (n : Nat) (hn : S.1 3 0 = nI n) (hn8 : n ≤ 8) : vx_M l g yX4_night cX4_night 1 (some .int) (vx_R 3 71) [.ref (g.2.2.1 0)] S (vx_pi (fun r S' => r = S.1 11 0 - S.1 11 1 ∧ pu_chg S S' [11, 12, 13, 15, 16] ∧ S'.1 11 = pu_ngt (S.1 11) ∧ S'.1 12 = pu_fill (fun _ => 0) (S.1 12) n ∧ S'.1 13 = pu_fill (fun h => pu_mn (S.1 13 h + pu_pts (S.1 11 0 - S.1 11 1) (S.1 11 8) (S.1 12) (S.1 15) (S.1 16) n h)) (S.1 13) n)) := by
  refine vx_M.intro (by decide) (Nat.le_of_ble_eq_true rfl) ?_
  intro p e s m args below meth c C
  refine vv_aload_n C dX4_night_0 rfl 0 rfl ?_
  refine vv_gR C (a := 0) (k := 2) (b := 11) inlX4 rfl rfl rfl rfl (by decide) rfl (tm_2 (List.mem_of_getElem? (i := 0) rfl)) dX4_night_1 ?_
  refine vv_aload_n C dX4_night_4 rfl 0 rfl ?_
  refine vv_gR C (a := 0) (k := 1) (b := 3) inlX4 rfl rfl rfl rfl (by decide) rfl (tm_1 (List.mem_of_getElem? (i := 20) rfl)) dX4_night_5 ?_
  refine vv_getIN C (a := 3) (k := 0) (o := 0) inlX1 rfl rfl rfl (by decide) rfl (List.mem_of_getElem? (i := 5) rfl) dX4_night_8 ?_
  rw [hn]
  refine vv_cVN_i C (a := 11) (kk_X0_passNight l g _ _ (show (11 : Nat) = 11 ∨ (11 : Nat) = 20 ∨ (11 : Nat) = 26 from Or.inl rfl) n hn8) yk_X0_passNight (List.mem_of_getElem? (i := 57) rfl) rfl rfl rfl (by decide) rfl (Nat.le_of_ble_eq_true rfl) rfl dX4_night_11 (fun r11 S11 h11 => ?_)
  refine vv_jret C dX4_night_14 ?_
  exact h11
theorem yk_X4_wipe : vx_yV yX4_wipe cX4_wipe 2 (some .int) 0 := ⟨(tm_26 (List.mem_of_getElem? (i := 20) rfl)), (tm_1 (List.mem_of_getElem? (i := 2) rfl)), by decide +kernel, (tm_26 (List.mem_of_getElem? (i := 18) rfl)), (tm_26 (List.mem_of_getElem? (i := 19) rfl))⟩
set_option maxHeartbeats 4000000 in
set_option maxRecDepth 100000 in
theorem kk_X4_wipe (l : Launch) (g : vx_G) (S : vx_St)  : vx_M l g yX4_wipe cX4_wipe 2 (some .int) (vx_R 0 0) [.ref (g.2.2.1 0)] S (vx_pi (fun r S' => r = S.1 17 0 ∧ S' = vx_u S 17 0 0)) := by
  refine vx_M.intro (by decide) (Nat.le_of_ble_eq_true rfl) ?_
  intro p e s m args below meth c C
  refine vv_aload_n C dX4_wipe_0 rfl 0 rfl ?_
  refine vv_gR C (a := 0) (k := 3) (b := 17) inlX4 rfl rfl rfl rfl (by decide) rfl (tm_2 (List.mem_of_getElem? (i := 4) rfl)) dX4_wipe_1 ?_
  refine vv_getIN C (a := 17) (k := 0) (o := 0) inlX3 rfl rfl rfl (by decide) rfl (List.mem_of_getElem? (i := 30) rfl) dX4_wipe_4 ?_
  refine vv_istore_n (i := 1) (L' := [_, _]) C dX4_wipe_7 rfl (by decide) rfl ?_
  refine vv_aload_n C dX4_wipe_8 rfl 1 rfl ?_
  refine vv_gR C (a := 0) (k := 3) (b := 17) inlX4 rfl rfl rfl rfl (by decide) rfl (tm_2 (List.mem_of_getElem? (i := 4) rfl)) dX4_wipe_9 ?_
  refine vv_iconst (v := (0)) C dX4_wipe_12 (by decide) ?_
  refine vv_putIN C (a := 17) (k := 0) inlX3 tyX3 tyX3_ok nmX3 rfl rfl rfl (by decide) rfl rfl rfl (List.mem_of_getElem? (i := 30) rfl) dX4_wipe_13 ?_
  refine vv_iload_n C dX4_wipe_16 rfl 0 rfl ?_
  refine vv_jret C dX4_wipe_17 ?_
  exact ⟨rfl, rfl⟩
theorem yk_X4_leaks : vx_yV yX4_leaks cX4_leaks 3 (some .int) 0 := ⟨(tm_27 (List.mem_of_getElem? (i := 4) rfl)), (tm_1 (List.mem_of_getElem? (i := 2) rfl)), by decide +kernel, (tm_27 (List.mem_of_getElem? (i := 2) rfl)), (tm_27 (List.mem_of_getElem? (i := 3) rfl))⟩
set_option maxHeartbeats 4000000 in
set_option maxRecDepth 100000 in
theorem kk_X4_leaks (l : Launch) (g : vx_G) (S : vx_St) (n : Nat) (hn : S.1 3 0 = nI n) (hn8 : n ≤ 8) (mr : Nat) (hm : S.1 17 0 = nI mr) (hm8 : mr ≤ 8) : vx_M l g yX4_leaks cX4_leaks 3 (some .int) (vx_R 3 67) [.ref (g.2.2.1 0)] S (vx_pf (pu_leaks (S.1 18) (S.1 19) mr n) S) := by
  refine vx_M.intro (by decide) (Nat.le_of_ble_eq_true rfl) ?_
  intro p e s m args below meth c C
  have lp4 : ∀ (fu : Nat) (i : Nat), (n - i < fu ∧ i ≤ n) → vx_V p l e (vx_R 3 67) s m args below meth c (MQ below (vx_Q g (vx_pf (pu_leaks (S.1 18) (S.1 19) mr n) S)) args s 0 0 (vx_A g)) g 3 4 [(0, .ref (g.2.2.1 0)), (1, .int (pu_leaks (S.1 18) (S.1 19) mr i)), (2, .int (nI i))] [] (S) := by
    intro fu
    induction fu with
    | zero =>
      intro i hfu
      exact absurd hfu.1 (by omega)
    | succ fu ih =>
      intro i hfu
      obtain ⟨hf1, hf2⟩ := hfu
      refine vv_iload_n C dX4_leaks_4 rfl 2 rfl ?_
      refine vv_aload_n C dX4_leaks_5 rfl 0 rfl ?_
      refine vv_gR C (a := 0) (k := 1) (b := 3) inlX4 rfl rfl rfl rfl (by decide) rfl (tm_1 (List.mem_of_getElem? (i := 20) rfl)) dX4_leaks_6 ?_
      refine vv_getIN C (a := 3) (k := 0) (o := 0) inlX1 rfl rfl rfl (by decide) rfl (List.mem_of_getElem? (i := 5) rfl) dX4_leaks_9 ?_
      refine vv_icmp_ge (tgt := 40) C dX4_leaks_12 (by decide) (fun h12 => ?_) (fun h12 => ?_)
      · have hge := pu_geT hn (by omega) (by omega) h12
        obtain rfl : n = i := by omega
        refine vv_iload_n C dX4_leaks_40 rfl 1 rfl ?_
        refine vv_fret C dX4_leaks_41 ?_
        rfl
      · have hlt := pu_geF hn (by omega) (by omega) h12
        refine vv_aload_n C dX4_leaks_15 rfl 0 rfl ?_
        refine vv_gR C (a := 0) (k := 3) (b := 17) inlX4 rfl rfl rfl rfl (by decide) rfl (tm_2 (List.mem_of_getElem? (i := 4) rfl)) dX4_leaks_16 ?_
        refine vv_iload_n C dX4_leaks_19 rfl 2 rfl ?_
        refine vv_cVN_F C (a := 17) (kk_X3_leastLeakOf l g _ 17 rfl rfl rfl mr hm hm8 _) yk_X3_leastLeakOf (List.mem_of_getElem? (i := 65) rfl) rfl rfl rfl (by decide) rfl (Nat.le_of_ble_eq_true rfl) rfl dX4_leaks_20 ?_
        refine vv_iconst (v := (-1)) C dX4_leaks_23 (by decide) ?_
        refine vv_icmp_eq (tgt := 34) C dX4_leaks_24 (by decide) (fun h24 => ?_) (fun h24 => ?_)
        · refine vv_iincN (L' := [_, _, _]) (j := 2) C dX4_leaks_34 rfl (by decide) rfl ?_
          refine vv_goto (tgt := 4) C dX4_leaks_37 (by decide) ?_
          refine vv_sub (L' := [_, _, _]) [1, 2, 0] rfl ?_
          have q := ih (i + 1) ⟨by omega, by omega⟩
          rw [pu_leaks, if_pos h24] at q
          exact q
        · refine vv_iload_n C dX4_leaks_27 rfl 1 rfl ?_
          refine vv_iload_n C dX4_leaks_28 rfl 2 rfl ?_
          refine vv_cS_F C (kk_X4_bit l g _ _) yk_X4_bit (tm_14 (List.mem_of_getElem? (i := 10) rfl)) (by decide) rfl (Nat.le_of_ble_eq_true rfl) rfl dX4_leaks_29 ?_
          refine vv_ior C dX4_leaks_32 ?_
          refine vv_istore_n (i := 1) (L' := [_, _, _]) C dX4_leaks_33 rfl (by decide) rfl ?_
          refine vv_iincN (L' := [_, _, _]) (j := 2) C dX4_leaks_34 rfl (by decide) rfl ?_
          refine vv_goto (tgt := 4) C dX4_leaks_37 (by decide) ?_
          refine vv_sub (L' := [_, _, _]) [2, 1, 0] rfl ?_
          have q := ih (i + 1) ⟨by omega, by omega⟩
          rw [pu_leaks, if_neg h24] at q
          exact q
  refine vv_iconst (v := (0)) C dX4_leaks_0 (by decide) ?_
  refine vv_istore_n (i := 1) (L' := [_, _]) C dX4_leaks_1 rfl (by decide) rfl ?_
  refine vv_iconst (v := (nI 0)) C dX4_leaks_2 (by decide) ?_
  refine vv_istore_n (i := 2) (L' := [_, _, _]) C dX4_leaks_3 rfl (by decide) rfl ?_
  refine vv_sub (L' := [_, _, _]) [2, 1, 0] rfl ?_
  exact lp4 (n + 1) 0 ⟨by omega, by omega⟩
theorem yk_X4_leak : vx_yV yX4_leak cX4_leak 2 (some .int) 1 := ⟨(tm_28 (List.mem_of_getElem? (i := 7) rfl)), (tm_1 (List.mem_of_getElem? (i := 2) rfl)), by decide +kernel, (tm_28 (List.mem_of_getElem? (i := 5) rfl)), (tm_28 (List.mem_of_getElem? (i := 6) rfl))⟩
set_option maxHeartbeats 4000000 in
set_option maxRecDepth 100000 in
theorem kk_X4_leak (l : Launch) (g : vx_G) (S : vx_St) (h : Int32) (mr : Nat) (hm : S.1 17 0 = nI mr) (hm8 : mr ≤ 8) : vx_M l g yX4_leak cX4_leak 2 (some .int) (vx_R 3 67) [.ref (g.2.2.1 0), .int h] S (vx_pf (if pu_hq h (S.1 3 0) = true then pu_leak (S.1 18) (S.1 19) h mr 9 else -101) S) := by
  refine vx_M.intro (by decide) (Nat.le_of_ble_eq_true rfl) ?_
  intro p e s m args below meth c C
  refine vv_aload_n C dX4_leak_0 rfl 0 rfl ?_
  refine vv_gR C (a := 0) (k := 1) (b := 3) inlX4 rfl rfl rfl rfl (by decide) rfl (tm_1 (List.mem_of_getElem? (i := 20) rfl)) dX4_leak_1 ?_
  refine vv_iload_n C dX4_leak_4 rfl 1 rfl ?_
  refine vv_cVN_F C (a := 3) (kk_X1_has l g _ _) yk_X1_has (List.mem_of_getElem? (i := 42) rfl) rfl rfl rfl (by decide) rfl (Nat.le_of_ble_eq_true rfl) rfl dX4_leak_5 ?_
  refine vv_ifb_eq (tgt := 22) C dX4_leak_8 (by decide) (fun h8 => ?_) (fun h8 => ?_)
  · refine vv_bipush (v := (-101)) C dX4_leak_22 (by decide) ?_
    refine vv_fret C dX4_leak_24 ?_
    rw [if_neg (show ¬ pu_hq h (S.1 3 0) = true by rw [show pu_hq h (S.1 3 0) = false from h8]; decide)]
  · refine vv_aload_n C dX4_leak_11 rfl 0 rfl ?_
    refine vv_gR C (a := 0) (k := 3) (b := 17) inlX4 rfl rfl rfl rfl (by decide) rfl (tm_2 (List.mem_of_getElem? (i := 4) rfl)) dX4_leak_12 ?_
    refine vv_iload_n C dX4_leak_15 rfl 1 rfl ?_
    refine vv_cVN_F C (a := 17) (kk_X3_leastLeakOf l g _ 17 rfl rfl rfl mr hm hm8 _) yk_X3_leastLeakOf (List.mem_of_getElem? (i := 65) rfl) rfl rfl rfl (by decide) rfl (Nat.le_of_ble_eq_true rfl) rfl dX4_leak_16 ?_
    refine vv_goto (tgt := 24) C dX4_leak_19 (by decide) ?_
    refine vv_fret C dX4_leak_24 ?_
    rw [if_pos (show pu_hq h (S.1 3 0) = true from h8)]
theorem yk_X4_read : vx_yV yX4_read cX4_read 4 (some .int) 2 := ⟨(tm_26 (List.mem_of_getElem? (i := 1) rfl)), (tm_1 (List.mem_of_getElem? (i := 2) rfl)), by decide +kernel, (tm_25 (List.mem_of_getElem? (i := 23) rfl)), (tm_26 (List.mem_of_getElem? (i := 0) rfl))⟩
set_option maxHeartbeats 4000000 in
set_option maxRecDepth 100000 in
theorem kk_X4_read (l : Launch) (g : vx_G) (S : vx_St) (t f : Int32) (n : Nat) (hn : S.1 3 0 = nI n) (hn8 : n ≤ 8) (mr : Nat) (hm : S.1 17 0 = nI mr) (hm8 : mr ≤ 8) : vx_M l g yX4_read cX4_read 4 (some .int) (vx_R 3 61) [.ref (g.2.2.1 0), .int t, .int f] S (vx_pi (fun r S' => r = aw_read t f (S.1 3 0) mr ∧ S' = if aw_rdB t f (S.1 3 0) = true ∧ mr < 8 then vx_u (vx_u (vx_u S 18 mr (pu_or (S.1 10) t n)) 19 mr (f - pu_sum (S.1 8) t n - pu_sum (S.1 9) (pu_or (S.1 10) t n) n)) 17 0 (nI (mr + 1)) else S)) := by
  refine vx_M.intro (by decide) (Nat.le_of_ble_eq_true rfl) ?_
  intro p e s m args below meth c C
  refine vv_iload_n C dX4_read_0 rfl 1 rfl ?_
  refine vv_if_eq (tgt := 27) C dX4_read_1 (by decide) (fun h1 => ?_) (fun h1 => ?_)
  · refine vv_bipush (v := (-102)) C dX4_read_27 (by decide) ?_
    refine vv_jret C dX4_read_29 ?_
    have hB : aw_rdB t f (S.1 3 0) = false := by simp [aw_rdB, h1]
    exact ⟨by rw [aw_read, if_neg (by rw [hB]; decide)], by rw [if_neg (by rw [hB]; intro z; exact absurd z.1 (by decide))]⟩
  · refine vv_aload_n C dX4_read_4 rfl 0 rfl ?_
    refine vv_gR C (a := 0) (k := 1) (b := 3) inlX4 rfl rfl rfl rfl (by decide) rfl (tm_1 (List.mem_of_getElem? (i := 20) rfl)) dX4_read_5 ?_
    refine vv_iload_n C dX4_read_8 rfl 1 rfl ?_
    refine vv_cVN_F C (a := 3) (kk_X1_areBits l g _ _) yk_X1_areBits (List.mem_of_getElem? (i := 48) rfl) rfl rfl rfl (by decide) rfl (Nat.le_of_ble_eq_true rfl) rfl dX4_read_9 ?_
    refine vv_ifb_eq (tgt := 27) C dX4_read_12 (by decide) (fun h12 => ?_) (fun h12 => ?_)
    · have b12 : aw_bits t (S.1 3 0) = false := h12
      refine vv_bipush (v := (-102)) C dX4_read_27 (by decide) ?_
      refine vv_jret C dX4_read_29 ?_
      have hB : aw_rdB t f (S.1 3 0) = false := by simp [aw_rdB, b12]
      exact ⟨by rw [aw_read, if_neg (by rw [hB]; decide)], by rw [if_neg (by rw [hB]; intro z; exact absurd z.1 (by decide))]⟩
    · have b12 : aw_bits t (S.1 3 0) = true := h12
      refine vv_iload_n C dX4_read_15 rfl 2 rfl ?_
      refine vv_iconst (v := (1)) C dX4_read_16 (by decide) ?_
      refine vv_icmp_lt (tgt := 27) C dX4_read_17 (by decide) (fun h17 => ?_) (fun h17 => ?_)
      · have g17 := pu_lt h17
        refine vv_bipush (v := (-102)) C dX4_read_27 (by decide) ?_
        refine vv_jret C dX4_read_29 ?_
        have hB : aw_rdB t f (S.1 3 0) = false := by simp [aw_rdB, g17]
        exact ⟨by rw [aw_read, if_neg (by rw [hB]; decide)], by rw [if_neg (by rw [hB]; intro z; exact absurd z.1 (by decide))]⟩
      · have g17 := pu_nlt h17
        refine vv_iload_n C dX4_read_20 rfl 2 rfl ?_
        refine vv_sipush (v := (199)) C dX4_read_21 (by decide) ?_
        refine vv_icmp_le (tgt := 30) C dX4_read_24 (by decide) (fun h24 => ?_) (fun h24 => ?_)
        · have g24 := pu_le h24
          refine vv_aload_n C dX4_read_30 rfl 0 rfl ?_
          refine vv_gR C (a := 0) (k := 3) (b := 17) inlX4 rfl rfl rfl rfl (by decide) rfl (tm_2 (List.mem_of_getElem? (i := 4) rfl)) dX4_read_31 ?_
          refine vv_getIN C (a := 17) (k := 0) (o := 0) inlX3 rfl rfl rfl (by decide) rfl (List.mem_of_getElem? (i := 30) rfl) dX4_read_34 ?_
          refine vv_bipush (v := (nI 8)) C dX4_read_37 (by decide) ?_
          refine vv_icmp_lt (tgt := 45) C dX4_read_39 (by decide) (fun h39 => ?_) (fun h39 => ?_)
          · have g39 := pu_lt h39
            have hlt : mr < 8 := pu_geF (x := nI 8) rfl (by omega) (by omega) (by rw [← hm]; exact g39)
            refine vv_aload_n C dX4_read_45 rfl 0 rfl ?_
            refine vv_gR C (a := 0) (k := 1) (b := 3) inlX4 rfl rfl rfl rfl (by decide) rfl (tm_1 (List.mem_of_getElem? (i := 20) rfl)) dX4_read_46 ?_
            refine vv_iload_n C dX4_read_49 rfl 1 rfl ?_
            refine vv_cVN_F C (a := 3) (kk_X1_waysTo l g _ _ n hn hn8) yk_X1_waysTo (List.mem_of_getElem? (i := 62) rfl) rfl rfl rfl (by decide) rfl (Nat.le_of_ble_eq_true rfl) rfl dX4_read_50 ?_
            refine vv_istore_n (i := 3) (L' := [_, _, _, _]) C dX4_read_53 rfl (by decide) rfl ?_
            refine vv_aload_n C dX4_read_54 rfl 1 rfl ?_
            refine vv_gR C (a := 0) (k := 3) (b := 17) inlX4 rfl rfl rfl rfl (by decide) rfl (tm_2 (List.mem_of_getElem? (i := 4) rfl)) dX4_read_55 ?_
            refine vv_iload_n C dX4_read_58 rfl 0 rfl ?_
            refine vv_iload_n C dX4_read_59 rfl 3 rfl ?_
            refine vv_aload_n C dX4_read_60 rfl 1 rfl ?_
            refine vv_gR C (a := 0) (k := 1) (b := 3) inlX4 rfl rfl rfl rfl (by decide) rfl (tm_1 (List.mem_of_getElem? (i := 20) rfl)) dX4_read_61 ?_
            refine vv_iload_n C dX4_read_64 rfl 2 rfl ?_
            refine vv_cVN_F C (a := 3) (kk_X1_takesOf l g _ _ n hn hn8) yk_X1_takesOf (List.mem_of_getElem? (i := 61) rfl) rfl rfl rfl (by decide) rfl (Nat.le_of_ble_eq_true rfl) rfl dX4_read_65 ?_
            refine vv_isub C dX4_read_68 ?_
            refine vv_aload_n C dX4_read_69 rfl 1 rfl ?_
            refine vv_gR C (a := 0) (k := 1) (b := 3) inlX4 rfl rfl rfl rfl (by decide) rfl (tm_1 (List.mem_of_getElem? (i := 20) rfl)) dX4_read_70 ?_
            refine vv_iload_n C dX4_read_73 rfl 0 rfl ?_
            refine vv_cVN_F C (a := 3) (kk_X1_toldLossOf l g _ _ n hn hn8) yk_X1_toldLossOf (List.mem_of_getElem? (i := 63) rfl) rfl rfl rfl (by decide) rfl (Nat.le_of_ble_eq_true rfl) rfl dX4_read_74 ?_
            refine vv_isub C dX4_read_77 ?_
            refine vv_cVN_v C (a := 17) (kk_X3_add l g _ mr hm hlt _ _) yk_X3_add (List.mem_of_getElem? (i := 64) rfl) rfl rfl rfl (by decide) rfl (Nat.le_of_ble_eq_true rfl) rfl dX4_read_78 (fun S78 h78 => ?_)
            subst h78
            refine vv_aload_n C dX4_read_81 rfl 1 rfl ?_
            refine vv_gR C (a := 0) (k := 3) (b := 17) inlX4 rfl rfl rfl rfl (by decide) rfl (tm_2 (List.mem_of_getElem? (i := 4) rfl)) dX4_read_82 ?_
            refine vv_getIN C (a := 17) (k := 0) (o := 0) inlX3 rfl rfl rfl (by decide) rfl (List.mem_of_getElem? (i := 30) rfl) dX4_read_85 ?_
            refine vv_jret C dX4_read_88 ?_
            have hB : aw_rdB t f (S.1 3 0) = true := by simp [aw_rdB, h1, b12, g17, h24]
            exact ⟨by rw [aw_read, if_pos hB, if_pos hlt]; simp [vx_u_if, upd], by rw [if_pos ⟨hB, hlt⟩]⟩
          · have g39 := pu_nlt h39
            have hge : ¬ mr < 8 := by have := pu_geT (x := nI 8) (n := 8) (i := mr) rfl (by omega) (by omega) (by rw [← hm]; exact g39); omega
            refine vv_bipush (v := (-104)) C dX4_read_42 (by decide) ?_
            refine vv_jret C dX4_read_44 ?_
            have hB : aw_rdB t f (S.1 3 0) = true := by simp [aw_rdB, h1, b12, g17, h24]
            exact ⟨by rw [aw_read, if_pos hB, if_neg hge], by rw [if_neg (fun z => hge z.2)]⟩
        · have g24 := pu_nle h24
          refine vv_bipush (v := (-102)) C dX4_read_27 (by decide) ?_
          refine vv_jret C dX4_read_29 ?_
          have hB : aw_rdB t f (S.1 3 0) = false := by simp [aw_rdB, h24]
          exact ⟨by rw [aw_read, if_neg (by rw [hB]; decide)], by rw [if_neg (by rw [hB]; intro z; exact absurd z.1 (by decide))]⟩
theorem yk_X4_seedAfter : vx_yS yX4_seedAfter cX4_seedAfter 1 (some .int) 1 := ⟨(tm_25 (List.mem_of_getElem? (i := 5) rfl)), (tm_1 (List.mem_of_getElem? (i := 2) rfl)), by decide +kernel, (tm_25 (List.mem_of_getElem? (i := 4) rfl))⟩
set_option maxHeartbeats 4000000 in
set_option maxRecDepth 100000 in
theorem kk_X4_seedAfter (l : Launch) (g : vx_G) (S : vx_St) (x : Int32) : vx_M l g yX4_seedAfter cX4_seedAfter 1 (some .int) (vx_R 0 0) [.int x] S (vx_pf (pu_seed x) S) := by
  refine vx_M.intro (by decide) (Nat.le_of_ble_eq_true rfl) ?_
  intro p e s m args below meth c C
  refine vv_ldc2 C (tm_25 (List.mem_of_getElem? (i := 6) rfl)) dX4_seedAfter_0 ?_
  refine vv_iload_n C dX4_seedAfter_3 rfl 0 rfl ?_
  refine vv_i2l C dX4_seedAfter_4 ?_
  refine vv_lmul C dX4_seedAfter_5 ?_
  refine vv_ldc2 C (tm_25 (List.mem_of_getElem? (i := 7) rfl)) dX4_seedAfter_6 ?_
  refine vv_ladd C dX4_seedAfter_9 ?_
  refine vv_ldc2 C (tm_25 (List.mem_of_getElem? (i := 8) rfl)) dX4_seedAfter_10 ?_
  refine vv_lrem C dX4_seedAfter_13 (by decide) ?_
  refine vv_l2i C dX4_seedAfter_14 ?_
  refine vv_fret C dX4_seedAfter_15 ?_
  rfl
end
