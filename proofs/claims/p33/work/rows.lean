section
-- ===== PART A: goes FIRST, ahead of the names: the tables' words, and 'selects' of the private methods out of them =====
/-- a private method of a class that the tables say can be made, by its rows of tables_1 -/
def lw_okq (q : MethodName × Nat) : Prop := (q.1.cls ≠ "java/lang/invoke/MethodHandle" ∧ q.1.cls ≠ "java/lang/invoke/VarHandle") ∧ Cond.instantiable q.1.cls q.2 ∈ tables_1 ∧ Cond.privateMethod q.1 ∈ tables_1 ∧ Cond.instanceMethod q.1 ∈ tables_1
theorem lw_p0 : lw_okq (⟨"BottleLoop$State", "putSetting", "(II)V"⟩, 1) := ⟨⟨by decide +kernel, by decide +kernel⟩, List.mem_of_getElem? (i := 30) (by decide +kernel), List.mem_of_getElem? (i := 41) (by decide +kernel), List.mem_of_getElem? (i := 42) (by decide +kernel)⟩
theorem lw_p1 : lw_okq (⟨"BottleLoop$State", "put", "(II)V"⟩, 1) := ⟨⟨by decide +kernel, by decide +kernel⟩, List.mem_of_getElem? (i := 30) (by decide +kernel), List.mem_of_getElem? (i := 45) (by decide +kernel), List.mem_of_getElem? (i := 46) (by decide +kernel)⟩
theorem lw_p2 : lw_okq (⟨"java/lang/Throwable", "fillInStackTrace", "(I)Ljava/lang/Throwable;"⟩, 6) := ⟨⟨by decide +kernel, by decide +kernel⟩, List.mem_of_getElem? (i := 182) (by decide +kernel), List.mem_of_getElem? (i := 180) (by decide +kernel), List.mem_of_getElem? (i := 181) (by decide +kernel)⟩
theorem lw_p3 : lw_okq (⟨"BottleLoop$State", "ofAll", "(I)I"⟩, 1) := ⟨⟨by decide +kernel, by decide +kernel⟩, List.mem_of_getElem? (i := 30) (by decide +kernel), List.mem_of_getElem? (i := 212) (by decide +kernel), List.mem_of_getElem? (i := 213) (by decide +kernel)⟩
theorem lw_p4 : lw_okq (⟨"BottleLoop$State", "get", "(I)I"⟩, 1) := ⟨⟨by decide +kernel, by decide +kernel⟩, List.mem_of_getElem? (i := 30) (by decide +kernel), List.mem_of_getElem? (i := 216) (by decide +kernel), List.mem_of_getElem? (i := 217) (by decide +kernel)⟩
theorem lw_p5 : lw_okq (⟨"BottleLoop$Past", "keep", "(LBottleLoop$State;)V"⟩, 3) := ⟨⟨by decide +kernel, by decide +kernel⟩, List.mem_of_getElem? (i := 62) (by decide +kernel), List.mem_of_getElem? (i := 239) (by decide +kernel), List.mem_of_getElem? (i := 240) (by decide +kernel)⟩
theorem lw_p6 : lw_okq (⟨"BottleLoop$Past", "latestState", "()LBottleLoop$State;"⟩, 3) := ⟨⟨by decide +kernel, by decide +kernel⟩, List.mem_of_getElem? (i := 62) (by decide +kernel), List.mem_of_getElem? (i := 243) (by decide +kernel), List.mem_of_getElem? (i := 244) (by decide +kernel)⟩
theorem lw_p7 : lw_okq (⟨"BottleLoop$State", "copyFrom", "(LBottleLoop$State;)V"⟩, 1) := ⟨⟨by decide +kernel, by decide +kernel⟩, List.mem_of_getElem? (i := 30) (by decide +kernel), List.mem_of_getElem? (i := 247) (by decide +kernel), List.mem_of_getElem? (i := 248) (by decide +kernel)⟩
theorem lw_p8 : lw_okq (⟨"BottleLoop$State", "addToAll", "(II)V"⟩, 1) := ⟨⟨by decide +kernel, by decide +kernel⟩, List.mem_of_getElem? (i := 30) (by decide +kernel), List.mem_of_getElem? (i := 254) (by decide +kernel), List.mem_of_getElem? (i := 255) (by decide +kernel)⟩
theorem lw_p9 : lw_okq (⟨"BottleLoop$State", "addToBrand", "(III)V"⟩, 1) := ⟨⟨by decide +kernel, by decide +kernel⟩, List.mem_of_getElem? (i := 30) (by decide +kernel), List.mem_of_getElem? (i := 258) (by decide +kernel), List.mem_of_getElem? (i := 259) (by decide +kernel)⟩
theorem lw_p10 : lw_okq (⟨"BottleLoop$State", "addToShop", "(III)V"⟩, 1) := ⟨⟨by decide +kernel, by decide +kernel⟩, List.mem_of_getElem? (i := 30) (by decide +kernel), List.mem_of_getElem? (i := 267) (by decide +kernel), List.mem_of_getElem? (i := 268) (by decide +kernel)⟩
theorem lw_p11 : lw_okq (⟨"BottleLoop$State", "countNumber", "(I)I"⟩, 1) := ⟨⟨by decide +kernel, by decide +kernel⟩, List.mem_of_getElem? (i := 30) (by decide +kernel), List.mem_of_getElem? (i := 275) (by decide +kernel), List.mem_of_getElem? (i := 276) (by decide +kernel)⟩
theorem lw_p12 : lw_okq (⟨"BottleLoop$State", "overShops", "(I)I"⟩, 1) := ⟨⟨by decide +kernel, by decide +kernel⟩, List.mem_of_getElem? (i := 30) (by decide +kernel), List.mem_of_getElem? (i := 279) (by decide +kernel), List.mem_of_getElem? (i := 280) (by decide +kernel)⟩
theorem lw_p13 : lw_okq (⟨"BottleLoop$State", "ofShop", "(II)I"⟩, 1) := ⟨⟨by decide +kernel, by decide +kernel⟩, List.mem_of_getElem? (i := 30) (by decide +kernel), List.mem_of_getElem? (i := 283) (by decide +kernel), List.mem_of_getElem? (i := 284) (by decide +kernel)⟩
theorem lw_p14 : lw_okq (⟨"BottleLoop$State", "overBrands", "(I)I"⟩, 1) := ⟨⟨by decide +kernel, by decide +kernel⟩, List.mem_of_getElem? (i := 30) (by decide +kernel), List.mem_of_getElem? (i := 287) (by decide +kernel), List.mem_of_getElem? (i := 288) (by decide +kernel)⟩
theorem lw_p15 : lw_okq (⟨"BottleLoop$State", "ofBrand", "(II)I"⟩, 1) := ⟨⟨by decide +kernel, by decide +kernel⟩, List.mem_of_getElem? (i := 30) (by decide +kernel), List.mem_of_getElem? (i := 291) (by decide +kernel), List.mem_of_getElem? (i := 292) (by decide +kernel)⟩
def lw_privs_1 : List (MethodName × Nat) := [(⟨"BottleLoop$State", "putSetting", "(II)V"⟩, 1), (⟨"BottleLoop$State", "put", "(II)V"⟩, 1), (⟨"java/lang/Throwable", "fillInStackTrace", "(I)Ljava/lang/Throwable;"⟩, 6), (⟨"BottleLoop$State", "ofAll", "(I)I"⟩, 1), (⟨"BottleLoop$State", "get", "(I)I"⟩, 1), (⟨"BottleLoop$Past", "keep", "(LBottleLoop$State;)V"⟩, 3), (⟨"BottleLoop$Past", "latestState", "()LBottleLoop$State;"⟩, 3), (⟨"BottleLoop$State", "copyFrom", "(LBottleLoop$State;)V"⟩, 1), (⟨"BottleLoop$State", "addToAll", "(II)V"⟩, 1), (⟨"BottleLoop$State", "addToBrand", "(III)V"⟩, 1), (⟨"BottleLoop$State", "addToShop", "(III)V"⟩, 1), (⟨"BottleLoop$State", "countNumber", "(I)I"⟩, 1), (⟨"BottleLoop$State", "overShops", "(I)I"⟩, 1), (⟨"BottleLoop$State", "ofShop", "(II)I"⟩, 1), (⟨"BottleLoop$State", "overBrands", "(I)I"⟩, 1), (⟨"BottleLoop$State", "ofBrand", "(II)I"⟩, 1)]
theorem lw_r1 : ∀ q ∈ lw_privs_1, lw_okq q := List.forall_mem_cons.mpr ⟨lw_p0, List.forall_mem_cons.mpr ⟨lw_p1, List.forall_mem_cons.mpr ⟨lw_p2, List.forall_mem_cons.mpr ⟨lw_p3, List.forall_mem_cons.mpr ⟨lw_p4, List.forall_mem_cons.mpr ⟨lw_p5, List.forall_mem_cons.mpr ⟨lw_p6, List.forall_mem_cons.mpr ⟨lw_p7, List.forall_mem_cons.mpr ⟨lw_p8, List.forall_mem_cons.mpr ⟨lw_p9, List.forall_mem_cons.mpr ⟨lw_p10, List.forall_mem_cons.mpr ⟨lw_p11, List.forall_mem_cons.mpr ⟨lw_p12, List.forall_mem_cons.mpr ⟨lw_p13, List.forall_mem_cons.mpr ⟨lw_p14, List.forall_mem_cons.mpr ⟨lw_p15, fun _ h => absurd h List.not_mem_nil⟩⟩⟩⟩⟩⟩⟩⟩⟩⟩⟩⟩⟩⟩⟩⟩
theorem lw_p16 : lw_okq (⟨"BottleLoop$State", "ofSetting", "(I)I"⟩, 1) := ⟨⟨by decide +kernel, by decide +kernel⟩, List.mem_of_getElem? (i := 30) (by decide +kernel), List.mem_of_getElem? (i := 324) (by decide +kernel), List.mem_of_getElem? (i := 325) (by decide +kernel)⟩
theorem lw_p17 : lw_okq (⟨"BottleLoop", "needBrand", "(I)V"⟩, 5) := ⟨⟨by decide +kernel, by decide +kernel⟩, List.mem_of_getElem? (i := 16) (by decide +kernel), List.mem_of_getElem? (i := 333) (by decide +kernel), List.mem_of_getElem? (i := 334) (by decide +kernel)⟩
theorem lw_p18 : lw_okq (⟨"BottleLoop", "isBrand", "(I)Z"⟩, 5) := ⟨⟨by decide +kernel, by decide +kernel⟩, List.mem_of_getElem? (i := 16) (by decide +kernel), List.mem_of_getElem? (i := 337) (by decide +kernel), List.mem_of_getElem? (i := 338) (by decide +kernel)⟩
theorem lw_p19 : lw_okq (⟨"BottleLoop$Trade", "fillBottles", "(II)I"⟩, 2) := ⟨⟨by decide +kernel, by decide +kernel⟩, List.mem_of_getElem? (i := 24) (by decide +kernel), List.mem_of_getElem? (i := 343) (by decide +kernel), List.mem_of_getElem? (i := 344) (by decide +kernel)⟩
theorem lw_p20 : lw_okq (⟨"BottleLoop$Trade", "wornBy", "(II)I"⟩, 2) := ⟨⟨by decide +kernel, by decide +kernel⟩, List.mem_of_getElem? (i := 24) (by decide +kernel), List.mem_of_getElem? (i := 347) (by decide +kernel), List.mem_of_getElem? (i := 348) (by decide +kernel)⟩
theorem lw_p21 : lw_okq (⟨"BottleLoop$Past", "kept", "()I"⟩, 3) := ⟨⟨by decide +kernel, by decide +kernel⟩, List.mem_of_getElem? (i := 62) (by decide +kernel), List.mem_of_getElem? (i := 358) (by decide +kernel), List.mem_of_getElem? (i := 359) (by decide +kernel)⟩
theorem lw_p22 : lw_okq (⟨"BottleLoop$Past", "giveBack", "(LBottleLoop$State;)V"⟩, 3) := ⟨⟨by decide +kernel, by decide +kernel⟩, List.mem_of_getElem? (i := 62) (by decide +kernel), List.mem_of_getElem? (i := 362) (by decide +kernel), List.mem_of_getElem? (i := 363) (by decide +kernel)⟩
theorem lw_p23 : lw_okq (⟨"BottleLoop$State", "brandNumber", "(II)I"⟩, 1) := ⟨⟨by decide +kernel, by decide +kernel⟩, List.mem_of_getElem? (i := 30) (by decide +kernel), List.mem_of_getElem? (i := 370) (by decide +kernel), List.mem_of_getElem? (i := 371) (by decide +kernel)⟩
theorem lw_p24 : lw_okq (⟨"BottleLoop$Trade", "bestToCollect", "(I)I"⟩, 2) := ⟨⟨by decide +kernel, by decide +kernel⟩, List.mem_of_getElem? (i := 24) (by decide +kernel), List.mem_of_getElem? (i := 382) (by decide +kernel), List.mem_of_getElem? (i := 383) (by decide +kernel)⟩
theorem lw_p25 : lw_okq (⟨"BottleLoop$Trade", "mostCollectable", "(II)I"⟩, 2) := ⟨⟨by decide +kernel, by decide +kernel⟩, List.mem_of_getElem? (i := 24) (by decide +kernel), List.mem_of_getElem? (i := 386) (by decide +kernel), List.mem_of_getElem? (i := 387) (by decide +kernel)⟩
theorem lw_p26 : lw_okq (⟨"BottleLoop$Trade", "emptiesOf", "(II)I"⟩, 2) := ⟨⟨by decide +kernel, by decide +kernel⟩, List.mem_of_getElem? (i := 24) (by decide +kernel), List.mem_of_getElem? (i := 390) (by decide +kernel), List.mem_of_getElem? (i := 391) (by decide +kernel)⟩
theorem lw_p27 : lw_okq (⟨"BottleLoop$State", "brandSum", "(II)I"⟩, 1) := ⟨⟨by decide +kernel, by decide +kernel⟩, List.mem_of_getElem? (i := 30) (by decide +kernel), List.mem_of_getElem? (i := 402) (by decide +kernel), List.mem_of_getElem? (i := 403) (by decide +kernel)⟩
theorem lw_p28 : lw_okq (⟨"BottleLoop", "needShop", "(I)V"⟩, 5) := ⟨⟨by decide +kernel, by decide +kernel⟩, List.mem_of_getElem? (i := 16) (by decide +kernel), List.mem_of_getElem? (i := 419) (by decide +kernel), List.mem_of_getElem? (i := 420) (by decide +kernel)⟩
theorem lw_p29 : lw_okq (⟨"BottleLoop", "isShop", "(I)Z"⟩, 5) := ⟨⟨by decide +kernel, by decide +kernel⟩, List.mem_of_getElem? (i := 16) (by decide +kernel), List.mem_of_getElem? (i := 423) (by decide +kernel), List.mem_of_getElem? (i := 424) (by decide +kernel)⟩
theorem lw_p30 : lw_okq (⟨"BottleLoop$State", "shopNumber", "(II)I"⟩, 1) := ⟨⟨by decide +kernel, by decide +kernel⟩, List.mem_of_getElem? (i := 30) (by decide +kernel), List.mem_of_getElem? (i := 431) (by decide +kernel), List.mem_of_getElem? (i := 432) (by decide +kernel)⟩
theorem lw_p31 : lw_okq (⟨"BottleLoop$State", "overBrandsOf", "(II)I"⟩, 1) := ⟨⟨by decide +kernel, by decide +kernel⟩, List.mem_of_getElem? (i := 30) (by decide +kernel), List.mem_of_getElem? (i := 435) (by decide +kernel), List.mem_of_getElem? (i := 436) (by decide +kernel)⟩
def lw_privs_2 : List (MethodName × Nat) := [(⟨"BottleLoop$State", "ofSetting", "(I)I"⟩, 1), (⟨"BottleLoop", "needBrand", "(I)V"⟩, 5), (⟨"BottleLoop", "isBrand", "(I)Z"⟩, 5), (⟨"BottleLoop$Trade", "fillBottles", "(II)I"⟩, 2), (⟨"BottleLoop$Trade", "wornBy", "(II)I"⟩, 2), (⟨"BottleLoop$Past", "kept", "()I"⟩, 3), (⟨"BottleLoop$Past", "giveBack", "(LBottleLoop$State;)V"⟩, 3), (⟨"BottleLoop$State", "brandNumber", "(II)I"⟩, 1), (⟨"BottleLoop$Trade", "bestToCollect", "(I)I"⟩, 2), (⟨"BottleLoop$Trade", "mostCollectable", "(II)I"⟩, 2), (⟨"BottleLoop$Trade", "emptiesOf", "(II)I"⟩, 2), (⟨"BottleLoop$State", "brandSum", "(II)I"⟩, 1), (⟨"BottleLoop", "needShop", "(I)V"⟩, 5), (⟨"BottleLoop", "isShop", "(I)Z"⟩, 5), (⟨"BottleLoop$State", "shopNumber", "(II)I"⟩, 1), (⟨"BottleLoop$State", "overBrandsOf", "(II)I"⟩, 1)]
theorem lw_r2 : ∀ q ∈ lw_privs_2, lw_okq q := List.forall_mem_cons.mpr ⟨lw_p16, List.forall_mem_cons.mpr ⟨lw_p17, List.forall_mem_cons.mpr ⟨lw_p18, List.forall_mem_cons.mpr ⟨lw_p19, List.forall_mem_cons.mpr ⟨lw_p20, List.forall_mem_cons.mpr ⟨lw_p21, List.forall_mem_cons.mpr ⟨lw_p22, List.forall_mem_cons.mpr ⟨lw_p23, List.forall_mem_cons.mpr ⟨lw_p24, List.forall_mem_cons.mpr ⟨lw_p25, List.forall_mem_cons.mpr ⟨lw_p26, List.forall_mem_cons.mpr ⟨lw_p27, List.forall_mem_cons.mpr ⟨lw_p28, List.forall_mem_cons.mpr ⟨lw_p29, List.forall_mem_cons.mpr ⟨lw_p30, List.forall_mem_cons.mpr ⟨lw_p31, fun _ h => absurd h List.not_mem_nil⟩⟩⟩⟩⟩⟩⟩⟩⟩⟩⟩⟩⟩⟩⟩⟩
theorem lw_p32 : lw_okq (⟨"BottleLoop$Trade", "deliverReason", "(III)I"⟩, 2) := ⟨⟨by decide +kernel, by decide +kernel⟩, List.mem_of_getElem? (i := 24) (by decide +kernel), List.mem_of_getElem? (i := 458) (by decide +kernel), List.mem_of_getElem? (i := 459) (by decide +kernel)⟩
theorem lw_p33 : lw_okq (⟨"BottleLoop$Trade", "cratePrice", "(I)I"⟩, 2) := ⟨⟨by decide +kernel, by decide +kernel⟩, List.mem_of_getElem? (i := 24) (by decide +kernel), List.mem_of_getElem? (i := 463) (by decide +kernel), List.mem_of_getElem? (i := 464) (by decide +kernel)⟩
theorem lw_p34 : lw_okq (⟨"BottleLoop$Trade", "crateDeposits", "(I)I"⟩, 2) := ⟨⟨by decide +kernel, by decide +kernel⟩, List.mem_of_getElem? (i := 24) (by decide +kernel), List.mem_of_getElem? (i := 467) (by decide +kernel), List.mem_of_getElem? (i := 468) (by decide +kernel)⟩
theorem lw_p35 : lw_okq (⟨"BottleLoop$Trade", "mostDeliverable", "(II)I"⟩, 2) := ⟨⟨by decide +kernel, by decide +kernel⟩, List.mem_of_getElem? (i := 24) (by decide +kernel), List.mem_of_getElem? (i := 475) (by decide +kernel), List.mem_of_getElem? (i := 476) (by decide +kernel)⟩
theorem lw_p36 : lw_okq (⟨"BottleLoop$Trade", "deliverCrates", "(III)I"⟩, 2) := ⟨⟨by decide +kernel, by decide +kernel⟩, List.mem_of_getElem? (i := 24) (by decide +kernel), List.mem_of_getElem? (i := 483) (by decide +kernel), List.mem_of_getElem? (i := 484) (by decide +kernel)⟩
theorem lw_p37 : lw_okq (⟨"BottleLoop$Trade", "sellReason", "(III)I"⟩, 2) := ⟨⟨by decide +kernel, by decide +kernel⟩, List.mem_of_getElem? (i := 24) (by decide +kernel), List.mem_of_getElem? (i := 493) (by decide +kernel), List.mem_of_getElem? (i := 494) (by decide +kernel)⟩
theorem lw_p38 : lw_okq (⟨"BottleLoop$Trade", "sellBottles", "(III)I"⟩, 2) := ⟨⟨by decide +kernel, by decide +kernel⟩, List.mem_of_getElem? (i := 24) (by decide +kernel), List.mem_of_getElem? (i := 500) (by decide +kernel), List.mem_of_getElem? (i := 501) (by decide +kernel)⟩
theorem lw_p39 : lw_okq (⟨"BottleLoop$Trade", "depositOf", "(I)I"⟩, 2) := ⟨⟨by decide +kernel, by decide +kernel⟩, List.mem_of_getElem? (i := 24) (by decide +kernel), List.mem_of_getElem? (i := 504) (by decide +kernel), List.mem_of_getElem? (i := 505) (by decide +kernel)⟩
theorem lw_p40 : lw_okq (⟨"BottleLoop$Trade", "returnReason", "(III)I"⟩, 2) := ⟨⟨by decide +kernel, by decide +kernel⟩, List.mem_of_getElem? (i := 24) (by decide +kernel), List.mem_of_getElem? (i := 512) (by decide +kernel), List.mem_of_getElem? (i := 513) (by decide +kernel)⟩
theorem lw_p41 : lw_okq (⟨"BottleLoop$Trade", "returnBottles", "(III)I"⟩, 2) := ⟨⟨by decide +kernel, by decide +kernel⟩, List.mem_of_getElem? (i := 24) (by decide +kernel), List.mem_of_getElem? (i := 516) (by decide +kernel), List.mem_of_getElem? (i := 517) (by decide +kernel)⟩
theorem lw_p42 : lw_okq (⟨"BottleLoop$Trade", "wouldCollect", "(III)I"⟩, 2) := ⟨⟨by decide +kernel, by decide +kernel⟩, List.mem_of_getElem? (i := 24) (by decide +kernel), List.mem_of_getElem? (i := 524) (by decide +kernel), List.mem_of_getElem? (i := 525) (by decide +kernel)⟩
theorem lw_p43 : lw_okq (⟨"BottleLoop$Trade", "collectReason", "(III)I"⟩, 2) := ⟨⟨by decide +kernel, by decide +kernel⟩, List.mem_of_getElem? (i := 24) (by decide +kernel), List.mem_of_getElem? (i := 528) (by decide +kernel), List.mem_of_getElem? (i := 529) (by decide +kernel)⟩
theorem lw_p44 : lw_okq (⟨"BottleLoop$Trade", "pickEmpties", "(III)V"⟩, 2) := ⟨⟨by decide +kernel, by decide +kernel⟩, List.mem_of_getElem? (i := 24) (by decide +kernel), List.mem_of_getElem? (i := 532) (by decide +kernel), List.mem_of_getElem? (i := 533) (by decide +kernel)⟩
theorem lw_p45 : lw_okq (⟨"BottleLoop$Trade", "pickOne", "()V"⟩, 2) := ⟨⟨by decide +kernel, by decide +kernel⟩, List.mem_of_getElem? (i := 24) (by decide +kernel), List.mem_of_getElem? (i := 536) (by decide +kernel), List.mem_of_getElem? (i := 537) (by decide +kernel)⟩
theorem lw_p46 : lw_okq (⟨"BottleLoop$Trade", "pickedOf", "(II)I"⟩, 2) := ⟨⟨by decide +kernel, by decide +kernel⟩, List.mem_of_getElem? (i := 24) (by decide +kernel), List.mem_of_getElem? (i := 540) (by decide +kernel), List.mem_of_getElem? (i := 541) (by decide +kernel)⟩
theorem lw_p47 : lw_okq (⟨"BottleLoop$Trade", "collectCrates", "(III)I"⟩, 2) := ⟨⟨by decide +kernel, by decide +kernel⟩, List.mem_of_getElem? (i := 24) (by decide +kernel), List.mem_of_getElem? (i := 554) (by decide +kernel), List.mem_of_getElem? (i := 555) (by decide +kernel)⟩
def lw_privs_3 : List (MethodName × Nat) := [(⟨"BottleLoop$Trade", "deliverReason", "(III)I"⟩, 2), (⟨"BottleLoop$Trade", "cratePrice", "(I)I"⟩, 2), (⟨"BottleLoop$Trade", "crateDeposits", "(I)I"⟩, 2), (⟨"BottleLoop$Trade", "mostDeliverable", "(II)I"⟩, 2), (⟨"BottleLoop$Trade", "deliverCrates", "(III)I"⟩, 2), (⟨"BottleLoop$Trade", "sellReason", "(III)I"⟩, 2), (⟨"BottleLoop$Trade", "sellBottles", "(III)I"⟩, 2), (⟨"BottleLoop$Trade", "depositOf", "(I)I"⟩, 2), (⟨"BottleLoop$Trade", "returnReason", "(III)I"⟩, 2), (⟨"BottleLoop$Trade", "returnBottles", "(III)I"⟩, 2), (⟨"BottleLoop$Trade", "wouldCollect", "(III)I"⟩, 2), (⟨"BottleLoop$Trade", "collectReason", "(III)I"⟩, 2), (⟨"BottleLoop$Trade", "pickEmpties", "(III)V"⟩, 2), (⟨"BottleLoop$Trade", "pickOne", "()V"⟩, 2), (⟨"BottleLoop$Trade", "pickedOf", "(II)I"⟩, 2), (⟨"BottleLoop$Trade", "collectCrates", "(III)I"⟩, 2)]
theorem lw_r3 : ∀ q ∈ lw_privs_3, lw_okq q := List.forall_mem_cons.mpr ⟨lw_p32, List.forall_mem_cons.mpr ⟨lw_p33, List.forall_mem_cons.mpr ⟨lw_p34, List.forall_mem_cons.mpr ⟨lw_p35, List.forall_mem_cons.mpr ⟨lw_p36, List.forall_mem_cons.mpr ⟨lw_p37, List.forall_mem_cons.mpr ⟨lw_p38, List.forall_mem_cons.mpr ⟨lw_p39, List.forall_mem_cons.mpr ⟨lw_p40, List.forall_mem_cons.mpr ⟨lw_p41, List.forall_mem_cons.mpr ⟨lw_p42, List.forall_mem_cons.mpr ⟨lw_p43, List.forall_mem_cons.mpr ⟨lw_p44, List.forall_mem_cons.mpr ⟨lw_p45, List.forall_mem_cons.mpr ⟨lw_p46, List.forall_mem_cons.mpr ⟨lw_p47, fun _ h => absurd h List.not_mem_nil⟩⟩⟩⟩⟩⟩⟩⟩⟩⟩⟩⟩⟩⟩⟩⟩
theorem lw_p48 : lw_okq (⟨"BottleLoop$Trade", "breakReason", "(III)I"⟩, 2) := ⟨⟨by decide +kernel, by decide +kernel⟩, List.mem_of_getElem? (i := 24) (by decide +kernel), List.mem_of_getElem? (i := 562) (by decide +kernel), List.mem_of_getElem? (i := 563) (by decide +kernel)⟩
theorem lw_p49 : lw_okq (⟨"BottleLoop$Trade", "breakBottles", "(III)I"⟩, 2) := ⟨⟨by decide +kernel, by decide +kernel⟩, List.mem_of_getElem? (i := 24) (by decide +kernel), List.mem_of_getElem? (i := 566) (by decide +kernel), List.mem_of_getElem? (i := 567) (by decide +kernel)⟩
theorem lw_p50 : lw_okq (⟨"BottleLoop$Trade", "loseBottles", "(II)I"⟩, 2) := ⟨⟨by decide +kernel, by decide +kernel⟩, List.mem_of_getElem? (i := 24) (by decide +kernel), List.mem_of_getElem? (i := 574) (by decide +kernel), List.mem_of_getElem? (i := 575) (by decide +kernel)⟩
theorem lw_p51 : lw_okq (⟨"BottleLoop$Trade", "yardOf", "(I)I"⟩, 2) := ⟨⟨by decide +kernel, by decide +kernel⟩, List.mem_of_getElem? (i := 24) (by decide +kernel), List.mem_of_getElem? (i := 582) (by decide +kernel), List.mem_of_getElem? (i := 583) (by decide +kernel)⟩
theorem lw_p52 : lw_okq (⟨"BottleLoop$Trade", "sortBottles", "(II)I"⟩, 2) := ⟨⟨by decide +kernel, by decide +kernel⟩, List.mem_of_getElem? (i := 24) (by decide +kernel), List.mem_of_getElem? (i := 586) (by decide +kernel), List.mem_of_getElem? (i := 587) (by decide +kernel)⟩
theorem lw_p53 : lw_okq (⟨"BottleLoop$Trade", "swapBottles", "(III)I"⟩, 2) := ⟨⟨by decide +kernel, by decide +kernel⟩, List.mem_of_getElem? (i := 24) (by decide +kernel), List.mem_of_getElem? (i := 598) (by decide +kernel), List.mem_of_getElem? (i := 599) (by decide +kernel)⟩
theorem lw_p54 : lw_okq (⟨"BottleLoop$State", "addToSwaps", "(III)V"⟩, 1) := ⟨⟨by decide +kernel, by decide +kernel⟩, List.mem_of_getElem? (i := 30) (by decide +kernel), List.mem_of_getElem? (i := 602) (by decide +kernel), List.mem_of_getElem? (i := 603) (by decide +kernel)⟩
theorem lw_p55 : lw_okq (⟨"BottleLoop$State", "ofSwaps", "(II)I"⟩, 1) := ⟨⟨by decide +kernel, by decide +kernel⟩, List.mem_of_getElem? (i := 30) (by decide +kernel), List.mem_of_getElem? (i := 606) (by decide +kernel), List.mem_of_getElem? (i := 607) (by decide +kernel)⟩
def lw_privs_4 : List (MethodName × Nat) := [(⟨"BottleLoop$Trade", "breakReason", "(III)I"⟩, 2), (⟨"BottleLoop$Trade", "breakBottles", "(III)I"⟩, 2), (⟨"BottleLoop$Trade", "loseBottles", "(II)I"⟩, 2), (⟨"BottleLoop$Trade", "yardOf", "(I)I"⟩, 2), (⟨"BottleLoop$Trade", "sortBottles", "(II)I"⟩, 2), (⟨"BottleLoop$Trade", "swapBottles", "(III)I"⟩, 2), (⟨"BottleLoop$State", "addToSwaps", "(III)V"⟩, 1), (⟨"BottleLoop$State", "ofSwaps", "(II)I"⟩, 1)]
theorem lw_r4 : ∀ q ∈ lw_privs_4, lw_okq q := List.forall_mem_cons.mpr ⟨lw_p48, List.forall_mem_cons.mpr ⟨lw_p49, List.forall_mem_cons.mpr ⟨lw_p50, List.forall_mem_cons.mpr ⟨lw_p51, List.forall_mem_cons.mpr ⟨lw_p52, List.forall_mem_cons.mpr ⟨lw_p53, List.forall_mem_cons.mpr ⟨lw_p54, List.forall_mem_cons.mpr ⟨lw_p55, fun _ h => absurd h List.not_mem_nil⟩⟩⟩⟩⟩⟩⟩⟩
def lw_privs : List (MethodName × Nat) := lw_privs_1 ++ (lw_privs_2 ++ (lw_privs_3 ++ (lw_privs_4)))
def lw_tbl : List Cond := k2_sels lw_privs ++ tables_1
theorem lw_privs_ok : ∀ q ∈ lw_privs, lw_okq q := by
  show ∀ q ∈ lw_privs_1 ++ (lw_privs_2 ++ (lw_privs_3 ++ (lw_privs_4))), lw_okq q
  exact List.forall_mem_append.mpr ⟨lw_r1, List.forall_mem_append.mpr ⟨lw_r2, List.forall_mem_append.mpr ⟨lw_r3, lw_r4⟩⟩⟩
/-- the streams that the claim lets the run draw from -/
abbrev lw_cs : List Choice := [Jvm.Choice.named "NaN.bits"]
theorem lw_bits : nanBits ∈ lw_cs := by first | decide | exact List.mem_cons_self | simp [lw_cs, nanBits]
-- ===== end of PART A; then your names; then what follows =====
/-! ===== BEGIN words of one list among another's, by their places ===== -/
theorem goodIn_r {big : List Cond} (ws : List Cond) (ps : List Nat) (hp : ws = ps.filterMap (fun i => big[i]?)) (h : ws.all goodWord = true) : GoodIn big ws := by
  intro w hw
  have h1 := List.all_eq_true.mp h w hw
  rw [hp] at hw
  obtain ⟨i, -, hi⟩ := List.mem_filterMap.mp hw
  have hm : w ∈ big := by first | exact List.mem_of_getElem? hi | exact List.getElem?_mem hi
  exact ⟨hm, good_of_word h1⟩
theorem goodIn_app {big a b : List Cond} (ha : GoodIn big a) (hb : GoodIn big b) : GoodIn big (a ++ b) := fun w h => (List.mem_append.mp h).elim (ha w) (hb w)
theorem goodIn_ca {big a b : List Cond} {c : Cond} (ha : GoodIn big (c :: a)) (hb : GoodIn big b) : GoodIn big (c :: (a ++ b)) := fun w h => (List.mem_cons.mp h).elim (fun e => ha w (List.mem_cons.mpr (Or.inl e))) (fun h => (List.mem_append.mp h).elim (fun h => ha w (List.mem_cons.mpr (Or.inr h))) (hb w))
theorem goodIn_sub {big ws : List Cond} (hm : ∀ w ∈ ws, w ∈ big) (h : ws.all goodWord = true) : GoodIn big ws := fun w hw => ⟨hm w hw, good_of_word (List.all_eq_true.mp h w hw)⟩
/-! ===== END ===== -/

/-! ===== BEGIN exceptions that leave a method, and their catching by the caller (launches without stack traces) ===== -/
section VXA
/-! The laws vx_back, vx_callV, vx_callS, vx_callSW, vx_throw0, vx_throwS follow proofs of the library, with one case more: JvmDerived/Free/Laws.lean (Back.of_free), Shelf42/LK1.lean (callV, callS), Shelf/KitTraced.lean (throwNew0V, throwNewS). -/
/-- where a method has thrown q: the class by its name, the cell, what was written, the world -/
def vx_T (XC : String → State → State → Prop) (st : State) (q : Addr) (t : State) (mc ms : Nat) (free : Addr → Prop) : Prop :=
  ∃ (E : String) (ce : Cell) (L : List Loc), XC E st t ∧ t.heap[q]? = some ce ∧ ce.vm = .none ∧ st.vm.findClass E = some ce.cls ∧ st.WarmedH t.vm ∧ st.sameButNew ({ t with vm := st.vm } : State) L mc ms ∧ ∀ z ∈ L, free z.base
def vx_Q (Qc : Array Value → State → Outcome → State → Prop) (XC : String → State → State → Prop) (mc ms : Nat) (free : Addr → Prop) : Array Value → State → Outcome → State → Prop := fun a st o t =>
  (Qc a st o t ∧ ∃ L, FrameEnd st o t L mc ms ∧ ∀ q ∈ L, free q.base) ∨ ∃ q, o = .threw q ∧ vx_T XC st q t mc ms free
/-- a callee that returns or throws -/
def vx_Met (l : Launch) (y : MethodName) (ws : List Cond) (rm : Room) (Pc : Array Value → State → Prop) (Qc : Array Value → State → Outcome → State → Prop) (XC : String → State → State → Prop) (mc ms : Nat) (free : Addr → Prop) : Prop :=
  MetFree l y (headSpec ws rm) Pc (fun _ _ _ _ _ => True) (vx_Q Qc XC mc ms free)
def vx_Post (XC : String → State → State → Prop) (mc ms : Nat) (free : Addr → Prop) : Pt → Array Value → Addr → Pt → Prop := fun A a q B =>
  ∃ (g : JFrame) (mk : MethodId) (t : State) (L : List Loc) (E : String) (ce : Cell), B.U.heap = t.heap ∧ B.U.vm = t.vm ∧ XC E (A.U.calling g mk a) t ∧ t.heap[q]? = some ce ∧ ce.vm = .none ∧ A.U.vm.findClass E = some ce.cls ∧ B.locs = A.locs ++ L ∧ (∀ z ∈ L, free z.base) ∧ B.cells = A.cells + mc ∧ B.slots = A.slots + ms
def vx_Back (l : Launch) (R : Room) (p : Program) (e : Env) (below : List Frame) (s : State) (sargs : Array Value) (y : MethodName) (len W9 : Nat)
    (Pre : Pt → Array Value → Prop) (Post : Pt → Array Value → Option Value → Pt → Prop) (PostX : Pt → Array Value → Addr → Pt → Prop) : Prop :=
  ∀ (m : MethodId) (meth : Method) (c : Code) (A : Pt) (g : JFrame) (ig : Instr) (mk : MethodId) (a : Array Value),
    Stand p l e R s m sargs below meth c A.U A.locs A.cells A.slots → g.method = m → g.locals.size = c.maxLocals → decode c.code g.pc = .ok (ig, len) →
    2 * g.monitorRoom + (g.stack.map fun v => v.category).sum ≤ W9 → A.U.methodNamed? y = some mk → Pre A a →
    (∃ (v : Option Value) (B : Pt), Stand p l e R s m sargs below meth c B.U B.locs B.cells B.slots ∧ Post A a v B ∧
      Steps p.tables e below (doInvoke e (A.U.setTop g) [] mk a).1 (B.U.setTop { g with pc := g.pc + len, stack := v.toList ++ g.stack })) ∨
    (∃ (q : Addr) (B : Pt), Stand p l e R s m sargs below meth c B.U B.locs B.cells B.slots ∧ PostX A a q B ∧
      Steps p.tables e below (doInvoke e (A.U.setTop g) [] mk a).1 ((B.U.setTop g).pushFrame (.throwing q)))
section Payer
variable {l : Launch} {R : Room} {p : Program} {e : Env} {below : List Frame} {s : State} {sargs : Array Value} {y : MethodName} {len W9 : Nat}
theorem vx_back {ws : List Cond} {rm : Room} {Pc : Array Value → State → Prop} {Qc : Array Value → State → Outcome → State → Prop} {XC : String → State → State → Prop} {mc ms : Nat} {free : Addr → Prop} {bytes : ByteArray} {maxL : Nat} {ret : Option FieldType}
    (hM : vx_Met l y ws rm Pc Qc XC mc ms free) (hblind : FrameBlind Pc) (hrc : rm.cells = mc) (hrs : rm.slots = ms)
    (hframes : rm.frames + 1 ≤ R.frames) (hlocals : W9 + (maxL + 11) + rm.locals ≤ R.locals)
    (hws : ∀ w ∈ ws, ∀ a' U, s.WarmedH U.vm → w.before a' U = true) (hcode : Cond.code y bytes maxL ret ∈ ws) (hinit : ∀ a' U, s.WarmedH U.vm → (Cond.initialized y.cls).before a' U = true) :
    vx_Back l R p e below s sargs y len W9 (PreOf R mc ms Pc) (PostOf Qc mc ms free) (vx_Post XC mc ms free) := by
  intro m meth c A g ig mk a X hg hsize hdg hW hn hp
  have h1 : (headSpec ws rm).pre.before a A.U = true := atoms_intro fun w hw => hws w hw _ _ X.warmed
  have h2 : (Cond.code y bytes maxL ret).before a A.U = true := hws _ hcode _ _ X.warmed
  have h3 : (Cond.initialized y.cls).before a A.U = true := hinit _ _ X.warmed
  have h4 : A.cells + (headSpec ws rm).room.cells ≤ R.cells := by rw [show (headSpec ws rm).room.cells = mc from hrc]; exact hp.1
  have h5 : A.slots + (headSpec ws rm).room.slots ≤ R.slots := by rw [show (headSpec ws rm).room.slots = ms from hrs]; exact hp.2.1
  have hPc : Pc a (A.U.calling g mk a) := hblind _ _ _ _ hp.2.2
  obtain ⟨U, Ls, c0, s0⟩ := A
  dsimp only [Pt.U, Pt.locs, Pt.cells, Pt.slots] at h1 h2 h3 h4 h5 X hn hPc ⊢
  obtain ⟨methY, cY, hmY, hcY, -, hlY, -, -, -, -⟩ := Cond.code_spec hn h2
  obtain ⟨kY, hkY, -⟩ := className_of_methodNamed hn
  have hinitY : kY.init = .initialized := Cond.initialized_spec (findClass_of_methodNamed hn) hkY h3
  have h : At U g.method c below := by rw [hg]; exact X.here
  have hlocals9 : W9 + (maxL + 11) + (headSpec ws rm).room.locals ≤ R.locals := hlocals
  have happ : (headSpec ws rm).appliesLoose y e.platform (U.calling g mk a) = true :=
    Spec.appliesLoose_calling (g := g) h hdg hn hkY hinitY
      (X.room_calling (g := g) (R' := (headSpec ws rm).room) hsize hmY hcY hframes (by rw [hlY]; omega) h4 h5) h1
  obtain ⟨mid, hmid⟩ := h.above
  have hfr : (U.setTop g).frames = (.java g :: mid) ++ below := by rw [State.frames_setTop' g h.top, hmid]; rfl
  obtain ⟨o, s₂, hsteps, -, hend, hq⟩ := Steps.callFree hM p X.admits X.cas X.clock (acts := []) hfr happ hPc trivial
  have hq' : vx_Q Qc XC mc ms free a (U.calling g mk a) o s₂ := hq
  rw [State.frames_setTop' g h.top] at hend
  obtain ⟨g₀, hg0⟩ := Option.isSome_iff_exists.mp h.top
  obtain ⟨r, hr⟩ := State.topJava?_eq_some.mp hg0
  have hr' : (({ U with heap := s₂.heap, slotsUsed := s₂.slotsUsed } : State).setVm s₂.vm).frames = .java g₀ :: r := hr
  rcases hq' with ⟨hqc, L, hfe, hL⟩ | ⟨q, rfl, E, ce, L, hx, hce, hcv, hcl, hW₂, hsm, hL⟩
  · obtain ⟨⟨v, rfl⟩, hW₂, e2, q2, q3, q4, q5, q6⟩ := id hfe
    have e3 : s₂ = ({ (U.calling g mk a).setFrames s₂.frames with heap := s₂.heap, slotsUsed := s₂.slotsUsed } : State).setVm s₂.vm := by
      have : s₂ = ({ s₂ with vm := (U.calling g mk a).vm } : State).setVm s₂.vm := rfl
      rw [e2] at this
      exact this
    obtain ⟨c₂, i₂, len₂, hc₂, hd₂, hf₂⟩ := hend
    have hW' : U.WarmedH s₂.vm := hW₂
    have hcc : c₂ = c := by
      have h1 : s₂.code? g.method = U.code? g.method := by
        rw [State.code?_eq, State.code?_eq, hW'.alike.method?]
      exact Option.some.inj (hc₂.symm.trans (h1.trans h.code))
    subst hcc
    have hlen : len₂ = len := by rw [hdg] at hd₂; cases hd₂; rfl
    subst hlen
    have hs₂ : s₂ = (({ U with heap := s₂.heap, slotsUsed := s₂.slotsUsed } : State).setVm s₂.vm).setTop { g with pc := g.pc + len₂, stack := v.toList ++ g.stack } := by
      refine e3.trans ?_
      rw [hf₂, State.calling_eq h.top, State.setFrames_setFrames, State.setTop_of_frames _ hr', hr]
      rfl
    have hsame : U.sameButNew ({ U with heap := s₂.heap, slotsUsed := s₂.slotsUsed } : State) L mc ms := by
      refine ⟨?_, q2, q3, q4, q5, q6⟩
      obtain ⟨t, ht, -⟩ := State.frames_cons hr
      show ({ U with heap := s₂.heap, slotsUsed := s₂.slotsUsed } : State) = { U.setFrames U.frames with heap := s₂.heap, slotsUsed := s₂.slotsUsed }
      rw [State.setFrames_self ht]
    subst hg
    refine Or.inl ⟨v, ⟨(({ U with heap := s₂.heap, slotsUsed := s₂.slotsUsed } : State).setVm s₂.vm), Ls ++ L, c0 + mc, s0 + ms⟩,
      ⟨X.admits, X.cas, X.clock, X.frames, X.room, X.hears, X.method, X.code, (X.here.setHeapUsed s₂.heap s₂.slotsUsed).setVm hW'.alike, X.tail, State.WarmedH.trans X.warmed hW', X.limits, X.bytes, X.same.trans (hsame.setVm s.vm)⟩,
      ⟨g, mk, s₂, L, rfl, rfl, hqc, rfl, hL, rfl, rfl⟩, ?_⟩
    show Steps p.tables e below _ ((({ U with heap := s₂.heap, slotsUsed := s₂.slotsUsed } : State).setVm s₂.vm).setTop { g with pc := g.pc + len₂, stack := v.toList ++ g.stack })
    rw [← hs₂]
    exact hsteps
  · obtain ⟨e2, q2, q3, q4, q5, q6⟩ := id hsm
    have e3 : s₂ = ({ (U.calling g mk a).setFrames s₂.frames with heap := s₂.heap, slotsUsed := s₂.slotsUsed } : State).setVm s₂.vm := by
      have : s₂ = ({ s₂ with vm := (U.calling g mk a).vm } : State).setVm s₂.vm := rfl
      rw [e2] at this
      exact this
    have hf₂ : s₂.frames = .throwing q :: .java g :: U.frames.tail := hend
    have hW' : U.WarmedH s₂.vm := hW₂
    have hs₂ : s₂ = ((({ U with heap := s₂.heap, slotsUsed := s₂.slotsUsed } : State).setVm s₂.vm).setTop g).pushFrame (.throwing q) := by
      refine e3.trans ?_
      rw [hf₂, State.calling_eq h.top, State.setFrames_setFrames, State.pushFrame, State.frames_setTop _ hr', State.setTop_of_frames _ hr', State.setFrames_setFrames, hr]
      rfl
    have hsame : U.sameButNew ({ U with heap := s₂.heap, slotsUsed := s₂.slotsUsed } : State) L mc ms := by
      refine ⟨?_, q2, q3, q4, q5, q6⟩
      obtain ⟨t, ht, -⟩ := State.frames_cons hr
      show ({ U with heap := s₂.heap, slotsUsed := s₂.slotsUsed } : State) = { U.setFrames U.frames with heap := s₂.heap, slotsUsed := s₂.slotsUsed }
      rw [State.setFrames_self ht]
    subst hg
    refine Or.inr ⟨q, ⟨(({ U with heap := s₂.heap, slotsUsed := s₂.slotsUsed } : State).setVm s₂.vm), Ls ++ L, c0 + mc, s0 + ms⟩,
      ⟨X.admits, X.cas, X.clock, X.frames, X.room, X.hears, X.method, X.code, (X.here.setHeapUsed s₂.heap s₂.slotsUsed).setVm hW'.alike, X.tail, State.WarmedH.trans X.warmed hW', X.limits, X.bytes, X.same.trans (hsame.setVm s.vm)⟩,
      ⟨g, mk, s₂, L, E, ce, rfl, rfl, hx, hce, hcv, hcl, rfl, hL, rfl, rfl⟩, ?_⟩
    show Steps p.tables e below _ (((({ U with heap := s₂.heap, slotsUsed := s₂.slotsUsed } : State).setVm s₂.vm).setTop g).pushFrame (.throwing q))
    rw [← hs₂]
    exact hsteps
end Payer
section Calls
variable {p : Program} {l : Launch} {e : Env} {R : Room} {s : State} {m : MethodId} {args : Array Value} {below : List Frame} {meth : Method} {c : Code} {T : State} {locs : List Loc} {cells slots : Nat}
theorem vx_callV (X : Stand p l e R s m args below meth c T locs cells slots) (hexec : p.tables.exec = Jvm.exec) {own C : String} {index : Nat} {y : MethodName} {bytes : ByteArray} {maxL : Nat} {ret : Option FieldType}
    (hown : s.vm.findClass own = some m.cls) (hlink : (Cond.methodLink own index y).before args s = true) (hinst : (Cond.instanceMethod y).before args s = true) (hsel : (Cond.selects C y y).before args s = true)
    (hcode : (Cond.code y bytes maxL ret).before args s = true) (hy : y.cls ≠ "java/lang/invoke/MethodHandle" ∧ y.cls ≠ "java/lang/invoke/VarHandle")
    {W9 : Nat} {Pre : Pt → Array Value → Prop} {Post : Pt → Array Value → Option Value → Pt → Prop} {PostX : Pt → Array Value → Addr → Pt → Prop} (hK : vx_Back l R p e below s args y 3 W9 Pre Post PostX)
    {b : Addr} {cellB : Cell} (hcell : T.heap[b]? = some cellB) (hobj : cellB.vm.isStatics = false) (hcls : s.vm.findClass C = some cellB.cls)
    {g : JFrame} (hg : g.method = m) (hsize : g.locals.size = c.maxLocals) {argsL rest : List Value} (hlen : ∀ sig, parseMethodDescriptor y.desc = some sig → argsL.length = sig.parameters.length)
    (hstack : g.stack = argsL.reverse ++ .ref b :: rest) (hW : 2 * g.monitorRoom + (rest.map fun v => v.category).sum ≤ W9) (hdg : decode c.code g.pc = .ok (.invokevirtual index, 3))
    (hpre : ∀ vm₁, s.WarmedH vm₁ → Pre ⟨T.setVm vm₁, locs, cells, slots⟩ (Value.ref b :: argsL).toArray) :
    (∃ (v : Option Value) (vm₁ : Vm) (B : Pt), s.WarmedH vm₁ ∧ Stand p l e R s m args below meth c B.U B.locs B.cells B.slots ∧ Post ⟨T.setVm vm₁, locs, cells, slots⟩ (Value.ref b :: argsL).toArray v B ∧
      ∀ target, Steps p.tables e below (B.U.setTop { g with pc := g.pc + 3, stack := v.toList ++ rest }) target → Steps p.tables e below (T.setTop g) target) ∨
    (∃ (q : Addr) (vm₁ : Vm) (B : Pt), s.WarmedH vm₁ ∧ Stand p l e R s m args below meth c B.U B.locs B.cells B.slots ∧ PostX ⟨T.setVm vm₁, locs, cells, slots⟩ (Value.ref b :: argsL).toArray q B ∧
      Steps p.tables e below (T.setTop g) ((B.U.setTop { g with stack := rest }).pushFrame (.throwing q))) := by
  obtain ⟨mk, methM, hnamed, hmethM, hstM, habM⟩ := Cond.instanceMethod_spec hinst
  obtain ⟨methM', cM, hmethM', -, -, -, -, -, -, hsigM⟩ := Cond.code_spec hnamed hcode
  cases hmethM.symm.trans hmethM'
  obtain ⟨c2, r2, m2, q1, q2, q3, q4, kP, hkP, hkPi⟩ := Cond.selects_spec hsel
  cases hcls.symm.trans q1
  cases (State.methodFound?_of_named hnamed hy).symm.trans q2
  cases hnamed.symm.trans q3
  have hselP : selectMethod e.platform s.vm cellB.cls mk = .method mk := by rw [Launch.admits_selectMethod X.admits]; exact q4
  obtain ⟨vm₁, X₁, hstep₁⟩ := X.invokevirtual hexec hown hlink hnamed hmethM hstM hkP hkPi hy (a := b) (cell := cellB) hcell
    (fun z h => by rw [h] at hobj; cases hobj) hselP hmethM habM hkP hkPi (g := g) hg (argsL := argsL) (rest := rest) (hlen _ hsigM) hstack hdg
  rcases hK m meth c ⟨T.setVm vm₁, locs, cells, slots⟩ { g with stack := rest } (.invokevirtual index) mk (Value.ref b :: argsL).toArray X₁ hg hsize hdg hW (X₁.named hnamed) (hpre vm₁ X₁.warmed) with ⟨v, B, X', hpost, hsteps⟩ | ⟨q, B, X', hpost, hsteps⟩
  · exact Or.inl ⟨v, vm₁, B, X₁.warmed, X', hpost, fun target h => hstep₁ _ fun acts => by rw [doInvoke_state]; exact hsteps.trans h⟩
  · exact Or.inr ⟨q, vm₁, B, X₁.warmed, X', hpost, hstep₁ _ fun acts => by rw [doInvoke_state]; exact hsteps⟩
theorem vx_callS (X : Stand p l e R s m args below meth c T locs cells slots) (hexec : p.tables.exec = Jvm.exec) {own : String} {index : Nat} {y : MethodName} {bytes : ByteArray} {maxL : Nat} {ret : Option FieldType}
    (hown : s.vm.findClass own = some m.cls) (hlink : (Cond.methodLink own index y).before args s = true) (hstat : (Cond.static y).before args s = true) (hinit : (Cond.initialized y.cls).before args s = true)
    (hcode : (Cond.code y bytes maxL ret).before args s = true) (hy : y.cls ≠ "java/lang/invoke/MethodHandle" ∧ y.cls ≠ "java/lang/invoke/VarHandle")
    {W9 : Nat} {Pre : Pt → Array Value → Prop} {Post : Pt → Array Value → Option Value → Pt → Prop} {PostX : Pt → Array Value → Addr → Pt → Prop} (hK : vx_Back l R p e below s args y 3 W9 Pre Post PostX)
    {g : JFrame} (hg : g.method = m) (hsize : g.locals.size = c.maxLocals) {argsL rest : List Value} (hlen : ∀ sig, parseMethodDescriptor y.desc = some sig → argsL.length = sig.parameters.length)
    (hstack : g.stack = argsL.reverse ++ rest) (hW : 2 * g.monitorRoom + (rest.map fun v => v.category).sum ≤ W9) (hdg : decode c.code g.pc = .ok (.invokestatic index, 3))
    (hpre : ∀ vm₁, s.WarmedH vm₁ → Pre ⟨T.setVm vm₁, locs, cells, slots⟩ argsL.toArray) :
    (∃ (v : Option Value) (vm₁ : Vm) (B : Pt), s.WarmedH vm₁ ∧ Stand p l e R s m args below meth c B.U B.locs B.cells B.slots ∧ Post ⟨T.setVm vm₁, locs, cells, slots⟩ argsL.toArray v B ∧
      ∀ target, Steps p.tables e below (B.U.setTop { g with pc := g.pc + 3, stack := v.toList ++ rest }) target → Steps p.tables e below (T.setTop g) target) ∨
    (∃ (q : Addr) (vm₁ : Vm) (B : Pt), s.WarmedH vm₁ ∧ Stand p l e R s m args below meth c B.U B.locs B.cells B.slots ∧ PostX ⟨T.setVm vm₁, locs, cells, slots⟩ argsL.toArray q B ∧
      Steps p.tables e below (T.setTop g) ((B.U.setTop { g with stack := rest }).pushFrame (.throwing q))) := by
  obtain ⟨mk, hnamed⟩ := Cond.code_named hcode
  obtain ⟨methM, cM, hmethM, -, -, -, -, -, -, hsigM⟩ := Cond.code_spec hnamed hcode
  have hstatic : methM.isStatic = true := Cond.static_spec hnamed hmethM hstat
  obtain ⟨kP, hkP, -⟩ := className_of_methodNamed hnamed
  have hinitP : kP.init = .initialized := Cond.initialized_spec (findClass_of_methodNamed hnamed) hkP hinit
  obtain ⟨vm₁, X₁, hstep₁⟩ := X.invokestatic hexec hown hlink hnamed hmethM hstatic hkP hinitP hy (g := g) hg (argsL := argsL) (rest := rest) (hlen _ hsigM) hstack hdg
  rcases hK m meth c ⟨T.setVm vm₁, locs, cells, slots⟩ { g with stack := rest } (.invokestatic index) mk argsL.toArray X₁ hg hsize hdg hW (X₁.named hnamed) (hpre vm₁ X₁.warmed) with ⟨v, B, X', hpost, hsteps⟩ | ⟨q, B, X', hpost, hsteps⟩
  · exact Or.inl ⟨v, vm₁, B, X₁.warmed, X', hpost, fun target h => hstep₁ _ fun acts => by rw [doInvoke_state]; exact hsteps.trans h⟩
  · exact Or.inr ⟨q, vm₁, B, X₁.warmed, X', hpost, hstep₁ _ fun acts => by rw [doInvoke_state]; exact hsteps⟩
end Calls
theorem vx_cls {s : State} {T : State} {vm₁ : Vm} {E : String} {k : ClassId} (hW : s.WarmedH vm₁) (h : (T.setVm vm₁).vm.findClass E = some k) : s.vm.findClass E = some k := by
  have h1 : vm₁.findClass E = some k := h
  rw [hW.alike.findClass] at h1
  exact h1
/-- the method's frame g, with q thrown over it -/
def vx_W (p : Program) (l : Launch) (e : Env) (R : Room) (s : State) (m : MethodId) (args : Array Value) (below : List Frame) (meth : Method) (c : Code) (H : Heap) (locs : List Loc) (cells slots : Nat) (Q : State → Prop) (g : JFrame) (q : Addr) : Prop :=
  ∀ T : State, T.heap = H → Stand p l e R s m args below meth c T locs cells slots → ∃ t, Steps p.tables e below ((T.setTop g).pushFrame (.throwing q)) t ∧ Q t
def vx_Run (p : Program) (l : Launch) (e : Env) (R : Room) (s : State) (m : MethodId) (args : Array Value) (below : List Frame) (meth : Method) (c : Code) (H : Heap) (locs : List Loc) (cells slots mc ms : Nat) (g : JFrame) (rest : List Value) (Qa : State → Outcome → State → Prop) (XC : String → State → State → Prop) (free : Addr → Prop) : Prop :=
  ∀ T : State, T.heap = H → Stand p l e R s m args below meth c T locs cells slots →
    (∃ (v : Option Value) (st₀ t T' : State) (L : List Loc), st₀.heap = H ∧ Stand p l e R s m args below meth c T' (locs ++ L) (cells + mc) (slots + ms) ∧ (∀ q ∈ L, free q.base) ∧ T'.heap = t.heap ∧ T'.vm = t.vm ∧ Qa st₀ (.returned v) t ∧
      Goes p e below T g T' { g with pc := g.pc + 3, stack := v.toList ++ rest }) ∨
    (∃ (q : Addr) (st₀ t T' : State) (L : List Loc) (E : String) (ce : Cell), st₀.heap = H ∧ Stand p l e R s m args below meth c T' (locs ++ L) (cells + mc) (slots + ms) ∧ (∀ z ∈ L, free z.base) ∧ T'.heap = t.heap ∧ T'.vm = t.vm ∧ XC E st₀ t ∧ t.heap[q]? = some ce ∧ ce.vm = .none ∧ s.vm.findClass E = some ce.cls ∧
      Steps p.tables e below (T.setTop g) ((T'.setTop { g with stack := rest }).pushFrame (.throwing q)))
def vx_X {S : Type} (px : S → Prop) (B : String → S → State → Prop) (A : Nat → Prop) : String → State → State → Prop := fun E st t => ∃ u : S, px u ∧ B E u t ∧ va_F A st t
section Runs
variable {p : Program} {l : Launch} {e : Env} {R : Room} {s : State} {m : MethodId} {args : Array Value} {below : List Frame} {meth : Method} {c : Code} {H : Heap} {locs : List Loc} {cells slots : Nat}
variable {y : MethodName} {bytes cc : ByteArray} {maxL nL mc ms n index : Nat} {ret : Option FieldType} {ws : List Cond} {rm : Room} {Pc : Array Value → State → Prop} {Qc : Array Value → State → Outcome → State → Prop} {XC : String → State → State → Prop} {free : Addr → Prop} {Ts : List Cond} {own C : String} {b : Addr} {As rest : List Value} {g : JFrame}
theorem vx_callBack (cb : CallB R s args own index y bytes maxL ret ws rm mc ms n) (hM : vx_Met l y ws rm Pc Qc XC mc ms free) (hbl : FrameBlind Pc) : vx_Back l R p e below s args y 3 8 (PreOf R mc ms Pc) (PostOf Qc mc ms free) (vx_Post XC mc ms free) := by
  obtain ⟨hrc, hrs, hfr, hlo, hws, hcw, -, hini, -⟩ := cb
  exact vx_back (bytes := bytes) (maxL := maxL) (ret := ret) hM hbl hrc hrs hfr hlo hws hcw (fun a' U hW => word_at hW (Or.inl (by first | rfl | simp [Cond.onTables, Cond.keeps, Cond.steady])) hini)
theorem vx_runV (S : CallFix p m c cc nL s args Ts own) (hM : vx_Met l y ws rm Pc Qc XC mc ms free) (cw : CallW R s args own C index y bytes maxL ret ws rm mc ms n) (hp : PreV s H C b Pc As)
    (hg : g.method = m) (hn : As.length = n) (hsize : g.locals.size = nL) (hstack : g.stack = As.reverse ++ .ref b :: rest) (hW : 2 * g.monitorRoom + (rest.map fun v => v.category).sum ≤ 8) (hdg : decode cc g.pc = .ok (.invokevirtual index, 3)) (hf : cells + mc ≤ R.cells ∧ slots + ms ≤ R.slots) :
    vx_Run p l e R s m args below meth c H locs cells slots mc ms g rest (Qc (Value.ref b :: As).toArray) XC free := by
  have hK : vx_Back l R p e below s args y 3 8 (PreOf R mc ms Pc) (PostOf Qc mc ms free) (vx_Post XC mc ms free) := vx_callBack cw.1 hM hp.1
  obtain ⟨⟨-, -, -, -, -, -, hcode, -, hy, hlen, hl⟩, hin, hse⟩ := cw
  obtain ⟨hx, hb, hml, ho, -⟩ := S
  obtain ⟨-, ⟨cellB, hcB, hoB, hclB⟩, hPc⟩ := hp
  intro T hT X
  rcases vx_callV X hx (C := C) (bytes := bytes) (maxL := maxL) (ret := ret) ho hl hin hse hcode hy hK (by rw [hT]; exact hcB) hoB hclB hg (hsize.trans hml.symm) (argsL := As) (rest := rest) (fun sig h => hn.trans (hlen sig h)) hstack hW (by rw [hb]; exact hdg)
    (fun vm₁ hW₁ => ⟨hf.1, hf.2, hPc (T.setVm vm₁) hT hW₁⟩) with ⟨v, vm₁, ⟨U', l2, c2, s2⟩, hW₁, X', ⟨g', mk, t, L, e1, e2, hq, h1, hL, h2, h3⟩, st⟩ | ⟨q, vm₁, ⟨U', l2, c2, s2⟩, hW₁, X', ⟨g', mk, t, L, E, ce, e1, e2, hq, hce, hcv, hcl, h1, hL, h2, h3⟩, st⟩
  · dsimp only [Pt.U, Pt.locs, Pt.cells, Pt.slots] at X' e1 e2 h1 h2 h3 st
    subst h1; subst h2; subst h3
    exact Or.inl ⟨v, (T.setVm vm₁).calling g' mk (Value.ref b :: As).toArray, t, U', L, hT, X', hL, e1, e2, hq, st⟩
  · dsimp only [Pt.U, Pt.locs, Pt.cells, Pt.slots] at X' e1 e2 h1 h2 h3 st hcl
    subst h1; subst h2; subst h3
    exact Or.inr ⟨q, (T.setVm vm₁).calling g' mk (Value.ref b :: As).toArray, t, U', L, E, ce, hT, X', hL, e1, e2, hq, hce, hcv, vx_cls hW₁ hcl, st⟩
theorem vx_runS (S : CallFix p m c cc nL s args Ts own) (hM : vx_Met l y ws rm Pc Qc XC mc ms free) (cw : CallB R s args own index y bytes maxL ret ws rm mc ms n ∧ (Cond.static y).before args s = true) (hp : PreS s H Pc As)
    (hg : g.method = m) (hn : As.length = n) (hsize : g.locals.size = nL) (hstack : g.stack = As.reverse ++ rest) (hW : 2 * g.monitorRoom + (rest.map fun v => v.category).sum ≤ 8) (hdg : decode cc g.pc = .ok (.invokestatic index, 3)) (hf : cells + mc ≤ R.cells ∧ slots + ms ≤ R.slots) :
    vx_Run p l e R s m args below meth c H locs cells slots mc ms g rest (Qc As.toArray) XC free := by
  have hK : vx_Back l R p e below s args y 3 8 (PreOf R mc ms Pc) (PostOf Qc mc ms free) (vx_Post XC mc ms free) := vx_callBack cw.1 hM hp.1
  obtain ⟨⟨-, -, -, -, -, -, hcode, hini, hy, hlen, hl⟩, hstt⟩ := cw
  obtain ⟨hx, hb, hml, ho, -⟩ := S
  intro T hT X
  rcases vx_callS X hx (bytes := bytes) (maxL := maxL) (ret := ret) ho hl hstt hini hcode hy hK hg (hsize.trans hml.symm) (argsL := As) (rest := rest) (fun sig h => hn.trans (hlen sig h)) hstack hW (by rw [hb]; exact hdg)
    (fun vm₁ hW₁ => ⟨hf.1, hf.2, hp.2 (T.setVm vm₁) hT hW₁⟩) with ⟨v, vm₁, ⟨U', l2, c2, s2⟩, hW₁, X', ⟨g', mk, t, L, e1, e2, hq, h1, hL, h2, h3⟩, st⟩ | ⟨q, vm₁, ⟨U', l2, c2, s2⟩, hW₁, X', ⟨g', mk, t, L, E, ce, e1, e2, hq, hce, hcv, hcl, h1, hL, h2, h3⟩, st⟩
  · dsimp only [Pt.U, Pt.locs, Pt.cells, Pt.slots] at X' e1 e2 h1 h2 h3 st
    subst h1; subst h2; subst h3
    exact Or.inl ⟨v, (T.setVm vm₁).calling g' mk As.toArray, t, U', L, hT, X', hL, e1, e2, hq, st⟩
  · dsimp only [Pt.U, Pt.locs, Pt.cells, Pt.slots] at X' e1 e2 h1 h2 h3 st hcl
    subst h1; subst h2; subst h3
    exact Or.inr ⟨q, (T.setVm vm₁).calling g' mk As.toArray, t, U', L, E, ce, hT, X', hL, e1, e2, hq, hce, hcv, vx_cls hW₁ hcl, st⟩
end Runs
section Rows
variable {p : Program} {l : Launch} {e : Env} {R : Room} {s : State} {m : MethodId} {args : Array Value} {below : List Frame} {meth : Method} {c : Code} {H : Heap} {locs : List Loc} {cells slots : Nat} {Q : State → Prop}
variable {mc ms : Nat} {free : Addr → Prop} {A0 A1 : Nat → Prop} {H0 : Heap} {a : Array Value} {pc : Nat} {ls : Array Slot} {st0 rest : List Value}
theorem vx_keep {st₀ t T' : State} {L : List Loc} (h0 : st₀.heap = H) (e1 : T'.heap = t.heap) (hS : va_S A0 H0 H locs) (hA : ∀ q, q < H.size → A1 q → A0 q) (hf : ∀ q, free q → A0 q) (hL : ∀ q ∈ L, free q.base) (hF : va_F A1 st₀ t) :
    H.size ≤ T'.heap.size ∧ (∀ q : Nat, q < H.size → ¬ A1 q → T'.heap[q]? = H[q]?) ∧ va_S A0 H0 T'.heap (locs ++ L) := by
  obtain ⟨hz, hk⟩ := hF
  rw [h0] at hz hk
  exact ⟨by rw [e1]; exact hz, fun q h1 h2 => by rw [e1]; exact hk q h1 h2,
    ⟨Nat.le_trans hS.1 (by rw [e1]; exact hz), fun q h1 h2 => by rw [e1, hk q (Nat.lt_of_lt_of_le h1 hS.1) (fun z => h2 (hA q (Nat.lt_of_lt_of_le h1 hS.1) z))]; exact hS.2.1 q h1 h2, fun q hq => by
      rcases List.mem_append.mp hq with h | h
      · exact hS.2.2 q h
      · exact hf _ (hL q h)⟩⟩
theorem vx_calli {S SX : Type} {post : Int32 → S → Prop} {px : SX → Prop} {B : S → State → Prop} {BX : String → SX → State → Prop} {AX : Nat → Prop} (hr : vx_Run p l e R s m args below meth c H locs cells slots mc ms (F0 m pc ls st0) rest (va_Qi post B A1 a) (vx_X px BX AX) free) (hS : va_S A0 H0 H locs) (hA : ∀ q, q < H.size → A1 q → A0 q) (hf : ∀ q, free q → A0 q) (hAX : ∀ q, q < H.size → AX q → A0 q)
    (kx : ∀ (E : String) (ce : Cell) (q9 : Addr) (u : SX) (t : State) (H1 : Heap) (locs1 : List Loc), t.heap = H1 → s.vm.Alike t.vm → px u → BX E u t → H.size ≤ H1.size → (∀ q : Nat, q < H.size → ¬ AX q → H1[q]? = H[q]?) → va_S A0 H0 H1 locs1 → H1[q9]? = some ce → ce.vm = .none → s.vm.findClass E = some ce.cls → vx_W p l e R s m args below meth c H1 locs1 (cells + mc) (slots + ms) Q (F0 m pc ls rest) q9)
    (kk : ∀ (r : Int32) (u : S) (t : State) (H1 : Heap) (locs1 : List Loc), t.heap = H1 → s.vm.Alike t.vm → post r u → B u t → H.size ≤ H1.size → (∀ q : Nat, q < H.size → ¬ A1 q → H1[q]? = H[q]?) → va_S A0 H0 H1 locs1 → W p l e R s m args below meth c H1 locs1 (cells + mc) (slots + ms) Q (F0 m (pc + 3) ls (.int r :: rest))) : W p l e R s m args below meth c H locs cells slots Q (F0 m pc ls st0) := by
  intro T hT X
  rcases hr T hT X with ⟨v, st₀, t, T', L, h0, X', hL, e1, e2, ⟨⟨r, u, hv, hp, hb⟩, hF⟩, st⟩ | ⟨q, st₀, t, T', L, E, ce, h0, X', hL, e1, e2, ⟨u, hp, hb, hF⟩, hce, hcv, hcl, st⟩
  · cases hv
    obtain ⟨k1, k2, k3⟩ := vx_keep h0 e1 hS hA hf hL hF
    obtain ⟨t2, a1, b1⟩ := kk r u t T'.heap (locs ++ L) e1.symm (by rw [← e2]; exact X'.warmed.alike) hp hb k1 k2 k3 T' rfl X'
    exact ⟨t2, st t2 a1, b1⟩
  · obtain ⟨k1, k2, k3⟩ := vx_keep h0 e1 hS hAX hf hL hF
    obtain ⟨t2, a1, b1⟩ := kx E ce q u t T'.heap (locs ++ L) e1.symm (by rw [← e2]; exact X'.warmed.alike) hp hb k1 k2 k3 (by rw [e1]; exact hce) hcv hcl T' rfl X'
    exact ⟨t2, st.trans a1, b1⟩
theorem vx_calll {S SX : Type} {post : Int64 → S → Prop} {px : SX → Prop} {B : S → State → Prop} {BX : String → SX → State → Prop} {AX : Nat → Prop} (hr : vx_Run p l e R s m args below meth c H locs cells slots mc ms (F0 m pc ls st0) rest (va_Ql post B A1 a) (vx_X px BX AX) free) (hS : va_S A0 H0 H locs) (hA : ∀ q, q < H.size → A1 q → A0 q) (hf : ∀ q, free q → A0 q) (hAX : ∀ q, q < H.size → AX q → A0 q)
    (kx : ∀ (E : String) (ce : Cell) (q9 : Addr) (u : SX) (t : State) (H1 : Heap) (locs1 : List Loc), t.heap = H1 → s.vm.Alike t.vm → px u → BX E u t → H.size ≤ H1.size → (∀ q : Nat, q < H.size → ¬ AX q → H1[q]? = H[q]?) → va_S A0 H0 H1 locs1 → H1[q9]? = some ce → ce.vm = .none → s.vm.findClass E = some ce.cls → vx_W p l e R s m args below meth c H1 locs1 (cells + mc) (slots + ms) Q (F0 m pc ls rest) q9)
    (kk : ∀ (r : Int64) (u : S) (t : State) (H1 : Heap) (locs1 : List Loc), t.heap = H1 → s.vm.Alike t.vm → post r u → B u t → H.size ≤ H1.size → (∀ q : Nat, q < H.size → ¬ A1 q → H1[q]? = H[q]?) → va_S A0 H0 H1 locs1 → W p l e R s m args below meth c H1 locs1 (cells + mc) (slots + ms) Q (F0 m (pc + 3) ls (.long r :: rest))) : W p l e R s m args below meth c H locs cells slots Q (F0 m pc ls st0) := by
  intro T hT X
  rcases hr T hT X with ⟨v, st₀, t, T', L, h0, X', hL, e1, e2, ⟨⟨r, u, hv, hp, hb⟩, hF⟩, st⟩ | ⟨q, st₀, t, T', L, E, ce, h0, X', hL, e1, e2, ⟨u, hp, hb, hF⟩, hce, hcv, hcl, st⟩
  · cases hv
    obtain ⟨k1, k2, k3⟩ := vx_keep h0 e1 hS hA hf hL hF
    obtain ⟨t2, a1, b1⟩ := kk r u t T'.heap (locs ++ L) e1.symm (by rw [← e2]; exact X'.warmed.alike) hp hb k1 k2 k3 T' rfl X'
    exact ⟨t2, st t2 a1, b1⟩
  · obtain ⟨k1, k2, k3⟩ := vx_keep h0 e1 hS hAX hf hL hF
    obtain ⟨t2, a1, b1⟩ := kx E ce q u t T'.heap (locs ++ L) e1.symm (by rw [← e2]; exact X'.warmed.alike) hp hb k1 k2 k3 (by rw [e1]; exact hce) hcv hcl T' rfl X'
    exact ⟨t2, st.trans a1, b1⟩
theorem vx_callf {S SX : Type} {post : UInt32 → S → Prop} {px : SX → Prop} {B : S → State → Prop} {BX : String → SX → State → Prop} {AX : Nat → Prop} (hr : vx_Run p l e R s m args below meth c H locs cells slots mc ms (F0 m pc ls st0) rest (va_Qf post B A1 a) (vx_X px BX AX) free) (hS : va_S A0 H0 H locs) (hA : ∀ q, q < H.size → A1 q → A0 q) (hf : ∀ q, free q → A0 q) (hAX : ∀ q, q < H.size → AX q → A0 q)
    (kx : ∀ (E : String) (ce : Cell) (q9 : Addr) (u : SX) (t : State) (H1 : Heap) (locs1 : List Loc), t.heap = H1 → s.vm.Alike t.vm → px u → BX E u t → H.size ≤ H1.size → (∀ q : Nat, q < H.size → ¬ AX q → H1[q]? = H[q]?) → va_S A0 H0 H1 locs1 → H1[q9]? = some ce → ce.vm = .none → s.vm.findClass E = some ce.cls → vx_W p l e R s m args below meth c H1 locs1 (cells + mc) (slots + ms) Q (F0 m pc ls rest) q9)
    (kk : ∀ (r : UInt32) (u : S) (t : State) (H1 : Heap) (locs1 : List Loc), t.heap = H1 → s.vm.Alike t.vm → post r u → B u t → H.size ≤ H1.size → (∀ q : Nat, q < H.size → ¬ A1 q → H1[q]? = H[q]?) → va_S A0 H0 H1 locs1 → W p l e R s m args below meth c H1 locs1 (cells + mc) (slots + ms) Q (F0 m (pc + 3) ls (.float r :: rest))) : W p l e R s m args below meth c H locs cells slots Q (F0 m pc ls st0) := by
  intro T hT X
  rcases hr T hT X with ⟨v, st₀, t, T', L, h0, X', hL, e1, e2, ⟨⟨r, u, hv, hp, hb⟩, hF⟩, st⟩ | ⟨q, st₀, t, T', L, E, ce, h0, X', hL, e1, e2, ⟨u, hp, hb, hF⟩, hce, hcv, hcl, st⟩
  · cases hv
    obtain ⟨k1, k2, k3⟩ := vx_keep h0 e1 hS hA hf hL hF
    obtain ⟨t2, a1, b1⟩ := kk r u t T'.heap (locs ++ L) e1.symm (by rw [← e2]; exact X'.warmed.alike) hp hb k1 k2 k3 T' rfl X'
    exact ⟨t2, st t2 a1, b1⟩
  · obtain ⟨k1, k2, k3⟩ := vx_keep h0 e1 hS hAX hf hL hF
    obtain ⟨t2, a1, b1⟩ := kx E ce q u t T'.heap (locs ++ L) e1.symm (by rw [← e2]; exact X'.warmed.alike) hp hb k1 k2 k3 (by rw [e1]; exact hce) hcv hcl T' rfl X'
    exact ⟨t2, st.trans a1, b1⟩
theorem vx_calld {S SX : Type} {post : UInt64 → S → Prop} {px : SX → Prop} {B : S → State → Prop} {BX : String → SX → State → Prop} {AX : Nat → Prop} (hr : vx_Run p l e R s m args below meth c H locs cells slots mc ms (F0 m pc ls st0) rest (va_Qd post B A1 a) (vx_X px BX AX) free) (hS : va_S A0 H0 H locs) (hA : ∀ q, q < H.size → A1 q → A0 q) (hf : ∀ q, free q → A0 q) (hAX : ∀ q, q < H.size → AX q → A0 q)
    (kx : ∀ (E : String) (ce : Cell) (q9 : Addr) (u : SX) (t : State) (H1 : Heap) (locs1 : List Loc), t.heap = H1 → s.vm.Alike t.vm → px u → BX E u t → H.size ≤ H1.size → (∀ q : Nat, q < H.size → ¬ AX q → H1[q]? = H[q]?) → va_S A0 H0 H1 locs1 → H1[q9]? = some ce → ce.vm = .none → s.vm.findClass E = some ce.cls → vx_W p l e R s m args below meth c H1 locs1 (cells + mc) (slots + ms) Q (F0 m pc ls rest) q9)
    (kk : ∀ (r : UInt64) (u : S) (t : State) (H1 : Heap) (locs1 : List Loc), t.heap = H1 → s.vm.Alike t.vm → post r u → B u t → H.size ≤ H1.size → (∀ q : Nat, q < H.size → ¬ A1 q → H1[q]? = H[q]?) → va_S A0 H0 H1 locs1 → W p l e R s m args below meth c H1 locs1 (cells + mc) (slots + ms) Q (F0 m (pc + 3) ls (.double r :: rest))) : W p l e R s m args below meth c H locs cells slots Q (F0 m pc ls st0) := by
  intro T hT X
  rcases hr T hT X with ⟨v, st₀, t, T', L, h0, X', hL, e1, e2, ⟨⟨r, u, hv, hp, hb⟩, hF⟩, st⟩ | ⟨q, st₀, t, T', L, E, ce, h0, X', hL, e1, e2, ⟨u, hp, hb, hF⟩, hce, hcv, hcl, st⟩
  · cases hv
    obtain ⟨k1, k2, k3⟩ := vx_keep h0 e1 hS hA hf hL hF
    obtain ⟨t2, a1, b1⟩ := kk r u t T'.heap (locs ++ L) e1.symm (by rw [← e2]; exact X'.warmed.alike) hp hb k1 k2 k3 T' rfl X'
    exact ⟨t2, st t2 a1, b1⟩
  · obtain ⟨k1, k2, k3⟩ := vx_keep h0 e1 hS hAX hf hL hF
    obtain ⟨t2, a1, b1⟩ := kx E ce q u t T'.heap (locs ++ L) e1.symm (by rw [← e2]; exact X'.warmed.alike) hp hb k1 k2 k3 (by rw [e1]; exact hce) hcv hcl T' rfl X'
    exact ⟨t2, st.trans a1, b1⟩
theorem vx_callv {S SX : Type} {post : S → Prop} {px : SX → Prop} {B : S → State → Prop} {BX : String → SX → State → Prop} {AX : Nat → Prop} (hr : vx_Run p l e R s m args below meth c H locs cells slots mc ms (F0 m pc ls st0) rest (va_Qv post B A1 a) (vx_X px BX AX) free) (hS : va_S A0 H0 H locs) (hA : ∀ q, q < H.size → A1 q → A0 q) (hf : ∀ q, free q → A0 q) (hAX : ∀ q, q < H.size → AX q → A0 q)
    (kx : ∀ (E : String) (ce : Cell) (q9 : Addr) (u : SX) (t : State) (H1 : Heap) (locs1 : List Loc), t.heap = H1 → s.vm.Alike t.vm → px u → BX E u t → H.size ≤ H1.size → (∀ q : Nat, q < H.size → ¬ AX q → H1[q]? = H[q]?) → va_S A0 H0 H1 locs1 → H1[q9]? = some ce → ce.vm = .none → s.vm.findClass E = some ce.cls → vx_W p l e R s m args below meth c H1 locs1 (cells + mc) (slots + ms) Q (F0 m pc ls rest) q9)
    (kk : ∀ (u : S) (t : State) (H1 : Heap) (locs1 : List Loc), t.heap = H1 → s.vm.Alike t.vm → post u → B u t → H.size ≤ H1.size → (∀ q : Nat, q < H.size → ¬ A1 q → H1[q]? = H[q]?) → va_S A0 H0 H1 locs1 → W p l e R s m args below meth c H1 locs1 (cells + mc) (slots + ms) Q (F0 m (pc + 3) ls (rest))) : W p l e R s m args below meth c H locs cells slots Q (F0 m pc ls st0) := by
  intro T hT X
  rcases hr T hT X with ⟨v, st₀, t, T', L, h0, X', hL, e1, e2, ⟨⟨u, hv, hp, hb⟩, hF⟩, st⟩ | ⟨q, st₀, t, T', L, E, ce, h0, X', hL, e1, e2, ⟨u, hp, hb, hF⟩, hce, hcv, hcl, st⟩
  · cases hv
    obtain ⟨k1, k2, k3⟩ := vx_keep h0 e1 hS hA hf hL hF
    obtain ⟨t2, a1, b1⟩ := kk u t T'.heap (locs ++ L) e1.symm (by rw [← e2]; exact X'.warmed.alike) hp hb k1 k2 k3 T' rfl X'
    exact ⟨t2, st t2 a1, b1⟩
  · obtain ⟨k1, k2, k3⟩ := vx_keep h0 e1 hS hAX hf hL hF
    obtain ⟨t2, a1, b1⟩ := kx E ce q u t T'.heap (locs ++ L) e1.symm (by rw [← e2]; exact X'.warmed.alike) hp hb k1 k2 k3 (by rw [e1]; exact hce) hcv hcl T' rfl X'
    exact ⟨t2, st.trans a1, b1⟩
/-- caught by the row x of this method's table; the rows ahead don't take it -/
theorem vx_catch {own name : String} {E : String} {ce : Cell} {q : Addr} (hown : s.vm.findClass own = some m.cls) (pre : List ExceptionTableEntry) (x : ExceptionTableEntry) (suf : List ExceptionTableEntry) (hsplit : c.exceptionTable.toList = pre ++ x :: suf)
    (hpass : ∀ z ∈ pre, covers z pc = false ∨ (z.catchType ≠ 0 ∧ ∃ nm : String, (Cond.classLink own z.catchType nm).before args s = true ∧ va_Nc E nm s)) (hx : covers x pc = true) (h0 : x.catchType ≠ 0)
    (hlink : (Cond.classLink own x.catchType name).before args s = true) (hcast : (Cond.castable E name).before args s = true) (hcell : H[q]? = some ce) (hv : ce.vm = .none) (hcl : s.vm.findClass E = some ce.cls)
    (kk : W p l e R s m args below meth c H locs cells slots Q (F0 m x.handlerPc ls [.ref q])) : vx_W p l e R s m args below meth c H locs cells slots Q (F0 m pc ls rest) q := by
  intro T hT X
  have hpl : e.platform.magicAccessors = ({} : Platform).magicAccessors := by rw [X.admits.platform]
  obtain ⟨c3, c4, hc3, hc4, hasg⟩ := Cond.castable_spec hcast
  cases Option.some.inj (hc3.symm.trans hcl)
  obtain ⟨c5, hc5, hcl5⟩ := Cond.classLink_spec hown hlink e.platform hpl
  cases Option.some.inj (hc4.symm.trans hc5)
  obtain ⟨vm', X', st⟩ := X.thenCaughtThrough q (g := F0 m pc ls rest) rfl (Steps.refl _) (by rw [hT]; exact hcell) (by rw [hv]; rfl) (by obtain ⟨k9, h9, -⟩ := Vm.findClass_spec hcl; exact ⟨k9, h9⟩) pre x suf hsplit
    (fun z hz => by
      rcases hpass z hz with h | ⟨hz0, nm, hl1, hn1⟩
      · exact Or.inl h
      · obtain ⟨c6, hc6, hcl6⟩ := Cond.classLink_spec hown hl1 e.platform hpl
        obtain ⟨a8, b8, h1, h2, h3⟩ := hn1
        cases Option.some.inj (h1.symm.trans hcl)
        cases Option.some.inj (h2.symm.trans hc6)
        exact Or.inr ⟨hz0, _, hcl6, h3⟩) hx (Or.inr ⟨h0, c4, hcl5, hasg⟩)
  obtain ⟨t, a1, b1⟩ := kk (T.setVm vm') hT X'
  exact ⟨t, st.trans a1, b1⟩
end Rows
section Ends
variable {p : Program} {l : Launch} {e : Env} {R : Room} {s : State} {m : MethodId} {args : Array Value} {below : List Frame} {meth : Method} {c : Code} {H : Heap} {locs : List Loc} {cells slots : Nat} {Q : State → Prop}
variable {mc ms : Nat} {free : Addr → Prop} {A0 A1 : Nat → Prop} {H0 : Heap} {a : Array Value} {ls : Array Slot} {st0 rest : List Value}
variable {Qc : Array Value → State → Outcome → State → Prop} {XC : String → State → State → Prop}
/-- what a body that may throw owes at its end -/
def vx_MQ (below : List Frame) (Qc : Array Value → State → Outcome → State → Prop) (XC : String → State → State → Prop) (a : Array Value) (s : State) (mc ms : Nat) (free : Addr → Prop) : State → Prop := fun t =>
  ∃ o, t.status = .running ∧ Ended t below o ∧ vx_Q Qc XC mc ms free a s o t
theorem vx_ret {g : JFrame} {mc ms : Nat} (k : W p l e R s m args below meth c H locs cells slots (MQ below Qc args s mc ms free) g) : W p l e R s m args below meth c H locs cells slots (vx_MQ below Qc XC args s mc ms free) g := by
  intro T hT X
  obtain ⟨t, a1, o, b1, b2, b3, b4⟩ := k T hT X
  exact ⟨t, a1, o, b1, b2, Or.inl ⟨b3, b4⟩⟩
/-- not caught here: it goes on to the caller -/
theorem vx_widen {g : JFrame} {q : Addr} {k n : Nat} (h1 : cells ≤ k) (h2 : slots ≤ n) (kk : vx_W p l e R s m args below meth c H locs k n Q g q) : vx_W p l e R s m args below meth c H locs cells slots Q g q := fun T hT X => kk T hT (stand_widen X h1 h2)
theorem vx_out {pc : Nat} {E : String} {ce : Cell} {q : Addr} {mc ms : Nat} (hout : ∀ x ∈ c.exceptionTable.toList, covers x pc = false) (hlocks : meth.locks = false) (hcell : H[q]? = some ce) (hv : ce.vm = .none) (hcl : s.vm.findClass E = some ce.cls)
    (hx : ∀ t : State, t.heap = H → s.vm.Alike t.vm → XC E s t) (hf : ∀ z ∈ locs, free z.base) (hc : cells ≤ mc) (hs : slots ≤ ms) :
    vx_W p l e R s m args below meth c H locs cells slots (vx_MQ below Qc XC args s mc ms free) (F0 m pc ls rest) q := by
  intro T hT X
  obtain ⟨st1, hrun, hend, hW, hsm⟩ := X.leaveThrown q (g := F0 m pc ls rest) rfl rfl rfl hout hlocks
  have hcell9 : (T.setFrames (.throwing q :: below)).heap[q]? = some ce := by
    show T.heap[q]? = some ce
    rw [hT]; exact hcell
  exact ⟨_, st1, .threw q, hrun, hend, Or.inr ⟨q, rfl, E, ce, locs, hx _ hT hW.alike, hcell9, hv, hcl, hW, hsm.mono hc hs, hf⟩⟩
theorem vx_frame {U : State} {k n : Nat} (h : s.sameButNew ({ U with vm := s.vm } : State) locs k n) : s.heap.size ≤ U.heap.size ∧ ∀ q : Nat, q < s.heap.size → (∀ z ∈ locs, z.base ≠ q) → U.heap[q]? = s.heap[q]? := by
  obtain ⟨-, h2, -, -, -, h6⟩ := h
  refine ⟨h2, fun q hq hz => ?_⟩
  obtain ⟨c9, e1, e2, e3, e4⟩ := h6 q _ (Array.getElem?_eq_getElem hq)
  have hs : c9.slots = (s.heap[q]).slots := Array.ext_getElem? fun i => e4 i fun hm => hz _ hm rfl
  have h9 : c9 = s.heap[q] := by
    rw [hs] at e2
    exact e2
  have e5 : U.heap[q]? = some c9 := e1
  rw [e5, h9, Array.getElem?_eq_getElem hq]
/-- the words of a throw but the four that speak of the heap -/
def vx_no (w : Cond) : Bool := decide (w ≠ .isRef (.static Bundle.tN "UNASSIGNED_STACK" Bundle.steD)) && decide (w ≠ .isRef (.static Bundle.tN "SUPPRESSED_SENTINEL" Bundle.listD)) && decide (w ≠ .laysStatic Bundle.tN "UNASSIGNED_STACK" Bundle.steD) && decide (w ≠ .laysStatic Bundle.tN "SUPPRESSED_SENTINEL" Bundle.listD)
def vx_at0 (own : String) (ic : Nat) (X : String) (names : List String) : List Cond := (Bundle.ownAtoms0 own ic X names).filter vx_no
def vx_atS (own : String) (ic : Nat) (X : String) (names : List String) : List Cond := (Bundle.ownAtoms own ic X names).filter vx_no
/-- a word that the tables alone decide, or a good one -/
def vx_ot (w : Cond) : Bool := w.onTables || goodWord w
theorem vx_ot_at {args a' : Array Value} {s U : State} {w : Cond} (hW : s.WarmedH U.vm) (hvm : s.vm = U.vm) (hg : vx_ot w = true) (h : w.before args s = true) : w.before a' U = true := by
  simp only [vx_ot, Bool.or_eq_true] at hg
  rcases hg with hg | hg
  · exact va_tabs hg hvm h
  · exact word_at hW (good_of_word hg) h
/-- a list's words: the good ones out of the method's own list, the others by premises of their own -/
theorem vx_hat {args : Array Value} {s : State} {L B : List Cond} (h1 : ∀ w ∈ L.filter goodWord, w.before args s = true) (h2 : ∀ w ∈ L.filter (fun w => !goodWord w), w ∈ B) (h3 : ∀ w ∈ B, w.before args s = true) : ∀ w ∈ L, w.before args s = true := by
  intro w hw
  by_cases g : goodWord w = true
  · exact h1 w (List.mem_filter.mpr ⟨hw, g⟩)
  · refine h3 w (h2 w (List.mem_filter.mpr ⟨hw, ?_⟩))
    show (!goodWord w) = true
    cases hgw : goodWord w
    · rfl
    · exact absurd hgw g
theorem vx_c {args : Array Value} {s : State} {w : Cond} {B : List Cond} (h : w.before args s = true) (t : ∀ w ∈ B, w.before args s = true) : ∀ w' ∈ w :: B, w'.before args s = true := fun w' h' => (List.mem_cons.mp h').elim (fun e => by rw [e]; exact h) (t w')
theorem vx_n {args : Array Value} {s : State} : ∀ w ∈ ([] : List Cond), w.before args s = true := fun _ h => nomatch h
theorem vx_own {args : Array Value} {s : State} {L : List Cond} (h1 : ∀ w ∈ L.filter vx_no, w.before args s = true)
    (hU : (Cond.isRef (.static Bundle.tN "UNASSIGNED_STACK" Bundle.steD)).before args s = true) (hN : (Cond.isRef (.static Bundle.tN "SUPPRESSED_SENTINEL" Bundle.listD)).before args s = true)
    (lU : (Cond.laysStatic Bundle.tN "UNASSIGNED_STACK" Bundle.steD).before args s = true) (lN : (Cond.laysStatic Bundle.tN "SUPPRESSED_SENTINEL" Bundle.listD).before args s = true) : ∀ w ∈ L, w.before args s = true := by
  intro w hw
  by_cases e1 : w = .isRef (.static Bundle.tN "UNASSIGNED_STACK" Bundle.steD)
  · rw [e1]; exact hU
  · by_cases e2 : w = .isRef (.static Bundle.tN "SUPPRESSED_SENTINEL" Bundle.listD)
    · rw [e2]; exact hN
    · by_cases e3 : w = .laysStatic Bundle.tN "UNASSIGNED_STACK" Bundle.steD
      · rw [e3]; exact lU
      · by_cases e4 : w = .laysStatic Bundle.tN "SUPPRESSED_SENTINEL" Bundle.listD
        · rw [e4]; exact lN
        · exact h1 w (List.mem_filter.mpr ⟨hw, by unfold vx_no; rw [decide_eq_true e1, decide_eq_true e2, decide_eq_true e3, decide_eq_true e4]; rfl⟩)
/-- where a static field lies, its class's statics cell in H -/
def vx_L (C n d : String) (A : Nat → Prop) (U : State) (H : Heap) : Prop := ∃ (c : ClassId) (k : Class) (i : Nat) (f : Field) (a : Nat) (cell : Cell), U.vm.findClass C = some c ∧ U.fieldFound? C n d = some (c, k, i, f) ∧ f.isStatic = true ∧ k.statics = some a ∧ H[a]? = some cell ∧ cell.vm.isStatics = true ∧ cell.cls = c ∧ f.slot < cell.slots.size ∧ k.staticTypes[f.slot]? = some f.type ∧ ¬ A a
theorem vx_L.moved {C n d : String} {A : Nat → Prop} {u U : State} {H : Heap} (hvm : u.vm.Alike U.vm) (h : vx_L C n d A u H) : vx_L C n d A U H := by
  obtain ⟨c, k, i, f, a, cell, h1, h2, h3, h4, h5, h6, h7, h8, h9, h10⟩ := h
  obtain ⟨k', hi', he⟩ := State.fieldFound?_setVm hvm h2
  exact ⟨c, k', i, f, a, cell, by rw [hvm.findClass]; exact h1, hi', h3, by rw [he]; exact h4, h5, h6, h7, h8, by rw [he]; exact h9, h10⟩
theorem vx_L.kept {C n d : String} {A : Nat → Prop} {U : State} {H H1 : Heap} (h : vx_L C n d A U H) (hq : ∀ a : Nat, a < H.size → ¬ A a → H1[a]? = H[a]?) : vx_L C n d A U H1 := by
  obtain ⟨c, k, i, f, a, cell, h1, h2, h3, h4, h5, h6, h7, h8, h9, h10⟩ := h
  exact ⟨c, k, i, f, a, cell, h1, h2, h3, h4, by rw [hq a (Array.getElem?_eq_some_iff.mp h5).1 h10]; exact h5, h6, h7, h8, h9, h10⟩
theorem vx_L.narrow {C n d : String} {A B : Nat → Prop} {U : State} {H : Heap} (h : vx_L C n d A U H) (hAB : ∀ q, B q → A q) : vx_L C n d B U H := by
  obtain ⟨c, k, i, f, a, cell, h1, h2, h3, h4, h5, h6, h7, h8, h9, h10⟩ := h
  exact ⟨c, k, i, f, a, cell, h1, h2, h3, h4, h5, h6, h7, h8, h9, fun z => h10 (hAB _ z)⟩
theorem vx_L.word {C n d : String} {A : Nat → Prop} {s : State} {args : Array Value} (h : vx_L C n d A s s.heap) : (Cond.laysStatic C n d).before args s = true := by
  obtain ⟨c, k, i, f, a, cell, h1, h2, h3, h4, h5, h6, h7, h8, h9, -⟩ := h
  show (Cond.laysStatic C n d).holds args s none s [] = true
  exact Cond.laysStatic_of h1 h2 h3 h4 h5 h6 h7 h8 h9
/-- .. and what it holds: null or some reference -/
def vx_Zq (C n d : String) (A : Nat → Prop) (U : State) (H : Heap) : Prop := va_Zq C n d A U H ∧ vx_L C n d A U H
theorem vx_Zq.moved {C n d : String} {A : Nat → Prop} {u U : State} {H : Heap} (hvm : u.vm.Alike U.vm) (h : vx_Zq C n d A u H) : vx_Zq C n d A U H := ⟨va_Zq.moved hvm h.1, vx_L.moved hvm h.2⟩
theorem vx_Zq.kept {C n d : String} {A : Nat → Prop} {U : State} {H H1 : Heap} (h : vx_Zq C n d A U H) (hq : ∀ a : Nat, a < H.size → ¬ A a → H1[a]? = H[a]?) : vx_Zq C n d A U H1 := ⟨va_Zq.kept h.1 hq, vx_L.kept h.2 hq⟩
theorem vx_Zq.narrow {C n d : String} {A B : Nat → Prop} {U : State} {H : Heap} (h : vx_Zq C n d A U H) (hAB : ∀ q, B q → A q) : vx_Zq C n d B U H := ⟨va_Zq.narrow h.1 hAB, vx_L.narrow h.2 hAB⟩
theorem vx_Zqof {args : Array Value} {s : State} {C n d : String} {A : Nat → Prop} (hl : (Cond.laysStatic C n d).before args s = true) (hini : (Cond.initialized C).before args s = true) (h : (Cond.isRef (.static C n d)).before args s = true) (hA : ∀ a : Nat, a < s.heap.size → ¬ A a) : vx_Zq C n d A s s.heap := by
  refine ⟨va_Zqof hl hini h hA, ?_⟩
  obtain ⟨c, k, i, f, a, cell, h1, h2, h3, h4, h5, h6, h7, h8, h9⟩ := Cond.laysStatic_spec hl
  exact ⟨c, k, i, f, a, cell, h1, h2, h3, h4, h5, h6, h7, h8, h9, hA a (Array.getElem?_eq_some_iff.mp h5).1⟩
theorem vx_isRef {C n d : String} {v : Value} {A : Nat → Prop} {s : State} {args : Array Value} (h : va_Z C n d v A s s.heap) (hv : v.isRef = true) : (Cond.isRef (.static C n d)).before args s = true := by
  obtain ⟨cf, kf, fi, f, a, cell, h1, h2, h3, h4, h5, h6, h7, -⟩ := h
  have he : (Term.static C n d).eval args s none [] s = some v := by
    simp [Term.eval, State.fieldNamed?, h1, h2, h4, h5, h6, h7]
  simp only [Cond.before, Cond.holds, Cond.value, he]
  cases v <;> simp_all [Value.isRef]
theorem vx_isRefq {C n d : String} {A : Nat → Prop} {s : State} {args : Array Value} (h : va_Zq C n d A s s.heap) : (Cond.isRef (.static C n d)).before args s = true := by
  rcases h with h | ⟨t, h⟩
  · exact vx_isRef h rfl
  · exact vx_isRef h rfl
/-- the same frame, seen from here: as if the method were called anew in this heap -/
theorem vx_rebase {T : State} (X : Stand p l e R s m args below meth c T locs cells slots) {R' : Room} (hf : R'.frames ≤ R.frames) (hl : R'.locals ≤ R.locals) (hc : cells + R'.cells ≤ R.cells) (hs : slots + R'.slots ≤ R.slots) :
    Stand p l e R' ((T.setVm s.vm).setFrames (.invoking m args :: below)) m args below meth c T [] 0 0 := by
  have htop : (T.setVm s.vm).topJava?.isSome := X.here.top
  have hF : ((T.setVm s.vm).setFrames (.invoking m args :: below)).frames = .invoking m args :: below := State.frames_setFrames _ (State.cur_lt_of_top htop)
  obtain ⟨g₀, hg0⟩ := Option.isSome_iff_exists.mp htop
  obtain ⟨r, hr⟩ := State.topJava?_eq_some.mp hg0
  have hl9 : e.platform.stackLimits (T.setVm s.vm).me = e.platform.stackLimits s.me := X.limits
  have hb9 : (T.setVm s.vm).me.stackBytes = s.me.stackBytes := X.bytes
  refine ⟨X.admits, X.cas, X.clock, hF, ?_, X.hears, X.method, X.code, X.here, X.tail, X.warmed, ?_, ?_, ?_⟩
  · have h := X.room
    have hU : ((T.setVm s.vm).setFrames (.invoking m args :: below)).localsInUse = s.localsInUse := by
      rw [State.localsInUse_invoking hF (meth := meth) (c := c) X.method X.code, State.localsInUse_invoking X.frames X.method X.code]
    simp only [State.hasRoom, Bool.and_eq_true, decide_eq_true_eq] at h ⊢
    obtain ⟨⟨⟨⟨h1, h2, h3, h4, h5, h6⟩, h7⟩, h8⟩, h9⟩ := h
    rw [X.frames, List.length_cons] at h2 h3
    have q1 := X.heapSize
    have q2 := X.used
    simp only [hF, hU, List.length_cons, State.stackLimits_setFrames, State.stackBytes_setFrames, hl9, hb9]
    refine ⟨⟨⟨⟨by omega, by omega, by omega, by omega, by omega, h6⟩, ?_⟩, ?_⟩, X.book⟩
    · show T.heap.size + R'.cells ≤ e.platform.maxCells
      omega
    · show T.slotsUsed + R'.slots ≤ e.platform.maxSlots
      omega
  · rw [State.stackLimits_setFrames]; rfl
  · rw [State.stackBytes_setFrames]; rfl
  · refine ⟨?_, Nat.le_refl _, Nat.le_refl _, ?_, ?_, fun a c9 h9 => ⟨c9, h9, rfl, rfl, fun _ _ => rfl⟩⟩
    · obtain ⟨t, ht, -⟩ := State.frames_cons hr
      show T.setVm s.vm = { ((T.setVm s.vm).setFrames (.invoking m args :: below)).setFrames (T.setVm s.vm).frames with heap := T.heap, slotsUsed := T.slotsUsed }
      rw [State.setFrames_setFrames, State.setFrames_self ht]
      rfl
    · show T.slotsUsed = T.slotsUsed + ((T.heap.toList.drop T.heap.size).map (·.slots.size)).sum
      rw [List.drop_eq_nil_of_le (Nat.le_of_eq Array.length_toList)]
      rfl
    · show ((T.heap.toList.drop T.heap.size).map (·.slots.size)).sum ≤ 0
      rw [List.drop_eq_nil_of_le (Nat.le_of_eq Array.length_toList)]
      exact Nat.le_refl _
/-- 'throw new E()': new; dup; invokespecial; athrow -/
theorem vx_throw0 {cc : ByteArray} {pc : Nat} (hexec : p.tables.exec = Jvm.exec) (hb : c.code = cc) (hl : l.stackTraces = false) {own cls : String} {names : List String} {ik ic mc ms : Nat} {A : Nat → Prop}
    (hown : s.vm.findClass own = some m.cls) (hcls : Bundle.fit cls = true) (hnames : ∀ n ∈ names, Bundle.fit n = true)
    (hk : (Cond.classLink own ik cls).before args s = true) (hini : (Cond.initialized cls).before args s = true) (hat : ∀ w ∈ vx_at0 own ic cls names, w.before args s = true)
    (hgood : ∀ w ∈ Cond.classLink own ik cls :: Cond.initialized cls :: vx_at0 own ic cls names, vx_ot w = true)
    (hU : vx_Zq Bundle.tN "UNASSIGNED_STACK" Bundle.steD A s s.heap) (hN : vx_Zq Bundle.tN "SUPPRESSED_SENTINEL" Bundle.listD A s s.heap) (hS : va_S A s.heap H locs) (hsize : ls.size = c.maxLocals)
    (d0 : decode cc pc = .ok (.new ik, 3)) (d3 : decode cc (pc + 3) = .ok (.dup, 1)) (d4 : decode cc (pc + 4) = .ok (.invokespecial ic, 3)) (d7 : decode cc (pc + 7) = .ok (.athrow, 1))
    (hout : ∀ x ∈ c.exceptionTable.toList, covers x (pc + 7) = false)
    (hRframes : names.length + 3 < R.frames) (hRlocals : (rest.map fun v => v.category).sum + (13 * (names.length + 1) + 42) ≤ R.locals) (hRcells : cells + 1 ≤ R.cells) (hRslots : slots + 6 ≤ R.slots) (hlocks : meth.locks = false)
    (hx : ∀ t : State, s.vm.Alike t.vm → H.size ≤ t.heap.size → (∀ q : Nat, q < H.size → t.heap[q]? = H[q]?) → XC cls s t)
    (hf : ∀ z ∈ locs, free z.base) (hc : cells + 1 ≤ mc) (hs : slots + 6 ≤ ms) :
    W p l e R s m args below meth c H locs cells slots (vx_MQ below Qc XC args s mc ms free) (F0 m pc ls rest) := by
  intro T hT X
  have htr : e.platform.stackTraces = false := (show e.platform.stackTraces = l.stackTraces by rw [X.admits.platform]).trans hl
  have Y := vx_rebase X (R' := { frames := R.frames, locals := R.locals, cells := 1, slots := 6 }) (Nat.le_refl _) (Nat.le_refl _) hRcells hRslots
  obtain ⟨s', hA⟩ : ∃ z, z = (T.setVm s.vm).setFrames (.invoking m args :: below) := ⟨_, rfl⟩
  rw [← hA] at Y
  have hvm : s'.vm = s.vm := by rw [hA]; rfl
  have hhp : s'.heap = H := by rw [hA]; exact hT
  have hW0 : s.WarmedH s'.vm := by rw [hvm]; exact State.WarmedH.refl s
  have hat' : ∀ w ∈ vx_at0 own ic cls names, w.before args s' = true := fun w hw => vx_ot_at hW0 hvm.symm (hgood w (List.mem_cons_of_mem _ (List.mem_cons_of_mem _ hw))) (hat w hw)
  have hk' : (Cond.classLink own ik cls).before args s' = true := vx_ot_at hW0 hvm.symm (hgood _ List.mem_cons_self) hk
  have hini' : (Cond.initialized cls).before args s' = true := vx_ot_at hW0 hvm.symm (hgood _ (List.mem_cons_of_mem _ List.mem_cons_self)) hini
  have hU' : vx_Zq Bundle.tN "UNASSIGNED_STACK" Bundle.steD A s' s'.heap := by rw [hhp]; exact vx_Zq.moved hW0.alike (hU.kept hS.2.1)
  have hN' : vx_Zq Bundle.tN "SUPPRESSED_SENTINEL" Bundle.listD A s' s'.heap := by rw [hhp]; exact vx_Zq.moved hW0.alike (hN.kept hS.2.1)
  have h : ∀ w ∈ Bundle.ownAtoms0 own ic cls names, w.before args s' = true := vx_own hat' (vx_isRefq hU'.1) (vx_isRefq hN'.1) hU'.2.word hN'.2.word
  have hown' : s'.vm.findClass own = some m.cls := by rw [hvm]; exact hown
  have hins : (Cond.instantiable cls 6).before args s' = true := h _ (by simp [Bundle.ownAtoms0])
  obtain ⟨vm₁, cX, kX, hfX, hkX, -, -, X₁, st1⟩ := Y.newCold hexec (own := own) (C := cls) (index := ik) (n := 6) hown' hk' hins hini'
    (g := F0 m pc ls rest) rfl (by rw [hb]; exact d0) (Nat.le_refl _) (Nat.le_refl _)
  generalize hT1 : (T.setVm vm₁).pushCell { cls := cX, slots := kX.instanceTypes.map defaultValue, vm := .none } = T1 at X₁ st1
  have hcat : (Value.ref T.heap.size).category = 1 := rfl
  have hcellA : T1.heap[T.heap.size]? = some (freshCell cX kX) := by rw [← hT1]; exact State.heap_pushCell_size _ _
  have d3' : decode c.code (pc + 3) = .ok (.dup, 1) := by rw [hb]; exact d3
  obtain ⟨U, hsteps, hrun, hend, hW, hsame, ce, hce, hO⟩ := X₁.ctorThrow0 hexec htr (own := own) (cls := cls) (names := names) (ic := ic) hown' hcls hnames h (fun x hx => nomatch hx) hfX hkX hcellA (by rw [hhp, hT]; exact Nat.le_refl _)
    (g := { method := m, pc := pc + 4, locals := ls, stack := .ref T.heap.size :: .ref T.heap.size :: rest, locked := none }) rfl hsize rfl rfl (rest := rest) rfl
    (by rw [hb]; exact d4) (by rw [hb]; exact d7) hout hRframes (by simp only [List.map_cons, List.sum_cons, hcat]; omega) hlocks
  obtain ⟨f1, f2⟩ := vx_frame hsame
  rw [hhp] at f1 f2
  have hWs : s.WarmedH U.vm := State.WarmedH.trans hW0 hW
  have hcl : s.vm.findClass cls = some ce.cls := by
    have h9 := hO.cls
    rw [hvm] at h9
    exact h9
  have hall : s.sameButNew ({ U with vm := s.vm } : State) locs mc ms := by
    subst hA
    obtain ⟨e1, e2⟩ := hsame
    rw [State.setFrames_setFrames] at e1
    have h2 : (T.setVm s.vm).sameButNew ({ U with vm := s.vm } : State) [] (0 + 1) (0 + 6) := ⟨e1, e2⟩
    have h3 := X.same.trans h2
    rw [List.append_nil] at h3
    exact h3.mono hc hs
  refine ⟨U, ?_, .threw T.heap.size, hrun, hend, Or.inr ⟨T.heap.size, rfl, cls, ce, locs, hx U hWs.alike f1 (fun q hq => f2 q hq (fun z hz => nomatch hz)), hce, hO.vm, hcl, hWs, hall, hf⟩⟩
  refine st1 _ ?_
  show Steps p.tables e below (T1.setTop { method := m, pc := pc + 3, locals := ls, stack := .ref T.heap.size :: rest, locked := none }) _
  jvm_step X₁.here [X₁.here.top, hexec, d3', Value.category]
  exact hsteps
/-- 'throw new E("text")': new; dup; ldc; invokespecial; athrow -/
theorem vx_throwS {cc : ByteArray} {pc : Nat} (hexec : p.tables.exec = Jvm.exec) (hb : c.code = cc) (hl : l.stackTraces = false) {own cls text : String} {names : List String} {ik is ic mc ms sa : Nat} {A : Nat → Prop}
    (hown : s.vm.findClass own = some m.cls) (hcls : Bundle.fit cls = true) (hnames : ∀ n ∈ names, Bundle.fit n = true)
    (hk : (Cond.classLink own ik cls).before args s = true) (hini : (Cond.initialized cls).before args s = true) (hstr : vk_R own is text sa s) (hat : ∀ w ∈ vx_atS own ic cls names, w.before args s = true)
    (hgood : ∀ w ∈ Cond.classLink own ik cls :: Cond.initialized cls :: vx_atS own ic cls names, vx_ot w = true)
    (hU : vx_Zq Bundle.tN "UNASSIGNED_STACK" Bundle.steD A s s.heap) (hN : vx_Zq Bundle.tN "SUPPRESSED_SENTINEL" Bundle.listD A s s.heap) (hS : va_S A s.heap H locs) (hsize : ls.size = c.maxLocals)
    (d0 : decode cc pc = .ok (.new ik, 3)) (d3 : decode cc (pc + 3) = .ok (.dup, 1)) (d4 : decode cc (pc + 4) = .ok (.ldc is, 2)) (d6 : decode cc (pc + 6) = .ok (.invokespecial ic, 3)) (d9 : decode cc (pc + 9) = .ok (.athrow, 1))
    (hout : ∀ x ∈ c.exceptionTable.toList, covers x (pc + 9) = false)
    (hRframes : names.length + 3 < R.frames) (hRlocals : (rest.map fun v => v.category).sum + (13 * (names.length + 1) + 43) ≤ R.locals) (hRcells : cells + 1 ≤ R.cells) (hRslots : slots + 6 ≤ R.slots) (hlocks : meth.locks = false)
    (hx : ∀ t : State, s.vm.Alike t.vm → H.size ≤ t.heap.size → (∀ q : Nat, q < H.size → t.heap[q]? = H[q]?) → XC cls s t)
    (hf : ∀ z ∈ locs, free z.base) (hc : cells + 1 ≤ mc) (hs : slots + 6 ≤ ms) :
    W p l e R s m args below meth c H locs cells slots (vx_MQ below Qc XC args s mc ms free) (F0 m pc ls rest) := by
  intro T hT X
  have htr : e.platform.stackTraces = false := (show e.platform.stackTraces = l.stackTraces by rw [X.admits.platform]).trans hl
  have Y := vx_rebase X (R' := { frames := R.frames, locals := R.locals, cells := 1, slots := 6 }) (Nat.le_refl _) (Nat.le_refl _) hRcells hRslots
  obtain ⟨s', hA⟩ : ∃ z, z = (T.setVm s.vm).setFrames (.invoking m args :: below) := ⟨_, rfl⟩
  rw [← hA] at Y
  have hvm : s'.vm = s.vm := by rw [hA]; rfl
  have hhp : s'.heap = H := by rw [hA]; exact hT
  have hW0 : s.WarmedH s'.vm := by rw [hvm]; exact State.WarmedH.refl s
  have hat' : ∀ w ∈ vx_atS own ic cls names, w.before args s' = true := fun w hw => vx_ot_at hW0 hvm.symm (hgood w (List.mem_cons_of_mem _ (List.mem_cons_of_mem _ hw))) (hat w hw)
  have hk' : (Cond.classLink own ik cls).before args s' = true := vx_ot_at hW0 hvm.symm (hgood _ List.mem_cons_self) hk
  have hini' : (Cond.initialized cls).before args s' = true := vx_ot_at hW0 hvm.symm (hgood _ (List.mem_cons_of_mem _ List.mem_cons_self)) hini
  have hU' : vx_Zq Bundle.tN "UNASSIGNED_STACK" Bundle.steD A s' s'.heap := by rw [hhp]; exact vx_Zq.moved hW0.alike (hU.kept hS.2.1)
  have hN' : vx_Zq Bundle.tN "SUPPRESSED_SENTINEL" Bundle.listD A s' s'.heap := by rw [hhp]; exact vx_Zq.moved hW0.alike (hN.kept hS.2.1)
  have h : ∀ w ∈ Bundle.ownAtoms own ic cls names, w.before args s' = true := vx_own hat' (vx_isRefq hU'.1) (vx_isRefq hN'.1) hU'.2.word hN'.2.word
  have hown' : s'.vm.findClass own = some m.cls := by rw [hvm]; exact hown
  have hins : (Cond.instantiable cls 6).before args s' = true := h _ (by simp [Bundle.ownAtoms])
  obtain ⟨vm₁, cX, kX, hfX, hkX, -, -, X₁, st1⟩ := Y.newCold hexec (own := own) (C := cls) (index := ik) (n := 6) hown' hk' hins hini'
    (g := F0 m pc ls rest) rfl (by rw [hb]; exact d0) (Nat.le_refl _) (Nat.le_refl _)
  generalize hT1 : (T.setVm vm₁).pushCell { cls := cX, slots := kX.instanceTypes.map defaultValue, vm := .none } = T1 at X₁ st1
  have hcat : (Value.ref T.heap.size).category = 1 := rfl
  have hcellA : T1.heap[T.heap.size]? = some (freshCell cX kX) := by rw [← hT1]; exact State.heap_pushCell_size _ _
  have d3' : decode c.code (pc + 3) = .ok (.dup, 1) := by rw [hb]; exact d3
  have d4' : decode c.code (pc + 4) = .ok (.ldc is, 2) := by rw [hb]; exact d4
  have hstr' : vk_R own is text sa s' := vk_R.warm hW0 hstr
  obtain ⟨U, hsteps, hrun, hend, hW, hsame, ce, hce, hO⟩ := X₁.ctorThrowS hexec htr (own := own) (cls := cls) (names := names) (ic := ic) hown' hcls hnames h (fun x hx => nomatch hx) hfX hkX hcellA (by rw [hhp, hT]; exact Nat.le_refl _) (msg := .ref sa) rfl
    (g := { method := m, pc := pc + 6, locals := ls, stack := .ref sa :: .ref T.heap.size :: .ref T.heap.size :: rest, locked := none }) rfl hsize rfl rfl (rest := rest) rfl
    (by rw [hb]; exact d6) (by rw [hb]; exact d9) hout hRframes (by simp only [List.map_cons, List.sum_cons, hcat]; omega) hlocks
  obtain ⟨f1, f2⟩ := vx_frame hsame
  rw [hhp] at f1 f2
  have hWs : s.WarmedH U.vm := State.WarmedH.trans hW0 hW
  have hcl : s.vm.findClass cls = some ce.cls := by
    have h9 := hO.cls
    rw [hvm] at h9
    exact h9
  have hall : s.sameButNew ({ U with vm := s.vm } : State) locs mc ms := by
    subst hA
    obtain ⟨e1, e2⟩ := hsame
    rw [State.setFrames_setFrames] at e1
    have h2 : (T.setVm s.vm).sameButNew ({ U with vm := s.vm } : State) [] (0 + 1) (0 + 6) := ⟨e1, e2⟩
    have h3 := X.same.trans h2
    rw [List.append_nil] at h3
    exact h3.mono hc hs
  refine ⟨U, ?_, .threw T.heap.size, hrun, hend, Or.inr ⟨T.heap.size, rfl, cls, ce, locs, hx U hWs.alike f1 (fun q hq => f2 q hq (fun z hz => nomatch hz)), hce, hO.vm, hcl, hWs, hall, hf⟩⟩
  refine st1 _ ?_
  show Steps p.tables e below (T1.setTop { method := m, pc := pc + 3, locals := ls, stack := .ref T.heap.size :: rest, locked := none }) _
  jvm_step X₁.here [X₁.here.top, hexec, d3', Value.category]
  exact X₁.ldcString hexec (own := own) (text := text) (index := is) (a := sa) hown' hstr'.1 hstr'.2
    (g := { method := m, pc := pc + 4, locals := ls, stack := .ref T.heap.size :: .ref T.heap.size :: rest, locked := none }) rfl d4' _ hsteps
/-- 'throw new E("text")', the text by a wide index -/
theorem vx_throwSW {cc : ByteArray} {pc : Nat} (hexec : p.tables.exec = Jvm.exec) (hb : c.code = cc) (hl : l.stackTraces = false) {own cls text : String} {names : List String} {ik is ic mc ms sa : Nat} {A : Nat → Prop}
    (hown : s.vm.findClass own = some m.cls) (hcls : Bundle.fit cls = true) (hnames : ∀ n ∈ names, Bundle.fit n = true)
    (hk : (Cond.classLink own ik cls).before args s = true) (hini : (Cond.initialized cls).before args s = true) (hstr : vk_R own is text sa s) (hat : ∀ w ∈ vx_atS own ic cls names, w.before args s = true)
    (hgood : ∀ w ∈ Cond.classLink own ik cls :: Cond.initialized cls :: vx_atS own ic cls names, vx_ot w = true)
    (hU : vx_Zq Bundle.tN "UNASSIGNED_STACK" Bundle.steD A s s.heap) (hN : vx_Zq Bundle.tN "SUPPRESSED_SENTINEL" Bundle.listD A s s.heap) (hS : va_S A s.heap H locs) (hsize : ls.size = c.maxLocals)
    (d0 : decode cc pc = .ok (.new ik, 3)) (d3 : decode cc (pc + 3) = .ok (.dup, 1)) (d4 : decode cc (pc + 4) = .ok (.ldc_w is, 3)) (d7 : decode cc (pc + 7) = .ok (.invokespecial ic, 3)) (d10 : decode cc (pc + 10) = .ok (.athrow, 1))
    (hout : ∀ x ∈ c.exceptionTable.toList, covers x (pc + 10) = false)
    (hRframes : names.length + 3 < R.frames) (hRlocals : (rest.map fun v => v.category).sum + (13 * (names.length + 1) + 43) ≤ R.locals) (hRcells : cells + 1 ≤ R.cells) (hRslots : slots + 6 ≤ R.slots) (hlocks : meth.locks = false)
    (hx : ∀ t : State, s.vm.Alike t.vm → H.size ≤ t.heap.size → (∀ q : Nat, q < H.size → t.heap[q]? = H[q]?) → XC cls s t)
    (hf : ∀ z ∈ locs, free z.base) (hc : cells + 1 ≤ mc) (hs : slots + 6 ≤ ms) :
    W p l e R s m args below meth c H locs cells slots (vx_MQ below Qc XC args s mc ms free) (F0 m pc ls rest) := by
  intro T hT X
  have htr : e.platform.stackTraces = false := (show e.platform.stackTraces = l.stackTraces by rw [X.admits.platform]).trans hl
  have Y := vx_rebase X (R' := { frames := R.frames, locals := R.locals, cells := 1, slots := 6 }) (Nat.le_refl _) (Nat.le_refl _) hRcells hRslots
  obtain ⟨s', hA⟩ : ∃ z, z = (T.setVm s.vm).setFrames (.invoking m args :: below) := ⟨_, rfl⟩
  rw [← hA] at Y
  have hvm : s'.vm = s.vm := by rw [hA]; rfl
  have hhp : s'.heap = H := by rw [hA]; exact hT
  have hW0 : s.WarmedH s'.vm := by rw [hvm]; exact State.WarmedH.refl s
  have hat' : ∀ w ∈ vx_atS own ic cls names, w.before args s' = true := fun w hw => vx_ot_at hW0 hvm.symm (hgood w (List.mem_cons_of_mem _ (List.mem_cons_of_mem _ hw))) (hat w hw)
  have hk' : (Cond.classLink own ik cls).before args s' = true := vx_ot_at hW0 hvm.symm (hgood _ List.mem_cons_self) hk
  have hini' : (Cond.initialized cls).before args s' = true := vx_ot_at hW0 hvm.symm (hgood _ (List.mem_cons_of_mem _ List.mem_cons_self)) hini
  have hU' : vx_Zq Bundle.tN "UNASSIGNED_STACK" Bundle.steD A s' s'.heap := by rw [hhp]; exact vx_Zq.moved hW0.alike (hU.kept hS.2.1)
  have hN' : vx_Zq Bundle.tN "SUPPRESSED_SENTINEL" Bundle.listD A s' s'.heap := by rw [hhp]; exact vx_Zq.moved hW0.alike (hN.kept hS.2.1)
  have h : ∀ w ∈ Bundle.ownAtoms own ic cls names, w.before args s' = true := vx_own hat' (vx_isRefq hU'.1) (vx_isRefq hN'.1) hU'.2.word hN'.2.word
  have hown' : s'.vm.findClass own = some m.cls := by rw [hvm]; exact hown
  have hins : (Cond.instantiable cls 6).before args s' = true := h _ (by simp [Bundle.ownAtoms])
  obtain ⟨vm₁, cX, kX, hfX, hkX, -, -, X₁, st1⟩ := Y.newCold hexec (own := own) (C := cls) (index := ik) (n := 6) hown' hk' hins hini'
    (g := F0 m pc ls rest) rfl (by rw [hb]; exact d0) (Nat.le_refl _) (Nat.le_refl _)
  generalize hT1 : (T.setVm vm₁).pushCell { cls := cX, slots := kX.instanceTypes.map defaultValue, vm := .none } = T1 at X₁ st1
  have hcat : (Value.ref T.heap.size).category = 1 := rfl
  have hcellA : T1.heap[T.heap.size]? = some (freshCell cX kX) := by rw [← hT1]; exact State.heap_pushCell_size _ _
  have d3' : decode c.code (pc + 3) = .ok (.dup, 1) := by rw [hb]; exact d3
  have d4' : decode c.code (pc + 4) = .ok (.ldc_w is, 3) := by rw [hb]; exact d4
  have hstr' : vk_R own is text sa s' := vk_R.warm hW0 hstr
  obtain ⟨U, hsteps, hrun, hend, hW, hsame, ce, hce, hO⟩ := X₁.ctorThrowS hexec htr (own := own) (cls := cls) (names := names) (ic := ic) hown' hcls hnames h (fun x hx => nomatch hx) hfX hkX hcellA (by rw [hhp, hT]; exact Nat.le_refl _) (msg := .ref sa) rfl
    (g := { method := m, pc := pc + 7, locals := ls, stack := .ref sa :: .ref T.heap.size :: .ref T.heap.size :: rest, locked := none }) rfl hsize rfl rfl (rest := rest) rfl
    (by rw [hb]; exact d7) (by rw [hb]; exact d10) hout hRframes (by simp only [List.map_cons, List.sum_cons, hcat]; omega) hlocks
  obtain ⟨f1, f2⟩ := vx_frame hsame
  rw [hhp] at f1 f2
  have hWs : s.WarmedH U.vm := State.WarmedH.trans hW0 hW
  have hcl : s.vm.findClass cls = some ce.cls := by
    have h9 := hO.cls
    rw [hvm] at h9
    exact h9
  have hall : s.sameButNew ({ U with vm := s.vm } : State) locs mc ms := by
    subst hA
    obtain ⟨e1, e2⟩ := hsame
    rw [State.setFrames_setFrames] at e1
    have h2 : (T.setVm s.vm).sameButNew ({ U with vm := s.vm } : State) [] (0 + 1) (0 + 6) := ⟨e1, e2⟩
    have h3 := X.same.trans h2
    rw [List.append_nil] at h3
    exact h3.mono hc hs
  refine ⟨U, ?_, .threw T.heap.size, hrun, hend, Or.inr ⟨T.heap.size, rfl, cls, ce, locs, hx U hWs.alike f1 (fun q hq => f2 q hq (fun z hz => nomatch hz)), hce, hO.vm, hcl, hWs, hall, hf⟩⟩
  refine st1 _ ?_
  show Steps p.tables e below (T1.setTop { method := m, pc := pc + 3, locals := ls, stack := .ref T.heap.size :: rest, locked := none }) _
  jvm_step X₁.here [X₁.here.top, hexec, d3', Value.category]
  exact X₁.ldcStringW hexec (own := own) (text := text) (index := is) (a := sa) hown' hstr'.1 hstr'.2
    (g := { method := m, pc := pc + 4, locals := ls, stack := .ref T.heap.size :: .ref T.heap.size :: rest, locked := none }) rfl d4' _ hsteps
end Ends
section Bodies
variable {l : Launch}
theorem vx_ofW {y : MethodName} {ws ws' : List Cond} {rm : Room} {Pc : Array Value → State → Prop} {Qc : Array Value → State → Outcome → State → Prop} {XC : String → State → State → Prop} {mc ms : Nat} {free : Addr → Prop} {cc : ByteArray} {maxL : Nat} {ret : Option FieldType}
    (hy : plainName y.cls = true) (hw : ws = Cond.code y cc maxL ret :: ws')
    (body : ∀ p e s m args below meth c s₁, BodyLoose p l y (headSpec ws rm) cc maxL ret e s m args below meth c s₁ → c.maxLocals = maxL → (∀ x ∈ c.exceptionTable.toList, False) → Pc args s →
      W p l e (headSpec ws rm).room s m args below meth c s.heap [] 0 0 (vx_MQ below Qc XC args s mc ms free) (entryFrame m args maxL)) : vx_Met l y ws rm Pc Qc XC mc ms free := by
  refine MetFree.of_bodyS (code := cc) (maxLocals := maxL) (ret := ret) hy ?_ ?_
  · intro args s m h hn
    obtain ⟨meth, c, h1, h2, h3, h4, h5, h6, -, -⟩ := Cond.code_spec hn (atoms_spec (ws := ws) h _ (by rw [hw]; exact List.mem_cons_self))
    exact ⟨meth, c, h1, h2, h3, h4, h5, h6⟩
  · intro p e s m args below meth c s₁ B hml hP _
    have hh0 : s₁.heap = s.heap := by rw [B.state]; rfl
    have ht : ∀ x ∈ c.exceptionTable.toList, False := by
      obtain ⟨meth9, c9, h1, h2, -, -, -, -, h7, -⟩ := Cond.code_spec B.named (atoms_spec (ws := ws) B.pre _ (by rw [hw]; exact List.mem_cons_self))
      cases Option.some.inj (h1.symm.trans B.method)
      cases Option.some.inj (h2.symm.trans (Stand.of_body B).code)
      intro x hx
      rw [Array.isEmpty_iff.mp h7] at hx
      cases hx
    obtain ⟨t, a1, o, b1, b2, b3⟩ := body p e s m args below meth c s₁ B hml ht hP s₁ hh0 (Stand.of_body B)
    exact ⟨t, o, a1, b1, b2, b3⟩
/-- the table of a body with handlers -/
theorem vx_table {p : Program} {x y : MethodName} {S : Spec} {cc bytes : ByteArray} {maxL maxL' : Nat} {ret ret' : Option FieldType} {e : Env} {s s₁ : State} {m : MethodId} {args : Array Value} {below : List Frame} {meth : Method} {c : Code} {hh : List (Nat × Nat × Nat × Nat)}
    (B : BodyLoose p l y S cc maxL ret e s m args below meth c s₁) (h : (Cond.codeWith y bytes maxL' ret' hh).before args s = true) : c.exceptionTable.toList = tableOf hh := by
  obtain ⟨m9, meth9, c9, hn9, h1, h2, -, -, h6, -⟩ := Cond.codeWith_spec h
  cases Option.some.inj (hn9.symm.trans B.named)
  cases Option.some.inj (h1.symm.trans B.method)
  cases Option.some.inj (h2.symm.trans (Stand.of_body B).code)
  rw [← h6, table_eq]
end Bodies
end VXA
/-! ===== END ===== -/
/-! ===== BEGIN a static call of a method with an exception table ===== -/
section VXS
variable {p : Program} {l : Launch} {e : Env} {R : Room} {s : State} {m : MethodId} {args : Array Value} {below : List Frame} {meth : Method} {c : Code} {T : State} {H : Heap} {locs : List Loc} {cells slots : Nat}
abbrev vx_CSW (R : Room) (s : State) (args : Array Value) (own : String) (index : Nat) (y : MethodName) (bytes : ByteArray) (maxL : Nat) (ret : Option FieldType) (hh : List (Nat × Nat × Nat × Nat)) (ws : List Cond) (rm : Room) (mc ms n : Nat) : Prop :=
  (rm.cells = mc ∧ rm.slots = ms ∧ rm.frames + 1 ≤ R.frames ∧ 8 + (maxL + 11) + rm.locals ≤ R.locals ∧ (∀ w ∈ ws, ∀ (a' : Array Value) (U : State), s.WarmedH U.vm → w.before a' U = true) ∧ Cond.codeWith y bytes maxL ret hh ∈ ws) ∧
  (Cond.codeWith y bytes maxL ret hh).before args s = true ∧ (Cond.initialized y.cls).before args s = true ∧ (y.cls ≠ "java/lang/invoke/MethodHandle" ∧ y.cls ≠ "java/lang/invoke/VarHandle") ∧
  (∀ sig, parseMethodDescriptor y.desc = some sig → n = sig.parameters.length) ∧ (Cond.methodLink own index y).before args s = true ∧ (Cond.static y).before args s = true
theorem vx_cwSW {own : String} {index maxL mc ms : Nat} {y : MethodName} {bytes : ByteArray} {ret : Option FieldType} {hh : List (Nat × Nat × Nat × Nat)} {Ts ws ws' : List Cond} {rm : Room} (n : Nat) (ht : ∀ w ∈ Ts, w.before args s = true) (hT : GoodIn Ts (va_wsS own index y ws)) (hw : ws = Cond.codeWith y bytes maxL ret hh :: ws') (hrc : rm.cells = mc) (hrs : rm.slots = ms)
    (hd : y.cls ≠ "java/lang/invoke/MethodHandle" ∧ y.cls ≠ "java/lang/invoke/VarHandle" ∧ (parseMethodDescriptor y.desc).map (fun d => d.parameters.length) = some n) (hR : rm.frames + 1 ≤ R.frames ∧ 8 + (maxL + 11) + rm.locals ≤ R.locals) :
    vx_CSW R s args own index y bytes maxL ret hh ws rm mc ms n := by
  have ok : ∀ w ∈ va_wsS own index y ws, w.before args s = true := fun w h => ht w (hT w h).1
  have hG : GoodIn Ts ws := fun w h => hT w (by unfold va_wsS; exact List.mem_append_right _ h)
  have hc : Cond.codeWith y bytes maxL ret hh ∈ ws := by rw [hw]; exact List.mem_cons_self
  refine ⟨⟨hrc, hrs, hR.1, hR.2, pay_in ht hG, hc⟩, ht _ (hG _ hc).1, ok _ (by simp [va_wsS]), ⟨hd.1, hd.2.1⟩, fun sig h => ?_, ok _ (by simp [va_wsS]), ok _ (by simp [va_wsS])⟩
  have h2 := hd.2.2
  rw [h] at h2
  exact (Option.some.inj h2).symm
theorem vx_callSW (X : Stand p l e R s m args below meth c T locs cells slots) (hexec : p.tables.exec = Jvm.exec) {own : String} {index : Nat} {y : MethodName} {bytes : ByteArray} {maxL : Nat} {ret : Option FieldType} {hh : List (Nat × Nat × Nat × Nat)}
    (hown : s.vm.findClass own = some m.cls) (hlink : (Cond.methodLink own index y).before args s = true) (hstat : (Cond.static y).before args s = true) (hinit : (Cond.initialized y.cls).before args s = true)
    (hcode : (Cond.codeWith y bytes maxL ret hh).before args s = true) (hy : y.cls ≠ "java/lang/invoke/MethodHandle" ∧ y.cls ≠ "java/lang/invoke/VarHandle")
    {W9 : Nat} {Pre : Pt → Array Value → Prop} {Post : Pt → Array Value → Option Value → Pt → Prop} (hK : Back l R p e below s args y 3 W9 Pre Post)
    {g : JFrame} (hg : g.method = m) (hsize : g.locals.size = c.maxLocals) {argsL rest : List Value} (hlen : ∀ sig, parseMethodDescriptor y.desc = some sig → argsL.length = sig.parameters.length)
    (hstack : g.stack = argsL.reverse ++ rest) (hW : 2 * g.monitorRoom + (rest.map fun v => v.category).sum ≤ W9) (hdg : decode c.code g.pc = .ok (.invokestatic index, 3))
    (hpre : ∀ vm₁, s.WarmedH vm₁ → Pre ⟨T.setVm vm₁, locs, cells, slots⟩ argsL.toArray) :
    ∃ (v : Option Value) (vm₁ : Vm) (B : Pt), s.WarmedH vm₁ ∧ Stand p l e R s m args below meth c B.U B.locs B.cells B.slots ∧ Post ⟨T.setVm vm₁, locs, cells, slots⟩ argsL.toArray v B ∧
      ∀ target, Steps p.tables e below (B.U.setTop { g with pc := g.pc + 3, stack := v.toList ++ rest }) target → Steps p.tables e below (T.setTop g) target := by
  obtain ⟨mk, methM, cM, hnamed, hmethM, -, -, -, -, -, -, hsigM⟩ := Cond.codeWith_spec hcode
  have hstatic : methM.isStatic = true := Cond.static_spec hnamed hmethM hstat
  obtain ⟨kP, hkP, -⟩ := className_of_methodNamed hnamed
  have hinitP : kP.init = .initialized := Cond.initialized_spec (findClass_of_methodNamed hnamed) hkP hinit
  obtain ⟨vm₁, X₁, hstep₁⟩ := X.invokestatic hexec hown hlink hnamed hmethM hstatic hkP hinitP hy (g := g) hg (argsL := argsL) (rest := rest) (hlen _ hsigM) hstack hdg
  obtain ⟨v, B, X', hpost, hsteps⟩ := hK m meth c ⟨T.setVm vm₁, locs, cells, slots⟩ { g with stack := rest } (.invokestatic index) mk argsL.toArray X₁ hg hsize hdg hW (X₁.named hnamed) (hpre vm₁ X₁.warmed)
  exact ⟨v, vm₁, B, X₁.warmed, X', hpost, fun target h => hstep₁ _ fun acts => by rw [doInvoke_state]; exact hsteps.trans h⟩
theorem vx_runSW {y : MethodName} {bytes cc : ByteArray} {maxL nL mc ms n index : Nat} {ret : Option FieldType} {hh : List (Nat × Nat × Nat × Nat)} {ws : List Cond} {rm : Room} {Pc : Array Value → State → Prop} {Qc : Array Value → State → Outcome → State → Prop} {free : Addr → Prop} {Ts : List Cond} {own : String} {As rest : List Value} {g : JFrame}
    (S : CallFix p m c cc nL s args Ts own) (hM : Met l y ws rm Pc Qc mc ms free) (cw : vx_CSW R s args own index y bytes maxL ret hh ws rm mc ms n) (hp : PreS s H Pc As)
    (hg : g.method = m) (hn : As.length = n) (hsize : g.locals.size = nL) (hstack : g.stack = As.reverse ++ rest) (hW : 2 * g.monitorRoom + (rest.map fun v => v.category).sum ≤ 8) (hdg : decode cc g.pc = .ok (.invokestatic index, 3)) (hf : cells + mc ≤ R.cells ∧ slots + ms ≤ R.slots) :
    va_Run p l e R s m args below meth c H locs cells slots mc ms g rest (Qc As.toArray) (free) := by
  obtain ⟨⟨hrc, hrs, hfr, hlo, hws, hcw⟩, hcode, hini, hy, hlen, hl, hstt⟩ := cw
  have hK : Back l R p e below s args y 3 8 (PreOf R mc ms Pc) (PostOf Qc mc ms free) := va_backW (hh := hh) (bytes := bytes) (maxL := maxL) (ret := ret) hM hp.1 hrc hrs hfr hlo hws hcw (fun a' U hW => word_at hW (Or.inl (by first | rfl | simp [Cond.onTables, Cond.keeps, Cond.steady])) hini)
  obtain ⟨hx, hb, hml, ho, -⟩ := S
  intro T hT X
  obtain ⟨v, vm₁, ⟨U', l2, c2, s2⟩, hW₁, X', ⟨g', mk, t, L, e1, e2, hq, h1, hL, h2, h3⟩, st⟩ := vx_callSW X hx (hh := hh) (bytes := bytes) (maxL := maxL) (ret := ret) ho hl hstt hini hcode hy hK hg (hsize.trans hml.symm) (argsL := As) (rest := rest) (fun sig h => hn.trans (hlen sig h)) hstack hW (by rw [hb]; exact hdg)
    (fun vm₁ hW₁ => ⟨hf.1, hf.2, hp.2 (T.setVm vm₁) hT hW₁⟩)
  dsimp only [Pt.U, Pt.locs, Pt.cells, Pt.slots] at X' e1 e2 h1 h2 h3 st
  subst h1; subst h2; subst h3
  exact ⟨v, (T.setVm vm₁).calling g' mk As.toArray, t, U', L, hT, X', hL, e1, e2, hq, st⟩
/-- not caught here, past rows that name other classes: it goes on to the caller -/
theorem vx_outP {p : Program} {l : Launch} {e : Env} {R : Room} {s : State} {m : MethodId} {args : Array Value} {below : List Frame} {meth : Method} {c : Code} {H : Heap} {locs : List Loc} {cells slots : Nat} {free : Addr → Prop} {ls : Array Slot} {rest : List Value} {Qc : Array Value → State → Outcome → State → Prop} {XC : String → State → State → Prop}
    {pc : Nat} {own E : String} {ce : Cell} {q : Addr} {mc ms : Nat} (hown : s.vm.findClass own = some m.cls) (hlocks : meth.locks = false)
    (hpass : ∀ z ∈ c.exceptionTable.toList, covers z pc = false ∨ (z.catchType ≠ 0 ∧ ∃ nm : String, (Cond.classLink own z.catchType nm).before args s = true ∧ va_Nc E nm s)) (hcell : H[q]? = some ce) (hv : ce.vm = .none) (hcl : s.vm.findClass E = some ce.cls)
    (hx : ∀ t : State, t.heap = H → s.vm.Alike t.vm → XC E s t) (hf : ∀ z ∈ locs, free z.base) (hc : cells ≤ mc) (hs : slots ≤ ms) :
    vx_W p l e R s m args below meth c H locs cells slots (vx_MQ below Qc XC args s mc ms free) (F0 m pc ls rest) q := by
  intro T hT X
  have hpl : e.platform.magicAccessors = ({} : Platform).magicAccessors := by rw [X.admits.platform]
  obtain ⟨vm', hW', X', st⟩ := X.outThrough hlocks q (g := F0 m pc ls rest) rfl rfl rfl (cell := ce) (by rw [hT]; exact hcell) (by rw [hv]; rfl)
    (by obtain ⟨k9, h9, -⟩ := Vm.findClass_spec hcl; exact ⟨k9, h9⟩) (fun z hz => by
      rcases hpass z hz with h | ⟨hz0, nm, hl1, hn1⟩
      · exact Or.inl h
      · obtain ⟨c6, hc6, hcl6⟩ := Cond.classLink_spec hown hl1 e.platform hpl
        obtain ⟨a8, b8, h1, h2, h3⟩ := hn1
        cases Option.some.inj (h1.symm.trans hcl)
        cases Option.some.inj (h2.symm.trans hc6)
        exact Or.inr ⟨hz0, _, hcl6, h3⟩)
  obtain ⟨g₀, hfr⟩ := X'.frames_eq
  have hcell9 : ((T.setVm vm').setFrames (.throwing q :: below)).heap[q]? = some ce := by
    show T.heap[q]? = some ce
    rw [hT]; exact hcell
  have hend : Ended ((T.setVm vm').setFrames (.throwing q :: below)) below (.threw q) := State.frames_setFrames _ (State.cur_lt_of_frames hfr)
  refine ⟨(T.setVm vm').setFrames (.throwing q :: below), ?_, .threw q, X'.here.running, hend, Or.inr ⟨q, rfl, E, ce, locs, hx _ hT (X'.ends _).1.alike, hcell9, hv, hcl, (X'.ends _).1, (X'.ends _).2.mono hc hs, hf⟩⟩
  rw [X.pushThrowing_eq]
  exact st
/-- a thing of a world lies in the heap -/
theorem vx_lt {D : va_G} {cl : List vw_C} {ws : va_W} {H1 : Heap} (h : va_P D cl ws H1) {k : Nat} {q : Nat × va_E} (hk : ws[k]? = some q) : q.1 < H1.size := (h k q hk).lt
end VXS
/-! ===== END ===== -/
/-! ===== BEGIN methods with a table of their own: called by a name, returning or throwing ===== -/
section VXH
/-! vx_backW, vx_callVX, vx_callSX, vx_callVW, vx_runVW, vx_runVX, vx_runSX, vx_ofWH follow the same proofs as their sisters above (Free/Laws.lean, Shelf42/LK1.lean); vx_outP calls Shelf42/NT130.lean (outThrough). -/
section
variable {l : Launch} {R : Room} {p : Program} {e : Env} {below : List Frame} {s : State} {sargs : Array Value} {y : MethodName} {len W9 : Nat}
theorem vx_backW {ws : List Cond} {rm : Room} {Pc : Array Value → State → Prop} {Qc : Array Value → State → Outcome → State → Prop} {XC : String → State → State → Prop} {mc ms : Nat} {free : Addr → Prop} {bytes : ByteArray} {maxL : Nat} {ret : Option FieldType} {hh : List (Nat × Nat × Nat × Nat)}
    (hM : vx_Met l y ws rm Pc Qc XC mc ms free) (hblind : FrameBlind Pc) (hrc : rm.cells = mc) (hrs : rm.slots = ms)
    (hframes : rm.frames + 1 ≤ R.frames) (hlocals : W9 + (maxL + 11) + rm.locals ≤ R.locals)
    (hws : ∀ w ∈ ws, ∀ a' U, s.WarmedH U.vm → w.before a' U = true) (hcode : Cond.codeWith y bytes maxL ret hh ∈ ws) (hinit : ∀ a' U, s.WarmedH U.vm → (Cond.initialized y.cls).before a' U = true) :
    vx_Back l R p e below s sargs y len W9 (PreOf R mc ms Pc) (PostOf Qc mc ms free) (vx_Post XC mc ms free) := by
  intro m meth c A g ig mk a X hg hsize hdg hW hn hp
  have h1 : (headSpec ws rm).pre.before a A.U = true := atoms_intro fun w hw => hws w hw _ _ X.warmed
  have h2 : (Cond.codeWith y bytes maxL ret hh).before a A.U = true := hws _ hcode _ _ X.warmed
  have h3 : (Cond.initialized y.cls).before a A.U = true := hinit _ _ X.warmed
  have h4 : A.cells + (headSpec ws rm).room.cells ≤ R.cells := by rw [show (headSpec ws rm).room.cells = mc from hrc]; exact hp.1
  have h5 : A.slots + (headSpec ws rm).room.slots ≤ R.slots := by rw [show (headSpec ws rm).room.slots = ms from hrs]; exact hp.2.1
  have hPc : Pc a (A.U.calling g mk a) := hblind _ _ _ _ hp.2.2
  obtain ⟨U, Ls, c0, s0⟩ := A
  dsimp only [Pt.U, Pt.locs, Pt.cells, Pt.slots] at h1 h2 h3 h4 h5 X hn hPc ⊢
  obtain ⟨m9, methY, cY, hn9, hmY, hcY, -, hlY, -⟩ := Cond.codeWith_spec h2
  cases Option.some.inj (hn9.symm.trans hn)
  obtain ⟨kY, hkY, -⟩ := className_of_methodNamed hn
  have hinitY : kY.init = .initialized := Cond.initialized_spec (findClass_of_methodNamed hn) hkY h3
  have h : At U g.method c below := by rw [hg]; exact X.here
  have hlocals9 : W9 + (maxL + 11) + (headSpec ws rm).room.locals ≤ R.locals := hlocals
  have happ : (headSpec ws rm).appliesLoose y e.platform (U.calling g mk a) = true :=
    Spec.appliesLoose_calling (g := g) h hdg hn hkY hinitY
      (X.room_calling (g := g) (R' := (headSpec ws rm).room) hsize hmY hcY hframes (by rw [hlY]; omega) h4 h5) h1
  obtain ⟨mid, hmid⟩ := h.above
  have hfr : (U.setTop g).frames = (.java g :: mid) ++ below := by rw [State.frames_setTop' g h.top, hmid]; rfl
  obtain ⟨o, s₂, hsteps, -, hend, hq⟩ := Steps.callFree hM p X.admits X.cas X.clock (acts := []) hfr happ hPc trivial
  have hq' : vx_Q Qc XC mc ms free a (U.calling g mk a) o s₂ := hq
  rw [State.frames_setTop' g h.top] at hend
  obtain ⟨g₀, hg0⟩ := Option.isSome_iff_exists.mp h.top
  obtain ⟨r, hr⟩ := State.topJava?_eq_some.mp hg0
  have hr' : (({ U with heap := s₂.heap, slotsUsed := s₂.slotsUsed } : State).setVm s₂.vm).frames = .java g₀ :: r := hr
  rcases hq' with ⟨hqc, L, hfe, hL⟩ | ⟨q, rfl, E, ce, L, hx, hce, hcv, hcl, hW₂, hsm, hL⟩
  · obtain ⟨⟨v, rfl⟩, hW₂, e2, q2, q3, q4, q5, q6⟩ := id hfe
    have e3 : s₂ = ({ (U.calling g mk a).setFrames s₂.frames with heap := s₂.heap, slotsUsed := s₂.slotsUsed } : State).setVm s₂.vm := by
      have : s₂ = ({ s₂ with vm := (U.calling g mk a).vm } : State).setVm s₂.vm := rfl
      rw [e2] at this
      exact this
    obtain ⟨c₂, i₂, len₂, hc₂, hd₂, hf₂⟩ := hend
    have hW' : U.WarmedH s₂.vm := hW₂
    have hcc : c₂ = c := by
      have h1 : s₂.code? g.method = U.code? g.method := by
        rw [State.code?_eq, State.code?_eq, hW'.alike.method?]
      exact Option.some.inj (hc₂.symm.trans (h1.trans h.code))
    subst hcc
    have hlen : len₂ = len := by rw [hdg] at hd₂; cases hd₂; rfl
    subst hlen
    have hs₂ : s₂ = (({ U with heap := s₂.heap, slotsUsed := s₂.slotsUsed } : State).setVm s₂.vm).setTop { g with pc := g.pc + len₂, stack := v.toList ++ g.stack } := by
      refine e3.trans ?_
      rw [hf₂, State.calling_eq h.top, State.setFrames_setFrames, State.setTop_of_frames _ hr', hr]
      rfl
    have hsame : U.sameButNew ({ U with heap := s₂.heap, slotsUsed := s₂.slotsUsed } : State) L mc ms := by
      refine ⟨?_, q2, q3, q4, q5, q6⟩
      obtain ⟨t, ht, -⟩ := State.frames_cons hr
      show ({ U with heap := s₂.heap, slotsUsed := s₂.slotsUsed } : State) = { U.setFrames U.frames with heap := s₂.heap, slotsUsed := s₂.slotsUsed }
      rw [State.setFrames_self ht]
    subst hg
    refine Or.inl ⟨v, ⟨(({ U with heap := s₂.heap, slotsUsed := s₂.slotsUsed } : State).setVm s₂.vm), Ls ++ L, c0 + mc, s0 + ms⟩,
      ⟨X.admits, X.cas, X.clock, X.frames, X.room, X.hears, X.method, X.code, (X.here.setHeapUsed s₂.heap s₂.slotsUsed).setVm hW'.alike, X.tail, State.WarmedH.trans X.warmed hW', X.limits, X.bytes, X.same.trans (hsame.setVm s.vm)⟩,
      ⟨g, mk, s₂, L, rfl, rfl, hqc, rfl, hL, rfl, rfl⟩, ?_⟩
    show Steps p.tables e below _ ((({ U with heap := s₂.heap, slotsUsed := s₂.slotsUsed } : State).setVm s₂.vm).setTop { g with pc := g.pc + len₂, stack := v.toList ++ g.stack })
    rw [← hs₂]
    exact hsteps
  · obtain ⟨e2, q2, q3, q4, q5, q6⟩ := id hsm
    have e3 : s₂ = ({ (U.calling g mk a).setFrames s₂.frames with heap := s₂.heap, slotsUsed := s₂.slotsUsed } : State).setVm s₂.vm := by
      have : s₂ = ({ s₂ with vm := (U.calling g mk a).vm } : State).setVm s₂.vm := rfl
      rw [e2] at this
      exact this
    have hf₂ : s₂.frames = .throwing q :: .java g :: U.frames.tail := hend
    have hW' : U.WarmedH s₂.vm := hW₂
    have hs₂ : s₂ = ((({ U with heap := s₂.heap, slotsUsed := s₂.slotsUsed } : State).setVm s₂.vm).setTop g).pushFrame (.throwing q) := by
      refine e3.trans ?_
      rw [hf₂, State.calling_eq h.top, State.setFrames_setFrames, State.pushFrame, State.frames_setTop _ hr', State.setTop_of_frames _ hr', State.setFrames_setFrames, hr]
      rfl
    have hsame : U.sameButNew ({ U with heap := s₂.heap, slotsUsed := s₂.slotsUsed } : State) L mc ms := by
      refine ⟨?_, q2, q3, q4, q5, q6⟩
      obtain ⟨t, ht, -⟩ := State.frames_cons hr
      show ({ U with heap := s₂.heap, slotsUsed := s₂.slotsUsed } : State) = { U.setFrames U.frames with heap := s₂.heap, slotsUsed := s₂.slotsUsed }
      rw [State.setFrames_self ht]
    subst hg
    refine Or.inr ⟨q, ⟨(({ U with heap := s₂.heap, slotsUsed := s₂.slotsUsed } : State).setVm s₂.vm), Ls ++ L, c0 + mc, s0 + ms⟩,
      ⟨X.admits, X.cas, X.clock, X.frames, X.room, X.hears, X.method, X.code, (X.here.setHeapUsed s₂.heap s₂.slotsUsed).setVm hW'.alike, X.tail, State.WarmedH.trans X.warmed hW', X.limits, X.bytes, X.same.trans (hsame.setVm s.vm)⟩,
      ⟨g, mk, s₂, L, E, ce, rfl, rfl, hx, hce, hcv, hcl, rfl, hL, rfl, rfl⟩, ?_⟩
    show Steps p.tables e below _ (((({ U with heap := s₂.heap, slotsUsed := s₂.slotsUsed } : State).setVm s₂.vm).setTop g).pushFrame (.throwing q))
    rw [← hs₂]
    exact hsteps
end
variable {p : Program} {l : Launch} {e : Env} {R : Room} {s : State} {m : MethodId} {args : Array Value} {below : List Frame} {meth : Method} {c : Code} {T : State} {H : Heap} {locs : List Loc} {cells slots : Nat}
theorem vx_callVX (X : Stand p l e R s m args below meth c T locs cells slots) (hexec : p.tables.exec = Jvm.exec) {own C : String} {index : Nat} {y : MethodName} {bytes : ByteArray} {maxL : Nat} {ret : Option FieldType} {hh : List (Nat × Nat × Nat × Nat)}
    (hown : s.vm.findClass own = some m.cls) (hlink : (Cond.methodLink own index y).before args s = true) (hinst : (Cond.instanceMethod y).before args s = true) (hsel : (Cond.selects C y y).before args s = true)
    (hcode : (Cond.codeWith y bytes maxL ret hh).before args s = true) (hy : y.cls ≠ "java/lang/invoke/MethodHandle" ∧ y.cls ≠ "java/lang/invoke/VarHandle")
    {W9 : Nat} {Pre : Pt → Array Value → Prop} {Post : Pt → Array Value → Option Value → Pt → Prop} {PostX : Pt → Array Value → Addr → Pt → Prop} (hK : vx_Back l R p e below s args y 3 W9 Pre Post PostX)
    {b : Addr} {cellB : Cell} (hcell : T.heap[b]? = some cellB) (hobj : cellB.vm.isStatics = false) (hcls : s.vm.findClass C = some cellB.cls)
    {g : JFrame} (hg : g.method = m) (hsize : g.locals.size = c.maxLocals) {argsL rest : List Value} (hlen : ∀ sig, parseMethodDescriptor y.desc = some sig → argsL.length = sig.parameters.length)
    (hstack : g.stack = argsL.reverse ++ .ref b :: rest) (hW : 2 * g.monitorRoom + (rest.map fun v => v.category).sum ≤ W9) (hdg : decode c.code g.pc = .ok (.invokevirtual index, 3))
    (hpre : ∀ vm₁, s.WarmedH vm₁ → Pre ⟨T.setVm vm₁, locs, cells, slots⟩ (Value.ref b :: argsL).toArray) :
    (∃ (v : Option Value) (vm₁ : Vm) (B : Pt), s.WarmedH vm₁ ∧ Stand p l e R s m args below meth c B.U B.locs B.cells B.slots ∧ Post ⟨T.setVm vm₁, locs, cells, slots⟩ (Value.ref b :: argsL).toArray v B ∧
      ∀ target, Steps p.tables e below (B.U.setTop { g with pc := g.pc + 3, stack := v.toList ++ rest }) target → Steps p.tables e below (T.setTop g) target) ∨
    (∃ (q : Addr) (vm₁ : Vm) (B : Pt), s.WarmedH vm₁ ∧ Stand p l e R s m args below meth c B.U B.locs B.cells B.slots ∧ PostX ⟨T.setVm vm₁, locs, cells, slots⟩ (Value.ref b :: argsL).toArray q B ∧
      Steps p.tables e below (T.setTop g) ((B.U.setTop { g with stack := rest }).pushFrame (.throwing q))) := by
  obtain ⟨mk, methM, hnamed, hmethM, hstM, habM⟩ := Cond.instanceMethod_spec hinst
  obtain ⟨m8, methM', cM, hn8, hmethM', -, -, -, -, -, -, hsigM⟩ := Cond.codeWith_spec hcode
  cases Option.some.inj (hn8.symm.trans hnamed)
  cases hmethM.symm.trans hmethM'
  obtain ⟨c2, r2, m2, q1, q2, q3, q4, kP, hkP, hkPi⟩ := Cond.selects_spec hsel
  cases hcls.symm.trans q1
  cases (State.methodFound?_of_named hnamed hy).symm.trans q2
  cases hnamed.symm.trans q3
  have hselP : selectMethod e.platform s.vm cellB.cls mk = .method mk := by rw [Launch.admits_selectMethod X.admits]; exact q4
  obtain ⟨vm₁, X₁, hstep₁⟩ := X.invokevirtual hexec hown hlink hnamed hmethM hstM hkP hkPi hy (a := b) (cell := cellB) hcell
    (fun z h => by rw [h] at hobj; cases hobj) hselP hmethM habM hkP hkPi (g := g) hg (argsL := argsL) (rest := rest) (hlen _ hsigM) hstack hdg
  rcases hK m meth c ⟨T.setVm vm₁, locs, cells, slots⟩ { g with stack := rest } (.invokevirtual index) mk (Value.ref b :: argsL).toArray X₁ hg hsize hdg hW (X₁.named hnamed) (hpre vm₁ X₁.warmed) with ⟨v, B, X', hpost, hsteps⟩ | ⟨q, B, X', hpost, hsteps⟩
  · exact Or.inl ⟨v, vm₁, B, X₁.warmed, X', hpost, fun target h => hstep₁ _ fun acts => by rw [doInvoke_state]; exact hsteps.trans h⟩
  · exact Or.inr ⟨q, vm₁, B, X₁.warmed, X', hpost, hstep₁ _ fun acts => by rw [doInvoke_state]; exact hsteps⟩
theorem vx_callSX (X : Stand p l e R s m args below meth c T locs cells slots) (hexec : p.tables.exec = Jvm.exec) {own : String} {index : Nat} {y : MethodName} {bytes : ByteArray} {maxL : Nat} {ret : Option FieldType} {hh : List (Nat × Nat × Nat × Nat)}
    (hown : s.vm.findClass own = some m.cls) (hlink : (Cond.methodLink own index y).before args s = true) (hstat : (Cond.static y).before args s = true) (hinit : (Cond.initialized y.cls).before args s = true)
    (hcode : (Cond.codeWith y bytes maxL ret hh).before args s = true) (hy : y.cls ≠ "java/lang/invoke/MethodHandle" ∧ y.cls ≠ "java/lang/invoke/VarHandle")
    {W9 : Nat} {Pre : Pt → Array Value → Prop} {Post : Pt → Array Value → Option Value → Pt → Prop} {PostX : Pt → Array Value → Addr → Pt → Prop} (hK : vx_Back l R p e below s args y 3 W9 Pre Post PostX)
    {g : JFrame} (hg : g.method = m) (hsize : g.locals.size = c.maxLocals) {argsL rest : List Value} (hlen : ∀ sig, parseMethodDescriptor y.desc = some sig → argsL.length = sig.parameters.length)
    (hstack : g.stack = argsL.reverse ++ rest) (hW : 2 * g.monitorRoom + (rest.map fun v => v.category).sum ≤ W9) (hdg : decode c.code g.pc = .ok (.invokestatic index, 3))
    (hpre : ∀ vm₁, s.WarmedH vm₁ → Pre ⟨T.setVm vm₁, locs, cells, slots⟩ argsL.toArray) :
    (∃ (v : Option Value) (vm₁ : Vm) (B : Pt), s.WarmedH vm₁ ∧ Stand p l e R s m args below meth c B.U B.locs B.cells B.slots ∧ Post ⟨T.setVm vm₁, locs, cells, slots⟩ argsL.toArray v B ∧
      ∀ target, Steps p.tables e below (B.U.setTop { g with pc := g.pc + 3, stack := v.toList ++ rest }) target → Steps p.tables e below (T.setTop g) target) ∨
    (∃ (q : Addr) (vm₁ : Vm) (B : Pt), s.WarmedH vm₁ ∧ Stand p l e R s m args below meth c B.U B.locs B.cells B.slots ∧ PostX ⟨T.setVm vm₁, locs, cells, slots⟩ argsL.toArray q B ∧
      Steps p.tables e below (T.setTop g) ((B.U.setTop { g with stack := rest }).pushFrame (.throwing q))) := by
  obtain ⟨mk, methM, cM, hnamed, hmethM, -, -, -, -, -, -, hsigM⟩ := Cond.codeWith_spec hcode
  have hstatic : methM.isStatic = true := Cond.static_spec hnamed hmethM hstat
  obtain ⟨kP, hkP, -⟩ := className_of_methodNamed hnamed
  have hinitP : kP.init = .initialized := Cond.initialized_spec (findClass_of_methodNamed hnamed) hkP hinit
  obtain ⟨vm₁, X₁, hstep₁⟩ := X.invokestatic hexec hown hlink hnamed hmethM hstatic hkP hinitP hy (g := g) hg (argsL := argsL) (rest := rest) (hlen _ hsigM) hstack hdg
  rcases hK m meth c ⟨T.setVm vm₁, locs, cells, slots⟩ { g with stack := rest } (.invokestatic index) mk argsL.toArray X₁ hg hsize hdg hW (X₁.named hnamed) (hpre vm₁ X₁.warmed) with ⟨v, B, X', hpost, hsteps⟩ | ⟨q, B, X', hpost, hsteps⟩
  · exact Or.inl ⟨v, vm₁, B, X₁.warmed, X', hpost, fun target h => hstep₁ _ fun acts => by rw [doInvoke_state]; exact hsteps.trans h⟩
  · exact Or.inr ⟨q, vm₁, B, X₁.warmed, X', hpost, hstep₁ _ fun acts => by rw [doInvoke_state]; exact hsteps⟩
theorem vx_callVW (X : Stand p l e R s m args below meth c T locs cells slots) (hexec : p.tables.exec = Jvm.exec) {own C : String} {index : Nat} {y : MethodName} {bytes : ByteArray} {maxL : Nat} {ret : Option FieldType} {hh : List (Nat × Nat × Nat × Nat)}
    (hown : s.vm.findClass own = some m.cls) (hlink : (Cond.methodLink own index y).before args s = true) (hinst : (Cond.instanceMethod y).before args s = true) (hsel : (Cond.selects C y y).before args s = true)
    (hcode : (Cond.codeWith y bytes maxL ret hh).before args s = true) (hy : y.cls ≠ "java/lang/invoke/MethodHandle" ∧ y.cls ≠ "java/lang/invoke/VarHandle")
    {W9 : Nat} {Pre : Pt → Array Value → Prop} {Post : Pt → Array Value → Option Value → Pt → Prop} (hK : Back l R p e below s args y 3 W9 Pre Post)
    {b : Addr} {cellB : Cell} (hcell : T.heap[b]? = some cellB) (hobj : cellB.vm.isStatics = false) (hcls : s.vm.findClass C = some cellB.cls)
    {g : JFrame} (hg : g.method = m) (hsize : g.locals.size = c.maxLocals) {argsL rest : List Value} (hlen : ∀ sig, parseMethodDescriptor y.desc = some sig → argsL.length = sig.parameters.length)
    (hstack : g.stack = argsL.reverse ++ .ref b :: rest) (hW : 2 * g.monitorRoom + (rest.map fun v => v.category).sum ≤ W9) (hdg : decode c.code g.pc = .ok (.invokevirtual index, 3))
    (hpre : ∀ vm₁, s.WarmedH vm₁ → Pre ⟨T.setVm vm₁, locs, cells, slots⟩ (Value.ref b :: argsL).toArray) :
    ∃ (v : Option Value) (vm₁ : Vm) (B : Pt), s.WarmedH vm₁ ∧ Stand p l e R s m args below meth c B.U B.locs B.cells B.slots ∧ Post ⟨T.setVm vm₁, locs, cells, slots⟩ (Value.ref b :: argsL).toArray v B ∧
      ∀ target, Steps p.tables e below (B.U.setTop { g with pc := g.pc + 3, stack := v.toList ++ rest }) target → Steps p.tables e below (T.setTop g) target := by
  obtain ⟨mk, methM, hnamed, hmethM, hstM, habM⟩ := Cond.instanceMethod_spec hinst
  obtain ⟨m8, methM', cM, hn8, hmethM', -, -, -, -, -, -, hsigM⟩ := Cond.codeWith_spec hcode
  cases Option.some.inj (hn8.symm.trans hnamed)
  cases hmethM.symm.trans hmethM'
  obtain ⟨c2, r2, m2, q1, q2, q3, q4, kP, hkP, hkPi⟩ := Cond.selects_spec hsel
  cases hcls.symm.trans q1
  cases (State.methodFound?_of_named hnamed hy).symm.trans q2
  cases hnamed.symm.trans q3
  have hselP : selectMethod e.platform s.vm cellB.cls mk = .method mk := by rw [Launch.admits_selectMethod X.admits]; exact q4
  obtain ⟨vm₁, X₁, hstep₁⟩ := X.invokevirtual hexec hown hlink hnamed hmethM hstM hkP hkPi hy (a := b) (cell := cellB) hcell
    (fun z h => by rw [h] at hobj; cases hobj) hselP hmethM habM hkP hkPi (g := g) hg (argsL := argsL) (rest := rest) (hlen _ hsigM) hstack hdg
  obtain ⟨v, B, X', hpost, hsteps⟩ := hK m meth c ⟨T.setVm vm₁, locs, cells, slots⟩ { g with stack := rest } (.invokevirtual index) mk (Value.ref b :: argsL).toArray X₁ hg hsize hdg hW (X₁.named hnamed) (hpre vm₁ X₁.warmed)
  exact ⟨v, vm₁, B, X₁.warmed, X', hpost, fun target h => hstep₁ _ fun acts => by rw [doInvoke_state]; exact hsteps.trans h⟩
abbrev vx_CVW (R : Room) (s : State) (args : Array Value) (own C : String) (index : Nat) (y : MethodName) (bytes : ByteArray) (maxL : Nat) (ret : Option FieldType) (hh : List (Nat × Nat × Nat × Nat)) (ws : List Cond) (rm : Room) (mc ms n : Nat) : Prop :=
  (rm.cells = mc ∧ rm.slots = ms ∧ rm.frames + 1 ≤ R.frames ∧ 8 + (maxL + 11) + rm.locals ≤ R.locals ∧ (∀ w ∈ ws, ∀ (a' : Array Value) (U : State), s.WarmedH U.vm → w.before a' U = true) ∧ Cond.codeWith y bytes maxL ret hh ∈ ws) ∧
  (Cond.codeWith y bytes maxL ret hh).before args s = true ∧ (Cond.initialized y.cls).before args s = true ∧ (y.cls ≠ "java/lang/invoke/MethodHandle" ∧ y.cls ≠ "java/lang/invoke/VarHandle") ∧
  (∀ sig, parseMethodDescriptor y.desc = some sig → n = sig.parameters.length) ∧ (Cond.methodLink own index y).before args s = true ∧ (Cond.instanceMethod y).before args s = true ∧ (Cond.selects C y y).before args s = true
theorem vx_cwVW {own C : String} {index maxL mc ms : Nat} {y : MethodName} {bytes : ByteArray} {ret : Option FieldType} {hh : List (Nat × Nat × Nat × Nat)} {Ts ws ws' : List Cond} {rm : Room} (n : Nat) (ht : ∀ w ∈ Ts, w.before args s = true) (hT : GoodIn Ts (wsV own index C y ws)) (hw : ws = Cond.codeWith y bytes maxL ret hh :: ws') (hrc : rm.cells = mc) (hrs : rm.slots = ms)
    (hd : y.cls = C ∧ y.cls ≠ "java/lang/invoke/MethodHandle" ∧ y.cls ≠ "java/lang/invoke/VarHandle" ∧ (parseMethodDescriptor y.desc).map (fun d => d.parameters.length) = some n) (hR : rm.frames + 1 ≤ R.frames ∧ 8 + (maxL + 11) + rm.locals ≤ R.locals) :
    vx_CVW R s args own C index y bytes maxL ret hh ws rm mc ms n := by
  obtain ⟨hC, hd⟩ := hd
  subst hC
  have ok : ∀ w ∈ wsV own index y.cls y ws, w.before args s = true := fun w h => ht w (hT w h).1
  have hG : GoodIn Ts ws := fun w h => hT w (by unfold wsV; exact List.mem_append_right _ h)
  have hc : Cond.codeWith y bytes maxL ret hh ∈ ws := by rw [hw]; exact List.mem_cons_self
  refine ⟨⟨hrc, hrs, hR.1, hR.2, pay_in ht hG, hc⟩, ht _ (hG _ hc).1, ok _ (by simp [wsV]), ⟨hd.1, hd.2.1⟩, fun sig h => ?_, ok _ (by simp [wsV]), ok _ (by simp [wsV]), ok _ (by simp [wsV])⟩
  have h2 := hd.2.2
  rw [h] at h2
  exact (Option.some.inj h2).symm
theorem vx_runVW {y : MethodName} {bytes cc : ByteArray} {maxL nL mc ms n index : Nat} {ret : Option FieldType} {hh : List (Nat × Nat × Nat × Nat)} {ws : List Cond} {rm : Room} {Pc : Array Value → State → Prop} {Qc : Array Value → State → Outcome → State → Prop} {free : Addr → Prop} {Ts : List Cond} {own C : String} {b : Addr} {As rest : List Value} {g : JFrame}
    (S : CallFix p m c cc nL s args Ts own) (hM : Met l y ws rm Pc Qc mc ms free) (cw : vx_CVW R s args own C index y bytes maxL ret hh ws rm mc ms n) (hp : PreV s H C b Pc As)
    (hg : g.method = m) (hn : As.length = n) (hsize : g.locals.size = nL) (hstack : g.stack = As.reverse ++ .ref b :: rest) (hW : 2 * g.monitorRoom + (rest.map fun v => v.category).sum ≤ 8) (hdg : decode cc g.pc = .ok (.invokevirtual index, 3)) (hf : cells + mc ≤ R.cells ∧ slots + ms ≤ R.slots) :
    va_Run p l e R s m args below meth c H locs cells slots mc ms g rest (Qc (Value.ref b :: As).toArray) free := by
  obtain ⟨⟨hrc, hrs, hfr, hlo, hws, hcw⟩, hcode, hini, hy, hlen, hl, hin, hse⟩ := cw
  have hK : Back l R p e below s args y 3 8 (PreOf R mc ms Pc) (PostOf Qc mc ms free) := va_backW (hh := hh) (bytes := bytes) (maxL := maxL) (ret := ret) hM hp.1 hrc hrs hfr hlo hws hcw (fun a' U hW => word_at hW (Or.inl (by first | rfl | simp [Cond.onTables, Cond.keeps, Cond.steady])) hini)
  obtain ⟨hx, hb, hml, ho, -⟩ := S
  obtain ⟨-, ⟨cellB, hcB, hoB, hclB⟩, hPc⟩ := hp
  intro T hT X
  obtain ⟨v, vm₁, ⟨U', l2, c2, s2⟩, hW₁, X', ⟨g', mk, t, L, e1, e2, hq, h1, hL, h2, h3⟩, st⟩ := vx_callVW X hx (C := C) (hh := hh) (bytes := bytes) (maxL := maxL) (ret := ret) ho hl hin hse hcode hy hK (by rw [hT]; exact hcB) hoB hclB hg (hsize.trans hml.symm) (argsL := As) (rest := rest) (fun sig h => hn.trans (hlen sig h)) hstack hW (by rw [hb]; exact hdg)
    (fun vm₁ hW₁ => ⟨hf.1, hf.2, hPc (T.setVm vm₁) hT hW₁⟩)
  dsimp only [Pt.U, Pt.locs, Pt.cells, Pt.slots] at X' e1 e2 h1 h2 h3 st
  subst h1; subst h2; subst h3
  exact ⟨v, (T.setVm vm₁).calling g' mk (Value.ref b :: As).toArray, t, U', L, hT, X', hL, e1, e2, hq, st⟩
section
variable {y : MethodName} {bytes cc : ByteArray} {maxL nL mc ms n index : Nat} {ret : Option FieldType} {ws : List Cond} {rm : Room} {Pc : Array Value → State → Prop} {Qc : Array Value → State → Outcome → State → Prop} {XC : String → State → State → Prop} {free : Addr → Prop} {Ts : List Cond} {own C : String} {b : Addr} {As rest : List Value} {g : JFrame}
theorem vx_runVX {hh : List (Nat × Nat × Nat × Nat)} (S : CallFix p m c cc nL s args Ts own) (hM : vx_Met l y ws rm Pc Qc XC mc ms free) (cw : vx_CVW R s args own C index y bytes maxL ret hh ws rm mc ms n) (hp : PreV s H C b Pc As)
    (hg : g.method = m) (hn : As.length = n) (hsize : g.locals.size = nL) (hstack : g.stack = As.reverse ++ .ref b :: rest) (hW : 2 * g.monitorRoom + (rest.map fun v => v.category).sum ≤ 8) (hdg : decode cc g.pc = .ok (.invokevirtual index, 3)) (hf : cells + mc ≤ R.cells ∧ slots + ms ≤ R.slots) :
    vx_Run p l e R s m args below meth c H locs cells slots mc ms g rest (Qc (Value.ref b :: As).toArray) XC free := by
  obtain ⟨⟨hrc, hrs, hfr, hlo, hws, hcw⟩, hcode, hini, hy, hlen, hl, hin, hse⟩ := cw
  have hK : vx_Back l R p e below s args y 3 8 (PreOf R mc ms Pc) (PostOf Qc mc ms free) (vx_Post XC mc ms free) := vx_backW (hh := hh) (bytes := bytes) (maxL := maxL) (ret := ret) hM hp.1 hrc hrs hfr hlo hws hcw (fun a' U hW => word_at hW (Or.inl (by first | rfl | simp [Cond.onTables, Cond.keeps, Cond.steady])) hini)
  obtain ⟨hx, hb, hml, ho, -⟩ := S
  obtain ⟨-, ⟨cellB, hcB, hoB, hclB⟩, hPc⟩ := hp
  intro T hT X
  rcases vx_callVX X hx (C := C) (hh := hh) (bytes := bytes) (maxL := maxL) (ret := ret) ho hl hin hse hcode hy hK (by rw [hT]; exact hcB) hoB hclB hg (hsize.trans hml.symm) (argsL := As) (rest := rest) (fun sig h => hn.trans (hlen sig h)) hstack hW (by rw [hb]; exact hdg)
    (fun vm₁ hW₁ => ⟨hf.1, hf.2, hPc (T.setVm vm₁) hT hW₁⟩) with ⟨v, vm₁, ⟨U', l2, c2, s2⟩, hW₁, X', ⟨g', mk, t, L, e1, e2, hq, h1, hL, h2, h3⟩, st⟩ | ⟨q, vm₁, ⟨U', l2, c2, s2⟩, hW₁, X', ⟨g', mk, t, L, E, ce, e1, e2, hq, hce, hcv, hcl, h1, hL, h2, h3⟩, st⟩
  · dsimp only [Pt.U, Pt.locs, Pt.cells, Pt.slots] at X' e1 e2 h1 h2 h3 st
    subst h1; subst h2; subst h3
    exact Or.inl ⟨v, (T.setVm vm₁).calling g' mk (Value.ref b :: As).toArray, t, U', L, hT, X', hL, e1, e2, hq, st⟩
  · dsimp only [Pt.U, Pt.locs, Pt.cells, Pt.slots] at X' e1 e2 h1 h2 h3 st hcl
    subst h1; subst h2; subst h3
    exact Or.inr ⟨q, (T.setVm vm₁).calling g' mk (Value.ref b :: As).toArray, t, U', L, E, ce, hT, X', hL, e1, e2, hq, hce, hcv, vx_cls hW₁ hcl, st⟩
theorem vx_runSX {hh : List (Nat × Nat × Nat × Nat)} (S : CallFix p m c cc nL s args Ts own) (hM : vx_Met l y ws rm Pc Qc XC mc ms free) (cw : vx_CSW R s args own index y bytes maxL ret hh ws rm mc ms n) (hp : PreS s H Pc As)
    (hg : g.method = m) (hn : As.length = n) (hsize : g.locals.size = nL) (hstack : g.stack = As.reverse ++ rest) (hW : 2 * g.monitorRoom + (rest.map fun v => v.category).sum ≤ 8) (hdg : decode cc g.pc = .ok (.invokestatic index, 3)) (hf : cells + mc ≤ R.cells ∧ slots + ms ≤ R.slots) :
    vx_Run p l e R s m args below meth c H locs cells slots mc ms g rest (Qc As.toArray) XC free := by
  obtain ⟨⟨hrc, hrs, hfr, hlo, hws, hcw⟩, hcode, hini, hy, hlen, hl, hstt⟩ := cw
  have hK : vx_Back l R p e below s args y 3 8 (PreOf R mc ms Pc) (PostOf Qc mc ms free) (vx_Post XC mc ms free) := vx_backW (hh := hh) (bytes := bytes) (maxL := maxL) (ret := ret) hM hp.1 hrc hrs hfr hlo hws hcw (fun a' U hW => word_at hW (Or.inl (by first | rfl | simp [Cond.onTables, Cond.keeps, Cond.steady])) hini)
  obtain ⟨hx, hb, hml, ho, -⟩ := S
  intro T hT X
  rcases vx_callSX X hx (hh := hh) (bytes := bytes) (maxL := maxL) (ret := ret) ho hl hstt hini hcode hy hK hg (hsize.trans hml.symm) (argsL := As) (rest := rest) (fun sig h => hn.trans (hlen sig h)) hstack hW (by rw [hb]; exact hdg)
    (fun vm₁ hW₁ => ⟨hf.1, hf.2, hp.2 (T.setVm vm₁) hT hW₁⟩) with ⟨v, vm₁, ⟨U', l2, c2, s2⟩, hW₁, X', ⟨g', mk, t, L, e1, e2, hq, h1, hL, h2, h3⟩, st⟩ | ⟨q, vm₁, ⟨U', l2, c2, s2⟩, hW₁, X', ⟨g', mk, t, L, E, ce, e1, e2, hq, hce, hcv, hcl, h1, hL, h2, h3⟩, st⟩
  · dsimp only [Pt.U, Pt.locs, Pt.cells, Pt.slots] at X' e1 e2 h1 h2 h3 st
    subst h1; subst h2; subst h3
    exact Or.inl ⟨v, (T.setVm vm₁).calling g' mk As.toArray, t, U', L, hT, X', hL, e1, e2, hq, st⟩
  · dsimp only [Pt.U, Pt.locs, Pt.cells, Pt.slots] at X' e1 e2 h1 h2 h3 st hcl
    subst h1; subst h2; subst h3
    exact Or.inr ⟨q, (T.setVm vm₁).calling g' mk As.toArray, t, U', L, E, ce, hT, X', hL, e1, e2, hq, hce, hcv, vx_cls hW₁ hcl, st⟩
end
end VXH
theorem vx_ofWH {l : Launch} {y : MethodName} {ws ws' : List Cond} {rm : Room} {Pc : Array Value → State → Prop} {Qc : Array Value → State → Outcome → State → Prop} {XC : String → State → State → Prop} {mc ms : Nat} {free : Addr → Prop} {cc : ByteArray} {maxL : Nat} {ret : Option FieldType} {hh : List (Nat × Nat × Nat × Nat)}
    (hy : plainName y.cls = true) (hw : ws = Cond.codeWith y cc maxL ret hh :: ws')
    (body : ∀ p e s m args below meth c s₁, BodyLoose p l y (headSpec ws rm) cc maxL ret e s m args below meth c s₁ → c.maxLocals = maxL → Pc args s →
      W p l e (headSpec ws rm).room s m args below meth c s.heap [] 0 0 (vx_MQ below Qc XC args s mc ms free) (entryFrame m args maxL)) : vx_Met l y ws rm Pc Qc XC mc ms free := by
  refine MetFree.of_bodyS (code := cc) (maxLocals := maxL) (ret := ret) hy ?_ ?_
  · intro args s m h hn
    obtain ⟨m9, meth, c, hn9, h1, h2, h3, h4, -, h5, h6, -⟩ := Cond.codeWith_spec (atoms_spec (ws := ws) h _ (by rw [hw]; exact List.mem_cons_self))
    cases hn.symm.trans hn9
    exact ⟨meth, c, h1, h2, h3, h4, h5, h6⟩
  · intro p e s m args below meth c s₁ B hml hP _
    have hh0 : s₁.heap = s.heap := by rw [B.state]; rfl
    obtain ⟨t, a1, o, b1, b2, b3⟩ := body p e s m args below meth c s₁ B hml hP s₁ hh0 (Stand.of_body B)
    exact ⟨t, o, a1, b1, b2, b3⟩
/-! ===== END ===== -/
end
section
/-! ===== BEGIN printed: names, fields, word lists, decode rows ===== -/
def RX0 : String := "BottleLoop$Order"
def TX0 : u_T := fun k => match k with
  | 0 => ("BottleLoop$Order", "step", "I", false)
  | 1 => ("BottleLoop$Order", "letter", "I", false)
  | 2 => ("BottleLoop$Order", "first", "I", false)
  | 3 => ("BottleLoop$Order", "second", "I", false)
  | _ => ("BottleLoop$Order", "number", "I", false)
def tyX0 : Nat → FieldType := fun k => match k with
  | 0 => .int
  | 1 => .int
  | 2 => .int
  | 3 => .int
  | _ => .int
abbrev wsX00 : List Cond := u_ws RX0 TX0 5
theorem nmX0 : ∀ a, a < 5 → ∀ b, b < 5 → a ≠ b → (TX0 a).2.1 ≠ (TX0 b).2.1 := by decide +kernel
theorem tyX0_ok : ∀ k, k < 5 → parseFieldDescriptor (TX0 k).2.2.1 = some (tyX0 k) := by decide +kernel
abbrev cX0_init : ByteArray := prog_2_method_1_code
def yX0_init : MethodName := ⟨RX0, "<init>", "()V"⟩
def RX1 : String := "BottleLoop$Past"
def TX1 : u_T := fun k => match k with
  | 0 => ("BottleLoop$Past", "states", "[LBottleLoop$State;", true)
  | 1 => ("BottleLoop$Past", "latest", "I", false)
  | _ => ("BottleLoop$Past", "kept", "I", false)
def tyX1 : Nat → FieldType := fun k => match k with
  | 0 => .array (.object "BottleLoop$State")
  | 1 => .int
  | _ => .int
abbrev wsX10 : List Cond := u_ws RX1 TX1 3
theorem nmX1 : ∀ a, a < 3 → ∀ b, b < 3 → a ≠ b → (TX1 a).2.1 ≠ (TX1 b).2.1 := by decide +kernel
theorem tyX1_ok : ∀ k, k < 3 → parseFieldDescriptor (TX1 k).2.2.1 = some (tyX1 k) := by decide +kernel
abbrev cX1_init : ByteArray := prog_3_method_1_code
def yX1_init : MethodName := ⟨RX1, "<init>", "()V"⟩
abbrev cX1_kept : ByteArray := prog_3_method_2_code
def yX1_kept : MethodName := ⟨RX1, "kept", "()I"⟩
abbrev cX1_latestState : ByteArray := prog_3_method_3_code
def yX1_latestState : MethodName := ⟨RX1, "latestState", "()LBottleLoop$State;"⟩
abbrev cX1_keep : ByteArray := prog_3_method_4_code
def yX1_keep : MethodName := ⟨RX1, "keep", "(LBottleLoop$State;)V"⟩
abbrev cX1_giveBack : ByteArray := prog_3_method_5_code
def yX1_giveBack : MethodName := ⟨RX1, "giveBack", "(LBottleLoop$State;)V"⟩
def RX2 : String := "BottleLoop$State"
def TX2 : u_T := fun k => match k with
  | _ => ("BottleLoop$State", "cells", "[I", true)
def tyX2 : Nat → FieldType := fun k => match k with
  | _ => .array .int
abbrev wsX20 : List Cond := u_ws RX2 TX2 1
theorem nmX2 : ∀ a, a < 1 → ∀ b, b < 1 → a ≠ b → (TX2 a).2.1 ≠ (TX2 b).2.1 := by decide +kernel
theorem tyX2_ok : ∀ k, k < 1 → parseFieldDescriptor (TX2 k).2.2.1 = some (tyX2 k) := by decide +kernel
abbrev cX2_init : ByteArray := prog_4_method_1_code
def yX2_init : MethodName := ⟨RX2, "<init>", "()V"⟩
abbrev cX2_copyFrom : ByteArray := prog_4_method_2_code
def yX2_copyFrom : MethodName := ⟨RX2, "copyFrom", "(LBottleLoop$State;)V"⟩
abbrev cX2_get : ByteArray := prog_4_method_3_code
def yX2_get : MethodName := ⟨RX2, "get", "(I)I"⟩
abbrev cX2_put : ByteArray := prog_4_method_4_code
def yX2_put : MethodName := ⟨RX2, "put", "(II)V"⟩
abbrev cX2_ofAll : ByteArray := prog_4_method_5_code
def yX2_ofAll : MethodName := ⟨RX2, "ofAll", "(I)I"⟩
abbrev cX2_addToAll : ByteArray := prog_4_method_7_code
def yX2_addToAll : MethodName := ⟨RX2, "addToAll", "(II)V"⟩
abbrev cX2_ofSetting : ByteArray := prog_4_method_8_code
def yX2_ofSetting : MethodName := ⟨RX2, "ofSetting", "(I)I"⟩
abbrev cX2_putSetting : ByteArray := prog_4_method_9_code
def yX2_putSetting : MethodName := ⟨RX2, "putSetting", "(II)V"⟩
abbrev cX2_ofBrand : ByteArray := prog_4_method_10_code
def yX2_ofBrand : MethodName := ⟨RX2, "ofBrand", "(II)I"⟩
abbrev cX2_addToBrand : ByteArray := prog_4_method_11_code
def yX2_addToBrand : MethodName := ⟨RX2, "addToBrand", "(III)V"⟩
abbrev cX2_ofShop : ByteArray := prog_4_method_12_code
def yX2_ofShop : MethodName := ⟨RX2, "ofShop", "(II)I"⟩
abbrev cX2_addToShop : ByteArray := prog_4_method_13_code
def yX2_addToShop : MethodName := ⟨RX2, "addToShop", "(III)V"⟩
abbrev cX2_ofSwaps : ByteArray := prog_4_method_14_code
def yX2_ofSwaps : MethodName := ⟨RX2, "ofSwaps", "(II)I"⟩
abbrev cX2_addToSwaps : ByteArray := prog_4_method_15_code
def yX2_addToSwaps : MethodName := ⟨RX2, "addToSwaps", "(III)V"⟩
abbrev cX2_brandNumber : ByteArray := prog_4_method_16_code
def yX2_brandNumber : MethodName := ⟨RX2, "brandNumber", "(II)I"⟩
abbrev cX2_shopNumber : ByteArray := prog_4_method_17_code
def yX2_shopNumber : MethodName := ⟨RX2, "shopNumber", "(II)I"⟩
abbrev cX2_countNumber : ByteArray := prog_4_method_18_code
def yX2_countNumber : MethodName := ⟨RX2, "countNumber", "(I)I"⟩
abbrev cX2_overBrands : ByteArray := prog_4_method_19_code
def yX2_overBrands : MethodName := ⟨RX2, "overBrands", "(I)I"⟩
abbrev cX2_brandSum : ByteArray := prog_4_method_20_code
def yX2_brandSum : MethodName := ⟨RX2, "brandSum", "(II)I"⟩
abbrev cX2_overShops : ByteArray := prog_4_method_21_code
def yX2_overShops : MethodName := ⟨RX2, "overShops", "(I)I"⟩
abbrev cX2_overBrandsOf : ByteArray := prog_4_method_22_code
def yX2_overBrandsOf : MethodName := ⟨RX2, "overBrandsOf", "(II)I"⟩
def RX3 : String := "BottleLoop$Text"
def TX3 : u_T := fun k => match k with
  | 0 => ("BottleLoop$Text", "codes", "[I", true)
  | 1 => ("BottleLoop$Text", "order", "LBottleLoop$Order;", true)
  | _ => ("BottleLoop$Text", "length", "I", false)
def tyX3 : Nat → FieldType := fun k => match k with
  | 0 => .array .int
  | 1 => .object "BottleLoop$Order"
  | _ => .int
abbrev wsX30 : List Cond := u_ws RX3 TX3 3
theorem nmX3 : ∀ a, a < 3 → ∀ b, b < 3 → a ≠ b → (TX3 a).2.1 ≠ (TX3 b).2.1 := by decide +kernel
theorem tyX3_ok : ∀ k, k < 3 → parseFieldDescriptor (TX3 k).2.2.1 = some (tyX3 k) := by decide +kernel
abbrev cX3_init : ByteArray := prog_5_method_1_code
def yX3_init : MethodName := ⟨RX3, "<init>", "()V"⟩
def RX4 : String := "BottleLoop$Trade"
def TX4 : u_T := fun k => match k with
  | 0 => ("BottleLoop$Trade", "state", "LBottleLoop$State;", true)
  | _ => ("BottleLoop$Trade", "left", "[I", true)
def tyX4 : Nat → FieldType := fun k => match k with
  | 0 => .object "BottleLoop$State"
  | _ => .array .int
abbrev wsX40 : List Cond := u_ws RX4 TX4 2
theorem nmX4 : ∀ a, a < 2 → ∀ b, b < 2 → a ≠ b → (TX4 a).2.1 ≠ (TX4 b).2.1 := by decide +kernel
theorem tyX4_ok : ∀ k, k < 2 → parseFieldDescriptor (TX4 k).2.2.1 = some (tyX4 k) := by decide +kernel
abbrev cX4_init : ByteArray := prog_6_method_1_code
def yX4_init : MethodName := ⟨RX4, "<init>", "()V"⟩
abbrev cX4_depositOf : ByteArray := prog_6_method_2_code
def yX4_depositOf : MethodName := ⟨RX4, "depositOf", "(I)I"⟩
abbrev cX4_crateDeposits : ByteArray := prog_6_method_3_code
def yX4_crateDeposits : MethodName := ⟨RX4, "crateDeposits", "(I)I"⟩
abbrev cX4_cratePrice : ByteArray := prog_6_method_4_code
def yX4_cratePrice : MethodName := ⟨RX4, "cratePrice", "(I)I"⟩
abbrev cX4_bottleReason : ByteArray := prog_6_method_5_code
def yX4_bottleReason : MethodName := ⟨RX4, "bottleReason", "(II)I"⟩
abbrev cX4_deliverReason : ByteArray := prog_6_method_6_code
def yX4_deliverReason : MethodName := ⟨RX4, "deliverReason", "(III)I"⟩
abbrev cX4_sellReason : ByteArray := prog_6_method_7_code
def yX4_sellReason : MethodName := ⟨RX4, "sellReason", "(III)I"⟩
abbrev cX4_returnReason : ByteArray := prog_6_method_8_code
def yX4_returnReason : MethodName := ⟨RX4, "returnReason", "(III)I"⟩
abbrev cX4_breakReason : ByteArray := prog_6_method_9_code
def yX4_breakReason : MethodName := ⟨RX4, "breakReason", "(III)I"⟩
abbrev cX4_collectReason : ByteArray := prog_6_method_10_code
def yX4_collectReason : MethodName := ⟨RX4, "collectReason", "(III)I"⟩
abbrev cX4_fillBottles : ByteArray := prog_6_method_11_code
def yX4_fillBottles : MethodName := ⟨RX4, "fillBottles", "(II)I"⟩
abbrev cX4_deliverCrates : ByteArray := prog_6_method_12_code
def yX4_deliverCrates : MethodName := ⟨RX4, "deliverCrates", "(III)I"⟩
abbrev cX4_sellBottles : ByteArray := prog_6_method_13_code
def yX4_sellBottles : MethodName := ⟨RX4, "sellBottles", "(III)I"⟩
abbrev cX4_returnBottles : ByteArray := prog_6_method_14_code
def yX4_returnBottles : MethodName := ⟨RX4, "returnBottles", "(III)I"⟩
abbrev cX4_breakBottles : ByteArray := prog_6_method_15_code
def yX4_breakBottles : MethodName := ⟨RX4, "breakBottles", "(III)I"⟩
abbrev cX4_loseBottles : ByteArray := prog_6_method_16_code
def yX4_loseBottles : MethodName := ⟨RX4, "loseBottles", "(II)I"⟩
abbrev cX4_collectCrates : ByteArray := prog_6_method_17_code
def yX4_collectCrates : MethodName := ⟨RX4, "collectCrates", "(III)I"⟩
abbrev cX4_sortBottles : ByteArray := prog_6_method_18_code
def yX4_sortBottles : MethodName := ⟨RX4, "sortBottles", "(II)I"⟩
abbrev cX4_swapBottles : ByteArray := prog_6_method_19_code
def yX4_swapBottles : MethodName := ⟨RX4, "swapBottles", "(III)I"⟩
abbrev cX4_emptiesOf : ByteArray := prog_6_method_20_code
def yX4_emptiesOf : MethodName := ⟨RX4, "emptiesOf", "(II)I"⟩
abbrev cX4_yardOf : ByteArray := prog_6_method_21_code
def yX4_yardOf : MethodName := ⟨RX4, "yardOf", "(I)I"⟩
abbrev cX4_pickEmpties : ByteArray := prog_6_method_22_code
def yX4_pickEmpties : MethodName := ⟨RX4, "pickEmpties", "(III)V"⟩
abbrev cX4_pickOne : ByteArray := prog_6_method_23_code
def yX4_pickOne : MethodName := ⟨RX4, "pickOne", "()V"⟩
abbrev cX4_pickedOf : ByteArray := prog_6_method_24_code
def yX4_pickedOf : MethodName := ⟨RX4, "pickedOf", "(II)I"⟩
abbrev cX4_wornBy : ByteArray := prog_6_method_25_code
def yX4_wornBy : MethodName := ⟨RX4, "wornBy", "(II)I"⟩
abbrev cX4_mostDeliverable : ByteArray := prog_6_method_26_code
def yX4_mostDeliverable : MethodName := ⟨RX4, "mostDeliverable", "(II)I"⟩
abbrev cX4_mostCollectable : ByteArray := prog_6_method_27_code
def yX4_mostCollectable : MethodName := ⟨RX4, "mostCollectable", "(II)I"⟩
abbrev cX4_wouldCollect : ByteArray := prog_6_method_28_code
def yX4_wouldCollect : MethodName := ⟨RX4, "wouldCollect", "(III)I"⟩
abbrev cX4_bestToCollect : ByteArray := prog_6_method_29_code
def yX4_bestToCollect : MethodName := ⟨RX4, "bestToCollect", "(I)I"⟩
def RX5 : String := "BottleLoop"
def TX5 : u_T := fun k => match k with
  | 0 => ("BottleLoop", "now", "LBottleLoop$State;", true)
  | 1 => ("BottleLoop", "past", "LBottleLoop$Past;", true)
  | 2 => ("BottleLoop", "trade", "LBottleLoop$Trade;", true)
  | 3 => ("BottleLoop", "text", "LBottleLoop$Text;", true)
  | _ => ("BottleLoop", "order", "LBottleLoop$Order;", true)
def tyX5 : Nat → FieldType := fun k => match k with
  | 0 => .object "BottleLoop$State"
  | 1 => .object "BottleLoop$Past"
  | 2 => .object "BottleLoop$Trade"
  | 3 => .object "BottleLoop$Text"
  | _ => .object "BottleLoop$Order"
abbrev wsX50 : List Cond := u_ws RX5 TX5 5
theorem nmX5 : ∀ a, a < 5 → ∀ b, b < 5 → a ≠ b → (TX5 a).2.1 ≠ (TX5 b).2.1 := by decide +kernel
theorem tyX5_ok : ∀ k, k < 5 → parseFieldDescriptor (TX5 k).2.2.1 = some (tyX5 k) := by decide +kernel
abbrev cX5_init : ByteArray := prog_1_method_1_code
def yX5_init : MethodName := ⟨RX5, "<init>", "()V"⟩
abbrev cX5_addBrand : ByteArray := prog_1_method_2_code
def yX5_addBrand : MethodName := ⟨RX5, "addBrand", "(II)I"⟩
abbrev cX5_addShop : ByteArray := prog_1_method_3_code
def yX5_addShop : MethodName := ⟨RX5, "addShop", "(I)I"⟩
abbrev cX5_buyCrates : ByteArray := prog_1_method_4_code
def yX5_buyCrates : MethodName := ⟨RX5, "buyCrates", "(I)I"⟩
abbrev cX5_set : ByteArray := prog_1_method_5_code
def yX5_set : MethodName := ⟨RX5, "set", "(II)I"⟩
abbrev cX5_fill : ByteArray := prog_1_method_6_code
def yX5_fill : MethodName := ⟨RX5, "fill", "(II)I"⟩
abbrev cX5_deliver : ByteArray := prog_1_method_7_code
def yX5_deliver : MethodName := ⟨RX5, "deliver", "(III)I"⟩
abbrev cX5_sell : ByteArray := prog_1_method_8_code
def yX5_sell : MethodName := ⟨RX5, "sell", "(III)I"⟩
abbrev cX5_takeBack : ByteArray := prog_1_method_9_code
def yX5_takeBack : MethodName := ⟨RX5, "takeBack", "(III)I"⟩
abbrev cX5_breaks : ByteArray := prog_1_method_10_code
def yX5_breaks : MethodName := ⟨RX5, "breaks", "(III)I"⟩
abbrev cX5_lose : ByteArray := prog_1_method_11_code
def yX5_lose : MethodName := ⟨RX5, "lose", "(II)I"⟩
abbrev cX5_collect : ByteArray := prog_1_method_12_code
def yX5_collect : MethodName := ⟨RX5, "collect", "(III)I"⟩
abbrev cX5_sort : ByteArray := prog_1_method_13_code
def yX5_sort : MethodName := ⟨RX5, "sort", "(II)I"⟩
abbrev cX5_swap : ByteArray := prog_1_method_14_code
def yX5_swap : MethodName := ⟨RX5, "swap", "(III)I"⟩
abbrev cX5_undo : ByteArray := prog_1_method_19_code
def yX5_undo : MethodName := ⟨RX5, "undo", "()I"⟩
abbrev cX5_brand : ByteArray := prog_1_method_20_code
def yX5_brand : MethodName := ⟨RX5, "brand", "(II)I"⟩
abbrev cX5_shop : ByteArray := prog_1_method_21_code
def yX5_shop : MethodName := ⟨RX5, "shop", "(II)I"⟩
abbrev cX5_count : ByteArray := prog_1_method_22_code
def yX5_count : MethodName := ⟨RX5, "count", "(I)I"⟩
abbrev cX5_setting : ByteArray := prog_1_method_23_code
def yX5_setting : MethodName := ⟨RX5, "setting", "(I)I"⟩
abbrev cX5_whyNotDeliver : ByteArray := prog_1_method_24_code
def yX5_whyNotDeliver : MethodName := ⟨RX5, "whyNotDeliver", "(III)I"⟩
abbrev cX5_whyNotCollect : ByteArray := prog_1_method_25_code
def yX5_whyNotCollect : MethodName := ⟨RX5, "whyNotCollect", "(III)I"⟩
abbrev cX5_mostCrates : ByteArray := prog_1_method_26_code
def yX5_mostCrates : MethodName := ⟨RX5, "mostCrates", "(II)I"⟩
abbrev cX5_collected : ByteArray := prog_1_method_27_code
def yX5_collected : MethodName := ⟨RX5, "collected", "(III)I"⟩
abbrev cX5_filled : ByteArray := prog_1_method_28_code
def yX5_filled : MethodName := ⟨RX5, "filled", "(II)I"⟩
abbrev cX5_bestShop : ByteArray := prog_1_method_29_code
def yX5_bestShop : MethodName := ⟨RX5, "bestShop", "(I)I"⟩
abbrev cX5_goneShare : ByteArray := prog_1_method_30_code
def yX5_goneShare : MethodName := ⟨RX5, "goneShare", "()D"⟩
abbrev cX5_isBrand : ByteArray := prog_1_method_42_code
def yX5_isBrand : MethodName := ⟨RX5, "isBrand", "(I)Z"⟩
abbrev cX5_isShop : ByteArray := prog_1_method_43_code
def yX5_isShop : MethodName := ⟨RX5, "isShop", "(I)Z"⟩
abbrev cX5_isShopNumber : ByteArray := prog_1_method_44_code
def yX5_isShopNumber : MethodName := ⟨RX5, "isShopNumber", "(I)Z"⟩
abbrev cX5_needBrand : ByteArray := prog_1_method_45_code
def yX5_needBrand : MethodName := ⟨RX5, "needBrand", "(I)V"⟩
abbrev cX5_needShop : ByteArray := prog_1_method_46_code
def yX5_needShop : MethodName := ⟨RX5, "needShop", "(I)V"⟩
abbrev cX5_needSetting : ByteArray := prog_1_method_47_code
def yX5_needSetting : MethodName := ⟨RX5, "needSetting", "(I)V"⟩
abbrev cX5_needKind : ByteArray := prog_1_method_48_code
def yX5_needKind : MethodName := ⟨RX5, "needKind", "(I)V"⟩
abbrev cX5_needRange : ByteArray := prog_1_method_49_code
def yX5_needRange : MethodName := ⟨RX5, "needRange", "(III)V"⟩
abbrev cX5_needArgument : ByteArray := prog_1_method_50_code
def yX5_needArgument : MethodName := ⟨RX5, "needArgument", "(Z)V"⟩
abbrev cX5_needState : ByteArray := prog_1_method_51_code
def yX5_needState : MethodName := ⟨RX5, "needState", "(Z)V"⟩
abbrev cX5_entry : ByteArray := prog_1_method_52_code
def yX5_entry : MethodName := ⟨RX5, "entry", "([II)I"⟩
def RX6 : String := "BottleLoopModel"
def TX6 : u_T := fun k => match k with
  | _ => ("", "", "", false)
def tyX6 : Nat → FieldType := fun k => match k with
  | _ => .int
abbrev wsX60 : List Cond := u_ws RX6 TX6 0
theorem nmX6 : ∀ a, a < 0 → ∀ b, b < 0 → a ≠ b → (TX6 a).2.1 ≠ (TX6 b).2.1 := by decide +kernel
theorem tyX6_ok : ∀ k, k < 0 → parseFieldDescriptor (TX6 k).2.2.1 = some (tyX6 k) := by decide +kernel
def RJ9 : String := "java/lang/Math"
def TJ9 : u_T := fun k => match k with
  | _ => ("", "", "", false)
def tyJ9 : Nat → FieldType := fun k => match k with
  | _ => .int
abbrev wsJ90 : List Cond := u_ws RJ9 TJ9 0
theorem nmJ9 : ∀ a, a < 0 → ∀ b, b < 0 → a ≠ b → (TJ9 a).2.1 ≠ (TJ9 b).2.1 := by decide +kernel
theorem tyJ9_ok : ∀ k, k < 0 → parseFieldDescriptor (TJ9 k).2.2.1 = some (tyJ9 k) := by decide +kernel
abbrev cJ9_min_7cf53 : ByteArray := prog_13_method_69_code
def yJ9_min_7cf53 : MethodName := ⟨RJ9, "min", "(II)I"⟩
def RJ0 : String := "java/lang/String"
def TJ0 : u_T := fun k => match k with
  | _ => ("", "", "", false)
def tyJ0 : Nat → FieldType := fun k => match k with
  | _ => .int
abbrev wsJ00 : List Cond := u_ws RJ0 TJ0 0
theorem nmJ0 : ∀ a, a < 0 → ∀ b, b < 0 → a ≠ b → (TJ0 a).2.1 ≠ (TJ0 b).2.1 := by decide +kernel
theorem tyJ0_ok : ∀ k, k < 0 → parseFieldDescriptor (TJ0 k).2.2.1 = some (tyJ0 k) := by decide +kernel
def RJ10 : String := "java/lang/System"
def TJ10 : u_T := fun k => match k with
  | _ => ("", "", "", false)
def tyJ10 : Nat → FieldType := fun k => match k with
  | _ => .int
abbrev wsJ100 : List Cond := u_ws RJ10 TJ10 0
theorem nmJ10 : ∀ a, a < 0 → ∀ b, b < 0 → a ≠ b → (TJ10 a).2.1 ≠ (TJ10 b).2.1 := by decide +kernel
theorem tyJ10_ok : ∀ k, k < 0 → parseFieldDescriptor (TJ10 k).2.2.1 = some (tyJ10 k) := by decide +kernel
def RL : String := "BottleLoopLaw"
abbrev cL_cell : ByteArray := method_2_code
def yL_cell : MethodName := ⟨RL, "cell", "([II)I"⟩
abbrev cL_brands : ByteArray := method_3_code
def yL_brands : MethodName := ⟨RL, "brands", "(LBottleLoop;[I)Z"⟩
abbrev cL_money : ByteArray := method_4_code
def yL_money : MethodName := ⟨RL, "money", "(LBottleLoop;I)Z"⟩
abbrev cL_swaps : ByteArray := method_5_code
def yL_swaps : MethodName := ⟨RL, "swaps", "(LBottleLoop;III)Z"⟩
abbrev cL_acts : ByteArray := method_6_code
def yL_acts : MethodName := ⟨RL, "acts", "(LBottleLoop;I)Z"⟩
abbrev cL_law : ByteArray := code
def yL_law : MethodName := ⟨RL, "law", "([I)Z"⟩
def wsX0_init : List Cond := .code yX0_init cX0_init 1 none :: ([.methodLink RX0 3 objectInit, .instanceMethod objectInit, .code objectInit ⟨#[0xb1]⟩ 1 none])
def wsX5_entry : List Cond := .code yX5_entry cX5_entry 2 (some .int) :: ([])
def wsX2_put : List Cond := .code yX2_put cX2_put 3 none :: ([.fieldLink RX2 11 "BottleLoop$State" "cells" "[I"] ++ wsX20)
def wsX2_putSetting : List Cond := .code yX2_putSetting cX2_putSetting 3 none :: ([.methodLink RX2 36 yX2_put, .instanceMethod yX2_put, .selects RX2 yX2_put yX2_put, .initialized RX2, .code yX2_put cX2_put 3 none, .fieldLink RX2 11 "BottleLoop$State" "cells" "[I"] ++ wsX20)
def wsX2_init : List Cond := .code yX2_init cX2_init 2 none :: ([.methodLink RX2 5 objectInit, .instanceMethod objectInit, .code objectInit ⟨#[0xb1]⟩ 1 none, .arrayClass .int, .fieldLink RX2 11 "BottleLoop$State" "cells" "[I", .static yX5_entry, .initialized RX5, .code yX5_entry cX5_entry 2 (some .int), .methodLink RX2 22 yX2_putSetting, .instanceMethod yX2_putSetting, .selects RX2 yX2_putSetting yX2_putSetting, .initialized RX2, .code yX2_putSetting cX2_putSetting 3 none, .methodLink RX2 36 yX2_put, .instanceMethod yX2_put, .selects RX2 yX2_put yX2_put, .code yX2_put cX2_put 3 none] ++ wsX20)
def wsX1_init : List Cond := .code yX1_init cX1_init 2 none :: ([.methodLink RX1 1 objectInit, .instanceMethod objectInit, .code objectInit ⟨#[0xb1]⟩ 1 none, .classLink RX1 9 RX2, .fieldLink RX1 11 "BottleLoop$Past" "states" "[LBottleLoop$State;", .instantiable RX2 1, .initialized RX2, .instanceMethod yX2_init, .code yX2_init cX2_init 2 none, .methodLink RX2 5 objectInit, .arrayClass .int, .fieldLink RX2 11 "BottleLoop$State" "cells" "[I", .static yX5_entry, .initialized RX5, .code yX5_entry cX5_entry 2 (some .int), .methodLink RX2 22 yX2_putSetting, .instanceMethod yX2_putSetting, .selects RX2 yX2_putSetting yX2_putSetting, .code yX2_putSetting cX2_putSetting 3 none, .methodLink RX2 36 yX2_put, .instanceMethod yX2_put, .selects RX2 yX2_put yX2_put, .code yX2_put cX2_put 3 none] ++ wsX10 ++ wsX20)
def wsX1_kept : List Cond := .code yX1_kept cX1_kept 1 (some .int) :: ([.fieldLink RX1 16 "BottleLoop$Past" "kept" "I"] ++ wsX10)
def wsX1_latestState : List Cond := .code yX1_latestState cX1_latestState 1 (some (.object "BottleLoop$State")) :: ([.fieldLink RX1 20 "BottleLoop$Past" "latest" "I", .fieldLink RX1 11 "BottleLoop$Past" "states" "[LBottleLoop$State;"] ++ wsX10)
def wsX2_copyFrom : List Cond := .code yX2_copyFrom cX2_copyFrom 2 none :: ([.fieldLink RX2 11 "BottleLoop$State" "cells" "[I", .methodLink RX2 26 arraycopyName, .native arraycopyName, .static arraycopyName, .initialized "java/lang/System"] ++ wsX20)
def wsX1_keep : List Cond := .code yX1_keep cX1_keep 3 none :: ([.fieldLink RX1 20 "BottleLoop$Past" "latest" "I", .fieldLink RX1 16 "BottleLoop$Past" "kept" "I", .methodLink RX1 23 yX1_latestState, .instanceMethod yX1_latestState, .selects RX1 yX1_latestState yX1_latestState, .initialized RX1, .code yX1_latestState cX1_latestState 1 (some (.object "BottleLoop$State")), .fieldLink RX1 11 "BottleLoop$Past" "states" "[LBottleLoop$State;", .instanceMethod yX2_copyFrom, .initialized RX2, .selects RX2 yX2_copyFrom yX2_copyFrom, .code yX2_copyFrom cX2_copyFrom 2 none, .fieldLink RX2 11 "BottleLoop$State" "cells" "[I", .methodLink RX2 26 arraycopyName, .native arraycopyName, .static arraycopyName, .initialized "java/lang/System"] ++ wsX10 ++ wsX20)
def wsX1_giveBack : List Cond := .code yX1_giveBack cX1_giveBack 2 none :: ([.fieldLink RX1 16 "BottleLoop$Past" "kept" "I", .fieldLink RX1 20 "BottleLoop$Past" "latest" "I", .methodLink RX1 23 yX1_latestState, .instanceMethod yX1_latestState, .selects RX1 yX1_latestState yX1_latestState, .initialized RX1, .code yX1_latestState cX1_latestState 1 (some (.object "BottleLoop$State")), .fieldLink RX1 11 "BottleLoop$Past" "states" "[LBottleLoop$State;", .instanceMethod yX2_copyFrom, .initialized RX2, .selects RX2 yX2_copyFrom yX2_copyFrom, .code yX2_copyFrom cX2_copyFrom 2 none, .fieldLink RX2 11 "BottleLoop$State" "cells" "[I", .methodLink RX2 26 arraycopyName, .native arraycopyName, .static arraycopyName, .initialized "java/lang/System"] ++ wsX10 ++ wsX20)
def wsX2_get : List Cond := .code yX2_get cX2_get 2 (some .int) :: ([.fieldLink RX2 11 "BottleLoop$State" "cells" "[I"] ++ wsX20)
def wsX2_ofAll : List Cond := .code yX2_ofAll cX2_ofAll 2 (some .int) :: ([.methodLink RX2 32 yX2_get, .instanceMethod yX2_get, .selects RX2 yX2_get yX2_get, .initialized RX2, .code yX2_get cX2_get 2 (some .int), .fieldLink RX2 11 "BottleLoop$State" "cells" "[I"] ++ wsX20)
def wsX2_addToAll : List Cond := .code yX2_addToAll cX2_addToAll 3 none :: ([.methodLink RX2 32 yX2_get, .instanceMethod yX2_get, .selects RX2 yX2_get yX2_get, .initialized RX2, .code yX2_get cX2_get 2 (some .int), .fieldLink RX2 11 "BottleLoop$State" "cells" "[I", .methodLink RX2 36 yX2_put, .instanceMethod yX2_put, .selects RX2 yX2_put yX2_put, .code yX2_put cX2_put 3 none] ++ wsX20)
def wsX2_ofSetting : List Cond := .code yX2_ofSetting cX2_ofSetting 2 (some .int) :: ([.methodLink RX2 32 yX2_get, .instanceMethod yX2_get, .selects RX2 yX2_get yX2_get, .initialized RX2, .code yX2_get cX2_get 2 (some .int), .fieldLink RX2 11 "BottleLoop$State" "cells" "[I"] ++ wsX20)
def wsX2_ofBrand : List Cond := .code yX2_ofBrand cX2_ofBrand 3 (some .int) :: ([.methodLink RX2 32 yX2_get, .instanceMethod yX2_get, .selects RX2 yX2_get yX2_get, .initialized RX2, .code yX2_get cX2_get 2 (some .int), .fieldLink RX2 11 "BottleLoop$State" "cells" "[I"] ++ wsX20)
def wsX2_addToBrand : List Cond := .code yX2_addToBrand cX2_addToBrand 5 none :: ([.methodLink RX2 32 yX2_get, .instanceMethod yX2_get, .selects RX2 yX2_get yX2_get, .initialized RX2, .code yX2_get cX2_get 2 (some .int), .fieldLink RX2 11 "BottleLoop$State" "cells" "[I", .methodLink RX2 36 yX2_put, .instanceMethod yX2_put, .selects RX2 yX2_put yX2_put, .code yX2_put cX2_put 3 none] ++ wsX20)
def wsX2_ofShop : List Cond := .code yX2_ofShop cX2_ofShop 3 (some .int) :: ([.methodLink RX2 32 yX2_get, .instanceMethod yX2_get, .selects RX2 yX2_get yX2_get, .initialized RX2, .code yX2_get cX2_get 2 (some .int), .fieldLink RX2 11 "BottleLoop$State" "cells" "[I"] ++ wsX20)
def wsX2_addToShop : List Cond := .code yX2_addToShop cX2_addToShop 5 none :: ([.methodLink RX2 32 yX2_get, .instanceMethod yX2_get, .selects RX2 yX2_get yX2_get, .initialized RX2, .code yX2_get cX2_get 2 (some .int), .fieldLink RX2 11 "BottleLoop$State" "cells" "[I", .methodLink RX2 36 yX2_put, .instanceMethod yX2_put, .selects RX2 yX2_put yX2_put, .code yX2_put cX2_put 3 none] ++ wsX20)
def wsX2_ofSwaps : List Cond := .code yX2_ofSwaps cX2_ofSwaps 3 (some .int) :: ([.methodLink RX2 32 yX2_get, .instanceMethod yX2_get, .selects RX2 yX2_get yX2_get, .initialized RX2, .code yX2_get cX2_get 2 (some .int), .fieldLink RX2 11 "BottleLoop$State" "cells" "[I"] ++ wsX20)
def wsX2_addToSwaps : List Cond := .code yX2_addToSwaps cX2_addToSwaps 5 none :: ([.methodLink RX2 32 yX2_get, .instanceMethod yX2_get, .selects RX2 yX2_get yX2_get, .initialized RX2, .code yX2_get cX2_get 2 (some .int), .fieldLink RX2 11 "BottleLoop$State" "cells" "[I", .methodLink RX2 36 yX2_put, .instanceMethod yX2_put, .selects RX2 yX2_put yX2_put, .code yX2_put cX2_put 3 none] ++ wsX20)
def wsX2_overShops : List Cond := .code yX2_overShops cX2_overShops 4 (some .int) :: ([.methodLink RX2 49 yX2_ofShop, .instanceMethod yX2_ofShop, .selects RX2 yX2_ofShop yX2_ofShop, .initialized RX2, .code yX2_ofShop cX2_ofShop 3 (some .int), .methodLink RX2 32 yX2_get, .instanceMethod yX2_get, .selects RX2 yX2_get yX2_get, .code yX2_get cX2_get 2 (some .int), .fieldLink RX2 11 "BottleLoop$State" "cells" "[I"] ++ wsX20)
def wsX2_brandNumber : List Cond := .code yX2_brandNumber cX2_brandNumber 3 (some .int) :: ([.methodLink RX2 39 yX2_overShops, .instanceMethod yX2_overShops, .selects RX2 yX2_overShops yX2_overShops, .initialized RX2, .code yX2_overShops cX2_overShops 4 (some .int), .methodLink RX2 49 yX2_ofShop, .instanceMethod yX2_ofShop, .selects RX2 yX2_ofShop yX2_ofShop, .code yX2_ofShop cX2_ofShop 3 (some .int), .methodLink RX2 32 yX2_get, .instanceMethod yX2_get, .selects RX2 yX2_get yX2_get, .code yX2_get cX2_get 2 (some .int), .fieldLink RX2 11 "BottleLoop$State" "cells" "[I", .methodLink RX2 42 yX2_ofBrand, .instanceMethod yX2_ofBrand, .selects RX2 yX2_ofBrand yX2_ofBrand, .code yX2_ofBrand cX2_ofBrand 3 (some .int)] ++ wsX20)
def wsX2_overBrandsOf : List Cond := .code yX2_overBrandsOf cX2_overBrandsOf 5 (some .int) :: ([.methodLink RX2 49 yX2_ofShop, .instanceMethod yX2_ofShop, .selects RX2 yX2_ofShop yX2_ofShop, .initialized RX2, .code yX2_ofShop cX2_ofShop 3 (some .int), .methodLink RX2 32 yX2_get, .instanceMethod yX2_get, .selects RX2 yX2_get yX2_get, .code yX2_get cX2_get 2 (some .int), .fieldLink RX2 11 "BottleLoop$State" "cells" "[I"] ++ wsX20)
def wsX2_shopNumber : List Cond := .code yX2_shopNumber cX2_shopNumber 3 (some .int) :: ([.methodLink RX2 46 yX2_overBrandsOf, .instanceMethod yX2_overBrandsOf, .selects RX2 yX2_overBrandsOf yX2_overBrandsOf, .initialized RX2, .code yX2_overBrandsOf cX2_overBrandsOf 5 (some .int), .methodLink RX2 49 yX2_ofShop, .instanceMethod yX2_ofShop, .selects RX2 yX2_ofShop yX2_ofShop, .code yX2_ofShop cX2_ofShop 3 (some .int), .methodLink RX2 32 yX2_get, .instanceMethod yX2_get, .selects RX2 yX2_get yX2_get, .code yX2_get cX2_get 2 (some .int), .fieldLink RX2 11 "BottleLoop$State" "cells" "[I"] ++ wsX20)
def wsX2_overBrands : List Cond := .code yX2_overBrands cX2_overBrands 4 (some .int) :: ([.methodLink RX2 42 yX2_ofBrand, .instanceMethod yX2_ofBrand, .selects RX2 yX2_ofBrand yX2_ofBrand, .initialized RX2, .code yX2_ofBrand cX2_ofBrand 3 (some .int), .methodLink RX2 32 yX2_get, .instanceMethod yX2_get, .selects RX2 yX2_get yX2_get, .code yX2_get cX2_get 2 (some .int), .fieldLink RX2 11 "BottleLoop$State" "cells" "[I"] ++ wsX20)
def wsX2_countNumber_r1 : List Cond := [Cond.methodLink RX2 39 yX2_overShops, Cond.instanceMethod yX2_overShops, Cond.selects RX2 yX2_overShops yX2_overShops, Cond.initialized RX2, Cond.code yX2_overShops cX2_overShops 4 (some .int), Cond.methodLink RX2 49 yX2_ofShop, Cond.instanceMethod yX2_ofShop, Cond.selects RX2 yX2_ofShop yX2_ofShop, Cond.code yX2_ofShop cX2_ofShop 3 (some .int), Cond.methodLink RX2 32 yX2_get, Cond.instanceMethod yX2_get, Cond.selects RX2 yX2_get yX2_get, Cond.code yX2_get cX2_get 2 (some .int), Cond.fieldLink RX2 11 "BottleLoop$State" "cells" "[I", Cond.methodLink RX2 52 yX2_overBrands, Cond.instanceMethod yX2_overBrands, Cond.selects RX2 yX2_overBrands yX2_overBrands, Cond.code yX2_overBrands cX2_overBrands 4 (some .int), Cond.methodLink RX2 42 yX2_ofBrand, Cond.instanceMethod yX2_ofBrand, Cond.selects RX2 yX2_ofBrand yX2_ofBrand, Cond.code yX2_ofBrand cX2_ofBrand 3 (some .int), Cond.methodLink RX2 55 yX2_ofAll, Cond.instanceMethod yX2_ofAll]
def wsX2_countNumber_r2 : List Cond := [Cond.selects RX2 yX2_ofAll yX2_ofAll, Cond.code yX2_ofAll cX2_ofAll 2 (some .int)]
def wsX2_countNumber : List Cond := .code yX2_countNumber cX2_countNumber 2 (some .int) :: ((wsX2_countNumber_r1 ++ wsX2_countNumber_r2) ++ wsX20)
def wsX2_brandSum : List Cond := .code yX2_brandSum cX2_brandSum 6 (some .int) :: ([.methodLink RX2 58 yX2_brandNumber, .instanceMethod yX2_brandNumber, .selects RX2 yX2_brandNumber yX2_brandNumber, .initialized RX2, .code yX2_brandNumber cX2_brandNumber 3 (some .int), .methodLink RX2 39 yX2_overShops, .instanceMethod yX2_overShops, .selects RX2 yX2_overShops yX2_overShops, .code yX2_overShops cX2_overShops 4 (some .int), .methodLink RX2 49 yX2_ofShop, .instanceMethod yX2_ofShop, .selects RX2 yX2_ofShop yX2_ofShop, .code yX2_ofShop cX2_ofShop 3 (some .int), .methodLink RX2 32 yX2_get, .instanceMethod yX2_get, .selects RX2 yX2_get yX2_get, .code yX2_get cX2_get 2 (some .int), .fieldLink RX2 11 "BottleLoop$State" "cells" "[I", .methodLink RX2 42 yX2_ofBrand, .instanceMethod yX2_ofBrand, .selects RX2 yX2_ofBrand yX2_ofBrand, .code yX2_ofBrand cX2_ofBrand 3 (some .int)] ++ wsX20)
def wsX3_init : List Cond := .code yX3_init cX3_init 1 none :: ([.methodLink RX3 1 objectInit, .instanceMethod objectInit, .code objectInit ⟨#[0xb1]⟩ 1 none, .arrayClass .int, .fieldLink RX3 9 "BottleLoop$Text" "codes" "[I", .classLink RX3 13 RX0, .instantiable RX0 5, .initialized RX0, .fieldLink RX3 16 "BottleLoop$Text" "order" "LBottleLoop$Order;", .instanceMethod yX0_init, .code yX0_init cX0_init 1 none, .methodLink RX0 3 objectInit] ++ wsX30 ++ wsX00)
def wsX4_init : List Cond := .code yX4_init cX4_init 1 none :: ([.methodLink RX4 3 objectInit, .instanceMethod objectInit, .code objectInit ⟨#[0xb1]⟩ 1 none, .classLink RX4 9 RX2, .instantiable RX2 1, .initialized RX2, .fieldLink RX4 12 "BottleLoop$Trade" "state" "LBottleLoop$State;", .arrayClass .int, .fieldLink RX4 18 "BottleLoop$Trade" "left" "[I", .instanceMethod yX2_init, .code yX2_init cX2_init 2 none, .methodLink RX2 5 objectInit, .fieldLink RX2 11 "BottleLoop$State" "cells" "[I", .static yX5_entry, .initialized RX5, .code yX5_entry cX5_entry 2 (some .int), .methodLink RX2 22 yX2_putSetting, .instanceMethod yX2_putSetting, .selects RX2 yX2_putSetting yX2_putSetting, .code yX2_putSetting cX2_putSetting 3 none, .methodLink RX2 36 yX2_put, .instanceMethod yX2_put, .selects RX2 yX2_put yX2_put, .code yX2_put cX2_put 3 none] ++ wsX20 ++ wsX40)
def wsX4_depositOf : List Cond := .code yX4_depositOf cX4_depositOf 2 (some .int) :: ([.fieldLink RX4 12 "BottleLoop$Trade" "state" "LBottleLoop$State;", .instanceMethod yX2_ofBrand, .initialized RX2, .selects RX2 yX2_ofBrand yX2_ofBrand, .code yX2_ofBrand cX2_ofBrand 3 (some .int), .methodLink RX2 32 yX2_get, .instanceMethod yX2_get, .selects RX2 yX2_get yX2_get, .code yX2_get cX2_get 2 (some .int), .fieldLink RX2 11 "BottleLoop$State" "cells" "[I", .instanceMethod yX2_ofSetting, .selects RX2 yX2_ofSetting yX2_ofSetting, .code yX2_ofSetting cX2_ofSetting 2 (some .int)] ++ wsX40 ++ wsX20)
def wsX4_crateDeposits : List Cond := .code yX4_crateDeposits cX4_crateDeposits 2 (some .int) :: ([.fieldLink RX4 12 "BottleLoop$Trade" "state" "LBottleLoop$State;", .instanceMethod yX2_ofSetting, .initialized RX2, .selects RX2 yX2_ofSetting yX2_ofSetting, .code yX2_ofSetting cX2_ofSetting 2 (some .int), .methodLink RX2 32 yX2_get, .instanceMethod yX2_get, .selects RX2 yX2_get yX2_get, .code yX2_get cX2_get 2 (some .int), .fieldLink RX2 11 "BottleLoop$State" "cells" "[I"] ++ wsX40 ++ wsX20)
def wsX4_cratePrice : List Cond := .code yX4_cratePrice cX4_cratePrice 2 (some .int) :: ([.fieldLink RX4 12 "BottleLoop$Trade" "state" "LBottleLoop$State;", .instanceMethod yX2_ofBrand, .initialized RX2, .selects RX2 yX2_ofBrand yX2_ofBrand, .code yX2_ofBrand cX2_ofBrand 3 (some .int), .methodLink RX2 32 yX2_get, .instanceMethod yX2_get, .selects RX2 yX2_get yX2_get, .code yX2_get cX2_get 2 (some .int), .fieldLink RX2 11 "BottleLoop$State" "cells" "[I", .methodLink RX4 30 yX4_crateDeposits, .instanceMethod yX4_crateDeposits, .selects RX4 yX4_crateDeposits yX4_crateDeposits, .initialized RX4, .code yX4_crateDeposits cX4_crateDeposits 2 (some .int), .instanceMethod yX2_ofSetting, .selects RX2 yX2_ofSetting yX2_ofSetting, .code yX2_ofSetting cX2_ofSetting 2 (some .int)] ++ wsX40 ++ wsX20)
def wsX4_bottleReason : List Cond := .code yX4_bottleReason cX4_bottleReason 2 (some .int) :: ([])
def wsX4_deliverReason_r1 : List Cond := [Cond.fieldLink RX4 12 "BottleLoop$Trade" "state" "LBottleLoop$State;", Cond.instanceMethod yX2_ofBrand, Cond.initialized RX2, Cond.selects RX2 yX2_ofBrand yX2_ofBrand, Cond.code yX2_ofBrand cX2_ofBrand 3 (some .int), Cond.methodLink RX2 32 yX2_get, Cond.instanceMethod yX2_get, Cond.selects RX2 yX2_get yX2_get, Cond.code yX2_get cX2_get 2 (some .int), Cond.fieldLink RX2 11 "BottleLoop$State" "cells" "[I", Cond.instanceMethod yX2_ofAll, Cond.selects RX2 yX2_ofAll yX2_ofAll, Cond.code yX2_ofAll cX2_ofAll 2 (some .int), Cond.instanceMethod yX2_ofShop, Cond.selects RX2 yX2_ofShop yX2_ofShop, Cond.code yX2_ofShop cX2_ofShop 3 (some .int), Cond.methodLink RX4 39 yX4_cratePrice, Cond.instanceMethod yX4_cratePrice, Cond.selects RX4 yX4_cratePrice yX4_cratePrice, Cond.initialized RX4, Cond.code yX4_cratePrice cX4_cratePrice 2 (some .int), Cond.methodLink RX4 30 yX4_crateDeposits, Cond.instanceMethod yX4_crateDeposits, Cond.selects RX4 yX4_crateDeposits yX4_crateDeposits]
def wsX4_deliverReason_r2 : List Cond := [Cond.code yX4_crateDeposits cX4_crateDeposits 2 (some .int), Cond.instanceMethod yX2_ofSetting, Cond.selects RX2 yX2_ofSetting yX2_ofSetting, Cond.code yX2_ofSetting cX2_ofSetting 2 (some .int)]
def wsX4_deliverReason : List Cond := .code yX4_deliverReason cX4_deliverReason 4 (some .int) :: ((wsX4_deliverReason_r1 ++ wsX4_deliverReason_r2) ++ wsX40 ++ wsX20)
def wsX4_sellReason : List Cond := .code yX4_sellReason cX4_sellReason 4 (some .int) :: ([.fieldLink RX4 12 "BottleLoop$Trade" "state" "LBottleLoop$State;", .instanceMethod yX2_ofShop, .initialized RX2, .selects RX2 yX2_ofShop yX2_ofShop, .code yX2_ofShop cX2_ofShop 3 (some .int), .methodLink RX2 32 yX2_get, .instanceMethod yX2_get, .selects RX2 yX2_get yX2_get, .code yX2_get cX2_get 2 (some .int), .fieldLink RX2 11 "BottleLoop$State" "cells" "[I", .methodLink RX4 42 yX4_bottleReason, .static yX4_bottleReason, .initialized RX4, .code yX4_bottleReason cX4_bottleReason 2 (some .int)] ++ wsX40 ++ wsX20)
def wsX4_returnReason : List Cond := .code yX4_returnReason cX4_returnReason 4 (some .int) :: ([.fieldLink RX4 12 "BottleLoop$Trade" "state" "LBottleLoop$State;", .instanceMethod yX2_ofBrand, .initialized RX2, .selects RX2 yX2_ofBrand yX2_ofBrand, .code yX2_ofBrand cX2_ofBrand 3 (some .int), .methodLink RX2 32 yX2_get, .instanceMethod yX2_get, .selects RX2 yX2_get yX2_get, .code yX2_get cX2_get 2 (some .int), .fieldLink RX2 11 "BottleLoop$State" "cells" "[I", .instanceMethod yX2_ofShop, .selects RX2 yX2_ofShop yX2_ofShop, .code yX2_ofShop cX2_ofShop 3 (some .int), .methodLink RX4 45 yX4_depositOf, .instanceMethod yX4_depositOf, .selects RX4 yX4_depositOf yX4_depositOf, .initialized RX4, .code yX4_depositOf cX4_depositOf 2 (some .int), .instanceMethod yX2_ofSetting, .selects RX2 yX2_ofSetting yX2_ofSetting, .code yX2_ofSetting cX2_ofSetting 2 (some .int)] ++ wsX40 ++ wsX20)
def wsX4_breakReason : List Cond := .code yX4_breakReason cX4_breakReason 4 (some .int) :: ([.fieldLink RX4 12 "BottleLoop$Trade" "state" "LBottleLoop$State;", .instanceMethod yX2_ofShop, .initialized RX2, .selects RX2 yX2_ofShop yX2_ofShop, .code yX2_ofShop cX2_ofShop 3 (some .int), .methodLink RX2 32 yX2_get, .instanceMethod yX2_get, .selects RX2 yX2_get yX2_get, .code yX2_get cX2_get 2 (some .int), .fieldLink RX2 11 "BottleLoop$State" "cells" "[I", .methodLink RX4 42 yX4_bottleReason, .static yX4_bottleReason, .initialized RX4, .code yX4_bottleReason cX4_bottleReason 2 (some .int)] ++ wsX40 ++ wsX20)
def wsX4_emptiesOf : List Cond := .code yX4_emptiesOf cX4_emptiesOf 5 (some .int) :: ([.fieldLink RX4 12 "BottleLoop$Trade" "state" "LBottleLoop$State;", .instanceMethod yX2_ofBrand, .initialized RX2, .selects RX2 yX2_ofBrand yX2_ofBrand, .code yX2_ofBrand cX2_ofBrand 3 (some .int), .methodLink RX2 32 yX2_get, .instanceMethod yX2_get, .selects RX2 yX2_get yX2_get, .code yX2_get cX2_get 2 (some .int), .fieldLink RX2 11 "BottleLoop$State" "cells" "[I", .instanceMethod yX2_ofShop, .selects RX2 yX2_ofShop yX2_ofShop, .code yX2_ofShop cX2_ofShop 3 (some .int)] ++ wsX40 ++ wsX20)
def wsX4_collectReason : List Cond := .code yX4_collectReason cX4_collectReason 4 (some .int) :: ([.fieldLink RX4 12 "BottleLoop$Trade" "state" "LBottleLoop$State;", .methodLink RX4 48 yX4_emptiesOf, .instanceMethod yX4_emptiesOf, .selects RX4 yX4_emptiesOf yX4_emptiesOf, .initialized RX4, .code yX4_emptiesOf cX4_emptiesOf 5 (some .int), .instanceMethod yX2_ofBrand, .initialized RX2, .selects RX2 yX2_ofBrand yX2_ofBrand, .code yX2_ofBrand cX2_ofBrand 3 (some .int), .methodLink RX2 32 yX2_get, .instanceMethod yX2_get, .selects RX2 yX2_get yX2_get, .code yX2_get cX2_get 2 (some .int), .fieldLink RX2 11 "BottleLoop$State" "cells" "[I", .instanceMethod yX2_ofShop, .selects RX2 yX2_ofShop yX2_ofShop, .code yX2_ofShop cX2_ofShop 3 (some .int)] ++ wsX40 ++ wsX20)
def wsX4_wornBy : List Cond := .code yX4_wornBy cX4_wornBy 5 (some .int) :: ([.fieldLink RX4 12 "BottleLoop$Trade" "state" "LBottleLoop$State;", .instanceMethod yX2_ofSetting, .initialized RX2, .selects RX2 yX2_ofSetting yX2_ofSetting, .code yX2_ofSetting cX2_ofSetting 2 (some .int), .methodLink RX2 32 yX2_get, .instanceMethod yX2_get, .selects RX2 yX2_get yX2_get, .code yX2_get cX2_get 2 (some .int), .fieldLink RX2 11 "BottleLoop$State" "cells" "[I", .instanceMethod yX2_ofBrand, .selects RX2 yX2_ofBrand yX2_ofBrand, .code yX2_ofBrand cX2_ofBrand 3 (some .int)] ++ wsX40 ++ wsX20)
def wsX4_fillBottles_r1 : List Cond := [Cond.fieldLink RX4 12 "BottleLoop$Trade" "state" "LBottleLoop$State;", Cond.methodLink RX4 51 yX4_wornBy, Cond.instanceMethod yX4_wornBy, Cond.selects RX4 yX4_wornBy yX4_wornBy, Cond.initialized RX4, Cond.code yX4_wornBy cX4_wornBy 5 (some .int), Cond.instanceMethod yX2_ofSetting, Cond.initialized RX2, Cond.selects RX2 yX2_ofSetting yX2_ofSetting, Cond.code yX2_ofSetting cX2_ofSetting 2 (some .int), Cond.methodLink RX2 32 yX2_get, Cond.instanceMethod yX2_get, Cond.selects RX2 yX2_get yX2_get, Cond.code yX2_get cX2_get 2 (some .int), Cond.fieldLink RX2 11 "BottleLoop$State" "cells" "[I", Cond.instanceMethod yX2_ofBrand, Cond.selects RX2 yX2_ofBrand yX2_ofBrand, Cond.code yX2_ofBrand cX2_ofBrand 3 (some .int), Cond.instanceMethod yX2_addToBrand, Cond.selects RX2 yX2_addToBrand yX2_addToBrand, Cond.code yX2_addToBrand cX2_addToBrand 5 none, Cond.methodLink RX2 36 yX2_put, Cond.instanceMethod yX2_put, Cond.selects RX2 yX2_put yX2_put]
def wsX4_fillBottles_r2 : List Cond := [Cond.code yX2_put cX2_put 3 none]
def wsX4_fillBottles : List Cond := .code yX4_fillBottles cX4_fillBottles 4 (some .int) :: ((wsX4_fillBottles_r1 ++ wsX4_fillBottles_r2) ++ wsX40 ++ wsX20)
def wsX4_deliverCrates_r1 : List Cond := [Cond.fieldLink RX4 12 "BottleLoop$Trade" "state" "LBottleLoop$State;", Cond.instanceMethod yX2_ofBrand, Cond.initialized RX2, Cond.selects RX2 yX2_ofBrand yX2_ofBrand, Cond.code yX2_ofBrand cX2_ofBrand 3 (some .int), Cond.methodLink RX2 32 yX2_get, Cond.instanceMethod yX2_get, Cond.selects RX2 yX2_get yX2_get, Cond.code yX2_get cX2_get 2 (some .int), Cond.fieldLink RX2 11 "BottleLoop$State" "cells" "[I", Cond.methodLink RX4 30 yX4_crateDeposits, Cond.instanceMethod yX4_crateDeposits, Cond.selects RX4 yX4_crateDeposits yX4_crateDeposits, Cond.initialized RX4, Cond.code yX4_crateDeposits cX4_crateDeposits 2 (some .int), Cond.instanceMethod yX2_ofSetting, Cond.selects RX2 yX2_ofSetting yX2_ofSetting, Cond.code yX2_ofSetting cX2_ofSetting 2 (some .int), Cond.instanceMethod yX2_addToBrand, Cond.selects RX2 yX2_addToBrand yX2_addToBrand, Cond.code yX2_addToBrand cX2_addToBrand 5 none, Cond.methodLink RX2 36 yX2_put, Cond.instanceMethod yX2_put, Cond.selects RX2 yX2_put yX2_put]
def wsX4_deliverCrates_r2 : List Cond := [Cond.code yX2_put cX2_put 3 none, Cond.instanceMethod yX2_addToShop, Cond.selects RX2 yX2_addToShop yX2_addToShop, Cond.code yX2_addToShop cX2_addToShop 5 none, Cond.instanceMethod yX2_addToAll, Cond.selects RX2 yX2_addToAll yX2_addToAll, Cond.code yX2_addToAll cX2_addToAll 3 none]
def wsX4_deliverCrates : List Cond := .code yX4_deliverCrates cX4_deliverCrates 6 (some .int) :: ((wsX4_deliverCrates_r1 ++ wsX4_deliverCrates_r2) ++ wsX40 ++ wsX20)
def wsX4_sellBottles_r1 : List Cond := [Cond.fieldLink RX4 12 "BottleLoop$Trade" "state" "LBottleLoop$State;", Cond.instanceMethod yX2_addToShop, Cond.initialized RX2, Cond.selects RX2 yX2_addToShop yX2_addToShop, Cond.code yX2_addToShop cX2_addToShop 5 none, Cond.methodLink RX2 32 yX2_get, Cond.instanceMethod yX2_get, Cond.selects RX2 yX2_get yX2_get, Cond.code yX2_get cX2_get 2 (some .int), Cond.fieldLink RX2 11 "BottleLoop$State" "cells" "[I", Cond.methodLink RX2 36 yX2_put, Cond.instanceMethod yX2_put, Cond.selects RX2 yX2_put yX2_put, Cond.code yX2_put cX2_put 3 none, Cond.instanceMethod yX2_addToBrand, Cond.selects RX2 yX2_addToBrand yX2_addToBrand, Cond.code yX2_addToBrand cX2_addToBrand 5 none, Cond.methodLink RX4 45 yX4_depositOf, Cond.instanceMethod yX4_depositOf, Cond.selects RX4 yX4_depositOf yX4_depositOf, Cond.initialized RX4, Cond.code yX4_depositOf cX4_depositOf 2 (some .int), Cond.instanceMethod yX2_ofBrand, Cond.selects RX2 yX2_ofBrand yX2_ofBrand]
def wsX4_sellBottles_r2 : List Cond := [Cond.code yX2_ofBrand cX2_ofBrand 3 (some .int), Cond.instanceMethod yX2_ofSetting, Cond.selects RX2 yX2_ofSetting yX2_ofSetting, Cond.code yX2_ofSetting cX2_ofSetting 2 (some .int), Cond.instanceMethod yX2_ofShop, Cond.selects RX2 yX2_ofShop yX2_ofShop, Cond.code yX2_ofShop cX2_ofShop 3 (some .int)]
def wsX4_sellBottles : List Cond := .code yX4_sellBottles cX4_sellBottles 4 (some .int) :: ((wsX4_sellBottles_r1 ++ wsX4_sellBottles_r2) ++ wsX40 ++ wsX20)
def wsX4_returnBottles_r1 : List Cond := [Cond.fieldLink RX4 12 "BottleLoop$Trade" "state" "LBottleLoop$State;", Cond.instanceMethod yX2_addToBrand, Cond.initialized RX2, Cond.selects RX2 yX2_addToBrand yX2_addToBrand, Cond.code yX2_addToBrand cX2_addToBrand 5 none, Cond.methodLink RX2 32 yX2_get, Cond.instanceMethod yX2_get, Cond.selects RX2 yX2_get yX2_get, Cond.code yX2_get cX2_get 2 (some .int), Cond.fieldLink RX2 11 "BottleLoop$State" "cells" "[I", Cond.methodLink RX2 36 yX2_put, Cond.instanceMethod yX2_put, Cond.selects RX2 yX2_put yX2_put, Cond.code yX2_put cX2_put 3 none, Cond.instanceMethod yX2_addToShop, Cond.selects RX2 yX2_addToShop yX2_addToShop, Cond.code yX2_addToShop cX2_addToShop 5 none, Cond.methodLink RX4 45 yX4_depositOf, Cond.instanceMethod yX4_depositOf, Cond.selects RX4 yX4_depositOf yX4_depositOf, Cond.initialized RX4, Cond.code yX4_depositOf cX4_depositOf 2 (some .int), Cond.instanceMethod yX2_ofBrand, Cond.selects RX2 yX2_ofBrand yX2_ofBrand]
def wsX4_returnBottles_r2 : List Cond := [Cond.code yX2_ofBrand cX2_ofBrand 3 (some .int), Cond.instanceMethod yX2_ofSetting, Cond.selects RX2 yX2_ofSetting yX2_ofSetting, Cond.code yX2_ofSetting cX2_ofSetting 2 (some .int), Cond.instanceMethod yX2_ofShop, Cond.selects RX2 yX2_ofShop yX2_ofShop, Cond.code yX2_ofShop cX2_ofShop 3 (some .int)]
def wsX4_returnBottles : List Cond := .code yX4_returnBottles cX4_returnBottles 4 (some .int) :: ((wsX4_returnBottles_r1 ++ wsX4_returnBottles_r2) ++ wsX40 ++ wsX20)
def wsX4_breakBottles_r1 : List Cond := [Cond.fieldLink RX4 12 "BottleLoop$Trade" "state" "LBottleLoop$State;", Cond.methodLink RX4 65 Lib.Math.min.name, Cond.static Lib.Math.min.name, Cond.initialized "java/lang/Math", Cond.code Lib.Math.min.name Lib.Math.min.code 2 (some .int), Cond.methodLink RX4 45 yX4_depositOf, Cond.instanceMethod yX4_depositOf, Cond.selects RX4 yX4_depositOf yX4_depositOf, Cond.initialized RX4, Cond.code yX4_depositOf cX4_depositOf 2 (some .int), Cond.instanceMethod yX2_ofBrand, Cond.initialized RX2, Cond.selects RX2 yX2_ofBrand yX2_ofBrand, Cond.code yX2_ofBrand cX2_ofBrand 3 (some .int), Cond.methodLink RX2 32 yX2_get, Cond.instanceMethod yX2_get, Cond.selects RX2 yX2_get yX2_get, Cond.code yX2_get cX2_get 2 (some .int), Cond.fieldLink RX2 11 "BottleLoop$State" "cells" "[I", Cond.instanceMethod yX2_ofSetting, Cond.selects RX2 yX2_ofSetting yX2_ofSetting, Cond.code yX2_ofSetting cX2_ofSetting 2 (some .int), Cond.instanceMethod yX2_ofAll, Cond.selects RX2 yX2_ofAll yX2_ofAll]
def wsX4_breakBottles_r2 : List Cond := [Cond.code yX2_ofAll cX2_ofAll 2 (some .int), Cond.instanceMethod yX2_addToShop, Cond.selects RX2 yX2_addToShop yX2_addToShop, Cond.code yX2_addToShop cX2_addToShop 5 none, Cond.methodLink RX2 36 yX2_put, Cond.instanceMethod yX2_put, Cond.selects RX2 yX2_put yX2_put, Cond.code yX2_put cX2_put 3 none, Cond.instanceMethod yX2_addToBrand, Cond.selects RX2 yX2_addToBrand yX2_addToBrand, Cond.code yX2_addToBrand cX2_addToBrand 5 none, Cond.instanceMethod yX2_addToAll, Cond.selects RX2 yX2_addToAll yX2_addToAll, Cond.code yX2_addToAll cX2_addToAll 3 none]
def wsX4_breakBottles : List Cond := .code yX4_breakBottles cX4_breakBottles 6 (some .int) :: ((wsX4_breakBottles_r1 ++ wsX4_breakBottles_r2) ++ wsX40 ++ wsX20)
def wsX4_loseBottles_r1 : List Cond := [Cond.fieldLink RX4 12 "BottleLoop$Trade" "state" "LBottleLoop$State;", Cond.instanceMethod yX2_addToBrand, Cond.initialized RX2, Cond.selects RX2 yX2_addToBrand yX2_addToBrand, Cond.code yX2_addToBrand cX2_addToBrand 5 none, Cond.methodLink RX2 32 yX2_get, Cond.instanceMethod yX2_get, Cond.selects RX2 yX2_get yX2_get, Cond.code yX2_get cX2_get 2 (some .int), Cond.fieldLink RX2 11 "BottleLoop$State" "cells" "[I", Cond.methodLink RX2 36 yX2_put, Cond.instanceMethod yX2_put, Cond.selects RX2 yX2_put yX2_put, Cond.code yX2_put cX2_put 3 none, Cond.methodLink RX4 45 yX4_depositOf, Cond.instanceMethod yX4_depositOf, Cond.selects RX4 yX4_depositOf yX4_depositOf, Cond.initialized RX4, Cond.code yX4_depositOf cX4_depositOf 2 (some .int), Cond.instanceMethod yX2_ofBrand, Cond.selects RX2 yX2_ofBrand yX2_ofBrand, Cond.code yX2_ofBrand cX2_ofBrand 3 (some .int), Cond.instanceMethod yX2_ofSetting, Cond.selects RX2 yX2_ofSetting yX2_ofSetting]
def wsX4_loseBottles_r2 : List Cond := [Cond.code yX2_ofSetting cX2_ofSetting 2 (some .int), Cond.instanceMethod yX2_addToAll, Cond.selects RX2 yX2_addToAll yX2_addToAll, Cond.code yX2_addToAll cX2_addToAll 3 none]
def wsX4_loseBottles : List Cond := .code yX4_loseBottles cX4_loseBottles 3 (some .int) :: ((wsX4_loseBottles_r1 ++ wsX4_loseBottles_r2) ++ wsX40 ++ wsX20)
def wsX4_pickOne : List Cond := .code yX4_pickOne cX4_pickOne 4 none :: ([.fieldLink RX4 18 "BottleLoop$Trade" "left" "[I"] ++ wsX40)
def wsX4_pickEmpties : List Cond := .code yX4_pickEmpties cX4_pickEmpties 6 none :: ([.fieldLink RX4 18 "BottleLoop$Trade" "left" "[I", .fieldLink RX4 12 "BottleLoop$Trade" "state" "LBottleLoop$State;", .instanceMethod yX2_ofBrand, .initialized RX2, .selects RX2 yX2_ofBrand yX2_ofBrand, .code yX2_ofBrand cX2_ofBrand 3 (some .int), .methodLink RX2 32 yX2_get, .instanceMethod yX2_get, .selects RX2 yX2_get yX2_get, .code yX2_get cX2_get 2 (some .int), .fieldLink RX2 11 "BottleLoop$State" "cells" "[I", .instanceMethod yX2_ofShop, .selects RX2 yX2_ofShop yX2_ofShop, .code yX2_ofShop cX2_ofShop 3 (some .int), .methodLink RX4 85 yX4_pickOne, .instanceMethod yX4_pickOne, .selects RX4 yX4_pickOne yX4_pickOne, .initialized RX4, .code yX4_pickOne cX4_pickOne 4 none] ++ wsX40 ++ wsX20)
def wsX4_pickedOf : List Cond := .code yX4_pickedOf cX4_pickedOf 3 (some .int) :: ([.fieldLink RX4 12 "BottleLoop$Trade" "state" "LBottleLoop$State;", .fieldLink RX4 18 "BottleLoop$Trade" "left" "[I", .instanceMethod yX2_ofShop, .initialized RX2, .selects RX2 yX2_ofShop yX2_ofShop, .code yX2_ofShop cX2_ofShop 3 (some .int), .methodLink RX2 32 yX2_get, .instanceMethod yX2_get, .selects RX2 yX2_get yX2_get, .code yX2_get cX2_get 2 (some .int), .fieldLink RX2 11 "BottleLoop$State" "cells" "[I", .static yX5_entry, .initialized RX5, .code yX5_entry cX5_entry 2 (some .int)] ++ wsX40 ++ wsX20)
def wsX4_collectCrates_r1 : List Cond := [Cond.fieldLink RX4 12 "BottleLoop$Trade" "state" "LBottleLoop$State;", Cond.methodLink RX4 30 yX4_crateDeposits, Cond.instanceMethod yX4_crateDeposits, Cond.selects RX4 yX4_crateDeposits yX4_crateDeposits, Cond.initialized RX4, Cond.code yX4_crateDeposits cX4_crateDeposits 2 (some .int), Cond.instanceMethod yX2_ofSetting, Cond.initialized RX2, Cond.selects RX2 yX2_ofSetting yX2_ofSetting, Cond.code yX2_ofSetting cX2_ofSetting 2 (some .int), Cond.methodLink RX2 32 yX2_get, Cond.instanceMethod yX2_get, Cond.selects RX2 yX2_get yX2_get, Cond.code yX2_get cX2_get 2 (some .int), Cond.fieldLink RX2 11 "BottleLoop$State" "cells" "[I", Cond.methodLink RX4 70 yX4_pickEmpties, Cond.instanceMethod yX4_pickEmpties, Cond.selects RX4 yX4_pickEmpties yX4_pickEmpties, Cond.code yX4_pickEmpties cX4_pickEmpties 6 none, Cond.fieldLink RX4 18 "BottleLoop$Trade" "left" "[I", Cond.instanceMethod yX2_ofBrand, Cond.selects RX2 yX2_ofBrand yX2_ofBrand, Cond.code yX2_ofBrand cX2_ofBrand 3 (some .int), Cond.instanceMethod yX2_ofShop]
def wsX4_collectCrates_r2 : List Cond := [Cond.selects RX2 yX2_ofShop yX2_ofShop, Cond.code yX2_ofShop cX2_ofShop 3 (some .int), Cond.methodLink RX4 85 yX4_pickOne, Cond.instanceMethod yX4_pickOne, Cond.selects RX4 yX4_pickOne yX4_pickOne, Cond.code yX4_pickOne cX4_pickOne 4 none, Cond.methodLink RX4 73 yX4_pickedOf, Cond.instanceMethod yX4_pickedOf, Cond.selects RX4 yX4_pickedOf yX4_pickedOf, Cond.code yX4_pickedOf cX4_pickedOf 3 (some .int), Cond.static yX5_entry, Cond.initialized RX5, Cond.code yX5_entry cX5_entry 2 (some .int), Cond.instanceMethod yX2_addToShop, Cond.selects RX2 yX2_addToShop yX2_addToShop, Cond.code yX2_addToShop cX2_addToShop 5 none, Cond.methodLink RX2 36 yX2_put, Cond.instanceMethod yX2_put, Cond.selects RX2 yX2_put yX2_put, Cond.code yX2_put cX2_put 3 none, Cond.instanceMethod yX2_addToBrand, Cond.selects RX2 yX2_addToBrand yX2_addToBrand, Cond.code yX2_addToBrand cX2_addToBrand 5 none, Cond.instanceMethod yX2_addToAll]
def wsX4_collectCrates_r3 : List Cond := [Cond.selects RX2 yX2_addToAll yX2_addToAll, Cond.code yX2_addToAll cX2_addToAll 3 none]
def wsX4_collectCrates : List Cond := .code yX4_collectCrates cX4_collectCrates 7 (some .int) :: ((wsX4_collectCrates_r1 ++ (wsX4_collectCrates_r2 ++ wsX4_collectCrates_r3)) ++ wsX40 ++ wsX20)
def wsX4_yardOf : List Cond := .code yX4_yardOf cX4_yardOf 4 (some .int) :: ([.fieldLink RX4 12 "BottleLoop$Trade" "state" "LBottleLoop$State;", .instanceMethod yX2_ofBrand, .initialized RX2, .selects RX2 yX2_ofBrand yX2_ofBrand, .code yX2_ofBrand cX2_ofBrand 3 (some .int), .methodLink RX2 32 yX2_get, .instanceMethod yX2_get, .selects RX2 yX2_get yX2_get, .code yX2_get cX2_get 2 (some .int), .fieldLink RX2 11 "BottleLoop$State" "cells" "[I"] ++ wsX40 ++ wsX20)
def wsX4_sortBottles_r1 : List Cond := [Cond.fieldLink RX4 12 "BottleLoop$Trade" "state" "LBottleLoop$State;", Cond.methodLink RX4 65 Lib.Math.min.name, Cond.static Lib.Math.min.name, Cond.initialized "java/lang/Math", Cond.code Lib.Math.min.name Lib.Math.min.code 2 (some .int), Cond.instanceMethod yX2_ofBrand, Cond.initialized RX2, Cond.selects RX2 yX2_ofBrand yX2_ofBrand, Cond.code yX2_ofBrand cX2_ofBrand 3 (some .int), Cond.methodLink RX2 32 yX2_get, Cond.instanceMethod yX2_get, Cond.selects RX2 yX2_get yX2_get, Cond.code yX2_get cX2_get 2 (some .int), Cond.fieldLink RX2 11 "BottleLoop$State" "cells" "[I", Cond.instanceMethod yX2_addToBrand, Cond.selects RX2 yX2_addToBrand yX2_addToBrand, Cond.code yX2_addToBrand cX2_addToBrand 5 none, Cond.methodLink RX2 36 yX2_put, Cond.instanceMethod yX2_put, Cond.selects RX2 yX2_put yX2_put, Cond.code yX2_put cX2_put 3 none, Cond.methodLink RX4 76 yX4_yardOf, Cond.instanceMethod yX4_yardOf, Cond.selects RX4 yX4_yardOf yX4_yardOf]
def wsX4_sortBottles_r2 : List Cond := [Cond.initialized RX4, Cond.code yX4_yardOf cX4_yardOf 4 (some .int)]
def wsX4_sortBottles : List Cond := .code yX4_sortBottles cX4_sortBottles 6 (some .int) :: ((wsX4_sortBottles_r1 ++ wsX4_sortBottles_r2) ++ wsX40 ++ wsX20)
def wsX4_swapBottles : List Cond := .code yX4_swapBottles cX4_swapBottles 4 (some .int) :: ([.fieldLink RX4 12 "BottleLoop$Trade" "state" "LBottleLoop$State;", .instanceMethod yX2_addToBrand, .initialized RX2, .selects RX2 yX2_addToBrand yX2_addToBrand, .code yX2_addToBrand cX2_addToBrand 5 none, .methodLink RX2 32 yX2_get, .instanceMethod yX2_get, .selects RX2 yX2_get yX2_get, .code yX2_get cX2_get 2 (some .int), .fieldLink RX2 11 "BottleLoop$State" "cells" "[I", .methodLink RX2 36 yX2_put, .instanceMethod yX2_put, .selects RX2 yX2_put yX2_put, .code yX2_put cX2_put 3 none, .instanceMethod yX2_addToSwaps, .selects RX2 yX2_addToSwaps yX2_addToSwaps, .code yX2_addToSwaps cX2_addToSwaps 5 none, .instanceMethod yX2_ofSwaps, .selects RX2 yX2_ofSwaps yX2_ofSwaps, .code yX2_ofSwaps cX2_ofSwaps 3 (some .int)] ++ wsX40 ++ wsX20)
def wsX4_mostDeliverable_r1 : List Cond := [Cond.fieldLink RX4 12 "BottleLoop$Trade" "state" "LBottleLoop$State;", Cond.methodLink RX4 65 Lib.Math.min.name, Cond.static Lib.Math.min.name, Cond.initialized "java/lang/Math", Cond.code Lib.Math.min.name Lib.Math.min.code 2 (some .int), Cond.methodLink RX4 39 yX4_cratePrice, Cond.instanceMethod yX4_cratePrice, Cond.selects RX4 yX4_cratePrice yX4_cratePrice, Cond.initialized RX4, Cond.code yX4_cratePrice cX4_cratePrice 2 (some .int), Cond.instanceMethod yX2_ofBrand, Cond.initialized RX2, Cond.selects RX2 yX2_ofBrand yX2_ofBrand, Cond.code yX2_ofBrand cX2_ofBrand 3 (some .int), Cond.methodLink RX2 32 yX2_get, Cond.instanceMethod yX2_get, Cond.selects RX2 yX2_get yX2_get, Cond.code yX2_get cX2_get 2 (some .int), Cond.fieldLink RX2 11 "BottleLoop$State" "cells" "[I", Cond.methodLink RX4 30 yX4_crateDeposits, Cond.instanceMethod yX4_crateDeposits, Cond.selects RX4 yX4_crateDeposits yX4_crateDeposits, Cond.code yX4_crateDeposits cX4_crateDeposits 2 (some .int), Cond.instanceMethod yX2_ofSetting]
def wsX4_mostDeliverable_r2 : List Cond := [Cond.selects RX2 yX2_ofSetting yX2_ofSetting, Cond.code yX2_ofSetting cX2_ofSetting 2 (some .int), Cond.instanceMethod yX2_ofShop, Cond.selects RX2 yX2_ofShop yX2_ofShop, Cond.code yX2_ofShop cX2_ofShop 3 (some .int), Cond.instanceMethod yX2_ofAll, Cond.selects RX2 yX2_ofAll yX2_ofAll, Cond.code yX2_ofAll cX2_ofAll 2 (some .int)]
def wsX4_mostDeliverable : List Cond := .code yX4_mostDeliverable cX4_mostDeliverable 6 (some .int) :: ((wsX4_mostDeliverable_r1 ++ wsX4_mostDeliverable_r2) ++ wsX40 ++ wsX20)
def wsX4_mostCollectable : List Cond := .code yX4_mostCollectable cX4_mostCollectable 4 (some .int) :: ([.fieldLink RX4 12 "BottleLoop$Trade" "state" "LBottleLoop$State;", .methodLink RX4 65 Lib.Math.min.name, .static Lib.Math.min.name, .initialized "java/lang/Math", .code Lib.Math.min.name Lib.Math.min.code 2 (some .int), .methodLink RX4 48 yX4_emptiesOf, .instanceMethod yX4_emptiesOf, .selects RX4 yX4_emptiesOf yX4_emptiesOf, .initialized RX4, .code yX4_emptiesOf cX4_emptiesOf 5 (some .int), .instanceMethod yX2_ofBrand, .initialized RX2, .selects RX2 yX2_ofBrand yX2_ofBrand, .code yX2_ofBrand cX2_ofBrand 3 (some .int), .methodLink RX2 32 yX2_get, .instanceMethod yX2_get, .selects RX2 yX2_get yX2_get, .code yX2_get cX2_get 2 (some .int), .fieldLink RX2 11 "BottleLoop$State" "cells" "[I", .instanceMethod yX2_ofShop, .selects RX2 yX2_ofShop yX2_ofShop, .code yX2_ofShop cX2_ofShop 3 (some .int)] ++ wsX40 ++ wsX20)
def wsX4_wouldCollect_r1 : List Cond := [Cond.fieldLink RX4 12 "BottleLoop$Trade" "state" "LBottleLoop$State;", Cond.instanceMethod yX2_ofBrand, Cond.initialized RX2, Cond.selects RX2 yX2_ofBrand yX2_ofBrand, Cond.code yX2_ofBrand cX2_ofBrand 3 (some .int), Cond.methodLink RX2 32 yX2_get, Cond.instanceMethod yX2_get, Cond.selects RX2 yX2_get yX2_get, Cond.code yX2_get cX2_get 2 (some .int), Cond.fieldLink RX2 11 "BottleLoop$State" "cells" "[I", Cond.methodLink RX4 92 yX4_collectReason, Cond.instanceMethod yX4_collectReason, Cond.selects RX4 yX4_collectReason yX4_collectReason, Cond.initialized RX4, Cond.code yX4_collectReason cX4_collectReason 4 (some .int), Cond.methodLink RX4 48 yX4_emptiesOf, Cond.instanceMethod yX4_emptiesOf, Cond.selects RX4 yX4_emptiesOf yX4_emptiesOf, Cond.code yX4_emptiesOf cX4_emptiesOf 5 (some .int), Cond.instanceMethod yX2_ofShop, Cond.selects RX2 yX2_ofShop yX2_ofShop, Cond.code yX2_ofShop cX2_ofShop 3 (some .int), Cond.methodLink RX4 70 yX4_pickEmpties, Cond.instanceMethod yX4_pickEmpties]
def wsX4_wouldCollect_r2 : List Cond := [Cond.selects RX4 yX4_pickEmpties yX4_pickEmpties, Cond.code yX4_pickEmpties cX4_pickEmpties 6 none, Cond.fieldLink RX4 18 "BottleLoop$Trade" "left" "[I", Cond.methodLink RX4 85 yX4_pickOne, Cond.instanceMethod yX4_pickOne, Cond.selects RX4 yX4_pickOne yX4_pickOne, Cond.code yX4_pickOne cX4_pickOne 4 none, Cond.methodLink RX4 73 yX4_pickedOf, Cond.instanceMethod yX4_pickedOf, Cond.selects RX4 yX4_pickedOf yX4_pickedOf, Cond.code yX4_pickedOf cX4_pickedOf 3 (some .int), Cond.static yX5_entry, Cond.initialized RX5, Cond.code yX5_entry cX5_entry 2 (some .int)]
def wsX4_wouldCollect : List Cond := .code yX4_wouldCollect cX4_wouldCollect 5 (some .int) :: ((wsX4_wouldCollect_r1 ++ wsX4_wouldCollect_r2) ++ wsX40 ++ wsX20)
def wsX4_bestToCollect_r1 : List Cond := [Cond.methodLink RX4 96 yX4_mostCollectable, Cond.instanceMethod yX4_mostCollectable, Cond.selects RX4 yX4_mostCollectable yX4_mostCollectable, Cond.initialized RX4, Cond.code yX4_mostCollectable cX4_mostCollectable 4 (some .int), Cond.fieldLink RX4 12 "BottleLoop$Trade" "state" "LBottleLoop$State;", Cond.methodLink RX4 65 Lib.Math.min.name, Cond.static Lib.Math.min.name, Cond.initialized "java/lang/Math", Cond.code Lib.Math.min.name Lib.Math.min.code 2 (some .int), Cond.methodLink RX4 48 yX4_emptiesOf, Cond.instanceMethod yX4_emptiesOf, Cond.selects RX4 yX4_emptiesOf yX4_emptiesOf, Cond.code yX4_emptiesOf cX4_emptiesOf 5 (some .int), Cond.instanceMethod yX2_ofBrand, Cond.initialized RX2, Cond.selects RX2 yX2_ofBrand yX2_ofBrand, Cond.code yX2_ofBrand cX2_ofBrand 3 (some .int), Cond.methodLink RX2 32 yX2_get, Cond.instanceMethod yX2_get, Cond.selects RX2 yX2_get yX2_get, Cond.code yX2_get cX2_get 2 (some .int), Cond.fieldLink RX2 11 "BottleLoop$State" "cells" "[I", Cond.instanceMethod yX2_ofShop]
def wsX4_bestToCollect_r2 : List Cond := [Cond.selects RX2 yX2_ofShop yX2_ofShop, Cond.code yX2_ofShop cX2_ofShop 3 (some .int)]
def wsX4_bestToCollect : List Cond := .code yX4_bestToCollect cX4_bestToCollect 6 (some .int) :: ((wsX4_bestToCollect_r1 ++ wsX4_bestToCollect_r2) ++ wsX40 ++ wsX20)
def wsX5_init_r1 : List Cond := [Cond.methodLink RX5 3 objectInit, Cond.instanceMethod objectInit, Cond.code objectInit ⟨#[0xb1]⟩ 1 none, Cond.classLink RX5 9 RX4, Cond.instantiable RX4 2, Cond.initialized RX4, Cond.fieldLink RX5 12 "BottleLoop" "trade" "LBottleLoop$Trade;", Cond.fieldLink RX5 20 "BottleLoop" "now" "LBottleLoop$State;", Cond.classLink RX5 23 RX1, Cond.instantiable RX1 3, Cond.initialized RX1, Cond.fieldLink RX5 26 "BottleLoop" "past" "LBottleLoop$Past;", Cond.classLink RX5 30 RX3, Cond.instantiable RX3 3, Cond.initialized RX3, Cond.fieldLink RX5 33 "BottleLoop" "text" "LBottleLoop$Text;", Cond.classLink RX5 37 RX0, Cond.instantiable RX0 5, Cond.initialized RX0, Cond.fieldLink RX5 40 "BottleLoop" "order" "LBottleLoop$Order;", Cond.instanceMethod yX4_init, Cond.code yX4_init cX4_init 1 none, Cond.methodLink RX4 3 objectInit, Cond.classLink RX4 9 RX2]
def wsX5_init_r2 : List Cond := [Cond.instantiable RX2 1, Cond.initialized RX2, Cond.fieldLink RX4 12 "BottleLoop$Trade" "state" "LBottleLoop$State;", Cond.arrayClass .int, Cond.fieldLink RX4 18 "BottleLoop$Trade" "left" "[I", Cond.instanceMethod yX2_init, Cond.code yX2_init cX2_init 2 none, Cond.methodLink RX2 5 objectInit, Cond.fieldLink RX2 11 "BottleLoop$State" "cells" "[I", Cond.static yX5_entry, Cond.initialized RX5, Cond.code yX5_entry cX5_entry 2 (some .int), Cond.methodLink RX2 22 yX2_putSetting, Cond.instanceMethod yX2_putSetting, Cond.selects RX2 yX2_putSetting yX2_putSetting, Cond.code yX2_putSetting cX2_putSetting 3 none, Cond.methodLink RX2 36 yX2_put, Cond.instanceMethod yX2_put, Cond.selects RX2 yX2_put yX2_put, Cond.code yX2_put cX2_put 3 none, Cond.instanceMethod yX1_init, Cond.code yX1_init cX1_init 2 none, Cond.methodLink RX1 1 objectInit, Cond.classLink RX1 9 RX2]
def wsX5_init_r3 : List Cond := [Cond.fieldLink RX1 11 "BottleLoop$Past" "states" "[LBottleLoop$State;", Cond.instanceMethod yX3_init, Cond.code yX3_init cX3_init 1 none, Cond.methodLink RX3 1 objectInit, Cond.fieldLink RX3 9 "BottleLoop$Text" "codes" "[I", Cond.classLink RX3 13 RX0, Cond.fieldLink RX3 16 "BottleLoop$Text" "order" "LBottleLoop$Order;", Cond.instanceMethod yX0_init, Cond.code yX0_init cX0_init 1 none, Cond.methodLink RX0 3 objectInit]
def wsX5_init : List Cond := .code yX5_init cX5_init 1 none :: ((wsX5_init_r1 ++ (wsX5_init_r2 ++ wsX5_init_r3)) ++ wsX40 ++ wsX50 ++ wsX10 ++ wsX30 ++ wsX00 ++ wsX20)
def wsX5_needArgument : List Cond := .code yX5_needArgument cX5_needArgument 1 none :: ([.classLink RX5 300 "java/lang/IllegalArgumentException", .initialized "java/lang/IllegalArgumentException"] ++ (vx_atS RX5 304 "java/lang/IllegalArgumentException" ["java/lang/RuntimeException", "java/lang/Exception"]).filter goodWord)
def wsX5_needRange : List Cond := .code yX5_needRange cX5_needRange 3 none :: ([.methodLink RX5 153 yX5_needArgument, .static yX5_needArgument, .initialized RX5, .code yX5_needArgument cX5_needArgument 1 none, .classLink RX5 300 "java/lang/IllegalArgumentException", .initialized "java/lang/IllegalArgumentException"] ++ (vx_atS RX5 304 "java/lang/IllegalArgumentException" ["java/lang/RuntimeException", "java/lang/Exception"]).filter goodWord)
def wsX5_needKind : List Cond := .code yX5_needKind cX5_needKind 1 none :: ([.methodLink RX5 48 yX5_needRange, .static yX5_needRange, .initialized RX5, .code yX5_needRange cX5_needRange 3 none, .methodLink RX5 153 yX5_needArgument, .static yX5_needArgument, .code yX5_needArgument cX5_needArgument 1 none, .classLink RX5 300 "java/lang/IllegalArgumentException", .initialized "java/lang/IllegalArgumentException"] ++ (vx_atS RX5 304 "java/lang/IllegalArgumentException" ["java/lang/RuntimeException", "java/lang/Exception"]).filter goodWord)
def wsX5_needState : List Cond := .code yX5_needState cX5_needState 1 none :: ([.classLink RX5 305 "java/lang/IllegalStateException", .initialized "java/lang/IllegalStateException"] ++ (vx_atS RX5 309 "java/lang/IllegalStateException" ["java/lang/RuntimeException", "java/lang/Exception"]).filter goodWord)
def wsX5_addBrand_r1 : List Cond := [Cond.fieldLink RX5 20 "BottleLoop" "now" "LBottleLoop$State;", Cond.fieldLink RX5 26 "BottleLoop" "past" "LBottleLoop$Past;", Cond.methodLink RX5 44 yX5_needKind, Cond.static yX5_needKind, Cond.initialized RX5, Cond.code yX5_needKind cX5_needKind 1 none, Cond.methodLink RX5 48 yX5_needRange, Cond.static yX5_needRange, Cond.code yX5_needRange cX5_needRange 3 none, Cond.methodLink RX5 153 yX5_needArgument, Cond.static yX5_needArgument, Cond.code yX5_needArgument cX5_needArgument 1 none, Cond.classLink RX5 300 "java/lang/IllegalArgumentException", Cond.initialized "java/lang/IllegalArgumentException", Cond.instanceMethod yX2_ofAll, Cond.initialized RX2, Cond.selects RX2 yX2_ofAll yX2_ofAll, Cond.code yX2_ofAll cX2_ofAll 2 (some .int), Cond.methodLink RX2 32 yX2_get, Cond.instanceMethod yX2_get, Cond.selects RX2 yX2_get yX2_get, Cond.code yX2_get cX2_get 2 (some .int), Cond.fieldLink RX2 11 "BottleLoop$State" "cells" "[I", Cond.methodLink RX5 58 yX5_needState]
def wsX5_addBrand_r2 : List Cond := [Cond.static yX5_needState, Cond.code yX5_needState cX5_needState 1 none, Cond.classLink RX5 305 "java/lang/IllegalStateException", Cond.initialized "java/lang/IllegalStateException", Cond.instanceMethod yX1_keep, Cond.initialized RX1, Cond.selects RX1 yX1_keep yX1_keep, Cond.code yX1_keep cX1_keep 3 none, Cond.fieldLink RX1 20 "BottleLoop$Past" "latest" "I", Cond.fieldLink RX1 16 "BottleLoop$Past" "kept" "I", Cond.methodLink RX1 23 yX1_latestState, Cond.instanceMethod yX1_latestState, Cond.selects RX1 yX1_latestState yX1_latestState, Cond.code yX1_latestState cX1_latestState 1 (some (.object "BottleLoop$State")), Cond.fieldLink RX1 11 "BottleLoop$Past" "states" "[LBottleLoop$State;", Cond.instanceMethod yX2_copyFrom, Cond.selects RX2 yX2_copyFrom yX2_copyFrom, Cond.code yX2_copyFrom cX2_copyFrom 2 none, Cond.methodLink RX2 26 arraycopyName, Cond.native arraycopyName, Cond.static arraycopyName, Cond.initialized "java/lang/System", Cond.instanceMethod yX2_addToAll, Cond.selects RX2 yX2_addToAll yX2_addToAll]
def wsX5_addBrand_r3 : List Cond := [Cond.code yX2_addToAll cX2_addToAll 3 none, Cond.methodLink RX2 36 yX2_put, Cond.instanceMethod yX2_put, Cond.selects RX2 yX2_put yX2_put, Cond.code yX2_put cX2_put 3 none, Cond.instanceMethod yX2_addToBrand, Cond.selects RX2 yX2_addToBrand yX2_addToBrand, Cond.code yX2_addToBrand cX2_addToBrand 5 none]
def wsX5_addBrand : List Cond := .code yX5_addBrand cX5_addBrand 4 (some .int) :: ((wsX5_addBrand_r1 ++ (wsX5_addBrand_r2 ++ wsX5_addBrand_r3)) ++ wsX50 ++ wsX20 ++ wsX10 ++ (vx_atS RX5 304 "java/lang/IllegalArgumentException" ["java/lang/RuntimeException", "java/lang/Exception"]).filter goodWord ++ (vx_atS RX5 309 "java/lang/IllegalStateException" ["java/lang/RuntimeException", "java/lang/Exception"]).filter goodWord)
def wsX5_addShop_r1 : List Cond := [Cond.constant RX5 73 (100000), Cond.fieldLink RX5 20 "BottleLoop" "now" "LBottleLoop$State;", Cond.fieldLink RX5 26 "BottleLoop" "past" "LBottleLoop$Past;", Cond.methodLink RX5 48 yX5_needRange, Cond.static yX5_needRange, Cond.initialized RX5, Cond.code yX5_needRange cX5_needRange 3 none, Cond.methodLink RX5 153 yX5_needArgument, Cond.static yX5_needArgument, Cond.code yX5_needArgument cX5_needArgument 1 none, Cond.classLink RX5 300 "java/lang/IllegalArgumentException", Cond.initialized "java/lang/IllegalArgumentException", Cond.instanceMethod yX2_ofAll, Cond.initialized RX2, Cond.selects RX2 yX2_ofAll yX2_ofAll, Cond.code yX2_ofAll cX2_ofAll 2 (some .int), Cond.methodLink RX2 32 yX2_get, Cond.instanceMethod yX2_get, Cond.selects RX2 yX2_get yX2_get, Cond.code yX2_get cX2_get 2 (some .int), Cond.fieldLink RX2 11 "BottleLoop$State" "cells" "[I", Cond.methodLink RX5 58 yX5_needState, Cond.static yX5_needState, Cond.code yX5_needState cX5_needState 1 none]
def wsX5_addShop_r2 : List Cond := [Cond.classLink RX5 305 "java/lang/IllegalStateException", Cond.initialized "java/lang/IllegalStateException", Cond.instanceMethod yX1_keep, Cond.initialized RX1, Cond.selects RX1 yX1_keep yX1_keep, Cond.code yX1_keep cX1_keep 3 none, Cond.fieldLink RX1 20 "BottleLoop$Past" "latest" "I", Cond.fieldLink RX1 16 "BottleLoop$Past" "kept" "I", Cond.methodLink RX1 23 yX1_latestState, Cond.instanceMethod yX1_latestState, Cond.selects RX1 yX1_latestState yX1_latestState, Cond.code yX1_latestState cX1_latestState 1 (some (.object "BottleLoop$State")), Cond.fieldLink RX1 11 "BottleLoop$Past" "states" "[LBottleLoop$State;", Cond.instanceMethod yX2_copyFrom, Cond.selects RX2 yX2_copyFrom yX2_copyFrom, Cond.code yX2_copyFrom cX2_copyFrom 2 none, Cond.methodLink RX2 26 arraycopyName, Cond.native arraycopyName, Cond.static arraycopyName, Cond.initialized "java/lang/System", Cond.instanceMethod yX2_addToAll, Cond.selects RX2 yX2_addToAll yX2_addToAll, Cond.code yX2_addToAll cX2_addToAll 3 none, Cond.methodLink RX2 36 yX2_put]
def wsX5_addShop_r3 : List Cond := [Cond.instanceMethod yX2_put, Cond.selects RX2 yX2_put yX2_put, Cond.code yX2_put cX2_put 3 none, Cond.instanceMethod yX2_addToShop, Cond.selects RX2 yX2_addToShop yX2_addToShop, Cond.code yX2_addToShop cX2_addToShop 5 none]
def wsX5_addShop : List Cond := .code yX5_addShop cX5_addShop 3 (some .int) :: ((wsX5_addShop_r1 ++ (wsX5_addShop_r2 ++ wsX5_addShop_r3)) ++ wsX50 ++ wsX20 ++ wsX10 ++ (vx_atS RX5 304 "java/lang/IllegalArgumentException" ["java/lang/RuntimeException", "java/lang/Exception"]).filter goodWord ++ (vx_atS RX5 309 "java/lang/IllegalStateException" ["java/lang/RuntimeException", "java/lang/Exception"]).filter goodWord)
def wsX5_buyCrates_r1 : List Cond := [Cond.fieldLink RX5 20 "BottleLoop" "now" "LBottleLoop$State;", Cond.fieldLink RX5 26 "BottleLoop" "past" "LBottleLoop$Past;", Cond.methodLink RX5 48 yX5_needRange, Cond.static yX5_needRange, Cond.initialized RX5, Cond.code yX5_needRange cX5_needRange 3 none, Cond.methodLink RX5 153 yX5_needArgument, Cond.static yX5_needArgument, Cond.code yX5_needArgument cX5_needArgument 1 none, Cond.classLink RX5 300 "java/lang/IllegalArgumentException", Cond.initialized "java/lang/IllegalArgumentException", Cond.instanceMethod yX2_ofAll, Cond.initialized RX2, Cond.selects RX2 yX2_ofAll yX2_ofAll, Cond.code yX2_ofAll cX2_ofAll 2 (some .int), Cond.methodLink RX2 32 yX2_get, Cond.instanceMethod yX2_get, Cond.selects RX2 yX2_get yX2_get, Cond.code yX2_get cX2_get 2 (some .int), Cond.fieldLink RX2 11 "BottleLoop$State" "cells" "[I", Cond.instanceMethod yX2_countNumber, Cond.selects RX2 yX2_countNumber yX2_countNumber, Cond.code yX2_countNumber cX2_countNumber 2 (some .int), Cond.methodLink RX2 39 yX2_overShops]
def wsX5_buyCrates_r2 : List Cond := [Cond.instanceMethod yX2_overShops, Cond.selects RX2 yX2_overShops yX2_overShops, Cond.code yX2_overShops cX2_overShops 4 (some .int), Cond.methodLink RX2 49 yX2_ofShop, Cond.instanceMethod yX2_ofShop, Cond.selects RX2 yX2_ofShop yX2_ofShop, Cond.code yX2_ofShop cX2_ofShop 3 (some .int), Cond.methodLink RX2 52 yX2_overBrands, Cond.instanceMethod yX2_overBrands, Cond.selects RX2 yX2_overBrands yX2_overBrands, Cond.code yX2_overBrands cX2_overBrands 4 (some .int), Cond.methodLink RX2 42 yX2_ofBrand, Cond.instanceMethod yX2_ofBrand, Cond.selects RX2 yX2_ofBrand yX2_ofBrand, Cond.code yX2_ofBrand cX2_ofBrand 3 (some .int), Cond.methodLink RX2 55 yX2_ofAll, Cond.methodLink RX5 58 yX5_needState, Cond.static yX5_needState, Cond.code yX5_needState cX5_needState 1 none, Cond.classLink RX5 305 "java/lang/IllegalStateException", Cond.initialized "java/lang/IllegalStateException", Cond.instanceMethod yX1_keep, Cond.initialized RX1, Cond.selects RX1 yX1_keep yX1_keep]
def wsX5_buyCrates_r3 : List Cond := [Cond.code yX1_keep cX1_keep 3 none, Cond.fieldLink RX1 20 "BottleLoop$Past" "latest" "I", Cond.fieldLink RX1 16 "BottleLoop$Past" "kept" "I", Cond.methodLink RX1 23 yX1_latestState, Cond.instanceMethod yX1_latestState, Cond.selects RX1 yX1_latestState yX1_latestState, Cond.code yX1_latestState cX1_latestState 1 (some (.object "BottleLoop$State")), Cond.fieldLink RX1 11 "BottleLoop$Past" "states" "[LBottleLoop$State;", Cond.instanceMethod yX2_copyFrom, Cond.selects RX2 yX2_copyFrom yX2_copyFrom, Cond.code yX2_copyFrom cX2_copyFrom 2 none, Cond.methodLink RX2 26 arraycopyName, Cond.native arraycopyName, Cond.static arraycopyName, Cond.initialized "java/lang/System", Cond.instanceMethod yX2_addToAll, Cond.selects RX2 yX2_addToAll yX2_addToAll, Cond.code yX2_addToAll cX2_addToAll 3 none, Cond.methodLink RX2 36 yX2_put, Cond.instanceMethod yX2_put, Cond.selects RX2 yX2_put yX2_put, Cond.code yX2_put cX2_put 3 none]
def wsX5_buyCrates : List Cond := .code yX5_buyCrates cX5_buyCrates 2 (some .int) :: ((wsX5_buyCrates_r1 ++ (wsX5_buyCrates_r2 ++ wsX5_buyCrates_r3)) ++ wsX50 ++ wsX20 ++ wsX10 ++ (vx_atS RX5 304 "java/lang/IllegalArgumentException" ["java/lang/RuntimeException", "java/lang/Exception"]).filter goodWord ++ (vx_atS RX5 309 "java/lang/IllegalStateException" ["java/lang/RuntimeException", "java/lang/Exception"]).filter goodWord)
def wsX5_needSetting : List Cond := .code yX5_needSetting cX5_needSetting 1 none :: ([.classLink RX5 289 "java/lang/IndexOutOfBoundsException", .initialized "java/lang/IndexOutOfBoundsException"] ++ (vx_atS RX5 293 "java/lang/IndexOutOfBoundsException" ["java/lang/RuntimeException", "java/lang/Exception"]).filter goodWord)
def wsX5_set_r1 : List Cond := [Cond.fieldLink RX5 83 "BottleLoop" "LEAST_SETTING" "[I", Cond.fieldLink RX5 91 "BottleLoop" "MOST_SETTING" "[I", Cond.fieldLink RX5 20 "BottleLoop" "now" "LBottleLoop$State;", Cond.fieldLink RX5 26 "BottleLoop" "past" "LBottleLoop$Past;", Cond.methodLink RX5 80 yX5_needSetting, Cond.static yX5_needSetting, Cond.initialized RX5, Cond.code yX5_needSetting cX5_needSetting 1 none, Cond.classLink RX5 289 "java/lang/IndexOutOfBoundsException", Cond.initialized "java/lang/IndexOutOfBoundsException", Cond.methodLink RX5 87 yX5_entry, Cond.static yX5_entry, Cond.code yX5_entry cX5_entry 2 (some .int), Cond.methodLink RX5 48 yX5_needRange, Cond.static yX5_needRange, Cond.code yX5_needRange cX5_needRange 3 none, Cond.methodLink RX5 153 yX5_needArgument, Cond.static yX5_needArgument, Cond.code yX5_needArgument cX5_needArgument 1 none, Cond.classLink RX5 300 "java/lang/IllegalArgumentException", Cond.initialized "java/lang/IllegalArgumentException", Cond.instanceMethod yX2_ofAll, Cond.initialized RX2, Cond.selects RX2 yX2_ofAll yX2_ofAll]
def wsX5_set_r2 : List Cond := [Cond.code yX2_ofAll cX2_ofAll 2 (some .int), Cond.methodLink RX2 32 yX2_get, Cond.instanceMethod yX2_get, Cond.selects RX2 yX2_get yX2_get, Cond.code yX2_get cX2_get 2 (some .int), Cond.fieldLink RX2 11 "BottleLoop$State" "cells" "[I", Cond.methodLink RX5 58 yX5_needState, Cond.static yX5_needState, Cond.code yX5_needState cX5_needState 1 none, Cond.classLink RX5 305 "java/lang/IllegalStateException", Cond.initialized "java/lang/IllegalStateException", Cond.instanceMethod yX1_keep, Cond.initialized RX1, Cond.selects RX1 yX1_keep yX1_keep, Cond.code yX1_keep cX1_keep 3 none, Cond.fieldLink RX1 20 "BottleLoop$Past" "latest" "I", Cond.fieldLink RX1 16 "BottleLoop$Past" "kept" "I", Cond.methodLink RX1 23 yX1_latestState, Cond.instanceMethod yX1_latestState, Cond.selects RX1 yX1_latestState yX1_latestState, Cond.code yX1_latestState cX1_latestState 1 (some (.object "BottleLoop$State")), Cond.fieldLink RX1 11 "BottleLoop$Past" "states" "[LBottleLoop$State;", Cond.instanceMethod yX2_copyFrom, Cond.selects RX2 yX2_copyFrom yX2_copyFrom]
def wsX5_set_r3 : List Cond := [Cond.code yX2_copyFrom cX2_copyFrom 2 none, Cond.methodLink RX2 26 arraycopyName, Cond.native arraycopyName, Cond.static arraycopyName, Cond.initialized "java/lang/System", Cond.instanceMethod yX2_ofSetting, Cond.selects RX2 yX2_ofSetting yX2_ofSetting, Cond.code yX2_ofSetting cX2_ofSetting 2 (some .int), Cond.instanceMethod yX2_putSetting, Cond.selects RX2 yX2_putSetting yX2_putSetting, Cond.code yX2_putSetting cX2_putSetting 3 none, Cond.methodLink RX2 36 yX2_put, Cond.instanceMethod yX2_put, Cond.selects RX2 yX2_put yX2_put, Cond.code yX2_put cX2_put 3 none]
def wsX5_set : List Cond := .code yX5_set cX5_set 4 (some .int) :: ((wsX5_set_r1 ++ (wsX5_set_r2 ++ wsX5_set_r3)) ++ wsX50 ++ wsX20 ++ wsX10 ++ (vx_atS RX5 293 "java/lang/IndexOutOfBoundsException" ["java/lang/RuntimeException", "java/lang/Exception"]).filter goodWord ++ (vx_atS RX5 304 "java/lang/IllegalArgumentException" ["java/lang/RuntimeException", "java/lang/Exception"]).filter goodWord ++ (vx_atS RX5 309 "java/lang/IllegalStateException" ["java/lang/RuntimeException", "java/lang/Exception"]).filter goodWord)
def wsX5_isBrand : List Cond := .code yX5_isBrand cX5_isBrand 2 (some .boolean) :: ([.fieldLink RX5 20 "BottleLoop" "now" "LBottleLoop$State;", .instanceMethod yX2_ofAll, .initialized RX2, .selects RX2 yX2_ofAll yX2_ofAll, .code yX2_ofAll cX2_ofAll 2 (some .int), .methodLink RX2 32 yX2_get, .instanceMethod yX2_get, .selects RX2 yX2_get yX2_get, .code yX2_get cX2_get 2 (some .int), .fieldLink RX2 11 "BottleLoop$State" "cells" "[I"] ++ wsX50 ++ wsX20)
def wsX5_needBrand : List Cond := .code yX5_needBrand cX5_needBrand 2 none :: ([.classLink RX5 289 "java/lang/IndexOutOfBoundsException", .initialized "java/lang/IndexOutOfBoundsException", .methodLink RX5 283 yX5_isBrand, .instanceMethod yX5_isBrand, .selects RX5 yX5_isBrand yX5_isBrand, .initialized RX5, .code yX5_isBrand cX5_isBrand 2 (some .boolean), .fieldLink RX5 20 "BottleLoop" "now" "LBottleLoop$State;", .instanceMethod yX2_ofAll, .initialized RX2, .selects RX2 yX2_ofAll yX2_ofAll, .code yX2_ofAll cX2_ofAll 2 (some .int), .methodLink RX2 32 yX2_get, .instanceMethod yX2_get, .selects RX2 yX2_get yX2_get, .code yX2_get cX2_get 2 (some .int), .fieldLink RX2 11 "BottleLoop$State" "cells" "[I"] ++ wsX50 ++ wsX20 ++ (vx_atS RX5 293 "java/lang/IndexOutOfBoundsException" ["java/lang/RuntimeException", "java/lang/Exception"]).filter goodWord)
def wsX5_fill_r1 : List Cond := [Cond.fieldLink RX5 20 "BottleLoop" "now" "LBottleLoop$State;", Cond.fieldLink RX5 26 "BottleLoop" "past" "LBottleLoop$Past;", Cond.fieldLink RX5 12 "BottleLoop" "trade" "LBottleLoop$Trade;", Cond.methodLink RX5 100 yX5_needBrand, Cond.instanceMethod yX5_needBrand, Cond.selects RX5 yX5_needBrand yX5_needBrand, Cond.initialized RX5, Cond.code yX5_needBrand cX5_needBrand 2 none, Cond.classLink RX5 289 "java/lang/IndexOutOfBoundsException", Cond.initialized "java/lang/IndexOutOfBoundsException", Cond.methodLink RX5 283 yX5_isBrand, Cond.instanceMethod yX5_isBrand, Cond.selects RX5 yX5_isBrand yX5_isBrand, Cond.code yX5_isBrand cX5_isBrand 2 (some .boolean), Cond.instanceMethod yX2_ofAll, Cond.initialized RX2, Cond.selects RX2 yX2_ofAll yX2_ofAll, Cond.code yX2_ofAll cX2_ofAll 2 (some .int), Cond.methodLink RX2 32 yX2_get, Cond.instanceMethod yX2_get, Cond.selects RX2 yX2_get yX2_get, Cond.code yX2_get cX2_get 2 (some .int), Cond.fieldLink RX2 11 "BottleLoop$State" "cells" "[I", Cond.methodLink RX5 48 yX5_needRange]
def wsX5_fill_r2 : List Cond := [Cond.static yX5_needRange, Cond.code yX5_needRange cX5_needRange 3 none, Cond.methodLink RX5 153 yX5_needArgument, Cond.static yX5_needArgument, Cond.code yX5_needArgument cX5_needArgument 1 none, Cond.classLink RX5 300 "java/lang/IllegalArgumentException", Cond.initialized "java/lang/IllegalArgumentException", Cond.instanceMethod yX2_ofBrand, Cond.selects RX2 yX2_ofBrand yX2_ofBrand, Cond.code yX2_ofBrand cX2_ofBrand 3 (some .int), Cond.methodLink RX5 58 yX5_needState, Cond.static yX5_needState, Cond.code yX5_needState cX5_needState 1 none, Cond.classLink RX5 305 "java/lang/IllegalStateException", Cond.initialized "java/lang/IllegalStateException", Cond.instanceMethod yX1_keep, Cond.initialized RX1, Cond.selects RX1 yX1_keep yX1_keep, Cond.code yX1_keep cX1_keep 3 none, Cond.fieldLink RX1 20 "BottleLoop$Past" "latest" "I", Cond.fieldLink RX1 16 "BottleLoop$Past" "kept" "I", Cond.methodLink RX1 23 yX1_latestState, Cond.instanceMethod yX1_latestState, Cond.selects RX1 yX1_latestState yX1_latestState]
def wsX5_fill_r3 : List Cond := [Cond.code yX1_latestState cX1_latestState 1 (some (.object "BottleLoop$State")), Cond.fieldLink RX1 11 "BottleLoop$Past" "states" "[LBottleLoop$State;", Cond.instanceMethod yX2_copyFrom, Cond.selects RX2 yX2_copyFrom yX2_copyFrom, Cond.code yX2_copyFrom cX2_copyFrom 2 none, Cond.methodLink RX2 26 arraycopyName, Cond.native arraycopyName, Cond.static arraycopyName, Cond.initialized "java/lang/System", Cond.instanceMethod yX4_fillBottles, Cond.initialized RX4, Cond.selects RX4 yX4_fillBottles yX4_fillBottles, Cond.code yX4_fillBottles cX4_fillBottles 4 (some .int), Cond.fieldLink RX4 12 "BottleLoop$Trade" "state" "LBottleLoop$State;", Cond.methodLink RX4 51 yX4_wornBy, Cond.instanceMethod yX4_wornBy, Cond.selects RX4 yX4_wornBy yX4_wornBy, Cond.code yX4_wornBy cX4_wornBy 5 (some .int), Cond.instanceMethod yX2_ofSetting, Cond.selects RX2 yX2_ofSetting yX2_ofSetting, Cond.code yX2_ofSetting cX2_ofSetting 2 (some .int), Cond.instanceMethod yX2_addToBrand, Cond.selects RX2 yX2_addToBrand yX2_addToBrand, Cond.code yX2_addToBrand cX2_addToBrand 5 none]
def wsX5_fill_r4 : List Cond := [Cond.methodLink RX2 36 yX2_put, Cond.instanceMethod yX2_put, Cond.selects RX2 yX2_put yX2_put, Cond.code yX2_put cX2_put 3 none]
def wsX5_fill : List Cond := .code yX5_fill cX5_fill 3 (some .int) :: ((wsX5_fill_r1 ++ (wsX5_fill_r2 ++ (wsX5_fill_r3 ++ wsX5_fill_r4))) ++ wsX50 ++ wsX20 ++ wsX10 ++ wsX40 ++ (vx_atS RX5 293 "java/lang/IndexOutOfBoundsException" ["java/lang/RuntimeException", "java/lang/Exception"]).filter goodWord ++ (vx_atS RX5 304 "java/lang/IllegalArgumentException" ["java/lang/RuntimeException", "java/lang/Exception"]).filter goodWord ++ (vx_atS RX5 309 "java/lang/IllegalStateException" ["java/lang/RuntimeException", "java/lang/Exception"]).filter goodWord)
def wsX5_isShop : List Cond := .code yX5_isShop cX5_isShop 2 (some .boolean) :: ([.fieldLink RX5 20 "BottleLoop" "now" "LBottleLoop$State;", .instanceMethod yX2_ofAll, .initialized RX2, .selects RX2 yX2_ofAll yX2_ofAll, .code yX2_ofAll cX2_ofAll 2 (some .int), .methodLink RX2 32 yX2_get, .instanceMethod yX2_get, .selects RX2 yX2_get yX2_get, .code yX2_get cX2_get 2 (some .int), .fieldLink RX2 11 "BottleLoop$State" "cells" "[I"] ++ wsX50 ++ wsX20)
def wsX5_needShop : List Cond := .code yX5_needShop cX5_needShop 2 none :: ([.classLink RX5 289 "java/lang/IndexOutOfBoundsException", .initialized "java/lang/IndexOutOfBoundsException", .methodLink RX5 286 yX5_isShop, .instanceMethod yX5_isShop, .selects RX5 yX5_isShop yX5_isShop, .initialized RX5, .code yX5_isShop cX5_isShop 2 (some .boolean), .fieldLink RX5 20 "BottleLoop" "now" "LBottleLoop$State;", .instanceMethod yX2_ofAll, .initialized RX2, .selects RX2 yX2_ofAll yX2_ofAll, .code yX2_ofAll cX2_ofAll 2 (some .int), .methodLink RX2 32 yX2_get, .instanceMethod yX2_get, .selects RX2 yX2_get yX2_get, .code yX2_get cX2_get 2 (some .int), .fieldLink RX2 11 "BottleLoop$State" "cells" "[I"] ++ wsX50 ++ wsX20 ++ (vx_atS RX5 293 "java/lang/IndexOutOfBoundsException" ["java/lang/RuntimeException", "java/lang/Exception"]).filter goodWord)
def wsX5_deliver_r1 : List Cond := [Cond.fieldLink RX5 12 "BottleLoop" "trade" "LBottleLoop$Trade;", Cond.fieldLink RX5 26 "BottleLoop" "past" "LBottleLoop$Past;", Cond.fieldLink RX5 20 "BottleLoop" "now" "LBottleLoop$State;", Cond.methodLink RX5 100 yX5_needBrand, Cond.instanceMethod yX5_needBrand, Cond.selects RX5 yX5_needBrand yX5_needBrand, Cond.initialized RX5, Cond.code yX5_needBrand cX5_needBrand 2 none, Cond.classLink RX5 289 "java/lang/IndexOutOfBoundsException", Cond.initialized "java/lang/IndexOutOfBoundsException", Cond.methodLink RX5 283 yX5_isBrand, Cond.instanceMethod yX5_isBrand, Cond.selects RX5 yX5_isBrand yX5_isBrand, Cond.code yX5_isBrand cX5_isBrand 2 (some .boolean), Cond.instanceMethod yX2_ofAll, Cond.initialized RX2, Cond.selects RX2 yX2_ofAll yX2_ofAll, Cond.code yX2_ofAll cX2_ofAll 2 (some .int), Cond.methodLink RX2 32 yX2_get, Cond.instanceMethod yX2_get, Cond.selects RX2 yX2_get yX2_get, Cond.code yX2_get cX2_get 2 (some .int), Cond.fieldLink RX2 11 "BottleLoop$State" "cells" "[I", Cond.methodLink RX5 110 yX5_needShop]
def wsX5_deliver_r2 : List Cond := [Cond.instanceMethod yX5_needShop, Cond.selects RX5 yX5_needShop yX5_needShop, Cond.code yX5_needShop cX5_needShop 2 none, Cond.methodLink RX5 286 yX5_isShop, Cond.instanceMethod yX5_isShop, Cond.selects RX5 yX5_isShop yX5_isShop, Cond.code yX5_isShop cX5_isShop 2 (some .boolean), Cond.methodLink RX5 48 yX5_needRange, Cond.static yX5_needRange, Cond.code yX5_needRange cX5_needRange 3 none, Cond.methodLink RX5 153 yX5_needArgument, Cond.static yX5_needArgument, Cond.code yX5_needArgument cX5_needArgument 1 none, Cond.classLink RX5 300 "java/lang/IllegalArgumentException", Cond.initialized "java/lang/IllegalArgumentException", Cond.instanceMethod yX4_deliverReason, Cond.initialized RX4, Cond.selects RX4 yX4_deliverReason yX4_deliverReason, Cond.code yX4_deliverReason cX4_deliverReason 4 (some .int), Cond.fieldLink RX4 12 "BottleLoop$Trade" "state" "LBottleLoop$State;", Cond.instanceMethod yX2_ofBrand, Cond.selects RX2 yX2_ofBrand yX2_ofBrand, Cond.code yX2_ofBrand cX2_ofBrand 3 (some .int), Cond.instanceMethod yX2_ofShop]
def wsX5_deliver_r3 : List Cond := [Cond.selects RX2 yX2_ofShop yX2_ofShop, Cond.code yX2_ofShop cX2_ofShop 3 (some .int), Cond.methodLink RX4 39 yX4_cratePrice, Cond.instanceMethod yX4_cratePrice, Cond.selects RX4 yX4_cratePrice yX4_cratePrice, Cond.code yX4_cratePrice cX4_cratePrice 2 (some .int), Cond.methodLink RX4 30 yX4_crateDeposits, Cond.instanceMethod yX4_crateDeposits, Cond.selects RX4 yX4_crateDeposits yX4_crateDeposits, Cond.code yX4_crateDeposits cX4_crateDeposits 2 (some .int), Cond.instanceMethod yX2_ofSetting, Cond.selects RX2 yX2_ofSetting yX2_ofSetting, Cond.code yX2_ofSetting cX2_ofSetting 2 (some .int), Cond.methodLink RX5 58 yX5_needState, Cond.static yX5_needState, Cond.code yX5_needState cX5_needState 1 none, Cond.classLink RX5 305 "java/lang/IllegalStateException", Cond.initialized "java/lang/IllegalStateException", Cond.instanceMethod yX1_keep, Cond.initialized RX1, Cond.selects RX1 yX1_keep yX1_keep, Cond.code yX1_keep cX1_keep 3 none, Cond.fieldLink RX1 20 "BottleLoop$Past" "latest" "I", Cond.fieldLink RX1 16 "BottleLoop$Past" "kept" "I"]
def wsX5_deliver_r4 : List Cond := [Cond.methodLink RX1 23 yX1_latestState, Cond.instanceMethod yX1_latestState, Cond.selects RX1 yX1_latestState yX1_latestState, Cond.code yX1_latestState cX1_latestState 1 (some (.object "BottleLoop$State")), Cond.fieldLink RX1 11 "BottleLoop$Past" "states" "[LBottleLoop$State;", Cond.instanceMethod yX2_copyFrom, Cond.selects RX2 yX2_copyFrom yX2_copyFrom, Cond.code yX2_copyFrom cX2_copyFrom 2 none, Cond.methodLink RX2 26 arraycopyName, Cond.native arraycopyName, Cond.static arraycopyName, Cond.initialized "java/lang/System", Cond.instanceMethod yX4_deliverCrates, Cond.selects RX4 yX4_deliverCrates yX4_deliverCrates, Cond.code yX4_deliverCrates cX4_deliverCrates 6 (some .int), Cond.instanceMethod yX2_addToBrand, Cond.selects RX2 yX2_addToBrand yX2_addToBrand, Cond.code yX2_addToBrand cX2_addToBrand 5 none, Cond.methodLink RX2 36 yX2_put, Cond.instanceMethod yX2_put, Cond.selects RX2 yX2_put yX2_put, Cond.code yX2_put cX2_put 3 none, Cond.instanceMethod yX2_addToShop, Cond.selects RX2 yX2_addToShop yX2_addToShop]
def wsX5_deliver_r5 : List Cond := [Cond.code yX2_addToShop cX2_addToShop 5 none, Cond.instanceMethod yX2_addToAll, Cond.selects RX2 yX2_addToAll yX2_addToAll, Cond.code yX2_addToAll cX2_addToAll 3 none]
def wsX5_deliver : List Cond := .code yX5_deliver cX5_deliver 4 (some .int) :: ((wsX5_deliver_r1 ++ (wsX5_deliver_r2 ++ (wsX5_deliver_r3 ++ (wsX5_deliver_r4 ++ wsX5_deliver_r5)))) ++ wsX50 ++ wsX20 ++ wsX40 ++ wsX10 ++ (vx_atS RX5 293 "java/lang/IndexOutOfBoundsException" ["java/lang/RuntimeException", "java/lang/Exception"]).filter goodWord ++ (vx_atS RX5 304 "java/lang/IllegalArgumentException" ["java/lang/RuntimeException", "java/lang/Exception"]).filter goodWord ++ (vx_atS RX5 309 "java/lang/IllegalStateException" ["java/lang/RuntimeException", "java/lang/Exception"]).filter goodWord)
def wsX5_sell_r1 : List Cond := [Cond.fieldLink RX5 12 "BottleLoop" "trade" "LBottleLoop$Trade;", Cond.fieldLink RX5 26 "BottleLoop" "past" "LBottleLoop$Past;", Cond.fieldLink RX5 20 "BottleLoop" "now" "LBottleLoop$State;", Cond.methodLink RX5 110 yX5_needShop, Cond.instanceMethod yX5_needShop, Cond.selects RX5 yX5_needShop yX5_needShop, Cond.initialized RX5, Cond.code yX5_needShop cX5_needShop 2 none, Cond.classLink RX5 289 "java/lang/IndexOutOfBoundsException", Cond.initialized "java/lang/IndexOutOfBoundsException", Cond.methodLink RX5 286 yX5_isShop, Cond.instanceMethod yX5_isShop, Cond.selects RX5 yX5_isShop yX5_isShop, Cond.code yX5_isShop cX5_isShop 2 (some .boolean), Cond.instanceMethod yX2_ofAll, Cond.initialized RX2, Cond.selects RX2 yX2_ofAll yX2_ofAll, Cond.code yX2_ofAll cX2_ofAll 2 (some .int), Cond.methodLink RX2 32 yX2_get, Cond.instanceMethod yX2_get, Cond.selects RX2 yX2_get yX2_get, Cond.code yX2_get cX2_get 2 (some .int), Cond.fieldLink RX2 11 "BottleLoop$State" "cells" "[I", Cond.methodLink RX5 100 yX5_needBrand]
def wsX5_sell_r2 : List Cond := [Cond.instanceMethod yX5_needBrand, Cond.selects RX5 yX5_needBrand yX5_needBrand, Cond.code yX5_needBrand cX5_needBrand 2 none, Cond.methodLink RX5 283 yX5_isBrand, Cond.instanceMethod yX5_isBrand, Cond.selects RX5 yX5_isBrand yX5_isBrand, Cond.code yX5_isBrand cX5_isBrand 2 (some .boolean), Cond.methodLink RX5 48 yX5_needRange, Cond.static yX5_needRange, Cond.code yX5_needRange cX5_needRange 3 none, Cond.methodLink RX5 153 yX5_needArgument, Cond.static yX5_needArgument, Cond.code yX5_needArgument cX5_needArgument 1 none, Cond.classLink RX5 300 "java/lang/IllegalArgumentException", Cond.initialized "java/lang/IllegalArgumentException", Cond.instanceMethod yX4_sellReason, Cond.initialized RX4, Cond.selects RX4 yX4_sellReason yX4_sellReason, Cond.code yX4_sellReason cX4_sellReason 4 (some .int), Cond.fieldLink RX4 12 "BottleLoop$Trade" "state" "LBottleLoop$State;", Cond.instanceMethod yX2_ofShop, Cond.selects RX2 yX2_ofShop yX2_ofShop, Cond.code yX2_ofShop cX2_ofShop 3 (some .int), Cond.methodLink RX4 42 yX4_bottleReason]
def wsX5_sell_r3 : List Cond := [Cond.static yX4_bottleReason, Cond.code yX4_bottleReason cX4_bottleReason 2 (some .int), Cond.methodLink RX5 58 yX5_needState, Cond.static yX5_needState, Cond.code yX5_needState cX5_needState 1 none, Cond.classLink RX5 305 "java/lang/IllegalStateException", Cond.initialized "java/lang/IllegalStateException", Cond.instanceMethod yX1_keep, Cond.initialized RX1, Cond.selects RX1 yX1_keep yX1_keep, Cond.code yX1_keep cX1_keep 3 none, Cond.fieldLink RX1 20 "BottleLoop$Past" "latest" "I", Cond.fieldLink RX1 16 "BottleLoop$Past" "kept" "I", Cond.methodLink RX1 23 yX1_latestState, Cond.instanceMethod yX1_latestState, Cond.selects RX1 yX1_latestState yX1_latestState, Cond.code yX1_latestState cX1_latestState 1 (some (.object "BottleLoop$State")), Cond.fieldLink RX1 11 "BottleLoop$Past" "states" "[LBottleLoop$State;", Cond.instanceMethod yX2_copyFrom, Cond.selects RX2 yX2_copyFrom yX2_copyFrom, Cond.code yX2_copyFrom cX2_copyFrom 2 none, Cond.methodLink RX2 26 arraycopyName, Cond.native arraycopyName, Cond.static arraycopyName]
def wsX5_sell_r4 : List Cond := [Cond.initialized "java/lang/System", Cond.instanceMethod yX4_sellBottles, Cond.selects RX4 yX4_sellBottles yX4_sellBottles, Cond.code yX4_sellBottles cX4_sellBottles 4 (some .int), Cond.instanceMethod yX2_addToShop, Cond.selects RX2 yX2_addToShop yX2_addToShop, Cond.code yX2_addToShop cX2_addToShop 5 none, Cond.methodLink RX2 36 yX2_put, Cond.instanceMethod yX2_put, Cond.selects RX2 yX2_put yX2_put, Cond.code yX2_put cX2_put 3 none, Cond.instanceMethod yX2_addToBrand, Cond.selects RX2 yX2_addToBrand yX2_addToBrand, Cond.code yX2_addToBrand cX2_addToBrand 5 none, Cond.methodLink RX4 45 yX4_depositOf, Cond.instanceMethod yX4_depositOf, Cond.selects RX4 yX4_depositOf yX4_depositOf, Cond.code yX4_depositOf cX4_depositOf 2 (some .int), Cond.instanceMethod yX2_ofBrand, Cond.selects RX2 yX2_ofBrand yX2_ofBrand, Cond.code yX2_ofBrand cX2_ofBrand 3 (some .int), Cond.instanceMethod yX2_ofSetting, Cond.selects RX2 yX2_ofSetting yX2_ofSetting, Cond.code yX2_ofSetting cX2_ofSetting 2 (some .int)]
def wsX5_sell : List Cond := .code yX5_sell cX5_sell 4 (some .int) :: ((wsX5_sell_r1 ++ (wsX5_sell_r2 ++ (wsX5_sell_r3 ++ wsX5_sell_r4))) ++ wsX50 ++ wsX20 ++ wsX40 ++ wsX10 ++ (vx_atS RX5 293 "java/lang/IndexOutOfBoundsException" ["java/lang/RuntimeException", "java/lang/Exception"]).filter goodWord ++ (vx_atS RX5 304 "java/lang/IllegalArgumentException" ["java/lang/RuntimeException", "java/lang/Exception"]).filter goodWord ++ (vx_atS RX5 309 "java/lang/IllegalStateException" ["java/lang/RuntimeException", "java/lang/Exception"]).filter goodWord)
def wsX5_takeBack_r1 : List Cond := [Cond.fieldLink RX5 12 "BottleLoop" "trade" "LBottleLoop$Trade;", Cond.fieldLink RX5 26 "BottleLoop" "past" "LBottleLoop$Past;", Cond.fieldLink RX5 20 "BottleLoop" "now" "LBottleLoop$State;", Cond.methodLink RX5 110 yX5_needShop, Cond.instanceMethod yX5_needShop, Cond.selects RX5 yX5_needShop yX5_needShop, Cond.initialized RX5, Cond.code yX5_needShop cX5_needShop 2 none, Cond.classLink RX5 289 "java/lang/IndexOutOfBoundsException", Cond.initialized "java/lang/IndexOutOfBoundsException", Cond.methodLink RX5 286 yX5_isShop, Cond.instanceMethod yX5_isShop, Cond.selects RX5 yX5_isShop yX5_isShop, Cond.code yX5_isShop cX5_isShop 2 (some .boolean), Cond.instanceMethod yX2_ofAll, Cond.initialized RX2, Cond.selects RX2 yX2_ofAll yX2_ofAll, Cond.code yX2_ofAll cX2_ofAll 2 (some .int), Cond.methodLink RX2 32 yX2_get, Cond.instanceMethod yX2_get, Cond.selects RX2 yX2_get yX2_get, Cond.code yX2_get cX2_get 2 (some .int), Cond.fieldLink RX2 11 "BottleLoop$State" "cells" "[I", Cond.methodLink RX5 100 yX5_needBrand]
def wsX5_takeBack_r2 : List Cond := [Cond.instanceMethod yX5_needBrand, Cond.selects RX5 yX5_needBrand yX5_needBrand, Cond.code yX5_needBrand cX5_needBrand 2 none, Cond.methodLink RX5 283 yX5_isBrand, Cond.instanceMethod yX5_isBrand, Cond.selects RX5 yX5_isBrand yX5_isBrand, Cond.code yX5_isBrand cX5_isBrand 2 (some .boolean), Cond.methodLink RX5 48 yX5_needRange, Cond.static yX5_needRange, Cond.code yX5_needRange cX5_needRange 3 none, Cond.methodLink RX5 153 yX5_needArgument, Cond.static yX5_needArgument, Cond.code yX5_needArgument cX5_needArgument 1 none, Cond.classLink RX5 300 "java/lang/IllegalArgumentException", Cond.initialized "java/lang/IllegalArgumentException", Cond.instanceMethod yX4_returnReason, Cond.initialized RX4, Cond.selects RX4 yX4_returnReason yX4_returnReason, Cond.code yX4_returnReason cX4_returnReason 4 (some .int), Cond.fieldLink RX4 12 "BottleLoop$Trade" "state" "LBottleLoop$State;", Cond.instanceMethod yX2_ofBrand, Cond.selects RX2 yX2_ofBrand yX2_ofBrand, Cond.code yX2_ofBrand cX2_ofBrand 3 (some .int), Cond.instanceMethod yX2_ofShop]
def wsX5_takeBack_r3 : List Cond := [Cond.selects RX2 yX2_ofShop yX2_ofShop, Cond.code yX2_ofShop cX2_ofShop 3 (some .int), Cond.methodLink RX4 45 yX4_depositOf, Cond.instanceMethod yX4_depositOf, Cond.selects RX4 yX4_depositOf yX4_depositOf, Cond.code yX4_depositOf cX4_depositOf 2 (some .int), Cond.instanceMethod yX2_ofSetting, Cond.selects RX2 yX2_ofSetting yX2_ofSetting, Cond.code yX2_ofSetting cX2_ofSetting 2 (some .int), Cond.methodLink RX5 58 yX5_needState, Cond.static yX5_needState, Cond.code yX5_needState cX5_needState 1 none, Cond.classLink RX5 305 "java/lang/IllegalStateException", Cond.initialized "java/lang/IllegalStateException", Cond.instanceMethod yX1_keep, Cond.initialized RX1, Cond.selects RX1 yX1_keep yX1_keep, Cond.code yX1_keep cX1_keep 3 none, Cond.fieldLink RX1 20 "BottleLoop$Past" "latest" "I", Cond.fieldLink RX1 16 "BottleLoop$Past" "kept" "I", Cond.methodLink RX1 23 yX1_latestState, Cond.instanceMethod yX1_latestState, Cond.selects RX1 yX1_latestState yX1_latestState, Cond.code yX1_latestState cX1_latestState 1 (some (.object "BottleLoop$State"))]
def wsX5_takeBack_r4 : List Cond := [Cond.fieldLink RX1 11 "BottleLoop$Past" "states" "[LBottleLoop$State;", Cond.instanceMethod yX2_copyFrom, Cond.selects RX2 yX2_copyFrom yX2_copyFrom, Cond.code yX2_copyFrom cX2_copyFrom 2 none, Cond.methodLink RX2 26 arraycopyName, Cond.native arraycopyName, Cond.static arraycopyName, Cond.initialized "java/lang/System", Cond.instanceMethod yX4_returnBottles, Cond.selects RX4 yX4_returnBottles yX4_returnBottles, Cond.code yX4_returnBottles cX4_returnBottles 4 (some .int), Cond.instanceMethod yX2_addToBrand, Cond.selects RX2 yX2_addToBrand yX2_addToBrand, Cond.code yX2_addToBrand cX2_addToBrand 5 none, Cond.methodLink RX2 36 yX2_put, Cond.instanceMethod yX2_put, Cond.selects RX2 yX2_put yX2_put, Cond.code yX2_put cX2_put 3 none, Cond.instanceMethod yX2_addToShop, Cond.selects RX2 yX2_addToShop yX2_addToShop, Cond.code yX2_addToShop cX2_addToShop 5 none]
def wsX5_takeBack : List Cond := .code yX5_takeBack cX5_takeBack 4 (some .int) :: ((wsX5_takeBack_r1 ++ (wsX5_takeBack_r2 ++ (wsX5_takeBack_r3 ++ wsX5_takeBack_r4))) ++ wsX50 ++ wsX20 ++ wsX40 ++ wsX10 ++ (vx_atS RX5 293 "java/lang/IndexOutOfBoundsException" ["java/lang/RuntimeException", "java/lang/Exception"]).filter goodWord ++ (vx_atS RX5 304 "java/lang/IllegalArgumentException" ["java/lang/RuntimeException", "java/lang/Exception"]).filter goodWord ++ (vx_atS RX5 309 "java/lang/IllegalStateException" ["java/lang/RuntimeException", "java/lang/Exception"]).filter goodWord)
def wsX5_breaks_r1 : List Cond := [Cond.fieldLink RX5 12 "BottleLoop" "trade" "LBottleLoop$Trade;", Cond.fieldLink RX5 26 "BottleLoop" "past" "LBottleLoop$Past;", Cond.fieldLink RX5 20 "BottleLoop" "now" "LBottleLoop$State;", Cond.methodLink RX5 110 yX5_needShop, Cond.instanceMethod yX5_needShop, Cond.selects RX5 yX5_needShop yX5_needShop, Cond.initialized RX5, Cond.code yX5_needShop cX5_needShop 2 none, Cond.classLink RX5 289 "java/lang/IndexOutOfBoundsException", Cond.initialized "java/lang/IndexOutOfBoundsException", Cond.methodLink RX5 286 yX5_isShop, Cond.instanceMethod yX5_isShop, Cond.selects RX5 yX5_isShop yX5_isShop, Cond.code yX5_isShop cX5_isShop 2 (some .boolean), Cond.instanceMethod yX2_ofAll, Cond.initialized RX2, Cond.selects RX2 yX2_ofAll yX2_ofAll, Cond.code yX2_ofAll cX2_ofAll 2 (some .int), Cond.methodLink RX2 32 yX2_get, Cond.instanceMethod yX2_get, Cond.selects RX2 yX2_get yX2_get, Cond.code yX2_get cX2_get 2 (some .int), Cond.fieldLink RX2 11 "BottleLoop$State" "cells" "[I", Cond.methodLink RX5 100 yX5_needBrand]
def wsX5_breaks_r2 : List Cond := [Cond.instanceMethod yX5_needBrand, Cond.selects RX5 yX5_needBrand yX5_needBrand, Cond.code yX5_needBrand cX5_needBrand 2 none, Cond.methodLink RX5 283 yX5_isBrand, Cond.instanceMethod yX5_isBrand, Cond.selects RX5 yX5_isBrand yX5_isBrand, Cond.code yX5_isBrand cX5_isBrand 2 (some .boolean), Cond.methodLink RX5 48 yX5_needRange, Cond.static yX5_needRange, Cond.code yX5_needRange cX5_needRange 3 none, Cond.methodLink RX5 153 yX5_needArgument, Cond.static yX5_needArgument, Cond.code yX5_needArgument cX5_needArgument 1 none, Cond.classLink RX5 300 "java/lang/IllegalArgumentException", Cond.initialized "java/lang/IllegalArgumentException", Cond.instanceMethod yX4_breakReason, Cond.initialized RX4, Cond.selects RX4 yX4_breakReason yX4_breakReason, Cond.code yX4_breakReason cX4_breakReason 4 (some .int), Cond.fieldLink RX4 12 "BottleLoop$Trade" "state" "LBottleLoop$State;", Cond.instanceMethod yX2_ofShop, Cond.selects RX2 yX2_ofShop yX2_ofShop, Cond.code yX2_ofShop cX2_ofShop 3 (some .int), Cond.methodLink RX4 42 yX4_bottleReason]
def wsX5_breaks_r3 : List Cond := [Cond.static yX4_bottleReason, Cond.code yX4_bottleReason cX4_bottleReason 2 (some .int), Cond.methodLink RX5 58 yX5_needState, Cond.static yX5_needState, Cond.code yX5_needState cX5_needState 1 none, Cond.classLink RX5 305 "java/lang/IllegalStateException", Cond.initialized "java/lang/IllegalStateException", Cond.instanceMethod yX1_keep, Cond.initialized RX1, Cond.selects RX1 yX1_keep yX1_keep, Cond.code yX1_keep cX1_keep 3 none, Cond.fieldLink RX1 20 "BottleLoop$Past" "latest" "I", Cond.fieldLink RX1 16 "BottleLoop$Past" "kept" "I", Cond.methodLink RX1 23 yX1_latestState, Cond.instanceMethod yX1_latestState, Cond.selects RX1 yX1_latestState yX1_latestState, Cond.code yX1_latestState cX1_latestState 1 (some (.object "BottleLoop$State")), Cond.fieldLink RX1 11 "BottleLoop$Past" "states" "[LBottleLoop$State;", Cond.instanceMethod yX2_copyFrom, Cond.selects RX2 yX2_copyFrom yX2_copyFrom, Cond.code yX2_copyFrom cX2_copyFrom 2 none, Cond.methodLink RX2 26 arraycopyName, Cond.native arraycopyName, Cond.static arraycopyName]
def wsX5_breaks_r4 : List Cond := [Cond.initialized "java/lang/System", Cond.instanceMethod yX4_breakBottles, Cond.selects RX4 yX4_breakBottles yX4_breakBottles, Cond.code yX4_breakBottles cX4_breakBottles 6 (some .int), Cond.methodLink RX4 65 Lib.Math.min.name, Cond.static Lib.Math.min.name, Cond.initialized "java/lang/Math", Cond.code Lib.Math.min.name Lib.Math.min.code 2 (some .int), Cond.methodLink RX4 45 yX4_depositOf, Cond.instanceMethod yX4_depositOf, Cond.selects RX4 yX4_depositOf yX4_depositOf, Cond.code yX4_depositOf cX4_depositOf 2 (some .int), Cond.instanceMethod yX2_ofBrand, Cond.selects RX2 yX2_ofBrand yX2_ofBrand, Cond.code yX2_ofBrand cX2_ofBrand 3 (some .int), Cond.instanceMethod yX2_ofSetting, Cond.selects RX2 yX2_ofSetting yX2_ofSetting, Cond.code yX2_ofSetting cX2_ofSetting 2 (some .int), Cond.instanceMethod yX2_addToShop, Cond.selects RX2 yX2_addToShop yX2_addToShop, Cond.code yX2_addToShop cX2_addToShop 5 none, Cond.methodLink RX2 36 yX2_put, Cond.instanceMethod yX2_put, Cond.selects RX2 yX2_put yX2_put]
def wsX5_breaks_r5 : List Cond := [Cond.code yX2_put cX2_put 3 none, Cond.instanceMethod yX2_addToBrand, Cond.selects RX2 yX2_addToBrand yX2_addToBrand, Cond.code yX2_addToBrand cX2_addToBrand 5 none, Cond.instanceMethod yX2_addToAll, Cond.selects RX2 yX2_addToAll yX2_addToAll, Cond.code yX2_addToAll cX2_addToAll 3 none]
def wsX5_breaks : List Cond := .code yX5_breaks cX5_breaks 4 (some .int) :: ((wsX5_breaks_r1 ++ (wsX5_breaks_r2 ++ (wsX5_breaks_r3 ++ (wsX5_breaks_r4 ++ wsX5_breaks_r5)))) ++ wsX50 ++ wsX20 ++ wsX40 ++ wsX10 ++ (vx_atS RX5 293 "java/lang/IndexOutOfBoundsException" ["java/lang/RuntimeException", "java/lang/Exception"]).filter goodWord ++ (vx_atS RX5 304 "java/lang/IllegalArgumentException" ["java/lang/RuntimeException", "java/lang/Exception"]).filter goodWord ++ (vx_atS RX5 309 "java/lang/IllegalStateException" ["java/lang/RuntimeException", "java/lang/Exception"]).filter goodWord)
def wsX5_lose_r1 : List Cond := [Cond.fieldLink RX5 20 "BottleLoop" "now" "LBottleLoop$State;", Cond.fieldLink RX5 26 "BottleLoop" "past" "LBottleLoop$Past;", Cond.fieldLink RX5 12 "BottleLoop" "trade" "LBottleLoop$Trade;", Cond.methodLink RX5 100 yX5_needBrand, Cond.instanceMethod yX5_needBrand, Cond.selects RX5 yX5_needBrand yX5_needBrand, Cond.initialized RX5, Cond.code yX5_needBrand cX5_needBrand 2 none, Cond.classLink RX5 289 "java/lang/IndexOutOfBoundsException", Cond.initialized "java/lang/IndexOutOfBoundsException", Cond.methodLink RX5 283 yX5_isBrand, Cond.instanceMethod yX5_isBrand, Cond.selects RX5 yX5_isBrand yX5_isBrand, Cond.code yX5_isBrand cX5_isBrand 2 (some .boolean), Cond.instanceMethod yX2_ofAll, Cond.initialized RX2, Cond.selects RX2 yX2_ofAll yX2_ofAll, Cond.code yX2_ofAll cX2_ofAll 2 (some .int), Cond.methodLink RX2 32 yX2_get, Cond.instanceMethod yX2_get, Cond.selects RX2 yX2_get yX2_get, Cond.code yX2_get cX2_get 2 (some .int), Cond.fieldLink RX2 11 "BottleLoop$State" "cells" "[I", Cond.methodLink RX5 48 yX5_needRange]
def wsX5_lose_r2 : List Cond := [Cond.static yX5_needRange, Cond.code yX5_needRange cX5_needRange 3 none, Cond.methodLink RX5 153 yX5_needArgument, Cond.static yX5_needArgument, Cond.code yX5_needArgument cX5_needArgument 1 none, Cond.classLink RX5 300 "java/lang/IllegalArgumentException", Cond.initialized "java/lang/IllegalArgumentException", Cond.instanceMethod yX2_ofBrand, Cond.selects RX2 yX2_ofBrand yX2_ofBrand, Cond.code yX2_ofBrand cX2_ofBrand 3 (some .int), Cond.methodLink RX5 58 yX5_needState, Cond.static yX5_needState, Cond.code yX5_needState cX5_needState 1 none, Cond.classLink RX5 305 "java/lang/IllegalStateException", Cond.initialized "java/lang/IllegalStateException", Cond.instanceMethod yX1_keep, Cond.initialized RX1, Cond.selects RX1 yX1_keep yX1_keep, Cond.code yX1_keep cX1_keep 3 none, Cond.fieldLink RX1 20 "BottleLoop$Past" "latest" "I", Cond.fieldLink RX1 16 "BottleLoop$Past" "kept" "I", Cond.methodLink RX1 23 yX1_latestState, Cond.instanceMethod yX1_latestState, Cond.selects RX1 yX1_latestState yX1_latestState]
def wsX5_lose_r3 : List Cond := [Cond.code yX1_latestState cX1_latestState 1 (some (.object "BottleLoop$State")), Cond.fieldLink RX1 11 "BottleLoop$Past" "states" "[LBottleLoop$State;", Cond.instanceMethod yX2_copyFrom, Cond.selects RX2 yX2_copyFrom yX2_copyFrom, Cond.code yX2_copyFrom cX2_copyFrom 2 none, Cond.methodLink RX2 26 arraycopyName, Cond.native arraycopyName, Cond.static arraycopyName, Cond.initialized "java/lang/System", Cond.instanceMethod yX4_loseBottles, Cond.initialized RX4, Cond.selects RX4 yX4_loseBottles yX4_loseBottles, Cond.code yX4_loseBottles cX4_loseBottles 3 (some .int), Cond.fieldLink RX4 12 "BottleLoop$Trade" "state" "LBottleLoop$State;", Cond.instanceMethod yX2_addToBrand, Cond.selects RX2 yX2_addToBrand yX2_addToBrand, Cond.code yX2_addToBrand cX2_addToBrand 5 none, Cond.methodLink RX2 36 yX2_put, Cond.instanceMethod yX2_put, Cond.selects RX2 yX2_put yX2_put, Cond.code yX2_put cX2_put 3 none, Cond.methodLink RX4 45 yX4_depositOf, Cond.instanceMethod yX4_depositOf, Cond.selects RX4 yX4_depositOf yX4_depositOf]
def wsX5_lose_r4 : List Cond := [Cond.code yX4_depositOf cX4_depositOf 2 (some .int), Cond.instanceMethod yX2_ofSetting, Cond.selects RX2 yX2_ofSetting yX2_ofSetting, Cond.code yX2_ofSetting cX2_ofSetting 2 (some .int), Cond.instanceMethod yX2_addToAll, Cond.selects RX2 yX2_addToAll yX2_addToAll, Cond.code yX2_addToAll cX2_addToAll 3 none]
def wsX5_lose : List Cond := .code yX5_lose cX5_lose 3 (some .int) :: ((wsX5_lose_r1 ++ (wsX5_lose_r2 ++ (wsX5_lose_r3 ++ wsX5_lose_r4))) ++ wsX50 ++ wsX20 ++ wsX10 ++ wsX40 ++ (vx_atS RX5 293 "java/lang/IndexOutOfBoundsException" ["java/lang/RuntimeException", "java/lang/Exception"]).filter goodWord ++ (vx_atS RX5 304 "java/lang/IllegalArgumentException" ["java/lang/RuntimeException", "java/lang/Exception"]).filter goodWord ++ (vx_atS RX5 309 "java/lang/IllegalStateException" ["java/lang/RuntimeException", "java/lang/Exception"]).filter goodWord)
def wsX5_collect_r1 : List Cond := [Cond.fieldLink RX5 12 "BottleLoop" "trade" "LBottleLoop$Trade;", Cond.fieldLink RX5 26 "BottleLoop" "past" "LBottleLoop$Past;", Cond.fieldLink RX5 20 "BottleLoop" "now" "LBottleLoop$State;", Cond.methodLink RX5 110 yX5_needShop, Cond.instanceMethod yX5_needShop, Cond.selects RX5 yX5_needShop yX5_needShop, Cond.initialized RX5, Cond.code yX5_needShop cX5_needShop 2 none, Cond.classLink RX5 289 "java/lang/IndexOutOfBoundsException", Cond.initialized "java/lang/IndexOutOfBoundsException", Cond.methodLink RX5 286 yX5_isShop, Cond.instanceMethod yX5_isShop, Cond.selects RX5 yX5_isShop yX5_isShop, Cond.code yX5_isShop cX5_isShop 2 (some .boolean), Cond.instanceMethod yX2_ofAll, Cond.initialized RX2, Cond.selects RX2 yX2_ofAll yX2_ofAll, Cond.code yX2_ofAll cX2_ofAll 2 (some .int), Cond.methodLink RX2 32 yX2_get, Cond.instanceMethod yX2_get, Cond.selects RX2 yX2_get yX2_get, Cond.code yX2_get cX2_get 2 (some .int), Cond.fieldLink RX2 11 "BottleLoop$State" "cells" "[I", Cond.methodLink RX5 44 yX5_needKind]
def wsX5_collect_r2 : List Cond := [Cond.static yX5_needKind, Cond.code yX5_needKind cX5_needKind 1 none, Cond.methodLink RX5 48 yX5_needRange, Cond.static yX5_needRange, Cond.code yX5_needRange cX5_needRange 3 none, Cond.methodLink RX5 153 yX5_needArgument, Cond.static yX5_needArgument, Cond.code yX5_needArgument cX5_needArgument 1 none, Cond.classLink RX5 300 "java/lang/IllegalArgumentException", Cond.initialized "java/lang/IllegalArgumentException", Cond.instanceMethod yX4_collectReason, Cond.initialized RX4, Cond.selects RX4 yX4_collectReason yX4_collectReason, Cond.code yX4_collectReason cX4_collectReason 4 (some .int), Cond.fieldLink RX4 12 "BottleLoop$Trade" "state" "LBottleLoop$State;", Cond.methodLink RX4 48 yX4_emptiesOf, Cond.instanceMethod yX4_emptiesOf, Cond.selects RX4 yX4_emptiesOf yX4_emptiesOf, Cond.code yX4_emptiesOf cX4_emptiesOf 5 (some .int), Cond.instanceMethod yX2_ofBrand, Cond.selects RX2 yX2_ofBrand yX2_ofBrand, Cond.code yX2_ofBrand cX2_ofBrand 3 (some .int), Cond.instanceMethod yX2_ofShop, Cond.selects RX2 yX2_ofShop yX2_ofShop]
def wsX5_collect_r3 : List Cond := [Cond.code yX2_ofShop cX2_ofShop 3 (some .int), Cond.methodLink RX5 58 yX5_needState, Cond.static yX5_needState, Cond.code yX5_needState cX5_needState 1 none, Cond.classLink RX5 305 "java/lang/IllegalStateException", Cond.initialized "java/lang/IllegalStateException", Cond.instanceMethod yX1_keep, Cond.initialized RX1, Cond.selects RX1 yX1_keep yX1_keep, Cond.code yX1_keep cX1_keep 3 none, Cond.fieldLink RX1 20 "BottleLoop$Past" "latest" "I", Cond.fieldLink RX1 16 "BottleLoop$Past" "kept" "I", Cond.methodLink RX1 23 yX1_latestState, Cond.instanceMethod yX1_latestState, Cond.selects RX1 yX1_latestState yX1_latestState, Cond.code yX1_latestState cX1_latestState 1 (some (.object "BottleLoop$State")), Cond.fieldLink RX1 11 "BottleLoop$Past" "states" "[LBottleLoop$State;", Cond.instanceMethod yX2_copyFrom, Cond.selects RX2 yX2_copyFrom yX2_copyFrom, Cond.code yX2_copyFrom cX2_copyFrom 2 none, Cond.methodLink RX2 26 arraycopyName, Cond.native arraycopyName, Cond.static arraycopyName, Cond.initialized "java/lang/System"]
def wsX5_collect_r4 : List Cond := [Cond.instanceMethod yX4_collectCrates, Cond.selects RX4 yX4_collectCrates yX4_collectCrates, Cond.code yX4_collectCrates cX4_collectCrates 7 (some .int), Cond.methodLink RX4 30 yX4_crateDeposits, Cond.instanceMethod yX4_crateDeposits, Cond.selects RX4 yX4_crateDeposits yX4_crateDeposits, Cond.code yX4_crateDeposits cX4_crateDeposits 2 (some .int), Cond.instanceMethod yX2_ofSetting, Cond.selects RX2 yX2_ofSetting yX2_ofSetting, Cond.code yX2_ofSetting cX2_ofSetting 2 (some .int), Cond.methodLink RX4 70 yX4_pickEmpties, Cond.instanceMethod yX4_pickEmpties, Cond.selects RX4 yX4_pickEmpties yX4_pickEmpties, Cond.code yX4_pickEmpties cX4_pickEmpties 6 none, Cond.fieldLink RX4 18 "BottleLoop$Trade" "left" "[I", Cond.methodLink RX4 85 yX4_pickOne, Cond.instanceMethod yX4_pickOne, Cond.selects RX4 yX4_pickOne yX4_pickOne, Cond.code yX4_pickOne cX4_pickOne 4 none, Cond.methodLink RX4 73 yX4_pickedOf, Cond.instanceMethod yX4_pickedOf, Cond.selects RX4 yX4_pickedOf yX4_pickedOf, Cond.code yX4_pickedOf cX4_pickedOf 3 (some .int), Cond.static yX5_entry]
def wsX5_collect_r5 : List Cond := [Cond.code yX5_entry cX5_entry 2 (some .int), Cond.instanceMethod yX2_addToShop, Cond.selects RX2 yX2_addToShop yX2_addToShop, Cond.code yX2_addToShop cX2_addToShop 5 none, Cond.methodLink RX2 36 yX2_put, Cond.instanceMethod yX2_put, Cond.selects RX2 yX2_put yX2_put, Cond.code yX2_put cX2_put 3 none, Cond.instanceMethod yX2_addToBrand, Cond.selects RX2 yX2_addToBrand yX2_addToBrand, Cond.code yX2_addToBrand cX2_addToBrand 5 none, Cond.instanceMethod yX2_addToAll, Cond.selects RX2 yX2_addToAll yX2_addToAll, Cond.code yX2_addToAll cX2_addToAll 3 none]
def wsX5_collect : List Cond := .code yX5_collect cX5_collect 4 (some .int) :: ((wsX5_collect_r1 ++ (wsX5_collect_r2 ++ (wsX5_collect_r3 ++ (wsX5_collect_r4 ++ wsX5_collect_r5)))) ++ wsX50 ++ wsX20 ++ wsX40 ++ wsX10 ++ (vx_atS RX5 293 "java/lang/IndexOutOfBoundsException" ["java/lang/RuntimeException", "java/lang/Exception"]).filter goodWord ++ (vx_atS RX5 304 "java/lang/IllegalArgumentException" ["java/lang/RuntimeException", "java/lang/Exception"]).filter goodWord ++ (vx_atS RX5 309 "java/lang/IllegalStateException" ["java/lang/RuntimeException", "java/lang/Exception"]).filter goodWord)
def wsX5_sort_r1 : List Cond := [Cond.fieldLink RX5 12 "BottleLoop" "trade" "LBottleLoop$Trade;", Cond.fieldLink RX5 26 "BottleLoop" "past" "LBottleLoop$Past;", Cond.fieldLink RX5 20 "BottleLoop" "now" "LBottleLoop$State;", Cond.methodLink RX5 44 yX5_needKind, Cond.static yX5_needKind, Cond.initialized RX5, Cond.code yX5_needKind cX5_needKind 1 none, Cond.methodLink RX5 48 yX5_needRange, Cond.static yX5_needRange, Cond.code yX5_needRange cX5_needRange 3 none, Cond.methodLink RX5 153 yX5_needArgument, Cond.static yX5_needArgument, Cond.code yX5_needArgument cX5_needArgument 1 none, Cond.classLink RX5 300 "java/lang/IllegalArgumentException", Cond.initialized "java/lang/IllegalArgumentException", Cond.instanceMethod yX4_yardOf, Cond.initialized RX4, Cond.selects RX4 yX4_yardOf yX4_yardOf, Cond.code yX4_yardOf cX4_yardOf 4 (some .int), Cond.fieldLink RX4 12 "BottleLoop$Trade" "state" "LBottleLoop$State;", Cond.instanceMethod yX2_ofBrand, Cond.initialized RX2, Cond.selects RX2 yX2_ofBrand yX2_ofBrand, Cond.code yX2_ofBrand cX2_ofBrand 3 (some .int)]
def wsX5_sort_r2 : List Cond := [Cond.methodLink RX2 32 yX2_get, Cond.instanceMethod yX2_get, Cond.selects RX2 yX2_get yX2_get, Cond.code yX2_get cX2_get 2 (some .int), Cond.fieldLink RX2 11 "BottleLoop$State" "cells" "[I", Cond.methodLink RX5 58 yX5_needState, Cond.static yX5_needState, Cond.code yX5_needState cX5_needState 1 none, Cond.classLink RX5 305 "java/lang/IllegalStateException", Cond.initialized "java/lang/IllegalStateException", Cond.instanceMethod yX1_keep, Cond.initialized RX1, Cond.selects RX1 yX1_keep yX1_keep, Cond.code yX1_keep cX1_keep 3 none, Cond.fieldLink RX1 20 "BottleLoop$Past" "latest" "I", Cond.fieldLink RX1 16 "BottleLoop$Past" "kept" "I", Cond.methodLink RX1 23 yX1_latestState, Cond.instanceMethod yX1_latestState, Cond.selects RX1 yX1_latestState yX1_latestState, Cond.code yX1_latestState cX1_latestState 1 (some (.object "BottleLoop$State")), Cond.fieldLink RX1 11 "BottleLoop$Past" "states" "[LBottleLoop$State;", Cond.instanceMethod yX2_copyFrom, Cond.selects RX2 yX2_copyFrom yX2_copyFrom, Cond.code yX2_copyFrom cX2_copyFrom 2 none]
def wsX5_sort_r3 : List Cond := [Cond.methodLink RX2 26 arraycopyName, Cond.native arraycopyName, Cond.static arraycopyName, Cond.initialized "java/lang/System", Cond.instanceMethod yX4_sortBottles, Cond.selects RX4 yX4_sortBottles yX4_sortBottles, Cond.code yX4_sortBottles cX4_sortBottles 6 (some .int), Cond.methodLink RX4 65 Lib.Math.min.name, Cond.static Lib.Math.min.name, Cond.initialized "java/lang/Math", Cond.code Lib.Math.min.name Lib.Math.min.code 2 (some .int), Cond.instanceMethod yX2_addToBrand, Cond.selects RX2 yX2_addToBrand yX2_addToBrand, Cond.code yX2_addToBrand cX2_addToBrand 5 none, Cond.methodLink RX2 36 yX2_put, Cond.instanceMethod yX2_put, Cond.selects RX2 yX2_put yX2_put, Cond.code yX2_put cX2_put 3 none, Cond.methodLink RX4 76 yX4_yardOf]
def wsX5_sort : List Cond := .code yX5_sort cX5_sort 3 (some .int) :: ((wsX5_sort_r1 ++ (wsX5_sort_r2 ++ wsX5_sort_r3)) ++ wsX50 ++ wsX40 ++ wsX20 ++ wsX10 ++ (vx_atS RX5 304 "java/lang/IllegalArgumentException" ["java/lang/RuntimeException", "java/lang/Exception"]).filter goodWord ++ (vx_atS RX5 309 "java/lang/IllegalStateException" ["java/lang/RuntimeException", "java/lang/Exception"]).filter goodWord)
def wsX5_swap_r1 : List Cond := [Cond.fieldLink RX5 20 "BottleLoop" "now" "LBottleLoop$State;", Cond.fieldLink RX5 26 "BottleLoop" "past" "LBottleLoop$Past;", Cond.fieldLink RX5 12 "BottleLoop" "trade" "LBottleLoop$Trade;", Cond.methodLink RX5 100 yX5_needBrand, Cond.instanceMethod yX5_needBrand, Cond.selects RX5 yX5_needBrand yX5_needBrand, Cond.initialized RX5, Cond.code yX5_needBrand cX5_needBrand 2 none, Cond.classLink RX5 289 "java/lang/IndexOutOfBoundsException", Cond.initialized "java/lang/IndexOutOfBoundsException", Cond.methodLink RX5 283 yX5_isBrand, Cond.instanceMethod yX5_isBrand, Cond.selects RX5 yX5_isBrand yX5_isBrand, Cond.code yX5_isBrand cX5_isBrand 2 (some .boolean), Cond.instanceMethod yX2_ofAll, Cond.initialized RX2, Cond.selects RX2 yX2_ofAll yX2_ofAll, Cond.code yX2_ofAll cX2_ofAll 2 (some .int), Cond.methodLink RX2 32 yX2_get, Cond.instanceMethod yX2_get, Cond.selects RX2 yX2_get yX2_get, Cond.code yX2_get cX2_get 2 (some .int), Cond.fieldLink RX2 11 "BottleLoop$State" "cells" "[I", Cond.instanceMethod yX2_ofBrand]
def wsX5_swap_r2 : List Cond := [Cond.selects RX2 yX2_ofBrand yX2_ofBrand, Cond.code yX2_ofBrand cX2_ofBrand 3 (some .int), Cond.methodLink RX5 153 yX5_needArgument, Cond.static yX5_needArgument, Cond.code yX5_needArgument cX5_needArgument 1 none, Cond.classLink RX5 300 "java/lang/IllegalArgumentException", Cond.initialized "java/lang/IllegalArgumentException", Cond.methodLink RX5 48 yX5_needRange, Cond.static yX5_needRange, Cond.code yX5_needRange cX5_needRange 3 none, Cond.methodLink RX5 58 yX5_needState, Cond.static yX5_needState, Cond.code yX5_needState cX5_needState 1 none, Cond.classLink RX5 305 "java/lang/IllegalStateException", Cond.initialized "java/lang/IllegalStateException", Cond.instanceMethod yX1_keep, Cond.initialized RX1, Cond.selects RX1 yX1_keep yX1_keep, Cond.code yX1_keep cX1_keep 3 none, Cond.fieldLink RX1 20 "BottleLoop$Past" "latest" "I", Cond.fieldLink RX1 16 "BottleLoop$Past" "kept" "I", Cond.methodLink RX1 23 yX1_latestState, Cond.instanceMethod yX1_latestState, Cond.selects RX1 yX1_latestState yX1_latestState]
def wsX5_swap_r3 : List Cond := [Cond.code yX1_latestState cX1_latestState 1 (some (.object "BottleLoop$State")), Cond.fieldLink RX1 11 "BottleLoop$Past" "states" "[LBottleLoop$State;", Cond.instanceMethod yX2_copyFrom, Cond.selects RX2 yX2_copyFrom yX2_copyFrom, Cond.code yX2_copyFrom cX2_copyFrom 2 none, Cond.methodLink RX2 26 arraycopyName, Cond.native arraycopyName, Cond.static arraycopyName, Cond.initialized "java/lang/System", Cond.instanceMethod yX4_swapBottles, Cond.initialized RX4, Cond.selects RX4 yX4_swapBottles yX4_swapBottles, Cond.code yX4_swapBottles cX4_swapBottles 4 (some .int), Cond.fieldLink RX4 12 "BottleLoop$Trade" "state" "LBottleLoop$State;", Cond.instanceMethod yX2_addToBrand, Cond.selects RX2 yX2_addToBrand yX2_addToBrand, Cond.code yX2_addToBrand cX2_addToBrand 5 none, Cond.methodLink RX2 36 yX2_put, Cond.instanceMethod yX2_put, Cond.selects RX2 yX2_put yX2_put, Cond.code yX2_put cX2_put 3 none, Cond.instanceMethod yX2_addToSwaps, Cond.selects RX2 yX2_addToSwaps yX2_addToSwaps, Cond.code yX2_addToSwaps cX2_addToSwaps 5 none]
def wsX5_swap_r4 : List Cond := [Cond.instanceMethod yX2_ofSwaps, Cond.selects RX2 yX2_ofSwaps yX2_ofSwaps, Cond.code yX2_ofSwaps cX2_ofSwaps 3 (some .int)]
def wsX5_swap : List Cond := .code yX5_swap cX5_swap 4 (some .int) :: ((wsX5_swap_r1 ++ (wsX5_swap_r2 ++ (wsX5_swap_r3 ++ wsX5_swap_r4))) ++ wsX50 ++ wsX20 ++ wsX10 ++ wsX40 ++ (vx_atS RX5 293 "java/lang/IndexOutOfBoundsException" ["java/lang/RuntimeException", "java/lang/Exception"]).filter goodWord ++ (vx_atS RX5 304 "java/lang/IllegalArgumentException" ["java/lang/RuntimeException", "java/lang/Exception"]).filter goodWord ++ (vx_atS RX5 309 "java/lang/IllegalStateException" ["java/lang/RuntimeException", "java/lang/Exception"]).filter goodWord)
def wsX5_undo_r1 : List Cond := [Cond.fieldLink RX5 26 "BottleLoop" "past" "LBottleLoop$Past;", Cond.fieldLink RX5 20 "BottleLoop" "now" "LBottleLoop$State;", Cond.instanceMethod yX1_kept, Cond.initialized RX1, Cond.selects RX1 yX1_kept yX1_kept, Cond.code yX1_kept cX1_kept 1 (some .int), Cond.fieldLink RX1 16 "BottleLoop$Past" "kept" "I", Cond.methodLink RX5 58 yX5_needState, Cond.static yX5_needState, Cond.initialized RX5, Cond.code yX5_needState cX5_needState 1 none, Cond.classLink RX5 305 "java/lang/IllegalStateException", Cond.initialized "java/lang/IllegalStateException", Cond.instanceMethod yX1_giveBack, Cond.selects RX1 yX1_giveBack yX1_giveBack, Cond.code yX1_giveBack cX1_giveBack 2 none, Cond.fieldLink RX1 20 "BottleLoop$Past" "latest" "I", Cond.methodLink RX1 23 yX1_latestState, Cond.instanceMethod yX1_latestState, Cond.selects RX1 yX1_latestState yX1_latestState, Cond.code yX1_latestState cX1_latestState 1 (some (.object "BottleLoop$State")), Cond.fieldLink RX1 11 "BottleLoop$Past" "states" "[LBottleLoop$State;", Cond.instanceMethod yX2_copyFrom, Cond.initialized RX2]
def wsX5_undo_r2 : List Cond := [Cond.selects RX2 yX2_copyFrom yX2_copyFrom, Cond.code yX2_copyFrom cX2_copyFrom 2 none, Cond.fieldLink RX2 11 "BottleLoop$State" "cells" "[I", Cond.methodLink RX2 26 arraycopyName, Cond.native arraycopyName, Cond.static arraycopyName, Cond.initialized "java/lang/System"]
def wsX5_undo : List Cond := .code yX5_undo cX5_undo 1 (some .int) :: ((wsX5_undo_r1 ++ wsX5_undo_r2) ++ wsX50 ++ wsX10 ++ wsX20 ++ (vx_atS RX5 309 "java/lang/IllegalStateException" ["java/lang/RuntimeException", "java/lang/Exception"]).filter goodWord)
def wsX5_brand_r1 : List Cond := [Cond.fieldLink RX5 20 "BottleLoop" "now" "LBottleLoop$State;", Cond.methodLink RX5 100 yX5_needBrand, Cond.instanceMethod yX5_needBrand, Cond.selects RX5 yX5_needBrand yX5_needBrand, Cond.initialized RX5, Cond.code yX5_needBrand cX5_needBrand 2 none, Cond.classLink RX5 289 "java/lang/IndexOutOfBoundsException", Cond.initialized "java/lang/IndexOutOfBoundsException", Cond.methodLink RX5 283 yX5_isBrand, Cond.instanceMethod yX5_isBrand, Cond.selects RX5 yX5_isBrand yX5_isBrand, Cond.code yX5_isBrand cX5_isBrand 2 (some .boolean), Cond.instanceMethod yX2_ofAll, Cond.initialized RX2, Cond.selects RX2 yX2_ofAll yX2_ofAll, Cond.code yX2_ofAll cX2_ofAll 2 (some .int), Cond.methodLink RX2 32 yX2_get, Cond.instanceMethod yX2_get, Cond.selects RX2 yX2_get yX2_get, Cond.code yX2_get cX2_get 2 (some .int), Cond.fieldLink RX2 11 "BottleLoop$State" "cells" "[I", Cond.methodLink RX5 48 yX5_needRange, Cond.static yX5_needRange, Cond.code yX5_needRange cX5_needRange 3 none]
def wsX5_brand_r2 : List Cond := [Cond.methodLink RX5 153 yX5_needArgument, Cond.static yX5_needArgument, Cond.code yX5_needArgument cX5_needArgument 1 none, Cond.classLink RX5 300 "java/lang/IllegalArgumentException", Cond.initialized "java/lang/IllegalArgumentException", Cond.instanceMethod yX2_brandNumber, Cond.selects RX2 yX2_brandNumber yX2_brandNumber, Cond.code yX2_brandNumber cX2_brandNumber 3 (some .int), Cond.methodLink RX2 39 yX2_overShops, Cond.instanceMethod yX2_overShops, Cond.selects RX2 yX2_overShops yX2_overShops, Cond.code yX2_overShops cX2_overShops 4 (some .int), Cond.methodLink RX2 49 yX2_ofShop, Cond.instanceMethod yX2_ofShop, Cond.selects RX2 yX2_ofShop yX2_ofShop, Cond.code yX2_ofShop cX2_ofShop 3 (some .int), Cond.methodLink RX2 42 yX2_ofBrand, Cond.instanceMethod yX2_ofBrand, Cond.selects RX2 yX2_ofBrand yX2_ofBrand, Cond.code yX2_ofBrand cX2_ofBrand 3 (some .int)]
def wsX5_brand : List Cond := .code yX5_brand cX5_brand 3 (some .int) :: ((wsX5_brand_r1 ++ wsX5_brand_r2) ++ wsX50 ++ wsX20 ++ (vx_atS RX5 293 "java/lang/IndexOutOfBoundsException" ["java/lang/RuntimeException", "java/lang/Exception"]).filter goodWord ++ (vx_atS RX5 304 "java/lang/IllegalArgumentException" ["java/lang/RuntimeException", "java/lang/Exception"]).filter goodWord)
def wsX5_isShopNumber : List Cond := .code yX5_isShopNumber cX5_isShopNumber 1 (some .boolean) :: ([])
def wsX5_shop_r1 : List Cond := [Cond.fieldLink RX5 20 "BottleLoop" "now" "LBottleLoop$State;", Cond.methodLink RX5 110 yX5_needShop, Cond.instanceMethod yX5_needShop, Cond.selects RX5 yX5_needShop yX5_needShop, Cond.initialized RX5, Cond.code yX5_needShop cX5_needShop 2 none, Cond.classLink RX5 289 "java/lang/IndexOutOfBoundsException", Cond.initialized "java/lang/IndexOutOfBoundsException", Cond.methodLink RX5 286 yX5_isShop, Cond.instanceMethod yX5_isShop, Cond.selects RX5 yX5_isShop yX5_isShop, Cond.code yX5_isShop cX5_isShop 2 (some .boolean), Cond.instanceMethod yX2_ofAll, Cond.initialized RX2, Cond.selects RX2 yX2_ofAll yX2_ofAll, Cond.code yX2_ofAll cX2_ofAll 2 (some .int), Cond.methodLink RX2 32 yX2_get, Cond.instanceMethod yX2_get, Cond.selects RX2 yX2_get yX2_get, Cond.code yX2_get cX2_get 2 (some .int), Cond.fieldLink RX2 11 "BottleLoop$State" "cells" "[I", Cond.methodLink RX5 188 yX5_isShopNumber, Cond.static yX5_isShopNumber, Cond.code yX5_isShopNumber cX5_isShopNumber 1 (some .boolean)]
def wsX5_shop_r2 : List Cond := [Cond.methodLink RX5 153 yX5_needArgument, Cond.static yX5_needArgument, Cond.code yX5_needArgument cX5_needArgument 1 none, Cond.classLink RX5 300 "java/lang/IllegalArgumentException", Cond.initialized "java/lang/IllegalArgumentException", Cond.instanceMethod yX2_shopNumber, Cond.selects RX2 yX2_shopNumber yX2_shopNumber, Cond.code yX2_shopNumber cX2_shopNumber 3 (some .int), Cond.methodLink RX2 46 yX2_overBrandsOf, Cond.instanceMethod yX2_overBrandsOf, Cond.selects RX2 yX2_overBrandsOf yX2_overBrandsOf, Cond.code yX2_overBrandsOf cX2_overBrandsOf 5 (some .int), Cond.methodLink RX2 49 yX2_ofShop, Cond.instanceMethod yX2_ofShop, Cond.selects RX2 yX2_ofShop yX2_ofShop, Cond.code yX2_ofShop cX2_ofShop 3 (some .int)]
def wsX5_shop : List Cond := .code yX5_shop cX5_shop 3 (some .int) :: ((wsX5_shop_r1 ++ wsX5_shop_r2) ++ wsX50 ++ wsX20 ++ (vx_atS RX5 293 "java/lang/IndexOutOfBoundsException" ["java/lang/RuntimeException", "java/lang/Exception"]).filter goodWord ++ (vx_atS RX5 304 "java/lang/IllegalArgumentException" ["java/lang/RuntimeException", "java/lang/Exception"]).filter goodWord)
def wsX5_count_r1 : List Cond := [Cond.fieldLink RX5 26 "BottleLoop" "past" "LBottleLoop$Past;", Cond.fieldLink RX5 20 "BottleLoop" "now" "LBottleLoop$State;", Cond.methodLink RX5 48 yX5_needRange, Cond.static yX5_needRange, Cond.initialized RX5, Cond.code yX5_needRange cX5_needRange 3 none, Cond.methodLink RX5 153 yX5_needArgument, Cond.static yX5_needArgument, Cond.code yX5_needArgument cX5_needArgument 1 none, Cond.classLink RX5 300 "java/lang/IllegalArgumentException", Cond.initialized "java/lang/IllegalArgumentException", Cond.instanceMethod yX1_kept, Cond.initialized RX1, Cond.selects RX1 yX1_kept yX1_kept, Cond.code yX1_kept cX1_kept 1 (some .int), Cond.fieldLink RX1 16 "BottleLoop$Past" "kept" "I", Cond.instanceMethod yX2_countNumber, Cond.initialized RX2, Cond.selects RX2 yX2_countNumber yX2_countNumber, Cond.code yX2_countNumber cX2_countNumber 2 (some .int), Cond.methodLink RX2 39 yX2_overShops, Cond.instanceMethod yX2_overShops, Cond.selects RX2 yX2_overShops yX2_overShops, Cond.code yX2_overShops cX2_overShops 4 (some .int)]
def wsX5_count_r2 : List Cond := [Cond.methodLink RX2 49 yX2_ofShop, Cond.instanceMethod yX2_ofShop, Cond.selects RX2 yX2_ofShop yX2_ofShop, Cond.code yX2_ofShop cX2_ofShop 3 (some .int), Cond.methodLink RX2 32 yX2_get, Cond.instanceMethod yX2_get, Cond.selects RX2 yX2_get yX2_get, Cond.code yX2_get cX2_get 2 (some .int), Cond.fieldLink RX2 11 "BottleLoop$State" "cells" "[I", Cond.methodLink RX2 52 yX2_overBrands, Cond.instanceMethod yX2_overBrands, Cond.selects RX2 yX2_overBrands yX2_overBrands, Cond.code yX2_overBrands cX2_overBrands 4 (some .int), Cond.methodLink RX2 42 yX2_ofBrand, Cond.instanceMethod yX2_ofBrand, Cond.selects RX2 yX2_ofBrand yX2_ofBrand, Cond.code yX2_ofBrand cX2_ofBrand 3 (some .int), Cond.methodLink RX2 55 yX2_ofAll, Cond.instanceMethod yX2_ofAll, Cond.selects RX2 yX2_ofAll yX2_ofAll, Cond.code yX2_ofAll cX2_ofAll 2 (some .int)]
def wsX5_count : List Cond := .code yX5_count cX5_count 2 (some .int) :: ((wsX5_count_r1 ++ wsX5_count_r2) ++ wsX50 ++ wsX10 ++ wsX20 ++ (vx_atS RX5 304 "java/lang/IllegalArgumentException" ["java/lang/RuntimeException", "java/lang/Exception"]).filter goodWord)
def wsX5_setting : List Cond := .code yX5_setting cX5_setting 2 (some .int) :: ([.fieldLink RX5 20 "BottleLoop" "now" "LBottleLoop$State;", .methodLink RX5 80 yX5_needSetting, .static yX5_needSetting, .initialized RX5, .code yX5_needSetting cX5_needSetting 1 none, .classLink RX5 289 "java/lang/IndexOutOfBoundsException", .initialized "java/lang/IndexOutOfBoundsException", .instanceMethod yX2_ofSetting, .initialized RX2, .selects RX2 yX2_ofSetting yX2_ofSetting, .code yX2_ofSetting cX2_ofSetting 2 (some .int), .methodLink RX2 32 yX2_get, .instanceMethod yX2_get, .selects RX2 yX2_get yX2_get, .code yX2_get cX2_get 2 (some .int), .fieldLink RX2 11 "BottleLoop$State" "cells" "[I"] ++ wsX50 ++ wsX20 ++ (vx_atS RX5 293 "java/lang/IndexOutOfBoundsException" ["java/lang/RuntimeException", "java/lang/Exception"]).filter goodWord)
def wsX5_whyNotDeliver_r1 : List Cond := [Cond.fieldLink RX5 12 "BottleLoop" "trade" "LBottleLoop$Trade;", Cond.methodLink RX5 100 yX5_needBrand, Cond.instanceMethod yX5_needBrand, Cond.selects RX5 yX5_needBrand yX5_needBrand, Cond.initialized RX5, Cond.code yX5_needBrand cX5_needBrand 2 none, Cond.classLink RX5 289 "java/lang/IndexOutOfBoundsException", Cond.initialized "java/lang/IndexOutOfBoundsException", Cond.methodLink RX5 283 yX5_isBrand, Cond.instanceMethod yX5_isBrand, Cond.selects RX5 yX5_isBrand yX5_isBrand, Cond.code yX5_isBrand cX5_isBrand 2 (some .boolean), Cond.fieldLink RX5 20 "BottleLoop" "now" "LBottleLoop$State;", Cond.instanceMethod yX2_ofAll, Cond.initialized RX2, Cond.selects RX2 yX2_ofAll yX2_ofAll, Cond.code yX2_ofAll cX2_ofAll 2 (some .int), Cond.methodLink RX2 32 yX2_get, Cond.instanceMethod yX2_get, Cond.selects RX2 yX2_get yX2_get, Cond.code yX2_get cX2_get 2 (some .int), Cond.fieldLink RX2 11 "BottleLoop$State" "cells" "[I", Cond.methodLink RX5 110 yX5_needShop, Cond.instanceMethod yX5_needShop]
def wsX5_whyNotDeliver_r2 : List Cond := [Cond.selects RX5 yX5_needShop yX5_needShop, Cond.code yX5_needShop cX5_needShop 2 none, Cond.methodLink RX5 286 yX5_isShop, Cond.instanceMethod yX5_isShop, Cond.selects RX5 yX5_isShop yX5_isShop, Cond.code yX5_isShop cX5_isShop 2 (some .boolean), Cond.methodLink RX5 48 yX5_needRange, Cond.static yX5_needRange, Cond.code yX5_needRange cX5_needRange 3 none, Cond.methodLink RX5 153 yX5_needArgument, Cond.static yX5_needArgument, Cond.code yX5_needArgument cX5_needArgument 1 none, Cond.classLink RX5 300 "java/lang/IllegalArgumentException", Cond.initialized "java/lang/IllegalArgumentException", Cond.instanceMethod yX4_deliverReason, Cond.initialized RX4, Cond.selects RX4 yX4_deliverReason yX4_deliverReason, Cond.code yX4_deliverReason cX4_deliverReason 4 (some .int), Cond.fieldLink RX4 12 "BottleLoop$Trade" "state" "LBottleLoop$State;", Cond.instanceMethod yX2_ofBrand, Cond.selects RX2 yX2_ofBrand yX2_ofBrand, Cond.code yX2_ofBrand cX2_ofBrand 3 (some .int), Cond.instanceMethod yX2_ofShop, Cond.selects RX2 yX2_ofShop yX2_ofShop]
def wsX5_whyNotDeliver_r3 : List Cond := [Cond.code yX2_ofShop cX2_ofShop 3 (some .int), Cond.methodLink RX4 39 yX4_cratePrice, Cond.instanceMethod yX4_cratePrice, Cond.selects RX4 yX4_cratePrice yX4_cratePrice, Cond.code yX4_cratePrice cX4_cratePrice 2 (some .int), Cond.methodLink RX4 30 yX4_crateDeposits, Cond.instanceMethod yX4_crateDeposits, Cond.selects RX4 yX4_crateDeposits yX4_crateDeposits, Cond.code yX4_crateDeposits cX4_crateDeposits 2 (some .int), Cond.instanceMethod yX2_ofSetting, Cond.selects RX2 yX2_ofSetting yX2_ofSetting, Cond.code yX2_ofSetting cX2_ofSetting 2 (some .int)]
def wsX5_whyNotDeliver : List Cond := .code yX5_whyNotDeliver cX5_whyNotDeliver 4 (some .int) :: ((wsX5_whyNotDeliver_r1 ++ (wsX5_whyNotDeliver_r2 ++ wsX5_whyNotDeliver_r3)) ++ wsX50 ++ wsX20 ++ wsX40 ++ (vx_atS RX5 293 "java/lang/IndexOutOfBoundsException" ["java/lang/RuntimeException", "java/lang/Exception"]).filter goodWord ++ (vx_atS RX5 304 "java/lang/IllegalArgumentException" ["java/lang/RuntimeException", "java/lang/Exception"]).filter goodWord)
def wsX5_whyNotCollect_r1 : List Cond := [Cond.fieldLink RX5 12 "BottleLoop" "trade" "LBottleLoop$Trade;", Cond.methodLink RX5 110 yX5_needShop, Cond.instanceMethod yX5_needShop, Cond.selects RX5 yX5_needShop yX5_needShop, Cond.initialized RX5, Cond.code yX5_needShop cX5_needShop 2 none, Cond.classLink RX5 289 "java/lang/IndexOutOfBoundsException", Cond.initialized "java/lang/IndexOutOfBoundsException", Cond.methodLink RX5 286 yX5_isShop, Cond.instanceMethod yX5_isShop, Cond.selects RX5 yX5_isShop yX5_isShop, Cond.code yX5_isShop cX5_isShop 2 (some .boolean), Cond.fieldLink RX5 20 "BottleLoop" "now" "LBottleLoop$State;", Cond.instanceMethod yX2_ofAll, Cond.initialized RX2, Cond.selects RX2 yX2_ofAll yX2_ofAll, Cond.code yX2_ofAll cX2_ofAll 2 (some .int), Cond.methodLink RX2 32 yX2_get, Cond.instanceMethod yX2_get, Cond.selects RX2 yX2_get yX2_get, Cond.code yX2_get cX2_get 2 (some .int), Cond.fieldLink RX2 11 "BottleLoop$State" "cells" "[I", Cond.methodLink RX5 44 yX5_needKind, Cond.static yX5_needKind]
def wsX5_whyNotCollect_r2 : List Cond := [Cond.code yX5_needKind cX5_needKind 1 none, Cond.methodLink RX5 48 yX5_needRange, Cond.static yX5_needRange, Cond.code yX5_needRange cX5_needRange 3 none, Cond.methodLink RX5 153 yX5_needArgument, Cond.static yX5_needArgument, Cond.code yX5_needArgument cX5_needArgument 1 none, Cond.classLink RX5 300 "java/lang/IllegalArgumentException", Cond.initialized "java/lang/IllegalArgumentException", Cond.instanceMethod yX4_collectReason, Cond.initialized RX4, Cond.selects RX4 yX4_collectReason yX4_collectReason, Cond.code yX4_collectReason cX4_collectReason 4 (some .int), Cond.fieldLink RX4 12 "BottleLoop$Trade" "state" "LBottleLoop$State;", Cond.methodLink RX4 48 yX4_emptiesOf, Cond.instanceMethod yX4_emptiesOf, Cond.selects RX4 yX4_emptiesOf yX4_emptiesOf, Cond.code yX4_emptiesOf cX4_emptiesOf 5 (some .int), Cond.instanceMethod yX2_ofBrand, Cond.selects RX2 yX2_ofBrand yX2_ofBrand, Cond.code yX2_ofBrand cX2_ofBrand 3 (some .int), Cond.instanceMethod yX2_ofShop, Cond.selects RX2 yX2_ofShop yX2_ofShop, Cond.code yX2_ofShop cX2_ofShop 3 (some .int)]
def wsX5_whyNotCollect : List Cond := .code yX5_whyNotCollect cX5_whyNotCollect 4 (some .int) :: ((wsX5_whyNotCollect_r1 ++ wsX5_whyNotCollect_r2) ++ wsX50 ++ wsX20 ++ wsX40 ++ (vx_atS RX5 293 "java/lang/IndexOutOfBoundsException" ["java/lang/RuntimeException", "java/lang/Exception"]).filter goodWord ++ (vx_atS RX5 304 "java/lang/IllegalArgumentException" ["java/lang/RuntimeException", "java/lang/Exception"]).filter goodWord)
def wsX5_mostCrates_r1 : List Cond := [Cond.fieldLink RX5 12 "BottleLoop" "trade" "LBottleLoop$Trade;", Cond.methodLink RX5 100 yX5_needBrand, Cond.instanceMethod yX5_needBrand, Cond.selects RX5 yX5_needBrand yX5_needBrand, Cond.initialized RX5, Cond.code yX5_needBrand cX5_needBrand 2 none, Cond.classLink RX5 289 "java/lang/IndexOutOfBoundsException", Cond.initialized "java/lang/IndexOutOfBoundsException", Cond.methodLink RX5 283 yX5_isBrand, Cond.instanceMethod yX5_isBrand, Cond.selects RX5 yX5_isBrand yX5_isBrand, Cond.code yX5_isBrand cX5_isBrand 2 (some .boolean), Cond.fieldLink RX5 20 "BottleLoop" "now" "LBottleLoop$State;", Cond.instanceMethod yX2_ofAll, Cond.initialized RX2, Cond.selects RX2 yX2_ofAll yX2_ofAll, Cond.code yX2_ofAll cX2_ofAll 2 (some .int), Cond.methodLink RX2 32 yX2_get, Cond.instanceMethod yX2_get, Cond.selects RX2 yX2_get yX2_get, Cond.code yX2_get cX2_get 2 (some .int), Cond.fieldLink RX2 11 "BottleLoop$State" "cells" "[I", Cond.methodLink RX5 110 yX5_needShop, Cond.instanceMethod yX5_needShop]
def wsX5_mostCrates_r2 : List Cond := [Cond.selects RX5 yX5_needShop yX5_needShop, Cond.code yX5_needShop cX5_needShop 2 none, Cond.methodLink RX5 286 yX5_isShop, Cond.instanceMethod yX5_isShop, Cond.selects RX5 yX5_isShop yX5_isShop, Cond.code yX5_isShop cX5_isShop 2 (some .boolean), Cond.instanceMethod yX4_mostDeliverable, Cond.initialized RX4, Cond.selects RX4 yX4_mostDeliverable yX4_mostDeliverable, Cond.code yX4_mostDeliverable cX4_mostDeliverable 6 (some .int), Cond.fieldLink RX4 12 "BottleLoop$Trade" "state" "LBottleLoop$State;", Cond.methodLink RX4 65 Lib.Math.min.name, Cond.static Lib.Math.min.name, Cond.initialized "java/lang/Math", Cond.code Lib.Math.min.name Lib.Math.min.code 2 (some .int), Cond.methodLink RX4 39 yX4_cratePrice, Cond.instanceMethod yX4_cratePrice, Cond.selects RX4 yX4_cratePrice yX4_cratePrice, Cond.code yX4_cratePrice cX4_cratePrice 2 (some .int), Cond.instanceMethod yX2_ofBrand, Cond.selects RX2 yX2_ofBrand yX2_ofBrand, Cond.code yX2_ofBrand cX2_ofBrand 3 (some .int), Cond.methodLink RX4 30 yX4_crateDeposits, Cond.instanceMethod yX4_crateDeposits]
def wsX5_mostCrates_r3 : List Cond := [Cond.selects RX4 yX4_crateDeposits yX4_crateDeposits, Cond.code yX4_crateDeposits cX4_crateDeposits 2 (some .int), Cond.instanceMethod yX2_ofSetting, Cond.selects RX2 yX2_ofSetting yX2_ofSetting, Cond.code yX2_ofSetting cX2_ofSetting 2 (some .int), Cond.instanceMethod yX2_ofShop, Cond.selects RX2 yX2_ofShop yX2_ofShop, Cond.code yX2_ofShop cX2_ofShop 3 (some .int)]
def wsX5_mostCrates : List Cond := .code yX5_mostCrates cX5_mostCrates 3 (some .int) :: ((wsX5_mostCrates_r1 ++ (wsX5_mostCrates_r2 ++ wsX5_mostCrates_r3)) ++ wsX50 ++ wsX20 ++ wsX40 ++ (vx_atS RX5 293 "java/lang/IndexOutOfBoundsException" ["java/lang/RuntimeException", "java/lang/Exception"]).filter goodWord)
def wsX5_collected_r1 : List Cond := [Cond.fieldLink RX5 12 "BottleLoop" "trade" "LBottleLoop$Trade;", Cond.methodLink RX5 110 yX5_needShop, Cond.instanceMethod yX5_needShop, Cond.selects RX5 yX5_needShop yX5_needShop, Cond.initialized RX5, Cond.code yX5_needShop cX5_needShop 2 none, Cond.classLink RX5 289 "java/lang/IndexOutOfBoundsException", Cond.initialized "java/lang/IndexOutOfBoundsException", Cond.methodLink RX5 286 yX5_isShop, Cond.instanceMethod yX5_isShop, Cond.selects RX5 yX5_isShop yX5_isShop, Cond.code yX5_isShop cX5_isShop 2 (some .boolean), Cond.fieldLink RX5 20 "BottleLoop" "now" "LBottleLoop$State;", Cond.instanceMethod yX2_ofAll, Cond.initialized RX2, Cond.selects RX2 yX2_ofAll yX2_ofAll, Cond.code yX2_ofAll cX2_ofAll 2 (some .int), Cond.methodLink RX2 32 yX2_get, Cond.instanceMethod yX2_get, Cond.selects RX2 yX2_get yX2_get, Cond.code yX2_get cX2_get 2 (some .int), Cond.fieldLink RX2 11 "BottleLoop$State" "cells" "[I", Cond.methodLink RX5 100 yX5_needBrand, Cond.instanceMethod yX5_needBrand]
def wsX5_collected_r2 : List Cond := [Cond.selects RX5 yX5_needBrand yX5_needBrand, Cond.code yX5_needBrand cX5_needBrand 2 none, Cond.methodLink RX5 283 yX5_isBrand, Cond.instanceMethod yX5_isBrand, Cond.selects RX5 yX5_isBrand yX5_isBrand, Cond.code yX5_isBrand cX5_isBrand 2 (some .boolean), Cond.methodLink RX5 48 yX5_needRange, Cond.static yX5_needRange, Cond.code yX5_needRange cX5_needRange 3 none, Cond.methodLink RX5 153 yX5_needArgument, Cond.static yX5_needArgument, Cond.code yX5_needArgument cX5_needArgument 1 none, Cond.classLink RX5 300 "java/lang/IllegalArgumentException", Cond.initialized "java/lang/IllegalArgumentException", Cond.instanceMethod yX4_wouldCollect, Cond.initialized RX4, Cond.selects RX4 yX4_wouldCollect yX4_wouldCollect, Cond.code yX4_wouldCollect cX4_wouldCollect 5 (some .int), Cond.fieldLink RX4 12 "BottleLoop$Trade" "state" "LBottleLoop$State;", Cond.instanceMethod yX2_ofBrand, Cond.selects RX2 yX2_ofBrand yX2_ofBrand, Cond.code yX2_ofBrand cX2_ofBrand 3 (some .int), Cond.methodLink RX4 92 yX4_collectReason, Cond.instanceMethod yX4_collectReason]
def wsX5_collected_r3 : List Cond := [Cond.selects RX4 yX4_collectReason yX4_collectReason, Cond.code yX4_collectReason cX4_collectReason 4 (some .int), Cond.methodLink RX4 48 yX4_emptiesOf, Cond.instanceMethod yX4_emptiesOf, Cond.selects RX4 yX4_emptiesOf yX4_emptiesOf, Cond.code yX4_emptiesOf cX4_emptiesOf 5 (some .int), Cond.instanceMethod yX2_ofShop, Cond.selects RX2 yX2_ofShop yX2_ofShop, Cond.code yX2_ofShop cX2_ofShop 3 (some .int), Cond.methodLink RX4 70 yX4_pickEmpties, Cond.instanceMethod yX4_pickEmpties, Cond.selects RX4 yX4_pickEmpties yX4_pickEmpties, Cond.code yX4_pickEmpties cX4_pickEmpties 6 none, Cond.fieldLink RX4 18 "BottleLoop$Trade" "left" "[I", Cond.methodLink RX4 85 yX4_pickOne, Cond.instanceMethod yX4_pickOne, Cond.selects RX4 yX4_pickOne yX4_pickOne, Cond.code yX4_pickOne cX4_pickOne 4 none, Cond.methodLink RX4 73 yX4_pickedOf, Cond.instanceMethod yX4_pickedOf, Cond.selects RX4 yX4_pickedOf yX4_pickedOf, Cond.code yX4_pickedOf cX4_pickedOf 3 (some .int), Cond.static yX5_entry, Cond.code yX5_entry cX5_entry 2 (some .int)]
def wsX5_collected : List Cond := .code yX5_collected cX5_collected 4 (some .int) :: ((wsX5_collected_r1 ++ (wsX5_collected_r2 ++ wsX5_collected_r3)) ++ wsX50 ++ wsX20 ++ wsX40 ++ (vx_atS RX5 293 "java/lang/IndexOutOfBoundsException" ["java/lang/RuntimeException", "java/lang/Exception"]).filter goodWord ++ (vx_atS RX5 304 "java/lang/IllegalArgumentException" ["java/lang/RuntimeException", "java/lang/Exception"]).filter goodWord)
def wsX5_filled_r1 : List Cond := [Cond.fieldLink RX5 12 "BottleLoop" "trade" "LBottleLoop$Trade;", Cond.methodLink RX5 100 yX5_needBrand, Cond.instanceMethod yX5_needBrand, Cond.selects RX5 yX5_needBrand yX5_needBrand, Cond.initialized RX5, Cond.code yX5_needBrand cX5_needBrand 2 none, Cond.classLink RX5 289 "java/lang/IndexOutOfBoundsException", Cond.initialized "java/lang/IndexOutOfBoundsException", Cond.methodLink RX5 283 yX5_isBrand, Cond.instanceMethod yX5_isBrand, Cond.selects RX5 yX5_isBrand yX5_isBrand, Cond.code yX5_isBrand cX5_isBrand 2 (some .boolean), Cond.fieldLink RX5 20 "BottleLoop" "now" "LBottleLoop$State;", Cond.instanceMethod yX2_ofAll, Cond.initialized RX2, Cond.selects RX2 yX2_ofAll yX2_ofAll, Cond.code yX2_ofAll cX2_ofAll 2 (some .int), Cond.methodLink RX2 32 yX2_get, Cond.instanceMethod yX2_get, Cond.selects RX2 yX2_get yX2_get, Cond.code yX2_get cX2_get 2 (some .int), Cond.fieldLink RX2 11 "BottleLoop$State" "cells" "[I", Cond.methodLink RX5 48 yX5_needRange, Cond.static yX5_needRange]
def wsX5_filled_r2 : List Cond := [Cond.code yX5_needRange cX5_needRange 3 none, Cond.methodLink RX5 153 yX5_needArgument, Cond.static yX5_needArgument, Cond.code yX5_needArgument cX5_needArgument 1 none, Cond.classLink RX5 300 "java/lang/IllegalArgumentException", Cond.initialized "java/lang/IllegalArgumentException", Cond.instanceMethod yX4_wornBy, Cond.initialized RX4, Cond.selects RX4 yX4_wornBy yX4_wornBy, Cond.code yX4_wornBy cX4_wornBy 5 (some .int), Cond.fieldLink RX4 12 "BottleLoop$Trade" "state" "LBottleLoop$State;", Cond.instanceMethod yX2_ofSetting, Cond.selects RX2 yX2_ofSetting yX2_ofSetting, Cond.code yX2_ofSetting cX2_ofSetting 2 (some .int), Cond.instanceMethod yX2_ofBrand, Cond.selects RX2 yX2_ofBrand yX2_ofBrand, Cond.code yX2_ofBrand cX2_ofBrand 3 (some .int)]
def wsX5_filled : List Cond := .code yX5_filled cX5_filled 3 (some .int) :: ((wsX5_filled_r1 ++ wsX5_filled_r2) ++ wsX50 ++ wsX20 ++ wsX40 ++ (vx_atS RX5 293 "java/lang/IndexOutOfBoundsException" ["java/lang/RuntimeException", "java/lang/Exception"]).filter goodWord ++ (vx_atS RX5 304 "java/lang/IllegalArgumentException" ["java/lang/RuntimeException", "java/lang/Exception"]).filter goodWord)
def wsX5_bestShop_r1 : List Cond := [Cond.fieldLink RX5 12 "BottleLoop" "trade" "LBottleLoop$Trade;", Cond.methodLink RX5 44 yX5_needKind, Cond.static yX5_needKind, Cond.initialized RX5, Cond.code yX5_needKind cX5_needKind 1 none, Cond.methodLink RX5 48 yX5_needRange, Cond.static yX5_needRange, Cond.code yX5_needRange cX5_needRange 3 none, Cond.methodLink RX5 153 yX5_needArgument, Cond.static yX5_needArgument, Cond.code yX5_needArgument cX5_needArgument 1 none, Cond.classLink RX5 300 "java/lang/IllegalArgumentException", Cond.initialized "java/lang/IllegalArgumentException", Cond.instanceMethod yX4_bestToCollect, Cond.initialized RX4, Cond.selects RX4 yX4_bestToCollect yX4_bestToCollect, Cond.code yX4_bestToCollect cX4_bestToCollect 6 (some .int), Cond.methodLink RX4 96 yX4_mostCollectable, Cond.instanceMethod yX4_mostCollectable, Cond.selects RX4 yX4_mostCollectable yX4_mostCollectable, Cond.code yX4_mostCollectable cX4_mostCollectable 4 (some .int), Cond.fieldLink RX4 12 "BottleLoop$Trade" "state" "LBottleLoop$State;", Cond.methodLink RX4 65 Lib.Math.min.name, Cond.static Lib.Math.min.name]
def wsX5_bestShop_r2 : List Cond := [Cond.initialized "java/lang/Math", Cond.code Lib.Math.min.name Lib.Math.min.code 2 (some .int), Cond.methodLink RX4 48 yX4_emptiesOf, Cond.instanceMethod yX4_emptiesOf, Cond.selects RX4 yX4_emptiesOf yX4_emptiesOf, Cond.code yX4_emptiesOf cX4_emptiesOf 5 (some .int), Cond.instanceMethod yX2_ofBrand, Cond.initialized RX2, Cond.selects RX2 yX2_ofBrand yX2_ofBrand, Cond.code yX2_ofBrand cX2_ofBrand 3 (some .int), Cond.methodLink RX2 32 yX2_get, Cond.instanceMethod yX2_get, Cond.selects RX2 yX2_get yX2_get, Cond.code yX2_get cX2_get 2 (some .int), Cond.fieldLink RX2 11 "BottleLoop$State" "cells" "[I", Cond.instanceMethod yX2_ofShop, Cond.selects RX2 yX2_ofShop yX2_ofShop, Cond.code yX2_ofShop cX2_ofShop 3 (some .int)]
def wsX5_bestShop : List Cond := .code yX5_bestShop cX5_bestShop 2 (some .int) :: ((wsX5_bestShop_r1 ++ wsX5_bestShop_r2) ++ wsX50 ++ wsX40 ++ wsX20 ++ (vx_atS RX5 304 "java/lang/IllegalArgumentException" ["java/lang/RuntimeException", "java/lang/Exception"]).filter goodWord)
def wsX5_goneShare_r1 : List Cond := [Cond.fieldLink RX5 20 "BottleLoop" "now" "LBottleLoop$State;", Cond.instanceMethod yX2_brandSum, Cond.initialized RX2, Cond.selects RX2 yX2_brandSum yX2_brandSum, Cond.code yX2_brandSum cX2_brandSum 6 (some .int), Cond.methodLink RX2 58 yX2_brandNumber, Cond.instanceMethod yX2_brandNumber, Cond.selects RX2 yX2_brandNumber yX2_brandNumber, Cond.code yX2_brandNumber cX2_brandNumber 3 (some .int), Cond.methodLink RX2 39 yX2_overShops, Cond.instanceMethod yX2_overShops, Cond.selects RX2 yX2_overShops yX2_overShops, Cond.code yX2_overShops cX2_overShops 4 (some .int), Cond.methodLink RX2 49 yX2_ofShop, Cond.instanceMethod yX2_ofShop, Cond.selects RX2 yX2_ofShop yX2_ofShop, Cond.code yX2_ofShop cX2_ofShop 3 (some .int), Cond.methodLink RX2 32 yX2_get, Cond.instanceMethod yX2_get, Cond.selects RX2 yX2_get yX2_get, Cond.code yX2_get cX2_get 2 (some .int), Cond.fieldLink RX2 11 "BottleLoop$State" "cells" "[I", Cond.methodLink RX2 42 yX2_ofBrand, Cond.instanceMethod yX2_ofBrand]
def wsX5_goneShare_r2 : List Cond := [Cond.selects RX2 yX2_ofBrand yX2_ofBrand, Cond.code yX2_ofBrand cX2_ofBrand 3 (some .int)]
def wsX5_goneShare : List Cond := .code yX5_goneShare cX5_goneShare 2 (some .double) :: ((wsX5_goneShare_r1 ++ wsX5_goneShare_r2) ++ wsX50 ++ wsX20)
def wsJ9_min_7cf53 : List Cond := .code yJ9_min_7cf53 cJ9_min_7cf53 2 (some .int) :: ([])
def wsL_cell : List Cond := .code yL_cell cL_cell 2 (some .int) :: ([.constant RL 7 (15563221), .constant RL 8 (2147483647)])
def wsL_brands_r1 : List Cond := [Cond.methodLink RL 9 yX5_count, Cond.instanceMethod yX5_count, Cond.selects RX5 yX5_count yX5_count, Cond.initialized RX5, Cond.code yX5_count cX5_count 2 (some .int), Cond.fieldLink RX5 26 "BottleLoop" "past" "LBottleLoop$Past;", Cond.fieldLink RX5 20 "BottleLoop" "now" "LBottleLoop$State;", Cond.methodLink RX5 48 yX5_needRange, Cond.static yX5_needRange, Cond.code yX5_needRange cX5_needRange 3 none, Cond.methodLink RX5 153 yX5_needArgument, Cond.static yX5_needArgument, Cond.code yX5_needArgument cX5_needArgument 1 none, Cond.classLink RX5 300 "java/lang/IllegalArgumentException", Cond.initialized "java/lang/IllegalArgumentException", Cond.instanceMethod yX1_kept, Cond.initialized RX1, Cond.selects RX1 yX1_kept yX1_kept, Cond.code yX1_kept cX1_kept 1 (some .int), Cond.fieldLink RX1 16 "BottleLoop$Past" "kept" "I", Cond.instanceMethod yX2_countNumber, Cond.initialized RX2, Cond.selects RX2 yX2_countNumber yX2_countNumber, Cond.code yX2_countNumber cX2_countNumber 2 (some .int)]
def wsL_brands_r2 : List Cond := [Cond.methodLink RX2 39 yX2_overShops, Cond.instanceMethod yX2_overShops, Cond.selects RX2 yX2_overShops yX2_overShops, Cond.code yX2_overShops cX2_overShops 4 (some .int), Cond.methodLink RX2 49 yX2_ofShop, Cond.instanceMethod yX2_ofShop, Cond.selects RX2 yX2_ofShop yX2_ofShop, Cond.code yX2_ofShop cX2_ofShop 3 (some .int), Cond.methodLink RX2 32 yX2_get, Cond.instanceMethod yX2_get, Cond.selects RX2 yX2_get yX2_get, Cond.code yX2_get cX2_get 2 (some .int), Cond.fieldLink RX2 11 "BottleLoop$State" "cells" "[I", Cond.methodLink RX2 52 yX2_overBrands, Cond.instanceMethod yX2_overBrands, Cond.selects RX2 yX2_overBrands yX2_overBrands, Cond.code yX2_overBrands cX2_overBrands 4 (some .int), Cond.methodLink RX2 42 yX2_ofBrand, Cond.instanceMethod yX2_ofBrand, Cond.selects RX2 yX2_ofBrand yX2_ofBrand, Cond.code yX2_ofBrand cX2_ofBrand 3 (some .int), Cond.methodLink RX2 55 yX2_ofAll, Cond.instanceMethod yX2_ofAll, Cond.selects RX2 yX2_ofAll yX2_ofAll]
def wsL_brands_r3 : List Cond := [Cond.code yX2_ofAll cX2_ofAll 2 (some .int), Cond.methodLink RL 15 yX5_brand, Cond.instanceMethod yX5_brand, Cond.selects RX5 yX5_brand yX5_brand, Cond.code yX5_brand cX5_brand 3 (some .int), Cond.methodLink RX5 100 yX5_needBrand, Cond.instanceMethod yX5_needBrand, Cond.selects RX5 yX5_needBrand yX5_needBrand, Cond.code yX5_needBrand cX5_needBrand 2 none, Cond.classLink RX5 289 "java/lang/IndexOutOfBoundsException", Cond.initialized "java/lang/IndexOutOfBoundsException", Cond.methodLink RX5 283 yX5_isBrand, Cond.instanceMethod yX5_isBrand, Cond.selects RX5 yX5_isBrand yX5_isBrand, Cond.code yX5_isBrand cX5_isBrand 2 (some .boolean), Cond.instanceMethod yX2_brandNumber, Cond.selects RX2 yX2_brandNumber yX2_brandNumber, Cond.code yX2_brandNumber cX2_brandNumber 3 (some .int), Cond.methodLink RL 19 yX5_shop, Cond.instanceMethod yX5_shop, Cond.selects RX5 yX5_shop yX5_shop, Cond.code yX5_shop cX5_shop 3 (some .int), Cond.methodLink RX5 110 yX5_needShop, Cond.instanceMethod yX5_needShop]
def wsL_brands_r4 : List Cond := [Cond.selects RX5 yX5_needShop yX5_needShop, Cond.code yX5_needShop cX5_needShop 2 none, Cond.methodLink RX5 286 yX5_isShop, Cond.instanceMethod yX5_isShop, Cond.selects RX5 yX5_isShop yX5_isShop, Cond.code yX5_isShop cX5_isShop 2 (some .boolean), Cond.methodLink RX5 188 yX5_isShopNumber, Cond.static yX5_isShopNumber, Cond.code yX5_isShopNumber cX5_isShopNumber 1 (some .boolean), Cond.instanceMethod yX2_shopNumber, Cond.selects RX2 yX2_shopNumber yX2_shopNumber, Cond.code yX2_shopNumber cX2_shopNumber 3 (some .int), Cond.methodLink RX2 46 yX2_overBrandsOf, Cond.instanceMethod yX2_overBrandsOf, Cond.selects RX2 yX2_overBrandsOf yX2_overBrandsOf, Cond.code yX2_overBrandsOf cX2_overBrandsOf 5 (some .int)]
def wsL_brands : List Cond := .code yL_brands cL_brands 10 (some .boolean) :: ((wsL_brands_r1 ++ (wsL_brands_r2 ++ (wsL_brands_r3 ++ wsL_brands_r4))) ++ wsX50 ++ wsX10 ++ wsX20 ++ (vx_atS RX5 304 "java/lang/IllegalArgumentException" ["java/lang/RuntimeException", "java/lang/Exception"]).filter goodWord ++ (vx_atS RX5 293 "java/lang/IndexOutOfBoundsException" ["java/lang/RuntimeException", "java/lang/Exception"]).filter goodWord)
def wsL_money_r1 : List Cond := [Cond.methodLink RL 9 yX5_count, Cond.instanceMethod yX5_count, Cond.selects RX5 yX5_count yX5_count, Cond.initialized RX5, Cond.code yX5_count cX5_count 2 (some .int), Cond.fieldLink RX5 26 "BottleLoop" "past" "LBottleLoop$Past;", Cond.fieldLink RX5 20 "BottleLoop" "now" "LBottleLoop$State;", Cond.methodLink RX5 48 yX5_needRange, Cond.static yX5_needRange, Cond.code yX5_needRange cX5_needRange 3 none, Cond.methodLink RX5 153 yX5_needArgument, Cond.static yX5_needArgument, Cond.code yX5_needArgument cX5_needArgument 1 none, Cond.classLink RX5 300 "java/lang/IllegalArgumentException", Cond.initialized "java/lang/IllegalArgumentException", Cond.instanceMethod yX1_kept, Cond.initialized RX1, Cond.selects RX1 yX1_kept yX1_kept, Cond.code yX1_kept cX1_kept 1 (some .int), Cond.fieldLink RX1 16 "BottleLoop$Past" "kept" "I", Cond.instanceMethod yX2_countNumber, Cond.initialized RX2, Cond.selects RX2 yX2_countNumber yX2_countNumber, Cond.code yX2_countNumber cX2_countNumber 2 (some .int)]
def wsL_money_r2 : List Cond := [Cond.methodLink RX2 39 yX2_overShops, Cond.instanceMethod yX2_overShops, Cond.selects RX2 yX2_overShops yX2_overShops, Cond.code yX2_overShops cX2_overShops 4 (some .int), Cond.methodLink RX2 49 yX2_ofShop, Cond.instanceMethod yX2_ofShop, Cond.selects RX2 yX2_ofShop yX2_ofShop, Cond.code yX2_ofShop cX2_ofShop 3 (some .int), Cond.methodLink RX2 32 yX2_get, Cond.instanceMethod yX2_get, Cond.selects RX2 yX2_get yX2_get, Cond.code yX2_get cX2_get 2 (some .int), Cond.fieldLink RX2 11 "BottleLoop$State" "cells" "[I", Cond.methodLink RX2 52 yX2_overBrands, Cond.instanceMethod yX2_overBrands, Cond.selects RX2 yX2_overBrands yX2_overBrands, Cond.code yX2_overBrands cX2_overBrands 4 (some .int), Cond.methodLink RX2 42 yX2_ofBrand, Cond.instanceMethod yX2_ofBrand, Cond.selects RX2 yX2_ofBrand yX2_ofBrand, Cond.code yX2_ofBrand cX2_ofBrand 3 (some .int), Cond.methodLink RX2 55 yX2_ofAll, Cond.instanceMethod yX2_ofAll, Cond.selects RX2 yX2_ofAll yX2_ofAll]
def wsL_money_r3 : List Cond := [Cond.code yX2_ofAll cX2_ofAll 2 (some .int), Cond.methodLink RL 22 yX5_setting, Cond.instanceMethod yX5_setting, Cond.selects RX5 yX5_setting yX5_setting, Cond.code yX5_setting cX5_setting 2 (some .int), Cond.methodLink RX5 80 yX5_needSetting, Cond.static yX5_needSetting, Cond.code yX5_needSetting cX5_needSetting 1 none, Cond.classLink RX5 289 "java/lang/IndexOutOfBoundsException", Cond.initialized "java/lang/IndexOutOfBoundsException", Cond.instanceMethod yX2_ofSetting, Cond.selects RX2 yX2_ofSetting yX2_ofSetting, Cond.code yX2_ofSetting cX2_ofSetting 2 (some .int), Cond.methodLink RL 15 yX5_brand, Cond.instanceMethod yX5_brand, Cond.selects RX5 yX5_brand yX5_brand, Cond.code yX5_brand cX5_brand 3 (some .int), Cond.methodLink RX5 100 yX5_needBrand, Cond.instanceMethod yX5_needBrand, Cond.selects RX5 yX5_needBrand yX5_needBrand, Cond.code yX5_needBrand cX5_needBrand 2 none, Cond.methodLink RX5 283 yX5_isBrand, Cond.instanceMethod yX5_isBrand, Cond.selects RX5 yX5_isBrand yX5_isBrand]
def wsL_money_r4 : List Cond := [Cond.code yX5_isBrand cX5_isBrand 2 (some .boolean), Cond.instanceMethod yX2_brandNumber, Cond.selects RX2 yX2_brandNumber yX2_brandNumber, Cond.code yX2_brandNumber cX2_brandNumber 3 (some .int), Cond.methodLink RL 19 yX5_shop, Cond.instanceMethod yX5_shop, Cond.selects RX5 yX5_shop yX5_shop, Cond.code yX5_shop cX5_shop 3 (some .int), Cond.methodLink RX5 110 yX5_needShop, Cond.instanceMethod yX5_needShop, Cond.selects RX5 yX5_needShop yX5_needShop, Cond.code yX5_needShop cX5_needShop 2 none, Cond.methodLink RX5 286 yX5_isShop, Cond.instanceMethod yX5_isShop, Cond.selects RX5 yX5_isShop yX5_isShop, Cond.code yX5_isShop cX5_isShop 2 (some .boolean), Cond.methodLink RX5 188 yX5_isShopNumber, Cond.static yX5_isShopNumber, Cond.code yX5_isShopNumber cX5_isShopNumber 1 (some .boolean), Cond.instanceMethod yX2_shopNumber, Cond.selects RX2 yX2_shopNumber yX2_shopNumber, Cond.code yX2_shopNumber cX2_shopNumber 3 (some .int), Cond.methodLink RX2 46 yX2_overBrandsOf, Cond.instanceMethod yX2_overBrandsOf]
def wsL_money_r5 : List Cond := [Cond.selects RX2 yX2_overBrandsOf yX2_overBrandsOf, Cond.code yX2_overBrandsOf cX2_overBrandsOf 5 (some .int)]
def wsL_money : List Cond := .code yL_money cL_money 11 (some .boolean) :: ((wsL_money_r1 ++ (wsL_money_r2 ++ (wsL_money_r3 ++ (wsL_money_r4 ++ wsL_money_r5)))) ++ wsX50 ++ wsX10 ++ wsX20 ++ (vx_atS RX5 304 "java/lang/IllegalArgumentException" ["java/lang/RuntimeException", "java/lang/Exception"]).filter goodWord ++ (vx_atS RX5 293 "java/lang/IndexOutOfBoundsException" ["java/lang/RuntimeException", "java/lang/Exception"]).filter goodWord)
def wsL_swaps_r1 : List Cond := [Cond.methodLink RL 15 yX5_brand, Cond.instanceMethod yX5_brand, Cond.selects RX5 yX5_brand yX5_brand, Cond.initialized RX5, Cond.code yX5_brand cX5_brand 3 (some .int), Cond.fieldLink RX5 20 "BottleLoop" "now" "LBottleLoop$State;", Cond.methodLink RX5 100 yX5_needBrand, Cond.instanceMethod yX5_needBrand, Cond.selects RX5 yX5_needBrand yX5_needBrand, Cond.code yX5_needBrand cX5_needBrand 2 none, Cond.classLink RX5 289 "java/lang/IndexOutOfBoundsException", Cond.initialized "java/lang/IndexOutOfBoundsException", Cond.methodLink RX5 283 yX5_isBrand, Cond.instanceMethod yX5_isBrand, Cond.selects RX5 yX5_isBrand yX5_isBrand, Cond.code yX5_isBrand cX5_isBrand 2 (some .boolean), Cond.instanceMethod yX2_ofAll, Cond.initialized RX2, Cond.selects RX2 yX2_ofAll yX2_ofAll, Cond.code yX2_ofAll cX2_ofAll 2 (some .int), Cond.methodLink RX2 32 yX2_get, Cond.instanceMethod yX2_get, Cond.selects RX2 yX2_get yX2_get, Cond.code yX2_get cX2_get 2 (some .int)]
def wsL_swaps_r2 : List Cond := [Cond.fieldLink RX2 11 "BottleLoop$State" "cells" "[I", Cond.methodLink RX5 48 yX5_needRange, Cond.static yX5_needRange, Cond.code yX5_needRange cX5_needRange 3 none, Cond.methodLink RX5 153 yX5_needArgument, Cond.static yX5_needArgument, Cond.code yX5_needArgument cX5_needArgument 1 none, Cond.classLink RX5 300 "java/lang/IllegalArgumentException", Cond.initialized "java/lang/IllegalArgumentException", Cond.instanceMethod yX2_brandNumber, Cond.selects RX2 yX2_brandNumber yX2_brandNumber, Cond.code yX2_brandNumber cX2_brandNumber 3 (some .int), Cond.methodLink RX2 39 yX2_overShops, Cond.instanceMethod yX2_overShops, Cond.selects RX2 yX2_overShops yX2_overShops, Cond.code yX2_overShops cX2_overShops 4 (some .int), Cond.methodLink RX2 49 yX2_ofShop, Cond.instanceMethod yX2_ofShop, Cond.selects RX2 yX2_ofShop yX2_ofShop, Cond.code yX2_ofShop cX2_ofShop 3 (some .int), Cond.methodLink RX2 42 yX2_ofBrand, Cond.instanceMethod yX2_ofBrand, Cond.selects RX2 yX2_ofBrand yX2_ofBrand, Cond.code yX2_ofBrand cX2_ofBrand 3 (some .int)]
def wsL_swaps_r3 : List Cond := [Cond.methodLink RL 25 yX5_swap, Cond.instanceMethod yX5_swap, Cond.selects RX5 yX5_swap yX5_swap, Cond.code yX5_swap cX5_swap 4 (some .int), Cond.fieldLink RX5 26 "BottleLoop" "past" "LBottleLoop$Past;", Cond.fieldLink RX5 12 "BottleLoop" "trade" "LBottleLoop$Trade;", Cond.methodLink RX5 58 yX5_needState, Cond.static yX5_needState, Cond.code yX5_needState cX5_needState 1 none, Cond.classLink RX5 305 "java/lang/IllegalStateException", Cond.initialized "java/lang/IllegalStateException", Cond.instanceMethod yX1_keep, Cond.initialized RX1, Cond.selects RX1 yX1_keep yX1_keep, Cond.code yX1_keep cX1_keep 3 none, Cond.fieldLink RX1 20 "BottleLoop$Past" "latest" "I", Cond.fieldLink RX1 16 "BottleLoop$Past" "kept" "I", Cond.methodLink RX1 23 yX1_latestState, Cond.instanceMethod yX1_latestState, Cond.selects RX1 yX1_latestState yX1_latestState, Cond.code yX1_latestState cX1_latestState 1 (some (.object "BottleLoop$State")), Cond.fieldLink RX1 11 "BottleLoop$Past" "states" "[LBottleLoop$State;", Cond.instanceMethod yX2_copyFrom, Cond.selects RX2 yX2_copyFrom yX2_copyFrom]
def wsL_swaps_r4 : List Cond := [Cond.code yX2_copyFrom cX2_copyFrom 2 none, Cond.methodLink RX2 26 arraycopyName, Cond.native arraycopyName, Cond.static arraycopyName, Cond.initialized "java/lang/System", Cond.instanceMethod yX4_swapBottles, Cond.initialized RX4, Cond.selects RX4 yX4_swapBottles yX4_swapBottles, Cond.code yX4_swapBottles cX4_swapBottles 4 (some .int), Cond.fieldLink RX4 12 "BottleLoop$Trade" "state" "LBottleLoop$State;", Cond.instanceMethod yX2_addToBrand, Cond.selects RX2 yX2_addToBrand yX2_addToBrand, Cond.code yX2_addToBrand cX2_addToBrand 5 none, Cond.methodLink RX2 36 yX2_put, Cond.instanceMethod yX2_put, Cond.selects RX2 yX2_put yX2_put, Cond.code yX2_put cX2_put 3 none, Cond.instanceMethod yX2_addToSwaps, Cond.selects RX2 yX2_addToSwaps yX2_addToSwaps, Cond.code yX2_addToSwaps cX2_addToSwaps 5 none, Cond.instanceMethod yX2_ofSwaps, Cond.selects RX2 yX2_ofSwaps yX2_ofSwaps, Cond.code yX2_ofSwaps cX2_ofSwaps 3 (some .int)]
def wsL_swaps : List Cond := .code yL_swaps cL_swaps 7 (some .boolean) :: ((wsL_swaps_r1 ++ (wsL_swaps_r2 ++ (wsL_swaps_r3 ++ wsL_swaps_r4))) ++ wsX50 ++ wsX20 ++ wsX10 ++ wsX40 ++ (vx_atS RX5 293 "java/lang/IndexOutOfBoundsException" ["java/lang/RuntimeException", "java/lang/Exception"]).filter goodWord ++ (vx_atS RX5 304 "java/lang/IllegalArgumentException" ["java/lang/RuntimeException", "java/lang/Exception"]).filter goodWord ++ (vx_atS RX5 309 "java/lang/IllegalStateException" ["java/lang/RuntimeException", "java/lang/Exception"]).filter goodWord)
def wsL_acts_r1 : List Cond := [Cond.methodLink RL 9 yX5_count, Cond.instanceMethod yX5_count, Cond.selects RX5 yX5_count yX5_count, Cond.initialized RX5, Cond.code yX5_count cX5_count 2 (some .int), Cond.fieldLink RX5 26 "BottleLoop" "past" "LBottleLoop$Past;", Cond.fieldLink RX5 20 "BottleLoop" "now" "LBottleLoop$State;", Cond.methodLink RX5 48 yX5_needRange, Cond.static yX5_needRange, Cond.code yX5_needRange cX5_needRange 3 none, Cond.methodLink RX5 153 yX5_needArgument, Cond.static yX5_needArgument, Cond.code yX5_needArgument cX5_needArgument 1 none, Cond.classLink RX5 300 "java/lang/IllegalArgumentException", Cond.initialized "java/lang/IllegalArgumentException", Cond.instanceMethod yX1_kept, Cond.initialized RX1, Cond.selects RX1 yX1_kept yX1_kept, Cond.code yX1_kept cX1_kept 1 (some .int), Cond.fieldLink RX1 16 "BottleLoop$Past" "kept" "I", Cond.instanceMethod yX2_countNumber, Cond.initialized RX2, Cond.selects RX2 yX2_countNumber yX2_countNumber, Cond.code yX2_countNumber cX2_countNumber 2 (some .int)]
def wsL_acts_r2 : List Cond := [Cond.methodLink RX2 39 yX2_overShops, Cond.instanceMethod yX2_overShops, Cond.selects RX2 yX2_overShops yX2_overShops, Cond.code yX2_overShops cX2_overShops 4 (some .int), Cond.methodLink RX2 49 yX2_ofShop, Cond.instanceMethod yX2_ofShop, Cond.selects RX2 yX2_ofShop yX2_ofShop, Cond.code yX2_ofShop cX2_ofShop 3 (some .int), Cond.methodLink RX2 32 yX2_get, Cond.instanceMethod yX2_get, Cond.selects RX2 yX2_get yX2_get, Cond.code yX2_get cX2_get 2 (some .int), Cond.fieldLink RX2 11 "BottleLoop$State" "cells" "[I", Cond.methodLink RX2 52 yX2_overBrands, Cond.instanceMethod yX2_overBrands, Cond.selects RX2 yX2_overBrands yX2_overBrands, Cond.code yX2_overBrands cX2_overBrands 4 (some .int), Cond.methodLink RX2 42 yX2_ofBrand, Cond.instanceMethod yX2_ofBrand, Cond.selects RX2 yX2_ofBrand yX2_ofBrand, Cond.code yX2_ofBrand cX2_ofBrand 3 (some .int), Cond.methodLink RX2 55 yX2_ofAll, Cond.instanceMethod yX2_ofAll, Cond.selects RX2 yX2_ofAll yX2_ofAll]
def wsL_acts_r3 : List Cond := [Cond.code yX2_ofAll cX2_ofAll 2 (some .int), Cond.methodLink RL 15 yX5_brand, Cond.instanceMethod yX5_brand, Cond.selects RX5 yX5_brand yX5_brand, Cond.code yX5_brand cX5_brand 3 (some .int), Cond.methodLink RX5 100 yX5_needBrand, Cond.instanceMethod yX5_needBrand, Cond.selects RX5 yX5_needBrand yX5_needBrand, Cond.code yX5_needBrand cX5_needBrand 2 none, Cond.classLink RX5 289 "java/lang/IndexOutOfBoundsException", Cond.initialized "java/lang/IndexOutOfBoundsException", Cond.methodLink RX5 283 yX5_isBrand, Cond.instanceMethod yX5_isBrand, Cond.selects RX5 yX5_isBrand yX5_isBrand, Cond.code yX5_isBrand cX5_isBrand 2 (some .boolean), Cond.instanceMethod yX2_brandNumber, Cond.selects RX2 yX2_brandNumber yX2_brandNumber, Cond.code yX2_brandNumber cX2_brandNumber 3 (some .int), Cond.methodLink RL 29 yX5_filled, Cond.instanceMethod yX5_filled, Cond.selects RX5 yX5_filled yX5_filled, Cond.code yX5_filled cX5_filled 3 (some .int), Cond.fieldLink RX5 12 "BottleLoop" "trade" "LBottleLoop$Trade;", Cond.instanceMethod yX4_wornBy]
def wsL_acts_r4 : List Cond := [Cond.initialized RX4, Cond.selects RX4 yX4_wornBy yX4_wornBy, Cond.code yX4_wornBy cX4_wornBy 5 (some .int), Cond.fieldLink RX4 12 "BottleLoop$Trade" "state" "LBottleLoop$State;", Cond.instanceMethod yX2_ofSetting, Cond.selects RX2 yX2_ofSetting yX2_ofSetting, Cond.code yX2_ofSetting cX2_ofSetting 2 (some .int), Cond.methodLink RL 32 yX5_fill, Cond.instanceMethod yX5_fill, Cond.selects RX5 yX5_fill yX5_fill, Cond.code yX5_fill cX5_fill 3 (some .int), Cond.methodLink RX5 58 yX5_needState, Cond.static yX5_needState, Cond.code yX5_needState cX5_needState 1 none, Cond.classLink RX5 305 "java/lang/IllegalStateException", Cond.initialized "java/lang/IllegalStateException", Cond.instanceMethod yX1_keep, Cond.selects RX1 yX1_keep yX1_keep, Cond.code yX1_keep cX1_keep 3 none, Cond.fieldLink RX1 20 "BottleLoop$Past" "latest" "I", Cond.methodLink RX1 23 yX1_latestState, Cond.instanceMethod yX1_latestState, Cond.selects RX1 yX1_latestState yX1_latestState, Cond.code yX1_latestState cX1_latestState 1 (some (.object "BottleLoop$State"))]
def wsL_acts_r5 : List Cond := [Cond.fieldLink RX1 11 "BottleLoop$Past" "states" "[LBottleLoop$State;", Cond.instanceMethod yX2_copyFrom, Cond.selects RX2 yX2_copyFrom yX2_copyFrom, Cond.code yX2_copyFrom cX2_copyFrom 2 none, Cond.methodLink RX2 26 arraycopyName, Cond.native arraycopyName, Cond.static arraycopyName, Cond.initialized "java/lang/System", Cond.instanceMethod yX4_fillBottles, Cond.selects RX4 yX4_fillBottles yX4_fillBottles, Cond.code yX4_fillBottles cX4_fillBottles 4 (some .int), Cond.methodLink RX4 51 yX4_wornBy, Cond.instanceMethod yX2_addToBrand, Cond.selects RX2 yX2_addToBrand yX2_addToBrand, Cond.code yX2_addToBrand cX2_addToBrand 5 none, Cond.methodLink RX2 36 yX2_put, Cond.instanceMethod yX2_put, Cond.selects RX2 yX2_put yX2_put, Cond.code yX2_put cX2_put 3 none, Cond.methodLink RL 35 yX5_whyNotDeliver, Cond.instanceMethod yX5_whyNotDeliver, Cond.selects RX5 yX5_whyNotDeliver yX5_whyNotDeliver, Cond.code yX5_whyNotDeliver cX5_whyNotDeliver 4 (some .int), Cond.methodLink RX5 110 yX5_needShop]
def wsL_acts_r6 : List Cond := [Cond.instanceMethod yX5_needShop, Cond.selects RX5 yX5_needShop yX5_needShop, Cond.code yX5_needShop cX5_needShop 2 none, Cond.methodLink RX5 286 yX5_isShop, Cond.instanceMethod yX5_isShop, Cond.selects RX5 yX5_isShop yX5_isShop, Cond.code yX5_isShop cX5_isShop 2 (some .boolean), Cond.instanceMethod yX4_deliverReason, Cond.selects RX4 yX4_deliverReason yX4_deliverReason, Cond.code yX4_deliverReason cX4_deliverReason 4 (some .int), Cond.methodLink RX4 39 yX4_cratePrice, Cond.instanceMethod yX4_cratePrice, Cond.selects RX4 yX4_cratePrice yX4_cratePrice, Cond.code yX4_cratePrice cX4_cratePrice 2 (some .int), Cond.methodLink RX4 30 yX4_crateDeposits, Cond.instanceMethod yX4_crateDeposits, Cond.selects RX4 yX4_crateDeposits yX4_crateDeposits, Cond.code yX4_crateDeposits cX4_crateDeposits 2 (some .int), Cond.methodLink RL 38 yX5_mostCrates, Cond.instanceMethod yX5_mostCrates, Cond.selects RX5 yX5_mostCrates yX5_mostCrates, Cond.code yX5_mostCrates cX5_mostCrates 3 (some .int), Cond.instanceMethod yX4_mostDeliverable, Cond.selects RX4 yX4_mostDeliverable yX4_mostDeliverable]
def wsL_acts_r7 : List Cond := [Cond.code yX4_mostDeliverable cX4_mostDeliverable 6 (some .int), Cond.methodLink RX4 65 Lib.Math.min.name, Cond.static Lib.Math.min.name, Cond.initialized "java/lang/Math", Cond.code Lib.Math.min.name Lib.Math.min.code 2 (some .int), Cond.methodLink RL 22 yX5_setting, Cond.instanceMethod yX5_setting, Cond.selects RX5 yX5_setting yX5_setting, Cond.code yX5_setting cX5_setting 2 (some .int), Cond.methodLink RX5 80 yX5_needSetting, Cond.static yX5_needSetting, Cond.code yX5_needSetting cX5_needSetting 1 none, Cond.methodLink RL 41 yX5_deliver, Cond.instanceMethod yX5_deliver, Cond.selects RX5 yX5_deliver yX5_deliver, Cond.code yX5_deliver cX5_deliver 4 (some .int), Cond.instanceMethod yX4_deliverCrates, Cond.selects RX4 yX4_deliverCrates yX4_deliverCrates, Cond.code yX4_deliverCrates cX4_deliverCrates 6 (some .int), Cond.instanceMethod yX2_addToShop, Cond.selects RX2 yX2_addToShop yX2_addToShop, Cond.code yX2_addToShop cX2_addToShop 5 none, Cond.instanceMethod yX2_addToAll, Cond.selects RX2 yX2_addToAll yX2_addToAll]
def wsL_acts_r8 : List Cond := [Cond.code yX2_addToAll cX2_addToAll 3 none, Cond.methodLink RL 19 yX5_shop, Cond.instanceMethod yX5_shop, Cond.selects RX5 yX5_shop yX5_shop, Cond.code yX5_shop cX5_shop 3 (some .int), Cond.methodLink RX5 188 yX5_isShopNumber, Cond.static yX5_isShopNumber, Cond.code yX5_isShopNumber cX5_isShopNumber 1 (some .boolean), Cond.instanceMethod yX2_shopNumber, Cond.selects RX2 yX2_shopNumber yX2_shopNumber, Cond.code yX2_shopNumber cX2_shopNumber 3 (some .int), Cond.methodLink RX2 46 yX2_overBrandsOf, Cond.instanceMethod yX2_overBrandsOf, Cond.selects RX2 yX2_overBrandsOf yX2_overBrandsOf, Cond.code yX2_overBrandsOf cX2_overBrandsOf 5 (some .int), Cond.methodLink RL 44 yX5_sell, Cond.instanceMethod yX5_sell, Cond.selects RX5 yX5_sell yX5_sell, Cond.code yX5_sell cX5_sell 4 (some .int), Cond.instanceMethod yX4_sellReason, Cond.selects RX4 yX4_sellReason yX4_sellReason, Cond.code yX4_sellReason cX4_sellReason 4 (some .int), Cond.methodLink RX4 42 yX4_bottleReason, Cond.static yX4_bottleReason]
def wsL_acts_r9 : List Cond := [Cond.code yX4_bottleReason cX4_bottleReason 2 (some .int), Cond.instanceMethod yX4_sellBottles, Cond.selects RX4 yX4_sellBottles yX4_sellBottles, Cond.code yX4_sellBottles cX4_sellBottles 4 (some .int), Cond.methodLink RX4 45 yX4_depositOf, Cond.instanceMethod yX4_depositOf, Cond.selects RX4 yX4_depositOf yX4_depositOf, Cond.code yX4_depositOf cX4_depositOf 2 (some .int), Cond.methodLink RL 47 yX5_takeBack, Cond.instanceMethod yX5_takeBack, Cond.selects RX5 yX5_takeBack yX5_takeBack, Cond.code yX5_takeBack cX5_takeBack 4 (some .int), Cond.instanceMethod yX4_returnReason, Cond.selects RX4 yX4_returnReason yX4_returnReason, Cond.code yX4_returnReason cX4_returnReason 4 (some .int), Cond.instanceMethod yX4_returnBottles, Cond.selects RX4 yX4_returnBottles yX4_returnBottles, Cond.code yX4_returnBottles cX4_returnBottles 4 (some .int), Cond.methodLink RL 50 yX5_collected, Cond.instanceMethod yX5_collected, Cond.selects RX5 yX5_collected yX5_collected, Cond.code yX5_collected cX5_collected 4 (some .int), Cond.instanceMethod yX4_wouldCollect, Cond.selects RX4 yX4_wouldCollect yX4_wouldCollect]
def wsL_acts_r10 : List Cond := [Cond.code yX4_wouldCollect cX4_wouldCollect 5 (some .int), Cond.methodLink RX4 92 yX4_collectReason, Cond.instanceMethod yX4_collectReason, Cond.selects RX4 yX4_collectReason yX4_collectReason, Cond.code yX4_collectReason cX4_collectReason 4 (some .int), Cond.methodLink RX4 48 yX4_emptiesOf, Cond.instanceMethod yX4_emptiesOf, Cond.selects RX4 yX4_emptiesOf yX4_emptiesOf, Cond.code yX4_emptiesOf cX4_emptiesOf 5 (some .int), Cond.methodLink RX4 70 yX4_pickEmpties, Cond.instanceMethod yX4_pickEmpties, Cond.selects RX4 yX4_pickEmpties yX4_pickEmpties, Cond.code yX4_pickEmpties cX4_pickEmpties 6 none, Cond.fieldLink RX4 18 "BottleLoop$Trade" "left" "[I", Cond.methodLink RX4 85 yX4_pickOne, Cond.instanceMethod yX4_pickOne, Cond.selects RX4 yX4_pickOne yX4_pickOne, Cond.code yX4_pickOne cX4_pickOne 4 none, Cond.methodLink RX4 73 yX4_pickedOf, Cond.instanceMethod yX4_pickedOf, Cond.selects RX4 yX4_pickedOf yX4_pickedOf, Cond.code yX4_pickedOf cX4_pickedOf 3 (some .int), Cond.static yX5_entry, Cond.code yX5_entry cX5_entry 2 (some .int)]
def wsL_acts_r11 : List Cond := [Cond.methodLink RL 53 yX5_whyNotCollect, Cond.instanceMethod yX5_whyNotCollect, Cond.selects RX5 yX5_whyNotCollect yX5_whyNotCollect, Cond.code yX5_whyNotCollect cX5_whyNotCollect 4 (some .int), Cond.methodLink RX5 44 yX5_needKind, Cond.static yX5_needKind, Cond.code yX5_needKind cX5_needKind 1 none, Cond.methodLink RL 56 yX5_bestShop, Cond.instanceMethod yX5_bestShop, Cond.selects RX5 yX5_bestShop yX5_bestShop, Cond.code yX5_bestShop cX5_bestShop 2 (some .int), Cond.instanceMethod yX4_bestToCollect, Cond.selects RX4 yX4_bestToCollect yX4_bestToCollect, Cond.code yX4_bestToCollect cX4_bestToCollect 6 (some .int), Cond.methodLink RX4 96 yX4_mostCollectable, Cond.instanceMethod yX4_mostCollectable, Cond.selects RX4 yX4_mostCollectable yX4_mostCollectable, Cond.code yX4_mostCollectable cX4_mostCollectable 4 (some .int), Cond.methodLink RL 59 yX5_collect, Cond.instanceMethod yX5_collect, Cond.selects RX5 yX5_collect yX5_collect, Cond.code yX5_collect cX5_collect 4 (some .int), Cond.instanceMethod yX4_collectCrates, Cond.selects RX4 yX4_collectCrates yX4_collectCrates]
def wsL_acts_r12 : List Cond := [Cond.code yX4_collectCrates cX4_collectCrates 7 (some .int), Cond.methodLink RL 62 yX5_breaks, Cond.instanceMethod yX5_breaks, Cond.selects RX5 yX5_breaks yX5_breaks, Cond.code yX5_breaks cX5_breaks 4 (some .int), Cond.instanceMethod yX4_breakReason, Cond.selects RX4 yX4_breakReason yX4_breakReason, Cond.code yX4_breakReason cX4_breakReason 4 (some .int), Cond.instanceMethod yX4_breakBottles, Cond.selects RX4 yX4_breakBottles yX4_breakBottles, Cond.code yX4_breakBottles cX4_breakBottles 6 (some .int), Cond.methodLink RL 65 yX5_lose, Cond.instanceMethod yX5_lose, Cond.selects RX5 yX5_lose yX5_lose, Cond.code yX5_lose cX5_lose 3 (some .int), Cond.instanceMethod yX4_loseBottles, Cond.selects RX4 yX4_loseBottles yX4_loseBottles, Cond.code yX4_loseBottles cX4_loseBottles 3 (some .int), Cond.methodLink RL 68 yX5_sort, Cond.instanceMethod yX5_sort, Cond.selects RX5 yX5_sort yX5_sort, Cond.code yX5_sort cX5_sort 3 (some .int), Cond.instanceMethod yX4_yardOf, Cond.selects RX4 yX4_yardOf yX4_yardOf]
def wsL_acts_r13 : List Cond := [Cond.code yX4_yardOf cX4_yardOf 4 (some .int), Cond.instanceMethod yX4_sortBottles, Cond.selects RX4 yX4_sortBottles yX4_sortBottles, Cond.code yX4_sortBottles cX4_sortBottles 6 (some .int), Cond.methodLink RX4 76 yX4_yardOf, Cond.methodLink RL 71 yL_swaps, Cond.static yL_swaps, Cond.initialized RL, Cond.code yL_swaps cL_swaps 7 (some .boolean), Cond.methodLink RL 25 yX5_swap, Cond.instanceMethod yX5_swap, Cond.selects RX5 yX5_swap yX5_swap, Cond.code yX5_swap cX5_swap 4 (some .int), Cond.instanceMethod yX4_swapBottles, Cond.selects RX4 yX4_swapBottles yX4_swapBottles, Cond.code yX4_swapBottles cX4_swapBottles 4 (some .int), Cond.instanceMethod yX2_addToSwaps, Cond.selects RX2 yX2_addToSwaps yX2_addToSwaps, Cond.code yX2_addToSwaps cX2_addToSwaps 5 none, Cond.instanceMethod yX2_ofSwaps, Cond.selects RX2 yX2_ofSwaps yX2_ofSwaps, Cond.code yX2_ofSwaps cX2_ofSwaps 3 (some .int)]
def wsL_acts : List Cond := .code yL_acts cL_acts 24 (some .boolean) :: ((wsL_acts_r1 ++ (wsL_acts_r2 ++ (wsL_acts_r3 ++ (wsL_acts_r4 ++ (wsL_acts_r5 ++ (wsL_acts_r6 ++ (wsL_acts_r7 ++ (wsL_acts_r8 ++ (wsL_acts_r9 ++ (wsL_acts_r10 ++ (wsL_acts_r11 ++ (wsL_acts_r12 ++ wsL_acts_r13)))))))))))) ++ wsX50 ++ wsX10 ++ wsX20 ++ wsX40 ++ (vx_atS RX5 304 "java/lang/IllegalArgumentException" ["java/lang/RuntimeException", "java/lang/Exception"]).filter goodWord ++ (vx_atS RX5 293 "java/lang/IndexOutOfBoundsException" ["java/lang/RuntimeException", "java/lang/Exception"]).filter goodWord ++ (vx_atS RX5 309 "java/lang/IllegalStateException" ["java/lang/RuntimeException", "java/lang/Exception"]).filter goodWord)
def wsL_law0_r1 : List Cond := [Cond.classLink RL 10 RX5, Cond.instantiable RX5 5, Cond.initialized RX5, Cond.arrayClass .int, Cond.methodLink RL 77 yX5_init, Cond.instanceMethod yX5_init, Cond.code yX5_init cX5_init 1 none, Cond.methodLink RX5 3 objectInit, Cond.instanceMethod objectInit, Cond.code objectInit ⟨#[0xb1]⟩ 1 none, Cond.classLink RX5 9 RX4, Cond.instantiable RX4 2, Cond.initialized RX4, Cond.fieldLink RX5 12 "BottleLoop" "trade" "LBottleLoop$Trade;", Cond.fieldLink RX5 20 "BottleLoop" "now" "LBottleLoop$State;", Cond.classLink RX5 23 RX1, Cond.instantiable RX1 3, Cond.initialized RX1, Cond.fieldLink RX5 26 "BottleLoop" "past" "LBottleLoop$Past;", Cond.classLink RX5 30 RX3, Cond.instantiable RX3 3, Cond.initialized RX3, Cond.fieldLink RX5 33 "BottleLoop" "text" "LBottleLoop$Text;", Cond.classLink RX5 37 RX0]
def wsL_law0_r2 : List Cond := [Cond.instantiable RX0 5, Cond.initialized RX0, Cond.fieldLink RX5 40 "BottleLoop" "order" "LBottleLoop$Order;", Cond.instanceMethod yX4_init, Cond.code yX4_init cX4_init 1 none, Cond.methodLink RX4 3 objectInit, Cond.classLink RX4 9 RX2, Cond.instantiable RX2 1, Cond.initialized RX2, Cond.fieldLink RX4 12 "BottleLoop$Trade" "state" "LBottleLoop$State;", Cond.fieldLink RX4 18 "BottleLoop$Trade" "left" "[I", Cond.instanceMethod yX2_init, Cond.code yX2_init cX2_init 2 none, Cond.methodLink RX2 5 objectInit, Cond.fieldLink RX2 11 "BottleLoop$State" "cells" "[I", Cond.static yX5_entry, Cond.code yX5_entry cX5_entry 2 (some .int), Cond.methodLink RX2 22 yX2_putSetting, Cond.instanceMethod yX2_putSetting, Cond.selects RX2 yX2_putSetting yX2_putSetting, Cond.code yX2_putSetting cX2_putSetting 3 none, Cond.methodLink RX2 36 yX2_put, Cond.instanceMethod yX2_put, Cond.selects RX2 yX2_put yX2_put]
def wsL_law0_r3 : List Cond := [Cond.code yX2_put cX2_put 3 none, Cond.instanceMethod yX1_init, Cond.code yX1_init cX1_init 2 none, Cond.methodLink RX1 1 objectInit, Cond.classLink RX1 9 RX2, Cond.fieldLink RX1 11 "BottleLoop$Past" "states" "[LBottleLoop$State;", Cond.instanceMethod yX3_init, Cond.code yX3_init cX3_init 1 none, Cond.methodLink RX3 1 objectInit, Cond.fieldLink RX3 9 "BottleLoop$Text" "codes" "[I", Cond.classLink RX3 13 RX0, Cond.fieldLink RX3 16 "BottleLoop$Text" "order" "LBottleLoop$Order;", Cond.instanceMethod yX0_init, Cond.code yX0_init cX0_init 1 none, Cond.methodLink RX0 3 objectInit, Cond.methodLink RL 78 yL_cell, Cond.static yL_cell, Cond.initialized RL, Cond.code yL_cell cL_cell 2 (some .int), Cond.constant RL 7 (15563221), Cond.constant RL 8 (2147483647), Cond.methodLink RL 82 yX5_goneShare, Cond.instanceMethod yX5_goneShare, Cond.selects RX5 yX5_goneShare yX5_goneShare]
def wsL_law0_r4 : List Cond := [Cond.code yX5_goneShare cX5_goneShare 2 (some .double), Cond.instanceMethod yX2_brandSum, Cond.selects RX2 yX2_brandSum yX2_brandSum, Cond.code yX2_brandSum cX2_brandSum 6 (some .int), Cond.methodLink RX2 58 yX2_brandNumber, Cond.instanceMethod yX2_brandNumber, Cond.selects RX2 yX2_brandNumber yX2_brandNumber, Cond.code yX2_brandNumber cX2_brandNumber 3 (some .int), Cond.methodLink RX2 39 yX2_overShops, Cond.instanceMethod yX2_overShops, Cond.selects RX2 yX2_overShops yX2_overShops, Cond.code yX2_overShops cX2_overShops 4 (some .int), Cond.methodLink RX2 49 yX2_ofShop, Cond.instanceMethod yX2_ofShop, Cond.selects RX2 yX2_ofShop yX2_ofShop, Cond.code yX2_ofShop cX2_ofShop 3 (some .int), Cond.methodLink RX2 32 yX2_get, Cond.instanceMethod yX2_get, Cond.selects RX2 yX2_get yX2_get, Cond.code yX2_get cX2_get 2 (some .int), Cond.methodLink RX2 42 yX2_ofBrand, Cond.instanceMethod yX2_ofBrand, Cond.selects RX2 yX2_ofBrand yX2_ofBrand, Cond.code yX2_ofBrand cX2_ofBrand 3 (some .int)]
def wsL_law0_r5 : List Cond := [Cond.methodLink RL 56 yX5_bestShop, Cond.instanceMethod yX5_bestShop, Cond.selects RX5 yX5_bestShop yX5_bestShop, Cond.code yX5_bestShop cX5_bestShop 2 (some .int), Cond.methodLink RX5 44 yX5_needKind, Cond.static yX5_needKind, Cond.code yX5_needKind cX5_needKind 1 none, Cond.methodLink RX5 48 yX5_needRange, Cond.static yX5_needRange, Cond.code yX5_needRange cX5_needRange 3 none, Cond.methodLink RX5 153 yX5_needArgument, Cond.static yX5_needArgument, Cond.code yX5_needArgument cX5_needArgument 1 none, Cond.classLink RX5 300 "java/lang/IllegalArgumentException", Cond.initialized "java/lang/IllegalArgumentException", Cond.instanceMethod yX4_bestToCollect, Cond.selects RX4 yX4_bestToCollect yX4_bestToCollect, Cond.code yX4_bestToCollect cX4_bestToCollect 6 (some .int), Cond.methodLink RX4 96 yX4_mostCollectable, Cond.instanceMethod yX4_mostCollectable, Cond.selects RX4 yX4_mostCollectable yX4_mostCollectable, Cond.code yX4_mostCollectable cX4_mostCollectable 4 (some .int), Cond.methodLink RX4 65 Lib.Math.min.name, Cond.static Lib.Math.min.name]
def wsL_law0_r6 : List Cond := [Cond.initialized "java/lang/Math", Cond.code Lib.Math.min.name Lib.Math.min.code 2 (some .int), Cond.methodLink RX4 48 yX4_emptiesOf, Cond.instanceMethod yX4_emptiesOf, Cond.selects RX4 yX4_emptiesOf yX4_emptiesOf, Cond.code yX4_emptiesOf cX4_emptiesOf 5 (some .int), Cond.methodLink RL 86 yX5_set, Cond.instanceMethod yX5_set, Cond.selects RX5 yX5_set yX5_set, Cond.code yX5_set cX5_set 4 (some .int), Cond.fieldLink RX5 83 "BottleLoop" "LEAST_SETTING" "[I", Cond.fieldLink RX5 91 "BottleLoop" "MOST_SETTING" "[I", Cond.methodLink RX5 80 yX5_needSetting, Cond.static yX5_needSetting, Cond.code yX5_needSetting cX5_needSetting 1 none, Cond.classLink RX5 289 "java/lang/IndexOutOfBoundsException", Cond.initialized "java/lang/IndexOutOfBoundsException", Cond.methodLink RX5 87 yX5_entry, Cond.instanceMethod yX2_ofAll, Cond.selects RX2 yX2_ofAll yX2_ofAll, Cond.code yX2_ofAll cX2_ofAll 2 (some .int), Cond.methodLink RX5 58 yX5_needState, Cond.static yX5_needState, Cond.code yX5_needState cX5_needState 1 none]
def wsL_law0_r7 : List Cond := [Cond.classLink RX5 305 "java/lang/IllegalStateException", Cond.initialized "java/lang/IllegalStateException", Cond.instanceMethod yX1_keep, Cond.selects RX1 yX1_keep yX1_keep, Cond.code yX1_keep cX1_keep 3 none, Cond.fieldLink RX1 20 "BottleLoop$Past" "latest" "I", Cond.fieldLink RX1 16 "BottleLoop$Past" "kept" "I", Cond.methodLink RX1 23 yX1_latestState, Cond.instanceMethod yX1_latestState, Cond.selects RX1 yX1_latestState yX1_latestState, Cond.code yX1_latestState cX1_latestState 1 (some (.object "BottleLoop$State")), Cond.instanceMethod yX2_copyFrom, Cond.selects RX2 yX2_copyFrom yX2_copyFrom, Cond.code yX2_copyFrom cX2_copyFrom 2 none, Cond.methodLink RX2 26 arraycopyName, Cond.native arraycopyName, Cond.static arraycopyName, Cond.initialized "java/lang/System", Cond.instanceMethod yX2_ofSetting, Cond.selects RX2 yX2_ofSetting yX2_ofSetting, Cond.code yX2_ofSetting cX2_ofSetting 2 (some .int), Cond.methodLink RL 89 yX5_buyCrates, Cond.instanceMethod yX5_buyCrates, Cond.selects RX5 yX5_buyCrates yX5_buyCrates]
def wsL_law0_r8 : List Cond := [Cond.code yX5_buyCrates cX5_buyCrates 2 (some .int), Cond.instanceMethod yX2_countNumber, Cond.selects RX2 yX2_countNumber yX2_countNumber, Cond.code yX2_countNumber cX2_countNumber 2 (some .int), Cond.methodLink RX2 52 yX2_overBrands, Cond.instanceMethod yX2_overBrands, Cond.selects RX2 yX2_overBrands yX2_overBrands, Cond.code yX2_overBrands cX2_overBrands 4 (some .int), Cond.methodLink RX2 55 yX2_ofAll, Cond.instanceMethod yX2_addToAll, Cond.selects RX2 yX2_addToAll yX2_addToAll, Cond.code yX2_addToAll cX2_addToAll 3 none, Cond.methodLink RL 92 yX5_addBrand, Cond.instanceMethod yX5_addBrand, Cond.selects RX5 yX5_addBrand yX5_addBrand, Cond.code yX5_addBrand cX5_addBrand 4 (some .int), Cond.instanceMethod yX2_addToBrand, Cond.selects RX2 yX2_addToBrand yX2_addToBrand, Cond.code yX2_addToBrand cX2_addToBrand 5 none, Cond.methodLink RL 32 yX5_fill, Cond.instanceMethod yX5_fill, Cond.selects RX5 yX5_fill yX5_fill, Cond.code yX5_fill cX5_fill 3 (some .int), Cond.methodLink RX5 100 yX5_needBrand]
def wsL_law0_r9 : List Cond := [Cond.instanceMethod yX5_needBrand, Cond.selects RX5 yX5_needBrand yX5_needBrand, Cond.code yX5_needBrand cX5_needBrand 2 none, Cond.methodLink RX5 283 yX5_isBrand, Cond.instanceMethod yX5_isBrand, Cond.selects RX5 yX5_isBrand yX5_isBrand, Cond.code yX5_isBrand cX5_isBrand 2 (some .boolean), Cond.instanceMethod yX4_fillBottles, Cond.selects RX4 yX4_fillBottles yX4_fillBottles, Cond.code yX4_fillBottles cX4_fillBottles 4 (some .int), Cond.methodLink RX4 51 yX4_wornBy, Cond.instanceMethod yX4_wornBy, Cond.selects RX4 yX4_wornBy yX4_wornBy, Cond.code yX4_wornBy cX4_wornBy 5 (some .int), Cond.methodLink RL 15 yX5_brand, Cond.instanceMethod yX5_brand, Cond.selects RX5 yX5_brand yX5_brand, Cond.code yX5_brand cX5_brand 3 (some .int), Cond.methodLink RL 95 yX5_addShop, Cond.instanceMethod yX5_addShop, Cond.selects RX5 yX5_addShop yX5_addShop, Cond.code yX5_addShop cX5_addShop 3 (some .int), Cond.constant RX5 73 (100000), Cond.instanceMethod yX2_addToShop]
def wsL_law0_r10 : List Cond := [Cond.selects RX2 yX2_addToShop yX2_addToShop, Cond.code yX2_addToShop cX2_addToShop 5 none, Cond.methodLink RL 98 yL_acts, Cond.static yL_acts, Cond.code yL_acts cL_acts 24 (some .boolean), Cond.methodLink RL 9 yX5_count, Cond.instanceMethod yX5_count, Cond.selects RX5 yX5_count yX5_count, Cond.code yX5_count cX5_count 2 (some .int), Cond.instanceMethod yX1_kept, Cond.selects RX1 yX1_kept yX1_kept, Cond.code yX1_kept cX1_kept 1 (some .int), Cond.methodLink RL 29 yX5_filled, Cond.instanceMethod yX5_filled, Cond.selects RX5 yX5_filled yX5_filled, Cond.code yX5_filled cX5_filled 3 (some .int), Cond.methodLink RL 35 yX5_whyNotDeliver, Cond.instanceMethod yX5_whyNotDeliver, Cond.selects RX5 yX5_whyNotDeliver yX5_whyNotDeliver, Cond.code yX5_whyNotDeliver cX5_whyNotDeliver 4 (some .int), Cond.methodLink RX5 110 yX5_needShop, Cond.instanceMethod yX5_needShop, Cond.selects RX5 yX5_needShop yX5_needShop, Cond.code yX5_needShop cX5_needShop 2 none]
def wsL_law0_r11 : List Cond := [Cond.methodLink RX5 286 yX5_isShop, Cond.instanceMethod yX5_isShop, Cond.selects RX5 yX5_isShop yX5_isShop, Cond.code yX5_isShop cX5_isShop 2 (some .boolean), Cond.instanceMethod yX4_deliverReason, Cond.selects RX4 yX4_deliverReason yX4_deliverReason, Cond.code yX4_deliverReason cX4_deliverReason 4 (some .int), Cond.methodLink RX4 39 yX4_cratePrice, Cond.instanceMethod yX4_cratePrice, Cond.selects RX4 yX4_cratePrice yX4_cratePrice, Cond.code yX4_cratePrice cX4_cratePrice 2 (some .int), Cond.methodLink RX4 30 yX4_crateDeposits, Cond.instanceMethod yX4_crateDeposits, Cond.selects RX4 yX4_crateDeposits yX4_crateDeposits, Cond.code yX4_crateDeposits cX4_crateDeposits 2 (some .int), Cond.methodLink RL 38 yX5_mostCrates, Cond.instanceMethod yX5_mostCrates, Cond.selects RX5 yX5_mostCrates yX5_mostCrates, Cond.code yX5_mostCrates cX5_mostCrates 3 (some .int), Cond.instanceMethod yX4_mostDeliverable, Cond.selects RX4 yX4_mostDeliverable yX4_mostDeliverable, Cond.code yX4_mostDeliverable cX4_mostDeliverable 6 (some .int), Cond.methodLink RL 22 yX5_setting, Cond.instanceMethod yX5_setting]
def wsL_law0_r12 : List Cond := [Cond.selects RX5 yX5_setting yX5_setting, Cond.code yX5_setting cX5_setting 2 (some .int), Cond.methodLink RL 41 yX5_deliver, Cond.instanceMethod yX5_deliver, Cond.selects RX5 yX5_deliver yX5_deliver, Cond.code yX5_deliver cX5_deliver 4 (some .int), Cond.instanceMethod yX4_deliverCrates, Cond.selects RX4 yX4_deliverCrates yX4_deliverCrates, Cond.code yX4_deliverCrates cX4_deliverCrates 6 (some .int), Cond.methodLink RL 19 yX5_shop, Cond.instanceMethod yX5_shop, Cond.selects RX5 yX5_shop yX5_shop, Cond.code yX5_shop cX5_shop 3 (some .int), Cond.methodLink RX5 188 yX5_isShopNumber, Cond.static yX5_isShopNumber, Cond.code yX5_isShopNumber cX5_isShopNumber 1 (some .boolean), Cond.instanceMethod yX2_shopNumber, Cond.selects RX2 yX2_shopNumber yX2_shopNumber, Cond.code yX2_shopNumber cX2_shopNumber 3 (some .int), Cond.methodLink RX2 46 yX2_overBrandsOf, Cond.instanceMethod yX2_overBrandsOf, Cond.selects RX2 yX2_overBrandsOf yX2_overBrandsOf, Cond.code yX2_overBrandsOf cX2_overBrandsOf 5 (some .int), Cond.methodLink RL 44 yX5_sell]
def wsL_law0_r13 : List Cond := [Cond.instanceMethod yX5_sell, Cond.selects RX5 yX5_sell yX5_sell, Cond.code yX5_sell cX5_sell 4 (some .int), Cond.instanceMethod yX4_sellReason, Cond.selects RX4 yX4_sellReason yX4_sellReason, Cond.code yX4_sellReason cX4_sellReason 4 (some .int), Cond.methodLink RX4 42 yX4_bottleReason, Cond.static yX4_bottleReason, Cond.code yX4_bottleReason cX4_bottleReason 2 (some .int), Cond.instanceMethod yX4_sellBottles, Cond.selects RX4 yX4_sellBottles yX4_sellBottles, Cond.code yX4_sellBottles cX4_sellBottles 4 (some .int), Cond.methodLink RX4 45 yX4_depositOf, Cond.instanceMethod yX4_depositOf, Cond.selects RX4 yX4_depositOf yX4_depositOf, Cond.code yX4_depositOf cX4_depositOf 2 (some .int), Cond.methodLink RL 47 yX5_takeBack, Cond.instanceMethod yX5_takeBack, Cond.selects RX5 yX5_takeBack yX5_takeBack, Cond.code yX5_takeBack cX5_takeBack 4 (some .int), Cond.instanceMethod yX4_returnReason, Cond.selects RX4 yX4_returnReason yX4_returnReason, Cond.code yX4_returnReason cX4_returnReason 4 (some .int), Cond.instanceMethod yX4_returnBottles]
def wsL_law0_r14 : List Cond := [Cond.selects RX4 yX4_returnBottles yX4_returnBottles, Cond.code yX4_returnBottles cX4_returnBottles 4 (some .int), Cond.methodLink RL 50 yX5_collected, Cond.instanceMethod yX5_collected, Cond.selects RX5 yX5_collected yX5_collected, Cond.code yX5_collected cX5_collected 4 (some .int), Cond.instanceMethod yX4_wouldCollect, Cond.selects RX4 yX4_wouldCollect yX4_wouldCollect, Cond.code yX4_wouldCollect cX4_wouldCollect 5 (some .int), Cond.methodLink RX4 92 yX4_collectReason, Cond.instanceMethod yX4_collectReason, Cond.selects RX4 yX4_collectReason yX4_collectReason, Cond.code yX4_collectReason cX4_collectReason 4 (some .int), Cond.methodLink RX4 70 yX4_pickEmpties, Cond.instanceMethod yX4_pickEmpties, Cond.selects RX4 yX4_pickEmpties yX4_pickEmpties, Cond.code yX4_pickEmpties cX4_pickEmpties 6 none, Cond.methodLink RX4 85 yX4_pickOne, Cond.instanceMethod yX4_pickOne, Cond.selects RX4 yX4_pickOne yX4_pickOne, Cond.code yX4_pickOne cX4_pickOne 4 none, Cond.methodLink RX4 73 yX4_pickedOf, Cond.instanceMethod yX4_pickedOf, Cond.selects RX4 yX4_pickedOf yX4_pickedOf]
def wsL_law0_r15 : List Cond := [Cond.code yX4_pickedOf cX4_pickedOf 3 (some .int), Cond.methodLink RL 53 yX5_whyNotCollect, Cond.instanceMethod yX5_whyNotCollect, Cond.selects RX5 yX5_whyNotCollect yX5_whyNotCollect, Cond.code yX5_whyNotCollect cX5_whyNotCollect 4 (some .int), Cond.methodLink RL 59 yX5_collect, Cond.instanceMethod yX5_collect, Cond.selects RX5 yX5_collect yX5_collect, Cond.code yX5_collect cX5_collect 4 (some .int), Cond.instanceMethod yX4_collectCrates, Cond.selects RX4 yX4_collectCrates yX4_collectCrates, Cond.code yX4_collectCrates cX4_collectCrates 7 (some .int), Cond.methodLink RL 62 yX5_breaks, Cond.instanceMethod yX5_breaks, Cond.selects RX5 yX5_breaks yX5_breaks, Cond.code yX5_breaks cX5_breaks 4 (some .int), Cond.instanceMethod yX4_breakReason, Cond.selects RX4 yX4_breakReason yX4_breakReason, Cond.code yX4_breakReason cX4_breakReason 4 (some .int), Cond.instanceMethod yX4_breakBottles, Cond.selects RX4 yX4_breakBottles yX4_breakBottles, Cond.code yX4_breakBottles cX4_breakBottles 6 (some .int), Cond.methodLink RL 65 yX5_lose, Cond.instanceMethod yX5_lose]
def wsL_law0_r16 : List Cond := [Cond.selects RX5 yX5_lose yX5_lose, Cond.code yX5_lose cX5_lose 3 (some .int), Cond.instanceMethod yX4_loseBottles, Cond.selects RX4 yX4_loseBottles yX4_loseBottles, Cond.code yX4_loseBottles cX4_loseBottles 3 (some .int), Cond.methodLink RL 68 yX5_sort, Cond.instanceMethod yX5_sort, Cond.selects RX5 yX5_sort yX5_sort, Cond.code yX5_sort cX5_sort 3 (some .int), Cond.instanceMethod yX4_yardOf, Cond.selects RX4 yX4_yardOf yX4_yardOf, Cond.code yX4_yardOf cX4_yardOf 4 (some .int), Cond.instanceMethod yX4_sortBottles, Cond.selects RX4 yX4_sortBottles yX4_sortBottles, Cond.code yX4_sortBottles cX4_sortBottles 6 (some .int), Cond.methodLink RX4 76 yX4_yardOf, Cond.methodLink RL 71 yL_swaps, Cond.static yL_swaps, Cond.code yL_swaps cL_swaps 7 (some .boolean), Cond.methodLink RL 25 yX5_swap, Cond.instanceMethod yX5_swap, Cond.selects RX5 yX5_swap yX5_swap, Cond.code yX5_swap cX5_swap 4 (some .int), Cond.instanceMethod yX4_swapBottles]
def wsL_law0_r17 : List Cond := [Cond.selects RX4 yX4_swapBottles yX4_swapBottles, Cond.code yX4_swapBottles cX4_swapBottles 4 (some .int), Cond.instanceMethod yX2_addToSwaps, Cond.selects RX2 yX2_addToSwaps yX2_addToSwaps, Cond.code yX2_addToSwaps cX2_addToSwaps 5 none, Cond.instanceMethod yX2_ofSwaps, Cond.selects RX2 yX2_ofSwaps yX2_ofSwaps, Cond.code yX2_ofSwaps cX2_ofSwaps 3 (some .int), Cond.methodLink RL 102 yL_brands, Cond.static yL_brands, Cond.code yL_brands cL_brands 10 (some .boolean), Cond.methodLink RL 106 yL_money, Cond.static yL_money, Cond.code yL_money cL_money 11 (some .boolean), Cond.methodLink RL 109 yX5_undo, Cond.instanceMethod yX5_undo, Cond.selects RX5 yX5_undo yX5_undo, Cond.code yX5_undo cX5_undo 1 (some .int), Cond.instanceMethod yX1_giveBack, Cond.selects RX1 yX1_giveBack yX1_giveBack, Cond.code yX1_giveBack cX1_giveBack 2 none]
def wsL_law0 : List Cond := (wsL_law0_r1 ++ (wsL_law0_r2 ++ (wsL_law0_r3 ++ (wsL_law0_r4 ++ (wsL_law0_r5 ++ (wsL_law0_r6 ++ (wsL_law0_r7 ++ (wsL_law0_r8 ++ (wsL_law0_r9 ++ (wsL_law0_r10 ++ (wsL_law0_r11 ++ (wsL_law0_r12 ++ (wsL_law0_r13 ++ (wsL_law0_r14 ++ (wsL_law0_r15 ++ (wsL_law0_r16 ++ wsL_law0_r17)))))))))))))))) ++ wsX50 ++ wsX40 ++ wsX10 ++ wsX30 ++ wsX00 ++ wsX20 ++ ([] : List Cond)
def wsL_law : List Cond := wsL_law0 ++ (vx_atS RX5 304 "java/lang/IllegalArgumentException" ["java/lang/RuntimeException", "java/lang/Exception"]).filter goodWord ++ (vx_atS RX5 293 "java/lang/IndexOutOfBoundsException" ["java/lang/RuntimeException", "java/lang/Exception"]).filter goodWord ++ (vx_atS RX5 309 "java/lang/IllegalStateException" ["java/lang/RuntimeException", "java/lang/Exception"]).filter goodWord
end
section
theorem bmem_of {big ws : List Cond} (ps : List Nat) (hp : ps.map (fun i => big[i]?) = ws.map some) : ∀ w ∈ ws, w ∈ big := by
  intro w hw
  have h1 : some w ∈ ws.map some := List.mem_map.mpr ⟨w, hw, rfl⟩
  rw [← hp] at h1
  obtain ⟨i, -, hi⟩ := List.mem_map.mp h1
  exact List.mem_of_getElem? hi
set_option maxRecDepth 100000 in
theorem bm_wsL_law0_r1 : ∀ w ∈ wsL_law0_r1, w ∈ lw_tbl := bmem_of [71, 72, 57, 108, 73, 74, 75, 76, 77, 78, 79, 80, 58, 172, 170, 117, 118, 60, 171, 136, 137, 61, 173, 168] (by decide +kernel)
set_option maxRecDepth 100000 in
theorem bm_wsL_law0_r2 : ∀ w ∈ wsL_law0_r2, w ∈ lw_tbl := bmem_of [143, 62, 174, 82, 83, 84, 85, 86, 59, 109, 111, 88, 89, 90, 104, 94, 95, 96, 98, 0, 99, 100, 102, 1] (by decide +kernel)
set_option maxRecDepth 100000 in
theorem bm_wsL_law0_r3 : ∀ w ∈ wsL_law0_r3, w ∈ lw_tbl := bmem_of [103, 120, 121, 122, 123, 126, 139, 140, 141, 159, 142, 160, 145, 146, 147, 462, 463, 56, 464, 465, 466, 453, 454, 455] (by decide +kernel)
set_option maxRecDepth 100000 in
theorem bm_wsL_law0_r4 : ∀ w ∈ wsL_law0_r4, w ∈ lw_tbl := bmem_of [456, 459, 27, 460, 461, 427, 23, 428, 334, 336, 12, 337, 338, 340, 13, 341, 271, 273, 4, 274, 346, 348, 15, 349] (by decide +kernel)
set_option maxRecDepth 100000 in
theorem bm_wsL_law0_r5 : ∀ w ∈ wsL_law0_r5, w ∈ lw_tbl := bmem_of [433, 434, 435, 436, 190, 191, 192, 193, 194, 195, 196, 197, 198, 199, 66, 439, 24, 440, 441, 443, 25, 444, 450, 451] (by decide +kernel)
end
section
set_option maxRecDepth 100000 in
theorem bm_wsL_law0_r6 : ∀ w ∈ wsL_law0_r6, w ∈ lw_tbl := bmem_of [67, 452, 445, 447, 26, 448, 351, 352, 353, 354, 374, 377, 355, 356, 357, 358, 68, 376, 269, 3, 270, 275, 276, 277] (by decide +kernel)
set_option maxRecDepth 100000 in
theorem bm_wsL_law0_r7 : ∀ w ∈ wsL_law0_r7, w ∈ lw_tbl := bmem_of [278, 69, 296, 5, 297, 127, 128, 298, 300, 6, 301, 304, 7, 305, 306, 308, 307, 70, 381, 16, 382, 326, 327, 328] (by decide +kernel)
set_option maxRecDepth 100000 in
theorem bm_wsL_law0_r8 : ∀ w ∈ wsL_law0_r8, w ∈ lw_tbl := bmem_of [329, 332, 11, 333, 342, 344, 14, 345, 350, 311, 8, 312, 186, 187, 188, 189, 315, 9, 316, 384, 385, 386, 387, 388] (by decide +kernel)
set_option maxRecDepth 100000 in
theorem bm_wsL_law0_r9 : ∀ w ∈ wsL_law0_r9, w ∈ lw_tbl := bmem_of [390, 17, 391, 392, 394, 18, 395, 400, 19, 401, 402, 404, 20, 405, 421, 422, 423, 424, 317, 318, 319, 320, 321, 324] (by decide +kernel)
set_option maxRecDepth 100000 in
theorem bh_acts : Cond.code yL_acts cL_acts 24 (some .boolean) ∈ lw_tbl := List.mem_append_right _ (List.mem_append_right _ (List.mem_append_left _ (List.mem_of_getElem? (i := 207) rfl)))
set_option maxRecDepth 100000 in
theorem bm_wsL_law0_r10 : ∀ w ∈ wsL_law0_r10, w ∈ lw_tbl := by
  show ∀ w ∈ ([Cond.selects RX2 yX2_addToShop yX2_addToShop, Cond.code yX2_addToShop cX2_addToShop 5 none, Cond.methodLink RL 98 yL_acts, Cond.static yL_acts] ++ (Cond.code yL_acts cL_acts 24 (some .boolean) :: [Cond.methodLink RL 9 yX5_count, Cond.instanceMethod yX5_count, Cond.selects RX5 yX5_count yX5_count, Cond.code yX5_count cX5_count 2 (some .int), Cond.instanceMethod yX1_kept, Cond.selects RX1 yX1_kept yX1_kept, Cond.code yX1_kept cX1_kept 1 (some .int), Cond.methodLink RL 29 yX5_filled, Cond.instanceMethod yX5_filled, Cond.selects RX5 yX5_filled yX5_filled, Cond.code yX5_filled cX5_filled 3 (some .int), Cond.methodLink RL 35 yX5_whyNotDeliver, Cond.instanceMethod yX5_whyNotDeliver, Cond.selects RX5 yX5_whyNotDeliver yX5_whyNotDeliver, Cond.code yX5_whyNotDeliver cX5_whyNotDeliver 4 (some .int), Cond.methodLink RX5 110 yX5_needShop, Cond.instanceMethod yX5_needShop, Cond.selects RX5 yX5_needShop yX5_needShop, Cond.code yX5_needShop cX5_needShop 2 none])), w ∈ lw_tbl
  exact (List.forall_mem_append.mpr ⟨bmem_of [10, 325, 501, 502] (by decide +kernel), (List.forall_mem_cons.mpr ⟨bh_acts, (bmem_of [429, 430, 431, 432, 415, 21, 416, 504, 505, 506, 507, 509, 510, 511, 512, 474, 476, 28, 477] (by decide +kernel))⟩)⟩)
end
section
set_option maxRecDepth 100000 in
theorem bm_wsL_law0_r11 : ∀ w ∈ wsL_law0_r11, w ∈ lw_tbl := bmem_of [478, 480, 29, 481, 515, 32, 516, 518, 520, 33, 521, 522, 524, 34, 525, 526, 527, 528, 529, 532, 35, 533, 497, 498] (by decide +kernel)
set_option maxRecDepth 100000 in
theorem bm_wsL_law0_r12 : ∀ w ∈ wsL_law0_r12, w ∈ lw_tbl := bmem_of [499, 500, 534, 535, 536, 537, 540, 36, 541, 470, 471, 472, 473, 483, 484, 485, 488, 30, 489, 490, 492, 31, 493, 544] (by decide +kernel)
set_option maxRecDepth 100000 in
theorem bm_wsL_law0_r13 : ∀ w ∈ wsL_law0_r13, w ∈ lw_tbl := bmem_of [545, 546, 547, 550, 37, 551, 552, 553, 554, 557, 38, 558, 559, 561, 39, 562, 563, 564, 565, 566, 569, 40, 570, 573] (by decide +kernel)
set_option maxRecDepth 100000 in
theorem bm_wsL_law0_r14 : ∀ w ∈ wsL_law0_r14, w ∈ lw_tbl := bmem_of [41, 574, 575, 576, 577, 578, 581, 42, 582, 583, 585, 43, 586, 587, 589, 44, 590, 591, 593, 45, 594, 595, 597, 46] (by decide +kernel)
set_option maxRecDepth 100000 in
theorem bm_wsL_law0_r15 : ∀ w ∈ wsL_law0_r15, w ∈ lw_tbl := bmem_of [598, 600, 601, 602, 603, 605, 606, 607, 608, 611, 47, 612, 613, 614, 615, 616, 619, 48, 620, 623, 49, 624, 625, 626] (by decide +kernel)
end
section
set_option maxRecDepth 100000 in
theorem bm_wsL_law0_r16 : ∀ w ∈ wsL_law0_r16, w ∈ lw_tbl := bmem_of [627, 628, 631, 50, 632, 633, 634, 635, 636, 639, 51, 640, 643, 52, 644, 645, 646, 647, 648, 649, 650, 651, 652, 655] (by decide +kernel)
set_option maxRecDepth 100000 in
theorem bh_brands : Cond.code yL_brands cL_brands 10 (some .boolean) ∈ lw_tbl := List.mem_append_right _ (List.mem_append_right _ (List.mem_append_left _ (List.mem_of_getElem? (i := 173) rfl)))
set_option maxRecDepth 100000 in
theorem bh_money : Cond.code yL_money cL_money 11 (some .boolean) ∈ lw_tbl := List.mem_append_right _ (List.mem_append_right _ (List.mem_append_left _ (List.mem_of_getElem? (i := 200) rfl)))
set_option maxRecDepth 100000 in
theorem bm_wsL_law0_r17 : ∀ w ∈ wsL_law0_r17, w ∈ lw_tbl := by
  show ∀ w ∈ ([Cond.selects RX4 yX4_swapBottles yX4_swapBottles, Cond.code yX4_swapBottles cX4_swapBottles 4 (some .int), Cond.instanceMethod yX2_addToSwaps, Cond.selects RX2 yX2_addToSwaps yX2_addToSwaps, Cond.code yX2_addToSwaps cX2_addToSwaps 5 none, Cond.instanceMethod yX2_ofSwaps, Cond.selects RX2 yX2_ofSwaps yX2_ofSwaps, Cond.code yX2_ofSwaps cX2_ofSwaps 3 (some .int), Cond.methodLink RL 102 yL_brands, Cond.static yL_brands] ++ (Cond.code yL_brands cL_brands 10 (some .boolean) :: ([Cond.methodLink RL 106 yL_money, Cond.static yL_money] ++ (Cond.code yL_money cL_money 11 (some .boolean) :: [Cond.methodLink RL 109 yX5_undo, Cond.instanceMethod yX5_undo, Cond.selects RX5 yX5_undo yX5_undo, Cond.code yX5_undo cX5_undo 1 (some .int), Cond.instanceMethod yX1_giveBack, Cond.selects RX1 yX1_giveBack yX1_giveBack, Cond.code yX1_giveBack cX1_giveBack 2 none])))), w ∈ lw_tbl
  exact (List.forall_mem_append.mpr ⟨bmem_of [53, 656, 659, 54, 660, 663, 55, 664, 467, 468] (by decide +kernel), (List.forall_mem_cons.mpr ⟨bh_brands, (List.forall_mem_append.mpr ⟨bmem_of [494, 495] (by decide +kernel), (List.forall_mem_cons.mpr ⟨bh_money, (bmem_of [409, 410, 411, 412, 419, 22, 420] (by decide +kernel))⟩)⟩)⟩)⟩)
set_option maxRecDepth 100000 in
theorem bm_wsX50 : ∀ w ∈ wsX50, w ∈ lw_tbl := bmem_of [175, 177, 179, 181, 183] (by decide +kernel)
set_option maxRecDepth 100000 in
theorem bm_wsX40 : ∀ w ∈ wsX40, w ∈ lw_tbl := bmem_of [112, 114] (by decide +kernel)
set_option maxRecDepth 100000 in
theorem bm_wsX10 : ∀ w ∈ wsX10, w ∈ lw_tbl := bmem_of [129, 131, 133] (by decide +kernel)
end
section
set_option maxRecDepth 100000 in
theorem bm_wsX30 : ∀ w ∈ wsX30, w ∈ lw_tbl := bmem_of [161, 163, 165] (by decide +kernel)
set_option maxRecDepth 100000 in
theorem bm_wsX00 : ∀ w ∈ wsX00, w ∈ lw_tbl := bmem_of [148, 150, 152, 154, 156] (by decide +kernel)
set_option maxRecDepth 100000 in
theorem bm_wsX20 : ∀ w ∈ wsX20, w ∈ lw_tbl := bmem_of [105] (by decide +kernel)
end
section
set_option maxRecDepth 20000 in
theorem wsL_law_in0 : ∀ w ∈ wsL_law0, w ∈ lw_tbl := fun w h => (List.mem_append.mp h).elim (fun h => (List.mem_append.mp h).elim (fun h => (List.mem_append.mp h).elim (fun h => (List.mem_append.mp h).elim (fun h => (List.mem_append.mp h).elim (fun h => (List.mem_append.mp h).elim (fun h => (List.mem_append.mp h).elim (fun h => (List.mem_append.mp h).elim (fun h => bm_wsL_law0_r1 w h) (fun h => (List.mem_append.mp h).elim (fun h => bm_wsL_law0_r2 w h) (fun h => (List.mem_append.mp h).elim (fun h => bm_wsL_law0_r3 w h) (fun h => (List.mem_append.mp h).elim (fun h => bm_wsL_law0_r4 w h) (fun h => (List.mem_append.mp h).elim (fun h => bm_wsL_law0_r5 w h) (fun h => (List.mem_append.mp h).elim (fun h => bm_wsL_law0_r6 w h) (fun h => (List.mem_append.mp h).elim (fun h => bm_wsL_law0_r7 w h) (fun h => (List.mem_append.mp h).elim (fun h => bm_wsL_law0_r8 w h) (fun h => (List.mem_append.mp h).elim (fun h => bm_wsL_law0_r9 w h) (fun h => (List.mem_append.mp h).elim (fun h => bm_wsL_law0_r10 w h) (fun h => (List.mem_append.mp h).elim (fun h => bm_wsL_law0_r11 w h) (fun h => (List.mem_append.mp h).elim (fun h => bm_wsL_law0_r12 w h) (fun h => (List.mem_append.mp h).elim (fun h => bm_wsL_law0_r13 w h) (fun h => (List.mem_append.mp h).elim (fun h => bm_wsL_law0_r14 w h) (fun h => (List.mem_append.mp h).elim (fun h => bm_wsL_law0_r15 w h) (fun h => (List.mem_append.mp h).elim (fun h => bm_wsL_law0_r16 w h) (fun h => bm_wsL_law0_r17 w h))))))))))))))))) (fun h => bm_wsX50 w h)) (fun h => bm_wsX40 w h)) (fun h => bm_wsX10 w h)) (fun h => bm_wsX30 w h)) (fun h => bm_wsX00 w h)) (fun h => bm_wsX20 w h)) (fun h => absurd h List.not_mem_nil)
theorem wsL_law_x0 : ∀ w ∈ (vx_atS RX5 304 "java/lang/IllegalArgumentException" ["java/lang/RuntimeException", "java/lang/Exception"]).filter goodWord, w ∈ lw_tbl := by decide +kernel
theorem wsL_law_x1 : ∀ w ∈ (vx_atS RX5 293 "java/lang/IndexOutOfBoundsException" ["java/lang/RuntimeException", "java/lang/Exception"]).filter goodWord, w ∈ lw_tbl := by decide +kernel
theorem wsL_law_x2 : ∀ w ∈ (vx_atS RX5 309 "java/lang/IllegalStateException" ["java/lang/RuntimeException", "java/lang/Exception"]).filter goodWord, w ∈ lw_tbl := by decide +kernel
theorem wsL_law_in : ∀ w ∈ wsL_law, w ∈ lw_tbl := fun w h => (List.mem_append.mp h).elim (fun h => (List.mem_append.mp h).elim (fun h => (List.mem_append.mp h).elim (fun h => wsL_law_in0 w h) (fun h => wsL_law_x0 w h)) (fun h => wsL_law_x1 w h)) (fun h => wsL_law_x2 w h)
theorem inlX0 : ∀ w ∈ wsX00, w ∈ wsL_law := fun _ h => List.mem_append_left _ (List.mem_append_left _ (List.mem_append_left _ (List.mem_append_left _ (List.mem_append_left _ (List.mem_append_right _ h)))))
theorem inX0 : ∀ w ∈ wsX00, w ∈ lw_tbl := fun w h => wsL_law_in w (inlX0 w h)
theorem inlX1 : ∀ w ∈ wsX10, w ∈ wsL_law := fun _ h => List.mem_append_left _ (List.mem_append_left _ (List.mem_append_left _ (List.mem_append_left _ (List.mem_append_left _ (List.mem_append_left _ (List.mem_append_left _ (List.mem_append_right _ h)))))))
theorem inX1 : ∀ w ∈ wsX10, w ∈ lw_tbl := fun w h => wsL_law_in w (inlX1 w h)
theorem inlX2 : ∀ w ∈ wsX20, w ∈ wsL_law := fun _ h => List.mem_append_left _ (List.mem_append_left _ (List.mem_append_left _ (List.mem_append_left _ (List.mem_append_right _ h))))
theorem inX2 : ∀ w ∈ wsX20, w ∈ lw_tbl := fun w h => wsL_law_in w (inlX2 w h)
theorem inlX3 : ∀ w ∈ wsX30, w ∈ wsL_law := fun _ h => List.mem_append_left _ (List.mem_append_left _ (List.mem_append_left _ (List.mem_append_left _ (List.mem_append_left _ (List.mem_append_left _ (List.mem_append_right _ h))))))
theorem inX3 : ∀ w ∈ wsX30, w ∈ lw_tbl := fun w h => wsL_law_in w (inlX3 w h)
theorem inlX4 : ∀ w ∈ wsX40, w ∈ wsL_law := fun _ h => List.mem_append_left _ (List.mem_append_left _ (List.mem_append_left _ (List.mem_append_left _ (List.mem_append_left _ (List.mem_append_left _ (List.mem_append_left _ (List.mem_append_left _ (List.mem_append_right _ h))))))))
theorem inX4 : ∀ w ∈ wsX40, w ∈ lw_tbl := fun w h => wsL_law_in w (inlX4 w h)
theorem inlX5 : ∀ w ∈ wsX50, w ∈ wsL_law := fun _ h => List.mem_append_left _ (List.mem_append_left _ (List.mem_append_left _ (List.mem_append_left _ (List.mem_append_left _ (List.mem_append_left _ (List.mem_append_left _ (List.mem_append_left _ (List.mem_append_left _ (List.mem_append_right _ h)))))))))
theorem inX5 : ∀ w ∈ wsX50, w ∈ lw_tbl := fun w h => wsL_law_in w (inlX5 w h)
theorem inX6 : ∀ w ∈ wsX60, w ∈ lw_tbl := by decide +kernel
theorem inJ9 : ∀ w ∈ wsJ90, w ∈ lw_tbl := by decide +kernel
theorem inJ0 : ∀ w ∈ wsJ00, w ∈ lw_tbl := by decide +kernel
theorem inJ10 : ∀ w ∈ wsJ100, w ∈ lw_tbl := by decide +kernel
theorem dX0_init_0 : decode cX0_init 0 = .ok (.aload_n 0, 1) := by decide +kernel
theorem dX0_init_1 : decode cX0_init 1 = .ok (.invokespecial 3, 3) := by decide +kernel
theorem dX0_init_4 : decode cX0_init 4 = .ok (.return_, 1) := by decide +kernel
set_option maxRecDepth 20000 in
theorem ggX1_init_X2_init : GoodIn wsX1_init wsX2_init := goodIn_r _ [9, 10, 2, 3, 11, 12, 13, 14, 15, 16, 17, 18, 7, 19, 20, 21, 22, 23, 27] (by decide +kernel) (by decide +kernel)
set_option maxRecDepth 20000 in
theorem gX1_init_X2_init_n15 : GoodIn wsX1_init (wsX2_init) := ggX1_init_X2_init
theorem dX1_init_0 : decode cX1_init 0 = .ok (.aload_n 0, 1) := by decide +kernel
theorem dX1_init_1 : decode cX1_init 1 = .ok (.invokespecial 1, 3) := by decide +kernel
theorem dX1_init_4 : decode cX1_init 4 = .ok (.aload_n 0, 1) := by decide +kernel
theorem dX1_init_5 : decode cX1_init 5 = .ok (.bipush 6, 2) := by decide +kernel
theorem dX1_init_7 : decode cX1_init 7 = .ok (.anewarray 9, 3) := by decide +kernel
theorem dX1_init_10 : decode cX1_init 10 = .ok (.putfield 11, 3) := by decide +kernel
theorem dX1_init_13 : decode cX1_init 13 = .ok (.iconst 0, 1) := by decide +kernel
theorem dX1_init_14 : decode cX1_init 14 = .ok (.istore_n 1, 1) := by decide +kernel
theorem dX1_init_15 : decode cX1_init 15 = .ok (.iload_n 1, 1) := by decide +kernel
theorem dX1_init_16 : decode cX1_init 16 = .ok (.aload_n 0, 1) := by decide +kernel
theorem dX1_init_17 : decode cX1_init 17 = .ok (.getfield 11, 3) := by decide +kernel
theorem dX1_init_20 : decode cX1_init 20 = .ok (.arraylength, 1) := by decide +kernel
theorem dX1_init_21 : decode cX1_init 21 = .ok (.if_icmp .ge 22, 3) := by decide +kernel
theorem dX1_init_24 : decode cX1_init 24 = .ok (.aload_n 0, 1) := by decide +kernel
theorem dX1_init_25 : decode cX1_init 25 = .ok (.getfield 11, 3) := by decide +kernel
theorem dX1_init_28 : decode cX1_init 28 = .ok (.iload_n 1, 1) := by decide +kernel
theorem dX1_init_29 : decode cX1_init 29 = .ok (.new 9, 3) := by decide +kernel
theorem dX1_init_32 : decode cX1_init 32 = .ok (.dup, 1) := by decide +kernel
theorem dX1_init_33 : decode cX1_init 33 = .ok (.invokespecial 15, 3) := by decide +kernel
theorem dX1_init_36 : decode cX1_init 36 = .ok (.aastore, 1) := by decide +kernel
theorem dX1_init_37 : decode cX1_init 37 = .ok (.iinc 1 1, 3) := by decide +kernel
theorem dX1_init_40 : decode cX1_init 40 = .ok (.goto (-25), 3) := by decide +kernel
theorem dX1_init_43 : decode cX1_init 43 = .ok (.return_, 1) := by decide +kernel
theorem dX1_kept_0 : decode cX1_kept 0 = .ok (.aload_n 0, 1) := by decide +kernel
theorem dX1_kept_1 : decode cX1_kept 1 = .ok (.getfield 16, 3) := by decide +kernel
theorem dX1_kept_4 : decode cX1_kept 4 = .ok (.ireturn, 1) := by decide +kernel
theorem dX1_latestState_0 : decode cX1_latestState 0 = .ok (.aload_n 0, 1) := by decide +kernel
theorem dX1_latestState_1 : decode cX1_latestState 1 = .ok (.getfield 20, 3) := by decide +kernel
theorem dX1_latestState_4 : decode cX1_latestState 4 = .ok (.ifCond .lt 27, 3) := by decide +kernel
theorem dX1_latestState_7 : decode cX1_latestState 7 = .ok (.aload_n 0, 1) := by decide +kernel
theorem dX1_latestState_8 : decode cX1_latestState 8 = .ok (.getfield 20, 3) := by decide +kernel
theorem dX1_latestState_11 : decode cX1_latestState 11 = .ok (.aload_n 0, 1) := by decide +kernel
theorem dX1_latestState_12 : decode cX1_latestState 12 = .ok (.getfield 11, 3) := by decide +kernel
theorem dX1_latestState_15 : decode cX1_latestState 15 = .ok (.arraylength, 1) := by decide +kernel
theorem dX1_latestState_16 : decode cX1_latestState 16 = .ok (.if_icmp .ge 15, 3) := by decide +kernel
theorem dX1_latestState_19 : decode cX1_latestState 19 = .ok (.aload_n 0, 1) := by decide +kernel
theorem dX1_latestState_20 : decode cX1_latestState 20 = .ok (.getfield 11, 3) := by decide +kernel
theorem dX1_latestState_23 : decode cX1_latestState 23 = .ok (.aload_n 0, 1) := by decide +kernel
theorem dX1_latestState_24 : decode cX1_latestState 24 = .ok (.getfield 20, 3) := by decide +kernel
theorem dX1_latestState_27 : decode cX1_latestState 27 = .ok (.aaload, 1) := by decide +kernel
theorem dX1_latestState_28 : decode cX1_latestState 28 = .ok (.goto 4, 3) := by decide +kernel
theorem dX1_latestState_31 : decode cX1_latestState 31 = .ok (.aconst_null, 1) := by decide +kernel
theorem dX1_latestState_32 : decode cX1_latestState 32 = .ok (.areturn, 1) := by decide +kernel
set_option maxRecDepth 20000 in
theorem ggX1_keep_X1_latestState : GoodIn wsX1_keep wsX1_latestState := goodIn_r _ [7, 1, 8, 18, 19, 20] (by decide +kernel) (by decide +kernel)
set_option maxRecDepth 20000 in
theorem gX1_keep_X1_latestState : GoodIn wsX1_keep (wsV RX1 23 RX1 yX1_latestState wsX1_latestState) := goodIn_app (goodIn_of _ (by decide +kernel)) ggX1_keep_X1_latestState
set_option maxRecDepth 20000 in
theorem ggX1_keep_X2_copyFrom : GoodIn wsX1_keep wsX2_copyFrom := goodIn_r _ [12, 13, 14, 15, 16, 17, 21] (by decide +kernel) (by decide +kernel)
set_option maxRecDepth 20000 in
theorem gX1_keep_X2_copyFrom_n27 : GoodIn wsX1_keep (wsX2_copyFrom) := ggX1_keep_X2_copyFrom
theorem dX1_keep_0 : decode cX1_keep 0 = .ok (.aload_n 0, 1) := by decide +kernel
theorem dX1_keep_1 : decode cX1_keep 1 = .ok (.aload_n 0, 1) := by decide +kernel
theorem dX1_keep_2 : decode cX1_keep 2 = .ok (.getfield 20, 3) := by decide +kernel
theorem dX1_keep_5 : decode cX1_keep 5 = .ok (.iconst 1, 1) := by decide +kernel
theorem dX1_keep_6 : decode cX1_keep 6 = .ok (.iadd, 1) := by decide +kernel
theorem dX1_keep_7 : decode cX1_keep 7 = .ok (.bipush 6, 2) := by decide +kernel
theorem dX1_keep_9 : decode cX1_keep 9 = .ok (.if_icmp .ge 12, 3) := by decide +kernel
theorem dX1_keep_12 : decode cX1_keep 12 = .ok (.aload_n 0, 1) := by decide +kernel
theorem dX1_keep_13 : decode cX1_keep 13 = .ok (.getfield 20, 3) := by decide +kernel
theorem dX1_keep_16 : decode cX1_keep 16 = .ok (.iconst 1, 1) := by decide +kernel
theorem dX1_keep_17 : decode cX1_keep 17 = .ok (.iadd, 1) := by decide +kernel
theorem dX1_keep_18 : decode cX1_keep 18 = .ok (.goto 4, 3) := by decide +kernel
theorem dX1_keep_21 : decode cX1_keep 21 = .ok (.iconst 0, 1) := by decide +kernel
theorem dX1_keep_22 : decode cX1_keep 22 = .ok (.putfield 20, 3) := by decide +kernel
theorem dX1_keep_25 : decode cX1_keep 25 = .ok (.aload_n 0, 1) := by decide +kernel
theorem dX1_keep_26 : decode cX1_keep 26 = .ok (.aload_n 0, 1) := by decide +kernel
theorem dX1_keep_27 : decode cX1_keep 27 = .ok (.getfield 16, 3) := by decide +kernel
theorem dX1_keep_30 : decode cX1_keep 30 = .ok (.bipush 6, 2) := by decide +kernel
theorem dX1_keep_32 : decode cX1_keep 32 = .ok (.if_icmp .ge 12, 3) := by decide +kernel
theorem dX1_keep_35 : decode cX1_keep 35 = .ok (.aload_n 0, 1) := by decide +kernel
theorem dX1_keep_36 : decode cX1_keep 36 = .ok (.getfield 16, 3) := by decide +kernel
theorem dX1_keep_39 : decode cX1_keep 39 = .ok (.iconst 1, 1) := by decide +kernel
theorem dX1_keep_40 : decode cX1_keep 40 = .ok (.iadd, 1) := by decide +kernel
theorem dX1_keep_41 : decode cX1_keep 41 = .ok (.goto 5, 3) := by decide +kernel
theorem dX1_keep_44 : decode cX1_keep 44 = .ok (.bipush 6, 2) := by decide +kernel
theorem dX1_keep_46 : decode cX1_keep 46 = .ok (.putfield 16, 3) := by decide +kernel
theorem dX1_keep_49 : decode cX1_keep 49 = .ok (.aload_n 0, 1) := by decide +kernel
theorem dX1_keep_50 : decode cX1_keep 50 = .ok (.invokevirtual 23, 3) := by decide +kernel
theorem dX1_keep_53 : decode cX1_keep 53 = .ok (.astore_n 2, 1) := by decide +kernel
theorem dX1_keep_54 : decode cX1_keep 54 = .ok (.aload_n 2, 1) := by decide +kernel
theorem dX1_keep_55 : decode cX1_keep 55 = .ok (.ifnull 8, 3) := by decide +kernel
theorem dX1_keep_58 : decode cX1_keep 58 = .ok (.aload_n 2, 1) := by decide +kernel
theorem dX1_keep_59 : decode cX1_keep 59 = .ok (.aload_n 1, 1) := by decide +kernel
theorem dX1_keep_60 : decode cX1_keep 60 = .ok (.invokevirtual 27, 3) := by decide +kernel
theorem dX1_keep_63 : decode cX1_keep 63 = .ok (.return_, 1) := by decide +kernel
set_option maxRecDepth 20000 in
theorem ggX1_giveBack_X1_latestState : GoodIn wsX1_giveBack wsX1_latestState := goodIn_r _ [7, 2, 8, 18, 19, 20] (by decide +kernel) (by decide +kernel)
set_option maxRecDepth 20000 in
theorem gX1_giveBack_X1_latestState : GoodIn wsX1_giveBack (wsV RX1 23 RX1 yX1_latestState wsX1_latestState) := goodIn_app (goodIn_of _ (by decide +kernel)) ggX1_giveBack_X1_latestState
set_option maxRecDepth 20000 in
theorem ggX1_giveBack_X2_copyFrom : GoodIn wsX1_giveBack wsX2_copyFrom := goodIn_r _ [12, 13, 14, 15, 16, 17, 21] (by decide +kernel) (by decide +kernel)
set_option maxRecDepth 20000 in
theorem gX1_giveBack_X2_copyFrom_n27 : GoodIn wsX1_giveBack (wsX2_copyFrom) := ggX1_giveBack_X2_copyFrom
theorem dX1_giveBack_0 : decode cX1_giveBack 0 = .ok (.aload_n 1, 1) := by decide +kernel
theorem dX1_giveBack_1 : decode cX1_giveBack 1 = .ok (.ifnull 49, 3) := by decide +kernel
theorem dX1_giveBack_4 : decode cX1_giveBack 4 = .ok (.aload_n 0, 1) := by decide +kernel
theorem dX1_giveBack_5 : decode cX1_giveBack 5 = .ok (.getfield 16, 3) := by decide +kernel
theorem dX1_giveBack_8 : decode cX1_giveBack 8 = .ok (.ifCond .le 42, 3) := by decide +kernel
theorem dX1_giveBack_11 : decode cX1_giveBack 11 = .ok (.aload_n 1, 1) := by decide +kernel
theorem dX1_giveBack_12 : decode cX1_giveBack 12 = .ok (.aload_n 0, 1) := by decide +kernel
theorem dX1_giveBack_13 : decode cX1_giveBack 13 = .ok (.invokevirtual 23, 3) := by decide +kernel
theorem dX1_giveBack_16 : decode cX1_giveBack 16 = .ok (.invokevirtual 27, 3) := by decide +kernel
theorem dX1_giveBack_19 : decode cX1_giveBack 19 = .ok (.aload_n 0, 1) := by decide +kernel
theorem dX1_giveBack_20 : decode cX1_giveBack 20 = .ok (.aload_n 0, 1) := by decide +kernel
theorem dX1_giveBack_21 : decode cX1_giveBack 21 = .ok (.getfield 20, 3) := by decide +kernel
theorem dX1_giveBack_24 : decode cX1_giveBack 24 = .ok (.ifCond .le 12, 3) := by decide +kernel
theorem dX1_giveBack_27 : decode cX1_giveBack 27 = .ok (.aload_n 0, 1) := by decide +kernel
theorem dX1_giveBack_28 : decode cX1_giveBack 28 = .ok (.getfield 20, 3) := by decide +kernel
theorem dX1_giveBack_31 : decode cX1_giveBack 31 = .ok (.iconst 1, 1) := by decide +kernel
theorem dX1_giveBack_32 : decode cX1_giveBack 32 = .ok (.isub, 1) := by decide +kernel
theorem dX1_giveBack_33 : decode cX1_giveBack 33 = .ok (.goto 4, 3) := by decide +kernel
theorem dX1_giveBack_36 : decode cX1_giveBack 36 = .ok (.iconst 5, 1) := by decide +kernel
theorem dX1_giveBack_37 : decode cX1_giveBack 37 = .ok (.putfield 20, 3) := by decide +kernel
theorem dX1_giveBack_40 : decode cX1_giveBack 40 = .ok (.aload_n 0, 1) := by decide +kernel
theorem dX1_giveBack_41 : decode cX1_giveBack 41 = .ok (.dup, 1) := by decide +kernel
theorem dX1_giveBack_42 : decode cX1_giveBack 42 = .ok (.getfield 16, 3) := by decide +kernel
theorem dX1_giveBack_45 : decode cX1_giveBack 45 = .ok (.iconst 1, 1) := by decide +kernel
theorem dX1_giveBack_46 : decode cX1_giveBack 46 = .ok (.isub, 1) := by decide +kernel
theorem dX1_giveBack_47 : decode cX1_giveBack 47 = .ok (.putfield 16, 3) := by decide +kernel
theorem dX1_giveBack_50 : decode cX1_giveBack 50 = .ok (.return_, 1) := by decide +kernel
set_option maxRecDepth 20000 in
theorem ggX2_init_X5_entry : GoodIn wsX2_init wsX5_entry := goodIn_r _ [8] (by decide +kernel) (by decide +kernel)
set_option maxRecDepth 20000 in
theorem gX2_init_X5_entry_n18 : GoodIn wsX2_init (wsX5_entry) := ggX2_init_X5_entry
set_option maxRecDepth 20000 in
theorem ggX2_init_X2_putSetting : GoodIn wsX2_init wsX2_putSetting := goodIn_r _ [13, 14, 15, 16, 12, 17, 5, 18] (by decide +kernel) (by decide +kernel)
set_option maxRecDepth 20000 in
theorem gX2_init_X2_putSetting : GoodIn wsX2_init (wsV RX2 22 RX2 yX2_putSetting wsX2_putSetting) := goodIn_app (goodIn_of _ (by decide +kernel)) ggX2_init_X2_putSetting
theorem dX2_init_0 : decode cX2_init 0 = .ok (.aload_n 0, 1) := by decide +kernel
theorem dX2_init_1 : decode cX2_init 1 = .ok (.invokespecial 5, 3) := by decide +kernel
theorem dX2_init_4 : decode cX2_init 4 = .ok (.aload_n 0, 1) := by decide +kernel
theorem dX2_init_5 : decode cX2_init 5 = .ok (.sipush 345, 3) := by decide +kernel
theorem dX2_init_8 : decode cX2_init 8 = .ok (.newarray .int, 2) := by decide +kernel
theorem dX2_init_10 : decode cX2_init 10 = .ok (.putfield 11, 3) := by decide +kernel
theorem dX2_init_13 : decode cX2_init 13 = .ok (.iconst 0, 1) := by decide +kernel
theorem dX2_init_14 : decode cX2_init 14 = .ok (.istore_n 1, 1) := by decide +kernel
theorem dX2_init_15 : decode cX2_init 15 = .ok (.iload_n 1, 1) := by decide +kernel
theorem dX2_init_16 : decode cX2_init 16 = .ok (.bipush 6, 2) := by decide +kernel
theorem dX2_init_18 : decode cX2_init 18 = .ok (.if_icmp .ge 21, 3) := by decide +kernel
theorem dX2_init_21 : decode cX2_init 21 = .ok (.aload_n 0, 1) := by decide +kernel
theorem dX2_init_22 : decode cX2_init 22 = .ok (.iload_n 1, 1) := by decide +kernel
theorem dX2_init_23 : decode cX2_init 23 = .ok (.getstatic 15, 3) := by decide +kernel
theorem dX2_init_26 : decode cX2_init 26 = .ok (.iload_n 1, 1) := by decide +kernel
theorem dX2_init_27 : decode cX2_init 27 = .ok (.invokestatic 18, 3) := by decide +kernel
theorem dX2_init_30 : decode cX2_init 30 = .ok (.invokevirtual 22, 3) := by decide +kernel
theorem dX2_init_33 : decode cX2_init 33 = .ok (.iinc 1 1, 3) := by decide +kernel
theorem dX2_init_36 : decode cX2_init 36 = .ok (.goto (-21), 3) := by decide +kernel
theorem dX2_init_39 : decode cX2_init 39 = .ok (.return_, 1) := by decide +kernel
theorem dX2_copyFrom_0 : decode cX2_copyFrom 0 = .ok (.aload_n 1, 1) := by decide +kernel
theorem dX2_copyFrom_1 : decode cX2_copyFrom 1 = .ok (.ifnull 34, 3) := by decide +kernel
theorem dX2_copyFrom_4 : decode cX2_copyFrom 4 = .ok (.aload_n 1, 1) := by decide +kernel
theorem dX2_copyFrom_5 : decode cX2_copyFrom 5 = .ok (.getfield 11, 3) := by decide +kernel
theorem dX2_copyFrom_8 : decode cX2_copyFrom 8 = .ok (.arraylength, 1) := by decide +kernel
theorem dX2_copyFrom_9 : decode cX2_copyFrom 9 = .ok (.aload_n 0, 1) := by decide +kernel
theorem dX2_copyFrom_10 : decode cX2_copyFrom 10 = .ok (.getfield 11, 3) := by decide +kernel
theorem dX2_copyFrom_13 : decode cX2_copyFrom 13 = .ok (.arraylength, 1) := by decide +kernel
theorem dX2_copyFrom_14 : decode cX2_copyFrom 14 = .ok (.if_icmp .ne 21, 3) := by decide +kernel
theorem dX2_copyFrom_17 : decode cX2_copyFrom 17 = .ok (.aload_n 1, 1) := by decide +kernel
theorem dX2_copyFrom_18 : decode cX2_copyFrom 18 = .ok (.getfield 11, 3) := by decide +kernel
theorem dX2_copyFrom_21 : decode cX2_copyFrom 21 = .ok (.iconst 0, 1) := by decide +kernel
theorem dX2_copyFrom_22 : decode cX2_copyFrom 22 = .ok (.aload_n 0, 1) := by decide +kernel
theorem dX2_copyFrom_23 : decode cX2_copyFrom 23 = .ok (.getfield 11, 3) := by decide +kernel
theorem dX2_copyFrom_26 : decode cX2_copyFrom 26 = .ok (.iconst 0, 1) := by decide +kernel
theorem dX2_copyFrom_27 : decode cX2_copyFrom 27 = .ok (.aload_n 0, 1) := by decide +kernel
theorem dX2_copyFrom_28 : decode cX2_copyFrom 28 = .ok (.getfield 11, 3) := by decide +kernel
theorem dX2_copyFrom_31 : decode cX2_copyFrom 31 = .ok (.arraylength, 1) := by decide +kernel
theorem dX2_copyFrom_32 : decode cX2_copyFrom 32 = .ok (.invokestatic 26, 3) := by decide +kernel
theorem dX2_copyFrom_35 : decode cX2_copyFrom 35 = .ok (.return_, 1) := by decide +kernel
theorem dX2_get_0 : decode cX2_get 0 = .ok (.iload_n 1, 1) := by decide +kernel
theorem dX2_get_1 : decode cX2_get 1 = .ok (.ifCond .lt 21, 3) := by decide +kernel
theorem dX2_get_4 : decode cX2_get 4 = .ok (.iload_n 1, 1) := by decide +kernel
theorem dX2_get_5 : decode cX2_get 5 = .ok (.aload_n 0, 1) := by decide +kernel
theorem dX2_get_6 : decode cX2_get 6 = .ok (.getfield 11, 3) := by decide +kernel
theorem dX2_get_9 : decode cX2_get 9 = .ok (.arraylength, 1) := by decide +kernel
theorem dX2_get_10 : decode cX2_get 10 = .ok (.if_icmp .ge 12, 3) := by decide +kernel
theorem dX2_get_13 : decode cX2_get 13 = .ok (.aload_n 0, 1) := by decide +kernel
theorem dX2_get_14 : decode cX2_get 14 = .ok (.getfield 11, 3) := by decide +kernel
theorem dX2_get_17 : decode cX2_get 17 = .ok (.iload_n 1, 1) := by decide +kernel
theorem dX2_get_18 : decode cX2_get 18 = .ok (.iaload, 1) := by decide +kernel
theorem dX2_get_19 : decode cX2_get 19 = .ok (.goto 4, 3) := by decide +kernel
theorem dX2_get_22 : decode cX2_get 22 = .ok (.iconst 0, 1) := by decide +kernel
theorem dX2_get_23 : decode cX2_get 23 = .ok (.ireturn, 1) := by decide +kernel
theorem dX2_put_0 : decode cX2_put 0 = .ok (.iload_n 1, 1) := by decide +kernel
theorem dX2_put_1 : decode cX2_put 1 = .ok (.ifCond .lt 19, 3) := by decide +kernel
theorem dX2_put_4 : decode cX2_put 4 = .ok (.iload_n 1, 1) := by decide +kernel
theorem dX2_put_5 : decode cX2_put 5 = .ok (.aload_n 0, 1) := by decide +kernel
theorem dX2_put_6 : decode cX2_put 6 = .ok (.getfield 11, 3) := by decide +kernel
theorem dX2_put_9 : decode cX2_put 9 = .ok (.arraylength, 1) := by decide +kernel
theorem dX2_put_10 : decode cX2_put 10 = .ok (.if_icmp .ge 10, 3) := by decide +kernel
theorem dX2_put_13 : decode cX2_put 13 = .ok (.aload_n 0, 1) := by decide +kernel
theorem dX2_put_14 : decode cX2_put 14 = .ok (.getfield 11, 3) := by decide +kernel
theorem dX2_put_17 : decode cX2_put 17 = .ok (.iload_n 1, 1) := by decide +kernel
theorem dX2_put_18 : decode cX2_put 18 = .ok (.iload_n 2, 1) := by decide +kernel
theorem dX2_put_19 : decode cX2_put 19 = .ok (.iastore, 1) := by decide +kernel
theorem dX2_put_20 : decode cX2_put 20 = .ok (.return_, 1) := by decide +kernel
set_option maxRecDepth 20000 in
theorem ggX2_ofAll_X2_get : GoodIn wsX2_ofAll wsX2_get := goodIn_r _ [5, 6, 7] (by decide +kernel) (by decide +kernel)
set_option maxRecDepth 20000 in
theorem gX2_ofAll_X2_get : GoodIn wsX2_ofAll (wsV RX2 32 RX2 yX2_get wsX2_get) := goodIn_app (goodIn_of _ (by decide +kernel)) ggX2_ofAll_X2_get
theorem dX2_ofAll_0 : decode cX2_ofAll 0 = .ok (.aload_n 0, 1) := by decide +kernel
theorem dX2_ofAll_1 : decode cX2_ofAll 1 = .ok (.iload_n 1, 1) := by decide +kernel
theorem dX2_ofAll_2 : decode cX2_ofAll 2 = .ok (.invokevirtual 32, 3) := by decide +kernel
theorem dX2_ofAll_5 : decode cX2_ofAll 5 = .ok (.ireturn, 1) := by decide +kernel
set_option maxRecDepth 20000 in
theorem ggX2_addToAll_X2_get : GoodIn wsX2_addToAll wsX2_get := goodIn_r _ [5, 6, 11] (by decide +kernel) (by decide +kernel)
set_option maxRecDepth 20000 in
theorem gX2_addToAll_X2_get : GoodIn wsX2_addToAll (wsV RX2 32 RX2 yX2_get wsX2_get) := goodIn_app (goodIn_of _ (by decide +kernel)) ggX2_addToAll_X2_get
set_option maxRecDepth 20000 in
theorem ggX2_addToAll_X2_put : GoodIn wsX2_addToAll wsX2_put := goodIn_r _ [10, 6, 11] (by decide +kernel) (by decide +kernel)
set_option maxRecDepth 20000 in
theorem gX2_addToAll_X2_put : GoodIn wsX2_addToAll (wsV RX2 36 RX2 yX2_put wsX2_put) := goodIn_app (goodIn_of _ (by decide +kernel)) ggX2_addToAll_X2_put
theorem dX2_addToAll_0 : decode cX2_addToAll 0 = .ok (.aload_n 0, 1) := by decide +kernel
theorem dX2_addToAll_1 : decode cX2_addToAll 1 = .ok (.iload_n 1, 1) := by decide +kernel
theorem dX2_addToAll_2 : decode cX2_addToAll 2 = .ok (.aload_n 0, 1) := by decide +kernel
theorem dX2_addToAll_3 : decode cX2_addToAll 3 = .ok (.iload_n 1, 1) := by decide +kernel
theorem dX2_addToAll_4 : decode cX2_addToAll 4 = .ok (.invokevirtual 32, 3) := by decide +kernel
theorem dX2_addToAll_7 : decode cX2_addToAll 7 = .ok (.iload_n 2, 1) := by decide +kernel
theorem dX2_addToAll_8 : decode cX2_addToAll 8 = .ok (.iadd, 1) := by decide +kernel
theorem dX2_addToAll_9 : decode cX2_addToAll 9 = .ok (.invokevirtual 36, 3) := by decide +kernel
theorem dX2_addToAll_12 : decode cX2_addToAll 12 = .ok (.return_, 1) := by decide +kernel
set_option maxRecDepth 20000 in
theorem ggX2_ofSetting_X2_get : GoodIn wsX2_ofSetting wsX2_get := goodIn_r _ [5, 6, 7] (by decide +kernel) (by decide +kernel)
set_option maxRecDepth 20000 in
theorem gX2_ofSetting_X2_get : GoodIn wsX2_ofSetting (wsV RX2 32 RX2 yX2_get wsX2_get) := goodIn_app (goodIn_of _ (by decide +kernel)) ggX2_ofSetting_X2_get
theorem dX2_ofSetting_0 : decode cX2_ofSetting 0 = .ok (.aload_n 0, 1) := by decide +kernel
theorem dX2_ofSetting_1 : decode cX2_ofSetting 1 = .ok (.bipush 11, 2) := by decide +kernel
theorem dX2_ofSetting_3 : decode cX2_ofSetting 3 = .ok (.iload_n 1, 1) := by decide +kernel
theorem dX2_ofSetting_4 : decode cX2_ofSetting 4 = .ok (.iadd, 1) := by decide +kernel
theorem dX2_ofSetting_5 : decode cX2_ofSetting 5 = .ok (.invokevirtual 32, 3) := by decide +kernel
theorem dX2_ofSetting_8 : decode cX2_ofSetting 8 = .ok (.ireturn, 1) := by decide +kernel
set_option maxRecDepth 20000 in
theorem ggX2_putSetting_X2_put : GoodIn wsX2_putSetting wsX2_put := goodIn_r _ [5, 6, 7] (by decide +kernel) (by decide +kernel)
set_option maxRecDepth 20000 in
theorem gX2_putSetting_X2_put : GoodIn wsX2_putSetting (wsV RX2 36 RX2 yX2_put wsX2_put) := goodIn_app (goodIn_of _ (by decide +kernel)) ggX2_putSetting_X2_put
theorem dX2_putSetting_0 : decode cX2_putSetting 0 = .ok (.aload_n 0, 1) := by decide +kernel
theorem dX2_putSetting_1 : decode cX2_putSetting 1 = .ok (.bipush 11, 2) := by decide +kernel
theorem dX2_putSetting_3 : decode cX2_putSetting 3 = .ok (.iload_n 1, 1) := by decide +kernel
theorem dX2_putSetting_4 : decode cX2_putSetting 4 = .ok (.iadd, 1) := by decide +kernel
theorem dX2_putSetting_5 : decode cX2_putSetting 5 = .ok (.iload_n 2, 1) := by decide +kernel
theorem dX2_putSetting_6 : decode cX2_putSetting 6 = .ok (.invokevirtual 36, 3) := by decide +kernel
theorem dX2_putSetting_9 : decode cX2_putSetting 9 = .ok (.return_, 1) := by decide +kernel
set_option maxRecDepth 20000 in
theorem ggX2_ofBrand_X2_get : GoodIn wsX2_ofBrand wsX2_get := goodIn_r _ [5, 6, 7] (by decide +kernel) (by decide +kernel)
set_option maxRecDepth 20000 in
theorem gX2_ofBrand_X2_get : GoodIn wsX2_ofBrand (wsV RX2 32 RX2 yX2_get wsX2_get) := goodIn_app (goodIn_of _ (by decide +kernel)) ggX2_ofBrand_X2_get
theorem dX2_ofBrand_0 : decode cX2_ofBrand 0 = .ok (.aload_n 0, 1) := by decide +kernel
theorem dX2_ofBrand_1 : decode cX2_ofBrand 1 = .ok (.bipush 17, 2) := by decide +kernel
theorem dX2_ofBrand_3 : decode cX2_ofBrand 3 = .ok (.iload_n 1, 1) := by decide +kernel
theorem dX2_ofBrand_4 : decode cX2_ofBrand 4 = .ok (.bipush 12, 2) := by decide +kernel
theorem dX2_ofBrand_6 : decode cX2_ofBrand 6 = .ok (.imul, 1) := by decide +kernel
theorem dX2_ofBrand_7 : decode cX2_ofBrand 7 = .ok (.iadd, 1) := by decide +kernel
theorem dX2_ofBrand_8 : decode cX2_ofBrand 8 = .ok (.iload_n 2, 1) := by decide +kernel
theorem dX2_ofBrand_9 : decode cX2_ofBrand 9 = .ok (.iadd, 1) := by decide +kernel
theorem dX2_ofBrand_10 : decode cX2_ofBrand 10 = .ok (.invokevirtual 32, 3) := by decide +kernel
theorem dX2_ofBrand_13 : decode cX2_ofBrand 13 = .ok (.ireturn, 1) := by decide +kernel
set_option maxRecDepth 20000 in
theorem ggX2_addToBrand_X2_get : GoodIn wsX2_addToBrand wsX2_get := goodIn_r _ [5, 6, 11] (by decide +kernel) (by decide +kernel)
set_option maxRecDepth 20000 in
theorem gX2_addToBrand_X2_get : GoodIn wsX2_addToBrand (wsV RX2 32 RX2 yX2_get wsX2_get) := goodIn_app (goodIn_of _ (by decide +kernel)) ggX2_addToBrand_X2_get
set_option maxRecDepth 20000 in
theorem ggX2_addToBrand_X2_put : GoodIn wsX2_addToBrand wsX2_put := goodIn_r _ [10, 6, 11] (by decide +kernel) (by decide +kernel)
set_option maxRecDepth 20000 in
theorem gX2_addToBrand_X2_put : GoodIn wsX2_addToBrand (wsV RX2 36 RX2 yX2_put wsX2_put) := goodIn_app (goodIn_of _ (by decide +kernel)) ggX2_addToBrand_X2_put
theorem dX2_addToBrand_0 : decode cX2_addToBrand 0 = .ok (.bipush 17, 2) := by decide +kernel
theorem dX2_addToBrand_2 : decode cX2_addToBrand 2 = .ok (.iload_n 1, 1) := by decide +kernel
theorem dX2_addToBrand_3 : decode cX2_addToBrand 3 = .ok (.bipush 12, 2) := by decide +kernel
theorem dX2_addToBrand_5 : decode cX2_addToBrand 5 = .ok (.imul, 1) := by decide +kernel
theorem dX2_addToBrand_6 : decode cX2_addToBrand 6 = .ok (.iadd, 1) := by decide +kernel
theorem dX2_addToBrand_7 : decode cX2_addToBrand 7 = .ok (.iload_n 2, 1) := by decide +kernel
theorem dX2_addToBrand_8 : decode cX2_addToBrand 8 = .ok (.iadd, 1) := by decide +kernel
theorem dX2_addToBrand_9 : decode cX2_addToBrand 9 = .ok (.istore 4, 2) := by decide +kernel
theorem dX2_addToBrand_11 : decode cX2_addToBrand 11 = .ok (.aload_n 0, 1) := by decide +kernel
theorem dX2_addToBrand_12 : decode cX2_addToBrand 12 = .ok (.iload 4, 2) := by decide +kernel
theorem dX2_addToBrand_14 : decode cX2_addToBrand 14 = .ok (.aload_n 0, 1) := by decide +kernel
theorem dX2_addToBrand_15 : decode cX2_addToBrand 15 = .ok (.iload 4, 2) := by decide +kernel
theorem dX2_addToBrand_17 : decode cX2_addToBrand 17 = .ok (.invokevirtual 32, 3) := by decide +kernel
theorem dX2_addToBrand_20 : decode cX2_addToBrand 20 = .ok (.iload_n 3, 1) := by decide +kernel
theorem dX2_addToBrand_21 : decode cX2_addToBrand 21 = .ok (.iadd, 1) := by decide +kernel
theorem dX2_addToBrand_22 : decode cX2_addToBrand 22 = .ok (.invokevirtual 36, 3) := by decide +kernel
theorem dX2_addToBrand_25 : decode cX2_addToBrand 25 = .ok (.return_, 1) := by decide +kernel
set_option maxRecDepth 20000 in
theorem ggX2_ofShop_X2_get : GoodIn wsX2_ofShop wsX2_get := goodIn_r _ [5, 6, 7] (by decide +kernel) (by decide +kernel)
set_option maxRecDepth 20000 in
theorem gX2_ofShop_X2_get : GoodIn wsX2_ofShop (wsV RX2 32 RX2 yX2_get wsX2_get) := goodIn_app (goodIn_of _ (by decide +kernel)) ggX2_ofShop_X2_get
theorem dX2_ofShop_0 : decode cX2_ofShop 0 = .ok (.aload_n 0, 1) := by decide +kernel
theorem dX2_ofShop_1 : decode cX2_ofShop 1 = .ok (.bipush 113, 2) := by decide +kernel
theorem dX2_ofShop_3 : decode cX2_ofShop 3 = .ok (.iload_n 1, 1) := by decide +kernel
theorem dX2_ofShop_4 : decode cX2_ofShop 4 = .ok (.bipush 28, 2) := by decide +kernel
theorem dX2_ofShop_6 : decode cX2_ofShop 6 = .ok (.imul, 1) := by decide +kernel
theorem dX2_ofShop_7 : decode cX2_ofShop 7 = .ok (.iadd, 1) := by decide +kernel
theorem dX2_ofShop_8 : decode cX2_ofShop 8 = .ok (.iload_n 2, 1) := by decide +kernel
theorem dX2_ofShop_9 : decode cX2_ofShop 9 = .ok (.iadd, 1) := by decide +kernel
theorem dX2_ofShop_10 : decode cX2_ofShop 10 = .ok (.invokevirtual 32, 3) := by decide +kernel
theorem dX2_ofShop_13 : decode cX2_ofShop 13 = .ok (.ireturn, 1) := by decide +kernel
set_option maxRecDepth 20000 in
theorem ggX2_addToShop_X2_get : GoodIn wsX2_addToShop wsX2_get := goodIn_r _ [5, 6, 11] (by decide +kernel) (by decide +kernel)
set_option maxRecDepth 20000 in
theorem gX2_addToShop_X2_get : GoodIn wsX2_addToShop (wsV RX2 32 RX2 yX2_get wsX2_get) := goodIn_app (goodIn_of _ (by decide +kernel)) ggX2_addToShop_X2_get
set_option maxRecDepth 20000 in
theorem ggX2_addToShop_X2_put : GoodIn wsX2_addToShop wsX2_put := goodIn_r _ [10, 6, 11] (by decide +kernel) (by decide +kernel)
set_option maxRecDepth 20000 in
theorem gX2_addToShop_X2_put : GoodIn wsX2_addToShop (wsV RX2 36 RX2 yX2_put wsX2_put) := goodIn_app (goodIn_of _ (by decide +kernel)) ggX2_addToShop_X2_put
theorem dX2_addToShop_0 : decode cX2_addToShop 0 = .ok (.bipush 113, 2) := by decide +kernel
theorem dX2_addToShop_2 : decode cX2_addToShop 2 = .ok (.iload_n 1, 1) := by decide +kernel
theorem dX2_addToShop_3 : decode cX2_addToShop 3 = .ok (.bipush 28, 2) := by decide +kernel
theorem dX2_addToShop_5 : decode cX2_addToShop 5 = .ok (.imul, 1) := by decide +kernel
theorem dX2_addToShop_6 : decode cX2_addToShop 6 = .ok (.iadd, 1) := by decide +kernel
theorem dX2_addToShop_7 : decode cX2_addToShop 7 = .ok (.iload_n 2, 1) := by decide +kernel
theorem dX2_addToShop_8 : decode cX2_addToShop 8 = .ok (.iadd, 1) := by decide +kernel
theorem dX2_addToShop_9 : decode cX2_addToShop 9 = .ok (.istore 4, 2) := by decide +kernel
theorem dX2_addToShop_11 : decode cX2_addToShop 11 = .ok (.aload_n 0, 1) := by decide +kernel
theorem dX2_addToShop_12 : decode cX2_addToShop 12 = .ok (.iload 4, 2) := by decide +kernel
theorem dX2_addToShop_14 : decode cX2_addToShop 14 = .ok (.aload_n 0, 1) := by decide +kernel
theorem dX2_addToShop_15 : decode cX2_addToShop 15 = .ok (.iload 4, 2) := by decide +kernel
theorem dX2_addToShop_17 : decode cX2_addToShop 17 = .ok (.invokevirtual 32, 3) := by decide +kernel
theorem dX2_addToShop_20 : decode cX2_addToShop 20 = .ok (.iload_n 3, 1) := by decide +kernel
theorem dX2_addToShop_21 : decode cX2_addToShop 21 = .ok (.iadd, 1) := by decide +kernel
theorem dX2_addToShop_22 : decode cX2_addToShop 22 = .ok (.invokevirtual 36, 3) := by decide +kernel
theorem dX2_addToShop_25 : decode cX2_addToShop 25 = .ok (.return_, 1) := by decide +kernel
set_option maxRecDepth 20000 in
theorem ggX2_ofSwaps_X2_get : GoodIn wsX2_ofSwaps wsX2_get := goodIn_r _ [5, 6, 7] (by decide +kernel) (by decide +kernel)
set_option maxRecDepth 20000 in
theorem gX2_ofSwaps_X2_get : GoodIn wsX2_ofSwaps (wsV RX2 32 RX2 yX2_get wsX2_get) := goodIn_app (goodIn_of _ (by decide +kernel)) ggX2_ofSwaps_X2_get
theorem dX2_ofSwaps_0 : decode cX2_ofSwaps 0 = .ok (.aload_n 0, 1) := by decide +kernel
theorem dX2_ofSwaps_1 : decode cX2_ofSwaps 1 = .ok (.sipush 281, 3) := by decide +kernel
theorem dX2_ofSwaps_4 : decode cX2_ofSwaps 4 = .ok (.iload_n 1, 1) := by decide +kernel
theorem dX2_ofSwaps_5 : decode cX2_ofSwaps 5 = .ok (.bipush 8, 2) := by decide +kernel
theorem dX2_ofSwaps_7 : decode cX2_ofSwaps 7 = .ok (.imul, 1) := by decide +kernel
theorem dX2_ofSwaps_8 : decode cX2_ofSwaps 8 = .ok (.iadd, 1) := by decide +kernel
theorem dX2_ofSwaps_9 : decode cX2_ofSwaps 9 = .ok (.iload_n 2, 1) := by decide +kernel
theorem dX2_ofSwaps_10 : decode cX2_ofSwaps 10 = .ok (.iadd, 1) := by decide +kernel
theorem dX2_ofSwaps_11 : decode cX2_ofSwaps 11 = .ok (.invokevirtual 32, 3) := by decide +kernel
theorem dX2_ofSwaps_14 : decode cX2_ofSwaps 14 = .ok (.ireturn, 1) := by decide +kernel
set_option maxRecDepth 20000 in
theorem ggX2_addToSwaps_X2_get : GoodIn wsX2_addToSwaps wsX2_get := goodIn_r _ [5, 6, 11] (by decide +kernel) (by decide +kernel)
set_option maxRecDepth 20000 in
theorem gX2_addToSwaps_X2_get : GoodIn wsX2_addToSwaps (wsV RX2 32 RX2 yX2_get wsX2_get) := goodIn_app (goodIn_of _ (by decide +kernel)) ggX2_addToSwaps_X2_get
set_option maxRecDepth 20000 in
theorem ggX2_addToSwaps_X2_put : GoodIn wsX2_addToSwaps wsX2_put := goodIn_r _ [10, 6, 11] (by decide +kernel) (by decide +kernel)
set_option maxRecDepth 20000 in
theorem gX2_addToSwaps_X2_put : GoodIn wsX2_addToSwaps (wsV RX2 36 RX2 yX2_put wsX2_put) := goodIn_app (goodIn_of _ (by decide +kernel)) ggX2_addToSwaps_X2_put
theorem dX2_addToSwaps_0 : decode cX2_addToSwaps 0 = .ok (.sipush 281, 3) := by decide +kernel
theorem dX2_addToSwaps_3 : decode cX2_addToSwaps 3 = .ok (.iload_n 1, 1) := by decide +kernel
theorem dX2_addToSwaps_4 : decode cX2_addToSwaps 4 = .ok (.bipush 8, 2) := by decide +kernel
theorem dX2_addToSwaps_6 : decode cX2_addToSwaps 6 = .ok (.imul, 1) := by decide +kernel
theorem dX2_addToSwaps_7 : decode cX2_addToSwaps 7 = .ok (.iadd, 1) := by decide +kernel
theorem dX2_addToSwaps_8 : decode cX2_addToSwaps 8 = .ok (.iload_n 2, 1) := by decide +kernel
theorem dX2_addToSwaps_9 : decode cX2_addToSwaps 9 = .ok (.iadd, 1) := by decide +kernel
theorem dX2_addToSwaps_10 : decode cX2_addToSwaps 10 = .ok (.istore 4, 2) := by decide +kernel
theorem dX2_addToSwaps_12 : decode cX2_addToSwaps 12 = .ok (.aload_n 0, 1) := by decide +kernel
theorem dX2_addToSwaps_13 : decode cX2_addToSwaps 13 = .ok (.iload 4, 2) := by decide +kernel
theorem dX2_addToSwaps_15 : decode cX2_addToSwaps 15 = .ok (.aload_n 0, 1) := by decide +kernel
theorem dX2_addToSwaps_16 : decode cX2_addToSwaps 16 = .ok (.iload 4, 2) := by decide +kernel
theorem dX2_addToSwaps_18 : decode cX2_addToSwaps 18 = .ok (.invokevirtual 32, 3) := by decide +kernel
theorem dX2_addToSwaps_21 : decode cX2_addToSwaps 21 = .ok (.iload_n 3, 1) := by decide +kernel
theorem dX2_addToSwaps_22 : decode cX2_addToSwaps 22 = .ok (.iadd, 1) := by decide +kernel
theorem dX2_addToSwaps_23 : decode cX2_addToSwaps 23 = .ok (.invokevirtual 36, 3) := by decide +kernel
theorem dX2_addToSwaps_26 : decode cX2_addToSwaps 26 = .ok (.return_, 1) := by decide +kernel
set_option maxRecDepth 20000 in
theorem ggX2_brandNumber_X2_overShops : GoodIn wsX2_brandNumber wsX2_overShops := goodIn_r _ [5, 6, 7, 8, 4, 9, 10, 11, 12, 13, 14, 19] (by decide +kernel) (by decide +kernel)
set_option maxRecDepth 20000 in
theorem gX2_brandNumber_X2_overShops : GoodIn wsX2_brandNumber (wsV RX2 39 RX2 yX2_overShops wsX2_overShops) := goodIn_app (goodIn_of _ (by decide +kernel)) ggX2_brandNumber_X2_overShops
set_option maxRecDepth 20000 in
theorem ggX2_brandNumber_X2_ofBrand : GoodIn wsX2_brandNumber wsX2_ofBrand := goodIn_r _ [18, 10, 11, 12, 4, 13, 14, 19] (by decide +kernel) (by decide +kernel)
set_option maxRecDepth 20000 in
theorem gX2_brandNumber_X2_ofBrand : GoodIn wsX2_brandNumber (wsV RX2 42 RX2 yX2_ofBrand wsX2_ofBrand) := goodIn_app (goodIn_of _ (by decide +kernel)) ggX2_brandNumber_X2_ofBrand
theorem dX2_brandNumber_0 : decode cX2_brandNumber 0 = .ok (.iload_n 2, 1) := by decide +kernel
theorem dX2_brandNumber_1 : decode cX2_brandNumber 1 = .ok (.lookupswitch 45 #[(3, 27), (4, 36)], 27) := by decide +kernel
theorem dX2_brandNumber_28 : decode cX2_brandNumber 28 = .ok (.aload_n 0, 1) := by decide +kernel
theorem dX2_brandNumber_29 : decode cX2_brandNumber 29 = .ok (.bipush 10, 2) := by decide +kernel
theorem dX2_brandNumber_31 : decode cX2_brandNumber 31 = .ok (.iload_n 1, 1) := by decide +kernel
theorem dX2_brandNumber_32 : decode cX2_brandNumber 32 = .ok (.iadd, 1) := by decide +kernel
theorem dX2_brandNumber_33 : decode cX2_brandNumber 33 = .ok (.invokevirtual 39, 3) := by decide +kernel
theorem dX2_brandNumber_36 : decode cX2_brandNumber 36 = .ok (.ireturn, 1) := by decide +kernel
theorem dX2_brandNumber_37 : decode cX2_brandNumber 37 = .ok (.aload_n 0, 1) := by decide +kernel
theorem dX2_brandNumber_38 : decode cX2_brandNumber 38 = .ok (.bipush 20, 2) := by decide +kernel
theorem dX2_brandNumber_40 : decode cX2_brandNumber 40 = .ok (.iload_n 1, 1) := by decide +kernel
theorem dX2_brandNumber_41 : decode cX2_brandNumber 41 = .ok (.iadd, 1) := by decide +kernel
theorem dX2_brandNumber_42 : decode cX2_brandNumber 42 = .ok (.invokevirtual 39, 3) := by decide +kernel
theorem dX2_brandNumber_45 : decode cX2_brandNumber 45 = .ok (.ireturn, 1) := by decide +kernel
theorem dX2_brandNumber_46 : decode cX2_brandNumber 46 = .ok (.aload_n 0, 1) := by decide +kernel
theorem dX2_brandNumber_47 : decode cX2_brandNumber 47 = .ok (.iload_n 1, 1) := by decide +kernel
theorem dX2_brandNumber_48 : decode cX2_brandNumber 48 = .ok (.iload_n 2, 1) := by decide +kernel
theorem dX2_brandNumber_49 : decode cX2_brandNumber 49 = .ok (.invokevirtual 42, 3) := by decide +kernel
theorem dX2_brandNumber_52 : decode cX2_brandNumber 52 = .ok (.ireturn, 1) := by decide +kernel
set_option maxRecDepth 20000 in
theorem ggX2_shopNumber_X2_overBrandsOf : GoodIn wsX2_shopNumber wsX2_overBrandsOf := goodIn_r _ [5, 6, 7, 8, 4, 9, 10, 11, 12, 13, 14, 15] (by decide +kernel) (by decide +kernel)
set_option maxRecDepth 20000 in
theorem gX2_shopNumber_X2_overBrandsOf : GoodIn wsX2_shopNumber (wsV RX2 46 RX2 yX2_overBrandsOf wsX2_overBrandsOf) := goodIn_app (goodIn_of _ (by decide +kernel)) ggX2_shopNumber_X2_overBrandsOf
set_option maxRecDepth 20000 in
theorem ggX2_shopNumber_X2_ofShop : GoodIn wsX2_shopNumber wsX2_ofShop := goodIn_r _ [9, 10, 11, 12, 4, 13, 14, 15] (by decide +kernel) (by decide +kernel)
set_option maxRecDepth 20000 in
theorem gX2_shopNumber_X2_ofShop : GoodIn wsX2_shopNumber (wsV RX2 49 RX2 yX2_ofShop wsX2_ofShop) := goodIn_app (goodIn_of _ (by decide +kernel)) ggX2_shopNumber_X2_ofShop
theorem dX2_shopNumber_0 : decode cX2_shopNumber 0 = .ok (.iload_n 2, 1) := by decide +kernel
theorem dX2_shopNumber_1 : decode cX2_shopNumber 1 = .ok (.lookupswitch 43 #[(2, 27), (3, 35)], 27) := by decide +kernel
theorem dX2_shopNumber_28 : decode cX2_shopNumber 28 = .ok (.aload_n 0, 1) := by decide +kernel
theorem dX2_shopNumber_29 : decode cX2_shopNumber 29 = .ok (.iload_n 1, 1) := by decide +kernel
theorem dX2_shopNumber_30 : decode cX2_shopNumber 30 = .ok (.bipush 10, 2) := by decide +kernel
theorem dX2_shopNumber_32 : decode cX2_shopNumber 32 = .ok (.invokevirtual 46, 3) := by decide +kernel
theorem dX2_shopNumber_35 : decode cX2_shopNumber 35 = .ok (.ireturn, 1) := by decide +kernel
theorem dX2_shopNumber_36 : decode cX2_shopNumber 36 = .ok (.aload_n 0, 1) := by decide +kernel
theorem dX2_shopNumber_37 : decode cX2_shopNumber 37 = .ok (.iload_n 1, 1) := by decide +kernel
theorem dX2_shopNumber_38 : decode cX2_shopNumber 38 = .ok (.bipush 20, 2) := by decide +kernel
theorem dX2_shopNumber_40 : decode cX2_shopNumber 40 = .ok (.invokevirtual 46, 3) := by decide +kernel
theorem dX2_shopNumber_43 : decode cX2_shopNumber 43 = .ok (.ireturn, 1) := by decide +kernel
theorem dX2_shopNumber_44 : decode cX2_shopNumber 44 = .ok (.aload_n 0, 1) := by decide +kernel
theorem dX2_shopNumber_45 : decode cX2_shopNumber 45 = .ok (.iload_n 1, 1) := by decide +kernel
theorem dX2_shopNumber_46 : decode cX2_shopNumber 46 = .ok (.iload_n 2, 1) := by decide +kernel
theorem dX2_shopNumber_47 : decode cX2_shopNumber 47 = .ok (.invokevirtual 49, 3) := by decide +kernel
theorem dX2_shopNumber_50 : decode cX2_shopNumber 50 = .ok (.ireturn, 1) := by decide +kernel
set_option maxRecDepth 20000 in
theorem ggX2_countNumber_X2_overShops : GoodIn wsX2_countNumber wsX2_overShops := goodIn_r _ [5, 6, 7, 8, 4, 9, 10, 11, 12, 13, 14, 27] (by decide +kernel) (by decide +kernel)
set_option maxRecDepth 20000 in
theorem gX2_countNumber_X2_overShops : GoodIn wsX2_countNumber (wsV RX2 39 RX2 yX2_overShops wsX2_overShops) := goodIn_app (goodIn_of _ (by decide +kernel)) ggX2_countNumber_X2_overShops
set_option maxRecDepth 20000 in
theorem ggX2_countNumber_X2_overBrands : GoodIn wsX2_countNumber wsX2_overBrands := goodIn_r _ [18, 19, 20, 21, 4, 22, 10, 11, 12, 13, 14, 27] (by decide +kernel) (by decide +kernel)
set_option maxRecDepth 20000 in
theorem gX2_countNumber_X2_overBrands : GoodIn wsX2_countNumber (wsV RX2 52 RX2 yX2_overBrands wsX2_overBrands) := goodIn_app (goodIn_of _ (by decide +kernel)) ggX2_countNumber_X2_overBrands
set_option maxRecDepth 20000 in
theorem ggX2_countNumber_X2_ofAll : GoodIn wsX2_countNumber wsX2_ofAll := goodIn_r _ [26, 10, 11, 12, 4, 13, 14, 27] (by decide +kernel) (by decide +kernel)
set_option maxRecDepth 20000 in
theorem gX2_countNumber_X2_ofAll : GoodIn wsX2_countNumber (wsV RX2 55 RX2 yX2_ofAll wsX2_ofAll) := goodIn_app (goodIn_of _ (by decide +kernel)) ggX2_countNumber_X2_ofAll
theorem dX2_countNumber_0 : decode cX2_countNumber 0 = .ok (.iload_n 1, 1) := by decide +kernel
theorem dX2_countNumber_1 : decode cX2_countNumber 1 = .ok (.lookupswitch 54 #[(3, 35), (7, 41), (8, 47)], 35) := by decide +kernel
theorem dX2_countNumber_36 : decode cX2_countNumber 36 = .ok (.aload_n 0, 1) := by decide +kernel
theorem dX2_countNumber_37 : decode cX2_countNumber 37 = .ok (.iconst 1, 1) := by decide +kernel
theorem dX2_countNumber_38 : decode cX2_countNumber 38 = .ok (.invokevirtual 39, 3) := by decide +kernel
theorem dX2_countNumber_41 : decode cX2_countNumber 41 = .ok (.ireturn, 1) := by decide +kernel
end
section
theorem dX2_countNumber_42 : decode cX2_countNumber 42 = .ok (.aload_n 0, 1) := by decide +kernel
theorem dX2_countNumber_43 : decode cX2_countNumber 43 = .ok (.iconst 5, 1) := by decide +kernel
theorem dX2_countNumber_44 : decode cX2_countNumber 44 = .ok (.invokevirtual 52, 3) := by decide +kernel
theorem dX2_countNumber_47 : decode cX2_countNumber 47 = .ok (.ireturn, 1) := by decide +kernel
theorem dX2_countNumber_48 : decode cX2_countNumber 48 = .ok (.aload_n 0, 1) := by decide +kernel
theorem dX2_countNumber_49 : decode cX2_countNumber 49 = .ok (.bipush 6, 2) := by decide +kernel
theorem dX2_countNumber_51 : decode cX2_countNumber 51 = .ok (.invokevirtual 52, 3) := by decide +kernel
theorem dX2_countNumber_54 : decode cX2_countNumber 54 = .ok (.ireturn, 1) := by decide +kernel
theorem dX2_countNumber_55 : decode cX2_countNumber 55 = .ok (.aload_n 0, 1) := by decide +kernel
theorem dX2_countNumber_56 : decode cX2_countNumber 56 = .ok (.iload_n 1, 1) := by decide +kernel
theorem dX2_countNumber_57 : decode cX2_countNumber 57 = .ok (.invokevirtual 55, 3) := by decide +kernel
theorem dX2_countNumber_60 : decode cX2_countNumber 60 = .ok (.ireturn, 1) := by decide +kernel
set_option maxRecDepth 20000 in
theorem ggX2_overBrands_X2_ofBrand : GoodIn wsX2_overBrands wsX2_ofBrand := goodIn_r _ [5, 6, 7, 8, 4, 9, 10, 11] (by decide +kernel) (by decide +kernel)
set_option maxRecDepth 20000 in
theorem gX2_overBrands_X2_ofBrand : GoodIn wsX2_overBrands (wsV RX2 42 RX2 yX2_ofBrand wsX2_ofBrand) := goodIn_app (goodIn_of _ (by decide +kernel)) ggX2_overBrands_X2_ofBrand
theorem dX2_overBrands_0 : decode cX2_overBrands 0 = .ok (.iconst 0, 1) := by decide +kernel
theorem dX2_overBrands_1 : decode cX2_overBrands 1 = .ok (.istore_n 2, 1) := by decide +kernel
theorem dX2_overBrands_2 : decode cX2_overBrands 2 = .ok (.iconst 0, 1) := by decide +kernel
theorem dX2_overBrands_3 : decode cX2_overBrands 3 = .ok (.istore_n 3, 1) := by decide +kernel
theorem dX2_overBrands_4 : decode cX2_overBrands 4 = .ok (.iload_n 3, 1) := by decide +kernel
theorem dX2_overBrands_5 : decode cX2_overBrands 5 = .ok (.bipush 8, 2) := by decide +kernel
theorem dX2_overBrands_7 : decode cX2_overBrands 7 = .ok (.if_icmp .ge 18, 3) := by decide +kernel
theorem dX2_overBrands_10 : decode cX2_overBrands 10 = .ok (.iload_n 2, 1) := by decide +kernel
theorem dX2_overBrands_11 : decode cX2_overBrands 11 = .ok (.aload_n 0, 1) := by decide +kernel
theorem dX2_overBrands_12 : decode cX2_overBrands 12 = .ok (.iload_n 3, 1) := by decide +kernel
theorem dX2_overBrands_13 : decode cX2_overBrands 13 = .ok (.iload_n 1, 1) := by decide +kernel
theorem dX2_overBrands_14 : decode cX2_overBrands 14 = .ok (.invokevirtual 42, 3) := by decide +kernel
theorem dX2_overBrands_17 : decode cX2_overBrands 17 = .ok (.iadd, 1) := by decide +kernel
theorem dX2_overBrands_18 : decode cX2_overBrands 18 = .ok (.istore_n 2, 1) := by decide +kernel
theorem dX2_overBrands_19 : decode cX2_overBrands 19 = .ok (.iinc 3 1, 3) := by decide +kernel
theorem dX2_overBrands_22 : decode cX2_overBrands 22 = .ok (.goto (-18), 3) := by decide +kernel
theorem dX2_overBrands_25 : decode cX2_overBrands 25 = .ok (.iload_n 2, 1) := by decide +kernel
theorem dX2_overBrands_26 : decode cX2_overBrands 26 = .ok (.ireturn, 1) := by decide +kernel
set_option maxRecDepth 20000 in
theorem ggX2_brandSum_X2_brandNumber : GoodIn wsX2_brandSum wsX2_brandNumber := goodIn_r _ [5, 6, 7, 8, 4, 9, 10, 11, 12, 13, 14, 15, 16, 17, 18, 19, 20, 21, 22, 23] (by decide +kernel) (by decide +kernel)
set_option maxRecDepth 20000 in
theorem gX2_brandSum_X2_brandNumber : GoodIn wsX2_brandSum (wsV RX2 58 RX2 yX2_brandNumber wsX2_brandNumber) := goodIn_app (goodIn_of _ (by decide +kernel)) ggX2_brandSum_X2_brandNumber
theorem dX2_brandSum_0 : decode cX2_brandSum 0 = .ok (.iconst 0, 1) := by decide +kernel
theorem dX2_brandSum_1 : decode cX2_brandSum 1 = .ok (.istore_n 3, 1) := by decide +kernel
theorem dX2_brandSum_2 : decode cX2_brandSum 2 = .ok (.iconst 0, 1) := by decide +kernel
theorem dX2_brandSum_3 : decode cX2_brandSum 3 = .ok (.istore 4, 2) := by decide +kernel
theorem dX2_brandSum_5 : decode cX2_brandSum 5 = .ok (.iload 4, 2) := by decide +kernel
theorem dX2_brandSum_7 : decode cX2_brandSum 7 = .ok (.bipush 8, 2) := by decide +kernel
theorem dX2_brandSum_9 : decode cX2_brandSum 9 = .ok (.if_icmp .ge 35, 3) := by decide +kernel
theorem dX2_brandSum_12 : decode cX2_brandSum 12 = .ok (.iload_n 1, 1) := by decide +kernel
theorem dX2_brandSum_13 : decode cX2_brandSum 13 = .ok (.istore 5, 2) := by decide +kernel
theorem dX2_brandSum_15 : decode cX2_brandSum 15 = .ok (.iload 5, 2) := by decide +kernel
theorem dX2_brandSum_17 : decode cX2_brandSum 17 = .ok (.iload_n 2, 1) := by decide +kernel
theorem dX2_brandSum_18 : decode cX2_brandSum 18 = .ok (.if_icmp .gt 20, 3) := by decide +kernel
theorem dX2_brandSum_21 : decode cX2_brandSum 21 = .ok (.iload_n 3, 1) := by decide +kernel
theorem dX2_brandSum_22 : decode cX2_brandSum 22 = .ok (.aload_n 0, 1) := by decide +kernel
theorem dX2_brandSum_23 : decode cX2_brandSum 23 = .ok (.iload 4, 2) := by decide +kernel
theorem dX2_brandSum_25 : decode cX2_brandSum 25 = .ok (.iload 5, 2) := by decide +kernel
theorem dX2_brandSum_27 : decode cX2_brandSum 27 = .ok (.invokevirtual 58, 3) := by decide +kernel
theorem dX2_brandSum_30 : decode cX2_brandSum 30 = .ok (.iadd, 1) := by decide +kernel
theorem dX2_brandSum_31 : decode cX2_brandSum 31 = .ok (.istore_n 3, 1) := by decide +kernel
theorem dX2_brandSum_32 : decode cX2_brandSum 32 = .ok (.iinc 5 1, 3) := by decide +kernel
theorem dX2_brandSum_35 : decode cX2_brandSum 35 = .ok (.goto (-20), 3) := by decide +kernel
theorem dX2_brandSum_38 : decode cX2_brandSum 38 = .ok (.iinc 4 1, 3) := by decide +kernel
theorem dX2_brandSum_41 : decode cX2_brandSum 41 = .ok (.goto (-36), 3) := by decide +kernel
theorem dX2_brandSum_44 : decode cX2_brandSum 44 = .ok (.iload_n 3, 1) := by decide +kernel
theorem dX2_brandSum_45 : decode cX2_brandSum 45 = .ok (.ireturn, 1) := by decide +kernel
set_option maxRecDepth 20000 in
theorem ggX2_overShops_X2_ofShop : GoodIn wsX2_overShops wsX2_ofShop := goodIn_r _ [5, 6, 7, 8, 4, 9, 10, 11] (by decide +kernel) (by decide +kernel)
set_option maxRecDepth 20000 in
theorem gX2_overShops_X2_ofShop : GoodIn wsX2_overShops (wsV RX2 49 RX2 yX2_ofShop wsX2_ofShop) := goodIn_app (goodIn_of _ (by decide +kernel)) ggX2_overShops_X2_ofShop
theorem dX2_overShops_0 : decode cX2_overShops 0 = .ok (.iconst 0, 1) := by decide +kernel
theorem dX2_overShops_1 : decode cX2_overShops 1 = .ok (.istore_n 2, 1) := by decide +kernel
theorem dX2_overShops_2 : decode cX2_overShops 2 = .ok (.iconst 0, 1) := by decide +kernel
theorem dX2_overShops_3 : decode cX2_overShops 3 = .ok (.istore_n 3, 1) := by decide +kernel
theorem dX2_overShops_4 : decode cX2_overShops 4 = .ok (.iload_n 3, 1) := by decide +kernel
theorem dX2_overShops_5 : decode cX2_overShops 5 = .ok (.bipush 6, 2) := by decide +kernel
theorem dX2_overShops_7 : decode cX2_overShops 7 = .ok (.if_icmp .ge 18, 3) := by decide +kernel
theorem dX2_overShops_10 : decode cX2_overShops 10 = .ok (.iload_n 2, 1) := by decide +kernel
theorem dX2_overShops_11 : decode cX2_overShops 11 = .ok (.aload_n 0, 1) := by decide +kernel
theorem dX2_overShops_12 : decode cX2_overShops 12 = .ok (.iload_n 3, 1) := by decide +kernel
theorem dX2_overShops_13 : decode cX2_overShops 13 = .ok (.iload_n 1, 1) := by decide +kernel
theorem dX2_overShops_14 : decode cX2_overShops 14 = .ok (.invokevirtual 49, 3) := by decide +kernel
theorem dX2_overShops_17 : decode cX2_overShops 17 = .ok (.iadd, 1) := by decide +kernel
theorem dX2_overShops_18 : decode cX2_overShops 18 = .ok (.istore_n 2, 1) := by decide +kernel
theorem dX2_overShops_19 : decode cX2_overShops 19 = .ok (.iinc 3 1, 3) := by decide +kernel
theorem dX2_overShops_22 : decode cX2_overShops 22 = .ok (.goto (-18), 3) := by decide +kernel
theorem dX2_overShops_25 : decode cX2_overShops 25 = .ok (.iload_n 2, 1) := by decide +kernel
theorem dX2_overShops_26 : decode cX2_overShops 26 = .ok (.ireturn, 1) := by decide +kernel
set_option maxRecDepth 20000 in
theorem ggX2_overBrandsOf_X2_ofShop : GoodIn wsX2_overBrandsOf wsX2_ofShop := goodIn_r _ [5, 6, 7, 8, 4, 9, 10, 11] (by decide +kernel) (by decide +kernel)
set_option maxRecDepth 20000 in
theorem gX2_overBrandsOf_X2_ofShop : GoodIn wsX2_overBrandsOf (wsV RX2 49 RX2 yX2_ofShop wsX2_ofShop) := goodIn_app (goodIn_of _ (by decide +kernel)) ggX2_overBrandsOf_X2_ofShop
theorem dX2_overBrandsOf_0 : decode cX2_overBrandsOf 0 = .ok (.iconst 0, 1) := by decide +kernel
theorem dX2_overBrandsOf_1 : decode cX2_overBrandsOf 1 = .ok (.istore_n 3, 1) := by decide +kernel
theorem dX2_overBrandsOf_2 : decode cX2_overBrandsOf 2 = .ok (.iconst 0, 1) := by decide +kernel
theorem dX2_overBrandsOf_3 : decode cX2_overBrandsOf 3 = .ok (.istore 4, 2) := by decide +kernel
theorem dX2_overBrandsOf_5 : decode cX2_overBrandsOf 5 = .ok (.iload 4, 2) := by decide +kernel
theorem dX2_overBrandsOf_7 : decode cX2_overBrandsOf 7 = .ok (.bipush 8, 2) := by decide +kernel
theorem dX2_overBrandsOf_9 : decode cX2_overBrandsOf 9 = .ok (.if_icmp .ge 21, 3) := by decide +kernel
theorem dX2_overBrandsOf_12 : decode cX2_overBrandsOf 12 = .ok (.iload_n 3, 1) := by decide +kernel
theorem dX2_overBrandsOf_13 : decode cX2_overBrandsOf 13 = .ok (.aload_n 0, 1) := by decide +kernel
theorem dX2_overBrandsOf_14 : decode cX2_overBrandsOf 14 = .ok (.iload_n 1, 1) := by decide +kernel
theorem dX2_overBrandsOf_15 : decode cX2_overBrandsOf 15 = .ok (.iload_n 2, 1) := by decide +kernel
theorem dX2_overBrandsOf_16 : decode cX2_overBrandsOf 16 = .ok (.iload 4, 2) := by decide +kernel
theorem dX2_overBrandsOf_18 : decode cX2_overBrandsOf 18 = .ok (.iadd, 1) := by decide +kernel
theorem dX2_overBrandsOf_19 : decode cX2_overBrandsOf 19 = .ok (.invokevirtual 49, 3) := by decide +kernel
theorem dX2_overBrandsOf_22 : decode cX2_overBrandsOf 22 = .ok (.iadd, 1) := by decide +kernel
theorem dX2_overBrandsOf_23 : decode cX2_overBrandsOf 23 = .ok (.istore_n 3, 1) := by decide +kernel
theorem dX2_overBrandsOf_24 : decode cX2_overBrandsOf 24 = .ok (.iinc 4 1, 3) := by decide +kernel
theorem dX2_overBrandsOf_27 : decode cX2_overBrandsOf 27 = .ok (.goto (-22), 3) := by decide +kernel
theorem dX2_overBrandsOf_30 : decode cX2_overBrandsOf 30 = .ok (.iload_n 3, 1) := by decide +kernel
theorem dX2_overBrandsOf_31 : decode cX2_overBrandsOf 31 = .ok (.ireturn, 1) := by decide +kernel
set_option maxRecDepth 20000 in
theorem ggX3_init_X0_init : GoodIn wsX3_init wsX0_init := goodIn_r _ [11, 12, 2, 3] (by decide +kernel) (by decide +kernel)
set_option maxRecDepth 20000 in
theorem gX3_init_X0_init_n15 : GoodIn wsX3_init (wsX0_init) := ggX3_init_X0_init
theorem dX3_init_0 : decode cX3_init 0 = .ok (.aload_n 0, 1) := by decide +kernel
theorem dX3_init_1 : decode cX3_init 1 = .ok (.invokespecial 1, 3) := by decide +kernel
theorem dX3_init_4 : decode cX3_init 4 = .ok (.aload_n 0, 1) := by decide +kernel
theorem dX3_init_5 : decode cX3_init 5 = .ok (.bipush 60, 2) := by decide +kernel
theorem dX3_init_7 : decode cX3_init 7 = .ok (.newarray .int, 2) := by decide +kernel
theorem dX3_init_9 : decode cX3_init 9 = .ok (.putfield 9, 3) := by decide +kernel
theorem dX3_init_12 : decode cX3_init 12 = .ok (.aload_n 0, 1) := by decide +kernel
theorem dX3_init_13 : decode cX3_init 13 = .ok (.new 13, 3) := by decide +kernel
theorem dX3_init_16 : decode cX3_init 16 = .ok (.dup, 1) := by decide +kernel
theorem dX3_init_17 : decode cX3_init 17 = .ok (.invokespecial 15, 3) := by decide +kernel
theorem dX3_init_20 : decode cX3_init 20 = .ok (.putfield 16, 3) := by decide +kernel
theorem dX3_init_23 : decode cX3_init 23 = .ok (.return_, 1) := by decide +kernel
set_option maxRecDepth 20000 in
theorem ggX4_init_X2_init : GoodIn wsX4_init wsX2_init := goodIn_r _ [11, 12, 2, 3, 8, 13, 14, 15, 16, 17, 18, 19, 6, 20, 21, 22, 23, 24, 25] (by decide +kernel) (by decide +kernel)
set_option maxRecDepth 20000 in
theorem gX4_init_X2_init_n11 : GoodIn wsX4_init (wsX2_init) := ggX4_init_X2_init
theorem dX4_init_0 : decode cX4_init 0 = .ok (.aload_n 0, 1) := by decide +kernel
theorem dX4_init_1 : decode cX4_init 1 = .ok (.invokespecial 3, 3) := by decide +kernel
theorem dX4_init_4 : decode cX4_init 4 = .ok (.aload_n 0, 1) := by decide +kernel
theorem dX4_init_5 : decode cX4_init 5 = .ok (.new 9, 3) := by decide +kernel
theorem dX4_init_8 : decode cX4_init 8 = .ok (.dup, 1) := by decide +kernel
theorem dX4_init_9 : decode cX4_init 9 = .ok (.invokespecial 11, 3) := by decide +kernel
theorem dX4_init_12 : decode cX4_init 12 = .ok (.putfield 12, 3) := by decide +kernel
theorem dX4_init_15 : decode cX4_init 15 = .ok (.aload_n 0, 1) := by decide +kernel
theorem dX4_init_16 : decode cX4_init 16 = .ok (.bipush 8, 2) := by decide +kernel
theorem dX4_init_18 : decode cX4_init 18 = .ok (.newarray .int, 2) := by decide +kernel
theorem dX4_init_20 : decode cX4_init 20 = .ok (.putfield 18, 3) := by decide +kernel
theorem dX4_init_23 : decode cX4_init 23 = .ok (.return_, 1) := by decide +kernel
set_option maxRecDepth 20000 in
theorem ggX4_depositOf_X2_ofBrand : GoodIn wsX4_depositOf wsX2_ofBrand := goodIn_r _ [5, 6, 7, 8, 3, 9, 10, 16] (by decide +kernel) (by decide +kernel)
set_option maxRecDepth 20000 in
theorem gX4_depositOf_X2_ofBrand_n22 : GoodIn wsX4_depositOf (wsX2_ofBrand) := ggX4_depositOf_X2_ofBrand
set_option maxRecDepth 20000 in
theorem ggX4_depositOf_X2_ofSetting : GoodIn wsX4_depositOf wsX2_ofSetting := goodIn_r _ [13, 6, 7, 8, 3, 9, 10, 16] (by decide +kernel) (by decide +kernel)
set_option maxRecDepth 20000 in
theorem gX4_depositOf_X2_ofSetting_n26 : GoodIn wsX4_depositOf (wsX2_ofSetting) := ggX4_depositOf_X2_ofSetting
theorem dX4_depositOf_0 : decode cX4_depositOf 0 = .ok (.aload_n 0, 1) := by decide +kernel
theorem dX4_depositOf_1 : decode cX4_depositOf 1 = .ok (.getfield 12, 3) := by decide +kernel
theorem dX4_depositOf_4 : decode cX4_depositOf 4 = .ok (.aload_n 0, 1) := by decide +kernel
theorem dX4_depositOf_5 : decode cX4_depositOf 5 = .ok (.getfield 12, 3) := by decide +kernel
theorem dX4_depositOf_8 : decode cX4_depositOf 8 = .ok (.iload_n 1, 1) := by decide +kernel
theorem dX4_depositOf_9 : decode cX4_depositOf 9 = .ok (.iconst 0, 1) := by decide +kernel
theorem dX4_depositOf_10 : decode cX4_depositOf 10 = .ok (.invokevirtual 22, 3) := by decide +kernel
theorem dX4_depositOf_13 : decode cX4_depositOf 13 = .ok (.invokevirtual 26, 3) := by decide +kernel
theorem dX4_depositOf_16 : decode cX4_depositOf 16 = .ok (.ireturn, 1) := by decide +kernel
set_option maxRecDepth 20000 in
theorem ggX4_crateDeposits_X2_ofSetting : GoodIn wsX4_crateDeposits wsX2_ofSetting := goodIn_r _ [5, 6, 7, 8, 3, 9, 10, 13] (by decide +kernel) (by decide +kernel)
set_option maxRecDepth 20000 in
theorem gX4_crateDeposits_X2_ofSetting_n26 : GoodIn wsX4_crateDeposits (wsX2_ofSetting) := ggX4_crateDeposits_X2_ofSetting
theorem dX4_crateDeposits_0 : decode cX4_crateDeposits 0 = .ok (.bipush 12, 2) := by decide +kernel
theorem dX4_crateDeposits_2 : decode cX4_crateDeposits 2 = .ok (.aload_n 0, 1) := by decide +kernel
theorem dX4_crateDeposits_3 : decode cX4_crateDeposits 3 = .ok (.getfield 12, 3) := by decide +kernel
theorem dX4_crateDeposits_6 : decode cX4_crateDeposits 6 = .ok (.iload_n 1, 1) := by decide +kernel
theorem dX4_crateDeposits_7 : decode cX4_crateDeposits 7 = .ok (.invokevirtual 26, 3) := by decide +kernel
theorem dX4_crateDeposits_10 : decode cX4_crateDeposits 10 = .ok (.imul, 1) := by decide +kernel
theorem dX4_crateDeposits_11 : decode cX4_crateDeposits 11 = .ok (.aload_n 0, 1) := by decide +kernel
theorem dX4_crateDeposits_12 : decode cX4_crateDeposits 12 = .ok (.getfield 12, 3) := by decide +kernel
theorem dX4_crateDeposits_15 : decode cX4_crateDeposits 15 = .ok (.iconst 3, 1) := by decide +kernel
theorem dX4_crateDeposits_16 : decode cX4_crateDeposits 16 = .ok (.invokevirtual 26, 3) := by decide +kernel
theorem dX4_crateDeposits_19 : decode cX4_crateDeposits 19 = .ok (.iadd, 1) := by decide +kernel
theorem dX4_crateDeposits_20 : decode cX4_crateDeposits 20 = .ok (.ireturn, 1) := by decide +kernel
set_option maxRecDepth 20000 in
theorem ggX4_cratePrice_X2_ofBrand : GoodIn wsX4_cratePrice wsX2_ofBrand := goodIn_r _ [5, 6, 7, 8, 3, 9, 10, 21] (by decide +kernel) (by decide +kernel)
set_option maxRecDepth 20000 in
theorem gX4_cratePrice_X2_ofBrand_n22 : GoodIn wsX4_cratePrice (wsX2_ofBrand) := ggX4_cratePrice_X2_ofBrand
set_option maxRecDepth 20000 in
theorem ggX4_cratePrice_X4_crateDeposits : GoodIn wsX4_cratePrice wsX4_crateDeposits := goodIn_r _ [15, 1, 16, 3, 17, 18, 6, 7, 8, 9, 10, 19, 20, 21] (by decide +kernel) (by decide +kernel)
set_option maxRecDepth 20000 in
theorem gX4_cratePrice_X4_crateDeposits : GoodIn wsX4_cratePrice (wsV RX4 30 RX4 yX4_crateDeposits wsX4_crateDeposits) := goodIn_app (goodIn_of _ (by decide +kernel)) ggX4_cratePrice_X4_crateDeposits
set_option maxRecDepth 20000 in
theorem ggX4_cratePrice_X2_ofSetting : GoodIn wsX4_cratePrice wsX2_ofSetting := goodIn_r _ [18, 6, 7, 8, 3, 9, 10, 21] (by decide +kernel) (by decide +kernel)
set_option maxRecDepth 20000 in
theorem gX4_cratePrice_X2_ofSetting_n26 : GoodIn wsX4_cratePrice (wsX2_ofSetting) := ggX4_cratePrice_X2_ofSetting
theorem dX4_cratePrice_0 : decode cX4_cratePrice 0 = .ok (.aload_n 0, 1) := by decide +kernel
theorem dX4_cratePrice_1 : decode cX4_cratePrice 1 = .ok (.aload_n 0, 1) := by decide +kernel
theorem dX4_cratePrice_2 : decode cX4_cratePrice 2 = .ok (.getfield 12, 3) := by decide +kernel
theorem dX4_cratePrice_5 : decode cX4_cratePrice 5 = .ok (.iload_n 1, 1) := by decide +kernel
theorem dX4_cratePrice_6 : decode cX4_cratePrice 6 = .ok (.iconst 0, 1) := by decide +kernel
theorem dX4_cratePrice_7 : decode cX4_cratePrice 7 = .ok (.invokevirtual 22, 3) := by decide +kernel
theorem dX4_cratePrice_10 : decode cX4_cratePrice 10 = .ok (.invokevirtual 30, 3) := by decide +kernel
theorem dX4_cratePrice_13 : decode cX4_cratePrice 13 = .ok (.aload_n 0, 1) := by decide +kernel
theorem dX4_cratePrice_14 : decode cX4_cratePrice 14 = .ok (.getfield 12, 3) := by decide +kernel
theorem dX4_cratePrice_17 : decode cX4_cratePrice 17 = .ok (.iconst 4, 1) := by decide +kernel
theorem dX4_cratePrice_18 : decode cX4_cratePrice 18 = .ok (.invokevirtual 26, 3) := by decide +kernel
theorem dX4_cratePrice_21 : decode cX4_cratePrice 21 = .ok (.iadd, 1) := by decide +kernel
theorem dX4_cratePrice_22 : decode cX4_cratePrice 22 = .ok (.ireturn, 1) := by decide +kernel
theorem dX4_bottleReason_0 : decode cX4_bottleReason 0 = .ok (.iload_n 0, 1) := by decide +kernel
theorem dX4_bottleReason_1 : decode cX4_bottleReason 1 = .ok (.iload_n 1, 1) := by decide +kernel
theorem dX4_bottleReason_2 : decode cX4_bottleReason 2 = .ok (.if_icmp .ge 7, 3) := by decide +kernel
theorem dX4_bottleReason_5 : decode cX4_bottleReason 5 = .ok (.iconst 1, 1) := by decide +kernel
theorem dX4_bottleReason_6 : decode cX4_bottleReason 6 = .ok (.goto 4, 3) := by decide +kernel
theorem dX4_bottleReason_9 : decode cX4_bottleReason 9 = .ok (.iconst 0, 1) := by decide +kernel
theorem dX4_bottleReason_10 : decode cX4_bottleReason 10 = .ok (.ireturn, 1) := by decide +kernel
set_option maxRecDepth 20000 in
theorem ggX4_deliverReason_X2_ofBrand : GoodIn wsX4_deliverReason wsX2_ofBrand := goodIn_r _ [5, 6, 7, 8, 3, 9, 10, 31] (by decide +kernel) (by decide +kernel)
set_option maxRecDepth 20000 in
theorem gX4_deliverReason_X2_ofBrand_n22 : GoodIn wsX4_deliverReason (wsX2_ofBrand) := ggX4_deliverReason_X2_ofBrand
set_option maxRecDepth 20000 in
theorem ggX4_deliverReason_X2_ofAll : GoodIn wsX4_deliverReason wsX2_ofAll := goodIn_r _ [13, 6, 7, 8, 3, 9, 10, 31] (by decide +kernel) (by decide +kernel)
set_option maxRecDepth 20000 in
theorem gX4_deliverReason_X2_ofAll_n33 : GoodIn wsX4_deliverReason (wsX2_ofAll) := ggX4_deliverReason_X2_ofAll
set_option maxRecDepth 20000 in
theorem ggX4_deliverReason_X2_ofShop : GoodIn wsX4_deliverReason wsX2_ofShop := goodIn_r _ [16, 6, 7, 8, 3, 9, 10, 31] (by decide +kernel) (by decide +kernel)
set_option maxRecDepth 20000 in
theorem gX4_deliverReason_X2_ofShop_n36 : GoodIn wsX4_deliverReason (wsX2_ofShop) := ggX4_deliverReason_X2_ofShop
set_option maxRecDepth 20000 in
theorem ggX4_deliverReason_X4_cratePrice : GoodIn wsX4_deliverReason wsX4_cratePrice := goodIn_r _ [21, 1, 2, 3, 4, 5, 6, 7, 8, 9, 10, 22, 23, 24, 20, 25, 26, 27, 28, 29, 30, 31] (by decide +kernel) (by decide +kernel)
set_option maxRecDepth 20000 in
theorem gX4_deliverReason_X4_cratePrice : GoodIn wsX4_deliverReason (wsV RX4 39 RX4 yX4_cratePrice wsX4_cratePrice) := goodIn_app (goodIn_of _ (by decide +kernel)) ggX4_deliverReason_X4_cratePrice
theorem dX4_deliverReason_0 : decode cX4_deliverReason 0 = .ok (.aload_n 0, 1) := by decide +kernel
theorem dX4_deliverReason_1 : decode cX4_deliverReason 1 = .ok (.getfield 12, 3) := by decide +kernel
theorem dX4_deliverReason_4 : decode cX4_deliverReason 4 = .ok (.iload_n 1, 1) := by decide +kernel
theorem dX4_deliverReason_5 : decode cX4_deliverReason 5 = .ok (.iconst 2, 1) := by decide +kernel
theorem dX4_deliverReason_6 : decode cX4_deliverReason 6 = .ok (.invokevirtual 22, 3) := by decide +kernel
theorem dX4_deliverReason_9 : decode cX4_deliverReason 9 = .ok (.bipush 12, 2) := by decide +kernel
theorem dX4_deliverReason_11 : decode cX4_deliverReason 11 = .ok (.iload_n 3, 1) := by decide +kernel
theorem dX4_deliverReason_12 : decode cX4_deliverReason 12 = .ok (.imul, 1) := by decide +kernel
theorem dX4_deliverReason_13 : decode cX4_deliverReason 13 = .ok (.if_icmp .ge 5, 3) := by decide +kernel
theorem dX4_deliverReason_16 : decode cX4_deliverReason 16 = .ok (.iconst 1, 1) := by decide +kernel
theorem dX4_deliverReason_17 : decode cX4_deliverReason 17 = .ok (.ireturn, 1) := by decide +kernel
theorem dX4_deliverReason_18 : decode cX4_deliverReason 18 = .ok (.aload_n 0, 1) := by decide +kernel
theorem dX4_deliverReason_19 : decode cX4_deliverReason 19 = .ok (.getfield 12, 3) := by decide +kernel
theorem dX4_deliverReason_22 : decode cX4_deliverReason 22 = .ok (.iconst 2, 1) := by decide +kernel
theorem dX4_deliverReason_23 : decode cX4_deliverReason 23 = .ok (.invokevirtual 33, 3) := by decide +kernel
theorem dX4_deliverReason_26 : decode cX4_deliverReason 26 = .ok (.iload_n 3, 1) := by decide +kernel
theorem dX4_deliverReason_27 : decode cX4_deliverReason 27 = .ok (.if_icmp .ge 5, 3) := by decide +kernel
theorem dX4_deliverReason_30 : decode cX4_deliverReason 30 = .ok (.iconst 2, 1) := by decide +kernel
theorem dX4_deliverReason_31 : decode cX4_deliverReason 31 = .ok (.ireturn, 1) := by decide +kernel
theorem dX4_deliverReason_32 : decode cX4_deliverReason 32 = .ok (.aload_n 0, 1) := by decide +kernel
theorem dX4_deliverReason_33 : decode cX4_deliverReason 33 = .ok (.getfield 12, 3) := by decide +kernel
theorem dX4_deliverReason_36 : decode cX4_deliverReason 36 = .ok (.iload_n 2, 1) := by decide +kernel
theorem dX4_deliverReason_37 : decode cX4_deliverReason 37 = .ok (.iconst 0, 1) := by decide +kernel
theorem dX4_deliverReason_38 : decode cX4_deliverReason 38 = .ok (.invokevirtual 36, 3) := by decide +kernel
theorem dX4_deliverReason_41 : decode cX4_deliverReason 41 = .ok (.iload_n 3, 1) := by decide +kernel
theorem dX4_deliverReason_42 : decode cX4_deliverReason 42 = .ok (.aload_n 0, 1) := by decide +kernel
theorem dX4_deliverReason_43 : decode cX4_deliverReason 43 = .ok (.iload_n 1, 1) := by decide +kernel
theorem dX4_deliverReason_44 : decode cX4_deliverReason 44 = .ok (.invokevirtual 39, 3) := by decide +kernel
theorem dX4_deliverReason_47 : decode cX4_deliverReason 47 = .ok (.imul, 1) := by decide +kernel
theorem dX4_deliverReason_48 : decode cX4_deliverReason 48 = .ok (.if_icmp .ge 7, 3) := by decide +kernel
theorem dX4_deliverReason_51 : decode cX4_deliverReason 51 = .ok (.iconst 3, 1) := by decide +kernel
theorem dX4_deliverReason_52 : decode cX4_deliverReason 52 = .ok (.goto 4, 3) := by decide +kernel
theorem dX4_deliverReason_55 : decode cX4_deliverReason 55 = .ok (.iconst 0, 1) := by decide +kernel
theorem dX4_deliverReason_56 : decode cX4_deliverReason 56 = .ok (.ireturn, 1) := by decide +kernel
set_option maxRecDepth 20000 in
theorem ggX4_sellReason_X2_ofShop : GoodIn wsX4_sellReason wsX2_ofShop := goodIn_r _ [5, 6, 7, 8, 3, 9, 10, 17] (by decide +kernel) (by decide +kernel)
set_option maxRecDepth 20000 in
theorem gX4_sellReason_X2_ofShop_n36 : GoodIn wsX4_sellReason (wsX2_ofShop) := ggX4_sellReason_X2_ofShop
set_option maxRecDepth 20000 in
theorem ggX4_sellReason_X4_bottleReason : GoodIn wsX4_sellReason wsX4_bottleReason := goodIn_r _ [14] (by decide +kernel) (by decide +kernel)
set_option maxRecDepth 20000 in
theorem gX4_sellReason_X4_bottleReason : GoodIn wsX4_sellReason (va_wsS RX4 42 yX4_bottleReason wsX4_bottleReason) := goodIn_app (goodIn_of _ (by decide +kernel)) ggX4_sellReason_X4_bottleReason
theorem dX4_sellReason_0 : decode cX4_sellReason 0 = .ok (.aload_n 0, 1) := by decide +kernel
theorem dX4_sellReason_1 : decode cX4_sellReason 1 = .ok (.getfield 12, 3) := by decide +kernel
theorem dX4_sellReason_4 : decode cX4_sellReason 4 = .ok (.iload_n 1, 1) := by decide +kernel
theorem dX4_sellReason_5 : decode cX4_sellReason 5 = .ok (.bipush 10, 2) := by decide +kernel
theorem dX4_sellReason_7 : decode cX4_sellReason 7 = .ok (.iload_n 2, 1) := by decide +kernel
theorem dX4_sellReason_8 : decode cX4_sellReason 8 = .ok (.iadd, 1) := by decide +kernel
theorem dX4_sellReason_9 : decode cX4_sellReason 9 = .ok (.invokevirtual 36, 3) := by decide +kernel
theorem dX4_sellReason_12 : decode cX4_sellReason 12 = .ok (.iload_n 3, 1) := by decide +kernel
theorem dX4_sellReason_13 : decode cX4_sellReason 13 = .ok (.invokestatic 42, 3) := by decide +kernel
theorem dX4_sellReason_16 : decode cX4_sellReason 16 = .ok (.ireturn, 1) := by decide +kernel
set_option maxRecDepth 20000 in
theorem ggX4_returnReason_X2_ofBrand : GoodIn wsX4_returnReason wsX2_ofBrand := goodIn_r _ [5, 6, 7, 8, 3, 9, 10, 24] (by decide +kernel) (by decide +kernel)
set_option maxRecDepth 20000 in
theorem gX4_returnReason_X2_ofBrand_n22 : GoodIn wsX4_returnReason (wsX2_ofBrand) := ggX4_returnReason_X2_ofBrand
set_option maxRecDepth 20000 in
theorem ggX4_returnReason_X2_ofShop : GoodIn wsX4_returnReason wsX2_ofShop := goodIn_r _ [13, 6, 7, 8, 3, 9, 10, 24] (by decide +kernel) (by decide +kernel)
set_option maxRecDepth 20000 in
theorem gX4_returnReason_X2_ofShop_n36 : GoodIn wsX4_returnReason (wsX2_ofShop) := ggX4_returnReason_X2_ofShop
set_option maxRecDepth 20000 in
theorem ggX4_returnReason_X4_depositOf : GoodIn wsX4_returnReason wsX4_depositOf := goodIn_r _ [18, 1, 2, 3, 4, 5, 6, 7, 8, 9, 10, 19, 20, 21, 22, 23, 24] (by decide +kernel) (by decide +kernel)
set_option maxRecDepth 20000 in
theorem gX4_returnReason_X4_depositOf : GoodIn wsX4_returnReason (wsV RX4 45 RX4 yX4_depositOf wsX4_depositOf) := goodIn_app (goodIn_of _ (by decide +kernel)) ggX4_returnReason_X4_depositOf
theorem dX4_returnReason_0 : decode cX4_returnReason 0 = .ok (.aload_n 0, 1) := by decide +kernel
theorem dX4_returnReason_1 : decode cX4_returnReason 1 = .ok (.getfield 12, 3) := by decide +kernel
theorem dX4_returnReason_4 : decode cX4_returnReason 4 = .ok (.iload_n 2, 1) := by decide +kernel
theorem dX4_returnReason_5 : decode cX4_returnReason 5 = .ok (.iconst 5, 1) := by decide +kernel
theorem dX4_returnReason_6 : decode cX4_returnReason 6 = .ok (.invokevirtual 22, 3) := by decide +kernel
theorem dX4_returnReason_9 : decode cX4_returnReason 9 = .ok (.iload_n 3, 1) := by decide +kernel
theorem dX4_returnReason_10 : decode cX4_returnReason 10 = .ok (.if_icmp .ge 5, 3) := by decide +kernel
theorem dX4_returnReason_13 : decode cX4_returnReason 13 = .ok (.iconst 1, 1) := by decide +kernel
theorem dX4_returnReason_14 : decode cX4_returnReason 14 = .ok (.ireturn, 1) := by decide +kernel
theorem dX4_returnReason_15 : decode cX4_returnReason 15 = .ok (.aload_n 0, 1) := by decide +kernel
theorem dX4_returnReason_16 : decode cX4_returnReason 16 = .ok (.getfield 12, 3) := by decide +kernel
theorem dX4_returnReason_19 : decode cX4_returnReason 19 = .ok (.iload_n 1, 1) := by decide +kernel
theorem dX4_returnReason_20 : decode cX4_returnReason 20 = .ok (.iconst 0, 1) := by decide +kernel
theorem dX4_returnReason_21 : decode cX4_returnReason 21 = .ok (.invokevirtual 36, 3) := by decide +kernel
theorem dX4_returnReason_24 : decode cX4_returnReason 24 = .ok (.iload_n 3, 1) := by decide +kernel
theorem dX4_returnReason_25 : decode cX4_returnReason 25 = .ok (.aload_n 0, 1) := by decide +kernel
theorem dX4_returnReason_26 : decode cX4_returnReason 26 = .ok (.iload_n 2, 1) := by decide +kernel
theorem dX4_returnReason_27 : decode cX4_returnReason 27 = .ok (.invokevirtual 45, 3) := by decide +kernel
theorem dX4_returnReason_30 : decode cX4_returnReason 30 = .ok (.imul, 1) := by decide +kernel
theorem dX4_returnReason_31 : decode cX4_returnReason 31 = .ok (.if_icmp .ge 7, 3) := by decide +kernel
theorem dX4_returnReason_34 : decode cX4_returnReason 34 = .ok (.iconst 3, 1) := by decide +kernel
theorem dX4_returnReason_35 : decode cX4_returnReason 35 = .ok (.goto 4, 3) := by decide +kernel
theorem dX4_returnReason_38 : decode cX4_returnReason 38 = .ok (.iconst 0, 1) := by decide +kernel
theorem dX4_returnReason_39 : decode cX4_returnReason 39 = .ok (.ireturn, 1) := by decide +kernel
set_option maxRecDepth 20000 in
theorem ggX4_breakReason_X2_ofShop : GoodIn wsX4_breakReason wsX2_ofShop := goodIn_r _ [5, 6, 7, 8, 3, 9, 10, 17] (by decide +kernel) (by decide +kernel)
set_option maxRecDepth 20000 in
theorem gX4_breakReason_X2_ofShop_n36 : GoodIn wsX4_breakReason (wsX2_ofShop) := ggX4_breakReason_X2_ofShop
set_option maxRecDepth 20000 in
theorem ggX4_breakReason_X4_bottleReason : GoodIn wsX4_breakReason wsX4_bottleReason := goodIn_r _ [14] (by decide +kernel) (by decide +kernel)
set_option maxRecDepth 20000 in
theorem gX4_breakReason_X4_bottleReason : GoodIn wsX4_breakReason (va_wsS RX4 42 yX4_bottleReason wsX4_bottleReason) := goodIn_app (goodIn_of _ (by decide +kernel)) ggX4_breakReason_X4_bottleReason
theorem dX4_breakReason_0 : decode cX4_breakReason 0 = .ok (.aload_n 0, 1) := by decide +kernel
theorem dX4_breakReason_1 : decode cX4_breakReason 1 = .ok (.getfield 12, 3) := by decide +kernel
theorem dX4_breakReason_4 : decode cX4_breakReason 4 = .ok (.iload_n 1, 1) := by decide +kernel
theorem dX4_breakReason_5 : decode cX4_breakReason 5 = .ok (.bipush 20, 2) := by decide +kernel
theorem dX4_breakReason_7 : decode cX4_breakReason 7 = .ok (.iload_n 2, 1) := by decide +kernel
theorem dX4_breakReason_8 : decode cX4_breakReason 8 = .ok (.iadd, 1) := by decide +kernel
theorem dX4_breakReason_9 : decode cX4_breakReason 9 = .ok (.invokevirtual 36, 3) := by decide +kernel
theorem dX4_breakReason_12 : decode cX4_breakReason 12 = .ok (.iload_n 3, 1) := by decide +kernel
theorem dX4_breakReason_13 : decode cX4_breakReason 13 = .ok (.invokestatic 42, 3) := by decide +kernel
theorem dX4_breakReason_16 : decode cX4_breakReason 16 = .ok (.ireturn, 1) := by decide +kernel
set_option maxRecDepth 20000 in
theorem ggX4_collectReason_X4_emptiesOf : GoodIn wsX4_collectReason wsX4_emptiesOf := goodIn_r _ [6, 1, 7, 8, 9, 10, 11, 12, 13, 14, 15, 16, 17, 18, 19, 20, 21] (by decide +kernel) (by decide +kernel)
set_option maxRecDepth 20000 in
theorem gX4_collectReason_X4_emptiesOf : GoodIn wsX4_collectReason (wsV RX4 48 RX4 yX4_emptiesOf wsX4_emptiesOf) := goodIn_app (goodIn_of _ (by decide +kernel)) ggX4_collectReason_X4_emptiesOf
set_option maxRecDepth 20000 in
theorem ggX4_collectReason_X2_ofShop : GoodIn wsX4_collectReason wsX2_ofShop := goodIn_r _ [18, 11, 12, 13, 8, 14, 15, 21] (by decide +kernel) (by decide +kernel)
set_option maxRecDepth 20000 in
theorem gX4_collectReason_X2_ofShop_n36 : GoodIn wsX4_collectReason (wsX2_ofShop) := ggX4_collectReason_X2_ofShop
theorem dX4_collectReason_0 : decode cX4_collectReason 0 = .ok (.aload_n 0, 1) := by decide +kernel
theorem dX4_collectReason_1 : decode cX4_collectReason 1 = .ok (.iload_n 1, 1) := by decide +kernel
theorem dX4_collectReason_2 : decode cX4_collectReason 2 = .ok (.iload_n 2, 1) := by decide +kernel
theorem dX4_collectReason_3 : decode cX4_collectReason 3 = .ok (.invokevirtual 48, 3) := by decide +kernel
theorem dX4_collectReason_6 : decode cX4_collectReason 6 = .ok (.bipush 12, 2) := by decide +kernel
theorem dX4_collectReason_8 : decode cX4_collectReason 8 = .ok (.iload_n 3, 1) := by decide +kernel
theorem dX4_collectReason_9 : decode cX4_collectReason 9 = .ok (.imul, 1) := by decide +kernel
theorem dX4_collectReason_10 : decode cX4_collectReason 10 = .ok (.if_icmp .ge 5, 3) := by decide +kernel
theorem dX4_collectReason_13 : decode cX4_collectReason 13 = .ok (.iconst 1, 1) := by decide +kernel
theorem dX4_collectReason_14 : decode cX4_collectReason 14 = .ok (.ireturn, 1) := by decide +kernel
theorem dX4_collectReason_15 : decode cX4_collectReason 15 = .ok (.aload_n 0, 1) := by decide +kernel
theorem dX4_collectReason_16 : decode cX4_collectReason 16 = .ok (.getfield 12, 3) := by decide +kernel
theorem dX4_collectReason_19 : decode cX4_collectReason 19 = .ok (.iload_n 1, 1) := by decide +kernel
theorem dX4_collectReason_20 : decode cX4_collectReason 20 = .ok (.iconst 1, 1) := by decide +kernel
theorem dX4_collectReason_21 : decode cX4_collectReason 21 = .ok (.invokevirtual 36, 3) := by decide +kernel
theorem dX4_collectReason_24 : decode cX4_collectReason 24 = .ok (.iload_n 3, 1) := by decide +kernel
theorem dX4_collectReason_25 : decode cX4_collectReason 25 = .ok (.if_icmp .ge 7, 3) := by decide +kernel
theorem dX4_collectReason_28 : decode cX4_collectReason 28 = .ok (.iconst 2, 1) := by decide +kernel
theorem dX4_collectReason_29 : decode cX4_collectReason 29 = .ok (.goto 4, 3) := by decide +kernel
theorem dX4_collectReason_32 : decode cX4_collectReason 32 = .ok (.iconst 0, 1) := by decide +kernel
theorem dX4_collectReason_33 : decode cX4_collectReason 33 = .ok (.ireturn, 1) := by decide +kernel
set_option maxRecDepth 20000 in
theorem ggX4_fillBottles_X4_wornBy : GoodIn wsX4_fillBottles wsX4_wornBy := goodIn_r _ [6, 1, 7, 8, 9, 10, 11, 12, 13, 14, 15, 16, 17, 18, 26, 27, 28] (by decide +kernel) (by decide +kernel)
set_option maxRecDepth 20000 in
theorem gX4_fillBottles_X4_wornBy : GoodIn wsX4_fillBottles (wsV RX4 51 RX4 yX4_wornBy wsX4_wornBy) := goodIn_app (goodIn_of _ (by decide +kernel)) ggX4_fillBottles_X4_wornBy
set_option maxRecDepth 20000 in
theorem ggX4_fillBottles_X2_addToBrand : GoodIn wsX4_fillBottles wsX2_addToBrand := goodIn_r _ [21, 11, 12, 13, 8, 14, 15, 22, 23, 24, 25, 28] (by decide +kernel) (by decide +kernel)
set_option maxRecDepth 20000 in
theorem gX4_fillBottles_X2_addToBrand_n54 : GoodIn wsX4_fillBottles (wsX2_addToBrand) := ggX4_fillBottles_X2_addToBrand
theorem dX4_fillBottles_0 : decode cX4_fillBottles 0 = .ok (.aload_n 0, 1) := by decide +kernel
theorem dX4_fillBottles_1 : decode cX4_fillBottles 1 = .ok (.iload_n 1, 1) := by decide +kernel
theorem dX4_fillBottles_2 : decode cX4_fillBottles 2 = .ok (.iload_n 2, 1) := by decide +kernel
theorem dX4_fillBottles_3 : decode cX4_fillBottles 3 = .ok (.invokevirtual 51, 3) := by decide +kernel
theorem dX4_fillBottles_6 : decode cX4_fillBottles 6 = .ok (.istore_n 3, 1) := by decide +kernel
theorem dX4_fillBottles_7 : decode cX4_fillBottles 7 = .ok (.aload_n 0, 1) := by decide +kernel
theorem dX4_fillBottles_8 : decode cX4_fillBottles 8 = .ok (.getfield 12, 3) := by decide +kernel
theorem dX4_fillBottles_11 : decode cX4_fillBottles 11 = .ok (.iload_n 1, 1) := by decide +kernel
theorem dX4_fillBottles_12 : decode cX4_fillBottles 12 = .ok (.iconst 1, 1) := by decide +kernel
theorem dX4_fillBottles_13 : decode cX4_fillBottles 13 = .ok (.iload_n 2, 1) := by decide +kernel
theorem dX4_fillBottles_14 : decode cX4_fillBottles 14 = .ok (.ineg, 1) := by decide +kernel
theorem dX4_fillBottles_15 : decode cX4_fillBottles 15 = .ok (.invokevirtual 54, 3) := by decide +kernel
theorem dX4_fillBottles_18 : decode cX4_fillBottles 18 = .ok (.aload_n 0, 1) := by decide +kernel
theorem dX4_fillBottles_19 : decode cX4_fillBottles 19 = .ok (.getfield 12, 3) := by decide +kernel
theorem dX4_fillBottles_22 : decode cX4_fillBottles 22 = .ok (.iload_n 1, 1) := by decide +kernel
theorem dX4_fillBottles_23 : decode cX4_fillBottles 23 = .ok (.iconst 2, 1) := by decide +kernel
theorem dX4_fillBottles_24 : decode cX4_fillBottles 24 = .ok (.iload_n 2, 1) := by decide +kernel
theorem dX4_fillBottles_25 : decode cX4_fillBottles 25 = .ok (.iload_n 3, 1) := by decide +kernel
theorem dX4_fillBottles_26 : decode cX4_fillBottles 26 = .ok (.isub, 1) := by decide +kernel
theorem dX4_fillBottles_27 : decode cX4_fillBottles 27 = .ok (.invokevirtual 54, 3) := by decide +kernel
theorem dX4_fillBottles_30 : decode cX4_fillBottles 30 = .ok (.aload_n 0, 1) := by decide +kernel
theorem dX4_fillBottles_31 : decode cX4_fillBottles 31 = .ok (.getfield 12, 3) := by decide +kernel
theorem dX4_fillBottles_34 : decode cX4_fillBottles 34 = .ok (.iload_n 1, 1) := by decide +kernel
theorem dX4_fillBottles_35 : decode cX4_fillBottles 35 = .ok (.bipush 9, 2) := by decide +kernel
theorem dX4_fillBottles_37 : decode cX4_fillBottles 37 = .ok (.iload_n 3, 1) := by decide +kernel
theorem dX4_fillBottles_38 : decode cX4_fillBottles 38 = .ok (.invokevirtual 54, 3) := by decide +kernel
theorem dX4_fillBottles_41 : decode cX4_fillBottles 41 = .ok (.aload_n 0, 1) := by decide +kernel
theorem dX4_fillBottles_42 : decode cX4_fillBottles 42 = .ok (.getfield 12, 3) := by decide +kernel
theorem dX4_fillBottles_45 : decode cX4_fillBottles 45 = .ok (.iload_n 1, 1) := by decide +kernel
theorem dX4_fillBottles_46 : decode cX4_fillBottles 46 = .ok (.bipush 10, 2) := by decide +kernel
theorem dX4_fillBottles_48 : decode cX4_fillBottles 48 = .ok (.iload_n 2, 1) := by decide +kernel
theorem dX4_fillBottles_49 : decode cX4_fillBottles 49 = .ok (.invokevirtual 54, 3) := by decide +kernel
theorem dX4_fillBottles_52 : decode cX4_fillBottles 52 = .ok (.iload_n 2, 1) := by decide +kernel
theorem dX4_fillBottles_53 : decode cX4_fillBottles 53 = .ok (.iload_n 3, 1) := by decide +kernel
theorem dX4_fillBottles_54 : decode cX4_fillBottles 54 = .ok (.isub, 1) := by decide +kernel
theorem dX4_fillBottles_55 : decode cX4_fillBottles 55 = .ok (.ireturn, 1) := by decide +kernel
set_option maxRecDepth 20000 in
theorem ggX4_deliverCrates_X2_ofBrand : GoodIn wsX4_deliverCrates wsX2_ofBrand := goodIn_r _ [5, 6, 7, 8, 3, 9, 10, 34] (by decide +kernel) (by decide +kernel)
set_option maxRecDepth 20000 in
theorem gX4_deliverCrates_X2_ofBrand_n22 : GoodIn wsX4_deliverCrates (wsX2_ofBrand) := ggX4_deliverCrates_X2_ofBrand
set_option maxRecDepth 20000 in
theorem ggX4_deliverCrates_X4_crateDeposits : GoodIn wsX4_deliverCrates wsX4_crateDeposits := goodIn_r _ [15, 1, 16, 3, 17, 18, 6, 7, 8, 9, 10, 32, 33, 34] (by decide +kernel) (by decide +kernel)
set_option maxRecDepth 20000 in
theorem gX4_deliverCrates_X4_crateDeposits : GoodIn wsX4_deliverCrates (wsV RX4 30 RX4 yX4_crateDeposits wsX4_crateDeposits) := goodIn_app (goodIn_of _ (by decide +kernel)) ggX4_deliverCrates_X4_crateDeposits
set_option maxRecDepth 20000 in
theorem ggX4_deliverCrates_X2_ofSetting : GoodIn wsX4_deliverCrates wsX2_ofSetting := goodIn_r _ [18, 6, 7, 8, 3, 9, 10, 34] (by decide +kernel) (by decide +kernel)
set_option maxRecDepth 20000 in
theorem gX4_deliverCrates_X2_ofSetting_n26 : GoodIn wsX4_deliverCrates (wsX2_ofSetting) := ggX4_deliverCrates_X2_ofSetting
set_option maxRecDepth 20000 in
theorem ggX4_deliverCrates_X2_addToBrand : GoodIn wsX4_deliverCrates wsX2_addToBrand := goodIn_r _ [21, 6, 7, 8, 3, 9, 10, 22, 23, 24, 25, 34] (by decide +kernel) (by decide +kernel)
set_option maxRecDepth 20000 in
theorem gX4_deliverCrates_X2_addToBrand_n54 : GoodIn wsX4_deliverCrates (wsX2_addToBrand) := ggX4_deliverCrates_X2_addToBrand
set_option maxRecDepth 20000 in
theorem ggX4_deliverCrates_X2_addToShop : GoodIn wsX4_deliverCrates wsX2_addToShop := goodIn_r _ [28, 6, 7, 8, 3, 9, 10, 22, 23, 24, 25, 34] (by decide +kernel) (by decide +kernel)
set_option maxRecDepth 20000 in
theorem gX4_deliverCrates_X2_addToShop_n58 : GoodIn wsX4_deliverCrates (wsX2_addToShop) := ggX4_deliverCrates_X2_addToShop
set_option maxRecDepth 20000 in
theorem ggX4_deliverCrates_X2_addToAll : GoodIn wsX4_deliverCrates wsX2_addToAll := goodIn_r _ [31, 6, 7, 8, 3, 9, 10, 22, 23, 24, 25, 34] (by decide +kernel) (by decide +kernel)
set_option maxRecDepth 20000 in
theorem gX4_deliverCrates_X2_addToAll_n61 : GoodIn wsX4_deliverCrates (wsX2_addToAll) := ggX4_deliverCrates_X2_addToAll
theorem dX4_deliverCrates_0 : decode cX4_deliverCrates 0 = .ok (.iload_n 3, 1) := by decide +kernel
theorem dX4_deliverCrates_1 : decode cX4_deliverCrates 1 = .ok (.aload_n 0, 1) := by decide +kernel
theorem dX4_deliverCrates_2 : decode cX4_deliverCrates 2 = .ok (.aload_n 0, 1) := by decide +kernel
theorem dX4_deliverCrates_3 : decode cX4_deliverCrates 3 = .ok (.getfield 12, 3) := by decide +kernel
theorem dX4_deliverCrates_6 : decode cX4_deliverCrates 6 = .ok (.iload_n 1, 1) := by decide +kernel
theorem dX4_deliverCrates_7 : decode cX4_deliverCrates 7 = .ok (.iconst 0, 1) := by decide +kernel
theorem dX4_deliverCrates_8 : decode cX4_deliverCrates 8 = .ok (.invokevirtual 22, 3) := by decide +kernel
theorem dX4_deliverCrates_11 : decode cX4_deliverCrates 11 = .ok (.invokevirtual 30, 3) := by decide +kernel
theorem dX4_deliverCrates_14 : decode cX4_deliverCrates 14 = .ok (.imul, 1) := by decide +kernel
theorem dX4_deliverCrates_15 : decode cX4_deliverCrates 15 = .ok (.istore 4, 2) := by decide +kernel
theorem dX4_deliverCrates_17 : decode cX4_deliverCrates 17 = .ok (.iload_n 3, 1) := by decide +kernel
theorem dX4_deliverCrates_18 : decode cX4_deliverCrates 18 = .ok (.aload_n 0, 1) := by decide +kernel
theorem dX4_deliverCrates_19 : decode cX4_deliverCrates 19 = .ok (.getfield 12, 3) := by decide +kernel
theorem dX4_deliverCrates_22 : decode cX4_deliverCrates 22 = .ok (.iconst 4, 1) := by decide +kernel
theorem dX4_deliverCrates_23 : decode cX4_deliverCrates 23 = .ok (.invokevirtual 26, 3) := by decide +kernel
theorem dX4_deliverCrates_26 : decode cX4_deliverCrates 26 = .ok (.imul, 1) := by decide +kernel
theorem dX4_deliverCrates_27 : decode cX4_deliverCrates 27 = .ok (.istore 5, 2) := by decide +kernel
theorem dX4_deliverCrates_29 : decode cX4_deliverCrates 29 = .ok (.aload_n 0, 1) := by decide +kernel
theorem dX4_deliverCrates_30 : decode cX4_deliverCrates 30 = .ok (.getfield 12, 3) := by decide +kernel
theorem dX4_deliverCrates_33 : decode cX4_deliverCrates 33 = .ok (.iload_n 1, 1) := by decide +kernel
theorem dX4_deliverCrates_34 : decode cX4_deliverCrates 34 = .ok (.iconst 2, 1) := by decide +kernel
theorem dX4_deliverCrates_35 : decode cX4_deliverCrates 35 = .ok (.bipush (-12), 2) := by decide +kernel
theorem dX4_deliverCrates_37 : decode cX4_deliverCrates 37 = .ok (.iload_n 3, 1) := by decide +kernel
theorem dX4_deliverCrates_38 : decode cX4_deliverCrates 38 = .ok (.imul, 1) := by decide +kernel
theorem dX4_deliverCrates_39 : decode cX4_deliverCrates 39 = .ok (.invokevirtual 54, 3) := by decide +kernel
theorem dX4_deliverCrates_42 : decode cX4_deliverCrates 42 = .ok (.aload_n 0, 1) := by decide +kernel
theorem dX4_deliverCrates_43 : decode cX4_deliverCrates 43 = .ok (.getfield 12, 3) := by decide +kernel
theorem dX4_deliverCrates_46 : decode cX4_deliverCrates 46 = .ok (.iload_n 2, 1) := by decide +kernel
theorem dX4_deliverCrates_47 : decode cX4_deliverCrates 47 = .ok (.bipush 10, 2) := by decide +kernel
theorem dX4_deliverCrates_49 : decode cX4_deliverCrates 49 = .ok (.iload_n 1, 1) := by decide +kernel
theorem dX4_deliverCrates_50 : decode cX4_deliverCrates 50 = .ok (.iadd, 1) := by decide +kernel
theorem dX4_deliverCrates_51 : decode cX4_deliverCrates 51 = .ok (.bipush 12, 2) := by decide +kernel
theorem dX4_deliverCrates_53 : decode cX4_deliverCrates 53 = .ok (.iload_n 3, 1) := by decide +kernel
theorem dX4_deliverCrates_54 : decode cX4_deliverCrates 54 = .ok (.imul, 1) := by decide +kernel
theorem dX4_deliverCrates_55 : decode cX4_deliverCrates 55 = .ok (.invokevirtual 58, 3) := by decide +kernel
theorem dX4_deliverCrates_58 : decode cX4_deliverCrates 58 = .ok (.aload_n 0, 1) := by decide +kernel
theorem dX4_deliverCrates_59 : decode cX4_deliverCrates 59 = .ok (.getfield 12, 3) := by decide +kernel
theorem dX4_deliverCrates_62 : decode cX4_deliverCrates 62 = .ok (.iconst 2, 1) := by decide +kernel
theorem dX4_deliverCrates_63 : decode cX4_deliverCrates 63 = .ok (.iload_n 3, 1) := by decide +kernel
theorem dX4_deliverCrates_64 : decode cX4_deliverCrates 64 = .ok (.ineg, 1) := by decide +kernel
theorem dX4_deliverCrates_65 : decode cX4_deliverCrates 65 = .ok (.invokevirtual 61, 3) := by decide +kernel
theorem dX4_deliverCrates_68 : decode cX4_deliverCrates 68 = .ok (.aload_n 0, 1) := by decide +kernel
theorem dX4_deliverCrates_69 : decode cX4_deliverCrates 69 = .ok (.getfield 12, 3) := by decide +kernel
theorem dX4_deliverCrates_72 : decode cX4_deliverCrates 72 = .ok (.iload_n 2, 1) := by decide +kernel
theorem dX4_deliverCrates_73 : decode cX4_deliverCrates 73 = .ok (.iconst 1, 1) := by decide +kernel
theorem dX4_deliverCrates_74 : decode cX4_deliverCrates 74 = .ok (.iload_n 3, 1) := by decide +kernel
theorem dX4_deliverCrates_75 : decode cX4_deliverCrates 75 = .ok (.invokevirtual 58, 3) := by decide +kernel
theorem dX4_deliverCrates_78 : decode cX4_deliverCrates 78 = .ok (.aload_n 0, 1) := by decide +kernel
theorem dX4_deliverCrates_79 : decode cX4_deliverCrates 79 = .ok (.getfield 12, 3) := by decide +kernel
theorem dX4_deliverCrates_82 : decode cX4_deliverCrates 82 = .ok (.iload_n 2, 1) := by decide +kernel
theorem dX4_deliverCrates_83 : decode cX4_deliverCrates 83 = .ok (.iconst 0, 1) := by decide +kernel
theorem dX4_deliverCrates_84 : decode cX4_deliverCrates 84 = .ok (.iload 4, 2) := by decide +kernel
theorem dX4_deliverCrates_86 : decode cX4_deliverCrates 86 = .ok (.ineg, 1) := by decide +kernel
theorem dX4_deliverCrates_87 : decode cX4_deliverCrates 87 = .ok (.iload 5, 2) := by decide +kernel
theorem dX4_deliverCrates_89 : decode cX4_deliverCrates 89 = .ok (.isub, 1) := by decide +kernel
theorem dX4_deliverCrates_90 : decode cX4_deliverCrates 90 = .ok (.invokevirtual 58, 3) := by decide +kernel
theorem dX4_deliverCrates_93 : decode cX4_deliverCrates 93 = .ok (.aload_n 0, 1) := by decide +kernel
theorem dX4_deliverCrates_94 : decode cX4_deliverCrates 94 = .ok (.getfield 12, 3) := by decide +kernel
theorem dX4_deliverCrates_97 : decode cX4_deliverCrates 97 = .ok (.iload_n 2, 1) := by decide +kernel
theorem dX4_deliverCrates_98 : decode cX4_deliverCrates 98 = .ok (.iconst 4, 1) := by decide +kernel
theorem dX4_deliverCrates_99 : decode cX4_deliverCrates 99 = .ok (.iload 4, 2) := by decide +kernel
theorem dX4_deliverCrates_101 : decode cX4_deliverCrates 101 = .ok (.invokevirtual 58, 3) := by decide +kernel
theorem dX4_deliverCrates_104 : decode cX4_deliverCrates 104 = .ok (.aload_n 0, 1) := by decide +kernel
theorem dX4_deliverCrates_105 : decode cX4_deliverCrates 105 = .ok (.getfield 12, 3) := by decide +kernel
theorem dX4_deliverCrates_108 : decode cX4_deliverCrates 108 = .ok (.iconst 4, 1) := by decide +kernel
theorem dX4_deliverCrates_109 : decode cX4_deliverCrates 109 = .ok (.iload 4, 2) := by decide +kernel
theorem dX4_deliverCrates_111 : decode cX4_deliverCrates 111 = .ok (.invokevirtual 61, 3) := by decide +kernel
theorem dX4_deliverCrates_114 : decode cX4_deliverCrates 114 = .ok (.aload_n 0, 1) := by decide +kernel
theorem dX4_deliverCrates_115 : decode cX4_deliverCrates 115 = .ok (.getfield 12, 3) := by decide +kernel
theorem dX4_deliverCrates_118 : decode cX4_deliverCrates 118 = .ok (.iload_n 2, 1) := by decide +kernel
theorem dX4_deliverCrates_119 : decode cX4_deliverCrates 119 = .ok (.iconst 5, 1) := by decide +kernel
theorem dX4_deliverCrates_120 : decode cX4_deliverCrates 120 = .ok (.iload 5, 2) := by decide +kernel
theorem dX4_deliverCrates_122 : decode cX4_deliverCrates 122 = .ok (.invokevirtual 58, 3) := by decide +kernel
theorem dX4_deliverCrates_125 : decode cX4_deliverCrates 125 = .ok (.aload_n 0, 1) := by decide +kernel
theorem dX4_deliverCrates_126 : decode cX4_deliverCrates 126 = .ok (.getfield 12, 3) := by decide +kernel
theorem dX4_deliverCrates_129 : decode cX4_deliverCrates 129 = .ok (.bipush 6, 2) := by decide +kernel
theorem dX4_deliverCrates_131 : decode cX4_deliverCrates 131 = .ok (.iload 5, 2) := by decide +kernel
theorem dX4_deliverCrates_133 : decode cX4_deliverCrates 133 = .ok (.invokevirtual 61, 3) := by decide +kernel
theorem dX4_deliverCrates_136 : decode cX4_deliverCrates 136 = .ok (.iload 4, 2) := by decide +kernel
theorem dX4_deliverCrates_138 : decode cX4_deliverCrates 138 = .ok (.iload 5, 2) := by decide +kernel
theorem dX4_deliverCrates_140 : decode cX4_deliverCrates 140 = .ok (.iadd, 1) := by decide +kernel
theorem dX4_deliverCrates_141 : decode cX4_deliverCrates 141 = .ok (.ireturn, 1) := by decide +kernel
set_option maxRecDepth 20000 in
theorem ggX4_sellBottles_X2_addToShop : GoodIn wsX4_sellBottles wsX2_addToShop := goodIn_r _ [5, 6, 7, 8, 3, 9, 10, 11, 12, 13, 14, 34] (by decide +kernel) (by decide +kernel)
set_option maxRecDepth 20000 in
theorem gX4_sellBottles_X2_addToShop_n58 : GoodIn wsX4_sellBottles (wsX2_addToShop) := ggX4_sellBottles_X2_addToShop
set_option maxRecDepth 20000 in
theorem ggX4_sellBottles_X2_addToBrand : GoodIn wsX4_sellBottles wsX2_addToBrand := goodIn_r _ [17, 6, 7, 8, 3, 9, 10, 11, 12, 13, 14, 34] (by decide +kernel) (by decide +kernel)
set_option maxRecDepth 20000 in
theorem gX4_sellBottles_X2_addToBrand_n54 : GoodIn wsX4_sellBottles (wsX2_addToBrand) := ggX4_sellBottles_X2_addToBrand
set_option maxRecDepth 20000 in
theorem ggX4_sellBottles_X4_depositOf : GoodIn wsX4_sellBottles wsX4_depositOf := goodIn_r _ [22, 1, 23, 3, 24, 25, 6, 7, 8, 9, 10, 26, 27, 28, 32, 33, 34] (by decide +kernel) (by decide +kernel)
set_option maxRecDepth 20000 in
theorem gX4_sellBottles_X4_depositOf : GoodIn wsX4_sellBottles (wsV RX4 45 RX4 yX4_depositOf wsX4_depositOf) := goodIn_app (goodIn_of _ (by decide +kernel)) ggX4_sellBottles_X4_depositOf
set_option maxRecDepth 20000 in
theorem ggX4_sellBottles_X2_ofShop : GoodIn wsX4_sellBottles wsX2_ofShop := goodIn_r _ [31, 6, 7, 8, 3, 9, 10, 34] (by decide +kernel) (by decide +kernel)
set_option maxRecDepth 20000 in
theorem gX4_sellBottles_X2_ofShop_n36 : GoodIn wsX4_sellBottles (wsX2_ofShop) := ggX4_sellBottles_X2_ofShop
theorem dX4_sellBottles_0 : decode cX4_sellBottles 0 = .ok (.aload_n 0, 1) := by decide +kernel
theorem dX4_sellBottles_1 : decode cX4_sellBottles 1 = .ok (.getfield 12, 3) := by decide +kernel
theorem dX4_sellBottles_4 : decode cX4_sellBottles 4 = .ok (.iload_n 1, 1) := by decide +kernel
theorem dX4_sellBottles_5 : decode cX4_sellBottles 5 = .ok (.bipush 10, 2) := by decide +kernel
theorem dX4_sellBottles_7 : decode cX4_sellBottles 7 = .ok (.iload_n 2, 1) := by decide +kernel
theorem dX4_sellBottles_8 : decode cX4_sellBottles 8 = .ok (.iadd, 1) := by decide +kernel
theorem dX4_sellBottles_9 : decode cX4_sellBottles 9 = .ok (.iload_n 3, 1) := by decide +kernel
theorem dX4_sellBottles_10 : decode cX4_sellBottles 10 = .ok (.ineg, 1) := by decide +kernel
theorem dX4_sellBottles_11 : decode cX4_sellBottles 11 = .ok (.invokevirtual 58, 3) := by decide +kernel
theorem dX4_sellBottles_14 : decode cX4_sellBottles 14 = .ok (.aload_n 0, 1) := by decide +kernel
theorem dX4_sellBottles_15 : decode cX4_sellBottles 15 = .ok (.getfield 12, 3) := by decide +kernel
theorem dX4_sellBottles_18 : decode cX4_sellBottles 18 = .ok (.iload_n 2, 1) := by decide +kernel
theorem dX4_sellBottles_19 : decode cX4_sellBottles 19 = .ok (.iconst 5, 1) := by decide +kernel
theorem dX4_sellBottles_20 : decode cX4_sellBottles 20 = .ok (.iload_n 3, 1) := by decide +kernel
theorem dX4_sellBottles_21 : decode cX4_sellBottles 21 = .ok (.invokevirtual 54, 3) := by decide +kernel
theorem dX4_sellBottles_24 : decode cX4_sellBottles 24 = .ok (.aload_n 0, 1) := by decide +kernel
theorem dX4_sellBottles_25 : decode cX4_sellBottles 25 = .ok (.getfield 12, 3) := by decide +kernel
theorem dX4_sellBottles_28 : decode cX4_sellBottles 28 = .ok (.iload_n 1, 1) := by decide +kernel
theorem dX4_sellBottles_29 : decode cX4_sellBottles 29 = .ok (.bipush 6, 2) := by decide +kernel
theorem dX4_sellBottles_31 : decode cX4_sellBottles 31 = .ok (.iload_n 3, 1) := by decide +kernel
theorem dX4_sellBottles_32 : decode cX4_sellBottles 32 = .ok (.invokevirtual 58, 3) := by decide +kernel
theorem dX4_sellBottles_35 : decode cX4_sellBottles 35 = .ok (.aload_n 0, 1) := by decide +kernel
theorem dX4_sellBottles_36 : decode cX4_sellBottles 36 = .ok (.getfield 12, 3) := by decide +kernel
theorem dX4_sellBottles_39 : decode cX4_sellBottles 39 = .ok (.iload_n 1, 1) := by decide +kernel
theorem dX4_sellBottles_40 : decode cX4_sellBottles 40 = .ok (.iconst 0, 1) := by decide +kernel
theorem dX4_sellBottles_41 : decode cX4_sellBottles 41 = .ok (.iload_n 3, 1) := by decide +kernel
theorem dX4_sellBottles_42 : decode cX4_sellBottles 42 = .ok (.aload_n 0, 1) := by decide +kernel
theorem dX4_sellBottles_43 : decode cX4_sellBottles 43 = .ok (.iload_n 2, 1) := by decide +kernel
theorem dX4_sellBottles_44 : decode cX4_sellBottles 44 = .ok (.invokevirtual 45, 3) := by decide +kernel
theorem dX4_sellBottles_47 : decode cX4_sellBottles 47 = .ok (.imul, 1) := by decide +kernel
theorem dX4_sellBottles_48 : decode cX4_sellBottles 48 = .ok (.invokevirtual 58, 3) := by decide +kernel
theorem dX4_sellBottles_51 : decode cX4_sellBottles 51 = .ok (.aload_n 0, 1) := by decide +kernel
theorem dX4_sellBottles_52 : decode cX4_sellBottles 52 = .ok (.getfield 12, 3) := by decide +kernel
theorem dX4_sellBottles_55 : decode cX4_sellBottles 55 = .ok (.iload_n 1, 1) := by decide +kernel
theorem dX4_sellBottles_56 : decode cX4_sellBottles 56 = .ok (.iconst 0, 1) := by decide +kernel
theorem dX4_sellBottles_57 : decode cX4_sellBottles 57 = .ok (.invokevirtual 36, 3) := by decide +kernel
theorem dX4_sellBottles_60 : decode cX4_sellBottles 60 = .ok (.ireturn, 1) := by decide +kernel
set_option maxRecDepth 20000 in
theorem ggX4_returnBottles_X2_addToBrand : GoodIn wsX4_returnBottles wsX2_addToBrand := goodIn_r _ [5, 6, 7, 8, 3, 9, 10, 11, 12, 13, 14, 34] (by decide +kernel) (by decide +kernel)
set_option maxRecDepth 20000 in
theorem gX4_returnBottles_X2_addToBrand_n54 : GoodIn wsX4_returnBottles (wsX2_addToBrand) := ggX4_returnBottles_X2_addToBrand
set_option maxRecDepth 20000 in
theorem ggX4_returnBottles_X2_addToShop : GoodIn wsX4_returnBottles wsX2_addToShop := goodIn_r _ [17, 6, 7, 8, 3, 9, 10, 11, 12, 13, 14, 34] (by decide +kernel) (by decide +kernel)
set_option maxRecDepth 20000 in
theorem gX4_returnBottles_X2_addToShop_n58 : GoodIn wsX4_returnBottles (wsX2_addToShop) := ggX4_returnBottles_X2_addToShop
set_option maxRecDepth 20000 in
theorem ggX4_returnBottles_X4_depositOf : GoodIn wsX4_returnBottles wsX4_depositOf := goodIn_r _ [22, 1, 23, 3, 24, 25, 6, 7, 8, 9, 10, 26, 27, 28, 32, 33, 34] (by decide +kernel) (by decide +kernel)
set_option maxRecDepth 20000 in
theorem gX4_returnBottles_X4_depositOf : GoodIn wsX4_returnBottles (wsV RX4 45 RX4 yX4_depositOf wsX4_depositOf) := goodIn_app (goodIn_of _ (by decide +kernel)) ggX4_returnBottles_X4_depositOf
set_option maxRecDepth 20000 in
theorem ggX4_returnBottles_X2_ofShop : GoodIn wsX4_returnBottles wsX2_ofShop := goodIn_r _ [31, 6, 7, 8, 3, 9, 10, 34] (by decide +kernel) (by decide +kernel)
set_option maxRecDepth 20000 in
theorem gX4_returnBottles_X2_ofShop_n36 : GoodIn wsX4_returnBottles (wsX2_ofShop) := ggX4_returnBottles_X2_ofShop
theorem dX4_returnBottles_0 : decode cX4_returnBottles 0 = .ok (.aload_n 0, 1) := by decide +kernel
theorem dX4_returnBottles_1 : decode cX4_returnBottles 1 = .ok (.getfield 12, 3) := by decide +kernel
theorem dX4_returnBottles_4 : decode cX4_returnBottles 4 = .ok (.iload_n 2, 1) := by decide +kernel
theorem dX4_returnBottles_5 : decode cX4_returnBottles 5 = .ok (.iconst 5, 1) := by decide +kernel
theorem dX4_returnBottles_6 : decode cX4_returnBottles 6 = .ok (.iload_n 3, 1) := by decide +kernel
theorem dX4_returnBottles_7 : decode cX4_returnBottles 7 = .ok (.ineg, 1) := by decide +kernel
theorem dX4_returnBottles_8 : decode cX4_returnBottles 8 = .ok (.invokevirtual 54, 3) := by decide +kernel
theorem dX4_returnBottles_11 : decode cX4_returnBottles 11 = .ok (.aload_n 0, 1) := by decide +kernel
theorem dX4_returnBottles_12 : decode cX4_returnBottles 12 = .ok (.getfield 12, 3) := by decide +kernel
theorem dX4_returnBottles_15 : decode cX4_returnBottles 15 = .ok (.iload_n 1, 1) := by decide +kernel
theorem dX4_returnBottles_16 : decode cX4_returnBottles 16 = .ok (.bipush 20, 2) := by decide +kernel
theorem dX4_returnBottles_18 : decode cX4_returnBottles 18 = .ok (.iload_n 2, 1) := by decide +kernel
theorem dX4_returnBottles_19 : decode cX4_returnBottles 19 = .ok (.iadd, 1) := by decide +kernel
theorem dX4_returnBottles_20 : decode cX4_returnBottles 20 = .ok (.iload_n 3, 1) := by decide +kernel
theorem dX4_returnBottles_21 : decode cX4_returnBottles 21 = .ok (.invokevirtual 58, 3) := by decide +kernel
theorem dX4_returnBottles_24 : decode cX4_returnBottles 24 = .ok (.aload_n 0, 1) := by decide +kernel
theorem dX4_returnBottles_25 : decode cX4_returnBottles 25 = .ok (.getfield 12, 3) := by decide +kernel
theorem dX4_returnBottles_28 : decode cX4_returnBottles 28 = .ok (.iload_n 1, 1) := by decide +kernel
theorem dX4_returnBottles_29 : decode cX4_returnBottles 29 = .ok (.bipush 6, 2) := by decide +kernel
theorem dX4_returnBottles_31 : decode cX4_returnBottles 31 = .ok (.iload_n 3, 1) := by decide +kernel
theorem dX4_returnBottles_32 : decode cX4_returnBottles 32 = .ok (.ineg, 1) := by decide +kernel
theorem dX4_returnBottles_33 : decode cX4_returnBottles 33 = .ok (.invokevirtual 58, 3) := by decide +kernel
theorem dX4_returnBottles_36 : decode cX4_returnBottles 36 = .ok (.aload_n 0, 1) := by decide +kernel
theorem dX4_returnBottles_37 : decode cX4_returnBottles 37 = .ok (.getfield 12, 3) := by decide +kernel
theorem dX4_returnBottles_40 : decode cX4_returnBottles 40 = .ok (.iload_n 1, 1) := by decide +kernel
theorem dX4_returnBottles_41 : decode cX4_returnBottles 41 = .ok (.iconst 0, 1) := by decide +kernel
theorem dX4_returnBottles_42 : decode cX4_returnBottles 42 = .ok (.iload_n 3, 1) := by decide +kernel
theorem dX4_returnBottles_43 : decode cX4_returnBottles 43 = .ok (.ineg, 1) := by decide +kernel
theorem dX4_returnBottles_44 : decode cX4_returnBottles 44 = .ok (.aload_n 0, 1) := by decide +kernel
theorem dX4_returnBottles_45 : decode cX4_returnBottles 45 = .ok (.iload_n 2, 1) := by decide +kernel
theorem dX4_returnBottles_46 : decode cX4_returnBottles 46 = .ok (.invokevirtual 45, 3) := by decide +kernel
theorem dX4_returnBottles_49 : decode cX4_returnBottles 49 = .ok (.imul, 1) := by decide +kernel
theorem dX4_returnBottles_50 : decode cX4_returnBottles 50 = .ok (.invokevirtual 58, 3) := by decide +kernel
theorem dX4_returnBottles_53 : decode cX4_returnBottles 53 = .ok (.aload_n 0, 1) := by decide +kernel
theorem dX4_returnBottles_54 : decode cX4_returnBottles 54 = .ok (.getfield 12, 3) := by decide +kernel
theorem dX4_returnBottles_57 : decode cX4_returnBottles 57 = .ok (.iload_n 1, 1) := by decide +kernel
theorem dX4_returnBottles_58 : decode cX4_returnBottles 58 = .ok (.iconst 0, 1) := by decide +kernel
theorem dX4_returnBottles_59 : decode cX4_returnBottles 59 = .ok (.invokevirtual 36, 3) := by decide +kernel
theorem dX4_returnBottles_62 : decode cX4_returnBottles 62 = .ok (.ireturn, 1) := by decide +kernel
set_option maxRecDepth 20000 in
theorem ggX4_breakBottles_X4_depositOf : GoodIn wsX4_breakBottles wsX4_depositOf := goodIn_r _ [10, 1, 11, 12, 13, 14, 15, 16, 17, 18, 19, 20, 21, 22, 39, 40, 41] (by decide +kernel) (by decide +kernel)
set_option maxRecDepth 20000 in
theorem gX4_breakBottles_X4_depositOf : GoodIn wsX4_breakBottles (wsV RX4 45 RX4 yX4_depositOf wsX4_depositOf) := goodIn_app (goodIn_of _ (by decide +kernel)) ggX4_breakBottles_X4_depositOf
set_option maxRecDepth 20000 in
theorem ggX4_breakBottles_X2_ofAll : GoodIn wsX4_breakBottles wsX2_ofAll := goodIn_r _ [25, 15, 16, 17, 12, 18, 19, 41] (by decide +kernel) (by decide +kernel)
set_option maxRecDepth 20000 in
theorem gX4_breakBottles_X2_ofAll_n33 : GoodIn wsX4_breakBottles (wsX2_ofAll) := ggX4_breakBottles_X2_ofAll
set_option maxRecDepth 20000 in
theorem ggX4_breakBottles_X2_addToShop : GoodIn wsX4_breakBottles wsX2_addToShop := goodIn_r _ [28, 15, 16, 17, 12, 18, 19, 29, 30, 31, 32, 41] (by decide +kernel) (by decide +kernel)
set_option maxRecDepth 20000 in
theorem gX4_breakBottles_X2_addToShop_n58 : GoodIn wsX4_breakBottles (wsX2_addToShop) := ggX4_breakBottles_X2_addToShop
set_option maxRecDepth 20000 in
theorem ggX4_breakBottles_X2_addToBrand : GoodIn wsX4_breakBottles wsX2_addToBrand := goodIn_r _ [35, 15, 16, 17, 12, 18, 19, 29, 30, 31, 32, 41] (by decide +kernel) (by decide +kernel)
set_option maxRecDepth 20000 in
theorem gX4_breakBottles_X2_addToBrand_n54 : GoodIn wsX4_breakBottles (wsX2_addToBrand) := ggX4_breakBottles_X2_addToBrand
set_option maxRecDepth 20000 in
theorem ggX4_breakBottles_X2_addToAll : GoodIn wsX4_breakBottles wsX2_addToAll := goodIn_r _ [38, 15, 16, 17, 12, 18, 19, 29, 30, 31, 32, 41] (by decide +kernel) (by decide +kernel)
set_option maxRecDepth 20000 in
theorem gX4_breakBottles_X2_addToAll_n61 : GoodIn wsX4_breakBottles (wsX2_addToAll) := ggX4_breakBottles_X2_addToAll
theorem dX4_breakBottles_0 : decode cX4_breakBottles 0 = .ok (.iload_n 3, 1) := by decide +kernel
theorem dX4_breakBottles_1 : decode cX4_breakBottles 1 = .ok (.aload_n 0, 1) := by decide +kernel
theorem dX4_breakBottles_2 : decode cX4_breakBottles 2 = .ok (.iload_n 2, 1) := by decide +kernel
theorem dX4_breakBottles_3 : decode cX4_breakBottles 3 = .ok (.invokevirtual 45, 3) := by decide +kernel
theorem dX4_breakBottles_6 : decode cX4_breakBottles 6 = .ok (.imul, 1) := by decide +kernel
theorem dX4_breakBottles_7 : decode cX4_breakBottles 7 = .ok (.istore 4, 2) := by decide +kernel
theorem dX4_breakBottles_9 : decode cX4_breakBottles 9 = .ok (.iload 4, 2) := by decide +kernel
theorem dX4_breakBottles_11 : decode cX4_breakBottles 11 = .ok (.aload_n 0, 1) := by decide +kernel
theorem dX4_breakBottles_12 : decode cX4_breakBottles 12 = .ok (.getfield 12, 3) := by decide +kernel
theorem dX4_breakBottles_15 : decode cX4_breakBottles 15 = .ok (.bipush 6, 2) := by decide +kernel
theorem dX4_breakBottles_17 : decode cX4_breakBottles 17 = .ok (.invokevirtual 33, 3) := by decide +kernel
theorem dX4_breakBottles_20 : decode cX4_breakBottles 20 = .ok (.invokestatic 65, 3) := by decide +kernel
theorem dX4_breakBottles_23 : decode cX4_breakBottles 23 = .ok (.istore 5, 2) := by decide +kernel
theorem dX4_breakBottles_25 : decode cX4_breakBottles 25 = .ok (.aload_n 0, 1) := by decide +kernel
theorem dX4_breakBottles_26 : decode cX4_breakBottles 26 = .ok (.getfield 12, 3) := by decide +kernel
theorem dX4_breakBottles_29 : decode cX4_breakBottles 29 = .ok (.iload_n 1, 1) := by decide +kernel
theorem dX4_breakBottles_30 : decode cX4_breakBottles 30 = .ok (.bipush 20, 2) := by decide +kernel
theorem dX4_breakBottles_32 : decode cX4_breakBottles 32 = .ok (.iload_n 2, 1) := by decide +kernel
theorem dX4_breakBottles_33 : decode cX4_breakBottles 33 = .ok (.iadd, 1) := by decide +kernel
theorem dX4_breakBottles_34 : decode cX4_breakBottles 34 = .ok (.iload_n 3, 1) := by decide +kernel
theorem dX4_breakBottles_35 : decode cX4_breakBottles 35 = .ok (.ineg, 1) := by decide +kernel
theorem dX4_breakBottles_36 : decode cX4_breakBottles 36 = .ok (.invokevirtual 58, 3) := by decide +kernel
theorem dX4_breakBottles_39 : decode cX4_breakBottles 39 = .ok (.aload_n 0, 1) := by decide +kernel
theorem dX4_breakBottles_40 : decode cX4_breakBottles 40 = .ok (.getfield 12, 3) := by decide +kernel
theorem dX4_breakBottles_43 : decode cX4_breakBottles 43 = .ok (.iload_n 2, 1) := by decide +kernel
theorem dX4_breakBottles_44 : decode cX4_breakBottles 44 = .ok (.bipush 7, 2) := by decide +kernel
theorem dX4_breakBottles_46 : decode cX4_breakBottles 46 = .ok (.iload_n 3, 1) := by decide +kernel
theorem dX4_breakBottles_47 : decode cX4_breakBottles 47 = .ok (.invokevirtual 54, 3) := by decide +kernel
theorem dX4_breakBottles_50 : decode cX4_breakBottles 50 = .ok (.aload_n 0, 1) := by decide +kernel
theorem dX4_breakBottles_51 : decode cX4_breakBottles 51 = .ok (.getfield 12, 3) := by decide +kernel
theorem dX4_breakBottles_54 : decode cX4_breakBottles 54 = .ok (.iconst 5, 1) := by decide +kernel
theorem dX4_breakBottles_55 : decode cX4_breakBottles 55 = .ok (.iload 4, 2) := by decide +kernel
theorem dX4_breakBottles_57 : decode cX4_breakBottles 57 = .ok (.invokevirtual 61, 3) := by decide +kernel
theorem dX4_breakBottles_60 : decode cX4_breakBottles 60 = .ok (.aload_n 0, 1) := by decide +kernel
theorem dX4_breakBottles_61 : decode cX4_breakBottles 61 = .ok (.getfield 12, 3) := by decide +kernel
theorem dX4_breakBottles_64 : decode cX4_breakBottles 64 = .ok (.bipush 6, 2) := by decide +kernel
theorem dX4_breakBottles_66 : decode cX4_breakBottles 66 = .ok (.iload 5, 2) := by decide +kernel
theorem dX4_breakBottles_68 : decode cX4_breakBottles 68 = .ok (.ineg, 1) := by decide +kernel
theorem dX4_breakBottles_69 : decode cX4_breakBottles 69 = .ok (.invokevirtual 61, 3) := by decide +kernel
theorem dX4_breakBottles_72 : decode cX4_breakBottles 72 = .ok (.aload_n 0, 1) := by decide +kernel
theorem dX4_breakBottles_73 : decode cX4_breakBottles 73 = .ok (.getfield 12, 3) := by decide +kernel
theorem dX4_breakBottles_76 : decode cX4_breakBottles 76 = .ok (.iload_n 1, 1) := by decide +kernel
theorem dX4_breakBottles_77 : decode cX4_breakBottles 77 = .ok (.iconst 5, 1) := by decide +kernel
theorem dX4_breakBottles_78 : decode cX4_breakBottles 78 = .ok (.iload 5, 2) := by decide +kernel
theorem dX4_breakBottles_80 : decode cX4_breakBottles 80 = .ok (.ineg, 1) := by decide +kernel
theorem dX4_breakBottles_81 : decode cX4_breakBottles 81 = .ok (.invokevirtual 58, 3) := by decide +kernel
theorem dX4_breakBottles_84 : decode cX4_breakBottles 84 = .ok (.aload_n 0, 1) := by decide +kernel
theorem dX4_breakBottles_85 : decode cX4_breakBottles 85 = .ok (.getfield 12, 3) := by decide +kernel
theorem dX4_breakBottles_88 : decode cX4_breakBottles 88 = .ok (.iload_n 1, 1) := by decide +kernel
theorem dX4_breakBottles_89 : decode cX4_breakBottles 89 = .ok (.iconst 0, 1) := by decide +kernel
theorem dX4_breakBottles_90 : decode cX4_breakBottles 90 = .ok (.iload 5, 2) := by decide +kernel
theorem dX4_breakBottles_92 : decode cX4_breakBottles 92 = .ok (.invokevirtual 58, 3) := by decide +kernel
theorem dX4_breakBottles_95 : decode cX4_breakBottles 95 = .ok (.iload 5, 2) := by decide +kernel
theorem dX4_breakBottles_97 : decode cX4_breakBottles 97 = .ok (.ireturn, 1) := by decide +kernel
set_option maxRecDepth 20000 in
theorem ggX4_loseBottles_X2_addToBrand : GoodIn wsX4_loseBottles wsX2_addToBrand := goodIn_r _ [5, 6, 7, 8, 3, 9, 10, 11, 12, 13, 14, 31] (by decide +kernel) (by decide +kernel)
set_option maxRecDepth 20000 in
theorem gX4_loseBottles_X2_addToBrand_n54 : GoodIn wsX4_loseBottles (wsX2_addToBrand) := ggX4_loseBottles_X2_addToBrand
set_option maxRecDepth 20000 in
theorem ggX4_loseBottles_X4_depositOf : GoodIn wsX4_loseBottles wsX4_depositOf := goodIn_r _ [19, 1, 20, 3, 21, 22, 6, 7, 8, 9, 10, 23, 24, 25, 29, 30, 31] (by decide +kernel) (by decide +kernel)
set_option maxRecDepth 20000 in
theorem gX4_loseBottles_X4_depositOf : GoodIn wsX4_loseBottles (wsV RX4 45 RX4 yX4_depositOf wsX4_depositOf) := goodIn_app (goodIn_of _ (by decide +kernel)) ggX4_loseBottles_X4_depositOf
set_option maxRecDepth 20000 in
theorem ggX4_loseBottles_X2_addToAll : GoodIn wsX4_loseBottles wsX2_addToAll := goodIn_r _ [28, 6, 7, 8, 3, 9, 10, 11, 12, 13, 14, 31] (by decide +kernel) (by decide +kernel)
set_option maxRecDepth 20000 in
theorem gX4_loseBottles_X2_addToAll_n61 : GoodIn wsX4_loseBottles (wsX2_addToAll) := ggX4_loseBottles_X2_addToAll
set_option maxRecDepth 20000 in
theorem ggX4_loseBottles_X2_ofBrand : GoodIn wsX4_loseBottles wsX2_ofBrand := goodIn_r _ [22, 6, 7, 8, 3, 9, 10, 31] (by decide +kernel) (by decide +kernel)
set_option maxRecDepth 20000 in
theorem gX4_loseBottles_X2_ofBrand_n22 : GoodIn wsX4_loseBottles (wsX2_ofBrand) := ggX4_loseBottles_X2_ofBrand
theorem dX4_loseBottles_0 : decode cX4_loseBottles 0 = .ok (.aload_n 0, 1) := by decide +kernel
theorem dX4_loseBottles_1 : decode cX4_loseBottles 1 = .ok (.getfield 12, 3) := by decide +kernel
theorem dX4_loseBottles_4 : decode cX4_loseBottles 4 = .ok (.iload_n 1, 1) := by decide +kernel
theorem dX4_loseBottles_5 : decode cX4_loseBottles 5 = .ok (.iconst 5, 1) := by decide +kernel
theorem dX4_loseBottles_6 : decode cX4_loseBottles 6 = .ok (.iload_n 2, 1) := by decide +kernel
theorem dX4_loseBottles_7 : decode cX4_loseBottles 7 = .ok (.ineg, 1) := by decide +kernel
theorem dX4_loseBottles_8 : decode cX4_loseBottles 8 = .ok (.invokevirtual 54, 3) := by decide +kernel
theorem dX4_loseBottles_11 : decode cX4_loseBottles 11 = .ok (.aload_n 0, 1) := by decide +kernel
theorem dX4_loseBottles_12 : decode cX4_loseBottles 12 = .ok (.getfield 12, 3) := by decide +kernel
theorem dX4_loseBottles_15 : decode cX4_loseBottles 15 = .ok (.iload_n 1, 1) := by decide +kernel
theorem dX4_loseBottles_16 : decode cX4_loseBottles 16 = .ok (.bipush 8, 2) := by decide +kernel
theorem dX4_loseBottles_18 : decode cX4_loseBottles 18 = .ok (.iload_n 2, 1) := by decide +kernel
theorem dX4_loseBottles_19 : decode cX4_loseBottles 19 = .ok (.invokevirtual 54, 3) := by decide +kernel
theorem dX4_loseBottles_22 : decode cX4_loseBottles 22 = .ok (.aload_n 0, 1) := by decide +kernel
theorem dX4_loseBottles_23 : decode cX4_loseBottles 23 = .ok (.getfield 12, 3) := by decide +kernel
theorem dX4_loseBottles_26 : decode cX4_loseBottles 26 = .ok (.iconst 5, 1) := by decide +kernel
theorem dX4_loseBottles_27 : decode cX4_loseBottles 27 = .ok (.iload_n 2, 1) := by decide +kernel
theorem dX4_loseBottles_28 : decode cX4_loseBottles 28 = .ok (.aload_n 0, 1) := by decide +kernel
theorem dX4_loseBottles_29 : decode cX4_loseBottles 29 = .ok (.iload_n 1, 1) := by decide +kernel
theorem dX4_loseBottles_30 : decode cX4_loseBottles 30 = .ok (.invokevirtual 45, 3) := by decide +kernel
theorem dX4_loseBottles_33 : decode cX4_loseBottles 33 = .ok (.imul, 1) := by decide +kernel
theorem dX4_loseBottles_34 : decode cX4_loseBottles 34 = .ok (.invokevirtual 61, 3) := by decide +kernel
theorem dX4_loseBottles_37 : decode cX4_loseBottles 37 = .ok (.aload_n 0, 1) := by decide +kernel
theorem dX4_loseBottles_38 : decode cX4_loseBottles 38 = .ok (.getfield 12, 3) := by decide +kernel
theorem dX4_loseBottles_41 : decode cX4_loseBottles 41 = .ok (.iload_n 1, 1) := by decide +kernel
theorem dX4_loseBottles_42 : decode cX4_loseBottles 42 = .ok (.iconst 5, 1) := by decide +kernel
theorem dX4_loseBottles_43 : decode cX4_loseBottles 43 = .ok (.invokevirtual 22, 3) := by decide +kernel
theorem dX4_loseBottles_46 : decode cX4_loseBottles 46 = .ok (.ireturn, 1) := by decide +kernel
set_option maxRecDepth 20000 in
theorem ggX4_collectCrates_X4_crateDeposits : GoodIn wsX4_collectCrates wsX4_crateDeposits := goodIn_r _ [6, 1, 7, 8, 9, 10, 11, 12, 13, 14, 15, 51, 52, 53] (by decide +kernel) (by decide +kernel)
set_option maxRecDepth 20000 in
theorem gX4_collectCrates_X4_crateDeposits : GoodIn wsX4_collectCrates (wsV RX4 30 RX4 yX4_crateDeposits wsX4_crateDeposits) := goodIn_app (goodIn_of _ (by decide +kernel)) ggX4_collectCrates_X4_crateDeposits
set_option maxRecDepth 20000 in
theorem ggX4_collectCrates_X4_pickEmpties : GoodIn wsX4_collectCrates wsX4_pickEmpties := goodIn_r _ [19, 20, 1, 21, 8, 22, 23, 11, 12, 13, 14, 15, 24, 25, 26, 27, 28, 29, 5, 30, 51, 52, 53] (by decide +kernel) (by decide +kernel)
set_option maxRecDepth 20000 in
theorem gX4_collectCrates_X4_pickEmpties : GoodIn wsX4_collectCrates (wsV RX4 70 RX4 yX4_pickEmpties wsX4_pickEmpties) := goodIn_app (goodIn_of _ (by decide +kernel)) ggX4_collectCrates_X4_pickEmpties
set_option maxRecDepth 20000 in
theorem ggX4_collectCrates_X2_ofBrand : GoodIn wsX4_collectCrates wsX2_ofBrand := goodIn_r _ [23, 11, 12, 13, 8, 14, 15, 53] (by decide +kernel) (by decide +kernel)
set_option maxRecDepth 20000 in
theorem gX4_collectCrates_X2_ofBrand_n22 : GoodIn wsX4_collectCrates (wsX2_ofBrand) := ggX4_collectCrates_X2_ofBrand
set_option maxRecDepth 20000 in
theorem ggX4_collectCrates_X4_pickedOf : GoodIn wsX4_collectCrates wsX4_pickedOf := goodIn_r _ [34, 1, 20, 24, 8, 25, 26, 11, 12, 13, 14, 15, 35, 36, 37, 51, 52, 53] (by decide +kernel) (by decide +kernel)
set_option maxRecDepth 20000 in
theorem gX4_collectCrates_X4_pickedOf : GoodIn wsX4_collectCrates (wsV RX4 73 RX4 yX4_pickedOf wsX4_pickedOf) := goodIn_app (goodIn_of _ (by decide +kernel)) ggX4_collectCrates_X4_pickedOf
set_option maxRecDepth 20000 in
theorem ggX4_collectCrates_X2_addToShop : GoodIn wsX4_collectCrates wsX2_addToShop := goodIn_r _ [40, 11, 12, 13, 8, 14, 15, 41, 42, 43, 44, 53] (by decide +kernel) (by decide +kernel)
set_option maxRecDepth 20000 in
theorem gX4_collectCrates_X2_addToShop_n58 : GoodIn wsX4_collectCrates (wsX2_addToShop) := ggX4_collectCrates_X2_addToShop
set_option maxRecDepth 20000 in
theorem ggX4_collectCrates_X2_addToBrand : GoodIn wsX4_collectCrates wsX2_addToBrand := goodIn_r _ [47, 11, 12, 13, 8, 14, 15, 41, 42, 43, 44, 53] (by decide +kernel) (by decide +kernel)
set_option maxRecDepth 20000 in
theorem gX4_collectCrates_X2_addToBrand_n54 : GoodIn wsX4_collectCrates (wsX2_addToBrand) := ggX4_collectCrates_X2_addToBrand
set_option maxRecDepth 20000 in
theorem ggX4_collectCrates_X2_addToAll : GoodIn wsX4_collectCrates wsX2_addToAll := goodIn_r _ [50, 11, 12, 13, 8, 14, 15, 41, 42, 43, 44, 53] (by decide +kernel) (by decide +kernel)
set_option maxRecDepth 20000 in
theorem gX4_collectCrates_X2_addToAll_n61 : GoodIn wsX4_collectCrates (wsX2_addToAll) := ggX4_collectCrates_X2_addToAll
theorem dX4_collectCrates_0 : decode cX4_collectCrates 0 = .ok (.iload_n 3, 1) := by decide +kernel
theorem dX4_collectCrates_1 : decode cX4_collectCrates 1 = .ok (.aload_n 0, 1) := by decide +kernel
theorem dX4_collectCrates_2 : decode cX4_collectCrates 2 = .ok (.iload_n 2, 1) := by decide +kernel
theorem dX4_collectCrates_3 : decode cX4_collectCrates 3 = .ok (.invokevirtual 30, 3) := by decide +kernel
theorem dX4_collectCrates_6 : decode cX4_collectCrates 6 = .ok (.imul, 1) := by decide +kernel
theorem dX4_collectCrates_7 : decode cX4_collectCrates 7 = .ok (.istore 4, 2) := by decide +kernel
theorem dX4_collectCrates_9 : decode cX4_collectCrates 9 = .ok (.aload_n 0, 1) := by decide +kernel
theorem dX4_collectCrates_10 : decode cX4_collectCrates 10 = .ok (.iload_n 1, 1) := by decide +kernel
theorem dX4_collectCrates_11 : decode cX4_collectCrates 11 = .ok (.iload_n 2, 1) := by decide +kernel
theorem dX4_collectCrates_12 : decode cX4_collectCrates 12 = .ok (.bipush 12, 2) := by decide +kernel
theorem dX4_collectCrates_14 : decode cX4_collectCrates 14 = .ok (.iload_n 3, 1) := by decide +kernel
theorem dX4_collectCrates_15 : decode cX4_collectCrates 15 = .ok (.imul, 1) := by decide +kernel
theorem dX4_collectCrates_16 : decode cX4_collectCrates 16 = .ok (.invokevirtual 70, 3) := by decide +kernel
theorem dX4_collectCrates_19 : decode cX4_collectCrates 19 = .ok (.iconst 0, 1) := by decide +kernel
theorem dX4_collectCrates_20 : decode cX4_collectCrates 20 = .ok (.istore 5, 2) := by decide +kernel
theorem dX4_collectCrates_22 : decode cX4_collectCrates 22 = .ok (.iload 5, 2) := by decide +kernel
theorem dX4_collectCrates_24 : decode cX4_collectCrates 24 = .ok (.bipush 8, 2) := by decide +kernel
theorem dX4_collectCrates_26 : decode cX4_collectCrates 26 = .ok (.if_icmp .ge 61, 3) := by decide +kernel
theorem dX4_collectCrates_29 : decode cX4_collectCrates 29 = .ok (.aload_n 0, 1) := by decide +kernel
theorem dX4_collectCrates_30 : decode cX4_collectCrates 30 = .ok (.getfield 12, 3) := by decide +kernel
theorem dX4_collectCrates_33 : decode cX4_collectCrates 33 = .ok (.iload 5, 2) := by decide +kernel
theorem dX4_collectCrates_35 : decode cX4_collectCrates 35 = .ok (.iconst 0, 1) := by decide +kernel
theorem dX4_collectCrates_36 : decode cX4_collectCrates 36 = .ok (.invokevirtual 22, 3) := by decide +kernel
theorem dX4_collectCrates_39 : decode cX4_collectCrates 39 = .ok (.iload_n 2, 1) := by decide +kernel
theorem dX4_collectCrates_40 : decode cX4_collectCrates 40 = .ok (.if_icmp .ne 41, 3) := by decide +kernel
theorem dX4_collectCrates_43 : decode cX4_collectCrates 43 = .ok (.aload_n 0, 1) := by decide +kernel
theorem dX4_collectCrates_44 : decode cX4_collectCrates 44 = .ok (.iload_n 1, 1) := by decide +kernel
theorem dX4_collectCrates_45 : decode cX4_collectCrates 45 = .ok (.iload 5, 2) := by decide +kernel
theorem dX4_collectCrates_47 : decode cX4_collectCrates 47 = .ok (.invokevirtual 73, 3) := by decide +kernel
theorem dX4_collectCrates_50 : decode cX4_collectCrates 50 = .ok (.istore 6, 2) := by decide +kernel
theorem dX4_collectCrates_52 : decode cX4_collectCrates 52 = .ok (.aload_n 0, 1) := by decide +kernel
theorem dX4_collectCrates_53 : decode cX4_collectCrates 53 = .ok (.getfield 12, 3) := by decide +kernel
theorem dX4_collectCrates_56 : decode cX4_collectCrates 56 = .ok (.iload_n 1, 1) := by decide +kernel
theorem dX4_collectCrates_57 : decode cX4_collectCrates 57 = .ok (.bipush 20, 2) := by decide +kernel
theorem dX4_collectCrates_59 : decode cX4_collectCrates 59 = .ok (.iload 5, 2) := by decide +kernel
theorem dX4_collectCrates_61 : decode cX4_collectCrates 61 = .ok (.iadd, 1) := by decide +kernel
theorem dX4_collectCrates_62 : decode cX4_collectCrates 62 = .ok (.iload 6, 2) := by decide +kernel
theorem dX4_collectCrates_64 : decode cX4_collectCrates 64 = .ok (.ineg, 1) := by decide +kernel
theorem dX4_collectCrates_65 : decode cX4_collectCrates 65 = .ok (.invokevirtual 58, 3) := by decide +kernel
theorem dX4_collectCrates_68 : decode cX4_collectCrates 68 = .ok (.aload_n 0, 1) := by decide +kernel
theorem dX4_collectCrates_69 : decode cX4_collectCrates 69 = .ok (.getfield 12, 3) := by decide +kernel
theorem dX4_collectCrates_72 : decode cX4_collectCrates 72 = .ok (.iload 5, 2) := by decide +kernel
theorem dX4_collectCrates_74 : decode cX4_collectCrates 74 = .ok (.bipush 6, 2) := by decide +kernel
theorem dX4_collectCrates_76 : decode cX4_collectCrates 76 = .ok (.iload 6, 2) := by decide +kernel
theorem dX4_collectCrates_78 : decode cX4_collectCrates 78 = .ok (.invokevirtual 54, 3) := by decide +kernel
theorem dX4_collectCrates_81 : decode cX4_collectCrates 81 = .ok (.iinc 5 1, 3) := by decide +kernel
theorem dX4_collectCrates_84 : decode cX4_collectCrates 84 = .ok (.goto (-62), 3) := by decide +kernel
theorem dX4_collectCrates_87 : decode cX4_collectCrates 87 = .ok (.aload_n 0, 1) := by decide +kernel
theorem dX4_collectCrates_88 : decode cX4_collectCrates 88 = .ok (.getfield 12, 3) := by decide +kernel
theorem dX4_collectCrates_91 : decode cX4_collectCrates 91 = .ok (.iload_n 1, 1) := by decide +kernel
theorem dX4_collectCrates_92 : decode cX4_collectCrates 92 = .ok (.iconst 1, 1) := by decide +kernel
theorem dX4_collectCrates_93 : decode cX4_collectCrates 93 = .ok (.iload_n 3, 1) := by decide +kernel
theorem dX4_collectCrates_94 : decode cX4_collectCrates 94 = .ok (.ineg, 1) := by decide +kernel
theorem dX4_collectCrates_95 : decode cX4_collectCrates 95 = .ok (.invokevirtual 58, 3) := by decide +kernel
theorem dX4_collectCrates_98 : decode cX4_collectCrates 98 = .ok (.aload_n 0, 1) := by decide +kernel
theorem dX4_collectCrates_99 : decode cX4_collectCrates 99 = .ok (.getfield 12, 3) := by decide +kernel
theorem dX4_collectCrates_102 : decode cX4_collectCrates 102 = .ok (.iconst 2, 1) := by decide +kernel
theorem dX4_collectCrates_103 : decode cX4_collectCrates 103 = .ok (.iload_n 3, 1) := by decide +kernel
theorem dX4_collectCrates_104 : decode cX4_collectCrates 104 = .ok (.invokevirtual 61, 3) := by decide +kernel
theorem dX4_collectCrates_107 : decode cX4_collectCrates 107 = .ok (.aload_n 0, 1) := by decide +kernel
theorem dX4_collectCrates_108 : decode cX4_collectCrates 108 = .ok (.getfield 12, 3) := by decide +kernel
theorem dX4_collectCrates_111 : decode cX4_collectCrates 111 = .ok (.iload_n 1, 1) := by decide +kernel
theorem dX4_collectCrates_112 : decode cX4_collectCrates 112 = .ok (.iconst 0, 1) := by decide +kernel
theorem dX4_collectCrates_113 : decode cX4_collectCrates 113 = .ok (.iload 4, 2) := by decide +kernel
theorem dX4_collectCrates_115 : decode cX4_collectCrates 115 = .ok (.invokevirtual 58, 3) := by decide +kernel
theorem dX4_collectCrates_118 : decode cX4_collectCrates 118 = .ok (.aload_n 0, 1) := by decide +kernel
theorem dX4_collectCrates_119 : decode cX4_collectCrates 119 = .ok (.getfield 12, 3) := by decide +kernel
theorem dX4_collectCrates_122 : decode cX4_collectCrates 122 = .ok (.iload_n 1, 1) := by decide +kernel
theorem dX4_collectCrates_123 : decode cX4_collectCrates 123 = .ok (.iconst 4, 1) := by decide +kernel
theorem dX4_collectCrates_124 : decode cX4_collectCrates 124 = .ok (.iload 4, 2) := by decide +kernel
theorem dX4_collectCrates_126 : decode cX4_collectCrates 126 = .ok (.ineg, 1) := by decide +kernel
theorem dX4_collectCrates_127 : decode cX4_collectCrates 127 = .ok (.invokevirtual 58, 3) := by decide +kernel
theorem dX4_collectCrates_130 : decode cX4_collectCrates 130 = .ok (.aload_n 0, 1) := by decide +kernel
theorem dX4_collectCrates_131 : decode cX4_collectCrates 131 = .ok (.getfield 12, 3) := by decide +kernel
theorem dX4_collectCrates_134 : decode cX4_collectCrates 134 = .ok (.iconst 4, 1) := by decide +kernel
theorem dX4_collectCrates_135 : decode cX4_collectCrates 135 = .ok (.iload 4, 2) := by decide +kernel
theorem dX4_collectCrates_137 : decode cX4_collectCrates 137 = .ok (.ineg, 1) := by decide +kernel
theorem dX4_collectCrates_138 : decode cX4_collectCrates 138 = .ok (.invokevirtual 61, 3) := by decide +kernel
theorem dX4_collectCrates_141 : decode cX4_collectCrates 141 = .ok (.iload 4, 2) := by decide +kernel
theorem dX4_collectCrates_143 : decode cX4_collectCrates 143 = .ok (.ireturn, 1) := by decide +kernel
set_option maxRecDepth 20000 in
theorem ggX4_sortBottles_X2_ofBrand : GoodIn wsX4_sortBottles wsX2_ofBrand := goodIn_r _ [9, 10, 11, 12, 7, 13, 14, 29] (by decide +kernel) (by decide +kernel)
set_option maxRecDepth 20000 in
theorem gX4_sortBottles_X2_ofBrand_n22 : GoodIn wsX4_sortBottles (wsX2_ofBrand) := ggX4_sortBottles_X2_ofBrand
set_option maxRecDepth 20000 in
theorem ggX4_sortBottles_X2_addToBrand : GoodIn wsX4_sortBottles wsX2_addToBrand := goodIn_r _ [17, 10, 11, 12, 7, 13, 14, 18, 19, 20, 21, 29] (by decide +kernel) (by decide +kernel)
set_option maxRecDepth 20000 in
theorem gX4_sortBottles_X2_addToBrand_n54 : GoodIn wsX4_sortBottles (wsX2_addToBrand) := ggX4_sortBottles_X2_addToBrand
set_option maxRecDepth 20000 in
theorem ggX4_sortBottles_X4_yardOf : GoodIn wsX4_sortBottles wsX4_yardOf := goodIn_r _ [26, 1, 6, 7, 8, 9, 10, 11, 12, 13, 14, 27, 28, 29] (by decide +kernel) (by decide +kernel)
set_option maxRecDepth 20000 in
theorem gX4_sortBottles_X4_yardOf : GoodIn wsX4_sortBottles (wsV RX4 76 RX4 yX4_yardOf wsX4_yardOf) := goodIn_app (goodIn_of _ (by decide +kernel)) ggX4_sortBottles_X4_yardOf
theorem dX4_sortBottles_0 : decode cX4_sortBottles 0 = .ok (.iload_n 2, 1) := by decide +kernel
theorem dX4_sortBottles_1 : decode cX4_sortBottles 1 = .ok (.istore_n 3, 1) := by decide +kernel
theorem dX4_sortBottles_2 : decode cX4_sortBottles 2 = .ok (.iconst 0, 1) := by decide +kernel
theorem dX4_sortBottles_3 : decode cX4_sortBottles 3 = .ok (.istore 4, 2) := by decide +kernel
theorem dX4_sortBottles_5 : decode cX4_sortBottles 5 = .ok (.iload 4, 2) := by decide +kernel
theorem dX4_sortBottles_7 : decode cX4_sortBottles 7 = .ok (.bipush 8, 2) := by decide +kernel
theorem dX4_sortBottles_9 : decode cX4_sortBottles 9 = .ok (.if_icmp .ge 71, 3) := by decide +kernel
theorem dX4_sortBottles_12 : decode cX4_sortBottles 12 = .ok (.aload_n 0, 1) := by decide +kernel
theorem dX4_sortBottles_13 : decode cX4_sortBottles 13 = .ok (.getfield 12, 3) := by decide +kernel
theorem dX4_sortBottles_16 : decode cX4_sortBottles 16 = .ok (.iload 4, 2) := by decide +kernel
theorem dX4_sortBottles_18 : decode cX4_sortBottles 18 = .ok (.iconst 0, 1) := by decide +kernel
theorem dX4_sortBottles_19 : decode cX4_sortBottles 19 = .ok (.invokevirtual 22, 3) := by decide +kernel
theorem dX4_sortBottles_22 : decode cX4_sortBottles 22 = .ok (.iload_n 1, 1) := by decide +kernel
theorem dX4_sortBottles_23 : decode cX4_sortBottles 23 = .ok (.if_icmp .ne 51, 3) := by decide +kernel
theorem dX4_sortBottles_26 : decode cX4_sortBottles 26 = .ok (.iload_n 3, 1) := by decide +kernel
theorem dX4_sortBottles_27 : decode cX4_sortBottles 27 = .ok (.aload_n 0, 1) := by decide +kernel
theorem dX4_sortBottles_28 : decode cX4_sortBottles 28 = .ok (.getfield 12, 3) := by decide +kernel
theorem dX4_sortBottles_31 : decode cX4_sortBottles 31 = .ok (.iload 4, 2) := by decide +kernel
theorem dX4_sortBottles_33 : decode cX4_sortBottles 33 = .ok (.bipush 6, 2) := by decide +kernel
theorem dX4_sortBottles_35 : decode cX4_sortBottles 35 = .ok (.invokevirtual 22, 3) := by decide +kernel
theorem dX4_sortBottles_38 : decode cX4_sortBottles 38 = .ok (.invokestatic 65, 3) := by decide +kernel
theorem dX4_sortBottles_41 : decode cX4_sortBottles 41 = .ok (.istore 5, 2) := by decide +kernel
theorem dX4_sortBottles_43 : decode cX4_sortBottles 43 = .ok (.aload_n 0, 1) := by decide +kernel
theorem dX4_sortBottles_44 : decode cX4_sortBottles 44 = .ok (.getfield 12, 3) := by decide +kernel
theorem dX4_sortBottles_47 : decode cX4_sortBottles 47 = .ok (.iload 4, 2) := by decide +kernel
theorem dX4_sortBottles_49 : decode cX4_sortBottles 49 = .ok (.bipush 6, 2) := by decide +kernel
theorem dX4_sortBottles_51 : decode cX4_sortBottles 51 = .ok (.iload 5, 2) := by decide +kernel
theorem dX4_sortBottles_53 : decode cX4_sortBottles 53 = .ok (.ineg, 1) := by decide +kernel
theorem dX4_sortBottles_54 : decode cX4_sortBottles 54 = .ok (.invokevirtual 54, 3) := by decide +kernel
theorem dX4_sortBottles_57 : decode cX4_sortBottles 57 = .ok (.aload_n 0, 1) := by decide +kernel
theorem dX4_sortBottles_58 : decode cX4_sortBottles 58 = .ok (.getfield 12, 3) := by decide +kernel
theorem dX4_sortBottles_61 : decode cX4_sortBottles 61 = .ok (.iload 4, 2) := by decide +kernel
theorem dX4_sortBottles_63 : decode cX4_sortBottles 63 = .ok (.iconst 1, 1) := by decide +kernel
theorem dX4_sortBottles_64 : decode cX4_sortBottles 64 = .ok (.iload 5, 2) := by decide +kernel
theorem dX4_sortBottles_66 : decode cX4_sortBottles 66 = .ok (.invokevirtual 54, 3) := by decide +kernel
theorem dX4_sortBottles_69 : decode cX4_sortBottles 69 = .ok (.iload_n 3, 1) := by decide +kernel
theorem dX4_sortBottles_70 : decode cX4_sortBottles 70 = .ok (.iload 5, 2) := by decide +kernel
theorem dX4_sortBottles_72 : decode cX4_sortBottles 72 = .ok (.isub, 1) := by decide +kernel
theorem dX4_sortBottles_73 : decode cX4_sortBottles 73 = .ok (.istore_n 3, 1) := by decide +kernel
theorem dX4_sortBottles_74 : decode cX4_sortBottles 74 = .ok (.iinc 4 1, 3) := by decide +kernel
theorem dX4_sortBottles_77 : decode cX4_sortBottles 77 = .ok (.goto (-72), 3) := by decide +kernel
theorem dX4_sortBottles_80 : decode cX4_sortBottles 80 = .ok (.aload_n 0, 1) := by decide +kernel
theorem dX4_sortBottles_81 : decode cX4_sortBottles 81 = .ok (.iload_n 1, 1) := by decide +kernel
theorem dX4_sortBottles_82 : decode cX4_sortBottles 82 = .ok (.invokevirtual 76, 3) := by decide +kernel
theorem dX4_sortBottles_85 : decode cX4_sortBottles 85 = .ok (.ireturn, 1) := by decide +kernel
set_option maxRecDepth 20000 in
theorem ggX4_swapBottles_X2_addToBrand : GoodIn wsX4_swapBottles wsX2_addToBrand := goodIn_r _ [5, 6, 7, 8, 3, 9, 10, 11, 12, 13, 14, 23] (by decide +kernel) (by decide +kernel)
set_option maxRecDepth 20000 in
theorem gX4_swapBottles_X2_addToBrand_n54 : GoodIn wsX4_swapBottles (wsX2_addToBrand) := ggX4_swapBottles_X2_addToBrand
set_option maxRecDepth 20000 in
theorem ggX4_swapBottles_X2_addToSwaps : GoodIn wsX4_swapBottles wsX2_addToSwaps := goodIn_r _ [17, 6, 7, 8, 3, 9, 10, 11, 12, 13, 14, 23] (by decide +kernel) (by decide +kernel)
set_option maxRecDepth 20000 in
theorem gX4_swapBottles_X2_addToSwaps_n79 : GoodIn wsX4_swapBottles (wsX2_addToSwaps) := ggX4_swapBottles_X2_addToSwaps
set_option maxRecDepth 20000 in
theorem ggX4_swapBottles_X2_ofSwaps : GoodIn wsX4_swapBottles wsX2_ofSwaps := goodIn_r _ [20, 6, 7, 8, 3, 9, 10, 23] (by decide +kernel) (by decide +kernel)
set_option maxRecDepth 20000 in
theorem gX4_swapBottles_X2_ofSwaps_n82 : GoodIn wsX4_swapBottles (wsX2_ofSwaps) := ggX4_swapBottles_X2_ofSwaps
theorem dX4_swapBottles_0 : decode cX4_swapBottles 0 = .ok (.aload_n 0, 1) := by decide +kernel
theorem dX4_swapBottles_1 : decode cX4_swapBottles 1 = .ok (.getfield 12, 3) := by decide +kernel
theorem dX4_swapBottles_4 : decode cX4_swapBottles 4 = .ok (.iload_n 1, 1) := by decide +kernel
theorem dX4_swapBottles_5 : decode cX4_swapBottles 5 = .ok (.iconst 1, 1) := by decide +kernel
theorem dX4_swapBottles_6 : decode cX4_swapBottles 6 = .ok (.iload_n 3, 1) := by decide +kernel
theorem dX4_swapBottles_7 : decode cX4_swapBottles 7 = .ok (.ineg, 1) := by decide +kernel
theorem dX4_swapBottles_8 : decode cX4_swapBottles 8 = .ok (.invokevirtual 54, 3) := by decide +kernel
theorem dX4_swapBottles_11 : decode cX4_swapBottles 11 = .ok (.aload_n 0, 1) := by decide +kernel
theorem dX4_swapBottles_12 : decode cX4_swapBottles 12 = .ok (.getfield 12, 3) := by decide +kernel
theorem dX4_swapBottles_15 : decode cX4_swapBottles 15 = .ok (.iload_n 2, 1) := by decide +kernel
theorem dX4_swapBottles_16 : decode cX4_swapBottles 16 = .ok (.iconst 1, 1) := by decide +kernel
theorem dX4_swapBottles_17 : decode cX4_swapBottles 17 = .ok (.iload_n 3, 1) := by decide +kernel
theorem dX4_swapBottles_18 : decode cX4_swapBottles 18 = .ok (.invokevirtual 54, 3) := by decide +kernel
theorem dX4_swapBottles_21 : decode cX4_swapBottles 21 = .ok (.aload_n 0, 1) := by decide +kernel
theorem dX4_swapBottles_22 : decode cX4_swapBottles 22 = .ok (.getfield 12, 3) := by decide +kernel
theorem dX4_swapBottles_25 : decode cX4_swapBottles 25 = .ok (.iload_n 1, 1) := by decide +kernel
theorem dX4_swapBottles_26 : decode cX4_swapBottles 26 = .ok (.bipush 11, 2) := by decide +kernel
theorem dX4_swapBottles_28 : decode cX4_swapBottles 28 = .ok (.iload_n 3, 1) := by decide +kernel
theorem dX4_swapBottles_29 : decode cX4_swapBottles 29 = .ok (.invokevirtual 54, 3) := by decide +kernel
theorem dX4_swapBottles_32 : decode cX4_swapBottles 32 = .ok (.aload_n 0, 1) := by decide +kernel
theorem dX4_swapBottles_33 : decode cX4_swapBottles 33 = .ok (.getfield 12, 3) := by decide +kernel
theorem dX4_swapBottles_36 : decode cX4_swapBottles 36 = .ok (.iload_n 2, 1) := by decide +kernel
theorem dX4_swapBottles_37 : decode cX4_swapBottles 37 = .ok (.bipush 11, 2) := by decide +kernel
theorem dX4_swapBottles_39 : decode cX4_swapBottles 39 = .ok (.iload_n 3, 1) := by decide +kernel
theorem dX4_swapBottles_40 : decode cX4_swapBottles 40 = .ok (.ineg, 1) := by decide +kernel
theorem dX4_swapBottles_41 : decode cX4_swapBottles 41 = .ok (.invokevirtual 54, 3) := by decide +kernel
theorem dX4_swapBottles_44 : decode cX4_swapBottles 44 = .ok (.aload_n 0, 1) := by decide +kernel
theorem dX4_swapBottles_45 : decode cX4_swapBottles 45 = .ok (.getfield 12, 3) := by decide +kernel
theorem dX4_swapBottles_48 : decode cX4_swapBottles 48 = .ok (.iload_n 1, 1) := by decide +kernel
theorem dX4_swapBottles_49 : decode cX4_swapBottles 49 = .ok (.iload_n 2, 1) := by decide +kernel
theorem dX4_swapBottles_50 : decode cX4_swapBottles 50 = .ok (.iload_n 3, 1) := by decide +kernel
theorem dX4_swapBottles_51 : decode cX4_swapBottles 51 = .ok (.invokevirtual 79, 3) := by decide +kernel
theorem dX4_swapBottles_54 : decode cX4_swapBottles 54 = .ok (.aload_n 0, 1) := by decide +kernel
theorem dX4_swapBottles_55 : decode cX4_swapBottles 55 = .ok (.getfield 12, 3) := by decide +kernel
theorem dX4_swapBottles_58 : decode cX4_swapBottles 58 = .ok (.iload_n 2, 1) := by decide +kernel
theorem dX4_swapBottles_59 : decode cX4_swapBottles 59 = .ok (.iload_n 1, 1) := by decide +kernel
theorem dX4_swapBottles_60 : decode cX4_swapBottles 60 = .ok (.iload_n 3, 1) := by decide +kernel
theorem dX4_swapBottles_61 : decode cX4_swapBottles 61 = .ok (.ineg, 1) := by decide +kernel
theorem dX4_swapBottles_62 : decode cX4_swapBottles 62 = .ok (.invokevirtual 79, 3) := by decide +kernel
theorem dX4_swapBottles_65 : decode cX4_swapBottles 65 = .ok (.aload_n 0, 1) := by decide +kernel
theorem dX4_swapBottles_66 : decode cX4_swapBottles 66 = .ok (.getfield 12, 3) := by decide +kernel
theorem dX4_swapBottles_69 : decode cX4_swapBottles 69 = .ok (.iload_n 1, 1) := by decide +kernel
theorem dX4_swapBottles_70 : decode cX4_swapBottles 70 = .ok (.iload_n 2, 1) := by decide +kernel
theorem dX4_swapBottles_71 : decode cX4_swapBottles 71 = .ok (.invokevirtual 82, 3) := by decide +kernel
theorem dX4_swapBottles_74 : decode cX4_swapBottles 74 = .ok (.ireturn, 1) := by decide +kernel
set_option maxRecDepth 20000 in
theorem ggX4_emptiesOf_X2_ofBrand : GoodIn wsX4_emptiesOf wsX2_ofBrand := goodIn_r _ [5, 6, 7, 8, 3, 9, 10, 16] (by decide +kernel) (by decide +kernel)
set_option maxRecDepth 20000 in
theorem gX4_emptiesOf_X2_ofBrand_n22 : GoodIn wsX4_emptiesOf (wsX2_ofBrand) := ggX4_emptiesOf_X2_ofBrand
set_option maxRecDepth 20000 in
theorem ggX4_emptiesOf_X2_ofShop : GoodIn wsX4_emptiesOf wsX2_ofShop := goodIn_r _ [13, 6, 7, 8, 3, 9, 10, 16] (by decide +kernel) (by decide +kernel)
set_option maxRecDepth 20000 in
theorem gX4_emptiesOf_X2_ofShop_n36 : GoodIn wsX4_emptiesOf (wsX2_ofShop) := ggX4_emptiesOf_X2_ofShop
theorem dX4_emptiesOf_0 : decode cX4_emptiesOf 0 = .ok (.iconst 0, 1) := by decide +kernel
theorem dX4_emptiesOf_1 : decode cX4_emptiesOf 1 = .ok (.istore_n 3, 1) := by decide +kernel
theorem dX4_emptiesOf_2 : decode cX4_emptiesOf 2 = .ok (.iconst 0, 1) := by decide +kernel
theorem dX4_emptiesOf_3 : decode cX4_emptiesOf 3 = .ok (.istore 4, 2) := by decide +kernel
theorem dX4_emptiesOf_5 : decode cX4_emptiesOf 5 = .ok (.iload 4, 2) := by decide +kernel
theorem dX4_emptiesOf_7 : decode cX4_emptiesOf 7 = .ok (.bipush 8, 2) := by decide +kernel
theorem dX4_emptiesOf_9 : decode cX4_emptiesOf 9 = .ok (.if_icmp .ge 39, 3) := by decide +kernel
theorem dX4_emptiesOf_12 : decode cX4_emptiesOf 12 = .ok (.aload_n 0, 1) := by decide +kernel
theorem dX4_emptiesOf_13 : decode cX4_emptiesOf 13 = .ok (.getfield 12, 3) := by decide +kernel
theorem dX4_emptiesOf_16 : decode cX4_emptiesOf 16 = .ok (.iload 4, 2) := by decide +kernel
theorem dX4_emptiesOf_18 : decode cX4_emptiesOf 18 = .ok (.iconst 0, 1) := by decide +kernel
theorem dX4_emptiesOf_19 : decode cX4_emptiesOf 19 = .ok (.invokevirtual 22, 3) := by decide +kernel
theorem dX4_emptiesOf_22 : decode cX4_emptiesOf 22 = .ok (.iload_n 2, 1) := by decide +kernel
theorem dX4_emptiesOf_23 : decode cX4_emptiesOf 23 = .ok (.if_icmp .ne 19, 3) := by decide +kernel
theorem dX4_emptiesOf_26 : decode cX4_emptiesOf 26 = .ok (.iload_n 3, 1) := by decide +kernel
theorem dX4_emptiesOf_27 : decode cX4_emptiesOf 27 = .ok (.aload_n 0, 1) := by decide +kernel
theorem dX4_emptiesOf_28 : decode cX4_emptiesOf 28 = .ok (.getfield 12, 3) := by decide +kernel
theorem dX4_emptiesOf_31 : decode cX4_emptiesOf 31 = .ok (.iload_n 1, 1) := by decide +kernel
theorem dX4_emptiesOf_32 : decode cX4_emptiesOf 32 = .ok (.bipush 20, 2) := by decide +kernel
theorem dX4_emptiesOf_34 : decode cX4_emptiesOf 34 = .ok (.iload 4, 2) := by decide +kernel
theorem dX4_emptiesOf_36 : decode cX4_emptiesOf 36 = .ok (.iadd, 1) := by decide +kernel
theorem dX4_emptiesOf_37 : decode cX4_emptiesOf 37 = .ok (.invokevirtual 36, 3) := by decide +kernel
theorem dX4_emptiesOf_40 : decode cX4_emptiesOf 40 = .ok (.iadd, 1) := by decide +kernel
theorem dX4_emptiesOf_41 : decode cX4_emptiesOf 41 = .ok (.istore_n 3, 1) := by decide +kernel
theorem dX4_emptiesOf_42 : decode cX4_emptiesOf 42 = .ok (.iinc 4 1, 3) := by decide +kernel
theorem dX4_emptiesOf_45 : decode cX4_emptiesOf 45 = .ok (.goto (-40), 3) := by decide +kernel
theorem dX4_emptiesOf_48 : decode cX4_emptiesOf 48 = .ok (.iload_n 3, 1) := by decide +kernel
theorem dX4_emptiesOf_49 : decode cX4_emptiesOf 49 = .ok (.ireturn, 1) := by decide +kernel
set_option maxRecDepth 20000 in
theorem ggX4_yardOf_X2_ofBrand : GoodIn wsX4_yardOf wsX2_ofBrand := goodIn_r _ [5, 6, 7, 8, 3, 9, 10, 13] (by decide +kernel) (by decide +kernel)
set_option maxRecDepth 20000 in
theorem gX4_yardOf_X2_ofBrand_n22 : GoodIn wsX4_yardOf (wsX2_ofBrand) := ggX4_yardOf_X2_ofBrand
theorem dX4_yardOf_0 : decode cX4_yardOf 0 = .ok (.iconst 0, 1) := by decide +kernel
theorem dX4_yardOf_1 : decode cX4_yardOf 1 = .ok (.istore_n 2, 1) := by decide +kernel
theorem dX4_yardOf_2 : decode cX4_yardOf 2 = .ok (.iconst 0, 1) := by decide +kernel
theorem dX4_yardOf_3 : decode cX4_yardOf 3 = .ok (.istore_n 3, 1) := by decide +kernel
theorem dX4_yardOf_4 : decode cX4_yardOf 4 = .ok (.iload_n 3, 1) := by decide +kernel
theorem dX4_yardOf_5 : decode cX4_yardOf 5 = .ok (.bipush 8, 2) := by decide +kernel
theorem dX4_yardOf_7 : decode cX4_yardOf 7 = .ok (.if_icmp .ge 35, 3) := by decide +kernel
theorem dX4_yardOf_10 : decode cX4_yardOf 10 = .ok (.aload_n 0, 1) := by decide +kernel
theorem dX4_yardOf_11 : decode cX4_yardOf 11 = .ok (.getfield 12, 3) := by decide +kernel
theorem dX4_yardOf_14 : decode cX4_yardOf 14 = .ok (.iload_n 3, 1) := by decide +kernel
theorem dX4_yardOf_15 : decode cX4_yardOf 15 = .ok (.iconst 0, 1) := by decide +kernel
theorem dX4_yardOf_16 : decode cX4_yardOf 16 = .ok (.invokevirtual 22, 3) := by decide +kernel
theorem dX4_yardOf_19 : decode cX4_yardOf 19 = .ok (.iload_n 1, 1) := by decide +kernel
theorem dX4_yardOf_20 : decode cX4_yardOf 20 = .ok (.if_icmp .ne 16, 3) := by decide +kernel
theorem dX4_yardOf_23 : decode cX4_yardOf 23 = .ok (.iload_n 2, 1) := by decide +kernel
theorem dX4_yardOf_24 : decode cX4_yardOf 24 = .ok (.aload_n 0, 1) := by decide +kernel
theorem dX4_yardOf_25 : decode cX4_yardOf 25 = .ok (.getfield 12, 3) := by decide +kernel
theorem dX4_yardOf_28 : decode cX4_yardOf 28 = .ok (.iload_n 3, 1) := by decide +kernel
theorem dX4_yardOf_29 : decode cX4_yardOf 29 = .ok (.bipush 6, 2) := by decide +kernel
theorem dX4_yardOf_31 : decode cX4_yardOf 31 = .ok (.invokevirtual 22, 3) := by decide +kernel
theorem dX4_yardOf_34 : decode cX4_yardOf 34 = .ok (.iadd, 1) := by decide +kernel
theorem dX4_yardOf_35 : decode cX4_yardOf 35 = .ok (.istore_n 2, 1) := by decide +kernel
theorem dX4_yardOf_36 : decode cX4_yardOf 36 = .ok (.iinc 3 1, 3) := by decide +kernel
theorem dX4_yardOf_39 : decode cX4_yardOf 39 = .ok (.goto (-35), 3) := by decide +kernel
theorem dX4_yardOf_42 : decode cX4_yardOf 42 = .ok (.iload_n 2, 1) := by decide +kernel
theorem dX4_yardOf_43 : decode cX4_yardOf 43 = .ok (.ireturn, 1) := by decide +kernel
set_option maxRecDepth 20000 in
theorem ggX4_pickEmpties_X2_ofBrand : GoodIn wsX4_pickEmpties wsX2_ofBrand := goodIn_r _ [6, 7, 8, 9, 4, 10, 11, 22] (by decide +kernel) (by decide +kernel)
set_option maxRecDepth 20000 in
theorem gX4_pickEmpties_X2_ofBrand_n22 : GoodIn wsX4_pickEmpties (wsX2_ofBrand) := ggX4_pickEmpties_X2_ofBrand
set_option maxRecDepth 20000 in
theorem ggX4_pickEmpties_X2_ofShop : GoodIn wsX4_pickEmpties wsX2_ofShop := goodIn_r _ [14, 7, 8, 9, 4, 10, 11, 22] (by decide +kernel) (by decide +kernel)
set_option maxRecDepth 20000 in
theorem gX4_pickEmpties_X2_ofShop_n36 : GoodIn wsX4_pickEmpties (wsX2_ofShop) := ggX4_pickEmpties_X2_ofShop
set_option maxRecDepth 20000 in
theorem ggX4_pickEmpties_X4_pickOne : GoodIn wsX4_pickEmpties wsX4_pickOne := goodIn_r _ [19, 1, 20, 21] (by decide +kernel) (by decide +kernel)
set_option maxRecDepth 20000 in
theorem gX4_pickEmpties_X4_pickOne : GoodIn wsX4_pickEmpties (wsV RX4 85 RX4 yX4_pickOne wsX4_pickOne) := goodIn_app (goodIn_of _ (by decide +kernel)) ggX4_pickEmpties_X4_pickOne
theorem dX4_pickEmpties_0 : decode cX4_pickEmpties 0 = .ok (.iconst 0, 1) := by decide +kernel
theorem dX4_pickEmpties_1 : decode cX4_pickEmpties 1 = .ok (.istore 4, 2) := by decide +kernel
theorem dX4_pickEmpties_3 : decode cX4_pickEmpties 3 = .ok (.iload 4, 2) := by decide +kernel
theorem dX4_pickEmpties_5 : decode cX4_pickEmpties 5 = .ok (.aload_n 0, 1) := by decide +kernel
theorem dX4_pickEmpties_6 : decode cX4_pickEmpties 6 = .ok (.getfield 18, 3) := by decide +kernel
theorem dX4_pickEmpties_9 : decode cX4_pickEmpties 9 = .ok (.arraylength, 1) := by decide +kernel
theorem dX4_pickEmpties_10 : decode cX4_pickEmpties 10 = .ok (.if_icmp .ge 59, 3) := by decide +kernel
theorem dX4_pickEmpties_13 : decode cX4_pickEmpties 13 = .ok (.aload_n 0, 1) := by decide +kernel
theorem dX4_pickEmpties_14 : decode cX4_pickEmpties 14 = .ok (.getfield 12, 3) := by decide +kernel
theorem dX4_pickEmpties_17 : decode cX4_pickEmpties 17 = .ok (.iload 4, 2) := by decide +kernel
theorem dX4_pickEmpties_19 : decode cX4_pickEmpties 19 = .ok (.iconst 0, 1) := by decide +kernel
theorem dX4_pickEmpties_20 : decode cX4_pickEmpties 20 = .ok (.invokevirtual 22, 3) := by decide +kernel
theorem dX4_pickEmpties_23 : decode cX4_pickEmpties 23 = .ok (.iload_n 2, 1) := by decide +kernel
theorem dX4_pickEmpties_24 : decode cX4_pickEmpties 24 = .ok (.if_icmp .ne 7, 3) := by decide +kernel
theorem dX4_pickEmpties_27 : decode cX4_pickEmpties 27 = .ok (.iconst 1, 1) := by decide +kernel
theorem dX4_pickEmpties_28 : decode cX4_pickEmpties 28 = .ok (.goto 4, 3) := by decide +kernel
theorem dX4_pickEmpties_31 : decode cX4_pickEmpties 31 = .ok (.iconst 0, 1) := by decide +kernel
theorem dX4_pickEmpties_32 : decode cX4_pickEmpties 32 = .ok (.istore 5, 2) := by decide +kernel
theorem dX4_pickEmpties_34 : decode cX4_pickEmpties 34 = .ok (.aload_n 0, 1) := by decide +kernel
theorem dX4_pickEmpties_35 : decode cX4_pickEmpties 35 = .ok (.getfield 18, 3) := by decide +kernel
theorem dX4_pickEmpties_38 : decode cX4_pickEmpties 38 = .ok (.iload 4, 2) := by decide +kernel
theorem dX4_pickEmpties_40 : decode cX4_pickEmpties 40 = .ok (.iload 5, 2) := by decide +kernel
theorem dX4_pickEmpties_42 : decode cX4_pickEmpties 42 = .ok (.ifCond .eq 19, 3) := by decide +kernel
theorem dX4_pickEmpties_45 : decode cX4_pickEmpties 45 = .ok (.aload_n 0, 1) := by decide +kernel
theorem dX4_pickEmpties_46 : decode cX4_pickEmpties 46 = .ok (.getfield 12, 3) := by decide +kernel
theorem dX4_pickEmpties_49 : decode cX4_pickEmpties 49 = .ok (.iload_n 1, 1) := by decide +kernel
theorem dX4_pickEmpties_50 : decode cX4_pickEmpties 50 = .ok (.bipush 20, 2) := by decide +kernel
theorem dX4_pickEmpties_52 : decode cX4_pickEmpties 52 = .ok (.iload 4, 2) := by decide +kernel
theorem dX4_pickEmpties_54 : decode cX4_pickEmpties 54 = .ok (.iadd, 1) := by decide +kernel
theorem dX4_pickEmpties_55 : decode cX4_pickEmpties 55 = .ok (.invokevirtual 36, 3) := by decide +kernel
theorem dX4_pickEmpties_58 : decode cX4_pickEmpties 58 = .ok (.goto 4, 3) := by decide +kernel
theorem dX4_pickEmpties_61 : decode cX4_pickEmpties 61 = .ok (.iconst 0, 1) := by decide +kernel
theorem dX4_pickEmpties_62 : decode cX4_pickEmpties 62 = .ok (.iastore, 1) := by decide +kernel
theorem dX4_pickEmpties_63 : decode cX4_pickEmpties 63 = .ok (.iinc 4 1, 3) := by decide +kernel
theorem dX4_pickEmpties_66 : decode cX4_pickEmpties 66 = .ok (.goto (-63), 3) := by decide +kernel
theorem dX4_pickEmpties_69 : decode cX4_pickEmpties 69 = .ok (.iconst 0, 1) := by decide +kernel
theorem dX4_pickEmpties_70 : decode cX4_pickEmpties 70 = .ok (.istore 4, 2) := by decide +kernel
theorem dX4_pickEmpties_72 : decode cX4_pickEmpties 72 = .ok (.iload 4, 2) := by decide +kernel
theorem dX4_pickEmpties_74 : decode cX4_pickEmpties 74 = .ok (.iload_n 3, 1) := by decide +kernel
theorem dX4_pickEmpties_75 : decode cX4_pickEmpties 75 = .ok (.if_icmp .ge 13, 3) := by decide +kernel
theorem dX4_pickEmpties_78 : decode cX4_pickEmpties 78 = .ok (.aload_n 0, 1) := by decide +kernel
theorem dX4_pickEmpties_79 : decode cX4_pickEmpties 79 = .ok (.invokevirtual 85, 3) := by decide +kernel
theorem dX4_pickEmpties_82 : decode cX4_pickEmpties 82 = .ok (.iinc 4 1, 3) := by decide +kernel
theorem dX4_pickEmpties_85 : decode cX4_pickEmpties 85 = .ok (.goto (-13), 3) := by decide +kernel
theorem dX4_pickEmpties_88 : decode cX4_pickEmpties 88 = .ok (.return_, 1) := by decide +kernel
theorem dX4_pickOne_0 : decode cX4_pickOne 0 = .ok (.iconst 0, 1) := by decide +kernel
theorem dX4_pickOne_1 : decode cX4_pickOne 1 = .ok (.istore_n 1, 1) := by decide +kernel
theorem dX4_pickOne_2 : decode cX4_pickOne 2 = .ok (.iconst 0, 1) := by decide +kernel
theorem dX4_pickOne_3 : decode cX4_pickOne 3 = .ok (.istore_n 2, 1) := by decide +kernel
theorem dX4_pickOne_4 : decode cX4_pickOne 4 = .ok (.iconst 0, 1) := by decide +kernel
theorem dX4_pickOne_5 : decode cX4_pickOne 5 = .ok (.istore_n 3, 1) := by decide +kernel
theorem dX4_pickOne_6 : decode cX4_pickOne 6 = .ok (.iload_n 3, 1) := by decide +kernel
theorem dX4_pickOne_7 : decode cX4_pickOne 7 = .ok (.aload_n 0, 1) := by decide +kernel
theorem dX4_pickOne_8 : decode cX4_pickOne 8 = .ok (.getfield 18, 3) := by decide +kernel
theorem dX4_pickOne_11 : decode cX4_pickOne 11 = .ok (.arraylength, 1) := by decide +kernel
theorem dX4_pickOne_12 : decode cX4_pickOne 12 = .ok (.if_icmp .ge 28, 3) := by decide +kernel
theorem dX4_pickOne_15 : decode cX4_pickOne 15 = .ok (.aload_n 0, 1) := by decide +kernel
theorem dX4_pickOne_16 : decode cX4_pickOne 16 = .ok (.getfield 18, 3) := by decide +kernel
theorem dX4_pickOne_19 : decode cX4_pickOne 19 = .ok (.iload_n 3, 1) := by decide +kernel
theorem dX4_pickOne_20 : decode cX4_pickOne 20 = .ok (.iaload, 1) := by decide +kernel
theorem dX4_pickOne_21 : decode cX4_pickOne 21 = .ok (.iload_n 2, 1) := by decide +kernel
theorem dX4_pickOne_22 : decode cX4_pickOne 22 = .ok (.if_icmp .le 12, 3) := by decide +kernel
theorem dX4_pickOne_25 : decode cX4_pickOne 25 = .ok (.aload_n 0, 1) := by decide +kernel
theorem dX4_pickOne_26 : decode cX4_pickOne 26 = .ok (.getfield 18, 3) := by decide +kernel
theorem dX4_pickOne_29 : decode cX4_pickOne 29 = .ok (.iload_n 3, 1) := by decide +kernel
theorem dX4_pickOne_30 : decode cX4_pickOne 30 = .ok (.iaload, 1) := by decide +kernel
theorem dX4_pickOne_31 : decode cX4_pickOne 31 = .ok (.istore_n 2, 1) := by decide +kernel
theorem dX4_pickOne_32 : decode cX4_pickOne 32 = .ok (.iload_n 3, 1) := by decide +kernel
theorem dX4_pickOne_33 : decode cX4_pickOne 33 = .ok (.istore_n 1, 1) := by decide +kernel
theorem dX4_pickOne_34 : decode cX4_pickOne 34 = .ok (.iinc 3 1, 3) := by decide +kernel
theorem dX4_pickOne_37 : decode cX4_pickOne 37 = .ok (.goto (-31), 3) := by decide +kernel
theorem dX4_pickOne_40 : decode cX4_pickOne 40 = .ok (.iload_n 2, 1) := by decide +kernel
theorem dX4_pickOne_41 : decode cX4_pickOne 41 = .ok (.ifCond .le 22, 3) := by decide +kernel
theorem dX4_pickOne_44 : decode cX4_pickOne 44 = .ok (.iload_n 1, 1) := by decide +kernel
theorem dX4_pickOne_45 : decode cX4_pickOne 45 = .ok (.aload_n 0, 1) := by decide +kernel
theorem dX4_pickOne_46 : decode cX4_pickOne 46 = .ok (.getfield 18, 3) := by decide +kernel
theorem dX4_pickOne_49 : decode cX4_pickOne 49 = .ok (.arraylength, 1) := by decide +kernel
theorem dX4_pickOne_50 : decode cX4_pickOne 50 = .ok (.if_icmp .ge 13, 3) := by decide +kernel
theorem dX4_pickOne_53 : decode cX4_pickOne 53 = .ok (.aload_n 0, 1) := by decide +kernel
theorem dX4_pickOne_54 : decode cX4_pickOne 54 = .ok (.getfield 18, 3) := by decide +kernel
theorem dX4_pickOne_57 : decode cX4_pickOne 57 = .ok (.iload_n 1, 1) := by decide +kernel
theorem dX4_pickOne_58 : decode cX4_pickOne 58 = .ok (.dup2, 1) := by decide +kernel
theorem dX4_pickOne_59 : decode cX4_pickOne 59 = .ok (.iaload, 1) := by decide +kernel
theorem dX4_pickOne_60 : decode cX4_pickOne 60 = .ok (.iconst 1, 1) := by decide +kernel
theorem dX4_pickOne_61 : decode cX4_pickOne 61 = .ok (.isub, 1) := by decide +kernel
theorem dX4_pickOne_62 : decode cX4_pickOne 62 = .ok (.iastore, 1) := by decide +kernel
theorem dX4_pickOne_63 : decode cX4_pickOne 63 = .ok (.return_, 1) := by decide +kernel
set_option maxRecDepth 20000 in
theorem ggX4_pickedOf_X2_ofShop : GoodIn wsX4_pickedOf wsX2_ofShop := goodIn_r _ [6, 7, 8, 9, 4, 10, 11, 17] (by decide +kernel) (by decide +kernel)
set_option maxRecDepth 20000 in
theorem gX4_pickedOf_X2_ofShop_n36 : GoodIn wsX4_pickedOf (wsX2_ofShop) := ggX4_pickedOf_X2_ofShop
set_option maxRecDepth 20000 in
theorem ggX4_pickedOf_X5_entry : GoodIn wsX4_pickedOf wsX5_entry := goodIn_r _ [14] (by decide +kernel) (by decide +kernel)
set_option maxRecDepth 20000 in
theorem gX4_pickedOf_X5_entry_n88 : GoodIn wsX4_pickedOf (wsX5_entry) := ggX4_pickedOf_X5_entry
theorem dX4_pickedOf_0 : decode cX4_pickedOf 0 = .ok (.aload_n 0, 1) := by decide +kernel
theorem dX4_pickedOf_1 : decode cX4_pickedOf 1 = .ok (.getfield 12, 3) := by decide +kernel
theorem dX4_pickedOf_4 : decode cX4_pickedOf 4 = .ok (.iload_n 1, 1) := by decide +kernel
theorem dX4_pickedOf_5 : decode cX4_pickedOf 5 = .ok (.bipush 20, 2) := by decide +kernel
theorem dX4_pickedOf_7 : decode cX4_pickedOf 7 = .ok (.iload_n 2, 1) := by decide +kernel
theorem dX4_pickedOf_8 : decode cX4_pickedOf 8 = .ok (.iadd, 1) := by decide +kernel
theorem dX4_pickedOf_9 : decode cX4_pickedOf 9 = .ok (.invokevirtual 36, 3) := by decide +kernel
theorem dX4_pickedOf_12 : decode cX4_pickedOf 12 = .ok (.aload_n 0, 1) := by decide +kernel
theorem dX4_pickedOf_13 : decode cX4_pickedOf 13 = .ok (.getfield 18, 3) := by decide +kernel
theorem dX4_pickedOf_16 : decode cX4_pickedOf 16 = .ok (.iload_n 2, 1) := by decide +kernel
theorem dX4_pickedOf_17 : decode cX4_pickedOf 17 = .ok (.invokestatic 88, 3) := by decide +kernel
theorem dX4_pickedOf_20 : decode cX4_pickedOf 20 = .ok (.isub, 1) := by decide +kernel
theorem dX4_pickedOf_21 : decode cX4_pickedOf 21 = .ok (.ireturn, 1) := by decide +kernel
set_option maxRecDepth 20000 in
theorem ggX4_wornBy_X2_ofSetting : GoodIn wsX4_wornBy wsX2_ofSetting := goodIn_r _ [5, 6, 7, 8, 3, 9, 10, 16] (by decide +kernel) (by decide +kernel)
set_option maxRecDepth 20000 in
theorem gX4_wornBy_X2_ofSetting_n26 : GoodIn wsX4_wornBy (wsX2_ofSetting) := ggX4_wornBy_X2_ofSetting
set_option maxRecDepth 20000 in
theorem ggX4_wornBy_X2_ofBrand : GoodIn wsX4_wornBy wsX2_ofBrand := goodIn_r _ [13, 6, 7, 8, 3, 9, 10, 16] (by decide +kernel) (by decide +kernel)
set_option maxRecDepth 20000 in
theorem gX4_wornBy_X2_ofBrand_n22 : GoodIn wsX4_wornBy (wsX2_ofBrand) := ggX4_wornBy_X2_ofBrand
theorem dX4_wornBy_0 : decode cX4_wornBy 0 = .ok (.aload_n 0, 1) := by decide +kernel
theorem dX4_wornBy_1 : decode cX4_wornBy 1 = .ok (.getfield 12, 3) := by decide +kernel
theorem dX4_wornBy_4 : decode cX4_wornBy 4 = .ok (.iconst 5, 1) := by decide +kernel
theorem dX4_wornBy_5 : decode cX4_wornBy 5 = .ok (.invokevirtual 26, 3) := by decide +kernel
theorem dX4_wornBy_8 : decode cX4_wornBy 8 = .ok (.istore_n 3, 1) := by decide +kernel
theorem dX4_wornBy_9 : decode cX4_wornBy 9 = .ok (.aload_n 0, 1) := by decide +kernel
theorem dX4_wornBy_10 : decode cX4_wornBy 10 = .ok (.getfield 12, 3) := by decide +kernel
theorem dX4_wornBy_13 : decode cX4_wornBy 13 = .ok (.iload_n 1, 1) := by decide +kernel
theorem dX4_wornBy_14 : decode cX4_wornBy 14 = .ok (.bipush 10, 2) := by decide +kernel
theorem dX4_wornBy_16 : decode cX4_wornBy 16 = .ok (.invokevirtual 22, 3) := by decide +kernel
theorem dX4_wornBy_19 : decode cX4_wornBy 19 = .ok (.istore 4, 2) := by decide +kernel
theorem dX4_wornBy_21 : decode cX4_wornBy 21 = .ok (.iload_n 3, 1) := by decide +kernel
theorem dX4_wornBy_22 : decode cX4_wornBy 22 = .ok (.ifCond .le 17, 3) := by decide +kernel
theorem dX4_wornBy_25 : decode cX4_wornBy 25 = .ok (.iload 4, 2) := by decide +kernel
theorem dX4_wornBy_27 : decode cX4_wornBy 27 = .ok (.iload_n 2, 1) := by decide +kernel
theorem dX4_wornBy_28 : decode cX4_wornBy 28 = .ok (.iadd, 1) := by decide +kernel
theorem dX4_wornBy_29 : decode cX4_wornBy 29 = .ok (.iload_n 3, 1) := by decide +kernel
theorem dX4_wornBy_30 : decode cX4_wornBy 30 = .ok (.idiv, 1) := by decide +kernel
theorem dX4_wornBy_31 : decode cX4_wornBy 31 = .ok (.iload 4, 2) := by decide +kernel
theorem dX4_wornBy_33 : decode cX4_wornBy 33 = .ok (.iload_n 3, 1) := by decide +kernel
theorem dX4_wornBy_34 : decode cX4_wornBy 34 = .ok (.idiv, 1) := by decide +kernel
theorem dX4_wornBy_35 : decode cX4_wornBy 35 = .ok (.isub, 1) := by decide +kernel
theorem dX4_wornBy_36 : decode cX4_wornBy 36 = .ok (.goto 4, 3) := by decide +kernel
theorem dX4_wornBy_39 : decode cX4_wornBy 39 = .ok (.iconst 0, 1) := by decide +kernel
theorem dX4_wornBy_40 : decode cX4_wornBy 40 = .ok (.ireturn, 1) := by decide +kernel
set_option maxRecDepth 20000 in
theorem ggX4_mostDeliverable_X4_cratePrice : GoodIn wsX4_mostDeliverable wsX4_cratePrice := goodIn_r _ [10, 1, 11, 12, 13, 14, 15, 16, 17, 18, 19, 20, 21, 22, 9, 23, 24, 25, 26, 33, 34, 35] (by decide +kernel) (by decide +kernel)
set_option maxRecDepth 20000 in
theorem gX4_mostDeliverable_X4_cratePrice : GoodIn wsX4_mostDeliverable (wsV RX4 39 RX4 yX4_cratePrice wsX4_cratePrice) := goodIn_app (goodIn_of _ (by decide +kernel)) ggX4_mostDeliverable_X4_cratePrice
set_option maxRecDepth 20000 in
theorem ggX4_mostDeliverable_X2_ofShop : GoodIn wsX4_mostDeliverable wsX2_ofShop := goodIn_r _ [29, 15, 16, 17, 12, 18, 19, 35] (by decide +kernel) (by decide +kernel)
set_option maxRecDepth 20000 in
theorem gX4_mostDeliverable_X2_ofShop_n36 : GoodIn wsX4_mostDeliverable (wsX2_ofShop) := ggX4_mostDeliverable_X2_ofShop
set_option maxRecDepth 20000 in
theorem ggX4_mostDeliverable_X2_ofBrand : GoodIn wsX4_mostDeliverable wsX2_ofBrand := goodIn_r _ [14, 15, 16, 17, 12, 18, 19, 35] (by decide +kernel) (by decide +kernel)
set_option maxRecDepth 20000 in
theorem gX4_mostDeliverable_X2_ofBrand_n22 : GoodIn wsX4_mostDeliverable (wsX2_ofBrand) := ggX4_mostDeliverable_X2_ofBrand
set_option maxRecDepth 20000 in
theorem ggX4_mostDeliverable_X2_ofAll : GoodIn wsX4_mostDeliverable wsX2_ofAll := goodIn_r _ [32, 15, 16, 17, 12, 18, 19, 35] (by decide +kernel) (by decide +kernel)
set_option maxRecDepth 20000 in
theorem gX4_mostDeliverable_X2_ofAll_n33 : GoodIn wsX4_mostDeliverable (wsX2_ofAll) := ggX4_mostDeliverable_X2_ofAll
theorem dX4_mostDeliverable_0 : decode cX4_mostDeliverable 0 = .ok (.aload_n 0, 1) := by decide +kernel
theorem dX4_mostDeliverable_1 : decode cX4_mostDeliverable 1 = .ok (.iload_n 1, 1) := by decide +kernel
theorem dX4_mostDeliverable_2 : decode cX4_mostDeliverable 2 = .ok (.invokevirtual 39, 3) := by decide +kernel
theorem dX4_mostDeliverable_5 : decode cX4_mostDeliverable 5 = .ok (.istore_n 3, 1) := by decide +kernel
theorem dX4_mostDeliverable_6 : decode cX4_mostDeliverable 6 = .ok (.iload_n 3, 1) := by decide +kernel
theorem dX4_mostDeliverable_7 : decode cX4_mostDeliverable 7 = .ok (.ifCond .le 17, 3) := by decide +kernel
theorem dX4_mostDeliverable_10 : decode cX4_mostDeliverable 10 = .ok (.aload_n 0, 1) := by decide +kernel
theorem dX4_mostDeliverable_11 : decode cX4_mostDeliverable 11 = .ok (.getfield 12, 3) := by decide +kernel
theorem dX4_mostDeliverable_14 : decode cX4_mostDeliverable 14 = .ok (.iload_n 2, 1) := by decide +kernel
theorem dX4_mostDeliverable_15 : decode cX4_mostDeliverable 15 = .ok (.iconst 0, 1) := by decide +kernel
theorem dX4_mostDeliverable_16 : decode cX4_mostDeliverable 16 = .ok (.invokevirtual 36, 3) := by decide +kernel
theorem dX4_mostDeliverable_19 : decode cX4_mostDeliverable 19 = .ok (.iload_n 3, 1) := by decide +kernel
theorem dX4_mostDeliverable_20 : decode cX4_mostDeliverable 20 = .ok (.idiv, 1) := by decide +kernel
theorem dX4_mostDeliverable_21 : decode cX4_mostDeliverable 21 = .ok (.goto 5, 3) := by decide +kernel
theorem dX4_mostDeliverable_24 : decode cX4_mostDeliverable 24 = .ok (.bipush 50, 2) := by decide +kernel
theorem dX4_mostDeliverable_26 : decode cX4_mostDeliverable 26 = .ok (.istore 4, 2) := by decide +kernel
theorem dX4_mostDeliverable_28 : decode cX4_mostDeliverable 28 = .ok (.aload_n 0, 1) := by decide +kernel
theorem dX4_mostDeliverable_29 : decode cX4_mostDeliverable 29 = .ok (.getfield 12, 3) := by decide +kernel
theorem dX4_mostDeliverable_32 : decode cX4_mostDeliverable 32 = .ok (.iload_n 1, 1) := by decide +kernel
theorem dX4_mostDeliverable_33 : decode cX4_mostDeliverable 33 = .ok (.iconst 2, 1) := by decide +kernel
theorem dX4_mostDeliverable_34 : decode cX4_mostDeliverable 34 = .ok (.invokevirtual 22, 3) := by decide +kernel
theorem dX4_mostDeliverable_37 : decode cX4_mostDeliverable 37 = .ok (.bipush 12, 2) := by decide +kernel
theorem dX4_mostDeliverable_39 : decode cX4_mostDeliverable 39 = .ok (.idiv, 1) := by decide +kernel
theorem dX4_mostDeliverable_40 : decode cX4_mostDeliverable 40 = .ok (.aload_n 0, 1) := by decide +kernel
theorem dX4_mostDeliverable_41 : decode cX4_mostDeliverable 41 = .ok (.getfield 12, 3) := by decide +kernel
theorem dX4_mostDeliverable_44 : decode cX4_mostDeliverable 44 = .ok (.iconst 2, 1) := by decide +kernel
theorem dX4_mostDeliverable_45 : decode cX4_mostDeliverable 45 = .ok (.invokevirtual 33, 3) := by decide +kernel
theorem dX4_mostDeliverable_48 : decode cX4_mostDeliverable 48 = .ok (.invokestatic 65, 3) := by decide +kernel
theorem dX4_mostDeliverable_51 : decode cX4_mostDeliverable 51 = .ok (.istore 5, 2) := by decide +kernel
theorem dX4_mostDeliverable_53 : decode cX4_mostDeliverable 53 = .ok (.iload 5, 2) := by decide +kernel
theorem dX4_mostDeliverable_55 : decode cX4_mostDeliverable 55 = .ok (.iload 4, 2) := by decide +kernel
theorem dX4_mostDeliverable_57 : decode cX4_mostDeliverable 57 = .ok (.invokestatic 65, 3) := by decide +kernel
theorem dX4_mostDeliverable_60 : decode cX4_mostDeliverable 60 = .ok (.bipush 50, 2) := by decide +kernel
theorem dX4_mostDeliverable_62 : decode cX4_mostDeliverable 62 = .ok (.invokestatic 65, 3) := by decide +kernel
theorem dX4_mostDeliverable_65 : decode cX4_mostDeliverable 65 = .ok (.ireturn, 1) := by decide +kernel
set_option maxRecDepth 20000 in
theorem ggX4_mostCollectable_X4_emptiesOf : GoodIn wsX4_mostCollectable wsX4_emptiesOf := goodIn_r _ [10, 1, 11, 12, 13, 14, 15, 16, 17, 18, 19, 20, 21, 22, 23, 24, 25] (by decide +kernel) (by decide +kernel)
set_option maxRecDepth 20000 in
theorem gX4_mostCollectable_X4_emptiesOf : GoodIn wsX4_mostCollectable (wsV RX4 48 RX4 yX4_emptiesOf wsX4_emptiesOf) := goodIn_app (goodIn_of _ (by decide +kernel)) ggX4_mostCollectable_X4_emptiesOf
set_option maxRecDepth 20000 in
theorem ggX4_mostCollectable_X2_ofShop : GoodIn wsX4_mostCollectable wsX2_ofShop := goodIn_r _ [22, 15, 16, 17, 12, 18, 19, 25] (by decide +kernel) (by decide +kernel)
set_option maxRecDepth 20000 in
theorem gX4_mostCollectable_X2_ofShop_n36 : GoodIn wsX4_mostCollectable (wsX2_ofShop) := ggX4_mostCollectable_X2_ofShop
theorem dX4_mostCollectable_0 : decode cX4_mostCollectable 0 = .ok (.aload_n 0, 1) := by decide +kernel
theorem dX4_mostCollectable_1 : decode cX4_mostCollectable 1 = .ok (.iload_n 1, 1) := by decide +kernel
theorem dX4_mostCollectable_2 : decode cX4_mostCollectable 2 = .ok (.iload_n 2, 1) := by decide +kernel
theorem dX4_mostCollectable_3 : decode cX4_mostCollectable 3 = .ok (.invokevirtual 48, 3) := by decide +kernel
theorem dX4_mostCollectable_6 : decode cX4_mostCollectable 6 = .ok (.bipush 12, 2) := by decide +kernel
theorem dX4_mostCollectable_8 : decode cX4_mostCollectable 8 = .ok (.idiv, 1) := by decide +kernel
theorem dX4_mostCollectable_9 : decode cX4_mostCollectable 9 = .ok (.aload_n 0, 1) := by decide +kernel
theorem dX4_mostCollectable_10 : decode cX4_mostCollectable 10 = .ok (.getfield 12, 3) := by decide +kernel
theorem dX4_mostCollectable_13 : decode cX4_mostCollectable 13 = .ok (.iload_n 1, 1) := by decide +kernel
theorem dX4_mostCollectable_14 : decode cX4_mostCollectable 14 = .ok (.iconst 1, 1) := by decide +kernel
theorem dX4_mostCollectable_15 : decode cX4_mostCollectable 15 = .ok (.invokevirtual 36, 3) := by decide +kernel
theorem dX4_mostCollectable_18 : decode cX4_mostCollectable 18 = .ok (.invokestatic 65, 3) := by decide +kernel
theorem dX4_mostCollectable_21 : decode cX4_mostCollectable 21 = .ok (.istore_n 3, 1) := by decide +kernel
theorem dX4_mostCollectable_22 : decode cX4_mostCollectable 22 = .ok (.iload_n 3, 1) := by decide +kernel
theorem dX4_mostCollectable_23 : decode cX4_mostCollectable 23 = .ok (.bipush 50, 2) := by decide +kernel
theorem dX4_mostCollectable_25 : decode cX4_mostCollectable 25 = .ok (.invokestatic 65, 3) := by decide +kernel
theorem dX4_mostCollectable_28 : decode cX4_mostCollectable 28 = .ok (.ireturn, 1) := by decide +kernel
set_option maxRecDepth 20000 in
theorem ggX4_wouldCollect_X2_ofBrand : GoodIn wsX4_wouldCollect wsX2_ofBrand := goodIn_r _ [5, 6, 7, 8, 3, 9, 10, 41] (by decide +kernel) (by decide +kernel)
set_option maxRecDepth 20000 in
theorem gX4_wouldCollect_X2_ofBrand_n22 : GoodIn wsX4_wouldCollect (wsX2_ofBrand) := ggX4_wouldCollect_X2_ofBrand
set_option maxRecDepth 20000 in
theorem ggX4_wouldCollect_X4_collectReason : GoodIn wsX4_wouldCollect wsX4_collectReason := goodIn_r _ [15, 1, 16, 17, 18, 14, 19, 2, 3, 4, 5, 6, 7, 8, 9, 10, 20, 21, 22, 39, 40, 41] (by decide +kernel) (by decide +kernel)
set_option maxRecDepth 20000 in
theorem gX4_wouldCollect_X4_collectReason : GoodIn wsX4_wouldCollect (wsV RX4 92 RX4 yX4_collectReason wsX4_collectReason) := goodIn_app (goodIn_of _ (by decide +kernel)) ggX4_wouldCollect_X4_collectReason
set_option maxRecDepth 20000 in
theorem ggX4_wouldCollect_X4_pickEmpties : GoodIn wsX4_wouldCollect wsX4_pickEmpties := goodIn_r _ [26, 27, 1, 2, 3, 4, 5, 6, 7, 8, 9, 10, 20, 21, 22, 28, 29, 30, 14, 31, 39, 40, 41] (by decide +kernel) (by decide +kernel)
set_option maxRecDepth 20000 in
theorem gX4_wouldCollect_X4_pickEmpties : GoodIn wsX4_wouldCollect (wsV RX4 70 RX4 yX4_pickEmpties wsX4_pickEmpties) := goodIn_app (goodIn_of _ (by decide +kernel)) ggX4_wouldCollect_X4_pickEmpties
set_option maxRecDepth 20000 in
theorem ggX4_wouldCollect_X4_pickedOf : GoodIn wsX4_wouldCollect wsX4_pickedOf := goodIn_r _ [35, 1, 27, 20, 3, 21, 22, 6, 7, 8, 9, 10, 36, 37, 38, 39, 40, 41] (by decide +kernel) (by decide +kernel)
set_option maxRecDepth 20000 in
theorem gX4_wouldCollect_X4_pickedOf : GoodIn wsX4_wouldCollect (wsV RX4 73 RX4 yX4_pickedOf wsX4_pickedOf) := goodIn_app (goodIn_of _ (by decide +kernel)) ggX4_wouldCollect_X4_pickedOf
theorem dX4_wouldCollect_0 : decode cX4_wouldCollect 0 = .ok (.aload_n 0, 1) := by decide +kernel
theorem dX4_wouldCollect_1 : decode cX4_wouldCollect 1 = .ok (.getfield 12, 3) := by decide +kernel
theorem dX4_wouldCollect_4 : decode cX4_wouldCollect 4 = .ok (.iload_n 2, 1) := by decide +kernel
theorem dX4_wouldCollect_5 : decode cX4_wouldCollect 5 = .ok (.iconst 0, 1) := by decide +kernel
theorem dX4_wouldCollect_6 : decode cX4_wouldCollect 6 = .ok (.invokevirtual 22, 3) := by decide +kernel
theorem dX4_wouldCollect_9 : decode cX4_wouldCollect 9 = .ok (.istore 4, 2) := by decide +kernel
theorem dX4_wouldCollect_11 : decode cX4_wouldCollect 11 = .ok (.aload_n 0, 1) := by decide +kernel
theorem dX4_wouldCollect_12 : decode cX4_wouldCollect 12 = .ok (.iload_n 1, 1) := by decide +kernel
theorem dX4_wouldCollect_13 : decode cX4_wouldCollect 13 = .ok (.iload 4, 2) := by decide +kernel
theorem dX4_wouldCollect_15 : decode cX4_wouldCollect 15 = .ok (.iload_n 3, 1) := by decide +kernel
theorem dX4_wouldCollect_16 : decode cX4_wouldCollect 16 = .ok (.invokevirtual 92, 3) := by decide +kernel
theorem dX4_wouldCollect_19 : decode cX4_wouldCollect 19 = .ok (.ifCond .eq 5, 3) := by decide +kernel
theorem dX4_wouldCollect_22 : decode cX4_wouldCollect 22 = .ok (.iconst (-1), 1) := by decide +kernel
theorem dX4_wouldCollect_23 : decode cX4_wouldCollect 23 = .ok (.ireturn, 1) := by decide +kernel
theorem dX4_wouldCollect_24 : decode cX4_wouldCollect 24 = .ok (.aload_n 0, 1) := by decide +kernel
theorem dX4_wouldCollect_25 : decode cX4_wouldCollect 25 = .ok (.iload_n 1, 1) := by decide +kernel
theorem dX4_wouldCollect_26 : decode cX4_wouldCollect 26 = .ok (.iload 4, 2) := by decide +kernel
theorem dX4_wouldCollect_28 : decode cX4_wouldCollect 28 = .ok (.bipush 12, 2) := by decide +kernel
theorem dX4_wouldCollect_30 : decode cX4_wouldCollect 30 = .ok (.iload_n 3, 1) := by decide +kernel
theorem dX4_wouldCollect_31 : decode cX4_wouldCollect 31 = .ok (.imul, 1) := by decide +kernel
theorem dX4_wouldCollect_32 : decode cX4_wouldCollect 32 = .ok (.invokevirtual 70, 3) := by decide +kernel
theorem dX4_wouldCollect_35 : decode cX4_wouldCollect 35 = .ok (.aload_n 0, 1) := by decide +kernel
theorem dX4_wouldCollect_36 : decode cX4_wouldCollect 36 = .ok (.iload_n 1, 1) := by decide +kernel
theorem dX4_wouldCollect_37 : decode cX4_wouldCollect 37 = .ok (.iload_n 2, 1) := by decide +kernel
theorem dX4_wouldCollect_38 : decode cX4_wouldCollect 38 = .ok (.invokevirtual 73, 3) := by decide +kernel
theorem dX4_wouldCollect_41 : decode cX4_wouldCollect 41 = .ok (.ireturn, 1) := by decide +kernel
set_option maxRecDepth 20000 in
theorem ggX4_bestToCollect_X4_mostCollectable : GoodIn wsX4_bestToCollect wsX4_mostCollectable := goodIn_r _ [5, 6, 7, 8, 9, 10, 11, 12, 13, 4, 14, 15, 16, 17, 18, 19, 20, 21, 22, 23, 24, 25, 26, 27, 28, 29] (by decide +kernel) (by decide +kernel)
set_option maxRecDepth 20000 in
theorem gX4_bestToCollect_X4_mostCollectable : GoodIn wsX4_bestToCollect (wsV RX4 96 RX4 yX4_mostCollectable wsX4_mostCollectable) := goodIn_app (goodIn_of _ (by decide +kernel)) ggX4_bestToCollect_X4_mostCollectable
theorem dX4_bestToCollect_0 : decode cX4_bestToCollect 0 = .ok (.iconst (-1), 1) := by decide +kernel
theorem dX4_bestToCollect_1 : decode cX4_bestToCollect 1 = .ok (.istore_n 2, 1) := by decide +kernel
theorem dX4_bestToCollect_2 : decode cX4_bestToCollect 2 = .ok (.iconst 0, 1) := by decide +kernel
theorem dX4_bestToCollect_3 : decode cX4_bestToCollect 3 = .ok (.istore_n 3, 1) := by decide +kernel
theorem dX4_bestToCollect_4 : decode cX4_bestToCollect 4 = .ok (.iconst 0, 1) := by decide +kernel
theorem dX4_bestToCollect_5 : decode cX4_bestToCollect 5 = .ok (.istore 4, 2) := by decide +kernel
theorem dX4_bestToCollect_7 : decode cX4_bestToCollect 7 = .ok (.iload 4, 2) := by decide +kernel
theorem dX4_bestToCollect_9 : decode cX4_bestToCollect 9 = .ok (.bipush 6, 2) := by decide +kernel
theorem dX4_bestToCollect_11 : decode cX4_bestToCollect 11 = .ok (.if_icmp .ge 30, 3) := by decide +kernel
theorem dX4_bestToCollect_14 : decode cX4_bestToCollect 14 = .ok (.aload_n 0, 1) := by decide +kernel
theorem dX4_bestToCollect_15 : decode cX4_bestToCollect 15 = .ok (.iload 4, 2) := by decide +kernel
theorem dX4_bestToCollect_17 : decode cX4_bestToCollect 17 = .ok (.iload_n 1, 1) := by decide +kernel
theorem dX4_bestToCollect_18 : decode cX4_bestToCollect 18 = .ok (.invokevirtual 96, 3) := by decide +kernel
theorem dX4_bestToCollect_21 : decode cX4_bestToCollect 21 = .ok (.istore 5, 2) := by decide +kernel
theorem dX4_bestToCollect_23 : decode cX4_bestToCollect 23 = .ok (.iload 5, 2) := by decide +kernel
theorem dX4_bestToCollect_25 : decode cX4_bestToCollect 25 = .ok (.iload_n 3, 1) := by decide +kernel
theorem dX4_bestToCollect_26 : decode cX4_bestToCollect 26 = .ok (.if_icmp .le 9, 3) := by decide +kernel
theorem dX4_bestToCollect_29 : decode cX4_bestToCollect 29 = .ok (.iload 5, 2) := by decide +kernel
theorem dX4_bestToCollect_31 : decode cX4_bestToCollect 31 = .ok (.istore_n 3, 1) := by decide +kernel
theorem dX4_bestToCollect_32 : decode cX4_bestToCollect 32 = .ok (.iload 4, 2) := by decide +kernel
theorem dX4_bestToCollect_34 : decode cX4_bestToCollect 34 = .ok (.istore_n 2, 1) := by decide +kernel
theorem dX4_bestToCollect_35 : decode cX4_bestToCollect 35 = .ok (.iinc 4 1, 3) := by decide +kernel
theorem dX4_bestToCollect_38 : decode cX4_bestToCollect 38 = .ok (.goto (-31), 3) := by decide +kernel
theorem dX4_bestToCollect_41 : decode cX4_bestToCollect 41 = .ok (.iload_n 2, 1) := by decide +kernel
theorem dX4_bestToCollect_42 : decode cX4_bestToCollect 42 = .ok (.ireturn, 1) := by decide +kernel
set_option maxRecDepth 20000 in
theorem ggX5_init_X4_init : GoodIn wsX5_init wsX4_init := goodIn_r _ [22, 23, 2, 3, 24, 25, 26, 27, 28, 29, 30, 31, 32, 33, 34, 35, 36, 37, 38, 39, 40, 41, 42, 43, 44, 77, 59, 60] (by decide +kernel) (by decide +kernel)
set_option maxRecDepth 20000 in
theorem gX5_init_X4_init_n11 : GoodIn wsX5_init (wsX4_init) := ggX5_init_X4_init
set_option maxRecDepth 20000 in
theorem ggX5_init_X1_init : GoodIn wsX5_init wsX1_init := goodIn_r _ [46, 47, 2, 3, 48, 49, 25, 26, 30, 31, 32, 28, 33, 34, 35, 36, 37, 38, 39, 40, 41, 42, 43, 44, 66, 67, 68, 77] (by decide +kernel) (by decide +kernel)
set_option maxRecDepth 20000 in
theorem gX5_init_X1_init_n25 : GoodIn wsX5_init (wsX1_init) := ggX5_init_X1_init
set_option maxRecDepth 20000 in
theorem ggX5_init_X3_init : GoodIn wsX5_init wsX3_init := goodIn_r _ [51, 52, 2, 3, 28, 53, 54, 18, 19, 55, 56, 57, 58, 69, 70, 71, 72, 73, 74, 75, 76] (by decide +kernel) (by decide +kernel)
set_option maxRecDepth 20000 in
theorem gX5_init_X3_init_n32 : GoodIn wsX5_init (wsX3_init) := ggX5_init_X3_init
set_option maxRecDepth 20000 in
theorem ggX5_init_X0_init : GoodIn wsX5_init wsX0_init := goodIn_r _ [57, 58, 2, 3] (by decide +kernel) (by decide +kernel)
set_option maxRecDepth 20000 in
theorem gX5_init_X0_init_n39 : GoodIn wsX5_init (wsX0_init) := ggX5_init_X0_init
theorem dX5_init_0 : decode cX5_init 0 = .ok (.aload_n 0, 1) := by decide +kernel
theorem dX5_init_1 : decode cX5_init 1 = .ok (.invokespecial 3, 3) := by decide +kernel
theorem dX5_init_4 : decode cX5_init 4 = .ok (.aload_n 0, 1) := by decide +kernel
theorem dX5_init_5 : decode cX5_init 5 = .ok (.new 9, 3) := by decide +kernel
theorem dX5_init_8 : decode cX5_init 8 = .ok (.dup, 1) := by decide +kernel
theorem dX5_init_9 : decode cX5_init 9 = .ok (.invokespecial 11, 3) := by decide +kernel
theorem dX5_init_12 : decode cX5_init 12 = .ok (.putfield 12, 3) := by decide +kernel
theorem dX5_init_15 : decode cX5_init 15 = .ok (.aload_n 0, 1) := by decide +kernel
theorem dX5_init_16 : decode cX5_init 16 = .ok (.aload_n 0, 1) := by decide +kernel
theorem dX5_init_17 : decode cX5_init 17 = .ok (.getfield 12, 3) := by decide +kernel
theorem dX5_init_20 : decode cX5_init 20 = .ok (.getfield 16, 3) := by decide +kernel
theorem dX5_init_23 : decode cX5_init 23 = .ok (.putfield 20, 3) := by decide +kernel
theorem dX5_init_26 : decode cX5_init 26 = .ok (.aload_n 0, 1) := by decide +kernel
theorem dX5_init_27 : decode cX5_init 27 = .ok (.new 23, 3) := by decide +kernel
theorem dX5_init_30 : decode cX5_init 30 = .ok (.dup, 1) := by decide +kernel
theorem dX5_init_31 : decode cX5_init 31 = .ok (.invokespecial 25, 3) := by decide +kernel
theorem dX5_init_34 : decode cX5_init 34 = .ok (.putfield 26, 3) := by decide +kernel
theorem dX5_init_37 : decode cX5_init 37 = .ok (.aload_n 0, 1) := by decide +kernel
theorem dX5_init_38 : decode cX5_init 38 = .ok (.new 30, 3) := by decide +kernel
theorem dX5_init_41 : decode cX5_init 41 = .ok (.dup, 1) := by decide +kernel
theorem dX5_init_42 : decode cX5_init 42 = .ok (.invokespecial 32, 3) := by decide +kernel
theorem dX5_init_45 : decode cX5_init 45 = .ok (.putfield 33, 3) := by decide +kernel
theorem dX5_init_48 : decode cX5_init 48 = .ok (.aload_n 0, 1) := by decide +kernel
theorem dX5_init_49 : decode cX5_init 49 = .ok (.new 37, 3) := by decide +kernel
theorem dX5_init_52 : decode cX5_init 52 = .ok (.dup, 1) := by decide +kernel
theorem dX5_init_53 : decode cX5_init 53 = .ok (.invokespecial 39, 3) := by decide +kernel
theorem dX5_init_56 : decode cX5_init 56 = .ok (.putfield 40, 3) := by decide +kernel
theorem dX5_init_59 : decode cX5_init 59 = .ok (.return_, 1) := by decide +kernel
set_option maxRecDepth 20000 in
theorem ggX5_addBrand_X5_needKind : GoodIn wsX5_addBrand wsX5_needKind := goodIn_ca (goodIn_r _ [6, 7, 8, 5, 9, 10, 11, 12, 13, 14] (by decide +kernel) (by decide +kernel)) (goodIn_sub (fun _ h => List.mem_cons_of_mem _ (List.mem_append_left _ (List.mem_append_right _ h))) (by decide +kernel))
set_option maxRecDepth 20000 in
theorem gX5_addBrand_X5_needKind : GoodIn wsX5_addBrand (va_wsS RX5 44 yX5_needKind wsX5_needKind) := goodIn_app (goodIn_of _ (by decide +kernel)) ggX5_addBrand_X5_needKind
set_option maxRecDepth 20000 in
theorem ggX5_addBrand_X5_needRange : GoodIn wsX5_addBrand wsX5_needRange := goodIn_ca (goodIn_r _ [9, 10, 11, 5, 12, 13, 14] (by decide +kernel) (by decide +kernel)) (goodIn_sub (fun _ h => List.mem_cons_of_mem _ (List.mem_append_left _ (List.mem_append_right _ h))) (by decide +kernel))
set_option maxRecDepth 20000 in
theorem gX5_addBrand_X5_needRange : GoodIn wsX5_addBrand (va_wsS RX5 48 yX5_needRange wsX5_needRange) := goodIn_app (goodIn_of _ (by decide +kernel)) ggX5_addBrand_X5_needRange
set_option maxRecDepth 20000 in
theorem ggX5_addBrand_X2_ofAll : GoodIn wsX5_addBrand wsX2_ofAll := goodIn_r _ [18, 19, 20, 21, 16, 22, 23, 62] (by decide +kernel) (by decide +kernel)
set_option maxRecDepth 20000 in
theorem gX5_addBrand_X2_ofAll_n52 : GoodIn wsX5_addBrand (wsX2_ofAll) := ggX5_addBrand_X2_ofAll
set_option maxRecDepth 20000 in
theorem ggX5_addBrand_X5_needState : GoodIn wsX5_addBrand wsX5_needState := goodIn_ca (goodIn_r _ [26, 27, 28] (by decide +kernel) (by decide +kernel)) (goodIn_sub (fun _ h => List.mem_cons_of_mem _ (List.mem_append_right _ h)) (by decide +kernel))
set_option maxRecDepth 20000 in
theorem gX5_addBrand_X5_needState : GoodIn wsX5_addBrand (va_wsS RX5 58 yX5_needState wsX5_needState) := goodIn_app (goodIn_of _ (by decide +kernel)) ggX5_addBrand_X5_needState
set_option maxRecDepth 20000 in
theorem ggX5_addBrand_X1_keep : GoodIn wsX5_addBrand wsX1_keep := goodIn_r _ [32, 33, 34, 35, 36, 37, 30, 38, 39, 40, 16, 41, 42, 23, 43, 44, 45, 46, 63, 64, 65, 62] (by decide +kernel) (by decide +kernel)
set_option maxRecDepth 20000 in
theorem gX5_addBrand_X1_keep_n62 : GoodIn wsX5_addBrand (wsX1_keep) := ggX5_addBrand_X1_keep
set_option maxRecDepth 20000 in
theorem ggX5_addBrand_X2_addToAll : GoodIn wsX5_addBrand wsX2_addToAll := goodIn_r _ [49, 19, 20, 21, 16, 22, 23, 50, 51, 52, 53, 62] (by decide +kernel) (by decide +kernel)
set_option maxRecDepth 20000 in
theorem gX5_addBrand_X2_addToAll_n66 : GoodIn wsX5_addBrand (wsX2_addToAll) := ggX5_addBrand_X2_addToAll
set_option maxRecDepth 20000 in
theorem ggX5_addBrand_X2_addToBrand : GoodIn wsX5_addBrand wsX2_addToBrand := goodIn_r _ [56, 19, 20, 21, 16, 22, 23, 50, 51, 52, 53, 62] (by decide +kernel) (by decide +kernel)
set_option maxRecDepth 20000 in
theorem gX5_addBrand_X2_addToBrand_n70 : GoodIn wsX5_addBrand (wsX2_addToBrand) := ggX5_addBrand_X2_addToBrand
theorem dX5_addBrand_0 : decode cX5_addBrand 0 = .ok (.iload_n 1, 1) := by decide +kernel
theorem dX5_addBrand_1 : decode cX5_addBrand 1 = .ok (.invokestatic 44, 3) := by decide +kernel
theorem dX5_addBrand_4 : decode cX5_addBrand 4 = .ok (.iload_n 2, 1) := by decide +kernel
theorem dX5_addBrand_5 : decode cX5_addBrand 5 = .ok (.iconst 0, 1) := by decide +kernel
theorem dX5_addBrand_6 : decode cX5_addBrand 6 = .ok (.sipush 5000, 3) := by decide +kernel
theorem dX5_addBrand_9 : decode cX5_addBrand 9 = .ok (.invokestatic 48, 3) := by decide +kernel
theorem dX5_addBrand_12 : decode cX5_addBrand 12 = .ok (.aload_n 0, 1) := by decide +kernel
theorem dX5_addBrand_13 : decode cX5_addBrand 13 = .ok (.getfield 20, 3) := by decide +kernel
theorem dX5_addBrand_16 : decode cX5_addBrand 16 = .ok (.iconst 0, 1) := by decide +kernel
theorem dX5_addBrand_17 : decode cX5_addBrand 17 = .ok (.invokevirtual 52, 3) := by decide +kernel
theorem dX5_addBrand_20 : decode cX5_addBrand 20 = .ok (.istore_n 3, 1) := by decide +kernel
theorem dX5_addBrand_21 : decode cX5_addBrand 21 = .ok (.iload_n 3, 1) := by decide +kernel
theorem dX5_addBrand_22 : decode cX5_addBrand 22 = .ok (.bipush 8, 2) := by decide +kernel
theorem dX5_addBrand_24 : decode cX5_addBrand 24 = .ok (.if_icmp .ge 7, 3) := by decide +kernel
theorem dX5_addBrand_27 : decode cX5_addBrand 27 = .ok (.iconst 1, 1) := by decide +kernel
theorem dX5_addBrand_28 : decode cX5_addBrand 28 = .ok (.goto 4, 3) := by decide +kernel
theorem dX5_addBrand_31 : decode cX5_addBrand 31 = .ok (.iconst 0, 1) := by decide +kernel
theorem dX5_addBrand_32 : decode cX5_addBrand 32 = .ok (.invokestatic 58, 3) := by decide +kernel
theorem dX5_addBrand_35 : decode cX5_addBrand 35 = .ok (.aload_n 0, 1) := by decide +kernel
theorem dX5_addBrand_36 : decode cX5_addBrand 36 = .ok (.getfield 26, 3) := by decide +kernel
theorem dX5_addBrand_39 : decode cX5_addBrand 39 = .ok (.aload_n 0, 1) := by decide +kernel
theorem dX5_addBrand_40 : decode cX5_addBrand 40 = .ok (.getfield 20, 3) := by decide +kernel
theorem dX5_addBrand_43 : decode cX5_addBrand 43 = .ok (.invokevirtual 62, 3) := by decide +kernel
theorem dX5_addBrand_46 : decode cX5_addBrand 46 = .ok (.aload_n 0, 1) := by decide +kernel
theorem dX5_addBrand_47 : decode cX5_addBrand 47 = .ok (.getfield 20, 3) := by decide +kernel
theorem dX5_addBrand_50 : decode cX5_addBrand 50 = .ok (.iconst 0, 1) := by decide +kernel
theorem dX5_addBrand_51 : decode cX5_addBrand 51 = .ok (.iconst 1, 1) := by decide +kernel
theorem dX5_addBrand_52 : decode cX5_addBrand 52 = .ok (.invokevirtual 66, 3) := by decide +kernel
theorem dX5_addBrand_55 : decode cX5_addBrand 55 = .ok (.aload_n 0, 1) := by decide +kernel
theorem dX5_addBrand_56 : decode cX5_addBrand 56 = .ok (.getfield 20, 3) := by decide +kernel
theorem dX5_addBrand_59 : decode cX5_addBrand 59 = .ok (.iload_n 3, 1) := by decide +kernel
theorem dX5_addBrand_60 : decode cX5_addBrand 60 = .ok (.iconst 0, 1) := by decide +kernel
theorem dX5_addBrand_61 : decode cX5_addBrand 61 = .ok (.iload_n 1, 1) := by decide +kernel
theorem dX5_addBrand_62 : decode cX5_addBrand 62 = .ok (.invokevirtual 70, 3) := by decide +kernel
theorem dX5_addBrand_65 : decode cX5_addBrand 65 = .ok (.aload_n 0, 1) := by decide +kernel
theorem dX5_addBrand_66 : decode cX5_addBrand 66 = .ok (.getfield 20, 3) := by decide +kernel
theorem dX5_addBrand_69 : decode cX5_addBrand 69 = .ok (.iload_n 3, 1) := by decide +kernel
theorem dX5_addBrand_70 : decode cX5_addBrand 70 = .ok (.iconst 1, 1) := by decide +kernel
theorem dX5_addBrand_71 : decode cX5_addBrand 71 = .ok (.iload_n 2, 1) := by decide +kernel
theorem dX5_addBrand_72 : decode cX5_addBrand 72 = .ok (.invokevirtual 70, 3) := by decide +kernel
theorem dX5_addBrand_75 : decode cX5_addBrand 75 = .ok (.iload_n 3, 1) := by decide +kernel
theorem dX5_addBrand_76 : decode cX5_addBrand 76 = .ok (.ireturn, 1) := by decide +kernel
set_option maxRecDepth 20000 in
theorem ggX5_addShop_X5_needRange : GoodIn wsX5_addShop wsX5_needRange := goodIn_ca (goodIn_r _ [7, 8, 9, 6, 10, 11, 12] (by decide +kernel) (by decide +kernel)) (goodIn_sub (fun _ h => List.mem_cons_of_mem _ (List.mem_append_left _ (List.mem_append_right _ h))) (by decide +kernel))
set_option maxRecDepth 20000 in
theorem gX5_addShop_X5_needRange : GoodIn wsX5_addShop (va_wsS RX5 48 yX5_needRange wsX5_needRange) := goodIn_app (goodIn_of _ (by decide +kernel)) ggX5_addShop_X5_needRange
set_option maxRecDepth 20000 in
theorem ggX5_addShop_X2_ofAll : GoodIn wsX5_addShop wsX2_ofAll := goodIn_r _ [16, 17, 18, 19, 14, 20, 21, 60] (by decide +kernel) (by decide +kernel)
set_option maxRecDepth 20000 in
theorem gX5_addShop_X2_ofAll_n52 : GoodIn wsX5_addShop (wsX2_ofAll) := ggX5_addShop_X2_ofAll
set_option maxRecDepth 20000 in
theorem ggX5_addShop_X5_needState : GoodIn wsX5_addShop wsX5_needState := goodIn_ca (goodIn_r _ [24, 25, 26] (by decide +kernel) (by decide +kernel)) (goodIn_sub (fun _ h => List.mem_cons_of_mem _ (List.mem_append_right _ h)) (by decide +kernel))
set_option maxRecDepth 20000 in
theorem gX5_addShop_X5_needState : GoodIn wsX5_addShop (va_wsS RX5 58 yX5_needState wsX5_needState) := goodIn_app (goodIn_of _ (by decide +kernel)) ggX5_addShop_X5_needState
set_option maxRecDepth 20000 in
theorem ggX5_addShop_X1_keep : GoodIn wsX5_addShop wsX1_keep := goodIn_r _ [30, 31, 32, 33, 34, 35, 28, 36, 37, 38, 14, 39, 40, 21, 41, 42, 43, 44, 61, 62, 63, 60] (by decide +kernel) (by decide +kernel)
set_option maxRecDepth 20000 in
theorem gX5_addShop_X1_keep_n62 : GoodIn wsX5_addShop (wsX1_keep) := ggX5_addShop_X1_keep
set_option maxRecDepth 20000 in
theorem ggX5_addShop_X2_addToAll : GoodIn wsX5_addShop wsX2_addToAll := goodIn_r _ [47, 17, 18, 19, 14, 20, 21, 48, 49, 50, 51, 60] (by decide +kernel) (by decide +kernel)
set_option maxRecDepth 20000 in
theorem gX5_addShop_X2_addToAll_n66 : GoodIn wsX5_addShop (wsX2_addToAll) := ggX5_addShop_X2_addToAll
set_option maxRecDepth 20000 in
theorem ggX5_addShop_X2_addToShop : GoodIn wsX5_addShop wsX2_addToShop := goodIn_r _ [54, 17, 18, 19, 14, 20, 21, 48, 49, 50, 51, 60] (by decide +kernel) (by decide +kernel)
set_option maxRecDepth 20000 in
theorem gX5_addShop_X2_addToShop_n74 : GoodIn wsX5_addShop (wsX2_addToShop) := ggX5_addShop_X2_addToShop
theorem dX5_addShop_0 : decode cX5_addShop 0 = .ok (.iload_n 1, 1) := by decide +kernel
theorem dX5_addShop_1 : decode cX5_addShop 1 = .ok (.iconst 0, 1) := by decide +kernel
theorem dX5_addShop_2 : decode cX5_addShop 2 = .ok (.ldc 73, 2) := by decide +kernel
theorem dX5_addShop_4 : decode cX5_addShop 4 = .ok (.invokestatic 48, 3) := by decide +kernel
theorem dX5_addShop_7 : decode cX5_addShop 7 = .ok (.aload_n 0, 1) := by decide +kernel
theorem dX5_addShop_8 : decode cX5_addShop 8 = .ok (.getfield 20, 3) := by decide +kernel
theorem dX5_addShop_11 : decode cX5_addShop 11 = .ok (.iconst 1, 1) := by decide +kernel
theorem dX5_addShop_12 : decode cX5_addShop 12 = .ok (.invokevirtual 52, 3) := by decide +kernel
theorem dX5_addShop_15 : decode cX5_addShop 15 = .ok (.istore_n 2, 1) := by decide +kernel
theorem dX5_addShop_16 : decode cX5_addShop 16 = .ok (.iload_n 2, 1) := by decide +kernel
theorem dX5_addShop_17 : decode cX5_addShop 17 = .ok (.bipush 6, 2) := by decide +kernel
theorem dX5_addShop_19 : decode cX5_addShop 19 = .ok (.if_icmp .ge 7, 3) := by decide +kernel
theorem dX5_addShop_22 : decode cX5_addShop 22 = .ok (.iconst 1, 1) := by decide +kernel
theorem dX5_addShop_23 : decode cX5_addShop 23 = .ok (.goto 4, 3) := by decide +kernel
theorem dX5_addShop_26 : decode cX5_addShop 26 = .ok (.iconst 0, 1) := by decide +kernel
theorem dX5_addShop_27 : decode cX5_addShop 27 = .ok (.invokestatic 58, 3) := by decide +kernel
theorem dX5_addShop_30 : decode cX5_addShop 30 = .ok (.aload_n 0, 1) := by decide +kernel
theorem dX5_addShop_31 : decode cX5_addShop 31 = .ok (.getfield 26, 3) := by decide +kernel
theorem dX5_addShop_34 : decode cX5_addShop 34 = .ok (.aload_n 0, 1) := by decide +kernel
theorem dX5_addShop_35 : decode cX5_addShop 35 = .ok (.getfield 20, 3) := by decide +kernel
theorem dX5_addShop_38 : decode cX5_addShop 38 = .ok (.invokevirtual 62, 3) := by decide +kernel
theorem dX5_addShop_41 : decode cX5_addShop 41 = .ok (.aload_n 0, 1) := by decide +kernel
theorem dX5_addShop_42 : decode cX5_addShop 42 = .ok (.getfield 20, 3) := by decide +kernel
theorem dX5_addShop_45 : decode cX5_addShop 45 = .ok (.iconst 1, 1) := by decide +kernel
theorem dX5_addShop_46 : decode cX5_addShop 46 = .ok (.iconst 1, 1) := by decide +kernel
theorem dX5_addShop_47 : decode cX5_addShop 47 = .ok (.invokevirtual 66, 3) := by decide +kernel
theorem dX5_addShop_50 : decode cX5_addShop 50 = .ok (.aload_n 0, 1) := by decide +kernel
theorem dX5_addShop_51 : decode cX5_addShop 51 = .ok (.getfield 20, 3) := by decide +kernel
theorem dX5_addShop_54 : decode cX5_addShop 54 = .ok (.iload_n 2, 1) := by decide +kernel
theorem dX5_addShop_55 : decode cX5_addShop 55 = .ok (.iconst 0, 1) := by decide +kernel
theorem dX5_addShop_56 : decode cX5_addShop 56 = .ok (.iload_n 1, 1) := by decide +kernel
theorem dX5_addShop_57 : decode cX5_addShop 57 = .ok (.invokevirtual 74, 3) := by decide +kernel
theorem dX5_addShop_60 : decode cX5_addShop 60 = .ok (.iload_n 2, 1) := by decide +kernel
theorem dX5_addShop_61 : decode cX5_addShop 61 = .ok (.ireturn, 1) := by decide +kernel
set_option maxRecDepth 20000 in
theorem ggX5_buyCrates_X5_needRange : GoodIn wsX5_buyCrates wsX5_needRange := goodIn_ca (goodIn_r _ [6, 7, 8, 5, 9, 10, 11] (by decide +kernel) (by decide +kernel)) (goodIn_sub (fun _ h => List.mem_cons_of_mem _ (List.mem_append_left _ (List.mem_append_right _ h))) (by decide +kernel))
set_option maxRecDepth 20000 in
theorem gX5_buyCrates_X5_needRange : GoodIn wsX5_buyCrates (va_wsS RX5 48 yX5_needRange wsX5_needRange) := goodIn_app (goodIn_of _ (by decide +kernel)) ggX5_buyCrates_X5_needRange
set_option maxRecDepth 20000 in
theorem ggX5_buyCrates_X2_ofAll : GoodIn wsX5_buyCrates wsX2_ofAll := goodIn_r _ [15, 16, 17, 18, 13, 19, 20, 76] (by decide +kernel) (by decide +kernel)
set_option maxRecDepth 20000 in
theorem gX5_buyCrates_X2_ofAll_n52 : GoodIn wsX5_buyCrates (wsX2_ofAll) := ggX5_buyCrates_X2_ofAll
set_option maxRecDepth 20000 in
theorem ggX5_buyCrates_X2_countNumber : GoodIn wsX5_buyCrates wsX2_countNumber := goodIn_r _ [23, 24, 25, 26, 13, 27, 28, 29, 30, 31, 16, 17, 18, 19, 20, 32, 33, 34, 35, 36, 37, 38, 39, 40, 12, 14, 15, 76] (by decide +kernel) (by decide +kernel)
set_option maxRecDepth 20000 in
theorem gX5_buyCrates_X2_countNumber_n77 : GoodIn wsX5_buyCrates (wsX2_countNumber) := ggX5_buyCrates_X2_countNumber
set_option maxRecDepth 20000 in
theorem ggX5_buyCrates_X5_needState : GoodIn wsX5_buyCrates wsX5_needState := goodIn_ca (goodIn_r _ [43, 44, 45] (by decide +kernel) (by decide +kernel)) (goodIn_sub (fun _ h => List.mem_cons_of_mem _ (List.mem_append_right _ h)) (by decide +kernel))
set_option maxRecDepth 20000 in
theorem gX5_buyCrates_X5_needState : GoodIn wsX5_buyCrates (va_wsS RX5 58 yX5_needState wsX5_needState) := goodIn_app (goodIn_of _ (by decide +kernel)) ggX5_buyCrates_X5_needState
set_option maxRecDepth 20000 in
theorem ggX5_buyCrates_X1_keep : GoodIn wsX5_buyCrates wsX1_keep := goodIn_r _ [49, 50, 51, 52, 53, 54, 47, 55, 56, 57, 13, 58, 59, 20, 60, 61, 62, 63, 77, 78, 79, 76] (by decide +kernel) (by decide +kernel)
set_option maxRecDepth 20000 in
theorem gX5_buyCrates_X1_keep_n62 : GoodIn wsX5_buyCrates (wsX1_keep) := ggX5_buyCrates_X1_keep
set_option maxRecDepth 20000 in
theorem ggX5_buyCrates_X2_addToAll : GoodIn wsX5_buyCrates wsX2_addToAll := goodIn_r _ [66, 16, 17, 18, 13, 19, 20, 67, 68, 69, 70, 76] (by decide +kernel) (by decide +kernel)
set_option maxRecDepth 20000 in
theorem gX5_buyCrates_X2_addToAll_n66 : GoodIn wsX5_buyCrates (wsX2_addToAll) := ggX5_buyCrates_X2_addToAll
theorem dX5_buyCrates_0 : decode cX5_buyCrates 0 = .ok (.iload_n 1, 1) := by decide +kernel
theorem dX5_buyCrates_1 : decode cX5_buyCrates 1 = .ok (.iconst 1, 1) := by decide +kernel
theorem dX5_buyCrates_2 : decode cX5_buyCrates 2 = .ok (.sipush 500, 3) := by decide +kernel
theorem dX5_buyCrates_5 : decode cX5_buyCrates 5 = .ok (.invokestatic 48, 3) := by decide +kernel
theorem dX5_buyCrates_8 : decode cX5_buyCrates 8 = .ok (.aload_n 0, 1) := by decide +kernel
theorem dX5_buyCrates_9 : decode cX5_buyCrates 9 = .ok (.getfield 20, 3) := by decide +kernel
theorem dX5_buyCrates_12 : decode cX5_buyCrates 12 = .ok (.iconst 2, 1) := by decide +kernel
theorem dX5_buyCrates_13 : decode cX5_buyCrates 13 = .ok (.invokevirtual 52, 3) := by decide +kernel
theorem dX5_buyCrates_16 : decode cX5_buyCrates 16 = .ok (.aload_n 0, 1) := by decide +kernel
theorem dX5_buyCrates_17 : decode cX5_buyCrates 17 = .ok (.getfield 20, 3) := by decide +kernel
theorem dX5_buyCrates_20 : decode cX5_buyCrates 20 = .ok (.iconst 3, 1) := by decide +kernel
theorem dX5_buyCrates_21 : decode cX5_buyCrates 21 = .ok (.invokevirtual 77, 3) := by decide +kernel
theorem dX5_buyCrates_24 : decode cX5_buyCrates 24 = .ok (.iadd, 1) := by decide +kernel
theorem dX5_buyCrates_25 : decode cX5_buyCrates 25 = .ok (.iload_n 1, 1) := by decide +kernel
theorem dX5_buyCrates_26 : decode cX5_buyCrates 26 = .ok (.iadd, 1) := by decide +kernel
theorem dX5_buyCrates_27 : decode cX5_buyCrates 27 = .ok (.sipush 1000, 3) := by decide +kernel
theorem dX5_buyCrates_30 : decode cX5_buyCrates 30 = .ok (.if_icmp .gt 7, 3) := by decide +kernel
theorem dX5_buyCrates_33 : decode cX5_buyCrates 33 = .ok (.iconst 1, 1) := by decide +kernel
theorem dX5_buyCrates_34 : decode cX5_buyCrates 34 = .ok (.goto 4, 3) := by decide +kernel
theorem dX5_buyCrates_37 : decode cX5_buyCrates 37 = .ok (.iconst 0, 1) := by decide +kernel
theorem dX5_buyCrates_38 : decode cX5_buyCrates 38 = .ok (.invokestatic 58, 3) := by decide +kernel
theorem dX5_buyCrates_41 : decode cX5_buyCrates 41 = .ok (.aload_n 0, 1) := by decide +kernel
theorem dX5_buyCrates_42 : decode cX5_buyCrates 42 = .ok (.getfield 26, 3) := by decide +kernel
theorem dX5_buyCrates_45 : decode cX5_buyCrates 45 = .ok (.aload_n 0, 1) := by decide +kernel
theorem dX5_buyCrates_46 : decode cX5_buyCrates 46 = .ok (.getfield 20, 3) := by decide +kernel
theorem dX5_buyCrates_49 : decode cX5_buyCrates 49 = .ok (.invokevirtual 62, 3) := by decide +kernel
theorem dX5_buyCrates_52 : decode cX5_buyCrates 52 = .ok (.aload_n 0, 1) := by decide +kernel
theorem dX5_buyCrates_53 : decode cX5_buyCrates 53 = .ok (.getfield 20, 3) := by decide +kernel
theorem dX5_buyCrates_56 : decode cX5_buyCrates 56 = .ok (.iconst 2, 1) := by decide +kernel
theorem dX5_buyCrates_57 : decode cX5_buyCrates 57 = .ok (.iload_n 1, 1) := by decide +kernel
theorem dX5_buyCrates_58 : decode cX5_buyCrates 58 = .ok (.invokevirtual 66, 3) := by decide +kernel
theorem dX5_buyCrates_61 : decode cX5_buyCrates 61 = .ok (.aload_n 0, 1) := by decide +kernel
theorem dX5_buyCrates_62 : decode cX5_buyCrates 62 = .ok (.getfield 20, 3) := by decide +kernel
theorem dX5_buyCrates_65 : decode cX5_buyCrates 65 = .ok (.iconst 2, 1) := by decide +kernel
theorem dX5_buyCrates_66 : decode cX5_buyCrates 66 = .ok (.invokevirtual 52, 3) := by decide +kernel
theorem dX5_buyCrates_69 : decode cX5_buyCrates 69 = .ok (.ireturn, 1) := by decide +kernel
set_option maxRecDepth 20000 in
theorem ggX5_set_X5_needSetting : GoodIn wsX5_set wsX5_needSetting := goodIn_ca (goodIn_r _ [8, 9, 10] (by decide +kernel) (by decide +kernel)) (goodIn_sub (fun _ h => List.mem_cons_of_mem _ (List.mem_append_left _ (List.mem_append_left _ (List.mem_append_right _ h)))) (by decide +kernel))
set_option maxRecDepth 20000 in
theorem gX5_set_X5_needSetting : GoodIn wsX5_set (va_wsS RX5 80 yX5_needSetting wsX5_needSetting) := goodIn_app (goodIn_of _ (by decide +kernel)) ggX5_set_X5_needSetting
set_option maxRecDepth 20000 in
theorem ggX5_set_X5_entry : GoodIn wsX5_set wsX5_entry := goodIn_r _ [13] (by decide +kernel) (by decide +kernel)
set_option maxRecDepth 20000 in
theorem gX5_set_X5_entry : GoodIn wsX5_set (va_wsS RX5 87 yX5_entry wsX5_entry) := goodIn_app (goodIn_of _ (by decide +kernel)) ggX5_set_X5_entry
set_option maxRecDepth 20000 in
theorem ggX5_set_X5_needRange : GoodIn wsX5_set wsX5_needRange := goodIn_ca (goodIn_r _ [16, 17, 18, 7, 19, 20, 21] (by decide +kernel) (by decide +kernel)) (goodIn_sub (fun _ h => List.mem_cons_of_mem _ (List.mem_append_left _ (List.mem_append_right _ h))) (by decide +kernel))
set_option maxRecDepth 20000 in
theorem gX5_set_X5_needRange : GoodIn wsX5_set (va_wsS RX5 48 yX5_needRange wsX5_needRange) := goodIn_app (goodIn_of _ (by decide +kernel)) ggX5_set_X5_needRange
set_option maxRecDepth 20000 in
theorem ggX5_set_X2_ofAll : GoodIn wsX5_set wsX2_ofAll := goodIn_r _ [25, 26, 27, 28, 23, 29, 30, 69] (by decide +kernel) (by decide +kernel)
set_option maxRecDepth 20000 in
theorem gX5_set_X2_ofAll_n52 : GoodIn wsX5_set (wsX2_ofAll) := ggX5_set_X2_ofAll
set_option maxRecDepth 20000 in
theorem ggX5_set_X5_needState : GoodIn wsX5_set wsX5_needState := goodIn_ca (goodIn_r _ [33, 34, 35] (by decide +kernel) (by decide +kernel)) (goodIn_sub (fun _ h => List.mem_cons_of_mem _ (List.mem_append_right _ h)) (by decide +kernel))
set_option maxRecDepth 20000 in
theorem gX5_set_X5_needState : GoodIn wsX5_set (va_wsS RX5 58 yX5_needState wsX5_needState) := goodIn_app (goodIn_of _ (by decide +kernel)) ggX5_set_X5_needState
set_option maxRecDepth 20000 in
theorem ggX5_set_X1_keep : GoodIn wsX5_set wsX1_keep := goodIn_r _ [39, 40, 41, 42, 43, 44, 37, 45, 46, 47, 23, 48, 49, 30, 50, 51, 52, 53, 70, 71, 72, 69] (by decide +kernel) (by decide +kernel)
set_option maxRecDepth 20000 in
theorem gX5_set_X1_keep_n62 : GoodIn wsX5_set (wsX1_keep) := ggX5_set_X1_keep
set_option maxRecDepth 20000 in
theorem ggX5_set_X2_ofSetting : GoodIn wsX5_set wsX2_ofSetting := goodIn_r _ [56, 26, 27, 28, 23, 29, 30, 69] (by decide +kernel) (by decide +kernel)
set_option maxRecDepth 20000 in
theorem gX5_set_X2_ofSetting_n94 : GoodIn wsX5_set (wsX2_ofSetting) := ggX5_set_X2_ofSetting
set_option maxRecDepth 20000 in
theorem ggX5_set_X2_putSetting : GoodIn wsX5_set wsX2_putSetting := goodIn_r _ [59, 60, 61, 62, 23, 63, 30, 69] (by decide +kernel) (by decide +kernel)
set_option maxRecDepth 20000 in
theorem gX5_set_X2_putSetting_n97 : GoodIn wsX5_set (wsX2_putSetting) := ggX5_set_X2_putSetting
theorem dX5_set_0 : decode cX5_set 0 = .ok (.iload_n 1, 1) := by decide +kernel
theorem dX5_set_1 : decode cX5_set 1 = .ok (.invokestatic 80, 3) := by decide +kernel
theorem dX5_set_4 : decode cX5_set 4 = .ok (.iload_n 2, 1) := by decide +kernel
theorem dX5_set_5 : decode cX5_set 5 = .ok (.getstatic 83, 3) := by decide +kernel
theorem dX5_set_8 : decode cX5_set 8 = .ok (.iload_n 1, 1) := by decide +kernel
theorem dX5_set_9 : decode cX5_set 9 = .ok (.invokestatic 87, 3) := by decide +kernel
theorem dX5_set_12 : decode cX5_set 12 = .ok (.getstatic 91, 3) := by decide +kernel
theorem dX5_set_15 : decode cX5_set 15 = .ok (.iload_n 1, 1) := by decide +kernel
theorem dX5_set_16 : decode cX5_set 16 = .ok (.invokestatic 87, 3) := by decide +kernel
theorem dX5_set_19 : decode cX5_set 19 = .ok (.invokestatic 48, 3) := by decide +kernel
theorem dX5_set_22 : decode cX5_set 22 = .ok (.iload_n 1, 1) := by decide +kernel
theorem dX5_set_23 : decode cX5_set 23 = .ok (.iconst 3, 1) := by decide +kernel
theorem dX5_set_24 : decode cX5_set 24 = .ok (.if_icmp .gt 14, 3) := by decide +kernel
theorem dX5_set_27 : decode cX5_set 27 = .ok (.aload_n 0, 1) := by decide +kernel
theorem dX5_set_28 : decode cX5_set 28 = .ok (.getfield 20, 3) := by decide +kernel
theorem dX5_set_31 : decode cX5_set 31 = .ok (.iconst 4, 1) := by decide +kernel
theorem dX5_set_32 : decode cX5_set 32 = .ok (.invokevirtual 52, 3) := by decide +kernel
theorem dX5_set_35 : decode cX5_set 35 = .ok (.ifCond .ne 7, 3) := by decide +kernel
theorem dX5_set_38 : decode cX5_set 38 = .ok (.iconst 1, 1) := by decide +kernel
theorem dX5_set_39 : decode cX5_set 39 = .ok (.goto 4, 3) := by decide +kernel
theorem dX5_set_42 : decode cX5_set 42 = .ok (.iconst 0, 1) := by decide +kernel
theorem dX5_set_43 : decode cX5_set 43 = .ok (.invokestatic 58, 3) := by decide +kernel
theorem dX5_set_46 : decode cX5_set 46 = .ok (.aload_n 0, 1) := by decide +kernel
theorem dX5_set_47 : decode cX5_set 47 = .ok (.getfield 26, 3) := by decide +kernel
theorem dX5_set_50 : decode cX5_set 50 = .ok (.aload_n 0, 1) := by decide +kernel
theorem dX5_set_51 : decode cX5_set 51 = .ok (.getfield 20, 3) := by decide +kernel
theorem dX5_set_54 : decode cX5_set 54 = .ok (.invokevirtual 62, 3) := by decide +kernel
theorem dX5_set_57 : decode cX5_set 57 = .ok (.aload_n 0, 1) := by decide +kernel
theorem dX5_set_58 : decode cX5_set 58 = .ok (.getfield 20, 3) := by decide +kernel
theorem dX5_set_61 : decode cX5_set 61 = .ok (.iload_n 1, 1) := by decide +kernel
theorem dX5_set_62 : decode cX5_set 62 = .ok (.invokevirtual 94, 3) := by decide +kernel
theorem dX5_set_65 : decode cX5_set 65 = .ok (.istore_n 3, 1) := by decide +kernel
theorem dX5_set_66 : decode cX5_set 66 = .ok (.aload_n 0, 1) := by decide +kernel
theorem dX5_set_67 : decode cX5_set 67 = .ok (.getfield 20, 3) := by decide +kernel
theorem dX5_set_70 : decode cX5_set 70 = .ok (.iload_n 1, 1) := by decide +kernel
theorem dX5_set_71 : decode cX5_set 71 = .ok (.iload_n 2, 1) := by decide +kernel
theorem dX5_set_72 : decode cX5_set 72 = .ok (.invokevirtual 97, 3) := by decide +kernel
theorem dX5_set_75 : decode cX5_set 75 = .ok (.iload_n 3, 1) := by decide +kernel
theorem dX5_set_76 : decode cX5_set 76 = .ok (.ireturn, 1) := by decide +kernel
set_option maxRecDepth 20000 in
theorem ggX5_fill_X5_needBrand : GoodIn wsX5_fill wsX5_needBrand := goodIn_ca (goodIn_r _ [8, 9, 10, 11, 12, 13, 7, 14, 1, 15, 16, 17, 18, 19, 20, 21, 22, 23, 77, 78, 79, 80, 81, 82] (by decide +kernel) (by decide +kernel)) (goodIn_sub (fun _ h => List.mem_cons_of_mem _ (List.mem_append_left _ (List.mem_append_left _ (List.mem_append_right _ h)))) (by decide +kernel))
set_option maxRecDepth 20000 in
theorem gX5_fill_X5_needBrand : GoodIn wsX5_fill (wsV RX5 100 RX5 yX5_needBrand wsX5_needBrand) := goodIn_app (goodIn_of _ (by decide +kernel)) ggX5_fill_X5_needBrand
set_option maxRecDepth 20000 in
theorem ggX5_fill_X5_needRange : GoodIn wsX5_fill wsX5_needRange := goodIn_ca (goodIn_r _ [26, 27, 28, 7, 29, 30, 31] (by decide +kernel) (by decide +kernel)) (goodIn_sub (fun _ h => List.mem_cons_of_mem _ (List.mem_append_left _ (List.mem_append_right _ h))) (by decide +kernel))
end
section
set_option maxRecDepth 20000 in
theorem gX5_fill_X5_needRange : GoodIn wsX5_fill (va_wsS RX5 48 yX5_needRange wsX5_needRange) := goodIn_app (goodIn_of _ (by decide +kernel)) ggX5_fill_X5_needRange
set_option maxRecDepth 20000 in
theorem ggX5_fill_X2_ofBrand : GoodIn wsX5_fill wsX2_ofBrand := goodIn_r _ [34, 19, 20, 21, 16, 22, 23, 82] (by decide +kernel) (by decide +kernel)
set_option maxRecDepth 20000 in
theorem gX5_fill_X2_ofBrand_n103 : GoodIn wsX5_fill (wsX2_ofBrand) := ggX5_fill_X2_ofBrand
set_option maxRecDepth 20000 in
theorem ggX5_fill_X5_needState : GoodIn wsX5_fill wsX5_needState := goodIn_ca (goodIn_r _ [37, 38, 39] (by decide +kernel) (by decide +kernel)) (goodIn_sub (fun _ h => List.mem_cons_of_mem _ (List.mem_append_right _ h)) (by decide +kernel))
set_option maxRecDepth 20000 in
theorem gX5_fill_X5_needState : GoodIn wsX5_fill (va_wsS RX5 58 yX5_needState wsX5_needState) := goodIn_app (goodIn_of _ (by decide +kernel)) ggX5_fill_X5_needState
set_option maxRecDepth 20000 in
theorem ggX5_fill_X1_keep : GoodIn wsX5_fill wsX1_keep := goodIn_r _ [43, 44, 45, 46, 47, 48, 41, 49, 50, 51, 16, 52, 53, 23, 54, 55, 56, 57, 83, 84, 85, 82] (by decide +kernel) (by decide +kernel)
set_option maxRecDepth 20000 in
theorem gX5_fill_X1_keep_n62 : GoodIn wsX5_fill (wsX1_keep) := ggX5_fill_X1_keep
set_option maxRecDepth 20000 in
theorem ggX5_fill_X4_fillBottles : GoodIn wsX5_fill wsX4_fillBottles := goodIn_r _ [61, 62, 63, 64, 65, 59, 66, 67, 16, 68, 69, 19, 20, 21, 22, 23, 32, 33, 34, 70, 71, 72, 73, 74, 75, 76, 86, 87, 82] (by decide +kernel) (by decide +kernel)
set_option maxRecDepth 20000 in
theorem gX5_fill_X4_fillBottles_n107 : GoodIn wsX5_fill (wsX4_fillBottles) := ggX5_fill_X4_fillBottles
theorem dX5_fill_0 : decode cX5_fill 0 = .ok (.aload_n 0, 1) := by decide +kernel
theorem dX5_fill_1 : decode cX5_fill 1 = .ok (.iload_n 1, 1) := by decide +kernel
theorem dX5_fill_2 : decode cX5_fill 2 = .ok (.invokevirtual 100, 3) := by decide +kernel
theorem dX5_fill_5 : decode cX5_fill 5 = .ok (.iload_n 2, 1) := by decide +kernel
theorem dX5_fill_6 : decode cX5_fill 6 = .ok (.iconst 1, 1) := by decide +kernel
theorem dX5_fill_7 : decode cX5_fill 7 = .ok (.sipush 5000, 3) := by decide +kernel
theorem dX5_fill_10 : decode cX5_fill 10 = .ok (.invokestatic 48, 3) := by decide +kernel
theorem dX5_fill_13 : decode cX5_fill 13 = .ok (.aload_n 0, 1) := by decide +kernel
theorem dX5_fill_14 : decode cX5_fill 14 = .ok (.getfield 20, 3) := by decide +kernel
theorem dX5_fill_17 : decode cX5_fill 17 = .ok (.iload_n 1, 1) := by decide +kernel
theorem dX5_fill_18 : decode cX5_fill 18 = .ok (.iconst 1, 1) := by decide +kernel
theorem dX5_fill_19 : decode cX5_fill 19 = .ok (.invokevirtual 103, 3) := by decide +kernel
theorem dX5_fill_22 : decode cX5_fill 22 = .ok (.iload_n 2, 1) := by decide +kernel
theorem dX5_fill_23 : decode cX5_fill 23 = .ok (.if_icmp .lt 7, 3) := by decide +kernel
theorem dX5_fill_26 : decode cX5_fill 26 = .ok (.iconst 1, 1) := by decide +kernel
theorem dX5_fill_27 : decode cX5_fill 27 = .ok (.goto 4, 3) := by decide +kernel
theorem dX5_fill_30 : decode cX5_fill 30 = .ok (.iconst 0, 1) := by decide +kernel
theorem dX5_fill_31 : decode cX5_fill 31 = .ok (.invokestatic 58, 3) := by decide +kernel
theorem dX5_fill_34 : decode cX5_fill 34 = .ok (.aload_n 0, 1) := by decide +kernel
theorem dX5_fill_35 : decode cX5_fill 35 = .ok (.getfield 26, 3) := by decide +kernel
theorem dX5_fill_38 : decode cX5_fill 38 = .ok (.aload_n 0, 1) := by decide +kernel
theorem dX5_fill_39 : decode cX5_fill 39 = .ok (.getfield 20, 3) := by decide +kernel
theorem dX5_fill_42 : decode cX5_fill 42 = .ok (.invokevirtual 62, 3) := by decide +kernel
theorem dX5_fill_45 : decode cX5_fill 45 = .ok (.aload_n 0, 1) := by decide +kernel
theorem dX5_fill_46 : decode cX5_fill 46 = .ok (.getfield 12, 3) := by decide +kernel
theorem dX5_fill_49 : decode cX5_fill 49 = .ok (.iload_n 1, 1) := by decide +kernel
theorem dX5_fill_50 : decode cX5_fill 50 = .ok (.iload_n 2, 1) := by decide +kernel
theorem dX5_fill_51 : decode cX5_fill 51 = .ok (.invokevirtual 107, 3) := by decide +kernel
theorem dX5_fill_54 : decode cX5_fill 54 = .ok (.ireturn, 1) := by decide +kernel
set_option maxRecDepth 20000 in
theorem ggX5_deliver_X5_needBrand : GoodIn wsX5_deliver wsX5_needBrand := goodIn_ca (goodIn_r _ [8, 9, 10, 11, 12, 13, 7, 14, 3, 15, 16, 17, 18, 19, 20, 21, 22, 23, 101, 102, 103, 104, 105, 106] (by decide +kernel) (by decide +kernel)) (goodIn_sub (fun _ h => List.mem_cons_of_mem _ (List.mem_append_left _ (List.mem_append_left _ (List.mem_append_right _ h)))) (by decide +kernel))
set_option maxRecDepth 20000 in
theorem gX5_deliver_X5_needBrand : GoodIn wsX5_deliver (wsV RX5 100 RX5 yX5_needBrand wsX5_needBrand) := goodIn_app (goodIn_of _ (by decide +kernel)) ggX5_deliver_X5_needBrand
set_option maxRecDepth 20000 in
theorem ggX5_deliver_X5_needShop : GoodIn wsX5_deliver wsX5_needShop := goodIn_ca (goodIn_r _ [27, 9, 10, 28, 29, 30, 7, 31, 3, 15, 16, 17, 18, 19, 20, 21, 22, 23, 101, 102, 103, 104, 105, 106] (by decide +kernel) (by decide +kernel)) (goodIn_sub (fun _ h => List.mem_cons_of_mem _ (List.mem_append_left _ (List.mem_append_left _ (List.mem_append_right _ h)))) (by decide +kernel))
set_option maxRecDepth 20000 in
theorem gX5_deliver_X5_needShop : GoodIn wsX5_deliver (wsV RX5 110 RX5 yX5_needShop wsX5_needShop) := goodIn_app (goodIn_of _ (by decide +kernel)) ggX5_deliver_X5_needShop
set_option maxRecDepth 20000 in
theorem ggX5_deliver_X5_needRange : GoodIn wsX5_deliver wsX5_needRange := goodIn_ca (goodIn_r _ [34, 35, 36, 7, 37, 38, 39] (by decide +kernel) (by decide +kernel)) (goodIn_sub (fun _ h => List.mem_cons_of_mem _ (List.mem_append_left _ (List.mem_append_right _ h))) (by decide +kernel))
set_option maxRecDepth 20000 in
theorem gX5_deliver_X5_needRange : GoodIn wsX5_deliver (va_wsS RX5 48 yX5_needRange wsX5_needRange) := goodIn_app (goodIn_of _ (by decide +kernel)) ggX5_deliver_X5_needRange
set_option maxRecDepth 20000 in
theorem ggX5_deliver_X4_deliverReason : GoodIn wsX5_deliver wsX4_deliverReason := goodIn_r _ [43, 44, 45, 16, 46, 47, 19, 20, 21, 22, 23, 15, 17, 18, 48, 49, 50, 51, 52, 53, 41, 54, 55, 56, 57, 58, 59, 60, 61, 107, 108, 106] (by decide +kernel) (by decide +kernel)
set_option maxRecDepth 20000 in
theorem gX5_deliver_X4_deliverReason_n113 : GoodIn wsX5_deliver (wsX4_deliverReason) := ggX5_deliver_X4_deliverReason
set_option maxRecDepth 20000 in
theorem ggX5_deliver_X5_needState : GoodIn wsX5_deliver wsX5_needState := goodIn_ca (goodIn_r _ [64, 65, 66] (by decide +kernel) (by decide +kernel)) (goodIn_sub (fun _ h => List.mem_cons_of_mem _ (List.mem_append_right _ h)) (by decide +kernel))
set_option maxRecDepth 20000 in
theorem gX5_deliver_X5_needState : GoodIn wsX5_deliver (va_wsS RX5 58 yX5_needState wsX5_needState) := goodIn_app (goodIn_of _ (by decide +kernel)) ggX5_deliver_X5_needState
set_option maxRecDepth 20000 in
theorem ggX5_deliver_X1_keep : GoodIn wsX5_deliver wsX1_keep := goodIn_r _ [70, 71, 72, 73, 74, 75, 68, 76, 77, 78, 16, 79, 80, 23, 81, 82, 83, 84, 109, 110, 111, 106] (by decide +kernel) (by decide +kernel)
set_option maxRecDepth 20000 in
theorem gX5_deliver_X1_keep_n62 : GoodIn wsX5_deliver (wsX1_keep) := ggX5_deliver_X1_keep
set_option maxRecDepth 20000 in
theorem ggX5_deliver_X4_deliverCrates : GoodIn wsX5_deliver wsX4_deliverCrates := goodIn_r _ [87, 44, 45, 16, 46, 47, 19, 20, 21, 22, 23, 55, 56, 57, 41, 58, 59, 60, 61, 88, 89, 90, 91, 92, 93, 94, 95, 96, 97, 98, 99, 100, 107, 108, 106] (by decide +kernel) (by decide +kernel)
set_option maxRecDepth 20000 in
theorem gX5_deliver_X4_deliverCrates_n117 : GoodIn wsX5_deliver (wsX4_deliverCrates) := ggX5_deliver_X4_deliverCrates
theorem dX5_deliver_0 : decode cX5_deliver 0 = .ok (.aload_n 0, 1) := by decide +kernel
theorem dX5_deliver_1 : decode cX5_deliver 1 = .ok (.iload_n 1, 1) := by decide +kernel
theorem dX5_deliver_2 : decode cX5_deliver 2 = .ok (.invokevirtual 100, 3) := by decide +kernel
theorem dX5_deliver_5 : decode cX5_deliver 5 = .ok (.aload_n 0, 1) := by decide +kernel
theorem dX5_deliver_6 : decode cX5_deliver 6 = .ok (.iload_n 2, 1) := by decide +kernel
theorem dX5_deliver_7 : decode cX5_deliver 7 = .ok (.invokevirtual 110, 3) := by decide +kernel
theorem dX5_deliver_10 : decode cX5_deliver 10 = .ok (.iload_n 3, 1) := by decide +kernel
theorem dX5_deliver_11 : decode cX5_deliver 11 = .ok (.iconst 1, 1) := by decide +kernel
theorem dX5_deliver_12 : decode cX5_deliver 12 = .ok (.bipush 50, 2) := by decide +kernel
theorem dX5_deliver_14 : decode cX5_deliver 14 = .ok (.invokestatic 48, 3) := by decide +kernel
theorem dX5_deliver_17 : decode cX5_deliver 17 = .ok (.aload_n 0, 1) := by decide +kernel
theorem dX5_deliver_18 : decode cX5_deliver 18 = .ok (.getfield 12, 3) := by decide +kernel
theorem dX5_deliver_21 : decode cX5_deliver 21 = .ok (.iload_n 1, 1) := by decide +kernel
theorem dX5_deliver_22 : decode cX5_deliver 22 = .ok (.iload_n 2, 1) := by decide +kernel
theorem dX5_deliver_23 : decode cX5_deliver 23 = .ok (.iload_n 3, 1) := by decide +kernel
theorem dX5_deliver_24 : decode cX5_deliver 24 = .ok (.invokevirtual 113, 3) := by decide +kernel
theorem dX5_deliver_27 : decode cX5_deliver 27 = .ok (.ifCond .ne 7, 3) := by decide +kernel
theorem dX5_deliver_30 : decode cX5_deliver 30 = .ok (.iconst 1, 1) := by decide +kernel
theorem dX5_deliver_31 : decode cX5_deliver 31 = .ok (.goto 4, 3) := by decide +kernel
theorem dX5_deliver_34 : decode cX5_deliver 34 = .ok (.iconst 0, 1) := by decide +kernel
theorem dX5_deliver_35 : decode cX5_deliver 35 = .ok (.invokestatic 58, 3) := by decide +kernel
theorem dX5_deliver_38 : decode cX5_deliver 38 = .ok (.aload_n 0, 1) := by decide +kernel
theorem dX5_deliver_39 : decode cX5_deliver 39 = .ok (.getfield 26, 3) := by decide +kernel
theorem dX5_deliver_42 : decode cX5_deliver 42 = .ok (.aload_n 0, 1) := by decide +kernel
theorem dX5_deliver_43 : decode cX5_deliver 43 = .ok (.getfield 20, 3) := by decide +kernel
theorem dX5_deliver_46 : decode cX5_deliver 46 = .ok (.invokevirtual 62, 3) := by decide +kernel
theorem dX5_deliver_49 : decode cX5_deliver 49 = .ok (.aload_n 0, 1) := by decide +kernel
theorem dX5_deliver_50 : decode cX5_deliver 50 = .ok (.getfield 12, 3) := by decide +kernel
theorem dX5_deliver_53 : decode cX5_deliver 53 = .ok (.iload_n 1, 1) := by decide +kernel
theorem dX5_deliver_54 : decode cX5_deliver 54 = .ok (.iload_n 2, 1) := by decide +kernel
theorem dX5_deliver_55 : decode cX5_deliver 55 = .ok (.iload_n 3, 1) := by decide +kernel
theorem dX5_deliver_56 : decode cX5_deliver 56 = .ok (.invokevirtual 117, 3) := by decide +kernel
theorem dX5_deliver_59 : decode cX5_deliver 59 = .ok (.ireturn, 1) := by decide +kernel
set_option maxRecDepth 20000 in
theorem ggX5_sell_X5_needShop : GoodIn wsX5_sell wsX5_needShop := goodIn_ca (goodIn_r _ [8, 9, 10, 11, 12, 13, 7, 14, 3, 15, 16, 17, 18, 19, 20, 21, 22, 23, 97, 98, 99, 100, 101, 102] (by decide +kernel) (by decide +kernel)) (goodIn_sub (fun _ h => List.mem_cons_of_mem _ (List.mem_append_left _ (List.mem_append_left _ (List.mem_append_right _ h)))) (by decide +kernel))
set_option maxRecDepth 20000 in
theorem gX5_sell_X5_needShop : GoodIn wsX5_sell (wsV RX5 110 RX5 yX5_needShop wsX5_needShop) := goodIn_app (goodIn_of _ (by decide +kernel)) ggX5_sell_X5_needShop
set_option maxRecDepth 20000 in
theorem ggX5_sell_X5_needBrand : GoodIn wsX5_sell wsX5_needBrand := goodIn_ca (goodIn_r _ [27, 9, 10, 28, 29, 30, 7, 31, 3, 15, 16, 17, 18, 19, 20, 21, 22, 23, 97, 98, 99, 100, 101, 102] (by decide +kernel) (by decide +kernel)) (goodIn_sub (fun _ h => List.mem_cons_of_mem _ (List.mem_append_left _ (List.mem_append_left _ (List.mem_append_right _ h)))) (by decide +kernel))
set_option maxRecDepth 20000 in
theorem gX5_sell_X5_needBrand : GoodIn wsX5_sell (wsV RX5 100 RX5 yX5_needBrand wsX5_needBrand) := goodIn_app (goodIn_of _ (by decide +kernel)) ggX5_sell_X5_needBrand
set_option maxRecDepth 20000 in
theorem ggX5_sell_X5_needRange : GoodIn wsX5_sell wsX5_needRange := goodIn_ca (goodIn_r _ [34, 35, 36, 7, 37, 38, 39] (by decide +kernel) (by decide +kernel)) (goodIn_sub (fun _ h => List.mem_cons_of_mem _ (List.mem_append_left _ (List.mem_append_right _ h))) (by decide +kernel))
set_option maxRecDepth 20000 in
theorem gX5_sell_X5_needRange : GoodIn wsX5_sell (va_wsS RX5 48 yX5_needRange wsX5_needRange) := goodIn_app (goodIn_of _ (by decide +kernel)) ggX5_sell_X5_needRange
set_option maxRecDepth 20000 in
theorem ggX5_sell_X4_sellReason : GoodIn wsX5_sell wsX4_sellReason := goodIn_r _ [43, 44, 45, 16, 46, 47, 19, 20, 21, 22, 23, 48, 49, 41, 50, 103, 104, 102] (by decide +kernel) (by decide +kernel)
set_option maxRecDepth 20000 in
theorem gX5_sell_X4_sellReason_n120 : GoodIn wsX5_sell (wsX4_sellReason) := ggX5_sell_X4_sellReason
set_option maxRecDepth 20000 in
theorem ggX5_sell_X5_needState : GoodIn wsX5_sell wsX5_needState := goodIn_ca (goodIn_r _ [53, 54, 55] (by decide +kernel) (by decide +kernel)) (goodIn_sub (fun _ h => List.mem_cons_of_mem _ (List.mem_append_right _ h)) (by decide +kernel))
set_option maxRecDepth 20000 in
theorem gX5_sell_X5_needState : GoodIn wsX5_sell (va_wsS RX5 58 yX5_needState wsX5_needState) := goodIn_app (goodIn_of _ (by decide +kernel)) ggX5_sell_X5_needState
set_option maxRecDepth 20000 in
theorem ggX5_sell_X1_keep : GoodIn wsX5_sell wsX1_keep := goodIn_r _ [59, 60, 61, 62, 63, 64, 57, 65, 66, 67, 16, 68, 69, 23, 70, 71, 72, 73, 105, 106, 107, 102] (by decide +kernel) (by decide +kernel)
set_option maxRecDepth 20000 in
theorem gX5_sell_X1_keep_n62 : GoodIn wsX5_sell (wsX1_keep) := ggX5_sell_X1_keep
set_option maxRecDepth 20000 in
theorem ggX5_sell_X4_sellBottles : GoodIn wsX5_sell wsX4_sellBottles := goodIn_r _ [76, 44, 77, 16, 78, 79, 19, 20, 21, 22, 23, 80, 81, 82, 83, 84, 85, 86, 87, 88, 89, 41, 90, 91, 92, 93, 94, 95, 96, 45, 46, 47, 103, 104, 102] (by decide +kernel) (by decide +kernel)
set_option maxRecDepth 20000 in
theorem gX5_sell_X4_sellBottles_n123 : GoodIn wsX5_sell (wsX4_sellBottles) := ggX5_sell_X4_sellBottles
theorem dX5_sell_0 : decode cX5_sell 0 = .ok (.aload_n 0, 1) := by decide +kernel
theorem dX5_sell_1 : decode cX5_sell 1 = .ok (.iload_n 1, 1) := by decide +kernel
theorem dX5_sell_2 : decode cX5_sell 2 = .ok (.invokevirtual 110, 3) := by decide +kernel
theorem dX5_sell_5 : decode cX5_sell 5 = .ok (.aload_n 0, 1) := by decide +kernel
theorem dX5_sell_6 : decode cX5_sell 6 = .ok (.iload_n 2, 1) := by decide +kernel
theorem dX5_sell_7 : decode cX5_sell 7 = .ok (.invokevirtual 100, 3) := by decide +kernel
theorem dX5_sell_10 : decode cX5_sell 10 = .ok (.iload_n 3, 1) := by decide +kernel
theorem dX5_sell_11 : decode cX5_sell 11 = .ok (.iconst 1, 1) := by decide +kernel
theorem dX5_sell_12 : decode cX5_sell 12 = .ok (.sipush 500, 3) := by decide +kernel
theorem dX5_sell_15 : decode cX5_sell 15 = .ok (.invokestatic 48, 3) := by decide +kernel
theorem dX5_sell_18 : decode cX5_sell 18 = .ok (.aload_n 0, 1) := by decide +kernel
theorem dX5_sell_19 : decode cX5_sell 19 = .ok (.getfield 12, 3) := by decide +kernel
theorem dX5_sell_22 : decode cX5_sell 22 = .ok (.iload_n 1, 1) := by decide +kernel
theorem dX5_sell_23 : decode cX5_sell 23 = .ok (.iload_n 2, 1) := by decide +kernel
theorem dX5_sell_24 : decode cX5_sell 24 = .ok (.iload_n 3, 1) := by decide +kernel
theorem dX5_sell_25 : decode cX5_sell 25 = .ok (.invokevirtual 120, 3) := by decide +kernel
theorem dX5_sell_28 : decode cX5_sell 28 = .ok (.ifCond .ne 7, 3) := by decide +kernel
theorem dX5_sell_31 : decode cX5_sell 31 = .ok (.iconst 1, 1) := by decide +kernel
theorem dX5_sell_32 : decode cX5_sell 32 = .ok (.goto 4, 3) := by decide +kernel
theorem dX5_sell_35 : decode cX5_sell 35 = .ok (.iconst 0, 1) := by decide +kernel
theorem dX5_sell_36 : decode cX5_sell 36 = .ok (.invokestatic 58, 3) := by decide +kernel
theorem dX5_sell_39 : decode cX5_sell 39 = .ok (.aload_n 0, 1) := by decide +kernel
theorem dX5_sell_40 : decode cX5_sell 40 = .ok (.getfield 26, 3) := by decide +kernel
theorem dX5_sell_43 : decode cX5_sell 43 = .ok (.aload_n 0, 1) := by decide +kernel
theorem dX5_sell_44 : decode cX5_sell 44 = .ok (.getfield 20, 3) := by decide +kernel
theorem dX5_sell_47 : decode cX5_sell 47 = .ok (.invokevirtual 62, 3) := by decide +kernel
theorem dX5_sell_50 : decode cX5_sell 50 = .ok (.aload_n 0, 1) := by decide +kernel
theorem dX5_sell_51 : decode cX5_sell 51 = .ok (.getfield 12, 3) := by decide +kernel
theorem dX5_sell_54 : decode cX5_sell 54 = .ok (.iload_n 1, 1) := by decide +kernel
theorem dX5_sell_55 : decode cX5_sell 55 = .ok (.iload_n 2, 1) := by decide +kernel
theorem dX5_sell_56 : decode cX5_sell 56 = .ok (.iload_n 3, 1) := by decide +kernel
theorem dX5_sell_57 : decode cX5_sell 57 = .ok (.invokevirtual 123, 3) := by decide +kernel
theorem dX5_sell_60 : decode cX5_sell 60 = .ok (.ireturn, 1) := by decide +kernel
set_option maxRecDepth 20000 in
theorem ggX5_takeBack_X5_needShop : GoodIn wsX5_takeBack wsX5_needShop := goodIn_ca (goodIn_r _ [8, 9, 10, 11, 12, 13, 7, 14, 3, 15, 16, 17, 18, 19, 20, 21, 22, 23, 94, 95, 96, 97, 98, 99] (by decide +kernel) (by decide +kernel)) (goodIn_sub (fun _ h => List.mem_cons_of_mem _ (List.mem_append_left _ (List.mem_append_left _ (List.mem_append_right _ h)))) (by decide +kernel))
set_option maxRecDepth 20000 in
theorem gX5_takeBack_X5_needShop : GoodIn wsX5_takeBack (wsV RX5 110 RX5 yX5_needShop wsX5_needShop) := goodIn_app (goodIn_of _ (by decide +kernel)) ggX5_takeBack_X5_needShop
set_option maxRecDepth 20000 in
theorem ggX5_takeBack_X5_needBrand : GoodIn wsX5_takeBack wsX5_needBrand := goodIn_ca (goodIn_r _ [27, 9, 10, 28, 29, 30, 7, 31, 3, 15, 16, 17, 18, 19, 20, 21, 22, 23, 94, 95, 96, 97, 98, 99] (by decide +kernel) (by decide +kernel)) (goodIn_sub (fun _ h => List.mem_cons_of_mem _ (List.mem_append_left _ (List.mem_append_left _ (List.mem_append_right _ h)))) (by decide +kernel))
set_option maxRecDepth 20000 in
theorem gX5_takeBack_X5_needBrand : GoodIn wsX5_takeBack (wsV RX5 100 RX5 yX5_needBrand wsX5_needBrand) := goodIn_app (goodIn_of _ (by decide +kernel)) ggX5_takeBack_X5_needBrand
set_option maxRecDepth 20000 in
theorem ggX5_takeBack_X5_needRange : GoodIn wsX5_takeBack wsX5_needRange := goodIn_ca (goodIn_r _ [34, 35, 36, 7, 37, 38, 39] (by decide +kernel) (by decide +kernel)) (goodIn_sub (fun _ h => List.mem_cons_of_mem _ (List.mem_append_left _ (List.mem_append_right _ h))) (by decide +kernel))
set_option maxRecDepth 20000 in
theorem gX5_takeBack_X5_needRange : GoodIn wsX5_takeBack (va_wsS RX5 48 yX5_needRange wsX5_needRange) := goodIn_app (goodIn_of _ (by decide +kernel)) ggX5_takeBack_X5_needRange
set_option maxRecDepth 20000 in
theorem ggX5_takeBack_X4_returnReason : GoodIn wsX5_takeBack wsX4_returnReason := goodIn_r _ [43, 44, 45, 16, 46, 47, 19, 20, 21, 22, 23, 48, 49, 50, 51, 52, 53, 41, 54, 55, 56, 57, 100, 101, 99] (by decide +kernel) (by decide +kernel)
set_option maxRecDepth 20000 in
theorem gX5_takeBack_X4_returnReason_n126 : GoodIn wsX5_takeBack (wsX4_returnReason) := ggX5_takeBack_X4_returnReason
set_option maxRecDepth 20000 in
theorem ggX5_takeBack_X5_needState : GoodIn wsX5_takeBack wsX5_needState := goodIn_ca (goodIn_r _ [60, 61, 62] (by decide +kernel) (by decide +kernel)) (goodIn_sub (fun _ h => List.mem_cons_of_mem _ (List.mem_append_right _ h)) (by decide +kernel))
set_option maxRecDepth 20000 in
theorem gX5_takeBack_X5_needState : GoodIn wsX5_takeBack (va_wsS RX5 58 yX5_needState wsX5_needState) := goodIn_app (goodIn_of _ (by decide +kernel)) ggX5_takeBack_X5_needState
set_option maxRecDepth 20000 in
theorem ggX5_takeBack_X1_keep : GoodIn wsX5_takeBack wsX1_keep := goodIn_r _ [66, 67, 68, 69, 70, 71, 64, 72, 73, 74, 16, 75, 76, 23, 77, 78, 79, 80, 102, 103, 104, 99] (by decide +kernel) (by decide +kernel)
set_option maxRecDepth 20000 in
theorem gX5_takeBack_X1_keep_n62 : GoodIn wsX5_takeBack (wsX1_keep) := ggX5_takeBack_X1_keep
set_option maxRecDepth 20000 in
theorem ggX5_takeBack_X4_returnBottles : GoodIn wsX5_takeBack wsX4_returnBottles := goodIn_r _ [83, 44, 84, 16, 85, 86, 19, 20, 21, 22, 23, 87, 88, 89, 90, 91, 92, 93, 51, 52, 53, 41, 54, 45, 46, 47, 55, 56, 57, 48, 49, 50, 100, 101, 99] (by decide +kernel) (by decide +kernel)
set_option maxRecDepth 20000 in
theorem gX5_takeBack_X4_returnBottles_n129 : GoodIn wsX5_takeBack (wsX4_returnBottles) := ggX5_takeBack_X4_returnBottles
theorem dX5_takeBack_0 : decode cX5_takeBack 0 = .ok (.aload_n 0, 1) := by decide +kernel
theorem dX5_takeBack_1 : decode cX5_takeBack 1 = .ok (.iload_n 1, 1) := by decide +kernel
theorem dX5_takeBack_2 : decode cX5_takeBack 2 = .ok (.invokevirtual 110, 3) := by decide +kernel
theorem dX5_takeBack_5 : decode cX5_takeBack 5 = .ok (.aload_n 0, 1) := by decide +kernel
theorem dX5_takeBack_6 : decode cX5_takeBack 6 = .ok (.iload_n 2, 1) := by decide +kernel
theorem dX5_takeBack_7 : decode cX5_takeBack 7 = .ok (.invokevirtual 100, 3) := by decide +kernel
theorem dX5_takeBack_10 : decode cX5_takeBack 10 = .ok (.iload_n 3, 1) := by decide +kernel
theorem dX5_takeBack_11 : decode cX5_takeBack 11 = .ok (.iconst 1, 1) := by decide +kernel
theorem dX5_takeBack_12 : decode cX5_takeBack 12 = .ok (.sipush 500, 3) := by decide +kernel
theorem dX5_takeBack_15 : decode cX5_takeBack 15 = .ok (.invokestatic 48, 3) := by decide +kernel
theorem dX5_takeBack_18 : decode cX5_takeBack 18 = .ok (.aload_n 0, 1) := by decide +kernel
theorem dX5_takeBack_19 : decode cX5_takeBack 19 = .ok (.getfield 12, 3) := by decide +kernel
theorem dX5_takeBack_22 : decode cX5_takeBack 22 = .ok (.iload_n 1, 1) := by decide +kernel
theorem dX5_takeBack_23 : decode cX5_takeBack 23 = .ok (.iload_n 2, 1) := by decide +kernel
theorem dX5_takeBack_24 : decode cX5_takeBack 24 = .ok (.iload_n 3, 1) := by decide +kernel
theorem dX5_takeBack_25 : decode cX5_takeBack 25 = .ok (.invokevirtual 126, 3) := by decide +kernel
theorem dX5_takeBack_28 : decode cX5_takeBack 28 = .ok (.ifCond .ne 7, 3) := by decide +kernel
theorem dX5_takeBack_31 : decode cX5_takeBack 31 = .ok (.iconst 1, 1) := by decide +kernel
theorem dX5_takeBack_32 : decode cX5_takeBack 32 = .ok (.goto 4, 3) := by decide +kernel
theorem dX5_takeBack_35 : decode cX5_takeBack 35 = .ok (.iconst 0, 1) := by decide +kernel
theorem dX5_takeBack_36 : decode cX5_takeBack 36 = .ok (.invokestatic 58, 3) := by decide +kernel
theorem dX5_takeBack_39 : decode cX5_takeBack 39 = .ok (.aload_n 0, 1) := by decide +kernel
theorem dX5_takeBack_40 : decode cX5_takeBack 40 = .ok (.getfield 26, 3) := by decide +kernel
theorem dX5_takeBack_43 : decode cX5_takeBack 43 = .ok (.aload_n 0, 1) := by decide +kernel
theorem dX5_takeBack_44 : decode cX5_takeBack 44 = .ok (.getfield 20, 3) := by decide +kernel
theorem dX5_takeBack_47 : decode cX5_takeBack 47 = .ok (.invokevirtual 62, 3) := by decide +kernel
theorem dX5_takeBack_50 : decode cX5_takeBack 50 = .ok (.aload_n 0, 1) := by decide +kernel
theorem dX5_takeBack_51 : decode cX5_takeBack 51 = .ok (.getfield 12, 3) := by decide +kernel
theorem dX5_takeBack_54 : decode cX5_takeBack 54 = .ok (.iload_n 1, 1) := by decide +kernel
theorem dX5_takeBack_55 : decode cX5_takeBack 55 = .ok (.iload_n 2, 1) := by decide +kernel
theorem dX5_takeBack_56 : decode cX5_takeBack 56 = .ok (.iload_n 3, 1) := by decide +kernel
theorem dX5_takeBack_57 : decode cX5_takeBack 57 = .ok (.invokevirtual 129, 3) := by decide +kernel
theorem dX5_takeBack_60 : decode cX5_takeBack 60 = .ok (.ireturn, 1) := by decide +kernel
set_option maxRecDepth 20000 in
theorem ggX5_breaks_X5_needShop : GoodIn wsX5_breaks wsX5_needShop := goodIn_ca (goodIn_r _ [8, 9, 10, 11, 12, 13, 7, 14, 3, 15, 16, 17, 18, 19, 20, 21, 22, 23, 104, 105, 106, 107, 108, 109] (by decide +kernel) (by decide +kernel)) (goodIn_sub (fun _ h => List.mem_cons_of_mem _ (List.mem_append_left _ (List.mem_append_left _ (List.mem_append_right _ h)))) (by decide +kernel))
set_option maxRecDepth 20000 in
theorem gX5_breaks_X5_needShop : GoodIn wsX5_breaks (wsV RX5 110 RX5 yX5_needShop wsX5_needShop) := goodIn_app (goodIn_of _ (by decide +kernel)) ggX5_breaks_X5_needShop
set_option maxRecDepth 20000 in
theorem ggX5_breaks_X5_needBrand : GoodIn wsX5_breaks wsX5_needBrand := goodIn_ca (goodIn_r _ [27, 9, 10, 28, 29, 30, 7, 31, 3, 15, 16, 17, 18, 19, 20, 21, 22, 23, 104, 105, 106, 107, 108, 109] (by decide +kernel) (by decide +kernel)) (goodIn_sub (fun _ h => List.mem_cons_of_mem _ (List.mem_append_left _ (List.mem_append_left _ (List.mem_append_right _ h)))) (by decide +kernel))
set_option maxRecDepth 20000 in
theorem gX5_breaks_X5_needBrand : GoodIn wsX5_breaks (wsV RX5 100 RX5 yX5_needBrand wsX5_needBrand) := goodIn_app (goodIn_of _ (by decide +kernel)) ggX5_breaks_X5_needBrand
set_option maxRecDepth 20000 in
theorem ggX5_breaks_X5_needRange : GoodIn wsX5_breaks wsX5_needRange := goodIn_ca (goodIn_r _ [34, 35, 36, 7, 37, 38, 39] (by decide +kernel) (by decide +kernel)) (goodIn_sub (fun _ h => List.mem_cons_of_mem _ (List.mem_append_left _ (List.mem_append_right _ h))) (by decide +kernel))
set_option maxRecDepth 20000 in
theorem gX5_breaks_X5_needRange : GoodIn wsX5_breaks (va_wsS RX5 48 yX5_needRange wsX5_needRange) := goodIn_app (goodIn_of _ (by decide +kernel)) ggX5_breaks_X5_needRange
set_option maxRecDepth 20000 in
theorem ggX5_breaks_X4_breakReason : GoodIn wsX5_breaks wsX4_breakReason := goodIn_r _ [43, 44, 45, 16, 46, 47, 19, 20, 21, 22, 23, 48, 49, 41, 50, 110, 111, 109] (by decide +kernel) (by decide +kernel)
set_option maxRecDepth 20000 in
theorem gX5_breaks_X4_breakReason_n132 : GoodIn wsX5_breaks (wsX4_breakReason) := ggX5_breaks_X4_breakReason
set_option maxRecDepth 20000 in
theorem ggX5_breaks_X5_needState : GoodIn wsX5_breaks wsX5_needState := goodIn_ca (goodIn_r _ [53, 54, 55] (by decide +kernel) (by decide +kernel)) (goodIn_sub (fun _ h => List.mem_cons_of_mem _ (List.mem_append_right _ h)) (by decide +kernel))
set_option maxRecDepth 20000 in
theorem gX5_breaks_X5_needState : GoodIn wsX5_breaks (va_wsS RX5 58 yX5_needState wsX5_needState) := goodIn_app (goodIn_of _ (by decide +kernel)) ggX5_breaks_X5_needState
set_option maxRecDepth 20000 in
theorem ggX5_breaks_X1_keep : GoodIn wsX5_breaks wsX1_keep := goodIn_r _ [59, 60, 61, 62, 63, 64, 57, 65, 66, 67, 16, 68, 69, 23, 70, 71, 72, 73, 112, 113, 114, 109] (by decide +kernel) (by decide +kernel)
set_option maxRecDepth 20000 in
theorem gX5_breaks_X1_keep_n62 : GoodIn wsX5_breaks (wsX1_keep) := ggX5_breaks_X1_keep
set_option maxRecDepth 20000 in
theorem ggX5_breaks_X4_breakBottles : GoodIn wsX5_breaks wsX4_breakBottles := goodIn_r _ [76, 44, 77, 78, 79, 80, 81, 82, 83, 41, 84, 85, 16, 86, 87, 19, 20, 21, 22, 23, 88, 89, 90, 15, 17, 18, 91, 92, 93, 94, 95, 96, 97, 98, 99, 100, 101, 102, 103, 110, 111, 109] (by decide +kernel) (by decide +kernel)
set_option maxRecDepth 20000 in
theorem gX5_breaks_X4_breakBottles_n135 : GoodIn wsX5_breaks (wsX4_breakBottles) := ggX5_breaks_X4_breakBottles
theorem dX5_breaks_0 : decode cX5_breaks 0 = .ok (.aload_n 0, 1) := by decide +kernel
theorem dX5_breaks_1 : decode cX5_breaks 1 = .ok (.iload_n 1, 1) := by decide +kernel
theorem dX5_breaks_2 : decode cX5_breaks 2 = .ok (.invokevirtual 110, 3) := by decide +kernel
theorem dX5_breaks_5 : decode cX5_breaks 5 = .ok (.aload_n 0, 1) := by decide +kernel
theorem dX5_breaks_6 : decode cX5_breaks 6 = .ok (.iload_n 2, 1) := by decide +kernel
theorem dX5_breaks_7 : decode cX5_breaks 7 = .ok (.invokevirtual 100, 3) := by decide +kernel
theorem dX5_breaks_10 : decode cX5_breaks 10 = .ok (.iload_n 3, 1) := by decide +kernel
theorem dX5_breaks_11 : decode cX5_breaks 11 = .ok (.iconst 1, 1) := by decide +kernel
theorem dX5_breaks_12 : decode cX5_breaks 12 = .ok (.sipush 500, 3) := by decide +kernel
theorem dX5_breaks_15 : decode cX5_breaks 15 = .ok (.invokestatic 48, 3) := by decide +kernel
theorem dX5_breaks_18 : decode cX5_breaks 18 = .ok (.aload_n 0, 1) := by decide +kernel
theorem dX5_breaks_19 : decode cX5_breaks 19 = .ok (.getfield 12, 3) := by decide +kernel
theorem dX5_breaks_22 : decode cX5_breaks 22 = .ok (.iload_n 1, 1) := by decide +kernel
theorem dX5_breaks_23 : decode cX5_breaks 23 = .ok (.iload_n 2, 1) := by decide +kernel
theorem dX5_breaks_24 : decode cX5_breaks 24 = .ok (.iload_n 3, 1) := by decide +kernel
theorem dX5_breaks_25 : decode cX5_breaks 25 = .ok (.invokevirtual 132, 3) := by decide +kernel
theorem dX5_breaks_28 : decode cX5_breaks 28 = .ok (.ifCond .ne 7, 3) := by decide +kernel
theorem dX5_breaks_31 : decode cX5_breaks 31 = .ok (.iconst 1, 1) := by decide +kernel
theorem dX5_breaks_32 : decode cX5_breaks 32 = .ok (.goto 4, 3) := by decide +kernel
theorem dX5_breaks_35 : decode cX5_breaks 35 = .ok (.iconst 0, 1) := by decide +kernel
theorem dX5_breaks_36 : decode cX5_breaks 36 = .ok (.invokestatic 58, 3) := by decide +kernel
theorem dX5_breaks_39 : decode cX5_breaks 39 = .ok (.aload_n 0, 1) := by decide +kernel
theorem dX5_breaks_40 : decode cX5_breaks 40 = .ok (.getfield 26, 3) := by decide +kernel
theorem dX5_breaks_43 : decode cX5_breaks 43 = .ok (.aload_n 0, 1) := by decide +kernel
theorem dX5_breaks_44 : decode cX5_breaks 44 = .ok (.getfield 20, 3) := by decide +kernel
theorem dX5_breaks_47 : decode cX5_breaks 47 = .ok (.invokevirtual 62, 3) := by decide +kernel
theorem dX5_breaks_50 : decode cX5_breaks 50 = .ok (.aload_n 0, 1) := by decide +kernel
theorem dX5_breaks_51 : decode cX5_breaks 51 = .ok (.getfield 12, 3) := by decide +kernel
theorem dX5_breaks_54 : decode cX5_breaks 54 = .ok (.iload_n 1, 1) := by decide +kernel
theorem dX5_breaks_55 : decode cX5_breaks 55 = .ok (.iload_n 2, 1) := by decide +kernel
theorem dX5_breaks_56 : decode cX5_breaks 56 = .ok (.iload_n 3, 1) := by decide +kernel
theorem dX5_breaks_57 : decode cX5_breaks 57 = .ok (.invokevirtual 135, 3) := by decide +kernel
theorem dX5_breaks_60 : decode cX5_breaks 60 = .ok (.ireturn, 1) := by decide +kernel
set_option maxRecDepth 20000 in
theorem ggX5_lose_X5_needBrand : GoodIn wsX5_lose wsX5_needBrand := goodIn_ca (goodIn_r _ [8, 9, 10, 11, 12, 13, 7, 14, 1, 15, 16, 17, 18, 19, 20, 21, 22, 23, 80, 81, 82, 83, 84, 85] (by decide +kernel) (by decide +kernel)) (goodIn_sub (fun _ h => List.mem_cons_of_mem _ (List.mem_append_left _ (List.mem_append_left _ (List.mem_append_right _ h)))) (by decide +kernel))
set_option maxRecDepth 20000 in
theorem gX5_lose_X5_needBrand : GoodIn wsX5_lose (wsV RX5 100 RX5 yX5_needBrand wsX5_needBrand) := goodIn_app (goodIn_of _ (by decide +kernel)) ggX5_lose_X5_needBrand
set_option maxRecDepth 20000 in
theorem ggX5_lose_X5_needRange : GoodIn wsX5_lose wsX5_needRange := goodIn_ca (goodIn_r _ [26, 27, 28, 7, 29, 30, 31] (by decide +kernel) (by decide +kernel)) (goodIn_sub (fun _ h => List.mem_cons_of_mem _ (List.mem_append_left _ (List.mem_append_right _ h))) (by decide +kernel))
set_option maxRecDepth 20000 in
theorem gX5_lose_X5_needRange : GoodIn wsX5_lose (va_wsS RX5 48 yX5_needRange wsX5_needRange) := goodIn_app (goodIn_of _ (by decide +kernel)) ggX5_lose_X5_needRange
set_option maxRecDepth 20000 in
theorem ggX5_lose_X2_ofBrand : GoodIn wsX5_lose wsX2_ofBrand := goodIn_r _ [34, 19, 20, 21, 16, 22, 23, 85] (by decide +kernel) (by decide +kernel)
set_option maxRecDepth 20000 in
theorem gX5_lose_X2_ofBrand_n103 : GoodIn wsX5_lose (wsX2_ofBrand) := ggX5_lose_X2_ofBrand
set_option maxRecDepth 20000 in
theorem ggX5_lose_X5_needState : GoodIn wsX5_lose wsX5_needState := goodIn_ca (goodIn_r _ [37, 38, 39] (by decide +kernel) (by decide +kernel)) (goodIn_sub (fun _ h => List.mem_cons_of_mem _ (List.mem_append_right _ h)) (by decide +kernel))
set_option maxRecDepth 20000 in
theorem gX5_lose_X5_needState : GoodIn wsX5_lose (va_wsS RX5 58 yX5_needState wsX5_needState) := goodIn_app (goodIn_of _ (by decide +kernel)) ggX5_lose_X5_needState
set_option maxRecDepth 20000 in
theorem ggX5_lose_X1_keep : GoodIn wsX5_lose wsX1_keep := goodIn_r _ [43, 44, 45, 46, 47, 48, 41, 49, 50, 51, 16, 52, 53, 23, 54, 55, 56, 57, 86, 87, 88, 85] (by decide +kernel) (by decide +kernel)
set_option maxRecDepth 20000 in
theorem gX5_lose_X1_keep_n62 : GoodIn wsX5_lose (wsX1_keep) := ggX5_lose_X1_keep
set_option maxRecDepth 20000 in
theorem ggX5_lose_X4_loseBottles : GoodIn wsX5_lose wsX4_loseBottles := goodIn_r _ [61, 62, 63, 16, 64, 65, 19, 20, 21, 22, 23, 66, 67, 68, 69, 70, 71, 72, 59, 73, 32, 33, 34, 74, 75, 76, 77, 78, 79, 89, 90, 85] (by decide +kernel) (by decide +kernel)
set_option maxRecDepth 20000 in
theorem gX5_lose_X4_loseBottles_n138 : GoodIn wsX5_lose (wsX4_loseBottles) := ggX5_lose_X4_loseBottles
theorem dX5_lose_0 : decode cX5_lose 0 = .ok (.aload_n 0, 1) := by decide +kernel
theorem dX5_lose_1 : decode cX5_lose 1 = .ok (.iload_n 1, 1) := by decide +kernel
theorem dX5_lose_2 : decode cX5_lose 2 = .ok (.invokevirtual 100, 3) := by decide +kernel
theorem dX5_lose_5 : decode cX5_lose 5 = .ok (.iload_n 2, 1) := by decide +kernel
theorem dX5_lose_6 : decode cX5_lose 6 = .ok (.iconst 1, 1) := by decide +kernel
theorem dX5_lose_7 : decode cX5_lose 7 = .ok (.sipush 5000, 3) := by decide +kernel
theorem dX5_lose_10 : decode cX5_lose 10 = .ok (.invokestatic 48, 3) := by decide +kernel
theorem dX5_lose_13 : decode cX5_lose 13 = .ok (.aload_n 0, 1) := by decide +kernel
theorem dX5_lose_14 : decode cX5_lose 14 = .ok (.getfield 20, 3) := by decide +kernel
theorem dX5_lose_17 : decode cX5_lose 17 = .ok (.iload_n 1, 1) := by decide +kernel
theorem dX5_lose_18 : decode cX5_lose 18 = .ok (.iconst 5, 1) := by decide +kernel
theorem dX5_lose_19 : decode cX5_lose 19 = .ok (.invokevirtual 103, 3) := by decide +kernel
theorem dX5_lose_22 : decode cX5_lose 22 = .ok (.iload_n 2, 1) := by decide +kernel
theorem dX5_lose_23 : decode cX5_lose 23 = .ok (.if_icmp .lt 7, 3) := by decide +kernel
theorem dX5_lose_26 : decode cX5_lose 26 = .ok (.iconst 1, 1) := by decide +kernel
theorem dX5_lose_27 : decode cX5_lose 27 = .ok (.goto 4, 3) := by decide +kernel
theorem dX5_lose_30 : decode cX5_lose 30 = .ok (.iconst 0, 1) := by decide +kernel
theorem dX5_lose_31 : decode cX5_lose 31 = .ok (.invokestatic 58, 3) := by decide +kernel
theorem dX5_lose_34 : decode cX5_lose 34 = .ok (.aload_n 0, 1) := by decide +kernel
theorem dX5_lose_35 : decode cX5_lose 35 = .ok (.getfield 26, 3) := by decide +kernel
theorem dX5_lose_38 : decode cX5_lose 38 = .ok (.aload_n 0, 1) := by decide +kernel
theorem dX5_lose_39 : decode cX5_lose 39 = .ok (.getfield 20, 3) := by decide +kernel
theorem dX5_lose_42 : decode cX5_lose 42 = .ok (.invokevirtual 62, 3) := by decide +kernel
theorem dX5_lose_45 : decode cX5_lose 45 = .ok (.aload_n 0, 1) := by decide +kernel
theorem dX5_lose_46 : decode cX5_lose 46 = .ok (.getfield 12, 3) := by decide +kernel
theorem dX5_lose_49 : decode cX5_lose 49 = .ok (.iload_n 1, 1) := by decide +kernel
theorem dX5_lose_50 : decode cX5_lose 50 = .ok (.iload_n 2, 1) := by decide +kernel
theorem dX5_lose_51 : decode cX5_lose 51 = .ok (.invokevirtual 138, 3) := by decide +kernel
theorem dX5_lose_54 : decode cX5_lose 54 = .ok (.ireturn, 1) := by decide +kernel
set_option maxRecDepth 20000 in
theorem ggX5_collect_X5_needShop : GoodIn wsX5_collect wsX5_needShop := goodIn_ca (goodIn_r _ [8, 9, 10, 11, 12, 13, 7, 14, 3, 15, 16, 17, 18, 19, 20, 21, 22, 23, 111, 112, 113, 114, 115, 116] (by decide +kernel) (by decide +kernel)) (goodIn_sub (fun _ h => List.mem_cons_of_mem _ (List.mem_append_left _ (List.mem_append_left _ (List.mem_append_right _ h)))) (by decide +kernel))
set_option maxRecDepth 20000 in
theorem gX5_collect_X5_needShop : GoodIn wsX5_collect (wsV RX5 110 RX5 yX5_needShop wsX5_needShop) := goodIn_app (goodIn_of _ (by decide +kernel)) ggX5_collect_X5_needShop
set_option maxRecDepth 20000 in
theorem ggX5_collect_X5_needKind : GoodIn wsX5_collect wsX5_needKind := goodIn_ca (goodIn_r _ [26, 27, 28, 7, 29, 30, 31, 32, 33, 34] (by decide +kernel) (by decide +kernel)) (goodIn_sub (fun _ h => List.mem_cons_of_mem _ (List.mem_append_left _ (List.mem_append_right _ h))) (by decide +kernel))
set_option maxRecDepth 20000 in
theorem gX5_collect_X5_needKind : GoodIn wsX5_collect (va_wsS RX5 44 yX5_needKind wsX5_needKind) := goodIn_app (goodIn_of _ (by decide +kernel)) ggX5_collect_X5_needKind
set_option maxRecDepth 20000 in
theorem ggX5_collect_X5_needRange : GoodIn wsX5_collect wsX5_needRange := goodIn_ca (goodIn_r _ [29, 30, 31, 7, 32, 33, 34] (by decide +kernel) (by decide +kernel)) (goodIn_sub (fun _ h => List.mem_cons_of_mem _ (List.mem_append_left _ (List.mem_append_right _ h))) (by decide +kernel))
set_option maxRecDepth 20000 in
theorem gX5_collect_X5_needRange : GoodIn wsX5_collect (va_wsS RX5 48 yX5_needRange wsX5_needRange) := goodIn_app (goodIn_of _ (by decide +kernel)) ggX5_collect_X5_needRange
set_option maxRecDepth 20000 in
theorem ggX5_collect_X4_collectReason : GoodIn wsX5_collect wsX4_collectReason := goodIn_r _ [38, 39, 40, 41, 42, 36, 43, 44, 16, 45, 46, 19, 20, 21, 22, 23, 47, 48, 49, 117, 118, 116] (by decide +kernel) (by decide +kernel)
set_option maxRecDepth 20000 in
theorem gX5_collect_X4_collectReason_n141 : GoodIn wsX5_collect (wsX4_collectReason) := ggX5_collect_X4_collectReason
set_option maxRecDepth 20000 in
theorem ggX5_collect_X5_needState : GoodIn wsX5_collect wsX5_needState := goodIn_ca (goodIn_r _ [52, 53, 54] (by decide +kernel) (by decide +kernel)) (goodIn_sub (fun _ h => List.mem_cons_of_mem _ (List.mem_append_right _ h)) (by decide +kernel))
set_option maxRecDepth 20000 in
theorem gX5_collect_X5_needState : GoodIn wsX5_collect (va_wsS RX5 58 yX5_needState wsX5_needState) := goodIn_app (goodIn_of _ (by decide +kernel)) ggX5_collect_X5_needState
set_option maxRecDepth 20000 in
theorem ggX5_collect_X1_keep : GoodIn wsX5_collect wsX1_keep := goodIn_r _ [58, 59, 60, 61, 62, 63, 56, 64, 65, 66, 16, 67, 68, 23, 69, 70, 71, 72, 119, 120, 121, 116] (by decide +kernel) (by decide +kernel)
set_option maxRecDepth 20000 in
theorem gX5_collect_X1_keep_n62 : GoodIn wsX5_collect (wsX1_keep) := ggX5_collect_X1_keep
set_option maxRecDepth 20000 in
theorem ggX5_collect_X4_collectCrates : GoodIn wsX5_collect wsX4_collectCrates := goodIn_r _ [75, 39, 76, 77, 78, 36, 79, 80, 16, 81, 82, 19, 20, 21, 22, 23, 83, 84, 85, 86, 87, 44, 45, 46, 47, 48, 49, 88, 89, 90, 91, 92, 93, 94, 95, 96, 7, 97, 98, 99, 100, 101, 102, 103, 104, 105, 106, 107, 108, 109, 110, 117, 118, 116] (by decide +kernel) (by decide +kernel)
set_option maxRecDepth 20000 in
theorem gX5_collect_X4_collectCrates_n144 : GoodIn wsX5_collect (wsX4_collectCrates) := ggX5_collect_X4_collectCrates
theorem dX5_collect_0 : decode cX5_collect 0 = .ok (.aload_n 0, 1) := by decide +kernel
theorem dX5_collect_1 : decode cX5_collect 1 = .ok (.iload_n 1, 1) := by decide +kernel
theorem dX5_collect_2 : decode cX5_collect 2 = .ok (.invokevirtual 110, 3) := by decide +kernel
theorem dX5_collect_5 : decode cX5_collect 5 = .ok (.iload_n 2, 1) := by decide +kernel
theorem dX5_collect_6 : decode cX5_collect 6 = .ok (.invokestatic 44, 3) := by decide +kernel
theorem dX5_collect_9 : decode cX5_collect 9 = .ok (.iload_n 3, 1) := by decide +kernel
theorem dX5_collect_10 : decode cX5_collect 10 = .ok (.iconst 1, 1) := by decide +kernel
theorem dX5_collect_11 : decode cX5_collect 11 = .ok (.bipush 50, 2) := by decide +kernel
theorem dX5_collect_13 : decode cX5_collect 13 = .ok (.invokestatic 48, 3) := by decide +kernel
theorem dX5_collect_16 : decode cX5_collect 16 = .ok (.aload_n 0, 1) := by decide +kernel
theorem dX5_collect_17 : decode cX5_collect 17 = .ok (.getfield 12, 3) := by decide +kernel
theorem dX5_collect_20 : decode cX5_collect 20 = .ok (.iload_n 1, 1) := by decide +kernel
theorem dX5_collect_21 : decode cX5_collect 21 = .ok (.iload_n 2, 1) := by decide +kernel
theorem dX5_collect_22 : decode cX5_collect 22 = .ok (.iload_n 3, 1) := by decide +kernel
theorem dX5_collect_23 : decode cX5_collect 23 = .ok (.invokevirtual 141, 3) := by decide +kernel
theorem dX5_collect_26 : decode cX5_collect 26 = .ok (.ifCond .ne 7, 3) := by decide +kernel
theorem dX5_collect_29 : decode cX5_collect 29 = .ok (.iconst 1, 1) := by decide +kernel
theorem dX5_collect_30 : decode cX5_collect 30 = .ok (.goto 4, 3) := by decide +kernel
theorem dX5_collect_33 : decode cX5_collect 33 = .ok (.iconst 0, 1) := by decide +kernel
theorem dX5_collect_34 : decode cX5_collect 34 = .ok (.invokestatic 58, 3) := by decide +kernel
theorem dX5_collect_37 : decode cX5_collect 37 = .ok (.aload_n 0, 1) := by decide +kernel
theorem dX5_collect_38 : decode cX5_collect 38 = .ok (.getfield 26, 3) := by decide +kernel
theorem dX5_collect_41 : decode cX5_collect 41 = .ok (.aload_n 0, 1) := by decide +kernel
theorem dX5_collect_42 : decode cX5_collect 42 = .ok (.getfield 20, 3) := by decide +kernel
theorem dX5_collect_45 : decode cX5_collect 45 = .ok (.invokevirtual 62, 3) := by decide +kernel
theorem dX5_collect_48 : decode cX5_collect 48 = .ok (.aload_n 0, 1) := by decide +kernel
theorem dX5_collect_49 : decode cX5_collect 49 = .ok (.getfield 12, 3) := by decide +kernel
theorem dX5_collect_52 : decode cX5_collect 52 = .ok (.iload_n 1, 1) := by decide +kernel
theorem dX5_collect_53 : decode cX5_collect 53 = .ok (.iload_n 2, 1) := by decide +kernel
theorem dX5_collect_54 : decode cX5_collect 54 = .ok (.iload_n 3, 1) := by decide +kernel
theorem dX5_collect_55 : decode cX5_collect 55 = .ok (.invokevirtual 144, 3) := by decide +kernel
theorem dX5_collect_58 : decode cX5_collect 58 = .ok (.ireturn, 1) := by decide +kernel
set_option maxRecDepth 20000 in
theorem ggX5_sort_X5_needKind : GoodIn wsX5_sort wsX5_needKind := goodIn_ca (goodIn_r _ [7, 8, 9, 6, 10, 11, 12, 13, 14, 15] (by decide +kernel) (by decide +kernel)) (goodIn_sub (fun _ h => List.mem_cons_of_mem _ (List.mem_append_left _ (List.mem_append_right _ h))) (by decide +kernel))
set_option maxRecDepth 20000 in
theorem gX5_sort_X5_needKind : GoodIn wsX5_sort (va_wsS RX5 44 yX5_needKind wsX5_needKind) := goodIn_app (goodIn_of _ (by decide +kernel)) ggX5_sort_X5_needKind
set_option maxRecDepth 20000 in
theorem ggX5_sort_X5_needRange : GoodIn wsX5_sort wsX5_needRange := goodIn_ca (goodIn_r _ [10, 11, 12, 6, 13, 14, 15] (by decide +kernel) (by decide +kernel)) (goodIn_sub (fun _ h => List.mem_cons_of_mem _ (List.mem_append_left _ (List.mem_append_right _ h))) (by decide +kernel))
set_option maxRecDepth 20000 in
theorem gX5_sort_X5_needRange : GoodIn wsX5_sort (va_wsS RX5 48 yX5_needRange wsX5_needRange) := goodIn_app (goodIn_of _ (by decide +kernel)) ggX5_sort_X5_needRange
set_option maxRecDepth 20000 in
theorem ggX5_sort_X4_yardOf : GoodIn wsX5_sort wsX4_yardOf := goodIn_r _ [19, 20, 21, 22, 23, 24, 25, 26, 27, 28, 29, 73, 74, 75] (by decide +kernel) (by decide +kernel)
set_option maxRecDepth 20000 in
theorem gX5_sort_X4_yardOf_n147 : GoodIn wsX5_sort (wsX4_yardOf) := ggX5_sort_X4_yardOf
set_option maxRecDepth 20000 in
theorem ggX5_sort_X5_needState : GoodIn wsX5_sort wsX5_needState := goodIn_ca (goodIn_r _ [32, 33, 34] (by decide +kernel) (by decide +kernel)) (goodIn_sub (fun _ h => List.mem_cons_of_mem _ (List.mem_append_right _ h)) (by decide +kernel))
set_option maxRecDepth 20000 in
theorem gX5_sort_X5_needState : GoodIn wsX5_sort (va_wsS RX5 58 yX5_needState wsX5_needState) := goodIn_app (goodIn_of _ (by decide +kernel)) ggX5_sort_X5_needState
set_option maxRecDepth 20000 in
theorem ggX5_sort_X1_keep : GoodIn wsX5_sort wsX1_keep := goodIn_r _ [38, 39, 40, 41, 42, 43, 36, 44, 45, 46, 22, 47, 48, 29, 49, 50, 51, 52, 76, 77, 78, 75] (by decide +kernel) (by decide +kernel)
set_option maxRecDepth 20000 in
theorem gX5_sort_X1_keep_n62 : GoodIn wsX5_sort (wsX1_keep) := ggX5_sort_X1_keep
set_option maxRecDepth 20000 in
theorem ggX5_sort_X4_sortBottles : GoodIn wsX5_sort wsX4_sortBottles := goodIn_r _ [55, 20, 56, 57, 58, 59, 21, 22, 23, 24, 25, 26, 27, 28, 29, 60, 61, 62, 63, 64, 65, 66, 67, 16, 18, 17, 19, 73, 74, 75] (by decide +kernel) (by decide +kernel)
set_option maxRecDepth 20000 in
theorem gX5_sort_X4_sortBottles_n150 : GoodIn wsX5_sort (wsX4_sortBottles) := ggX5_sort_X4_sortBottles
theorem dX5_sort_0 : decode cX5_sort 0 = .ok (.iload_n 1, 1) := by decide +kernel
theorem dX5_sort_1 : decode cX5_sort 1 = .ok (.invokestatic 44, 3) := by decide +kernel
theorem dX5_sort_4 : decode cX5_sort 4 = .ok (.iload_n 2, 1) := by decide +kernel
theorem dX5_sort_5 : decode cX5_sort 5 = .ok (.iconst 1, 1) := by decide +kernel
theorem dX5_sort_6 : decode cX5_sort 6 = .ok (.sipush 5000, 3) := by decide +kernel
theorem dX5_sort_9 : decode cX5_sort 9 = .ok (.invokestatic 48, 3) := by decide +kernel
theorem dX5_sort_12 : decode cX5_sort 12 = .ok (.aload_n 0, 1) := by decide +kernel
theorem dX5_sort_13 : decode cX5_sort 13 = .ok (.getfield 12, 3) := by decide +kernel
theorem dX5_sort_16 : decode cX5_sort 16 = .ok (.iload_n 1, 1) := by decide +kernel
theorem dX5_sort_17 : decode cX5_sort 17 = .ok (.invokevirtual 147, 3) := by decide +kernel
theorem dX5_sort_20 : decode cX5_sort 20 = .ok (.iload_n 2, 1) := by decide +kernel
theorem dX5_sort_21 : decode cX5_sort 21 = .ok (.if_icmp .lt 7, 3) := by decide +kernel
theorem dX5_sort_24 : decode cX5_sort 24 = .ok (.iconst 1, 1) := by decide +kernel
theorem dX5_sort_25 : decode cX5_sort 25 = .ok (.goto 4, 3) := by decide +kernel
theorem dX5_sort_28 : decode cX5_sort 28 = .ok (.iconst 0, 1) := by decide +kernel
theorem dX5_sort_29 : decode cX5_sort 29 = .ok (.invokestatic 58, 3) := by decide +kernel
theorem dX5_sort_32 : decode cX5_sort 32 = .ok (.aload_n 0, 1) := by decide +kernel
theorem dX5_sort_33 : decode cX5_sort 33 = .ok (.getfield 26, 3) := by decide +kernel
theorem dX5_sort_36 : decode cX5_sort 36 = .ok (.aload_n 0, 1) := by decide +kernel
theorem dX5_sort_37 : decode cX5_sort 37 = .ok (.getfield 20, 3) := by decide +kernel
theorem dX5_sort_40 : decode cX5_sort 40 = .ok (.invokevirtual 62, 3) := by decide +kernel
theorem dX5_sort_43 : decode cX5_sort 43 = .ok (.aload_n 0, 1) := by decide +kernel
theorem dX5_sort_44 : decode cX5_sort 44 = .ok (.getfield 12, 3) := by decide +kernel
theorem dX5_sort_47 : decode cX5_sort 47 = .ok (.iload_n 1, 1) := by decide +kernel
theorem dX5_sort_48 : decode cX5_sort 48 = .ok (.iload_n 2, 1) := by decide +kernel
theorem dX5_sort_49 : decode cX5_sort 49 = .ok (.invokevirtual 150, 3) := by decide +kernel
theorem dX5_sort_52 : decode cX5_sort 52 = .ok (.ireturn, 1) := by decide +kernel
set_option maxRecDepth 20000 in
theorem ggX5_swap_X5_needBrand : GoodIn wsX5_swap wsX5_needBrand := goodIn_ca (goodIn_r _ [8, 9, 10, 11, 12, 13, 7, 14, 1, 15, 16, 17, 18, 19, 20, 21, 22, 23, 76, 77, 78, 79, 80, 81] (by decide +kernel) (by decide +kernel)) (goodIn_sub (fun _ h => List.mem_cons_of_mem _ (List.mem_append_left _ (List.mem_append_left _ (List.mem_append_right _ h)))) (by decide +kernel))
set_option maxRecDepth 20000 in
theorem gX5_swap_X5_needBrand : GoodIn wsX5_swap (wsV RX5 100 RX5 yX5_needBrand wsX5_needBrand) := goodIn_app (goodIn_of _ (by decide +kernel)) ggX5_swap_X5_needBrand
set_option maxRecDepth 20000 in
theorem ggX5_swap_X2_ofBrand : GoodIn wsX5_swap wsX2_ofBrand := goodIn_r _ [26, 19, 20, 21, 16, 22, 23, 81] (by decide +kernel) (by decide +kernel)
set_option maxRecDepth 20000 in
theorem gX5_swap_X2_ofBrand_n103 : GoodIn wsX5_swap (wsX2_ofBrand) := ggX5_swap_X2_ofBrand
set_option maxRecDepth 20000 in
theorem ggX5_swap_X5_needArgument : GoodIn wsX5_swap wsX5_needArgument := goodIn_ca (goodIn_r _ [29, 30, 31] (by decide +kernel) (by decide +kernel)) (goodIn_sub (fun _ h => List.mem_cons_of_mem _ (List.mem_append_left _ (List.mem_append_right _ h))) (by decide +kernel))
set_option maxRecDepth 20000 in
theorem gX5_swap_X5_needArgument : GoodIn wsX5_swap (va_wsS RX5 153 yX5_needArgument wsX5_needArgument) := goodIn_app (goodIn_of _ (by decide +kernel)) ggX5_swap_X5_needArgument
set_option maxRecDepth 20000 in
theorem ggX5_swap_X5_needRange : GoodIn wsX5_swap wsX5_needRange := goodIn_ca (goodIn_r _ [34, 27, 28, 7, 29, 30, 31] (by decide +kernel) (by decide +kernel)) (goodIn_sub (fun _ h => List.mem_cons_of_mem _ (List.mem_append_left _ (List.mem_append_right _ h))) (by decide +kernel))
set_option maxRecDepth 20000 in
theorem gX5_swap_X5_needRange : GoodIn wsX5_swap (va_wsS RX5 48 yX5_needRange wsX5_needRange) := goodIn_app (goodIn_of _ (by decide +kernel)) ggX5_swap_X5_needRange
set_option maxRecDepth 20000 in
theorem ggX5_swap_X5_needState : GoodIn wsX5_swap wsX5_needState := goodIn_ca (goodIn_r _ [37, 38, 39] (by decide +kernel) (by decide +kernel)) (goodIn_sub (fun _ h => List.mem_cons_of_mem _ (List.mem_append_right _ h)) (by decide +kernel))
set_option maxRecDepth 20000 in
theorem gX5_swap_X5_needState : GoodIn wsX5_swap (va_wsS RX5 58 yX5_needState wsX5_needState) := goodIn_app (goodIn_of _ (by decide +kernel)) ggX5_swap_X5_needState
set_option maxRecDepth 20000 in
theorem ggX5_swap_X1_keep : GoodIn wsX5_swap wsX1_keep := goodIn_r _ [43, 44, 45, 46, 47, 48, 41, 49, 50, 51, 16, 52, 53, 23, 54, 55, 56, 57, 82, 83, 84, 81] (by decide +kernel) (by decide +kernel)
set_option maxRecDepth 20000 in
theorem gX5_swap_X1_keep_n62 : GoodIn wsX5_swap (wsX1_keep) := ggX5_swap_X1_keep
set_option maxRecDepth 20000 in
theorem ggX5_swap_X4_swapBottles : GoodIn wsX5_swap wsX4_swapBottles := goodIn_r _ [61, 62, 63, 16, 64, 65, 19, 20, 21, 22, 23, 66, 67, 68, 69, 70, 71, 72, 73, 74, 75, 85, 86, 81] (by decide +kernel) (by decide +kernel)
set_option maxRecDepth 20000 in
theorem gX5_swap_X4_swapBottles_n156 : GoodIn wsX5_swap (wsX4_swapBottles) := ggX5_swap_X4_swapBottles
theorem dX5_swap_0 : decode cX5_swap 0 = .ok (.aload_n 0, 1) := by decide +kernel
theorem dX5_swap_1 : decode cX5_swap 1 = .ok (.iload_n 1, 1) := by decide +kernel
theorem dX5_swap_2 : decode cX5_swap 2 = .ok (.invokevirtual 100, 3) := by decide +kernel
theorem dX5_swap_5 : decode cX5_swap 5 = .ok (.aload_n 0, 1) := by decide +kernel
theorem dX5_swap_6 : decode cX5_swap 6 = .ok (.iload_n 2, 1) := by decide +kernel
theorem dX5_swap_7 : decode cX5_swap 7 = .ok (.invokevirtual 100, 3) := by decide +kernel
theorem dX5_swap_10 : decode cX5_swap 10 = .ok (.iload_n 1, 1) := by decide +kernel
theorem dX5_swap_11 : decode cX5_swap 11 = .ok (.iload_n 2, 1) := by decide +kernel
theorem dX5_swap_12 : decode cX5_swap 12 = .ok (.if_icmp .eq 28, 3) := by decide +kernel
theorem dX5_swap_15 : decode cX5_swap 15 = .ok (.aload_n 0, 1) := by decide +kernel
theorem dX5_swap_16 : decode cX5_swap 16 = .ok (.getfield 20, 3) := by decide +kernel
theorem dX5_swap_19 : decode cX5_swap 19 = .ok (.iload_n 1, 1) := by decide +kernel
theorem dX5_swap_20 : decode cX5_swap 20 = .ok (.iconst 0, 1) := by decide +kernel
theorem dX5_swap_21 : decode cX5_swap 21 = .ok (.invokevirtual 103, 3) := by decide +kernel
theorem dX5_swap_24 : decode cX5_swap 24 = .ok (.aload_n 0, 1) := by decide +kernel
theorem dX5_swap_25 : decode cX5_swap 25 = .ok (.getfield 20, 3) := by decide +kernel
theorem dX5_swap_28 : decode cX5_swap 28 = .ok (.iload_n 2, 1) := by decide +kernel
theorem dX5_swap_29 : decode cX5_swap 29 = .ok (.iconst 0, 1) := by decide +kernel
theorem dX5_swap_30 : decode cX5_swap 30 = .ok (.invokevirtual 103, 3) := by decide +kernel
theorem dX5_swap_33 : decode cX5_swap 33 = .ok (.if_icmp .ne 7, 3) := by decide +kernel
theorem dX5_swap_36 : decode cX5_swap 36 = .ok (.iconst 1, 1) := by decide +kernel
theorem dX5_swap_37 : decode cX5_swap 37 = .ok (.goto 4, 3) := by decide +kernel
theorem dX5_swap_40 : decode cX5_swap 40 = .ok (.iconst 0, 1) := by decide +kernel
theorem dX5_swap_41 : decode cX5_swap 41 = .ok (.invokestatic 153, 3) := by decide +kernel
theorem dX5_swap_44 : decode cX5_swap 44 = .ok (.iload_n 3, 1) := by decide +kernel
theorem dX5_swap_45 : decode cX5_swap 45 = .ok (.iconst 1, 1) := by decide +kernel
theorem dX5_swap_46 : decode cX5_swap 46 = .ok (.sipush 5000, 3) := by decide +kernel
theorem dX5_swap_49 : decode cX5_swap 49 = .ok (.invokestatic 48, 3) := by decide +kernel
theorem dX5_swap_52 : decode cX5_swap 52 = .ok (.aload_n 0, 1) := by decide +kernel
theorem dX5_swap_53 : decode cX5_swap 53 = .ok (.getfield 20, 3) := by decide +kernel
theorem dX5_swap_56 : decode cX5_swap 56 = .ok (.iload_n 1, 1) := by decide +kernel
theorem dX5_swap_57 : decode cX5_swap 57 = .ok (.iconst 1, 1) := by decide +kernel
theorem dX5_swap_58 : decode cX5_swap 58 = .ok (.invokevirtual 103, 3) := by decide +kernel
theorem dX5_swap_61 : decode cX5_swap 61 = .ok (.iload_n 3, 1) := by decide +kernel
theorem dX5_swap_62 : decode cX5_swap 62 = .ok (.if_icmp .lt 7, 3) := by decide +kernel
theorem dX5_swap_65 : decode cX5_swap 65 = .ok (.iconst 1, 1) := by decide +kernel
theorem dX5_swap_66 : decode cX5_swap 66 = .ok (.goto 4, 3) := by decide +kernel
theorem dX5_swap_69 : decode cX5_swap 69 = .ok (.iconst 0, 1) := by decide +kernel
theorem dX5_swap_70 : decode cX5_swap 70 = .ok (.invokestatic 58, 3) := by decide +kernel
theorem dX5_swap_73 : decode cX5_swap 73 = .ok (.aload_n 0, 1) := by decide +kernel
theorem dX5_swap_74 : decode cX5_swap 74 = .ok (.getfield 26, 3) := by decide +kernel
theorem dX5_swap_77 : decode cX5_swap 77 = .ok (.aload_n 0, 1) := by decide +kernel
theorem dX5_swap_78 : decode cX5_swap 78 = .ok (.getfield 20, 3) := by decide +kernel
theorem dX5_swap_81 : decode cX5_swap 81 = .ok (.invokevirtual 62, 3) := by decide +kernel
theorem dX5_swap_84 : decode cX5_swap 84 = .ok (.aload_n 0, 1) := by decide +kernel
theorem dX5_swap_85 : decode cX5_swap 85 = .ok (.getfield 12, 3) := by decide +kernel
theorem dX5_swap_88 : decode cX5_swap 88 = .ok (.iload_n 1, 1) := by decide +kernel
theorem dX5_swap_89 : decode cX5_swap 89 = .ok (.iload_n 2, 1) := by decide +kernel
theorem dX5_swap_90 : decode cX5_swap 90 = .ok (.iload_n 3, 1) := by decide +kernel
theorem dX5_swap_91 : decode cX5_swap 91 = .ok (.invokevirtual 156, 3) := by decide +kernel
theorem dX5_swap_94 : decode cX5_swap 94 = .ok (.ireturn, 1) := by decide +kernel
set_option maxRecDepth 20000 in
theorem ggX5_undo_X1_kept : GoodIn wsX5_undo wsX1_kept := goodIn_r _ [6, 7, 37, 38, 39] (by decide +kernel) (by decide +kernel)
set_option maxRecDepth 20000 in
theorem gX5_undo_X1_kept_n179 : GoodIn wsX5_undo (wsX1_kept) := ggX5_undo_X1_kept
set_option maxRecDepth 20000 in
theorem ggX5_undo_X5_needState : GoodIn wsX5_undo wsX5_needState := goodIn_ca (goodIn_r _ [11, 12, 13] (by decide +kernel) (by decide +kernel)) (goodIn_sub (fun _ h => List.mem_cons_of_mem _ (List.mem_append_right _ h)) (by decide +kernel))
set_option maxRecDepth 20000 in
theorem gX5_undo_X5_needState : GoodIn wsX5_undo (va_wsS RX5 58 yX5_needState wsX5_needState) := goodIn_app (goodIn_of _ (by decide +kernel)) ggX5_undo_X5_needState
set_option maxRecDepth 20000 in
theorem ggX5_undo_X1_giveBack : GoodIn wsX5_undo wsX1_giveBack := goodIn_r _ [16, 7, 17, 18, 19, 20, 4, 21, 22, 23, 24, 25, 26, 27, 28, 29, 30, 31, 37, 38, 39, 40] (by decide +kernel) (by decide +kernel)
set_option maxRecDepth 20000 in
theorem gX5_undo_X1_giveBack_n182 : GoodIn wsX5_undo (wsX1_giveBack) := ggX5_undo_X1_giveBack
theorem dX5_undo_0 : decode cX5_undo 0 = .ok (.aload_n 0, 1) := by decide +kernel
theorem dX5_undo_1 : decode cX5_undo 1 = .ok (.getfield 26, 3) := by decide +kernel
theorem dX5_undo_4 : decode cX5_undo 4 = .ok (.invokevirtual 179, 3) := by decide +kernel
theorem dX5_undo_7 : decode cX5_undo 7 = .ok (.ifCond .le 7, 3) := by decide +kernel
theorem dX5_undo_10 : decode cX5_undo 10 = .ok (.iconst 1, 1) := by decide +kernel
theorem dX5_undo_11 : decode cX5_undo 11 = .ok (.goto 4, 3) := by decide +kernel
theorem dX5_undo_14 : decode cX5_undo 14 = .ok (.iconst 0, 1) := by decide +kernel
theorem dX5_undo_15 : decode cX5_undo 15 = .ok (.invokestatic 58, 3) := by decide +kernel
theorem dX5_undo_18 : decode cX5_undo 18 = .ok (.aload_n 0, 1) := by decide +kernel
theorem dX5_undo_19 : decode cX5_undo 19 = .ok (.getfield 26, 3) := by decide +kernel
theorem dX5_undo_22 : decode cX5_undo 22 = .ok (.aload_n 0, 1) := by decide +kernel
theorem dX5_undo_23 : decode cX5_undo 23 = .ok (.getfield 20, 3) := by decide +kernel
theorem dX5_undo_26 : decode cX5_undo 26 = .ok (.invokevirtual 182, 3) := by decide +kernel
theorem dX5_undo_29 : decode cX5_undo 29 = .ok (.aload_n 0, 1) := by decide +kernel
theorem dX5_undo_30 : decode cX5_undo 30 = .ok (.getfield 26, 3) := by decide +kernel
theorem dX5_undo_33 : decode cX5_undo 33 = .ok (.invokevirtual 179, 3) := by decide +kernel
theorem dX5_undo_36 : decode cX5_undo 36 = .ok (.ireturn, 1) := by decide +kernel
set_option maxRecDepth 20000 in
theorem ggX5_brand_X5_needBrand : GoodIn wsX5_brand wsX5_needBrand := goodIn_ca (goodIn_r _ [6, 7, 8, 9, 10, 11, 5, 12, 1, 13, 14, 15, 16, 17, 18, 19, 20, 21, 45, 46, 47, 48, 49, 50] (by decide +kernel) (by decide +kernel)) (goodIn_sub (fun _ h => List.mem_cons_of_mem _ (List.mem_append_left _ (List.mem_append_right _ h))) (by decide +kernel))
set_option maxRecDepth 20000 in
theorem gX5_brand_X5_needBrand : GoodIn wsX5_brand (wsV RX5 100 RX5 yX5_needBrand wsX5_needBrand) := goodIn_app (goodIn_of _ (by decide +kernel)) ggX5_brand_X5_needBrand
set_option maxRecDepth 20000 in
theorem ggX5_brand_X5_needRange : GoodIn wsX5_brand wsX5_needRange := goodIn_ca (goodIn_r _ [24, 25, 26, 5, 27, 28, 29] (by decide +kernel) (by decide +kernel)) (goodIn_sub (fun _ h => List.mem_cons_of_mem _ (List.mem_append_right _ h)) (by decide +kernel))
set_option maxRecDepth 20000 in
theorem gX5_brand_X5_needRange : GoodIn wsX5_brand (va_wsS RX5 48 yX5_needRange wsX5_needRange) := goodIn_app (goodIn_of _ (by decide +kernel)) ggX5_brand_X5_needRange
set_option maxRecDepth 20000 in
theorem ggX5_brand_X2_brandNumber : GoodIn wsX5_brand wsX2_brandNumber := goodIn_r _ [32, 33, 34, 35, 14, 36, 37, 38, 39, 40, 17, 18, 19, 20, 21, 41, 42, 43, 44, 50] (by decide +kernel) (by decide +kernel)
set_option maxRecDepth 20000 in
theorem gX5_brand_X2_brandNumber_n185 : GoodIn wsX5_brand (wsX2_brandNumber) := ggX5_brand_X2_brandNumber
theorem dX5_brand_0 : decode cX5_brand 0 = .ok (.aload_n 0, 1) := by decide +kernel
theorem dX5_brand_1 : decode cX5_brand 1 = .ok (.iload_n 1, 1) := by decide +kernel
theorem dX5_brand_2 : decode cX5_brand 2 = .ok (.invokevirtual 100, 3) := by decide +kernel
theorem dX5_brand_5 : decode cX5_brand 5 = .ok (.iload_n 2, 1) := by decide +kernel
theorem dX5_brand_6 : decode cX5_brand 6 = .ok (.iconst 0, 1) := by decide +kernel
theorem dX5_brand_7 : decode cX5_brand 7 = .ok (.bipush 11, 2) := by decide +kernel
theorem dX5_brand_9 : decode cX5_brand 9 = .ok (.invokestatic 48, 3) := by decide +kernel
theorem dX5_brand_12 : decode cX5_brand 12 = .ok (.aload_n 0, 1) := by decide +kernel
theorem dX5_brand_13 : decode cX5_brand 13 = .ok (.getfield 20, 3) := by decide +kernel
theorem dX5_brand_16 : decode cX5_brand 16 = .ok (.iload_n 1, 1) := by decide +kernel
theorem dX5_brand_17 : decode cX5_brand 17 = .ok (.iload_n 2, 1) := by decide +kernel
theorem dX5_brand_18 : decode cX5_brand 18 = .ok (.invokevirtual 185, 3) := by decide +kernel
theorem dX5_brand_21 : decode cX5_brand 21 = .ok (.ireturn, 1) := by decide +kernel
set_option maxRecDepth 20000 in
theorem ggX5_shop_X5_needShop : GoodIn wsX5_shop wsX5_needShop := goodIn_ca (goodIn_r _ [6, 7, 8, 9, 10, 11, 5, 12, 1, 13, 14, 15, 16, 17, 18, 19, 20, 21, 41, 42, 43, 44, 45, 46] (by decide +kernel) (by decide +kernel)) (goodIn_sub (fun _ h => List.mem_cons_of_mem _ (List.mem_append_left _ (List.mem_append_right _ h))) (by decide +kernel))
set_option maxRecDepth 20000 in
theorem gX5_shop_X5_needShop : GoodIn wsX5_shop (wsV RX5 110 RX5 yX5_needShop wsX5_needShop) := goodIn_app (goodIn_of _ (by decide +kernel)) ggX5_shop_X5_needShop
set_option maxRecDepth 20000 in
theorem ggX5_shop_X5_isShopNumber : GoodIn wsX5_shop wsX5_isShopNumber := goodIn_r _ [24] (by decide +kernel) (by decide +kernel)
set_option maxRecDepth 20000 in
theorem gX5_shop_X5_isShopNumber : GoodIn wsX5_shop (va_wsS RX5 188 yX5_isShopNumber wsX5_isShopNumber) := goodIn_app (goodIn_of _ (by decide +kernel)) ggX5_shop_X5_isShopNumber
set_option maxRecDepth 20000 in
theorem ggX5_shop_X5_needArgument : GoodIn wsX5_shop wsX5_needArgument := goodIn_ca (goodIn_r _ [27, 28, 29] (by decide +kernel) (by decide +kernel)) (goodIn_sub (fun _ h => List.mem_cons_of_mem _ (List.mem_append_right _ h)) (by decide +kernel))
set_option maxRecDepth 20000 in
theorem gX5_shop_X5_needArgument : GoodIn wsX5_shop (va_wsS RX5 153 yX5_needArgument wsX5_needArgument) := goodIn_app (goodIn_of _ (by decide +kernel)) ggX5_shop_X5_needArgument
set_option maxRecDepth 20000 in
theorem ggX5_shop_X2_shopNumber : GoodIn wsX5_shop wsX2_shopNumber := goodIn_r _ [32, 33, 34, 35, 14, 36, 37, 38, 39, 40, 17, 18, 19, 20, 21, 46] (by decide +kernel) (by decide +kernel)
set_option maxRecDepth 20000 in
theorem gX5_shop_X2_shopNumber_n192 : GoodIn wsX5_shop (wsX2_shopNumber) := ggX5_shop_X2_shopNumber
theorem dX5_shop_0 : decode cX5_shop 0 = .ok (.aload_n 0, 1) := by decide +kernel
theorem dX5_shop_1 : decode cX5_shop 1 = .ok (.iload_n 1, 1) := by decide +kernel
theorem dX5_shop_2 : decode cX5_shop 2 = .ok (.invokevirtual 110, 3) := by decide +kernel
theorem dX5_shop_5 : decode cX5_shop 5 = .ok (.iload_n 2, 1) := by decide +kernel
theorem dX5_shop_6 : decode cX5_shop 6 = .ok (.invokestatic 188, 3) := by decide +kernel
theorem dX5_shop_9 : decode cX5_shop 9 = .ok (.invokestatic 153, 3) := by decide +kernel
theorem dX5_shop_12 : decode cX5_shop 12 = .ok (.aload_n 0, 1) := by decide +kernel
theorem dX5_shop_13 : decode cX5_shop 13 = .ok (.getfield 20, 3) := by decide +kernel
theorem dX5_shop_16 : decode cX5_shop 16 = .ok (.iload_n 1, 1) := by decide +kernel
theorem dX5_shop_17 : decode cX5_shop 17 = .ok (.iload_n 2, 1) := by decide +kernel
theorem dX5_shop_18 : decode cX5_shop 18 = .ok (.invokevirtual 192, 3) := by decide +kernel
theorem dX5_shop_21 : decode cX5_shop 21 = .ok (.ireturn, 1) := by decide +kernel
set_option maxRecDepth 20000 in
theorem ggX5_count_X5_needRange : GoodIn wsX5_count wsX5_needRange := goodIn_ca (goodIn_r _ [6, 7, 8, 5, 9, 10, 11] (by decide +kernel) (by decide +kernel)) (goodIn_sub (fun _ h => List.mem_cons_of_mem _ (List.mem_append_right _ h)) (by decide +kernel))
set_option maxRecDepth 20000 in
theorem gX5_count_X5_needRange : GoodIn wsX5_count (va_wsS RX5 48 yX5_needRange wsX5_needRange) := goodIn_app (goodIn_of _ (by decide +kernel)) ggX5_count_X5_needRange
set_option maxRecDepth 20000 in
theorem ggX5_count_X1_kept : GoodIn wsX5_count wsX1_kept := goodIn_r _ [15, 16, 51, 52, 53] (by decide +kernel) (by decide +kernel)
set_option maxRecDepth 20000 in
theorem gX5_count_X1_kept_n179 : GoodIn wsX5_count (wsX1_kept) := ggX5_count_X1_kept
set_option maxRecDepth 20000 in
theorem ggX5_count_X2_countNumber : GoodIn wsX5_count wsX2_countNumber := goodIn_r _ [20, 21, 22, 23, 18, 24, 25, 26, 27, 28, 29, 30, 31, 32, 33, 34, 35, 36, 37, 38, 39, 40, 41, 42, 43, 44, 45, 54] (by decide +kernel) (by decide +kernel)
set_option maxRecDepth 20000 in
theorem gX5_count_X2_countNumber_n77 : GoodIn wsX5_count (wsX2_countNumber) := ggX5_count_X2_countNumber
theorem dX5_count_0 : decode cX5_count 0 = .ok (.iload_n 1, 1) := by decide +kernel
theorem dX5_count_1 : decode cX5_count 1 = .ok (.iconst 0, 1) := by decide +kernel
theorem dX5_count_2 : decode cX5_count 2 = .ok (.bipush 10, 2) := by decide +kernel
theorem dX5_count_4 : decode cX5_count 4 = .ok (.invokestatic 48, 3) := by decide +kernel
theorem dX5_count_7 : decode cX5_count 7 = .ok (.iload_n 1, 1) := by decide +kernel
theorem dX5_count_8 : decode cX5_count 8 = .ok (.bipush 10, 2) := by decide +kernel
theorem dX5_count_10 : decode cX5_count 10 = .ok (.if_icmp .ne 13, 3) := by decide +kernel
theorem dX5_count_13 : decode cX5_count 13 = .ok (.aload_n 0, 1) := by decide +kernel
theorem dX5_count_14 : decode cX5_count 14 = .ok (.getfield 26, 3) := by decide +kernel
theorem dX5_count_17 : decode cX5_count 17 = .ok (.invokevirtual 179, 3) := by decide +kernel
theorem dX5_count_20 : decode cX5_count 20 = .ok (.goto 11, 3) := by decide +kernel
theorem dX5_count_23 : decode cX5_count 23 = .ok (.aload_n 0, 1) := by decide +kernel
theorem dX5_count_24 : decode cX5_count 24 = .ok (.getfield 20, 3) := by decide +kernel
theorem dX5_count_27 : decode cX5_count 27 = .ok (.iload_n 1, 1) := by decide +kernel
theorem dX5_count_28 : decode cX5_count 28 = .ok (.invokevirtual 77, 3) := by decide +kernel
theorem dX5_count_31 : decode cX5_count 31 = .ok (.ireturn, 1) := by decide +kernel
set_option maxRecDepth 20000 in
theorem ggX5_setting_X5_needSetting : GoodIn wsX5_setting wsX5_needSetting := goodIn_ca (goodIn_r _ [5, 6, 7] (by decide +kernel) (by decide +kernel)) (goodIn_sub (fun _ h => List.mem_cons_of_mem _ (List.mem_append_right _ h)) (by decide +kernel))
set_option maxRecDepth 20000 in
theorem gX5_setting_X5_needSetting : GoodIn wsX5_setting (va_wsS RX5 80 yX5_needSetting wsX5_needSetting) := goodIn_app (goodIn_of _ (by decide +kernel)) ggX5_setting_X5_needSetting
set_option maxRecDepth 20000 in
theorem ggX5_setting_X2_ofSetting : GoodIn wsX5_setting wsX2_ofSetting := goodIn_r _ [11, 12, 13, 14, 9, 15, 16, 22] (by decide +kernel) (by decide +kernel)
set_option maxRecDepth 20000 in
theorem gX5_setting_X2_ofSetting_n94 : GoodIn wsX5_setting (wsX2_ofSetting) := ggX5_setting_X2_ofSetting
theorem dX5_setting_0 : decode cX5_setting 0 = .ok (.iload_n 1, 1) := by decide +kernel
theorem dX5_setting_1 : decode cX5_setting 1 = .ok (.invokestatic 80, 3) := by decide +kernel
theorem dX5_setting_4 : decode cX5_setting 4 = .ok (.aload_n 0, 1) := by decide +kernel
theorem dX5_setting_5 : decode cX5_setting 5 = .ok (.getfield 20, 3) := by decide +kernel
theorem dX5_setting_8 : decode cX5_setting 8 = .ok (.iload_n 1, 1) := by decide +kernel
theorem dX5_setting_9 : decode cX5_setting 9 = .ok (.invokevirtual 94, 3) := by decide +kernel
theorem dX5_setting_12 : decode cX5_setting 12 = .ok (.ireturn, 1) := by decide +kernel
set_option maxRecDepth 20000 in
theorem ggX5_whyNotDeliver_X5_needBrand : GoodIn wsX5_whyNotDeliver wsX5_needBrand := goodIn_ca (goodIn_r _ [6, 7, 8, 9, 10, 11, 5, 12, 13, 14, 15, 16, 17, 18, 19, 20, 21, 22, 61, 62, 63, 64, 65, 66] (by decide +kernel) (by decide +kernel)) (goodIn_sub (fun _ h => List.mem_cons_of_mem _ (List.mem_append_left _ (List.mem_append_right _ h))) (by decide +kernel))
set_option maxRecDepth 20000 in
theorem gX5_whyNotDeliver_X5_needBrand : GoodIn wsX5_whyNotDeliver (wsV RX5 100 RX5 yX5_needBrand wsX5_needBrand) := goodIn_app (goodIn_of _ (by decide +kernel)) ggX5_whyNotDeliver_X5_needBrand
set_option maxRecDepth 20000 in
theorem ggX5_whyNotDeliver_X5_needShop : GoodIn wsX5_whyNotDeliver wsX5_needShop := goodIn_ca (goodIn_r _ [26, 7, 8, 27, 28, 29, 5, 30, 13, 14, 15, 16, 17, 18, 19, 20, 21, 22, 61, 62, 63, 64, 65, 66] (by decide +kernel) (by decide +kernel)) (goodIn_sub (fun _ h => List.mem_cons_of_mem _ (List.mem_append_left _ (List.mem_append_right _ h))) (by decide +kernel))
set_option maxRecDepth 20000 in
theorem gX5_whyNotDeliver_X5_needShop : GoodIn wsX5_whyNotDeliver (wsV RX5 110 RX5 yX5_needShop wsX5_needShop) := goodIn_app (goodIn_of _ (by decide +kernel)) ggX5_whyNotDeliver_X5_needShop
set_option maxRecDepth 20000 in
theorem ggX5_whyNotDeliver_X5_needRange : GoodIn wsX5_whyNotDeliver wsX5_needRange := goodIn_ca (goodIn_r _ [33, 34, 35, 5, 36, 37, 38] (by decide +kernel) (by decide +kernel)) (goodIn_sub (fun _ h => List.mem_cons_of_mem _ (List.mem_append_right _ h)) (by decide +kernel))
set_option maxRecDepth 20000 in
theorem gX5_whyNotDeliver_X5_needRange : GoodIn wsX5_whyNotDeliver (va_wsS RX5 48 yX5_needRange wsX5_needRange) := goodIn_app (goodIn_of _ (by decide +kernel)) ggX5_whyNotDeliver_X5_needRange
set_option maxRecDepth 20000 in
theorem ggX5_whyNotDeliver_X4_deliverReason : GoodIn wsX5_whyNotDeliver wsX4_deliverReason := goodIn_r _ [42, 43, 44, 15, 45, 46, 18, 19, 20, 21, 22, 14, 16, 17, 47, 48, 49, 50, 51, 52, 40, 53, 54, 55, 56, 57, 58, 59, 60, 67, 68, 66] (by decide +kernel) (by decide +kernel)
set_option maxRecDepth 20000 in
theorem gX5_whyNotDeliver_X4_deliverReason_n113 : GoodIn wsX5_whyNotDeliver (wsX4_deliverReason) := ggX5_whyNotDeliver_X4_deliverReason
theorem dX5_whyNotDeliver_0 : decode cX5_whyNotDeliver 0 = .ok (.aload_n 0, 1) := by decide +kernel
theorem dX5_whyNotDeliver_1 : decode cX5_whyNotDeliver 1 = .ok (.iload_n 1, 1) := by decide +kernel
theorem dX5_whyNotDeliver_2 : decode cX5_whyNotDeliver 2 = .ok (.invokevirtual 100, 3) := by decide +kernel
theorem dX5_whyNotDeliver_5 : decode cX5_whyNotDeliver 5 = .ok (.aload_n 0, 1) := by decide +kernel
theorem dX5_whyNotDeliver_6 : decode cX5_whyNotDeliver 6 = .ok (.iload_n 2, 1) := by decide +kernel
theorem dX5_whyNotDeliver_7 : decode cX5_whyNotDeliver 7 = .ok (.invokevirtual 110, 3) := by decide +kernel
theorem dX5_whyNotDeliver_10 : decode cX5_whyNotDeliver 10 = .ok (.iload_n 3, 1) := by decide +kernel
theorem dX5_whyNotDeliver_11 : decode cX5_whyNotDeliver 11 = .ok (.iconst 1, 1) := by decide +kernel
theorem dX5_whyNotDeliver_12 : decode cX5_whyNotDeliver 12 = .ok (.bipush 50, 2) := by decide +kernel
theorem dX5_whyNotDeliver_14 : decode cX5_whyNotDeliver 14 = .ok (.invokestatic 48, 3) := by decide +kernel
theorem dX5_whyNotDeliver_17 : decode cX5_whyNotDeliver 17 = .ok (.aload_n 0, 1) := by decide +kernel
theorem dX5_whyNotDeliver_18 : decode cX5_whyNotDeliver 18 = .ok (.getfield 12, 3) := by decide +kernel
theorem dX5_whyNotDeliver_21 : decode cX5_whyNotDeliver 21 = .ok (.iload_n 1, 1) := by decide +kernel
theorem dX5_whyNotDeliver_22 : decode cX5_whyNotDeliver 22 = .ok (.iload_n 2, 1) := by decide +kernel
theorem dX5_whyNotDeliver_23 : decode cX5_whyNotDeliver 23 = .ok (.iload_n 3, 1) := by decide +kernel
theorem dX5_whyNotDeliver_24 : decode cX5_whyNotDeliver 24 = .ok (.invokevirtual 113, 3) := by decide +kernel
theorem dX5_whyNotDeliver_27 : decode cX5_whyNotDeliver 27 = .ok (.ireturn, 1) := by decide +kernel
set_option maxRecDepth 20000 in
theorem ggX5_whyNotCollect_X5_needShop : GoodIn wsX5_whyNotCollect wsX5_needShop := goodIn_ca (goodIn_r _ [6, 7, 8, 9, 10, 11, 5, 12, 13, 14, 15, 16, 17, 18, 19, 20, 21, 22, 49, 50, 51, 52, 53, 54] (by decide +kernel) (by decide +kernel)) (goodIn_sub (fun _ h => List.mem_cons_of_mem _ (List.mem_append_left _ (List.mem_append_right _ h))) (by decide +kernel))
set_option maxRecDepth 20000 in
theorem gX5_whyNotCollect_X5_needShop : GoodIn wsX5_whyNotCollect (wsV RX5 110 RX5 yX5_needShop wsX5_needShop) := goodIn_app (goodIn_of _ (by decide +kernel)) ggX5_whyNotCollect_X5_needShop
set_option maxRecDepth 20000 in
theorem ggX5_whyNotCollect_X5_needKind : GoodIn wsX5_whyNotCollect wsX5_needKind := goodIn_ca (goodIn_r _ [25, 26, 27, 5, 28, 29, 30, 31, 32, 33] (by decide +kernel) (by decide +kernel)) (goodIn_sub (fun _ h => List.mem_cons_of_mem _ (List.mem_append_right _ h)) (by decide +kernel))
set_option maxRecDepth 20000 in
theorem gX5_whyNotCollect_X5_needKind : GoodIn wsX5_whyNotCollect (va_wsS RX5 44 yX5_needKind wsX5_needKind) := goodIn_app (goodIn_of _ (by decide +kernel)) ggX5_whyNotCollect_X5_needKind
set_option maxRecDepth 20000 in
theorem ggX5_whyNotCollect_X5_needRange : GoodIn wsX5_whyNotCollect wsX5_needRange := goodIn_ca (goodIn_r _ [28, 29, 30, 5, 31, 32, 33] (by decide +kernel) (by decide +kernel)) (goodIn_sub (fun _ h => List.mem_cons_of_mem _ (List.mem_append_right _ h)) (by decide +kernel))
set_option maxRecDepth 20000 in
theorem gX5_whyNotCollect_X5_needRange : GoodIn wsX5_whyNotCollect (va_wsS RX5 48 yX5_needRange wsX5_needRange) := goodIn_app (goodIn_of _ (by decide +kernel)) ggX5_whyNotCollect_X5_needRange
set_option maxRecDepth 20000 in
theorem ggX5_whyNotCollect_X4_collectReason : GoodIn wsX5_whyNotCollect wsX4_collectReason := goodIn_r _ [37, 38, 39, 40, 41, 35, 42, 43, 15, 44, 45, 18, 19, 20, 21, 22, 46, 47, 48, 55, 56, 54] (by decide +kernel) (by decide +kernel)
set_option maxRecDepth 20000 in
theorem gX5_whyNotCollect_X4_collectReason_n141 : GoodIn wsX5_whyNotCollect (wsX4_collectReason) := ggX5_whyNotCollect_X4_collectReason
theorem dX5_whyNotCollect_0 : decode cX5_whyNotCollect 0 = .ok (.aload_n 0, 1) := by decide +kernel
theorem dX5_whyNotCollect_1 : decode cX5_whyNotCollect 1 = .ok (.iload_n 1, 1) := by decide +kernel
theorem dX5_whyNotCollect_2 : decode cX5_whyNotCollect 2 = .ok (.invokevirtual 110, 3) := by decide +kernel
theorem dX5_whyNotCollect_5 : decode cX5_whyNotCollect 5 = .ok (.iload_n 2, 1) := by decide +kernel
theorem dX5_whyNotCollect_6 : decode cX5_whyNotCollect 6 = .ok (.invokestatic 44, 3) := by decide +kernel
theorem dX5_whyNotCollect_9 : decode cX5_whyNotCollect 9 = .ok (.iload_n 3, 1) := by decide +kernel
theorem dX5_whyNotCollect_10 : decode cX5_whyNotCollect 10 = .ok (.iconst 1, 1) := by decide +kernel
theorem dX5_whyNotCollect_11 : decode cX5_whyNotCollect 11 = .ok (.bipush 50, 2) := by decide +kernel
theorem dX5_whyNotCollect_13 : decode cX5_whyNotCollect 13 = .ok (.invokestatic 48, 3) := by decide +kernel
theorem dX5_whyNotCollect_16 : decode cX5_whyNotCollect 16 = .ok (.aload_n 0, 1) := by decide +kernel
theorem dX5_whyNotCollect_17 : decode cX5_whyNotCollect 17 = .ok (.getfield 12, 3) := by decide +kernel
theorem dX5_whyNotCollect_20 : decode cX5_whyNotCollect 20 = .ok (.iload_n 1, 1) := by decide +kernel
theorem dX5_whyNotCollect_21 : decode cX5_whyNotCollect 21 = .ok (.iload_n 2, 1) := by decide +kernel
theorem dX5_whyNotCollect_22 : decode cX5_whyNotCollect 22 = .ok (.iload_n 3, 1) := by decide +kernel
theorem dX5_whyNotCollect_23 : decode cX5_whyNotCollect 23 = .ok (.invokevirtual 141, 3) := by decide +kernel
theorem dX5_whyNotCollect_26 : decode cX5_whyNotCollect 26 = .ok (.ireturn, 1) := by decide +kernel
set_option maxRecDepth 20000 in
theorem ggX5_mostCrates_X5_needBrand : GoodIn wsX5_mostCrates wsX5_needBrand := goodIn_ca (goodIn_r _ [6, 7, 8, 9, 10, 11, 5, 12, 13, 14, 15, 16, 17, 18, 19, 20, 21, 22, 57, 58, 59, 60, 61, 62] (by decide +kernel) (by decide +kernel)) (goodIn_sub (fun _ h => List.mem_cons_of_mem _ (List.mem_append_right _ h)) (by decide +kernel))
set_option maxRecDepth 20000 in
theorem gX5_mostCrates_X5_needBrand : GoodIn wsX5_mostCrates (wsV RX5 100 RX5 yX5_needBrand wsX5_needBrand) := goodIn_app (goodIn_of _ (by decide +kernel)) ggX5_mostCrates_X5_needBrand
set_option maxRecDepth 20000 in
theorem ggX5_mostCrates_X5_needShop : GoodIn wsX5_mostCrates wsX5_needShop := goodIn_ca (goodIn_r _ [26, 7, 8, 27, 28, 29, 5, 30, 13, 14, 15, 16, 17, 18, 19, 20, 21, 22, 57, 58, 59, 60, 61, 62] (by decide +kernel) (by decide +kernel)) (goodIn_sub (fun _ h => List.mem_cons_of_mem _ (List.mem_append_right _ h)) (by decide +kernel))
set_option maxRecDepth 20000 in
theorem gX5_mostCrates_X5_needShop : GoodIn wsX5_mostCrates (wsV RX5 110 RX5 yX5_needShop wsX5_needShop) := goodIn_app (goodIn_of _ (by decide +kernel)) ggX5_mostCrates_X5_needShop
set_option maxRecDepth 20000 in
theorem ggX5_mostCrates_X4_mostDeliverable : GoodIn wsX5_mostCrates wsX4_mostDeliverable := goodIn_r _ [34, 35, 36, 37, 38, 39, 40, 41, 42, 32, 43, 44, 15, 45, 46, 18, 19, 20, 21, 22, 47, 48, 49, 50, 51, 52, 53, 54, 55, 56, 14, 16, 17, 63, 64, 62] (by decide +kernel) (by decide +kernel)
set_option maxRecDepth 20000 in
theorem gX5_mostCrates_X4_mostDeliverable_n195 : GoodIn wsX5_mostCrates (wsX4_mostDeliverable) := ggX5_mostCrates_X4_mostDeliverable
theorem dX5_mostCrates_0 : decode cX5_mostCrates 0 = .ok (.aload_n 0, 1) := by decide +kernel
theorem dX5_mostCrates_1 : decode cX5_mostCrates 1 = .ok (.iload_n 1, 1) := by decide +kernel
theorem dX5_mostCrates_2 : decode cX5_mostCrates 2 = .ok (.invokevirtual 100, 3) := by decide +kernel
theorem dX5_mostCrates_5 : decode cX5_mostCrates 5 = .ok (.aload_n 0, 1) := by decide +kernel
theorem dX5_mostCrates_6 : decode cX5_mostCrates 6 = .ok (.iload_n 2, 1) := by decide +kernel
theorem dX5_mostCrates_7 : decode cX5_mostCrates 7 = .ok (.invokevirtual 110, 3) := by decide +kernel
theorem dX5_mostCrates_10 : decode cX5_mostCrates 10 = .ok (.aload_n 0, 1) := by decide +kernel
theorem dX5_mostCrates_11 : decode cX5_mostCrates 11 = .ok (.getfield 12, 3) := by decide +kernel
theorem dX5_mostCrates_14 : decode cX5_mostCrates 14 = .ok (.iload_n 1, 1) := by decide +kernel
theorem dX5_mostCrates_15 : decode cX5_mostCrates 15 = .ok (.iload_n 2, 1) := by decide +kernel
theorem dX5_mostCrates_16 : decode cX5_mostCrates 16 = .ok (.invokevirtual 195, 3) := by decide +kernel
theorem dX5_mostCrates_19 : decode cX5_mostCrates 19 = .ok (.ireturn, 1) := by decide +kernel
set_option maxRecDepth 20000 in
theorem ggX5_collected_X5_needShop : GoodIn wsX5_collected wsX5_needShop := goodIn_ca (goodIn_r _ [6, 7, 8, 9, 10, 11, 5, 12, 13, 14, 15, 16, 17, 18, 19, 20, 21, 22, 73, 74, 75, 76, 77, 78] (by decide +kernel) (by decide +kernel)) (goodIn_sub (fun _ h => List.mem_cons_of_mem _ (List.mem_append_left _ (List.mem_append_right _ h))) (by decide +kernel))
set_option maxRecDepth 20000 in
theorem gX5_collected_X5_needShop : GoodIn wsX5_collected (wsV RX5 110 RX5 yX5_needShop wsX5_needShop) := goodIn_app (goodIn_of _ (by decide +kernel)) ggX5_collected_X5_needShop
set_option maxRecDepth 20000 in
theorem ggX5_collected_X5_needBrand : GoodIn wsX5_collected wsX5_needBrand := goodIn_ca (goodIn_r _ [26, 7, 8, 27, 28, 29, 5, 30, 13, 14, 15, 16, 17, 18, 19, 20, 21, 22, 73, 74, 75, 76, 77, 78] (by decide +kernel) (by decide +kernel)) (goodIn_sub (fun _ h => List.mem_cons_of_mem _ (List.mem_append_left _ (List.mem_append_right _ h))) (by decide +kernel))
set_option maxRecDepth 20000 in
theorem gX5_collected_X5_needBrand : GoodIn wsX5_collected (wsV RX5 100 RX5 yX5_needBrand wsX5_needBrand) := goodIn_app (goodIn_of _ (by decide +kernel)) ggX5_collected_X5_needBrand
set_option maxRecDepth 20000 in
theorem ggX5_collected_X5_needRange : GoodIn wsX5_collected wsX5_needRange := goodIn_ca (goodIn_r _ [33, 34, 35, 5, 36, 37, 38] (by decide +kernel) (by decide +kernel)) (goodIn_sub (fun _ h => List.mem_cons_of_mem _ (List.mem_append_right _ h)) (by decide +kernel))
set_option maxRecDepth 20000 in
theorem gX5_collected_X5_needRange : GoodIn wsX5_collected (va_wsS RX5 48 yX5_needRange wsX5_needRange) := goodIn_app (goodIn_of _ (by decide +kernel)) ggX5_collected_X5_needRange
set_option maxRecDepth 20000 in
theorem ggX5_collected_X4_wouldCollect : GoodIn wsX5_collected wsX4_wouldCollect := goodIn_r _ [42, 43, 44, 15, 45, 46, 18, 19, 20, 21, 22, 47, 48, 49, 40, 50, 51, 52, 53, 54, 55, 56, 57, 58, 59, 60, 61, 62, 63, 64, 65, 66, 67, 68, 69, 70, 71, 5, 72, 79, 80, 78] (by decide +kernel) (by decide +kernel)
set_option maxRecDepth 20000 in
theorem gX5_collected_X4_wouldCollect_n198 : GoodIn wsX5_collected (wsX4_wouldCollect) := ggX5_collected_X4_wouldCollect
theorem dX5_collected_0 : decode cX5_collected 0 = .ok (.aload_n 0, 1) := by decide +kernel
theorem dX5_collected_1 : decode cX5_collected 1 = .ok (.iload_n 1, 1) := by decide +kernel
theorem dX5_collected_2 : decode cX5_collected 2 = .ok (.invokevirtual 110, 3) := by decide +kernel
theorem dX5_collected_5 : decode cX5_collected 5 = .ok (.aload_n 0, 1) := by decide +kernel
theorem dX5_collected_6 : decode cX5_collected 6 = .ok (.iload_n 2, 1) := by decide +kernel
theorem dX5_collected_7 : decode cX5_collected 7 = .ok (.invokevirtual 100, 3) := by decide +kernel
theorem dX5_collected_10 : decode cX5_collected 10 = .ok (.iload_n 3, 1) := by decide +kernel
theorem dX5_collected_11 : decode cX5_collected 11 = .ok (.iconst 1, 1) := by decide +kernel
theorem dX5_collected_12 : decode cX5_collected 12 = .ok (.bipush 50, 2) := by decide +kernel
theorem dX5_collected_14 : decode cX5_collected 14 = .ok (.invokestatic 48, 3) := by decide +kernel
theorem dX5_collected_17 : decode cX5_collected 17 = .ok (.aload_n 0, 1) := by decide +kernel
theorem dX5_collected_18 : decode cX5_collected 18 = .ok (.getfield 12, 3) := by decide +kernel
theorem dX5_collected_21 : decode cX5_collected 21 = .ok (.iload_n 1, 1) := by decide +kernel
theorem dX5_collected_22 : decode cX5_collected 22 = .ok (.iload_n 2, 1) := by decide +kernel
theorem dX5_collected_23 : decode cX5_collected 23 = .ok (.iload_n 3, 1) := by decide +kernel
theorem dX5_collected_24 : decode cX5_collected 24 = .ok (.invokevirtual 198, 3) := by decide +kernel
theorem dX5_collected_27 : decode cX5_collected 27 = .ok (.ireturn, 1) := by decide +kernel
set_option maxRecDepth 20000 in
theorem ggX5_filled_X5_needBrand : GoodIn wsX5_filled wsX5_needBrand := goodIn_ca (goodIn_r _ [6, 7, 8, 9, 10, 11, 5, 12, 13, 14, 15, 16, 17, 18, 19, 20, 21, 22, 42, 43, 44, 45, 46, 47] (by decide +kernel) (by decide +kernel)) (goodIn_sub (fun _ h => List.mem_cons_of_mem _ (List.mem_append_left _ (List.mem_append_right _ h))) (by decide +kernel))
set_option maxRecDepth 20000 in
theorem gX5_filled_X5_needBrand : GoodIn wsX5_filled (wsV RX5 100 RX5 yX5_needBrand wsX5_needBrand) := goodIn_app (goodIn_of _ (by decide +kernel)) ggX5_filled_X5_needBrand
set_option maxRecDepth 20000 in
theorem ggX5_filled_X5_needRange : GoodIn wsX5_filled wsX5_needRange := goodIn_ca (goodIn_r _ [25, 26, 27, 5, 28, 29, 30] (by decide +kernel) (by decide +kernel)) (goodIn_sub (fun _ h => List.mem_cons_of_mem _ (List.mem_append_right _ h)) (by decide +kernel))
set_option maxRecDepth 20000 in
theorem gX5_filled_X5_needRange : GoodIn wsX5_filled (va_wsS RX5 48 yX5_needRange wsX5_needRange) := goodIn_app (goodIn_of _ (by decide +kernel)) ggX5_filled_X5_needRange
set_option maxRecDepth 20000 in
theorem ggX5_filled_X4_wornBy : GoodIn wsX5_filled wsX4_wornBy := goodIn_r _ [34, 35, 36, 15, 37, 38, 18, 19, 20, 21, 22, 39, 40, 41, 48, 49, 47] (by decide +kernel) (by decide +kernel)
set_option maxRecDepth 20000 in
theorem gX5_filled_X4_wornBy_n201 : GoodIn wsX5_filled (wsX4_wornBy) := ggX5_filled_X4_wornBy
theorem dX5_filled_0 : decode cX5_filled 0 = .ok (.aload_n 0, 1) := by decide +kernel
theorem dX5_filled_1 : decode cX5_filled 1 = .ok (.iload_n 1, 1) := by decide +kernel
theorem dX5_filled_2 : decode cX5_filled 2 = .ok (.invokevirtual 100, 3) := by decide +kernel
theorem dX5_filled_5 : decode cX5_filled 5 = .ok (.iload_n 2, 1) := by decide +kernel
theorem dX5_filled_6 : decode cX5_filled 6 = .ok (.iconst 1, 1) := by decide +kernel
theorem dX5_filled_7 : decode cX5_filled 7 = .ok (.sipush 5000, 3) := by decide +kernel
theorem dX5_filled_10 : decode cX5_filled 10 = .ok (.invokestatic 48, 3) := by decide +kernel
theorem dX5_filled_13 : decode cX5_filled 13 = .ok (.iload_n 2, 1) := by decide +kernel
theorem dX5_filled_14 : decode cX5_filled 14 = .ok (.aload_n 0, 1) := by decide +kernel
theorem dX5_filled_15 : decode cX5_filled 15 = .ok (.getfield 12, 3) := by decide +kernel
theorem dX5_filled_18 : decode cX5_filled 18 = .ok (.iload_n 1, 1) := by decide +kernel
theorem dX5_filled_19 : decode cX5_filled 19 = .ok (.iload_n 2, 1) := by decide +kernel
theorem dX5_filled_20 : decode cX5_filled 20 = .ok (.invokevirtual 201, 3) := by decide +kernel
theorem dX5_filled_23 : decode cX5_filled 23 = .ok (.isub, 1) := by decide +kernel
theorem dX5_filled_24 : decode cX5_filled 24 = .ok (.ireturn, 1) := by decide +kernel
set_option maxRecDepth 20000 in
theorem ggX5_bestShop_X5_needKind : GoodIn wsX5_bestShop wsX5_needKind := goodIn_ca (goodIn_r _ [5, 6, 7, 4, 8, 9, 10, 11, 12, 13] (by decide +kernel) (by decide +kernel)) (goodIn_sub (fun _ h => List.mem_cons_of_mem _ (List.mem_append_right _ h)) (by decide +kernel))
set_option maxRecDepth 20000 in
theorem gX5_bestShop_X5_needKind : GoodIn wsX5_bestShop (va_wsS RX5 44 yX5_needKind wsX5_needKind) := goodIn_app (goodIn_of _ (by decide +kernel)) ggX5_bestShop_X5_needKind
set_option maxRecDepth 20000 in
theorem ggX5_bestShop_X4_bestToCollect : GoodIn wsX5_bestShop wsX4_bestToCollect := goodIn_r _ [17, 18, 19, 20, 15, 21, 22, 23, 24, 25, 26, 27, 28, 29, 30, 31, 32, 33, 34, 35, 36, 37, 38, 39, 40, 41, 42, 48, 49, 50] (by decide +kernel) (by decide +kernel)
set_option maxRecDepth 20000 in
theorem gX5_bestShop_X4_bestToCollect_n204 : GoodIn wsX5_bestShop (wsX4_bestToCollect) := ggX5_bestShop_X4_bestToCollect
theorem dX5_bestShop_0 : decode cX5_bestShop 0 = .ok (.iload_n 1, 1) := by decide +kernel
theorem dX5_bestShop_1 : decode cX5_bestShop 1 = .ok (.invokestatic 44, 3) := by decide +kernel
theorem dX5_bestShop_4 : decode cX5_bestShop 4 = .ok (.aload_n 0, 1) := by decide +kernel
theorem dX5_bestShop_5 : decode cX5_bestShop 5 = .ok (.getfield 12, 3) := by decide +kernel
theorem dX5_bestShop_8 : decode cX5_bestShop 8 = .ok (.iload_n 1, 1) := by decide +kernel
theorem dX5_bestShop_9 : decode cX5_bestShop 9 = .ok (.invokevirtual 204, 3) := by decide +kernel
theorem dX5_bestShop_12 : decode cX5_bestShop 12 = .ok (.ireturn, 1) := by decide +kernel
set_option maxRecDepth 20000 in
theorem ggX5_goneShare_X2_brandSum : GoodIn wsX5_goneShare wsX2_brandSum := goodIn_r _ [5, 6, 7, 8, 3, 9, 10, 11, 12, 13, 14, 15, 16, 17, 18, 19, 20, 21, 22, 23, 24, 25, 26, 32] (by decide +kernel) (by decide +kernel)
set_option maxRecDepth 20000 in
theorem gX5_goneShare_X2_brandSum_n207 : GoodIn wsX5_goneShare (wsX2_brandSum) := ggX5_goneShare_X2_brandSum
theorem dX5_goneShare_0 : decode cX5_goneShare 0 = .ok (.aload_n 0, 1) := by decide +kernel
theorem dX5_goneShare_1 : decode cX5_goneShare 1 = .ok (.getfield 20, 3) := by decide +kernel
theorem dX5_goneShare_4 : decode cX5_goneShare 4 = .ok (.iconst 1, 1) := by decide +kernel
theorem dX5_goneShare_5 : decode cX5_goneShare 5 = .ok (.bipush 9, 2) := by decide +kernel
theorem dX5_goneShare_7 : decode cX5_goneShare 7 = .ok (.invokevirtual 207, 3) := by decide +kernel
theorem dX5_goneShare_10 : decode cX5_goneShare 10 = .ok (.istore_n 1, 1) := by decide +kernel
theorem dX5_goneShare_11 : decode cX5_goneShare 11 = .ok (.iload_n 1, 1) := by decide +kernel
theorem dX5_goneShare_12 : decode cX5_goneShare 12 = .ok (.ifCond .le 21, 3) := by decide +kernel
theorem dX5_goneShare_15 : decode cX5_goneShare 15 = .ok (.aload_n 0, 1) := by decide +kernel
theorem dX5_goneShare_16 : decode cX5_goneShare 16 = .ok (.getfield 20, 3) := by decide +kernel
theorem dX5_goneShare_19 : decode cX5_goneShare 19 = .ok (.bipush 7, 2) := by decide +kernel
theorem dX5_goneShare_21 : decode cX5_goneShare 21 = .ok (.bipush 9, 2) := by decide +kernel
theorem dX5_goneShare_23 : decode cX5_goneShare 23 = .ok (.invokevirtual 207, 3) := by decide +kernel
theorem dX5_goneShare_26 : decode cX5_goneShare 26 = .ok (.i2d, 1) := by decide +kernel
theorem dX5_goneShare_27 : decode cX5_goneShare 27 = .ok (.iload_n 1, 1) := by decide +kernel
theorem dX5_goneShare_28 : decode cX5_goneShare 28 = .ok (.i2d, 1) := by decide +kernel
theorem dX5_goneShare_29 : decode cX5_goneShare 29 = .ok (.ddiv, 1) := by decide +kernel
theorem dX5_goneShare_30 : decode cX5_goneShare 30 = .ok (.goto 4, 3) := by decide +kernel
theorem dX5_goneShare_33 : decode cX5_goneShare 33 = .ok (.dconst 0, 1) := by decide +kernel
theorem dX5_goneShare_34 : decode cX5_goneShare 34 = .ok (.dreturn, 1) := by decide +kernel
set_option maxRecDepth 20000 in
theorem ggX5_isBrand_X2_ofAll : GoodIn wsX5_isBrand wsX2_ofAll := goodIn_r _ [5, 6, 7, 8, 3, 9, 10, 16] (by decide +kernel) (by decide +kernel)
set_option maxRecDepth 20000 in
theorem gX5_isBrand_X2_ofAll_n52 : GoodIn wsX5_isBrand (wsX2_ofAll) := ggX5_isBrand_X2_ofAll
theorem dX5_isBrand_0 : decode cX5_isBrand 0 = .ok (.iload_n 1, 1) := by decide +kernel
theorem dX5_isBrand_1 : decode cX5_isBrand 1 = .ok (.ifCond .lt 19, 3) := by decide +kernel
theorem dX5_isBrand_4 : decode cX5_isBrand 4 = .ok (.iload_n 1, 1) := by decide +kernel
theorem dX5_isBrand_5 : decode cX5_isBrand 5 = .ok (.aload_n 0, 1) := by decide +kernel
theorem dX5_isBrand_6 : decode cX5_isBrand 6 = .ok (.getfield 20, 3) := by decide +kernel
theorem dX5_isBrand_9 : decode cX5_isBrand 9 = .ok (.iconst 0, 1) := by decide +kernel
theorem dX5_isBrand_10 : decode cX5_isBrand 10 = .ok (.invokevirtual 52, 3) := by decide +kernel
theorem dX5_isBrand_13 : decode cX5_isBrand 13 = .ok (.if_icmp .ge 7, 3) := by decide +kernel
theorem dX5_isBrand_16 : decode cX5_isBrand 16 = .ok (.iconst 1, 1) := by decide +kernel
theorem dX5_isBrand_17 : decode cX5_isBrand 17 = .ok (.goto 4, 3) := by decide +kernel
theorem dX5_isBrand_20 : decode cX5_isBrand 20 = .ok (.iconst 0, 1) := by decide +kernel
theorem dX5_isBrand_21 : decode cX5_isBrand 21 = .ok (.ireturn, 1) := by decide +kernel
set_option maxRecDepth 20000 in
theorem ggX5_isShop_X2_ofAll : GoodIn wsX5_isShop wsX2_ofAll := goodIn_r _ [5, 6, 7, 8, 3, 9, 10, 16] (by decide +kernel) (by decide +kernel)
set_option maxRecDepth 20000 in
theorem gX5_isShop_X2_ofAll_n52 : GoodIn wsX5_isShop (wsX2_ofAll) := ggX5_isShop_X2_ofAll
theorem dX5_isShop_0 : decode cX5_isShop 0 = .ok (.iload_n 1, 1) := by decide +kernel
theorem dX5_isShop_1 : decode cX5_isShop 1 = .ok (.ifCond .lt 19, 3) := by decide +kernel
theorem dX5_isShop_4 : decode cX5_isShop 4 = .ok (.iload_n 1, 1) := by decide +kernel
theorem dX5_isShop_5 : decode cX5_isShop 5 = .ok (.aload_n 0, 1) := by decide +kernel
theorem dX5_isShop_6 : decode cX5_isShop 6 = .ok (.getfield 20, 3) := by decide +kernel
theorem dX5_isShop_9 : decode cX5_isShop 9 = .ok (.iconst 1, 1) := by decide +kernel
theorem dX5_isShop_10 : decode cX5_isShop 10 = .ok (.invokevirtual 52, 3) := by decide +kernel
theorem dX5_isShop_13 : decode cX5_isShop 13 = .ok (.if_icmp .ge 7, 3) := by decide +kernel
theorem dX5_isShop_16 : decode cX5_isShop 16 = .ok (.iconst 1, 1) := by decide +kernel
theorem dX5_isShop_17 : decode cX5_isShop 17 = .ok (.goto 4, 3) := by decide +kernel
theorem dX5_isShop_20 : decode cX5_isShop 20 = .ok (.iconst 0, 1) := by decide +kernel
theorem dX5_isShop_21 : decode cX5_isShop 21 = .ok (.ireturn, 1) := by decide +kernel
theorem dX5_isShopNumber_0 : decode cX5_isShopNumber 0 = .ok (.iload_n 0, 1) := by decide +kernel
theorem dX5_isShopNumber_1 : decode cX5_isShopNumber 1 = .ok (.ifCond .lt 9, 3) := by decide +kernel
theorem dX5_isShopNumber_4 : decode cX5_isShopNumber 4 = .ok (.iload_n 0, 1) := by decide +kernel
theorem dX5_isShopNumber_5 : decode cX5_isShopNumber 5 = .ok (.bipush 6, 2) := by decide +kernel
theorem dX5_isShopNumber_7 : decode cX5_isShopNumber 7 = .ok (.if_icmp .le 27, 3) := by decide +kernel
theorem dX5_isShopNumber_10 : decode cX5_isShopNumber 10 = .ok (.iload_n 0, 1) := by decide +kernel
theorem dX5_isShopNumber_11 : decode cX5_isShopNumber 11 = .ok (.bipush 10, 2) := by decide +kernel
theorem dX5_isShopNumber_13 : decode cX5_isShopNumber 13 = .ok (.if_icmp .lt 9, 3) := by decide +kernel
theorem dX5_isShopNumber_16 : decode cX5_isShopNumber 16 = .ok (.iload_n 0, 1) := by decide +kernel
theorem dX5_isShopNumber_17 : decode cX5_isShopNumber 17 = .ok (.bipush 18, 2) := by decide +kernel
theorem dX5_isShopNumber_19 : decode cX5_isShopNumber 19 = .ok (.if_icmp .lt 15, 3) := by decide +kernel
theorem dX5_isShopNumber_22 : decode cX5_isShopNumber 22 = .ok (.iload_n 0, 1) := by decide +kernel
theorem dX5_isShopNumber_23 : decode cX5_isShopNumber 23 = .ok (.bipush 20, 2) := by decide +kernel
theorem dX5_isShopNumber_25 : decode cX5_isShopNumber 25 = .ok (.if_icmp .lt 13, 3) := by decide +kernel
theorem dX5_isShopNumber_28 : decode cX5_isShopNumber 28 = .ok (.iload_n 0, 1) := by decide +kernel
theorem dX5_isShopNumber_29 : decode cX5_isShopNumber 29 = .ok (.bipush 28, 2) := by decide +kernel
theorem dX5_isShopNumber_31 : decode cX5_isShopNumber 31 = .ok (.if_icmp .ge 7, 3) := by decide +kernel
theorem dX5_isShopNumber_34 : decode cX5_isShopNumber 34 = .ok (.iconst 1, 1) := by decide +kernel
theorem dX5_isShopNumber_35 : decode cX5_isShopNumber 35 = .ok (.goto 4, 3) := by decide +kernel
theorem dX5_isShopNumber_38 : decode cX5_isShopNumber 38 = .ok (.iconst 0, 1) := by decide +kernel
theorem dX5_isShopNumber_39 : decode cX5_isShopNumber 39 = .ok (.ireturn, 1) := by decide +kernel
set_option maxRecDepth 20000 in
theorem ggX5_needBrand_X5_isBrand : GoodIn wsX5_needBrand wsX5_isBrand := goodIn_r _ [7, 8, 9, 10, 11, 12, 13, 14, 15, 16, 17, 18, 19, 20, 21, 22, 23] (by decide +kernel) (by decide +kernel)
set_option maxRecDepth 20000 in
theorem gX5_needBrand_X5_isBrand : GoodIn wsX5_needBrand (wsV RX5 283 RX5 yX5_isBrand wsX5_isBrand) := goodIn_app (goodIn_of _ (by decide +kernel)) ggX5_needBrand_X5_isBrand
theorem dX5_needBrand_0 : decode cX5_needBrand 0 = .ok (.aload_n 0, 1) := by decide +kernel
theorem dX5_needBrand_1 : decode cX5_needBrand 1 = .ok (.iload_n 1, 1) := by decide +kernel
theorem dX5_needBrand_2 : decode cX5_needBrand 2 = .ok (.invokevirtual 283, 3) := by decide +kernel
theorem dX5_needBrand_5 : decode cX5_needBrand 5 = .ok (.ifCond .ne 14, 3) := by decide +kernel
theorem dX5_needBrand_8 : decode cX5_needBrand 8 = .ok (.new 289, 3) := by decide +kernel
theorem dX5_needBrand_11 : decode cX5_needBrand 11 = .ok (.dup, 1) := by decide +kernel
theorem dX5_needBrand_12 : decode cX5_needBrand 12 = .ok (.ldc_w 291, 3) := by decide +kernel
theorem dX5_needBrand_15 : decode cX5_needBrand 15 = .ok (.invokespecial 293, 3) := by decide +kernel
theorem dX5_needBrand_18 : decode cX5_needBrand 18 = .ok (.athrow, 1) := by decide +kernel
theorem dX5_needBrand_19 : decode cX5_needBrand 19 = .ok (.return_, 1) := by decide +kernel
set_option maxRecDepth 20000 in
theorem ggX5_needShop_X5_isShop : GoodIn wsX5_needShop wsX5_isShop := goodIn_r _ [7, 8, 9, 10, 11, 12, 13, 14, 15, 16, 17, 18, 19, 20, 21, 22, 23] (by decide +kernel) (by decide +kernel)
set_option maxRecDepth 20000 in
theorem gX5_needShop_X5_isShop : GoodIn wsX5_needShop (wsV RX5 286 RX5 yX5_isShop wsX5_isShop) := goodIn_app (goodIn_of _ (by decide +kernel)) ggX5_needShop_X5_isShop
theorem dX5_needShop_0 : decode cX5_needShop 0 = .ok (.aload_n 0, 1) := by decide +kernel
theorem dX5_needShop_1 : decode cX5_needShop 1 = .ok (.iload_n 1, 1) := by decide +kernel
theorem dX5_needShop_2 : decode cX5_needShop 2 = .ok (.invokevirtual 286, 3) := by decide +kernel
theorem dX5_needShop_5 : decode cX5_needShop 5 = .ok (.ifCond .ne 14, 3) := by decide +kernel
theorem dX5_needShop_8 : decode cX5_needShop 8 = .ok (.new 289, 3) := by decide +kernel
theorem dX5_needShop_11 : decode cX5_needShop 11 = .ok (.dup, 1) := by decide +kernel
theorem dX5_needShop_12 : decode cX5_needShop 12 = .ok (.ldc_w 296, 3) := by decide +kernel
theorem dX5_needShop_15 : decode cX5_needShop 15 = .ok (.invokespecial 293, 3) := by decide +kernel
theorem dX5_needShop_18 : decode cX5_needShop 18 = .ok (.athrow, 1) := by decide +kernel
theorem dX5_needShop_19 : decode cX5_needShop 19 = .ok (.return_, 1) := by decide +kernel
theorem dX5_needSetting_0 : decode cX5_needSetting 0 = .ok (.iload_n 0, 1) := by decide +kernel
theorem dX5_needSetting_1 : decode cX5_needSetting 1 = .ok (.ifCond .lt 9, 3) := by decide +kernel
theorem dX5_needSetting_4 : decode cX5_needSetting 4 = .ok (.iload_n 0, 1) := by decide +kernel
theorem dX5_needSetting_5 : decode cX5_needSetting 5 = .ok (.bipush 6, 2) := by decide +kernel
theorem dX5_needSetting_7 : decode cX5_needSetting 7 = .ok (.if_icmp .lt 14, 3) := by decide +kernel
theorem dX5_needSetting_10 : decode cX5_needSetting 10 = .ok (.new 289, 3) := by decide +kernel
theorem dX5_needSetting_13 : decode cX5_needSetting 13 = .ok (.dup, 1) := by decide +kernel
theorem dX5_needSetting_14 : decode cX5_needSetting 14 = .ok (.ldc_w 298, 3) := by decide +kernel
theorem dX5_needSetting_17 : decode cX5_needSetting 17 = .ok (.invokespecial 293, 3) := by decide +kernel
theorem dX5_needSetting_20 : decode cX5_needSetting 20 = .ok (.athrow, 1) := by decide +kernel
theorem dX5_needSetting_21 : decode cX5_needSetting 21 = .ok (.return_, 1) := by decide +kernel
set_option maxRecDepth 20000 in
theorem ggX5_needKind_X5_needRange : GoodIn wsX5_needKind wsX5_needRange := goodIn_ca (goodIn_r _ [4, 5, 6, 3, 7, 8, 9] (by decide +kernel) (by decide +kernel)) (goodIn_sub (fun _ h => List.mem_cons_of_mem _ (List.mem_append_right _ h)) (by decide +kernel))
set_option maxRecDepth 20000 in
theorem gX5_needKind_X5_needRange : GoodIn wsX5_needKind (va_wsS RX5 48 yX5_needRange wsX5_needRange) := goodIn_app (goodIn_of _ (by decide +kernel)) ggX5_needKind_X5_needRange
theorem dX5_needKind_0 : decode cX5_needKind 0 = .ok (.iload_n 0, 1) := by decide +kernel
theorem dX5_needKind_1 : decode cX5_needKind 1 = .ok (.iconst 0, 1) := by decide +kernel
theorem dX5_needKind_2 : decode cX5_needKind 2 = .ok (.iconst 2, 1) := by decide +kernel
theorem dX5_needKind_3 : decode cX5_needKind 3 = .ok (.invokestatic 48, 3) := by decide +kernel
theorem dX5_needKind_6 : decode cX5_needKind 6 = .ok (.return_, 1) := by decide +kernel
set_option maxRecDepth 20000 in
theorem ggX5_needRange_X5_needArgument : GoodIn wsX5_needRange wsX5_needArgument := goodIn_ca (goodIn_r _ [4, 5, 6] (by decide +kernel) (by decide +kernel)) (goodIn_sub (fun _ h => List.mem_cons_of_mem _ (List.mem_append_right _ h)) (by decide +kernel))
set_option maxRecDepth 20000 in
theorem gX5_needRange_X5_needArgument : GoodIn wsX5_needRange (va_wsS RX5 153 yX5_needArgument wsX5_needArgument) := goodIn_app (goodIn_of _ (by decide +kernel)) ggX5_needRange_X5_needArgument
theorem dX5_needRange_0 : decode cX5_needRange 0 = .ok (.iload_n 0, 1) := by decide +kernel
theorem dX5_needRange_1 : decode cX5_needRange 1 = .ok (.iload_n 1, 1) := by decide +kernel
theorem dX5_needRange_2 : decode cX5_needRange 2 = .ok (.if_icmp .lt 12, 3) := by decide +kernel
theorem dX5_needRange_5 : decode cX5_needRange 5 = .ok (.iload_n 0, 1) := by decide +kernel
theorem dX5_needRange_6 : decode cX5_needRange 6 = .ok (.iload_n 2, 1) := by decide +kernel
theorem dX5_needRange_7 : decode cX5_needRange 7 = .ok (.if_icmp .gt 7, 3) := by decide +kernel
theorem dX5_needRange_10 : decode cX5_needRange 10 = .ok (.iconst 1, 1) := by decide +kernel
theorem dX5_needRange_11 : decode cX5_needRange 11 = .ok (.goto 4, 3) := by decide +kernel
theorem dX5_needRange_14 : decode cX5_needRange 14 = .ok (.iconst 0, 1) := by decide +kernel
theorem dX5_needRange_15 : decode cX5_needRange 15 = .ok (.invokestatic 153, 3) := by decide +kernel
theorem dX5_needRange_18 : decode cX5_needRange 18 = .ok (.return_, 1) := by decide +kernel
theorem dX5_needArgument_0 : decode cX5_needArgument 0 = .ok (.iload_n 0, 1) := by decide +kernel
theorem dX5_needArgument_1 : decode cX5_needArgument 1 = .ok (.ifCond .ne 14, 3) := by decide +kernel
theorem dX5_needArgument_4 : decode cX5_needArgument 4 = .ok (.new 300, 3) := by decide +kernel
theorem dX5_needArgument_7 : decode cX5_needArgument 7 = .ok (.dup, 1) := by decide +kernel
theorem dX5_needArgument_8 : decode cX5_needArgument 8 = .ok (.ldc_w 302, 3) := by decide +kernel
theorem dX5_needArgument_11 : decode cX5_needArgument 11 = .ok (.invokespecial 304, 3) := by decide +kernel
theorem dX5_needArgument_14 : decode cX5_needArgument 14 = .ok (.athrow, 1) := by decide +kernel
theorem dX5_needArgument_15 : decode cX5_needArgument 15 = .ok (.return_, 1) := by decide +kernel
theorem dX5_needState_0 : decode cX5_needState 0 = .ok (.iload_n 0, 1) := by decide +kernel
theorem dX5_needState_1 : decode cX5_needState 1 = .ok (.ifCond .ne 14, 3) := by decide +kernel
theorem dX5_needState_4 : decode cX5_needState 4 = .ok (.new 305, 3) := by decide +kernel
theorem dX5_needState_7 : decode cX5_needState 7 = .ok (.dup, 1) := by decide +kernel
theorem dX5_needState_8 : decode cX5_needState 8 = .ok (.ldc_w 307, 3) := by decide +kernel
theorem dX5_needState_11 : decode cX5_needState 11 = .ok (.invokespecial 309, 3) := by decide +kernel
theorem dX5_needState_14 : decode cX5_needState 14 = .ok (.athrow, 1) := by decide +kernel
theorem dX5_needState_15 : decode cX5_needState 15 = .ok (.return_, 1) := by decide +kernel
theorem dX5_entry_0 : decode cX5_entry 0 = .ok (.aload_n 0, 1) := by decide +kernel
theorem dX5_entry_1 : decode cX5_entry 1 = .ok (.ifnull 19, 3) := by decide +kernel
theorem dX5_entry_4 : decode cX5_entry 4 = .ok (.iload_n 1, 1) := by decide +kernel
theorem dX5_entry_5 : decode cX5_entry 5 = .ok (.ifCond .lt 15, 3) := by decide +kernel
theorem dX5_entry_8 : decode cX5_entry 8 = .ok (.iload_n 1, 1) := by decide +kernel
theorem dX5_entry_9 : decode cX5_entry 9 = .ok (.aload_n 0, 1) := by decide +kernel
theorem dX5_entry_10 : decode cX5_entry 10 = .ok (.arraylength, 1) := by decide +kernel
theorem dX5_entry_11 : decode cX5_entry 11 = .ok (.if_icmp .ge 9, 3) := by decide +kernel
theorem dX5_entry_14 : decode cX5_entry 14 = .ok (.aload_n 0, 1) := by decide +kernel
theorem dX5_entry_15 : decode cX5_entry 15 = .ok (.iload_n 1, 1) := by decide +kernel
theorem dX5_entry_16 : decode cX5_entry 16 = .ok (.iaload, 1) := by decide +kernel
theorem dX5_entry_17 : decode cX5_entry 17 = .ok (.goto 4, 3) := by decide +kernel
theorem dX5_entry_20 : decode cX5_entry 20 = .ok (.iconst 0, 1) := by decide +kernel
theorem dX5_entry_21 : decode cX5_entry 21 = .ok (.ireturn, 1) := by decide +kernel
theorem dJ9_min_7cf53_0 : decode cJ9_min_7cf53 0 = .ok (.iload_n 0, 1) := by decide +kernel
theorem dJ9_min_7cf53_1 : decode cJ9_min_7cf53 1 = .ok (.iload_n 1, 1) := by decide +kernel
theorem dJ9_min_7cf53_2 : decode cJ9_min_7cf53 2 = .ok (.if_icmp .gt 7, 3) := by decide +kernel
theorem dJ9_min_7cf53_5 : decode cJ9_min_7cf53 5 = .ok (.iload_n 0, 1) := by decide +kernel
theorem dJ9_min_7cf53_6 : decode cJ9_min_7cf53 6 = .ok (.goto 4, 3) := by decide +kernel
theorem dJ9_min_7cf53_9 : decode cJ9_min_7cf53 9 = .ok (.iload_n 1, 1) := by decide +kernel
theorem dJ9_min_7cf53_10 : decode cJ9_min_7cf53 10 = .ok (.ireturn, 1) := by decide +kernel
theorem dL_cell_0 : decode cL_cell 0 = .ok (.iload_n 1, 1) := by decide +kernel
theorem dL_cell_1 : decode cL_cell 1 = .ok (.aload_n 0, 1) := by decide +kernel
theorem dL_cell_2 : decode cL_cell 2 = .ok (.arraylength, 1) := by decide +kernel
theorem dL_cell_3 : decode cL_cell 3 = .ok (.if_icmp .ge 9, 3) := by decide +kernel
theorem dL_cell_6 : decode cL_cell 6 = .ok (.aload_n 0, 1) := by decide +kernel
theorem dL_cell_7 : decode cL_cell 7 = .ok (.iload_n 1, 1) := by decide +kernel
theorem dL_cell_8 : decode cL_cell 8 = .ok (.iaload, 1) := by decide +kernel
theorem dL_cell_9 : decode cL_cell 9 = .ok (.goto 11, 3) := by decide +kernel
theorem dL_cell_12 : decode cL_cell 12 = .ok (.ldc 7, 2) := by decide +kernel
theorem dL_cell_14 : decode cL_cell 14 = .ok (.iload_n 1, 1) := by decide +kernel
theorem dL_cell_15 : decode cL_cell 15 = .ok (.imul, 1) := by decide +kernel
theorem dL_cell_16 : decode cL_cell 16 = .ok (.sipush 1709, 3) := by decide +kernel
theorem dL_cell_19 : decode cL_cell 19 = .ok (.iadd, 1) := by decide +kernel
theorem dL_cell_20 : decode cL_cell 20 = .ok (.ldc 8, 2) := by decide +kernel
theorem dL_cell_22 : decode cL_cell 22 = .ok (.iand, 1) := by decide +kernel
theorem dL_cell_23 : decode cL_cell 23 = .ok (.ireturn, 1) := by decide +kernel
set_option maxRecDepth 20000 in
theorem ggL_brands_X5_count : GoodIn wsL_brands wsX5_count := goodIn_ca (goodIn_r _ [5, 6, 7, 8, 9, 4, 10, 11, 12, 13, 14, 15, 16, 17, 18, 19, 20, 21, 22, 23, 24, 25, 26, 27, 28, 29, 30, 31, 32, 33, 34, 35, 36, 37, 38, 39, 40, 41, 42, 43, 44, 45, 46, 47, 48, 49, 89, 90, 91, 92, 93, 94, 95, 96, 97] (by decide +kernel) (by decide +kernel)) (goodIn_sub (fun _ h => List.mem_cons_of_mem _ (List.mem_append_left _ (List.mem_append_right _ h))) (by decide +kernel))
set_option maxRecDepth 20000 in
theorem gL_brands_X5_count : GoodIn wsL_brands (wsV RL 9 RX5 yX5_count wsX5_count) := goodIn_app (goodIn_of _ (by decide +kernel)) ggL_brands_X5_count
set_option maxRecDepth 20000 in
theorem ggL_brands_X5_brand : GoodIn wsL_brands wsX5_brand := goodIn_ca (goodIn_ca (goodIn_r _ [53, 7, 54, 55, 56, 4, 57, 58, 59, 60, 61, 62, 63, 47, 22, 48, 49, 33, 34, 35, 36, 37, 8, 9, 10, 11, 12, 13, 14, 15, 64, 65, 66, 25, 26, 27, 28, 29, 30, 31, 32, 42, 43, 44, 45, 89, 90, 91, 92, 93, 97] (by decide +kernel) (by decide +kernel)) (goodIn_sub (fun _ h => List.mem_cons_of_mem _ (List.mem_append_right _ h)) (by decide +kernel))) (goodIn_sub (fun _ h => List.mem_cons_of_mem _ (List.mem_append_left _ (List.mem_append_right _ h))) (by decide +kernel))
set_option maxRecDepth 20000 in
theorem gL_brands_X5_brand : GoodIn wsL_brands (wsV RL 15 RX5 yX5_brand wsX5_brand) := goodIn_app (goodIn_of _ (by decide +kernel)) ggL_brands_X5_brand
set_option maxRecDepth 20000 in
theorem ggL_brands_X5_shop : GoodIn wsL_brands wsX5_shop := goodIn_ca (goodIn_ca (goodIn_r _ [70, 7, 71, 72, 73, 4, 74, 58, 59, 75, 76, 77, 78, 47, 22, 48, 49, 33, 34, 35, 36, 37, 79, 80, 81, 11, 12, 13, 14, 15, 82, 83, 84, 85, 86, 87, 88, 29, 30, 31, 32, 89, 90, 91, 92, 93, 97] (by decide +kernel) (by decide +kernel)) (goodIn_sub (fun _ h => List.mem_cons_of_mem _ (List.mem_append_right _ h)) (by decide +kernel))) (goodIn_sub (fun _ h => List.mem_cons_of_mem _ (List.mem_append_left _ (List.mem_append_right _ h))) (by decide +kernel))
set_option maxRecDepth 20000 in
theorem gL_brands_X5_shop : GoodIn wsL_brands (wsV RL 19 RX5 yX5_shop wsX5_shop) := goodIn_app (goodIn_of _ (by decide +kernel)) ggL_brands_X5_shop
theorem dL_brands_0 : decode cL_brands 0 = .ok (.iconst 0, 1) := by decide +kernel
theorem dL_brands_1 : decode cL_brands 1 = .ok (.istore_n 2, 1) := by decide +kernel
theorem dL_brands_2 : decode cL_brands 2 = .ok (.iconst 0, 1) := by decide +kernel
theorem dL_brands_3 : decode cL_brands 3 = .ok (.istore_n 3, 1) := by decide +kernel
theorem dL_brands_4 : decode cL_brands 4 = .ok (.iconst 1, 1) := by decide +kernel
theorem dL_brands_5 : decode cL_brands 5 = .ok (.istore 4, 2) := by decide +kernel
theorem dL_brands_7 : decode cL_brands 7 = .ok (.iconst 0, 1) := by decide +kernel
theorem dL_brands_8 : decode cL_brands 8 = .ok (.istore 5, 2) := by decide +kernel
theorem dL_brands_10 : decode cL_brands 10 = .ok (.iload 5, 2) := by decide +kernel
theorem dL_brands_12 : decode cL_brands 12 = .ok (.aload_n 0, 1) := by decide +kernel
theorem dL_brands_13 : decode cL_brands 13 = .ok (.iconst 0, 1) := by decide +kernel
theorem dL_brands_14 : decode cL_brands 14 = .ok (.invokevirtual 9, 3) := by decide +kernel
theorem dL_brands_17 : decode cL_brands 17 = .ok (.if_icmp .ge 260, 3) := by decide +kernel
theorem dL_brands_20 : decode cL_brands 20 = .ok (.iload 4, 2) := by decide +kernel
theorem dL_brands_22 : decode cL_brands 22 = .ok (.ifCond .eq 255, 3) := by decide +kernel
theorem dL_brands_25 : decode cL_brands 25 = .ok (.iconst 0, 1) := by decide +kernel
theorem dL_brands_26 : decode cL_brands 26 = .ok (.istore 6, 2) := by decide +kernel
theorem dL_brands_28 : decode cL_brands 28 = .ok (.iconst 0, 1) := by decide +kernel
theorem dL_brands_29 : decode cL_brands 29 = .ok (.istore 7, 2) := by decide +kernel
theorem dL_brands_31 : decode cL_brands 31 = .ok (.iconst 0, 1) := by decide +kernel
theorem dL_brands_32 : decode cL_brands 32 = .ok (.istore 8, 2) := by decide +kernel
theorem dL_brands_34 : decode cL_brands 34 = .ok (.iconst 1, 1) := by decide +kernel
theorem dL_brands_35 : decode cL_brands 35 = .ok (.istore 9, 2) := by decide +kernel
theorem dL_brands_37 : decode cL_brands 37 = .ok (.iload 9, 2) := by decide +kernel
theorem dL_brands_39 : decode cL_brands 39 = .ok (.bipush 10, 2) := by decide +kernel
theorem dL_brands_41 : decode cL_brands 41 = .ok (.if_icmp .ge 45, 3) := by decide +kernel
theorem dL_brands_44 : decode cL_brands 44 = .ok (.iload 6, 2) := by decide +kernel
theorem dL_brands_46 : decode cL_brands 46 = .ok (.aload_n 0, 1) := by decide +kernel
theorem dL_brands_47 : decode cL_brands 47 = .ok (.iload 5, 2) := by decide +kernel
theorem dL_brands_49 : decode cL_brands 49 = .ok (.iload 9, 2) := by decide +kernel
theorem dL_brands_51 : decode cL_brands 51 = .ok (.invokevirtual 15, 3) := by decide +kernel
theorem dL_brands_54 : decode cL_brands 54 = .ok (.iadd, 1) := by decide +kernel
theorem dL_brands_55 : decode cL_brands 55 = .ok (.istore 6, 2) := by decide +kernel
theorem dL_brands_57 : decode cL_brands 57 = .ok (.iload 4, 2) := by decide +kernel
theorem dL_brands_59 : decode cL_brands 59 = .ok (.ifCond .eq 18, 3) := by decide +kernel
theorem dL_brands_62 : decode cL_brands 62 = .ok (.aload_n 0, 1) := by decide +kernel
theorem dL_brands_63 : decode cL_brands 63 = .ok (.iload 5, 2) := by decide +kernel
theorem dL_brands_65 : decode cL_brands 65 = .ok (.iload 9, 2) := by decide +kernel
theorem dL_brands_67 : decode cL_brands 67 = .ok (.invokevirtual 15, 3) := by decide +kernel
theorem dL_brands_70 : decode cL_brands 70 = .ok (.ifCond .lt 7, 3) := by decide +kernel
theorem dL_brands_73 : decode cL_brands 73 = .ok (.iconst 1, 1) := by decide +kernel
theorem dL_brands_74 : decode cL_brands 74 = .ok (.goto 4, 3) := by decide +kernel
theorem dL_brands_77 : decode cL_brands 77 = .ok (.iconst 0, 1) := by decide +kernel
theorem dL_brands_78 : decode cL_brands 78 = .ok (.istore 4, 2) := by decide +kernel
theorem dL_brands_80 : decode cL_brands 80 = .ok (.iinc 9 1, 3) := by decide +kernel
theorem dL_brands_83 : decode cL_brands 83 = .ok (.goto (-46), 3) := by decide +kernel
theorem dL_brands_86 : decode cL_brands 86 = .ok (.iconst 0, 1) := by decide +kernel
theorem dL_brands_87 : decode cL_brands 87 = .ok (.istore 9, 2) := by decide +kernel
theorem dL_brands_89 : decode cL_brands 89 = .ok (.iload 9, 2) := by decide +kernel
theorem dL_brands_91 : decode cL_brands 91 = .ok (.aload_n 0, 1) := by decide +kernel
theorem dL_brands_92 : decode cL_brands 92 = .ok (.iconst 1, 1) := by decide +kernel
theorem dL_brands_93 : decode cL_brands 93 = .ok (.invokevirtual 9, 3) := by decide +kernel
theorem dL_brands_96 : decode cL_brands 96 = .ok (.if_icmp .ge 81, 3) := by decide +kernel
theorem dL_brands_99 : decode cL_brands 99 = .ok (.iload 7, 2) := by decide +kernel
theorem dL_brands_101 : decode cL_brands 101 = .ok (.aload_n 0, 1) := by decide +kernel
theorem dL_brands_102 : decode cL_brands 102 = .ok (.iload 9, 2) := by decide +kernel
theorem dL_brands_104 : decode cL_brands 104 = .ok (.bipush 10, 2) := by decide +kernel
theorem dL_brands_106 : decode cL_brands 106 = .ok (.iload 5, 2) := by decide +kernel
theorem dL_brands_108 : decode cL_brands 108 = .ok (.iadd, 1) := by decide +kernel
theorem dL_brands_109 : decode cL_brands 109 = .ok (.invokevirtual 19, 3) := by decide +kernel
theorem dL_brands_112 : decode cL_brands 112 = .ok (.iadd, 1) := by decide +kernel
theorem dL_brands_113 : decode cL_brands 113 = .ok (.istore 7, 2) := by decide +kernel
theorem dL_brands_115 : decode cL_brands 115 = .ok (.iload 8, 2) := by decide +kernel
theorem dL_brands_117 : decode cL_brands 117 = .ok (.aload_n 0, 1) := by decide +kernel
theorem dL_brands_118 : decode cL_brands 118 = .ok (.iload 9, 2) := by decide +kernel
theorem dL_brands_120 : decode cL_brands 120 = .ok (.bipush 20, 2) := by decide +kernel
theorem dL_brands_122 : decode cL_brands 122 = .ok (.iload 5, 2) := by decide +kernel
theorem dL_brands_124 : decode cL_brands 124 = .ok (.iadd, 1) := by decide +kernel
theorem dL_brands_125 : decode cL_brands 125 = .ok (.invokevirtual 19, 3) := by decide +kernel
theorem dL_brands_128 : decode cL_brands 128 = .ok (.iadd, 1) := by decide +kernel
theorem dL_brands_129 : decode cL_brands 129 = .ok (.istore 8, 2) := by decide +kernel
theorem dL_brands_131 : decode cL_brands 131 = .ok (.iload 4, 2) := by decide +kernel
theorem dL_brands_133 : decode cL_brands 133 = .ok (.ifCond .eq 35, 3) := by decide +kernel
theorem dL_brands_136 : decode cL_brands 136 = .ok (.aload_n 0, 1) := by decide +kernel
theorem dL_brands_137 : decode cL_brands 137 = .ok (.iload 9, 2) := by decide +kernel
theorem dL_brands_139 : decode cL_brands 139 = .ok (.bipush 10, 2) := by decide +kernel
theorem dL_brands_141 : decode cL_brands 141 = .ok (.iload 5, 2) := by decide +kernel
theorem dL_brands_143 : decode cL_brands 143 = .ok (.iadd, 1) := by decide +kernel
theorem dL_brands_144 : decode cL_brands 144 = .ok (.invokevirtual 19, 3) := by decide +kernel
theorem dL_brands_147 : decode cL_brands 147 = .ok (.ifCond .lt 21, 3) := by decide +kernel
theorem dL_brands_150 : decode cL_brands 150 = .ok (.aload_n 0, 1) := by decide +kernel
theorem dL_brands_151 : decode cL_brands 151 = .ok (.iload 9, 2) := by decide +kernel
theorem dL_brands_153 : decode cL_brands 153 = .ok (.bipush 20, 2) := by decide +kernel
theorem dL_brands_155 : decode cL_brands 155 = .ok (.iload 5, 2) := by decide +kernel
theorem dL_brands_157 : decode cL_brands 157 = .ok (.iadd, 1) := by decide +kernel
theorem dL_brands_158 : decode cL_brands 158 = .ok (.invokevirtual 19, 3) := by decide +kernel
theorem dL_brands_161 : decode cL_brands 161 = .ok (.ifCond .lt 7, 3) := by decide +kernel
theorem dL_brands_164 : decode cL_brands 164 = .ok (.iconst 1, 1) := by decide +kernel
theorem dL_brands_165 : decode cL_brands 165 = .ok (.goto 4, 3) := by decide +kernel
theorem dL_brands_168 : decode cL_brands 168 = .ok (.iconst 0, 1) := by decide +kernel
theorem dL_brands_169 : decode cL_brands 169 = .ok (.istore 4, 2) := by decide +kernel
theorem dL_brands_171 : decode cL_brands 171 = .ok (.iinc 9 1, 3) := by decide +kernel
theorem dL_brands_174 : decode cL_brands 174 = .ok (.goto (-85), 3) := by decide +kernel
theorem dL_brands_177 : decode cL_brands 177 = .ok (.iload_n 2, 1) := by decide +kernel
theorem dL_brands_178 : decode cL_brands 178 = .ok (.aload_n 0, 1) := by decide +kernel
theorem dL_brands_179 : decode cL_brands 179 = .ok (.iload 5, 2) := by decide +kernel
theorem dL_brands_181 : decode cL_brands 181 = .ok (.iconst 5, 1) := by decide +kernel
theorem dL_brands_182 : decode cL_brands 182 = .ok (.invokevirtual 15, 3) := by decide +kernel
theorem dL_brands_185 : decode cL_brands 185 = .ok (.iadd, 1) := by decide +kernel
theorem dL_brands_186 : decode cL_brands 186 = .ok (.istore_n 2, 1) := by decide +kernel
theorem dL_brands_187 : decode cL_brands 187 = .ok (.iload_n 3, 1) := by decide +kernel
theorem dL_brands_188 : decode cL_brands 188 = .ok (.aload_n 0, 1) := by decide +kernel
theorem dL_brands_189 : decode cL_brands 189 = .ok (.iload 5, 2) := by decide +kernel
theorem dL_brands_191 : decode cL_brands 191 = .ok (.bipush 6, 2) := by decide +kernel
theorem dL_brands_193 : decode cL_brands 193 = .ok (.invokevirtual 15, 3) := by decide +kernel
theorem dL_brands_196 : decode cL_brands 196 = .ok (.iadd, 1) := by decide +kernel
theorem dL_brands_197 : decode cL_brands 197 = .ok (.istore_n 3, 1) := by decide +kernel
theorem dL_brands_198 : decode cL_brands 198 = .ok (.iload 4, 2) := by decide +kernel
theorem dL_brands_200 : decode cL_brands 200 = .ok (.ifCond .eq 68, 3) := by decide +kernel
theorem dL_brands_203 : decode cL_brands 203 = .ok (.iload 6, 2) := by decide +kernel
theorem dL_brands_205 : decode cL_brands 205 = .ok (.aload_n 0, 1) := by decide +kernel
theorem dL_brands_206 : decode cL_brands 206 = .ok (.iload 5, 2) := by decide +kernel
theorem dL_brands_208 : decode cL_brands 208 = .ok (.bipush 11, 2) := by decide +kernel
theorem dL_brands_210 : decode cL_brands 210 = .ok (.invokevirtual 15, 3) := by decide +kernel
theorem dL_brands_213 : decode cL_brands 213 = .ok (.iadd, 1) := by decide +kernel
theorem dL_brands_214 : decode cL_brands 214 = .ok (.aload_n 1, 1) := by decide +kernel
theorem dL_brands_215 : decode cL_brands 215 = .ok (.iload 5, 2) := by decide +kernel
theorem dL_brands_217 : decode cL_brands 217 = .ok (.iaload, 1) := by decide +kernel
theorem dL_brands_218 : decode cL_brands 218 = .ok (.if_icmp .ne 50, 3) := by decide +kernel
theorem dL_brands_221 : decode cL_brands 221 = .ok (.iload 7, 2) := by decide +kernel
theorem dL_brands_223 : decode cL_brands 223 = .ok (.aload_n 0, 1) := by decide +kernel
theorem dL_brands_224 : decode cL_brands 224 = .ok (.iload 5, 2) := by decide +kernel
theorem dL_brands_226 : decode cL_brands 226 = .ok (.iconst 3, 1) := by decide +kernel
theorem dL_brands_227 : decode cL_brands 227 = .ok (.invokevirtual 15, 3) := by decide +kernel
theorem dL_brands_230 : decode cL_brands 230 = .ok (.if_icmp .ne 38, 3) := by decide +kernel
theorem dL_brands_233 : decode cL_brands 233 = .ok (.iload 8, 2) := by decide +kernel
theorem dL_brands_235 : decode cL_brands 235 = .ok (.aload_n 0, 1) := by decide +kernel
theorem dL_brands_236 : decode cL_brands 236 = .ok (.iload 5, 2) := by decide +kernel
theorem dL_brands_238 : decode cL_brands 238 = .ok (.iconst 4, 1) := by decide +kernel
theorem dL_brands_239 : decode cL_brands 239 = .ok (.invokevirtual 15, 3) := by decide +kernel
theorem dL_brands_242 : decode cL_brands 242 = .ok (.if_icmp .ne 26, 3) := by decide +kernel
theorem dL_brands_245 : decode cL_brands 245 = .ok (.aload_n 0, 1) := by decide +kernel
theorem dL_brands_246 : decode cL_brands 246 = .ok (.iload 5, 2) := by decide +kernel
theorem dL_brands_248 : decode cL_brands 248 = .ok (.bipush 9, 2) := by decide +kernel
theorem dL_brands_250 : decode cL_brands 250 = .ok (.invokevirtual 15, 3) := by decide +kernel
theorem dL_brands_253 : decode cL_brands 253 = .ok (.aload_n 0, 1) := by decide +kernel
theorem dL_brands_254 : decode cL_brands 254 = .ok (.iload 5, 2) := by decide +kernel
theorem dL_brands_256 : decode cL_brands 256 = .ok (.bipush 10, 2) := by decide +kernel
theorem dL_brands_258 : decode cL_brands 258 = .ok (.invokevirtual 15, 3) := by decide +kernel
theorem dL_brands_261 : decode cL_brands 261 = .ok (.if_icmp .gt 7, 3) := by decide +kernel
theorem dL_brands_264 : decode cL_brands 264 = .ok (.iconst 1, 1) := by decide +kernel
theorem dL_brands_265 : decode cL_brands 265 = .ok (.goto 4, 3) := by decide +kernel
theorem dL_brands_268 : decode cL_brands 268 = .ok (.iconst 0, 1) := by decide +kernel
theorem dL_brands_269 : decode cL_brands 269 = .ok (.istore 4, 2) := by decide +kernel
theorem dL_brands_271 : decode cL_brands 271 = .ok (.iinc 5 1, 3) := by decide +kernel
theorem dL_brands_274 : decode cL_brands 274 = .ok (.goto (-264), 3) := by decide +kernel
theorem dL_brands_277 : decode cL_brands 277 = .ok (.iload 4, 2) := by decide +kernel
theorem dL_brands_279 : decode cL_brands 279 = .ok (.ifCond .eq 27, 3) := by decide +kernel
theorem dL_brands_282 : decode cL_brands 282 = .ok (.iload_n 2, 1) := by decide +kernel
theorem dL_brands_283 : decode cL_brands 283 = .ok (.aload_n 0, 1) := by decide +kernel
theorem dL_brands_284 : decode cL_brands 284 = .ok (.bipush 7, 2) := by decide +kernel
theorem dL_brands_286 : decode cL_brands 286 = .ok (.invokevirtual 9, 3) := by decide +kernel
theorem dL_brands_289 : decode cL_brands 289 = .ok (.if_icmp .ne 17, 3) := by decide +kernel
theorem dL_brands_292 : decode cL_brands 292 = .ok (.iload_n 3, 1) := by decide +kernel
theorem dL_brands_293 : decode cL_brands 293 = .ok (.aload_n 0, 1) := by decide +kernel
theorem dL_brands_294 : decode cL_brands 294 = .ok (.bipush 8, 2) := by decide +kernel
theorem dL_brands_296 : decode cL_brands 296 = .ok (.invokevirtual 9, 3) := by decide +kernel
theorem dL_brands_299 : decode cL_brands 299 = .ok (.if_icmp .ne 7, 3) := by decide +kernel
theorem dL_brands_302 : decode cL_brands 302 = .ok (.iconst 1, 1) := by decide +kernel
theorem dL_brands_303 : decode cL_brands 303 = .ok (.goto 4, 3) := by decide +kernel
theorem dL_brands_306 : decode cL_brands 306 = .ok (.iconst 0, 1) := by decide +kernel
theorem dL_brands_307 : decode cL_brands 307 = .ok (.ireturn, 1) := by decide +kernel
set_option maxRecDepth 20000 in
theorem ggL_money_X5_count : GoodIn wsL_money wsX5_count := goodIn_ca (goodIn_r _ [5, 6, 7, 8, 9, 4, 10, 11, 12, 13, 14, 15, 16, 17, 18, 19, 20, 21, 22, 23, 24, 25, 26, 27, 28, 29, 30, 31, 32, 33, 34, 35, 36, 37, 38, 39, 40, 41, 42, 43, 44, 45, 46, 47, 48, 49, 99, 100, 101, 102, 103, 104, 105, 106, 107] (by decide +kernel) (by decide +kernel)) (goodIn_sub (fun _ h => List.mem_cons_of_mem _ (List.mem_append_left _ (List.mem_append_right _ h))) (by decide +kernel))
set_option maxRecDepth 20000 in
theorem gL_money_X5_count : GoodIn wsL_money (wsV RL 9 RX5 yX5_count wsX5_count) := goodIn_app (goodIn_of _ (by decide +kernel)) ggL_money_X5_count
set_option maxRecDepth 20000 in
theorem ggL_money_X5_setting : GoodIn wsL_money wsX5_setting := goodIn_ca (goodIn_r _ [53, 7, 54, 55, 4, 56, 57, 58, 59, 22, 60, 61, 33, 34, 35, 36, 37, 99, 100, 101, 102, 103, 107] (by decide +kernel) (by decide +kernel)) (goodIn_sub (fun _ h => List.mem_cons_of_mem _ (List.mem_append_right _ h)) (by decide +kernel))
set_option maxRecDepth 20000 in
theorem gL_money_X5_setting : GoodIn wsL_money (wsV RL 22 RX5 yX5_setting wsX5_setting) := goodIn_app (goodIn_of _ (by decide +kernel)) ggL_money_X5_setting
set_option maxRecDepth 20000 in
theorem ggL_money_X5_brand : GoodIn wsL_money wsX5_brand := goodIn_ca (goodIn_ca (goodIn_r _ [65, 7, 66, 67, 68, 4, 69, 57, 58, 70, 71, 72, 73, 47, 22, 48, 49, 33, 34, 35, 36, 37, 8, 9, 10, 11, 12, 13, 14, 15, 74, 75, 76, 25, 26, 27, 28, 29, 30, 31, 32, 42, 43, 44, 45, 99, 100, 101, 102, 103, 107] (by decide +kernel) (by decide +kernel)) (goodIn_sub (fun _ h => List.mem_cons_of_mem _ (List.mem_append_right _ h)) (by decide +kernel))) (goodIn_sub (fun _ h => List.mem_cons_of_mem _ (List.mem_append_left _ (List.mem_append_right _ h))) (by decide +kernel))
set_option maxRecDepth 20000 in
theorem gL_money_X5_brand : GoodIn wsL_money (wsV RL 15 RX5 yX5_brand wsX5_brand) := goodIn_app (goodIn_of _ (by decide +kernel)) ggL_money_X5_brand
set_option maxRecDepth 20000 in
theorem ggL_money_X5_shop : GoodIn wsL_money wsX5_shop := goodIn_ca (goodIn_ca (goodIn_r _ [80, 7, 81, 82, 83, 4, 84, 57, 58, 85, 86, 87, 88, 47, 22, 48, 49, 33, 34, 35, 36, 37, 89, 90, 91, 11, 12, 13, 14, 15, 92, 93, 94, 95, 96, 97, 98, 29, 30, 31, 32, 99, 100, 101, 102, 103, 107] (by decide +kernel) (by decide +kernel)) (goodIn_sub (fun _ h => List.mem_cons_of_mem _ (List.mem_append_right _ h)) (by decide +kernel))) (goodIn_sub (fun _ h => List.mem_cons_of_mem _ (List.mem_append_left _ (List.mem_append_right _ h))) (by decide +kernel))
set_option maxRecDepth 20000 in
theorem gL_money_X5_shop : GoodIn wsL_money (wsV RL 19 RX5 yX5_shop wsX5_shop) := goodIn_app (goodIn_of _ (by decide +kernel)) ggL_money_X5_shop
theorem dL_money_0 : decode cL_money 0 = .ok (.aload_n 0, 1) := by decide +kernel
theorem dL_money_1 : decode cL_money 1 = .ok (.iconst 3, 1) := by decide +kernel
theorem dL_money_2 : decode cL_money 2 = .ok (.invokevirtual 9, 3) := by decide +kernel
theorem dL_money_5 : decode cL_money 5 = .ok (.aload_n 0, 1) := by decide +kernel
theorem dL_money_6 : decode cL_money 6 = .ok (.iconst 3, 1) := by decide +kernel
theorem dL_money_7 : decode cL_money 7 = .ok (.invokevirtual 22, 3) := by decide +kernel
theorem dL_money_10 : decode cL_money 10 = .ok (.imul, 1) := by decide +kernel
theorem dL_money_11 : decode cL_money 11 = .ok (.aload_n 0, 1) := by decide +kernel
theorem dL_money_12 : decode cL_money 12 = .ok (.iconst 5, 1) := by decide +kernel
theorem dL_money_13 : decode cL_money 13 = .ok (.invokevirtual 9, 3) := by decide +kernel
theorem dL_money_16 : decode cL_money 16 = .ok (.iadd, 1) := by decide +kernel
theorem dL_money_17 : decode cL_money 17 = .ok (.istore_n 2, 1) := by decide +kernel
theorem dL_money_18 : decode cL_money 18 = .ok (.iconst 0, 1) := by decide +kernel
theorem dL_money_19 : decode cL_money 19 = .ok (.istore_n 3, 1) := by decide +kernel
theorem dL_money_20 : decode cL_money 20 = .ok (.iload_n 3, 1) := by decide +kernel
theorem dL_money_21 : decode cL_money 21 = .ok (.aload_n 0, 1) := by decide +kernel
theorem dL_money_22 : decode cL_money 22 = .ok (.iconst 0, 1) := by decide +kernel
theorem dL_money_23 : decode cL_money 23 = .ok (.invokevirtual 9, 3) := by decide +kernel
theorem dL_money_26 : decode cL_money 26 = .ok (.if_icmp .ge 43, 3) := by decide +kernel
theorem dL_money_29 : decode cL_money 29 = .ok (.iload_n 2, 1) := by decide +kernel
theorem dL_money_30 : decode cL_money 30 = .ok (.aload_n 0, 1) := by decide +kernel
theorem dL_money_31 : decode cL_money 31 = .ok (.iload_n 3, 1) := by decide +kernel
theorem dL_money_32 : decode cL_money 32 = .ok (.iconst 3, 1) := by decide +kernel
theorem dL_money_33 : decode cL_money 33 = .ok (.invokevirtual 15, 3) := by decide +kernel
theorem dL_money_36 : decode cL_money 36 = .ok (.aload_n 0, 1) := by decide +kernel
theorem dL_money_37 : decode cL_money 37 = .ok (.iload_n 3, 1) := by decide +kernel
theorem dL_money_38 : decode cL_money 38 = .ok (.iconst 4, 1) := by decide +kernel
theorem dL_money_39 : decode cL_money 39 = .ok (.invokevirtual 15, 3) := by decide +kernel
theorem dL_money_42 : decode cL_money 42 = .ok (.iadd, 1) := by decide +kernel
theorem dL_money_43 : decode cL_money 43 = .ok (.aload_n 0, 1) := by decide +kernel
theorem dL_money_44 : decode cL_money 44 = .ok (.iload_n 3, 1) := by decide +kernel
theorem dL_money_45 : decode cL_money 45 = .ok (.iconst 5, 1) := by decide +kernel
theorem dL_money_46 : decode cL_money 46 = .ok (.invokevirtual 15, 3) := by decide +kernel
theorem dL_money_49 : decode cL_money 49 = .ok (.iadd, 1) := by decide +kernel
theorem dL_money_50 : decode cL_money 50 = .ok (.aload_n 0, 1) := by decide +kernel
theorem dL_money_51 : decode cL_money 51 = .ok (.aload_n 0, 1) := by decide +kernel
theorem dL_money_52 : decode cL_money 52 = .ok (.iload_n 3, 1) := by decide +kernel
theorem dL_money_53 : decode cL_money 53 = .ok (.iconst 0, 1) := by decide +kernel
theorem dL_money_54 : decode cL_money 54 = .ok (.invokevirtual 15, 3) := by decide +kernel
theorem dL_money_57 : decode cL_money 57 = .ok (.invokevirtual 22, 3) := by decide +kernel
theorem dL_money_60 : decode cL_money 60 = .ok (.imul, 1) := by decide +kernel
theorem dL_money_61 : decode cL_money 61 = .ok (.iadd, 1) := by decide +kernel
theorem dL_money_62 : decode cL_money 62 = .ok (.istore_n 2, 1) := by decide +kernel
theorem dL_money_63 : decode cL_money 63 = .ok (.iinc 3 1, 3) := by decide +kernel
theorem dL_money_66 : decode cL_money 66 = .ok (.goto (-46), 3) := by decide +kernel
theorem dL_money_69 : decode cL_money 69 = .ok (.iconst 0, 1) := by decide +kernel
theorem dL_money_70 : decode cL_money 70 = .ok (.istore_n 3, 1) := by decide +kernel
theorem dL_money_71 : decode cL_money 71 = .ok (.iconst 0, 1) := by decide +kernel
theorem dL_money_72 : decode cL_money 72 = .ok (.istore 4, 2) := by decide +kernel
theorem dL_money_74 : decode cL_money 74 = .ok (.iconst 0, 1) := by decide +kernel
theorem dL_money_75 : decode cL_money 75 = .ok (.istore 5, 2) := by decide +kernel
theorem dL_money_77 : decode cL_money 77 = .ok (.iconst 0, 1) := by decide +kernel
theorem dL_money_78 : decode cL_money 78 = .ok (.istore 6, 2) := by decide +kernel
theorem dL_money_80 : decode cL_money 80 = .ok (.iconst 0, 1) := by decide +kernel
theorem dL_money_81 : decode cL_money 81 = .ok (.istore 7, 2) := by decide +kernel
theorem dL_money_83 : decode cL_money 83 = .ok (.iconst 0, 1) := by decide +kernel
theorem dL_money_84 : decode cL_money 84 = .ok (.istore 8, 2) := by decide +kernel
theorem dL_money_86 : decode cL_money 86 = .ok (.iconst 1, 1) := by decide +kernel
theorem dL_money_87 : decode cL_money 87 = .ok (.istore 9, 2) := by decide +kernel
theorem dL_money_89 : decode cL_money 89 = .ok (.iconst 0, 1) := by decide +kernel
theorem dL_money_90 : decode cL_money 90 = .ok (.istore 10, 2) := by decide +kernel
theorem dL_money_92 : decode cL_money 92 = .ok (.iload 10, 2) := by decide +kernel
theorem dL_money_94 : decode cL_money 94 = .ok (.aload_n 0, 1) := by decide +kernel
theorem dL_money_95 : decode cL_money 95 = .ok (.iconst 1, 1) := by decide +kernel
theorem dL_money_96 : decode cL_money 96 = .ok (.invokevirtual 9, 3) := by decide +kernel
theorem dL_money_99 : decode cL_money 99 = .ok (.if_icmp .ge 100, 3) := by decide +kernel
theorem dL_money_102 : decode cL_money 102 = .ok (.iload_n 3, 1) := by decide +kernel
theorem dL_money_103 : decode cL_money 103 = .ok (.aload_n 0, 1) := by decide +kernel
theorem dL_money_104 : decode cL_money 104 = .ok (.iload 10, 2) := by decide +kernel
theorem dL_money_106 : decode cL_money 106 = .ok (.iconst 0, 1) := by decide +kernel
theorem dL_money_107 : decode cL_money 107 = .ok (.invokevirtual 19, 3) := by decide +kernel
theorem dL_money_110 : decode cL_money 110 = .ok (.iadd, 1) := by decide +kernel
theorem dL_money_111 : decode cL_money 111 = .ok (.istore_n 3, 1) := by decide +kernel
theorem dL_money_112 : decode cL_money 112 = .ok (.iload 4, 2) := by decide +kernel
theorem dL_money_114 : decode cL_money 114 = .ok (.aload_n 0, 1) := by decide +kernel
theorem dL_money_115 : decode cL_money 115 = .ok (.iload 10, 2) := by decide +kernel
theorem dL_money_117 : decode cL_money 117 = .ok (.iconst 4, 1) := by decide +kernel
theorem dL_money_118 : decode cL_money 118 = .ok (.invokevirtual 19, 3) := by decide +kernel
theorem dL_money_121 : decode cL_money 121 = .ok (.iadd, 1) := by decide +kernel
theorem dL_money_122 : decode cL_money 122 = .ok (.istore 4, 2) := by decide +kernel
theorem dL_money_124 : decode cL_money 124 = .ok (.iload 5, 2) := by decide +kernel
theorem dL_money_126 : decode cL_money 126 = .ok (.aload_n 0, 1) := by decide +kernel
theorem dL_money_127 : decode cL_money 127 = .ok (.iload 10, 2) := by decide +kernel
theorem dL_money_129 : decode cL_money 129 = .ok (.iconst 5, 1) := by decide +kernel
theorem dL_money_130 : decode cL_money 130 = .ok (.invokevirtual 19, 3) := by decide +kernel
theorem dL_money_133 : decode cL_money 133 = .ok (.iadd, 1) := by decide +kernel
theorem dL_money_134 : decode cL_money 134 = .ok (.istore 5, 2) := by decide +kernel
theorem dL_money_136 : decode cL_money 136 = .ok (.iload 6, 2) := by decide +kernel
theorem dL_money_138 : decode cL_money 138 = .ok (.aload_n 0, 1) := by decide +kernel
theorem dL_money_139 : decode cL_money 139 = .ok (.iload 10, 2) := by decide +kernel
theorem dL_money_141 : decode cL_money 141 = .ok (.iconst 1, 1) := by decide +kernel
theorem dL_money_142 : decode cL_money 142 = .ok (.invokevirtual 19, 3) := by decide +kernel
theorem dL_money_145 : decode cL_money 145 = .ok (.iadd, 1) := by decide +kernel
theorem dL_money_146 : decode cL_money 146 = .ok (.istore 6, 2) := by decide +kernel
theorem dL_money_148 : decode cL_money 148 = .ok (.iload 7, 2) := by decide +kernel
theorem dL_money_150 : decode cL_money 150 = .ok (.aload_n 0, 1) := by decide +kernel
theorem dL_money_151 : decode cL_money 151 = .ok (.iload 10, 2) := by decide +kernel
theorem dL_money_153 : decode cL_money 153 = .ok (.bipush 6, 2) := by decide +kernel
theorem dL_money_155 : decode cL_money 155 = .ok (.invokevirtual 19, 3) := by decide +kernel
theorem dL_money_158 : decode cL_money 158 = .ok (.iadd, 1) := by decide +kernel
theorem dL_money_159 : decode cL_money 159 = .ok (.istore 7, 2) := by decide +kernel
theorem dL_money_161 : decode cL_money 161 = .ok (.iload 9, 2) := by decide +kernel
theorem dL_money_163 : decode cL_money 163 = .ok (.ifCond .eq 27, 3) := by decide +kernel
theorem dL_money_166 : decode cL_money 166 = .ok (.aload_n 0, 1) := by decide +kernel
theorem dL_money_167 : decode cL_money 167 = .ok (.iload 10, 2) := by decide +kernel
theorem dL_money_169 : decode cL_money 169 = .ok (.iconst 0, 1) := by decide +kernel
theorem dL_money_170 : decode cL_money 170 = .ok (.invokevirtual 19, 3) := by decide +kernel
theorem dL_money_173 : decode cL_money 173 = .ok (.ifCond .lt 17, 3) := by decide +kernel
theorem dL_money_176 : decode cL_money 176 = .ok (.aload_n 0, 1) := by decide +kernel
theorem dL_money_177 : decode cL_money 177 = .ok (.iload 10, 2) := by decide +kernel
theorem dL_money_179 : decode cL_money 179 = .ok (.iconst 1, 1) := by decide +kernel
theorem dL_money_180 : decode cL_money 180 = .ok (.invokevirtual 19, 3) := by decide +kernel
theorem dL_money_183 : decode cL_money 183 = .ok (.ifCond .lt 7, 3) := by decide +kernel
theorem dL_money_186 : decode cL_money 186 = .ok (.iconst 1, 1) := by decide +kernel
theorem dL_money_187 : decode cL_money 187 = .ok (.goto 4, 3) := by decide +kernel
theorem dL_money_190 : decode cL_money 190 = .ok (.iconst 0, 1) := by decide +kernel
theorem dL_money_191 : decode cL_money 191 = .ok (.istore 9, 2) := by decide +kernel
theorem dL_money_193 : decode cL_money 193 = .ok (.iinc 10 1, 3) := by decide +kernel
theorem dL_money_196 : decode cL_money 196 = .ok (.goto (-104), 3) := by decide +kernel
theorem dL_money_199 : decode cL_money 199 = .ok (.iconst 0, 1) := by decide +kernel
theorem dL_money_200 : decode cL_money 200 = .ok (.istore 10, 2) := by decide +kernel
theorem dL_money_202 : decode cL_money 202 = .ok (.iload 10, 2) := by decide +kernel
theorem dL_money_204 : decode cL_money 204 = .ok (.aload_n 0, 1) := by decide +kernel
theorem dL_money_205 : decode cL_money 205 = .ok (.iconst 0, 1) := by decide +kernel
theorem dL_money_206 : decode cL_money 206 = .ok (.invokevirtual 9, 3) := by decide +kernel
theorem dL_money_209 : decode cL_money 209 = .ok (.if_icmp .ge 63, 3) := by decide +kernel
theorem dL_money_212 : decode cL_money 212 = .ok (.iload 7, 2) := by decide +kernel
theorem dL_money_214 : decode cL_money 214 = .ok (.aload_n 0, 1) := by decide +kernel
theorem dL_money_215 : decode cL_money 215 = .ok (.iload 10, 2) := by decide +kernel
theorem dL_money_217 : decode cL_money 217 = .ok (.iconst 5, 1) := by decide +kernel
theorem dL_money_218 : decode cL_money 218 = .ok (.invokevirtual 15, 3) := by decide +kernel
theorem dL_money_221 : decode cL_money 221 = .ok (.aload_n 0, 1) := by decide +kernel
theorem dL_money_222 : decode cL_money 222 = .ok (.iload 10, 2) := by decide +kernel
theorem dL_money_224 : decode cL_money 224 = .ok (.bipush 8, 2) := by decide +kernel
theorem dL_money_226 : decode cL_money 226 = .ok (.invokevirtual 15, 3) := by decide +kernel
theorem dL_money_229 : decode cL_money 229 = .ok (.iadd, 1) := by decide +kernel
theorem dL_money_230 : decode cL_money 230 = .ok (.isub, 1) := by decide +kernel
theorem dL_money_231 : decode cL_money 231 = .ok (.istore 7, 2) := by decide +kernel
theorem dL_money_233 : decode cL_money 233 = .ok (.iload 8, 2) := by decide +kernel
theorem dL_money_235 : decode cL_money 235 = .ok (.aload_n 0, 1) := by decide +kernel
theorem dL_money_236 : decode cL_money 236 = .ok (.iload 10, 2) := by decide +kernel
theorem dL_money_238 : decode cL_money 238 = .ok (.iconst 5, 1) := by decide +kernel
theorem dL_money_239 : decode cL_money 239 = .ok (.invokevirtual 15, 3) := by decide +kernel
theorem dL_money_242 : decode cL_money 242 = .ok (.aload_n 0, 1) := by decide +kernel
theorem dL_money_243 : decode cL_money 243 = .ok (.iload 10, 2) := by decide +kernel
theorem dL_money_245 : decode cL_money 245 = .ok (.bipush 8, 2) := by decide +kernel
theorem dL_money_247 : decode cL_money 247 = .ok (.invokevirtual 15, 3) := by decide +kernel
theorem dL_money_250 : decode cL_money 250 = .ok (.iadd, 1) := by decide +kernel
theorem dL_money_251 : decode cL_money 251 = .ok (.aload_n 0, 1) := by decide +kernel
theorem dL_money_252 : decode cL_money 252 = .ok (.aload_n 0, 1) := by decide +kernel
theorem dL_money_253 : decode cL_money 253 = .ok (.iload 10, 2) := by decide +kernel
theorem dL_money_255 : decode cL_money 255 = .ok (.iconst 0, 1) := by decide +kernel
theorem dL_money_256 : decode cL_money 256 = .ok (.invokevirtual 15, 3) := by decide +kernel
theorem dL_money_259 : decode cL_money 259 = .ok (.invokevirtual 22, 3) := by decide +kernel
theorem dL_money_262 : decode cL_money 262 = .ok (.imul, 1) := by decide +kernel
theorem dL_money_263 : decode cL_money 263 = .ok (.iadd, 1) := by decide +kernel
theorem dL_money_264 : decode cL_money 264 = .ok (.istore 8, 2) := by decide +kernel
theorem dL_money_266 : decode cL_money 266 = .ok (.iinc 10 1, 3) := by decide +kernel
theorem dL_money_269 : decode cL_money 269 = .ok (.goto (-67), 3) := by decide +kernel
theorem dL_money_272 : decode cL_money 272 = .ok (.iload 9, 2) := by decide +kernel
theorem dL_money_274 : decode cL_money 274 = .ok (.ifCond .eq 75, 3) := by decide +kernel
theorem dL_money_277 : decode cL_money 277 = .ok (.iload_n 2, 1) := by decide +kernel
theorem dL_money_278 : decode cL_money 278 = .ok (.aload_n 0, 1) := by decide +kernel
theorem dL_money_279 : decode cL_money 279 = .ok (.iconst 4, 1) := by decide +kernel
theorem dL_money_280 : decode cL_money 280 = .ok (.invokevirtual 9, 3) := by decide +kernel
theorem dL_money_283 : decode cL_money 283 = .ok (.if_icmp .ne 66, 3) := by decide +kernel
theorem dL_money_286 : decode cL_money 286 = .ok (.iload 4, 2) := by decide +kernel
theorem dL_money_288 : decode cL_money 288 = .ok (.aload_n 0, 1) := by decide +kernel
theorem dL_money_289 : decode cL_money 289 = .ok (.iconst 4, 1) := by decide +kernel
theorem dL_money_290 : decode cL_money 290 = .ok (.invokevirtual 9, 3) := by decide +kernel
theorem dL_money_293 : decode cL_money 293 = .ok (.if_icmp .ne 56, 3) := by decide +kernel
theorem dL_money_296 : decode cL_money 296 = .ok (.iload 5, 2) := by decide +kernel
theorem dL_money_298 : decode cL_money 298 = .ok (.aload_n 0, 1) := by decide +kernel
theorem dL_money_299 : decode cL_money 299 = .ok (.bipush 6, 2) := by decide +kernel
theorem dL_money_301 : decode cL_money 301 = .ok (.invokevirtual 9, 3) := by decide +kernel
theorem dL_money_304 : decode cL_money 304 = .ok (.if_icmp .ne 45, 3) := by decide +kernel
theorem dL_money_307 : decode cL_money 307 = .ok (.aload_n 0, 1) := by decide +kernel
theorem dL_money_308 : decode cL_money 308 = .ok (.bipush 6, 2) := by decide +kernel
theorem dL_money_310 : decode cL_money 310 = .ok (.invokevirtual 9, 3) := by decide +kernel
theorem dL_money_313 : decode cL_money 313 = .ok (.ifCond .lt 36, 3) := by decide +kernel
theorem dL_money_316 : decode cL_money 316 = .ok (.iload 6, 2) := by decide +kernel
theorem dL_money_318 : decode cL_money 318 = .ok (.aload_n 0, 1) := by decide +kernel
theorem dL_money_319 : decode cL_money 319 = .ok (.iconst 3, 1) := by decide +kernel
theorem dL_money_320 : decode cL_money 320 = .ok (.invokevirtual 9, 3) := by decide +kernel
theorem dL_money_323 : decode cL_money 323 = .ok (.if_icmp .ne 26, 3) := by decide +kernel
theorem dL_money_326 : decode cL_money 326 = .ok (.iload 7, 2) := by decide +kernel
theorem dL_money_328 : decode cL_money 328 = .ok (.ifCond .ne 21, 3) := by decide +kernel
theorem dL_money_331 : decode cL_money 331 = .ok (.iload_n 3, 1) := by decide +kernel
theorem dL_money_332 : decode cL_money 332 = .ok (.iload_n 1, 1) := by decide +kernel
theorem dL_money_333 : decode cL_money 333 = .ok (.iload 4, 2) := by decide +kernel
theorem dL_money_335 : decode cL_money 335 = .ok (.isub, 1) := by decide +kernel
theorem dL_money_336 : decode cL_money 336 = .ok (.iload 5, 2) := by decide +kernel
theorem dL_money_338 : decode cL_money 338 = .ok (.isub, 1) := by decide +kernel
theorem dL_money_339 : decode cL_money 339 = .ok (.iload 8, 2) := by decide +kernel
theorem dL_money_341 : decode cL_money 341 = .ok (.iadd, 1) := by decide +kernel
theorem dL_money_342 : decode cL_money 342 = .ok (.if_icmp .ne 7, 3) := by decide +kernel
theorem dL_money_345 : decode cL_money 345 = .ok (.iconst 1, 1) := by decide +kernel
theorem dL_money_346 : decode cL_money 346 = .ok (.goto 4, 3) := by decide +kernel
theorem dL_money_349 : decode cL_money 349 = .ok (.iconst 0, 1) := by decide +kernel
theorem dL_money_350 : decode cL_money 350 = .ok (.ireturn, 1) := by decide +kernel
set_option maxRecDepth 20000 in
theorem ggL_swaps_X5_brand : GoodIn wsL_swaps wsX5_brand := goodIn_ca (goodIn_ca (goodIn_r _ [5, 6, 7, 8, 9, 4, 10, 11, 12, 13, 14, 15, 16, 17, 18, 19, 20, 21, 22, 23, 24, 25, 26, 27, 28, 29, 30, 31, 32, 33, 34, 35, 36, 37, 38, 39, 40, 41, 42, 43, 44, 45, 46, 47, 48, 96, 97, 98, 99, 100, 101] (by decide +kernel) (by decide +kernel)) (goodIn_sub (fun _ h => List.mem_cons_of_mem _ (List.mem_append_left _ (List.mem_append_left _ (List.mem_append_right _ h)))) (by decide +kernel))) (goodIn_sub (fun _ h => List.mem_cons_of_mem _ (List.mem_append_left _ (List.mem_append_right _ h))) (by decide +kernel))
set_option maxRecDepth 20000 in
theorem gL_swaps_X5_brand : GoodIn wsL_swaps (wsV RL 15 RX5 yX5_brand wsX5_brand) := goodIn_app (goodIn_of _ (by decide +kernel)) ggL_swaps_X5_brand
set_option maxRecDepth 20000 in
theorem ggL_swaps_X5_swap : GoodIn wsL_swaps wsX5_swap := goodIn_ca (goodIn_ca (goodIn_ca (goodIn_r _ [52, 6, 53, 54, 7, 8, 9, 4, 10, 11, 12, 13, 14, 15, 16, 17, 18, 19, 20, 21, 22, 23, 24, 25, 46, 47, 48, 29, 30, 31, 32, 33, 26, 27, 28, 55, 56, 57, 58, 59, 60, 61, 62, 63, 64, 65, 66, 67, 68, 69, 70, 71, 72, 73, 74, 75, 76, 77, 78, 79, 80, 81, 82, 83, 84, 85, 86, 87, 88, 89, 90, 91, 92, 93, 94, 95, 96, 97, 98, 99, 100, 101, 102, 103, 104, 105, 106] (by decide +kernel) (by decide +kernel)) (goodIn_sub (fun _ h => List.mem_cons_of_mem _ (List.mem_append_left _ (List.mem_append_left _ (List.mem_append_right _ h)))) (by decide +kernel))) (goodIn_sub (fun _ h => List.mem_cons_of_mem _ (List.mem_append_left _ (List.mem_append_right _ h))) (by decide +kernel))) (goodIn_sub (fun _ h => List.mem_cons_of_mem _ (List.mem_append_right _ h)) (by decide +kernel))
set_option maxRecDepth 20000 in
theorem gL_swaps_X5_swap : GoodIn wsL_swaps (wsV RL 25 RX5 yX5_swap wsX5_swap) := goodIn_app (goodIn_of _ (by decide +kernel)) ggL_swaps_X5_swap
theorem dL_swaps_0 : decode cL_swaps 0 = .ok (.aload_n 0, 1) := by decide +kernel
theorem dL_swaps_1 : decode cL_swaps 1 = .ok (.iload_n 2, 1) := by decide +kernel
theorem dL_swaps_2 : decode cL_swaps 2 = .ok (.iconst 1, 1) := by decide +kernel
theorem dL_swaps_3 : decode cL_swaps 3 = .ok (.invokevirtual 15, 3) := by decide +kernel
theorem dL_swaps_6 : decode cL_swaps 6 = .ok (.istore 4, 2) := by decide +kernel
theorem dL_swaps_8 : decode cL_swaps 8 = .ok (.aload_n 0, 1) := by decide +kernel
theorem dL_swaps_9 : decode cL_swaps 9 = .ok (.iload_n 1, 1) := by decide +kernel
theorem dL_swaps_10 : decode cL_swaps 10 = .ok (.iload_n 2, 1) := by decide +kernel
theorem dL_swaps_11 : decode cL_swaps 11 = .ok (.iload_n 3, 1) := by decide +kernel
theorem dL_swaps_12 : decode cL_swaps 12 = .ok (.invokevirtual 25, 3) := by decide +kernel
theorem dL_swaps_15 : decode cL_swaps 15 = .ok (.istore 5, 2) := by decide +kernel
theorem dL_swaps_17 : decode cL_swaps 17 = .ok (.iconst 1, 1) := by decide +kernel
theorem dL_swaps_18 : decode cL_swaps 18 = .ok (.iload_n 3, 1) := by decide +kernel
theorem dL_swaps_19 : decode cL_swaps 19 = .ok (.iconst 2, 1) := by decide +kernel
theorem dL_swaps_20 : decode cL_swaps 20 = .ok (.idiv, 1) := by decide +kernel
theorem dL_swaps_21 : decode cL_swaps 21 = .ok (.iadd, 1) := by decide +kernel
theorem dL_swaps_22 : decode cL_swaps 22 = .ok (.istore 6, 2) := by decide +kernel
theorem dL_swaps_24 : decode cL_swaps 24 = .ok (.aload_n 0, 1) := by decide +kernel
theorem dL_swaps_25 : decode cL_swaps 25 = .ok (.iload_n 2, 1) := by decide +kernel
theorem dL_swaps_26 : decode cL_swaps 26 = .ok (.iconst 1, 1) := by decide +kernel
theorem dL_swaps_27 : decode cL_swaps 27 = .ok (.invokevirtual 15, 3) := by decide +kernel
theorem dL_swaps_30 : decode cL_swaps 30 = .ok (.iload 4, 2) := by decide +kernel
theorem dL_swaps_32 : decode cL_swaps 32 = .ok (.iload_n 3, 1) := by decide +kernel
theorem dL_swaps_33 : decode cL_swaps 33 = .ok (.iadd, 1) := by decide +kernel
theorem dL_swaps_34 : decode cL_swaps 34 = .ok (.if_icmp .ne 39, 3) := by decide +kernel
theorem dL_swaps_37 : decode cL_swaps 37 = .ok (.aload_n 0, 1) := by decide +kernel
theorem dL_swaps_38 : decode cL_swaps 38 = .ok (.iload_n 2, 1) := by decide +kernel
theorem dL_swaps_39 : decode cL_swaps 39 = .ok (.iload_n 1, 1) := by decide +kernel
theorem dL_swaps_40 : decode cL_swaps 40 = .ok (.iload 6, 2) := by decide +kernel
theorem dL_swaps_42 : decode cL_swaps 42 = .ok (.invokevirtual 25, 3) := by decide +kernel
theorem dL_swaps_45 : decode cL_swaps 45 = .ok (.iload 6, 2) := by decide +kernel
theorem dL_swaps_47 : decode cL_swaps 47 = .ok (.iload 5, 2) := by decide +kernel
theorem dL_swaps_49 : decode cL_swaps 49 = .ok (.isub, 1) := by decide +kernel
theorem dL_swaps_50 : decode cL_swaps 50 = .ok (.if_icmp .ne 23, 3) := by decide +kernel
theorem dL_swaps_53 : decode cL_swaps 53 = .ok (.aload_n 0, 1) := by decide +kernel
theorem dL_swaps_54 : decode cL_swaps 54 = .ok (.iload_n 2, 1) := by decide +kernel
theorem dL_swaps_55 : decode cL_swaps 55 = .ok (.iconst 1, 1) := by decide +kernel
theorem dL_swaps_56 : decode cL_swaps 56 = .ok (.invokevirtual 15, 3) := by decide +kernel
theorem dL_swaps_59 : decode cL_swaps 59 = .ok (.iload 4, 2) := by decide +kernel
theorem dL_swaps_61 : decode cL_swaps 61 = .ok (.iload_n 3, 1) := by decide +kernel
theorem dL_swaps_62 : decode cL_swaps 62 = .ok (.iadd, 1) := by decide +kernel
theorem dL_swaps_63 : decode cL_swaps 63 = .ok (.iload 6, 2) := by decide +kernel
theorem dL_swaps_65 : decode cL_swaps 65 = .ok (.isub, 1) := by decide +kernel
theorem dL_swaps_66 : decode cL_swaps 66 = .ok (.if_icmp .ne 7, 3) := by decide +kernel
theorem dL_swaps_69 : decode cL_swaps 69 = .ok (.iconst 1, 1) := by decide +kernel
theorem dL_swaps_70 : decode cL_swaps 70 = .ok (.goto 4, 3) := by decide +kernel
theorem dL_swaps_73 : decode cL_swaps 73 = .ok (.iconst 0, 1) := by decide +kernel
theorem dL_swaps_74 : decode cL_swaps 74 = .ok (.ireturn, 1) := by decide +kernel
set_option maxRecDepth 20000 in
theorem ggL_acts_X5_count : GoodIn wsL_acts wsX5_count := goodIn_ca (goodIn_r _ [5, 6, 7, 8, 9, 4, 10, 11, 12, 13, 14, 15, 16, 17, 18, 19, 20, 21, 22, 23, 24, 25, 26, 27, 28, 29, 30, 31, 32, 33, 34, 35, 36, 37, 38, 39, 40, 41, 42, 43, 44, 45, 46, 47, 48, 49, 311, 312, 313, 314, 315, 316, 317, 318, 319] (by decide +kernel) (by decide +kernel)) (goodIn_sub (fun _ h => List.mem_cons_of_mem _ (List.mem_append_left _ (List.mem_append_left _ (List.mem_append_right _ h)))) (by decide +kernel))
set_option maxRecDepth 20000 in
theorem gL_acts_X5_count : GoodIn wsL_acts (wsV RL 9 RX5 yX5_count wsX5_count) := goodIn_app (goodIn_of _ (by decide +kernel)) ggL_acts_X5_count
set_option maxRecDepth 20000 in
theorem ggL_acts_X5_brand : GoodIn wsL_acts wsX5_brand := goodIn_ca (goodIn_ca (goodIn_r _ [53, 7, 54, 55, 56, 4, 57, 58, 59, 60, 61, 62, 63, 47, 22, 48, 49, 33, 34, 35, 36, 37, 8, 9, 10, 11, 12, 13, 14, 15, 64, 65, 66, 25, 26, 27, 28, 29, 30, 31, 32, 42, 43, 44, 45, 311, 312, 313, 314, 315, 319] (by decide +kernel) (by decide +kernel)) (goodIn_sub (fun _ h => List.mem_cons_of_mem _ (List.mem_append_left _ (List.mem_append_right _ h))) (by decide +kernel))) (goodIn_sub (fun _ h => List.mem_cons_of_mem _ (List.mem_append_left _ (List.mem_append_left _ (List.mem_append_right _ h)))) (by decide +kernel))
set_option maxRecDepth 20000 in
theorem gL_acts_X5_brand : GoodIn wsL_acts (wsV RL 15 RX5 yX5_brand wsX5_brand) := goodIn_app (goodIn_of _ (by decide +kernel)) ggL_acts_X5_brand
set_option maxRecDepth 20000 in
theorem ggL_acts_X5_filled : GoodIn wsL_acts wsX5_filled := goodIn_ca (goodIn_ca (goodIn_r _ [70, 71, 54, 55, 56, 4, 57, 58, 59, 60, 61, 62, 63, 7, 47, 22, 48, 49, 33, 34, 35, 36, 37, 8, 9, 10, 11, 12, 13, 14, 15, 72, 73, 74, 75, 76, 77, 78, 79, 43, 44, 45, 311, 312, 313, 314, 315, 319, 320, 321] (by decide +kernel) (by decide +kernel)) (goodIn_sub (fun _ h => List.mem_cons_of_mem _ (List.mem_append_left _ (List.mem_append_right _ h))) (by decide +kernel))) (goodIn_sub (fun _ h => List.mem_cons_of_mem _ (List.mem_append_left _ (List.mem_append_left _ (List.mem_append_right _ h)))) (by decide +kernel))
set_option maxRecDepth 20000 in
theorem gL_acts_X5_filled : GoodIn wsL_acts (wsV RL 29 RX5 yX5_filled wsX5_filled) := goodIn_app (goodIn_of _ (by decide +kernel)) ggL_acts_X5_filled
set_option maxRecDepth 20000 in
theorem ggL_acts_X5_fill : GoodIn wsL_acts wsX5_fill := goodIn_ca (goodIn_ca (goodIn_ca (goodIn_r _ [83, 7, 6, 71, 54, 55, 56, 4, 57, 58, 59, 60, 61, 62, 63, 47, 22, 48, 49, 33, 34, 35, 36, 37, 8, 9, 10, 11, 12, 13, 14, 15, 43, 44, 45, 84, 85, 86, 87, 88, 89, 17, 90, 91, 92, 20, 93, 94, 95, 96, 97, 98, 99, 100, 101, 102, 103, 104, 105, 73, 106, 107, 76, 108, 72, 74, 75, 77, 78, 79, 109, 110, 111, 112, 113, 114, 115, 311, 312, 313, 314, 315, 319, 316, 317, 318, 320, 321] (by decide +kernel) (by decide +kernel)) (goodIn_sub (fun _ h => List.mem_cons_of_mem _ (List.mem_append_left _ (List.mem_append_right _ h))) (by decide +kernel))) (goodIn_sub (fun _ h => List.mem_cons_of_mem _ (List.mem_append_left _ (List.mem_append_left _ (List.mem_append_right _ h)))) (by decide +kernel))) (goodIn_sub (fun _ h => List.mem_cons_of_mem _ (List.mem_append_right _ h)) (by decide +kernel))
set_option maxRecDepth 20000 in
theorem gL_acts_X5_fill : GoodIn wsL_acts (wsV RL 32 RX5 yX5_fill wsX5_fill) := goodIn_app (goodIn_of _ (by decide +kernel)) ggL_acts_X5_fill
set_option maxRecDepth 20000 in
theorem ggL_acts_X5_whyNotDeliver : GoodIn wsL_acts wsX5_whyNotDeliver := goodIn_ca (goodIn_ca (goodIn_r _ [119, 71, 54, 55, 56, 4, 57, 58, 59, 60, 61, 62, 63, 7, 47, 22, 48, 49, 33, 34, 35, 36, 37, 120, 121, 122, 123, 124, 125, 126, 127, 8, 9, 10, 11, 12, 13, 14, 15, 128, 73, 129, 130, 76, 43, 44, 45, 30, 31, 32, 131, 132, 133, 134, 135, 136, 137, 138, 77, 78, 79, 311, 312, 313, 314, 315, 319, 320, 321] (by decide +kernel) (by decide +kernel)) (goodIn_sub (fun _ h => List.mem_cons_of_mem _ (List.mem_append_left _ (List.mem_append_right _ h))) (by decide +kernel))) (goodIn_sub (fun _ h => List.mem_cons_of_mem _ (List.mem_append_left _ (List.mem_append_left _ (List.mem_append_right _ h)))) (by decide +kernel))
set_option maxRecDepth 20000 in
theorem gL_acts_X5_whyNotDeliver : GoodIn wsL_acts (wsV RL 35 RX5 yX5_whyNotDeliver wsX5_whyNotDeliver) := goodIn_app (goodIn_of _ (by decide +kernel)) ggL_acts_X5_whyNotDeliver
set_option maxRecDepth 20000 in
theorem ggL_acts_X5_mostCrates : GoodIn wsL_acts wsX5_mostCrates := goodIn_ca (goodIn_r _ [142, 71, 54, 55, 56, 4, 57, 58, 59, 60, 61, 62, 63, 7, 47, 22, 48, 49, 33, 34, 35, 36, 37, 120, 121, 122, 123, 124, 125, 126, 127, 143, 73, 144, 145, 76, 146, 147, 148, 149, 131, 132, 133, 134, 43, 44, 45, 135, 136, 137, 138, 77, 78, 79, 30, 31, 32, 311, 312, 313, 314, 315, 319, 320, 321] (by decide +kernel) (by decide +kernel)) (goodIn_sub (fun _ h => List.mem_cons_of_mem _ (List.mem_append_left _ (List.mem_append_right _ h))) (by decide +kernel))
set_option maxRecDepth 20000 in
theorem gL_acts_X5_mostCrates : GoodIn wsL_acts (wsV RL 38 RX5 yX5_mostCrates wsX5_mostCrates) := goodIn_app (goodIn_of _ (by decide +kernel)) ggL_acts_X5_mostCrates
set_option maxRecDepth 20000 in
theorem ggL_acts_X5_setting : GoodIn wsL_acts wsX5_setting := goodIn_ca (goodIn_r _ [153, 7, 154, 155, 4, 156, 58, 59, 77, 22, 78, 79, 33, 34, 35, 36, 37, 311, 312, 313, 314, 315, 319] (by decide +kernel) (by decide +kernel)) (goodIn_sub (fun _ h => List.mem_cons_of_mem _ (List.mem_append_left _ (List.mem_append_right _ h))) (by decide +kernel))
set_option maxRecDepth 20000 in
theorem gL_acts_X5_setting : GoodIn wsL_acts (wsV RL 22 RX5 yX5_setting wsX5_setting) := goodIn_app (goodIn_of _ (by decide +kernel)) ggL_acts_X5_setting
set_option maxRecDepth 20000 in
theorem ggL_acts_X5_deliver : GoodIn wsL_acts wsX5_deliver := goodIn_ca (goodIn_ca (goodIn_ca (goodIn_r _ [160, 71, 6, 7, 54, 55, 56, 4, 57, 58, 59, 60, 61, 62, 63, 47, 22, 48, 49, 33, 34, 35, 36, 37, 120, 121, 122, 123, 124, 125, 126, 127, 8, 9, 10, 11, 12, 13, 14, 15, 128, 73, 129, 130, 76, 43, 44, 45, 30, 31, 32, 131, 132, 133, 134, 135, 136, 137, 138, 77, 78, 79, 84, 85, 86, 87, 88, 89, 17, 90, 91, 92, 20, 93, 94, 95, 96, 97, 98, 99, 100, 101, 102, 103, 104, 161, 162, 163, 109, 110, 111, 112, 113, 114, 115, 164, 165, 166, 167, 168, 169, 311, 312, 313, 314, 315, 319, 320, 321, 316, 317, 318] (by decide +kernel) (by decide +kernel)) (goodIn_sub (fun _ h => List.mem_cons_of_mem _ (List.mem_append_left _ (List.mem_append_right _ h))) (by decide +kernel))) (goodIn_sub (fun _ h => List.mem_cons_of_mem _ (List.mem_append_left _ (List.mem_append_left _ (List.mem_append_right _ h)))) (by decide +kernel))) (goodIn_sub (fun _ h => List.mem_cons_of_mem _ (List.mem_append_right _ h)) (by decide +kernel))
set_option maxRecDepth 20000 in
theorem gL_acts_X5_deliver : GoodIn wsL_acts (wsV RL 41 RX5 yX5_deliver wsX5_deliver) := goodIn_app (goodIn_of _ (by decide +kernel)) ggL_acts_X5_deliver
set_option maxRecDepth 20000 in
theorem ggL_acts_X5_shop : GoodIn wsL_acts wsX5_shop := goodIn_ca (goodIn_ca (goodIn_r _ [173, 7, 120, 121, 122, 4, 123, 58, 59, 124, 125, 126, 127, 47, 22, 48, 49, 33, 34, 35, 36, 37, 174, 175, 176, 11, 12, 13, 14, 15, 177, 178, 179, 180, 181, 182, 183, 29, 30, 31, 32, 311, 312, 313, 314, 315, 319] (by decide +kernel) (by decide +kernel)) (goodIn_sub (fun _ h => List.mem_cons_of_mem _ (List.mem_append_left _ (List.mem_append_right _ h))) (by decide +kernel))) (goodIn_sub (fun _ h => List.mem_cons_of_mem _ (List.mem_append_left _ (List.mem_append_left _ (List.mem_append_right _ h)))) (by decide +kernel))
set_option maxRecDepth 20000 in
theorem gL_acts_X5_shop : GoodIn wsL_acts (wsV RL 19 RX5 yX5_shop wsX5_shop) := goodIn_app (goodIn_of _ (by decide +kernel)) ggL_acts_X5_shop
set_option maxRecDepth 20000 in
theorem ggL_acts_X5_sell : GoodIn wsL_acts wsX5_sell := goodIn_ca (goodIn_ca (goodIn_ca (goodIn_r _ [187, 71, 6, 7, 120, 121, 122, 4, 123, 58, 59, 124, 125, 126, 127, 47, 22, 48, 49, 33, 34, 35, 36, 37, 54, 55, 56, 57, 60, 61, 62, 63, 8, 9, 10, 11, 12, 13, 14, 15, 188, 73, 189, 190, 76, 30, 31, 32, 191, 192, 193, 84, 85, 86, 87, 88, 89, 17, 90, 91, 92, 20, 93, 94, 95, 96, 97, 98, 99, 100, 101, 102, 103, 104, 194, 195, 196, 164, 165, 166, 112, 113, 114, 115, 109, 110, 111, 197, 198, 199, 200, 43, 44, 45, 77, 78, 79, 311, 312, 313, 314, 315, 319, 320, 321, 316, 317, 318] (by decide +kernel) (by decide +kernel)) (goodIn_sub (fun _ h => List.mem_cons_of_mem _ (List.mem_append_left _ (List.mem_append_right _ h))) (by decide +kernel))) (goodIn_sub (fun _ h => List.mem_cons_of_mem _ (List.mem_append_left _ (List.mem_append_left _ (List.mem_append_right _ h)))) (by decide +kernel))) (goodIn_sub (fun _ h => List.mem_cons_of_mem _ (List.mem_append_right _ h)) (by decide +kernel))
set_option maxRecDepth 20000 in
theorem gL_acts_X5_sell : GoodIn wsL_acts (wsV RL 44 RX5 yX5_sell wsX5_sell) := goodIn_app (goodIn_of _ (by decide +kernel)) ggL_acts_X5_sell
set_option maxRecDepth 20000 in
theorem ggL_acts_X5_takeBack : GoodIn wsL_acts wsX5_takeBack := goodIn_ca (goodIn_ca (goodIn_ca (goodIn_r _ [204, 71, 6, 7, 120, 121, 122, 4, 123, 58, 59, 124, 125, 126, 127, 47, 22, 48, 49, 33, 34, 35, 36, 37, 54, 55, 56, 57, 60, 61, 62, 63, 8, 9, 10, 11, 12, 13, 14, 15, 205, 73, 206, 207, 76, 43, 44, 45, 30, 31, 32, 197, 198, 199, 200, 77, 78, 79, 84, 85, 86, 87, 88, 89, 17, 90, 91, 92, 20, 93, 94, 95, 96, 97, 98, 99, 100, 101, 102, 103, 104, 208, 209, 210, 109, 110, 111, 112, 113, 114, 115, 164, 165, 166, 311, 312, 313, 314, 315, 319, 320, 321, 316, 317, 318] (by decide +kernel) (by decide +kernel)) (goodIn_sub (fun _ h => List.mem_cons_of_mem _ (List.mem_append_left _ (List.mem_append_right _ h))) (by decide +kernel))) (goodIn_sub (fun _ h => List.mem_cons_of_mem _ (List.mem_append_left _ (List.mem_append_left _ (List.mem_append_right _ h)))) (by decide +kernel))) (goodIn_sub (fun _ h => List.mem_cons_of_mem _ (List.mem_append_right _ h)) (by decide +kernel))
set_option maxRecDepth 20000 in
theorem gL_acts_X5_takeBack : GoodIn wsL_acts (wsV RL 47 RX5 yX5_takeBack wsX5_takeBack) := goodIn_app (goodIn_of _ (by decide +kernel)) ggL_acts_X5_takeBack
set_option maxRecDepth 20000 in
theorem ggL_acts_X5_collected : GoodIn wsL_acts wsX5_collected := goodIn_ca (goodIn_ca (goodIn_r _ [214, 71, 120, 121, 122, 4, 123, 58, 59, 124, 125, 126, 127, 7, 47, 22, 48, 49, 33, 34, 35, 36, 37, 54, 55, 56, 57, 60, 61, 62, 63, 8, 9, 10, 11, 12, 13, 14, 15, 215, 73, 216, 217, 76, 43, 44, 45, 218, 219, 220, 221, 222, 223, 224, 225, 30, 31, 32, 226, 227, 228, 229, 230, 231, 232, 233, 234, 235, 236, 237, 238, 239, 240, 311, 312, 313, 314, 315, 319, 320, 321] (by decide +kernel) (by decide +kernel)) (goodIn_sub (fun _ h => List.mem_cons_of_mem _ (List.mem_append_left _ (List.mem_append_right _ h))) (by decide +kernel))) (goodIn_sub (fun _ h => List.mem_cons_of_mem _ (List.mem_append_left _ (List.mem_append_left _ (List.mem_append_right _ h)))) (by decide +kernel))
set_option maxRecDepth 20000 in
theorem gL_acts_X5_collected : GoodIn wsL_acts (wsV RL 50 RX5 yX5_collected wsX5_collected) := goodIn_app (goodIn_of _ (by decide +kernel)) ggL_acts_X5_collected
set_option maxRecDepth 20000 in
theorem ggL_acts_X5_whyNotCollect : GoodIn wsL_acts wsX5_whyNotCollect := goodIn_ca (goodIn_ca (goodIn_r _ [244, 71, 120, 121, 122, 4, 123, 58, 59, 124, 125, 126, 127, 7, 47, 22, 48, 49, 33, 34, 35, 36, 37, 245, 246, 247, 8, 9, 10, 11, 12, 13, 14, 15, 219, 73, 220, 221, 76, 222, 223, 224, 225, 43, 44, 45, 30, 31, 32, 311, 312, 313, 314, 315, 319, 320, 321] (by decide +kernel) (by decide +kernel)) (goodIn_sub (fun _ h => List.mem_cons_of_mem _ (List.mem_append_left _ (List.mem_append_right _ h))) (by decide +kernel))) (goodIn_sub (fun _ h => List.mem_cons_of_mem _ (List.mem_append_left _ (List.mem_append_left _ (List.mem_append_right _ h)))) (by decide +kernel))
set_option maxRecDepth 20000 in
theorem gL_acts_X5_whyNotCollect : GoodIn wsL_acts (wsV RL 53 RX5 yX5_whyNotCollect wsX5_whyNotCollect) := goodIn_app (goodIn_of _ (by decide +kernel)) ggL_acts_X5_whyNotCollect
set_option maxRecDepth 20000 in
theorem ggL_acts_X5_bestShop : GoodIn wsL_acts wsX5_bestShop := goodIn_ca (goodIn_r _ [251, 71, 245, 246, 4, 247, 8, 9, 10, 11, 12, 13, 14, 15, 252, 73, 253, 254, 255, 256, 257, 258, 76, 146, 147, 148, 149, 222, 223, 224, 225, 43, 22, 44, 45, 33, 34, 35, 36, 37, 30, 31, 32, 311, 312, 313, 314, 315, 320, 321, 319] (by decide +kernel) (by decide +kernel)) (goodIn_sub (fun _ h => List.mem_cons_of_mem _ (List.mem_append_left _ (List.mem_append_left _ (List.mem_append_right _ h)))) (by decide +kernel))
set_option maxRecDepth 20000 in
theorem gL_acts_X5_bestShop : GoodIn wsL_acts (wsV RL 56 RX5 yX5_bestShop wsX5_bestShop) := goodIn_app (goodIn_of _ (by decide +kernel)) ggL_acts_X5_bestShop
set_option maxRecDepth 20000 in
theorem ggL_acts_X5_collect : GoodIn wsL_acts wsX5_collect := goodIn_ca (goodIn_ca (goodIn_ca (goodIn_r _ [262, 71, 6, 7, 120, 121, 122, 4, 123, 58, 59, 124, 125, 126, 127, 47, 22, 48, 49, 33, 34, 35, 36, 37, 245, 246, 247, 8, 9, 10, 11, 12, 13, 14, 15, 219, 73, 220, 221, 76, 222, 223, 224, 225, 43, 44, 45, 30, 31, 32, 84, 85, 86, 87, 88, 89, 17, 90, 91, 92, 20, 93, 94, 95, 96, 97, 98, 99, 100, 101, 102, 103, 104, 263, 264, 265, 135, 136, 137, 138, 77, 78, 79, 226, 227, 228, 229, 230, 231, 232, 233, 234, 235, 236, 237, 238, 239, 240, 164, 165, 166, 112, 113, 114, 115, 109, 110, 111, 167, 168, 169, 311, 312, 313, 314, 315, 319, 320, 321, 316, 317, 318] (by decide +kernel) (by decide +kernel)) (goodIn_sub (fun _ h => List.mem_cons_of_mem _ (List.mem_append_left _ (List.mem_append_right _ h))) (by decide +kernel))) (goodIn_sub (fun _ h => List.mem_cons_of_mem _ (List.mem_append_left _ (List.mem_append_left _ (List.mem_append_right _ h)))) (by decide +kernel))) (goodIn_sub (fun _ h => List.mem_cons_of_mem _ (List.mem_append_right _ h)) (by decide +kernel))
set_option maxRecDepth 20000 in
theorem gL_acts_X5_collect : GoodIn wsL_acts (wsV RL 59 RX5 yX5_collect wsX5_collect) := goodIn_app (goodIn_of _ (by decide +kernel)) ggL_acts_X5_collect
set_option maxRecDepth 20000 in
theorem ggL_acts_X5_breaks : GoodIn wsL_acts wsX5_breaks := goodIn_ca (goodIn_ca (goodIn_ca (goodIn_r _ [269, 71, 6, 7, 120, 121, 122, 4, 123, 58, 59, 124, 125, 126, 127, 47, 22, 48, 49, 33, 34, 35, 36, 37, 54, 55, 56, 57, 60, 61, 62, 63, 8, 9, 10, 11, 12, 13, 14, 15, 270, 73, 271, 272, 76, 30, 31, 32, 191, 192, 193, 84, 85, 86, 87, 88, 89, 17, 90, 91, 92, 20, 93, 94, 95, 96, 97, 98, 99, 100, 101, 102, 103, 104, 273, 274, 275, 146, 147, 148, 149, 197, 198, 199, 200, 43, 44, 45, 77, 78, 79, 164, 165, 166, 112, 113, 114, 115, 109, 110, 111, 167, 168, 169, 311, 312, 313, 314, 315, 319, 320, 321, 316, 317, 318] (by decide +kernel) (by decide +kernel)) (goodIn_sub (fun _ h => List.mem_cons_of_mem _ (List.mem_append_left _ (List.mem_append_right _ h))) (by decide +kernel))) (goodIn_sub (fun _ h => List.mem_cons_of_mem _ (List.mem_append_left _ (List.mem_append_left _ (List.mem_append_right _ h)))) (by decide +kernel))) (goodIn_sub (fun _ h => List.mem_cons_of_mem _ (List.mem_append_right _ h)) (by decide +kernel))
set_option maxRecDepth 20000 in
theorem gL_acts_X5_breaks : GoodIn wsL_acts (wsV RL 62 RX5 yX5_breaks wsX5_breaks) := goodIn_app (goodIn_of _ (by decide +kernel)) ggL_acts_X5_breaks
set_option maxRecDepth 20000 in
theorem ggL_acts_X5_lose : GoodIn wsL_acts wsX5_lose := goodIn_ca (goodIn_ca (goodIn_ca (goodIn_r _ [279, 7, 6, 71, 54, 55, 56, 4, 57, 58, 59, 60, 61, 62, 63, 47, 22, 48, 49, 33, 34, 35, 36, 37, 8, 9, 10, 11, 12, 13, 14, 15, 43, 44, 45, 84, 85, 86, 87, 88, 89, 17, 90, 91, 92, 20, 93, 94, 95, 96, 97, 98, 99, 100, 101, 102, 103, 104, 280, 73, 281, 282, 76, 109, 110, 111, 112, 113, 114, 115, 197, 198, 199, 200, 77, 78, 79, 167, 168, 169, 311, 312, 313, 314, 315, 319, 316, 317, 318, 320, 321] (by decide +kernel) (by decide +kernel)) (goodIn_sub (fun _ h => List.mem_cons_of_mem _ (List.mem_append_left _ (List.mem_append_right _ h))) (by decide +kernel))) (goodIn_sub (fun _ h => List.mem_cons_of_mem _ (List.mem_append_left _ (List.mem_append_left _ (List.mem_append_right _ h)))) (by decide +kernel))) (goodIn_sub (fun _ h => List.mem_cons_of_mem _ (List.mem_append_right _ h)) (by decide +kernel))
set_option maxRecDepth 20000 in
theorem gL_acts_X5_lose : GoodIn wsL_acts (wsV RL 65 RX5 yX5_lose wsX5_lose) := goodIn_app (goodIn_of _ (by decide +kernel)) ggL_acts_X5_lose
set_option maxRecDepth 20000 in
theorem ggL_acts_X5_sort : GoodIn wsL_acts wsX5_sort := goodIn_ca (goodIn_ca (goodIn_r _ [286, 71, 6, 7, 245, 246, 4, 247, 8, 9, 10, 11, 12, 13, 14, 15, 287, 73, 288, 289, 76, 43, 22, 44, 45, 33, 34, 35, 36, 37, 84, 85, 86, 87, 88, 89, 17, 90, 91, 92, 20, 93, 94, 95, 96, 97, 98, 99, 100, 101, 102, 103, 104, 290, 291, 292, 146, 147, 148, 149, 109, 110, 111, 112, 113, 114, 115, 293, 311, 312, 313, 314, 315, 320, 321, 319, 316, 317, 318] (by decide +kernel) (by decide +kernel)) (goodIn_sub (fun _ h => List.mem_cons_of_mem _ (List.mem_append_left _ (List.mem_append_left _ (List.mem_append_right _ h)))) (by decide +kernel))) (goodIn_sub (fun _ h => List.mem_cons_of_mem _ (List.mem_append_right _ h)) (by decide +kernel))
set_option maxRecDepth 20000 in
theorem gL_acts_X5_sort : GoodIn wsL_acts (wsV RL 68 RX5 yX5_sort wsX5_sort) := goodIn_app (goodIn_of _ (by decide +kernel)) ggL_acts_X5_sort
set_option maxRecDepth 20000 in
theorem ggL_acts_L_swaps : GoodIn wsL_acts wsL_swaps := goodIn_ca (goodIn_ca (goodIn_ca (goodIn_r _ [297, 50, 51, 52, 4, 53, 7, 54, 55, 56, 57, 58, 59, 60, 61, 62, 63, 47, 22, 48, 49, 33, 34, 35, 36, 37, 8, 9, 10, 11, 12, 13, 14, 15, 64, 65, 66, 25, 26, 27, 28, 29, 30, 31, 32, 42, 43, 44, 45, 298, 299, 300, 301, 6, 71, 84, 85, 86, 87, 88, 89, 17, 90, 91, 92, 20, 93, 94, 95, 96, 97, 98, 99, 100, 101, 102, 103, 104, 302, 73, 303, 304, 76, 109, 110, 111, 112, 113, 114, 115, 305, 306, 307, 308, 309, 310, 311, 312, 313, 314, 315, 319, 316, 317, 318, 320, 321] (by decide +kernel) (by decide +kernel)) (goodIn_sub (fun _ h => List.mem_cons_of_mem _ (List.mem_append_left _ (List.mem_append_right _ h))) (by decide +kernel))) (goodIn_sub (fun _ h => List.mem_cons_of_mem _ (List.mem_append_left _ (List.mem_append_left _ (List.mem_append_right _ h)))) (by decide +kernel))) (goodIn_sub (fun _ h => List.mem_cons_of_mem _ (List.mem_append_right _ h)) (by decide +kernel))
set_option maxRecDepth 20000 in
theorem gL_acts_L_swaps : GoodIn wsL_acts (va_wsS RL 71 yL_swaps wsL_swaps) := goodIn_app (goodIn_of _ (by decide +kernel)) ggL_acts_L_swaps
theorem dL_acts_0 : decode cL_acts 0 = .ok (.iload_n 1, 1) := by decide +kernel
theorem dL_acts_1 : decode cL_acts 1 = .ok (.iconst 3, 1) := by decide +kernel
theorem dL_acts_2 : decode cL_acts 2 = .ok (.ishr, 1) := by decide +kernel
theorem dL_acts_3 : decode cL_acts 3 = .ok (.istore_n 2, 1) := by decide +kernel
theorem dL_acts_4 : decode cL_acts 4 = .ok (.iload_n 2, 1) := by decide +kernel
theorem dL_acts_5 : decode cL_acts 5 = .ok (.aload_n 0, 1) := by decide +kernel
theorem dL_acts_6 : decode cL_acts 6 = .ok (.iconst 0, 1) := by decide +kernel
theorem dL_acts_7 : decode cL_acts 7 = .ok (.invokevirtual 9, 3) := by decide +kernel
theorem dL_acts_10 : decode cL_acts 10 = .ok (.irem, 1) := by decide +kernel
theorem dL_acts_11 : decode cL_acts 11 = .ok (.istore_n 3, 1) := by decide +kernel
theorem dL_acts_12 : decode cL_acts 12 = .ok (.iload_n 2, 1) := by decide +kernel
theorem dL_acts_13 : decode cL_acts 13 = .ok (.iconst 4, 1) := by decide +kernel
theorem dL_acts_14 : decode cL_acts 14 = .ok (.ishr, 1) := by decide +kernel
theorem dL_acts_15 : decode cL_acts 15 = .ok (.aload_n 0, 1) := by decide +kernel
theorem dL_acts_16 : decode cL_acts 16 = .ok (.iconst 1, 1) := by decide +kernel
theorem dL_acts_17 : decode cL_acts 17 = .ok (.invokevirtual 9, 3) := by decide +kernel
theorem dL_acts_20 : decode cL_acts 20 = .ok (.irem, 1) := by decide +kernel
theorem dL_acts_21 : decode cL_acts 21 = .ok (.istore 4, 2) := by decide +kernel
theorem dL_acts_23 : decode cL_acts 23 = .ok (.iconst 1, 1) := by decide +kernel
theorem dL_acts_24 : decode cL_acts 24 = .ok (.iload_n 2, 1) := by decide +kernel
theorem dL_acts_25 : decode cL_acts 25 = .ok (.bipush 7, 2) := by decide +kernel
theorem dL_acts_27 : decode cL_acts 27 = .ok (.ishr, 1) := by decide +kernel
theorem dL_acts_28 : decode cL_acts 28 = .ok (.bipush 40, 2) := by decide +kernel
theorem dL_acts_30 : decode cL_acts 30 = .ok (.irem, 1) := by decide +kernel
theorem dL_acts_31 : decode cL_acts 31 = .ok (.iadd, 1) := by decide +kernel
theorem dL_acts_32 : decode cL_acts 32 = .ok (.istore 5, 2) := by decide +kernel
theorem dL_acts_34 : decode cL_acts 34 = .ok (.iload_n 1, 1) := by decide +kernel
theorem dL_acts_35 : decode cL_acts 35 = .ok (.bipush 7, 2) := by decide +kernel
theorem dL_acts_37 : decode cL_acts 37 = .ok (.iand, 1) := by decide +kernel
theorem dL_acts_38 : decode cL_acts 38 = .ok (.tableswitch 582 0 6 #[42, 98, 98, 208, 266, 331, 463], 42) := by decide +kernel
theorem dL_acts_80 : decode cL_acts 80 = .ok (.aload_n 0, 1) := by decide +kernel
theorem dL_acts_81 : decode cL_acts 81 = .ok (.iload_n 3, 1) := by decide +kernel
theorem dL_acts_82 : decode cL_acts 82 = .ok (.iconst 1, 1) := by decide +kernel
theorem dL_acts_83 : decode cL_acts 83 = .ok (.invokevirtual 15, 3) := by decide +kernel
theorem dL_acts_86 : decode cL_acts 86 = .ok (.istore 6, 2) := by decide +kernel
theorem dL_acts_88 : decode cL_acts 88 = .ok (.aload_n 0, 1) := by decide +kernel
theorem dL_acts_89 : decode cL_acts 89 = .ok (.iload_n 3, 1) := by decide +kernel
theorem dL_acts_90 : decode cL_acts 90 = .ok (.iload 5, 2) := by decide +kernel
theorem dL_acts_92 : decode cL_acts 92 = .ok (.invokevirtual 29, 3) := by decide +kernel
theorem dL_acts_95 : decode cL_acts 95 = .ok (.istore 7, 2) := by decide +kernel
theorem dL_acts_97 : decode cL_acts 97 = .ok (.iload 6, 2) := by decide +kernel
theorem dL_acts_99 : decode cL_acts 99 = .ok (.iload 5, 2) := by decide +kernel
theorem dL_acts_101 : decode cL_acts 101 = .ok (.if_icmp .lt 29, 3) := by decide +kernel
theorem dL_acts_104 : decode cL_acts 104 = .ok (.aload_n 0, 1) := by decide +kernel
theorem dL_acts_105 : decode cL_acts 105 = .ok (.iload_n 3, 1) := by decide +kernel
theorem dL_acts_106 : decode cL_acts 106 = .ok (.iload 5, 2) := by decide +kernel
theorem dL_acts_108 : decode cL_acts 108 = .ok (.invokevirtual 32, 3) := by decide +kernel
theorem dL_acts_111 : decode cL_acts 111 = .ok (.iload 7, 2) := by decide +kernel
theorem dL_acts_113 : decode cL_acts 113 = .ok (.if_icmp .ne 21, 3) := by decide +kernel
theorem dL_acts_116 : decode cL_acts 116 = .ok (.aload_n 0, 1) := by decide +kernel
theorem dL_acts_117 : decode cL_acts 117 = .ok (.iload_n 3, 1) := by decide +kernel
theorem dL_acts_118 : decode cL_acts 118 = .ok (.iconst 1, 1) := by decide +kernel
theorem dL_acts_119 : decode cL_acts 119 = .ok (.invokevirtual 15, 3) := by decide +kernel
theorem dL_acts_122 : decode cL_acts 122 = .ok (.iload 6, 2) := by decide +kernel
theorem dL_acts_124 : decode cL_acts 124 = .ok (.iload 5, 2) := by decide +kernel
theorem dL_acts_126 : decode cL_acts 126 = .ok (.isub, 1) := by decide +kernel
theorem dL_acts_127 : decode cL_acts 127 = .ok (.if_icmp .ne 7, 3) := by decide +kernel
theorem dL_acts_130 : decode cL_acts 130 = .ok (.iconst 1, 1) := by decide +kernel
theorem dL_acts_131 : decode cL_acts 131 = .ok (.goto 4, 3) := by decide +kernel
theorem dL_acts_134 : decode cL_acts 134 = .ok (.iconst 0, 1) := by decide +kernel
theorem dL_acts_135 : decode cL_acts 135 = .ok (.ireturn, 1) := by decide +kernel
theorem dL_acts_136 : decode cL_acts 136 = .ok (.iconst 1, 1) := by decide +kernel
theorem dL_acts_137 : decode cL_acts 137 = .ok (.iload_n 2, 1) := by decide +kernel
theorem dL_acts_138 : decode cL_acts 138 = .ok (.bipush 7, 2) := by decide +kernel
theorem dL_acts_140 : decode cL_acts 140 = .ok (.ishr, 1) := by decide +kernel
theorem dL_acts_141 : decode cL_acts 141 = .ok (.iconst 3, 1) := by decide +kernel
theorem dL_acts_142 : decode cL_acts 142 = .ok (.irem, 1) := by decide +kernel
theorem dL_acts_143 : decode cL_acts 143 = .ok (.iadd, 1) := by decide +kernel
theorem dL_acts_144 : decode cL_acts 144 = .ok (.istore 8, 2) := by decide +kernel
theorem dL_acts_146 : decode cL_acts 146 = .ok (.aload_n 0, 1) := by decide +kernel
theorem dL_acts_147 : decode cL_acts 147 = .ok (.iload_n 3, 1) := by decide +kernel
theorem dL_acts_148 : decode cL_acts 148 = .ok (.iload 4, 2) := by decide +kernel
theorem dL_acts_150 : decode cL_acts 150 = .ok (.iload 8, 2) := by decide +kernel
theorem dL_acts_152 : decode cL_acts 152 = .ok (.invokevirtual 35, 3) := by decide +kernel
theorem dL_acts_155 : decode cL_acts 155 = .ok (.istore 9, 2) := by decide +kernel
theorem dL_acts_157 : decode cL_acts 157 = .ok (.aload_n 0, 1) := by decide +kernel
theorem dL_acts_158 : decode cL_acts 158 = .ok (.iload_n 3, 1) := by decide +kernel
theorem dL_acts_159 : decode cL_acts 159 = .ok (.iload 4, 2) := by decide +kernel
theorem dL_acts_161 : decode cL_acts 161 = .ok (.invokevirtual 38, 3) := by decide +kernel
theorem dL_acts_164 : decode cL_acts 164 = .ok (.istore 10, 2) := by decide +kernel
theorem dL_acts_166 : decode cL_acts 166 = .ok (.bipush 12, 2) := by decide +kernel
theorem dL_acts_168 : decode cL_acts 168 = .ok (.aload_n 0, 1) := by decide +kernel
theorem dL_acts_169 : decode cL_acts 169 = .ok (.aload_n 0, 1) := by decide +kernel
theorem dL_acts_170 : decode cL_acts 170 = .ok (.iload_n 3, 1) := by decide +kernel
theorem dL_acts_171 : decode cL_acts 171 = .ok (.iconst 0, 1) := by decide +kernel
theorem dL_acts_172 : decode cL_acts 172 = .ok (.invokevirtual 15, 3) := by decide +kernel
theorem dL_acts_175 : decode cL_acts 175 = .ok (.invokevirtual 22, 3) := by decide +kernel
theorem dL_acts_178 : decode cL_acts 178 = .ok (.imul, 1) := by decide +kernel
theorem dL_acts_179 : decode cL_acts 179 = .ok (.aload_n 0, 1) := by decide +kernel
theorem dL_acts_180 : decode cL_acts 180 = .ok (.iconst 3, 1) := by decide +kernel
theorem dL_acts_181 : decode cL_acts 181 = .ok (.invokevirtual 22, 3) := by decide +kernel
theorem dL_acts_184 : decode cL_acts 184 = .ok (.iadd, 1) := by decide +kernel
end
section
theorem dL_acts_185 : decode cL_acts 185 = .ok (.aload_n 0, 1) := by decide +kernel
theorem dL_acts_186 : decode cL_acts 186 = .ok (.iconst 4, 1) := by decide +kernel
theorem dL_acts_187 : decode cL_acts 187 = .ok (.invokevirtual 22, 3) := by decide +kernel
theorem dL_acts_190 : decode cL_acts 190 = .ok (.iadd, 1) := by decide +kernel
theorem dL_acts_191 : decode cL_acts 191 = .ok (.istore 11, 2) := by decide +kernel
theorem dL_acts_193 : decode cL_acts 193 = .ok (.iload 9, 2) := by decide +kernel
theorem dL_acts_195 : decode cL_acts 195 = .ok (.ifCond .ne 7, 3) := by decide +kernel
theorem dL_acts_198 : decode cL_acts 198 = .ok (.iconst 1, 1) := by decide +kernel
theorem dL_acts_199 : decode cL_acts 199 = .ok (.goto 4, 3) := by decide +kernel
theorem dL_acts_202 : decode cL_acts 202 = .ok (.iconst 0, 1) := by decide +kernel
theorem dL_acts_203 : decode cL_acts 203 = .ok (.iload 10, 2) := by decide +kernel
theorem dL_acts_205 : decode cL_acts 205 = .ok (.iload 8, 2) := by decide +kernel
theorem dL_acts_207 : decode cL_acts 207 = .ok (.if_icmp .lt 7, 3) := by decide +kernel
theorem dL_acts_210 : decode cL_acts 210 = .ok (.iconst 1, 1) := by decide +kernel
theorem dL_acts_211 : decode cL_acts 211 = .ok (.goto 4, 3) := by decide +kernel
theorem dL_acts_214 : decode cL_acts 214 = .ok (.iconst 0, 1) := by decide +kernel
theorem dL_acts_215 : decode cL_acts 215 = .ok (.if_icmp .ne 29, 3) := by decide +kernel
theorem dL_acts_218 : decode cL_acts 218 = .ok (.iload 9, 2) := by decide +kernel
theorem dL_acts_220 : decode cL_acts 220 = .ok (.ifCond .gt 20, 3) := by decide +kernel
theorem dL_acts_223 : decode cL_acts 223 = .ok (.aload_n 0, 1) := by decide +kernel
theorem dL_acts_224 : decode cL_acts 224 = .ok (.iload_n 3, 1) := by decide +kernel
theorem dL_acts_225 : decode cL_acts 225 = .ok (.iload 4, 2) := by decide +kernel
theorem dL_acts_227 : decode cL_acts 227 = .ok (.iload 8, 2) := by decide +kernel
theorem dL_acts_229 : decode cL_acts 229 = .ok (.invokevirtual 41, 3) := by decide +kernel
theorem dL_acts_232 : decode cL_acts 232 = .ok (.iload 8, 2) := by decide +kernel
theorem dL_acts_234 : decode cL_acts 234 = .ok (.iload 11, 2) := by decide +kernel
theorem dL_acts_236 : decode cL_acts 236 = .ok (.imul, 1) := by decide +kernel
theorem dL_acts_237 : decode cL_acts 237 = .ok (.if_icmp .ne 7, 3) := by decide +kernel
theorem dL_acts_240 : decode cL_acts 240 = .ok (.iconst 1, 1) := by decide +kernel
theorem dL_acts_241 : decode cL_acts 241 = .ok (.goto 4, 3) := by decide +kernel
theorem dL_acts_244 : decode cL_acts 244 = .ok (.iconst 0, 1) := by decide +kernel
theorem dL_acts_245 : decode cL_acts 245 = .ok (.ireturn, 1) := by decide +kernel
theorem dL_acts_246 : decode cL_acts 246 = .ok (.aload_n 0, 1) := by decide +kernel
theorem dL_acts_247 : decode cL_acts 247 = .ok (.iload 4, 2) := by decide +kernel
theorem dL_acts_249 : decode cL_acts 249 = .ok (.iconst 0, 1) := by decide +kernel
theorem dL_acts_250 : decode cL_acts 250 = .ok (.invokevirtual 19, 3) := by decide +kernel
theorem dL_acts_253 : decode cL_acts 253 = .ok (.istore 12, 2) := by decide +kernel
theorem dL_acts_255 : decode cL_acts 255 = .ok (.aload_n 0, 1) := by decide +kernel
theorem dL_acts_256 : decode cL_acts 256 = .ok (.iload 4, 2) := by decide +kernel
theorem dL_acts_258 : decode cL_acts 258 = .ok (.bipush 10, 2) := by decide +kernel
theorem dL_acts_260 : decode cL_acts 260 = .ok (.iload_n 3, 1) := by decide +kernel
theorem dL_acts_261 : decode cL_acts 261 = .ok (.iadd, 1) := by decide +kernel
theorem dL_acts_262 : decode cL_acts 262 = .ok (.invokevirtual 19, 3) := by decide +kernel
theorem dL_acts_265 : decode cL_acts 265 = .ok (.iload 5, 2) := by decide +kernel
theorem dL_acts_267 : decode cL_acts 267 = .ok (.if_icmp .lt 31, 3) := by decide +kernel
theorem dL_acts_270 : decode cL_acts 270 = .ok (.aload_n 0, 1) := by decide +kernel
theorem dL_acts_271 : decode cL_acts 271 = .ok (.iload 4, 2) := by decide +kernel
theorem dL_acts_273 : decode cL_acts 273 = .ok (.iload_n 3, 1) := by decide +kernel
theorem dL_acts_274 : decode cL_acts 274 = .ok (.iload 5, 2) := by decide +kernel
theorem dL_acts_276 : decode cL_acts 276 = .ok (.invokevirtual 44, 3) := by decide +kernel
theorem dL_acts_279 : decode cL_acts 279 = .ok (.iload 12, 2) := by decide +kernel
theorem dL_acts_281 : decode cL_acts 281 = .ok (.iload 5, 2) := by decide +kernel
theorem dL_acts_283 : decode cL_acts 283 = .ok (.aload_n 0, 1) := by decide +kernel
theorem dL_acts_284 : decode cL_acts 284 = .ok (.aload_n 0, 1) := by decide +kernel
theorem dL_acts_285 : decode cL_acts 285 = .ok (.iload_n 3, 1) := by decide +kernel
theorem dL_acts_286 : decode cL_acts 286 = .ok (.iconst 0, 1) := by decide +kernel
theorem dL_acts_287 : decode cL_acts 287 = .ok (.invokevirtual 15, 3) := by decide +kernel
theorem dL_acts_290 : decode cL_acts 290 = .ok (.invokevirtual 22, 3) := by decide +kernel
theorem dL_acts_293 : decode cL_acts 293 = .ok (.imul, 1) := by decide +kernel
theorem dL_acts_294 : decode cL_acts 294 = .ok (.iadd, 1) := by decide +kernel
theorem dL_acts_295 : decode cL_acts 295 = .ok (.if_icmp .ne 7, 3) := by decide +kernel
theorem dL_acts_298 : decode cL_acts 298 = .ok (.iconst 1, 1) := by decide +kernel
theorem dL_acts_299 : decode cL_acts 299 = .ok (.goto 4, 3) := by decide +kernel
theorem dL_acts_302 : decode cL_acts 302 = .ok (.iconst 0, 1) := by decide +kernel
theorem dL_acts_303 : decode cL_acts 303 = .ok (.ireturn, 1) := by decide +kernel
theorem dL_acts_304 : decode cL_acts 304 = .ok (.aload_n 0, 1) := by decide +kernel
theorem dL_acts_305 : decode cL_acts 305 = .ok (.iload 4, 2) := by decide +kernel
theorem dL_acts_307 : decode cL_acts 307 = .ok (.iconst 0, 1) := by decide +kernel
theorem dL_acts_308 : decode cL_acts 308 = .ok (.invokevirtual 19, 3) := by decide +kernel
theorem dL_acts_311 : decode cL_acts 311 = .ok (.istore 13, 2) := by decide +kernel
theorem dL_acts_313 : decode cL_acts 313 = .ok (.iload 5, 2) := by decide +kernel
theorem dL_acts_315 : decode cL_acts 315 = .ok (.aload_n 0, 1) := by decide +kernel
theorem dL_acts_316 : decode cL_acts 316 = .ok (.aload_n 0, 1) := by decide +kernel
theorem dL_acts_317 : decode cL_acts 317 = .ok (.iload_n 3, 1) := by decide +kernel
theorem dL_acts_318 : decode cL_acts 318 = .ok (.iconst 0, 1) := by decide +kernel
theorem dL_acts_319 : decode cL_acts 319 = .ok (.invokevirtual 15, 3) := by decide +kernel
theorem dL_acts_322 : decode cL_acts 322 = .ok (.invokevirtual 22, 3) := by decide +kernel
theorem dL_acts_325 : decode cL_acts 325 = .ok (.imul, 1) := by decide +kernel
theorem dL_acts_326 : decode cL_acts 326 = .ok (.istore 14, 2) := by decide +kernel
theorem dL_acts_328 : decode cL_acts 328 = .ok (.aload_n 0, 1) := by decide +kernel
theorem dL_acts_329 : decode cL_acts 329 = .ok (.iload_n 3, 1) := by decide +kernel
theorem dL_acts_330 : decode cL_acts 330 = .ok (.iconst 5, 1) := by decide +kernel
theorem dL_acts_331 : decode cL_acts 331 = .ok (.invokevirtual 15, 3) := by decide +kernel
theorem dL_acts_334 : decode cL_acts 334 = .ok (.iload 5, 2) := by decide +kernel
theorem dL_acts_336 : decode cL_acts 336 = .ok (.if_icmp .lt 27, 3) := by decide +kernel
theorem dL_acts_339 : decode cL_acts 339 = .ok (.iload 13, 2) := by decide +kernel
theorem dL_acts_341 : decode cL_acts 341 = .ok (.iload 14, 2) := by decide +kernel
theorem dL_acts_343 : decode cL_acts 343 = .ok (.if_icmp .lt 20, 3) := by decide +kernel
theorem dL_acts_346 : decode cL_acts 346 = .ok (.aload_n 0, 1) := by decide +kernel
theorem dL_acts_347 : decode cL_acts 347 = .ok (.iload 4, 2) := by decide +kernel
theorem dL_acts_349 : decode cL_acts 349 = .ok (.iload_n 3, 1) := by decide +kernel
theorem dL_acts_350 : decode cL_acts 350 = .ok (.iload 5, 2) := by decide +kernel
theorem dL_acts_352 : decode cL_acts 352 = .ok (.invokevirtual 47, 3) := by decide +kernel
theorem dL_acts_355 : decode cL_acts 355 = .ok (.iload 13, 2) := by decide +kernel
theorem dL_acts_357 : decode cL_acts 357 = .ok (.iload 14, 2) := by decide +kernel
theorem dL_acts_359 : decode cL_acts 359 = .ok (.isub, 1) := by decide +kernel
theorem dL_acts_360 : decode cL_acts 360 = .ok (.if_icmp .ne 7, 3) := by decide +kernel
theorem dL_acts_363 : decode cL_acts 363 = .ok (.iconst 1, 1) := by decide +kernel
theorem dL_acts_364 : decode cL_acts 364 = .ok (.goto 4, 3) := by decide +kernel
theorem dL_acts_367 : decode cL_acts 367 = .ok (.iconst 0, 1) := by decide +kernel
theorem dL_acts_368 : decode cL_acts 368 = .ok (.ireturn, 1) := by decide +kernel
theorem dL_acts_369 : decode cL_acts 369 = .ok (.aload_n 0, 1) := by decide +kernel
theorem dL_acts_370 : decode cL_acts 370 = .ok (.iload_n 3, 1) := by decide +kernel
theorem dL_acts_371 : decode cL_acts 371 = .ok (.iconst 0, 1) := by decide +kernel
theorem dL_acts_372 : decode cL_acts 372 = .ok (.invokevirtual 15, 3) := by decide +kernel
theorem dL_acts_375 : decode cL_acts 375 = .ok (.istore 15, 2) := by decide +kernel
theorem dL_acts_377 : decode cL_acts 377 = .ok (.aload_n 0, 1) := by decide +kernel
theorem dL_acts_378 : decode cL_acts 378 = .ok (.bipush 8, 2) := by decide +kernel
theorem dL_acts_380 : decode cL_acts 380 = .ok (.invokevirtual 9, 3) := by decide +kernel
theorem dL_acts_383 : decode cL_acts 383 = .ok (.istore 16, 2) := by decide +kernel
theorem dL_acts_385 : decode cL_acts 385 = .ok (.aload_n 0, 1) := by decide +kernel
theorem dL_acts_386 : decode cL_acts 386 = .ok (.iload 4, 2) := by decide +kernel
theorem dL_acts_388 : decode cL_acts 388 = .ok (.iload_n 3, 1) := by decide +kernel
theorem dL_acts_389 : decode cL_acts 389 = .ok (.iconst 1, 1) := by decide +kernel
theorem dL_acts_390 : decode cL_acts 390 = .ok (.invokevirtual 50, 3) := by decide +kernel
theorem dL_acts_393 : decode cL_acts 393 = .ok (.istore 17, 2) := by decide +kernel
theorem dL_acts_395 : decode cL_acts 395 = .ok (.aload_n 0, 1) := by decide +kernel
theorem dL_acts_396 : decode cL_acts 396 = .ok (.iload_n 3, 1) := by decide +kernel
theorem dL_acts_397 : decode cL_acts 397 = .ok (.bipush 6, 2) := by decide +kernel
theorem dL_acts_399 : decode cL_acts 399 = .ok (.invokevirtual 15, 3) := by decide +kernel
theorem dL_acts_402 : decode cL_acts 402 = .ok (.istore 18, 2) := by decide +kernel
theorem dL_acts_404 : decode cL_acts 404 = .ok (.aload_n 0, 1) := by decide +kernel
theorem dL_acts_405 : decode cL_acts 405 = .ok (.iload 4, 2) := by decide +kernel
theorem dL_acts_407 : decode cL_acts 407 = .ok (.iload 15, 2) := by decide +kernel
theorem dL_acts_409 : decode cL_acts 409 = .ok (.iconst 1, 1) := by decide +kernel
theorem dL_acts_410 : decode cL_acts 410 = .ok (.invokevirtual 53, 3) := by decide +kernel
theorem dL_acts_413 : decode cL_acts 413 = .ok (.ifCond .le 17, 3) := by decide +kernel
theorem dL_acts_416 : decode cL_acts 416 = .ok (.iload 17, 2) := by decide +kernel
theorem dL_acts_418 : decode cL_acts 418 = .ok (.iconst (-1), 1) := by decide +kernel
theorem dL_acts_419 : decode cL_acts 419 = .ok (.if_icmp .ne 7, 3) := by decide +kernel
theorem dL_acts_422 : decode cL_acts 422 = .ok (.iconst 1, 1) := by decide +kernel
theorem dL_acts_423 : decode cL_acts 423 = .ok (.goto 77, 3) := by decide +kernel
theorem dL_acts_426 : decode cL_acts 426 = .ok (.iconst 0, 1) := by decide +kernel
theorem dL_acts_427 : decode cL_acts 427 = .ok (.goto 73, 3) := by decide +kernel
theorem dL_acts_430 : decode cL_acts 430 = .ok (.aload_n 0, 1) := by decide +kernel
theorem dL_acts_431 : decode cL_acts 431 = .ok (.iload 15, 2) := by decide +kernel
theorem dL_acts_433 : decode cL_acts 433 = .ok (.invokevirtual 56, 3) := by decide +kernel
theorem dL_acts_436 : decode cL_acts 436 = .ok (.ifCond .lt 63, 3) := by decide +kernel
theorem dL_acts_439 : decode cL_acts 439 = .ok (.aload_n 0, 1) := by decide +kernel
theorem dL_acts_440 : decode cL_acts 440 = .ok (.iload 4, 2) := by decide +kernel
theorem dL_acts_442 : decode cL_acts 442 = .ok (.iload 15, 2) := by decide +kernel
theorem dL_acts_444 : decode cL_acts 444 = .ok (.iconst 1, 1) := by decide +kernel
theorem dL_acts_445 : decode cL_acts 445 = .ok (.invokevirtual 59, 3) := by decide +kernel
theorem dL_acts_448 : decode cL_acts 448 = .ok (.bipush 12, 2) := by decide +kernel
theorem dL_acts_450 : decode cL_acts 450 = .ok (.aload_n 0, 1) := by decide +kernel
theorem dL_acts_451 : decode cL_acts 451 = .ok (.iload 15, 2) := by decide +kernel
theorem dL_acts_453 : decode cL_acts 453 = .ok (.invokevirtual 22, 3) := by decide +kernel
theorem dL_acts_456 : decode cL_acts 456 = .ok (.imul, 1) := by decide +kernel
theorem dL_acts_457 : decode cL_acts 457 = .ok (.aload_n 0, 1) := by decide +kernel
theorem dL_acts_458 : decode cL_acts 458 = .ok (.iconst 3, 1) := by decide +kernel
theorem dL_acts_459 : decode cL_acts 459 = .ok (.invokevirtual 22, 3) := by decide +kernel
theorem dL_acts_462 : decode cL_acts 462 = .ok (.iadd, 1) := by decide +kernel
theorem dL_acts_463 : decode cL_acts 463 = .ok (.if_icmp .ne 36, 3) := by decide +kernel
theorem dL_acts_466 : decode cL_acts 466 = .ok (.aload_n 0, 1) := by decide +kernel
theorem dL_acts_467 : decode cL_acts 467 = .ok (.bipush 8, 2) := by decide +kernel
theorem dL_acts_469 : decode cL_acts 469 = .ok (.invokevirtual 9, 3) := by decide +kernel
theorem dL_acts_472 : decode cL_acts 472 = .ok (.iload 16, 2) := by decide +kernel
theorem dL_acts_474 : decode cL_acts 474 = .ok (.bipush 12, 2) := by decide +kernel
theorem dL_acts_476 : decode cL_acts 476 = .ok (.iadd, 1) := by decide +kernel
theorem dL_acts_477 : decode cL_acts 477 = .ok (.if_icmp .ne 22, 3) := by decide +kernel
theorem dL_acts_480 : decode cL_acts 480 = .ok (.aload_n 0, 1) := by decide +kernel
theorem dL_acts_481 : decode cL_acts 481 = .ok (.iload_n 3, 1) := by decide +kernel
theorem dL_acts_482 : decode cL_acts 482 = .ok (.bipush 6, 2) := by decide +kernel
theorem dL_acts_484 : decode cL_acts 484 = .ok (.invokevirtual 15, 3) := by decide +kernel
theorem dL_acts_487 : decode cL_acts 487 = .ok (.iload 18, 2) := by decide +kernel
theorem dL_acts_489 : decode cL_acts 489 = .ok (.iload 17, 2) := by decide +kernel
theorem dL_acts_491 : decode cL_acts 491 = .ok (.iadd, 1) := by decide +kernel
theorem dL_acts_492 : decode cL_acts 492 = .ok (.if_icmp .ne 7, 3) := by decide +kernel
theorem dL_acts_495 : decode cL_acts 495 = .ok (.iconst 1, 1) := by decide +kernel
theorem dL_acts_496 : decode cL_acts 496 = .ok (.goto 4, 3) := by decide +kernel
theorem dL_acts_499 : decode cL_acts 499 = .ok (.iconst 0, 1) := by decide +kernel
theorem dL_acts_500 : decode cL_acts 500 = .ok (.ireturn, 1) := by decide +kernel
theorem dL_acts_501 : decode cL_acts 501 = .ok (.iconst 1, 1) := by decide +kernel
theorem dL_acts_502 : decode cL_acts 502 = .ok (.iload 5, 2) := by decide +kernel
theorem dL_acts_504 : decode cL_acts 504 = .ok (.iconst 5, 1) := by decide +kernel
theorem dL_acts_505 : decode cL_acts 505 = .ok (.irem, 1) := by decide +kernel
theorem dL_acts_506 : decode cL_acts 506 = .ok (.iadd, 1) := by decide +kernel
theorem dL_acts_507 : decode cL_acts 507 = .ok (.istore 19, 2) := by decide +kernel
theorem dL_acts_509 : decode cL_acts 509 = .ok (.aload_n 0, 1) := by decide +kernel
theorem dL_acts_510 : decode cL_acts 510 = .ok (.bipush 6, 2) := by decide +kernel
theorem dL_acts_512 : decode cL_acts 512 = .ok (.invokevirtual 9, 3) := by decide +kernel
theorem dL_acts_515 : decode cL_acts 515 = .ok (.istore 20, 2) := by decide +kernel
theorem dL_acts_517 : decode cL_acts 517 = .ok (.iload 19, 2) := by decide +kernel
theorem dL_acts_519 : decode cL_acts 519 = .ok (.aload_n 0, 1) := by decide +kernel
theorem dL_acts_520 : decode cL_acts 520 = .ok (.aload_n 0, 1) := by decide +kernel
theorem dL_acts_521 : decode cL_acts 521 = .ok (.iload_n 3, 1) := by decide +kernel
theorem dL_acts_522 : decode cL_acts 522 = .ok (.iconst 0, 1) := by decide +kernel
theorem dL_acts_523 : decode cL_acts 523 = .ok (.invokevirtual 15, 3) := by decide +kernel
theorem dL_acts_526 : decode cL_acts 526 = .ok (.invokevirtual 22, 3) := by decide +kernel
theorem dL_acts_529 : decode cL_acts 529 = .ok (.imul, 1) := by decide +kernel
theorem dL_acts_530 : decode cL_acts 530 = .ok (.istore 21, 2) := by decide +kernel
theorem dL_acts_532 : decode cL_acts 532 = .ok (.iload_n 2, 1) := by decide +kernel
theorem dL_acts_533 : decode cL_acts 533 = .ok (.iconst 1, 1) := by decide +kernel
theorem dL_acts_534 : decode cL_acts 534 = .ok (.iand, 1) := by decide +kernel
theorem dL_acts_535 : decode cL_acts 535 = .ok (.ifCond .ne 52, 3) := by decide +kernel
theorem dL_acts_538 : decode cL_acts 538 = .ok (.aload_n 0, 1) := by decide +kernel
theorem dL_acts_539 : decode cL_acts 539 = .ok (.iload 4, 2) := by decide +kernel
theorem dL_acts_541 : decode cL_acts 541 = .ok (.bipush 20, 2) := by decide +kernel
theorem dL_acts_543 : decode cL_acts 543 = .ok (.iload_n 3, 1) := by decide +kernel
theorem dL_acts_544 : decode cL_acts 544 = .ok (.iadd, 1) := by decide +kernel
theorem dL_acts_545 : decode cL_acts 545 = .ok (.invokevirtual 19, 3) := by decide +kernel
theorem dL_acts_548 : decode cL_acts 548 = .ok (.iload 19, 2) := by decide +kernel
theorem dL_acts_550 : decode cL_acts 550 = .ok (.if_icmp .lt 29, 3) := by decide +kernel
theorem dL_acts_553 : decode cL_acts 553 = .ok (.aload_n 0, 1) := by decide +kernel
theorem dL_acts_554 : decode cL_acts 554 = .ok (.iload 4, 2) := by decide +kernel
theorem dL_acts_556 : decode cL_acts 556 = .ok (.iload_n 3, 1) := by decide +kernel
theorem dL_acts_557 : decode cL_acts 557 = .ok (.iload 19, 2) := by decide +kernel
theorem dL_acts_559 : decode cL_acts 559 = .ok (.invokevirtual 62, 3) := by decide +kernel
theorem dL_acts_562 : decode cL_acts 562 = .ok (.iload 21, 2) := by decide +kernel
theorem dL_acts_564 : decode cL_acts 564 = .ok (.iload 20, 2) := by decide +kernel
theorem dL_acts_566 : decode cL_acts 566 = .ok (.if_icmp .ge 8, 3) := by decide +kernel
theorem dL_acts_569 : decode cL_acts 569 = .ok (.iload 21, 2) := by decide +kernel
theorem dL_acts_571 : decode cL_acts 571 = .ok (.goto 5, 3) := by decide +kernel
theorem dL_acts_574 : decode cL_acts 574 = .ok (.iload 20, 2) := by decide +kernel
theorem dL_acts_576 : decode cL_acts 576 = .ok (.if_icmp .ne 7, 3) := by decide +kernel
theorem dL_acts_579 : decode cL_acts 579 = .ok (.iconst 1, 1) := by decide +kernel
theorem dL_acts_580 : decode cL_acts 580 = .ok (.goto 39, 3) := by decide +kernel
theorem dL_acts_583 : decode cL_acts 583 = .ok (.iconst 0, 1) := by decide +kernel
theorem dL_acts_584 : decode cL_acts 584 = .ok (.goto 35, 3) := by decide +kernel
theorem dL_acts_587 : decode cL_acts 587 = .ok (.aload_n 0, 1) := by decide +kernel
theorem dL_acts_588 : decode cL_acts 588 = .ok (.iload_n 3, 1) := by decide +kernel
theorem dL_acts_589 : decode cL_acts 589 = .ok (.iconst 5, 1) := by decide +kernel
theorem dL_acts_590 : decode cL_acts 590 = .ok (.invokevirtual 15, 3) := by decide +kernel
theorem dL_acts_593 : decode cL_acts 593 = .ok (.iload 19, 2) := by decide +kernel
theorem dL_acts_595 : decode cL_acts 595 = .ok (.if_icmp .lt 19, 3) := by decide +kernel
theorem dL_acts_598 : decode cL_acts 598 = .ok (.aload_n 0, 1) := by decide +kernel
theorem dL_acts_599 : decode cL_acts 599 = .ok (.iload_n 3, 1) := by decide +kernel
theorem dL_acts_600 : decode cL_acts 600 = .ok (.iload 19, 2) := by decide +kernel
theorem dL_acts_602 : decode cL_acts 602 = .ok (.invokevirtual 65, 3) := by decide +kernel
theorem dL_acts_605 : decode cL_acts 605 = .ok (.aload_n 0, 1) := by decide +kernel
theorem dL_acts_606 : decode cL_acts 606 = .ok (.iload_n 3, 1) := by decide +kernel
theorem dL_acts_607 : decode cL_acts 607 = .ok (.iconst 5, 1) := by decide +kernel
theorem dL_acts_608 : decode cL_acts 608 = .ok (.invokevirtual 15, 3) := by decide +kernel
theorem dL_acts_611 : decode cL_acts 611 = .ok (.if_icmp .ne 7, 3) := by decide +kernel
theorem dL_acts_614 : decode cL_acts 614 = .ok (.iconst 1, 1) := by decide +kernel
theorem dL_acts_615 : decode cL_acts 615 = .ok (.goto 4, 3) := by decide +kernel
theorem dL_acts_618 : decode cL_acts 618 = .ok (.iconst 0, 1) := by decide +kernel
theorem dL_acts_619 : decode cL_acts 619 = .ok (.ireturn, 1) := by decide +kernel
theorem dL_acts_620 : decode cL_acts 620 = .ok (.iconst 0, 1) := by decide +kernel
theorem dL_acts_621 : decode cL_acts 621 = .ok (.istore 22, 2) := by decide +kernel
theorem dL_acts_623 : decode cL_acts 623 = .ok (.iconst 0, 1) := by decide +kernel
theorem dL_acts_624 : decode cL_acts 624 = .ok (.istore 23, 2) := by decide +kernel
theorem dL_acts_626 : decode cL_acts 626 = .ok (.iload 23, 2) := by decide +kernel
theorem dL_acts_628 : decode cL_acts 628 = .ok (.aload_n 0, 1) := by decide +kernel
theorem dL_acts_629 : decode cL_acts 629 = .ok (.iconst 0, 1) := by decide +kernel
theorem dL_acts_630 : decode cL_acts 630 = .ok (.invokevirtual 9, 3) := by decide +kernel
theorem dL_acts_633 : decode cL_acts 633 = .ok (.if_icmp .ge 42, 3) := by decide +kernel
theorem dL_acts_636 : decode cL_acts 636 = .ok (.iload 22, 2) := by decide +kernel
theorem dL_acts_638 : decode cL_acts 638 = .ok (.aload_n 0, 1) := by decide +kernel
theorem dL_acts_639 : decode cL_acts 639 = .ok (.iload 23, 2) := by decide +kernel
theorem dL_acts_641 : decode cL_acts 641 = .ok (.iconst 0, 1) := by decide +kernel
theorem dL_acts_642 : decode cL_acts 642 = .ok (.invokevirtual 15, 3) := by decide +kernel
theorem dL_acts_645 : decode cL_acts 645 = .ok (.aload_n 0, 1) := by decide +kernel
theorem dL_acts_646 : decode cL_acts 646 = .ok (.iload_n 3, 1) := by decide +kernel
theorem dL_acts_647 : decode cL_acts 647 = .ok (.iconst 0, 1) := by decide +kernel
theorem dL_acts_648 : decode cL_acts 648 = .ok (.invokevirtual 15, 3) := by decide +kernel
theorem dL_acts_651 : decode cL_acts 651 = .ok (.if_icmp .ne 14, 3) := by decide +kernel
theorem dL_acts_654 : decode cL_acts 654 = .ok (.aload_n 0, 1) := by decide +kernel
theorem dL_acts_655 : decode cL_acts 655 = .ok (.iload 23, 2) := by decide +kernel
theorem dL_acts_657 : decode cL_acts 657 = .ok (.bipush 6, 2) := by decide +kernel
theorem dL_acts_659 : decode cL_acts 659 = .ok (.invokevirtual 15, 3) := by decide +kernel
theorem dL_acts_662 : decode cL_acts 662 = .ok (.goto 4, 3) := by decide +kernel
theorem dL_acts_665 : decode cL_acts 665 = .ok (.iconst 0, 1) := by decide +kernel
theorem dL_acts_666 : decode cL_acts 666 = .ok (.iadd, 1) := by decide +kernel
theorem dL_acts_667 : decode cL_acts 667 = .ok (.istore 22, 2) := by decide +kernel
theorem dL_acts_669 : decode cL_acts 669 = .ok (.iinc 23 1, 3) := by decide +kernel
theorem dL_acts_672 : decode cL_acts 672 = .ok (.goto (-46), 3) := by decide +kernel
theorem dL_acts_675 : decode cL_acts 675 = .ok (.iload_n 2, 1) := by decide +kernel
theorem dL_acts_676 : decode cL_acts 676 = .ok (.bipush 10, 2) := by decide +kernel
theorem dL_acts_678 : decode cL_acts 678 = .ok (.ishr, 1) := by decide +kernel
theorem dL_acts_679 : decode cL_acts 679 = .ok (.aload_n 0, 1) := by decide +kernel
theorem dL_acts_680 : decode cL_acts 680 = .ok (.iconst 0, 1) := by decide +kernel
theorem dL_acts_681 : decode cL_acts 681 = .ok (.invokevirtual 9, 3) := by decide +kernel
theorem dL_acts_684 : decode cL_acts 684 = .ok (.irem, 1) := by decide +kernel
theorem dL_acts_685 : decode cL_acts 685 = .ok (.istore 23, 2) := by decide +kernel
theorem dL_acts_687 : decode cL_acts 687 = .ok (.iload_n 2, 1) := by decide +kernel
theorem dL_acts_688 : decode cL_acts 688 = .ok (.iconst 1, 1) := by decide +kernel
theorem dL_acts_689 : decode cL_acts 689 = .ok (.iand, 1) := by decide +kernel
theorem dL_acts_690 : decode cL_acts 690 = .ok (.ifCond .ne 36, 3) := by decide +kernel
theorem dL_acts_693 : decode cL_acts 693 = .ok (.iload 22, 2) := by decide +kernel
theorem dL_acts_695 : decode cL_acts 695 = .ok (.iload 5, 2) := by decide +kernel
theorem dL_acts_697 : decode cL_acts 697 = .ok (.if_icmp .lt 23, 3) := by decide +kernel
theorem dL_acts_700 : decode cL_acts 700 = .ok (.aload_n 0, 1) := by decide +kernel
theorem dL_acts_701 : decode cL_acts 701 = .ok (.aload_n 0, 1) := by decide +kernel
theorem dL_acts_702 : decode cL_acts 702 = .ok (.iload_n 3, 1) := by decide +kernel
theorem dL_acts_703 : decode cL_acts 703 = .ok (.iconst 0, 1) := by decide +kernel
theorem dL_acts_704 : decode cL_acts 704 = .ok (.invokevirtual 15, 3) := by decide +kernel
theorem dL_acts_707 : decode cL_acts 707 = .ok (.iload 5, 2) := by decide +kernel
theorem dL_acts_709 : decode cL_acts 709 = .ok (.invokevirtual 68, 3) := by decide +kernel
theorem dL_acts_712 : decode cL_acts 712 = .ok (.iload 22, 2) := by decide +kernel
theorem dL_acts_714 : decode cL_acts 714 = .ok (.iload 5, 2) := by decide +kernel
theorem dL_acts_716 : decode cL_acts 716 = .ok (.isub, 1) := by decide +kernel
theorem dL_acts_717 : decode cL_acts 717 = .ok (.if_icmp .ne 7, 3) := by decide +kernel
theorem dL_acts_720 : decode cL_acts 720 = .ok (.iconst 1, 1) := by decide +kernel
theorem dL_acts_721 : decode cL_acts 721 = .ok (.goto 4, 3) := by decide +kernel
theorem dL_acts_724 : decode cL_acts 724 = .ok (.iconst 0, 1) := by decide +kernel
theorem dL_acts_725 : decode cL_acts 725 = .ok (.ireturn, 1) := by decide +kernel
theorem dL_acts_726 : decode cL_acts 726 = .ok (.iload_n 3, 1) := by decide +kernel
theorem dL_acts_727 : decode cL_acts 727 = .ok (.iload 23, 2) := by decide +kernel
theorem dL_acts_729 : decode cL_acts 729 = .ok (.if_icmp .eq 42, 3) := by decide +kernel
theorem dL_acts_732 : decode cL_acts 732 = .ok (.aload_n 0, 1) := by decide +kernel
theorem dL_acts_733 : decode cL_acts 733 = .ok (.iload_n 3, 1) := by decide +kernel
theorem dL_acts_734 : decode cL_acts 734 = .ok (.iconst 0, 1) := by decide +kernel
theorem dL_acts_735 : decode cL_acts 735 = .ok (.invokevirtual 15, 3) := by decide +kernel
theorem dL_acts_738 : decode cL_acts 738 = .ok (.aload_n 0, 1) := by decide +kernel
theorem dL_acts_739 : decode cL_acts 739 = .ok (.iload 23, 2) := by decide +kernel
theorem dL_acts_741 : decode cL_acts 741 = .ok (.iconst 0, 1) := by decide +kernel
theorem dL_acts_742 : decode cL_acts 742 = .ok (.invokevirtual 15, 3) := by decide +kernel
theorem dL_acts_745 : decode cL_acts 745 = .ok (.if_icmp .ne 26, 3) := by decide +kernel
theorem dL_acts_748 : decode cL_acts 748 = .ok (.aload_n 0, 1) := by decide +kernel
theorem dL_acts_749 : decode cL_acts 749 = .ok (.iload_n 3, 1) := by decide +kernel
theorem dL_acts_750 : decode cL_acts 750 = .ok (.iconst 1, 1) := by decide +kernel
theorem dL_acts_751 : decode cL_acts 751 = .ok (.invokevirtual 15, 3) := by decide +kernel
theorem dL_acts_754 : decode cL_acts 754 = .ok (.iload 5, 2) := by decide +kernel
theorem dL_acts_756 : decode cL_acts 756 = .ok (.if_icmp .lt 15, 3) := by decide +kernel
theorem dL_acts_759 : decode cL_acts 759 = .ok (.aload_n 0, 1) := by decide +kernel
theorem dL_acts_760 : decode cL_acts 760 = .ok (.iload_n 3, 1) := by decide +kernel
theorem dL_acts_761 : decode cL_acts 761 = .ok (.iload 23, 2) := by decide +kernel
theorem dL_acts_763 : decode cL_acts 763 = .ok (.iload 5, 2) := by decide +kernel
theorem dL_acts_765 : decode cL_acts 765 = .ok (.invokestatic 71, 3) := by decide +kernel
theorem dL_acts_768 : decode cL_acts 768 = .ok (.ifCond .eq 7, 3) := by decide +kernel
theorem dL_acts_771 : decode cL_acts 771 = .ok (.iconst 1, 1) := by decide +kernel
theorem dL_acts_772 : decode cL_acts 772 = .ok (.goto 4, 3) := by decide +kernel
theorem dL_acts_775 : decode cL_acts 775 = .ok (.iconst 0, 1) := by decide +kernel
theorem dL_acts_776 : decode cL_acts 776 = .ok (.ireturn, 1) := by decide +kernel
theorem dL_law_0 : decode cL_law 0 = .ok (.new 10, 3) := by decide +kernel
theorem dL_law_3 : decode cL_law 3 = .ok (.dup, 1) := by decide +kernel
theorem dL_law_4 : decode cL_law 4 = .ok (.invokespecial 77, 3) := by decide +kernel
theorem dL_law_7 : decode cL_law 7 = .ok (.astore_n 1, 1) := by decide +kernel
theorem dL_law_8 : decode cL_law 8 = .ok (.bipush 8, 2) := by decide +kernel
theorem dL_law_10 : decode cL_law 10 = .ok (.newarray .int, 2) := by decide +kernel
theorem dL_law_12 : decode cL_law 12 = .ok (.astore_n 2, 1) := by decide +kernel
theorem dL_law_13 : decode cL_law 13 = .ok (.aload_n 0, 1) := by decide +kernel
theorem dL_law_14 : decode cL_law 14 = .ok (.iconst 0, 1) := by decide +kernel
theorem dL_law_15 : decode cL_law 15 = .ok (.invokestatic 78, 3) := by decide +kernel
theorem dL_law_18 : decode cL_law 18 = .ok (.istore_n 3, 1) := by decide +kernel
theorem dL_law_19 : decode cL_law 19 = .ok (.iconst 0, 1) := by decide +kernel
theorem dL_law_20 : decode cL_law 20 = .ok (.istore 4, 2) := by decide +kernel
theorem dL_law_22 : decode cL_law 22 = .ok (.aload_n 1, 1) := by decide +kernel
theorem dL_law_23 : decode cL_law 23 = .ok (.invokevirtual 82, 3) := by decide +kernel
theorem dL_law_26 : decode cL_law 26 = .ok (.dconst 0, 1) := by decide +kernel
theorem dL_law_27 : decode cL_law 27 = .ok (.dcmp .l, 1) := by decide +kernel
theorem dL_law_28 : decode cL_law 28 = .ok (.ifCond .ne 55, 3) := by decide +kernel
theorem dL_law_31 : decode cL_law 31 = .ok (.aload_n 1, 1) := by decide +kernel
theorem dL_law_32 : decode cL_law 32 = .ok (.iconst 0, 1) := by decide +kernel
theorem dL_law_33 : decode cL_law 33 = .ok (.invokevirtual 56, 3) := by decide +kernel
theorem dL_law_36 : decode cL_law 36 = .ok (.iconst (-1), 1) := by decide +kernel
theorem dL_law_37 : decode cL_law 37 = .ok (.if_icmp .ne 46, 3) := by decide +kernel
theorem dL_law_40 : decode cL_law 40 = .ok (.aload_n 1, 1) := by decide +kernel
theorem dL_law_41 : decode cL_law 41 = .ok (.iconst 5, 1) := by decide +kernel
theorem dL_law_42 : decode cL_law 42 = .ok (.iconst 2, 1) := by decide +kernel
theorem dL_law_43 : decode cL_law 43 = .ok (.iload_n 3, 1) := by decide +kernel
theorem dL_law_44 : decode cL_law 44 = .ok (.bipush 20, 2) := by decide +kernel
theorem dL_law_46 : decode cL_law 46 = .ok (.irem, 1) := by decide +kernel
theorem dL_law_47 : decode cL_law 47 = .ok (.iadd, 1) := by decide +kernel
theorem dL_law_48 : decode cL_law 48 = .ok (.invokevirtual 86, 3) := by decide +kernel
theorem dL_law_51 : decode cL_law 51 = .ok (.bipush 20, 2) := by decide +kernel
theorem dL_law_53 : decode cL_law 53 = .ok (.if_icmp .ne 30, 3) := by decide +kernel
theorem dL_law_56 : decode cL_law 56 = .ok (.aload_n 1, 1) := by decide +kernel
theorem dL_law_57 : decode cL_law 57 = .ok (.iconst 1, 1) := by decide +kernel
theorem dL_law_58 : decode cL_law 58 = .ok (.iload_n 3, 1) := by decide +kernel
theorem dL_law_59 : decode cL_law 59 = .ok (.iconst 5, 1) := by decide +kernel
theorem dL_law_60 : decode cL_law 60 = .ok (.ishr, 1) := by decide +kernel
theorem dL_law_61 : decode cL_law 61 = .ok (.bipush 40, 2) := by decide +kernel
theorem dL_law_63 : decode cL_law 63 = .ok (.irem, 1) := by decide +kernel
theorem dL_law_64 : decode cL_law 64 = .ok (.iadd, 1) := by decide +kernel
theorem dL_law_65 : decode cL_law 65 = .ok (.invokevirtual 89, 3) := by decide +kernel
theorem dL_law_68 : decode cL_law 68 = .ok (.iconst 1, 1) := by decide +kernel
theorem dL_law_69 : decode cL_law 69 = .ok (.iload_n 3, 1) := by decide +kernel
theorem dL_law_70 : decode cL_law 70 = .ok (.iconst 5, 1) := by decide +kernel
theorem dL_law_71 : decode cL_law 71 = .ok (.ishr, 1) := by decide +kernel
theorem dL_law_72 : decode cL_law 72 = .ok (.bipush 40, 2) := by decide +kernel
theorem dL_law_74 : decode cL_law 74 = .ok (.irem, 1) := by decide +kernel
theorem dL_law_75 : decode cL_law 75 = .ok (.iadd, 1) := by decide +kernel
theorem dL_law_76 : decode cL_law 76 = .ok (.if_icmp .ne 7, 3) := by decide +kernel
theorem dL_law_79 : decode cL_law 79 = .ok (.iconst 1, 1) := by decide +kernel
theorem dL_law_80 : decode cL_law 80 = .ok (.goto 4, 3) := by decide +kernel
theorem dL_law_83 : decode cL_law 83 = .ok (.iconst 0, 1) := by decide +kernel
theorem dL_law_84 : decode cL_law 84 = .ok (.istore 5, 2) := by decide +kernel
theorem dL_law_86 : decode cL_law 86 = .ok (.iconst 0, 1) := by decide +kernel
theorem dL_law_87 : decode cL_law 87 = .ok (.istore 6, 2) := by decide +kernel
theorem dL_law_89 : decode cL_law 89 = .ok (.iload 6, 2) := by decide +kernel
theorem dL_law_91 : decode cL_law 91 = .ok (.iconst 2, 1) := by decide +kernel
theorem dL_law_92 : decode cL_law 92 = .ok (.iload_n 3, 1) := by decide +kernel
theorem dL_law_93 : decode cL_law 93 = .ok (.bipush 10, 2) := by decide +kernel
theorem dL_law_95 : decode cL_law 95 = .ok (.ishr, 1) := by decide +kernel
theorem dL_law_96 : decode cL_law 96 = .ok (.iconst 3, 1) := by decide +kernel
theorem dL_law_97 : decode cL_law 97 = .ok (.irem, 1) := by decide +kernel
theorem dL_law_98 : decode cL_law 98 = .ok (.iadd, 1) := by decide +kernel
theorem dL_law_99 : decode cL_law 99 = .ok (.if_icmp .ge 81, 3) := by decide +kernel
theorem dL_law_102 : decode cL_law 102 = .ok (.iload 5, 2) := by decide +kernel
theorem dL_law_104 : decode cL_law 104 = .ok (.ifCond .eq 76, 3) := by decide +kernel
theorem dL_law_107 : decode cL_law 107 = .ok (.aload_n 0, 1) := by decide +kernel
theorem dL_law_108 : decode cL_law 108 = .ok (.iconst 1, 1) := by decide +kernel
theorem dL_law_109 : decode cL_law 109 = .ok (.iload 6, 2) := by decide +kernel
theorem dL_law_111 : decode cL_law 111 = .ok (.iadd, 1) := by decide +kernel
theorem dL_law_112 : decode cL_law 112 = .ok (.invokestatic 78, 3) := by decide +kernel
theorem dL_law_115 : decode cL_law 115 = .ok (.istore 7, 2) := by decide +kernel
theorem dL_law_117 : decode cL_law 117 = .ok (.aload_n 2, 1) := by decide +kernel
theorem dL_law_118 : decode cL_law 118 = .ok (.iload 6, 2) := by decide +kernel
theorem dL_law_120 : decode cL_law 120 = .ok (.bipush 60, 2) := by decide +kernel
theorem dL_law_122 : decode cL_law 122 = .ok (.iload 7, 2) := by decide +kernel
theorem dL_law_124 : decode cL_law 124 = .ok (.iconst 2, 1) := by decide +kernel
theorem dL_law_125 : decode cL_law 125 = .ok (.ishr, 1) := by decide +kernel
theorem dL_law_126 : decode cL_law 126 = .ok (.sipush 200, 3) := by decide +kernel
theorem dL_law_129 : decode cL_law 129 = .ok (.irem, 1) := by decide +kernel
theorem dL_law_130 : decode cL_law 130 = .ok (.iadd, 1) := by decide +kernel
theorem dL_law_131 : decode cL_law 131 = .ok (.iastore, 1) := by decide +kernel
theorem dL_law_132 : decode cL_law 132 = .ok (.aload_n 1, 1) := by decide +kernel
theorem dL_law_133 : decode cL_law 133 = .ok (.iload 7, 2) := by decide +kernel
theorem dL_law_135 : decode cL_law 135 = .ok (.iconst 2, 1) := by decide +kernel
theorem dL_law_136 : decode cL_law 136 = .ok (.irem, 1) := by decide +kernel
theorem dL_law_137 : decode cL_law 137 = .ok (.aload_n 2, 1) := by decide +kernel
theorem dL_law_138 : decode cL_law 138 = .ok (.iload 6, 2) := by decide +kernel
theorem dL_law_140 : decode cL_law 140 = .ok (.iaload, 1) := by decide +kernel
theorem dL_law_141 : decode cL_law 141 = .ok (.invokevirtual 92, 3) := by decide +kernel
theorem dL_law_144 : decode cL_law 144 = .ok (.iload 6, 2) := by decide +kernel
theorem dL_law_146 : decode cL_law 146 = .ok (.if_icmp .ne 25, 3) := by decide +kernel
theorem dL_law_149 : decode cL_law 149 = .ok (.aload_n 1, 1) := by decide +kernel
theorem dL_law_150 : decode cL_law 150 = .ok (.iload 6, 2) := by decide +kernel
theorem dL_law_152 : decode cL_law 152 = .ok (.bipush 50, 2) := by decide +kernel
theorem dL_law_154 : decode cL_law 154 = .ok (.invokevirtual 32, 3) := by decide +kernel
theorem dL_law_157 : decode cL_law 157 = .ok (.aload_n 1, 1) := by decide +kernel
theorem dL_law_158 : decode cL_law 158 = .ok (.iload 6, 2) := by decide +kernel
theorem dL_law_160 : decode cL_law 160 = .ok (.iconst 2, 1) := by decide +kernel
theorem dL_law_161 : decode cL_law 161 = .ok (.invokevirtual 15, 3) := by decide +kernel
theorem dL_law_164 : decode cL_law 164 = .ok (.if_icmp .ne 7, 3) := by decide +kernel
theorem dL_law_167 : decode cL_law 167 = .ok (.iconst 1, 1) := by decide +kernel
theorem dL_law_168 : decode cL_law 168 = .ok (.goto 4, 3) := by decide +kernel
theorem dL_law_171 : decode cL_law 171 = .ok (.iconst 0, 1) := by decide +kernel
theorem dL_law_172 : decode cL_law 172 = .ok (.istore 5, 2) := by decide +kernel
theorem dL_law_174 : decode cL_law 174 = .ok (.iinc 6 1, 3) := by decide +kernel
theorem dL_law_177 : decode cL_law 177 = .ok (.goto (-88), 3) := by decide +kernel
theorem dL_law_180 : decode cL_law 180 = .ok (.iconst 0, 1) := by decide +kernel
theorem dL_law_181 : decode cL_law 181 = .ok (.istore 6, 2) := by decide +kernel
theorem dL_law_183 : decode cL_law 183 = .ok (.iload 6, 2) := by decide +kernel
theorem dL_law_185 : decode cL_law 185 = .ok (.iconst 1, 1) := by decide +kernel
theorem dL_law_186 : decode cL_law 186 = .ok (.iload_n 3, 1) := by decide +kernel
theorem dL_law_187 : decode cL_law 187 = .ok (.bipush 12, 2) := by decide +kernel
theorem dL_law_189 : decode cL_law 189 = .ok (.ishr, 1) := by decide +kernel
theorem dL_law_190 : decode cL_law 190 = .ok (.iconst 3, 1) := by decide +kernel
theorem dL_law_191 : decode cL_law 191 = .ok (.irem, 1) := by decide +kernel
theorem dL_law_192 : decode cL_law 192 = .ok (.iadd, 1) := by decide +kernel
theorem dL_law_193 : decode cL_law 193 = .ok (.if_icmp .ge 66, 3) := by decide +kernel
theorem dL_law_196 : decode cL_law 196 = .ok (.iload 5, 2) := by decide +kernel
theorem dL_law_198 : decode cL_law 198 = .ok (.ifCond .eq 61, 3) := by decide +kernel
theorem dL_law_201 : decode cL_law 201 = .ok (.aload_n 0, 1) := by decide +kernel
theorem dL_law_202 : decode cL_law 202 = .ok (.bipush 6, 2) := by decide +kernel
theorem dL_law_204 : decode cL_law 204 = .ok (.iload 6, 2) := by decide +kernel
theorem dL_law_206 : decode cL_law 206 = .ok (.iadd, 1) := by decide +kernel
theorem dL_law_207 : decode cL_law 207 = .ok (.invokestatic 78, 3) := by decide +kernel
theorem dL_law_210 : decode cL_law 210 = .ok (.istore 7, 2) := by decide +kernel
theorem dL_law_212 : decode cL_law 212 = .ok (.iload 4, 2) := by decide +kernel
theorem dL_law_214 : decode cL_law 214 = .ok (.sipush 500, 3) := by decide +kernel
theorem dL_law_217 : decode cL_law 217 = .ok (.iload 7, 2) := by decide +kernel
theorem dL_law_219 : decode cL_law 219 = .ok (.sipush 3000, 3) := by decide +kernel
theorem dL_law_222 : decode cL_law 222 = .ok (.irem, 1) := by decide +kernel
theorem dL_law_223 : decode cL_law 223 = .ok (.iadd, 1) := by decide +kernel
theorem dL_law_224 : decode cL_law 224 = .ok (.iadd, 1) := by decide +kernel
theorem dL_law_225 : decode cL_law 225 = .ok (.istore 4, 2) := by decide +kernel
theorem dL_law_227 : decode cL_law 227 = .ok (.aload_n 1, 1) := by decide +kernel
theorem dL_law_228 : decode cL_law 228 = .ok (.sipush 500, 3) := by decide +kernel
theorem dL_law_231 : decode cL_law 231 = .ok (.iload 7, 2) := by decide +kernel
theorem dL_law_233 : decode cL_law 233 = .ok (.sipush 3000, 3) := by decide +kernel
theorem dL_law_236 : decode cL_law 236 = .ok (.irem, 1) := by decide +kernel
theorem dL_law_237 : decode cL_law 237 = .ok (.iadd, 1) := by decide +kernel
theorem dL_law_238 : decode cL_law 238 = .ok (.invokevirtual 95, 3) := by decide +kernel
theorem dL_law_241 : decode cL_law 241 = .ok (.iload 6, 2) := by decide +kernel
theorem dL_law_243 : decode cL_law 243 = .ok (.if_icmp .ne 7, 3) := by decide +kernel
theorem dL_law_246 : decode cL_law 246 = .ok (.iconst 1, 1) := by decide +kernel
theorem dL_law_247 : decode cL_law 247 = .ok (.goto 4, 3) := by decide +kernel
theorem dL_law_250 : decode cL_law 250 = .ok (.iconst 0, 1) := by decide +kernel
theorem dL_law_251 : decode cL_law 251 = .ok (.istore 5, 2) := by decide +kernel
theorem dL_law_253 : decode cL_law 253 = .ok (.iinc 6 1, 3) := by decide +kernel
theorem dL_law_256 : decode cL_law 256 = .ok (.goto (-73), 3) := by decide +kernel
theorem dL_law_259 : decode cL_law 259 = .ok (.iconst 0, 1) := by decide +kernel
theorem dL_law_260 : decode cL_law 260 = .ok (.istore 6, 2) := by decide +kernel
theorem dL_law_262 : decode cL_law 262 = .ok (.iload 6, 2) := by decide +kernel
theorem dL_law_264 : decode cL_law 264 = .ok (.bipush 50, 2) := by decide +kernel
theorem dL_law_266 : decode cL_law 266 = .ok (.if_icmp .ge 54, 3) := by decide +kernel
theorem dL_law_269 : decode cL_law 269 = .ok (.iload 5, 2) := by decide +kernel
theorem dL_law_271 : decode cL_law 271 = .ok (.ifCond .eq 49, 3) := by decide +kernel
theorem dL_law_274 : decode cL_law 274 = .ok (.aload_n 1, 1) := by decide +kernel
theorem dL_law_275 : decode cL_law 275 = .ok (.aload_n 0, 1) := by decide +kernel
theorem dL_law_276 : decode cL_law 276 = .ok (.bipush 10, 2) := by decide +kernel
theorem dL_law_278 : decode cL_law 278 = .ok (.iload 6, 2) := by decide +kernel
theorem dL_law_280 : decode cL_law 280 = .ok (.iadd, 1) := by decide +kernel
theorem dL_law_281 : decode cL_law 281 = .ok (.invokestatic 78, 3) := by decide +kernel
theorem dL_law_284 : decode cL_law 284 = .ok (.invokestatic 98, 3) := by decide +kernel
theorem dL_law_287 : decode cL_law 287 = .ok (.ifCond .eq 24, 3) := by decide +kernel
theorem dL_law_290 : decode cL_law 290 = .ok (.aload_n 1, 1) := by decide +kernel
theorem dL_law_291 : decode cL_law 291 = .ok (.aload_n 2, 1) := by decide +kernel
theorem dL_law_292 : decode cL_law 292 = .ok (.invokestatic 102, 3) := by decide +kernel
theorem dL_law_295 : decode cL_law 295 = .ok (.ifCond .eq 16, 3) := by decide +kernel
theorem dL_law_298 : decode cL_law 298 = .ok (.aload_n 1, 1) := by decide +kernel
theorem dL_law_299 : decode cL_law 299 = .ok (.iload 4, 2) := by decide +kernel
theorem dL_law_301 : decode cL_law 301 = .ok (.invokestatic 106, 3) := by decide +kernel
theorem dL_law_304 : decode cL_law 304 = .ok (.ifCond .eq 7, 3) := by decide +kernel
theorem dL_law_307 : decode cL_law 307 = .ok (.iconst 1, 1) := by decide +kernel
theorem dL_law_308 : decode cL_law 308 = .ok (.goto 4, 3) := by decide +kernel
theorem dL_law_311 : decode cL_law 311 = .ok (.iconst 0, 1) := by decide +kernel
theorem dL_law_312 : decode cL_law 312 = .ok (.istore 5, 2) := by decide +kernel
theorem dL_law_314 : decode cL_law 314 = .ok (.iinc 6 1, 3) := by decide +kernel
theorem dL_law_317 : decode cL_law 317 = .ok (.goto (-55), 3) := by decide +kernel
theorem dL_law_320 : decode cL_law 320 = .ok (.aload_n 1, 1) := by decide +kernel
theorem dL_law_321 : decode cL_law 321 = .ok (.iconst 4, 1) := by decide +kernel
theorem dL_law_322 : decode cL_law 322 = .ok (.invokevirtual 9, 3) := by decide +kernel
theorem dL_law_325 : decode cL_law 325 = .ok (.istore 6, 2) := by decide +kernel
theorem dL_law_327 : decode cL_law 327 = .ok (.aload_n 1, 1) := by decide +kernel
theorem dL_law_328 : decode cL_law 328 = .ok (.bipush 6, 2) := by decide +kernel
theorem dL_law_330 : decode cL_law 330 = .ok (.invokevirtual 9, 3) := by decide +kernel
theorem dL_law_333 : decode cL_law 333 = .ok (.istore 7, 2) := by decide +kernel
theorem dL_law_335 : decode cL_law 335 = .ok (.iload 5, 2) := by decide +kernel
theorem dL_law_337 : decode cL_law 337 = .ok (.ifCond .eq 76, 3) := by decide +kernel
theorem dL_law_340 : decode cL_law 340 = .ok (.aload_n 1, 1) := by decide +kernel
theorem dL_law_341 : decode cL_law 341 = .ok (.iconst 4, 1) := by decide +kernel
theorem dL_law_342 : decode cL_law 342 = .ok (.iconst 3, 1) := by decide +kernel
theorem dL_law_343 : decode cL_law 343 = .ok (.invokevirtual 86, 3) := by decide +kernel
theorem dL_law_346 : decode cL_law 346 = .ok (.ifCond .lt 67, 3) := by decide +kernel
theorem dL_law_349 : decode cL_law 349 = .ok (.aload_n 1, 1) := by decide +kernel
theorem dL_law_350 : decode cL_law 350 = .ok (.iconst 1, 1) := by decide +kernel
theorem dL_law_351 : decode cL_law 351 = .ok (.invokevirtual 89, 3) := by decide +kernel
theorem dL_law_354 : decode cL_law 354 = .ok (.ifCond .le 59, 3) := by decide +kernel
theorem dL_law_357 : decode cL_law 357 = .ok (.aload_n 1, 1) := by decide +kernel
theorem dL_law_358 : decode cL_law 358 = .ok (.invokevirtual 109, 3) := by decide +kernel
theorem dL_law_361 : decode cL_law 361 = .ok (.ifCond .le 52, 3) := by decide +kernel
theorem dL_law_364 : decode cL_law 364 = .ok (.aload_n 1, 1) := by decide +kernel
theorem dL_law_365 : decode cL_law 365 = .ok (.invokevirtual 109, 3) := by decide +kernel
theorem dL_law_368 : decode cL_law 368 = .ok (.ifCond .le 45, 3) := by decide +kernel
theorem dL_law_371 : decode cL_law 371 = .ok (.aload_n 1, 1) := by decide +kernel
theorem dL_law_372 : decode cL_law 372 = .ok (.iconst 4, 1) := by decide +kernel
theorem dL_law_373 : decode cL_law 373 = .ok (.invokevirtual 9, 3) := by decide +kernel
theorem dL_law_376 : decode cL_law 376 = .ok (.iload 6, 2) := by decide +kernel
theorem dL_law_378 : decode cL_law 378 = .ok (.if_icmp .ne 35, 3) := by decide +kernel
theorem dL_law_381 : decode cL_law 381 = .ok (.aload_n 1, 1) := by decide +kernel
theorem dL_law_382 : decode cL_law 382 = .ok (.bipush 6, 2) := by decide +kernel
theorem dL_law_384 : decode cL_law 384 = .ok (.invokevirtual 9, 3) := by decide +kernel
theorem dL_law_387 : decode cL_law 387 = .ok (.iload 7, 2) := by decide +kernel
theorem dL_law_389 : decode cL_law 389 = .ok (.if_icmp .ne 24, 3) := by decide +kernel
theorem dL_law_392 : decode cL_law 392 = .ok (.aload_n 1, 1) := by decide +kernel
theorem dL_law_393 : decode cL_law 393 = .ok (.aload_n 2, 1) := by decide +kernel
theorem dL_law_394 : decode cL_law 394 = .ok (.invokestatic 102, 3) := by decide +kernel
theorem dL_law_397 : decode cL_law 397 = .ok (.ifCond .eq 16, 3) := by decide +kernel
theorem dL_law_400 : decode cL_law 400 = .ok (.aload_n 1, 1) := by decide +kernel
theorem dL_law_401 : decode cL_law 401 = .ok (.iload 4, 2) := by decide +kernel
theorem dL_law_403 : decode cL_law 403 = .ok (.invokestatic 106, 3) := by decide +kernel
theorem dL_law_406 : decode cL_law 406 = .ok (.ifCond .eq 7, 3) := by decide +kernel
theorem dL_law_409 : decode cL_law 409 = .ok (.iconst 1, 1) := by decide +kernel
theorem dL_law_410 : decode cL_law 410 = .ok (.goto 4, 3) := by decide +kernel
theorem dL_law_413 : decode cL_law 413 = .ok (.iconst 0, 1) := by decide +kernel
theorem dL_law_414 : decode cL_law 414 = .ok (.ireturn, 1) := by decide +kernel
abbrev vwCl : List vw_C := [(RX0, TX0, 5), (RX1, TX1, 3), (RX2, TX2, 1), (RX3, TX3, 3), (RX4, TX4, 2), (RX5, TX5, 5)]
end
section
-- BASE: rows of numbers, the two worlds, the nest's words, calls and ends (own text)
abbrev bU : Type := Nat → Nat → Int32
def bs (u : bU) (k : Nat) (h : Nat → Int32) : bU := fun j => if j = k then h else u j
theorem bs_eq (u : bU) (k : Nat) (h : Nat → Int32) : bs u k h k = h := if_pos rfl
theorem bs_ne (u : bU) {k j : Nat} (h : Nat → Int32) (n : j ≠ k) : bs u k h j = u j := if_neg n
theorem bs_bs (u : bU) (k : Nat) (h g : Nat → Int32) : bs (bs u k h) k g = bs u k g := by
  funext j
  by_cases e : j = k
  · simp [bs, e]
  · simp [bs, e]
theorem bs_self (u : bU) (k : Nat) : bs u k (u k) = u := by
  funext j
  by_cases e : j = k
  · subst e; simp [bs]
  · simp [bs, e]
/-- the class's cells: component 0 now's numbers, 1 left, 2 the codes, 3 to 8 the saved states, 9 the text's order, 10 the order, 11: latest, kept, length -/
def wC (cI cO : ClassId) (q : Nat → Nat) (u : bU) : va_W := [
  (q 0, .inr (5, [.ref (q 3), .ref (q 5), .ref (q 1), .ref (q 19), .ref (q 22)])),
  (q 1, .inr (4, [.ref (q 3), .ref (q 2)])),
  (q 2, .inl (cI, 8, .inl (u 1))),
  (q 3, .inr (2, [.ref (q 4)])),
  (q 4, .inl (cI, 345, .inl (u 0))),
  (q 5, .inr (1, [.ref (q 6), .int (u 11 0), .int (u 11 1)])),
  (q 6, .inl (cO, 6, .inr (.inr (.inr (.inr (fun i => some (q (7 + i)))))))),
  (q 7, .inr (2, [.ref (q 13)])),
  (q 8, .inr (2, [.ref (q 14)])),
  (q 9, .inr (2, [.ref (q 15)])),
  (q 10, .inr (2, [.ref (q 16)])),
  (q 11, .inr (2, [.ref (q 17)])),
  (q 12, .inr (2, [.ref (q 18)])),
  (q 13, .inl (cI, 345, .inl (u 3))),
  (q 14, .inl (cI, 345, .inl (u 4))),
  (q 15, .inl (cI, 345, .inl (u 5))),
  (q 16, .inl (cI, 345, .inl (u 6))),
  (q 17, .inl (cI, 345, .inl (u 7))),
  (q 18, .inl (cI, 345, .inl (u 8))),
  (q 19, .inr (3, [.ref (q 20), .ref (q 21), .int (u 11 2)])),
  (q 20, .inl (cI, 60, .inl (u 2))),
  (q 21, .inr (0, [.int (u 9 0), .int (u 9 1), .int (u 9 2), .int (u 9 3), .int (u 9 4)])),
  (q 22, .inr (0, [.int (u 10 0), .int (u 10 1), .int (u 10 2), .int (u 10 3), .int (u 10 4)]))]
/-- the reference's cells: component 0 v, 1 spare, 2 saved, 3 text, 4 lows, 5 highs, 6: saves, length, thrown, place, isWhole, letter, one, other, number, digit -/
def wM (cI : ClassId) (q : Nat → Nat) (u : bU) : va_W := [
  (q 0, .inr (6, [.ref (q 1), .ref (q 2), .ref (q 3), .int (u 6 0), .ref (q 4), .int (u 6 1), .int (u 6 2), .ref (q 5), .ref (q 6), .int (u 6 3), .int (u 6 4), .int (u 6 5), .int (u 6 6), .int (u 6 7), .int (u 6 8), .int (u 6 9)])),
  (q 1, .inl (cI, 283, .inl (u 0))),
  (q 2, .inl (cI, 283, .inl (u 1))),
  (q 3, .inl (cI, 1698, .inl (u 2))),
  (q 4, .inl (cI, 60, .inl (u 3))),
  (q 5, .inl (cI, 6, .inl (u 4))),
  (q 6, .inl (cI, 6, .inl (u 5)))]
def bA (n : Nat) (q : Nat → Nat) (sz : Nat) : Nat → Prop := fun a => (∃ k, k < n ∧ q k = a) ∨ sz ≤ a
theorem bA_mono {n : Nat} {q : Nat → Nat} {a b : Nat} (h : a ≤ b) : ∀ x, bA n q b x → bA n q a x := fun x hx => by
  rcases hx with hx | hx
  · exact Or.inl hx
  · exact Or.inr (Nat.le_trans h hx)
def bInj (n : Nat) (q : Nat → Nat) : Prop := ∀ i j, i < n → j < n → q i = q j → i = j
theorem wC_addr (cI cO : ClassId) (q : Nat → Nat) (u : bU) : (wC cI cO q u).map Prod.fst = (List.range 23).map q := rfl
theorem wM_addr (cI : ClassId) (q : Nat → Nat) (u : bU) : (wM cI q u).map Prod.fst = (List.range 7).map q := rfl
theorem bD_of {n : Nat} {q : Nat → Nat} {sz : Nat} {ws : va_W} (h : ws.map Prod.fst = (List.range n).map q) (hq : bInj n q) : va_D (bA n q sz) ws := by
  have key : ∀ (i : Nat) (p : Nat × va_E), ws[i]? = some p → i < n ∧ q i = p.1 := by
    intro i p hp
    have h1 : (ws.map Prod.fst)[i]? = some p.1 := by rw [List.getElem?_map, hp]; rfl
    rw [h, List.getElem?_map] at h1
    rcases Nat.lt_or_ge i n with hi | hi
    · rw [List.getElem?_range hi] at h1
      exact ⟨hi, Option.some.inj h1⟩
    · rw [List.getElem?_eq_none (by simpa using hi)] at h1
      cases h1
  refine ⟨fun i j p p2 hi hj hij => ?_, fun k p hk => ?_⟩
  · obtain ⟨a1, a2⟩ := key i p hi
    obtain ⟨b1, b2⟩ := key j p2 hj
    exact hq i j a1 b1 (by rw [a2, b2, hij])
  · obtain ⟨a1, a2⟩ := key k p hk
    exact Or.inl ⟨k, a1, a2⟩
theorem wC_D {cI cO : ClassId} {q : Nat → Nat} {u : bU} {sz : Nat} (hq : bInj 23 q) : va_D (bA 23 q sz) (wC cI cO q u) := bD_of (wC_addr cI cO q u) hq
theorem wM_D {cI : ClassId} {q : Nat → Nat} {u : bU} {sz : Nat} (hq : bInj 7 q) : va_D (bA 7 q sz) (wM cI q u) := bD_of (wM_addr cI q u) hq
theorem wC_0 (cI cO : ClassId) (q : Nat → Nat) (u : bU) : (wC cI cO q u)[0]? = some (q 0, .inr (5, [.ref (q 3), .ref (q 5), .ref (q 1), .ref (q 19), .ref (q 22)])) := rfl
theorem wC_1 (cI cO : ClassId) (q : Nat → Nat) (u : bU) : (wC cI cO q u)[1]? = some (q 1, .inr (4, [.ref (q 3), .ref (q 2)])) := rfl
theorem wC_2 (cI cO : ClassId) (q : Nat → Nat) (u : bU) : (wC cI cO q u)[2]? = some (q 2, .inl (cI, 8, .inl (u 1))) := rfl
theorem wC_3 (cI cO : ClassId) (q : Nat → Nat) (u : bU) : (wC cI cO q u)[3]? = some (q 3, .inr (2, [.ref (q 4)])) := rfl
theorem wC_4 (cI cO : ClassId) (q : Nat → Nat) (u : bU) : (wC cI cO q u)[4]? = some (q 4, .inl (cI, 345, .inl (u 0))) := rfl
theorem wC_5 (cI cO : ClassId) (q : Nat → Nat) (u : bU) : (wC cI cO q u)[5]? = some (q 5, .inr (1, [.ref (q 6), .int (u 11 0), .int (u 11 1)])) := rfl
theorem wC_6 (cI cO : ClassId) (q : Nat → Nat) (u : bU) : (wC cI cO q u)[6]? = some (q 6, .inl (cO, 6, .inr (.inr (.inr (.inr (fun i : Nat => some (q (7 + i)))))))) := rfl
theorem wC_7 (cI cO : ClassId) (q : Nat → Nat) (u : bU) : (wC cI cO q u)[7]? = some (q 7, .inr (2, [.ref (q 13)])) := rfl
theorem wC_8 (cI cO : ClassId) (q : Nat → Nat) (u : bU) : (wC cI cO q u)[8]? = some (q 8, .inr (2, [.ref (q 14)])) := rfl
theorem wC_9 (cI cO : ClassId) (q : Nat → Nat) (u : bU) : (wC cI cO q u)[9]? = some (q 9, .inr (2, [.ref (q 15)])) := rfl
theorem wC_10 (cI cO : ClassId) (q : Nat → Nat) (u : bU) : (wC cI cO q u)[10]? = some (q 10, .inr (2, [.ref (q 16)])) := rfl
theorem wC_11 (cI cO : ClassId) (q : Nat → Nat) (u : bU) : (wC cI cO q u)[11]? = some (q 11, .inr (2, [.ref (q 17)])) := rfl
theorem wC_12 (cI cO : ClassId) (q : Nat → Nat) (u : bU) : (wC cI cO q u)[12]? = some (q 12, .inr (2, [.ref (q 18)])) := rfl
theorem wC_13 (cI cO : ClassId) (q : Nat → Nat) (u : bU) : (wC cI cO q u)[13]? = some (q 13, .inl (cI, 345, .inl (u 3))) := rfl
theorem wC_14 (cI cO : ClassId) (q : Nat → Nat) (u : bU) : (wC cI cO q u)[14]? = some (q 14, .inl (cI, 345, .inl (u 4))) := rfl
theorem wC_15 (cI cO : ClassId) (q : Nat → Nat) (u : bU) : (wC cI cO q u)[15]? = some (q 15, .inl (cI, 345, .inl (u 5))) := rfl
theorem wC_16 (cI cO : ClassId) (q : Nat → Nat) (u : bU) : (wC cI cO q u)[16]? = some (q 16, .inl (cI, 345, .inl (u 6))) := rfl
theorem wC_17 (cI cO : ClassId) (q : Nat → Nat) (u : bU) : (wC cI cO q u)[17]? = some (q 17, .inl (cI, 345, .inl (u 7))) := rfl
theorem wC_18 (cI cO : ClassId) (q : Nat → Nat) (u : bU) : (wC cI cO q u)[18]? = some (q 18, .inl (cI, 345, .inl (u 8))) := rfl
theorem wC_19 (cI cO : ClassId) (q : Nat → Nat) (u : bU) : (wC cI cO q u)[19]? = some (q 19, .inr (3, [.ref (q 20), .ref (q 21), .int (u 11 2)])) := rfl
theorem wC_20 (cI cO : ClassId) (q : Nat → Nat) (u : bU) : (wC cI cO q u)[20]? = some (q 20, .inl (cI, 60, .inl (u 2))) := rfl
theorem wC_21 (cI cO : ClassId) (q : Nat → Nat) (u : bU) : (wC cI cO q u)[21]? = some (q 21, .inr (0, [.int (u 9 0), .int (u 9 1), .int (u 9 2), .int (u 9 3), .int (u 9 4)])) := rfl
theorem wC_22 (cI cO : ClassId) (q : Nat → Nat) (u : bU) : (wC cI cO q u)[22]? = some (q 22, .inr (0, [.int (u 10 0), .int (u 10 1), .int (u 10 2), .int (u 10 3), .int (u 10 4)])) := rfl
theorem wM_0 (cI : ClassId) (q : Nat → Nat) (u : bU) : (wM cI q u)[0]? = some (q 0, .inr (6, [.ref (q 1), .ref (q 2), .ref (q 3), .int (u 6 0), .ref (q 4), .int (u 6 1), .int (u 6 2), .ref (q 5), .ref (q 6), .int (u 6 3), .int (u 6 4), .int (u 6 5), .int (u 6 6), .int (u 6 7), .int (u 6 8), .int (u 6 9)])) := rfl
theorem wM_1 (cI : ClassId) (q : Nat → Nat) (u : bU) : (wM cI q u)[1]? = some (q 1, .inl (cI, 283, .inl (u 0))) := rfl
theorem wM_2 (cI : ClassId) (q : Nat → Nat) (u : bU) : (wM cI q u)[2]? = some (q 2, .inl (cI, 283, .inl (u 1))) := rfl
theorem wM_3 (cI : ClassId) (q : Nat → Nat) (u : bU) : (wM cI q u)[3]? = some (q 3, .inl (cI, 1698, .inl (u 2))) := rfl
theorem wM_4 (cI : ClassId) (q : Nat → Nat) (u : bU) : (wM cI q u)[4]? = some (q 4, .inl (cI, 60, .inl (u 3))) := rfl
theorem wM_5 (cI : ClassId) (q : Nat → Nat) (u : bU) : (wM cI q u)[5]? = some (q 5, .inl (cI, 6, .inl (u 4))) := rfl
theorem wM_6 (cI : ClassId) (q : Nat → Nat) (u : bU) : (wM cI q u)[6]? = some (q 6, .inl (cI, 6, .inl (u 5))) := rfl

def bNest : List Cond := [.methodLinkNest RX5 11 yX4_init RX5,
  .methodLinkNest RX4 11 yX2_init RX5,
  .methodLinkNest RX2 18 yX5_entry RX5,
  .methodLinkNest RX5 25 yX1_init RX5,
  .methodLinkNest RX1 15 yX2_init RX5,
  .methodLinkNest RX5 32 yX3_init RX5,
  .methodLinkNest RX3 15 yX0_init RX5,
  .methodLinkNest RX5 39 yX0_init RX5,
  .methodLinkNest RX5 52 yX2_ofAll RX5,
  .methodLinkNest RX5 62 yX1_keep RX5,
  .methodLinkNest RX1 27 yX2_copyFrom RX5,
  .methodLinkNest RX5 66 yX2_addToAll RX5,
  .methodLinkNest RX5 70 yX2_addToBrand RX5,
  .methodLinkNest RX5 74 yX2_addToShop RX5,
  .methodLinkNest RX5 77 yX2_countNumber RX5,
  .methodLinkNest RX5 94 yX2_ofSetting RX5,
  .methodLinkNest RX5 97 yX2_putSetting RX5,
  .methodLinkNest RX5 103 yX2_ofBrand RX5,
  .methodLinkNest RX5 107 yX4_fillBottles RX5,
  .methodLinkNest RX4 26 yX2_ofSetting RX5,
  .methodLinkNest RX4 22 yX2_ofBrand RX5,
  .methodLinkNest RX4 54 yX2_addToBrand RX5,
  .methodLinkNest RX5 179 yX1_kept RX5,
  .methodLinkNest RX5 182 yX1_giveBack RX5,
  .methodLinkNest RX5 185 yX2_brandNumber RX5,
  .methodLinkNest RX5 204 yX4_bestToCollect RX5,
  .methodLinkNest RX4 36 yX2_ofShop RX5,
  .methodLinkNest RX5 207 yX2_brandSum RX5,
  .methodLinkNest RX5 192 yX2_shopNumber RX5,
  .methodLinkNest RX5 201 yX4_wornBy RX5,
  .methodLinkNest RX5 113 yX4_deliverReason RX5,
  .methodLinkNest RX4 33 yX2_ofAll RX5,
  .methodLinkNest RX5 195 yX4_mostDeliverable RX5,
  .methodLinkNest RX5 117 yX4_deliverCrates RX5,
  .methodLinkNest RX4 58 yX2_addToShop RX5,
  .methodLinkNest RX4 61 yX2_addToAll RX5,
  .methodLinkNest RX5 120 yX4_sellReason RX5,
  .methodLinkNest RX5 123 yX4_sellBottles RX5,
  .methodLinkNest RX5 126 yX4_returnReason RX5,
  .methodLinkNest RX5 129 yX4_returnBottles RX5,
  .methodLinkNest RX5 198 yX4_wouldCollect RX5,
  .methodLinkNest RX4 88 yX5_entry RX5,
  .methodLinkNest RX5 141 yX4_collectReason RX5,
  .methodLinkNest RX5 144 yX4_collectCrates RX5,
  .methodLinkNest RX5 132 yX4_breakReason RX5,
  .methodLinkNest RX5 135 yX4_breakBottles RX5,
  .methodLinkNest RX5 138 yX4_loseBottles RX5,
  .methodLinkNest RX5 147 yX4_yardOf RX5,
  .methodLinkNest RX5 150 yX4_sortBottles RX5,
  .methodLinkNest RX5 156 yX4_swapBottles RX5,
  .methodLinkNest RX4 79 yX2_addToSwaps RX5,
  .methodLinkNest RX4 82 yX2_ofSwaps RX5,
  .fieldLinkNest RX2 15 "BottleLoop" "FIRST_SETTING" "[I" RX5,
  .fieldLinkNest RX5 16 "BottleLoop$Trade" "state" "LBottleLoop$State;" RX5,
  .castable "java/lang/IndexOutOfBoundsException" "java/lang/IndexOutOfBoundsException",
  .castable "java/lang/IllegalArgumentException" "java/lang/IllegalArgumentException",
  .castable "java/lang/IllegalStateException" "java/lang/IllegalStateException",
  .declares ⟨"java/lang/RuntimeException", "<init>", "(Ljava/lang/String;)V"⟩,
  .declares ⟨"java/lang/Exception", "<init>", "(Ljava/lang/String;)V"⟩,
  .declares ⟨"java/lang/Throwable", "<init>", "(Ljava/lang/String;)V"⟩]
def bIsN (w : Cond) : Bool := match w with
  | .methodLinkNest .. => true
  | .fieldLinkNest .. => true
  | .castable .. => true
  | .declares .. => true
  | _ => false
theorem bIsN_ok : bNest.all bIsN = true := by decide +kernel
theorem bNw_warm {w : Cond} (h : bIsN w = true) {s U : State} (hW : s.WarmedH U.vm) (hz : va_Nw w s) : va_Nw w U := by
  cases w <;> first | (simp [bIsN] at h; done) | exact va_Nw.warmM hW hz | exact va_Nw.warmF hW hz | exact va_Nw.warmC hW hz | exact va_Nw.warmD hW hz
theorem bNw_on {w : Cond} (h : bIsN w = true) : w.onTables = true := by
  cases w <;> first | (simp [bIsN] at h; done) | rfl
def bK (D : va_G) (tys : List (ClassId × FieldType)) (U : State) : Prop := va_K D vwCl tys U ∧ ∀ w ∈ bNest, va_Nw w U
theorem bK.warm {D : va_G} {tys : List (ClassId × FieldType)} {s U : State} (h : bK D tys s) (hW : s.WarmedH U.vm) : bK D tys U := ⟨va_K.moved hW.alike h.1, fun w hw => bNw_warm (List.all_eq_true.mp bIsN_ok w hw) hW (h.2 w hw)⟩
theorem bK.calling {D : va_G} {tys : List (ClassId × FieldType)} {U : State} {g : JFrame} {mk : MethodId} {a : Array Value} (h : bK D tys U) : bK D tys (U.calling g mk a) := ⟨va_K.moved (u := U) (U := U.calling g mk a) (Vm.Alike.refl U.vm) h.1, fun w hw => va_Nw.same (u := U) (U := U.calling g mk a) (bNw_on (List.all_eq_true.mp bIsN_ok w hw)) rfl (h.2 w hw)⟩
/-- a method's start: a heap that is given, the tables -/
abbrev bP (D : va_G) (tys : List (ClassId × FieldType)) (H0 : Heap) (av : List Value) : Array Value → State → Prop := va_Pc av (fun U => U.heap = H0 ∧ bK D tys U)
theorem bPV {s : State} {H : Heap} {C : String} {b : Addr} {As : List Value} {D : va_G} {tys : List (ClassId × FieldType)} (hk : bK D tys s) (hc : ∃ cell : Cell, H[b]? = some cell ∧ cell.vm.isStatics = false ∧ s.vm.findClass C = some cell.cls) : PreV s H C b (bP D tys H (.ref b :: As)) As :=
  ⟨fun a U g mk q => ⟨q.1, q.2.1, q.2.2.calling⟩, hc, fun U hU hW => ⟨rfl, hU, hk.warm hW⟩⟩
theorem bPS {s : State} {H : Heap} {As : List Value} {D : va_G} {tys : List (ClassId × FieldType)} (hk : bK D tys s) : PreS s H (bP D tys H As) As :=
  ⟨fun a U g mk q => ⟨q.1, q.2.1, q.2.2.calling⟩, fun U hU hW => ⟨rfl, hU, hk.warm hW⟩⟩
/-- reads: the answer is v, the heap stays -/
abbrev bRi (H0 : Heap) (v : Int32) : Array Value → State → Outcome → State → Prop := va_Qi (fun (r : Int32) (_ : Unit) => r = v) (fun _ t => t.heap = H0) (fun _ => False)
abbrev bRl (H0 : Heap) (v : Int64) : Array Value → State → Outcome → State → Prop := va_Ql (fun (r : Int64) (_ : Unit) => r = v) (fun _ t => t.heap = H0) (fun _ => False)
abbrev bRd (H0 : Heap) (v : UInt64) : Array Value → State → Outcome → State → Prop := va_Qd (fun (r : UInt64) (_ : Unit) => r = v) (fun _ t => t.heap = H0) (fun _ => False)
/-- writes: the answer and the state behind it -/
abbrev bWi (D : va_G) (WD : bU → va_W) (I : bU → Prop) (A : Nat → Prop) (v : Int32 × bU) : Array Value → State → Outcome → State → Prop := va_Qi (fun (r : Int32) (u : bU) => (r, u) = v) (fun u t => va_P D vwCl (WD u) t.heap ∧ I u) A
abbrev bWd (D : va_G) (WD : bU → va_W) (I : bU → Prop) (A : Nat → Prop) (v : UInt64 × bU) : Array Value → State → Outcome → State → Prop := va_Qd (fun (r : UInt64) (u : bU) => (r, u) = v) (fun u t => va_P D vwCl (WD u) t.heap ∧ I u) A
abbrev bWl (D : va_G) (WD : bU → va_W) (I : bU → Prop) (A : Nat → Prop) (v : Int64 × bU) : Array Value → State → Outcome → State → Prop := va_Ql (fun (r : Int64) (u : bU) => (r, u) = v) (fun u t => va_P D vwCl (WD u) t.heap ∧ I u) A
abbrev bWv (D : va_G) (WD : bU → va_W) (I : bU → Prop) (A : Nat → Prop) (v : bU) : Array Value → State → Outcome → State → Prop := va_Qv (fun (u : bU) => u = v) (fun u t => va_P D vwCl (WD u) t.heap ∧ I u) A
/-- nothing more is said of the class's state -/
def bT (_ : bU) : Prop := True
section BCALL
variable {p : Program} {l : Launch} {e : Env} {R : Room} {s : State} {m : MethodId} {args : Array Value} {below : List Frame} {meth : Method} {c : Code} {H : Heap} {locs : List Loc} {cells slots : Nat} {Q : State → Prop}
variable {pc : Nat} {ls : Array Slot} {rest st0 : List Value} {a : Array Value} {A0 : Nat → Prop} {H0 : Heap}
theorem bcall_Ri {v : Int32} (hr : va_Run p l e R s m args below meth c H locs cells slots 0 0 (F0 m pc ls st0) rest (bRi H v a) (fun _ => False)) (hS : va_S A0 H0 H locs)
    (kk : ∀ locs1 : List Loc, va_S A0 H0 H locs1 → W p l e R s m args below meth c H locs1 cells slots Q (F0 m (pc + 3) ls (.int v :: rest))) : W p l e R s m args below meth c H locs cells slots Q (F0 m pc ls st0) :=
  va_calli hr hS (fun _ _ h => h.elim) (fun _ h => h.elim) (fun r u t H1 locs1 ht _ hw hB _ _ hS1 => by
    have e : H1 = H := ht.symm.trans hB
    subst e; subst hw
    exact kk locs1 hS1)
theorem bcall_Rl {v : Int64} (hr : va_Run p l e R s m args below meth c H locs cells slots 0 0 (F0 m pc ls st0) rest (bRl H v a) (fun _ => False)) (hS : va_S A0 H0 H locs)
    (kk : ∀ locs1 : List Loc, va_S A0 H0 H locs1 → W p l e R s m args below meth c H locs1 cells slots Q (F0 m (pc + 3) ls (.long v :: rest))) : W p l e R s m args below meth c H locs cells slots Q (F0 m pc ls st0) :=
  va_calll hr hS (fun _ _ h => h.elim) (fun _ h => h.elim) (fun r u t H1 locs1 ht _ hw hB _ _ hS1 => by
    have e : H1 = H := ht.symm.trans hB
    subst e; subst hw
    exact kk locs1 hS1)
theorem bcall_Rd {v : UInt64} (hr : va_Run p l e R s m args below meth c H locs cells slots 0 0 (F0 m pc ls st0) rest (bRd H v a) (fun _ => False)) (hS : va_S A0 H0 H locs)
    (kk : ∀ locs1 : List Loc, va_S A0 H0 H locs1 → W p l e R s m args below meth c H locs1 cells slots Q (F0 m (pc + 3) ls (.double v :: rest))) : W p l e R s m args below meth c H locs cells slots Q (F0 m pc ls st0) :=
  va_calld hr hS (fun _ _ h => h.elim) (fun _ h => h.elim) (fun r u t H1 locs1 ht _ hw hB _ _ hS1 => by
    have e : H1 = H := ht.symm.trans hB
    subst e; subst hw
    exact kk locs1 hS1)
theorem bcall_Wi {D : va_G} {WD : bU → va_W} {I : bU → Prop} {n : Nat} {q : Nat → Nat} {v : Int32 × bU} (hr : va_Run p l e R s m args below meth c H locs cells slots 0 0 (F0 m pc ls st0) rest (bWi D WD I (bA n q H.size) v a) (bA n q H.size)) (hS : va_S (bA n q H0.size) H0 H locs)
    (kk : ∀ (H1 : Heap) (locs1 : List Loc), va_P D vwCl (WD v.2) H1 → I v.2 → va_S (bA n q H0.size) H0 H1 locs1 → W p l e R s m args below meth c H1 locs1 cells slots Q (F0 m (pc + 3) ls (.int v.1 :: rest))) : W p l e R s m args below meth c H locs cells slots Q (F0 m pc ls st0) :=
  va_calli hr hS (fun x _ h => bA_mono hS.1 x h) (fun x h => bA_mono hS.1 x h) (fun r u t H1 locs1 ht _ hw hB _ _ hS1 => by
    subst hw; subst ht
    exact kk _ locs1 hB.1 hB.2 hS1)
theorem bcall_Wl {D : va_G} {WD : bU → va_W} {I : bU → Prop} {n : Nat} {q : Nat → Nat} {v : Int64 × bU} (hr : va_Run p l e R s m args below meth c H locs cells slots 0 0 (F0 m pc ls st0) rest (bWl D WD I (bA n q H.size) v a) (bA n q H.size)) (hS : va_S (bA n q H0.size) H0 H locs)
    (kk : ∀ (H1 : Heap) (locs1 : List Loc), va_P D vwCl (WD v.2) H1 → I v.2 → va_S (bA n q H0.size) H0 H1 locs1 → W p l e R s m args below meth c H1 locs1 cells slots Q (F0 m (pc + 3) ls (.long v.1 :: rest))) : W p l e R s m args below meth c H locs cells slots Q (F0 m pc ls st0) :=
  va_calll hr hS (fun x _ h => bA_mono hS.1 x h) (fun x h => bA_mono hS.1 x h) (fun r u t H1 locs1 ht _ hw hB _ _ hS1 => by
    subst hw; subst ht
    exact kk _ locs1 hB.1 hB.2 hS1)
theorem bcall_Wv {D : va_G} {WD : bU → va_W} {I : bU → Prop} {n : Nat} {q : Nat → Nat} {v : bU} (hr : va_Run p l e R s m args below meth c H locs cells slots 0 0 (F0 m pc ls st0) rest (bWv D WD I (bA n q H.size) v a) (bA n q H.size)) (hS : va_S (bA n q H0.size) H0 H locs)
    (kk : ∀ (H1 : Heap) (locs1 : List Loc), va_P D vwCl (WD v) H1 → I v → va_S (bA n q H0.size) H0 H1 locs1 → W p l e R s m args below meth c H1 locs1 cells slots Q (F0 m (pc + 3) ls rest)) : W p l e R s m args below meth c H locs cells slots Q (F0 m pc ls st0) :=
  va_callv hr hS (fun x _ h => bA_mono hS.1 x h) (fun x h => bA_mono hS.1 x h) (fun u t H1 locs1 ht _ hw hB _ _ hS1 => by
    subst hw; subst ht
    exact kk _ locs1 hB.1 hB.2 hS1)
variable {cc : ByteArray}
theorem bret_Ri {v tgt : Int32} (hx : p.tables.exec = Jvm.exec) (hb : c.code = cc) (hr : meth.sig.returnType = some .int) (hS : va_S (fun _ => False) s.heap s.heap locs) (hlocks : meth.locks = false) (hdg : decode cc pc = .ok (.ireturn, 1)) (hv : v = tgt) : W p l e R s m args below meth c s.heap locs 0 0 (MQ below (bRi s.heap tgt) args s 0 0 (fun _ => False)) (F0 m pc ls [.int v]) :=
  W.iret hx hb hr (fun t ht _ => ⟨⟨v, (), rfl, hv, ht⟩, va_S.F hS ht⟩) hS.2.2 hdg hlocks
theorem bret_Rz {v tgt : Int32} (hx : p.tables.exec = Jvm.exec) (hb : c.code = cc) (hr : meth.sig.returnType = some .boolean) (hS : va_S (fun _ => False) s.heap s.heap locs) (hlocks : meth.locks = false) (hdg : decode cc pc = .ok (.ireturn, 1)) (h01 : v = 0 ∨ v = 1) (hv : v = tgt) : W p l e R s m args below meth c s.heap locs 0 0 (MQ below (bRi s.heap tgt) args s 0 0 (fun _ => False)) (F0 m pc ls [.int v]) :=
  W.zret hx hb hr (by rcases h01 with e | e <;> subst e <;> decide) (fun t ht _ => ⟨⟨v, (), rfl, hv, ht⟩, va_S.F hS ht⟩) hS.2.2 hdg hlocks
abbrev bRr (H0 : Heap) (a : Nat) : Array Value → State → Outcome → State → Prop := va_Qr (fun (_ : Unit) => True) (fun _ x t => x = a ∧ t.heap = H0) (fun _ => False)
theorem bret_Rr {a tgt : Nat} {rt : FieldType} (hx : p.tables.exec = Jvm.exec) (hb : c.code = cc) (hr : meth.sig.returnType = some rt) (hrt : (∃ n, rt = .object n) ∨ ∃ t, rt = .array t) (hS : va_S (fun _ => False) s.heap s.heap locs) (hlocks : meth.locks = false) (hdg : decode cc pc = .ok (.areturn, 1)) (hv : a = tgt) : W p l e R s m args below meth c s.heap locs 0 0 (MQ below (bRr s.heap tgt) args s 0 0 (fun _ => False)) (F0 m pc ls [.ref a]) :=
  W.aret hx hb hr hrt (Or.inr ⟨a, rfl⟩) (fun t ht _ => ⟨⟨(), a, rfl, trivial, hv, ht⟩, va_S.F hS ht⟩) hS.2.2 hdg hlocks
theorem bcall_Rr {v : Nat} (hr : va_Run p l e R s m args below meth c H locs cells slots 0 0 (F0 m pc ls st0) rest (bRr H v a) (fun _ => False)) (hS : va_S A0 H0 H locs)
    (kk : ∀ locs1 : List Loc, va_S A0 H0 H locs1 → W p l e R s m args below meth c H locs1 cells slots Q (F0 m (pc + 3) ls (.ref v :: rest))) : W p l e R s m args below meth c H locs cells slots Q (F0 m pc ls st0) :=
  va_callr hr hS (fun _ _ h => h.elim) (fun _ h => h.elim) (fun u x t H1 locs1 ht _ hw hB _ _ hS1 => by
    have e : H1 = H := ht.symm.trans hB.2
    have e2 : x = v := hB.1
    subst e; subst e2
    exact kk locs1 hS1)
theorem bret_Rl {v tgt : Int64} (hx : p.tables.exec = Jvm.exec) (hb : c.code = cc) (hr : meth.sig.returnType = some .long) (hS : va_S (fun _ => False) s.heap s.heap locs) (hlocks : meth.locks = false) (hdg : decode cc pc = .ok (.lreturn, 1)) (hv : v = tgt) : W p l e R s m args below meth c s.heap locs 0 0 (MQ below (bRl s.heap tgt) args s 0 0 (fun _ => False)) (F0 m pc ls [.long v]) :=
  W.lret hx hb hr (fun t ht _ => ⟨⟨v, (), rfl, hv, ht⟩, va_S.F hS ht⟩) hS.2.2 hdg hlocks
theorem bret_Wi {D : va_G} {WD : bU → va_W} {I : bU → Prop} {A : Nat → Prop} {v : Int32} {u : bU} {tgt : Int32 × bU} (hx : p.tables.exec = Jvm.exec) (hb : c.code = cc) (hr : meth.sig.returnType = some .int) (hP : va_P D vwCl (WD u) H) (hI : I u) (hS : va_S A s.heap H locs) (hlocks : meth.locks = false) (hdg : decode cc pc = .ok (.ireturn, 1)) (hv : (v, u) = tgt) : W p l e R s m args below meth c H locs 0 0 (MQ below (bWi D WD I A tgt) args s 0 0 A) (F0 m pc ls [.int v]) :=
  W.iret hx hb hr (fun t ht _ => ⟨⟨v, u, rfl, hv, by rw [ht]; exact hP, hI⟩, va_S.F hS ht⟩) hS.2.2 hdg hlocks
theorem bret_Wl {D : va_G} {WD : bU → va_W} {I : bU → Prop} {A : Nat → Prop} {v : Int64} {u : bU} {tgt : Int64 × bU} (hx : p.tables.exec = Jvm.exec) (hb : c.code = cc) (hr : meth.sig.returnType = some .long) (hP : va_P D vwCl (WD u) H) (hI : I u) (hS : va_S A s.heap H locs) (hlocks : meth.locks = false) (hdg : decode cc pc = .ok (.lreturn, 1)) (hv : (v, u) = tgt) : W p l e R s m args below meth c H locs 0 0 (MQ below (bWl D WD I A tgt) args s 0 0 A) (F0 m pc ls [.long v]) :=
  W.lret hx hb hr (fun t ht _ => ⟨⟨v, u, rfl, hv, by rw [ht]; exact hP, hI⟩, va_S.F hS ht⟩) hS.2.2 hdg hlocks
theorem bret_Wz {D : va_G} {WD : bU → va_W} {I : bU → Prop} {A : Nat → Prop} {v : Int32} {u : bU} {tgt : Int32 × bU} (hx : p.tables.exec = Jvm.exec) (hb : c.code = cc) (hr : meth.sig.returnType = some .boolean) (hP : va_P D vwCl (WD u) H) (hI : I u) (hS : va_S A s.heap H locs) (hlocks : meth.locks = false) (hdg : decode cc pc = .ok (.ireturn, 1)) (h01 : v = 0 ∨ v = 1) (hv : (v, u) = tgt) : W p l e R s m args below meth c H locs 0 0 (MQ below (bWi D WD I A tgt) args s 0 0 A) (F0 m pc ls [.int v]) :=
  W.zret hx hb hr (by rcases h01 with e | e <;> subst e <;> decide) (fun t ht _ => ⟨⟨v, u, rfl, hv, by rw [ht]; exact hP, hI⟩, va_S.F hS ht⟩) hS.2.2 hdg hlocks
theorem bret_Wv {D : va_G} {WD : bU → va_W} {I : bU → Prop} {A : Nat → Prop} {u tgt : bU} (hx : p.tables.exec = Jvm.exec) (hb : c.code = cc) (hr : meth.sig.returnType = none) (hP : va_P D vwCl (WD u) H) (hI : I u) (hS : va_S A s.heap H locs) (hlocks : meth.locks = false) (hdg : decode cc pc = .ok (.return_, 1)) (hv : u = tgt) : W p l e R s m args below meth c H locs 0 0 (MQ below (bWv D WD I A tgt) args s 0 0 A) (F0 m pc ls []) :=
  W.vret hx hb hr (fun t ht _ => ⟨⟨u, rfl, hv, by rw [ht]; exact hP, hI⟩, va_S.F hS ht⟩) hS.2.2 hdg
end BCALL
theorem bIn {x : Int32} {n : Nat} (h1 : ¬ x < 0) (h2 : ¬ Int32.ofNat n ≤ x) (hn : n < 2 ^ 31) : vp_in x n := by
  rcases pk_ix x hn with h | h | ⟨j, hj, rfl⟩
  · exact absurd h h1
  · exact absurd h h2
  · exact vp_in_nI hj hn
theorem bLt {j N : Nat} (h : ¬ Int32.ofNat N ≤ nI j) (hj : j < 2 ^ 31) (hN : N < 2 ^ 31) : j < N := by
  rcases Nat.lt_or_ge j N with q | q
  · exact q
  · exact absurd (nI_le q hj) h
theorem bLtG {j N : Nat} (h : ¬ Int32.ofNat N < nI j) (hj : j < 2 ^ 31) (hN : N < 2 ^ 31) : j < N + 1 := by
  rcases Nat.lt_or_ge N j with q | q
  · exact absurd (nI_lt q hj) h
  · omega
theorem bLtB {j : Nat} {B : Int32} (h : ¬ B ≤ nI j) (hj : j < 2 ^ 31) : j < B.toNatClampNeg := by
  have h1 : (nI j).toInt < B.toInt := by
    rw [Int32.le_iff_toInt_le] at h
    omega
  rw [nI_toInt hj] at h1
  have h2 : (B.toNatClampNeg : Int) = B.toInt.toNat := rfl
  omega
theorem bLtGB {j : Nat} {B : Int32} (h : ¬ B < nI j) (hj : j < 2 ^ 31) : j < B.toNatClampNeg + 1 := by
  have h1 : (nI j).toInt ≤ B.toInt := by
    rw [Int32.lt_iff_toInt_lt] at h
    omega
  rw [nI_toInt hj] at h1
  have h2 : (B.toNatClampNeg : Int) = B.toInt.toNat := rfl
  omega
theorem bClamp (B : Int32) : B.toNatClampNeg < 2 ^ 31 := by
  have h := Int32.toInt_lt B
  have h2 : (B.toNatClampNeg : Int) = B.toInt.toNat := rfl
  omega
def bput (u : bU) (k i : Nat) (x : Int32) : bU := bs u k (upd (u k) i x)
def bmin (x y : Int32) : Int32 := if y < x then y else x
theorem bPosNe {x : Int32} (h : 0 < x) : ¬ x = 0 := fun e => by subst e; exact absurd h (by decide)
theorem bNleNe {x : Int32} (h : ¬ x ≤ 0) : ¬ x = 0 := fun e => by subst e; exact absurd h (by decide)
theorem bRow {D : va_G} {cl : List vw_C} {ws : va_W} {H : Heap} (hP : va_P D cl ws H) (k : Nat) {a : Nat} {e : va_E} (h : ws[k]? = some (a, e)) : va_P D cl [(a, e)] H := hP.sub (ws' := [(a, e)]) [k] (by simp [h])
section BMIN
variable {p : Program} {l : Launch} {e : Env} {R : Room} {s : State} {m : MethodId} {args : Array Value} {below : List Frame} {meth : Method} {c : Code} {H : Heap} {locs : List Loc} {cells slots : Nat} {Q : State → Prop} {pc : Nat} {ls : Array Slot} {rest : List Value}
theorem bcall_min {cc : ByteArray} (hexec : p.tables.exec = Jvm.exec) (hb : c.code = cc) (hml : c.maxLocals = ls.size) {own : String} {index : Nat} (hown : s.vm.findClass own = some m.cls) (hlink : (Cond.methodLink own index Lib.Math.min.name).before args s = true) (hstat : (Cond.static Lib.Math.min.name).before args s = true) (hini : (Cond.initialized "java/lang/Math").before args s = true) (hcode : (Cond.code Lib.Math.min.name Lib.Math.min.code 2 (some .int)).before args s = true)
    (hframes : 1 ≤ R.frames) (hlocals : (rest.map fun v => v.category).sum + 13 ≤ R.locals) (hc : cells ≤ R.cells) (hs : slots ≤ R.slots) {x y : Int32} (hdg : decode cc pc = .ok (.invokestatic index, 3))
    (kk : W p l e R s m args below meth c H locs cells slots Q (F0 m (pc + 3) ls (.int (bmin x y) :: rest))) : W p l e R s m args below meth c H locs cells slots Q (F0 m pc ls (.int y :: .int x :: rest)) := va_mmin hexec hb hml hown hlink hstat hini hcode hframes hlocals hc hs hdg kk
end BMIN
theorem bInc (j : Nat) : nI j + Int32.ofInt 1 = nI (j + 1) := nI_1 j
end
section
theorem bd_X2brandNumber : yX2_brandNumber.cls ≠ "java/lang/invoke/MethodHandle" ∧ yX2_brandNumber.cls ≠ "java/lang/invoke/VarHandle" ∧ (parseMethodDescriptor yX2_brandNumber.desc).map (fun d => d.parameters.length) = some 2 := by decide +kernel
theorem bd_X2get : yX2_get.cls ≠ "java/lang/invoke/MethodHandle" ∧ yX2_get.cls ≠ "java/lang/invoke/VarHandle" ∧ (parseMethodDescriptor yX2_get.desc).map (fun d => d.parameters.length) = some 1 := by decide +kernel
theorem bd_X2ofAll : yX2_ofAll.cls ≠ "java/lang/invoke/MethodHandle" ∧ yX2_ofAll.cls ≠ "java/lang/invoke/VarHandle" ∧ (parseMethodDescriptor yX2_ofAll.desc).map (fun d => d.parameters.length) = some 1 := by decide +kernel
theorem bd_X2ofBrand : yX2_ofBrand.cls ≠ "java/lang/invoke/MethodHandle" ∧ yX2_ofBrand.cls ≠ "java/lang/invoke/VarHandle" ∧ (parseMethodDescriptor yX2_ofBrand.desc).map (fun d => d.parameters.length) = some 2 := by decide +kernel
theorem bd_X2ofShop : yX2_ofShop.cls ≠ "java/lang/invoke/MethodHandle" ∧ yX2_ofShop.cls ≠ "java/lang/invoke/VarHandle" ∧ (parseMethodDescriptor yX2_ofShop.desc).map (fun d => d.parameters.length) = some 2 := by decide +kernel
theorem bd_X2overBrands : yX2_overBrands.cls ≠ "java/lang/invoke/MethodHandle" ∧ yX2_overBrands.cls ≠ "java/lang/invoke/VarHandle" ∧ (parseMethodDescriptor yX2_overBrands.desc).map (fun d => d.parameters.length) = some 1 := by decide +kernel
theorem bd_X2overBrandsOf : yX2_overBrandsOf.cls ≠ "java/lang/invoke/MethodHandle" ∧ yX2_overBrandsOf.cls ≠ "java/lang/invoke/VarHandle" ∧ (parseMethodDescriptor yX2_overBrandsOf.desc).map (fun d => d.parameters.length) = some 2 := by decide +kernel
theorem bd_X2overShops : yX2_overShops.cls ≠ "java/lang/invoke/MethodHandle" ∧ yX2_overShops.cls ≠ "java/lang/invoke/VarHandle" ∧ (parseMethodDescriptor yX2_overShops.desc).map (fun d => d.parameters.length) = some 1 := by decide +kernel
theorem bd_X2put : yX2_put.cls ≠ "java/lang/invoke/MethodHandle" ∧ yX2_put.cls ≠ "java/lang/invoke/VarHandle" ∧ (parseMethodDescriptor yX2_put.desc).map (fun d => d.parameters.length) = some 2 := by decide +kernel

/-- entry(row, at), of a row in the heap -/
def F5_entry (n : Nat) (f : Nat → Int32) (i : Int32) : Int32 := if i < 0 then 0 else if Int32.ofNat n ≤ i then 0 else f i.toNatClampNeg
set_option maxHeartbeats 4000000 in
set_option maxRecDepth 100000 in
theorem C5_entry (l : Launch) (D : va_G) (cI cO : ClassId) (q : Nat → Nat) (H0 : Heap) {n : Nat} {f : Nat → Int32} {a : Nat} (hP : va_P D vwCl [(a, .inl (cI, n, .inl f))] H0) (hn : n < 2 ^ 31) (i : Int32) : Met l yX5_entry wsX5_entry ({ frames := 0, cells := 0, slots := 0, locals := 0 }) (bP D [(cI, .int), (cO, .object RX2)] H0 [.ref a, .int i]) (bRi H0 (F5_entry n f i)) 0 0 (fun _ => False) := by
  refine Met.ofW (cc := cX5_entry) (maxL := 2) (ret := (some .int)) (by decide) rfl ?_
  intro p e s m args below meth c s₁ B hml hv
  obtain ⟨rfl, hH, hk⟩ := hv
  subst hH
  have hx := B.exec
  have hb := B.bytes
  have hr := B.returns
  have hlocks := B.notSynchronized
  have hS : va_S (fun _ => False) s.heap s.heap [] := va_S.rf
  have hl := lv_entry ([.ref a, .int i]) (n := 2) (Nat.le_of_ble_eq_true rfl)
  rw [lg_entry_eq]
  generalize (lg_sl ([.ref a, .int i]) ++ List.replicate (2 - (lg_sl ([.ref a, .int i])).length) Slot.unset).toArray = ls at hl ⊢
  have hl : lv_has ls 2 [(0, .ref a), (1, .int i)] := hl
  generalize hF : F5_entry n f i = tgt
  refine lv_aload_n hx hb dX5_entry_0 rfl (lv_at hl 0 rfl) ?_
  refine lv_ifnull hx hb dX5_entry_1 ?_
  refine lv_iload_n hx hb dX5_entry_4 rfl (lv_at hl 1 rfl) ?_
  refine lv_if_lt (tgt := 20) hx hb dX5_entry_5 (by decide) (fun c_1 => ?_) (fun c_1 => ?_)
  · refine lv_iconst (v := 0) hx hb dX5_entry_20 (by decide) ?_
    exact bret_Ri hx hb hr hS hlocks dX5_entry_21 (by rw [← hF, F5_entry, if_pos c_1])
  · refine lv_iload_n hx hb dX5_entry_8 rfl (lv_at hl 1 rfl) ?_
    refine lv_aload_n hx hb dX5_entry_9 rfl (lv_at hl 0 rfl) ?_
    refine va_alen (v := Int32.ofNat n) hx hb hk.1 hP 0 0 rfl rfl rfl dX5_entry_10 ?_
    refine lv_icmp_ge (tgt := 20) hx hb dX5_entry_11 (by decide) (fun c_2 => ?_) (fun c_2 => ?_)
    · refine lv_iconst (v := 0) hx hb dX5_entry_20 (by decide) ?_
      exact bret_Ri hx hb hr hS hlocks dX5_entry_21 (by rw [← hF, F5_entry, if_neg c_1, if_pos c_2])
    · refine lv_aload_n hx hb dX5_entry_14 rfl (lv_at hl 0 rfl) ?_
      refine lv_iload_n hx hb dX5_entry_15 rfl (lv_at hl 1 rfl) ?_
      refine va_iald hx hb hk.1 hP 0 0 rfl rfl (bIn c_1 c_2 hn) dX5_entry_16 ?_
      refine lv_goto (tgt := 21) hx hb dX5_entry_17 (by decide) ?_
      exact bret_Ri hx hb hr hS hlocks dX5_entry_21 (by rw [← hF, F5_entry, if_neg c_1, if_neg c_2])

def F2_get (u : bU) (a1 : Int32) : Int32 := (if a1 < 0 then 0 else (if (345 : Int32) ≤ a1 then 0 else (u 0 a1.toNatClampNeg)))
set_option maxHeartbeats 4000000 in
set_option maxRecDepth 100000 in
theorem C2_get (l : Launch) (D : va_G) (cI cO : ClassId) (q : Nat → Nat) (u : bU) (H0 : Heap) (hP : va_P D vwCl (wC cI cO q u) H0) (a1 : Int32) : Met l yX2_get wsX2_get ({ frames := 0, cells := 0, slots := 0, locals := 0 }) (bP D [(cI, .int), (cO, .object RX2)] H0 [.ref (q 3), .int a1]) (bRi H0 (F2_get u a1)) 0 0 (fun _ => False) := by
  refine Met.ofW (cc := cX2_get) (maxL := 2) (ret := (some .int)) (by decide) rfl ?_
  intro p e s m args below meth c s₁ B hml hv
  obtain ⟨rfl, hH, hk⟩ := hv
  subst hH
  have hx := B.exec
  have hb := B.bytes
  have hr := B.returns
  have hts := atoms_spec (ws := wsX2_get) B.pre
  have hown : s.vm.findClass RX2 = some m.cls := findClass_of_methodNamed B.named
  have hlocks := B.notSynchronized
  have iX2 : ∀ w ∈ wsX20, w ∈ wsX2_get := by decide +kernel
  have hS : va_S (fun _ => False) s.heap s.heap [] := va_S.rf
  have hl := lv_entry ([.ref (q 3), .int a1]) (n := 2) (Nat.le_of_ble_eq_true rfl)
  rw [lg_entry_eq]
  generalize (lg_sl ([.ref (q 3), .int a1]) ++ List.replicate (2 - (lg_sl ([.ref (q 3), .int a1])).length) Slot.unset).toArray = ls at hl ⊢
  have hl : lv_has ls 2 [(0, .ref (q 3)), (1, .int a1)] := hl
  generalize hF : F2_get u a1 = tgt
  refine lv_iload_n hx hb dX2_get_0 rfl (lv_at hl 1 rfl) ?_
  refine lv_if_lt (tgt := 22) hx hb dX2_get_1 (by decide) (fun c_1 => ?_) (fun c_1 => ?_)
  · refine lv_iconst (v := 0) hx hb dX2_get_22 (by decide) ?_
    exact bret_Ri hx hb hr hS hlocks dX2_get_23 (by rw [← hF, F2_get, if_pos c_1])
  · refine lv_iload_n hx hb dX2_get_4 rfl (lv_at hl 1 rfl) ?_
    refine lv_aload_n hx hb dX2_get_5 rfl (lv_at hl 0 rfl) ?_
    refine va_get (D := D) (ci := 2) (C := RX2) (T := TX2) (N := 1) hx hb hts iX2 hown hk.1 hP 3 (wC_3 _ _ _ _) rfl 0 (by decide) (hts (.fieldLink RX2 11 "BottleLoop$State" "cells" "[I") (List.mem_of_getElem? (i := 1) rfl)) (fun _ h9 => h9) rfl dX2_get_6 ?_
    refine va_alen (v := 345) hx hb hk.1 hP 4 0 (wC_4 _ _ _ _) rfl rfl dX2_get_9 ?_
    refine lv_icmp_ge (tgt := 22) hx hb dX2_get_10 (by decide) (fun c_2 => ?_) (fun c_2 => ?_)
    · refine lv_iconst (v := 0) hx hb dX2_get_22 (by decide) ?_
      exact bret_Ri hx hb hr hS hlocks dX2_get_23 (by rw [← hF, F2_get, if_neg c_1, if_pos c_2])
    · refine lv_aload_n hx hb dX2_get_13 rfl (lv_at hl 0 rfl) ?_
      refine va_get (D := D) (ci := 2) (C := RX2) (T := TX2) (N := 1) hx hb hts iX2 hown hk.1 hP 3 (wC_3 _ _ _ _) rfl 0 (by decide) (hts (.fieldLink RX2 11 "BottleLoop$State" "cells" "[I") (List.mem_of_getElem? (i := 1) rfl)) (fun _ h9 => h9) rfl dX2_get_14 ?_
      refine lv_iload_n hx hb dX2_get_17 rfl (lv_at hl 1 rfl) ?_
      refine va_iald hx hb hk.1 hP 4 0 (wC_4 _ _ _ _) rfl (bIn c_1 c_2 (by decide)) dX2_get_18 ?_
      refine lv_goto (tgt := 23) hx hb dX2_get_19 (by decide) ?_
      exact bret_Ri hx hb hr hS hlocks dX2_get_23 (by rw [← hF, F2_get, if_neg c_1, if_neg c_2])
def F2_put (u : bU) (a1 : Int32) (a2 : Int32) : bU := (if a1 < 0 then u else (if (345 : Int32) ≤ a1 then u else (bput u 0 a1.toNatClampNeg a2)))
set_option maxHeartbeats 4000000 in
set_option maxRecDepth 100000 in
theorem C2_put (l : Launch) (D : va_G) (cI cO : ClassId) (q : Nat → Nat) (u : bU) (H0 : Heap) (hq : bInj 23 q) (hP : va_P D vwCl (wC cI cO q u) H0) (a1 : Int32) (a2 : Int32) : Met l yX2_put wsX2_put ({ frames := 0, cells := 0, slots := 0, locals := 0 }) (bP D [(cI, .int), (cO, .object RX2)] H0 [.ref (q 3), .int a1, .int a2]) (bWv D (wC cI cO q) bT (bA 23 q H0.size) (F2_put u a1 a2)) 0 0 (bA 23 q H0.size) := by
  refine Met.ofW (cc := cX2_put) (maxL := 3) (ret := none) (by decide) rfl ?_
  intro p e s m args below meth c s₁ B hml hv
  obtain ⟨rfl, hH, hk⟩ := hv
  subst hH
  have hx := B.exec
  have hb := B.bytes
  have hr := B.returns
  have hts := atoms_spec (ws := wsX2_put) B.pre
  have hown : s.vm.findClass RX2 = some m.cls := findClass_of_methodNamed B.named
  have hlocks := B.notSynchronized
  have iX2 : ∀ w ∈ wsX20, w ∈ wsX2_put := by decide +kernel
  have hS : va_S (bA 23 q s.heap.size) s.heap s.heap [] := va_S.rf
  have hl := lv_entry ([.ref (q 3), .int a1, .int a2]) (n := 3) (Nat.le_of_ble_eq_true rfl)
  rw [lg_entry_eq]
  generalize (lg_sl ([.ref (q 3), .int a1, .int a2]) ++ List.replicate (3 - (lg_sl ([.ref (q 3), .int a1, .int a2])).length) Slot.unset).toArray = ls at hl ⊢
  have hl : lv_has ls 3 [(0, .ref (q 3)), (1, .int a1), (2, .int a2)] := hl
  generalize hF : F2_put u a1 a2 = tgt
  refine lv_iload_n hx hb dX2_put_0 rfl (lv_at hl 1 rfl) ?_
  refine lv_if_lt (tgt := 20) hx hb dX2_put_1 (by decide) (fun c_1 => ?_) (fun c_1 => ?_)
  · exact bret_Wv hx hb hr hP trivial hS hlocks dX2_put_20 (by rw [← hF, F2_put, if_pos c_1])
  · refine lv_iload_n hx hb dX2_put_4 rfl (lv_at hl 1 rfl) ?_
    refine lv_aload_n hx hb dX2_put_5 rfl (lv_at hl 0 rfl) ?_
    refine va_get (D := D) (ci := 2) (C := RX2) (T := TX2) (N := 1) hx hb hts iX2 hown hk.1 hP 3 (wC_3 _ _ _ _) rfl 0 (by decide) (hts (.fieldLink RX2 11 "BottleLoop$State" "cells" "[I") (List.mem_of_getElem? (i := 1) rfl)) (fun _ h9 => h9) rfl dX2_put_6 ?_
    refine va_alen (v := 345) hx hb hk.1 hP 4 0 (wC_4 _ _ _ _) rfl rfl dX2_put_9 ?_
    refine lv_icmp_ge (tgt := 20) hx hb dX2_put_10 (by decide) (fun c_2 => ?_) (fun c_2 => ?_)
    · exact bret_Wv hx hb hr hP trivial hS hlocks dX2_put_20 (by rw [← hF, F2_put, if_neg c_1, if_pos c_2])
    · refine lv_aload_n hx hb dX2_put_13 rfl (lv_at hl 0 rfl) ?_
      refine va_get (D := D) (ci := 2) (C := RX2) (T := TX2) (N := 1) hx hb hts iX2 hown hk.1 hP 3 (wC_3 _ _ _ _) rfl 0 (by decide) (hts (.fieldLink RX2 11 "BottleLoop$State" "cells" "[I") (List.mem_of_getElem? (i := 1) rfl)) (fun _ h9 => h9) rfl dX2_put_14 ?_
      refine lv_iload_n hx hb dX2_put_17 rfl (lv_at hl 1 rfl) ?_
      refine lv_iload_n hx hb dX2_put_18 rfl (lv_at hl 2 rfl) ?_
      refine va_iast hx hb hk.1 hP (wC_D hq) hS 4 0 (wC_4 _ _ _ _) rfl (bIn c_1 c_2 (by decide)) dX2_put_19 (fun H locs hP _ hS => ?_)
      have hP : va_P D vwCl (wC cI cO q (bput u 0 a1.toNatClampNeg a2)) H := hP
      exact bret_Wv hx hb hr hP trivial hS hlocks dX2_put_20 (by rw [← hF, F2_put, if_neg c_1, if_neg c_2])
def F2_ofAll (u : bU) (a1 : Int32) : Int32 := (F2_get u a1)
set_option maxHeartbeats 4000000 in
set_option maxRecDepth 100000 in
theorem C2_ofAll (l : Launch) (D : va_G) (cI cO : ClassId) (q : Nat → Nat) (u : bU) (H0 : Heap) (hP : va_P D vwCl (wC cI cO q u) H0) (a1 : Int32) : Met l yX2_ofAll wsX2_ofAll ({ frames := 1, cells := 0, slots := 0, locals := 21 }) (bP D [(cI, .int), (cO, .object RX2)] H0 [.ref (q 3), .int a1]) (bRi H0 (F2_ofAll u a1)) 0 0 (fun _ => False) := by
  refine Met.ofW (cc := cX2_ofAll) (maxL := 2) (ret := (some .int)) (by decide) rfl ?_
  intro p e s m args below meth c s₁ B hml hv
  obtain ⟨rfl, hH, hk⟩ := hv
  subst hH
  have hx := B.exec
  have hb := B.bytes
  have hr := B.returns
  have hts := atoms_spec (ws := wsX2_ofAll) B.pre
  have hown : s.vm.findClass RX2 = some m.cls := findClass_of_methodNamed B.named
  have hlocks := B.notSynchronized
  have hS : va_S (fun _ => False) s.heap s.heap [] := va_S.rf
  have hl := lv_entry ([.ref (q 3), .int a1]) (n := 2) (Nat.le_of_ble_eq_true rfl)
  rw [lg_entry_eq]
  generalize (lg_sl ([.ref (q 3), .int a1]) ++ List.replicate (2 - (lg_sl ([.ref (q 3), .int a1])).length) Slot.unset).toArray = ls at hl ⊢
  have hl : lv_has ls 2 [(0, .ref (q 3)), (1, .int a1)] := hl
  generalize hF : F2_ofAll u a1 = tgt
  refine lv_aload_n hx hb dX2_ofAll_0 rfl (lv_at hl 0 rfl) ?_
  refine lv_iload_n hx hb dX2_ofAll_1 rfl (lv_at hl 1 rfl) ?_
  refine bcall_Ri (va_runV (As := [.int a1]) (rest := []) ⟨hx, hb, hml, hown, hts⟩ (C2_get l D cI cO q _ _ hP a1) (cwV 1 hts gX2_ofAll_X2_get rfl rfl rfl ⟨rfl, bd_X2get⟩ ⟨Nat.le_of_ble_eq_true rfl, Nat.le_of_ble_eq_true rfl⟩) (bPV hk (va_recv hk.1 hP (ci := 2) (q0 := 3) rfl (wC_3 _ _ _ _))) rfl rfl hl.1 rfl (lv_room (Nat.le_of_ble_eq_true rfl)) dX2_ofAll_2 ⟨Nat.zero_le _, Nat.zero_le _⟩) hS (fun locs hS => ?_)
  exact bret_Ri hx hb hr hS hlocks dX2_ofAll_5 (by rw [← hF, F2_ofAll])
def F2_addToAll (u : bU) (a1 : Int32) (a2 : Int32) : bU := (F2_put u a1 ((F2_get u a1) + a2))
set_option maxHeartbeats 4000000 in
set_option maxRecDepth 100000 in
theorem C2_addToAll (l : Launch) (D : va_G) (cI cO : ClassId) (q : Nat → Nat) (u : bU) (H0 : Heap) (hq : bInj 23 q) (hP : va_P D vwCl (wC cI cO q u) H0) (a1 : Int32) (a2 : Int32) : Met l yX2_addToAll wsX2_addToAll ({ frames := 1, cells := 0, slots := 0, locals := 22 }) (bP D [(cI, .int), (cO, .object RX2)] H0 [.ref (q 3), .int a1, .int a2]) (bWv D (wC cI cO q) bT (bA 23 q H0.size) (F2_addToAll u a1 a2)) 0 0 (bA 23 q H0.size) := by
  refine Met.ofW (cc := cX2_addToAll) (maxL := 3) (ret := none) (by decide) rfl ?_
  intro p e s m args below meth c s₁ B hml hv
  obtain ⟨rfl, hH, hk⟩ := hv
  subst hH
  have hx := B.exec
  have hb := B.bytes
  have hr := B.returns
  have hts := atoms_spec (ws := wsX2_addToAll) B.pre
  have hown : s.vm.findClass RX2 = some m.cls := findClass_of_methodNamed B.named
  have hlocks := B.notSynchronized
  have hS : va_S (bA 23 q s.heap.size) s.heap s.heap [] := va_S.rf
  have hl := lv_entry ([.ref (q 3), .int a1, .int a2]) (n := 3) (Nat.le_of_ble_eq_true rfl)
  rw [lg_entry_eq]
  generalize (lg_sl ([.ref (q 3), .int a1, .int a2]) ++ List.replicate (3 - (lg_sl ([.ref (q 3), .int a1, .int a2])).length) Slot.unset).toArray = ls at hl ⊢
  have hl : lv_has ls 3 [(0, .ref (q 3)), (1, .int a1), (2, .int a2)] := hl
  generalize hF : F2_addToAll u a1 a2 = tgt
  refine lv_aload_n hx hb dX2_addToAll_0 rfl (lv_at hl 0 rfl) ?_
  refine lv_iload_n hx hb dX2_addToAll_1 rfl (lv_at hl 1 rfl) ?_
  refine lv_aload_n hx hb dX2_addToAll_2 rfl (lv_at hl 0 rfl) ?_
  refine lv_iload_n hx hb dX2_addToAll_3 rfl (lv_at hl 1 rfl) ?_
  refine bcall_Ri (va_runV (As := [.int a1]) (rest := [.int a1, .ref (q 3)]) ⟨hx, hb, hml, hown, hts⟩ (C2_get l D cI cO q _ _ hP a1) (cwV 1 hts gX2_addToAll_X2_get rfl rfl rfl ⟨rfl, bd_X2get⟩ ⟨Nat.le_of_ble_eq_true rfl, Nat.le_of_ble_eq_true rfl⟩) (bPV hk (va_recv hk.1 hP (ci := 2) (q0 := 3) rfl (wC_3 _ _ _ _))) rfl rfl hl.1 rfl (lv_room (Nat.le_of_ble_eq_true rfl)) dX2_addToAll_4 ⟨Nat.zero_le _, Nat.zero_le _⟩) hS (fun locs hS => ?_)
  refine lv_iload_n hx hb dX2_addToAll_7 rfl (lv_at hl 2 rfl) ?_
  refine lv_iadd hx hb dX2_addToAll_8 ?_
  refine bcall_Wv (va_runV (As := [.int a1, .int ((F2_get u a1) + a2)]) (rest := []) ⟨hx, hb, hml, hown, hts⟩ (C2_put l D cI cO q _ _ hq hP a1 ((F2_get u a1) + a2)) (cwV 2 hts gX2_addToAll_X2_put rfl rfl rfl ⟨rfl, bd_X2put⟩ ⟨Nat.le_of_ble_eq_true rfl, Nat.le_of_ble_eq_true rfl⟩) (bPV hk (va_recv hk.1 hP (ci := 2) (q0 := 3) rfl (wC_3 _ _ _ _))) rfl rfl hl.1 rfl (lv_room (Nat.le_of_ble_eq_true rfl)) dX2_addToAll_9 ⟨Nat.zero_le _, Nat.zero_le _⟩) hS (fun H locs hP _ hS => ?_)
  exact bret_Wv hx hb hr hP trivial hS hlocks dX2_addToAll_12 (by rw [← hF, F2_addToAll])
def F2_ofSetting (u : bU) (a1 : Int32) : Int32 := (F2_get u (11 + a1))
set_option maxHeartbeats 4000000 in
set_option maxRecDepth 100000 in
theorem C2_ofSetting (l : Launch) (D : va_G) (cI cO : ClassId) (q : Nat → Nat) (u : bU) (H0 : Heap) (hP : va_P D vwCl (wC cI cO q u) H0) (a1 : Int32) : Met l yX2_ofSetting wsX2_ofSetting ({ frames := 1, cells := 0, slots := 0, locals := 21 }) (bP D [(cI, .int), (cO, .object RX2)] H0 [.ref (q 3), .int a1]) (bRi H0 (F2_ofSetting u a1)) 0 0 (fun _ => False) := by
  refine Met.ofW (cc := cX2_ofSetting) (maxL := 2) (ret := (some .int)) (by decide) rfl ?_
  intro p e s m args below meth c s₁ B hml hv
  obtain ⟨rfl, hH, hk⟩ := hv
  subst hH
  have hx := B.exec
  have hb := B.bytes
  have hr := B.returns
  have hts := atoms_spec (ws := wsX2_ofSetting) B.pre
  have hown : s.vm.findClass RX2 = some m.cls := findClass_of_methodNamed B.named
  have hlocks := B.notSynchronized
  have hS : va_S (fun _ => False) s.heap s.heap [] := va_S.rf
  have hl := lv_entry ([.ref (q 3), .int a1]) (n := 2) (Nat.le_of_ble_eq_true rfl)
  rw [lg_entry_eq]
  generalize (lg_sl ([.ref (q 3), .int a1]) ++ List.replicate (2 - (lg_sl ([.ref (q 3), .int a1])).length) Slot.unset).toArray = ls at hl ⊢
  have hl : lv_has ls 2 [(0, .ref (q 3)), (1, .int a1)] := hl
  generalize hF : F2_ofSetting u a1 = tgt
  refine lv_aload_n hx hb dX2_ofSetting_0 rfl (lv_at hl 0 rfl) ?_
  refine lv_bipush (v := 11) hx hb dX2_ofSetting_1 (by decide) ?_
  refine lv_iload_n hx hb dX2_ofSetting_3 rfl (lv_at hl 1 rfl) ?_
  refine lv_iadd hx hb dX2_ofSetting_4 ?_
  refine bcall_Ri (va_runV (As := [.int (11 + a1)]) (rest := []) ⟨hx, hb, hml, hown, hts⟩ (C2_get l D cI cO q _ _ hP (11 + a1)) (cwV 1 hts gX2_ofSetting_X2_get rfl rfl rfl ⟨rfl, bd_X2get⟩ ⟨Nat.le_of_ble_eq_true rfl, Nat.le_of_ble_eq_true rfl⟩) (bPV hk (va_recv hk.1 hP (ci := 2) (q0 := 3) rfl (wC_3 _ _ _ _))) rfl rfl hl.1 rfl (lv_room (Nat.le_of_ble_eq_true rfl)) dX2_ofSetting_5 ⟨Nat.zero_le _, Nat.zero_le _⟩) hS (fun locs hS => ?_)
  exact bret_Ri hx hb hr hS hlocks dX2_ofSetting_8 (by rw [← hF, F2_ofSetting])
def F2_putSetting (u : bU) (a1 : Int32) (a2 : Int32) : bU := (F2_put u (11 + a1) a2)
set_option maxHeartbeats 4000000 in
set_option maxRecDepth 100000 in
theorem C2_putSetting (l : Launch) (D : va_G) (cI cO : ClassId) (q : Nat → Nat) (u : bU) (H0 : Heap) (hq : bInj 23 q) (hP : va_P D vwCl (wC cI cO q u) H0) (a1 : Int32) (a2 : Int32) : Met l yX2_putSetting wsX2_putSetting ({ frames := 1, cells := 0, slots := 0, locals := 22 }) (bP D [(cI, .int), (cO, .object RX2)] H0 [.ref (q 3), .int a1, .int a2]) (bWv D (wC cI cO q) bT (bA 23 q H0.size) (F2_putSetting u a1 a2)) 0 0 (bA 23 q H0.size) := by
  refine Met.ofW (cc := cX2_putSetting) (maxL := 3) (ret := none) (by decide) rfl ?_
  intro p e s m args below meth c s₁ B hml hv
  obtain ⟨rfl, hH, hk⟩ := hv
  subst hH
  have hx := B.exec
  have hb := B.bytes
  have hr := B.returns
  have hts := atoms_spec (ws := wsX2_putSetting) B.pre
  have hown : s.vm.findClass RX2 = some m.cls := findClass_of_methodNamed B.named
  have hlocks := B.notSynchronized
  have hS : va_S (bA 23 q s.heap.size) s.heap s.heap [] := va_S.rf
  have hl := lv_entry ([.ref (q 3), .int a1, .int a2]) (n := 3) (Nat.le_of_ble_eq_true rfl)
  rw [lg_entry_eq]
  generalize (lg_sl ([.ref (q 3), .int a1, .int a2]) ++ List.replicate (3 - (lg_sl ([.ref (q 3), .int a1, .int a2])).length) Slot.unset).toArray = ls at hl ⊢
  have hl : lv_has ls 3 [(0, .ref (q 3)), (1, .int a1), (2, .int a2)] := hl
  generalize hF : F2_putSetting u a1 a2 = tgt
  refine lv_aload_n hx hb dX2_putSetting_0 rfl (lv_at hl 0 rfl) ?_
  refine lv_bipush (v := 11) hx hb dX2_putSetting_1 (by decide) ?_
  refine lv_iload_n hx hb dX2_putSetting_3 rfl (lv_at hl 1 rfl) ?_
  refine lv_iadd hx hb dX2_putSetting_4 ?_
  refine lv_iload_n hx hb dX2_putSetting_5 rfl (lv_at hl 2 rfl) ?_
  refine bcall_Wv (va_runV (As := [.int (11 + a1), .int a2]) (rest := []) ⟨hx, hb, hml, hown, hts⟩ (C2_put l D cI cO q _ _ hq hP (11 + a1) a2) (cwV 2 hts gX2_putSetting_X2_put rfl rfl rfl ⟨rfl, bd_X2put⟩ ⟨Nat.le_of_ble_eq_true rfl, Nat.le_of_ble_eq_true rfl⟩) (bPV hk (va_recv hk.1 hP (ci := 2) (q0 := 3) rfl (wC_3 _ _ _ _))) rfl rfl hl.1 rfl (lv_room (Nat.le_of_ble_eq_true rfl)) dX2_putSetting_6 ⟨Nat.zero_le _, Nat.zero_le _⟩) hS (fun H locs hP _ hS => ?_)
  exact bret_Wv hx hb hr hP trivial hS hlocks dX2_putSetting_9 (by rw [← hF, F2_putSetting])
def F2_ofBrand (u : bU) (a1 : Int32) (a2 : Int32) : Int32 := (F2_get u ((17 + (a1 * 12)) + a2))
set_option maxHeartbeats 4000000 in
set_option maxRecDepth 100000 in
theorem C2_ofBrand (l : Launch) (D : va_G) (cI cO : ClassId) (q : Nat → Nat) (u : bU) (H0 : Heap) (hP : va_P D vwCl (wC cI cO q u) H0) (a1 : Int32) (a2 : Int32) : Met l yX2_ofBrand wsX2_ofBrand ({ frames := 1, cells := 0, slots := 0, locals := 21 }) (bP D [(cI, .int), (cO, .object RX2)] H0 [.ref (q 3), .int a1, .int a2]) (bRi H0 (F2_ofBrand u a1 a2)) 0 0 (fun _ => False) := by
  refine Met.ofW (cc := cX2_ofBrand) (maxL := 3) (ret := (some .int)) (by decide) rfl ?_
  intro p e s m args below meth c s₁ B hml hv
  obtain ⟨rfl, hH, hk⟩ := hv
  subst hH
  have hx := B.exec
  have hb := B.bytes
  have hr := B.returns
  have hts := atoms_spec (ws := wsX2_ofBrand) B.pre
  have hown : s.vm.findClass RX2 = some m.cls := findClass_of_methodNamed B.named
  have hlocks := B.notSynchronized
  have hS : va_S (fun _ => False) s.heap s.heap [] := va_S.rf
  have hl := lv_entry ([.ref (q 3), .int a1, .int a2]) (n := 3) (Nat.le_of_ble_eq_true rfl)
  rw [lg_entry_eq]
  generalize (lg_sl ([.ref (q 3), .int a1, .int a2]) ++ List.replicate (3 - (lg_sl ([.ref (q 3), .int a1, .int a2])).length) Slot.unset).toArray = ls at hl ⊢
  have hl : lv_has ls 3 [(0, .ref (q 3)), (1, .int a1), (2, .int a2)] := hl
  generalize hF : F2_ofBrand u a1 a2 = tgt
  refine lv_aload_n hx hb dX2_ofBrand_0 rfl (lv_at hl 0 rfl) ?_
  refine lv_bipush (v := 17) hx hb dX2_ofBrand_1 (by decide) ?_
  refine lv_iload_n hx hb dX2_ofBrand_3 rfl (lv_at hl 1 rfl) ?_
  refine lv_bipush (v := 12) hx hb dX2_ofBrand_4 (by decide) ?_
  refine lv_imul hx hb dX2_ofBrand_6 ?_
  refine lv_iadd hx hb dX2_ofBrand_7 ?_
  refine lv_iload_n hx hb dX2_ofBrand_8 rfl (lv_at hl 2 rfl) ?_
  refine lv_iadd hx hb dX2_ofBrand_9 ?_
  refine bcall_Ri (va_runV (As := [.int ((17 + (a1 * 12)) + a2)]) (rest := []) ⟨hx, hb, hml, hown, hts⟩ (C2_get l D cI cO q _ _ hP ((17 + (a1 * 12)) + a2)) (cwV 1 hts gX2_ofBrand_X2_get rfl rfl rfl ⟨rfl, bd_X2get⟩ ⟨Nat.le_of_ble_eq_true rfl, Nat.le_of_ble_eq_true rfl⟩) (bPV hk (va_recv hk.1 hP (ci := 2) (q0 := 3) rfl (wC_3 _ _ _ _))) rfl rfl hl.1 rfl (lv_room (Nat.le_of_ble_eq_true rfl)) dX2_ofBrand_10 ⟨Nat.zero_le _, Nat.zero_le _⟩) hS (fun locs hS => ?_)
  exact bret_Ri hx hb hr hS hlocks dX2_ofBrand_13 (by rw [← hF, F2_ofBrand])
def F2_addToBrand (u : bU) (a1 : Int32) (a2 : Int32) (a3 : Int32) : bU := (F2_put u ((17 + (a1 * 12)) + a2) ((F2_get u ((17 + (a1 * 12)) + a2)) + a3))
set_option maxHeartbeats 4000000 in
set_option maxRecDepth 100000 in
theorem C2_addToBrand (l : Launch) (D : va_G) (cI cO : ClassId) (q : Nat → Nat) (u : bU) (H0 : Heap) (hq : bInj 23 q) (hP : va_P D vwCl (wC cI cO q u) H0) (a1 : Int32) (a2 : Int32) (a3 : Int32) : Met l yX2_addToBrand wsX2_addToBrand ({ frames := 1, cells := 0, slots := 0, locals := 22 }) (bP D [(cI, .int), (cO, .object RX2)] H0 [.ref (q 3), .int a1, .int a2, .int a3]) (bWv D (wC cI cO q) bT (bA 23 q H0.size) (F2_addToBrand u a1 a2 a3)) 0 0 (bA 23 q H0.size) := by
  refine Met.ofW (cc := cX2_addToBrand) (maxL := 5) (ret := none) (by decide) rfl ?_
  intro p e s m args below meth c s₁ B hml hv
  obtain ⟨rfl, hH, hk⟩ := hv
  subst hH
  have hx := B.exec
  have hb := B.bytes
  have hr := B.returns
  have hts := atoms_spec (ws := wsX2_addToBrand) B.pre
  have hown : s.vm.findClass RX2 = some m.cls := findClass_of_methodNamed B.named
  have hlocks := B.notSynchronized
  have hS : va_S (bA 23 q s.heap.size) s.heap s.heap [] := va_S.rf
  have hl := lv_entry ([.ref (q 3), .int a1, .int a2, .int a3]) (n := 5) (Nat.le_of_ble_eq_true rfl)
  rw [lg_entry_eq]
  generalize (lg_sl ([.ref (q 3), .int a1, .int a2, .int a3]) ++ List.replicate (5 - (lg_sl ([.ref (q 3), .int a1, .int a2, .int a3])).length) Slot.unset).toArray = ls at hl ⊢
  have hl : lv_has ls 5 [(0, .ref (q 3)), (1, .int a1), (2, .int a2), (3, .int a3)] := hl
  generalize hF : F2_addToBrand u a1 a2 a3 = tgt
  refine lv_bipush (v := 17) hx hb dX2_addToBrand_0 (by decide) ?_
  refine lv_iload_n hx hb dX2_addToBrand_2 rfl (lv_at hl 1 rfl) ?_
  refine lv_bipush (v := 12) hx hb dX2_addToBrand_3 (by decide) ?_
  refine lv_imul hx hb dX2_addToBrand_5 ?_
  refine lv_iadd hx hb dX2_addToBrand_6 ?_
  refine lv_iload_n hx hb dX2_addToBrand_7 rfl (lv_at hl 2 rfl) ?_
  refine lv_iadd hx hb dX2_addToBrand_8 ?_
  refine lv_istore (lv' := [(4, .int ((17 + (a1 * 12)) + a2)), (0, .ref (q 3)), (1, .int a1), (2, .int a2), (3, .int a3)]) hx hb dX2_addToBrand_9 hl (by decide) rfl (fun ls hl => ?_)
  refine lv_aload_n hx hb dX2_addToBrand_11 rfl (lv_at hl 1 rfl) ?_
  refine lv_iload hx hb dX2_addToBrand_12 (lv_at hl 0 rfl) ?_
  refine lv_aload_n hx hb dX2_addToBrand_14 rfl (lv_at hl 1 rfl) ?_
  refine lv_iload hx hb dX2_addToBrand_15 (lv_at hl 0 rfl) ?_
  refine bcall_Ri (va_runV (As := [.int ((17 + (a1 * 12)) + a2)]) (rest := [.int ((17 + (a1 * 12)) + a2), .ref (q 3)]) ⟨hx, hb, hml, hown, hts⟩ (C2_get l D cI cO q _ _ hP ((17 + (a1 * 12)) + a2)) (cwV 1 hts gX2_addToBrand_X2_get rfl rfl rfl ⟨rfl, bd_X2get⟩ ⟨Nat.le_of_ble_eq_true rfl, Nat.le_of_ble_eq_true rfl⟩) (bPV hk (va_recv hk.1 hP (ci := 2) (q0 := 3) rfl (wC_3 _ _ _ _))) rfl rfl hl.1 rfl (lv_room (Nat.le_of_ble_eq_true rfl)) dX2_addToBrand_17 ⟨Nat.zero_le _, Nat.zero_le _⟩) hS (fun locs hS => ?_)
  refine lv_iload_n hx hb dX2_addToBrand_20 rfl (lv_at hl 4 rfl) ?_
  refine lv_iadd hx hb dX2_addToBrand_21 ?_
  refine bcall_Wv (va_runV (As := [.int ((17 + (a1 * 12)) + a2), .int ((F2_get u ((17 + (a1 * 12)) + a2)) + a3)]) (rest := []) ⟨hx, hb, hml, hown, hts⟩ (C2_put l D cI cO q _ _ hq hP ((17 + (a1 * 12)) + a2) ((F2_get u ((17 + (a1 * 12)) + a2)) + a3)) (cwV 2 hts gX2_addToBrand_X2_put rfl rfl rfl ⟨rfl, bd_X2put⟩ ⟨Nat.le_of_ble_eq_true rfl, Nat.le_of_ble_eq_true rfl⟩) (bPV hk (va_recv hk.1 hP (ci := 2) (q0 := 3) rfl (wC_3 _ _ _ _))) rfl rfl hl.1 rfl (lv_room (Nat.le_of_ble_eq_true rfl)) dX2_addToBrand_22 ⟨Nat.zero_le _, Nat.zero_le _⟩) hS (fun H locs hP _ hS => ?_)
  exact bret_Wv hx hb hr hP trivial hS hlocks dX2_addToBrand_25 (by rw [← hF, F2_addToBrand])
def F2_ofShop (u : bU) (a1 : Int32) (a2 : Int32) : Int32 := (F2_get u ((113 + (a1 * 28)) + a2))
set_option maxHeartbeats 4000000 in
set_option maxRecDepth 100000 in
theorem C2_ofShop (l : Launch) (D : va_G) (cI cO : ClassId) (q : Nat → Nat) (u : bU) (H0 : Heap) (hP : va_P D vwCl (wC cI cO q u) H0) (a1 : Int32) (a2 : Int32) : Met l yX2_ofShop wsX2_ofShop ({ frames := 1, cells := 0, slots := 0, locals := 21 }) (bP D [(cI, .int), (cO, .object RX2)] H0 [.ref (q 3), .int a1, .int a2]) (bRi H0 (F2_ofShop u a1 a2)) 0 0 (fun _ => False) := by
  refine Met.ofW (cc := cX2_ofShop) (maxL := 3) (ret := (some .int)) (by decide) rfl ?_
  intro p e s m args below meth c s₁ B hml hv
  obtain ⟨rfl, hH, hk⟩ := hv
  subst hH
  have hx := B.exec
  have hb := B.bytes
  have hr := B.returns
  have hts := atoms_spec (ws := wsX2_ofShop) B.pre
  have hown : s.vm.findClass RX2 = some m.cls := findClass_of_methodNamed B.named
  have hlocks := B.notSynchronized
  have hS : va_S (fun _ => False) s.heap s.heap [] := va_S.rf
  have hl := lv_entry ([.ref (q 3), .int a1, .int a2]) (n := 3) (Nat.le_of_ble_eq_true rfl)
  rw [lg_entry_eq]
  generalize (lg_sl ([.ref (q 3), .int a1, .int a2]) ++ List.replicate (3 - (lg_sl ([.ref (q 3), .int a1, .int a2])).length) Slot.unset).toArray = ls at hl ⊢
  have hl : lv_has ls 3 [(0, .ref (q 3)), (1, .int a1), (2, .int a2)] := hl
  generalize hF : F2_ofShop u a1 a2 = tgt
  refine lv_aload_n hx hb dX2_ofShop_0 rfl (lv_at hl 0 rfl) ?_
  refine lv_bipush (v := 113) hx hb dX2_ofShop_1 (by decide) ?_
  refine lv_iload_n hx hb dX2_ofShop_3 rfl (lv_at hl 1 rfl) ?_
  refine lv_bipush (v := 28) hx hb dX2_ofShop_4 (by decide) ?_
  refine lv_imul hx hb dX2_ofShop_6 ?_
  refine lv_iadd hx hb dX2_ofShop_7 ?_
  refine lv_iload_n hx hb dX2_ofShop_8 rfl (lv_at hl 2 rfl) ?_
  refine lv_iadd hx hb dX2_ofShop_9 ?_
  refine bcall_Ri (va_runV (As := [.int ((113 + (a1 * 28)) + a2)]) (rest := []) ⟨hx, hb, hml, hown, hts⟩ (C2_get l D cI cO q _ _ hP ((113 + (a1 * 28)) + a2)) (cwV 1 hts gX2_ofShop_X2_get rfl rfl rfl ⟨rfl, bd_X2get⟩ ⟨Nat.le_of_ble_eq_true rfl, Nat.le_of_ble_eq_true rfl⟩) (bPV hk (va_recv hk.1 hP (ci := 2) (q0 := 3) rfl (wC_3 _ _ _ _))) rfl rfl hl.1 rfl (lv_room (Nat.le_of_ble_eq_true rfl)) dX2_ofShop_10 ⟨Nat.zero_le _, Nat.zero_le _⟩) hS (fun locs hS => ?_)
  exact bret_Ri hx hb hr hS hlocks dX2_ofShop_13 (by rw [← hF, F2_ofShop])
def F2_addToShop (u : bU) (a1 : Int32) (a2 : Int32) (a3 : Int32) : bU := (F2_put u ((113 + (a1 * 28)) + a2) ((F2_get u ((113 + (a1 * 28)) + a2)) + a3))
set_option maxHeartbeats 4000000 in
set_option maxRecDepth 100000 in
theorem C2_addToShop (l : Launch) (D : va_G) (cI cO : ClassId) (q : Nat → Nat) (u : bU) (H0 : Heap) (hq : bInj 23 q) (hP : va_P D vwCl (wC cI cO q u) H0) (a1 : Int32) (a2 : Int32) (a3 : Int32) : Met l yX2_addToShop wsX2_addToShop ({ frames := 1, cells := 0, slots := 0, locals := 22 }) (bP D [(cI, .int), (cO, .object RX2)] H0 [.ref (q 3), .int a1, .int a2, .int a3]) (bWv D (wC cI cO q) bT (bA 23 q H0.size) (F2_addToShop u a1 a2 a3)) 0 0 (bA 23 q H0.size) := by
  refine Met.ofW (cc := cX2_addToShop) (maxL := 5) (ret := none) (by decide) rfl ?_
  intro p e s m args below meth c s₁ B hml hv
  obtain ⟨rfl, hH, hk⟩ := hv
  subst hH
  have hx := B.exec
  have hb := B.bytes
  have hr := B.returns
  have hts := atoms_spec (ws := wsX2_addToShop) B.pre
  have hown : s.vm.findClass RX2 = some m.cls := findClass_of_methodNamed B.named
  have hlocks := B.notSynchronized
  have hS : va_S (bA 23 q s.heap.size) s.heap s.heap [] := va_S.rf
  have hl := lv_entry ([.ref (q 3), .int a1, .int a2, .int a3]) (n := 5) (Nat.le_of_ble_eq_true rfl)
  rw [lg_entry_eq]
  generalize (lg_sl ([.ref (q 3), .int a1, .int a2, .int a3]) ++ List.replicate (5 - (lg_sl ([.ref (q 3), .int a1, .int a2, .int a3])).length) Slot.unset).toArray = ls at hl ⊢
  have hl : lv_has ls 5 [(0, .ref (q 3)), (1, .int a1), (2, .int a2), (3, .int a3)] := hl
  generalize hF : F2_addToShop u a1 a2 a3 = tgt
  refine lv_bipush (v := 113) hx hb dX2_addToShop_0 (by decide) ?_
  refine lv_iload_n hx hb dX2_addToShop_2 rfl (lv_at hl 1 rfl) ?_
  refine lv_bipush (v := 28) hx hb dX2_addToShop_3 (by decide) ?_
  refine lv_imul hx hb dX2_addToShop_5 ?_
  refine lv_iadd hx hb dX2_addToShop_6 ?_
  refine lv_iload_n hx hb dX2_addToShop_7 rfl (lv_at hl 2 rfl) ?_
  refine lv_iadd hx hb dX2_addToShop_8 ?_
  refine lv_istore (lv' := [(4, .int ((113 + (a1 * 28)) + a2)), (0, .ref (q 3)), (1, .int a1), (2, .int a2), (3, .int a3)]) hx hb dX2_addToShop_9 hl (by decide) rfl (fun ls hl => ?_)
  refine lv_aload_n hx hb dX2_addToShop_11 rfl (lv_at hl 1 rfl) ?_
  refine lv_iload hx hb dX2_addToShop_12 (lv_at hl 0 rfl) ?_
  refine lv_aload_n hx hb dX2_addToShop_14 rfl (lv_at hl 1 rfl) ?_
  refine lv_iload hx hb dX2_addToShop_15 (lv_at hl 0 rfl) ?_
  refine bcall_Ri (va_runV (As := [.int ((113 + (a1 * 28)) + a2)]) (rest := [.int ((113 + (a1 * 28)) + a2), .ref (q 3)]) ⟨hx, hb, hml, hown, hts⟩ (C2_get l D cI cO q _ _ hP ((113 + (a1 * 28)) + a2)) (cwV 1 hts gX2_addToShop_X2_get rfl rfl rfl ⟨rfl, bd_X2get⟩ ⟨Nat.le_of_ble_eq_true rfl, Nat.le_of_ble_eq_true rfl⟩) (bPV hk (va_recv hk.1 hP (ci := 2) (q0 := 3) rfl (wC_3 _ _ _ _))) rfl rfl hl.1 rfl (lv_room (Nat.le_of_ble_eq_true rfl)) dX2_addToShop_17 ⟨Nat.zero_le _, Nat.zero_le _⟩) hS (fun locs hS => ?_)
  refine lv_iload_n hx hb dX2_addToShop_20 rfl (lv_at hl 4 rfl) ?_
  refine lv_iadd hx hb dX2_addToShop_21 ?_
  refine bcall_Wv (va_runV (As := [.int ((113 + (a1 * 28)) + a2), .int ((F2_get u ((113 + (a1 * 28)) + a2)) + a3)]) (rest := []) ⟨hx, hb, hml, hown, hts⟩ (C2_put l D cI cO q _ _ hq hP ((113 + (a1 * 28)) + a2) ((F2_get u ((113 + (a1 * 28)) + a2)) + a3)) (cwV 2 hts gX2_addToShop_X2_put rfl rfl rfl ⟨rfl, bd_X2put⟩ ⟨Nat.le_of_ble_eq_true rfl, Nat.le_of_ble_eq_true rfl⟩) (bPV hk (va_recv hk.1 hP (ci := 2) (q0 := 3) rfl (wC_3 _ _ _ _))) rfl rfl hl.1 rfl (lv_room (Nat.le_of_ble_eq_true rfl)) dX2_addToShop_22 ⟨Nat.zero_le _, Nat.zero_le _⟩) hS (fun H locs hP _ hS => ?_)
  exact bret_Wv hx hb hr hP trivial hS hlocks dX2_addToShop_25 (by rw [← hF, F2_addToShop])
def F2_ofSwaps (u : bU) (a1 : Int32) (a2 : Int32) : Int32 := (F2_get u ((281 + (a1 * 8)) + a2))
set_option maxHeartbeats 4000000 in
set_option maxRecDepth 100000 in
theorem C2_ofSwaps (l : Launch) (D : va_G) (cI cO : ClassId) (q : Nat → Nat) (u : bU) (H0 : Heap) (hP : va_P D vwCl (wC cI cO q u) H0) (a1 : Int32) (a2 : Int32) : Met l yX2_ofSwaps wsX2_ofSwaps ({ frames := 1, cells := 0, slots := 0, locals := 21 }) (bP D [(cI, .int), (cO, .object RX2)] H0 [.ref (q 3), .int a1, .int a2]) (bRi H0 (F2_ofSwaps u a1 a2)) 0 0 (fun _ => False) := by
  refine Met.ofW (cc := cX2_ofSwaps) (maxL := 3) (ret := (some .int)) (by decide) rfl ?_
  intro p e s m args below meth c s₁ B hml hv
  obtain ⟨rfl, hH, hk⟩ := hv
  subst hH
  have hx := B.exec
  have hb := B.bytes
  have hr := B.returns
  have hts := atoms_spec (ws := wsX2_ofSwaps) B.pre
  have hown : s.vm.findClass RX2 = some m.cls := findClass_of_methodNamed B.named
  have hlocks := B.notSynchronized
  have hS : va_S (fun _ => False) s.heap s.heap [] := va_S.rf
  have hl := lv_entry ([.ref (q 3), .int a1, .int a2]) (n := 3) (Nat.le_of_ble_eq_true rfl)
  rw [lg_entry_eq]
  generalize (lg_sl ([.ref (q 3), .int a1, .int a2]) ++ List.replicate (3 - (lg_sl ([.ref (q 3), .int a1, .int a2])).length) Slot.unset).toArray = ls at hl ⊢
  have hl : lv_has ls 3 [(0, .ref (q 3)), (1, .int a1), (2, .int a2)] := hl
  generalize hF : F2_ofSwaps u a1 a2 = tgt
  refine lv_aload_n hx hb dX2_ofSwaps_0 rfl (lv_at hl 0 rfl) ?_
  refine lv_sipush (v := 281) hx hb dX2_ofSwaps_1 (by decide) ?_
  refine lv_iload_n hx hb dX2_ofSwaps_4 rfl (lv_at hl 1 rfl) ?_
  refine lv_bipush (v := 8) hx hb dX2_ofSwaps_5 (by decide) ?_
  refine lv_imul hx hb dX2_ofSwaps_7 ?_
  refine lv_iadd hx hb dX2_ofSwaps_8 ?_
  refine lv_iload_n hx hb dX2_ofSwaps_9 rfl (lv_at hl 2 rfl) ?_
  refine lv_iadd hx hb dX2_ofSwaps_10 ?_
  refine bcall_Ri (va_runV (As := [.int ((281 + (a1 * 8)) + a2)]) (rest := []) ⟨hx, hb, hml, hown, hts⟩ (C2_get l D cI cO q _ _ hP ((281 + (a1 * 8)) + a2)) (cwV 1 hts gX2_ofSwaps_X2_get rfl rfl rfl ⟨rfl, bd_X2get⟩ ⟨Nat.le_of_ble_eq_true rfl, Nat.le_of_ble_eq_true rfl⟩) (bPV hk (va_recv hk.1 hP (ci := 2) (q0 := 3) rfl (wC_3 _ _ _ _))) rfl rfl hl.1 rfl (lv_room (Nat.le_of_ble_eq_true rfl)) dX2_ofSwaps_11 ⟨Nat.zero_le _, Nat.zero_le _⟩) hS (fun locs hS => ?_)
  exact bret_Ri hx hb hr hS hlocks dX2_ofSwaps_14 (by rw [← hF, F2_ofSwaps])
def F2_addToSwaps (u : bU) (a1 : Int32) (a2 : Int32) (a3 : Int32) : bU := (F2_put u ((281 + (a1 * 8)) + a2) ((F2_get u ((281 + (a1 * 8)) + a2)) + a3))
set_option maxHeartbeats 4000000 in
set_option maxRecDepth 100000 in
theorem C2_addToSwaps (l : Launch) (D : va_G) (cI cO : ClassId) (q : Nat → Nat) (u : bU) (H0 : Heap) (hq : bInj 23 q) (hP : va_P D vwCl (wC cI cO q u) H0) (a1 : Int32) (a2 : Int32) (a3 : Int32) : Met l yX2_addToSwaps wsX2_addToSwaps ({ frames := 1, cells := 0, slots := 0, locals := 22 }) (bP D [(cI, .int), (cO, .object RX2)] H0 [.ref (q 3), .int a1, .int a2, .int a3]) (bWv D (wC cI cO q) bT (bA 23 q H0.size) (F2_addToSwaps u a1 a2 a3)) 0 0 (bA 23 q H0.size) := by
  refine Met.ofW (cc := cX2_addToSwaps) (maxL := 5) (ret := none) (by decide) rfl ?_
  intro p e s m args below meth c s₁ B hml hv
  obtain ⟨rfl, hH, hk⟩ := hv
  subst hH
  have hx := B.exec
  have hb := B.bytes
  have hr := B.returns
  have hts := atoms_spec (ws := wsX2_addToSwaps) B.pre
  have hown : s.vm.findClass RX2 = some m.cls := findClass_of_methodNamed B.named
  have hlocks := B.notSynchronized
  have hS : va_S (bA 23 q s.heap.size) s.heap s.heap [] := va_S.rf
  have hl := lv_entry ([.ref (q 3), .int a1, .int a2, .int a3]) (n := 5) (Nat.le_of_ble_eq_true rfl)
  rw [lg_entry_eq]
  generalize (lg_sl ([.ref (q 3), .int a1, .int a2, .int a3]) ++ List.replicate (5 - (lg_sl ([.ref (q 3), .int a1, .int a2, .int a3])).length) Slot.unset).toArray = ls at hl ⊢
  have hl : lv_has ls 5 [(0, .ref (q 3)), (1, .int a1), (2, .int a2), (3, .int a3)] := hl
  generalize hF : F2_addToSwaps u a1 a2 a3 = tgt
  refine lv_sipush (v := 281) hx hb dX2_addToSwaps_0 (by decide) ?_
  refine lv_iload_n hx hb dX2_addToSwaps_3 rfl (lv_at hl 1 rfl) ?_
  refine lv_bipush (v := 8) hx hb dX2_addToSwaps_4 (by decide) ?_
  refine lv_imul hx hb dX2_addToSwaps_6 ?_
  refine lv_iadd hx hb dX2_addToSwaps_7 ?_
  refine lv_iload_n hx hb dX2_addToSwaps_8 rfl (lv_at hl 2 rfl) ?_
  refine lv_iadd hx hb dX2_addToSwaps_9 ?_
  refine lv_istore (lv' := [(4, .int ((281 + (a1 * 8)) + a2)), (0, .ref (q 3)), (1, .int a1), (2, .int a2), (3, .int a3)]) hx hb dX2_addToSwaps_10 hl (by decide) rfl (fun ls hl => ?_)
  refine lv_aload_n hx hb dX2_addToSwaps_12 rfl (lv_at hl 1 rfl) ?_
  refine lv_iload hx hb dX2_addToSwaps_13 (lv_at hl 0 rfl) ?_
  refine lv_aload_n hx hb dX2_addToSwaps_15 rfl (lv_at hl 1 rfl) ?_
  refine lv_iload hx hb dX2_addToSwaps_16 (lv_at hl 0 rfl) ?_
  refine bcall_Ri (va_runV (As := [.int ((281 + (a1 * 8)) + a2)]) (rest := [.int ((281 + (a1 * 8)) + a2), .ref (q 3)]) ⟨hx, hb, hml, hown, hts⟩ (C2_get l D cI cO q _ _ hP ((281 + (a1 * 8)) + a2)) (cwV 1 hts gX2_addToSwaps_X2_get rfl rfl rfl ⟨rfl, bd_X2get⟩ ⟨Nat.le_of_ble_eq_true rfl, Nat.le_of_ble_eq_true rfl⟩) (bPV hk (va_recv hk.1 hP (ci := 2) (q0 := 3) rfl (wC_3 _ _ _ _))) rfl rfl hl.1 rfl (lv_room (Nat.le_of_ble_eq_true rfl)) dX2_addToSwaps_18 ⟨Nat.zero_le _, Nat.zero_le _⟩) hS (fun locs hS => ?_)
  refine lv_iload_n hx hb dX2_addToSwaps_21 rfl (lv_at hl 4 rfl) ?_
  refine lv_iadd hx hb dX2_addToSwaps_22 ?_
  refine bcall_Wv (va_runV (As := [.int ((281 + (a1 * 8)) + a2), .int ((F2_get u ((281 + (a1 * 8)) + a2)) + a3)]) (rest := []) ⟨hx, hb, hml, hown, hts⟩ (C2_put l D cI cO q _ _ hq hP ((281 + (a1 * 8)) + a2) ((F2_get u ((281 + (a1 * 8)) + a2)) + a3)) (cwV 2 hts gX2_addToSwaps_X2_put rfl rfl rfl ⟨rfl, bd_X2put⟩ ⟨Nat.le_of_ble_eq_true rfl, Nat.le_of_ble_eq_true rfl⟩) (bPV hk (va_recv hk.1 hP (ci := 2) (q0 := 3) rfl (wC_3 _ _ _ _))) rfl rfl hl.1 rfl (lv_room (Nat.le_of_ble_eq_true rfl)) dX2_addToSwaps_23 ⟨Nat.zero_le _, Nat.zero_le _⟩) hS (fun H locs hP _ hS => ?_)
  exact bret_Wv hx hb hr hP trivial hS hlocks dX2_addToSwaps_26 (by rw [← hF, F2_addToSwaps])
def L2_overShops_4 (u : bU) (a1 : Int32) : Nat → Nat → Int32 → Int32
  | 0, _, x2_4 => x2_4
  | n4 + 1, j4, x2_4 => (if (6 : Int32) ≤ (nI j4) then x2_4 else (L2_overShops_4 u a1 n4 (j4 + 1) (x2_4 + (F2_ofShop u (nI j4) a1))))
def F2_overShops (u : bU) (a1 : Int32) : Int32 := (L2_overShops_4 u a1 (6 + 1) 0 0)
set_option maxHeartbeats 4000000 in
set_option maxRecDepth 100000 in
theorem C2_overShops (l : Launch) (D : va_G) (cI cO : ClassId) (q : Nat → Nat) (u : bU) (H0 : Heap) (hP : va_P D vwCl (wC cI cO q u) H0) (a1 : Int32) : Met l yX2_overShops wsX2_overShops ({ frames := 2, cells := 0, slots := 0, locals := 43 }) (bP D [(cI, .int), (cO, .object RX2)] H0 [.ref (q 3), .int a1]) (bRi H0 (F2_overShops u a1)) 0 0 (fun _ => False) := by
  refine Met.ofW (cc := cX2_overShops) (maxL := 4) (ret := (some .int)) (by decide) rfl ?_
  intro p e s m args below meth c s₁ B hml hv
  obtain ⟨rfl, hH, hk⟩ := hv
  subst hH
  have hx := B.exec
  have hb := B.bytes
  have hr := B.returns
  have hts := atoms_spec (ws := wsX2_overShops) B.pre
  have hown : s.vm.findClass RX2 = some m.cls := findClass_of_methodNamed B.named
  have hlocks := B.notSynchronized
  have hS : va_S (fun _ => False) s.heap s.heap [] := va_S.rf
  have hl := lv_entry ([.ref (q 3), .int a1]) (n := 4) (Nat.le_of_ble_eq_true rfl)
  rw [lg_entry_eq]
  generalize (lg_sl ([.ref (q 3), .int a1]) ++ List.replicate (4 - (lg_sl ([.ref (q 3), .int a1])).length) Slot.unset).toArray = ls at hl ⊢
  have hl : lv_has ls 4 [(0, .ref (q 3)), (1, .int a1)] := hl
  generalize hF : F2_overShops u a1 = tgt
  refine lv_iconst (v := 0) hx hb dX2_overShops_0 (by decide) ?_
  refine lv_istore_n (lv' := [(2, .int 0), (0, .ref (q 3)), (1, .int a1)]) hx hb dX2_overShops_1 rfl hl (by decide) rfl (fun ls hl => ?_)
  refine lv_iconst (v := 0) hx hb dX2_overShops_2 (by decide) ?_
  refine lv_istore_n (lv' := [(3, .int 0), (2, .int 0), (0, .ref (q 3)), (1, .int a1)]) hx hb dX2_overShops_3 rfl hl (by decide) rfl (fun ls hl => ?_)
  have loop4 : ∀ (n4 j4 : Nat) (x2_4 : Int32) (locs : List Loc) (ls : Array Slot), j4 ≤ 6 → 6 + 1 ≤ n4 + j4 → lv_has ls 4 [(0, .ref (q 3)), (1, .int a1), (2, .int x2_4), (3, .int (nI j4))] → va_S (fun _ => False) s.heap s.heap locs → ∀ X : Int32, L2_overShops_4 u a1  n4 j4 x2_4 = X → (∀ (locs : List Loc) (ls : Array Slot), lv_has ls 4 [(0, .ref (q 3)), (1, .int a1), (2, .int X)] → va_S (fun _ => False) s.heap s.heap locs → W p l e (headSpec wsX2_overShops ({ frames := 2, cells := 0, slots := 0, locals := 43 })).room s m ([.ref (q 3), .int a1] : List Value).toArray below meth c s.heap locs 0 0 (MQ below (bRi s.heap tgt) ([.ref (q 3), .int a1] : List Value).toArray s 0 0 (fun _ => False)) (F0 m 25 ls [])) → W p l e (headSpec wsX2_overShops ({ frames := 2, cells := 0, slots := 0, locals := 43 })).room s m ([.ref (q 3), .int a1] : List Value).toArray below meth c s.heap locs 0 0 (MQ below (bRi s.heap tgt) ([.ref (q 3), .int a1] : List Value).toArray s 0 0 (fun _ => False)) (F0 m 4 ls []) := by
    intro n4
    induction n4 with
    | zero => intro j4 x2_4 locs ls hj hn; exact absurd hn (by omega)
    | succ n4 ih =>
      intro j4 x2_4 locs ls hj hn hl hS X hF kx
      refine lv_iload_n hx hb dX2_overShops_4 rfl (lv_at hl 3 rfl) ?_
      refine lv_bipush (v := 6) hx hb dX2_overShops_5 (by decide) ?_
      refine lv_icmp_ge (tgt := 25) hx hb dX2_overShops_7 (by decide) (fun c_1 => ?_) (fun c_1 => ?_)
      · obtain rfl : X = x2_4 := by rw [← hF, L2_overShops_4, if_pos c_1]
        exact kx _ _ (lv_sub hl [0, 1, 2] rfl) hS
      · have hlt_2 : j4 < 6 := bLt c_1 (by omega) (by decide)
        refine lv_iload_n hx hb dX2_overShops_10 rfl (lv_at hl 2 rfl) ?_
        refine lv_aload_n hx hb dX2_overShops_11 rfl (lv_at hl 0 rfl) ?_
        refine lv_iload_n hx hb dX2_overShops_12 rfl (lv_at hl 3 rfl) ?_
        refine lv_iload_n hx hb dX2_overShops_13 rfl (lv_at hl 1 rfl) ?_
        refine bcall_Ri (va_runV (As := [.int (nI j4), .int a1]) (rest := [.int x2_4]) ⟨hx, hb, hml, hown, hts⟩ (C2_ofShop l D cI cO q _ _ hP (nI j4) a1) (cwV 2 hts gX2_overShops_X2_ofShop rfl rfl rfl ⟨rfl, bd_X2ofShop⟩ ⟨Nat.le_of_ble_eq_true rfl, Nat.le_of_ble_eq_true rfl⟩) (bPV hk (va_recv hk.1 hP (ci := 2) (q0 := 3) rfl (wC_3 _ _ _ _))) rfl rfl hl.1 rfl (lv_room (Nat.le_of_ble_eq_true rfl)) dX2_overShops_14 ⟨Nat.zero_le _, Nat.zero_le _⟩) hS (fun locs hS => ?_)
        refine lv_iadd hx hb dX2_overShops_17 ?_
        refine lv_istore_n (lv' := [(2, .int (x2_4 + (F2_ofShop u (nI j4) a1))), (0, .ref (q 3)), (1, .int a1), (3, .int (nI j4))]) hx hb dX2_overShops_18 rfl hl (by decide) rfl (fun ls hl => ?_)
        refine lv_iinc (v := (nI (j4 + 1))) (lv' := [(3, .int (nI (j4 + 1))), (2, .int (x2_4 + (F2_ofShop u (nI j4) a1))), (0, .ref (q 3)), (1, .int a1)]) hx hb dX2_overShops_19 hl (k := 3) rfl (bInc j4) (by decide) rfl (fun ls hl => ?_)
        refine lv_goto (tgt := 4) hx hb dX2_overShops_22 (by decide) ?_
        exact ih (j4 + 1) (x2_4 + (F2_ofShop u (nI j4) a1)) _ _ (by omega) (by omega) (lv_sub hl [2, 3, 1, 0] rfl) hS X (by rw [← hF, L2_overShops_4, if_neg c_1]) kx
  refine loop4 (6 + 1) 0 0 _ _ (by omega) (by omega) (lv_sub hl [2, 3, 1, 0] rfl) hS _ rfl (fun locs ls hl hS => ?_)
  refine lv_iload_n hx hb dX2_overShops_25 rfl (lv_at hl 2 rfl) ?_
  exact bret_Ri hx hb hr hS hlocks dX2_overShops_26 (by rw [← hF, F2_overShops])
def L2_overBrands_4 (u : bU) (a1 : Int32) : Nat → Nat → Int32 → Int32
  | 0, _, x2_4 => x2_4
  | n4 + 1, j4, x2_4 => (if (8 : Int32) ≤ (nI j4) then x2_4 else (L2_overBrands_4 u a1 n4 (j4 + 1) (x2_4 + (F2_ofBrand u (nI j4) a1))))
def F2_overBrands (u : bU) (a1 : Int32) : Int32 := (L2_overBrands_4 u a1 (8 + 1) 0 0)
set_option maxHeartbeats 4000000 in
set_option maxRecDepth 100000 in
theorem C2_overBrands (l : Launch) (D : va_G) (cI cO : ClassId) (q : Nat → Nat) (u : bU) (H0 : Heap) (hP : va_P D vwCl (wC cI cO q u) H0) (a1 : Int32) : Met l yX2_overBrands wsX2_overBrands ({ frames := 2, cells := 0, slots := 0, locals := 43 }) (bP D [(cI, .int), (cO, .object RX2)] H0 [.ref (q 3), .int a1]) (bRi H0 (F2_overBrands u a1)) 0 0 (fun _ => False) := by
  refine Met.ofW (cc := cX2_overBrands) (maxL := 4) (ret := (some .int)) (by decide) rfl ?_
  intro p e s m args below meth c s₁ B hml hv
  obtain ⟨rfl, hH, hk⟩ := hv
  subst hH
  have hx := B.exec
  have hb := B.bytes
  have hr := B.returns
  have hts := atoms_spec (ws := wsX2_overBrands) B.pre
  have hown : s.vm.findClass RX2 = some m.cls := findClass_of_methodNamed B.named
  have hlocks := B.notSynchronized
  have hS : va_S (fun _ => False) s.heap s.heap [] := va_S.rf
  have hl := lv_entry ([.ref (q 3), .int a1]) (n := 4) (Nat.le_of_ble_eq_true rfl)
  rw [lg_entry_eq]
  generalize (lg_sl ([.ref (q 3), .int a1]) ++ List.replicate (4 - (lg_sl ([.ref (q 3), .int a1])).length) Slot.unset).toArray = ls at hl ⊢
  have hl : lv_has ls 4 [(0, .ref (q 3)), (1, .int a1)] := hl
  generalize hF : F2_overBrands u a1 = tgt
  refine lv_iconst (v := 0) hx hb dX2_overBrands_0 (by decide) ?_
  refine lv_istore_n (lv' := [(2, .int 0), (0, .ref (q 3)), (1, .int a1)]) hx hb dX2_overBrands_1 rfl hl (by decide) rfl (fun ls hl => ?_)
  refine lv_iconst (v := 0) hx hb dX2_overBrands_2 (by decide) ?_
  refine lv_istore_n (lv' := [(3, .int 0), (2, .int 0), (0, .ref (q 3)), (1, .int a1)]) hx hb dX2_overBrands_3 rfl hl (by decide) rfl (fun ls hl => ?_)
  have loop4 : ∀ (n4 j4 : Nat) (x2_4 : Int32) (locs : List Loc) (ls : Array Slot), j4 ≤ 8 → 8 + 1 ≤ n4 + j4 → lv_has ls 4 [(0, .ref (q 3)), (1, .int a1), (2, .int x2_4), (3, .int (nI j4))] → va_S (fun _ => False) s.heap s.heap locs → ∀ X : Int32, L2_overBrands_4 u a1  n4 j4 x2_4 = X → (∀ (locs : List Loc) (ls : Array Slot), lv_has ls 4 [(0, .ref (q 3)), (1, .int a1), (2, .int X)] → va_S (fun _ => False) s.heap s.heap locs → W p l e (headSpec wsX2_overBrands ({ frames := 2, cells := 0, slots := 0, locals := 43 })).room s m ([.ref (q 3), .int a1] : List Value).toArray below meth c s.heap locs 0 0 (MQ below (bRi s.heap tgt) ([.ref (q 3), .int a1] : List Value).toArray s 0 0 (fun _ => False)) (F0 m 25 ls [])) → W p l e (headSpec wsX2_overBrands ({ frames := 2, cells := 0, slots := 0, locals := 43 })).room s m ([.ref (q 3), .int a1] : List Value).toArray below meth c s.heap locs 0 0 (MQ below (bRi s.heap tgt) ([.ref (q 3), .int a1] : List Value).toArray s 0 0 (fun _ => False)) (F0 m 4 ls []) := by
    intro n4
    induction n4 with
    | zero => intro j4 x2_4 locs ls hj hn; exact absurd hn (by omega)
    | succ n4 ih =>
      intro j4 x2_4 locs ls hj hn hl hS X hF kx
      refine lv_iload_n hx hb dX2_overBrands_4 rfl (lv_at hl 3 rfl) ?_
      refine lv_bipush (v := 8) hx hb dX2_overBrands_5 (by decide) ?_
      refine lv_icmp_ge (tgt := 25) hx hb dX2_overBrands_7 (by decide) (fun c_1 => ?_) (fun c_1 => ?_)
      · obtain rfl : X = x2_4 := by rw [← hF, L2_overBrands_4, if_pos c_1]
        exact kx _ _ (lv_sub hl [0, 1, 2] rfl) hS
      · have hlt_2 : j4 < 8 := bLt c_1 (by omega) (by decide)
        refine lv_iload_n hx hb dX2_overBrands_10 rfl (lv_at hl 2 rfl) ?_
        refine lv_aload_n hx hb dX2_overBrands_11 rfl (lv_at hl 0 rfl) ?_
        refine lv_iload_n hx hb dX2_overBrands_12 rfl (lv_at hl 3 rfl) ?_
        refine lv_iload_n hx hb dX2_overBrands_13 rfl (lv_at hl 1 rfl) ?_
        refine bcall_Ri (va_runV (As := [.int (nI j4), .int a1]) (rest := [.int x2_4]) ⟨hx, hb, hml, hown, hts⟩ (C2_ofBrand l D cI cO q _ _ hP (nI j4) a1) (cwV 2 hts gX2_overBrands_X2_ofBrand rfl rfl rfl ⟨rfl, bd_X2ofBrand⟩ ⟨Nat.le_of_ble_eq_true rfl, Nat.le_of_ble_eq_true rfl⟩) (bPV hk (va_recv hk.1 hP (ci := 2) (q0 := 3) rfl (wC_3 _ _ _ _))) rfl rfl hl.1 rfl (lv_room (Nat.le_of_ble_eq_true rfl)) dX2_overBrands_14 ⟨Nat.zero_le _, Nat.zero_le _⟩) hS (fun locs hS => ?_)
        refine lv_iadd hx hb dX2_overBrands_17 ?_
        refine lv_istore_n (lv' := [(2, .int (x2_4 + (F2_ofBrand u (nI j4) a1))), (0, .ref (q 3)), (1, .int a1), (3, .int (nI j4))]) hx hb dX2_overBrands_18 rfl hl (by decide) rfl (fun ls hl => ?_)
        refine lv_iinc (v := (nI (j4 + 1))) (lv' := [(3, .int (nI (j4 + 1))), (2, .int (x2_4 + (F2_ofBrand u (nI j4) a1))), (0, .ref (q 3)), (1, .int a1)]) hx hb dX2_overBrands_19 hl (k := 3) rfl (bInc j4) (by decide) rfl (fun ls hl => ?_)
        refine lv_goto (tgt := 4) hx hb dX2_overBrands_22 (by decide) ?_
        exact ih (j4 + 1) (x2_4 + (F2_ofBrand u (nI j4) a1)) _ _ (by omega) (by omega) (lv_sub hl [2, 3, 1, 0] rfl) hS X (by rw [← hF, L2_overBrands_4, if_neg c_1]) kx
  refine loop4 (8 + 1) 0 0 _ _ (by omega) (by omega) (lv_sub hl [2, 3, 1, 0] rfl) hS _ rfl (fun locs ls hl hS => ?_)
  refine lv_iload_n hx hb dX2_overBrands_25 rfl (lv_at hl 2 rfl) ?_
  exact bret_Ri hx hb hr hS hlocks dX2_overBrands_26 (by rw [← hF, F2_overBrands])
def L2_overBrandsOf_5 (u : bU) (a1 : Int32) (a2 : Int32) : Nat → Nat → Int32 → Int32
  | 0, _, x3_5 => x3_5
  | n5 + 1, j5, x3_5 => (if (8 : Int32) ≤ (nI j5) then x3_5 else (L2_overBrandsOf_5 u a1 a2 n5 (j5 + 1) (x3_5 + (F2_ofShop u a1 (a2 + (nI j5))))))
def F2_overBrandsOf (u : bU) (a1 : Int32) (a2 : Int32) : Int32 := (L2_overBrandsOf_5 u a1 a2 (8 + 1) 0 0)
set_option maxHeartbeats 4000000 in
set_option maxRecDepth 100000 in
theorem C2_overBrandsOf (l : Launch) (D : va_G) (cI cO : ClassId) (q : Nat → Nat) (u : bU) (H0 : Heap) (hP : va_P D vwCl (wC cI cO q u) H0) (a1 : Int32) (a2 : Int32) : Met l yX2_overBrandsOf wsX2_overBrandsOf ({ frames := 2, cells := 0, slots := 0, locals := 43 }) (bP D [(cI, .int), (cO, .object RX2)] H0 [.ref (q 3), .int a1, .int a2]) (bRi H0 (F2_overBrandsOf u a1 a2)) 0 0 (fun _ => False) := by
  refine Met.ofW (cc := cX2_overBrandsOf) (maxL := 5) (ret := (some .int)) (by decide) rfl ?_
  intro p e s m args below meth c s₁ B hml hv
  obtain ⟨rfl, hH, hk⟩ := hv
  subst hH
  have hx := B.exec
  have hb := B.bytes
  have hr := B.returns
  have hts := atoms_spec (ws := wsX2_overBrandsOf) B.pre
  have hown : s.vm.findClass RX2 = some m.cls := findClass_of_methodNamed B.named
  have hlocks := B.notSynchronized
  have hS : va_S (fun _ => False) s.heap s.heap [] := va_S.rf
  have hl := lv_entry ([.ref (q 3), .int a1, .int a2]) (n := 5) (Nat.le_of_ble_eq_true rfl)
  rw [lg_entry_eq]
  generalize (lg_sl ([.ref (q 3), .int a1, .int a2]) ++ List.replicate (5 - (lg_sl ([.ref (q 3), .int a1, .int a2])).length) Slot.unset).toArray = ls at hl ⊢
  have hl : lv_has ls 5 [(0, .ref (q 3)), (1, .int a1), (2, .int a2)] := hl
  generalize hF : F2_overBrandsOf u a1 a2 = tgt
  refine lv_iconst (v := 0) hx hb dX2_overBrandsOf_0 (by decide) ?_
  refine lv_istore_n (lv' := [(3, .int 0), (0, .ref (q 3)), (1, .int a1), (2, .int a2)]) hx hb dX2_overBrandsOf_1 rfl hl (by decide) rfl (fun ls hl => ?_)
  refine lv_iconst (v := 0) hx hb dX2_overBrandsOf_2 (by decide) ?_
  refine lv_istore (lv' := [(4, .int 0), (3, .int 0), (0, .ref (q 3)), (1, .int a1), (2, .int a2)]) hx hb dX2_overBrandsOf_3 hl (by decide) rfl (fun ls hl => ?_)
  have loop5 : ∀ (n5 j5 : Nat) (x3_5 : Int32) (locs : List Loc) (ls : Array Slot), j5 ≤ 8 → 8 + 1 ≤ n5 + j5 → lv_has ls 5 [(0, .ref (q 3)), (1, .int a1), (2, .int a2), (3, .int x3_5), (4, .int (nI j5))] → va_S (fun _ => False) s.heap s.heap locs → ∀ X : Int32, L2_overBrandsOf_5 u a1 a2  n5 j5 x3_5 = X → (∀ (locs : List Loc) (ls : Array Slot), lv_has ls 5 [(0, .ref (q 3)), (1, .int a1), (2, .int a2), (3, .int X)] → va_S (fun _ => False) s.heap s.heap locs → W p l e (headSpec wsX2_overBrandsOf ({ frames := 2, cells := 0, slots := 0, locals := 43 })).room s m ([.ref (q 3), .int a1, .int a2] : List Value).toArray below meth c s.heap locs 0 0 (MQ below (bRi s.heap tgt) ([.ref (q 3), .int a1, .int a2] : List Value).toArray s 0 0 (fun _ => False)) (F0 m 30 ls [])) → W p l e (headSpec wsX2_overBrandsOf ({ frames := 2, cells := 0, slots := 0, locals := 43 })).room s m ([.ref (q 3), .int a1, .int a2] : List Value).toArray below meth c s.heap locs 0 0 (MQ below (bRi s.heap tgt) ([.ref (q 3), .int a1, .int a2] : List Value).toArray s 0 0 (fun _ => False)) (F0 m 5 ls []) := by
    intro n5
    induction n5 with
    | zero => intro j5 x3_5 locs ls hj hn; exact absurd hn (by omega)
    | succ n5 ih =>
      intro j5 x3_5 locs ls hj hn hl hS X hF kx
      refine lv_iload hx hb dX2_overBrandsOf_5 (lv_at hl 4 rfl) ?_
      refine lv_bipush (v := 8) hx hb dX2_overBrandsOf_7 (by decide) ?_
      refine lv_icmp_ge (tgt := 30) hx hb dX2_overBrandsOf_9 (by decide) (fun c_1 => ?_) (fun c_1 => ?_)
      · obtain rfl : X = x3_5 := by rw [← hF, L2_overBrandsOf_5, if_pos c_1]
        exact kx _ _ (lv_sub hl [0, 1, 2, 3] rfl) hS
      · have hlt_2 : j5 < 8 := bLt c_1 (by omega) (by decide)
        refine lv_iload_n hx hb dX2_overBrandsOf_12 rfl (lv_at hl 3 rfl) ?_
        refine lv_aload_n hx hb dX2_overBrandsOf_13 rfl (lv_at hl 0 rfl) ?_
        refine lv_iload_n hx hb dX2_overBrandsOf_14 rfl (lv_at hl 1 rfl) ?_
        refine lv_iload_n hx hb dX2_overBrandsOf_15 rfl (lv_at hl 2 rfl) ?_
        refine lv_iload hx hb dX2_overBrandsOf_16 (lv_at hl 4 rfl) ?_
        refine lv_iadd hx hb dX2_overBrandsOf_18 ?_
        refine bcall_Ri (va_runV (As := [.int a1, .int (a2 + (nI j5))]) (rest := [.int x3_5]) ⟨hx, hb, hml, hown, hts⟩ (C2_ofShop l D cI cO q _ _ hP a1 (a2 + (nI j5))) (cwV 2 hts gX2_overBrandsOf_X2_ofShop rfl rfl rfl ⟨rfl, bd_X2ofShop⟩ ⟨Nat.le_of_ble_eq_true rfl, Nat.le_of_ble_eq_true rfl⟩) (bPV hk (va_recv hk.1 hP (ci := 2) (q0 := 3) rfl (wC_3 _ _ _ _))) rfl rfl hl.1 rfl (lv_room (Nat.le_of_ble_eq_true rfl)) dX2_overBrandsOf_19 ⟨Nat.zero_le _, Nat.zero_le _⟩) hS (fun locs hS => ?_)
        refine lv_iadd hx hb dX2_overBrandsOf_22 ?_
        refine lv_istore_n (lv' := [(3, .int (x3_5 + (F2_ofShop u a1 (a2 + (nI j5))))), (0, .ref (q 3)), (1, .int a1), (2, .int a2), (4, .int (nI j5))]) hx hb dX2_overBrandsOf_23 rfl hl (by decide) rfl (fun ls hl => ?_)
        refine lv_iinc (v := (nI (j5 + 1))) (lv' := [(4, .int (nI (j5 + 1))), (3, .int (x3_5 + (F2_ofShop u a1 (a2 + (nI j5))))), (0, .ref (q 3)), (1, .int a1), (2, .int a2)]) hx hb dX2_overBrandsOf_24 hl (k := 4) rfl (bInc j5) (by decide) rfl (fun ls hl => ?_)
        refine lv_goto (tgt := 5) hx hb dX2_overBrandsOf_27 (by decide) ?_
        exact ih (j5 + 1) (x3_5 + (F2_ofShop u a1 (a2 + (nI j5)))) _ _ (by omega) (by omega) (lv_sub hl [2, 3, 4, 1, 0] rfl) hS X (by rw [← hF, L2_overBrandsOf_5, if_neg c_1]) kx
  refine loop5 (8 + 1) 0 0 _ _ (by omega) (by omega) (lv_sub hl [2, 3, 4, 1, 0] rfl) hS _ rfl (fun locs ls hl hS => ?_)
  refine lv_iload_n hx hb dX2_overBrandsOf_30 rfl (lv_at hl 3 rfl) ?_
  exact bret_Ri hx hb hr hS hlocks dX2_overBrandsOf_31 (by rw [← hF, F2_overBrandsOf])
def F2_brandNumber (u : bU) (a1 : Int32) (a2 : Int32) : Int32 := (if a2 = 3 then (F2_overShops u (10 + a1)) else (if a2 = 4 then (F2_overShops u (20 + a1)) else (F2_ofBrand u a1 a2)))
set_option maxHeartbeats 4000000 in
set_option maxRecDepth 100000 in
theorem C2_brandNumber (l : Launch) (D : va_G) (cI cO : ClassId) (q : Nat → Nat) (u : bU) (H0 : Heap) (hP : va_P D vwCl (wC cI cO q u) H0) (a1 : Int32) (a2 : Int32) : Met l yX2_brandNumber wsX2_brandNumber ({ frames := 3, cells := 0, slots := 0, locals := 66 }) (bP D [(cI, .int), (cO, .object RX2)] H0 [.ref (q 3), .int a1, .int a2]) (bRi H0 (F2_brandNumber u a1 a2)) 0 0 (fun _ => False) := by
  refine Met.ofW (cc := cX2_brandNumber) (maxL := 3) (ret := (some .int)) (by decide) rfl ?_
  intro p e s m args below meth c s₁ B hml hv
  obtain ⟨rfl, hH, hk⟩ := hv
  subst hH
  have hx := B.exec
  have hb := B.bytes
  have hr := B.returns
  have hts := atoms_spec (ws := wsX2_brandNumber) B.pre
  have hown : s.vm.findClass RX2 = some m.cls := findClass_of_methodNamed B.named
  have hlocks := B.notSynchronized
  have hS : va_S (fun _ => False) s.heap s.heap [] := va_S.rf
  have hl := lv_entry ([.ref (q 3), .int a1, .int a2]) (n := 3) (Nat.le_of_ble_eq_true rfl)
  rw [lg_entry_eq]
  generalize (lg_sl ([.ref (q 3), .int a1, .int a2]) ++ List.replicate (3 - (lg_sl ([.ref (q 3), .int a1, .int a2])).length) Slot.unset).toArray = ls at hl ⊢
  have hl : lv_has ls 3 [(0, .ref (q 3)), (1, .int a1), (2, .int a2)] := hl
  generalize hF : F2_brandNumber u a1 a2 = tgt
  refine lv_iload_n hx hb dX2_brandNumber_0 rfl (lv_at hl 2 rfl) ?_
  by_cases c_1 : a2 = 3
  · refine lv_lookup (off := 27) (tgt := 28) hx hb dX2_brandNumber_1 (by decide) (by rw [c_1]; decide) (by decide) ?_
    refine lv_aload_n hx hb dX2_brandNumber_28 rfl (lv_at hl 0 rfl) ?_
    refine lv_bipush (v := 10) hx hb dX2_brandNumber_29 (by decide) ?_
    refine lv_iload_n hx hb dX2_brandNumber_31 rfl (lv_at hl 1 rfl) ?_
    refine lv_iadd hx hb dX2_brandNumber_32 ?_
    refine bcall_Ri (va_runV (As := [.int (10 + a1)]) (rest := []) ⟨hx, hb, hml, hown, hts⟩ (C2_overShops l D cI cO q _ _ hP (10 + a1)) (cwV 1 hts gX2_brandNumber_X2_overShops rfl rfl rfl ⟨rfl, bd_X2overShops⟩ ⟨Nat.le_of_ble_eq_true rfl, Nat.le_of_ble_eq_true rfl⟩) (bPV hk (va_recv hk.1 hP (ci := 2) (q0 := 3) rfl (wC_3 _ _ _ _))) rfl rfl hl.1 rfl (lv_room (Nat.le_of_ble_eq_true rfl)) dX2_brandNumber_33 ⟨Nat.zero_le _, Nat.zero_le _⟩) hS (fun locs hS => ?_)
    exact bret_Ri hx hb hr hS hlocks dX2_brandNumber_36 (by rw [← hF, F2_brandNumber, if_pos c_1])
  · by_cases c_2 : a2 = 4
    · refine lv_lookup (off := 36) (tgt := 37) hx hb dX2_brandNumber_1 (by decide) (by rw [c_2]; decide) (by decide) ?_
      refine lv_aload_n hx hb dX2_brandNumber_37 rfl (lv_at hl 0 rfl) ?_
      refine lv_bipush (v := 20) hx hb dX2_brandNumber_38 (by decide) ?_
      refine lv_iload_n hx hb dX2_brandNumber_40 rfl (lv_at hl 1 rfl) ?_
      refine lv_iadd hx hb dX2_brandNumber_41 ?_
      refine bcall_Ri (va_runV (As := [.int (20 + a1)]) (rest := []) ⟨hx, hb, hml, hown, hts⟩ (C2_overShops l D cI cO q _ _ hP (20 + a1)) (cwV 1 hts gX2_brandNumber_X2_overShops rfl rfl rfl ⟨rfl, bd_X2overShops⟩ ⟨Nat.le_of_ble_eq_true rfl, Nat.le_of_ble_eq_true rfl⟩) (bPV hk (va_recv hk.1 hP (ci := 2) (q0 := 3) rfl (wC_3 _ _ _ _))) rfl rfl hl.1 rfl (lv_room (Nat.le_of_ble_eq_true rfl)) dX2_brandNumber_42 ⟨Nat.zero_le _, Nat.zero_le _⟩) hS (fun locs hS => ?_)
      exact bret_Ri hx hb hr hS hlocks dX2_brandNumber_45 (by rw [← hF, F2_brandNumber, if_neg c_1, if_pos c_2])
    · refine lv_lookup (off := 45) (tgt := 46) hx hb dX2_brandNumber_1 (by decide) (by show Op.lookupswitch.offset [(3, 27), (4, 36)] (45) _ = _; rw [lv_osw (a := 3) c_1 rfl, lv_osw (a := 4) c_2 rfl]; rfl) (by decide) ?_
      refine lv_aload_n hx hb dX2_brandNumber_46 rfl (lv_at hl 0 rfl) ?_
      refine lv_iload_n hx hb dX2_brandNumber_47 rfl (lv_at hl 1 rfl) ?_
      refine lv_iload_n hx hb dX2_brandNumber_48 rfl (lv_at hl 2 rfl) ?_
      refine bcall_Ri (va_runV (As := [.int a1, .int a2]) (rest := []) ⟨hx, hb, hml, hown, hts⟩ (C2_ofBrand l D cI cO q _ _ hP a1 a2) (cwV 2 hts gX2_brandNumber_X2_ofBrand rfl rfl rfl ⟨rfl, bd_X2ofBrand⟩ ⟨Nat.le_of_ble_eq_true rfl, Nat.le_of_ble_eq_true rfl⟩) (bPV hk (va_recv hk.1 hP (ci := 2) (q0 := 3) rfl (wC_3 _ _ _ _))) rfl rfl hl.1 rfl (lv_room (Nat.le_of_ble_eq_true rfl)) dX2_brandNumber_49 ⟨Nat.zero_le _, Nat.zero_le _⟩) hS (fun locs hS => ?_)
      exact bret_Ri hx hb hr hS hlocks dX2_brandNumber_52 (by rw [← hF, F2_brandNumber, if_neg c_1, if_neg c_2])
def F2_shopNumber (u : bU) (a1 : Int32) (a2 : Int32) : Int32 := (if a2 = 2 then (F2_overBrandsOf u a1 10) else (if a2 = 3 then (F2_overBrandsOf u a1 20) else (F2_ofShop u a1 a2)))
set_option maxHeartbeats 4000000 in
set_option maxRecDepth 100000 in
theorem C2_shopNumber (l : Launch) (D : va_G) (cI cO : ClassId) (q : Nat → Nat) (u : bU) (H0 : Heap) (hP : va_P D vwCl (wC cI cO q u) H0) (a1 : Int32) (a2 : Int32) : Met l yX2_shopNumber wsX2_shopNumber ({ frames := 3, cells := 0, slots := 0, locals := 67 }) (bP D [(cI, .int), (cO, .object RX2)] H0 [.ref (q 3), .int a1, .int a2]) (bRi H0 (F2_shopNumber u a1 a2)) 0 0 (fun _ => False) := by
  refine Met.ofW (cc := cX2_shopNumber) (maxL := 3) (ret := (some .int)) (by decide) rfl ?_
  intro p e s m args below meth c s₁ B hml hv
  obtain ⟨rfl, hH, hk⟩ := hv
  subst hH
  have hx := B.exec
  have hb := B.bytes
  have hr := B.returns
  have hts := atoms_spec (ws := wsX2_shopNumber) B.pre
  have hown : s.vm.findClass RX2 = some m.cls := findClass_of_methodNamed B.named
  have hlocks := B.notSynchronized
  have hS : va_S (fun _ => False) s.heap s.heap [] := va_S.rf
  have hl := lv_entry ([.ref (q 3), .int a1, .int a2]) (n := 3) (Nat.le_of_ble_eq_true rfl)
  rw [lg_entry_eq]
  generalize (lg_sl ([.ref (q 3), .int a1, .int a2]) ++ List.replicate (3 - (lg_sl ([.ref (q 3), .int a1, .int a2])).length) Slot.unset).toArray = ls at hl ⊢
  have hl : lv_has ls 3 [(0, .ref (q 3)), (1, .int a1), (2, .int a2)] := hl
  generalize hF : F2_shopNumber u a1 a2 = tgt
  refine lv_iload_n hx hb dX2_shopNumber_0 rfl (lv_at hl 2 rfl) ?_
  by_cases c_1 : a2 = 2
  · refine lv_lookup (off := 27) (tgt := 28) hx hb dX2_shopNumber_1 (by decide) (by rw [c_1]; decide) (by decide) ?_
    refine lv_aload_n hx hb dX2_shopNumber_28 rfl (lv_at hl 0 rfl) ?_
    refine lv_iload_n hx hb dX2_shopNumber_29 rfl (lv_at hl 1 rfl) ?_
    refine lv_bipush (v := 10) hx hb dX2_shopNumber_30 (by decide) ?_
    refine bcall_Ri (va_runV (As := [.int a1, .int 10]) (rest := []) ⟨hx, hb, hml, hown, hts⟩ (C2_overBrandsOf l D cI cO q _ _ hP a1 10) (cwV 2 hts gX2_shopNumber_X2_overBrandsOf rfl rfl rfl ⟨rfl, bd_X2overBrandsOf⟩ ⟨Nat.le_of_ble_eq_true rfl, Nat.le_of_ble_eq_true rfl⟩) (bPV hk (va_recv hk.1 hP (ci := 2) (q0 := 3) rfl (wC_3 _ _ _ _))) rfl rfl hl.1 rfl (lv_room (Nat.le_of_ble_eq_true rfl)) dX2_shopNumber_32 ⟨Nat.zero_le _, Nat.zero_le _⟩) hS (fun locs hS => ?_)
    exact bret_Ri hx hb hr hS hlocks dX2_shopNumber_35 (by rw [← hF, F2_shopNumber, if_pos c_1])
  · by_cases c_2 : a2 = 3
    · refine lv_lookup (off := 35) (tgt := 36) hx hb dX2_shopNumber_1 (by decide) (by rw [c_2]; decide) (by decide) ?_
      refine lv_aload_n hx hb dX2_shopNumber_36 rfl (lv_at hl 0 rfl) ?_
      refine lv_iload_n hx hb dX2_shopNumber_37 rfl (lv_at hl 1 rfl) ?_
      refine lv_bipush (v := 20) hx hb dX2_shopNumber_38 (by decide) ?_
      refine bcall_Ri (va_runV (As := [.int a1, .int 20]) (rest := []) ⟨hx, hb, hml, hown, hts⟩ (C2_overBrandsOf l D cI cO q _ _ hP a1 20) (cwV 2 hts gX2_shopNumber_X2_overBrandsOf rfl rfl rfl ⟨rfl, bd_X2overBrandsOf⟩ ⟨Nat.le_of_ble_eq_true rfl, Nat.le_of_ble_eq_true rfl⟩) (bPV hk (va_recv hk.1 hP (ci := 2) (q0 := 3) rfl (wC_3 _ _ _ _))) rfl rfl hl.1 rfl (lv_room (Nat.le_of_ble_eq_true rfl)) dX2_shopNumber_40 ⟨Nat.zero_le _, Nat.zero_le _⟩) hS (fun locs hS => ?_)
      exact bret_Ri hx hb hr hS hlocks dX2_shopNumber_43 (by rw [← hF, F2_shopNumber, if_neg c_1, if_pos c_2])
    · refine lv_lookup (off := 43) (tgt := 44) hx hb dX2_shopNumber_1 (by decide) (by show Op.lookupswitch.offset [(2, 27), (3, 35)] (43) _ = _; rw [lv_osw (a := 2) c_1 rfl, lv_osw (a := 3) c_2 rfl]; rfl) (by decide) ?_
      refine lv_aload_n hx hb dX2_shopNumber_44 rfl (lv_at hl 0 rfl) ?_
      refine lv_iload_n hx hb dX2_shopNumber_45 rfl (lv_at hl 1 rfl) ?_
      refine lv_iload_n hx hb dX2_shopNumber_46 rfl (lv_at hl 2 rfl) ?_
      refine bcall_Ri (va_runV (As := [.int a1, .int a2]) (rest := []) ⟨hx, hb, hml, hown, hts⟩ (C2_ofShop l D cI cO q _ _ hP a1 a2) (cwV 2 hts gX2_shopNumber_X2_ofShop rfl rfl rfl ⟨rfl, bd_X2ofShop⟩ ⟨Nat.le_of_ble_eq_true rfl, Nat.le_of_ble_eq_true rfl⟩) (bPV hk (va_recv hk.1 hP (ci := 2) (q0 := 3) rfl (wC_3 _ _ _ _))) rfl rfl hl.1 rfl (lv_room (Nat.le_of_ble_eq_true rfl)) dX2_shopNumber_47 ⟨Nat.zero_le _, Nat.zero_le _⟩) hS (fun locs hS => ?_)
      exact bret_Ri hx hb hr hS hlocks dX2_shopNumber_50 (by rw [← hF, F2_shopNumber, if_neg c_1, if_neg c_2])
def F2_countNumber (u : bU) (a1 : Int32) : Int32 := (if a1 = 3 then (F2_overShops u 1) else (if a1 = 7 then (F2_overBrands u 5) else (if a1 = 8 then (F2_overBrands u 6) else (F2_ofAll u a1))))
set_option maxHeartbeats 4000000 in
set_option maxRecDepth 100000 in
theorem C2_countNumber (l : Launch) (D : va_G) (cI cO : ClassId) (q : Nat → Nat) (u : bU) (H0 : Heap) (hP : va_P D vwCl (wC cI cO q u) H0) (a1 : Int32) : Met l yX2_countNumber wsX2_countNumber ({ frames := 3, cells := 0, slots := 0, locals := 66 }) (bP D [(cI, .int), (cO, .object RX2)] H0 [.ref (q 3), .int a1]) (bRi H0 (F2_countNumber u a1)) 0 0 (fun _ => False) := by
  refine Met.ofW (cc := cX2_countNumber) (maxL := 2) (ret := (some .int)) (by decide) rfl ?_
  intro p e s m args below meth c s₁ B hml hv
  obtain ⟨rfl, hH, hk⟩ := hv
  subst hH
  have hx := B.exec
  have hb := B.bytes
  have hr := B.returns
  have hts := atoms_spec (ws := wsX2_countNumber) B.pre
  have hown : s.vm.findClass RX2 = some m.cls := findClass_of_methodNamed B.named
  have hlocks := B.notSynchronized
  have hS : va_S (fun _ => False) s.heap s.heap [] := va_S.rf
  have hl := lv_entry ([.ref (q 3), .int a1]) (n := 2) (Nat.le_of_ble_eq_true rfl)
  rw [lg_entry_eq]
  generalize (lg_sl ([.ref (q 3), .int a1]) ++ List.replicate (2 - (lg_sl ([.ref (q 3), .int a1])).length) Slot.unset).toArray = ls at hl ⊢
  have hl : lv_has ls 2 [(0, .ref (q 3)), (1, .int a1)] := hl
  generalize hF : F2_countNumber u a1 = tgt
  refine lv_iload_n hx hb dX2_countNumber_0 rfl (lv_at hl 1 rfl) ?_
  by_cases c_1 : a1 = 3
  · refine lv_lookup (off := 35) (tgt := 36) hx hb dX2_countNumber_1 (by decide) (by rw [c_1]; decide) (by decide) ?_
    refine lv_aload_n hx hb dX2_countNumber_36 rfl (lv_at hl 0 rfl) ?_
    refine lv_iconst (v := 1) hx hb dX2_countNumber_37 (by decide) ?_
    refine bcall_Ri (va_runV (As := [.int 1]) (rest := []) ⟨hx, hb, hml, hown, hts⟩ (C2_overShops l D cI cO q _ _ hP 1) (cwV 1 hts gX2_countNumber_X2_overShops rfl rfl rfl ⟨rfl, bd_X2overShops⟩ ⟨Nat.le_of_ble_eq_true rfl, Nat.le_of_ble_eq_true rfl⟩) (bPV hk (va_recv hk.1 hP (ci := 2) (q0 := 3) rfl (wC_3 _ _ _ _))) rfl rfl hl.1 rfl (lv_room (Nat.le_of_ble_eq_true rfl)) dX2_countNumber_38 ⟨Nat.zero_le _, Nat.zero_le _⟩) hS (fun locs hS => ?_)
    exact bret_Ri hx hb hr hS hlocks dX2_countNumber_41 (by rw [← hF, F2_countNumber, if_pos c_1])
  · by_cases c_2 : a1 = 7
    · refine lv_lookup (off := 41) (tgt := 42) hx hb dX2_countNumber_1 (by decide) (by rw [c_2]; decide) (by decide) ?_
      refine lv_aload_n hx hb dX2_countNumber_42 rfl (lv_at hl 0 rfl) ?_
      refine lv_iconst (v := 5) hx hb dX2_countNumber_43 (by decide) ?_
      refine bcall_Ri (va_runV (As := [.int 5]) (rest := []) ⟨hx, hb, hml, hown, hts⟩ (C2_overBrands l D cI cO q _ _ hP 5) (cwV 1 hts gX2_countNumber_X2_overBrands rfl rfl rfl ⟨rfl, bd_X2overBrands⟩ ⟨Nat.le_of_ble_eq_true rfl, Nat.le_of_ble_eq_true rfl⟩) (bPV hk (va_recv hk.1 hP (ci := 2) (q0 := 3) rfl (wC_3 _ _ _ _))) rfl rfl hl.1 rfl (lv_room (Nat.le_of_ble_eq_true rfl)) dX2_countNumber_44 ⟨Nat.zero_le _, Nat.zero_le _⟩) hS (fun locs hS => ?_)
      exact bret_Ri hx hb hr hS hlocks dX2_countNumber_47 (by rw [← hF, F2_countNumber, if_neg c_1, if_pos c_2])
    · by_cases c_3 : a1 = 8
      · refine lv_lookup (off := 47) (tgt := 48) hx hb dX2_countNumber_1 (by decide) (by rw [c_3]; decide) (by decide) ?_
        refine lv_aload_n hx hb dX2_countNumber_48 rfl (lv_at hl 0 rfl) ?_
        refine lv_bipush (v := 6) hx hb dX2_countNumber_49 (by decide) ?_
        refine bcall_Ri (va_runV (As := [.int 6]) (rest := []) ⟨hx, hb, hml, hown, hts⟩ (C2_overBrands l D cI cO q _ _ hP 6) (cwV 1 hts gX2_countNumber_X2_overBrands rfl rfl rfl ⟨rfl, bd_X2overBrands⟩ ⟨Nat.le_of_ble_eq_true rfl, Nat.le_of_ble_eq_true rfl⟩) (bPV hk (va_recv hk.1 hP (ci := 2) (q0 := 3) rfl (wC_3 _ _ _ _))) rfl rfl hl.1 rfl (lv_room (Nat.le_of_ble_eq_true rfl)) dX2_countNumber_51 ⟨Nat.zero_le _, Nat.zero_le _⟩) hS (fun locs hS => ?_)
        exact bret_Ri hx hb hr hS hlocks dX2_countNumber_54 (by rw [← hF, F2_countNumber, if_neg c_1, if_neg c_2, if_pos c_3])
      · refine lv_lookup (off := 54) (tgt := 55) hx hb dX2_countNumber_1 (by decide) (by show Op.lookupswitch.offset [(3, 35), (7, 41), (8, 47)] (54) _ = _; rw [lv_osw (a := 3) c_1 rfl, lv_osw (a := 7) c_2 rfl, lv_osw (a := 8) c_3 rfl]; rfl) (by decide) ?_
        refine lv_aload_n hx hb dX2_countNumber_55 rfl (lv_at hl 0 rfl) ?_
        refine lv_iload_n hx hb dX2_countNumber_56 rfl (lv_at hl 1 rfl) ?_
        refine bcall_Ri (va_runV (As := [.int a1]) (rest := []) ⟨hx, hb, hml, hown, hts⟩ (C2_ofAll l D cI cO q _ _ hP a1) (cwV 1 hts gX2_countNumber_X2_ofAll rfl rfl rfl ⟨rfl, bd_X2ofAll⟩ ⟨Nat.le_of_ble_eq_true rfl, Nat.le_of_ble_eq_true rfl⟩) (bPV hk (va_recv hk.1 hP (ci := 2) (q0 := 3) rfl (wC_3 _ _ _ _))) rfl rfl hl.1 rfl (lv_room (Nat.le_of_ble_eq_true rfl)) dX2_countNumber_57 ⟨Nat.zero_le _, Nat.zero_le _⟩) hS (fun locs hS => ?_)
        exact bret_Ri hx hb hr hS hlocks dX2_countNumber_60 (by rw [← hF, F2_countNumber, if_neg c_1, if_neg c_2, if_neg c_3])
def L2_brandSum1_15 (u : bU) (j5 : Nat) : Nat → Nat → Int32 → Int32
  | 0, _, x3_15 => x3_15
  | n15 + 1, j15, x3_15 => (if (9 : Int32) < (nI j15) then x3_15 else (L2_brandSum1_15 u j5 n15 (j15 + 1) (x3_15 + (F2_brandNumber u (nI j5) (nI j15)))))
def L2_brandSum1_5 (u : bU) : Nat → Nat → Int32 → Int32
  | 0, _, x3_5 => x3_5
  | n5 + 1, j5, x3_5 => (if (8 : Int32) ≤ (nI j5) then x3_5 else (L2_brandSum1_5 u n5 (j5 + 1) (L2_brandSum1_15 u j5 (10 + 1) 1 x3_5)))
def F2_brandSum1 (u : bU) : Int32 := (L2_brandSum1_5 u (8 + 1) 0 0)
set_option maxHeartbeats 4000000 in
set_option maxRecDepth 100000 in
theorem C2_brandSum1 (l : Launch) (D : va_G) (cI cO : ClassId) (q : Nat → Nat) (u : bU) (H0 : Heap) (hP : va_P D vwCl (wC cI cO q u) H0) : Met l yX2_brandSum wsX2_brandSum ({ frames := 4, cells := 0, slots := 0, locals := 88 }) (bP D [(cI, .int), (cO, .object RX2)] H0 [.ref (q 3), .int 1, .int 9]) (bRi H0 (F2_brandSum1 u)) 0 0 (fun _ => False) := by
  refine Met.ofW (cc := cX2_brandSum) (maxL := 6) (ret := (some .int)) (by decide) rfl ?_
  intro p e s m args below meth c s₁ B hml hv
  obtain ⟨rfl, hH, hk⟩ := hv
  subst hH
  have hx := B.exec
  have hb := B.bytes
  have hr := B.returns
  have hts := atoms_spec (ws := wsX2_brandSum) B.pre
  have hown : s.vm.findClass RX2 = some m.cls := findClass_of_methodNamed B.named
  have hlocks := B.notSynchronized
  have hS : va_S (fun _ => False) s.heap s.heap [] := va_S.rf
  have hl := lv_entry ([.ref (q 3), .int 1, .int 9]) (n := 6) (Nat.le_of_ble_eq_true rfl)
  rw [lg_entry_eq]
  generalize (lg_sl ([.ref (q 3), .int 1, .int 9]) ++ List.replicate (6 - (lg_sl ([.ref (q 3), .int 1, .int 9])).length) Slot.unset).toArray = ls at hl ⊢
  have hl : lv_has ls 6 [(0, .ref (q 3)), (1, .int 1), (2, .int 9)] := hl
  generalize hF : F2_brandSum1 u = tgt
  refine lv_iconst (v := 0) hx hb dX2_brandSum_0 (by decide) ?_
  refine lv_istore_n (lv' := [(3, .int 0), (0, .ref (q 3)), (1, .int 1), (2, .int 9)]) hx hb dX2_brandSum_1 rfl hl (by decide) rfl (fun ls hl => ?_)
  refine lv_iconst (v := 0) hx hb dX2_brandSum_2 (by decide) ?_
  refine lv_istore (lv' := [(4, .int 0), (3, .int 0), (0, .ref (q 3)), (1, .int 1), (2, .int 9)]) hx hb dX2_brandSum_3 hl (by decide) rfl (fun ls hl => ?_)
  have loop5 : ∀ (n5 j5 : Nat) (x3_5 : Int32) (locs : List Loc) (ls : Array Slot), j5 ≤ 8 → 8 + 1 ≤ n5 + j5 → lv_has ls 6 [(0, .ref (q 3)), (1, .int 1), (2, .int 9), (3, .int x3_5), (4, .int (nI j5))] → va_S (fun _ => False) s.heap s.heap locs → ∀ X : Int32, L2_brandSum1_5 u  n5 j5 x3_5 = X → (∀ (locs : List Loc) (ls : Array Slot), lv_has ls 6 [(0, .ref (q 3)), (1, .int 1), (2, .int 9), (3, .int X)] → va_S (fun _ => False) s.heap s.heap locs → W p l e (headSpec wsX2_brandSum ({ frames := 4, cells := 0, slots := 0, locals := 88 })).room s m ([.ref (q 3), .int 1, .int 9] : List Value).toArray below meth c s.heap locs 0 0 (MQ below (bRi s.heap tgt) ([.ref (q 3), .int 1, .int 9] : List Value).toArray s 0 0 (fun _ => False)) (F0 m 44 ls [])) → W p l e (headSpec wsX2_brandSum ({ frames := 4, cells := 0, slots := 0, locals := 88 })).room s m ([.ref (q 3), .int 1, .int 9] : List Value).toArray below meth c s.heap locs 0 0 (MQ below (bRi s.heap tgt) ([.ref (q 3), .int 1, .int 9] : List Value).toArray s 0 0 (fun _ => False)) (F0 m 5 ls []) := by
    intro n5
    induction n5 with
    | zero => intro j5 x3_5 locs ls hj hn; exact absurd hn (by omega)
    | succ n5 ih =>
      intro j5 x3_5 locs ls hj hn hl hS X hF kx
      refine lv_iload hx hb dX2_brandSum_5 (lv_at hl 4 rfl) ?_
      refine lv_bipush (v := 8) hx hb dX2_brandSum_7 (by decide) ?_
      refine lv_icmp_ge (tgt := 44) hx hb dX2_brandSum_9 (by decide) (fun c_1 => ?_) (fun c_1 => ?_)
      · obtain rfl : X = x3_5 := by rw [← hF, L2_brandSum1_5, if_pos c_1]
        exact kx _ _ (lv_sub hl [0, 1, 2, 3] rfl) hS
      · have hlt_2 : j5 < 8 := bLt c_1 (by omega) (by decide)
        refine lv_iload_n hx hb dX2_brandSum_12 rfl (lv_at hl 1 rfl) ?_
        refine lv_istore (lv' := [(5, .int 1), (0, .ref (q 3)), (1, .int 1), (2, .int 9), (3, .int x3_5), (4, .int (nI j5))]) hx hb dX2_brandSum_13 hl (by decide) rfl (fun ls hl => ?_)
        have loop15 : ∀ (n15 j15 : Nat) (x3_15 : Int32) (locs : List Loc) (ls : Array Slot), j15 ≤ 10 → 10 + 1 ≤ n15 + j15 → lv_has ls 6 [(0, .ref (q 3)), (1, .int 1), (2, .int 9), (3, .int x3_15), (4, .int (nI j5)), (5, .int (nI j15))] → va_S (fun _ => False) s.heap s.heap locs → ∀ X : Int32, L2_brandSum1_15 u j5  n15 j15 x3_15 = X → (∀ (locs : List Loc) (ls : Array Slot), lv_has ls 6 [(0, .ref (q 3)), (1, .int 1), (2, .int 9), (3, .int X), (4, .int (nI j5))] → va_S (fun _ => False) s.heap s.heap locs → W p l e (headSpec wsX2_brandSum ({ frames := 4, cells := 0, slots := 0, locals := 88 })).room s m ([.ref (q 3), .int 1, .int 9] : List Value).toArray below meth c s.heap locs 0 0 (MQ below (bRi s.heap tgt) ([.ref (q 3), .int 1, .int 9] : List Value).toArray s 0 0 (fun _ => False)) (F0 m 38 ls [])) → W p l e (headSpec wsX2_brandSum ({ frames := 4, cells := 0, slots := 0, locals := 88 })).room s m ([.ref (q 3), .int 1, .int 9] : List Value).toArray below meth c s.heap locs 0 0 (MQ below (bRi s.heap tgt) ([.ref (q 3), .int 1, .int 9] : List Value).toArray s 0 0 (fun _ => False)) (F0 m 15 ls []) := by
          intro n15
          induction n15 with
          | zero => intro j15 x3_15 locs ls hj hn; exact absurd hn (by omega)
          | succ n15 ih =>
            intro j15 x3_15 locs ls hj hn hl hS X hF kx
            refine lv_iload hx hb dX2_brandSum_15 (lv_at hl 5 rfl) ?_
            refine lv_iload_n hx hb dX2_brandSum_17 rfl (lv_at hl 2 rfl) ?_
            refine lv_icmp_gt (tgt := 38) hx hb dX2_brandSum_18 (by decide) (fun c_3 => ?_) (fun c_3 => ?_)
            · obtain rfl : X = x3_15 := by rw [← hF, L2_brandSum1_15, if_pos c_3]
              exact kx _ _ (lv_sub hl [0, 1, 2, 3, 4] rfl) hS
            · have hlt_4 : j15 < 10 := bLtG c_3 (by omega) (by decide)
              refine lv_iload_n hx hb dX2_brandSum_21 rfl (lv_at hl 3 rfl) ?_
              refine lv_aload_n hx hb dX2_brandSum_22 rfl (lv_at hl 0 rfl) ?_
              refine lv_iload hx hb dX2_brandSum_23 (lv_at hl 4 rfl) ?_
              refine lv_iload hx hb dX2_brandSum_25 (lv_at hl 5 rfl) ?_
              refine bcall_Ri (va_runV (As := [.int (nI j5), .int (nI j15)]) (rest := [.int x3_15]) ⟨hx, hb, hml, hown, hts⟩ (C2_brandNumber l D cI cO q _ _ hP (nI j5) (nI j15)) (cwV 2 hts gX2_brandSum_X2_brandNumber rfl rfl rfl ⟨rfl, bd_X2brandNumber⟩ ⟨Nat.le_of_ble_eq_true rfl, Nat.le_of_ble_eq_true rfl⟩) (bPV hk (va_recv hk.1 hP (ci := 2) (q0 := 3) rfl (wC_3 _ _ _ _))) rfl rfl hl.1 rfl (lv_room (Nat.le_of_ble_eq_true rfl)) dX2_brandSum_27 ⟨Nat.zero_le _, Nat.zero_le _⟩) hS (fun locs hS => ?_)
              refine lv_iadd hx hb dX2_brandSum_30 ?_
              refine lv_istore_n (lv' := [(3, .int (x3_15 + (F2_brandNumber u (nI j5) (nI j15)))), (0, .ref (q 3)), (1, .int 1), (2, .int 9), (4, .int (nI j5)), (5, .int (nI j15))]) hx hb dX2_brandSum_31 rfl hl (by decide) rfl (fun ls hl => ?_)
              refine lv_iinc (v := (nI (j15 + 1))) (lv' := [(5, .int (nI (j15 + 1))), (3, .int (x3_15 + (F2_brandNumber u (nI j5) (nI j15)))), (0, .ref (q 3)), (1, .int 1), (2, .int 9), (4, .int (nI j5))]) hx hb dX2_brandSum_32 hl (k := 5) rfl (bInc j15) (by decide) rfl (fun ls hl => ?_)
              refine lv_goto (tgt := 15) hx hb dX2_brandSum_35 (by decide) ?_
              exact ih (j15 + 1) (x3_15 + (F2_brandNumber u (nI j5) (nI j15))) _ _ (by omega) (by omega) (lv_sub hl [2, 3, 4, 1, 5, 0] rfl) hS X (by rw [← hF, L2_brandSum1_15, if_neg c_3]) kx
        refine loop15 (10 + 1) 1 x3_5 _ _ (by omega) (by omega) (lv_sub hl [1, 2, 3, 4, 5, 0] rfl) hS _ rfl (fun locs ls hl hS => ?_)
        refine lv_iinc (v := (nI (j5 + 1))) (lv' := [(4, .int (nI (j5 + 1))), (0, .ref (q 3)), (1, .int 1), (2, .int 9), (3, .int (L2_brandSum1_15 u j5 (10 + 1) 1 x3_5))]) hx hb dX2_brandSum_38 hl (k := 4) rfl (bInc j5) (by decide) rfl (fun ls hl => ?_)
        refine lv_goto (tgt := 5) hx hb dX2_brandSum_41 (by decide) ?_
        exact ih (j5 + 1) (L2_brandSum1_15 u j5 (10 + 1) 1 x3_5) _ _ (by omega) (by omega) (lv_sub hl [1, 2, 3, 4, 0] rfl) hS X (by rw [← hF, L2_brandSum1_5, if_neg c_1]) kx
  refine loop5 (8 + 1) 0 0 _ _ (by omega) (by omega) (lv_sub hl [2, 3, 4, 1, 0] rfl) hS _ rfl (fun locs ls hl hS => ?_)
  refine lv_iload_n hx hb dX2_brandSum_44 rfl (lv_at hl 3 rfl) ?_
  exact bret_Ri hx hb hr hS hlocks dX2_brandSum_45 (by rw [← hF, F2_brandSum1])
def L2_brandSum7_15 (u : bU) (j5 : Nat) : Nat → Nat → Int32 → Int32
  | 0, _, x3_15 => x3_15
  | n15 + 1, j15, x3_15 => (if (9 : Int32) < (nI j15) then x3_15 else (L2_brandSum7_15 u j5 n15 (j15 + 1) (x3_15 + (F2_brandNumber u (nI j5) (nI j15)))))
def L2_brandSum7_5 (u : bU) : Nat → Nat → Int32 → Int32
  | 0, _, x3_5 => x3_5
  | n5 + 1, j5, x3_5 => (if (8 : Int32) ≤ (nI j5) then x3_5 else (L2_brandSum7_5 u n5 (j5 + 1) (L2_brandSum7_15 u j5 (10 + 1) 7 x3_5)))
def F2_brandSum7 (u : bU) : Int32 := (L2_brandSum7_5 u (8 + 1) 0 0)
set_option maxHeartbeats 4000000 in
set_option maxRecDepth 100000 in
theorem C2_brandSum7 (l : Launch) (D : va_G) (cI cO : ClassId) (q : Nat → Nat) (u : bU) (H0 : Heap) (hP : va_P D vwCl (wC cI cO q u) H0) : Met l yX2_brandSum wsX2_brandSum ({ frames := 4, cells := 0, slots := 0, locals := 88 }) (bP D [(cI, .int), (cO, .object RX2)] H0 [.ref (q 3), .int 7, .int 9]) (bRi H0 (F2_brandSum7 u)) 0 0 (fun _ => False) := by
  refine Met.ofW (cc := cX2_brandSum) (maxL := 6) (ret := (some .int)) (by decide) rfl ?_
  intro p e s m args below meth c s₁ B hml hv
  obtain ⟨rfl, hH, hk⟩ := hv
  subst hH
  have hx := B.exec
  have hb := B.bytes
  have hr := B.returns
  have hts := atoms_spec (ws := wsX2_brandSum) B.pre
  have hown : s.vm.findClass RX2 = some m.cls := findClass_of_methodNamed B.named
  have hlocks := B.notSynchronized
  have hS : va_S (fun _ => False) s.heap s.heap [] := va_S.rf
  have hl := lv_entry ([.ref (q 3), .int 7, .int 9]) (n := 6) (Nat.le_of_ble_eq_true rfl)
  rw [lg_entry_eq]
  generalize (lg_sl ([.ref (q 3), .int 7, .int 9]) ++ List.replicate (6 - (lg_sl ([.ref (q 3), .int 7, .int 9])).length) Slot.unset).toArray = ls at hl ⊢
  have hl : lv_has ls 6 [(0, .ref (q 3)), (1, .int 7), (2, .int 9)] := hl
  generalize hF : F2_brandSum7 u = tgt
  refine lv_iconst (v := 0) hx hb dX2_brandSum_0 (by decide) ?_
  refine lv_istore_n (lv' := [(3, .int 0), (0, .ref (q 3)), (1, .int 7), (2, .int 9)]) hx hb dX2_brandSum_1 rfl hl (by decide) rfl (fun ls hl => ?_)
  refine lv_iconst (v := 0) hx hb dX2_brandSum_2 (by decide) ?_
  refine lv_istore (lv' := [(4, .int 0), (3, .int 0), (0, .ref (q 3)), (1, .int 7), (2, .int 9)]) hx hb dX2_brandSum_3 hl (by decide) rfl (fun ls hl => ?_)
  have loop5 : ∀ (n5 j5 : Nat) (x3_5 : Int32) (locs : List Loc) (ls : Array Slot), j5 ≤ 8 → 8 + 1 ≤ n5 + j5 → lv_has ls 6 [(0, .ref (q 3)), (1, .int 7), (2, .int 9), (3, .int x3_5), (4, .int (nI j5))] → va_S (fun _ => False) s.heap s.heap locs → ∀ X : Int32, L2_brandSum7_5 u  n5 j5 x3_5 = X → (∀ (locs : List Loc) (ls : Array Slot), lv_has ls 6 [(0, .ref (q 3)), (1, .int 7), (2, .int 9), (3, .int X)] → va_S (fun _ => False) s.heap s.heap locs → W p l e (headSpec wsX2_brandSum ({ frames := 4, cells := 0, slots := 0, locals := 88 })).room s m ([.ref (q 3), .int 7, .int 9] : List Value).toArray below meth c s.heap locs 0 0 (MQ below (bRi s.heap tgt) ([.ref (q 3), .int 7, .int 9] : List Value).toArray s 0 0 (fun _ => False)) (F0 m 44 ls [])) → W p l e (headSpec wsX2_brandSum ({ frames := 4, cells := 0, slots := 0, locals := 88 })).room s m ([.ref (q 3), .int 7, .int 9] : List Value).toArray below meth c s.heap locs 0 0 (MQ below (bRi s.heap tgt) ([.ref (q 3), .int 7, .int 9] : List Value).toArray s 0 0 (fun _ => False)) (F0 m 5 ls []) := by
    intro n5
    induction n5 with
    | zero => intro j5 x3_5 locs ls hj hn; exact absurd hn (by omega)
    | succ n5 ih =>
      intro j5 x3_5 locs ls hj hn hl hS X hF kx
      refine lv_iload hx hb dX2_brandSum_5 (lv_at hl 4 rfl) ?_
      refine lv_bipush (v := 8) hx hb dX2_brandSum_7 (by decide) ?_
      refine lv_icmp_ge (tgt := 44) hx hb dX2_brandSum_9 (by decide) (fun c_1 => ?_) (fun c_1 => ?_)
      · obtain rfl : X = x3_5 := by rw [← hF, L2_brandSum7_5, if_pos c_1]
        exact kx _ _ (lv_sub hl [0, 1, 2, 3] rfl) hS
      · have hlt_2 : j5 < 8 := bLt c_1 (by omega) (by decide)
        refine lv_iload_n hx hb dX2_brandSum_12 rfl (lv_at hl 1 rfl) ?_
        refine lv_istore (lv' := [(5, .int 7), (0, .ref (q 3)), (1, .int 7), (2, .int 9), (3, .int x3_5), (4, .int (nI j5))]) hx hb dX2_brandSum_13 hl (by decide) rfl (fun ls hl => ?_)
        have loop15 : ∀ (n15 j15 : Nat) (x3_15 : Int32) (locs : List Loc) (ls : Array Slot), j15 ≤ 10 → 10 + 1 ≤ n15 + j15 → lv_has ls 6 [(0, .ref (q 3)), (1, .int 7), (2, .int 9), (3, .int x3_15), (4, .int (nI j5)), (5, .int (nI j15))] → va_S (fun _ => False) s.heap s.heap locs → ∀ X : Int32, L2_brandSum7_15 u j5  n15 j15 x3_15 = X → (∀ (locs : List Loc) (ls : Array Slot), lv_has ls 6 [(0, .ref (q 3)), (1, .int 7), (2, .int 9), (3, .int X), (4, .int (nI j5))] → va_S (fun _ => False) s.heap s.heap locs → W p l e (headSpec wsX2_brandSum ({ frames := 4, cells := 0, slots := 0, locals := 88 })).room s m ([.ref (q 3), .int 7, .int 9] : List Value).toArray below meth c s.heap locs 0 0 (MQ below (bRi s.heap tgt) ([.ref (q 3), .int 7, .int 9] : List Value).toArray s 0 0 (fun _ => False)) (F0 m 38 ls [])) → W p l e (headSpec wsX2_brandSum ({ frames := 4, cells := 0, slots := 0, locals := 88 })).room s m ([.ref (q 3), .int 7, .int 9] : List Value).toArray below meth c s.heap locs 0 0 (MQ below (bRi s.heap tgt) ([.ref (q 3), .int 7, .int 9] : List Value).toArray s 0 0 (fun _ => False)) (F0 m 15 ls []) := by
          intro n15
          induction n15 with
          | zero => intro j15 x3_15 locs ls hj hn; exact absurd hn (by omega)
          | succ n15 ih =>
            intro j15 x3_15 locs ls hj hn hl hS X hF kx
            refine lv_iload hx hb dX2_brandSum_15 (lv_at hl 5 rfl) ?_
            refine lv_iload_n hx hb dX2_brandSum_17 rfl (lv_at hl 2 rfl) ?_
            refine lv_icmp_gt (tgt := 38) hx hb dX2_brandSum_18 (by decide) (fun c_3 => ?_) (fun c_3 => ?_)
            · obtain rfl : X = x3_15 := by rw [← hF, L2_brandSum7_15, if_pos c_3]
              exact kx _ _ (lv_sub hl [0, 1, 2, 3, 4] rfl) hS
            · have hlt_4 : j15 < 10 := bLtG c_3 (by omega) (by decide)
              refine lv_iload_n hx hb dX2_brandSum_21 rfl (lv_at hl 3 rfl) ?_
              refine lv_aload_n hx hb dX2_brandSum_22 rfl (lv_at hl 0 rfl) ?_
              refine lv_iload hx hb dX2_brandSum_23 (lv_at hl 4 rfl) ?_
              refine lv_iload hx hb dX2_brandSum_25 (lv_at hl 5 rfl) ?_
              refine bcall_Ri (va_runV (As := [.int (nI j5), .int (nI j15)]) (rest := [.int x3_15]) ⟨hx, hb, hml, hown, hts⟩ (C2_brandNumber l D cI cO q _ _ hP (nI j5) (nI j15)) (cwV 2 hts gX2_brandSum_X2_brandNumber rfl rfl rfl ⟨rfl, bd_X2brandNumber⟩ ⟨Nat.le_of_ble_eq_true rfl, Nat.le_of_ble_eq_true rfl⟩) (bPV hk (va_recv hk.1 hP (ci := 2) (q0 := 3) rfl (wC_3 _ _ _ _))) rfl rfl hl.1 rfl (lv_room (Nat.le_of_ble_eq_true rfl)) dX2_brandSum_27 ⟨Nat.zero_le _, Nat.zero_le _⟩) hS (fun locs hS => ?_)
              refine lv_iadd hx hb dX2_brandSum_30 ?_
              refine lv_istore_n (lv' := [(3, .int (x3_15 + (F2_brandNumber u (nI j5) (nI j15)))), (0, .ref (q 3)), (1, .int 7), (2, .int 9), (4, .int (nI j5)), (5, .int (nI j15))]) hx hb dX2_brandSum_31 rfl hl (by decide) rfl (fun ls hl => ?_)
              refine lv_iinc (v := (nI (j15 + 1))) (lv' := [(5, .int (nI (j15 + 1))), (3, .int (x3_15 + (F2_brandNumber u (nI j5) (nI j15)))), (0, .ref (q 3)), (1, .int 7), (2, .int 9), (4, .int (nI j5))]) hx hb dX2_brandSum_32 hl (k := 5) rfl (bInc j15) (by decide) rfl (fun ls hl => ?_)
              refine lv_goto (tgt := 15) hx hb dX2_brandSum_35 (by decide) ?_
              exact ih (j15 + 1) (x3_15 + (F2_brandNumber u (nI j5) (nI j15))) _ _ (by omega) (by omega) (lv_sub hl [2, 3, 4, 1, 5, 0] rfl) hS X (by rw [← hF, L2_brandSum7_15, if_neg c_3]) kx
        refine loop15 (10 + 1) 7 x3_5 _ _ (by omega) (by omega) (lv_sub hl [1, 2, 3, 4, 5, 0] rfl) hS _ rfl (fun locs ls hl hS => ?_)
        refine lv_iinc (v := (nI (j5 + 1))) (lv' := [(4, .int (nI (j5 + 1))), (0, .ref (q 3)), (1, .int 7), (2, .int 9), (3, .int (L2_brandSum7_15 u j5 (10 + 1) 7 x3_5))]) hx hb dX2_brandSum_38 hl (k := 4) rfl (bInc j5) (by decide) rfl (fun ls hl => ?_)
        refine lv_goto (tgt := 5) hx hb dX2_brandSum_41 (by decide) ?_
        exact ih (j5 + 1) (L2_brandSum7_15 u j5 (10 + 1) 7 x3_5) _ _ (by omega) (by omega) (lv_sub hl [1, 2, 3, 4, 0] rfl) hS X (by rw [← hF, L2_brandSum7_5, if_neg c_1]) kx
  refine loop5 (8 + 1) 0 0 _ _ (by omega) (by omega) (lv_sub hl [2, 3, 4, 1, 0] rfl) hS _ rfl (fun locs ls hl hS => ?_)
  refine lv_iload_n hx hb dX2_brandSum_44 rfl (lv_at hl 3 rfl) ?_
  exact bret_Ri hx hb hr hS hlocks dX2_brandSum_45 (by rw [← hF, F2_brandSum7])
end
