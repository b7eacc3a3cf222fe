section
-- ===== PART A: goes FIRST, ahead of the names: the tables' words, and 'selects' of the private methods out of them =====
/-- a private method of a class that the tables say can be made, by its rows of tables_1 -/
def lw_okq (q : MethodName × Nat) : Prop := (q.1.cls ≠ "java/lang/invoke/MethodHandle" ∧ q.1.cls ≠ "java/lang/invoke/VarHandle") ∧ Cond.instantiable q.1.cls q.2 ∈ tables_1 ∧ Cond.privateMethod q.1 ∈ tables_1 ∧ Cond.instanceMethod q.1 ∈ tables_1
theorem lw_p0 : lw_okq (⟨"NumberFerries$Reader", "readLine", "(LNumberFerries$Line;)Z"⟩, 11) := ⟨⟨by decide +kernel, by decide +kernel⟩, List.mem_of_getElem? (i := 193) (by decide +kernel), List.mem_of_getElem? (i := 378) (by decide +kernel), List.mem_of_getElem? (i := 379) (by decide +kernel)⟩
theorem lw_p1 : lw_okq (⟨"NumberFerries$Reader", "nextToken", "()V"⟩, 11) := ⟨⟨by decide +kernel, by decide +kernel⟩, List.mem_of_getElem? (i := 193) (by decide +kernel), List.mem_of_getElem? (i := 382) (by decide +kernel), List.mem_of_getElem? (i := 383) (by decide +kernel)⟩
theorem lw_p2 : lw_okq (⟨"NumberFerries$Reader", "sortAt", "(I)I"⟩, 11) := ⟨⟨by decide +kernel, by decide +kernel⟩, List.mem_of_getElem? (i := 193) (by decide +kernel), List.mem_of_getElem? (i := 390) (by decide +kernel), List.mem_of_getElem? (i := 391) (by decide +kernel)⟩
theorem lw_p3 : lw_okq (⟨"NumberFerries$Reader", "findWord", "()LNumberFerries$Word;"⟩, 11) := ⟨⟨by decide +kernel, by decide +kernel⟩, List.mem_of_getElem? (i := 193) (by decide +kernel), List.mem_of_getElem? (i := 394) (by decide +kernel), List.mem_of_getElem? (i := 395) (by decide +kernel)⟩
theorem lw_p4 : lw_okq (⟨"NumberFerries$Reader", "isSpelt", "(Ljava/lang/String;)Z"⟩, 11) := ⟨⟨by decide +kernel, by decide +kernel⟩, List.mem_of_getElem? (i := 193) (by decide +kernel), List.mem_of_getElem? (i := 400) (by decide +kernel), List.mem_of_getElem? (i := 401) (by decide +kernel)⟩
theorem lw_p5 : lw_okq (⟨"NumberFerries$Reader", "isTooMany", "(LNumberFerries$Word;)Z"⟩, 11) := ⟨⟨by decide +kernel, by decide +kernel⟩, List.mem_of_getElem? (i := 193) (by decide +kernel), List.mem_of_getElem? (i := 452) (by decide +kernel), List.mem_of_getElem? (i := 453) (by decide +kernel)⟩
theorem lw_p6 : lw_okq (⟨"NumberFerries$Reader", "faultHere", "()Z"⟩, 11) := ⟨⟨by decide +kernel, by decide +kernel⟩, List.mem_of_getElem? (i := 193) (by decide +kernel), List.mem_of_getElem? (i := 456) (by decide +kernel), List.mem_of_getElem? (i := 457) (by decide +kernel)⟩
theorem lw_p7 : lw_okq (⟨"NumberFerries$Reader", "numberHere", "()I"⟩, 11) := ⟨⟨by decide +kernel, by decide +kernel⟩, List.mem_of_getElem? (i := 193) (by decide +kernel), List.mem_of_getElem? (i := 460) (by decide +kernel), List.mem_of_getElem? (i := 461) (by decide +kernel)⟩
theorem lw_p8 : lw_okq (⟨"NumberFerries$Reader", "canStand", "(CI)Z"⟩, 11) := ⟨⟨by decide +kernel, by decide +kernel⟩, List.mem_of_getElem? (i := 193) (by decide +kernel), List.mem_of_getElem? (i := 464) (by decide +kernel), List.mem_of_getElem? (i := 465) (by decide +kernel)⟩
theorem lw_p9 : lw_okq (⟨"NumberFerries$Reader", "foresee", "(LNumberFerries$Word;)V"⟩, 11) := ⟨⟨by decide +kernel, by decide +kernel⟩, List.mem_of_getElem? (i := 193) (by decide +kernel), List.mem_of_getElem? (i := 532) (by decide +kernel), List.mem_of_getElem? (i := 533) (by decide +kernel)⟩
theorem lw_p10 : lw_okq (⟨"NumberFerries$Reader", "readSemicolon", "()Z"⟩, 11) := ⟨⟨by decide +kernel, by decide +kernel⟩, List.mem_of_getElem? (i := 193) (by decide +kernel), List.mem_of_getElem? (i := 540) (by decide +kernel), List.mem_of_getElem? (i := 541) (by decide +kernel)⟩
theorem lw_p11 : lw_okq (⟨"NumberFerries$River", "addThing", "(I[I)V"⟩, 9) := ⟨⟨by decide +kernel, by decide +kernel⟩, List.mem_of_getElem? (i := 47) (by decide +kernel), List.mem_of_getElem? (i := 554) (by decide +kernel), List.mem_of_getElem? (i := 555) (by decide +kernel)⟩
theorem lw_p12 : lw_okq (⟨"NumberFerries$River", "addFerry", "(I[I)V"⟩, 9) := ⟨⟨by decide +kernel, by decide +kernel⟩, List.mem_of_getElem? (i := 47) (by decide +kernel), List.mem_of_getElem? (i := 562) (by decide +kernel), List.mem_of_getElem? (i := 563) (by decide +kernel)⟩
theorem lw_p13 : lw_okq (⟨"NumberFerries$River", "weighAll", "()V"⟩, 9) := ⟨⟨by decide +kernel, by decide +kernel⟩, List.mem_of_getElem? (i := 47) (by decide +kernel), List.mem_of_getElem? (i := 592) (by decide +kernel), List.mem_of_getElem? (i := 593) (by decide +kernel)⟩
theorem lw_p14 : lw_okq (⟨"NumberFerries$River", "isOnBankOf", "(III)Z"⟩, 9) := ⟨⟨by decide +kernel, by decide +kernel⟩, List.mem_of_getElem? (i := 47) (by decide +kernel), List.mem_of_getElem? (i := 649) (by decide +kernel), List.mem_of_getElem? (i := 650) (by decide +kernel)⟩
theorem lw_p15 : lw_okq (⟨"NumberFerries$River", "mayGoAboard", "(II)Z"⟩, 9) := ⟨⟨by decide +kernel, by decide +kernel⟩, List.mem_of_getElem? (i := 47) (by decide +kernel), List.mem_of_getElem? (i := 661) (by decide +kernel), List.mem_of_getElem? (i := 662) (by decide +kernel)⟩
def lw_privs_1 : List (MethodName × Nat) := [(⟨"NumberFerries$Reader", "readLine", "(LNumberFerries$Line;)Z"⟩, 11), (⟨"NumberFerries$Reader", "nextToken", "()V"⟩, 11), (⟨"NumberFerries$Reader", "sortAt", "(I)I"⟩, 11), (⟨"NumberFerries$Reader", "findWord", "()LNumberFerries$Word;"⟩, 11), (⟨"NumberFerries$Reader", "isSpelt", "(Ljava/lang/String;)Z"⟩, 11), (⟨"NumberFerries$Reader", "isTooMany", "(LNumberFerries$Word;)Z"⟩, 11), (⟨"NumberFerries$Reader", "faultHere", "()Z"⟩, 11), (⟨"NumberFerries$Reader", "numberHere", "()I"⟩, 11), (⟨"NumberFerries$Reader", "canStand", "(CI)Z"⟩, 11), (⟨"NumberFerries$Reader", "foresee", "(LNumberFerries$Word;)V"⟩, 11), (⟨"NumberFerries$Reader", "readSemicolon", "()Z"⟩, 11), (⟨"NumberFerries$River", "addThing", "(I[I)V"⟩, 9), (⟨"NumberFerries$River", "addFerry", "(I[I)V"⟩, 9), (⟨"NumberFerries$River", "weighAll", "()V"⟩, 9), (⟨"NumberFerries$River", "isOnBankOf", "(III)Z"⟩, 9), (⟨"NumberFerries$River", "mayGoAboard", "(II)Z"⟩, 9)]
theorem lw_r1 : ∀ q ∈ lw_privs_1, lw_okq q := List.forall_mem_cons.mpr ⟨lw_p0, List.forall_mem_cons.mpr ⟨lw_p1, List.forall_mem_cons.mpr ⟨lw_p2, List.forall_mem_cons.mpr ⟨lw_p3, List.forall_mem_cons.mpr ⟨lw_p4, List.forall_mem_cons.mpr ⟨lw_p5, List.forall_mem_cons.mpr ⟨lw_p6, List.forall_mem_cons.mpr ⟨lw_p7, List.forall_mem_cons.mpr ⟨lw_p8, List.forall_mem_cons.mpr ⟨lw_p9, List.forall_mem_cons.mpr ⟨lw_p10, List.forall_mem_cons.mpr ⟨lw_p11, List.forall_mem_cons.mpr ⟨lw_p12, List.forall_mem_cons.mpr ⟨lw_p13, List.forall_mem_cons.mpr ⟨lw_p14, List.forall_mem_cons.mpr ⟨lw_p15, fun _ h => absurd h List.not_mem_nil⟩⟩⟩⟩⟩⟩⟩⟩⟩⟩⟩⟩⟩⟩⟩⟩
theorem lw_p16 : lw_okq (⟨"NumberFerries$River", "isNumber", "(II)Z"⟩, 9) := ⟨⟨by decide +kernel, by decide +kernel⟩, List.mem_of_getElem? (i := 47) (by decide +kernel), List.mem_of_getElem? (i := 672) (by decide +kernel), List.mem_of_getElem? (i := 673) (by decide +kernel)⟩
theorem lw_p17 : lw_okq (⟨"NumberFerries$River", "missBy", "(II)I"⟩, 9) := ⟨⟨by decide +kernel, by decide +kernel⟩, List.mem_of_getElem? (i := 47) (by decide +kernel), List.mem_of_getElem? (i := 676) (by decide +kernel), List.mem_of_getElem? (i := 677) (by decide +kernel)⟩
theorem lw_p18 : lw_okq (⟨"NumberFerries$Survey", "take", "(IIZ)V"⟩, 8) := ⟨⟨by decide +kernel, by decide +kernel⟩, List.mem_of_getElem? (i := 256) (by decide +kernel), List.mem_of_getElem? (i := 751) (by decide +kernel), List.mem_of_getElem? (i := 752) (by decide +kernel)⟩
theorem lw_p19 : lw_okq (⟨"NumberFerries$Search", "clear", "()V"⟩, 8) := ⟨⟨by decide +kernel, by decide +kernel⟩, List.mem_of_getElem? (i := 294) (by decide +kernel), List.mem_of_getElem? (i := 800) (by decide +kernel), List.mem_of_getElem? (i := 801) (by decide +kernel)⟩
theorem lw_p20 : lw_okq (⟨"NumberFerries$Search", "listFits", "(I)V"⟩, 8) := ⟨⟨by decide +kernel, by decide +kernel⟩, List.mem_of_getElem? (i := 294) (by decide +kernel), List.mem_of_getElem? (i := 808) (by decide +kernel), List.mem_of_getElem? (i := 809) (by decide +kernel)⟩
theorem lw_p21 : lw_okq (⟨"NumberFerries$Search", "reach", "(IIII)V"⟩, 8) := ⟨⟨by decide +kernel, by decide +kernel⟩, List.mem_of_getElem? (i := 294) (by decide +kernel), List.mem_of_getElem? (i := 813) (by decide +kernel), List.mem_of_getElem? (i := 814) (by decide +kernel)⟩
theorem lw_p22 : lw_okq (⟨"NumberFerries$Search", "cheapestQueue", "()I"⟩, 8) := ⟨⟨by decide +kernel, by decide +kernel⟩, List.mem_of_getElem? (i := 294) (by decide +kernel), List.mem_of_getElem? (i := 817) (by decide +kernel), List.mem_of_getElem? (i := 818) (by decide +kernel)⟩
theorem lw_p23 : lw_okq (⟨"NumberFerries$Search", "spread", "(IIII)V"⟩, 8) := ⟨⟨by decide +kernel, by decide +kernel⟩, List.mem_of_getElem? (i := 294) (by decide +kernel), List.mem_of_getElem? (i := 822) (by decide +kernel), List.mem_of_getElem? (i := 823) (by decide +kernel)⟩
theorem lw_p24 : lw_okq (⟨"NumberFerriesModel", "isRead", "()Z"⟩, 31) := ⟨⟨by decide +kernel, by decide +kernel⟩, List.mem_of_getElem? (i := 857) (by decide +kernel), List.mem_of_getElem? (i := 974) (by decide +kernel), List.mem_of_getElem? (i := 975) (by decide +kernel)⟩
theorem lw_p25 : lw_okq (⟨"NumberFerriesModel", "isLine", "(I)Z"⟩, 31) := ⟨⟨by decide +kernel, by decide +kernel⟩, List.mem_of_getElem? (i := 857) (by decide +kernel), List.mem_of_getElem? (i := 978) (by decide +kernel), List.mem_of_getElem? (i := 979) (by decide +kernel)⟩
theorem lw_p26 : lw_okq (⟨"NumberFerriesModel", "nextToken", "()V"⟩, 31) := ⟨⟨by decide +kernel, by decide +kernel⟩, List.mem_of_getElem? (i := 857) (by decide +kernel), List.mem_of_getElem? (i := 982) (by decide +kernel), List.mem_of_getElem? (i := 983) (by decide +kernel)⟩
theorem lw_p27 : lw_okq (⟨"NumberFerriesModel", "isThingLine", "(I)Z"⟩, 31) := ⟨⟨by decide +kernel, by decide +kernel⟩, List.mem_of_getElem? (i := 857) (by decide +kernel), List.mem_of_getElem? (i := 1003) (by decide +kernel), List.mem_of_getElem? (i := 1004) (by decide +kernel)⟩
theorem lw_p28 : lw_okq (⟨"NumberFerriesModel", "fails", "()Z"⟩, 31) := ⟨⟨by decide +kernel, by decide +kernel⟩, List.mem_of_getElem? (i := 857) (by decide +kernel), List.mem_of_getElem? (i := 1007) (by decide +kernel), List.mem_of_getElem? (i := 1008) (by decide +kernel)⟩
theorem lw_p29 : lw_okq (⟨"NumberFerriesModel", "isNumber", "(III)Z"⟩, 31) := ⟨⟨by decide +kernel, by decide +kernel⟩, List.mem_of_getElem? (i := 857) (by decide +kernel), List.mem_of_getElem? (i := 1011) (by decide +kernel), List.mem_of_getElem? (i := 1012) (by decide +kernel)⟩
theorem lw_p30 : lw_okq (⟨"NumberFerriesModel", "isFerryLine", "(I)Z"⟩, 31) := ⟨⟨by decide +kernel, by decide +kernel⟩, List.mem_of_getElem? (i := 857) (by decide +kernel), List.mem_of_getElem? (i := 1015) (by decide +kernel), List.mem_of_getElem? (i := 1016) (by decide +kernel)⟩
theorem lw_p31 : lw_okq (⟨"NumberFerriesModel", "isHat", "(I)Z"⟩, 31) := ⟨⟨by decide +kernel, by decide +kernel⟩, List.mem_of_getElem? (i := 857) (by decide +kernel), List.mem_of_getElem? (i := 1019) (by decide +kernel), List.mem_of_getElem? (i := 1020) (by decide +kernel)⟩
def lw_privs_2 : List (MethodName × Nat) := [(⟨"NumberFerries$River", "isNumber", "(II)Z"⟩, 9), (⟨"NumberFerries$River", "missBy", "(II)I"⟩, 9), (⟨"NumberFerries$Survey", "take", "(IIZ)V"⟩, 8), (⟨"NumberFerries$Search", "clear", "()V"⟩, 8), (⟨"NumberFerries$Search", "listFits", "(I)V"⟩, 8), (⟨"NumberFerries$Search", "reach", "(IIII)V"⟩, 8), (⟨"NumberFerries$Search", "cheapestQueue", "()I"⟩, 8), (⟨"NumberFerries$Search", "spread", "(IIII)V"⟩, 8), (⟨"NumberFerriesModel", "isRead", "()Z"⟩, 31), (⟨"NumberFerriesModel", "isLine", "(I)Z"⟩, 31), (⟨"NumberFerriesModel", "nextToken", "()V"⟩, 31), (⟨"NumberFerriesModel", "isThingLine", "(I)Z"⟩, 31), (⟨"NumberFerriesModel", "fails", "()Z"⟩, 31), (⟨"NumberFerriesModel", "isNumber", "(III)Z"⟩, 31), (⟨"NumberFerriesModel", "isFerryLine", "(I)Z"⟩, 31), (⟨"NumberFerriesModel", "isHat", "(I)Z"⟩, 31)]
theorem lw_r2 : ∀ q ∈ lw_privs_2, lw_okq q := List.forall_mem_cons.mpr ⟨lw_p16, List.forall_mem_cons.mpr ⟨lw_p17, List.forall_mem_cons.mpr ⟨lw_p18, List.forall_mem_cons.mpr ⟨lw_p19, List.forall_mem_cons.mpr ⟨lw_p20, List.forall_mem_cons.mpr ⟨lw_p21, List.forall_mem_cons.mpr ⟨lw_p22, List.forall_mem_cons.mpr ⟨lw_p23, List.forall_mem_cons.mpr ⟨lw_p24, List.forall_mem_cons.mpr ⟨lw_p25, List.forall_mem_cons.mpr ⟨lw_p26, List.forall_mem_cons.mpr ⟨lw_p27, List.forall_mem_cons.mpr ⟨lw_p28, List.forall_mem_cons.mpr ⟨lw_p29, List.forall_mem_cons.mpr ⟨lw_p30, List.forall_mem_cons.mpr ⟨lw_p31, fun _ h => absurd h List.not_mem_nil⟩⟩⟩⟩⟩⟩⟩⟩⟩⟩⟩⟩⟩⟩⟩⟩
theorem lw_p32 : lw_okq (⟨"NumberFerriesModel", "doLine", "(I)V"⟩, 31) := ⟨⟨by decide +kernel, by decide +kernel⟩, List.mem_of_getElem? (i := 857) (by decide +kernel), List.mem_of_getElem? (i := 1027) (by decide +kernel), List.mem_of_getElem? (i := 1028) (by decide +kernel)⟩
theorem lw_p33 : lw_okq (⟨"NumberFerriesModel", "isThing", "(I)Z"⟩, 31) := ⟨⟨by decide +kernel, by decide +kernel⟩, List.mem_of_getElem? (i := 857) (by decide +kernel), List.mem_of_getElem? (i := 1035) (by decide +kernel), List.mem_of_getElem? (i := 1036) (by decide +kernel)⟩
theorem lw_p34 : lw_okq (⟨"NumberFerriesModel", "poundsOf", "(II)I"⟩, 31) := ⟨⟨by decide +kernel, by decide +kernel⟩, List.mem_of_getElem? (i := 857) (by decide +kernel), List.mem_of_getElem? (i := 1042) (by decide +kernel), List.mem_of_getElem? (i := 1043) (by decide +kernel)⟩
theorem lw_p35 : lw_okq (⟨"NumberFerriesModel", "isFerry", "(I)Z"⟩, 31) := ⟨⟨by decide +kernel, by decide +kernel⟩, List.mem_of_getElem? (i := 857) (by decide +kernel), List.mem_of_getElem? (i := 1050) (by decide +kernel), List.mem_of_getElem? (i := 1051) (by decide +kernel)⟩
theorem lw_p36 : lw_okq (⟨"NumberFerriesModel", "numberOf", "(I)I"⟩, 31) := ⟨⟨by decide +kernel, by decide +kernel⟩, List.mem_of_getElem? (i := 857) (by decide +kernel), List.mem_of_getElem? (i := 1054) (by decide +kernel), List.mem_of_getElem? (i := 1055) (by decide +kernel)⟩
theorem lw_p37 : lw_okq (⟨"NumberFerriesModel", "isSet", "(I)Z"⟩, 31) := ⟨⟨by decide +kernel, by decide +kernel⟩, List.mem_of_getElem? (i := 857) (by decide +kernel), List.mem_of_getElem? (i := 1066) (by decide +kernel), List.mem_of_getElem? (i := 1067) (by decide +kernel)⟩
theorem lw_p38 : lw_okq (⟨"NumberFerriesModel", "isRight", "(IIIII)Z"⟩, 31) := ⟨⟨by decide +kernel, by decide +kernel⟩, List.mem_of_getElem? (i := 857) (by decide +kernel), List.mem_of_getElem? (i := 1070) (by decide +kernel), List.mem_of_getElem? (i := 1071) (by decide +kernel)⟩
theorem lw_p39 : lw_okq (⟨"NumberFerriesModel", "canBoard", "(IIII)Z"⟩, 31) := ⟨⟨by decide +kernel, by decide +kernel⟩, List.mem_of_getElem? (i := 857) (by decide +kernel), List.mem_of_getElem? (i := 1074) (by decide +kernel), List.mem_of_getElem? (i := 1075) (by decide +kernel)⟩
theorem lw_p40 : lw_okq (⟨"NumberFerriesModel", "poundsOfAll", "(II)I"⟩, 31) := ⟨⟨by decide +kernel, by decide +kernel⟩, List.mem_of_getElem? (i := 857) (by decide +kernel), List.mem_of_getElem? (i := 1081) (by decide +kernel), List.mem_of_getElem? (i := 1082) (by decide +kernel)⟩
theorem lw_p41 : lw_okq (⟨"NumberFerriesModel", "fitsBy", "(III)Z"⟩, 31) := ⟨⟨by decide +kernel, by decide +kernel⟩, List.mem_of_getElem? (i := 857) (by decide +kernel), List.mem_of_getElem? (i := 1085) (by decide +kernel), List.mem_of_getElem? (i := 1086) (by decide +kernel)⟩
theorem lw_p42 : lw_okq (⟨"NumberFerriesModel", "wishes", "(I)I"⟩, 31) := ⟨⟨by decide +kernel, by decide +kernel⟩, List.mem_of_getElem? (i := 857) (by decide +kernel), List.mem_of_getElem? (i := 1113) (by decide +kernel), List.mem_of_getElem? (i := 1114) (by decide +kernel)⟩
theorem lw_p43 : lw_okq (⟨"NumberFerriesModel", "goThrough", "(II)I"⟩, 31) := ⟨⟨by decide +kernel, by decide +kernel⟩, List.mem_of_getElem? (i := 857) (by decide +kernel), List.mem_of_getElem? (i := 1144) (by decide +kernel), List.mem_of_getElem? (i := 1145) (by decide +kernel)⟩
def lw_privs_3 : List (MethodName × Nat) := [(⟨"NumberFerriesModel", "doLine", "(I)V"⟩, 31), (⟨"NumberFerriesModel", "isThing", "(I)Z"⟩, 31), (⟨"NumberFerriesModel", "poundsOf", "(II)I"⟩, 31), (⟨"NumberFerriesModel", "isFerry", "(I)Z"⟩, 31), (⟨"NumberFerriesModel", "numberOf", "(I)I"⟩, 31), (⟨"NumberFerriesModel", "isSet", "(I)Z"⟩, 31), (⟨"NumberFerriesModel", "isRight", "(IIIII)Z"⟩, 31), (⟨"NumberFerriesModel", "canBoard", "(IIII)Z"⟩, 31), (⟨"NumberFerriesModel", "poundsOfAll", "(II)I"⟩, 31), (⟨"NumberFerriesModel", "fitsBy", "(III)Z"⟩, 31), (⟨"NumberFerriesModel", "wishes", "(I)I"⟩, 31), (⟨"NumberFerriesModel", "goThrough", "(II)I"⟩, 31)]
theorem lw_r3 : ∀ q ∈ lw_privs_3, lw_okq q := List.forall_mem_cons.mpr ⟨lw_p32, List.forall_mem_cons.mpr ⟨lw_p33, List.forall_mem_cons.mpr ⟨lw_p34, List.forall_mem_cons.mpr ⟨lw_p35, List.forall_mem_cons.mpr ⟨lw_p36, List.forall_mem_cons.mpr ⟨lw_p37, List.forall_mem_cons.mpr ⟨lw_p38, List.forall_mem_cons.mpr ⟨lw_p39, List.forall_mem_cons.mpr ⟨lw_p40, List.forall_mem_cons.mpr ⟨lw_p41, List.forall_mem_cons.mpr ⟨lw_p42, List.forall_mem_cons.mpr ⟨lw_p43, fun _ h => absurd h List.not_mem_nil⟩⟩⟩⟩⟩⟩⟩⟩⟩⟩⟩⟩
def lw_privs : List (MethodName × Nat) := lw_privs_1 ++ (lw_privs_2 ++ (lw_privs_3))
def lw_tbl : List Cond := k2_sels lw_privs ++ tables_1
theorem lw_privs_ok : ∀ q ∈ lw_privs, lw_okq q := by
  show ∀ q ∈ lw_privs_1 ++ (lw_privs_2 ++ (lw_privs_3)), lw_okq q
  exact List.forall_mem_append.mpr ⟨lw_r1, List.forall_mem_append.mpr ⟨lw_r2, lw_r3⟩⟩
end
section
def RX0 : String := "NumberFerries$Ferry"
def TX0 : u_T := fun k => match k with
  | 0 => ("NumberFerries$Ferry", "kind", "I", false)
  | 1 => ("NumberFerries$Ferry", "number", "I", false)
  | 2 => ("NumberFerries$Ferry", "bank", "I", false)
  | 3 => ("NumberFerries$Ferry", "room", "I", false)
  | _ => ("NumberFerries$Ferry", "minutes", "I", false)
def tyX0 : Nat → FieldType := fun k => match k with
  | 0 => .int
  | 1 => .int
  | 2 => .int
  | 3 => .int
  | _ => .int
abbrev wsX00 : List Cond := u_ws RX0 TX0 5
theorem nmX0 : ∀ a, a < 5 → ∀ b, b < 5 → a ≠ b → (TX0 a).2.1 ≠ (TX0 b).2.1 := by decide +kernel
theorem tyX0_ok : ∀ k, k < 5 → parseFieldDescriptor (TX0 k).2.2.1 = some (tyX0 k) := by decide +kernel
abbrev cX0_init : ByteArray := prog_2_method_1_code
def yX0_init : MethodName := ⟨RX0, "<init>", "()V"⟩
abbrev cX0_tell : ByteArray := prog_2_method_2_code
def yX0_tell : MethodName := ⟨RX0, "tell", "(IIIII)V"⟩
abbrev cX0_numberNow : ByteArray := prog_2_method_3_code
def yX0_numberNow : MethodName := ⟨RX0, "numberNow", "(Z)I"⟩
abbrev cX0_play : ByteArray := prog_2_method_4_code
def yX0_play : MethodName := ⟨RX0, "play", "()I"⟩
def RX1 : String := "NumberFerries$Line"
def TX1 : u_T := fun k => match k with
  | 0 => ("NumberFerries$Line", "word", "LNumberFerries$Word;", false)
  | _ => ("NumberFerries$Line", "numbers", "[I", true)
def tyX1 : Nat → FieldType := fun k => match k with
  | 0 => .object "NumberFerries$Word"
  | _ => .array .int
abbrev wsX10 : List Cond := u_ws RX1 TX1 2
theorem nmX1 : ∀ a, a < 2 → ∀ b, b < 2 → a ≠ b → (TX1 a).2.1 ≠ (TX1 b).2.1 := by decide +kernel
theorem tyX1_ok : ∀ k, k < 2 → parseFieldDescriptor (TX1 k).2.2.1 = some (tyX1 k) := by decide +kernel
abbrev cX1_init : ByteArray := prog_3_method_1_code
def yX1_init : MethodName := ⟨RX1, "<init>", "()V"⟩
def RX2 : String := "NumberFerries$Reader"
def TX2 : u_T := fun k => match k with
  | 0 => ("NumberFerries$Reader", "lines", "[LNumberFerries$Line;", true)
  | 1 => ("NumberFerries$Reader", "lineCount", "I", false)
  | 2 => ("NumberFerries$Reader", "fault", "I", false)
  | 3 => ("NumberFerries$Reader", "text", "LNumberFerries$Text;", true)
  | 4 => ("NumberFerries$Reader", "river", "LNumberFerries$River;", true)
  | 5 => ("NumberFerries$Reader", "begin", "I", false)
  | 6 => ("NumberFerries$Reader", "end", "I", false)
  | 7 => ("NumberFerries$Reader", "sort", "I", false)
  | 8 => ("NumberFerries$Reader", "things", "I", false)
  | 9 => ("NumberFerries$Reader", "withHats", "I", false)
  | _ => ("NumberFerries$Reader", "ferries", "I", false)
def tyX2 : Nat → FieldType := fun k => match k with
  | 0 => .array (.object "NumberFerries$Line")
  | 1 => .int
  | 2 => .int
  | 3 => .object "NumberFerries$Text"
  | 4 => .object "NumberFerries$River"
  | 5 => .int
  | 6 => .int
  | 7 => .int
  | 8 => .int
  | 9 => .int
  | _ => .int
abbrev wsX20 : List Cond := u_ws RX2 TX2 11
theorem nmX2 : ∀ a, a < 11 → ∀ b, b < 11 → a ≠ b → (TX2 a).2.1 ≠ (TX2 b).2.1 := by decide +kernel
theorem tyX2_ok : ∀ k, k < 11 → parseFieldDescriptor (TX2 k).2.2.1 = some (tyX2 k) := by decide +kernel
abbrev cX2_init : ByteArray := prog_4_method_1_code
def yX2_init : MethodName := ⟨RX2, "<init>", "(LNumberFerries$Text;LNumberFerries$River;)V"⟩
abbrev cX2_read : ByteArray := prog_4_method_2_code
def yX2_read : MethodName := ⟨RX2, "read", "()V"⟩
abbrev cX2_readLine : ByteArray := prog_4_method_3_code
def yX2_readLine : MethodName := ⟨RX2, "readLine", "(LNumberFerries$Line;)Z"⟩
abbrev cX2_readSemicolon : ByteArray := prog_4_method_4_code
def yX2_readSemicolon : MethodName := ⟨RX2, "readSemicolon", "()Z"⟩
abbrev cX2_faultHere : ByteArray := prog_4_method_5_code
def yX2_faultHere : MethodName := ⟨RX2, "faultHere", "()Z"⟩
abbrev cX2_nextToken : ByteArray := prog_4_method_6_code
def yX2_nextToken : MethodName := ⟨RX2, "nextToken", "()V"⟩
abbrev cX2_sortAt : ByteArray := prog_4_method_7_code
def yX2_sortAt : MethodName := ⟨RX2, "sortAt", "(I)I"⟩
abbrev cX2_findWord : ByteArray := prog_4_method_8_code
def yX2_findWord : MethodName := ⟨RX2, "findWord", "()LNumberFerries$Word;"⟩
abbrev cX2_isSpelt : ByteArray := prog_4_method_9_code
def yX2_isSpelt : MethodName := ⟨RX2, "isSpelt", "(Ljava/lang/String;)Z"⟩
abbrev cX2_isTooMany : ByteArray := prog_4_method_10_code
def yX2_isTooMany : MethodName := ⟨RX2, "isTooMany", "(LNumberFerries$Word;)Z"⟩
abbrev cX2_numberHere : ByteArray := prog_4_method_11_code
def yX2_numberHere : MethodName := ⟨RX2, "numberHere", "()I"⟩
abbrev cX2_canStand : ByteArray := prog_4_method_12_code
def yX2_canStand : MethodName := ⟨RX2, "canStand", "(CI)Z"⟩
abbrev cX2_foresee : ByteArray := prog_4_method_13_code
def yX2_foresee : MethodName := ⟨RX2, "foresee", "(LNumberFerries$Word;)V"⟩
def RX3 : String := "NumberFerries$River"
def TX3 : u_T := fun k => match k with
  | 0 => ("NumberFerries$River", "things", "[LNumberFerries$Thing;", true)
  | 1 => ("NumberFerries$River", "ferries", "[LNumberFerries$Ferry;", true)
  | 2 => ("NumberFerries$River", "now", "LNumberFerries$Stand;", true)
  | 3 => ("NumberFerries$River", "thingCount", "I", false)
  | 4 => ("NumberFerries$River", "ferryCount", "I", false)
  | 5 => ("NumberFerries$River", "persons", "I", false)
  | 6 => ("NumberFerries$River", "withHats", "I", false)
  | 7 => ("NumberFerries$River", "unsure", "I", false)
  | _ => ("NumberFerries$River", "poundsBy", "[I", true)
def tyX3 : Nat → FieldType := fun k => match k with
  | 0 => .array (.object "NumberFerries$Thing")
  | 1 => .array (.object "NumberFerries$Ferry")
  | 2 => .object "NumberFerries$Stand"
  | 3 => .int
  | 4 => .int
  | 5 => .int
  | 6 => .int
  | 7 => .int
  | _ => .array .int
abbrev wsX30 : List Cond := u_ws RX3 TX3 9
theorem nmX3 : ∀ a, a < 9 → ∀ b, b < 9 → a ≠ b → (TX3 a).2.1 ≠ (TX3 b).2.1 := by decide +kernel
theorem tyX3_ok : ∀ k, k < 9 → parseFieldDescriptor (TX3 k).2.2.1 = some (tyX3 k) := by decide +kernel
abbrev cX3_init : ByteArray := prog_5_method_1_code
def yX3_init : MethodName := ⟨RX3, "<init>", "()V"⟩
abbrev cX3_hasThing : ByteArray := prog_5_method_2_code
def yX3_hasThing : MethodName := ⟨RX3, "hasThing", "(I)Z"⟩
abbrev cX3_hasFerry : ByteArray := prog_5_method_3_code
def yX3_hasFerry : MethodName := ⟨RX3, "hasFerry", "(I)Z"⟩
abbrev cX3_hasAll : ByteArray := prog_5_method_4_code
def yX3_hasAll : MethodName := ⟨RX3, "hasAll", "(I)Z"⟩
abbrev cX3_carryOut : ByteArray := prog_5_method_5_code
def yX3_carryOut : MethodName := ⟨RX3, "carryOut", "(LNumberFerries$Line;)V"⟩
abbrev cX3_addThing : ByteArray := prog_5_method_6_code
def yX3_addThing : MethodName := ⟨RX3, "addThing", "(I[I)V"⟩
abbrev cX3_addFerry : ByteArray := prog_5_method_7_code
def yX3_addFerry : MethodName := ⟨RX3, "addFerry", "(I[I)V"⟩
abbrev cX3_change : ByteArray := prog_5_method_8_code
def yX3_change : MethodName := ⟨RX3, "change", "(LNumberFerries$Thing;LNumberFerries$Word;I)V"⟩
abbrev cX3_beginDay : ByteArray := prog_5_method_9_code
def yX3_beginDay : MethodName := ⟨RX3, "beginDay", "()V"⟩
abbrev cX3_hatIsOn : ByteArray := prog_5_method_10_code
def yX3_hatIsOn : MethodName := ⟨RX3, "hatIsOn", "(I)Z"⟩
abbrev cX3_turnHat : ByteArray := prog_5_method_11_code
def yX3_turnHat : MethodName := ⟨RX3, "turnHat", "(I)V"⟩
abbrev cX3_bringBack : ByteArray := prog_5_method_12_code
def yX3_bringBack : MethodName := ⟨RX3, "bringBack", "(LNumberFerries$Stand;)V"⟩
abbrev cX3_weighAll : ByteArray := prog_5_method_13_code
def yX3_weighAll : MethodName := ⟨RX3, "weighAll", "()V"⟩
abbrev cX3_poundsOf : ByteArray := prog_5_method_14_code
def yX3_poundsOf : MethodName := ⟨RX3, "poundsOf", "(I)I"⟩
abbrev cX3_hatsOfAll : ByteArray := prog_5_method_15_code
def yX3_hatsOfAll : MethodName := ⟨RX3, "hatsOfAll", "(I)I"⟩
abbrev cX3_wishesOfAll : ByteArray := prog_5_method_16_code
def yX3_wishesOfAll : MethodName := ⟨RX3, "wishesOfAll", "(I)I"⟩
abbrev cX3_isOnBankOf : ByteArray := prog_5_method_17_code
def yX3_isOnBankOf : MethodName := ⟨RX3, "isOnBankOf", "(III)Z"⟩
abbrev cX3_mayGoAboard : ByteArray := prog_5_method_18_code
def yX3_mayGoAboard : MethodName := ⟨RX3, "mayGoAboard", "(II)Z"⟩
abbrev cX3_missBy : ByteArray := prog_5_method_19_code
def yX3_missBy : MethodName := ⟨RX3, "missBy", "(II)I"⟩
abbrev cX3_isNumber : ByteArray := prog_5_method_20_code
def yX3_isNumber : MethodName := ⟨RX3, "isNumber", "(II)Z"⟩
abbrev cX3_isRightSomewhere : ByteArray := prog_5_method_21_code
def yX3_isRightSomewhere : MethodName := ⟨RX3, "isRightSomewhere", "(II)Z"⟩
abbrev cX3_isRight : ByteArray := prog_5_method_22_code
def yX3_isRight : MethodName := ⟨RX3, "isRight", "(III)Z"⟩
abbrev cX3_isSure : ByteArray := prog_5_method_23_code
def yX3_isSure : MethodName := ⟨RX3, "isSure", "(II)Z"⟩
abbrev cX3_fewestHatsOff : ByteArray := prog_5_method_24_code
def yX3_fewestHatsOff : MethodName := ⟨RX3, "fewestHatsOff", "(II)I"⟩
abbrev cX3_fewestStones : ByteArray := prog_5_method_25_code
def yX3_fewestStones : MethodName := ⟨RX3, "fewestStones", "(III)I"⟩
def RX4 : String := "NumberFerries$Search"
def TX4 : u_T := fun k => match k with
  | 0 => ("NumberFerries$Search", "river", "LNumberFerries$River;", true)
  | 1 => ("NumberFerries$Search", "fits", "[I", true)
  | 2 => ("NumberFerries$Search", "fitCount", "[I", true)
  | 3 => ("NumberFerries$Search", "cost", "[I", true)
  | 4 => ("NumberFerries$Search", "cameBy", "[I", true)
  | 5 => ("NumberFerries$Search", "waiting", "[I", true)
  | 6 => ("NumberFerries$Search", "head", "[I", true)
  | _ => ("NumberFerries$Search", "tail", "[I", true)
def tyX4 : Nat → FieldType := fun k => match k with
  | 0 => .object "NumberFerries$River"
  | 1 => .array .int
  | 2 => .array .int
  | 3 => .array .int
  | 4 => .array .int
  | 5 => .array .int
  | 6 => .array .int
  | _ => .array .int
abbrev wsX40 : List Cond := u_ws RX4 TX4 8
theorem nmX4 : ∀ a, a < 8 → ∀ b, b < 8 → a ≠ b → (TX4 a).2.1 ≠ (TX4 b).2.1 := by decide +kernel
theorem tyX4_ok : ∀ k, k < 8 → parseFieldDescriptor (TX4 k).2.2.1 = some (tyX4 k) := by decide +kernel
abbrev cX4_init : ByteArray := prog_6_method_1_code
def yX4_init : MethodName := ⟨RX4, "<init>", "(LNumberFerries$River;)V"⟩
abbrev cX4_find : ByteArray := prog_6_method_2_code
def yX4_find : MethodName := ⟨RX4, "find", "(IIZ)I"⟩
abbrev cX4_costOf : ByteArray := prog_6_method_3_code
def yX4_costOf : MethodName := ⟨RX4, "costOf", "(I)I"⟩
abbrev cX4_crossingTo : ByteArray := prog_6_method_4_code
def yX4_crossingTo : MethodName := ⟨RX4, "crossingTo", "(II)I"⟩
abbrev cX4_clear : ByteArray := prog_6_method_5_code
def yX4_clear : MethodName := ⟨RX4, "clear", "()V"⟩
abbrev cX4_listFits : ByteArray := prog_6_method_6_code
def yX4_listFits : MethodName := ⟨RX4, "listFits", "(I)V"⟩
abbrev cX4_cheapestQueue : ByteArray := prog_6_method_7_code
def yX4_cheapestQueue : MethodName := ⟨RX4, "cheapestQueue", "()I"⟩
abbrev cX4_spread : ByteArray := prog_6_method_8_code
def yX4_spread : MethodName := ⟨RX4, "spread", "(IIII)V"⟩
abbrev cX4_reach : ByteArray := prog_6_method_9_code
def yX4_reach : MethodName := ⟨RX4, "reach", "(IIII)V"⟩
def RX5 : String := "NumberFerries$Stand"
def TX5 : u_T := fun k => match k with
  | 0 => ("NumberFerries$Stand", "made", "Z", false)
  | 1 => ("NumberFerries$Stand", "banks", "I", false)
  | 2 => ("NumberFerries$Stand", "hatsOff", "I", false)
  | 3 => ("NumberFerries$Stand", "afternoon", "Z", false)
  | _ => ("NumberFerries$Stand", "crossings", "I", false)
def tyX5 : Nat → FieldType := fun k => match k with
  | 0 => .boolean
  | 1 => .int
  | 2 => .int
  | 3 => .boolean
  | _ => .int
abbrev wsX50 : List Cond := u_ws RX5 TX5 5
theorem nmX5 : ∀ a, a < 5 → ∀ b, b < 5 → a ≠ b → (TX5 a).2.1 ≠ (TX5 b).2.1 := by decide +kernel
theorem tyX5_ok : ∀ k, k < 5 → parseFieldDescriptor (TX5 k).2.2.1 = some (tyX5 k) := by decide +kernel
abbrev cX5_init : ByteArray := prog_7_method_1_code
def yX5_init : MethodName := ⟨RX5, "<init>", "()V"⟩
abbrev cX5_become : ByteArray := prog_7_method_2_code
def yX5_become : MethodName := ⟨RX5, "become", "(LNumberFerries$Stand;)V"⟩
def RX6 : String := "NumberFerries$Survey"
def TX6 : u_T := fun k => match k with
  | 0 => ("NumberFerries$Survey", "river", "LNumberFerries$River;", true)
  | 1 => ("NumberFerries$Survey", "howMany", "I", false)
  | 2 => ("NumberFerries$Survey", "howManySure", "I", false)
  | 3 => ("NumberFerries$Survey", "least", "I", false)
  | 4 => ("NumberFerries$Survey", "mostWished", "I", false)
  | 5 => ("NumberFerries$Survey", "mostWishes", "I", false)
  | 6 => ("NumberFerries$Survey", "inAny", "I", false)
  | _ => ("NumberFerries$Survey", "inAll", "I", false)
def tyX6 : Nat → FieldType := fun k => match k with
  | 0 => .object "NumberFerries$River"
  | 1 => .int
  | 2 => .int
  | 3 => .int
  | 4 => .int
  | 5 => .int
  | 6 => .int
  | _ => .int
abbrev wsX60 : List Cond := u_ws RX6 TX6 8
theorem nmX6 : ∀ a, a < 8 → ∀ b, b < 8 → a ≠ b → (TX6 a).2.1 ≠ (TX6 b).2.1 := by decide +kernel
theorem tyX6_ok : ∀ k, k < 8 → parseFieldDescriptor (TX6 k).2.2.1 = some (tyX6 k) := by decide +kernel
abbrev cX6_init : ByteArray := prog_8_method_1_code
def yX6_init : MethodName := ⟨RX6, "<init>", "(LNumberFerries$River;)V"⟩
abbrev cX6_make : ByteArray := prog_8_method_2_code
def yX6_make : MethodName := ⟨RX6, "make", "(III)V"⟩
abbrev cX6_take : ByteArray := prog_8_method_3_code
def yX6_take : MethodName := ⟨RX6, "take", "(IIZ)V"⟩
def RX7 : String := "NumberFerries$Text"
def TX7 : u_T := fun k => match k with
  | 0 => ("NumberFerries$Text", "bytes", "[I", true)
  | _ => ("NumberFerries$Text", "length", "I", false)
def tyX7 : Nat → FieldType := fun k => match k with
  | 0 => .array .int
  | _ => .int
abbrev wsX70 : List Cond := u_ws RX7 TX7 2
theorem nmX7 : ∀ a, a < 2 → ∀ b, b < 2 → a ≠ b → (TX7 a).2.1 ≠ (TX7 b).2.1 := by decide +kernel
theorem tyX7_ok : ∀ k, k < 2 → parseFieldDescriptor (TX7 k).2.2.1 = some (tyX7 k) := by decide +kernel
abbrev cX7_init : ByteArray := prog_9_method_1_code
def yX7_init : MethodName := ⟨RX7, "<init>", "()V"⟩
abbrev cX7_add : ByteArray := prog_9_method_2_code
def yX7_add : MethodName := ⟨RX7, "add", "(I)V"⟩
abbrev cX7_empty : ByteArray := prog_9_method_3_code
def yX7_empty : MethodName := ⟨RX7, "empty", "()I"⟩
abbrev cX7_byteAt : ByteArray := prog_9_method_4_code
def yX7_byteAt : MethodName := ⟨RX7, "byteAt", "(I)I"⟩
def RX8 : String := "NumberFerries$Thing"
def TX8 : u_T := fun k => match k with
  | 0 => ("NumberFerries$Thing", "kind", "I", false)
  | 1 => ("NumberFerries$Thing", "weight", "I", false)
  | 2 => ("NumberFerries$Thing", "bank", "I", false)
  | 3 => ("NumberFerries$Thing", "hat", "I", false)
  | 4 => ("NumberFerries$Thing", "wish", "I", false)
  | _ => ("NumberFerries$Thing", "unsure", "Z", false)
def tyX8 : Nat → FieldType := fun k => match k with
  | 0 => .int
  | 1 => .int
  | 2 => .int
  | 3 => .int
  | 4 => .int
  | _ => .boolean
abbrev wsX80 : List Cond := u_ws RX8 TX8 6
theorem nmX8 : ∀ a, a < 6 → ∀ b, b < 6 → a ≠ b → (TX8 a).2.1 ≠ (TX8 b).2.1 := by decide +kernel
theorem tyX8_ok : ∀ k, k < 6 → parseFieldDescriptor (TX8 k).2.2.1 = some (tyX8 k) := by decide +kernel
abbrev cX8_init : ByteArray := prog_10_method_1_code
def yX8_init : MethodName := ⟨RX8, "<init>", "()V"⟩
abbrev cX8_tell : ByteArray := prog_10_method_2_code
def yX8_tell : MethodName := ⟨RX8, "tell", "(III)V"⟩
abbrev cX8_hasHat : ByteArray := prog_10_method_3_code
def yX8_hasHat : MethodName := ⟨RX8, "hasHat", "()Z"⟩
abbrev cX8_isHatted : ByteArray := prog_10_method_4_code
def yX8_isHatted : MethodName := ⟨RX8, "isHatted", "(I)Z"⟩
abbrev cX8_isUnder : ByteArray := prog_10_method_5_code
def yX8_isUnder : MethodName := ⟨RX8, "isUnder", "(I)Z"⟩
def RX9 : String := "NumberFerries$Word"
def TX9 : u_T := fun k => match k with
  | _ => ("", "", "", false)
def tyX9 : Nat → FieldType := fun k => match k with
  | _ => .int
abbrev wsX90 : List Cond := u_ws RX9 TX9 0
theorem nmX9 : ∀ a, a < 0 → ∀ b, b < 0 → a ≠ b → (TX9 a).2.1 ≠ (TX9 b).2.1 := by decide +kernel
theorem tyX9_ok : ∀ k, k < 0 → parseFieldDescriptor (TX9 k).2.2.1 = some (tyX9 k) := by decide +kernel
def RX10 : String := "NumberFerries"
def TX10 : u_T := fun k => match k with
  | 0 => ("NumberFerries", "text", "LNumberFerries$Text;", true)
  | 1 => ("NumberFerries", "river", "LNumberFerries$River;", true)
  | 2 => ("NumberFerries", "reader", "LNumberFerries$Reader;", true)
  | 3 => ("NumberFerries", "survey", "LNumberFerries$Survey;", true)
  | 4 => ("NumberFerries", "search", "LNumberFerries$Search;", true)
  | 5 => ("NumberFerries", "kept", "[LNumberFerries$Stand;", true)
  | 6 => ("NumberFerries", "told", "[I", true)
  | _ => ("NumberFerries", "toldCount", "I", false)
def tyX10 : Nat → FieldType := fun k => match k with
  | 0 => .object "NumberFerries$Text"
  | 1 => .object "NumberFerries$River"
  | 2 => .object "NumberFerries$Reader"
  | 3 => .object "NumberFerries$Survey"
  | 4 => .object "NumberFerries$Search"
  | 5 => .array (.object "NumberFerries$Stand")
  | 6 => .array .int
  | _ => .int
abbrev wsX100 : List Cond := u_ws RX10 TX10 8
theorem nmX10 : ∀ a, a < 8 → ∀ b, b < 8 → a ≠ b → (TX10 a).2.1 ≠ (TX10 b).2.1 := by decide +kernel
theorem tyX10_ok : ∀ k, k < 8 → parseFieldDescriptor (TX10 k).2.2.1 = some (tyX10 k) := by decide +kernel
abbrev cX10_init : ByteArray := prog_1_method_1_code
def yX10_init : MethodName := ⟨RX10, "<init>", "()V"⟩
abbrev cX10_write : ByteArray := prog_1_method_2_code
def yX10_write : MethodName := ⟨RX10, "write", "(JI)I"⟩
abbrev cX10_erase : ByteArray := prog_1_method_3_code
def yX10_erase : MethodName := ⟨RX10, "erase", "()I"⟩
abbrev cX10_fault : ByteArray := prog_1_method_4_code
def yX10_fault : MethodName := ⟨RX10, "fault", "()I"⟩
abbrev cX10_shore : ByteArray := prog_1_method_5_code
def yX10_shore : MethodName := ⟨RX10, "shore", "()I"⟩
abbrev cX10_thing : ByteArray := prog_1_method_6_code
def yX10_thing : MethodName := ⟨RX10, "thing", "(II)I"⟩
abbrev cX10_ferry : ByteArray := prog_1_method_7_code
def yX10_ferry : MethodName := ⟨RX10, "ferry", "(II)I"⟩
abbrev cX10_as : ByteArray := prog_1_method_8_code
def yX10_as : MethodName := ⟨RX10, "as", "(II)I"⟩
abbrev cX10_right : ByteArray := prog_1_method_9_code
def yX10_right : MethodName := ⟨RX10, "right", "(II)I"⟩
abbrev cX10_cross : ByteArray := prog_1_method_10_code
def yX10_cross : MethodName := ⟨RX10, "cross", "(II)I"⟩
abbrev cX10_doff : ByteArray := prog_1_method_11_code
def yX10_doff : MethodName := ⟨RX10, "doff", "(I)I"⟩
abbrev cX10_noon : ByteArray := prog_1_method_12_code
def yX10_noon : MethodName := ⟨RX10, "noon", "()I"⟩
abbrev cX10_keep : ByteArray := prog_1_method_13_code
def yX10_keep : MethodName := ⟨RX10, "keep", "(I)I"⟩
abbrev cX10_back : ByteArray := prog_1_method_14_code
def yX10_back : MethodName := ⟨RX10, "back", "(I)I"⟩
abbrev cX10_loads : ByteArray := prog_1_method_15_code
def yX10_loads : MethodName := ⟨RX10, "loads", "(II)I"⟩
abbrev cX10_weighed : ByteArray := prog_1_method_16_code
def yX10_weighed : MethodName := ⟨RX10, "weighed", "(II)I"⟩
abbrev cX10_hats : ByteArray := prog_1_method_17_code
def yX10_hats : MethodName := ⟨RX10, "hats", "(III)I"⟩
abbrev cX10_stones : ByteArray := prog_1_method_18_code
def yX10_stones : MethodName := ⟨RX10, "stones", "(III)I"⟩
abbrev cX10_sure : ByteArray := prog_1_method_19_code
def yX10_sure : MethodName := ⟨RX10, "sure", "(I)I"⟩
abbrev cX10_aboard : ByteArray := prog_1_method_20_code
def yX10_aboard : MethodName := ⟨RX10, "aboard", "(IIII)I"⟩
abbrev cX10_fewest : ByteArray := prog_1_method_21_code
def yX10_fewest : MethodName := ⟨RX10, "fewest", "(III)I"⟩
abbrev cX10_soonest : ByteArray := prog_1_method_22_code
def yX10_soonest : MethodName := ⟨RX10, "soonest", "(II)I"⟩
abbrev cX10_row : ByteArray := prog_1_method_23_code
def yX10_row : MethodName := ⟨RX10, "row", "(II)I"⟩
abbrev cX10_burn : ByteArray := prog_1_method_24_code
def yX10_burn : MethodName := ⟨RX10, "burn", "()I"⟩
abbrev cX10_judge : ByteArray := prog_1_method_25_code
def yX10_judge : MethodName := ⟨RX10, "judge", "()I"⟩
abbrev cX10_count : ByteArray := prog_1_method_26_code
def yX10_count : MethodName := ⟨RX10, "count", "(I)I"⟩
abbrev cX10_isBank : ByteArray := prog_1_method_27_code
def yX10_isBank : MethodName := ⟨RX10, "isBank", "(I)Z"⟩
abbrev cX10_bankOf : ByteArray := prog_1_method_28_code
def yX10_bankOf : MethodName := ⟨RX10, "bankOf", "(II)I"⟩
abbrev cX10_allOn : ByteArray := prog_1_method_29_code
def yX10_allOn : MethodName := ⟨RX10, "allOn", "(III)Z"⟩
abbrev cX10_crossingOf : ByteArray := prog_1_method_30_code
def yX10_crossingOf : MethodName := ⟨RX10, "crossingOf", "(II)I"⟩
abbrev cX10_ferryOf : ByteArray := prog_1_method_31_code
def yX10_ferryOf : MethodName := ⟨RX10, "ferryOf", "(I)I"⟩
abbrev cX10_loadOf : ByteArray := prog_1_method_32_code
def yX10_loadOf : MethodName := ⟨RX10, "loadOf", "(I)I"⟩
abbrev cX10_banksBehind : ByteArray := prog_1_method_33_code
def yX10_banksBehind : MethodName := ⟨RX10, "banksBehind", "(II)I"⟩
def RX11 : String := "NumberFerriesModel"
def TX11 : u_T := fun k => match k with
  | 0 => ("NumberFerriesModel", "things", "I", false)
  | 1 => ("NumberFerriesModel", "thing", "[I", true)
  | 2 => ("NumberFerriesModel", "ferries", "I", false)
  | 3 => ("NumberFerriesModel", "ferry", "[I", true)
  | 4 => ("NumberFerriesModel", "bytes", "I", false)
  | 5 => ("NumberFerriesModel", "text", "[I", true)
  | 6 => ("NumberFerriesModel", "position", "I", false)
  | 7 => ("NumberFerriesModel", "tokenAt", "I", false)
  | 8 => ("NumberFerriesModel", "token", "J", false)
  | 9 => ("NumberFerriesModel", "digits", "I", false)
  | 10 => ("NumberFerriesModel", "number", "I", false)
  | 11 => ("NumberFerriesModel", "faultAt", "I", false)
  | 12 => ("NumberFerriesModel", "readMany", "I", false)
  | 13 => ("NumberFerriesModel", "readThings", "I", false)
  | 14 => ("NumberFerriesModel", "readFerries", "I", false)
  | 15 => ("NumberFerriesModel", "readKind", "[I", true)
  | 16 => ("NumberFerriesModel", "read", "[I", true)
  | 17 => ("NumberFerriesModel", "over", "I", false)
  | 18 => ("NumberFerriesModel", "moored", "I", false)
  | 19 => ("NumberFerriesModel", "off", "I", false)
  | 20 => ("NumberFerriesModel", "late", "I", false)
  | 21 => ("NumberFerriesModel", "crossed", "I", false)
  | 22 => ("NumberFerriesModel", "image", "[I", true)
  | 23 => ("NumberFerriesModel", "isKept", "[Z", true)
  | 24 => ("NumberFerriesModel", "rows", "I", false)
  | 25 => ("NumberFerriesModel", "row", "[I", true)
  | 26 => ("NumberFerriesModel", "many", "[I", true)
  | 27 => ("NumberFerriesModel", "ahead", "[I", true)
  | 28 => ("NumberFerriesModel", "by", "[I", true)
  | 29 => ("NumberFerriesModel", "line", "[I", true)
  | _ => ("NumberFerriesModel", "found", "I", false)
def tyX11 : Nat → FieldType := fun k => match k with
  | 0 => .int
  | 1 => .array .int
  | 2 => .int
  | 3 => .array .int
  | 4 => .int
  | 5 => .array .int
  | 6 => .int
  | 7 => .int
  | 8 => .long
  | 9 => .int
  | 10 => .int
  | 11 => .int
  | 12 => .int
  | 13 => .int
  | 14 => .int
  | 15 => .array .int
  | 16 => .array .int
  | 17 => .int
  | 18 => .int
  | 19 => .int
  | 20 => .int
  | 21 => .int
  | 22 => .array .int
  | 23 => .array .boolean
  | 24 => .int
  | 25 => .array .int
  | 26 => .array .int
  | 27 => .array .int
  | 28 => .array .int
  | 29 => .array .int
  | _ => .int
abbrev wsX110 : List Cond := u_ws RX11 TX11 31
theorem nmX11 : ∀ a, a < 31 → ∀ b, b < 31 → a ≠ b → (TX11 a).2.1 ≠ (TX11 b).2.1 := by decide +kernel
theorem tyX11_ok : ∀ k, k < 31 → parseFieldDescriptor (TX11 k).2.2.1 = some (tyX11 k) := by decide +kernel
abbrev cX11_init : ByteArray := prog_13_method_1_code
def yX11_init : MethodName := ⟨RX11, "<init>", "()V"⟩
abbrev cX11_in : ByteArray := prog_13_method_2_code
def yX11_in : MethodName := ⟨RX11, "in", "(III)Z"⟩
abbrev cX11_has : ByteArray := prog_13_method_3_code
def yX11_has : MethodName := ⟨RX11, "has", "(II)Z"⟩
abbrev cX11_isThing : ByteArray := prog_13_method_4_code
def yX11_isThing : MethodName := ⟨RX11, "isThing", "(I)Z"⟩
abbrev cX11_isFerry : ByteArray := prog_13_method_5_code
def yX11_isFerry : MethodName := ⟨RX11, "isFerry", "(I)Z"⟩
abbrev cX11_isSet : ByteArray := prog_13_method_6_code
def yX11_isSet : MethodName := ⟨RX11, "isSet", "(I)Z"⟩
abbrev cX11_isBank : ByteArray := prog_13_method_7_code
def yX11_isBank : MethodName := ⟨RX11, "isBank", "(I)Z"⟩
abbrev cX11_write : ByteArray := prog_13_method_8_code
def yX11_write : MethodName := ⟨RX11, "write", "(JI)I"⟩
abbrev cX11_erase : ByteArray := prog_13_method_9_code
def yX11_erase : MethodName := ⟨RX11, "erase", "()I"⟩
abbrev cX11_nextToken : ByteArray := prog_13_method_10_code
def yX11_nextToken : MethodName := ⟨RX11, "nextToken", "()V"⟩
abbrev cX11_fails : ByteArray := prog_13_method_11_code
def yX11_fails : MethodName := ⟨RX11, "fails", "()Z"⟩
abbrev cX11_isNumber : ByteArray := prog_13_method_12_code
def yX11_isNumber : MethodName := ⟨RX11, "isNumber", "(III)Z"⟩
abbrev cX11_isThingLine : ByteArray := prog_13_method_13_code
def yX11_isThingLine : MethodName := ⟨RX11, "isThingLine", "(I)Z"⟩
abbrev cX11_isFerryLine : ByteArray := prog_13_method_14_code
def yX11_isFerryLine : MethodName := ⟨RX11, "isFerryLine", "(I)Z"⟩
abbrev cX11_isHat : ByteArray := prog_13_method_15_code
def yX11_isHat : MethodName := ⟨RX11, "isHat", "(I)Z"⟩
abbrev cX11_isLine : ByteArray := prog_13_method_16_code
def yX11_isLine : MethodName := ⟨RX11, "isLine", "(I)Z"⟩
abbrev cX11_isRead : ByteArray := prog_13_method_17_code
def yX11_isRead : MethodName := ⟨RX11, "isRead", "()Z"⟩
abbrev cX11_fault : ByteArray := prog_13_method_18_code
def yX11_fault : MethodName := ⟨RX11, "fault", "()I"⟩
abbrev cX11_doLine : ByteArray := prog_13_method_19_code
def yX11_doLine : MethodName := ⟨RX11, "doLine", "(I)V"⟩
abbrev cX11_shore : ByteArray := prog_13_method_20_code
def yX11_shore : MethodName := ⟨RX11, "shore", "()I"⟩
abbrev cX11_poundsOf : ByteArray := prog_13_method_21_code
def yX11_poundsOf : MethodName := ⟨RX11, "poundsOf", "(II)I"⟩
abbrev cX11_thing : ByteArray := prog_13_method_22_code
def yX11_thing : MethodName := ⟨RX11, "thing", "(II)I"⟩
abbrev cX11_numberOf : ByteArray := prog_13_method_23_code
def yX11_numberOf : MethodName := ⟨RX11, "numberOf", "(I)I"⟩
abbrev cX11_ferry : ByteArray := prog_13_method_24_code
def yX11_ferry : MethodName := ⟨RX11, "ferry", "(II)I"⟩
abbrev cX11_as : ByteArray := prog_13_method_25_code
def yX11_as : MethodName := ⟨RX11, "as", "(II)I"⟩
abbrev cX11_bits : ByteArray := prog_13_method_26_code
def yX11_bits : MethodName := ⟨RX11, "bits", "(I)I"⟩
abbrev cX11_poundsOfAll : ByteArray := prog_13_method_27_code
def yX11_poundsOfAll : MethodName := ⟨RX11, "poundsOfAll", "(II)I"⟩
abbrev cX11_canBoard : ByteArray := prog_13_method_28_code
def yX11_canBoard : MethodName := ⟨RX11, "canBoard", "(IIII)Z"⟩
abbrev cX11_fitsBy : ByteArray := prog_13_method_29_code
def yX11_fitsBy : MethodName := ⟨RX11, "fitsBy", "(III)Z"⟩
abbrev cX11_isRight : ByteArray := prog_13_method_30_code
def yX11_isRight : MethodName := ⟨RX11, "isRight", "(IIIII)Z"⟩
abbrev cX11_right : ByteArray := prog_13_method_31_code
def yX11_right : MethodName := ⟨RX11, "right", "(II)I"⟩
abbrev cX11_cross : ByteArray := prog_13_method_32_code
def yX11_cross : MethodName := ⟨RX11, "cross", "(II)I"⟩
abbrev cX11_doff : ByteArray := prog_13_method_33_code
def yX11_doff : MethodName := ⟨RX11, "doff", "(I)I"⟩
abbrev cX11_noon : ByteArray := prog_13_method_34_code
def yX11_noon : MethodName := ⟨RX11, "noon", "()I"⟩
abbrev cX11_keep : ByteArray := prog_13_method_35_code
def yX11_keep : MethodName := ⟨RX11, "keep", "(I)I"⟩
abbrev cX11_back : ByteArray := prog_13_method_36_code
def yX11_back : MethodName := ⟨RX11, "back", "(I)I"⟩
abbrev cX11_wishes : ByteArray := prog_13_method_37_code
def yX11_wishes : MethodName := ⟨RX11, "wishes", "(I)I"⟩
abbrev cX11_loads : ByteArray := prog_13_method_38_code
def yX11_loads : MethodName := ⟨RX11, "loads", "(II)I"⟩
abbrev cX11_weighed : ByteArray := prog_13_method_39_code
def yX11_weighed : MethodName := ⟨RX11, "weighed", "(II)I"⟩
abbrev cX11_hats : ByteArray := prog_13_method_40_code
def yX11_hats : MethodName := ⟨RX11, "hats", "(III)I"⟩
abbrev cX11_stones : ByteArray := prog_13_method_41_code
def yX11_stones : MethodName := ⟨RX11, "stones", "(III)I"⟩
abbrev cX11_sure : ByteArray := prog_13_method_42_code
def yX11_sure : MethodName := ⟨RX11, "sure", "(I)I"⟩
abbrev cX11_aboard : ByteArray := prog_13_method_43_code
def yX11_aboard : MethodName := ⟨RX11, "aboard", "(IIII)I"⟩
abbrev cX11_isOver : ByteArray := prog_13_method_44_code
def yX11_isOver : MethodName := ⟨RX11, "isOver", "(III)Z"⟩
abbrev cX11_goThrough : ByteArray := prog_13_method_45_code
def yX11_goThrough : MethodName := ⟨RX11, "goThrough", "(II)I"⟩
abbrev cX11_fewest : ByteArray := prog_13_method_46_code
def yX11_fewest : MethodName := ⟨RX11, "fewest", "(III)I"⟩
abbrev cX11_soonest : ByteArray := prog_13_method_47_code
def yX11_soonest : MethodName := ⟨RX11, "soonest", "(II)I"⟩
abbrev cX11_row : ByteArray := prog_13_method_48_code
def yX11_row : MethodName := ⟨RX11, "row", "(II)I"⟩
abbrev cX11_burn : ByteArray := prog_13_method_49_code
def yX11_burn : MethodName := ⟨RX11, "burn", "()I"⟩
abbrev cX11_judge : ByteArray := prog_13_method_50_code
def yX11_judge : MethodName := ⟨RX11, "judge", "()I"⟩
abbrev cX11_count : ByteArray := prog_13_method_51_code
def yX11_count : MethodName := ⟨RX11, "count", "(I)I"⟩
def RJx145de : String := "java/io/Serializable"
def TJx145de : u_T := fun k => match k with
  | _ => ("", "", "", false)
def tyJx145de : Nat → FieldType := fun k => match k with
  | _ => .int
abbrev wsJx145de0 : List Cond := u_ws RJx145de TJx145de 0
theorem nmJx145de : ∀ a, a < 0 → ∀ b, b < 0 → a ≠ b → (TJx145de a).2.1 ≠ (TJx145de b).2.1 := by decide +kernel
theorem tyJx145de_ok : ∀ k, k < 0 → parseFieldDescriptor (TJx145de k).2.2.1 = some (tyJx145de k) := by decide +kernel
def RJx9f9b0 : String := "java/lang/CharSequence"
def TJx9f9b0 : u_T := fun k => match k with
  | _ => ("", "", "", false)
def tyJx9f9b0 : Nat → FieldType := fun k => match k with
  | _ => .int
abbrev wsJx9f9b00 : List Cond := u_ws RJx9f9b0 TJx9f9b0 0
theorem nmJx9f9b0 : ∀ a, a < 0 → ∀ b, b < 0 → a ≠ b → (TJx9f9b0 a).2.1 ≠ (TJx9f9b0 b).2.1 := by decide +kernel
theorem tyJx9f9b0_ok : ∀ k, k < 0 → parseFieldDescriptor (TJx9f9b0 k).2.2.1 = some (tyJx9f9b0 k) := by decide +kernel
def RJ11 : String := "java/lang/Character"
def TJ11 : u_T := fun k => match k with
  | _ => ("", "", "", false)
def tyJ11 : Nat → FieldType := fun k => match k with
  | _ => .int
abbrev wsJ110 : List Cond := u_ws RJ11 TJ11 0
theorem nmJ11 : ∀ a, a < 0 → ∀ b, b < 0 → a ≠ b → (TJ11 a).2.1 ≠ (TJ11 b).2.1 := by decide +kernel
theorem tyJ11_ok : ∀ k, k < 0 → parseFieldDescriptor (TJ11 k).2.2.1 = some (tyJ11 k) := by decide +kernel
abbrev cJ11_isValidCodePoint_9a6ad : ByteArray := prog_14_method_11_code
def yJ11_isValidCodePoint_9a6ad : MethodName := ⟨RJ11, "isValidCodePoint", "(I)Z"⟩
abbrev cJ11_highSurrogate_5068e : ByteArray := prog_14_method_28_code
def yJ11_highSurrogate_5068e : MethodName := ⟨RJ11, "highSurrogate", "(I)C"⟩
abbrev cJ11_lowSurrogate_5068e : ByteArray := prog_14_method_29_code
def yJ11_lowSurrogate_5068e : MethodName := ⟨RJ11, "lowSurrogate", "(I)C"⟩
def RJxb160c : String := "java/lang/Comparable"
def TJxb160c : u_T := fun k => match k with
  | _ => ("", "", "", false)
def tyJxb160c : Nat → FieldType := fun k => match k with
  | _ => .int
abbrev wsJxb160c0 : List Cond := u_ws RJxb160c TJxb160c 0
theorem nmJxb160c : ∀ a, a < 0 → ∀ b, b < 0 → a ≠ b → (TJxb160c a).2.1 ≠ (TJxb160c b).2.1 := by decide +kernel
theorem tyJxb160c_ok : ∀ k, k < 0 → parseFieldDescriptor (TJxb160c k).2.2.1 = some (tyJxb160c k) := by decide +kernel
def RJx29ce0 : String := "java/lang/Enum"
def TJx29ce0 : u_T := fun k => match k with
  | _ => ("", "", "", false)
def tyJx29ce0 : Nat → FieldType := fun k => match k with
  | _ => .int
abbrev wsJx29ce00 : List Cond := u_ws RJx29ce0 TJx29ce0 0
theorem nmJx29ce0 : ∀ a, a < 0 → ∀ b, b < 0 → a ≠ b → (TJx29ce0 a).2.1 ≠ (TJx29ce0 b).2.1 := by decide +kernel
theorem tyJx29ce0_ok : ∀ k, k < 0 → parseFieldDescriptor (TJx29ce0 k).2.2.1 = some (tyJx29ce0 k) := by decide +kernel
def RJ6 : String := "java/lang/Integer"
def TJ6 : u_T := fun k => match k with
  | _ => ("", "", "", false)
def tyJ6 : Nat → FieldType := fun k => match k with
  | _ => .int
abbrev wsJ60 : List Cond := u_ws RJ6 TJ6 0
theorem nmJ6 : ∀ a, a < 0 → ∀ b, b < 0 → a ≠ b → (TJ6 a).2.1 ≠ (TJ6 b).2.1 := by decide +kernel
theorem tyJ6_ok : ∀ k, k < 0 → parseFieldDescriptor (TJ6 k).2.2.1 = some (tyJ6 k) := by decide +kernel
abbrev cJ6_bitCount_0f7a4 : ByteArray := prog_16_method_49_code
def yJ6_bitCount_0f7a4 : MethodName := ⟨RJ6, "bitCount", "(I)I"⟩
def RJ9 : String := "java/lang/Math"
def TJ9 : u_T := fun k => match k with
  | _ => ("", "", "", false)
def tyJ9 : Nat → FieldType := fun k => match k with
  | _ => .int
abbrev wsJ90 : List Cond := u_ws RJ9 TJ9 0
theorem nmJ9 : ∀ a, a < 0 → ∀ b, b < 0 → a ≠ b → (TJ9 a).2.1 ≠ (TJ9 b).2.1 := by decide +kernel
theorem tyJ9_ok : ∀ k, k < 0 → parseFieldDescriptor (TJ9 k).2.2.1 = some (tyJ9 k) := by decide +kernel
abbrev cJ9_abs_0f7a4 : ByteArray := prog_17_method_59_code
def yJ9_abs_0f7a4 : MethodName := ⟨RJ9, "abs", "(I)I"⟩
abbrev cJ9_max_7cf53 : ByteArray := prog_17_method_65_code
def yJ9_max_7cf53 : MethodName := ⟨RJ9, "max", "(II)I"⟩
abbrev cJ9_min_7cf53 : ByteArray := prog_17_method_69_code
def yJ9_min_7cf53 : MethodName := ⟨RJ9, "min", "(II)I"⟩
def RJ0 : String := "java/lang/String"
def TJ0 : u_T := fun k => match k with
  | _ => ("", "", "", false)
def tyJ0 : Nat → FieldType := fun k => match k with
  | _ => .int
abbrev wsJ00 : List Cond := u_ws RJ0 TJ0 0
theorem nmJ0 : ∀ a, a < 0 → ∀ b, b < 0 → a ≠ b → (TJ0 a).2.1 ≠ (TJ0 b).2.1 := by decide +kernel
theorem tyJ0_ok : ∀ k, k < 0 → parseFieldDescriptor (TJ0 k).2.2.1 = some (tyJ0 k) := by decide +kernel
abbrev cJ0_length_8abf5 : ByteArray := prog_18_method_54_code
def yJ0_length_8abf5 : MethodName := ⟨RJ0, "length", "()I"⟩
abbrev cJ0_charAt_5068e : ByteArray := prog_18_method_56_code
def yJ0_charAt_5068e : MethodName := ⟨RJ0, "charAt", "(I)C"⟩
abbrev cJ0_indexOf_0f7a4 : ByteArray := prog_18_method_79_code
def yJ0_indexOf_0f7a4 : MethodName := ⟨RJ0, "indexOf", "(I)I"⟩
abbrev cJ0_indexOf_7cf53 : ByteArray := prog_18_method_80_code
def yJ0_indexOf_7cf53 : MethodName := ⟨RJ0, "indexOf", "(II)I"⟩
abbrev cJ0_coder_7d493 : ByteArray := prog_18_method_152_code
def yJ0_coder_7d493 : MethodName := ⟨RJ0, "coder", "()B"⟩
abbrev cJ0_isLatin1_aae02 : ByteArray := prog_18_method_154_code
def yJ0_isLatin1_aae02 : MethodName := ⟨RJ0, "isLatin1", "()Z"⟩
abbrev cJ0_checkIndex_df160 : ByteArray := prog_18_method_155_code
def yJ0_checkIndex_df160 : MethodName := ⟨RJ0, "checkIndex", "(II)V"⟩
abbrev cJ0_checkBoundsBeginEnd_23922 : ByteArray := prog_18_method_158_code
def yJ0_checkBoundsBeginEnd_23922 : MethodName := ⟨RJ0, "checkBoundsBeginEnd", "(III)V"⟩
def RJ1 : String := "java/lang/StringLatin1"
def TJ1 : u_T := fun k => match k with
  | _ => ("", "", "", false)
def tyJ1 : Nat → FieldType := fun k => match k with
  | _ => .int
abbrev wsJ10 : List Cond := u_ws RJ1 TJ1 0
theorem nmJ1 : ∀ a, a < 0 → ∀ b, b < 0 → a ≠ b → (TJ1 a).2.1 ≠ (TJ1 b).2.1 := by decide +kernel
theorem tyJ1_ok : ∀ k, k < 0 → parseFieldDescriptor (TJ1 k).2.2.1 = some (tyJ1 k) := by decide +kernel
abbrev cJ1_charAt_3b067 : ByteArray := prog_19_method_2_code
def yJ1_charAt_3b067 : MethodName := ⟨RJ1, "charAt", "([BI)C"⟩
abbrev cJ1_canEncode_9a6ad : ByteArray := prog_19_method_4_code
def yJ1_canEncode_9a6ad : MethodName := ⟨RJ1, "canEncode", "(I)Z"⟩
abbrev cJ1_indexOf_4cfef : ByteArray := prog_19_method_22_code
def yJ1_indexOf_4cfef : MethodName := ⟨RJ1, "indexOf", "([BIII)I"⟩
abbrev cJ1_indexOfChar_4cfef : ByteArray := prog_19_method_23_code
def yJ1_indexOfChar_4cfef : MethodName := ⟨RJ1, "indexOfChar", "([BIII)I"⟩
def RJ2 : String := "java/lang/StringUTF16"
def TJ2 : u_T := fun k => match k with
  | _ => ("", "", "", false)
def tyJ2 : Nat → FieldType := fun k => match k with
  | _ => .int
abbrev wsJ20 : List Cond := u_ws RJ2 TJ2 0
theorem nmJ2 : ∀ a, a < 0 → ∀ b, b < 0 → a ≠ b → (TJ2 a).2.1 ≠ (TJ2 b).2.1 := by decide +kernel
theorem tyJ2_ok : ∀ k, k < 0 → parseFieldDescriptor (TJ2 k).2.2.1 = some (tyJ2 k) := by decide +kernel
abbrev cJ2_getChar_3b067 : ByteArray := prog_20_method_5_code
def yJ2_getChar_3b067 : MethodName := ⟨RJ2, "getChar", "([BI)C"⟩
abbrev cJ2_length_9d52b : ByteArray := prog_20_method_6_code
def yJ2_length_9d52b : MethodName := ⟨RJ2, "length", "([B)I"⟩
abbrev cJ2_indexOf_4cfef : ByteArray := prog_20_method_40_code
def yJ2_indexOf_4cfef : MethodName := ⟨RJ2, "indexOf", "([BIII)I"⟩
abbrev cJ2_indexOfChar_4cfef : ByteArray := prog_20_method_47_code
def yJ2_indexOfChar_4cfef : MethodName := ⟨RJ2, "indexOfChar", "([BIII)I"⟩
abbrev cJ2_indexOfCharUnsafe_4cfef : ByteArray := prog_20_method_48_code
def yJ2_indexOfCharUnsafe_4cfef : MethodName := ⟨RJ2, "indexOfCharUnsafe", "([BIII)I"⟩
abbrev cJ2_indexOfSupplementary_4cfef : ByteArray := prog_20_method_49_code
def yJ2_indexOfSupplementary_4cfef : MethodName := ⟨RJ2, "indexOfSupplementary", "([BIII)I"⟩
abbrev cJ2_charAt_3b067 : ByteArray := prog_20_method_83_code
def yJ2_charAt_3b067 : MethodName := ⟨RJ2, "charAt", "([BI)C"⟩
abbrev cJ2_checkIndex_2214a : ByteArray := prog_20_method_91_code
def yJ2_checkIndex_2214a : MethodName := ⟨RJ2, "checkIndex", "(I[B)V"⟩
abbrev cJ2_checkBoundsBeginEnd_d044e : ByteArray := prog_20_method_93_code
def yJ2_checkBoundsBeginEnd_d044e : MethodName := ⟨RJ2, "checkBoundsBeginEnd", "(II[B)V"⟩
def RJxfd54e : String := "java/lang/constant/Constable"
def TJxfd54e : u_T := fun k => match k with
  | _ => ("", "", "", false)
def tyJxfd54e : Nat → FieldType := fun k => match k with
  | _ => .int
abbrev wsJxfd54e0 : List Cond := u_ws RJxfd54e TJxfd54e 0
theorem nmJxfd54e : ∀ a, a < 0 → ∀ b, b < 0 → a ≠ b → (TJxfd54e a).2.1 ≠ (TJxfd54e b).2.1 := by decide +kernel
theorem tyJxfd54e_ok : ∀ k, k < 0 → parseFieldDescriptor (TJxfd54e k).2.2.1 = some (tyJxfd54e k) := by decide +kernel
def RJx3cf43 : String := "java/lang/constant/ConstantDesc"
def TJx3cf43 : u_T := fun k => match k with
  | _ => ("", "", "", false)
def tyJx3cf43 : Nat → FieldType := fun k => match k with
  | _ => .int
abbrev wsJx3cf430 : List Cond := u_ws RJx3cf43 TJx3cf43 0
theorem nmJx3cf43 : ∀ a, a < 0 → ∀ b, b < 0 → a ≠ b → (TJx3cf43 a).2.1 ≠ (TJx3cf43 b).2.1 := by decide +kernel
theorem tyJx3cf43_ok : ∀ k, k < 0 → parseFieldDescriptor (TJx3cf43 k).2.2.1 = some (tyJx3cf43 k) := by decide +kernel
def RJ7 : String := "java/util/Arrays"
def TJ7 : u_T := fun k => match k with
  | _ => ("", "", "", false)
def tyJ7 : Nat → FieldType := fun k => match k with
  | _ => .int
abbrev wsJ70 : List Cond := u_ws RJ7 TJ7 0
theorem nmJ7 : ∀ a, a < 0 → ∀ b, b < 0 → a ≠ b → (TJ7 a).2.1 ≠ (TJ7 b).2.1 := by decide +kernel
theorem tyJ7_ok : ∀ k, k < 0 → parseFieldDescriptor (TJ7 k).2.2.1 = some (tyJ7 k) := by decide +kernel
abbrev cJ7_fill_53178 : ByteArray := prog_21_method_103_code
def yJ7_fill_53178 : MethodName := ⟨RJ7, "fill", "([II)V"⟩
def RJ3 : String := "jdk/internal/util/Preconditions"
def TJ3 : u_T := fun k => match k with
  | _ => ("", "", "", false)
def tyJ3 : Nat → FieldType := fun k => match k with
  | _ => .int
abbrev wsJ30 : List Cond := u_ws RJ3 TJ3 0
theorem nmJ3 : ∀ a, a < 0 → ∀ b, b < 0 → a ≠ b → (TJ3 a).2.1 ≠ (TJ3 b).2.1 := by decide +kernel
theorem tyJ3_ok : ∀ k, k < 0 → parseFieldDescriptor (TJ3 k).2.2.1 = some (tyJ3 k) := by decide +kernel
abbrev cJ3_checkIndex_8e157 : ByteArray := prog_22_method_11_code
def yJ3_checkIndex_8e157 : MethodName := ⟨RJ3, "checkIndex", "(IILjava/util/function/BiFunction;)I"⟩
abbrev cJ3_checkFromToIndex_8c36e : ByteArray := prog_22_method_12_code
def yJ3_checkFromToIndex_8c36e : MethodName := ⟨RJ3, "checkFromToIndex", "(IIILjava/util/function/BiFunction;)I"⟩
def RL : String := "NumberFerriesLaw"
abbrev cL_law : ByteArray := code
def yL_law : MethodName := ⟨RL, "law", "([I)Z"⟩
abbrev vwCl : List vw_C := [(RX0, TX0, 5), (RX1, TX1, 2), (RX2, TX2, 11), (RX3, TX3, 9), (RX4, TX4, 8), (RX5, TX5, 5), (RX6, TX6, 8), (RX7, TX7, 2), (RX8, TX8, 6), (RX10, TX10, 8), (RX11, TX11, 31)]
end
section
theorem dX0_init_0 : decode cX0_init 0 = .ok (.aload_n 0, 1) := by decide +kernel
theorem dX0_init_1 : decode cX0_init 1 = .ok (.invokespecial 3, 3) := by decide +kernel
theorem dX0_init_4 : decode cX0_init 4 = .ok (.return_, 1) := by decide +kernel
theorem dX0_tell_0 : decode cX0_tell 0 = .ok (.aload_n 0, 1) := by decide +kernel
theorem dX0_tell_1 : decode cX0_tell 1 = .ok (.iload_n 1, 1) := by decide +kernel
theorem dX0_tell_2 : decode cX0_tell 2 = .ok (.putfield 9, 3) := by decide +kernel
theorem dX0_tell_5 : decode cX0_tell 5 = .ok (.aload_n 0, 1) := by decide +kernel
theorem dX0_tell_6 : decode cX0_tell 6 = .ok (.iload_n 2, 1) := by decide +kernel
theorem dX0_tell_7 : decode cX0_tell 7 = .ok (.putfield 15, 3) := by decide +kernel
theorem dX0_tell_10 : decode cX0_tell 10 = .ok (.aload_n 0, 1) := by decide +kernel
theorem dX0_tell_11 : decode cX0_tell 11 = .ok (.iload_n 3, 1) := by decide +kernel
theorem dX0_tell_12 : decode cX0_tell 12 = .ok (.putfield 18, 3) := by decide +kernel
theorem dX0_tell_15 : decode cX0_tell 15 = .ok (.aload_n 0, 1) := by decide +kernel
theorem dX0_tell_16 : decode cX0_tell 16 = .ok (.iload 4, 2) := by decide +kernel
theorem dX0_tell_18 : decode cX0_tell 18 = .ok (.putfield 21, 3) := by decide +kernel
theorem dX0_tell_21 : decode cX0_tell 21 = .ok (.aload_n 0, 1) := by decide +kernel
theorem dX0_tell_22 : decode cX0_tell 22 = .ok (.iload 5, 2) := by decide +kernel
theorem dX0_tell_24 : decode cX0_tell 24 = .ok (.putfield 24, 3) := by decide +kernel
theorem dX0_tell_27 : decode cX0_tell 27 = .ok (.return_, 1) := by decide +kernel
theorem dX0_numberNow_0 : decode cX0_numberNow 0 = .ok (.aload_n 0, 1) := by decide +kernel
theorem dX0_numberNow_1 : decode cX0_numberNow 1 = .ok (.getfield 9, 3) := by decide +kernel
theorem dX0_numberNow_4 : decode cX0_numberNow 4 = .ok (.iconst 2, 1) := by decide +kernel
theorem dX0_numberNow_5 : decode cX0_numberNow 5 = .ok (.if_icmp .ne 7, 3) := by decide +kernel
theorem dX0_numberNow_8 : decode cX0_numberNow 8 = .ok (.iload_n 1, 1) := by decide +kernel
theorem dX0_numberNow_9 : decode cX0_numberNow 9 = .ok (.ifCond .ne 8, 3) := by decide +kernel
theorem dX0_numberNow_12 : decode cX0_numberNow 12 = .ok (.aload_n 0, 1) := by decide +kernel
theorem dX0_numberNow_13 : decode cX0_numberNow 13 = .ok (.getfield 15, 3) := by decide +kernel
theorem dX0_numberNow_16 : decode cX0_numberNow 16 = .ok (.ireturn, 1) := by decide +kernel
theorem dX0_numberNow_17 : decode cX0_numberNow 17 = .ok (.iconst 0, 1) := by decide +kernel
theorem dX0_numberNow_18 : decode cX0_numberNow 18 = .ok (.istore_n 2, 1) := by decide +kernel
theorem dX0_numberNow_19 : decode cX0_numberNow 19 = .ok (.aload_n 0, 1) := by decide +kernel
theorem dX0_numberNow_20 : decode cX0_numberNow 20 = .ok (.getfield 15, 3) := by decide +kernel
theorem dX0_numberNow_23 : decode cX0_numberNow 23 = .ok (.istore_n 3, 1) := by decide +kernel
theorem dX0_numberNow_24 : decode cX0_numberNow 24 = .ok (.iconst 0, 1) := by decide +kernel
theorem dX0_numberNow_25 : decode cX0_numberNow 25 = .ok (.istore 4, 2) := by decide +kernel
theorem dX0_numberNow_27 : decode cX0_numberNow 27 = .ok (.iload 4, 2) := by decide +kernel
theorem dX0_numberNow_29 : decode cX0_numberNow 29 = .ok (.iconst 3, 1) := by decide +kernel
theorem dX0_numberNow_30 : decode cX0_numberNow 30 = .ok (.if_icmp .ge 28, 3) := by decide +kernel
theorem dX0_numberNow_33 : decode cX0_numberNow 33 = .ok (.iload_n 3, 1) := by decide +kernel
theorem dX0_numberNow_34 : decode cX0_numberNow 34 = .ok (.ifCond .le 24, 3) := by decide +kernel
theorem dX0_numberNow_37 : decode cX0_numberNow 37 = .ok (.iload_n 2, 1) := by decide +kernel
theorem dX0_numberNow_38 : decode cX0_numberNow 38 = .ok (.bipush 10, 2) := by decide +kernel
theorem dX0_numberNow_40 : decode cX0_numberNow 40 = .ok (.imul, 1) := by decide +kernel
theorem dX0_numberNow_41 : decode cX0_numberNow 41 = .ok (.iload_n 3, 1) := by decide +kernel
theorem dX0_numberNow_42 : decode cX0_numberNow 42 = .ok (.bipush 10, 2) := by decide +kernel
theorem dX0_numberNow_44 : decode cX0_numberNow 44 = .ok (.irem, 1) := by decide +kernel
theorem dX0_numberNow_45 : decode cX0_numberNow 45 = .ok (.iadd, 1) := by decide +kernel
theorem dX0_numberNow_46 : decode cX0_numberNow 46 = .ok (.istore_n 2, 1) := by decide +kernel
theorem dX0_numberNow_47 : decode cX0_numberNow 47 = .ok (.iload_n 3, 1) := by decide +kernel
theorem dX0_numberNow_48 : decode cX0_numberNow 48 = .ok (.bipush 10, 2) := by decide +kernel
theorem dX0_numberNow_50 : decode cX0_numberNow 50 = .ok (.idiv, 1) := by decide +kernel
theorem dX0_numberNow_51 : decode cX0_numberNow 51 = .ok (.istore_n 3, 1) := by decide +kernel
theorem dX0_numberNow_52 : decode cX0_numberNow 52 = .ok (.iinc 4 1, 3) := by decide +kernel
theorem dX0_numberNow_55 : decode cX0_numberNow 55 = .ok (.goto (-28), 3) := by decide +kernel
theorem dX0_numberNow_58 : decode cX0_numberNow 58 = .ok (.iload_n 2, 1) := by decide +kernel
theorem dX0_numberNow_59 : decode cX0_numberNow 59 = .ok (.ireturn, 1) := by decide +kernel
theorem dX0_play_0 : decode cX0_play 0 = .ok (.aload_n 0, 1) := by decide +kernel
theorem dX0_play_1 : decode cX0_play 1 = .ok (.getfield 9, 3) := by decide +kernel
theorem dX0_play_4 : decode cX0_play 4 = .ok (.iconst 1, 1) := by decide +kernel
theorem dX0_play_5 : decode cX0_play 5 = .ok (.if_icmp .ne 7, 3) := by decide +kernel
theorem dX0_play_8 : decode cX0_play 8 = .ok (.iconst 1, 1) := by decide +kernel
theorem dX0_play_9 : decode cX0_play 9 = .ok (.goto 4, 3) := by decide +kernel
theorem dX0_play_12 : decode cX0_play 12 = .ok (.iconst 0, 1) := by decide +kernel
theorem dX0_play_13 : decode cX0_play 13 = .ok (.ireturn, 1) := by decide +kernel
theorem dX1_init_0 : decode cX1_init 0 = .ok (.aload_n 0, 1) := by decide +kernel
theorem dX1_init_1 : decode cX1_init 1 = .ok (.invokespecial 3, 3) := by decide +kernel
theorem dX1_init_4 : decode cX1_init 4 = .ok (.aload_n 0, 1) := by decide +kernel
theorem dX1_init_5 : decode cX1_init 5 = .ok (.getstatic 9, 3) := by decide +kernel
theorem dX1_init_8 : decode cX1_init 8 = .ok (.putfield 15, 3) := by decide +kernel
theorem dX1_init_11 : decode cX1_init 11 = .ok (.aload_n 0, 1) := by decide +kernel
theorem dX1_init_12 : decode cX1_init 12 = .ok (.iconst 4, 1) := by decide +kernel
theorem dX1_init_13 : decode cX1_init 13 = .ok (.newarray .int, 2) := by decide +kernel
theorem dX1_init_15 : decode cX1_init 15 = .ok (.putfield 20, 3) := by decide +kernel
theorem dX1_init_18 : decode cX1_init 18 = .ok (.return_, 1) := by decide +kernel
theorem dX2_init_0 : decode cX2_init 0 = .ok (.aload_n 0, 1) := by decide +kernel
theorem dX2_init_1 : decode cX2_init 1 = .ok (.invokespecial 3, 3) := by decide +kernel
theorem dX2_init_4 : decode cX2_init 4 = .ok (.aload_n 0, 1) := by decide +kernel
theorem dX2_init_5 : decode cX2_init 5 = .ok (.bipush 12, 2) := by decide +kernel
theorem dX2_init_7 : decode cX2_init 7 = .ok (.anewarray 9, 3) := by decide +kernel
theorem dX2_init_10 : decode cX2_init 10 = .ok (.putfield 11, 3) := by decide +kernel
theorem dX2_init_13 : decode cX2_init 13 = .ok (.aload_n 0, 1) := by decide +kernel
theorem dX2_init_14 : decode cX2_init 14 = .ok (.iconst 0, 1) := by decide +kernel
theorem dX2_init_15 : decode cX2_init 15 = .ok (.putfield 17, 3) := by decide +kernel
theorem dX2_init_18 : decode cX2_init 18 = .ok (.aload_n 0, 1) := by decide +kernel
theorem dX2_init_19 : decode cX2_init 19 = .ok (.iconst (-1), 1) := by decide +kernel
theorem dX2_init_20 : decode cX2_init 20 = .ok (.putfield 21, 3) := by decide +kernel
theorem dX2_init_23 : decode cX2_init 23 = .ok (.aload_n 0, 1) := by decide +kernel
theorem dX2_init_24 : decode cX2_init 24 = .ok (.aload_n 1, 1) := by decide +kernel
theorem dX2_init_25 : decode cX2_init 25 = .ok (.putfield 24, 3) := by decide +kernel
theorem dX2_init_28 : decode cX2_init 28 = .ok (.aload_n 0, 1) := by decide +kernel
theorem dX2_init_29 : decode cX2_init 29 = .ok (.aload_n 2, 1) := by decide +kernel
theorem dX2_init_30 : decode cX2_init 30 = .ok (.putfield 28, 3) := by decide +kernel
theorem dX2_init_33 : decode cX2_init 33 = .ok (.iconst 0, 1) := by decide +kernel
theorem dX2_init_34 : decode cX2_init 34 = .ok (.istore_n 3, 1) := by decide +kernel
theorem dX2_init_35 : decode cX2_init 35 = .ok (.iload_n 3, 1) := by decide +kernel
theorem dX2_init_36 : decode cX2_init 36 = .ok (.bipush 12, 2) := by decide +kernel
theorem dX2_init_38 : decode cX2_init 38 = .ok (.if_icmp .ge 22, 3) := by decide +kernel
theorem dX2_init_41 : decode cX2_init 41 = .ok (.aload_n 0, 1) := by decide +kernel
theorem dX2_init_42 : decode cX2_init 42 = .ok (.getfield 11, 3) := by decide +kernel
theorem dX2_init_45 : decode cX2_init 45 = .ok (.iload_n 3, 1) := by decide +kernel
theorem dX2_init_46 : decode cX2_init 46 = .ok (.new 9, 3) := by decide +kernel
theorem dX2_init_49 : decode cX2_init 49 = .ok (.dup, 1) := by decide +kernel
theorem dX2_init_50 : decode cX2_init 50 = .ok (.invokespecial 32, 3) := by decide +kernel
theorem dX2_init_53 : decode cX2_init 53 = .ok (.aastore, 1) := by decide +kernel
theorem dX2_init_54 : decode cX2_init 54 = .ok (.iinc 3 1, 3) := by decide +kernel
theorem dX2_init_57 : decode cX2_init 57 = .ok (.goto (-22), 3) := by decide +kernel
theorem dX2_init_60 : decode cX2_init 60 = .ok (.return_, 1) := by decide +kernel
theorem dX2_read_0 : decode cX2_read 0 = .ok (.aload_n 0, 1) := by decide +kernel
theorem dX2_read_1 : decode cX2_read 1 = .ok (.iconst 0, 1) := by decide +kernel
theorem dX2_read_2 : decode cX2_read 2 = .ok (.putfield 33, 3) := by decide +kernel
theorem dX2_read_5 : decode cX2_read 5 = .ok (.aload_n 0, 1) := by decide +kernel
theorem dX2_read_6 : decode cX2_read 6 = .ok (.iconst 0, 1) := by decide +kernel
theorem dX2_read_7 : decode cX2_read 7 = .ok (.putfield 17, 3) := by decide +kernel
theorem dX2_read_10 : decode cX2_read 10 = .ok (.aload_n 0, 1) := by decide +kernel
theorem dX2_read_11 : decode cX2_read 11 = .ok (.iconst (-1), 1) := by decide +kernel
theorem dX2_read_12 : decode cX2_read 12 = .ok (.putfield 21, 3) := by decide +kernel
theorem dX2_read_15 : decode cX2_read 15 = .ok (.aload_n 0, 1) := by decide +kernel
theorem dX2_read_16 : decode cX2_read 16 = .ok (.aload_n 0, 1) := by decide +kernel
theorem dX2_read_17 : decode cX2_read 17 = .ok (.getfield 28, 3) := by decide +kernel
theorem dX2_read_20 : decode cX2_read 20 = .ok (.getfield 36, 3) := by decide +kernel
theorem dX2_read_23 : decode cX2_read 23 = .ok (.putfield 41, 3) := by decide +kernel
theorem dX2_read_26 : decode cX2_read 26 = .ok (.aload_n 0, 1) := by decide +kernel
theorem dX2_read_27 : decode cX2_read 27 = .ok (.aload_n 0, 1) := by decide +kernel
theorem dX2_read_28 : decode cX2_read 28 = .ok (.getfield 28, 3) := by decide +kernel
theorem dX2_read_31 : decode cX2_read 31 = .ok (.getfield 44, 3) := by decide +kernel
theorem dX2_read_34 : decode cX2_read 34 = .ok (.putfield 47, 3) := by decide +kernel
theorem dX2_read_37 : decode cX2_read 37 = .ok (.aload_n 0, 1) := by decide +kernel
theorem dX2_read_38 : decode cX2_read 38 = .ok (.aload_n 0, 1) := by decide +kernel
theorem dX2_read_39 : decode cX2_read 39 = .ok (.getfield 28, 3) := by decide +kernel
theorem dX2_read_42 : decode cX2_read 42 = .ok (.getfield 48, 3) := by decide +kernel
theorem dX2_read_45 : decode cX2_read 45 = .ok (.putfield 51, 3) := by decide +kernel
theorem dX2_read_48 : decode cX2_read 48 = .ok (.iconst 1, 1) := by decide +kernel
theorem dX2_read_49 : decode cX2_read 49 = .ok (.istore_n 1, 1) := by decide +kernel
theorem dX2_read_50 : decode cX2_read 50 = .ok (.iconst 0, 1) := by decide +kernel
theorem dX2_read_51 : decode cX2_read 51 = .ok (.istore_n 2, 1) := by decide +kernel
theorem dX2_read_52 : decode cX2_read 52 = .ok (.iload_n 2, 1) := by decide +kernel
theorem dX2_read_53 : decode cX2_read 53 = .ok (.bipush 12, 2) := by decide +kernel
theorem dX2_read_55 : decode cX2_read 55 = .ok (.if_icmp .ge 39, 3) := by decide +kernel
theorem dX2_read_58 : decode cX2_read 58 = .ok (.iload_n 1, 1) := by decide +kernel
theorem dX2_read_59 : decode cX2_read 59 = .ok (.ifCond .eq 35, 3) := by decide +kernel
theorem dX2_read_62 : decode cX2_read 62 = .ok (.aload_n 0, 1) := by decide +kernel
theorem dX2_read_63 : decode cX2_read 63 = .ok (.aload_n 0, 1) := by decide +kernel
theorem dX2_read_64 : decode cX2_read 64 = .ok (.getfield 11, 3) := by decide +kernel
theorem dX2_read_67 : decode cX2_read 67 = .ok (.iload_n 2, 1) := by decide +kernel
theorem dX2_read_68 : decode cX2_read 68 = .ok (.aaload, 1) := by decide +kernel
theorem dX2_read_69 : decode cX2_read 69 = .ok (.invokevirtual 54, 3) := by decide +kernel
theorem dX2_read_72 : decode cX2_read 72 = .ok (.ifCond .eq 14, 3) := by decide +kernel
theorem dX2_read_75 : decode cX2_read 75 = .ok (.aload_n 0, 1) := by decide +kernel
theorem dX2_read_76 : decode cX2_read 76 = .ok (.invokevirtual 58, 3) := by decide +kernel
theorem dX2_read_79 : decode cX2_read 79 = .ok (.ifCond .eq 7, 3) := by decide +kernel
theorem dX2_read_82 : decode cX2_read 82 = .ok (.iconst 1, 1) := by decide +kernel
theorem dX2_read_83 : decode cX2_read 83 = .ok (.goto 4, 3) := by decide +kernel
theorem dX2_read_86 : decode cX2_read 86 = .ok (.iconst 0, 1) := by decide +kernel
theorem dX2_read_87 : decode cX2_read 87 = .ok (.istore_n 1, 1) := by decide +kernel
theorem dX2_read_88 : decode cX2_read 88 = .ok (.iinc 2 1, 3) := by decide +kernel
theorem dX2_read_91 : decode cX2_read 91 = .ok (.goto (-39), 3) := by decide +kernel
theorem dX2_read_94 : decode cX2_read 94 = .ok (.return_, 1) := by decide +kernel
theorem dX2_readLine_0 : decode cX2_readLine 0 = .ok (.aload_n 0, 1) := by decide +kernel
theorem dX2_readLine_1 : decode cX2_readLine 1 = .ok (.invokevirtual 62, 3) := by decide +kernel
theorem dX2_readLine_4 : decode cX2_readLine 4 = .ok (.aload_n 0, 1) := by decide +kernel
theorem dX2_readLine_5 : decode cX2_readLine 5 = .ok (.invokevirtual 65, 3) := by decide +kernel
theorem dX2_readLine_8 : decode cX2_readLine 8 = .ok (.astore_n 2, 1) := by decide +kernel
theorem dX2_readLine_9 : decode cX2_readLine 9 = .ok (.aload_n 2, 1) := by decide +kernel
theorem dX2_readLine_10 : decode cX2_readLine 10 = .ok (.ifnull 11, 3) := by decide +kernel
theorem dX2_readLine_13 : decode cX2_readLine 13 = .ok (.aload_n 0, 1) := by decide +kernel
theorem dX2_readLine_14 : decode cX2_readLine 14 = .ok (.aload_n 2, 1) := by decide +kernel
theorem dX2_readLine_15 : decode cX2_readLine 15 = .ok (.invokevirtual 69, 3) := by decide +kernel
theorem dX2_readLine_18 : decode cX2_readLine 18 = .ok (.ifCond .eq 8, 3) := by decide +kernel
theorem dX2_readLine_21 : decode cX2_readLine 21 = .ok (.aload_n 0, 1) := by decide +kernel
theorem dX2_readLine_22 : decode cX2_readLine 22 = .ok (.invokevirtual 73, 3) := by decide +kernel
theorem dX2_readLine_25 : decode cX2_readLine 25 = .ok (.ireturn, 1) := by decide +kernel
theorem dX2_readLine_26 : decode cX2_readLine 26 = .ok (.aload_n 1, 1) := by decide +kernel
theorem dX2_readLine_27 : decode cX2_readLine 27 = .ok (.aload_n 2, 1) := by decide +kernel
theorem dX2_readLine_28 : decode cX2_readLine 28 = .ok (.putfield 76, 3) := by decide +kernel
theorem dX2_readLine_31 : decode cX2_readLine 31 = .ok (.aload_n 2, 1) := by decide +kernel
theorem dX2_readLine_32 : decode cX2_readLine 32 = .ok (.getfield 80, 3) := by decide +kernel
theorem dX2_readLine_35 : decode cX2_readLine 35 = .ok (.invokevirtual 86, 3) := by decide +kernel
theorem dX2_readLine_38 : decode cX2_readLine 38 = .ok (.istore_n 3, 1) := by decide +kernel
theorem dX2_readLine_39 : decode cX2_readLine 39 = .ok (.iconst 0, 1) := by decide +kernel
theorem dX2_readLine_40 : decode cX2_readLine 40 = .ok (.istore 4, 2) := by decide +kernel
theorem dX2_readLine_42 : decode cX2_readLine 42 = .ok (.iload 4, 2) := by decide +kernel
theorem dX2_readLine_44 : decode cX2_readLine 44 = .ok (.iload_n 3, 1) := by decide +kernel
theorem dX2_readLine_45 : decode cX2_readLine 45 = .ok (.if_icmp .ge 57, 3) := by decide +kernel
theorem dX2_readLine_48 : decode cX2_readLine 48 = .ok (.iload 4, 2) := by decide +kernel
theorem dX2_readLine_50 : decode cX2_readLine 50 = .ok (.iconst 4, 1) := by decide +kernel
theorem dX2_readLine_51 : decode cX2_readLine 51 = .ok (.if_icmp .ge 51, 3) := by decide +kernel
theorem dX2_readLine_54 : decode cX2_readLine 54 = .ok (.aload_n 0, 1) := by decide +kernel
theorem dX2_readLine_55 : decode cX2_readLine 55 = .ok (.invokevirtual 62, 3) := by decide +kernel
theorem dX2_readLine_58 : decode cX2_readLine 58 = .ok (.aload_n 0, 1) := by decide +kernel
theorem dX2_readLine_59 : decode cX2_readLine 59 = .ok (.invokevirtual 92, 3) := by decide +kernel
theorem dX2_readLine_62 : decode cX2_readLine 62 = .ok (.istore 5, 2) := by decide +kernel
theorem dX2_readLine_64 : decode cX2_readLine 64 = .ok (.aload_n 0, 1) := by decide +kernel
theorem dX2_readLine_65 : decode cX2_readLine 65 = .ok (.aload_n 2, 1) := by decide +kernel
theorem dX2_readLine_66 : decode cX2_readLine 66 = .ok (.getfield 80, 3) := by decide +kernel
theorem dX2_readLine_69 : decode cX2_readLine 69 = .ok (.iload 4, 2) := by decide +kernel
theorem dX2_readLine_71 : decode cX2_readLine 71 = .ok (.invokevirtual 95, 3) := by decide +kernel
theorem dX2_readLine_74 : decode cX2_readLine 74 = .ok (.iload 5, 2) := by decide +kernel
theorem dX2_readLine_76 : decode cX2_readLine 76 = .ok (.invokevirtual 99, 3) := by decide +kernel
theorem dX2_readLine_79 : decode cX2_readLine 79 = .ok (.ifCond .ne 8, 3) := by decide +kernel
theorem dX2_readLine_82 : decode cX2_readLine 82 = .ok (.aload_n 0, 1) := by decide +kernel
theorem dX2_readLine_83 : decode cX2_readLine 83 = .ok (.invokevirtual 73, 3) := by decide +kernel
theorem dX2_readLine_86 : decode cX2_readLine 86 = .ok (.ireturn, 1) := by decide +kernel
theorem dX2_readLine_87 : decode cX2_readLine 87 = .ok (.aload_n 1, 1) := by decide +kernel
theorem dX2_readLine_88 : decode cX2_readLine 88 = .ok (.getfield 103, 3) := by decide +kernel
theorem dX2_readLine_91 : decode cX2_readLine 91 = .ok (.iload 4, 2) := by decide +kernel
theorem dX2_readLine_93 : decode cX2_readLine 93 = .ok (.iload 5, 2) := by decide +kernel
theorem dX2_readLine_95 : decode cX2_readLine 95 = .ok (.iastore, 1) := by decide +kernel
theorem dX2_readLine_96 : decode cX2_readLine 96 = .ok (.iinc 4 1, 3) := by decide +kernel
theorem dX2_readLine_99 : decode cX2_readLine 99 = .ok (.goto (-57), 3) := by decide +kernel
theorem dX2_readLine_102 : decode cX2_readLine 102 = .ok (.aload_n 0, 1) := by decide +kernel
theorem dX2_readLine_103 : decode cX2_readLine 103 = .ok (.dup, 1) := by decide +kernel
theorem dX2_readLine_104 : decode cX2_readLine 104 = .ok (.getfield 17, 3) := by decide +kernel
theorem dX2_readLine_107 : decode cX2_readLine 107 = .ok (.iconst 1, 1) := by decide +kernel
theorem dX2_readLine_108 : decode cX2_readLine 108 = .ok (.iadd, 1) := by decide +kernel
theorem dX2_readLine_109 : decode cX2_readLine 109 = .ok (.putfield 17, 3) := by decide +kernel
theorem dX2_readLine_112 : decode cX2_readLine 112 = .ok (.aload_n 0, 1) := by decide +kernel
theorem dX2_readLine_113 : decode cX2_readLine 113 = .ok (.aload_n 2, 1) := by decide +kernel
theorem dX2_readLine_114 : decode cX2_readLine 114 = .ok (.invokevirtual 107, 3) := by decide +kernel
theorem dX2_readLine_117 : decode cX2_readLine 117 = .ok (.iconst 1, 1) := by decide +kernel
theorem dX2_readLine_118 : decode cX2_readLine 118 = .ok (.ireturn, 1) := by decide +kernel
theorem dX2_readSemicolon_0 : decode cX2_readSemicolon 0 = .ok (.aload_n 0, 1) := by decide +kernel
theorem dX2_readSemicolon_1 : decode cX2_readSemicolon 1 = .ok (.invokevirtual 62, 3) := by decide +kernel
theorem dX2_readSemicolon_4 : decode cX2_readSemicolon 4 = .ok (.aload_n 0, 1) := by decide +kernel
theorem dX2_readSemicolon_5 : decode cX2_readSemicolon 5 = .ok (.getfield 111, 3) := by decide +kernel
theorem dX2_readSemicolon_8 : decode cX2_readSemicolon 8 = .ok (.iconst 3, 1) := by decide +kernel
theorem dX2_readSemicolon_9 : decode cX2_readSemicolon 9 = .ok (.if_icmp .ne 5, 3) := by decide +kernel
theorem dX2_readSemicolon_12 : decode cX2_readSemicolon 12 = .ok (.iconst 0, 1) := by decide +kernel
theorem dX2_readSemicolon_13 : decode cX2_readSemicolon 13 = .ok (.ireturn, 1) := by decide +kernel
theorem dX2_readSemicolon_14 : decode cX2_readSemicolon 14 = .ok (.aload_n 0, 1) := by decide +kernel
theorem dX2_readSemicolon_15 : decode cX2_readSemicolon 15 = .ok (.getfield 24, 3) := by decide +kernel
theorem dX2_readSemicolon_18 : decode cX2_readSemicolon 18 = .ok (.aload_n 0, 1) := by decide +kernel
theorem dX2_readSemicolon_19 : decode cX2_readSemicolon 19 = .ok (.getfield 114, 3) := by decide +kernel
theorem dX2_readSemicolon_22 : decode cX2_readSemicolon 22 = .ok (.invokevirtual 117, 3) := by decide +kernel
theorem dX2_readSemicolon_25 : decode cX2_readSemicolon 25 = .ok (.bipush 59, 2) := by decide +kernel
theorem dX2_readSemicolon_27 : decode cX2_readSemicolon 27 = .ok (.if_icmp .ne 12, 3) := by decide +kernel
theorem dX2_readSemicolon_30 : decode cX2_readSemicolon 30 = .ok (.aload_n 0, 1) := by decide +kernel
theorem dX2_readSemicolon_31 : decode cX2_readSemicolon 31 = .ok (.getfield 17, 3) := by decide +kernel
theorem dX2_readSemicolon_34 : decode cX2_readSemicolon 34 = .ok (.bipush 12, 2) := by decide +kernel
theorem dX2_readSemicolon_36 : decode cX2_readSemicolon 36 = .ok (.if_icmp .lt 8, 3) := by decide +kernel
theorem dX2_readSemicolon_39 : decode cX2_readSemicolon 39 = .ok (.aload_n 0, 1) := by decide +kernel
theorem dX2_readSemicolon_40 : decode cX2_readSemicolon 40 = .ok (.invokevirtual 73, 3) := by decide +kernel
theorem dX2_readSemicolon_43 : decode cX2_readSemicolon 43 = .ok (.ireturn, 1) := by decide +kernel
theorem dX2_readSemicolon_44 : decode cX2_readSemicolon 44 = .ok (.iconst 1, 1) := by decide +kernel
theorem dX2_readSemicolon_45 : decode cX2_readSemicolon 45 = .ok (.ireturn, 1) := by decide +kernel
theorem dX2_faultHere_0 : decode cX2_faultHere 0 = .ok (.aload_n 0, 1) := by decide +kernel
theorem dX2_faultHere_1 : decode cX2_faultHere 1 = .ok (.aload_n 0, 1) := by decide +kernel
theorem dX2_faultHere_2 : decode cX2_faultHere 2 = .ok (.getfield 114, 3) := by decide +kernel
theorem dX2_faultHere_5 : decode cX2_faultHere 5 = .ok (.putfield 21, 3) := by decide +kernel
theorem dX2_faultHere_8 : decode cX2_faultHere 8 = .ok (.iconst 0, 1) := by decide +kernel
theorem dX2_faultHere_9 : decode cX2_faultHere 9 = .ok (.ireturn, 1) := by decide +kernel
theorem dX2_nextToken_0 : decode cX2_nextToken 0 = .ok (.aload_n 0, 1) := by decide +kernel
theorem dX2_nextToken_1 : decode cX2_nextToken 1 = .ok (.aload_n 0, 1) := by decide +kernel
theorem dX2_nextToken_2 : decode cX2_nextToken 2 = .ok (.getfield 33, 3) := by decide +kernel
theorem dX2_nextToken_5 : decode cX2_nextToken 5 = .ok (.putfield 114, 3) := by decide +kernel
theorem dX2_nextToken_8 : decode cX2_nextToken 8 = .ok (.aload_n 0, 1) := by decide +kernel
theorem dX2_nextToken_9 : decode cX2_nextToken 9 = .ok (.getfield 114, 3) := by decide +kernel
theorem dX2_nextToken_12 : decode cX2_nextToken 12 = .ok (.aload_n 0, 1) := by decide +kernel
theorem dX2_nextToken_13 : decode cX2_nextToken 13 = .ok (.getfield 24, 3) := by decide +kernel
theorem dX2_nextToken_16 : decode cX2_nextToken 16 = .ok (.getfield 123, 3) := by decide +kernel
theorem dX2_nextToken_19 : decode cX2_nextToken 19 = .ok (.if_icmp .ge 32, 3) := by decide +kernel
theorem dX2_nextToken_22 : decode cX2_nextToken 22 = .ok (.aload_n 0, 1) := by decide +kernel
theorem dX2_nextToken_23 : decode cX2_nextToken 23 = .ok (.getfield 24, 3) := by decide +kernel
theorem dX2_nextToken_26 : decode cX2_nextToken 26 = .ok (.aload_n 0, 1) := by decide +kernel
theorem dX2_nextToken_27 : decode cX2_nextToken 27 = .ok (.getfield 114, 3) := by decide +kernel
theorem dX2_nextToken_30 : decode cX2_nextToken 30 = .ok (.invokevirtual 117, 3) := by decide +kernel
theorem dX2_nextToken_33 : decode cX2_nextToken 33 = .ok (.bipush 32, 2) := by decide +kernel
theorem dX2_nextToken_35 : decode cX2_nextToken 35 = .ok (.if_icmp .ne 16, 3) := by decide +kernel
theorem dX2_nextToken_38 : decode cX2_nextToken 38 = .ok (.aload_n 0, 1) := by decide +kernel
theorem dX2_nextToken_39 : decode cX2_nextToken 39 = .ok (.dup, 1) := by decide +kernel
theorem dX2_nextToken_40 : decode cX2_nextToken 40 = .ok (.getfield 114, 3) := by decide +kernel
theorem dX2_nextToken_43 : decode cX2_nextToken 43 = .ok (.iconst 1, 1) := by decide +kernel
theorem dX2_nextToken_44 : decode cX2_nextToken 44 = .ok (.iadd, 1) := by decide +kernel
theorem dX2_nextToken_45 : decode cX2_nextToken 45 = .ok (.putfield 114, 3) := by decide +kernel
theorem dX2_nextToken_48 : decode cX2_nextToken 48 = .ok (.goto (-40), 3) := by decide +kernel
theorem dX2_nextToken_51 : decode cX2_nextToken 51 = .ok (.aload_n 0, 1) := by decide +kernel
theorem dX2_nextToken_52 : decode cX2_nextToken 52 = .ok (.aload_n 0, 1) := by decide +kernel
theorem dX2_nextToken_53 : decode cX2_nextToken 53 = .ok (.getfield 114, 3) := by decide +kernel
theorem dX2_nextToken_56 : decode cX2_nextToken 56 = .ok (.putfield 33, 3) := by decide +kernel
theorem dX2_nextToken_59 : decode cX2_nextToken 59 = .ok (.aload_n 0, 1) := by decide +kernel
theorem dX2_nextToken_60 : decode cX2_nextToken 60 = .ok (.aload_n 0, 1) := by decide +kernel
theorem dX2_nextToken_61 : decode cX2_nextToken 61 = .ok (.aload_n 0, 1) := by decide +kernel
theorem dX2_nextToken_62 : decode cX2_nextToken 62 = .ok (.getfield 114, 3) := by decide +kernel
theorem dX2_nextToken_65 : decode cX2_nextToken 65 = .ok (.invokevirtual 125, 3) := by decide +kernel
theorem dX2_nextToken_68 : decode cX2_nextToken 68 = .ok (.putfield 111, 3) := by decide +kernel
theorem dX2_nextToken_71 : decode cX2_nextToken 71 = .ok (.aload_n 0, 1) := by decide +kernel
theorem dX2_nextToken_72 : decode cX2_nextToken 72 = .ok (.getfield 111, 3) := by decide +kernel
theorem dX2_nextToken_75 : decode cX2_nextToken 75 = .ok (.iconst 2, 1) := by decide +kernel
theorem dX2_nextToken_76 : decode cX2_nextToken 76 = .ok (.if_icmp .ne 16, 3) := by decide +kernel
theorem dX2_nextToken_79 : decode cX2_nextToken 79 = .ok (.aload_n 0, 1) := by decide +kernel
theorem dX2_nextToken_80 : decode cX2_nextToken 80 = .ok (.dup, 1) := by decide +kernel
theorem dX2_nextToken_81 : decode cX2_nextToken 81 = .ok (.getfield 33, 3) := by decide +kernel
theorem dX2_nextToken_84 : decode cX2_nextToken 84 = .ok (.iconst 1, 1) := by decide +kernel
theorem dX2_nextToken_85 : decode cX2_nextToken 85 = .ok (.iadd, 1) := by decide +kernel
theorem dX2_nextToken_86 : decode cX2_nextToken 86 = .ok (.putfield 33, 3) := by decide +kernel
theorem dX2_nextToken_89 : decode cX2_nextToken 89 = .ok (.goto 45, 3) := by decide +kernel
theorem dX2_nextToken_92 : decode cX2_nextToken 92 = .ok (.aload_n 0, 1) := by decide +kernel
theorem dX2_nextToken_93 : decode cX2_nextToken 93 = .ok (.getfield 33, 3) := by decide +kernel
theorem dX2_nextToken_96 : decode cX2_nextToken 96 = .ok (.aload_n 0, 1) := by decide +kernel
theorem dX2_nextToken_97 : decode cX2_nextToken 97 = .ok (.getfield 24, 3) := by decide +kernel
theorem dX2_nextToken_100 : decode cX2_nextToken 100 = .ok (.getfield 123, 3) := by decide +kernel
theorem dX2_nextToken_103 : decode cX2_nextToken 103 = .ok (.if_icmp .ge 31, 3) := by decide +kernel
theorem dX2_nextToken_106 : decode cX2_nextToken 106 = .ok (.aload_n 0, 1) := by decide +kernel
theorem dX2_nextToken_107 : decode cX2_nextToken 107 = .ok (.aload_n 0, 1) := by decide +kernel
theorem dX2_nextToken_108 : decode cX2_nextToken 108 = .ok (.getfield 33, 3) := by decide +kernel
theorem dX2_nextToken_111 : decode cX2_nextToken 111 = .ok (.invokevirtual 125, 3) := by decide +kernel
theorem dX2_nextToken_114 : decode cX2_nextToken 114 = .ok (.aload_n 0, 1) := by decide +kernel
theorem dX2_nextToken_115 : decode cX2_nextToken 115 = .ok (.getfield 111, 3) := by decide +kernel
theorem dX2_nextToken_118 : decode cX2_nextToken 118 = .ok (.if_icmp .ne 16, 3) := by decide +kernel
theorem dX2_nextToken_121 : decode cX2_nextToken 121 = .ok (.aload_n 0, 1) := by decide +kernel
theorem dX2_nextToken_122 : decode cX2_nextToken 122 = .ok (.dup, 1) := by decide +kernel
theorem dX2_nextToken_123 : decode cX2_nextToken 123 = .ok (.getfield 33, 3) := by decide +kernel
theorem dX2_nextToken_126 : decode cX2_nextToken 126 = .ok (.iconst 1, 1) := by decide +kernel
theorem dX2_nextToken_127 : decode cX2_nextToken 127 = .ok (.iadd, 1) := by decide +kernel
theorem dX2_nextToken_128 : decode cX2_nextToken 128 = .ok (.putfield 33, 3) := by decide +kernel
theorem dX2_nextToken_131 : decode cX2_nextToken 131 = .ok (.goto (-39), 3) := by decide +kernel
theorem dX2_nextToken_134 : decode cX2_nextToken 134 = .ok (.return_, 1) := by decide +kernel
theorem dX2_sortAt_0 : decode cX2_sortAt 0 = .ok (.aload_n 0, 1) := by decide +kernel
theorem dX2_sortAt_1 : decode cX2_sortAt 1 = .ok (.getfield 24, 3) := by decide +kernel
theorem dX2_sortAt_4 : decode cX2_sortAt 4 = .ok (.iload_n 1, 1) := by decide +kernel
theorem dX2_sortAt_5 : decode cX2_sortAt 5 = .ok (.invokevirtual 117, 3) := by decide +kernel
theorem dX2_sortAt_8 : decode cX2_sortAt 8 = .ok (.istore_n 2, 1) := by decide +kernel
theorem dX2_sortAt_9 : decode cX2_sortAt 9 = .ok (.iload_n 2, 1) := by decide +kernel
theorem dX2_sortAt_10 : decode cX2_sortAt 10 = .ok (.iconst (-1), 1) := by decide +kernel
theorem dX2_sortAt_11 : decode cX2_sortAt 11 = .ok (.if_icmp .ne 5, 3) := by decide +kernel
theorem dX2_sortAt_14 : decode cX2_sortAt 14 = .ok (.iconst 3, 1) := by decide +kernel
theorem dX2_sortAt_15 : decode cX2_sortAt 15 = .ok (.ireturn, 1) := by decide +kernel
theorem dX2_sortAt_16 : decode cX2_sortAt 16 = .ok (.iload_n 2, 1) := by decide +kernel
theorem dX2_sortAt_17 : decode cX2_sortAt 17 = .ok (.bipush 97, 2) := by decide +kernel
theorem dX2_sortAt_19 : decode cX2_sortAt 19 = .ok (.if_icmp .lt 11, 3) := by decide +kernel
theorem dX2_sortAt_22 : decode cX2_sortAt 22 = .ok (.iload_n 2, 1) := by decide +kernel
theorem dX2_sortAt_23 : decode cX2_sortAt 23 = .ok (.bipush 122, 2) := by decide +kernel
theorem dX2_sortAt_25 : decode cX2_sortAt 25 = .ok (.if_icmp .gt 5, 3) := by decide +kernel
theorem dX2_sortAt_28 : decode cX2_sortAt 28 = .ok (.iconst 0, 1) := by decide +kernel
theorem dX2_sortAt_29 : decode cX2_sortAt 29 = .ok (.ireturn, 1) := by decide +kernel
theorem dX2_sortAt_30 : decode cX2_sortAt 30 = .ok (.iload_n 2, 1) := by decide +kernel
theorem dX2_sortAt_31 : decode cX2_sortAt 31 = .ok (.bipush 48, 2) := by decide +kernel
theorem dX2_sortAt_33 : decode cX2_sortAt 33 = .ok (.if_icmp .lt 13, 3) := by decide +kernel
theorem dX2_sortAt_36 : decode cX2_sortAt 36 = .ok (.iload_n 2, 1) := by decide +kernel
theorem dX2_sortAt_37 : decode cX2_sortAt 37 = .ok (.bipush 57, 2) := by decide +kernel
theorem dX2_sortAt_39 : decode cX2_sortAt 39 = .ok (.if_icmp .gt 7, 3) := by decide +kernel
theorem dX2_sortAt_42 : decode cX2_sortAt 42 = .ok (.iconst 1, 1) := by decide +kernel
theorem dX2_sortAt_43 : decode cX2_sortAt 43 = .ok (.goto 4, 3) := by decide +kernel
theorem dX2_sortAt_46 : decode cX2_sortAt 46 = .ok (.iconst 2, 1) := by decide +kernel
theorem dX2_sortAt_47 : decode cX2_sortAt 47 = .ok (.ireturn, 1) := by decide +kernel
theorem dX2_findWord_0 : decode cX2_findWord 0 = .ok (.iconst 0, 1) := by decide +kernel
theorem dX2_findWord_1 : decode cX2_findWord 1 = .ok (.istore_n 1, 1) := by decide +kernel
theorem dX2_findWord_2 : decode cX2_findWord 2 = .ok (.iload_n 1, 1) := by decide +kernel
theorem dX2_findWord_3 : decode cX2_findWord 3 = .ok (.getstatic 128, 3) := by decide +kernel
theorem dX2_findWord_6 : decode cX2_findWord 6 = .ok (.arraylength, 1) := by decide +kernel
theorem dX2_findWord_7 : decode cX2_findWord 7 = .ok (.if_icmp .ge 30, 3) := by decide +kernel
theorem dX2_findWord_10 : decode cX2_findWord 10 = .ok (.aload_n 0, 1) := by decide +kernel
theorem dX2_findWord_11 : decode cX2_findWord 11 = .ok (.getstatic 128, 3) := by decide +kernel
theorem dX2_findWord_14 : decode cX2_findWord 14 = .ok (.iload_n 1, 1) := by decide +kernel
theorem dX2_findWord_15 : decode cX2_findWord 15 = .ok (.aaload, 1) := by decide +kernel
theorem dX2_findWord_16 : decode cX2_findWord 16 = .ok (.getfield 132, 3) := by decide +kernel
theorem dX2_findWord_19 : decode cX2_findWord 19 = .ok (.invokevirtual 135, 3) := by decide +kernel
theorem dX2_findWord_22 : decode cX2_findWord 22 = .ok (.ifCond .eq 9, 3) := by decide +kernel
theorem dX2_findWord_25 : decode cX2_findWord 25 = .ok (.getstatic 128, 3) := by decide +kernel
theorem dX2_findWord_28 : decode cX2_findWord 28 = .ok (.iload_n 1, 1) := by decide +kernel
theorem dX2_findWord_29 : decode cX2_findWord 29 = .ok (.aaload, 1) := by decide +kernel
theorem dX2_findWord_30 : decode cX2_findWord 30 = .ok (.areturn, 1) := by decide +kernel
theorem dX2_findWord_31 : decode cX2_findWord 31 = .ok (.iinc 1 1, 3) := by decide +kernel
theorem dX2_findWord_34 : decode cX2_findWord 34 = .ok (.goto (-32), 3) := by decide +kernel
theorem dX2_findWord_37 : decode cX2_findWord 37 = .ok (.aconst_null, 1) := by decide +kernel
theorem dX2_findWord_38 : decode cX2_findWord 38 = .ok (.areturn, 1) := by decide +kernel
theorem dX2_isSpelt_0 : decode cX2_isSpelt 0 = .ok (.aload_n 1, 1) := by decide +kernel
theorem dX2_isSpelt_1 : decode cX2_isSpelt 1 = .ok (.invokevirtual 86, 3) := by decide +kernel
theorem dX2_isSpelt_4 : decode cX2_isSpelt 4 = .ok (.istore_n 2, 1) := by decide +kernel
theorem dX2_isSpelt_5 : decode cX2_isSpelt 5 = .ok (.aload_n 0, 1) := by decide +kernel
theorem dX2_isSpelt_6 : decode cX2_isSpelt 6 = .ok (.getfield 33, 3) := by decide +kernel
theorem dX2_isSpelt_9 : decode cX2_isSpelt 9 = .ok (.aload_n 0, 1) := by decide +kernel
theorem dX2_isSpelt_10 : decode cX2_isSpelt 10 = .ok (.getfield 114, 3) := by decide +kernel
theorem dX2_isSpelt_13 : decode cX2_isSpelt 13 = .ok (.isub, 1) := by decide +kernel
theorem dX2_isSpelt_14 : decode cX2_isSpelt 14 = .ok (.iload_n 2, 1) := by decide +kernel
theorem dX2_isSpelt_15 : decode cX2_isSpelt 15 = .ok (.if_icmp .eq 5, 3) := by decide +kernel
theorem dX2_isSpelt_18 : decode cX2_isSpelt 18 = .ok (.iconst 0, 1) := by decide +kernel
theorem dX2_isSpelt_19 : decode cX2_isSpelt 19 = .ok (.ireturn, 1) := by decide +kernel
theorem dX2_isSpelt_20 : decode cX2_isSpelt 20 = .ok (.iconst 0, 1) := by decide +kernel
theorem dX2_isSpelt_21 : decode cX2_isSpelt 21 = .ok (.istore_n 3, 1) := by decide +kernel
theorem dX2_isSpelt_22 : decode cX2_isSpelt 22 = .ok (.iload_n 3, 1) := by decide +kernel
theorem dX2_isSpelt_23 : decode cX2_isSpelt 23 = .ok (.iload_n 2, 1) := by decide +kernel
theorem dX2_isSpelt_24 : decode cX2_isSpelt 24 = .ok (.if_icmp .ge 32, 3) := by decide +kernel
theorem dX2_isSpelt_27 : decode cX2_isSpelt 27 = .ok (.aload_n 1, 1) := by decide +kernel
theorem dX2_isSpelt_28 : decode cX2_isSpelt 28 = .ok (.iload_n 3, 1) := by decide +kernel
theorem dX2_isSpelt_29 : decode cX2_isSpelt 29 = .ok (.invokevirtual 95, 3) := by decide +kernel
theorem dX2_isSpelt_32 : decode cX2_isSpelt 32 = .ok (.aload_n 0, 1) := by decide +kernel
theorem dX2_isSpelt_33 : decode cX2_isSpelt 33 = .ok (.getfield 24, 3) := by decide +kernel
theorem dX2_isSpelt_36 : decode cX2_isSpelt 36 = .ok (.aload_n 0, 1) := by decide +kernel
theorem dX2_isSpelt_37 : decode cX2_isSpelt 37 = .ok (.getfield 114, 3) := by decide +kernel
theorem dX2_isSpelt_40 : decode cX2_isSpelt 40 = .ok (.iload_n 3, 1) := by decide +kernel
theorem dX2_isSpelt_41 : decode cX2_isSpelt 41 = .ok (.iadd, 1) := by decide +kernel
theorem dX2_isSpelt_42 : decode cX2_isSpelt 42 = .ok (.invokevirtual 117, 3) := by decide +kernel
theorem dX2_isSpelt_45 : decode cX2_isSpelt 45 = .ok (.if_icmp .eq 5, 3) := by decide +kernel
theorem dX2_isSpelt_48 : decode cX2_isSpelt 48 = .ok (.iconst 0, 1) := by decide +kernel
theorem dX2_isSpelt_49 : decode cX2_isSpelt 49 = .ok (.ireturn, 1) := by decide +kernel
theorem dX2_isSpelt_50 : decode cX2_isSpelt 50 = .ok (.iinc 3 1, 3) := by decide +kernel
theorem dX2_isSpelt_53 : decode cX2_isSpelt 53 = .ok (.goto (-31), 3) := by decide +kernel
theorem dX2_isSpelt_56 : decode cX2_isSpelt 56 = .ok (.iconst 1, 1) := by decide +kernel
theorem dX2_isSpelt_57 : decode cX2_isSpelt 57 = .ok (.ireturn, 1) := by decide +kernel
theorem dX2_isTooMany_0 : decode cX2_isTooMany 0 = .ok (.aload_n 1, 1) := by decide +kernel
theorem dX2_isTooMany_1 : decode cX2_isTooMany 1 = .ok (.getfield 139, 3) := by decide +kernel
theorem dX2_isTooMany_4 : decode cX2_isTooMany 4 = .ok (.iconst (-1), 1) := by decide +kernel
theorem dX2_isTooMany_5 : decode cX2_isTooMany 5 = .ok (.if_icmp .eq 12, 3) := by decide +kernel
theorem dX2_isTooMany_8 : decode cX2_isTooMany 8 = .ok (.aload_n 0, 1) := by decide +kernel
theorem dX2_isTooMany_9 : decode cX2_isTooMany 9 = .ok (.getfield 41, 3) := by decide +kernel
theorem dX2_isTooMany_12 : decode cX2_isTooMany 12 = .ok (.bipush 8, 2) := by decide +kernel
theorem dX2_isTooMany_14 : decode cX2_isTooMany 14 = .ok (.if_icmp .ge 19, 3) := by decide +kernel
theorem dX2_isTooMany_17 : decode cX2_isTooMany 17 = .ok (.aload_n 1, 1) := by decide +kernel
theorem dX2_isTooMany_18 : decode cX2_isTooMany 18 = .ok (.getfield 142, 3) := by decide +kernel
theorem dX2_isTooMany_21 : decode cX2_isTooMany 21 = .ok (.iconst (-1), 1) := by decide +kernel
theorem dX2_isTooMany_22 : decode cX2_isTooMany 22 = .ok (.if_icmp .eq 15, 3) := by decide +kernel
theorem dX2_isTooMany_25 : decode cX2_isTooMany 25 = .ok (.aload_n 0, 1) := by decide +kernel
theorem dX2_isTooMany_26 : decode cX2_isTooMany 26 = .ok (.getfield 51, 3) := by decide +kernel
theorem dX2_isTooMany_29 : decode cX2_isTooMany 29 = .ok (.iconst 3, 1) := by decide +kernel
theorem dX2_isTooMany_30 : decode cX2_isTooMany 30 = .ok (.if_icmp .lt 7, 3) := by decide +kernel
theorem dX2_isTooMany_33 : decode cX2_isTooMany 33 = .ok (.iconst 1, 1) := by decide +kernel
theorem dX2_isTooMany_34 : decode cX2_isTooMany 34 = .ok (.goto 4, 3) := by decide +kernel
theorem dX2_isTooMany_37 : decode cX2_isTooMany 37 = .ok (.iconst 0, 1) := by decide +kernel
theorem dX2_isTooMany_38 : decode cX2_isTooMany 38 = .ok (.ireturn, 1) := by decide +kernel
theorem dX2_numberHere_0 : decode cX2_numberHere 0 = .ok (.aload_n 0, 1) := by decide +kernel
theorem dX2_numberHere_1 : decode cX2_numberHere 1 = .ok (.getfield 111, 3) := by decide +kernel
theorem dX2_numberHere_4 : decode cX2_numberHere 4 = .ok (.iconst 1, 1) := by decide +kernel
theorem dX2_numberHere_5 : decode cX2_numberHere 5 = .ok (.if_icmp .ne 16, 3) := by decide +kernel
theorem dX2_numberHere_8 : decode cX2_numberHere 8 = .ok (.aload_n 0, 1) := by decide +kernel
theorem dX2_numberHere_9 : decode cX2_numberHere 9 = .ok (.getfield 33, 3) := by decide +kernel
theorem dX2_numberHere_12 : decode cX2_numberHere 12 = .ok (.aload_n 0, 1) := by decide +kernel
theorem dX2_numberHere_13 : decode cX2_numberHere 13 = .ok (.getfield 114, 3) := by decide +kernel
theorem dX2_numberHere_16 : decode cX2_numberHere 16 = .ok (.isub, 1) := by decide +kernel
theorem dX2_numberHere_17 : decode cX2_numberHere 17 = .ok (.iconst 3, 1) := by decide +kernel
theorem dX2_numberHere_18 : decode cX2_numberHere 18 = .ok (.if_icmp .le 5, 3) := by decide +kernel
theorem dX2_numberHere_21 : decode cX2_numberHere 21 = .ok (.iconst (-1), 1) := by decide +kernel
theorem dX2_numberHere_22 : decode cX2_numberHere 22 = .ok (.ireturn, 1) := by decide +kernel
theorem dX2_numberHere_23 : decode cX2_numberHere 23 = .ok (.iconst 0, 1) := by decide +kernel
theorem dX2_numberHere_24 : decode cX2_numberHere 24 = .ok (.istore_n 1, 1) := by decide +kernel
theorem dX2_numberHere_25 : decode cX2_numberHere 25 = .ok (.aload_n 0, 1) := by decide +kernel
theorem dX2_numberHere_26 : decode cX2_numberHere 26 = .ok (.getfield 114, 3) := by decide +kernel
theorem dX2_numberHere_29 : decode cX2_numberHere 29 = .ok (.istore_n 2, 1) := by decide +kernel
theorem dX2_numberHere_30 : decode cX2_numberHere 30 = .ok (.iload_n 2, 1) := by decide +kernel
theorem dX2_numberHere_31 : decode cX2_numberHere 31 = .ok (.aload_n 0, 1) := by decide +kernel
theorem dX2_numberHere_32 : decode cX2_numberHere 32 = .ok (.getfield 33, 3) := by decide +kernel
theorem dX2_numberHere_35 : decode cX2_numberHere 35 = .ok (.if_icmp .ge 26, 3) := by decide +kernel
theorem dX2_numberHere_38 : decode cX2_numberHere 38 = .ok (.iload_n 1, 1) := by decide +kernel
theorem dX2_numberHere_39 : decode cX2_numberHere 39 = .ok (.bipush 10, 2) := by decide +kernel
theorem dX2_numberHere_41 : decode cX2_numberHere 41 = .ok (.imul, 1) := by decide +kernel
theorem dX2_numberHere_42 : decode cX2_numberHere 42 = .ok (.aload_n 0, 1) := by decide +kernel
theorem dX2_numberHere_43 : decode cX2_numberHere 43 = .ok (.getfield 24, 3) := by decide +kernel
theorem dX2_numberHere_46 : decode cX2_numberHere 46 = .ok (.iload_n 2, 1) := by decide +kernel
theorem dX2_numberHere_47 : decode cX2_numberHere 47 = .ok (.invokevirtual 117, 3) := by decide +kernel
theorem dX2_numberHere_50 : decode cX2_numberHere 50 = .ok (.iadd, 1) := by decide +kernel
theorem dX2_numberHere_51 : decode cX2_numberHere 51 = .ok (.bipush 48, 2) := by decide +kernel
theorem dX2_numberHere_53 : decode cX2_numberHere 53 = .ok (.isub, 1) := by decide +kernel
theorem dX2_numberHere_54 : decode cX2_numberHere 54 = .ok (.istore_n 1, 1) := by decide +kernel
theorem dX2_numberHere_55 : decode cX2_numberHere 55 = .ok (.iinc 2 1, 3) := by decide +kernel
theorem dX2_numberHere_58 : decode cX2_numberHere 58 = .ok (.goto (-28), 3) := by decide +kernel
theorem dX2_numberHere_61 : decode cX2_numberHere 61 = .ok (.iload_n 1, 1) := by decide +kernel
theorem dX2_numberHere_62 : decode cX2_numberHere 62 = .ok (.ireturn, 1) := by decide +kernel
theorem dX2_canStand_0 : decode cX2_canStand 0 = .ok (.iload_n 1, 1) := by decide +kernel
theorem dX2_canStand_1 : decode cX2_canStand 1 = .ok (.bipush 84, 2) := by decide +kernel
theorem dX2_canStand_3 : decode cX2_canStand 3 = .ok (.if_icmp .eq 9, 3) := by decide +kernel
theorem dX2_canStand_6 : decode cX2_canStand 6 = .ok (.iload_n 1, 1) := by decide +kernel
theorem dX2_canStand_7 : decode cX2_canStand 7 = .ok (.bipush 72, 2) := by decide +kernel
theorem dX2_canStand_9 : decode cX2_canStand 9 = .ok (.if_icmp .ne 39, 3) := by decide +kernel
theorem dX2_canStand_12 : decode cX2_canStand 12 = .ok (.iload_n 2, 1) := by decide +kernel
theorem dX2_canStand_13 : decode cX2_canStand 13 = .ok (.ifCond .lt 33, 3) := by decide +kernel
theorem dX2_canStand_16 : decode cX2_canStand 16 = .ok (.iload_n 2, 1) := by decide +kernel
theorem dX2_canStand_17 : decode cX2_canStand 17 = .ok (.aload_n 0, 1) := by decide +kernel
theorem dX2_canStand_18 : decode cX2_canStand 18 = .ok (.getfield 41, 3) := by decide +kernel
theorem dX2_canStand_21 : decode cX2_canStand 21 = .ok (.if_icmp .ge 25, 3) := by decide +kernel
theorem dX2_canStand_24 : decode cX2_canStand 24 = .ok (.iload_n 1, 1) := by decide +kernel
theorem dX2_canStand_25 : decode cX2_canStand 25 = .ok (.bipush 84, 2) := by decide +kernel
theorem dX2_canStand_27 : decode cX2_canStand 27 = .ok (.if_icmp .eq 15, 3) := by decide +kernel
theorem dX2_canStand_30 : decode cX2_canStand 30 = .ok (.aload_n 0, 1) := by decide +kernel
theorem dX2_canStand_31 : decode cX2_canStand 31 = .ok (.getfield 47, 3) := by decide +kernel
theorem dX2_canStand_34 : decode cX2_canStand 34 = .ok (.iload_n 2, 1) := by decide +kernel
theorem dX2_canStand_35 : decode cX2_canStand 35 = .ok (.ishr, 1) := by decide +kernel
theorem dX2_canStand_36 : decode cX2_canStand 36 = .ok (.iconst 1, 1) := by decide +kernel
theorem dX2_canStand_37 : decode cX2_canStand 37 = .ok (.iand, 1) := by decide +kernel
theorem dX2_canStand_38 : decode cX2_canStand 38 = .ok (.iconst 1, 1) := by decide +kernel
theorem dX2_canStand_39 : decode cX2_canStand 39 = .ok (.if_icmp .ne 7, 3) := by decide +kernel
theorem dX2_canStand_42 : decode cX2_canStand 42 = .ok (.iconst 1, 1) := by decide +kernel
theorem dX2_canStand_43 : decode cX2_canStand 43 = .ok (.goto 4, 3) := by decide +kernel
theorem dX2_canStand_46 : decode cX2_canStand 46 = .ok (.iconst 0, 1) := by decide +kernel
theorem dX2_canStand_47 : decode cX2_canStand 47 = .ok (.ireturn, 1) := by decide +kernel
theorem dX2_canStand_48 : decode cX2_canStand 48 = .ok (.ldc 145, 2) := by decide +kernel
theorem dX2_canStand_50 : decode cX2_canStand 50 = .ok (.iload_n 1, 1) := by decide +kernel
theorem dX2_canStand_51 : decode cX2_canStand 51 = .ok (.invokevirtual 147, 3) := by decide +kernel
theorem dX2_canStand_54 : decode cX2_canStand 54 = .ok (.istore_n 3, 1) := by decide +kernel
theorem dX2_canStand_55 : decode cX2_canStand 55 = .ok (.iload_n 3, 1) := by decide +kernel
theorem dX2_canStand_56 : decode cX2_canStand 56 = .ok (.ifCond .lt 33, 3) := by decide +kernel
theorem dX2_canStand_59 : decode cX2_canStand 59 = .ok (.iload_n 3, 1) := by decide +kernel
theorem dX2_canStand_60 : decode cX2_canStand 60 = .ok (.getstatic 150, 3) := by decide +kernel
theorem dX2_canStand_63 : decode cX2_canStand 63 = .ok (.arraylength, 1) := by decide +kernel
theorem dX2_canStand_64 : decode cX2_canStand 64 = .ok (.if_icmp .ge 25, 3) := by decide +kernel
theorem dX2_canStand_67 : decode cX2_canStand 67 = .ok (.iload_n 2, 1) := by decide +kernel
theorem dX2_canStand_68 : decode cX2_canStand 68 = .ok (.getstatic 150, 3) := by decide +kernel
theorem dX2_canStand_71 : decode cX2_canStand 71 = .ok (.iload_n 3, 1) := by decide +kernel
theorem dX2_canStand_72 : decode cX2_canStand 72 = .ok (.iaload, 1) := by decide +kernel
theorem dX2_canStand_73 : decode cX2_canStand 73 = .ok (.if_icmp .lt 16, 3) := by decide +kernel
theorem dX2_canStand_76 : decode cX2_canStand 76 = .ok (.iload_n 2, 1) := by decide +kernel
theorem dX2_canStand_77 : decode cX2_canStand 77 = .ok (.getstatic 153, 3) := by decide +kernel
theorem dX2_canStand_80 : decode cX2_canStand 80 = .ok (.iload_n 3, 1) := by decide +kernel
theorem dX2_canStand_81 : decode cX2_canStand 81 = .ok (.iaload, 1) := by decide +kernel
theorem dX2_canStand_82 : decode cX2_canStand 82 = .ok (.if_icmp .gt 7, 3) := by decide +kernel
theorem dX2_canStand_85 : decode cX2_canStand 85 = .ok (.iconst 1, 1) := by decide +kernel
theorem dX2_canStand_86 : decode cX2_canStand 86 = .ok (.goto 4, 3) := by decide +kernel
theorem dX2_canStand_89 : decode cX2_canStand 89 = .ok (.iconst 0, 1) := by decide +kernel
theorem dX2_canStand_90 : decode cX2_canStand 90 = .ok (.ireturn, 1) := by decide +kernel
theorem dX2_foresee_0 : decode cX2_foresee 0 = .ok (.aload_n 1, 1) := by decide +kernel
theorem dX2_foresee_1 : decode cX2_foresee 1 = .ok (.getstatic 156, 3) := by decide +kernel
theorem dX2_foresee_4 : decode cX2_foresee 4 = .ok (.if_acmp .ne 21, 3) := by decide +kernel
theorem dX2_foresee_7 : decode cX2_foresee 7 = .ok (.aload_n 0, 1) := by decide +kernel
theorem dX2_foresee_8 : decode cX2_foresee 8 = .ok (.iconst 0, 1) := by decide +kernel
theorem dX2_foresee_9 : decode cX2_foresee 9 = .ok (.putfield 41, 3) := by decide +kernel
theorem dX2_foresee_12 : decode cX2_foresee 12 = .ok (.aload_n 0, 1) := by decide +kernel
theorem dX2_foresee_13 : decode cX2_foresee 13 = .ok (.iconst 0, 1) := by decide +kernel
theorem dX2_foresee_14 : decode cX2_foresee 14 = .ok (.putfield 47, 3) := by decide +kernel
theorem dX2_foresee_17 : decode cX2_foresee 17 = .ok (.aload_n 0, 1) := by decide +kernel
theorem dX2_foresee_18 : decode cX2_foresee 18 = .ok (.iconst 0, 1) := by decide +kernel
theorem dX2_foresee_19 : decode cX2_foresee 19 = .ok (.putfield 51, 3) := by decide +kernel
theorem dX2_foresee_22 : decode cX2_foresee 22 = .ok (.goto 71, 3) := by decide +kernel
theorem dX2_foresee_25 : decode cX2_foresee 25 = .ok (.aload_n 1, 1) := by decide +kernel
theorem dX2_foresee_26 : decode cX2_foresee 26 = .ok (.getfield 139, 3) := by decide +kernel
theorem dX2_foresee_29 : decode cX2_foresee 29 = .ok (.iconst (-1), 1) := by decide +kernel
theorem dX2_foresee_30 : decode cX2_foresee 30 = .ok (.if_icmp .eq 45, 3) := by decide +kernel
theorem dX2_foresee_33 : decode cX2_foresee 33 = .ok (.aload_n 0, 1) := by decide +kernel
theorem dX2_foresee_34 : decode cX2_foresee 34 = .ok (.dup, 1) := by decide +kernel
theorem dX2_foresee_35 : decode cX2_foresee 35 = .ok (.getfield 47, 3) := by decide +kernel
theorem dX2_foresee_38 : decode cX2_foresee 38 = .ok (.aload_n 1, 1) := by decide +kernel
theorem dX2_foresee_39 : decode cX2_foresee 39 = .ok (.getfield 139, 3) := by decide +kernel
theorem dX2_foresee_42 : decode cX2_foresee 42 = .ok (.invokestatic 159, 3) := by decide +kernel
theorem dX2_foresee_45 : decode cX2_foresee 45 = .ok (.ifCond .eq 12, 3) := by decide +kernel
theorem dX2_foresee_48 : decode cX2_foresee 48 = .ok (.iconst 1, 1) := by decide +kernel
theorem dX2_foresee_49 : decode cX2_foresee 49 = .ok (.aload_n 0, 1) := by decide +kernel
theorem dX2_foresee_50 : decode cX2_foresee 50 = .ok (.getfield 41, 3) := by decide +kernel
theorem dX2_foresee_53 : decode cX2_foresee 53 = .ok (.ishl, 1) := by decide +kernel
theorem dX2_foresee_54 : decode cX2_foresee 54 = .ok (.goto 4, 3) := by decide +kernel
theorem dX2_foresee_57 : decode cX2_foresee 57 = .ok (.iconst 0, 1) := by decide +kernel
theorem dX2_foresee_58 : decode cX2_foresee 58 = .ok (.ior, 1) := by decide +kernel
theorem dX2_foresee_59 : decode cX2_foresee 59 = .ok (.putfield 47, 3) := by decide +kernel
theorem dX2_foresee_62 : decode cX2_foresee 62 = .ok (.aload_n 0, 1) := by decide +kernel
theorem dX2_foresee_63 : decode cX2_foresee 63 = .ok (.dup, 1) := by decide +kernel
theorem dX2_foresee_64 : decode cX2_foresee 64 = .ok (.getfield 41, 3) := by decide +kernel
theorem dX2_foresee_67 : decode cX2_foresee 67 = .ok (.iconst 1, 1) := by decide +kernel
theorem dX2_foresee_68 : decode cX2_foresee 68 = .ok (.iadd, 1) := by decide +kernel
theorem dX2_foresee_69 : decode cX2_foresee 69 = .ok (.putfield 41, 3) := by decide +kernel
theorem dX2_foresee_72 : decode cX2_foresee 72 = .ok (.goto 21, 3) := by decide +kernel
theorem dX2_foresee_75 : decode cX2_foresee 75 = .ok (.aload_n 1, 1) := by decide +kernel
theorem dX2_foresee_76 : decode cX2_foresee 76 = .ok (.getfield 142, 3) := by decide +kernel
theorem dX2_foresee_79 : decode cX2_foresee 79 = .ok (.iconst (-1), 1) := by decide +kernel
theorem dX2_foresee_80 : decode cX2_foresee 80 = .ok (.if_icmp .eq 13, 3) := by decide +kernel
theorem dX2_foresee_83 : decode cX2_foresee 83 = .ok (.aload_n 0, 1) := by decide +kernel
theorem dX2_foresee_84 : decode cX2_foresee 84 = .ok (.dup, 1) := by decide +kernel
theorem dX2_foresee_85 : decode cX2_foresee 85 = .ok (.getfield 51, 3) := by decide +kernel
theorem dX2_foresee_88 : decode cX2_foresee 88 = .ok (.iconst 1, 1) := by decide +kernel
theorem dX2_foresee_89 : decode cX2_foresee 89 = .ok (.iadd, 1) := by decide +kernel
theorem dX2_foresee_90 : decode cX2_foresee 90 = .ok (.putfield 51, 3) := by decide +kernel
theorem dX2_foresee_93 : decode cX2_foresee 93 = .ok (.return_, 1) := by decide +kernel
theorem dX3_init_0 : decode cX3_init 0 = .ok (.aload_n 0, 1) := by decide +kernel
theorem dX3_init_1 : decode cX3_init 1 = .ok (.invokespecial 3, 3) := by decide +kernel
theorem dX3_init_4 : decode cX3_init 4 = .ok (.aload_n 0, 1) := by decide +kernel
theorem dX3_init_5 : decode cX3_init 5 = .ok (.bipush 8, 2) := by decide +kernel
theorem dX3_init_7 : decode cX3_init 7 = .ok (.anewarray 9, 3) := by decide +kernel
theorem dX3_init_10 : decode cX3_init 10 = .ok (.putfield 11, 3) := by decide +kernel
theorem dX3_init_13 : decode cX3_init 13 = .ok (.aload_n 0, 1) := by decide +kernel
theorem dX3_init_14 : decode cX3_init 14 = .ok (.iconst 3, 1) := by decide +kernel
theorem dX3_init_15 : decode cX3_init 15 = .ok (.anewarray 17, 3) := by decide +kernel
theorem dX3_init_18 : decode cX3_init 18 = .ok (.putfield 19, 3) := by decide +kernel
theorem dX3_init_21 : decode cX3_init 21 = .ok (.aload_n 0, 1) := by decide +kernel
theorem dX3_init_22 : decode cX3_init 22 = .ok (.new 23, 3) := by decide +kernel
theorem dX3_init_25 : decode cX3_init 25 = .ok (.dup, 1) := by decide +kernel
theorem dX3_init_26 : decode cX3_init 26 = .ok (.invokespecial 25, 3) := by decide +kernel
theorem dX3_init_29 : decode cX3_init 29 = .ok (.putfield 26, 3) := by decide +kernel
theorem dX3_init_32 : decode cX3_init 32 = .ok (.aload_n 0, 1) := by decide +kernel
theorem dX3_init_33 : decode cX3_init 33 = .ok (.iconst 0, 1) := by decide +kernel
theorem dX3_init_34 : decode cX3_init 34 = .ok (.putfield 30, 3) := by decide +kernel
theorem dX3_init_37 : decode cX3_init 37 = .ok (.aload_n 0, 1) := by decide +kernel
theorem dX3_init_38 : decode cX3_init 38 = .ok (.iconst 0, 1) := by decide +kernel
theorem dX3_init_39 : decode cX3_init 39 = .ok (.putfield 34, 3) := by decide +kernel
theorem dX3_init_42 : decode cX3_init 42 = .ok (.aload_n 0, 1) := by decide +kernel
theorem dX3_init_43 : decode cX3_init 43 = .ok (.iconst 0, 1) := by decide +kernel
theorem dX3_init_44 : decode cX3_init 44 = .ok (.putfield 37, 3) := by decide +kernel
theorem dX3_init_47 : decode cX3_init 47 = .ok (.aload_n 0, 1) := by decide +kernel
theorem dX3_init_48 : decode cX3_init 48 = .ok (.iconst 0, 1) := by decide +kernel
theorem dX3_init_49 : decode cX3_init 49 = .ok (.putfield 40, 3) := by decide +kernel
theorem dX3_init_52 : decode cX3_init 52 = .ok (.aload_n 0, 1) := by decide +kernel
theorem dX3_init_53 : decode cX3_init 53 = .ok (.iconst 0, 1) := by decide +kernel
theorem dX3_init_54 : decode cX3_init 54 = .ok (.putfield 43, 3) := by decide +kernel
theorem dX3_init_57 : decode cX3_init 57 = .ok (.aload_n 0, 1) := by decide +kernel
theorem dX3_init_58 : decode cX3_init 58 = .ok (.sipush 256, 3) := by decide +kernel
theorem dX3_init_61 : decode cX3_init 61 = .ok (.newarray .int, 2) := by decide +kernel
theorem dX3_init_63 : decode cX3_init 63 = .ok (.putfield 46, 3) := by decide +kernel
theorem dX3_init_66 : decode cX3_init 66 = .ok (.iconst 0, 1) := by decide +kernel
theorem dX3_init_67 : decode cX3_init 67 = .ok (.istore_n 1, 1) := by decide +kernel
theorem dX3_init_68 : decode cX3_init 68 = .ok (.iload_n 1, 1) := by decide +kernel
theorem dX3_init_69 : decode cX3_init 69 = .ok (.bipush 8, 2) := by decide +kernel
theorem dX3_init_71 : decode cX3_init 71 = .ok (.if_icmp .ge 22, 3) := by decide +kernel
theorem dX3_init_74 : decode cX3_init 74 = .ok (.aload_n 0, 1) := by decide +kernel
theorem dX3_init_75 : decode cX3_init 75 = .ok (.getfield 11, 3) := by decide +kernel
theorem dX3_init_78 : decode cX3_init 78 = .ok (.iload_n 1, 1) := by decide +kernel
theorem dX3_init_79 : decode cX3_init 79 = .ok (.new 9, 3) := by decide +kernel
theorem dX3_init_82 : decode cX3_init 82 = .ok (.dup, 1) := by decide +kernel
theorem dX3_init_83 : decode cX3_init 83 = .ok (.invokespecial 50, 3) := by decide +kernel
theorem dX3_init_86 : decode cX3_init 86 = .ok (.aastore, 1) := by decide +kernel
theorem dX3_init_87 : decode cX3_init 87 = .ok (.iinc 1 1, 3) := by decide +kernel
theorem dX3_init_90 : decode cX3_init 90 = .ok (.goto (-22), 3) := by decide +kernel
theorem dX3_init_93 : decode cX3_init 93 = .ok (.iconst 0, 1) := by decide +kernel
theorem dX3_init_94 : decode cX3_init 94 = .ok (.istore_n 1, 1) := by decide +kernel
theorem dX3_init_95 : decode cX3_init 95 = .ok (.iload_n 1, 1) := by decide +kernel
theorem dX3_init_96 : decode cX3_init 96 = .ok (.iconst 3, 1) := by decide +kernel
theorem dX3_init_97 : decode cX3_init 97 = .ok (.if_icmp .ge 22, 3) := by decide +kernel
theorem dX3_init_100 : decode cX3_init 100 = .ok (.aload_n 0, 1) := by decide +kernel
theorem dX3_init_101 : decode cX3_init 101 = .ok (.getfield 19, 3) := by decide +kernel
theorem dX3_init_104 : decode cX3_init 104 = .ok (.iload_n 1, 1) := by decide +kernel
theorem dX3_init_105 : decode cX3_init 105 = .ok (.new 17, 3) := by decide +kernel
theorem dX3_init_108 : decode cX3_init 108 = .ok (.dup, 1) := by decide +kernel
theorem dX3_init_109 : decode cX3_init 109 = .ok (.invokespecial 51, 3) := by decide +kernel
theorem dX3_init_112 : decode cX3_init 112 = .ok (.aastore, 1) := by decide +kernel
theorem dX3_init_113 : decode cX3_init 113 = .ok (.iinc 1 1, 3) := by decide +kernel
theorem dX3_init_116 : decode cX3_init 116 = .ok (.goto (-21), 3) := by decide +kernel
theorem dX3_init_119 : decode cX3_init 119 = .ok (.return_, 1) := by decide +kernel
theorem dX3_hasThing_0 : decode cX3_hasThing 0 = .ok (.iload_n 1, 1) := by decide +kernel
theorem dX3_hasThing_1 : decode cX3_hasThing 1 = .ok (.ifCond .lt 15, 3) := by decide +kernel
theorem dX3_hasThing_4 : decode cX3_hasThing 4 = .ok (.iload_n 1, 1) := by decide +kernel
theorem dX3_hasThing_5 : decode cX3_hasThing 5 = .ok (.aload_n 0, 1) := by decide +kernel
theorem dX3_hasThing_6 : decode cX3_hasThing 6 = .ok (.getfield 30, 3) := by decide +kernel
theorem dX3_hasThing_9 : decode cX3_hasThing 9 = .ok (.if_icmp .ge 7, 3) := by decide +kernel
theorem dX3_hasThing_12 : decode cX3_hasThing 12 = .ok (.iconst 1, 1) := by decide +kernel
theorem dX3_hasThing_13 : decode cX3_hasThing 13 = .ok (.goto 4, 3) := by decide +kernel
theorem dX3_hasThing_16 : decode cX3_hasThing 16 = .ok (.iconst 0, 1) := by decide +kernel
theorem dX3_hasThing_17 : decode cX3_hasThing 17 = .ok (.ireturn, 1) := by decide +kernel
theorem dX3_hasFerry_0 : decode cX3_hasFerry 0 = .ok (.iload_n 1, 1) := by decide +kernel
theorem dX3_hasFerry_1 : decode cX3_hasFerry 1 = .ok (.ifCond .lt 15, 3) := by decide +kernel
theorem dX3_hasFerry_4 : decode cX3_hasFerry 4 = .ok (.iload_n 1, 1) := by decide +kernel
theorem dX3_hasFerry_5 : decode cX3_hasFerry 5 = .ok (.aload_n 0, 1) := by decide +kernel
theorem dX3_hasFerry_6 : decode cX3_hasFerry 6 = .ok (.getfield 34, 3) := by decide +kernel
theorem dX3_hasFerry_9 : decode cX3_hasFerry 9 = .ok (.if_icmp .ge 7, 3) := by decide +kernel
theorem dX3_hasFerry_12 : decode cX3_hasFerry 12 = .ok (.iconst 1, 1) := by decide +kernel
theorem dX3_hasFerry_13 : decode cX3_hasFerry 13 = .ok (.goto 4, 3) := by decide +kernel
theorem dX3_hasFerry_16 : decode cX3_hasFerry 16 = .ok (.iconst 0, 1) := by decide +kernel
theorem dX3_hasFerry_17 : decode cX3_hasFerry 17 = .ok (.ireturn, 1) := by decide +kernel
theorem dX3_hasAll_0 : decode cX3_hasAll 0 = .ok (.iload_n 1, 1) := by decide +kernel
theorem dX3_hasAll_1 : decode cX3_hasAll 1 = .ok (.ifCond .lt 17, 3) := by decide +kernel
theorem dX3_hasAll_4 : decode cX3_hasAll 4 = .ok (.iload_n 1, 1) := by decide +kernel
theorem dX3_hasAll_5 : decode cX3_hasAll 5 = .ok (.iconst 1, 1) := by decide +kernel
theorem dX3_hasAll_6 : decode cX3_hasAll 6 = .ok (.aload_n 0, 1) := by decide +kernel
theorem dX3_hasAll_7 : decode cX3_hasAll 7 = .ok (.getfield 30, 3) := by decide +kernel
theorem dX3_hasAll_10 : decode cX3_hasAll 10 = .ok (.ishl, 1) := by decide +kernel
theorem dX3_hasAll_11 : decode cX3_hasAll 11 = .ok (.if_icmp .ge 7, 3) := by decide +kernel
theorem dX3_hasAll_14 : decode cX3_hasAll 14 = .ok (.iconst 1, 1) := by decide +kernel
theorem dX3_hasAll_15 : decode cX3_hasAll 15 = .ok (.goto 4, 3) := by decide +kernel
theorem dX3_hasAll_18 : decode cX3_hasAll 18 = .ok (.iconst 0, 1) := by decide +kernel
theorem dX3_hasAll_19 : decode cX3_hasAll 19 = .ok (.ireturn, 1) := by decide +kernel
theorem dX3_carryOut_0 : decode cX3_carryOut 0 = .ok (.aload_n 1, 1) := by decide +kernel
theorem dX3_carryOut_1 : decode cX3_carryOut 1 = .ok (.getfield 52, 3) := by decide +kernel
theorem dX3_carryOut_4 : decode cX3_carryOut 4 = .ok (.astore_n 2, 1) := by decide +kernel
theorem dX3_carryOut_5 : decode cX3_carryOut 5 = .ok (.aload_n 1, 1) := by decide +kernel
theorem dX3_carryOut_6 : decode cX3_carryOut 6 = .ok (.getfield 57, 3) := by decide +kernel
theorem dX3_carryOut_9 : decode cX3_carryOut 9 = .ok (.astore_n 3, 1) := by decide +kernel
theorem dX3_carryOut_10 : decode cX3_carryOut 10 = .ok (.aload_n 3, 1) := by decide +kernel
theorem dX3_carryOut_11 : decode cX3_carryOut 11 = .ok (.getstatic 61, 3) := by decide +kernel
theorem dX3_carryOut_14 : decode cX3_carryOut 14 = .ok (.if_acmp .ne 16, 3) := by decide +kernel
theorem dX3_carryOut_17 : decode cX3_carryOut 17 = .ok (.aload_n 0, 1) := by decide +kernel
theorem dX3_carryOut_18 : decode cX3_carryOut 18 = .ok (.iconst 0, 1) := by decide +kernel
theorem dX3_carryOut_19 : decode cX3_carryOut 19 = .ok (.putfield 30, 3) := by decide +kernel
theorem dX3_carryOut_22 : decode cX3_carryOut 22 = .ok (.aload_n 0, 1) := by decide +kernel
theorem dX3_carryOut_23 : decode cX3_carryOut 23 = .ok (.iconst 0, 1) := by decide +kernel
theorem dX3_carryOut_24 : decode cX3_carryOut 24 = .ok (.putfield 34, 3) := by decide +kernel
theorem dX3_carryOut_27 : decode cX3_carryOut 27 = .ok (.goto 68, 3) := by decide +kernel
theorem dX3_carryOut_30 : decode cX3_carryOut 30 = .ok (.aload_n 3, 1) := by decide +kernel
theorem dX3_carryOut_31 : decode cX3_carryOut 31 = .ok (.getfield 66, 3) := by decide +kernel
theorem dX3_carryOut_34 : decode cX3_carryOut 34 = .ok (.iconst (-1), 1) := by decide +kernel
theorem dX3_carryOut_35 : decode cX3_carryOut 35 = .ok (.if_icmp .eq 15, 3) := by decide +kernel
theorem dX3_carryOut_38 : decode cX3_carryOut 38 = .ok (.aload_n 0, 1) := by decide +kernel
theorem dX3_carryOut_39 : decode cX3_carryOut 39 = .ok (.aload_n 3, 1) := by decide +kernel
theorem dX3_carryOut_40 : decode cX3_carryOut 40 = .ok (.getfield 66, 3) := by decide +kernel
theorem dX3_carryOut_43 : decode cX3_carryOut 43 = .ok (.aload_n 2, 1) := by decide +kernel
theorem dX3_carryOut_44 : decode cX3_carryOut 44 = .ok (.invokevirtual 69, 3) := by decide +kernel
theorem dX3_carryOut_47 : decode cX3_carryOut 47 = .ok (.goto 48, 3) := by decide +kernel
theorem dX3_carryOut_50 : decode cX3_carryOut 50 = .ok (.aload_n 3, 1) := by decide +kernel
theorem dX3_carryOut_51 : decode cX3_carryOut 51 = .ok (.getfield 73, 3) := by decide +kernel
theorem dX3_carryOut_54 : decode cX3_carryOut 54 = .ok (.iconst (-1), 1) := by decide +kernel
theorem dX3_carryOut_55 : decode cX3_carryOut 55 = .ok (.if_icmp .eq 15, 3) := by decide +kernel
theorem dX3_carryOut_58 : decode cX3_carryOut 58 = .ok (.aload_n 0, 1) := by decide +kernel
theorem dX3_carryOut_59 : decode cX3_carryOut 59 = .ok (.aload_n 3, 1) := by decide +kernel
theorem dX3_carryOut_60 : decode cX3_carryOut 60 = .ok (.getfield 73, 3) := by decide +kernel
theorem dX3_carryOut_63 : decode cX3_carryOut 63 = .ok (.aload_n 2, 1) := by decide +kernel
theorem dX3_carryOut_64 : decode cX3_carryOut 64 = .ok (.invokevirtual 76, 3) := by decide +kernel
theorem dX3_carryOut_67 : decode cX3_carryOut 67 = .ok (.goto 28, 3) := by decide +kernel
theorem dX3_carryOut_70 : decode cX3_carryOut 70 = .ok (.aload_n 0, 1) := by decide +kernel
theorem dX3_carryOut_71 : decode cX3_carryOut 71 = .ok (.aload_n 2, 1) := by decide +kernel
theorem dX3_carryOut_72 : decode cX3_carryOut 72 = .ok (.iconst 0, 1) := by decide +kernel
theorem dX3_carryOut_73 : decode cX3_carryOut 73 = .ok (.iaload, 1) := by decide +kernel
theorem dX3_carryOut_74 : decode cX3_carryOut 74 = .ok (.invokevirtual 79, 3) := by decide +kernel
theorem dX3_carryOut_77 : decode cX3_carryOut 77 = .ok (.ifCond .eq 18, 3) := by decide +kernel
theorem dX3_carryOut_80 : decode cX3_carryOut 80 = .ok (.aload_n 0, 1) := by decide +kernel
theorem dX3_carryOut_81 : decode cX3_carryOut 81 = .ok (.getfield 11, 3) := by decide +kernel
theorem dX3_carryOut_84 : decode cX3_carryOut 84 = .ok (.aload_n 2, 1) := by decide +kernel
theorem dX3_carryOut_85 : decode cX3_carryOut 85 = .ok (.iconst 0, 1) := by decide +kernel
theorem dX3_carryOut_86 : decode cX3_carryOut 86 = .ok (.iaload, 1) := by decide +kernel
theorem dX3_carryOut_87 : decode cX3_carryOut 87 = .ok (.aaload, 1) := by decide +kernel
theorem dX3_carryOut_88 : decode cX3_carryOut 88 = .ok (.aload_n 3, 1) := by decide +kernel
theorem dX3_carryOut_89 : decode cX3_carryOut 89 = .ok (.aload_n 2, 1) := by decide +kernel
theorem dX3_carryOut_90 : decode cX3_carryOut 90 = .ok (.iconst 1, 1) := by decide +kernel
theorem dX3_carryOut_91 : decode cX3_carryOut 91 = .ok (.iaload, 1) := by decide +kernel
theorem dX3_carryOut_92 : decode cX3_carryOut 92 = .ok (.invokestatic 83, 3) := by decide +kernel
theorem dX3_carryOut_95 : decode cX3_carryOut 95 = .ok (.return_, 1) := by decide +kernel
theorem dX3_addThing_0 : decode cX3_addThing 0 = .ok (.aload_n 0, 1) := by decide +kernel
theorem dX3_addThing_1 : decode cX3_addThing 1 = .ok (.getfield 30, 3) := by decide +kernel
theorem dX3_addThing_4 : decode cX3_addThing 4 = .ok (.bipush 8, 2) := by decide +kernel
theorem dX3_addThing_6 : decode cX3_addThing 6 = .ok (.if_icmp .ge 32, 3) := by decide +kernel
theorem dX3_addThing_9 : decode cX3_addThing 9 = .ok (.aload_n 0, 1) := by decide +kernel
theorem dX3_addThing_10 : decode cX3_addThing 10 = .ok (.getfield 11, 3) := by decide +kernel
theorem dX3_addThing_13 : decode cX3_addThing 13 = .ok (.aload_n 0, 1) := by decide +kernel
theorem dX3_addThing_14 : decode cX3_addThing 14 = .ok (.getfield 30, 3) := by decide +kernel
theorem dX3_addThing_17 : decode cX3_addThing 17 = .ok (.aaload, 1) := by decide +kernel
theorem dX3_addThing_18 : decode cX3_addThing 18 = .ok (.iload_n 1, 1) := by decide +kernel
theorem dX3_addThing_19 : decode cX3_addThing 19 = .ok (.aload_n 2, 1) := by decide +kernel
theorem dX3_addThing_20 : decode cX3_addThing 20 = .ok (.iconst 0, 1) := by decide +kernel
theorem dX3_addThing_21 : decode cX3_addThing 21 = .ok (.iaload, 1) := by decide +kernel
theorem dX3_addThing_22 : decode cX3_addThing 22 = .ok (.aload_n 2, 1) := by decide +kernel
theorem dX3_addThing_23 : decode cX3_addThing 23 = .ok (.iconst 1, 1) := by decide +kernel
theorem dX3_addThing_24 : decode cX3_addThing 24 = .ok (.iaload, 1) := by decide +kernel
theorem dX3_addThing_25 : decode cX3_addThing 25 = .ok (.invokevirtual 87, 3) := by decide +kernel
theorem dX3_addThing_28 : decode cX3_addThing 28 = .ok (.aload_n 0, 1) := by decide +kernel
theorem dX3_addThing_29 : decode cX3_addThing 29 = .ok (.dup, 1) := by decide +kernel
theorem dX3_addThing_30 : decode cX3_addThing 30 = .ok (.getfield 30, 3) := by decide +kernel
theorem dX3_addThing_33 : decode cX3_addThing 33 = .ok (.iconst 1, 1) := by decide +kernel
theorem dX3_addThing_34 : decode cX3_addThing 34 = .ok (.iadd, 1) := by decide +kernel
theorem dX3_addThing_35 : decode cX3_addThing 35 = .ok (.putfield 30, 3) := by decide +kernel
theorem dX3_addThing_38 : decode cX3_addThing 38 = .ok (.return_, 1) := by decide +kernel
theorem dX3_addFerry_0 : decode cX3_addFerry 0 = .ok (.aload_n 0, 1) := by decide +kernel
theorem dX3_addFerry_1 : decode cX3_addFerry 1 = .ok (.getfield 34, 3) := by decide +kernel
theorem dX3_addFerry_4 : decode cX3_addFerry 4 = .ok (.iconst 3, 1) := by decide +kernel
theorem dX3_addFerry_5 : decode cX3_addFerry 5 = .ok (.if_icmp .ge 38, 3) := by decide +kernel
theorem dX3_addFerry_8 : decode cX3_addFerry 8 = .ok (.aload_n 0, 1) := by decide +kernel
theorem dX3_addFerry_9 : decode cX3_addFerry 9 = .ok (.getfield 19, 3) := by decide +kernel
theorem dX3_addFerry_12 : decode cX3_addFerry 12 = .ok (.aload_n 0, 1) := by decide +kernel
theorem dX3_addFerry_13 : decode cX3_addFerry 13 = .ok (.getfield 34, 3) := by decide +kernel
theorem dX3_addFerry_16 : decode cX3_addFerry 16 = .ok (.aaload, 1) := by decide +kernel
theorem dX3_addFerry_17 : decode cX3_addFerry 17 = .ok (.iload_n 1, 1) := by decide +kernel
theorem dX3_addFerry_18 : decode cX3_addFerry 18 = .ok (.aload_n 2, 1) := by decide +kernel
theorem dX3_addFerry_19 : decode cX3_addFerry 19 = .ok (.iconst 0, 1) := by decide +kernel
theorem dX3_addFerry_20 : decode cX3_addFerry 20 = .ok (.iaload, 1) := by decide +kernel
theorem dX3_addFerry_21 : decode cX3_addFerry 21 = .ok (.aload_n 2, 1) := by decide +kernel
theorem dX3_addFerry_22 : decode cX3_addFerry 22 = .ok (.iconst 1, 1) := by decide +kernel
theorem dX3_addFerry_23 : decode cX3_addFerry 23 = .ok (.iaload, 1) := by decide +kernel
theorem dX3_addFerry_24 : decode cX3_addFerry 24 = .ok (.aload_n 2, 1) := by decide +kernel
theorem dX3_addFerry_25 : decode cX3_addFerry 25 = .ok (.iconst 2, 1) := by decide +kernel
theorem dX3_addFerry_26 : decode cX3_addFerry 26 = .ok (.iaload, 1) := by decide +kernel
theorem dX3_addFerry_27 : decode cX3_addFerry 27 = .ok (.aload_n 2, 1) := by decide +kernel
theorem dX3_addFerry_28 : decode cX3_addFerry 28 = .ok (.iconst 3, 1) := by decide +kernel
theorem dX3_addFerry_29 : decode cX3_addFerry 29 = .ok (.iaload, 1) := by decide +kernel
theorem dX3_addFerry_30 : decode cX3_addFerry 30 = .ok (.invokevirtual 91, 3) := by decide +kernel
theorem dX3_addFerry_33 : decode cX3_addFerry 33 = .ok (.aload_n 0, 1) := by decide +kernel
theorem dX3_addFerry_34 : decode cX3_addFerry 34 = .ok (.dup, 1) := by decide +kernel
theorem dX3_addFerry_35 : decode cX3_addFerry 35 = .ok (.getfield 34, 3) := by decide +kernel
theorem dX3_addFerry_38 : decode cX3_addFerry 38 = .ok (.iconst 1, 1) := by decide +kernel
theorem dX3_addFerry_39 : decode cX3_addFerry 39 = .ok (.iadd, 1) := by decide +kernel
theorem dX3_addFerry_40 : decode cX3_addFerry 40 = .ok (.putfield 34, 3) := by decide +kernel
theorem dX3_addFerry_43 : decode cX3_addFerry 43 = .ok (.return_, 1) := by decide +kernel
theorem dX3_change_0 : decode cX3_change 0 = .ok (.aload_n 1, 1) := by decide +kernel
theorem dX3_change_1 : decode cX3_change 1 = .ok (.getstatic 94, 3) := by decide +kernel
theorem dX3_change_4 : decode cX3_change 4 = .ok (.if_acmp .ne 11, 3) := by decide +kernel
theorem dX3_change_7 : decode cX3_change 7 = .ok (.aload_n 0, 1) := by decide +kernel
theorem dX3_change_8 : decode cX3_change 8 = .ok (.iload_n 2, 1) := by decide +kernel
theorem dX3_change_9 : decode cX3_change 9 = .ok (.putfield 97, 3) := by decide +kernel
theorem dX3_change_12 : decode cX3_change 12 = .ok (.goto 30, 3) := by decide +kernel
theorem dX3_change_15 : decode cX3_change 15 = .ok (.aload_n 1, 1) := by decide +kernel
theorem dX3_change_16 : decode cX3_change 16 = .ok (.getstatic 100, 3) := by decide +kernel
theorem dX3_change_19 : decode cX3_change 19 = .ok (.if_acmp .ne 11, 3) := by decide +kernel
theorem dX3_change_22 : decode cX3_change 22 = .ok (.aload_n 0, 1) := by decide +kernel
theorem dX3_change_23 : decode cX3_change 23 = .ok (.iload_n 2, 1) := by decide +kernel
theorem dX3_change_24 : decode cX3_change 24 = .ok (.putfield 103, 3) := by decide +kernel
theorem dX3_change_27 : decode cX3_change 27 = .ok (.goto 15, 3) := by decide +kernel
theorem dX3_change_30 : decode cX3_change 30 = .ok (.aload_n 1, 1) := by decide +kernel
theorem dX3_change_31 : decode cX3_change 31 = .ok (.getstatic 106, 3) := by decide +kernel
theorem dX3_change_34 : decode cX3_change 34 = .ok (.if_acmp .ne 8, 3) := by decide +kernel
theorem dX3_change_37 : decode cX3_change 37 = .ok (.aload_n 0, 1) := by decide +kernel
theorem dX3_change_38 : decode cX3_change 38 = .ok (.iconst 1, 1) := by decide +kernel
theorem dX3_change_39 : decode cX3_change 39 = .ok (.putfield 109, 3) := by decide +kernel
theorem dX3_change_42 : decode cX3_change 42 = .ok (.return_, 1) := by decide +kernel
theorem dX3_beginDay_0 : decode cX3_beginDay 0 = .ok (.aload_n 0, 1) := by decide +kernel
theorem dX3_beginDay_1 : decode cX3_beginDay 1 = .ok (.getfield 26, 3) := by decide +kernel
theorem dX3_beginDay_4 : decode cX3_beginDay 4 = .ok (.iconst 0, 1) := by decide +kernel
theorem dX3_beginDay_5 : decode cX3_beginDay 5 = .ok (.putfield 112, 3) := by decide +kernel
theorem dX3_beginDay_8 : decode cX3_beginDay 8 = .ok (.aload_n 0, 1) := by decide +kernel
theorem dX3_beginDay_9 : decode cX3_beginDay 9 = .ok (.iconst 0, 1) := by decide +kernel
theorem dX3_beginDay_10 : decode cX3_beginDay 10 = .ok (.putfield 37, 3) := by decide +kernel
theorem dX3_beginDay_13 : decode cX3_beginDay 13 = .ok (.aload_n 0, 1) := by decide +kernel
theorem dX3_beginDay_14 : decode cX3_beginDay 14 = .ok (.iconst 0, 1) := by decide +kernel
theorem dX3_beginDay_15 : decode cX3_beginDay 15 = .ok (.putfield 40, 3) := by decide +kernel
theorem dX3_beginDay_18 : decode cX3_beginDay 18 = .ok (.aload_n 0, 1) := by decide +kernel
theorem dX3_beginDay_19 : decode cX3_beginDay 19 = .ok (.iconst 0, 1) := by decide +kernel
theorem dX3_beginDay_20 : decode cX3_beginDay 20 = .ok (.putfield 43, 3) := by decide +kernel
theorem dX3_beginDay_23 : decode cX3_beginDay 23 = .ok (.iconst 0, 1) := by decide +kernel
theorem dX3_beginDay_24 : decode cX3_beginDay 24 = .ok (.istore_n 1, 1) := by decide +kernel
theorem dX3_beginDay_25 : decode cX3_beginDay 25 = .ok (.iload_n 1, 1) := by decide +kernel
theorem dX3_beginDay_26 : decode cX3_beginDay 26 = .ok (.aload_n 0, 1) := by decide +kernel
theorem dX3_beginDay_27 : decode cX3_beginDay 27 = .ok (.getfield 30, 3) := by decide +kernel
theorem dX3_beginDay_30 : decode cX3_beginDay 30 = .ok (.if_icmp .ge 103, 3) := by decide +kernel
theorem dX3_beginDay_33 : decode cX3_beginDay 33 = .ok (.aload_n 0, 1) := by decide +kernel
theorem dX3_beginDay_34 : decode cX3_beginDay 34 = .ok (.getfield 11, 3) := by decide +kernel
theorem dX3_beginDay_37 : decode cX3_beginDay 37 = .ok (.iload_n 1, 1) := by decide +kernel
theorem dX3_beginDay_38 : decode cX3_beginDay 38 = .ok (.aaload, 1) := by decide +kernel
theorem dX3_beginDay_39 : decode cX3_beginDay 39 = .ok (.astore_n 2, 1) := by decide +kernel
theorem dX3_beginDay_40 : decode cX3_beginDay 40 = .ok (.aload_n 0, 1) := by decide +kernel
theorem dX3_beginDay_41 : decode cX3_beginDay 41 = .ok (.getfield 26, 3) := by decide +kernel
theorem dX3_beginDay_44 : decode cX3_beginDay 44 = .ok (.dup, 1) := by decide +kernel
theorem dX3_beginDay_45 : decode cX3_beginDay 45 = .ok (.getfield 112, 3) := by decide +kernel
theorem dX3_beginDay_48 : decode cX3_beginDay 48 = .ok (.aload_n 2, 1) := by decide +kernel
theorem dX3_beginDay_49 : decode cX3_beginDay 49 = .ok (.getfield 115, 3) := by decide +kernel
theorem dX3_beginDay_52 : decode cX3_beginDay 52 = .ok (.iload_n 1, 1) := by decide +kernel
theorem dX3_beginDay_53 : decode cX3_beginDay 53 = .ok (.ishl, 1) := by decide +kernel
theorem dX3_beginDay_54 : decode cX3_beginDay 54 = .ok (.ior, 1) := by decide +kernel
theorem dX3_beginDay_55 : decode cX3_beginDay 55 = .ok (.putfield 112, 3) := by decide +kernel
theorem dX3_beginDay_58 : decode cX3_beginDay 58 = .ok (.aload_n 0, 1) := by decide +kernel
theorem dX3_beginDay_59 : decode cX3_beginDay 59 = .ok (.dup, 1) := by decide +kernel
theorem dX3_beginDay_60 : decode cX3_beginDay 60 = .ok (.getfield 37, 3) := by decide +kernel
theorem dX3_beginDay_63 : decode cX3_beginDay 63 = .ok (.aload_n 2, 1) := by decide +kernel
theorem dX3_beginDay_64 : decode cX3_beginDay 64 = .ok (.getfield 118, 3) := by decide +kernel
theorem dX3_beginDay_67 : decode cX3_beginDay 67 = .ok (.ifCond .ne 9, 3) := by decide +kernel
theorem dX3_beginDay_70 : decode cX3_beginDay 70 = .ok (.iconst 1, 1) := by decide +kernel
theorem dX3_beginDay_71 : decode cX3_beginDay 71 = .ok (.iload_n 1, 1) := by decide +kernel
theorem dX3_beginDay_72 : decode cX3_beginDay 72 = .ok (.ishl, 1) := by decide +kernel
theorem dX3_beginDay_73 : decode cX3_beginDay 73 = .ok (.goto 4, 3) := by decide +kernel
theorem dX3_beginDay_76 : decode cX3_beginDay 76 = .ok (.iconst 0, 1) := by decide +kernel
theorem dX3_beginDay_77 : decode cX3_beginDay 77 = .ok (.ior, 1) := by decide +kernel
theorem dX3_beginDay_78 : decode cX3_beginDay 78 = .ok (.putfield 37, 3) := by decide +kernel
theorem dX3_beginDay_81 : decode cX3_beginDay 81 = .ok (.aload_n 0, 1) := by decide +kernel
theorem dX3_beginDay_82 : decode cX3_beginDay 82 = .ok (.dup, 1) := by decide +kernel
theorem dX3_beginDay_83 : decode cX3_beginDay 83 = .ok (.getfield 40, 3) := by decide +kernel
theorem dX3_beginDay_86 : decode cX3_beginDay 86 = .ok (.aload_n 2, 1) := by decide +kernel
theorem dX3_beginDay_87 : decode cX3_beginDay 87 = .ok (.invokevirtual 121, 3) := by decide +kernel
theorem dX3_beginDay_90 : decode cX3_beginDay 90 = .ok (.ifCond .eq 9, 3) := by decide +kernel
theorem dX3_beginDay_93 : decode cX3_beginDay 93 = .ok (.iconst 1, 1) := by decide +kernel
theorem dX3_beginDay_94 : decode cX3_beginDay 94 = .ok (.iload_n 1, 1) := by decide +kernel
theorem dX3_beginDay_95 : decode cX3_beginDay 95 = .ok (.ishl, 1) := by decide +kernel
theorem dX3_beginDay_96 : decode cX3_beginDay 96 = .ok (.goto 4, 3) := by decide +kernel
theorem dX3_beginDay_99 : decode cX3_beginDay 99 = .ok (.iconst 0, 1) := by decide +kernel
theorem dX3_beginDay_100 : decode cX3_beginDay 100 = .ok (.ior, 1) := by decide +kernel
theorem dX3_beginDay_101 : decode cX3_beginDay 101 = .ok (.putfield 40, 3) := by decide +kernel
theorem dX3_beginDay_104 : decode cX3_beginDay 104 = .ok (.aload_n 0, 1) := by decide +kernel
theorem dX3_beginDay_105 : decode cX3_beginDay 105 = .ok (.dup, 1) := by decide +kernel
theorem dX3_beginDay_106 : decode cX3_beginDay 106 = .ok (.getfield 43, 3) := by decide +kernel
theorem dX3_beginDay_109 : decode cX3_beginDay 109 = .ok (.aload_n 2, 1) := by decide +kernel
theorem dX3_beginDay_110 : decode cX3_beginDay 110 = .ok (.getfield 109, 3) := by decide +kernel
theorem dX3_beginDay_113 : decode cX3_beginDay 113 = .ok (.ifCond .eq 9, 3) := by decide +kernel
theorem dX3_beginDay_116 : decode cX3_beginDay 116 = .ok (.iconst 1, 1) := by decide +kernel
theorem dX3_beginDay_117 : decode cX3_beginDay 117 = .ok (.iload_n 1, 1) := by decide +kernel
theorem dX3_beginDay_118 : decode cX3_beginDay 118 = .ok (.ishl, 1) := by decide +kernel
theorem dX3_beginDay_119 : decode cX3_beginDay 119 = .ok (.goto 4, 3) := by decide +kernel
theorem dX3_beginDay_122 : decode cX3_beginDay 122 = .ok (.iconst 0, 1) := by decide +kernel
theorem dX3_beginDay_123 : decode cX3_beginDay 123 = .ok (.ior, 1) := by decide +kernel
theorem dX3_beginDay_124 : decode cX3_beginDay 124 = .ok (.putfield 43, 3) := by decide +kernel
theorem dX3_beginDay_127 : decode cX3_beginDay 127 = .ok (.iinc 1 1, 3) := by decide +kernel
theorem dX3_beginDay_130 : decode cX3_beginDay 130 = .ok (.goto (-105), 3) := by decide +kernel
theorem dX3_beginDay_133 : decode cX3_beginDay 133 = .ok (.iconst 0, 1) := by decide +kernel
theorem dX3_beginDay_134 : decode cX3_beginDay 134 = .ok (.istore_n 1, 1) := by decide +kernel
theorem dX3_beginDay_135 : decode cX3_beginDay 135 = .ok (.iload_n 1, 1) := by decide +kernel
theorem dX3_beginDay_136 : decode cX3_beginDay 136 = .ok (.aload_n 0, 1) := by decide +kernel
theorem dX3_beginDay_137 : decode cX3_beginDay 137 = .ok (.getfield 34, 3) := by decide +kernel
theorem dX3_beginDay_140 : decode cX3_beginDay 140 = .ok (.if_icmp .ge 36, 3) := by decide +kernel
theorem dX3_beginDay_143 : decode cX3_beginDay 143 = .ok (.aload_n 0, 1) := by decide +kernel
theorem dX3_beginDay_144 : decode cX3_beginDay 144 = .ok (.getfield 26, 3) := by decide +kernel
theorem dX3_beginDay_147 : decode cX3_beginDay 147 = .ok (.dup, 1) := by decide +kernel
theorem dX3_beginDay_148 : decode cX3_beginDay 148 = .ok (.getfield 112, 3) := by decide +kernel
theorem dX3_beginDay_151 : decode cX3_beginDay 151 = .ok (.sipush 256, 3) := by decide +kernel
theorem dX3_beginDay_154 : decode cX3_beginDay 154 = .ok (.aload_n 0, 1) := by decide +kernel
theorem dX3_beginDay_155 : decode cX3_beginDay 155 = .ok (.getfield 19, 3) := by decide +kernel
theorem dX3_beginDay_158 : decode cX3_beginDay 158 = .ok (.iload_n 1, 1) := by decide +kernel
theorem dX3_beginDay_159 : decode cX3_beginDay 159 = .ok (.aaload, 1) := by decide +kernel
theorem dX3_beginDay_160 : decode cX3_beginDay 160 = .ok (.getfield 125, 3) := by decide +kernel
theorem dX3_beginDay_163 : decode cX3_beginDay 163 = .ok (.imul, 1) := by decide +kernel
theorem dX3_beginDay_164 : decode cX3_beginDay 164 = .ok (.iload_n 1, 1) := by decide +kernel
theorem dX3_beginDay_165 : decode cX3_beginDay 165 = .ok (.ishl, 1) := by decide +kernel
theorem dX3_beginDay_166 : decode cX3_beginDay 166 = .ok (.ior, 1) := by decide +kernel
theorem dX3_beginDay_167 : decode cX3_beginDay 167 = .ok (.putfield 112, 3) := by decide +kernel
theorem dX3_beginDay_170 : decode cX3_beginDay 170 = .ok (.iinc 1 1, 3) := by decide +kernel
theorem dX3_beginDay_173 : decode cX3_beginDay 173 = .ok (.goto (-38), 3) := by decide +kernel
theorem dX3_beginDay_176 : decode cX3_beginDay 176 = .ok (.aload_n 0, 1) := by decide +kernel
theorem dX3_beginDay_177 : decode cX3_beginDay 177 = .ok (.getfield 26, 3) := by decide +kernel
theorem dX3_beginDay_180 : decode cX3_beginDay 180 = .ok (.iconst 0, 1) := by decide +kernel
theorem dX3_beginDay_181 : decode cX3_beginDay 181 = .ok (.putfield 126, 3) := by decide +kernel
theorem dX3_beginDay_184 : decode cX3_beginDay 184 = .ok (.aload_n 0, 1) := by decide +kernel
theorem dX3_beginDay_185 : decode cX3_beginDay 185 = .ok (.getfield 26, 3) := by decide +kernel
theorem dX3_beginDay_188 : decode cX3_beginDay 188 = .ok (.iconst 0, 1) := by decide +kernel
theorem dX3_beginDay_189 : decode cX3_beginDay 189 = .ok (.putfield 129, 3) := by decide +kernel
theorem dX3_beginDay_192 : decode cX3_beginDay 192 = .ok (.aload_n 0, 1) := by decide +kernel
theorem dX3_beginDay_193 : decode cX3_beginDay 193 = .ok (.getfield 26, 3) := by decide +kernel
theorem dX3_beginDay_196 : decode cX3_beginDay 196 = .ok (.iconst 0, 1) := by decide +kernel
theorem dX3_beginDay_197 : decode cX3_beginDay 197 = .ok (.putfield 132, 3) := by decide +kernel
theorem dX3_beginDay_200 : decode cX3_beginDay 200 = .ok (.aload_n 0, 1) := by decide +kernel
theorem dX3_beginDay_201 : decode cX3_beginDay 201 = .ok (.invokevirtual 135, 3) := by decide +kernel
theorem dX3_beginDay_204 : decode cX3_beginDay 204 = .ok (.return_, 1) := by decide +kernel
theorem dX3_hatIsOn_0 : decode cX3_hatIsOn 0 = .ok (.aload_n 0, 1) := by decide +kernel
theorem dX3_hatIsOn_1 : decode cX3_hatIsOn 1 = .ok (.getfield 40, 3) := by decide +kernel
theorem dX3_hatIsOn_4 : decode cX3_hatIsOn 4 = .ok (.aload_n 0, 1) := by decide +kernel
theorem dX3_hatIsOn_5 : decode cX3_hatIsOn 5 = .ok (.getfield 26, 3) := by decide +kernel
theorem dX3_hatIsOn_8 : decode cX3_hatIsOn 8 = .ok (.getfield 126, 3) := by decide +kernel
theorem dX3_hatIsOn_11 : decode cX3_hatIsOn 11 = .ok (.iconst (-1), 1) := by decide +kernel
theorem dX3_hatIsOn_12 : decode cX3_hatIsOn 12 = .ok (.ixor, 1) := by decide +kernel
theorem dX3_hatIsOn_13 : decode cX3_hatIsOn 13 = .ok (.iand, 1) := by decide +kernel
theorem dX3_hatIsOn_14 : decode cX3_hatIsOn 14 = .ok (.iload_n 1, 1) := by decide +kernel
theorem dX3_hatIsOn_15 : decode cX3_hatIsOn 15 = .ok (.ishr, 1) := by decide +kernel
theorem dX3_hatIsOn_16 : decode cX3_hatIsOn 16 = .ok (.iconst 1, 1) := by decide +kernel
theorem dX3_hatIsOn_17 : decode cX3_hatIsOn 17 = .ok (.iand, 1) := by decide +kernel
theorem dX3_hatIsOn_18 : decode cX3_hatIsOn 18 = .ok (.iconst 1, 1) := by decide +kernel
theorem dX3_hatIsOn_19 : decode cX3_hatIsOn 19 = .ok (.if_icmp .ne 7, 3) := by decide +kernel
theorem dX3_hatIsOn_22 : decode cX3_hatIsOn 22 = .ok (.iconst 1, 1) := by decide +kernel
theorem dX3_hatIsOn_23 : decode cX3_hatIsOn 23 = .ok (.goto 4, 3) := by decide +kernel
theorem dX3_hatIsOn_26 : decode cX3_hatIsOn 26 = .ok (.iconst 0, 1) := by decide +kernel
theorem dX3_hatIsOn_27 : decode cX3_hatIsOn 27 = .ok (.ireturn, 1) := by decide +kernel
theorem dX3_turnHat_0 : decode cX3_turnHat 0 = .ok (.aload_n 0, 1) := by decide +kernel
theorem dX3_turnHat_1 : decode cX3_turnHat 1 = .ok (.getfield 26, 3) := by decide +kernel
theorem dX3_turnHat_4 : decode cX3_turnHat 4 = .ok (.dup, 1) := by decide +kernel
theorem dX3_turnHat_5 : decode cX3_turnHat 5 = .ok (.getfield 126, 3) := by decide +kernel
theorem dX3_turnHat_8 : decode cX3_turnHat 8 = .ok (.iconst 1, 1) := by decide +kernel
theorem dX3_turnHat_9 : decode cX3_turnHat 9 = .ok (.iload_n 1, 1) := by decide +kernel
theorem dX3_turnHat_10 : decode cX3_turnHat 10 = .ok (.ishl, 1) := by decide +kernel
theorem dX3_turnHat_11 : decode cX3_turnHat 11 = .ok (.ixor, 1) := by decide +kernel
theorem dX3_turnHat_12 : decode cX3_turnHat 12 = .ok (.putfield 126, 3) := by decide +kernel
theorem dX3_turnHat_15 : decode cX3_turnHat 15 = .ok (.aload_n 0, 1) := by decide +kernel
theorem dX3_turnHat_16 : decode cX3_turnHat 16 = .ok (.invokevirtual 135, 3) := by decide +kernel
theorem dX3_turnHat_19 : decode cX3_turnHat 19 = .ok (.return_, 1) := by decide +kernel
theorem dX3_bringBack_0 : decode cX3_bringBack 0 = .ok (.aload_n 0, 1) := by decide +kernel
theorem dX3_bringBack_1 : decode cX3_bringBack 1 = .ok (.getfield 26, 3) := by decide +kernel
theorem dX3_bringBack_4 : decode cX3_bringBack 4 = .ok (.aload_n 1, 1) := by decide +kernel
theorem dX3_bringBack_5 : decode cX3_bringBack 5 = .ok (.invokevirtual 138, 3) := by decide +kernel
theorem dX3_bringBack_8 : decode cX3_bringBack 8 = .ok (.aload_n 0, 1) := by decide +kernel
theorem dX3_bringBack_9 : decode cX3_bringBack 9 = .ok (.invokevirtual 135, 3) := by decide +kernel
theorem dX3_bringBack_12 : decode cX3_bringBack 12 = .ok (.return_, 1) := by decide +kernel
theorem dX3_weighAll_0 : decode cX3_weighAll 0 = .ok (.iconst 0, 1) := by decide +kernel
theorem dX3_weighAll_1 : decode cX3_weighAll 1 = .ok (.istore_n 1, 1) := by decide +kernel
theorem dX3_weighAll_2 : decode cX3_weighAll 2 = .ok (.iload_n 1, 1) := by decide +kernel
theorem dX3_weighAll_3 : decode cX3_weighAll 3 = .ok (.aload_n 0, 1) := by decide +kernel
theorem dX3_weighAll_4 : decode cX3_weighAll 4 = .ok (.getfield 30, 3) := by decide +kernel
theorem dX3_weighAll_7 : decode cX3_weighAll 7 = .ok (.if_icmp .ge 74, 3) := by decide +kernel
theorem dX3_weighAll_10 : decode cX3_weighAll 10 = .ok (.aload_n 0, 1) := by decide +kernel
theorem dX3_weighAll_11 : decode cX3_weighAll 11 = .ok (.getfield 11, 3) := by decide +kernel
theorem dX3_weighAll_14 : decode cX3_weighAll 14 = .ok (.iload_n 1, 1) := by decide +kernel
theorem dX3_weighAll_15 : decode cX3_weighAll 15 = .ok (.aaload, 1) := by decide +kernel
theorem dX3_weighAll_16 : decode cX3_weighAll 16 = .ok (.getfield 142, 3) := by decide +kernel
theorem dX3_weighAll_19 : decode cX3_weighAll 19 = .ok (.aload_n 0, 1) := by decide +kernel
theorem dX3_weighAll_20 : decode cX3_weighAll 20 = .ok (.iload_n 1, 1) := by decide +kernel
theorem dX3_weighAll_21 : decode cX3_weighAll 21 = .ok (.invokevirtual 145, 3) := by decide +kernel
theorem dX3_weighAll_24 : decode cX3_weighAll 24 = .ok (.ifCond .eq 15, 3) := by decide +kernel
theorem dX3_weighAll_27 : decode cX3_weighAll 27 = .ok (.aload_n 0, 1) := by decide +kernel
theorem dX3_weighAll_28 : decode cX3_weighAll 28 = .ok (.getfield 11, 3) := by decide +kernel
theorem dX3_weighAll_31 : decode cX3_weighAll 31 = .ok (.iload_n 1, 1) := by decide +kernel
theorem dX3_weighAll_32 : decode cX3_weighAll 32 = .ok (.aaload, 1) := by decide +kernel
theorem dX3_weighAll_33 : decode cX3_weighAll 33 = .ok (.getfield 97, 3) := by decide +kernel
theorem dX3_weighAll_36 : decode cX3_weighAll 36 = .ok (.goto 4, 3) := by decide +kernel
theorem dX3_weighAll_39 : decode cX3_weighAll 39 = .ok (.iconst 0, 1) := by decide +kernel
theorem dX3_weighAll_40 : decode cX3_weighAll 40 = .ok (.iadd, 1) := by decide +kernel
theorem dX3_weighAll_41 : decode cX3_weighAll 41 = .ok (.istore_n 2, 1) := by decide +kernel
theorem dX3_weighAll_42 : decode cX3_weighAll 42 = .ok (.iconst 0, 1) := by decide +kernel
theorem dX3_weighAll_43 : decode cX3_weighAll 43 = .ok (.istore_n 3, 1) := by decide +kernel
theorem dX3_weighAll_44 : decode cX3_weighAll 44 = .ok (.iload_n 3, 1) := by decide +kernel
theorem dX3_weighAll_45 : decode cX3_weighAll 45 = .ok (.iconst 1, 1) := by decide +kernel
theorem dX3_weighAll_46 : decode cX3_weighAll 46 = .ok (.iload_n 1, 1) := by decide +kernel
theorem dX3_weighAll_47 : decode cX3_weighAll 47 = .ok (.ishl, 1) := by decide +kernel
theorem dX3_weighAll_48 : decode cX3_weighAll 48 = .ok (.if_icmp .ge 27, 3) := by decide +kernel
theorem dX3_weighAll_51 : decode cX3_weighAll 51 = .ok (.aload_n 0, 1) := by decide +kernel
theorem dX3_weighAll_52 : decode cX3_weighAll 52 = .ok (.getfield 46, 3) := by decide +kernel
theorem dX3_weighAll_55 : decode cX3_weighAll 55 = .ok (.iconst 1, 1) := by decide +kernel
theorem dX3_weighAll_56 : decode cX3_weighAll 56 = .ok (.iload_n 1, 1) := by decide +kernel
theorem dX3_weighAll_57 : decode cX3_weighAll 57 = .ok (.ishl, 1) := by decide +kernel
theorem dX3_weighAll_58 : decode cX3_weighAll 58 = .ok (.iload_n 3, 1) := by decide +kernel
theorem dX3_weighAll_59 : decode cX3_weighAll 59 = .ok (.ior, 1) := by decide +kernel
theorem dX3_weighAll_60 : decode cX3_weighAll 60 = .ok (.iload_n 2, 1) := by decide +kernel
theorem dX3_weighAll_61 : decode cX3_weighAll 61 = .ok (.aload_n 0, 1) := by decide +kernel
theorem dX3_weighAll_62 : decode cX3_weighAll 62 = .ok (.getfield 46, 3) := by decide +kernel
theorem dX3_weighAll_65 : decode cX3_weighAll 65 = .ok (.iload_n 3, 1) := by decide +kernel
theorem dX3_weighAll_66 : decode cX3_weighAll 66 = .ok (.iaload, 1) := by decide +kernel
theorem dX3_weighAll_67 : decode cX3_weighAll 67 = .ok (.iadd, 1) := by decide +kernel
theorem dX3_weighAll_68 : decode cX3_weighAll 68 = .ok (.iastore, 1) := by decide +kernel
theorem dX3_weighAll_69 : decode cX3_weighAll 69 = .ok (.iinc 3 1, 3) := by decide +kernel
theorem dX3_weighAll_72 : decode cX3_weighAll 72 = .ok (.goto (-28), 3) := by decide +kernel
theorem dX3_weighAll_75 : decode cX3_weighAll 75 = .ok (.iinc 1 1, 3) := by decide +kernel
theorem dX3_weighAll_78 : decode cX3_weighAll 78 = .ok (.goto (-76), 3) := by decide +kernel
theorem dX3_weighAll_81 : decode cX3_weighAll 81 = .ok (.return_, 1) := by decide +kernel
theorem dX3_poundsOf_0 : decode cX3_poundsOf 0 = .ok (.aload_n 0, 1) := by decide +kernel
theorem dX3_poundsOf_1 : decode cX3_poundsOf 1 = .ok (.iload_n 1, 1) := by decide +kernel
theorem dX3_poundsOf_2 : decode cX3_poundsOf 2 = .ok (.invokevirtual 148, 3) := by decide +kernel
theorem dX3_poundsOf_5 : decode cX3_poundsOf 5 = .ok (.ifCond .eq 12, 3) := by decide +kernel
theorem dX3_poundsOf_8 : decode cX3_poundsOf 8 = .ok (.aload_n 0, 1) := by decide +kernel
theorem dX3_poundsOf_9 : decode cX3_poundsOf 9 = .ok (.getfield 46, 3) := by decide +kernel
theorem dX3_poundsOf_12 : decode cX3_poundsOf 12 = .ok (.iload_n 1, 1) := by decide +kernel
theorem dX3_poundsOf_13 : decode cX3_poundsOf 13 = .ok (.iaload, 1) := by decide +kernel
theorem dX3_poundsOf_14 : decode cX3_poundsOf 14 = .ok (.goto 4, 3) := by decide +kernel
theorem dX3_poundsOf_17 : decode cX3_poundsOf 17 = .ok (.iconst 0, 1) := by decide +kernel
theorem dX3_poundsOf_18 : decode cX3_poundsOf 18 = .ok (.ireturn, 1) := by decide +kernel
theorem dX3_hatsOfAll_0 : decode cX3_hatsOfAll 0 = .ok (.iconst 0, 1) := by decide +kernel
theorem dX3_hatsOfAll_1 : decode cX3_hatsOfAll 1 = .ok (.istore_n 2, 1) := by decide +kernel
theorem dX3_hatsOfAll_2 : decode cX3_hatsOfAll 2 = .ok (.iconst 0, 1) := by decide +kernel
theorem dX3_hatsOfAll_3 : decode cX3_hatsOfAll 3 = .ok (.istore_n 3, 1) := by decide +kernel
theorem dX3_hatsOfAll_4 : decode cX3_hatsOfAll 4 = .ok (.iload_n 3, 1) := by decide +kernel
theorem dX3_hatsOfAll_5 : decode cX3_hatsOfAll 5 = .ok (.aload_n 0, 1) := by decide +kernel
theorem dX3_hatsOfAll_6 : decode cX3_hatsOfAll 6 = .ok (.getfield 30, 3) := by decide +kernel
theorem dX3_hatsOfAll_9 : decode cX3_hatsOfAll 9 = .ok (.if_icmp .ge 30, 3) := by decide +kernel
theorem dX3_hatsOfAll_12 : decode cX3_hatsOfAll 12 = .ok (.iload_n 1, 1) := by decide +kernel
theorem dX3_hatsOfAll_13 : decode cX3_hatsOfAll 13 = .ok (.iload_n 3, 1) := by decide +kernel
theorem dX3_hatsOfAll_14 : decode cX3_hatsOfAll 14 = .ok (.ishr, 1) := by decide +kernel
theorem dX3_hatsOfAll_15 : decode cX3_hatsOfAll 15 = .ok (.iconst 1, 1) := by decide +kernel
theorem dX3_hatsOfAll_16 : decode cX3_hatsOfAll 16 = .ok (.iand, 1) := by decide +kernel
theorem dX3_hatsOfAll_17 : decode cX3_hatsOfAll 17 = .ok (.iconst 1, 1) := by decide +kernel
theorem dX3_hatsOfAll_18 : decode cX3_hatsOfAll 18 = .ok (.if_icmp .ne 15, 3) := by decide +kernel
theorem dX3_hatsOfAll_21 : decode cX3_hatsOfAll 21 = .ok (.iload_n 2, 1) := by decide +kernel
theorem dX3_hatsOfAll_22 : decode cX3_hatsOfAll 22 = .ok (.aload_n 0, 1) := by decide +kernel
theorem dX3_hatsOfAll_23 : decode cX3_hatsOfAll 23 = .ok (.getfield 11, 3) := by decide +kernel
theorem dX3_hatsOfAll_26 : decode cX3_hatsOfAll 26 = .ok (.iload_n 3, 1) := by decide +kernel
theorem dX3_hatsOfAll_27 : decode cX3_hatsOfAll 27 = .ok (.aaload, 1) := by decide +kernel
theorem dX3_hatsOfAll_28 : decode cX3_hatsOfAll 28 = .ok (.getfield 97, 3) := by decide +kernel
theorem dX3_hatsOfAll_31 : decode cX3_hatsOfAll 31 = .ok (.iadd, 1) := by decide +kernel
theorem dX3_hatsOfAll_32 : decode cX3_hatsOfAll 32 = .ok (.istore_n 2, 1) := by decide +kernel
theorem dX3_hatsOfAll_33 : decode cX3_hatsOfAll 33 = .ok (.iinc 3 1, 3) := by decide +kernel
theorem dX3_hatsOfAll_36 : decode cX3_hatsOfAll 36 = .ok (.goto (-32), 3) := by decide +kernel
theorem dX3_hatsOfAll_39 : decode cX3_hatsOfAll 39 = .ok (.iload_n 2, 1) := by decide +kernel
theorem dX3_hatsOfAll_40 : decode cX3_hatsOfAll 40 = .ok (.ireturn, 1) := by decide +kernel
theorem dX3_wishesOfAll_0 : decode cX3_wishesOfAll 0 = .ok (.iconst 0, 1) := by decide +kernel
theorem dX3_wishesOfAll_1 : decode cX3_wishesOfAll 1 = .ok (.istore_n 2, 1) := by decide +kernel
theorem dX3_wishesOfAll_2 : decode cX3_wishesOfAll 2 = .ok (.iconst 0, 1) := by decide +kernel
theorem dX3_wishesOfAll_3 : decode cX3_wishesOfAll 3 = .ok (.istore_n 3, 1) := by decide +kernel
theorem dX3_wishesOfAll_4 : decode cX3_wishesOfAll 4 = .ok (.iload_n 3, 1) := by decide +kernel
theorem dX3_wishesOfAll_5 : decode cX3_wishesOfAll 5 = .ok (.aload_n 0, 1) := by decide +kernel
theorem dX3_wishesOfAll_6 : decode cX3_wishesOfAll 6 = .ok (.getfield 30, 3) := by decide +kernel
theorem dX3_wishesOfAll_9 : decode cX3_wishesOfAll 9 = .ok (.if_icmp .ge 30, 3) := by decide +kernel
theorem dX3_wishesOfAll_12 : decode cX3_wishesOfAll 12 = .ok (.iload_n 1, 1) := by decide +kernel
theorem dX3_wishesOfAll_13 : decode cX3_wishesOfAll 13 = .ok (.iload_n 3, 1) := by decide +kernel
theorem dX3_wishesOfAll_14 : decode cX3_wishesOfAll 14 = .ok (.ishr, 1) := by decide +kernel
theorem dX3_wishesOfAll_15 : decode cX3_wishesOfAll 15 = .ok (.iconst 1, 1) := by decide +kernel
theorem dX3_wishesOfAll_16 : decode cX3_wishesOfAll 16 = .ok (.iand, 1) := by decide +kernel
theorem dX3_wishesOfAll_17 : decode cX3_wishesOfAll 17 = .ok (.iconst 1, 1) := by decide +kernel
theorem dX3_wishesOfAll_18 : decode cX3_wishesOfAll 18 = .ok (.if_icmp .ne 15, 3) := by decide +kernel
theorem dX3_wishesOfAll_21 : decode cX3_wishesOfAll 21 = .ok (.iload_n 2, 1) := by decide +kernel
theorem dX3_wishesOfAll_22 : decode cX3_wishesOfAll 22 = .ok (.aload_n 0, 1) := by decide +kernel
theorem dX3_wishesOfAll_23 : decode cX3_wishesOfAll 23 = .ok (.getfield 11, 3) := by decide +kernel
theorem dX3_wishesOfAll_26 : decode cX3_wishesOfAll 26 = .ok (.iload_n 3, 1) := by decide +kernel
theorem dX3_wishesOfAll_27 : decode cX3_wishesOfAll 27 = .ok (.aaload, 1) := by decide +kernel
theorem dX3_wishesOfAll_28 : decode cX3_wishesOfAll 28 = .ok (.getfield 103, 3) := by decide +kernel
theorem dX3_wishesOfAll_31 : decode cX3_wishesOfAll 31 = .ok (.iadd, 1) := by decide +kernel
theorem dX3_wishesOfAll_32 : decode cX3_wishesOfAll 32 = .ok (.istore_n 2, 1) := by decide +kernel
theorem dX3_wishesOfAll_33 : decode cX3_wishesOfAll 33 = .ok (.iinc 3 1, 3) := by decide +kernel
theorem dX3_wishesOfAll_36 : decode cX3_wishesOfAll 36 = .ok (.goto (-32), 3) := by decide +kernel
theorem dX3_wishesOfAll_39 : decode cX3_wishesOfAll 39 = .ok (.iload_n 2, 1) := by decide +kernel
theorem dX3_wishesOfAll_40 : decode cX3_wishesOfAll 40 = .ok (.ireturn, 1) := by decide +kernel
theorem dX3_isOnBankOf_0 : decode cX3_isOnBankOf 0 = .ok (.iload_n 1, 1) := by decide +kernel
theorem dX3_isOnBankOf_1 : decode cX3_isOnBankOf 1 = .ok (.iload_n 3, 1) := by decide +kernel
theorem dX3_isOnBankOf_2 : decode cX3_isOnBankOf 2 = .ok (.invokestatic 151, 3) := by decide +kernel
theorem dX3_isOnBankOf_5 : decode cX3_isOnBankOf 5 = .ok (.iload_n 2, 1) := by decide +kernel
theorem dX3_isOnBankOf_6 : decode cX3_isOnBankOf 6 = .ok (.iload_n 3, 1) := by decide +kernel
theorem dX3_isOnBankOf_7 : decode cX3_isOnBankOf 7 = .ok (.invokestatic 155, 3) := by decide +kernel
theorem dX3_isOnBankOf_10 : decode cX3_isOnBankOf 10 = .ok (.ireturn, 1) := by decide +kernel
theorem dX3_mayGoAboard_0 : decode cX3_mayGoAboard 0 = .ok (.iload_n 2, 1) := by decide +kernel
theorem dX3_mayGoAboard_1 : decode cX3_mayGoAboard 1 = .ok (.invokestatic 159, 3) := by decide +kernel
theorem dX3_mayGoAboard_4 : decode cX3_mayGoAboard 4 = .ok (.aload_n 0, 1) := by decide +kernel
theorem dX3_mayGoAboard_5 : decode cX3_mayGoAboard 5 = .ok (.getfield 19, 3) := by decide +kernel
theorem dX3_mayGoAboard_8 : decode cX3_mayGoAboard 8 = .ok (.iload_n 1, 1) := by decide +kernel
theorem dX3_mayGoAboard_9 : decode cX3_mayGoAboard 9 = .ok (.aaload, 1) := by decide +kernel
theorem dX3_mayGoAboard_10 : decode cX3_mayGoAboard 10 = .ok (.getfield 165, 3) := by decide +kernel
theorem dX3_mayGoAboard_13 : decode cX3_mayGoAboard 13 = .ok (.if_icmp .gt 16, 3) := by decide +kernel
theorem dX3_mayGoAboard_16 : decode cX3_mayGoAboard 16 = .ok (.iload_n 2, 1) := by decide +kernel
theorem dX3_mayGoAboard_17 : decode cX3_mayGoAboard 17 = .ok (.aload_n 0, 1) := by decide +kernel
theorem dX3_mayGoAboard_18 : decode cX3_mayGoAboard 18 = .ok (.getfield 37, 3) := by decide +kernel
theorem dX3_mayGoAboard_21 : decode cX3_mayGoAboard 21 = .ok (.iand, 1) := by decide +kernel
theorem dX3_mayGoAboard_22 : decode cX3_mayGoAboard 22 = .ok (.ifCond .eq 7, 3) := by decide +kernel
theorem dX3_mayGoAboard_25 : decode cX3_mayGoAboard 25 = .ok (.iconst 1, 1) := by decide +kernel
theorem dX3_mayGoAboard_26 : decode cX3_mayGoAboard 26 = .ok (.goto 4, 3) := by decide +kernel
theorem dX3_mayGoAboard_29 : decode cX3_mayGoAboard 29 = .ok (.iconst 0, 1) := by decide +kernel
theorem dX3_mayGoAboard_30 : decode cX3_mayGoAboard 30 = .ok (.ireturn, 1) := by decide +kernel
theorem dX3_missBy_0 : decode cX3_missBy 0 = .ok (.iload_n 2, 1) := by decide +kernel
theorem dX3_missBy_1 : decode cX3_missBy 1 = .ok (.aload_n 0, 1) := by decide +kernel
theorem dX3_missBy_2 : decode cX3_missBy 2 = .ok (.getfield 19, 3) := by decide +kernel
theorem dX3_missBy_5 : decode cX3_missBy 5 = .ok (.iload_n 1, 1) := by decide +kernel
theorem dX3_missBy_6 : decode cX3_missBy 6 = .ok (.aaload, 1) := by decide +kernel
theorem dX3_missBy_7 : decode cX3_missBy 7 = .ok (.aload_n 0, 1) := by decide +kernel
theorem dX3_missBy_8 : decode cX3_missBy 8 = .ok (.getfield 26, 3) := by decide +kernel
theorem dX3_missBy_11 : decode cX3_missBy 11 = .ok (.getfield 129, 3) := by decide +kernel
theorem dX3_missBy_14 : decode cX3_missBy 14 = .ok (.invokevirtual 168, 3) := by decide +kernel
theorem dX3_missBy_17 : decode cX3_missBy 17 = .ok (.isub, 1) := by decide +kernel
theorem dX3_missBy_18 : decode cX3_missBy 18 = .ok (.invokestatic 172, 3) := by decide +kernel
theorem dX3_missBy_21 : decode cX3_missBy 21 = .ok (.ireturn, 1) := by decide +kernel
theorem dX3_isNumber_0 : decode cX3_isNumber 0 = .ok (.aload_n 0, 1) := by decide +kernel
theorem dX3_isNumber_1 : decode cX3_isNumber 1 = .ok (.iload_n 1, 1) := by decide +kernel
theorem dX3_isNumber_2 : decode cX3_isNumber 2 = .ok (.iload_n 2, 1) := by decide +kernel
theorem dX3_isNumber_3 : decode cX3_isNumber 3 = .ok (.invokevirtual 177, 3) := by decide +kernel
theorem dX3_isNumber_6 : decode cX3_isNumber 6 = .ok (.aload_n 0, 1) := by decide +kernel
theorem dX3_isNumber_7 : decode cX3_isNumber 7 = .ok (.getfield 19, 3) := by decide +kernel
theorem dX3_isNumber_10 : decode cX3_isNumber 10 = .ok (.iload_n 1, 1) := by decide +kernel
theorem dX3_isNumber_11 : decode cX3_isNumber 11 = .ok (.aaload, 1) := by decide +kernel
theorem dX3_isNumber_12 : decode cX3_isNumber 12 = .ok (.invokevirtual 180, 3) := by decide +kernel
theorem dX3_isNumber_15 : decode cX3_isNumber 15 = .ok (.if_icmp .gt 7, 3) := by decide +kernel
theorem dX3_isNumber_18 : decode cX3_isNumber 18 = .ok (.iconst 1, 1) := by decide +kernel
theorem dX3_isNumber_19 : decode cX3_isNumber 19 = .ok (.goto 4, 3) := by decide +kernel
theorem dX3_isNumber_22 : decode cX3_isNumber 22 = .ok (.iconst 0, 1) := by decide +kernel
theorem dX3_isNumber_23 : decode cX3_isNumber 23 = .ok (.ireturn, 1) := by decide +kernel
theorem dX3_isRightSomewhere_0 : decode cX3_isRightSomewhere 0 = .ok (.aload_n 0, 1) := by decide +kernel
theorem dX3_isRightSomewhere_1 : decode cX3_isRightSomewhere 1 = .ok (.iload_n 1, 1) := by decide +kernel
theorem dX3_isRightSomewhere_2 : decode cX3_isRightSomewhere 2 = .ok (.iload_n 2, 1) := by decide +kernel
theorem dX3_isRightSomewhere_3 : decode cX3_isRightSomewhere 3 = .ok (.invokevirtual 184, 3) := by decide +kernel
theorem dX3_isRightSomewhere_6 : decode cX3_isRightSomewhere 6 = .ok (.ifCond .eq 20, 3) := by decide +kernel
theorem dX3_isRightSomewhere_9 : decode cX3_isRightSomewhere 9 = .ok (.aload_n 0, 1) := by decide +kernel
theorem dX3_isRightSomewhere_10 : decode cX3_isRightSomewhere 10 = .ok (.iload_n 1, 1) := by decide +kernel
theorem dX3_isRightSomewhere_11 : decode cX3_isRightSomewhere 11 = .ok (.aload_n 0, 1) := by decide +kernel
theorem dX3_isRightSomewhere_12 : decode cX3_isRightSomewhere 12 = .ok (.iload_n 2, 1) := by decide +kernel
theorem dX3_isRightSomewhere_13 : decode cX3_isRightSomewhere 13 = .ok (.invokevirtual 188, 3) := by decide +kernel
theorem dX3_isRightSomewhere_16 : decode cX3_isRightSomewhere 16 = .ok (.invokevirtual 191, 3) := by decide +kernel
theorem dX3_isRightSomewhere_19 : decode cX3_isRightSomewhere 19 = .ok (.ifCond .eq 7, 3) := by decide +kernel
theorem dX3_isRightSomewhere_22 : decode cX3_isRightSomewhere 22 = .ok (.iconst 1, 1) := by decide +kernel
theorem dX3_isRightSomewhere_23 : decode cX3_isRightSomewhere 23 = .ok (.goto 4, 3) := by decide +kernel
theorem dX3_isRightSomewhere_26 : decode cX3_isRightSomewhere 26 = .ok (.iconst 0, 1) := by decide +kernel
theorem dX3_isRightSomewhere_27 : decode cX3_isRightSomewhere 27 = .ok (.ireturn, 1) := by decide +kernel
theorem dX3_isRight_0 : decode cX3_isRight 0 = .ok (.aload_n 0, 1) := by decide +kernel
theorem dX3_isRight_1 : decode cX3_isRight 1 = .ok (.iload_n 1, 1) := by decide +kernel
theorem dX3_isRight_2 : decode cX3_isRight 2 = .ok (.iload_n 2, 1) := by decide +kernel
theorem dX3_isRight_3 : decode cX3_isRight 3 = .ok (.iload_n 3, 1) := by decide +kernel
theorem dX3_isRight_4 : decode cX3_isRight 4 = .ok (.invokevirtual 194, 3) := by decide +kernel
theorem dX3_isRight_7 : decode cX3_isRight 7 = .ok (.ifCond .eq 16, 3) := by decide +kernel
theorem dX3_isRight_10 : decode cX3_isRight 10 = .ok (.aload_n 0, 1) := by decide +kernel
theorem dX3_isRight_11 : decode cX3_isRight 11 = .ok (.iload_n 1, 1) := by decide +kernel
theorem dX3_isRight_12 : decode cX3_isRight 12 = .ok (.iload_n 2, 1) := by decide +kernel
theorem dX3_isRight_13 : decode cX3_isRight 13 = .ok (.invokevirtual 197, 3) := by decide +kernel
theorem dX3_isRight_16 : decode cX3_isRight 16 = .ok (.ifCond .eq 7, 3) := by decide +kernel
theorem dX3_isRight_19 : decode cX3_isRight 19 = .ok (.iconst 1, 1) := by decide +kernel
theorem dX3_isRight_20 : decode cX3_isRight 20 = .ok (.goto 4, 3) := by decide +kernel
theorem dX3_isRight_23 : decode cX3_isRight 23 = .ok (.iconst 0, 1) := by decide +kernel
theorem dX3_isRight_24 : decode cX3_isRight 24 = .ok (.ireturn, 1) := by decide +kernel
theorem dX3_isSure_0 : decode cX3_isSure 0 = .ok (.iload_n 2, 1) := by decide +kernel
theorem dX3_isSure_1 : decode cX3_isSure 1 = .ok (.aload_n 0, 1) := by decide +kernel
theorem dX3_isSure_2 : decode cX3_isSure 2 = .ok (.getfield 43, 3) := by decide +kernel
theorem dX3_isSure_5 : decode cX3_isSure 5 = .ok (.iand, 1) := by decide +kernel
theorem dX3_isSure_6 : decode cX3_isSure 6 = .ok (.invokestatic 159, 3) := by decide +kernel
theorem dX3_isSure_9 : decode cX3_isSure 9 = .ok (.istore_n 3, 1) := by decide +kernel
theorem dX3_isSure_10 : decode cX3_isSure 10 = .ok (.aload_n 0, 1) := by decide +kernel
theorem dX3_isSure_11 : decode cX3_isSure 11 = .ok (.iload_n 1, 1) := by decide +kernel
theorem dX3_isSure_12 : decode cX3_isSure 12 = .ok (.aload_n 0, 1) := by decide +kernel
theorem dX3_isSure_13 : decode cX3_isSure 13 = .ok (.iload_n 2, 1) := by decide +kernel
theorem dX3_isSure_14 : decode cX3_isSure 14 = .ok (.invokevirtual 188, 3) := by decide +kernel
theorem dX3_isSure_17 : decode cX3_isSure 17 = .ok (.invokevirtual 177, 3) := by decide +kernel
theorem dX3_isSure_20 : decode cX3_isSure 20 = .ok (.iload_n 3, 1) := by decide +kernel
theorem dX3_isSure_21 : decode cX3_isSure 21 = .ok (.iadd, 1) := by decide +kernel
theorem dX3_isSure_22 : decode cX3_isSure 22 = .ok (.aload_n 0, 1) := by decide +kernel
theorem dX3_isSure_23 : decode cX3_isSure 23 = .ok (.getfield 19, 3) := by decide +kernel
theorem dX3_isSure_26 : decode cX3_isSure 26 = .ok (.iload_n 1, 1) := by decide +kernel
theorem dX3_isSure_27 : decode cX3_isSure 27 = .ok (.aaload, 1) := by decide +kernel
theorem dX3_isSure_28 : decode cX3_isSure 28 = .ok (.invokevirtual 180, 3) := by decide +kernel
theorem dX3_isSure_31 : decode cX3_isSure 31 = .ok (.if_icmp .gt 7, 3) := by decide +kernel
theorem dX3_isSure_34 : decode cX3_isSure 34 = .ok (.iconst 1, 1) := by decide +kernel
theorem dX3_isSure_35 : decode cX3_isSure 35 = .ok (.goto 4, 3) := by decide +kernel
theorem dX3_isSure_38 : decode cX3_isSure 38 = .ok (.iconst 0, 1) := by decide +kernel
theorem dX3_isSure_39 : decode cX3_isSure 39 = .ok (.ireturn, 1) := by decide +kernel
theorem dX3_fewestHatsOff_0 : decode cX3_fewestHatsOff 0 = .ok (.aload_n 0, 1) := by decide +kernel
theorem dX3_fewestHatsOff_1 : decode cX3_fewestHatsOff 1 = .ok (.iload_n 1, 1) := by decide +kernel
theorem dX3_fewestHatsOff_2 : decode cX3_fewestHatsOff 2 = .ok (.iload_n 2, 1) := by decide +kernel
theorem dX3_fewestHatsOff_3 : decode cX3_fewestHatsOff 3 = .ok (.aload_n 0, 1) := by decide +kernel
theorem dX3_fewestHatsOff_4 : decode cX3_fewestHatsOff 4 = .ok (.getfield 26, 3) := by decide +kernel
theorem dX3_fewestHatsOff_7 : decode cX3_fewestHatsOff 7 = .ok (.getfield 112, 3) := by decide +kernel
theorem dX3_fewestHatsOff_10 : decode cX3_fewestHatsOff 10 = .ok (.invokevirtual 194, 3) := by decide +kernel
theorem dX3_fewestHatsOff_13 : decode cX3_fewestHatsOff 13 = .ok (.ifCond .eq 12, 3) := by decide +kernel
theorem dX3_fewestHatsOff_16 : decode cX3_fewestHatsOff 16 = .ok (.aload_n 0, 1) := by decide +kernel
theorem dX3_fewestHatsOff_17 : decode cX3_fewestHatsOff 17 = .ok (.iload_n 1, 1) := by decide +kernel
theorem dX3_fewestHatsOff_18 : decode cX3_fewestHatsOff 18 = .ok (.iload_n 2, 1) := by decide +kernel
theorem dX3_fewestHatsOff_19 : decode cX3_fewestHatsOff 19 = .ok (.invokevirtual 184, 3) := by decide +kernel
theorem dX3_fewestHatsOff_22 : decode cX3_fewestHatsOff 22 = .ok (.ifCond .ne 5, 3) := by decide +kernel
theorem dX3_fewestHatsOff_25 : decode cX3_fewestHatsOff 25 = .ok (.iconst (-1), 1) := by decide +kernel
theorem dX3_fewestHatsOff_26 : decode cX3_fewestHatsOff 26 = .ok (.ireturn, 1) := by decide +kernel
theorem dX3_fewestHatsOff_27 : decode cX3_fewestHatsOff 27 = .ok (.aload_n 0, 1) := by decide +kernel
theorem dX3_fewestHatsOff_28 : decode cX3_fewestHatsOff 28 = .ok (.iload_n 2, 1) := by decide +kernel
theorem dX3_fewestHatsOff_29 : decode cX3_fewestHatsOff 29 = .ok (.invokevirtual 188, 3) := by decide +kernel
theorem dX3_fewestHatsOff_32 : decode cX3_fewestHatsOff 32 = .ok (.aload_n 0, 1) := by decide +kernel
theorem dX3_fewestHatsOff_33 : decode cX3_fewestHatsOff 33 = .ok (.iload_n 2, 1) := by decide +kernel
theorem dX3_fewestHatsOff_34 : decode cX3_fewestHatsOff 34 = .ok (.aload_n 0, 1) := by decide +kernel
theorem dX3_fewestHatsOff_35 : decode cX3_fewestHatsOff 35 = .ok (.getfield 26, 3) := by decide +kernel
theorem dX3_fewestHatsOff_38 : decode cX3_fewestHatsOff 38 = .ok (.getfield 126, 3) := by decide +kernel
theorem dX3_fewestHatsOff_41 : decode cX3_fewestHatsOff 41 = .ok (.iand, 1) := by decide +kernel
theorem dX3_fewestHatsOff_42 : decode cX3_fewestHatsOff 42 = .ok (.invokevirtual 200, 3) := by decide +kernel
theorem dX3_fewestHatsOff_45 : decode cX3_fewestHatsOff 45 = .ok (.iadd, 1) := by decide +kernel
theorem dX3_fewestHatsOff_46 : decode cX3_fewestHatsOff 46 = .ok (.istore_n 3, 1) := by decide +kernel
theorem dX3_fewestHatsOff_47 : decode cX3_fewestHatsOff 47 = .ok (.iconst (-1), 1) := by decide +kernel
theorem dX3_fewestHatsOff_48 : decode cX3_fewestHatsOff 48 = .ok (.istore 4, 2) := by decide +kernel
theorem dX3_fewestHatsOff_50 : decode cX3_fewestHatsOff 50 = .ok (.iconst 0, 1) := by decide +kernel
theorem dX3_fewestHatsOff_51 : decode cX3_fewestHatsOff 51 = .ok (.istore 5, 2) := by decide +kernel
theorem dX3_fewestHatsOff_53 : decode cX3_fewestHatsOff 53 = .ok (.iload 5, 2) := by decide +kernel
theorem dX3_fewestHatsOff_55 : decode cX3_fewestHatsOff 55 = .ok (.iconst 1, 1) := by decide +kernel
theorem dX3_fewestHatsOff_56 : decode cX3_fewestHatsOff 56 = .ok (.aload_n 0, 1) := by decide +kernel
theorem dX3_fewestHatsOff_57 : decode cX3_fewestHatsOff 57 = .ok (.getfield 30, 3) := by decide +kernel
theorem dX3_fewestHatsOff_60 : decode cX3_fewestHatsOff 60 = .ok (.ishl, 1) := by decide +kernel
theorem dX3_fewestHatsOff_61 : decode cX3_fewestHatsOff 61 = .ok (.if_icmp .ge 57, 3) := by decide +kernel
theorem dX3_fewestHatsOff_64 : decode cX3_fewestHatsOff 64 = .ok (.iload 5, 2) := by decide +kernel
theorem dX3_fewestHatsOff_66 : decode cX3_fewestHatsOff 66 = .ok (.iload_n 2, 1) := by decide +kernel
theorem dX3_fewestHatsOff_67 : decode cX3_fewestHatsOff 67 = .ok (.iconst (-1), 1) := by decide +kernel
theorem dX3_fewestHatsOff_68 : decode cX3_fewestHatsOff 68 = .ok (.ixor, 1) := by decide +kernel
theorem dX3_fewestHatsOff_69 : decode cX3_fewestHatsOff 69 = .ok (.iand, 1) := by decide +kernel
theorem dX3_fewestHatsOff_70 : decode cX3_fewestHatsOff 70 = .ok (.ifCond .ne 42, 3) := by decide +kernel
theorem dX3_fewestHatsOff_73 : decode cX3_fewestHatsOff 73 = .ok (.aload_n 0, 1) := by decide +kernel
theorem dX3_fewestHatsOff_74 : decode cX3_fewestHatsOff 74 = .ok (.iload_n 1, 1) := by decide +kernel
theorem dX3_fewestHatsOff_75 : decode cX3_fewestHatsOff 75 = .ok (.iload_n 3, 1) := by decide +kernel
theorem dX3_fewestHatsOff_76 : decode cX3_fewestHatsOff 76 = .ok (.aload_n 0, 1) := by decide +kernel
theorem dX3_fewestHatsOff_77 : decode cX3_fewestHatsOff 77 = .ok (.iload 5, 2) := by decide +kernel
theorem dX3_fewestHatsOff_79 : decode cX3_fewestHatsOff 79 = .ok (.invokevirtual 200, 3) := by decide +kernel
theorem dX3_fewestHatsOff_82 : decode cX3_fewestHatsOff 82 = .ok (.isub, 1) := by decide +kernel
theorem dX3_fewestHatsOff_83 : decode cX3_fewestHatsOff 83 = .ok (.invokevirtual 191, 3) := by decide +kernel
theorem dX3_fewestHatsOff_86 : decode cX3_fewestHatsOff 86 = .ok (.ifCond .eq 26, 3) := by decide +kernel
theorem dX3_fewestHatsOff_89 : decode cX3_fewestHatsOff 89 = .ok (.iload 4, 2) := by decide +kernel
theorem dX3_fewestHatsOff_91 : decode cX3_fewestHatsOff 91 = .ok (.iconst (-1), 1) := by decide +kernel
theorem dX3_fewestHatsOff_92 : decode cX3_fewestHatsOff 92 = .ok (.if_icmp .eq 16, 3) := by decide +kernel
theorem dX3_fewestHatsOff_95 : decode cX3_fewestHatsOff 95 = .ok (.iload 5, 2) := by decide +kernel
theorem dX3_fewestHatsOff_97 : decode cX3_fewestHatsOff 97 = .ok (.invokestatic 159, 3) := by decide +kernel
theorem dX3_fewestHatsOff_100 : decode cX3_fewestHatsOff 100 = .ok (.iload 4, 2) := by decide +kernel
theorem dX3_fewestHatsOff_102 : decode cX3_fewestHatsOff 102 = .ok (.invokestatic 159, 3) := by decide +kernel
theorem dX3_fewestHatsOff_105 : decode cX3_fewestHatsOff 105 = .ok (.if_icmp .ge 7, 3) := by decide +kernel
theorem dX3_fewestHatsOff_108 : decode cX3_fewestHatsOff 108 = .ok (.iload 5, 2) := by decide +kernel
theorem dX3_fewestHatsOff_110 : decode cX3_fewestHatsOff 110 = .ok (.istore 4, 2) := by decide +kernel
theorem dX3_fewestHatsOff_112 : decode cX3_fewestHatsOff 112 = .ok (.iinc 5 1, 3) := by decide +kernel
theorem dX3_fewestHatsOff_115 : decode cX3_fewestHatsOff 115 = .ok (.goto (-62), 3) := by decide +kernel
theorem dX3_fewestHatsOff_118 : decode cX3_fewestHatsOff 118 = .ok (.iload 4, 2) := by decide +kernel
theorem dX3_fewestHatsOff_120 : decode cX3_fewestHatsOff 120 = .ok (.ireturn, 1) := by decide +kernel
theorem dX3_fewestStones_0 : decode cX3_fewestStones 0 = .ok (.aload_n 0, 1) := by decide +kernel
theorem dX3_fewestStones_1 : decode cX3_fewestStones 1 = .ok (.iload_n 1, 1) := by decide +kernel
theorem dX3_fewestStones_2 : decode cX3_fewestStones 2 = .ok (.iload_n 2, 1) := by decide +kernel
theorem dX3_fewestStones_3 : decode cX3_fewestStones 3 = .ok (.aload_n 0, 1) := by decide +kernel
theorem dX3_fewestStones_4 : decode cX3_fewestStones 4 = .ok (.getfield 26, 3) := by decide +kernel
theorem dX3_fewestStones_7 : decode cX3_fewestStones 7 = .ok (.getfield 112, 3) := by decide +kernel
theorem dX3_fewestStones_10 : decode cX3_fewestStones 10 = .ok (.invokevirtual 194, 3) := by decide +kernel
theorem dX3_fewestStones_13 : decode cX3_fewestStones 13 = .ok (.ifCond .eq 12, 3) := by decide +kernel
theorem dX3_fewestStones_16 : decode cX3_fewestStones 16 = .ok (.aload_n 0, 1) := by decide +kernel
theorem dX3_fewestStones_17 : decode cX3_fewestStones 17 = .ok (.iload_n 1, 1) := by decide +kernel
theorem dX3_fewestStones_18 : decode cX3_fewestStones 18 = .ok (.iload_n 2, 1) := by decide +kernel
theorem dX3_fewestStones_19 : decode cX3_fewestStones 19 = .ok (.invokevirtual 184, 3) := by decide +kernel
theorem dX3_fewestStones_22 : decode cX3_fewestStones 22 = .ok (.ifCond .ne 5, 3) := by decide +kernel
theorem dX3_fewestStones_25 : decode cX3_fewestStones 25 = .ok (.iconst (-1), 1) := by decide +kernel
theorem dX3_fewestStones_26 : decode cX3_fewestStones 26 = .ok (.ireturn, 1) := by decide +kernel
theorem dX3_fewestStones_27 : decode cX3_fewestStones 27 = .ok (.aload_n 0, 1) := by decide +kernel
theorem dX3_fewestStones_28 : decode cX3_fewestStones 28 = .ok (.iload_n 2, 1) := by decide +kernel
theorem dX3_fewestStones_29 : decode cX3_fewestStones 29 = .ok (.invokevirtual 188, 3) := by decide +kernel
theorem dX3_fewestStones_32 : decode cX3_fewestStones 32 = .ok (.istore 4, 2) := by decide +kernel
theorem dX3_fewestStones_34 : decode cX3_fewestStones 34 = .ok (.aload_n 0, 1) := by decide +kernel
theorem dX3_fewestStones_35 : decode cX3_fewestStones 35 = .ok (.getfield 19, 3) := by decide +kernel
theorem dX3_fewestStones_38 : decode cX3_fewestStones 38 = .ok (.iload_n 1, 1) := by decide +kernel
theorem dX3_fewestStones_39 : decode cX3_fewestStones 39 = .ok (.aaload, 1) := by decide +kernel
theorem dX3_fewestStones_40 : decode cX3_fewestStones 40 = .ok (.getfield 165, 3) := by decide +kernel
theorem dX3_fewestStones_43 : decode cX3_fewestStones 43 = .ok (.iload_n 2, 1) := by decide +kernel
theorem dX3_fewestStones_44 : decode cX3_fewestStones 44 = .ok (.invokestatic 159, 3) := by decide +kernel
theorem dX3_fewestStones_47 : decode cX3_fewestStones 47 = .ok (.isub, 1) := by decide +kernel
theorem dX3_fewestStones_48 : decode cX3_fewestStones 48 = .ok (.istore 5, 2) := by decide +kernel
theorem dX3_fewestStones_50 : decode cX3_fewestStones 50 = .ok (.iconst 0, 1) := by decide +kernel
theorem dX3_fewestStones_51 : decode cX3_fewestStones 51 = .ok (.istore 6, 2) := by decide +kernel
theorem dX3_fewestStones_53 : decode cX3_fewestStones 53 = .ok (.iload 6, 2) := by decide +kernel
theorem dX3_fewestStones_55 : decode cX3_fewestStones 55 = .ok (.iload 5, 2) := by decide +kernel
theorem dX3_fewestStones_57 : decode cX3_fewestStones 57 = .ok (.if_icmp .gt 27, 3) := by decide +kernel
theorem dX3_fewestStones_60 : decode cX3_fewestStones 60 = .ok (.aload_n 0, 1) := by decide +kernel
theorem dX3_fewestStones_61 : decode cX3_fewestStones 61 = .ok (.iload_n 1, 1) := by decide +kernel
theorem dX3_fewestStones_62 : decode cX3_fewestStones 62 = .ok (.iload 4, 2) := by decide +kernel
theorem dX3_fewestStones_64 : decode cX3_fewestStones 64 = .ok (.iload 6, 2) := by decide +kernel
theorem dX3_fewestStones_66 : decode cX3_fewestStones 66 = .ok (.iload_n 3, 1) := by decide +kernel
theorem dX3_fewestStones_67 : decode cX3_fewestStones 67 = .ok (.imul, 1) := by decide +kernel
theorem dX3_fewestStones_68 : decode cX3_fewestStones 68 = .ok (.iadd, 1) := by decide +kernel
theorem dX3_fewestStones_69 : decode cX3_fewestStones 69 = .ok (.invokevirtual 191, 3) := by decide +kernel
theorem dX3_fewestStones_72 : decode cX3_fewestStones 72 = .ok (.ifCond .eq 6, 3) := by decide +kernel
theorem dX3_fewestStones_75 : decode cX3_fewestStones 75 = .ok (.iload 6, 2) := by decide +kernel
theorem dX3_fewestStones_77 : decode cX3_fewestStones 77 = .ok (.ireturn, 1) := by decide +kernel
theorem dX3_fewestStones_78 : decode cX3_fewestStones 78 = .ok (.iinc 6 1, 3) := by decide +kernel
theorem dX3_fewestStones_81 : decode cX3_fewestStones 81 = .ok (.goto (-28), 3) := by decide +kernel
theorem dX3_fewestStones_84 : decode cX3_fewestStones 84 = .ok (.iconst (-1), 1) := by decide +kernel
theorem dX3_fewestStones_85 : decode cX3_fewestStones 85 = .ok (.ireturn, 1) := by decide +kernel
theorem dX4_init_0 : decode cX4_init 0 = .ok (.aload_n 0, 1) := by decide +kernel
theorem dX4_init_1 : decode cX4_init 1 = .ok (.invokespecial 5, 3) := by decide +kernel
theorem dX4_init_4 : decode cX4_init 4 = .ok (.aload_n 0, 1) := by decide +kernel
theorem dX4_init_5 : decode cX4_init 5 = .ok (.sipush 768, 3) := by decide +kernel
theorem dX4_init_8 : decode cX4_init 8 = .ok (.newarray .int, 2) := by decide +kernel
theorem dX4_init_10 : decode cX4_init 10 = .ok (.putfield 11, 3) := by decide +kernel
theorem dX4_init_13 : decode cX4_init 13 = .ok (.aload_n 0, 1) := by decide +kernel
theorem dX4_init_14 : decode cX4_init 14 = .ok (.iconst 3, 1) := by decide +kernel
theorem dX4_init_15 : decode cX4_init 15 = .ok (.newarray .int, 2) := by decide +kernel
theorem dX4_init_17 : decode cX4_init 17 = .ok (.putfield 17, 3) := by decide +kernel
theorem dX4_init_20 : decode cX4_init 20 = .ok (.aload_n 0, 1) := by decide +kernel
theorem dX4_init_21 : decode cX4_init 21 = .ok (.sipush 2048, 3) := by decide +kernel
theorem dX4_init_24 : decode cX4_init 24 = .ok (.newarray .int, 2) := by decide +kernel
theorem dX4_init_26 : decode cX4_init 26 = .ok (.putfield 20, 3) := by decide +kernel
theorem dX4_init_29 : decode cX4_init 29 = .ok (.aload_n 0, 1) := by decide +kernel
theorem dX4_init_30 : decode cX4_init 30 = .ok (.sipush 2048, 3) := by decide +kernel
theorem dX4_init_33 : decode cX4_init 33 = .ok (.newarray .int, 2) := by decide +kernel
theorem dX4_init_35 : decode cX4_init 35 = .ok (.putfield 23, 3) := by decide +kernel
theorem dX4_init_38 : decode cX4_init 38 = .ok (.aload_n 0, 1) := by decide +kernel
theorem dX4_init_39 : decode cX4_init 39 = .ok (.sipush 6144, 3) := by decide +kernel
theorem dX4_init_42 : decode cX4_init 42 = .ok (.newarray .int, 2) := by decide +kernel
theorem dX4_init_44 : decode cX4_init 44 = .ok (.putfield 26, 3) := by decide +kernel
theorem dX4_init_47 : decode cX4_init 47 = .ok (.aload_n 0, 1) := by decide +kernel
theorem dX4_init_48 : decode cX4_init 48 = .ok (.iconst 3, 1) := by decide +kernel
theorem dX4_init_49 : decode cX4_init 49 = .ok (.newarray .int, 2) := by decide +kernel
theorem dX4_init_51 : decode cX4_init 51 = .ok (.putfield 29, 3) := by decide +kernel
theorem dX4_init_54 : decode cX4_init 54 = .ok (.aload_n 0, 1) := by decide +kernel
theorem dX4_init_55 : decode cX4_init 55 = .ok (.iconst 3, 1) := by decide +kernel
theorem dX4_init_56 : decode cX4_init 56 = .ok (.newarray .int, 2) := by decide +kernel
theorem dX4_init_58 : decode cX4_init 58 = .ok (.putfield 32, 3) := by decide +kernel
theorem dX4_init_61 : decode cX4_init 61 = .ok (.aload_n 0, 1) := by decide +kernel
theorem dX4_init_62 : decode cX4_init 62 = .ok (.aload_n 1, 1) := by decide +kernel
theorem dX4_init_63 : decode cX4_init 63 = .ok (.putfield 35, 3) := by decide +kernel
theorem dX4_init_66 : decode cX4_init 66 = .ok (.return_, 1) := by decide +kernel
theorem dX4_find_0 : decode cX4_find 0 = .ok (.aload_n 0, 1) := by decide +kernel
theorem dX4_find_1 : decode cX4_find 1 = .ok (.invokevirtual 39, 3) := by decide +kernel
theorem dX4_find_4 : decode cX4_find 4 = .ok (.iconst 0, 1) := by decide +kernel
theorem dX4_find_5 : decode cX4_find 5 = .ok (.istore 4, 2) := by decide +kernel
theorem dX4_find_7 : decode cX4_find 7 = .ok (.iload 4, 2) := by decide +kernel
theorem dX4_find_9 : decode cX4_find 9 = .ok (.aload_n 0, 1) := by decide +kernel
theorem dX4_find_10 : decode cX4_find 10 = .ok (.getfield 35, 3) := by decide +kernel
theorem dX4_find_13 : decode cX4_find 13 = .ok (.getfield 42, 3) := by decide +kernel
theorem dX4_find_16 : decode cX4_find 16 = .ok (.if_icmp .ge 15, 3) := by decide +kernel
theorem dX4_find_19 : decode cX4_find 19 = .ok (.aload_n 0, 1) := by decide +kernel
theorem dX4_find_20 : decode cX4_find 20 = .ok (.iload 4, 2) := by decide +kernel
theorem dX4_find_22 : decode cX4_find 22 = .ok (.invokevirtual 48, 3) := by decide +kernel
theorem dX4_find_25 : decode cX4_find 25 = .ok (.iinc 4 1, 3) := by decide +kernel
theorem dX4_find_28 : decode cX4_find 28 = .ok (.goto (-21), 3) := by decide +kernel
theorem dX4_find_31 : decode cX4_find 31 = .ok (.aload_n 0, 1) := by decide +kernel
theorem dX4_find_32 : decode cX4_find 32 = .ok (.aload_n 0, 1) := by decide +kernel
theorem dX4_find_33 : decode cX4_find 33 = .ok (.getfield 35, 3) := by decide +kernel
theorem dX4_find_36 : decode cX4_find 36 = .ok (.getfield 52, 3) := by decide +kernel
theorem dX4_find_39 : decode cX4_find 39 = .ok (.getfield 56, 3) := by decide +kernel
theorem dX4_find_42 : decode cX4_find 42 = .ok (.iconst (-1), 1) := by decide +kernel
theorem dX4_find_43 : decode cX4_find 43 = .ok (.iconst 0, 1) := by decide +kernel
theorem dX4_find_44 : decode cX4_find 44 = .ok (.iconst 0, 1) := by decide +kernel
theorem dX4_find_45 : decode cX4_find 45 = .ok (.invokevirtual 61, 3) := by decide +kernel
theorem dX4_find_48 : decode cX4_find 48 = .ok (.iconst 0, 1) := by decide +kernel
theorem dX4_find_49 : decode cX4_find 49 = .ok (.istore 4, 2) := by decide +kernel
theorem dX4_find_51 : decode cX4_find 51 = .ok (.iload 4, 2) := by decide +kernel
theorem dX4_find_53 : decode cX4_find 53 = .ok (.aload_n 0, 1) := by decide +kernel
theorem dX4_find_54 : decode cX4_find 54 = .ok (.getfield 26, 3) := by decide +kernel
theorem dX4_find_57 : decode cX4_find 57 = .ok (.arraylength, 1) := by decide +kernel
theorem dX4_find_58 : decode cX4_find 58 = .ok (.if_icmp .ge 121, 3) := by decide +kernel
theorem dX4_find_61 : decode cX4_find 61 = .ok (.aload_n 0, 1) := by decide +kernel
theorem dX4_find_62 : decode cX4_find 62 = .ok (.invokevirtual 65, 3) := by decide +kernel
theorem dX4_find_65 : decode cX4_find 65 = .ok (.istore 5, 2) := by decide +kernel
theorem dX4_find_67 : decode cX4_find 67 = .ok (.iload 5, 2) := by decide +kernel
theorem dX4_find_69 : decode cX4_find 69 = .ok (.iconst (-1), 1) := by decide +kernel
theorem dX4_find_70 : decode cX4_find 70 = .ok (.if_icmp .ne 5, 3) := by decide +kernel
theorem dX4_find_73 : decode cX4_find 73 = .ok (.iconst (-1), 1) := by decide +kernel
theorem dX4_find_74 : decode cX4_find 74 = .ok (.ireturn, 1) := by decide +kernel
theorem dX4_find_75 : decode cX4_find 75 = .ok (.aload_n 0, 1) := by decide +kernel
theorem dX4_find_76 : decode cX4_find 76 = .ok (.getfield 26, 3) := by decide +kernel
theorem dX4_find_79 : decode cX4_find 79 = .ok (.aload_n 0, 1) := by decide +kernel
theorem dX4_find_80 : decode cX4_find 80 = .ok (.getfield 29, 3) := by decide +kernel
theorem dX4_find_83 : decode cX4_find 83 = .ok (.iload 5, 2) := by decide +kernel
theorem dX4_find_85 : decode cX4_find 85 = .ok (.iaload, 1) := by decide +kernel
theorem dX4_find_86 : decode cX4_find 86 = .ok (.iaload, 1) := by decide +kernel
theorem dX4_find_87 : decode cX4_find 87 = .ok (.istore 6, 2) := by decide +kernel
theorem dX4_find_89 : decode cX4_find 89 = .ok (.aload_n 0, 1) := by decide +kernel
theorem dX4_find_90 : decode cX4_find 90 = .ok (.getfield 29, 3) := by decide +kernel
theorem dX4_find_93 : decode cX4_find 93 = .ok (.iload 5, 2) := by decide +kernel
theorem dX4_find_95 : decode cX4_find 95 = .ok (.dup2, 1) := by decide +kernel
theorem dX4_find_96 : decode cX4_find 96 = .ok (.iaload, 1) := by decide +kernel
theorem dX4_find_97 : decode cX4_find 97 = .ok (.iconst 1, 1) := by decide +kernel
theorem dX4_find_98 : decode cX4_find 98 = .ok (.iadd, 1) := by decide +kernel
theorem dX4_find_99 : decode cX4_find 99 = .ok (.iastore, 1) := by decide +kernel
theorem dX4_find_100 : decode cX4_find 100 = .ok (.iload_n 2, 1) := by decide +kernel
theorem dX4_find_101 : decode cX4_find 101 = .ok (.iload_n 1, 1) := by decide +kernel
theorem dX4_find_102 : decode cX4_find 102 = .ok (.iload 6, 2) := by decide +kernel
theorem dX4_find_104 : decode cX4_find 104 = .ok (.invokestatic 69, 3) := by decide +kernel
theorem dX4_find_107 : decode cX4_find 107 = .ok (.ifCond .eq 6, 3) := by decide +kernel
theorem dX4_find_110 : decode cX4_find 110 = .ok (.iload 6, 2) := by decide +kernel
theorem dX4_find_112 : decode cX4_find 112 = .ok (.ireturn, 1) := by decide +kernel
theorem dX4_find_113 : decode cX4_find 113 = .ok (.iconst 0, 1) := by decide +kernel
theorem dX4_find_114 : decode cX4_find 114 = .ok (.istore 7, 2) := by decide +kernel
theorem dX4_find_116 : decode cX4_find 116 = .ok (.iload 7, 2) := by decide +kernel
theorem dX4_find_118 : decode cX4_find 118 = .ok (.aload_n 0, 1) := by decide +kernel
theorem dX4_find_119 : decode cX4_find 119 = .ok (.getfield 35, 3) := by decide +kernel
theorem dX4_find_122 : decode cX4_find 122 = .ok (.getfield 42, 3) := by decide +kernel
theorem dX4_find_125 : decode cX4_find 125 = .ok (.if_icmp .ge 48, 3) := by decide +kernel
theorem dX4_find_128 : decode cX4_find 128 = .ok (.aload_n 0, 1) := by decide +kernel
theorem dX4_find_129 : decode cX4_find 129 = .ok (.iload 6, 2) := by decide +kernel
theorem dX4_find_131 : decode cX4_find 131 = .ok (.iload 7, 2) := by decide +kernel
theorem dX4_find_133 : decode cX4_find 133 = .ok (.iload_n 3, 1) := by decide +kernel
theorem dX4_find_134 : decode cX4_find 134 = .ok (.ifCond .eq 8, 3) := by decide +kernel
theorem dX4_find_137 : decode cX4_find 137 = .ok (.iload 7, 2) := by decide +kernel
theorem dX4_find_139 : decode cX4_find 139 = .ok (.goto 4, 3) := by decide +kernel
theorem dX4_find_142 : decode cX4_find 142 = .ok (.iconst 0, 1) := by decide +kernel
theorem dX4_find_143 : decode cX4_find 143 = .ok (.iload_n 3, 1) := by decide +kernel
theorem dX4_find_144 : decode cX4_find 144 = .ok (.ifCond .eq 19, 3) := by decide +kernel
theorem dX4_find_147 : decode cX4_find 147 = .ok (.aload_n 0, 1) := by decide +kernel
theorem dX4_find_148 : decode cX4_find 148 = .ok (.getfield 35, 3) := by decide +kernel
theorem dX4_find_151 : decode cX4_find 151 = .ok (.getfield 73, 3) := by decide +kernel
theorem dX4_find_154 : decode cX4_find 154 = .ok (.iload 7, 2) := by decide +kernel
theorem dX4_find_156 : decode cX4_find 156 = .ok (.aaload, 1) := by decide +kernel
theorem dX4_find_157 : decode cX4_find 157 = .ok (.getfield 77, 3) := by decide +kernel
theorem dX4_find_160 : decode cX4_find 160 = .ok (.goto 4, 3) := by decide +kernel
theorem dX4_find_163 : decode cX4_find 163 = .ok (.iconst 1, 1) := by decide +kernel
theorem dX4_find_164 : decode cX4_find 164 = .ok (.invokevirtual 82, 3) := by decide +kernel
theorem dX4_find_167 : decode cX4_find 167 = .ok (.iinc 7 1, 3) := by decide +kernel
theorem dX4_find_170 : decode cX4_find 170 = .ok (.goto (-54), 3) := by decide +kernel
theorem dX4_find_173 : decode cX4_find 173 = .ok (.iinc 4 1, 3) := by decide +kernel
theorem dX4_find_176 : decode cX4_find 176 = .ok (.goto (-125), 3) := by decide +kernel
theorem dX4_find_179 : decode cX4_find 179 = .ok (.iconst (-1), 1) := by decide +kernel
theorem dX4_find_180 : decode cX4_find 180 = .ok (.ireturn, 1) := by decide +kernel
theorem dX4_costOf_0 : decode cX4_costOf 0 = .ok (.iload_n 1, 1) := by decide +kernel
theorem dX4_costOf_1 : decode cX4_costOf 1 = .ok (.iconst (-1), 1) := by decide +kernel
theorem dX4_costOf_2 : decode cX4_costOf 2 = .ok (.if_icmp .ne 7, 3) := by decide +kernel
theorem dX4_costOf_5 : decode cX4_costOf 5 = .ok (.iconst (-1), 1) := by decide +kernel
theorem dX4_costOf_6 : decode cX4_costOf 6 = .ok (.goto 9, 3) := by decide +kernel
theorem dX4_costOf_9 : decode cX4_costOf 9 = .ok (.aload_n 0, 1) := by decide +kernel
theorem dX4_costOf_10 : decode cX4_costOf 10 = .ok (.getfield 20, 3) := by decide +kernel
theorem dX4_costOf_13 : decode cX4_costOf 13 = .ok (.iload_n 1, 1) := by decide +kernel
theorem dX4_costOf_14 : decode cX4_costOf 14 = .ok (.iaload, 1) := by decide +kernel
theorem dX4_costOf_15 : decode cX4_costOf 15 = .ok (.ireturn, 1) := by decide +kernel
theorem dX4_crossingTo_0 : decode cX4_crossingTo 0 = .ok (.iload_n 1, 1) := by decide +kernel
theorem dX4_crossingTo_1 : decode cX4_crossingTo 1 = .ok (.iconst (-1), 1) := by decide +kernel
theorem dX4_crossingTo_2 : decode cX4_crossingTo 2 = .ok (.if_icmp .eq 13, 3) := by decide +kernel
theorem dX4_crossingTo_5 : decode cX4_crossingTo 5 = .ok (.iload_n 2, 1) := by decide +kernel
theorem dX4_crossingTo_6 : decode cX4_crossingTo 6 = .ok (.aload_n 0, 1) := by decide +kernel
theorem dX4_crossingTo_7 : decode cX4_crossingTo 7 = .ok (.getfield 20, 3) := by decide +kernel
theorem dX4_crossingTo_10 : decode cX4_crossingTo 10 = .ok (.iload_n 1, 1) := by decide +kernel
theorem dX4_crossingTo_11 : decode cX4_crossingTo 11 = .ok (.iaload, 1) := by decide +kernel
theorem dX4_crossingTo_12 : decode cX4_crossingTo 12 = .ok (.if_icmp .lt 5, 3) := by decide +kernel
theorem dX4_crossingTo_15 : decode cX4_crossingTo 15 = .ok (.iconst (-1), 1) := by decide +kernel
theorem dX4_crossingTo_16 : decode cX4_crossingTo 16 = .ok (.ireturn, 1) := by decide +kernel
theorem dX4_crossingTo_17 : decode cX4_crossingTo 17 = .ok (.iload_n 1, 1) := by decide +kernel
theorem dX4_crossingTo_18 : decode cX4_crossingTo 18 = .ok (.istore_n 3, 1) := by decide +kernel
theorem dX4_crossingTo_19 : decode cX4_crossingTo 19 = .ok (.aload_n 0, 1) := by decide +kernel
theorem dX4_crossingTo_20 : decode cX4_crossingTo 20 = .ok (.getfield 20, 3) := by decide +kernel
theorem dX4_crossingTo_23 : decode cX4_crossingTo 23 = .ok (.iload_n 1, 1) := by decide +kernel
theorem dX4_crossingTo_24 : decode cX4_crossingTo 24 = .ok (.iaload, 1) := by decide +kernel
theorem dX4_crossingTo_25 : decode cX4_crossingTo 25 = .ok (.iconst 1, 1) := by decide +kernel
theorem dX4_crossingTo_26 : decode cX4_crossingTo 26 = .ok (.isub, 1) := by decide +kernel
theorem dX4_crossingTo_27 : decode cX4_crossingTo 27 = .ok (.istore 4, 2) := by decide +kernel
theorem dX4_crossingTo_29 : decode cX4_crossingTo 29 = .ok (.iload 4, 2) := by decide +kernel
theorem dX4_crossingTo_31 : decode cX4_crossingTo 31 = .ok (.iload_n 2, 1) := by decide +kernel
theorem dX4_crossingTo_32 : decode cX4_crossingTo 32 = .ok (.if_icmp .le 30, 3) := by decide +kernel
theorem dX4_crossingTo_35 : decode cX4_crossingTo 35 = .ok (.aload_n 0, 1) := by decide +kernel
theorem dX4_crossingTo_36 : decode cX4_crossingTo 36 = .ok (.getfield 23, 3) := by decide +kernel
theorem dX4_crossingTo_39 : decode cX4_crossingTo 39 = .ok (.iload_n 3, 1) := by decide +kernel
theorem dX4_crossingTo_40 : decode cX4_crossingTo 40 = .ok (.iaload, 1) := by decide +kernel
theorem dX4_crossingTo_41 : decode cX4_crossingTo 41 = .ok (.iconst (-1), 1) := by decide +kernel
theorem dX4_crossingTo_42 : decode cX4_crossingTo 42 = .ok (.if_icmp .eq 20, 3) := by decide +kernel
theorem dX4_crossingTo_45 : decode cX4_crossingTo 45 = .ok (.iload_n 3, 1) := by decide +kernel
theorem dX4_crossingTo_46 : decode cX4_crossingTo 46 = .ok (.aload_n 0, 1) := by decide +kernel
theorem dX4_crossingTo_47 : decode cX4_crossingTo 47 = .ok (.getfield 23, 3) := by decide +kernel
theorem dX4_crossingTo_50 : decode cX4_crossingTo 50 = .ok (.iload_n 3, 1) := by decide +kernel
theorem dX4_crossingTo_51 : decode cX4_crossingTo 51 = .ok (.iaload, 1) := by decide +kernel
theorem dX4_crossingTo_52 : decode cX4_crossingTo 52 = .ok (.invokestatic 85, 3) := by decide +kernel
theorem dX4_crossingTo_55 : decode cX4_crossingTo 55 = .ok (.istore_n 3, 1) := by decide +kernel
theorem dX4_crossingTo_56 : decode cX4_crossingTo 56 = .ok (.iinc 4 (-1), 3) := by decide +kernel
theorem dX4_crossingTo_59 : decode cX4_crossingTo 59 = .ok (.goto (-30), 3) := by decide +kernel
theorem dX4_crossingTo_62 : decode cX4_crossingTo 62 = .ok (.aload_n 0, 1) := by decide +kernel
theorem dX4_crossingTo_63 : decode cX4_crossingTo 63 = .ok (.getfield 23, 3) := by decide +kernel
theorem dX4_crossingTo_66 : decode cX4_crossingTo 66 = .ok (.iload_n 3, 1) := by decide +kernel
theorem dX4_crossingTo_67 : decode cX4_crossingTo 67 = .ok (.iaload, 1) := by decide +kernel
theorem dX4_crossingTo_68 : decode cX4_crossingTo 68 = .ok (.ireturn, 1) := by decide +kernel
theorem dX4_clear_0 : decode cX4_clear 0 = .ok (.iconst 0, 1) := by decide +kernel
theorem dX4_clear_1 : decode cX4_clear 1 = .ok (.istore_n 1, 1) := by decide +kernel
theorem dX4_clear_2 : decode cX4_clear 2 = .ok (.iload_n 1, 1) := by decide +kernel
theorem dX4_clear_3 : decode cX4_clear 3 = .ok (.iconst 3, 1) := by decide +kernel
theorem dX4_clear_4 : decode cX4_clear 4 = .ok (.if_icmp .ge 38, 3) := by decide +kernel
theorem dX4_clear_7 : decode cX4_clear 7 = .ok (.aload_n 0, 1) := by decide +kernel
theorem dX4_clear_8 : decode cX4_clear 8 = .ok (.getfield 17, 3) := by decide +kernel
theorem dX4_clear_11 : decode cX4_clear 11 = .ok (.iload_n 1, 1) := by decide +kernel
theorem dX4_clear_12 : decode cX4_clear 12 = .ok (.iconst 0, 1) := by decide +kernel
theorem dX4_clear_13 : decode cX4_clear 13 = .ok (.iastore, 1) := by decide +kernel
theorem dX4_clear_14 : decode cX4_clear 14 = .ok (.aload_n 0, 1) := by decide +kernel
theorem dX4_clear_15 : decode cX4_clear 15 = .ok (.getfield 29, 3) := by decide +kernel
theorem dX4_clear_18 : decode cX4_clear 18 = .ok (.iload_n 1, 1) := by decide +kernel
theorem dX4_clear_19 : decode cX4_clear 19 = .ok (.iload_n 1, 1) := by decide +kernel
theorem dX4_clear_20 : decode cX4_clear 20 = .ok (.sipush 2048, 3) := by decide +kernel
theorem dX4_clear_23 : decode cX4_clear 23 = .ok (.imul, 1) := by decide +kernel
theorem dX4_clear_24 : decode cX4_clear 24 = .ok (.iastore, 1) := by decide +kernel
theorem dX4_clear_25 : decode cX4_clear 25 = .ok (.aload_n 0, 1) := by decide +kernel
theorem dX4_clear_26 : decode cX4_clear 26 = .ok (.getfield 32, 3) := by decide +kernel
theorem dX4_clear_29 : decode cX4_clear 29 = .ok (.iload_n 1, 1) := by decide +kernel
theorem dX4_clear_30 : decode cX4_clear 30 = .ok (.iload_n 1, 1) := by decide +kernel
theorem dX4_clear_31 : decode cX4_clear 31 = .ok (.sipush 2048, 3) := by decide +kernel
theorem dX4_clear_34 : decode cX4_clear 34 = .ok (.imul, 1) := by decide +kernel
theorem dX4_clear_35 : decode cX4_clear 35 = .ok (.iastore, 1) := by decide +kernel
theorem dX4_clear_36 : decode cX4_clear 36 = .ok (.iinc 1 1, 3) := by decide +kernel
theorem dX4_clear_39 : decode cX4_clear 39 = .ok (.goto (-37), 3) := by decide +kernel
theorem dX4_clear_42 : decode cX4_clear 42 = .ok (.aload_n 0, 1) := by decide +kernel
theorem dX4_clear_43 : decode cX4_clear 43 = .ok (.getfield 20, 3) := by decide +kernel
theorem dX4_clear_46 : decode cX4_clear 46 = .ok (.ldc 89, 2) := by decide +kernel
theorem dX4_clear_48 : decode cX4_clear 48 = .ok (.invokestatic 90, 3) := by decide +kernel
theorem dX4_clear_51 : decode cX4_clear 51 = .ok (.return_, 1) := by decide +kernel
theorem dX4_listFits_0 : decode cX4_listFits 0 = .ok (.iconst 1, 1) := by decide +kernel
theorem dX4_listFits_1 : decode cX4_listFits 1 = .ok (.istore_n 2, 1) := by decide +kernel
theorem dX4_listFits_2 : decode cX4_listFits 2 = .ok (.iload_n 2, 1) := by decide +kernel
theorem dX4_listFits_3 : decode cX4_listFits 3 = .ok (.iconst 1, 1) := by decide +kernel
theorem dX4_listFits_4 : decode cX4_listFits 4 = .ok (.aload_n 0, 1) := by decide +kernel
theorem dX4_listFits_5 : decode cX4_listFits 5 = .ok (.getfield 35, 3) := by decide +kernel
theorem dX4_listFits_8 : decode cX4_listFits 8 = .ok (.getfield 96, 3) := by decide +kernel
theorem dX4_listFits_11 : decode cX4_listFits 11 = .ok (.ishl, 1) := by decide +kernel
theorem dX4_listFits_12 : decode cX4_listFits 12 = .ok (.if_icmp .ge 49, 3) := by decide +kernel
theorem dX4_listFits_15 : decode cX4_listFits 15 = .ok (.aload_n 0, 1) := by decide +kernel
theorem dX4_listFits_16 : decode cX4_listFits 16 = .ok (.getfield 35, 3) := by decide +kernel
theorem dX4_listFits_19 : decode cX4_listFits 19 = .ok (.iload_n 1, 1) := by decide +kernel
theorem dX4_listFits_20 : decode cX4_listFits 20 = .ok (.iload_n 2, 1) := by decide +kernel
theorem dX4_listFits_21 : decode cX4_listFits 21 = .ok (.invokevirtual 99, 3) := by decide +kernel
theorem dX4_listFits_24 : decode cX4_listFits 24 = .ok (.ifCond .eq 31, 3) := by decide +kernel
theorem dX4_listFits_27 : decode cX4_listFits 27 = .ok (.aload_n 0, 1) := by decide +kernel
theorem dX4_listFits_28 : decode cX4_listFits 28 = .ok (.getfield 11, 3) := by decide +kernel
theorem dX4_listFits_31 : decode cX4_listFits 31 = .ok (.iload_n 1, 1) := by decide +kernel
theorem dX4_listFits_32 : decode cX4_listFits 32 = .ok (.sipush 256, 3) := by decide +kernel
theorem dX4_listFits_35 : decode cX4_listFits 35 = .ok (.imul, 1) := by decide +kernel
theorem dX4_listFits_36 : decode cX4_listFits 36 = .ok (.aload_n 0, 1) := by decide +kernel
theorem dX4_listFits_37 : decode cX4_listFits 37 = .ok (.getfield 17, 3) := by decide +kernel
theorem dX4_listFits_40 : decode cX4_listFits 40 = .ok (.iload_n 1, 1) := by decide +kernel
theorem dX4_listFits_41 : decode cX4_listFits 41 = .ok (.iaload, 1) := by decide +kernel
theorem dX4_listFits_42 : decode cX4_listFits 42 = .ok (.iadd, 1) := by decide +kernel
theorem dX4_listFits_43 : decode cX4_listFits 43 = .ok (.iload_n 2, 1) := by decide +kernel
theorem dX4_listFits_44 : decode cX4_listFits 44 = .ok (.iastore, 1) := by decide +kernel
theorem dX4_listFits_45 : decode cX4_listFits 45 = .ok (.aload_n 0, 1) := by decide +kernel
theorem dX4_listFits_46 : decode cX4_listFits 46 = .ok (.getfield 17, 3) := by decide +kernel
theorem dX4_listFits_49 : decode cX4_listFits 49 = .ok (.iload_n 1, 1) := by decide +kernel
theorem dX4_listFits_50 : decode cX4_listFits 50 = .ok (.dup2, 1) := by decide +kernel
theorem dX4_listFits_51 : decode cX4_listFits 51 = .ok (.iaload, 1) := by decide +kernel
theorem dX4_listFits_52 : decode cX4_listFits 52 = .ok (.iconst 1, 1) := by decide +kernel
theorem dX4_listFits_53 : decode cX4_listFits 53 = .ok (.iadd, 1) := by decide +kernel
theorem dX4_listFits_54 : decode cX4_listFits 54 = .ok (.iastore, 1) := by decide +kernel
theorem dX4_listFits_55 : decode cX4_listFits 55 = .ok (.iinc 2 1, 3) := by decide +kernel
theorem dX4_listFits_58 : decode cX4_listFits 58 = .ok (.goto (-56), 3) := by decide +kernel
theorem dX4_listFits_61 : decode cX4_listFits 61 = .ok (.return_, 1) := by decide +kernel
theorem dX4_cheapestQueue_0 : decode cX4_cheapestQueue 0 = .ok (.iconst (-1), 1) := by decide +kernel
theorem dX4_cheapestQueue_1 : decode cX4_cheapestQueue 1 = .ok (.istore_n 1, 1) := by decide +kernel
theorem dX4_cheapestQueue_2 : decode cX4_cheapestQueue 2 = .ok (.ldc 89, 2) := by decide +kernel
theorem dX4_cheapestQueue_4 : decode cX4_cheapestQueue 4 = .ok (.istore_n 2, 1) := by decide +kernel
theorem dX4_cheapestQueue_5 : decode cX4_cheapestQueue 5 = .ok (.iconst 0, 1) := by decide +kernel
theorem dX4_cheapestQueue_6 : decode cX4_cheapestQueue 6 = .ok (.istore_n 3, 1) := by decide +kernel
theorem dX4_cheapestQueue_7 : decode cX4_cheapestQueue 7 = .ok (.iload_n 3, 1) := by decide +kernel
theorem dX4_cheapestQueue_8 : decode cX4_cheapestQueue 8 = .ok (.iconst 3, 1) := by decide +kernel
theorem dX4_cheapestQueue_9 : decode cX4_cheapestQueue 9 = .ok (.if_icmp .ge 63, 3) := by decide +kernel
theorem dX4_cheapestQueue_12 : decode cX4_cheapestQueue 12 = .ok (.aload_n 0, 1) := by decide +kernel
theorem dX4_cheapestQueue_13 : decode cX4_cheapestQueue 13 = .ok (.getfield 29, 3) := by decide +kernel
theorem dX4_cheapestQueue_16 : decode cX4_cheapestQueue 16 = .ok (.iload_n 3, 1) := by decide +kernel
theorem dX4_cheapestQueue_17 : decode cX4_cheapestQueue 17 = .ok (.iaload, 1) := by decide +kernel
theorem dX4_cheapestQueue_18 : decode cX4_cheapestQueue 18 = .ok (.aload_n 0, 1) := by decide +kernel
theorem dX4_cheapestQueue_19 : decode cX4_cheapestQueue 19 = .ok (.getfield 32, 3) := by decide +kernel
theorem dX4_cheapestQueue_22 : decode cX4_cheapestQueue 22 = .ok (.iload_n 3, 1) := by decide +kernel
theorem dX4_cheapestQueue_23 : decode cX4_cheapestQueue 23 = .ok (.iaload, 1) := by decide +kernel
theorem dX4_cheapestQueue_24 : decode cX4_cheapestQueue 24 = .ok (.if_icmp .ge 42, 3) := by decide +kernel
theorem dX4_cheapestQueue_27 : decode cX4_cheapestQueue 27 = .ok (.aload_n 0, 1) := by decide +kernel
theorem dX4_cheapestQueue_28 : decode cX4_cheapestQueue 28 = .ok (.getfield 20, 3) := by decide +kernel
theorem dX4_cheapestQueue_31 : decode cX4_cheapestQueue 31 = .ok (.aload_n 0, 1) := by decide +kernel
theorem dX4_cheapestQueue_32 : decode cX4_cheapestQueue 32 = .ok (.getfield 26, 3) := by decide +kernel
theorem dX4_cheapestQueue_35 : decode cX4_cheapestQueue 35 = .ok (.aload_n 0, 1) := by decide +kernel
theorem dX4_cheapestQueue_36 : decode cX4_cheapestQueue 36 = .ok (.getfield 29, 3) := by decide +kernel
theorem dX4_cheapestQueue_39 : decode cX4_cheapestQueue 39 = .ok (.iload_n 3, 1) := by decide +kernel
theorem dX4_cheapestQueue_40 : decode cX4_cheapestQueue 40 = .ok (.iaload, 1) := by decide +kernel
theorem dX4_cheapestQueue_41 : decode cX4_cheapestQueue 41 = .ok (.iaload, 1) := by decide +kernel
theorem dX4_cheapestQueue_42 : decode cX4_cheapestQueue 42 = .ok (.iaload, 1) := by decide +kernel
theorem dX4_cheapestQueue_43 : decode cX4_cheapestQueue 43 = .ok (.iload_n 2, 1) := by decide +kernel
theorem dX4_cheapestQueue_44 : decode cX4_cheapestQueue 44 = .ok (.if_icmp .ge 22, 3) := by decide +kernel
theorem dX4_cheapestQueue_47 : decode cX4_cheapestQueue 47 = .ok (.iload_n 3, 1) := by decide +kernel
theorem dX4_cheapestQueue_48 : decode cX4_cheapestQueue 48 = .ok (.istore_n 1, 1) := by decide +kernel
theorem dX4_cheapestQueue_49 : decode cX4_cheapestQueue 49 = .ok (.aload_n 0, 1) := by decide +kernel
theorem dX4_cheapestQueue_50 : decode cX4_cheapestQueue 50 = .ok (.getfield 20, 3) := by decide +kernel
theorem dX4_cheapestQueue_53 : decode cX4_cheapestQueue 53 = .ok (.aload_n 0, 1) := by decide +kernel
theorem dX4_cheapestQueue_54 : decode cX4_cheapestQueue 54 = .ok (.getfield 26, 3) := by decide +kernel
theorem dX4_cheapestQueue_57 : decode cX4_cheapestQueue 57 = .ok (.aload_n 0, 1) := by decide +kernel
theorem dX4_cheapestQueue_58 : decode cX4_cheapestQueue 58 = .ok (.getfield 29, 3) := by decide +kernel
theorem dX4_cheapestQueue_61 : decode cX4_cheapestQueue 61 = .ok (.iload_n 3, 1) := by decide +kernel
theorem dX4_cheapestQueue_62 : decode cX4_cheapestQueue 62 = .ok (.iaload, 1) := by decide +kernel
theorem dX4_cheapestQueue_63 : decode cX4_cheapestQueue 63 = .ok (.iaload, 1) := by decide +kernel
theorem dX4_cheapestQueue_64 : decode cX4_cheapestQueue 64 = .ok (.iaload, 1) := by decide +kernel
theorem dX4_cheapestQueue_65 : decode cX4_cheapestQueue 65 = .ok (.istore_n 2, 1) := by decide +kernel
theorem dX4_cheapestQueue_66 : decode cX4_cheapestQueue 66 = .ok (.iinc 3 1, 3) := by decide +kernel
theorem dX4_cheapestQueue_69 : decode cX4_cheapestQueue 69 = .ok (.goto (-62), 3) := by decide +kernel
theorem dX4_cheapestQueue_72 : decode cX4_cheapestQueue 72 = .ok (.iload_n 1, 1) := by decide +kernel
theorem dX4_cheapestQueue_73 : decode cX4_cheapestQueue 73 = .ok (.ireturn, 1) := by decide +kernel
theorem dX4_spread_0 : decode cX4_spread 0 = .ok (.iload_n 2, 1) := by decide +kernel
theorem dX4_spread_1 : decode cX4_spread 1 = .ok (.iload_n 1, 1) := by decide +kernel
theorem dX4_spread_2 : decode cX4_spread 2 = .ok (.invokestatic 103, 3) := by decide +kernel
theorem dX4_spread_5 : decode cX4_spread 5 = .ok (.istore 5, 2) := by decide +kernel
theorem dX4_spread_7 : decode cX4_spread 7 = .ok (.iconst 0, 1) := by decide +kernel
theorem dX4_spread_8 : decode cX4_spread 8 = .ok (.istore 6, 2) := by decide +kernel
theorem dX4_spread_10 : decode cX4_spread 10 = .ok (.iload 6, 2) := by decide +kernel
theorem dX4_spread_12 : decode cX4_spread 12 = .ok (.aload_n 0, 1) := by decide +kernel
theorem dX4_spread_13 : decode cX4_spread 13 = .ok (.getfield 17, 3) := by decide +kernel
theorem dX4_spread_16 : decode cX4_spread 16 = .ok (.iload_n 2, 1) := by decide +kernel
theorem dX4_spread_17 : decode cX4_spread 17 = .ok (.iaload, 1) := by decide +kernel
theorem dX4_spread_18 : decode cX4_spread 18 = .ok (.if_icmp .ge 65, 3) := by decide +kernel
theorem dX4_spread_21 : decode cX4_spread 21 = .ok (.aload_n 0, 1) := by decide +kernel
theorem dX4_spread_22 : decode cX4_spread 22 = .ok (.getfield 11, 3) := by decide +kernel
theorem dX4_spread_25 : decode cX4_spread 25 = .ok (.iload_n 2, 1) := by decide +kernel
theorem dX4_spread_26 : decode cX4_spread 26 = .ok (.sipush 256, 3) := by decide +kernel
theorem dX4_spread_29 : decode cX4_spread 29 = .ok (.imul, 1) := by decide +kernel
theorem dX4_spread_30 : decode cX4_spread 30 = .ok (.iload 6, 2) := by decide +kernel
theorem dX4_spread_32 : decode cX4_spread 32 = .ok (.iadd, 1) := by decide +kernel
theorem dX4_spread_33 : decode cX4_spread 33 = .ok (.iaload, 1) := by decide +kernel
theorem dX4_spread_34 : decode cX4_spread 34 = .ok (.istore 7, 2) := by decide +kernel
theorem dX4_spread_36 : decode cX4_spread 36 = .ok (.iload 5, 2) := by decide +kernel
theorem dX4_spread_38 : decode cX4_spread 38 = .ok (.iload 7, 2) := by decide +kernel
theorem dX4_spread_40 : decode cX4_spread 40 = .ok (.iload_n 1, 1) := by decide +kernel
theorem dX4_spread_41 : decode cX4_spread 41 = .ok (.invokestatic 69, 3) := by decide +kernel
theorem dX4_spread_44 : decode cX4_spread 44 = .ok (.ifCond .eq 33, 3) := by decide +kernel
theorem dX4_spread_47 : decode cX4_spread 47 = .ok (.iload_n 2, 1) := by decide +kernel
theorem dX4_spread_48 : decode cX4_spread 48 = .ok (.iload 7, 2) := by decide +kernel
theorem dX4_spread_50 : decode cX4_spread 50 = .ok (.invokestatic 106, 3) := by decide +kernel
theorem dX4_spread_53 : decode cX4_spread 53 = .ok (.istore 8, 2) := by decide +kernel
theorem dX4_spread_55 : decode cX4_spread 55 = .ok (.aload_n 0, 1) := by decide +kernel
theorem dX4_spread_56 : decode cX4_spread 56 = .ok (.iload_n 1, 1) := by decide +kernel
theorem dX4_spread_57 : decode cX4_spread 57 = .ok (.iload 8, 2) := by decide +kernel
theorem dX4_spread_59 : decode cX4_spread 59 = .ok (.invokestatic 85, 3) := by decide +kernel
theorem dX4_spread_62 : decode cX4_spread 62 = .ok (.iload 8, 2) := by decide +kernel
theorem dX4_spread_64 : decode cX4_spread 64 = .ok (.aload_n 0, 1) := by decide +kernel
theorem dX4_spread_65 : decode cX4_spread 65 = .ok (.getfield 20, 3) := by decide +kernel
theorem dX4_spread_68 : decode cX4_spread 68 = .ok (.iload_n 1, 1) := by decide +kernel
theorem dX4_spread_69 : decode cX4_spread 69 = .ok (.iaload, 1) := by decide +kernel
theorem dX4_spread_70 : decode cX4_spread 70 = .ok (.iload 4, 2) := by decide +kernel
theorem dX4_spread_72 : decode cX4_spread 72 = .ok (.iadd, 1) := by decide +kernel
theorem dX4_spread_73 : decode cX4_spread 73 = .ok (.iload_n 3, 1) := by decide +kernel
theorem dX4_spread_74 : decode cX4_spread 74 = .ok (.invokevirtual 61, 3) := by decide +kernel
theorem dX4_spread_77 : decode cX4_spread 77 = .ok (.iinc 6 1, 3) := by decide +kernel
theorem dX4_spread_80 : decode cX4_spread 80 = .ok (.goto (-70), 3) := by decide +kernel
theorem dX4_spread_83 : decode cX4_spread 83 = .ok (.return_, 1) := by decide +kernel
theorem dX4_reach_0 : decode cX4_reach 0 = .ok (.iload_n 3, 1) := by decide +kernel
theorem dX4_reach_1 : decode cX4_reach 1 = .ok (.aload_n 0, 1) := by decide +kernel
theorem dX4_reach_2 : decode cX4_reach 2 = .ok (.getfield 20, 3) := by decide +kernel
theorem dX4_reach_5 : decode cX4_reach 5 = .ok (.iload_n 1, 1) := by decide +kernel
theorem dX4_reach_6 : decode cX4_reach 6 = .ok (.iaload, 1) := by decide +kernel
theorem dX4_reach_7 : decode cX4_reach 7 = .ok (.if_icmp .ge 59, 3) := by decide +kernel
theorem dX4_reach_10 : decode cX4_reach 10 = .ok (.aload_n 0, 1) := by decide +kernel
theorem dX4_reach_11 : decode cX4_reach 11 = .ok (.getfield 32, 3) := by decide +kernel
theorem dX4_reach_14 : decode cX4_reach 14 = .ok (.iload 4, 2) := by decide +kernel
theorem dX4_reach_16 : decode cX4_reach 16 = .ok (.iaload, 1) := by decide +kernel
theorem dX4_reach_17 : decode cX4_reach 17 = .ok (.iload 4, 2) := by decide +kernel
theorem dX4_reach_19 : decode cX4_reach 19 = .ok (.iconst 1, 1) := by decide +kernel
theorem dX4_reach_20 : decode cX4_reach 20 = .ok (.iadd, 1) := by decide +kernel
theorem dX4_reach_21 : decode cX4_reach 21 = .ok (.sipush 2048, 3) := by decide +kernel
theorem dX4_reach_24 : decode cX4_reach 24 = .ok (.imul, 1) := by decide +kernel
theorem dX4_reach_25 : decode cX4_reach 25 = .ok (.if_icmp .ge 41, 3) := by decide +kernel
theorem dX4_reach_28 : decode cX4_reach 28 = .ok (.aload_n 0, 1) := by decide +kernel
theorem dX4_reach_29 : decode cX4_reach 29 = .ok (.getfield 20, 3) := by decide +kernel
theorem dX4_reach_32 : decode cX4_reach 32 = .ok (.iload_n 1, 1) := by decide +kernel
theorem dX4_reach_33 : decode cX4_reach 33 = .ok (.iload_n 3, 1) := by decide +kernel
theorem dX4_reach_34 : decode cX4_reach 34 = .ok (.iastore, 1) := by decide +kernel
theorem dX4_reach_35 : decode cX4_reach 35 = .ok (.aload_n 0, 1) := by decide +kernel
theorem dX4_reach_36 : decode cX4_reach 36 = .ok (.getfield 23, 3) := by decide +kernel
theorem dX4_reach_39 : decode cX4_reach 39 = .ok (.iload_n 1, 1) := by decide +kernel
theorem dX4_reach_40 : decode cX4_reach 40 = .ok (.iload_n 2, 1) := by decide +kernel
theorem dX4_reach_41 : decode cX4_reach 41 = .ok (.iastore, 1) := by decide +kernel
theorem dX4_reach_42 : decode cX4_reach 42 = .ok (.aload_n 0, 1) := by decide +kernel
theorem dX4_reach_43 : decode cX4_reach 43 = .ok (.getfield 26, 3) := by decide +kernel
theorem dX4_reach_46 : decode cX4_reach 46 = .ok (.aload_n 0, 1) := by decide +kernel
theorem dX4_reach_47 : decode cX4_reach 47 = .ok (.getfield 32, 3) := by decide +kernel
theorem dX4_reach_50 : decode cX4_reach 50 = .ok (.iload 4, 2) := by decide +kernel
theorem dX4_reach_52 : decode cX4_reach 52 = .ok (.iaload, 1) := by decide +kernel
theorem dX4_reach_53 : decode cX4_reach 53 = .ok (.iload_n 1, 1) := by decide +kernel
theorem dX4_reach_54 : decode cX4_reach 54 = .ok (.iastore, 1) := by decide +kernel
theorem dX4_reach_55 : decode cX4_reach 55 = .ok (.aload_n 0, 1) := by decide +kernel
theorem dX4_reach_56 : decode cX4_reach 56 = .ok (.getfield 32, 3) := by decide +kernel
theorem dX4_reach_59 : decode cX4_reach 59 = .ok (.iload 4, 2) := by decide +kernel
theorem dX4_reach_61 : decode cX4_reach 61 = .ok (.dup2, 1) := by decide +kernel
theorem dX4_reach_62 : decode cX4_reach 62 = .ok (.iaload, 1) := by decide +kernel
theorem dX4_reach_63 : decode cX4_reach 63 = .ok (.iconst 1, 1) := by decide +kernel
theorem dX4_reach_64 : decode cX4_reach 64 = .ok (.iadd, 1) := by decide +kernel
theorem dX4_reach_65 : decode cX4_reach 65 = .ok (.iastore, 1) := by decide +kernel
theorem dX4_reach_66 : decode cX4_reach 66 = .ok (.return_, 1) := by decide +kernel
theorem dX5_init_0 : decode cX5_init 0 = .ok (.aload_n 0, 1) := by decide +kernel
theorem dX5_init_1 : decode cX5_init 1 = .ok (.invokespecial 1, 3) := by decide +kernel
theorem dX5_init_4 : decode cX5_init 4 = .ok (.aload_n 0, 1) := by decide +kernel
theorem dX5_init_5 : decode cX5_init 5 = .ok (.iconst 0, 1) := by decide +kernel
theorem dX5_init_6 : decode cX5_init 6 = .ok (.putfield 7, 3) := by decide +kernel
theorem dX5_init_9 : decode cX5_init 9 = .ok (.aload_n 0, 1) := by decide +kernel
theorem dX5_init_10 : decode cX5_init 10 = .ok (.iconst 0, 1) := by decide +kernel
theorem dX5_init_11 : decode cX5_init 11 = .ok (.putfield 13, 3) := by decide +kernel
theorem dX5_init_14 : decode cX5_init 14 = .ok (.aload_n 0, 1) := by decide +kernel
theorem dX5_init_15 : decode cX5_init 15 = .ok (.iconst 0, 1) := by decide +kernel
theorem dX5_init_16 : decode cX5_init 16 = .ok (.putfield 17, 3) := by decide +kernel
theorem dX5_init_19 : decode cX5_init 19 = .ok (.aload_n 0, 1) := by decide +kernel
theorem dX5_init_20 : decode cX5_init 20 = .ok (.iconst 0, 1) := by decide +kernel
theorem dX5_init_21 : decode cX5_init 21 = .ok (.putfield 20, 3) := by decide +kernel
theorem dX5_init_24 : decode cX5_init 24 = .ok (.aload_n 0, 1) := by decide +kernel
theorem dX5_init_25 : decode cX5_init 25 = .ok (.iconst 0, 1) := by decide +kernel
theorem dX5_init_26 : decode cX5_init 26 = .ok (.putfield 23, 3) := by decide +kernel
theorem dX5_init_29 : decode cX5_init 29 = .ok (.return_, 1) := by decide +kernel
theorem dX5_become_0 : decode cX5_become 0 = .ok (.aload_n 0, 1) := by decide +kernel
theorem dX5_become_1 : decode cX5_become 1 = .ok (.aload_n 1, 1) := by decide +kernel
theorem dX5_become_2 : decode cX5_become 2 = .ok (.getfield 13, 3) := by decide +kernel
theorem dX5_become_5 : decode cX5_become 5 = .ok (.putfield 13, 3) := by decide +kernel
theorem dX5_become_8 : decode cX5_become 8 = .ok (.aload_n 0, 1) := by decide +kernel
theorem dX5_become_9 : decode cX5_become 9 = .ok (.aload_n 1, 1) := by decide +kernel
theorem dX5_become_10 : decode cX5_become 10 = .ok (.getfield 17, 3) := by decide +kernel
theorem dX5_become_13 : decode cX5_become 13 = .ok (.putfield 17, 3) := by decide +kernel
theorem dX5_become_16 : decode cX5_become 16 = .ok (.aload_n 0, 1) := by decide +kernel
theorem dX5_become_17 : decode cX5_become 17 = .ok (.aload_n 1, 1) := by decide +kernel
theorem dX5_become_18 : decode cX5_become 18 = .ok (.getfield 20, 3) := by decide +kernel
theorem dX5_become_21 : decode cX5_become 21 = .ok (.putfield 20, 3) := by decide +kernel
theorem dX5_become_24 : decode cX5_become 24 = .ok (.aload_n 0, 1) := by decide +kernel
theorem dX5_become_25 : decode cX5_become 25 = .ok (.aload_n 1, 1) := by decide +kernel
theorem dX5_become_26 : decode cX5_become 26 = .ok (.getfield 23, 3) := by decide +kernel
theorem dX5_become_29 : decode cX5_become 29 = .ok (.putfield 23, 3) := by decide +kernel
theorem dX5_become_32 : decode cX5_become 32 = .ok (.return_, 1) := by decide +kernel
theorem dX6_init_0 : decode cX6_init 0 = .ok (.aload_n 0, 1) := by decide +kernel
theorem dX6_init_1 : decode cX6_init 1 = .ok (.invokespecial 3, 3) := by decide +kernel
theorem dX6_init_4 : decode cX6_init 4 = .ok (.aload_n 0, 1) := by decide +kernel
theorem dX6_init_5 : decode cX6_init 5 = .ok (.aload_n 1, 1) := by decide +kernel
theorem dX6_init_6 : decode cX6_init 6 = .ok (.putfield 9, 3) := by decide +kernel
theorem dX6_init_9 : decode cX6_init 9 = .ok (.return_, 1) := by decide +kernel
theorem dX6_make_0 : decode cX6_make 0 = .ok (.aload_n 0, 1) := by decide +kernel
theorem dX6_make_1 : decode cX6_make 1 = .ok (.iconst 0, 1) := by decide +kernel
theorem dX6_make_2 : decode cX6_make 2 = .ok (.putfield 15, 3) := by decide +kernel
theorem dX6_make_5 : decode cX6_make 5 = .ok (.aload_n 0, 1) := by decide +kernel
theorem dX6_make_6 : decode cX6_make 6 = .ok (.iconst 0, 1) := by decide +kernel
theorem dX6_make_7 : decode cX6_make 7 = .ok (.putfield 19, 3) := by decide +kernel
theorem dX6_make_10 : decode cX6_make 10 = .ok (.aload_n 0, 1) := by decide +kernel
theorem dX6_make_11 : decode cX6_make 11 = .ok (.iconst (-1), 1) := by decide +kernel
theorem dX6_make_12 : decode cX6_make 12 = .ok (.putfield 22, 3) := by decide +kernel
end
section
theorem dX6_make_15 : decode cX6_make 15 = .ok (.aload_n 0, 1) := by decide +kernel
theorem dX6_make_16 : decode cX6_make 16 = .ok (.iconst (-1), 1) := by decide +kernel
theorem dX6_make_17 : decode cX6_make 17 = .ok (.putfield 25, 3) := by decide +kernel
theorem dX6_make_20 : decode cX6_make 20 = .ok (.aload_n 0, 1) := by decide +kernel
theorem dX6_make_21 : decode cX6_make 21 = .ok (.iconst (-1), 1) := by decide +kernel
theorem dX6_make_22 : decode cX6_make 22 = .ok (.putfield 28, 3) := by decide +kernel
theorem dX6_make_25 : decode cX6_make 25 = .ok (.aload_n 0, 1) := by decide +kernel
theorem dX6_make_26 : decode cX6_make 26 = .ok (.iconst (-1), 1) := by decide +kernel
theorem dX6_make_27 : decode cX6_make 27 = .ok (.putfield 31, 3) := by decide +kernel
theorem dX6_make_30 : decode cX6_make 30 = .ok (.aload_n 0, 1) := by decide +kernel
theorem dX6_make_31 : decode cX6_make 31 = .ok (.iconst (-1), 1) := by decide +kernel
theorem dX6_make_32 : decode cX6_make 32 = .ok (.putfield 34, 3) := by decide +kernel
theorem dX6_make_35 : decode cX6_make 35 = .ok (.iconst 1, 1) := by decide +kernel
theorem dX6_make_36 : decode cX6_make 36 = .ok (.istore 4, 2) := by decide +kernel
theorem dX6_make_38 : decode cX6_make 38 = .ok (.iload 4, 2) := by decide +kernel
theorem dX6_make_40 : decode cX6_make 40 = .ok (.iconst 1, 1) := by decide +kernel
theorem dX6_make_41 : decode cX6_make 41 = .ok (.aload_n 0, 1) := by decide +kernel
theorem dX6_make_42 : decode cX6_make 42 = .ok (.getfield 9, 3) := by decide +kernel
theorem dX6_make_45 : decode cX6_make 45 = .ok (.getfield 37, 3) := by decide +kernel
theorem dX6_make_48 : decode cX6_make 48 = .ok (.ishl, 1) := by decide +kernel
theorem dX6_make_49 : decode cX6_make 49 = .ok (.if_icmp .ge 72, 3) := by decide +kernel
theorem dX6_make_52 : decode cX6_make 52 = .ok (.iload 4, 2) := by decide +kernel
theorem dX6_make_54 : decode cX6_make 54 = .ok (.iload_n 2, 1) := by decide +kernel
theorem dX6_make_55 : decode cX6_make 55 = .ok (.iand, 1) := by decide +kernel
theorem dX6_make_56 : decode cX6_make 56 = .ok (.iload_n 2, 1) := by decide +kernel
theorem dX6_make_57 : decode cX6_make 57 = .ok (.if_icmp .ne 58, 3) := by decide +kernel
theorem dX6_make_60 : decode cX6_make 60 = .ok (.iload 4, 2) := by decide +kernel
theorem dX6_make_62 : decode cX6_make 62 = .ok (.iload_n 3, 1) := by decide +kernel
theorem dX6_make_63 : decode cX6_make 63 = .ok (.iand, 1) := by decide +kernel
theorem dX6_make_64 : decode cX6_make 64 = .ok (.ifCond .ne 51, 3) := by decide +kernel
theorem dX6_make_67 : decode cX6_make 67 = .ok (.aload_n 0, 1) := by decide +kernel
theorem dX6_make_68 : decode cX6_make 68 = .ok (.getfield 9, 3) := by decide +kernel
theorem dX6_make_71 : decode cX6_make 71 = .ok (.iload_n 1, 1) := by decide +kernel
theorem dX6_make_72 : decode cX6_make 72 = .ok (.iload 4, 2) := by decide +kernel
theorem dX6_make_74 : decode cX6_make 74 = .ok (.aload_n 0, 1) := by decide +kernel
theorem dX6_make_75 : decode cX6_make 75 = .ok (.getfield 9, 3) := by decide +kernel
theorem dX6_make_78 : decode cX6_make 78 = .ok (.getfield 42, 3) := by decide +kernel
theorem dX6_make_81 : decode cX6_make 81 = .ok (.getfield 46, 3) := by decide +kernel
theorem dX6_make_84 : decode cX6_make 84 = .ok (.invokevirtual 51, 3) := by decide +kernel
theorem dX6_make_87 : decode cX6_make 87 = .ok (.ifCond .eq 28, 3) := by decide +kernel
theorem dX6_make_90 : decode cX6_make 90 = .ok (.aload_n 0, 1) := by decide +kernel
theorem dX6_make_91 : decode cX6_make 91 = .ok (.iload 4, 2) := by decide +kernel
theorem dX6_make_93 : decode cX6_make 93 = .ok (.aload_n 0, 1) := by decide +kernel
theorem dX6_make_94 : decode cX6_make 94 = .ok (.getfield 9, 3) := by decide +kernel
theorem dX6_make_97 : decode cX6_make 97 = .ok (.iload 4, 2) := by decide +kernel
theorem dX6_make_99 : decode cX6_make 99 = .ok (.invokevirtual 55, 3) := by decide +kernel
theorem dX6_make_102 : decode cX6_make 102 = .ok (.aload_n 0, 1) := by decide +kernel
theorem dX6_make_103 : decode cX6_make 103 = .ok (.getfield 9, 3) := by decide +kernel
theorem dX6_make_106 : decode cX6_make 106 = .ok (.iload_n 1, 1) := by decide +kernel
theorem dX6_make_107 : decode cX6_make 107 = .ok (.iload 4, 2) := by decide +kernel
theorem dX6_make_109 : decode cX6_make 109 = .ok (.invokevirtual 59, 3) := by decide +kernel
theorem dX6_make_112 : decode cX6_make 112 = .ok (.invokevirtual 63, 3) := by decide +kernel
theorem dX6_make_115 : decode cX6_make 115 = .ok (.iinc 4 1, 3) := by decide +kernel
theorem dX6_make_118 : decode cX6_make 118 = .ok (.goto (-80), 3) := by decide +kernel
theorem dX6_make_121 : decode cX6_make 121 = .ok (.return_, 1) := by decide +kernel
theorem dX6_take_0 : decode cX6_take 0 = .ok (.aload_n 0, 1) := by decide +kernel
theorem dX6_take_1 : decode cX6_take 1 = .ok (.getfield 15, 3) := by decide +kernel
theorem dX6_take_4 : decode cX6_take 4 = .ok (.ifCond .ne 8, 3) := by decide +kernel
theorem dX6_take_7 : decode cX6_take 7 = .ok (.aload_n 0, 1) := by decide +kernel
theorem dX6_take_8 : decode cX6_take 8 = .ok (.iload_n 1, 1) := by decide +kernel
theorem dX6_take_9 : decode cX6_take 9 = .ok (.putfield 22, 3) := by decide +kernel
theorem dX6_take_12 : decode cX6_take 12 = .ok (.iload_n 2, 1) := by decide +kernel
theorem dX6_take_13 : decode cX6_take 13 = .ok (.aload_n 0, 1) := by decide +kernel
theorem dX6_take_14 : decode cX6_take 14 = .ok (.getfield 28, 3) := by decide +kernel
theorem dX6_take_17 : decode cX6_take 17 = .ok (.if_icmp .le 13, 3) := by decide +kernel
theorem dX6_take_20 : decode cX6_take 20 = .ok (.aload_n 0, 1) := by decide +kernel
theorem dX6_take_21 : decode cX6_take 21 = .ok (.iload_n 1, 1) := by decide +kernel
theorem dX6_take_22 : decode cX6_take 22 = .ok (.putfield 25, 3) := by decide +kernel
theorem dX6_take_25 : decode cX6_take 25 = .ok (.aload_n 0, 1) := by decide +kernel
theorem dX6_take_26 : decode cX6_take 26 = .ok (.iload_n 2, 1) := by decide +kernel
theorem dX6_take_27 : decode cX6_take 27 = .ok (.putfield 28, 3) := by decide +kernel
theorem dX6_take_30 : decode cX6_take 30 = .ok (.aload_n 0, 1) := by decide +kernel
theorem dX6_take_31 : decode cX6_take 31 = .ok (.aload_n 0, 1) := by decide +kernel
theorem dX6_take_32 : decode cX6_take 32 = .ok (.getfield 15, 3) := by decide +kernel
theorem dX6_take_35 : decode cX6_take 35 = .ok (.ifCond .ne 7, 3) := by decide +kernel
theorem dX6_take_38 : decode cX6_take 38 = .ok (.iload_n 1, 1) := by decide +kernel
theorem dX6_take_39 : decode cX6_take 39 = .ok (.goto 9, 3) := by decide +kernel
theorem dX6_take_42 : decode cX6_take 42 = .ok (.aload_n 0, 1) := by decide +kernel
theorem dX6_take_43 : decode cX6_take 43 = .ok (.getfield 31, 3) := by decide +kernel
theorem dX6_take_46 : decode cX6_take 46 = .ok (.iload_n 1, 1) := by decide +kernel
theorem dX6_take_47 : decode cX6_take 47 = .ok (.ior, 1) := by decide +kernel
theorem dX6_take_48 : decode cX6_take 48 = .ok (.putfield 31, 3) := by decide +kernel
theorem dX6_take_51 : decode cX6_take 51 = .ok (.aload_n 0, 1) := by decide +kernel
theorem dX6_take_52 : decode cX6_take 52 = .ok (.aload_n 0, 1) := by decide +kernel
theorem dX6_take_53 : decode cX6_take 53 = .ok (.getfield 15, 3) := by decide +kernel
theorem dX6_take_56 : decode cX6_take 56 = .ok (.ifCond .ne 7, 3) := by decide +kernel
theorem dX6_take_59 : decode cX6_take 59 = .ok (.iload_n 1, 1) := by decide +kernel
theorem dX6_take_60 : decode cX6_take 60 = .ok (.goto 9, 3) := by decide +kernel
theorem dX6_take_63 : decode cX6_take 63 = .ok (.aload_n 0, 1) := by decide +kernel
theorem dX6_take_64 : decode cX6_take 64 = .ok (.getfield 34, 3) := by decide +kernel
theorem dX6_take_67 : decode cX6_take 67 = .ok (.iload_n 1, 1) := by decide +kernel
theorem dX6_take_68 : decode cX6_take 68 = .ok (.iand, 1) := by decide +kernel
theorem dX6_take_69 : decode cX6_take 69 = .ok (.putfield 34, 3) := by decide +kernel
theorem dX6_take_72 : decode cX6_take 72 = .ok (.aload_n 0, 1) := by decide +kernel
theorem dX6_take_73 : decode cX6_take 73 = .ok (.dup, 1) := by decide +kernel
theorem dX6_take_74 : decode cX6_take 74 = .ok (.getfield 15, 3) := by decide +kernel
theorem dX6_take_77 : decode cX6_take 77 = .ok (.iconst 1, 1) := by decide +kernel
theorem dX6_take_78 : decode cX6_take 78 = .ok (.iadd, 1) := by decide +kernel
theorem dX6_take_79 : decode cX6_take 79 = .ok (.putfield 15, 3) := by decide +kernel
theorem dX6_take_82 : decode cX6_take 82 = .ok (.iload_n 3, 1) := by decide +kernel
theorem dX6_take_83 : decode cX6_take 83 = .ok (.ifCond .eq 13, 3) := by decide +kernel
theorem dX6_take_86 : decode cX6_take 86 = .ok (.aload_n 0, 1) := by decide +kernel
theorem dX6_take_87 : decode cX6_take 87 = .ok (.dup, 1) := by decide +kernel
theorem dX6_take_88 : decode cX6_take 88 = .ok (.getfield 19, 3) := by decide +kernel
theorem dX6_take_91 : decode cX6_take 91 = .ok (.iconst 1, 1) := by decide +kernel
theorem dX6_take_92 : decode cX6_take 92 = .ok (.iadd, 1) := by decide +kernel
theorem dX6_take_93 : decode cX6_take 93 = .ok (.putfield 19, 3) := by decide +kernel
theorem dX6_take_96 : decode cX6_take 96 = .ok (.return_, 1) := by decide +kernel
theorem dX7_init_0 : decode cX7_init 0 = .ok (.aload_n 0, 1) := by decide +kernel
theorem dX7_init_1 : decode cX7_init 1 = .ok (.invokespecial 3, 3) := by decide +kernel
theorem dX7_init_4 : decode cX7_init 4 = .ok (.aload_n 0, 1) := by decide +kernel
theorem dX7_init_5 : decode cX7_init 5 = .ok (.sipush 200, 3) := by decide +kernel
theorem dX7_init_8 : decode cX7_init 8 = .ok (.newarray .int, 2) := by decide +kernel
theorem dX7_init_10 : decode cX7_init 10 = .ok (.putfield 9, 3) := by decide +kernel
theorem dX7_init_13 : decode cX7_init 13 = .ok (.aload_n 0, 1) := by decide +kernel
theorem dX7_init_14 : decode cX7_init 14 = .ok (.iconst 0, 1) := by decide +kernel
theorem dX7_init_15 : decode cX7_init 15 = .ok (.putfield 15, 3) := by decide +kernel
theorem dX7_init_18 : decode cX7_init 18 = .ok (.return_, 1) := by decide +kernel
theorem dX7_add_0 : decode cX7_add 0 = .ok (.aload_n 0, 1) := by decide +kernel
theorem dX7_add_1 : decode cX7_add 1 = .ok (.getfield 15, 3) := by decide +kernel
theorem dX7_add_4 : decode cX7_add 4 = .ok (.sipush 200, 3) := by decide +kernel
theorem dX7_add_7 : decode cX7_add 7 = .ok (.if_icmp .ge 23, 3) := by decide +kernel
theorem dX7_add_10 : decode cX7_add 10 = .ok (.aload_n 0, 1) := by decide +kernel
theorem dX7_add_11 : decode cX7_add 11 = .ok (.getfield 9, 3) := by decide +kernel
theorem dX7_add_14 : decode cX7_add 14 = .ok (.aload_n 0, 1) := by decide +kernel
theorem dX7_add_15 : decode cX7_add 15 = .ok (.getfield 15, 3) := by decide +kernel
theorem dX7_add_18 : decode cX7_add 18 = .ok (.iload_n 1, 1) := by decide +kernel
theorem dX7_add_19 : decode cX7_add 19 = .ok (.iastore, 1) := by decide +kernel
theorem dX7_add_20 : decode cX7_add 20 = .ok (.aload_n 0, 1) := by decide +kernel
theorem dX7_add_21 : decode cX7_add 21 = .ok (.dup, 1) := by decide +kernel
theorem dX7_add_22 : decode cX7_add 22 = .ok (.getfield 15, 3) := by decide +kernel
theorem dX7_add_25 : decode cX7_add 25 = .ok (.iconst 1, 1) := by decide +kernel
theorem dX7_add_26 : decode cX7_add 26 = .ok (.iadd, 1) := by decide +kernel
theorem dX7_add_27 : decode cX7_add 27 = .ok (.putfield 15, 3) := by decide +kernel
theorem dX7_add_30 : decode cX7_add 30 = .ok (.return_, 1) := by decide +kernel
theorem dX7_empty_0 : decode cX7_empty 0 = .ok (.aload_n 0, 1) := by decide +kernel
theorem dX7_empty_1 : decode cX7_empty 1 = .ok (.getfield 15, 3) := by decide +kernel
theorem dX7_empty_4 : decode cX7_empty 4 = .ok (.istore_n 1, 1) := by decide +kernel
theorem dX7_empty_5 : decode cX7_empty 5 = .ok (.aload_n 0, 1) := by decide +kernel
theorem dX7_empty_6 : decode cX7_empty 6 = .ok (.iconst 0, 1) := by decide +kernel
theorem dX7_empty_7 : decode cX7_empty 7 = .ok (.putfield 15, 3) := by decide +kernel
theorem dX7_empty_10 : decode cX7_empty 10 = .ok (.iload_n 1, 1) := by decide +kernel
theorem dX7_empty_11 : decode cX7_empty 11 = .ok (.ireturn, 1) := by decide +kernel
theorem dX7_byteAt_0 : decode cX7_byteAt 0 = .ok (.iload_n 1, 1) := by decide +kernel
theorem dX7_byteAt_1 : decode cX7_byteAt 1 = .ok (.ifCond .lt 20, 3) := by decide +kernel
theorem dX7_byteAt_4 : decode cX7_byteAt 4 = .ok (.iload_n 1, 1) := by decide +kernel
theorem dX7_byteAt_5 : decode cX7_byteAt 5 = .ok (.aload_n 0, 1) := by decide +kernel
theorem dX7_byteAt_6 : decode cX7_byteAt 6 = .ok (.getfield 15, 3) := by decide +kernel
theorem dX7_byteAt_9 : decode cX7_byteAt 9 = .ok (.if_icmp .ge 12, 3) := by decide +kernel
theorem dX7_byteAt_12 : decode cX7_byteAt 12 = .ok (.aload_n 0, 1) := by decide +kernel
theorem dX7_byteAt_13 : decode cX7_byteAt 13 = .ok (.getfield 9, 3) := by decide +kernel
theorem dX7_byteAt_16 : decode cX7_byteAt 16 = .ok (.iload_n 1, 1) := by decide +kernel
theorem dX7_byteAt_17 : decode cX7_byteAt 17 = .ok (.iaload, 1) := by decide +kernel
theorem dX7_byteAt_18 : decode cX7_byteAt 18 = .ok (.goto 4, 3) := by decide +kernel
theorem dX7_byteAt_21 : decode cX7_byteAt 21 = .ok (.iconst (-1), 1) := by decide +kernel
theorem dX7_byteAt_22 : decode cX7_byteAt 22 = .ok (.ireturn, 1) := by decide +kernel
theorem dX8_init_0 : decode cX8_init 0 = .ok (.aload_n 0, 1) := by decide +kernel
theorem dX8_init_1 : decode cX8_init 1 = .ok (.invokespecial 3, 3) := by decide +kernel
theorem dX8_init_4 : decode cX8_init 4 = .ok (.return_, 1) := by decide +kernel
theorem dX8_tell_0 : decode cX8_tell 0 = .ok (.aload_n 0, 1) := by decide +kernel
theorem dX8_tell_1 : decode cX8_tell 1 = .ok (.iload_n 1, 1) := by decide +kernel
theorem dX8_tell_2 : decode cX8_tell 2 = .ok (.putfield 9, 3) := by decide +kernel
theorem dX8_tell_5 : decode cX8_tell 5 = .ok (.aload_n 0, 1) := by decide +kernel
theorem dX8_tell_6 : decode cX8_tell 6 = .ok (.iload_n 2, 1) := by decide +kernel
theorem dX8_tell_7 : decode cX8_tell 7 = .ok (.putfield 15, 3) := by decide +kernel
theorem dX8_tell_10 : decode cX8_tell 10 = .ok (.aload_n 0, 1) := by decide +kernel
theorem dX8_tell_11 : decode cX8_tell 11 = .ok (.iload_n 3, 1) := by decide +kernel
theorem dX8_tell_12 : decode cX8_tell 12 = .ok (.putfield 18, 3) := by decide +kernel
theorem dX8_tell_15 : decode cX8_tell 15 = .ok (.aload_n 0, 1) := by decide +kernel
theorem dX8_tell_16 : decode cX8_tell 16 = .ok (.iconst 0, 1) := by decide +kernel
theorem dX8_tell_17 : decode cX8_tell 17 = .ok (.putfield 21, 3) := by decide +kernel
theorem dX8_tell_20 : decode cX8_tell 20 = .ok (.aload_n 0, 1) := by decide +kernel
theorem dX8_tell_21 : decode cX8_tell 21 = .ok (.iconst 0, 1) := by decide +kernel
theorem dX8_tell_22 : decode cX8_tell 22 = .ok (.putfield 24, 3) := by decide +kernel
theorem dX8_tell_25 : decode cX8_tell 25 = .ok (.aload_n 0, 1) := by decide +kernel
theorem dX8_tell_26 : decode cX8_tell 26 = .ok (.iconst 0, 1) := by decide +kernel
theorem dX8_tell_27 : decode cX8_tell 27 = .ok (.putfield 27, 3) := by decide +kernel
theorem dX8_tell_30 : decode cX8_tell 30 = .ok (.return_, 1) := by decide +kernel
theorem dX8_hasHat_0 : decode cX8_hasHat 0 = .ok (.aload_n 0, 1) := by decide +kernel
theorem dX8_hasHat_1 : decode cX8_hasHat 1 = .ok (.getfield 9, 3) := by decide +kernel
theorem dX8_hasHat_4 : decode cX8_hasHat 4 = .ok (.invokestatic 31, 3) := by decide +kernel
theorem dX8_hasHat_7 : decode cX8_hasHat 7 = .ok (.ireturn, 1) := by decide +kernel
theorem dX8_isHatted_0 : decode cX8_isHatted 0 = .ok (.iload_n 0, 1) := by decide +kernel
theorem dX8_isHatted_1 : decode cX8_isHatted 1 = .ok (.ifCond .eq 8, 3) := by decide +kernel
theorem dX8_isHatted_4 : decode cX8_isHatted 4 = .ok (.iload_n 0, 1) := by decide +kernel
theorem dX8_isHatted_5 : decode cX8_isHatted 5 = .ok (.iconst 1, 1) := by decide +kernel
theorem dX8_isHatted_6 : decode cX8_isHatted 6 = .ok (.if_icmp .ne 7, 3) := by decide +kernel
theorem dX8_isHatted_9 : decode cX8_isHatted 9 = .ok (.iconst 1, 1) := by decide +kernel
theorem dX8_isHatted_10 : decode cX8_isHatted 10 = .ok (.goto 4, 3) := by decide +kernel
theorem dX8_isHatted_13 : decode cX8_isHatted 13 = .ok (.iconst 0, 1) := by decide +kernel
theorem dX8_isHatted_14 : decode cX8_isHatted 14 = .ok (.ireturn, 1) := by decide +kernel
theorem dX8_isUnder_0 : decode cX8_isUnder 0 = .ok (.iconst 2, 1) := by decide +kernel
theorem dX8_isUnder_1 : decode cX8_isUnder 1 = .ok (.aload_n 0, 1) := by decide +kernel
theorem dX8_isUnder_2 : decode cX8_isUnder 2 = .ok (.getfield 9, 3) := by decide +kernel
theorem dX8_isUnder_5 : decode cX8_isUnder 5 = .ok (.iadd, 1) := by decide +kernel
theorem dX8_isUnder_6 : decode cX8_isUnder 6 = .ok (.istore_n 2, 1) := by decide +kernel
theorem dX8_isUnder_7 : decode cX8_isUnder 7 = .ok (.iconst 0, 1) := by decide +kernel
theorem dX8_isUnder_8 : decode cX8_isUnder 8 = .ok (.istore_n 3, 1) := by decide +kernel
theorem dX8_isUnder_9 : decode cX8_isUnder 9 = .ok (.iload_n 3, 1) := by decide +kernel
theorem dX8_isUnder_10 : decode cX8_isUnder 10 = .ok (.getstatic 35, 3) := by decide +kernel
theorem dX8_isUnder_13 : decode cX8_isUnder 13 = .ok (.arraylength, 1) := by decide +kernel
theorem dX8_isUnder_14 : decode cX8_isUnder 14 = .ok (.if_icmp .ge 34, 3) := by decide +kernel
theorem dX8_isUnder_17 : decode cX8_isUnder 17 = .ok (.iload_n 2, 1) := by decide +kernel
theorem dX8_isUnder_18 : decode cX8_isUnder 18 = .ok (.ifCond .lt 30, 3) := by decide +kernel
theorem dX8_isUnder_21 : decode cX8_isUnder 21 = .ok (.iload_n 2, 1) := by decide +kernel
theorem dX8_isUnder_22 : decode cX8_isUnder 22 = .ok (.getstatic 35, 3) := by decide +kernel
theorem dX8_isUnder_25 : decode cX8_isUnder 25 = .ok (.arraylength, 1) := by decide +kernel
theorem dX8_isUnder_26 : decode cX8_isUnder 26 = .ok (.if_icmp .ge 22, 3) := by decide +kernel
theorem dX8_isUnder_29 : decode cX8_isUnder 29 = .ok (.iload_n 2, 1) := by decide +kernel
theorem dX8_isUnder_30 : decode cX8_isUnder 30 = .ok (.iload_n 1, 1) := by decide +kernel
theorem dX8_isUnder_31 : decode cX8_isUnder 31 = .ok (.if_icmp .ne 5, 3) := by decide +kernel
theorem dX8_isUnder_34 : decode cX8_isUnder 34 = .ok (.iconst 1, 1) := by decide +kernel
theorem dX8_isUnder_35 : decode cX8_isUnder 35 = .ok (.ireturn, 1) := by decide +kernel
theorem dX8_isUnder_36 : decode cX8_isUnder 36 = .ok (.getstatic 35, 3) := by decide +kernel
theorem dX8_isUnder_39 : decode cX8_isUnder 39 = .ok (.iload_n 2, 1) := by decide +kernel
theorem dX8_isUnder_40 : decode cX8_isUnder 40 = .ok (.iaload, 1) := by decide +kernel
theorem dX8_isUnder_41 : decode cX8_isUnder 41 = .ok (.istore_n 2, 1) := by decide +kernel
theorem dX8_isUnder_42 : decode cX8_isUnder 42 = .ok (.iinc 3 1, 3) := by decide +kernel
theorem dX8_isUnder_45 : decode cX8_isUnder 45 = .ok (.goto (-36), 3) := by decide +kernel
theorem dX8_isUnder_48 : decode cX8_isUnder 48 = .ok (.iconst 0, 1) := by decide +kernel
theorem dX8_isUnder_49 : decode cX8_isUnder 49 = .ok (.ireturn, 1) := by decide +kernel
theorem dX10_init_0 : decode cX10_init 0 = .ok (.aload_n 0, 1) := by decide +kernel
theorem dX10_init_1 : decode cX10_init 1 = .ok (.invokespecial 3, 3) := by decide +kernel
theorem dX10_init_4 : decode cX10_init 4 = .ok (.aload_n 0, 1) := by decide +kernel
theorem dX10_init_5 : decode cX10_init 5 = .ok (.new 9, 3) := by decide +kernel
theorem dX10_init_8 : decode cX10_init 8 = .ok (.dup, 1) := by decide +kernel
theorem dX10_init_9 : decode cX10_init 9 = .ok (.invokespecial 11, 3) := by decide +kernel
theorem dX10_init_12 : decode cX10_init 12 = .ok (.putfield 12, 3) := by decide +kernel
theorem dX10_init_15 : decode cX10_init 15 = .ok (.aload_n 0, 1) := by decide +kernel
theorem dX10_init_16 : decode cX10_init 16 = .ok (.new 16, 3) := by decide +kernel
theorem dX10_init_19 : decode cX10_init 19 = .ok (.dup, 1) := by decide +kernel
theorem dX10_init_20 : decode cX10_init 20 = .ok (.invokespecial 18, 3) := by decide +kernel
theorem dX10_init_23 : decode cX10_init 23 = .ok (.putfield 19, 3) := by decide +kernel
theorem dX10_init_26 : decode cX10_init 26 = .ok (.aload_n 0, 1) := by decide +kernel
theorem dX10_init_27 : decode cX10_init 27 = .ok (.new 23, 3) := by decide +kernel
theorem dX10_init_30 : decode cX10_init 30 = .ok (.dup, 1) := by decide +kernel
theorem dX10_init_31 : decode cX10_init 31 = .ok (.aload_n 0, 1) := by decide +kernel
theorem dX10_init_32 : decode cX10_init 32 = .ok (.getfield 12, 3) := by decide +kernel
theorem dX10_init_35 : decode cX10_init 35 = .ok (.aload_n 0, 1) := by decide +kernel
theorem dX10_init_36 : decode cX10_init 36 = .ok (.getfield 19, 3) := by decide +kernel
theorem dX10_init_39 : decode cX10_init 39 = .ok (.invokespecial 25, 3) := by decide +kernel
theorem dX10_init_42 : decode cX10_init 42 = .ok (.putfield 28, 3) := by decide +kernel
theorem dX10_init_45 : decode cX10_init 45 = .ok (.aload_n 0, 1) := by decide +kernel
theorem dX10_init_46 : decode cX10_init 46 = .ok (.new 32, 3) := by decide +kernel
theorem dX10_init_49 : decode cX10_init 49 = .ok (.dup, 1) := by decide +kernel
theorem dX10_init_50 : decode cX10_init 50 = .ok (.aload_n 0, 1) := by decide +kernel
theorem dX10_init_51 : decode cX10_init 51 = .ok (.getfield 19, 3) := by decide +kernel
theorem dX10_init_54 : decode cX10_init 54 = .ok (.invokespecial 34, 3) := by decide +kernel
theorem dX10_init_57 : decode cX10_init 57 = .ok (.putfield 37, 3) := by decide +kernel
theorem dX10_init_60 : decode cX10_init 60 = .ok (.aload_n 0, 1) := by decide +kernel
theorem dX10_init_61 : decode cX10_init 61 = .ok (.new 41, 3) := by decide +kernel
theorem dX10_init_64 : decode cX10_init 64 = .ok (.dup, 1) := by decide +kernel
theorem dX10_init_65 : decode cX10_init 65 = .ok (.aload_n 0, 1) := by decide +kernel
theorem dX10_init_66 : decode cX10_init 66 = .ok (.getfield 19, 3) := by decide +kernel
theorem dX10_init_69 : decode cX10_init 69 = .ok (.invokespecial 43, 3) := by decide +kernel
theorem dX10_init_72 : decode cX10_init 72 = .ok (.putfield 44, 3) := by decide +kernel
theorem dX10_init_75 : decode cX10_init 75 = .ok (.aload_n 0, 1) := by decide +kernel
theorem dX10_init_76 : decode cX10_init 76 = .ok (.iconst 2, 1) := by decide +kernel
theorem dX10_init_77 : decode cX10_init 77 = .ok (.anewarray 48, 3) := by decide +kernel
theorem dX10_init_80 : decode cX10_init 80 = .ok (.putfield 50, 3) := by decide +kernel
theorem dX10_init_83 : decode cX10_init 83 = .ok (.aload_n 0, 1) := by decide +kernel
theorem dX10_init_84 : decode cX10_init 84 = .ok (.bipush 12, 2) := by decide +kernel
theorem dX10_init_86 : decode cX10_init 86 = .ok (.newarray .int, 2) := by decide +kernel
theorem dX10_init_88 : decode cX10_init 88 = .ok (.putfield 54, 3) := by decide +kernel
theorem dX10_init_91 : decode cX10_init 91 = .ok (.aload_n 0, 1) := by decide +kernel
theorem dX10_init_92 : decode cX10_init 92 = .ok (.iconst 0, 1) := by decide +kernel
theorem dX10_init_93 : decode cX10_init 93 = .ok (.putfield 58, 3) := by decide +kernel
theorem dX10_init_96 : decode cX10_init 96 = .ok (.iconst 0, 1) := by decide +kernel
theorem dX10_init_97 : decode cX10_init 97 = .ok (.istore_n 1, 1) := by decide +kernel
theorem dX10_init_98 : decode cX10_init 98 = .ok (.iload_n 1, 1) := by decide +kernel
theorem dX10_init_99 : decode cX10_init 99 = .ok (.iconst 2, 1) := by decide +kernel
theorem dX10_init_100 : decode cX10_init 100 = .ok (.if_icmp .ge 22, 3) := by decide +kernel
theorem dX10_init_103 : decode cX10_init 103 = .ok (.aload_n 0, 1) := by decide +kernel
theorem dX10_init_104 : decode cX10_init 104 = .ok (.getfield 50, 3) := by decide +kernel
theorem dX10_init_107 : decode cX10_init 107 = .ok (.iload_n 1, 1) := by decide +kernel
theorem dX10_init_108 : decode cX10_init 108 = .ok (.new 48, 3) := by decide +kernel
theorem dX10_init_111 : decode cX10_init 111 = .ok (.dup, 1) := by decide +kernel
theorem dX10_init_112 : decode cX10_init 112 = .ok (.invokespecial 62, 3) := by decide +kernel
theorem dX10_init_115 : decode cX10_init 115 = .ok (.aastore, 1) := by decide +kernel
theorem dX10_init_116 : decode cX10_init 116 = .ok (.iinc 1 1, 3) := by decide +kernel
theorem dX10_init_119 : decode cX10_init 119 = .ok (.goto (-21), 3) := by decide +kernel
theorem dX10_init_122 : decode cX10_init 122 = .ok (.return_, 1) := by decide +kernel
theorem dX10_write_0 : decode cX10_write 0 = .ok (.iload_n 3, 1) := by decide +kernel
theorem dX10_write_1 : decode cX10_write 1 = .ok (.iconst 1, 1) := by decide +kernel
theorem dX10_write_2 : decode cX10_write 2 = .ok (.if_icmp .lt 9, 3) := by decide +kernel
theorem dX10_write_5 : decode cX10_write 5 = .ok (.iload_n 3, 1) := by decide +kernel
theorem dX10_write_6 : decode cX10_write 6 = .ok (.bipush 8, 2) := by decide +kernel
theorem dX10_write_8 : decode cX10_write 8 = .ok (.if_icmp .le 6, 3) := by decide +kernel
theorem dX10_write_11 : decode cX10_write 11 = .ok (.bipush (-3), 2) := by decide +kernel
theorem dX10_write_13 : decode cX10_write 13 = .ok (.ireturn, 1) := by decide +kernel
theorem dX10_write_14 : decode cX10_write 14 = .ok (.aload_n 0, 1) := by decide +kernel
theorem dX10_write_15 : decode cX10_write 15 = .ok (.getfield 12, 3) := by decide +kernel
theorem dX10_write_18 : decode cX10_write 18 = .ok (.getfield 63, 3) := by decide +kernel
theorem dX10_write_21 : decode cX10_write 21 = .ok (.iload_n 3, 1) := by decide +kernel
theorem dX10_write_22 : decode cX10_write 22 = .ok (.iadd, 1) := by decide +kernel
theorem dX10_write_23 : decode cX10_write 23 = .ok (.sipush 200, 3) := by decide +kernel
theorem dX10_write_26 : decode cX10_write 26 = .ok (.if_icmp .le 6, 3) := by decide +kernel
theorem dX10_write_29 : decode cX10_write 29 = .ok (.bipush (-5), 2) := by decide +kernel
theorem dX10_write_31 : decode cX10_write 31 = .ok (.ireturn, 1) := by decide +kernel
theorem dX10_write_32 : decode cX10_write 32 = .ok (.iconst 0, 1) := by decide +kernel
theorem dX10_write_33 : decode cX10_write 33 = .ok (.istore 4, 2) := by decide +kernel
theorem dX10_write_35 : decode cX10_write 35 = .ok (.iload 4, 2) := by decide +kernel
theorem dX10_write_37 : decode cX10_write 37 = .ok (.iload_n 3, 1) := by decide +kernel
theorem dX10_write_38 : decode cX10_write 38 = .ok (.if_icmp .ge 28, 3) := by decide +kernel
theorem dX10_write_41 : decode cX10_write 41 = .ok (.aload_n 0, 1) := by decide +kernel
theorem dX10_write_42 : decode cX10_write 42 = .ok (.getfield 12, 3) := by decide +kernel
theorem dX10_write_45 : decode cX10_write 45 = .ok (.lload_n 1, 1) := by decide +kernel
theorem dX10_write_46 : decode cX10_write 46 = .ok (.bipush 8, 2) := by decide +kernel
theorem dX10_write_48 : decode cX10_write 48 = .ok (.iload 4, 2) := by decide +kernel
theorem dX10_write_50 : decode cX10_write 50 = .ok (.imul, 1) := by decide +kernel
theorem dX10_write_51 : decode cX10_write 51 = .ok (.lshr, 1) := by decide +kernel
theorem dX10_write_52 : decode cX10_write 52 = .ok (.ldc2_w 66, 3) := by decide +kernel
theorem dX10_write_55 : decode cX10_write 55 = .ok (.land, 1) := by decide +kernel
theorem dX10_write_56 : decode cX10_write 56 = .ok (.l2i, 1) := by decide +kernel
theorem dX10_write_57 : decode cX10_write 57 = .ok (.invokevirtual 68, 3) := by decide +kernel
theorem dX10_write_60 : decode cX10_write 60 = .ok (.iinc 4 1, 3) := by decide +kernel
theorem dX10_write_63 : decode cX10_write 63 = .ok (.goto (-28), 3) := by decide +kernel
theorem dX10_write_66 : decode cX10_write 66 = .ok (.aload_n 0, 1) := by decide +kernel
theorem dX10_write_67 : decode cX10_write 67 = .ok (.getfield 12, 3) := by decide +kernel
theorem dX10_write_70 : decode cX10_write 70 = .ok (.getfield 63, 3) := by decide +kernel
theorem dX10_write_73 : decode cX10_write 73 = .ok (.ireturn, 1) := by decide +kernel
theorem dX10_erase_0 : decode cX10_erase 0 = .ok (.aload_n 0, 1) := by decide +kernel
theorem dX10_erase_1 : decode cX10_erase 1 = .ok (.getfield 12, 3) := by decide +kernel
theorem dX10_erase_4 : decode cX10_erase 4 = .ok (.invokevirtual 72, 3) := by decide +kernel
theorem dX10_erase_7 : decode cX10_erase 7 = .ok (.ireturn, 1) := by decide +kernel
theorem dX10_fault_0 : decode cX10_fault 0 = .ok (.aload_n 0, 1) := by decide +kernel
theorem dX10_fault_1 : decode cX10_fault 1 = .ok (.getfield 28, 3) := by decide +kernel
theorem dX10_fault_4 : decode cX10_fault 4 = .ok (.invokevirtual 76, 3) := by decide +kernel
theorem dX10_fault_7 : decode cX10_fault 7 = .ok (.aload_n 0, 1) := by decide +kernel
theorem dX10_fault_8 : decode cX10_fault 8 = .ok (.getfield 28, 3) := by decide +kernel
theorem dX10_fault_11 : decode cX10_fault 11 = .ok (.getfield 79, 3) := by decide +kernel
theorem dX10_fault_14 : decode cX10_fault 14 = .ok (.ireturn, 1) := by decide +kernel
theorem dX10_shore_0 : decode cX10_shore 0 = .ok (.aload_n 0, 1) := by decide +kernel
theorem dX10_shore_1 : decode cX10_shore 1 = .ok (.getfield 28, 3) := by decide +kernel
theorem dX10_shore_4 : decode cX10_shore 4 = .ok (.invokevirtual 76, 3) := by decide +kernel
theorem dX10_shore_7 : decode cX10_shore 7 = .ok (.aload_n 0, 1) := by decide +kernel
theorem dX10_shore_8 : decode cX10_shore 8 = .ok (.getfield 28, 3) := by decide +kernel
theorem dX10_shore_11 : decode cX10_shore 11 = .ok (.getfield 79, 3) := by decide +kernel
theorem dX10_shore_14 : decode cX10_shore 14 = .ok (.iconst (-1), 1) := by decide +kernel
theorem dX10_shore_15 : decode cX10_shore 15 = .ok (.if_icmp .eq 6, 3) := by decide +kernel
theorem dX10_shore_18 : decode cX10_shore 18 = .ok (.bipush (-4), 2) := by decide +kernel
theorem dX10_shore_20 : decode cX10_shore 20 = .ok (.ireturn, 1) := by decide +kernel
theorem dX10_shore_21 : decode cX10_shore 21 = .ok (.iconst 0, 1) := by decide +kernel
theorem dX10_shore_22 : decode cX10_shore 22 = .ok (.istore_n 1, 1) := by decide +kernel
theorem dX10_shore_23 : decode cX10_shore 23 = .ok (.iload_n 1, 1) := by decide +kernel
theorem dX10_shore_24 : decode cX10_shore 24 = .ok (.aload_n 0, 1) := by decide +kernel
theorem dX10_shore_25 : decode cX10_shore 25 = .ok (.getfield 28, 3) := by decide +kernel
theorem dX10_shore_28 : decode cX10_shore 28 = .ok (.getfield 82, 3) := by decide +kernel
theorem dX10_shore_31 : decode cX10_shore 31 = .ok (.if_icmp .ge 31, 3) := by decide +kernel
theorem dX10_shore_34 : decode cX10_shore 34 = .ok (.iload_n 1, 1) := by decide +kernel
theorem dX10_shore_35 : decode cX10_shore 35 = .ok (.bipush 12, 2) := by decide +kernel
theorem dX10_shore_37 : decode cX10_shore 37 = .ok (.if_icmp .ge 25, 3) := by decide +kernel
theorem dX10_shore_40 : decode cX10_shore 40 = .ok (.aload_n 0, 1) := by decide +kernel
theorem dX10_shore_41 : decode cX10_shore 41 = .ok (.getfield 19, 3) := by decide +kernel
theorem dX10_shore_44 : decode cX10_shore 44 = .ok (.aload_n 0, 1) := by decide +kernel
theorem dX10_shore_45 : decode cX10_shore 45 = .ok (.getfield 28, 3) := by decide +kernel
theorem dX10_shore_48 : decode cX10_shore 48 = .ok (.getfield 85, 3) := by decide +kernel
theorem dX10_shore_51 : decode cX10_shore 51 = .ok (.iload_n 1, 1) := by decide +kernel
theorem dX10_shore_52 : decode cX10_shore 52 = .ok (.aaload, 1) := by decide +kernel
theorem dX10_shore_53 : decode cX10_shore 53 = .ok (.invokevirtual 89, 3) := by decide +kernel
theorem dX10_shore_56 : decode cX10_shore 56 = .ok (.iinc 1 1, 3) := by decide +kernel
theorem dX10_shore_59 : decode cX10_shore 59 = .ok (.goto (-36), 3) := by decide +kernel
theorem dX10_shore_62 : decode cX10_shore 62 = .ok (.aload_n 0, 1) := by decide +kernel
theorem dX10_shore_63 : decode cX10_shore 63 = .ok (.getfield 19, 3) := by decide +kernel
theorem dX10_shore_66 : decode cX10_shore 66 = .ok (.invokevirtual 93, 3) := by decide +kernel
theorem dX10_shore_69 : decode cX10_shore 69 = .ok (.aload_n 0, 1) := by decide +kernel
theorem dX10_shore_70 : decode cX10_shore 70 = .ok (.iconst 0, 1) := by decide +kernel
theorem dX10_shore_71 : decode cX10_shore 71 = .ok (.putfield 58, 3) := by decide +kernel
theorem dX10_shore_74 : decode cX10_shore 74 = .ok (.iconst 0, 1) := by decide +kernel
theorem dX10_shore_75 : decode cX10_shore 75 = .ok (.istore_n 1, 1) := by decide +kernel
theorem dX10_shore_76 : decode cX10_shore 76 = .ok (.iload_n 1, 1) := by decide +kernel
theorem dX10_shore_77 : decode cX10_shore 77 = .ok (.iconst 2, 1) := by decide +kernel
theorem dX10_shore_78 : decode cX10_shore 78 = .ok (.if_icmp .ge 19, 3) := by decide +kernel
theorem dX10_shore_81 : decode cX10_shore 81 = .ok (.aload_n 0, 1) := by decide +kernel
theorem dX10_shore_82 : decode cX10_shore 82 = .ok (.getfield 50, 3) := by decide +kernel
theorem dX10_shore_85 : decode cX10_shore 85 = .ok (.iload_n 1, 1) := by decide +kernel
theorem dX10_shore_86 : decode cX10_shore 86 = .ok (.aaload, 1) := by decide +kernel
theorem dX10_shore_87 : decode cX10_shore 87 = .ok (.iconst 0, 1) := by decide +kernel
theorem dX10_shore_88 : decode cX10_shore 88 = .ok (.putfield 96, 3) := by decide +kernel
theorem dX10_shore_91 : decode cX10_shore 91 = .ok (.iinc 1 1, 3) := by decide +kernel
theorem dX10_shore_94 : decode cX10_shore 94 = .ok (.goto (-18), 3) := by decide +kernel
theorem dX10_shore_97 : decode cX10_shore 97 = .ok (.aload_n 0, 1) := by decide +kernel
theorem dX10_shore_98 : decode cX10_shore 98 = .ok (.getfield 12, 3) := by decide +kernel
theorem dX10_shore_101 : decode cX10_shore 101 = .ok (.invokevirtual 72, 3) := by decide +kernel
theorem dX10_shore_104 : decode cX10_shore 104 = .ok (.pop, 1) := by decide +kernel
theorem dX10_shore_105 : decode cX10_shore 105 = .ok (.aload_n 0, 1) := by decide +kernel
theorem dX10_shore_106 : decode cX10_shore 106 = .ok (.getfield 28, 3) := by decide +kernel
theorem dX10_shore_109 : decode cX10_shore 109 = .ok (.getfield 82, 3) := by decide +kernel
theorem dX10_shore_112 : decode cX10_shore 112 = .ok (.ireturn, 1) := by decide +kernel
theorem dX10_thing_0 : decode cX10_thing 0 = .ok (.aload_n 0, 1) := by decide +kernel
theorem dX10_thing_1 : decode cX10_thing 1 = .ok (.getfield 19, 3) := by decide +kernel
theorem dX10_thing_4 : decode cX10_thing 4 = .ok (.iload_n 1, 1) := by decide +kernel
theorem dX10_thing_5 : decode cX10_thing 5 = .ok (.invokevirtual 100, 3) := by decide +kernel
theorem dX10_thing_8 : decode cX10_thing 8 = .ok (.ifCond .ne 6, 3) := by decide +kernel
theorem dX10_thing_11 : decode cX10_thing 11 = .ok (.bipush (-2), 2) := by decide +kernel
theorem dX10_thing_13 : decode cX10_thing 13 = .ok (.ireturn, 1) := by decide +kernel
theorem dX10_thing_14 : decode cX10_thing 14 = .ok (.aload_n 0, 1) := by decide +kernel
theorem dX10_thing_15 : decode cX10_thing 15 = .ok (.getfield 19, 3) := by decide +kernel
theorem dX10_thing_18 : decode cX10_thing 18 = .ok (.getfield 104, 3) := by decide +kernel
theorem dX10_thing_21 : decode cX10_thing 21 = .ok (.iload_n 1, 1) := by decide +kernel
theorem dX10_thing_22 : decode cX10_thing 22 = .ok (.aaload, 1) := by decide +kernel
theorem dX10_thing_23 : decode cX10_thing 23 = .ok (.astore_n 3, 1) := by decide +kernel
theorem dX10_thing_24 : decode cX10_thing 24 = .ok (.iload_n 2, 1) := by decide +kernel
theorem dX10_thing_25 : decode cX10_thing 25 = .ok (.tableswitch 123 0 7 #[47, 52, 57, 72, 77, 94, 99, 112], 47) := by decide +kernel
theorem dX10_thing_72 : decode cX10_thing 72 = .ok (.aload_n 3, 1) := by decide +kernel
theorem dX10_thing_73 : decode cX10_thing 73 = .ok (.getfield 108, 3) := by decide +kernel
theorem dX10_thing_76 : decode cX10_thing 76 = .ok (.ireturn, 1) := by decide +kernel
theorem dX10_thing_77 : decode cX10_thing 77 = .ok (.aload_n 3, 1) := by decide +kernel
theorem dX10_thing_78 : decode cX10_thing 78 = .ok (.getfield 113, 3) := by decide +kernel
theorem dX10_thing_81 : decode cX10_thing 81 = .ok (.ireturn, 1) := by decide +kernel
theorem dX10_thing_82 : decode cX10_thing 82 = .ok (.aload_n 0, 1) := by decide +kernel
theorem dX10_thing_83 : decode cX10_thing 83 = .ok (.getfield 19, 3) := by decide +kernel
theorem dX10_thing_86 : decode cX10_thing 86 = .ok (.getfield 116, 3) := by decide +kernel
theorem dX10_thing_89 : decode cX10_thing 89 = .ok (.getfield 120, 3) := by decide +kernel
theorem dX10_thing_92 : decode cX10_thing 92 = .ok (.iload_n 1, 1) := by decide +kernel
theorem dX10_thing_93 : decode cX10_thing 93 = .ok (.ishr, 1) := by decide +kernel
theorem dX10_thing_94 : decode cX10_thing 94 = .ok (.iconst 1, 1) := by decide +kernel
theorem dX10_thing_95 : decode cX10_thing 95 = .ok (.iand, 1) := by decide +kernel
theorem dX10_thing_96 : decode cX10_thing 96 = .ok (.ireturn, 1) := by decide +kernel
theorem dX10_thing_97 : decode cX10_thing 97 = .ok (.aload_n 3, 1) := by decide +kernel
theorem dX10_thing_98 : decode cX10_thing 98 = .ok (.getfield 123, 3) := by decide +kernel
theorem dX10_thing_101 : decode cX10_thing 101 = .ok (.ireturn, 1) := by decide +kernel
theorem dX10_thing_102 : decode cX10_thing 102 = .ok (.aload_n 0, 1) := by decide +kernel
theorem dX10_thing_103 : decode cX10_thing 103 = .ok (.getfield 19, 3) := by decide +kernel
theorem dX10_thing_106 : decode cX10_thing 106 = .ok (.iload_n 1, 1) := by decide +kernel
theorem dX10_thing_107 : decode cX10_thing 107 = .ok (.invokevirtual 126, 3) := by decide +kernel
theorem dX10_thing_110 : decode cX10_thing 110 = .ok (.ifCond .eq 7, 3) := by decide +kernel
theorem dX10_thing_113 : decode cX10_thing 113 = .ok (.iconst 1, 1) := by decide +kernel
theorem dX10_thing_114 : decode cX10_thing 114 = .ok (.goto 4, 3) := by decide +kernel
theorem dX10_thing_117 : decode cX10_thing 117 = .ok (.iconst 0, 1) := by decide +kernel
theorem dX10_thing_118 : decode cX10_thing 118 = .ok (.ireturn, 1) := by decide +kernel
theorem dX10_thing_119 : decode cX10_thing 119 = .ok (.aload_n 3, 1) := by decide +kernel
theorem dX10_thing_120 : decode cX10_thing 120 = .ok (.getfield 129, 3) := by decide +kernel
theorem dX10_thing_123 : decode cX10_thing 123 = .ok (.ireturn, 1) := by decide +kernel
theorem dX10_thing_124 : decode cX10_thing 124 = .ok (.aload_n 3, 1) := by decide +kernel
theorem dX10_thing_125 : decode cX10_thing 125 = .ok (.getfield 132, 3) := by decide +kernel
theorem dX10_thing_128 : decode cX10_thing 128 = .ok (.ifCond .eq 7, 3) := by decide +kernel
theorem dX10_thing_131 : decode cX10_thing 131 = .ok (.iconst 1, 1) := by decide +kernel
theorem dX10_thing_132 : decode cX10_thing 132 = .ok (.goto 4, 3) := by decide +kernel
theorem dX10_thing_135 : decode cX10_thing 135 = .ok (.iconst 0, 1) := by decide +kernel
theorem dX10_thing_136 : decode cX10_thing 136 = .ok (.ireturn, 1) := by decide +kernel
theorem dX10_thing_137 : decode cX10_thing 137 = .ok (.aload_n 0, 1) := by decide +kernel
theorem dX10_thing_138 : decode cX10_thing 138 = .ok (.getfield 19, 3) := by decide +kernel
theorem dX10_thing_141 : decode cX10_thing 141 = .ok (.iconst 1, 1) := by decide +kernel
theorem dX10_thing_142 : decode cX10_thing 142 = .ok (.iload_n 1, 1) := by decide +kernel
theorem dX10_thing_143 : decode cX10_thing 143 = .ok (.ishl, 1) := by decide +kernel
theorem dX10_thing_144 : decode cX10_thing 144 = .ok (.invokevirtual 135, 3) := by decide +kernel
theorem dX10_thing_147 : decode cX10_thing 147 = .ok (.ireturn, 1) := by decide +kernel
theorem dX10_thing_148 : decode cX10_thing 148 = .ok (.bipush (-3), 2) := by decide +kernel
theorem dX10_thing_150 : decode cX10_thing 150 = .ok (.ireturn, 1) := by decide +kernel
theorem dX10_ferry_0 : decode cX10_ferry 0 = .ok (.aload_n 0, 1) := by decide +kernel
theorem dX10_ferry_1 : decode cX10_ferry 1 = .ok (.getfield 19, 3) := by decide +kernel
theorem dX10_ferry_4 : decode cX10_ferry 4 = .ok (.iload_n 1, 1) := by decide +kernel
theorem dX10_ferry_5 : decode cX10_ferry 5 = .ok (.invokevirtual 139, 3) := by decide +kernel
theorem dX10_ferry_8 : decode cX10_ferry 8 = .ok (.ifCond .ne 6, 3) := by decide +kernel
theorem dX10_ferry_11 : decode cX10_ferry 11 = .ok (.bipush (-2), 2) := by decide +kernel
theorem dX10_ferry_13 : decode cX10_ferry 13 = .ok (.ireturn, 1) := by decide +kernel
theorem dX10_ferry_14 : decode cX10_ferry 14 = .ok (.aload_n 0, 1) := by decide +kernel
theorem dX10_ferry_15 : decode cX10_ferry 15 = .ok (.getfield 19, 3) := by decide +kernel
theorem dX10_ferry_18 : decode cX10_ferry 18 = .ok (.getfield 142, 3) := by decide +kernel
theorem dX10_ferry_21 : decode cX10_ferry 21 = .ok (.iload_n 1, 1) := by decide +kernel
theorem dX10_ferry_22 : decode cX10_ferry 22 = .ok (.aaload, 1) := by decide +kernel
theorem dX10_ferry_23 : decode cX10_ferry 23 = .ok (.astore_n 3, 1) := by decide +kernel
theorem dX10_ferry_24 : decode cX10_ferry 24 = .ok (.iload_n 2, 1) := by decide +kernel
theorem dX10_ferry_25 : decode cX10_ferry 25 = .ok (.tableswitch 80 0 4 #[35, 40, 55, 70, 75], 35) := by decide +kernel
theorem dX10_ferry_60 : decode cX10_ferry 60 = .ok (.aload_n 3, 1) := by decide +kernel
theorem dX10_ferry_61 : decode cX10_ferry 61 = .ok (.getfield 146, 3) := by decide +kernel
theorem dX10_ferry_64 : decode cX10_ferry 64 = .ok (.ireturn, 1) := by decide +kernel
theorem dX10_ferry_65 : decode cX10_ferry 65 = .ok (.aload_n 3, 1) := by decide +kernel
theorem dX10_ferry_66 : decode cX10_ferry 66 = .ok (.aload_n 0, 1) := by decide +kernel
theorem dX10_ferry_67 : decode cX10_ferry 67 = .ok (.getfield 19, 3) := by decide +kernel
theorem dX10_ferry_70 : decode cX10_ferry 70 = .ok (.getfield 116, 3) := by decide +kernel
theorem dX10_ferry_73 : decode cX10_ferry 73 = .ok (.getfield 149, 3) := by decide +kernel
theorem dX10_ferry_76 : decode cX10_ferry 76 = .ok (.invokevirtual 152, 3) := by decide +kernel
theorem dX10_ferry_79 : decode cX10_ferry 79 = .ok (.ireturn, 1) := by decide +kernel
theorem dX10_ferry_80 : decode cX10_ferry 80 = .ok (.iload_n 1, 1) := by decide +kernel
theorem dX10_ferry_81 : decode cX10_ferry 81 = .ok (.aload_n 0, 1) := by decide +kernel
theorem dX10_ferry_82 : decode cX10_ferry 82 = .ok (.getfield 19, 3) := by decide +kernel
theorem dX10_ferry_85 : decode cX10_ferry 85 = .ok (.getfield 116, 3) := by decide +kernel
theorem dX10_ferry_88 : decode cX10_ferry 88 = .ok (.getfield 120, 3) := by decide +kernel
theorem dX10_ferry_91 : decode cX10_ferry 91 = .ok (.invokestatic 156, 3) := by decide +kernel
theorem dX10_ferry_94 : decode cX10_ferry 94 = .ok (.ireturn, 1) := by decide +kernel
theorem dX10_ferry_95 : decode cX10_ferry 95 = .ok (.aload_n 3, 1) := by decide +kernel
theorem dX10_ferry_96 : decode cX10_ferry 96 = .ok (.getfield 160, 3) := by decide +kernel
theorem dX10_ferry_99 : decode cX10_ferry 99 = .ok (.ireturn, 1) := by decide +kernel
theorem dX10_ferry_100 : decode cX10_ferry 100 = .ok (.aload_n 3, 1) := by decide +kernel
theorem dX10_ferry_101 : decode cX10_ferry 101 = .ok (.getfield 163, 3) := by decide +kernel
theorem dX10_ferry_104 : decode cX10_ferry 104 = .ok (.ireturn, 1) := by decide +kernel
theorem dX10_ferry_105 : decode cX10_ferry 105 = .ok (.bipush (-3), 2) := by decide +kernel
theorem dX10_ferry_107 : decode cX10_ferry 107 = .ok (.ireturn, 1) := by decide +kernel
theorem dX10_as_0 : decode cX10_as 0 = .ok (.aload_n 0, 1) := by decide +kernel
theorem dX10_as_1 : decode cX10_as 1 = .ok (.getfield 19, 3) := by decide +kernel
theorem dX10_as_4 : decode cX10_as 4 = .ok (.iload_n 1, 1) := by decide +kernel
theorem dX10_as_5 : decode cX10_as 5 = .ok (.invokevirtual 100, 3) := by decide +kernel
theorem dX10_as_8 : decode cX10_as 8 = .ok (.ifCond .ne 6, 3) := by decide +kernel
theorem dX10_as_11 : decode cX10_as 11 = .ok (.bipush (-2), 2) := by decide +kernel
theorem dX10_as_13 : decode cX10_as 13 = .ok (.ireturn, 1) := by decide +kernel
theorem dX10_as_14 : decode cX10_as 14 = .ok (.iload_n 2, 1) := by decide +kernel
theorem dX10_as_15 : decode cX10_as 15 = .ok (.ifCond .lt 11, 3) := by decide +kernel
theorem dX10_as_18 : decode cX10_as 18 = .ok (.iload_n 2, 1) := by decide +kernel
theorem dX10_as_19 : decode cX10_as 19 = .ok (.getstatic 166, 3) := by decide +kernel
theorem dX10_as_22 : decode cX10_as 22 = .ok (.arraylength, 1) := by decide +kernel
theorem dX10_as_23 : decode cX10_as 23 = .ok (.if_icmp .lt 6, 3) := by decide +kernel
theorem dX10_as_26 : decode cX10_as 26 = .ok (.bipush (-3), 2) := by decide +kernel
theorem dX10_as_28 : decode cX10_as 28 = .ok (.ireturn, 1) := by decide +kernel
theorem dX10_as_29 : decode cX10_as 29 = .ok (.aload_n 0, 1) := by decide +kernel
theorem dX10_as_30 : decode cX10_as 30 = .ok (.getfield 19, 3) := by decide +kernel
theorem dX10_as_33 : decode cX10_as 33 = .ok (.getfield 104, 3) := by decide +kernel
theorem dX10_as_36 : decode cX10_as 36 = .ok (.iload_n 1, 1) := by decide +kernel
theorem dX10_as_37 : decode cX10_as 37 = .ok (.aaload, 1) := by decide +kernel
theorem dX10_as_38 : decode cX10_as 38 = .ok (.iload_n 2, 1) := by decide +kernel
theorem dX10_as_39 : decode cX10_as 39 = .ok (.invokevirtual 169, 3) := by decide +kernel
theorem dX10_as_42 : decode cX10_as 42 = .ok (.ifCond .eq 16, 3) := by decide +kernel
theorem dX10_as_45 : decode cX10_as 45 = .ok (.aload_n 0, 1) := by decide +kernel
theorem dX10_as_46 : decode cX10_as 46 = .ok (.getfield 19, 3) := by decide +kernel
theorem dX10_as_49 : decode cX10_as 49 = .ok (.iconst 1, 1) := by decide +kernel
theorem dX10_as_50 : decode cX10_as 50 = .ok (.iload_n 1, 1) := by decide +kernel
theorem dX10_as_51 : decode cX10_as 51 = .ok (.ishl, 1) := by decide +kernel
theorem dX10_as_52 : decode cX10_as 52 = .ok (.invokevirtual 135, 3) := by decide +kernel
theorem dX10_as_55 : decode cX10_as 55 = .ok (.goto 5, 3) := by decide +kernel
theorem dX10_as_58 : decode cX10_as 58 = .ok (.bipush (-4), 2) := by decide +kernel
theorem dX10_as_60 : decode cX10_as 60 = .ok (.ireturn, 1) := by decide +kernel
theorem dX10_right_0 : decode cX10_right 0 = .ok (.aload_n 0, 1) := by decide +kernel
theorem dX10_right_1 : decode cX10_right 1 = .ok (.getfield 19, 3) := by decide +kernel
theorem dX10_right_4 : decode cX10_right 4 = .ok (.iload_n 1, 1) := by decide +kernel
theorem dX10_right_5 : decode cX10_right 5 = .ok (.invokevirtual 139, 3) := by decide +kernel
theorem dX10_right_8 : decode cX10_right 8 = .ok (.ifCond .eq 14, 3) := by decide +kernel
theorem dX10_right_11 : decode cX10_right 11 = .ok (.aload_n 0, 1) := by decide +kernel
theorem dX10_right_12 : decode cX10_right 12 = .ok (.getfield 19, 3) := by decide +kernel
theorem dX10_right_15 : decode cX10_right 15 = .ok (.iload_n 2, 1) := by decide +kernel
theorem dX10_right_16 : decode cX10_right 16 = .ok (.invokevirtual 172, 3) := by decide +kernel
theorem dX10_right_19 : decode cX10_right 19 = .ok (.ifCond .ne 6, 3) := by decide +kernel
theorem dX10_right_22 : decode cX10_right 22 = .ok (.bipush (-2), 2) := by decide +kernel
theorem dX10_right_24 : decode cX10_right 24 = .ok (.ireturn, 1) := by decide +kernel
theorem dX10_right_25 : decode cX10_right 25 = .ok (.aload_n 0, 1) := by decide +kernel
theorem dX10_right_26 : decode cX10_right 26 = .ok (.getfield 19, 3) := by decide +kernel
theorem dX10_right_29 : decode cX10_right 29 = .ok (.iload_n 1, 1) := by decide +kernel
theorem dX10_right_30 : decode cX10_right 30 = .ok (.iload_n 2, 1) := by decide +kernel
theorem dX10_right_31 : decode cX10_right 31 = .ok (.aload_n 0, 1) := by decide +kernel
theorem dX10_right_32 : decode cX10_right 32 = .ok (.getfield 19, 3) := by decide +kernel
theorem dX10_right_35 : decode cX10_right 35 = .ok (.getfield 116, 3) := by decide +kernel
theorem dX10_right_38 : decode cX10_right 38 = .ok (.getfield 120, 3) := by decide +kernel
theorem dX10_right_41 : decode cX10_right 41 = .ok (.invokevirtual 175, 3) := by decide +kernel
theorem dX10_right_44 : decode cX10_right 44 = .ok (.ifCond .eq 7, 3) := by decide +kernel
theorem dX10_right_47 : decode cX10_right 47 = .ok (.iconst 1, 1) := by decide +kernel
theorem dX10_right_48 : decode cX10_right 48 = .ok (.goto 4, 3) := by decide +kernel
theorem dX10_right_51 : decode cX10_right 51 = .ok (.iconst 0, 1) := by decide +kernel
theorem dX10_right_52 : decode cX10_right 52 = .ok (.ireturn, 1) := by decide +kernel
theorem dX10_cross_0 : decode cX10_cross 0 = .ok (.aload_n 0, 1) := by decide +kernel
theorem dX10_cross_1 : decode cX10_cross 1 = .ok (.getfield 19, 3) := by decide +kernel
theorem dX10_cross_4 : decode cX10_cross 4 = .ok (.iload_n 1, 1) := by decide +kernel
theorem dX10_cross_5 : decode cX10_cross 5 = .ok (.invokevirtual 139, 3) := by decide +kernel
theorem dX10_cross_8 : decode cX10_cross 8 = .ok (.ifCond .eq 14, 3) := by decide +kernel
theorem dX10_cross_11 : decode cX10_cross 11 = .ok (.aload_n 0, 1) := by decide +kernel
theorem dX10_cross_12 : decode cX10_cross 12 = .ok (.getfield 19, 3) := by decide +kernel
theorem dX10_cross_15 : decode cX10_cross 15 = .ok (.iload_n 2, 1) := by decide +kernel
theorem dX10_cross_16 : decode cX10_cross 16 = .ok (.invokevirtual 172, 3) := by decide +kernel
theorem dX10_cross_19 : decode cX10_cross 19 = .ok (.ifCond .ne 6, 3) := by decide +kernel
theorem dX10_cross_22 : decode cX10_cross 22 = .ok (.bipush (-2), 2) := by decide +kernel
theorem dX10_cross_24 : decode cX10_cross 24 = .ok (.ireturn, 1) := by decide +kernel
theorem dX10_cross_25 : decode cX10_cross 25 = .ok (.aload_n 0, 1) := by decide +kernel
theorem dX10_cross_26 : decode cX10_cross 26 = .ok (.getfield 19, 3) := by decide +kernel
theorem dX10_cross_29 : decode cX10_cross 29 = .ok (.getfield 116, 3) := by decide +kernel
theorem dX10_cross_32 : decode cX10_cross 32 = .ok (.astore_n 3, 1) := by decide +kernel
theorem dX10_cross_33 : decode cX10_cross 33 = .ok (.aload_n 0, 1) := by decide +kernel
theorem dX10_cross_34 : decode cX10_cross 34 = .ok (.getfield 19, 3) := by decide +kernel
theorem dX10_cross_37 : decode cX10_cross 37 = .ok (.iload_n 1, 1) := by decide +kernel
theorem dX10_cross_38 : decode cX10_cross 38 = .ok (.iload_n 2, 1) := by decide +kernel
theorem dX10_cross_39 : decode cX10_cross 39 = .ok (.aload_n 3, 1) := by decide +kernel
theorem dX10_cross_40 : decode cX10_cross 40 = .ok (.getfield 120, 3) := by decide +kernel
theorem dX10_cross_43 : decode cX10_cross 43 = .ok (.invokevirtual 175, 3) := by decide +kernel
theorem dX10_cross_46 : decode cX10_cross 46 = .ok (.ifCond .ne 6, 3) := by decide +kernel
theorem dX10_cross_49 : decode cX10_cross 49 = .ok (.bipush (-4), 2) := by decide +kernel
theorem dX10_cross_51 : decode cX10_cross 51 = .ok (.ireturn, 1) := by decide +kernel
theorem dX10_cross_52 : decode cX10_cross 52 = .ok (.aload_n 3, 1) := by decide +kernel
theorem dX10_cross_53 : decode cX10_cross 53 = .ok (.aload_n 3, 1) := by decide +kernel
theorem dX10_cross_54 : decode cX10_cross 54 = .ok (.getfield 120, 3) := by decide +kernel
theorem dX10_cross_57 : decode cX10_cross 57 = .ok (.iload_n 1, 1) := by decide +kernel
theorem dX10_cross_58 : decode cX10_cross 58 = .ok (.iload_n 2, 1) := by decide +kernel
theorem dX10_cross_59 : decode cX10_cross 59 = .ok (.invokestatic 179, 3) := by decide +kernel
theorem dX10_cross_62 : decode cX10_cross 62 = .ok (.invokestatic 182, 3) := by decide +kernel
theorem dX10_cross_65 : decode cX10_cross 65 = .ok (.putfield 120, 3) := by decide +kernel
theorem dX10_cross_68 : decode cX10_cross 68 = .ok (.aload_n 3, 1) := by decide +kernel
theorem dX10_cross_69 : decode cX10_cross 69 = .ok (.dup, 1) := by decide +kernel
theorem dX10_cross_70 : decode cX10_cross 70 = .ok (.getfield 185, 3) := by decide +kernel
theorem dX10_cross_73 : decode cX10_cross 73 = .ok (.iconst 1, 1) := by decide +kernel
theorem dX10_cross_74 : decode cX10_cross 74 = .ok (.iadd, 1) := by decide +kernel
theorem dX10_cross_75 : decode cX10_cross 75 = .ok (.putfield 185, 3) := by decide +kernel
theorem dX10_cross_78 : decode cX10_cross 78 = .ok (.aload_n 3, 1) := by decide +kernel
theorem dX10_cross_79 : decode cX10_cross 79 = .ok (.getfield 185, 3) := by decide +kernel
theorem dX10_cross_82 : decode cX10_cross 82 = .ok (.ireturn, 1) := by decide +kernel
theorem dX10_doff_0 : decode cX10_doff 0 = .ok (.aload_n 0, 1) := by decide +kernel
theorem dX10_doff_1 : decode cX10_doff 1 = .ok (.getfield 19, 3) := by decide +kernel
theorem dX10_doff_4 : decode cX10_doff 4 = .ok (.iload_n 1, 1) := by decide +kernel
theorem dX10_doff_5 : decode cX10_doff 5 = .ok (.invokevirtual 100, 3) := by decide +kernel
theorem dX10_doff_8 : decode cX10_doff 8 = .ok (.ifCond .ne 6, 3) := by decide +kernel
theorem dX10_doff_11 : decode cX10_doff 11 = .ok (.bipush (-2), 2) := by decide +kernel
theorem dX10_doff_13 : decode cX10_doff 13 = .ok (.ireturn, 1) := by decide +kernel
theorem dX10_doff_14 : decode cX10_doff 14 = .ok (.aload_n 0, 1) := by decide +kernel
theorem dX10_doff_15 : decode cX10_doff 15 = .ok (.getfield 19, 3) := by decide +kernel
theorem dX10_doff_18 : decode cX10_doff 18 = .ok (.getfield 104, 3) := by decide +kernel
theorem dX10_doff_21 : decode cX10_doff 21 = .ok (.iload_n 1, 1) := by decide +kernel
theorem dX10_doff_22 : decode cX10_doff 22 = .ok (.aaload, 1) := by decide +kernel
theorem dX10_doff_23 : decode cX10_doff 23 = .ok (.invokevirtual 188, 3) := by decide +kernel
theorem dX10_doff_26 : decode cX10_doff 26 = .ok (.ifCond .ne 6, 3) := by decide +kernel
theorem dX10_doff_29 : decode cX10_doff 29 = .ok (.bipush (-4), 2) := by decide +kernel
theorem dX10_doff_31 : decode cX10_doff 31 = .ok (.ireturn, 1) := by decide +kernel
theorem dX10_doff_32 : decode cX10_doff 32 = .ok (.aload_n 0, 1) := by decide +kernel
theorem dX10_doff_33 : decode cX10_doff 33 = .ok (.getfield 19, 3) := by decide +kernel
theorem dX10_doff_36 : decode cX10_doff 36 = .ok (.iload_n 1, 1) := by decide +kernel
theorem dX10_doff_37 : decode cX10_doff 37 = .ok (.invokevirtual 192, 3) := by decide +kernel
theorem dX10_doff_40 : decode cX10_doff 40 = .ok (.aload_n 0, 1) := by decide +kernel
theorem dX10_doff_41 : decode cX10_doff 41 = .ok (.getfield 19, 3) := by decide +kernel
theorem dX10_doff_44 : decode cX10_doff 44 = .ok (.iconst 1, 1) := by decide +kernel
theorem dX10_doff_45 : decode cX10_doff 45 = .ok (.iload_n 1, 1) := by decide +kernel
theorem dX10_doff_46 : decode cX10_doff 46 = .ok (.ishl, 1) := by decide +kernel
theorem dX10_doff_47 : decode cX10_doff 47 = .ok (.invokevirtual 135, 3) := by decide +kernel
theorem dX10_doff_50 : decode cX10_doff 50 = .ok (.ireturn, 1) := by decide +kernel
theorem dX10_noon_0 : decode cX10_noon 0 = .ok (.aload_n 0, 1) := by decide +kernel
theorem dX10_noon_1 : decode cX10_noon 1 = .ok (.getfield 19, 3) := by decide +kernel
theorem dX10_noon_4 : decode cX10_noon 4 = .ok (.getfield 116, 3) := by decide +kernel
theorem dX10_noon_7 : decode cX10_noon 7 = .ok (.aload_n 0, 1) := by decide +kernel
theorem dX10_noon_8 : decode cX10_noon 8 = .ok (.getfield 19, 3) := by decide +kernel
theorem dX10_noon_11 : decode cX10_noon 11 = .ok (.getfield 116, 3) := by decide +kernel
theorem dX10_noon_14 : decode cX10_noon 14 = .ok (.getfield 149, 3) := by decide +kernel
theorem dX10_noon_17 : decode cX10_noon 17 = .ok (.ifCond .ne 7, 3) := by decide +kernel
theorem dX10_noon_20 : decode cX10_noon 20 = .ok (.iconst 1, 1) := by decide +kernel
theorem dX10_noon_21 : decode cX10_noon 21 = .ok (.goto 4, 3) := by decide +kernel
theorem dX10_noon_24 : decode cX10_noon 24 = .ok (.iconst 0, 1) := by decide +kernel
theorem dX10_noon_25 : decode cX10_noon 25 = .ok (.putfield 149, 3) := by decide +kernel
theorem dX10_noon_28 : decode cX10_noon 28 = .ok (.aload_n 0, 1) := by decide +kernel
theorem dX10_noon_29 : decode cX10_noon 29 = .ok (.getfield 19, 3) := by decide +kernel
theorem dX10_noon_32 : decode cX10_noon 32 = .ok (.getfield 116, 3) := by decide +kernel
theorem dX10_noon_35 : decode cX10_noon 35 = .ok (.getfield 149, 3) := by decide +kernel
theorem dX10_noon_38 : decode cX10_noon 38 = .ok (.ifCond .eq 7, 3) := by decide +kernel
theorem dX10_noon_41 : decode cX10_noon 41 = .ok (.iconst 1, 1) := by decide +kernel
theorem dX10_noon_42 : decode cX10_noon 42 = .ok (.goto 4, 3) := by decide +kernel
theorem dX10_noon_45 : decode cX10_noon 45 = .ok (.iconst 0, 1) := by decide +kernel
theorem dX10_noon_46 : decode cX10_noon 46 = .ok (.ireturn, 1) := by decide +kernel
theorem dX10_keep_0 : decode cX10_keep 0 = .ok (.iload_n 1, 1) := by decide +kernel
theorem dX10_keep_1 : decode cX10_keep 1 = .ok (.ifCond .lt 8, 3) := by decide +kernel
theorem dX10_keep_4 : decode cX10_keep 4 = .ok (.iload_n 1, 1) := by decide +kernel
theorem dX10_keep_5 : decode cX10_keep 5 = .ok (.iconst 2, 1) := by decide +kernel
theorem dX10_keep_6 : decode cX10_keep 6 = .ok (.if_icmp .lt 6, 3) := by decide +kernel
theorem dX10_keep_9 : decode cX10_keep 9 = .ok (.bipush (-2), 2) := by decide +kernel
theorem dX10_keep_11 : decode cX10_keep 11 = .ok (.ireturn, 1) := by decide +kernel
theorem dX10_keep_12 : decode cX10_keep 12 = .ok (.aload_n 0, 1) := by decide +kernel
theorem dX10_keep_13 : decode cX10_keep 13 = .ok (.getfield 50, 3) := by decide +kernel
theorem dX10_keep_16 : decode cX10_keep 16 = .ok (.iload_n 1, 1) := by decide +kernel
theorem dX10_keep_17 : decode cX10_keep 17 = .ok (.aaload, 1) := by decide +kernel
theorem dX10_keep_18 : decode cX10_keep 18 = .ok (.aload_n 0, 1) := by decide +kernel
theorem dX10_keep_19 : decode cX10_keep 19 = .ok (.getfield 19, 3) := by decide +kernel
theorem dX10_keep_22 : decode cX10_keep 22 = .ok (.getfield 116, 3) := by decide +kernel
theorem dX10_keep_25 : decode cX10_keep 25 = .ok (.invokevirtual 195, 3) := by decide +kernel
theorem dX10_keep_28 : decode cX10_keep 28 = .ok (.aload_n 0, 1) := by decide +kernel
theorem dX10_keep_29 : decode cX10_keep 29 = .ok (.getfield 50, 3) := by decide +kernel
theorem dX10_keep_32 : decode cX10_keep 32 = .ok (.iload_n 1, 1) := by decide +kernel
theorem dX10_keep_33 : decode cX10_keep 33 = .ok (.aaload, 1) := by decide +kernel
theorem dX10_keep_34 : decode cX10_keep 34 = .ok (.iconst 1, 1) := by decide +kernel
theorem dX10_keep_35 : decode cX10_keep 35 = .ok (.putfield 96, 3) := by decide +kernel
theorem dX10_keep_38 : decode cX10_keep 38 = .ok (.aload_n 0, 1) := by decide +kernel
theorem dX10_keep_39 : decode cX10_keep 39 = .ok (.getfield 19, 3) := by decide +kernel
theorem dX10_keep_42 : decode cX10_keep 42 = .ok (.getfield 116, 3) := by decide +kernel
theorem dX10_keep_45 : decode cX10_keep 45 = .ok (.getfield 185, 3) := by decide +kernel
theorem dX10_keep_48 : decode cX10_keep 48 = .ok (.ireturn, 1) := by decide +kernel
theorem dX10_back_0 : decode cX10_back 0 = .ok (.iload_n 1, 1) := by decide +kernel
theorem dX10_back_1 : decode cX10_back 1 = .ok (.ifCond .lt 8, 3) := by decide +kernel
theorem dX10_back_4 : decode cX10_back 4 = .ok (.iload_n 1, 1) := by decide +kernel
theorem dX10_back_5 : decode cX10_back 5 = .ok (.iconst 2, 1) := by decide +kernel
theorem dX10_back_6 : decode cX10_back 6 = .ok (.if_icmp .lt 6, 3) := by decide +kernel
theorem dX10_back_9 : decode cX10_back 9 = .ok (.bipush (-2), 2) := by decide +kernel
theorem dX10_back_11 : decode cX10_back 11 = .ok (.ireturn, 1) := by decide +kernel
theorem dX10_back_12 : decode cX10_back 12 = .ok (.aload_n 0, 1) := by decide +kernel
theorem dX10_back_13 : decode cX10_back 13 = .ok (.getfield 50, 3) := by decide +kernel
theorem dX10_back_16 : decode cX10_back 16 = .ok (.iload_n 1, 1) := by decide +kernel
theorem dX10_back_17 : decode cX10_back 17 = .ok (.aaload, 1) := by decide +kernel
theorem dX10_back_18 : decode cX10_back 18 = .ok (.getfield 96, 3) := by decide +kernel
theorem dX10_back_21 : decode cX10_back 21 = .ok (.ifCond .ne 6, 3) := by decide +kernel
theorem dX10_back_24 : decode cX10_back 24 = .ok (.bipush (-4), 2) := by decide +kernel
theorem dX10_back_26 : decode cX10_back 26 = .ok (.ireturn, 1) := by decide +kernel
theorem dX10_back_27 : decode cX10_back 27 = .ok (.aload_n 0, 1) := by decide +kernel
theorem dX10_back_28 : decode cX10_back 28 = .ok (.getfield 19, 3) := by decide +kernel
theorem dX10_back_31 : decode cX10_back 31 = .ok (.aload_n 0, 1) := by decide +kernel
theorem dX10_back_32 : decode cX10_back 32 = .ok (.getfield 50, 3) := by decide +kernel
theorem dX10_back_35 : decode cX10_back 35 = .ok (.iload_n 1, 1) := by decide +kernel
theorem dX10_back_36 : decode cX10_back 36 = .ok (.aaload, 1) := by decide +kernel
theorem dX10_back_37 : decode cX10_back 37 = .ok (.invokevirtual 199, 3) := by decide +kernel
theorem dX10_back_40 : decode cX10_back 40 = .ok (.aload_n 0, 1) := by decide +kernel
theorem dX10_back_41 : decode cX10_back 41 = .ok (.getfield 19, 3) := by decide +kernel
theorem dX10_back_44 : decode cX10_back 44 = .ok (.getfield 116, 3) := by decide +kernel
theorem dX10_back_47 : decode cX10_back 47 = .ok (.getfield 185, 3) := by decide +kernel
theorem dX10_back_50 : decode cX10_back 50 = .ok (.ireturn, 1) := by decide +kernel
theorem dX10_loads_0 : decode cX10_loads 0 = .ok (.aload_n 0, 1) := by decide +kernel
theorem dX10_loads_1 : decode cX10_loads 1 = .ok (.getfield 19, 3) := by decide +kernel
theorem dX10_loads_4 : decode cX10_loads 4 = .ok (.iload_n 1, 1) := by decide +kernel
theorem dX10_loads_5 : decode cX10_loads 5 = .ok (.invokevirtual 139, 3) := by decide +kernel
theorem dX10_loads_8 : decode cX10_loads 8 = .ok (.ifCond .ne 6, 3) := by decide +kernel
theorem dX10_loads_11 : decode cX10_loads 11 = .ok (.bipush (-2), 2) := by decide +kernel
theorem dX10_loads_13 : decode cX10_loads 13 = .ok (.ireturn, 1) := by decide +kernel
theorem dX10_loads_14 : decode cX10_loads 14 = .ok (.iload_n 2, 1) := by decide +kernel
theorem dX10_loads_15 : decode cX10_loads 15 = .ok (.ifCond .lt 8, 3) := by decide +kernel
theorem dX10_loads_18 : decode cX10_loads 18 = .ok (.iload_n 2, 1) := by decide +kernel
theorem dX10_loads_19 : decode cX10_loads 19 = .ok (.iconst 3, 1) := by decide +kernel
theorem dX10_loads_20 : decode cX10_loads 20 = .ok (.if_icmp .le 6, 3) := by decide +kernel
theorem dX10_loads_23 : decode cX10_loads 23 = .ok (.bipush (-3), 2) := by decide +kernel
theorem dX10_loads_25 : decode cX10_loads 25 = .ok (.ireturn, 1) := by decide +kernel
theorem dX10_loads_26 : decode cX10_loads 26 = .ok (.aload_n 0, 1) := by decide +kernel
theorem dX10_loads_27 : decode cX10_loads 27 = .ok (.getfield 37, 3) := by decide +kernel
theorem dX10_loads_30 : decode cX10_loads 30 = .ok (.iload_n 1, 1) := by decide +kernel
theorem dX10_loads_31 : decode cX10_loads 31 = .ok (.iconst 0, 1) := by decide +kernel
theorem dX10_loads_32 : decode cX10_loads 32 = .ok (.iconst 0, 1) := by decide +kernel
theorem dX10_loads_33 : decode cX10_loads 33 = .ok (.invokevirtual 202, 3) := by decide +kernel
theorem dX10_loads_36 : decode cX10_loads 36 = .ok (.iload_n 2, 1) := by decide +kernel
theorem dX10_loads_37 : decode cX10_loads 37 = .ok (.tableswitch 51 0 2 #[27, 35, 43], 27) := by decide +kernel
theorem dX10_loads_64 : decode cX10_loads 64 = .ok (.aload_n 0, 1) := by decide +kernel
theorem dX10_loads_65 : decode cX10_loads 65 = .ok (.getfield 37, 3) := by decide +kernel
theorem dX10_loads_68 : decode cX10_loads 68 = .ok (.getfield 206, 3) := by decide +kernel
theorem dX10_loads_71 : decode cX10_loads 71 = .ok (.ireturn, 1) := by decide +kernel
theorem dX10_loads_72 : decode cX10_loads 72 = .ok (.aload_n 0, 1) := by decide +kernel
theorem dX10_loads_73 : decode cX10_loads 73 = .ok (.getfield 37, 3) := by decide +kernel
theorem dX10_loads_76 : decode cX10_loads 76 = .ok (.getfield 209, 3) := by decide +kernel
theorem dX10_loads_79 : decode cX10_loads 79 = .ok (.ireturn, 1) := by decide +kernel
theorem dX10_loads_80 : decode cX10_loads 80 = .ok (.aload_n 0, 1) := by decide +kernel
theorem dX10_loads_81 : decode cX10_loads 81 = .ok (.getfield 37, 3) := by decide +kernel
theorem dX10_loads_84 : decode cX10_loads 84 = .ok (.getfield 212, 3) := by decide +kernel
theorem dX10_loads_87 : decode cX10_loads 87 = .ok (.ireturn, 1) := by decide +kernel
theorem dX10_loads_88 : decode cX10_loads 88 = .ok (.aload_n 0, 1) := by decide +kernel
theorem dX10_loads_89 : decode cX10_loads 89 = .ok (.getfield 37, 3) := by decide +kernel
theorem dX10_loads_92 : decode cX10_loads 92 = .ok (.getfield 215, 3) := by decide +kernel
theorem dX10_loads_95 : decode cX10_loads 95 = .ok (.ireturn, 1) := by decide +kernel
theorem dX10_weighed_0 : decode cX10_weighed 0 = .ok (.iload_n 1, 1) := by decide +kernel
theorem dX10_weighed_1 : decode cX10_weighed 1 = .ok (.invokestatic 218, 3) := by decide +kernel
theorem dX10_weighed_4 : decode cX10_weighed 4 = .ok (.ifCond .ne 6, 3) := by decide +kernel
theorem dX10_weighed_7 : decode cX10_weighed 7 = .ok (.bipush (-2), 2) := by decide +kernel
theorem dX10_weighed_9 : decode cX10_weighed 9 = .ok (.ireturn, 1) := by decide +kernel
theorem dX10_weighed_10 : decode cX10_weighed 10 = .ok (.iload_n 2, 1) := by decide +kernel
theorem dX10_weighed_11 : decode cX10_weighed 11 = .ok (.iconst 1, 1) := by decide +kernel
theorem dX10_weighed_12 : decode cX10_weighed 12 = .ok (.if_icmp .lt 10, 3) := by decide +kernel
theorem dX10_weighed_15 : decode cX10_weighed 15 = .ok (.iload_n 2, 1) := by decide +kernel
theorem dX10_weighed_16 : decode cX10_weighed 16 = .ok (.sipush 999, 3) := by decide +kernel
theorem dX10_weighed_19 : decode cX10_weighed 19 = .ok (.if_icmp .le 6, 3) := by decide +kernel
theorem dX10_weighed_22 : decode cX10_weighed 22 = .ok (.bipush (-3), 2) := by decide +kernel
theorem dX10_weighed_24 : decode cX10_weighed 24 = .ok (.ireturn, 1) := by decide +kernel
theorem dX10_weighed_25 : decode cX10_weighed 25 = .ok (.iconst 0, 1) := by decide +kernel
theorem dX10_weighed_26 : decode cX10_weighed 26 = .ok (.istore_n 3, 1) := by decide +kernel
theorem dX10_weighed_27 : decode cX10_weighed 27 = .ok (.iconst 1, 1) := by decide +kernel
theorem dX10_weighed_28 : decode cX10_weighed 28 = .ok (.istore 4, 2) := by decide +kernel
theorem dX10_weighed_30 : decode cX10_weighed 30 = .ok (.iload 4, 2) := by decide +kernel
theorem dX10_weighed_32 : decode cX10_weighed 32 = .ok (.iconst 1, 1) := by decide +kernel
theorem dX10_weighed_33 : decode cX10_weighed 33 = .ok (.aload_n 0, 1) := by decide +kernel
theorem dX10_weighed_34 : decode cX10_weighed 34 = .ok (.getfield 19, 3) := by decide +kernel
theorem dX10_weighed_37 : decode cX10_weighed 37 = .ok (.getfield 221, 3) := by decide +kernel
theorem dX10_weighed_40 : decode cX10_weighed 40 = .ok (.ishl, 1) := by decide +kernel
theorem dX10_weighed_41 : decode cX10_weighed 41 = .ok (.if_icmp .ge 44, 3) := by decide +kernel
theorem dX10_weighed_44 : decode cX10_weighed 44 = .ok (.iload_n 1, 1) := by decide +kernel
theorem dX10_weighed_45 : decode cX10_weighed 45 = .ok (.iload 4, 2) := by decide +kernel
theorem dX10_weighed_47 : decode cX10_weighed 47 = .ok (.aload_n 0, 1) := by decide +kernel
theorem dX10_weighed_48 : decode cX10_weighed 48 = .ok (.getfield 19, 3) := by decide +kernel
theorem dX10_weighed_51 : decode cX10_weighed 51 = .ok (.getfield 116, 3) := by decide +kernel
theorem dX10_weighed_54 : decode cX10_weighed 54 = .ok (.getfield 120, 3) := by decide +kernel
theorem dX10_weighed_57 : decode cX10_weighed 57 = .ok (.invokestatic 224, 3) := by decide +kernel
theorem dX10_weighed_60 : decode cX10_weighed 60 = .ok (.ifCond .eq 19, 3) := by decide +kernel
theorem dX10_weighed_63 : decode cX10_weighed 63 = .ok (.aload_n 0, 1) := by decide +kernel
theorem dX10_weighed_64 : decode cX10_weighed 64 = .ok (.getfield 19, 3) := by decide +kernel
theorem dX10_weighed_67 : decode cX10_weighed 67 = .ok (.iload 4, 2) := by decide +kernel
theorem dX10_weighed_69 : decode cX10_weighed 69 = .ok (.invokevirtual 135, 3) := by decide +kernel
theorem dX10_weighed_72 : decode cX10_weighed 72 = .ok (.iload_n 2, 1) := by decide +kernel
theorem dX10_weighed_73 : decode cX10_weighed 73 = .ok (.if_icmp .ne 6, 3) := by decide +kernel
theorem dX10_weighed_76 : decode cX10_weighed 76 = .ok (.iinc 3 1, 3) := by decide +kernel
theorem dX10_weighed_79 : decode cX10_weighed 79 = .ok (.iinc 4 1, 3) := by decide +kernel
theorem dX10_weighed_82 : decode cX10_weighed 82 = .ok (.goto (-52), 3) := by decide +kernel
theorem dX10_weighed_85 : decode cX10_weighed 85 = .ok (.iload_n 3, 1) := by decide +kernel
theorem dX10_weighed_86 : decode cX10_weighed 86 = .ok (.ireturn, 1) := by decide +kernel
theorem dX10_hats_0 : decode cX10_hats 0 = .ok (.aload_n 0, 1) := by decide +kernel
theorem dX10_hats_1 : decode cX10_hats 1 = .ok (.getfield 19, 3) := by decide +kernel
theorem dX10_hats_4 : decode cX10_hats 4 = .ok (.iload_n 1, 1) := by decide +kernel
theorem dX10_hats_5 : decode cX10_hats 5 = .ok (.invokevirtual 139, 3) := by decide +kernel
theorem dX10_hats_8 : decode cX10_hats 8 = .ok (.ifCond .eq 14, 3) := by decide +kernel
theorem dX10_hats_11 : decode cX10_hats 11 = .ok (.aload_n 0, 1) := by decide +kernel
theorem dX10_hats_12 : decode cX10_hats 12 = .ok (.getfield 19, 3) := by decide +kernel
theorem dX10_hats_15 : decode cX10_hats 15 = .ok (.iload_n 2, 1) := by decide +kernel
theorem dX10_hats_16 : decode cX10_hats 16 = .ok (.invokevirtual 172, 3) := by decide +kernel
theorem dX10_hats_19 : decode cX10_hats 19 = .ok (.ifCond .ne 6, 3) := by decide +kernel
theorem dX10_hats_22 : decode cX10_hats 22 = .ok (.bipush (-2), 2) := by decide +kernel
theorem dX10_hats_24 : decode cX10_hats 24 = .ok (.ireturn, 1) := by decide +kernel
theorem dX10_hats_25 : decode cX10_hats 25 = .ok (.iload_n 3, 1) := by decide +kernel
theorem dX10_hats_26 : decode cX10_hats 26 = .ok (.ifCond .lt 8, 3) := by decide +kernel
theorem dX10_hats_29 : decode cX10_hats 29 = .ok (.iload_n 3, 1) := by decide +kernel
theorem dX10_hats_30 : decode cX10_hats 30 = .ok (.iconst 1, 1) := by decide +kernel
theorem dX10_hats_31 : decode cX10_hats 31 = .ok (.if_icmp .le 6, 3) := by decide +kernel
theorem dX10_hats_34 : decode cX10_hats 34 = .ok (.bipush (-3), 2) := by decide +kernel
theorem dX10_hats_36 : decode cX10_hats 36 = .ok (.ireturn, 1) := by decide +kernel
theorem dX10_hats_37 : decode cX10_hats 37 = .ok (.aload_n 0, 1) := by decide +kernel
theorem dX10_hats_38 : decode cX10_hats 38 = .ok (.getfield 19, 3) := by decide +kernel
theorem dX10_hats_41 : decode cX10_hats 41 = .ok (.iload_n 1, 1) := by decide +kernel
theorem dX10_hats_42 : decode cX10_hats 42 = .ok (.iload_n 2, 1) := by decide +kernel
theorem dX10_hats_43 : decode cX10_hats 43 = .ok (.invokevirtual 227, 3) := by decide +kernel
theorem dX10_hats_46 : decode cX10_hats 46 = .ok (.istore 4, 2) := by decide +kernel
theorem dX10_hats_48 : decode cX10_hats 48 = .ok (.iload 4, 2) := by decide +kernel
theorem dX10_hats_50 : decode cX10_hats 50 = .ok (.iconst (-1), 1) := by decide +kernel
theorem dX10_hats_51 : decode cX10_hats 51 = .ok (.if_icmp .eq 8, 3) := by decide +kernel
theorem dX10_hats_54 : decode cX10_hats 54 = .ok (.iload_n 3, 1) := by decide +kernel
theorem dX10_hats_55 : decode cX10_hats 55 = .ok (.iconst 1, 1) := by decide +kernel
theorem dX10_hats_56 : decode cX10_hats 56 = .ok (.if_icmp .ne 6, 3) := by decide +kernel
theorem dX10_hats_59 : decode cX10_hats 59 = .ok (.iload 4, 2) := by decide +kernel
theorem dX10_hats_61 : decode cX10_hats 61 = .ok (.ireturn, 1) := by decide +kernel
theorem dX10_hats_62 : decode cX10_hats 62 = .ok (.iload 4, 2) := by decide +kernel
theorem dX10_hats_64 : decode cX10_hats 64 = .ok (.invokestatic 230, 3) := by decide +kernel
theorem dX10_hats_67 : decode cX10_hats 67 = .ok (.ireturn, 1) := by decide +kernel
theorem dX10_stones_0 : decode cX10_stones 0 = .ok (.aload_n 0, 1) := by decide +kernel
theorem dX10_stones_1 : decode cX10_stones 1 = .ok (.getfield 19, 3) := by decide +kernel
theorem dX10_stones_4 : decode cX10_stones 4 = .ok (.iload_n 1, 1) := by decide +kernel
theorem dX10_stones_5 : decode cX10_stones 5 = .ok (.invokevirtual 139, 3) := by decide +kernel
theorem dX10_stones_8 : decode cX10_stones 8 = .ok (.ifCond .eq 14, 3) := by decide +kernel
theorem dX10_stones_11 : decode cX10_stones 11 = .ok (.aload_n 0, 1) := by decide +kernel
theorem dX10_stones_12 : decode cX10_stones 12 = .ok (.getfield 19, 3) := by decide +kernel
theorem dX10_stones_15 : decode cX10_stones 15 = .ok (.iload_n 2, 1) := by decide +kernel
theorem dX10_stones_16 : decode cX10_stones 16 = .ok (.invokevirtual 172, 3) := by decide +kernel
theorem dX10_stones_19 : decode cX10_stones 19 = .ok (.ifCond .ne 6, 3) := by decide +kernel
theorem dX10_stones_22 : decode cX10_stones 22 = .ok (.bipush (-2), 2) := by decide +kernel
theorem dX10_stones_24 : decode cX10_stones 24 = .ok (.ireturn, 1) := by decide +kernel
theorem dX10_stones_25 : decode cX10_stones 25 = .ok (.iload_n 3, 1) := by decide +kernel
theorem dX10_stones_26 : decode cX10_stones 26 = .ok (.iconst 1, 1) := by decide +kernel
theorem dX10_stones_27 : decode cX10_stones 27 = .ok (.if_icmp .lt 9, 3) := by decide +kernel
theorem dX10_stones_30 : decode cX10_stones 30 = .ok (.iload_n 3, 1) := by decide +kernel
theorem dX10_stones_31 : decode cX10_stones 31 = .ok (.bipush 99, 2) := by decide +kernel
theorem dX10_stones_33 : decode cX10_stones 33 = .ok (.if_icmp .le 6, 3) := by decide +kernel
theorem dX10_stones_36 : decode cX10_stones 36 = .ok (.bipush (-3), 2) := by decide +kernel
theorem dX10_stones_38 : decode cX10_stones 38 = .ok (.ireturn, 1) := by decide +kernel
theorem dX10_stones_39 : decode cX10_stones 39 = .ok (.aload_n 0, 1) := by decide +kernel
theorem dX10_stones_40 : decode cX10_stones 40 = .ok (.getfield 19, 3) := by decide +kernel
theorem dX10_stones_43 : decode cX10_stones 43 = .ok (.iload_n 1, 1) := by decide +kernel
theorem dX10_stones_44 : decode cX10_stones 44 = .ok (.iload_n 2, 1) := by decide +kernel
theorem dX10_stones_45 : decode cX10_stones 45 = .ok (.iload_n 3, 1) := by decide +kernel
theorem dX10_stones_46 : decode cX10_stones 46 = .ok (.invokevirtual 235, 3) := by decide +kernel
theorem dX10_stones_49 : decode cX10_stones 49 = .ok (.ireturn, 1) := by decide +kernel
theorem dX10_sure_0 : decode cX10_sure 0 = .ok (.aload_n 0, 1) := by decide +kernel
theorem dX10_sure_1 : decode cX10_sure 1 = .ok (.getfield 19, 3) := by decide +kernel
theorem dX10_sure_4 : decode cX10_sure 4 = .ok (.iload_n 1, 1) := by decide +kernel
theorem dX10_sure_5 : decode cX10_sure 5 = .ok (.invokevirtual 139, 3) := by decide +kernel
theorem dX10_sure_8 : decode cX10_sure 8 = .ok (.ifCond .ne 6, 3) := by decide +kernel
theorem dX10_sure_11 : decode cX10_sure 11 = .ok (.bipush (-2), 2) := by decide +kernel
theorem dX10_sure_13 : decode cX10_sure 13 = .ok (.ireturn, 1) := by decide +kernel
theorem dX10_sure_14 : decode cX10_sure 14 = .ok (.aload_n 0, 1) := by decide +kernel
theorem dX10_sure_15 : decode cX10_sure 15 = .ok (.getfield 37, 3) := by decide +kernel
theorem dX10_sure_18 : decode cX10_sure 18 = .ok (.iload_n 1, 1) := by decide +kernel
theorem dX10_sure_19 : decode cX10_sure 19 = .ok (.iconst 0, 1) := by decide +kernel
theorem dX10_sure_20 : decode cX10_sure 20 = .ok (.iconst 0, 1) := by decide +kernel
theorem dX10_sure_21 : decode cX10_sure 21 = .ok (.invokevirtual 202, 3) := by decide +kernel
theorem dX10_sure_24 : decode cX10_sure 24 = .ok (.aload_n 0, 1) := by decide +kernel
theorem dX10_sure_25 : decode cX10_sure 25 = .ok (.getfield 37, 3) := by decide +kernel
theorem dX10_sure_28 : decode cX10_sure 28 = .ok (.getfield 239, 3) := by decide +kernel
theorem dX10_sure_31 : decode cX10_sure 31 = .ok (.ireturn, 1) := by decide +kernel
theorem dX10_aboard_0 : decode cX10_aboard 0 = .ok (.aload_n 0, 1) := by decide +kernel
theorem dX10_aboard_1 : decode cX10_aboard 1 = .ok (.getfield 19, 3) := by decide +kernel
theorem dX10_aboard_4 : decode cX10_aboard 4 = .ok (.iload_n 1, 1) := by decide +kernel
theorem dX10_aboard_5 : decode cX10_aboard 5 = .ok (.invokevirtual 139, 3) := by decide +kernel
theorem dX10_aboard_8 : decode cX10_aboard 8 = .ok (.ifCond .eq 25, 3) := by decide +kernel
theorem dX10_aboard_11 : decode cX10_aboard 11 = .ok (.aload_n 0, 1) := by decide +kernel
theorem dX10_aboard_12 : decode cX10_aboard 12 = .ok (.getfield 19, 3) := by decide +kernel
theorem dX10_aboard_15 : decode cX10_aboard 15 = .ok (.iload_n 2, 1) := by decide +kernel
theorem dX10_aboard_16 : decode cX10_aboard 16 = .ok (.invokevirtual 172, 3) := by decide +kernel
theorem dX10_aboard_19 : decode cX10_aboard 19 = .ok (.ifCond .eq 14, 3) := by decide +kernel
theorem dX10_aboard_22 : decode cX10_aboard 22 = .ok (.aload_n 0, 1) := by decide +kernel
theorem dX10_aboard_23 : decode cX10_aboard 23 = .ok (.getfield 19, 3) := by decide +kernel
theorem dX10_aboard_26 : decode cX10_aboard 26 = .ok (.iload_n 3, 1) := by decide +kernel
theorem dX10_aboard_27 : decode cX10_aboard 27 = .ok (.invokevirtual 172, 3) := by decide +kernel
theorem dX10_aboard_30 : decode cX10_aboard 30 = .ok (.ifCond .ne 6, 3) := by decide +kernel
theorem dX10_aboard_33 : decode cX10_aboard 33 = .ok (.bipush (-2), 2) := by decide +kernel
theorem dX10_aboard_35 : decode cX10_aboard 35 = .ok (.ireturn, 1) := by decide +kernel
theorem dX10_aboard_36 : decode cX10_aboard 36 = .ok (.iload 4, 2) := by decide +kernel
theorem dX10_aboard_38 : decode cX10_aboard 38 = .ok (.ifCond .lt 9, 3) := by decide +kernel
theorem dX10_aboard_41 : decode cX10_aboard 41 = .ok (.iload 4, 2) := by decide +kernel
theorem dX10_aboard_43 : decode cX10_aboard 43 = .ok (.iconst 2, 1) := by decide +kernel
theorem dX10_aboard_44 : decode cX10_aboard 44 = .ok (.if_icmp .le 6, 3) := by decide +kernel
theorem dX10_aboard_47 : decode cX10_aboard 47 = .ok (.bipush (-3), 2) := by decide +kernel
theorem dX10_aboard_49 : decode cX10_aboard 49 = .ok (.ireturn, 1) := by decide +kernel
theorem dX10_aboard_50 : decode cX10_aboard 50 = .ok (.aload_n 0, 1) := by decide +kernel
theorem dX10_aboard_51 : decode cX10_aboard 51 = .ok (.getfield 37, 3) := by decide +kernel
theorem dX10_aboard_54 : decode cX10_aboard 54 = .ok (.iload_n 1, 1) := by decide +kernel
theorem dX10_aboard_55 : decode cX10_aboard 55 = .ok (.iload_n 2, 1) := by decide +kernel
theorem dX10_aboard_56 : decode cX10_aboard 56 = .ok (.iload_n 3, 1) := by decide +kernel
theorem dX10_aboard_57 : decode cX10_aboard 57 = .ok (.invokevirtual 202, 3) := by decide +kernel
theorem dX10_aboard_60 : decode cX10_aboard 60 = .ok (.iload 4, 2) := by decide +kernel
theorem dX10_aboard_62 : decode cX10_aboard 62 = .ok (.lookupswitch 42 #[(0, 26), (1, 34)], 26) := by decide +kernel
theorem dX10_aboard_88 : decode cX10_aboard 88 = .ok (.aload_n 0, 1) := by decide +kernel
theorem dX10_aboard_89 : decode cX10_aboard 89 = .ok (.getfield 37, 3) := by decide +kernel
theorem dX10_aboard_92 : decode cX10_aboard 92 = .ok (.getfield 206, 3) := by decide +kernel
theorem dX10_aboard_95 : decode cX10_aboard 95 = .ok (.ireturn, 1) := by decide +kernel
theorem dX10_aboard_96 : decode cX10_aboard 96 = .ok (.aload_n 0, 1) := by decide +kernel
theorem dX10_aboard_97 : decode cX10_aboard 97 = .ok (.getfield 37, 3) := by decide +kernel
theorem dX10_aboard_100 : decode cX10_aboard 100 = .ok (.getfield 242, 3) := by decide +kernel
theorem dX10_aboard_103 : decode cX10_aboard 103 = .ok (.ireturn, 1) := by decide +kernel
theorem dX10_aboard_104 : decode cX10_aboard 104 = .ok (.aload_n 0, 1) := by decide +kernel
theorem dX10_aboard_105 : decode cX10_aboard 105 = .ok (.getfield 37, 3) := by decide +kernel
theorem dX10_aboard_108 : decode cX10_aboard 108 = .ok (.getfield 245, 3) := by decide +kernel
theorem dX10_aboard_111 : decode cX10_aboard 111 = .ok (.ireturn, 1) := by decide +kernel
theorem dX10_fewest_0 : decode cX10_fewest 0 = .ok (.aload_n 0, 1) := by decide +kernel
theorem dX10_fewest_1 : decode cX10_fewest 1 = .ok (.getfield 19, 3) := by decide +kernel
theorem dX10_fewest_4 : decode cX10_fewest 4 = .ok (.iload_n 1, 1) := by decide +kernel
theorem dX10_fewest_5 : decode cX10_fewest 5 = .ok (.invokevirtual 172, 3) := by decide +kernel
theorem dX10_fewest_8 : decode cX10_fewest 8 = .ok (.ifCond .eq 10, 3) := by decide +kernel
theorem dX10_fewest_11 : decode cX10_fewest 11 = .ok (.iload_n 2, 1) := by decide +kernel
theorem dX10_fewest_12 : decode cX10_fewest 12 = .ok (.invokestatic 218, 3) := by decide +kernel
theorem dX10_fewest_15 : decode cX10_fewest 15 = .ok (.ifCond .ne 6, 3) := by decide +kernel
theorem dX10_fewest_18 : decode cX10_fewest 18 = .ok (.bipush (-2), 2) := by decide +kernel
theorem dX10_fewest_20 : decode cX10_fewest 20 = .ok (.ireturn, 1) := by decide +kernel
theorem dX10_fewest_21 : decode cX10_fewest 21 = .ok (.iload_n 3, 1) := by decide +kernel
theorem dX10_fewest_22 : decode cX10_fewest 22 = .ok (.iconst (-1), 1) := by decide +kernel
theorem dX10_fewest_23 : decode cX10_fewest 23 = .ok (.if_icmp .ge 6, 3) := by decide +kernel
theorem dX10_fewest_26 : decode cX10_fewest 26 = .ok (.bipush (-3), 2) := by decide +kernel
theorem dX10_fewest_28 : decode cX10_fewest 28 = .ok (.ireturn, 1) := by decide +kernel
theorem dX10_fewest_29 : decode cX10_fewest 29 = .ok (.aload_n 0, 1) := by decide +kernel
theorem dX10_fewest_30 : decode cX10_fewest 30 = .ok (.getfield 44, 3) := by decide +kernel
theorem dX10_fewest_33 : decode cX10_fewest 33 = .ok (.iload_n 1, 1) := by decide +kernel
theorem dX10_fewest_34 : decode cX10_fewest 34 = .ok (.iload_n 2, 1) := by decide +kernel
theorem dX10_fewest_35 : decode cX10_fewest 35 = .ok (.iconst 0, 1) := by decide +kernel
theorem dX10_fewest_36 : decode cX10_fewest 36 = .ok (.invokevirtual 248, 3) := by decide +kernel
theorem dX10_fewest_39 : decode cX10_fewest 39 = .ok (.istore 4, 2) := by decide +kernel
theorem dX10_fewest_41 : decode cX10_fewest 41 = .ok (.iload_n 3, 1) := by decide +kernel
theorem dX10_fewest_42 : decode cX10_fewest 42 = .ok (.iconst (-1), 1) := by decide +kernel
theorem dX10_fewest_43 : decode cX10_fewest 43 = .ok (.if_icmp .ne 15, 3) := by decide +kernel
theorem dX10_fewest_46 : decode cX10_fewest 46 = .ok (.aload_n 0, 1) := by decide +kernel
theorem dX10_fewest_47 : decode cX10_fewest 47 = .ok (.getfield 44, 3) := by decide +kernel
theorem dX10_fewest_50 : decode cX10_fewest 50 = .ok (.iload 4, 2) := by decide +kernel
theorem dX10_fewest_52 : decode cX10_fewest 52 = .ok (.invokevirtual 252, 3) := by decide +kernel
theorem dX10_fewest_55 : decode cX10_fewest 55 = .ok (.goto 13, 3) := by decide +kernel
theorem dX10_fewest_58 : decode cX10_fewest 58 = .ok (.aload_n 0, 1) := by decide +kernel
theorem dX10_fewest_59 : decode cX10_fewest 59 = .ok (.getfield 44, 3) := by decide +kernel
theorem dX10_fewest_62 : decode cX10_fewest 62 = .ok (.iload 4, 2) := by decide +kernel
theorem dX10_fewest_64 : decode cX10_fewest 64 = .ok (.iload_n 3, 1) := by decide +kernel
theorem dX10_fewest_65 : decode cX10_fewest 65 = .ok (.invokevirtual 255, 3) := by decide +kernel
theorem dX10_fewest_68 : decode cX10_fewest 68 = .ok (.ireturn, 1) := by decide +kernel
theorem dX10_soonest_0 : decode cX10_soonest 0 = .ok (.aload_n 0, 1) := by decide +kernel
theorem dX10_soonest_1 : decode cX10_soonest 1 = .ok (.getfield 19, 3) := by decide +kernel
theorem dX10_soonest_4 : decode cX10_soonest 4 = .ok (.iload_n 1, 1) := by decide +kernel
theorem dX10_soonest_5 : decode cX10_soonest 5 = .ok (.invokevirtual 172, 3) := by decide +kernel
theorem dX10_soonest_8 : decode cX10_soonest 8 = .ok (.ifCond .eq 10, 3) := by decide +kernel
theorem dX10_soonest_11 : decode cX10_soonest 11 = .ok (.iload_n 2, 1) := by decide +kernel
theorem dX10_soonest_12 : decode cX10_soonest 12 = .ok (.invokestatic 218, 3) := by decide +kernel
theorem dX10_soonest_15 : decode cX10_soonest 15 = .ok (.ifCond .ne 6, 3) := by decide +kernel
theorem dX10_soonest_18 : decode cX10_soonest 18 = .ok (.bipush (-2), 2) := by decide +kernel
theorem dX10_soonest_20 : decode cX10_soonest 20 = .ok (.ireturn, 1) := by decide +kernel
theorem dX10_soonest_21 : decode cX10_soonest 21 = .ok (.aload_n 0, 1) := by decide +kernel
theorem dX10_soonest_22 : decode cX10_soonest 22 = .ok (.getfield 44, 3) := by decide +kernel
theorem dX10_soonest_25 : decode cX10_soonest 25 = .ok (.aload_n 0, 1) := by decide +kernel
theorem dX10_soonest_26 : decode cX10_soonest 26 = .ok (.getfield 44, 3) := by decide +kernel
theorem dX10_soonest_29 : decode cX10_soonest 29 = .ok (.iload_n 1, 1) := by decide +kernel
theorem dX10_soonest_30 : decode cX10_soonest 30 = .ok (.iload_n 2, 1) := by decide +kernel
theorem dX10_soonest_31 : decode cX10_soonest 31 = .ok (.iconst 1, 1) := by decide +kernel
theorem dX10_soonest_32 : decode cX10_soonest 32 = .ok (.invokevirtual 248, 3) := by decide +kernel
theorem dX10_soonest_35 : decode cX10_soonest 35 = .ok (.invokevirtual 252, 3) := by decide +kernel
theorem dX10_soonest_38 : decode cX10_soonest 38 = .ok (.ireturn, 1) := by decide +kernel
theorem dX10_row_0 : decode cX10_row 0 = .ok (.aload_n 0, 1) := by decide +kernel
theorem dX10_row_1 : decode cX10_row 1 = .ok (.getfield 19, 3) := by decide +kernel
theorem dX10_row_4 : decode cX10_row 4 = .ok (.iload_n 1, 1) := by decide +kernel
theorem dX10_row_5 : decode cX10_row 5 = .ok (.invokevirtual 139, 3) := by decide +kernel
theorem dX10_row_8 : decode cX10_row 8 = .ok (.ifCond .eq 14, 3) := by decide +kernel
theorem dX10_row_11 : decode cX10_row 11 = .ok (.aload_n 0, 1) := by decide +kernel
theorem dX10_row_12 : decode cX10_row 12 = .ok (.getfield 19, 3) := by decide +kernel
theorem dX10_row_15 : decode cX10_row 15 = .ok (.iload_n 2, 1) := by decide +kernel
theorem dX10_row_16 : decode cX10_row 16 = .ok (.invokevirtual 172, 3) := by decide +kernel
theorem dX10_row_19 : decode cX10_row 19 = .ok (.ifCond .ne 6, 3) := by decide +kernel
theorem dX10_row_22 : decode cX10_row 22 = .ok (.bipush (-2), 2) := by decide +kernel
theorem dX10_row_24 : decode cX10_row 24 = .ok (.ireturn, 1) := by decide +kernel
theorem dX10_row_25 : decode cX10_row 25 = .ok (.aload_n 0, 1) := by decide +kernel
theorem dX10_row_26 : decode cX10_row 26 = .ok (.getfield 58, 3) := by decide +kernel
theorem dX10_row_29 : decode cX10_row 29 = .ok (.bipush 12, 2) := by decide +kernel
theorem dX10_row_31 : decode cX10_row 31 = .ok (.if_icmp .lt 6, 3) := by decide +kernel
theorem dX10_row_34 : decode cX10_row 34 = .ok (.bipush (-5), 2) := by decide +kernel
theorem dX10_row_36 : decode cX10_row 36 = .ok (.ireturn, 1) := by decide +kernel
theorem dX10_row_37 : decode cX10_row 37 = .ok (.aload_n 0, 1) := by decide +kernel
theorem dX10_row_38 : decode cX10_row 38 = .ok (.getfield 54, 3) := by decide +kernel
theorem dX10_row_41 : decode cX10_row 41 = .ok (.aload_n 0, 1) := by decide +kernel
theorem dX10_row_42 : decode cX10_row 42 = .ok (.getfield 58, 3) := by decide +kernel
theorem dX10_row_45 : decode cX10_row 45 = .ok (.iload_n 1, 1) := by decide +kernel
theorem dX10_row_46 : decode cX10_row 46 = .ok (.iload_n 2, 1) := by decide +kernel
theorem dX10_row_47 : decode cX10_row 47 = .ok (.invokestatic 179, 3) := by decide +kernel
theorem dX10_row_50 : decode cX10_row 50 = .ok (.iastore, 1) := by decide +kernel
theorem dX10_row_51 : decode cX10_row 51 = .ok (.aload_n 0, 1) := by decide +kernel
theorem dX10_row_52 : decode cX10_row 52 = .ok (.dup, 1) := by decide +kernel
theorem dX10_row_53 : decode cX10_row 53 = .ok (.getfield 58, 3) := by decide +kernel
theorem dX10_row_56 : decode cX10_row 56 = .ok (.iconst 1, 1) := by decide +kernel
theorem dX10_row_57 : decode cX10_row 57 = .ok (.iadd, 1) := by decide +kernel
theorem dX10_row_58 : decode cX10_row 58 = .ok (.putfield 58, 3) := by decide +kernel
theorem dX10_row_61 : decode cX10_row 61 = .ok (.aload_n 0, 1) := by decide +kernel
theorem dX10_row_62 : decode cX10_row 62 = .ok (.getfield 58, 3) := by decide +kernel
theorem dX10_row_65 : decode cX10_row 65 = .ok (.ireturn, 1) := by decide +kernel
theorem dX10_burn_0 : decode cX10_burn 0 = .ok (.aload_n 0, 1) := by decide +kernel
theorem dX10_burn_1 : decode cX10_burn 1 = .ok (.getfield 58, 3) := by decide +kernel
theorem dX10_burn_4 : decode cX10_burn 4 = .ok (.istore_n 1, 1) := by decide +kernel
theorem dX10_burn_5 : decode cX10_burn 5 = .ok (.aload_n 0, 1) := by decide +kernel
theorem dX10_burn_6 : decode cX10_burn 6 = .ok (.iconst 0, 1) := by decide +kernel
theorem dX10_burn_7 : decode cX10_burn 7 = .ok (.putfield 58, 3) := by decide +kernel
theorem dX10_burn_10 : decode cX10_burn 10 = .ok (.iload_n 1, 1) := by decide +kernel
theorem dX10_burn_11 : decode cX10_burn 11 = .ok (.ireturn, 1) := by decide +kernel
theorem dX10_judge_0 : decode cX10_judge 0 = .ok (.aload_n 0, 1) := by decide +kernel
theorem dX10_judge_1 : decode cX10_judge 1 = .ok (.getfield 19, 3) := by decide +kernel
theorem dX10_judge_4 : decode cX10_judge 4 = .ok (.getfield 116, 3) := by decide +kernel
theorem dX10_judge_7 : decode cX10_judge 7 = .ok (.getfield 120, 3) := by decide +kernel
theorem dX10_judge_10 : decode cX10_judge 10 = .ok (.istore_n 1, 1) := by decide +kernel
theorem dX10_judge_11 : decode cX10_judge 11 = .ok (.iconst 0, 1) := by decide +kernel
theorem dX10_judge_12 : decode cX10_judge 12 = .ok (.istore_n 2, 1) := by decide +kernel
theorem dX10_judge_13 : decode cX10_judge 13 = .ok (.iload_n 2, 1) := by decide +kernel
theorem dX10_judge_14 : decode cX10_judge 14 = .ok (.aload_n 0, 1) := by decide +kernel
theorem dX10_judge_15 : decode cX10_judge 15 = .ok (.getfield 58, 3) := by decide +kernel
theorem dX10_judge_18 : decode cX10_judge 18 = .ok (.if_icmp .ge 57, 3) := by decide +kernel
theorem dX10_judge_21 : decode cX10_judge 21 = .ok (.iload_n 2, 1) := by decide +kernel
theorem dX10_judge_22 : decode cX10_judge 22 = .ok (.bipush 12, 2) := by decide +kernel
theorem dX10_judge_24 : decode cX10_judge 24 = .ok (.if_icmp .ge 51, 3) := by decide +kernel
theorem dX10_judge_27 : decode cX10_judge 27 = .ok (.aload_n 0, 1) := by decide +kernel
theorem dX10_judge_28 : decode cX10_judge 28 = .ok (.getfield 19, 3) := by decide +kernel
theorem dX10_judge_31 : decode cX10_judge 31 = .ok (.aload_n 0, 1) := by decide +kernel
theorem dX10_judge_32 : decode cX10_judge 32 = .ok (.getfield 54, 3) := by decide +kernel
theorem dX10_judge_35 : decode cX10_judge 35 = .ok (.iload_n 2, 1) := by decide +kernel
theorem dX10_judge_36 : decode cX10_judge 36 = .ok (.iaload, 1) := by decide +kernel
theorem dX10_judge_37 : decode cX10_judge 37 = .ok (.invokestatic 258, 3) := by decide +kernel
theorem dX10_judge_40 : decode cX10_judge 40 = .ok (.aload_n 0, 1) := by decide +kernel
theorem dX10_judge_41 : decode cX10_judge 41 = .ok (.getfield 54, 3) := by decide +kernel
theorem dX10_judge_44 : decode cX10_judge 44 = .ok (.iload_n 2, 1) := by decide +kernel
theorem dX10_judge_45 : decode cX10_judge 45 = .ok (.iaload, 1) := by decide +kernel
theorem dX10_judge_46 : decode cX10_judge 46 = .ok (.invokestatic 261, 3) := by decide +kernel
theorem dX10_judge_49 : decode cX10_judge 49 = .ok (.iload_n 1, 1) := by decide +kernel
theorem dX10_judge_50 : decode cX10_judge 50 = .ok (.invokevirtual 175, 3) := by decide +kernel
theorem dX10_judge_53 : decode cX10_judge 53 = .ok (.ifCond .ne 5, 3) := by decide +kernel
theorem dX10_judge_56 : decode cX10_judge 56 = .ok (.iload_n 2, 1) := by decide +kernel
theorem dX10_judge_57 : decode cX10_judge 57 = .ok (.ireturn, 1) := by decide +kernel
theorem dX10_judge_58 : decode cX10_judge 58 = .ok (.iload_n 1, 1) := by decide +kernel
theorem dX10_judge_59 : decode cX10_judge 59 = .ok (.aload_n 0, 1) := by decide +kernel
theorem dX10_judge_60 : decode cX10_judge 60 = .ok (.getfield 54, 3) := by decide +kernel
theorem dX10_judge_63 : decode cX10_judge 63 = .ok (.iload_n 2, 1) := by decide +kernel
theorem dX10_judge_64 : decode cX10_judge 64 = .ok (.iaload, 1) := by decide +kernel
theorem dX10_judge_65 : decode cX10_judge 65 = .ok (.invokestatic 182, 3) := by decide +kernel
theorem dX10_judge_68 : decode cX10_judge 68 = .ok (.istore_n 1, 1) := by decide +kernel
theorem dX10_judge_69 : decode cX10_judge 69 = .ok (.iinc 2 1, 3) := by decide +kernel
theorem dX10_judge_72 : decode cX10_judge 72 = .ok (.goto (-59), 3) := by decide +kernel
theorem dX10_judge_75 : decode cX10_judge 75 = .ok (.iconst (-1), 1) := by decide +kernel
theorem dX10_judge_76 : decode cX10_judge 76 = .ok (.ireturn, 1) := by decide +kernel
theorem dX10_count_0 : decode cX10_count 0 = .ok (.iload_n 1, 1) := by decide +kernel
theorem dX10_count_1 : decode cX10_count 1 = .ok (.tableswitch 136 0 7 #[47, 55, 63, 78, 93, 104, 123, 128], 47) := by decide +kernel
theorem dX10_count_48 : decode cX10_count 48 = .ok (.aload_n 0, 1) := by decide +kernel
theorem dX10_count_49 : decode cX10_count 49 = .ok (.getfield 19, 3) := by decide +kernel
theorem dX10_count_52 : decode cX10_count 52 = .ok (.getfield 221, 3) := by decide +kernel
theorem dX10_count_55 : decode cX10_count 55 = .ok (.ireturn, 1) := by decide +kernel
theorem dX10_count_56 : decode cX10_count 56 = .ok (.aload_n 0, 1) := by decide +kernel
theorem dX10_count_57 : decode cX10_count 57 = .ok (.getfield 19, 3) := by decide +kernel
theorem dX10_count_60 : decode cX10_count 60 = .ok (.getfield 264, 3) := by decide +kernel
theorem dX10_count_63 : decode cX10_count 63 = .ok (.ireturn, 1) := by decide +kernel
theorem dX10_count_64 : decode cX10_count 64 = .ok (.aload_n 0, 1) := by decide +kernel
theorem dX10_count_65 : decode cX10_count 65 = .ok (.getfield 19, 3) := by decide +kernel
theorem dX10_count_68 : decode cX10_count 68 = .ok (.getfield 116, 3) := by decide +kernel
theorem dX10_count_71 : decode cX10_count 71 = .ok (.getfield 120, 3) := by decide +kernel
theorem dX10_count_74 : decode cX10_count 74 = .ok (.sipush 256, 3) := by decide +kernel
theorem dX10_count_77 : decode cX10_count 77 = .ok (.irem, 1) := by decide +kernel
theorem dX10_count_78 : decode cX10_count 78 = .ok (.ireturn, 1) := by decide +kernel
theorem dX10_count_79 : decode cX10_count 79 = .ok (.aload_n 0, 1) := by decide +kernel
theorem dX10_count_80 : decode cX10_count 80 = .ok (.getfield 19, 3) := by decide +kernel
theorem dX10_count_83 : decode cX10_count 83 = .ok (.getfield 116, 3) := by decide +kernel
theorem dX10_count_86 : decode cX10_count 86 = .ok (.getfield 120, 3) := by decide +kernel
theorem dX10_count_89 : decode cX10_count 89 = .ok (.sipush 256, 3) := by decide +kernel
theorem dX10_count_92 : decode cX10_count 92 = .ok (.idiv, 1) := by decide +kernel
theorem dX10_count_93 : decode cX10_count 93 = .ok (.ireturn, 1) := by decide +kernel
theorem dX10_count_94 : decode cX10_count 94 = .ok (.aload_n 0, 1) := by decide +kernel
theorem dX10_count_95 : decode cX10_count 95 = .ok (.getfield 19, 3) := by decide +kernel
theorem dX10_count_98 : decode cX10_count 98 = .ok (.getfield 116, 3) := by decide +kernel
theorem dX10_count_101 : decode cX10_count 101 = .ok (.getfield 185, 3) := by decide +kernel
theorem dX10_count_104 : decode cX10_count 104 = .ok (.ireturn, 1) := by decide +kernel
theorem dX10_count_105 : decode cX10_count 105 = .ok (.aload_n 0, 1) := by decide +kernel
theorem dX10_count_106 : decode cX10_count 106 = .ok (.getfield 19, 3) := by decide +kernel
theorem dX10_count_109 : decode cX10_count 109 = .ok (.getfield 116, 3) := by decide +kernel
theorem dX10_count_112 : decode cX10_count 112 = .ok (.getfield 149, 3) := by decide +kernel
theorem dX10_count_115 : decode cX10_count 115 = .ok (.ifCond .eq 7, 3) := by decide +kernel
theorem dX10_count_118 : decode cX10_count 118 = .ok (.iconst 1, 1) := by decide +kernel
theorem dX10_count_119 : decode cX10_count 119 = .ok (.goto 4, 3) := by decide +kernel
theorem dX10_count_122 : decode cX10_count 122 = .ok (.iconst 0, 1) := by decide +kernel
theorem dX10_count_123 : decode cX10_count 123 = .ok (.ireturn, 1) := by decide +kernel
theorem dX10_count_124 : decode cX10_count 124 = .ok (.aload_n 0, 1) := by decide +kernel
theorem dX10_count_125 : decode cX10_count 125 = .ok (.getfield 58, 3) := by decide +kernel
theorem dX10_count_128 : decode cX10_count 128 = .ok (.ireturn, 1) := by decide +kernel
theorem dX10_count_129 : decode cX10_count 129 = .ok (.aload_n 0, 1) := by decide +kernel
theorem dX10_count_130 : decode cX10_count 130 = .ok (.getfield 12, 3) := by decide +kernel
theorem dX10_count_133 : decode cX10_count 133 = .ok (.getfield 63, 3) := by decide +kernel
theorem dX10_count_136 : decode cX10_count 136 = .ok (.ireturn, 1) := by decide +kernel
theorem dX10_count_137 : decode cX10_count 137 = .ok (.bipush (-3), 2) := by decide +kernel
theorem dX10_count_139 : decode cX10_count 139 = .ok (.ireturn, 1) := by decide +kernel
theorem dX10_isBank_0 : decode cX10_isBank 0 = .ok (.iload_n 0, 1) := by decide +kernel
theorem dX10_isBank_1 : decode cX10_isBank 1 = .ok (.ifCond .eq 8, 3) := by decide +kernel
theorem dX10_isBank_4 : decode cX10_isBank 4 = .ok (.iload_n 0, 1) := by decide +kernel
theorem dX10_isBank_5 : decode cX10_isBank 5 = .ok (.iconst 1, 1) := by decide +kernel
theorem dX10_isBank_6 : decode cX10_isBank 6 = .ok (.if_icmp .ne 7, 3) := by decide +kernel
theorem dX10_isBank_9 : decode cX10_isBank 9 = .ok (.iconst 1, 1) := by decide +kernel
theorem dX10_isBank_10 : decode cX10_isBank 10 = .ok (.goto 4, 3) := by decide +kernel
theorem dX10_isBank_13 : decode cX10_isBank 13 = .ok (.iconst 0, 1) := by decide +kernel
theorem dX10_isBank_14 : decode cX10_isBank 14 = .ok (.ireturn, 1) := by decide +kernel
theorem dX10_bankOf_0 : decode cX10_bankOf 0 = .ok (.iload_n 1, 1) := by decide +kernel
theorem dX10_bankOf_1 : decode cX10_bankOf 1 = .ok (.sipush 256, 3) := by decide +kernel
theorem dX10_bankOf_4 : decode cX10_bankOf 4 = .ok (.idiv, 1) := by decide +kernel
theorem dX10_bankOf_5 : decode cX10_bankOf 5 = .ok (.iload_n 0, 1) := by decide +kernel
theorem dX10_bankOf_6 : decode cX10_bankOf 6 = .ok (.ishr, 1) := by decide +kernel
theorem dX10_bankOf_7 : decode cX10_bankOf 7 = .ok (.iconst 1, 1) := by decide +kernel
theorem dX10_bankOf_8 : decode cX10_bankOf 8 = .ok (.iand, 1) := by decide +kernel
theorem dX10_bankOf_9 : decode cX10_bankOf 9 = .ok (.ireturn, 1) := by decide +kernel
theorem dX10_allOn_0 : decode cX10_allOn 0 = .ok (.iload_n 1, 1) := by decide +kernel
theorem dX10_allOn_1 : decode cX10_allOn 1 = .ok (.iload_n 2, 1) := by decide +kernel
theorem dX10_allOn_2 : decode cX10_allOn 2 = .ok (.iand, 1) := by decide +kernel
theorem dX10_allOn_3 : decode cX10_allOn 3 = .ok (.iload_n 0, 1) := by decide +kernel
theorem dX10_allOn_4 : decode cX10_allOn 4 = .ok (.iconst 1, 1) := by decide +kernel
theorem dX10_allOn_5 : decode cX10_allOn 5 = .ok (.if_icmp .ne 7, 3) := by decide +kernel
theorem dX10_allOn_8 : decode cX10_allOn 8 = .ok (.iload_n 1, 1) := by decide +kernel
theorem dX10_allOn_9 : decode cX10_allOn 9 = .ok (.goto 4, 3) := by decide +kernel
theorem dX10_allOn_12 : decode cX10_allOn 12 = .ok (.iconst 0, 1) := by decide +kernel
theorem dX10_allOn_13 : decode cX10_allOn 13 = .ok (.if_icmp .ne 7, 3) := by decide +kernel
theorem dX10_allOn_16 : decode cX10_allOn 16 = .ok (.iconst 1, 1) := by decide +kernel
theorem dX10_allOn_17 : decode cX10_allOn 17 = .ok (.goto 4, 3) := by decide +kernel
theorem dX10_allOn_20 : decode cX10_allOn 20 = .ok (.iconst 0, 1) := by decide +kernel
theorem dX10_allOn_21 : decode cX10_allOn 21 = .ok (.ireturn, 1) := by decide +kernel
theorem dX10_crossingOf_0 : decode cX10_crossingOf 0 = .ok (.sipush 256, 3) := by decide +kernel
theorem dX10_crossingOf_3 : decode cX10_crossingOf 3 = .ok (.iload_n 0, 1) := by decide +kernel
theorem dX10_crossingOf_4 : decode cX10_crossingOf 4 = .ok (.imul, 1) := by decide +kernel
theorem dX10_crossingOf_5 : decode cX10_crossingOf 5 = .ok (.iload_n 1, 1) := by decide +kernel
theorem dX10_crossingOf_6 : decode cX10_crossingOf 6 = .ok (.iadd, 1) := by decide +kernel
theorem dX10_crossingOf_7 : decode cX10_crossingOf 7 = .ok (.ireturn, 1) := by decide +kernel
theorem dX10_ferryOf_0 : decode cX10_ferryOf 0 = .ok (.iload_n 0, 1) := by decide +kernel
theorem dX10_ferryOf_1 : decode cX10_ferryOf 1 = .ok (.sipush 256, 3) := by decide +kernel
theorem dX10_ferryOf_4 : decode cX10_ferryOf 4 = .ok (.idiv, 1) := by decide +kernel
theorem dX10_ferryOf_5 : decode cX10_ferryOf 5 = .ok (.ireturn, 1) := by decide +kernel
theorem dX10_loadOf_0 : decode cX10_loadOf 0 = .ok (.iload_n 0, 1) := by decide +kernel
theorem dX10_loadOf_1 : decode cX10_loadOf 1 = .ok (.sipush 256, 3) := by decide +kernel
theorem dX10_loadOf_4 : decode cX10_loadOf 4 = .ok (.irem, 1) := by decide +kernel
theorem dX10_loadOf_5 : decode cX10_loadOf 5 = .ok (.ireturn, 1) := by decide +kernel
theorem dX10_banksBehind_0 : decode cX10_banksBehind 0 = .ok (.iload_n 0, 1) := by decide +kernel
theorem dX10_banksBehind_1 : decode cX10_banksBehind 1 = .ok (.iload_n 1, 1) := by decide +kernel
theorem dX10_banksBehind_2 : decode cX10_banksBehind 2 = .ok (.invokestatic 261, 3) := by decide +kernel
theorem dX10_banksBehind_5 : decode cX10_banksBehind 5 = .ok (.ixor, 1) := by decide +kernel
theorem dX10_banksBehind_6 : decode cX10_banksBehind 6 = .ok (.sipush 256, 3) := by decide +kernel
theorem dX10_banksBehind_9 : decode cX10_banksBehind 9 = .ok (.iload_n 1, 1) := by decide +kernel
theorem dX10_banksBehind_10 : decode cX10_banksBehind 10 = .ok (.invokestatic 258, 3) := by decide +kernel
theorem dX10_banksBehind_13 : decode cX10_banksBehind 13 = .ok (.ishl, 1) := by decide +kernel
theorem dX10_banksBehind_14 : decode cX10_banksBehind 14 = .ok (.ixor, 1) := by decide +kernel
theorem dX10_banksBehind_15 : decode cX10_banksBehind 15 = .ok (.ireturn, 1) := by decide +kernel
theorem dX11_init_0 : decode cX11_init 0 = .ok (.aload_n 0, 1) := by decide +kernel
theorem dX11_init_1 : decode cX11_init 1 = .ok (.invokespecial 1, 3) := by decide +kernel
theorem dX11_init_4 : decode cX11_init 4 = .ok (.aload_n 0, 1) := by decide +kernel
theorem dX11_init_5 : decode cX11_init 5 = .ok (.bipush 48, 2) := by decide +kernel
theorem dX11_init_7 : decode cX11_init 7 = .ok (.newarray .int, 2) := by decide +kernel
theorem dX11_init_9 : decode cX11_init 9 = .ok (.putfield 7, 3) := by decide +kernel
theorem dX11_init_12 : decode cX11_init 12 = .ok (.aload_n 0, 1) := by decide +kernel
theorem dX11_init_13 : decode cX11_init 13 = .ok (.bipush 15, 2) := by decide +kernel
theorem dX11_init_15 : decode cX11_init 15 = .ok (.newarray .int, 2) := by decide +kernel
theorem dX11_init_17 : decode cX11_init 17 = .ok (.putfield 13, 3) := by decide +kernel
theorem dX11_init_20 : decode cX11_init 20 = .ok (.aload_n 0, 1) := by decide +kernel
theorem dX11_init_21 : decode cX11_init 21 = .ok (.sipush 200, 3) := by decide +kernel
theorem dX11_init_24 : decode cX11_init 24 = .ok (.newarray .int, 2) := by decide +kernel
theorem dX11_init_26 : decode cX11_init 26 = .ok (.putfield 16, 3) := by decide +kernel
theorem dX11_init_29 : decode cX11_init 29 = .ok (.aload_n 0, 1) := by decide +kernel
theorem dX11_init_30 : decode cX11_init 30 = .ok (.bipush 8, 2) := by decide +kernel
theorem dX11_init_32 : decode cX11_init 32 = .ok (.newarray .int, 2) := by decide +kernel
theorem dX11_init_34 : decode cX11_init 34 = .ok (.putfield 19, 3) := by decide +kernel
theorem dX11_init_37 : decode cX11_init 37 = .ok (.aload_n 0, 1) := by decide +kernel
theorem dX11_init_38 : decode cX11_init 38 = .ok (.bipush 60, 2) := by decide +kernel
theorem dX11_init_40 : decode cX11_init 40 = .ok (.newarray .int, 2) := by decide +kernel
theorem dX11_init_42 : decode cX11_init 42 = .ok (.putfield 22, 3) := by decide +kernel
theorem dX11_init_45 : decode cX11_init 45 = .ok (.aload_n 0, 1) := by decide +kernel
theorem dX11_init_46 : decode cX11_init 46 = .ok (.bipush 10, 2) := by decide +kernel
theorem dX11_init_48 : decode cX11_init 48 = .ok (.newarray .int, 2) := by decide +kernel
theorem dX11_init_50 : decode cX11_init 50 = .ok (.putfield 25, 3) := by decide +kernel
theorem dX11_init_53 : decode cX11_init 53 = .ok (.aload_n 0, 1) := by decide +kernel
theorem dX11_init_54 : decode cX11_init 54 = .ok (.iconst 2, 1) := by decide +kernel
theorem dX11_init_55 : decode cX11_init 55 = .ok (.newarray .boolean, 2) := by decide +kernel
theorem dX11_init_57 : decode cX11_init 57 = .ok (.putfield 28, 3) := by decide +kernel
theorem dX11_init_60 : decode cX11_init 60 = .ok (.aload_n 0, 1) := by decide +kernel
theorem dX11_init_61 : decode cX11_init 61 = .ok (.bipush 24, 2) := by decide +kernel
theorem dX11_init_63 : decode cX11_init 63 = .ok (.newarray .int, 2) := by decide +kernel
theorem dX11_init_65 : decode cX11_init 65 = .ok (.putfield 32, 3) := by decide +kernel
theorem dX11_init_68 : decode cX11_init 68 = .ok (.aload_n 0, 1) := by decide +kernel
theorem dX11_init_69 : decode cX11_init 69 = .ok (.sipush 2048, 3) := by decide +kernel
theorem dX11_init_72 : decode cX11_init 72 = .ok (.newarray .int, 2) := by decide +kernel
theorem dX11_init_74 : decode cX11_init 74 = .ok (.putfield 35, 3) := by decide +kernel
theorem dX11_init_77 : decode cX11_init 77 = .ok (.aload_n 0, 1) := by decide +kernel
theorem dX11_init_78 : decode cX11_init 78 = .ok (.sipush 2048, 3) := by decide +kernel
theorem dX11_init_81 : decode cX11_init 81 = .ok (.newarray .int, 2) := by decide +kernel
theorem dX11_init_83 : decode cX11_init 83 = .ok (.putfield 38, 3) := by decide +kernel
theorem dX11_init_86 : decode cX11_init 86 = .ok (.aload_n 0, 1) := by decide +kernel
theorem dX11_init_87 : decode cX11_init 87 = .ok (.sipush 2048, 3) := by decide +kernel
theorem dX11_init_90 : decode cX11_init 90 = .ok (.newarray .int, 2) := by decide +kernel
theorem dX11_init_92 : decode cX11_init 92 = .ok (.putfield 41, 3) := by decide +kernel
theorem dX11_init_95 : decode cX11_init 95 = .ok (.aload_n 0, 1) := by decide +kernel
theorem dX11_init_96 : decode cX11_init 96 = .ok (.sipush 2048, 3) := by decide +kernel
theorem dX11_init_99 : decode cX11_init 99 = .ok (.newarray .int, 2) := by decide +kernel
theorem dX11_init_101 : decode cX11_init 101 = .ok (.putfield 44, 3) := by decide +kernel
theorem dX11_init_104 : decode cX11_init 104 = .ok (.return_, 1) := by decide +kernel
theorem dX11_in_0 : decode cX11_in 0 = .ok (.iload_n 0, 1) := by decide +kernel
theorem dX11_in_1 : decode cX11_in 1 = .ok (.iload_n 1, 1) := by decide +kernel
theorem dX11_in_2 : decode cX11_in 2 = .ok (.if_icmp .lt 12, 3) := by decide +kernel
theorem dX11_in_5 : decode cX11_in 5 = .ok (.iload_n 0, 1) := by decide +kernel
theorem dX11_in_6 : decode cX11_in 6 = .ok (.iload_n 2, 1) := by decide +kernel
theorem dX11_in_7 : decode cX11_in 7 = .ok (.if_icmp .gt 7, 3) := by decide +kernel
theorem dX11_in_10 : decode cX11_in 10 = .ok (.iconst 1, 1) := by decide +kernel
theorem dX11_in_11 : decode cX11_in 11 = .ok (.goto 4, 3) := by decide +kernel
theorem dX11_in_14 : decode cX11_in 14 = .ok (.iconst 0, 1) := by decide +kernel
theorem dX11_in_15 : decode cX11_in 15 = .ok (.ireturn, 1) := by decide +kernel
theorem dX11_has_0 : decode cX11_has 0 = .ok (.iload_n 0, 1) := by decide +kernel
theorem dX11_has_1 : decode cX11_has 1 = .ok (.iload_n 1, 1) := by decide +kernel
theorem dX11_has_2 : decode cX11_has 2 = .ok (.ishr, 1) := by decide +kernel
theorem dX11_has_3 : decode cX11_has 3 = .ok (.iconst 1, 1) := by decide +kernel
theorem dX11_has_4 : decode cX11_has 4 = .ok (.iand, 1) := by decide +kernel
theorem dX11_has_5 : decode cX11_has 5 = .ok (.iconst 1, 1) := by decide +kernel
theorem dX11_has_6 : decode cX11_has 6 = .ok (.if_icmp .ne 7, 3) := by decide +kernel
theorem dX11_has_9 : decode cX11_has 9 = .ok (.iconst 1, 1) := by decide +kernel
theorem dX11_has_10 : decode cX11_has 10 = .ok (.goto 4, 3) := by decide +kernel
theorem dX11_has_13 : decode cX11_has 13 = .ok (.iconst 0, 1) := by decide +kernel
theorem dX11_has_14 : decode cX11_has 14 = .ok (.ireturn, 1) := by decide +kernel
theorem dX11_isThing_0 : decode cX11_isThing 0 = .ok (.iload_n 1, 1) := by decide +kernel
theorem dX11_isThing_1 : decode cX11_isThing 1 = .ok (.iconst 0, 1) := by decide +kernel
theorem dX11_isThing_2 : decode cX11_isThing 2 = .ok (.aload_n 0, 1) := by decide +kernel
theorem dX11_isThing_3 : decode cX11_isThing 3 = .ok (.getfield 47, 3) := by decide +kernel
theorem dX11_isThing_6 : decode cX11_isThing 6 = .ok (.iconst 1, 1) := by decide +kernel
theorem dX11_isThing_7 : decode cX11_isThing 7 = .ok (.isub, 1) := by decide +kernel
theorem dX11_isThing_8 : decode cX11_isThing 8 = .ok (.invokestatic 51, 3) := by decide +kernel
theorem dX11_isThing_11 : decode cX11_isThing 11 = .ok (.ireturn, 1) := by decide +kernel
theorem dX11_isFerry_0 : decode cX11_isFerry 0 = .ok (.iload_n 1, 1) := by decide +kernel
theorem dX11_isFerry_1 : decode cX11_isFerry 1 = .ok (.iconst 0, 1) := by decide +kernel
theorem dX11_isFerry_2 : decode cX11_isFerry 2 = .ok (.aload_n 0, 1) := by decide +kernel
theorem dX11_isFerry_3 : decode cX11_isFerry 3 = .ok (.getfield 55, 3) := by decide +kernel
theorem dX11_isFerry_6 : decode cX11_isFerry 6 = .ok (.iconst 1, 1) := by decide +kernel
theorem dX11_isFerry_7 : decode cX11_isFerry 7 = .ok (.isub, 1) := by decide +kernel
theorem dX11_isFerry_8 : decode cX11_isFerry 8 = .ok (.invokestatic 51, 3) := by decide +kernel
theorem dX11_isFerry_11 : decode cX11_isFerry 11 = .ok (.ireturn, 1) := by decide +kernel
theorem dX11_isSet_0 : decode cX11_isSet 0 = .ok (.iload_n 1, 1) := by decide +kernel
theorem dX11_isSet_1 : decode cX11_isSet 1 = .ok (.iconst 0, 1) := by decide +kernel
theorem dX11_isSet_2 : decode cX11_isSet 2 = .ok (.iconst 1, 1) := by decide +kernel
theorem dX11_isSet_3 : decode cX11_isSet 3 = .ok (.aload_n 0, 1) := by decide +kernel
theorem dX11_isSet_4 : decode cX11_isSet 4 = .ok (.getfield 47, 3) := by decide +kernel
theorem dX11_isSet_7 : decode cX11_isSet 7 = .ok (.ishl, 1) := by decide +kernel
theorem dX11_isSet_8 : decode cX11_isSet 8 = .ok (.iconst 1, 1) := by decide +kernel
theorem dX11_isSet_9 : decode cX11_isSet 9 = .ok (.isub, 1) := by decide +kernel
theorem dX11_isSet_10 : decode cX11_isSet 10 = .ok (.invokestatic 51, 3) := by decide +kernel
theorem dX11_isSet_13 : decode cX11_isSet 13 = .ok (.ireturn, 1) := by decide +kernel
theorem dX11_isBank_0 : decode cX11_isBank 0 = .ok (.iload_n 0, 1) := by decide +kernel
theorem dX11_isBank_1 : decode cX11_isBank 1 = .ok (.iconst 0, 1) := by decide +kernel
theorem dX11_isBank_2 : decode cX11_isBank 2 = .ok (.iconst 1, 1) := by decide +kernel
theorem dX11_isBank_3 : decode cX11_isBank 3 = .ok (.invokestatic 51, 3) := by decide +kernel
theorem dX11_isBank_6 : decode cX11_isBank 6 = .ok (.ireturn, 1) := by decide +kernel
theorem dX11_write_0 : decode cX11_write 0 = .ok (.iload_n 3, 1) := by decide +kernel
theorem dX11_write_1 : decode cX11_write 1 = .ok (.iconst 1, 1) := by decide +kernel
theorem dX11_write_2 : decode cX11_write 2 = .ok (.bipush 8, 2) := by decide +kernel
theorem dX11_write_4 : decode cX11_write 4 = .ok (.invokestatic 51, 3) := by decide +kernel
theorem dX11_write_7 : decode cX11_write 7 = .ok (.ifCond .ne 6, 3) := by decide +kernel
theorem dX11_write_10 : decode cX11_write 10 = .ok (.bipush (-3), 2) := by decide +kernel
theorem dX11_write_12 : decode cX11_write 12 = .ok (.ireturn, 1) := by decide +kernel
theorem dX11_write_13 : decode cX11_write 13 = .ok (.aload_n 0, 1) := by decide +kernel
theorem dX11_write_14 : decode cX11_write 14 = .ok (.getfield 58, 3) := by decide +kernel
theorem dX11_write_17 : decode cX11_write 17 = .ok (.iload_n 3, 1) := by decide +kernel
theorem dX11_write_18 : decode cX11_write 18 = .ok (.iadd, 1) := by decide +kernel
theorem dX11_write_19 : decode cX11_write 19 = .ok (.sipush 200, 3) := by decide +kernel
theorem dX11_write_22 : decode cX11_write 22 = .ok (.if_icmp .le 6, 3) := by decide +kernel
theorem dX11_write_25 : decode cX11_write 25 = .ok (.bipush (-5), 2) := by decide +kernel
theorem dX11_write_27 : decode cX11_write 27 = .ok (.ireturn, 1) := by decide +kernel
theorem dX11_write_28 : decode cX11_write 28 = .ok (.iconst 0, 1) := by decide +kernel
theorem dX11_write_29 : decode cX11_write 29 = .ok (.istore 4, 2) := by decide +kernel
theorem dX11_write_31 : decode cX11_write 31 = .ok (.iload 4, 2) := by decide +kernel
theorem dX11_write_33 : decode cX11_write 33 = .ok (.iload_n 3, 1) := by decide +kernel
theorem dX11_write_34 : decode cX11_write 34 = .ok (.if_icmp .ge 33, 3) := by decide +kernel
theorem dX11_write_37 : decode cX11_write 37 = .ok (.aload_n 0, 1) := by decide +kernel
theorem dX11_write_38 : decode cX11_write 38 = .ok (.getfield 16, 3) := by decide +kernel
theorem dX11_write_41 : decode cX11_write 41 = .ok (.aload_n 0, 1) := by decide +kernel
theorem dX11_write_42 : decode cX11_write 42 = .ok (.getfield 58, 3) := by decide +kernel
theorem dX11_write_45 : decode cX11_write 45 = .ok (.iload 4, 2) := by decide +kernel
theorem dX11_write_47 : decode cX11_write 47 = .ok (.iadd, 1) := by decide +kernel
theorem dX11_write_48 : decode cX11_write 48 = .ok (.lload_n 1, 1) := by decide +kernel
theorem dX11_write_49 : decode cX11_write 49 = .ok (.bipush 8, 2) := by decide +kernel
theorem dX11_write_51 : decode cX11_write 51 = .ok (.iload 4, 2) := by decide +kernel
theorem dX11_write_53 : decode cX11_write 53 = .ok (.imul, 1) := by decide +kernel
theorem dX11_write_54 : decode cX11_write 54 = .ok (.lshr, 1) := by decide +kernel
theorem dX11_write_55 : decode cX11_write 55 = .ok (.ldc2_w 61, 3) := by decide +kernel
theorem dX11_write_58 : decode cX11_write 58 = .ok (.land, 1) := by decide +kernel
theorem dX11_write_59 : decode cX11_write 59 = .ok (.l2i, 1) := by decide +kernel
theorem dX11_write_60 : decode cX11_write 60 = .ok (.iastore, 1) := by decide +kernel
theorem dX11_write_61 : decode cX11_write 61 = .ok (.iinc 4 1, 3) := by decide +kernel
theorem dX11_write_64 : decode cX11_write 64 = .ok (.goto (-33), 3) := by decide +kernel
theorem dX11_write_67 : decode cX11_write 67 = .ok (.aload_n 0, 1) := by decide +kernel
theorem dX11_write_68 : decode cX11_write 68 = .ok (.dup, 1) := by decide +kernel
theorem dX11_write_69 : decode cX11_write 69 = .ok (.getfield 58, 3) := by decide +kernel
theorem dX11_write_72 : decode cX11_write 72 = .ok (.iload_n 3, 1) := by decide +kernel
theorem dX11_write_73 : decode cX11_write 73 = .ok (.iadd, 1) := by decide +kernel
theorem dX11_write_74 : decode cX11_write 74 = .ok (.putfield 58, 3) := by decide +kernel
theorem dX11_write_77 : decode cX11_write 77 = .ok (.aload_n 0, 1) := by decide +kernel
theorem dX11_write_78 : decode cX11_write 78 = .ok (.getfield 58, 3) := by decide +kernel
theorem dX11_write_81 : decode cX11_write 81 = .ok (.ireturn, 1) := by decide +kernel
theorem dX11_erase_0 : decode cX11_erase 0 = .ok (.aload_n 0, 1) := by decide +kernel
theorem dX11_erase_1 : decode cX11_erase 1 = .ok (.getfield 58, 3) := by decide +kernel
theorem dX11_erase_4 : decode cX11_erase 4 = .ok (.istore_n 1, 1) := by decide +kernel
theorem dX11_erase_5 : decode cX11_erase 5 = .ok (.aload_n 0, 1) := by decide +kernel
theorem dX11_erase_6 : decode cX11_erase 6 = .ok (.iconst 0, 1) := by decide +kernel
theorem dX11_erase_7 : decode cX11_erase 7 = .ok (.putfield 58, 3) := by decide +kernel
theorem dX11_erase_10 : decode cX11_erase 10 = .ok (.iload_n 1, 1) := by decide +kernel
theorem dX11_erase_11 : decode cX11_erase 11 = .ok (.ireturn, 1) := by decide +kernel
theorem dX11_nextToken_0 : decode cX11_nextToken 0 = .ok (.aload_n 0, 1) := by decide +kernel
theorem dX11_nextToken_1 : decode cX11_nextToken 1 = .ok (.getfield 63, 3) := by decide +kernel
theorem dX11_nextToken_4 : decode cX11_nextToken 4 = .ok (.aload_n 0, 1) := by decide +kernel
theorem dX11_nextToken_5 : decode cX11_nextToken 5 = .ok (.getfield 58, 3) := by decide +kernel
theorem dX11_nextToken_8 : decode cX11_nextToken 8 = .ok (.if_icmp .ge 30, 3) := by decide +kernel
theorem dX11_nextToken_11 : decode cX11_nextToken 11 = .ok (.aload_n 0, 1) := by decide +kernel
theorem dX11_nextToken_12 : decode cX11_nextToken 12 = .ok (.getfield 16, 3) := by decide +kernel
theorem dX11_nextToken_15 : decode cX11_nextToken 15 = .ok (.aload_n 0, 1) := by decide +kernel
theorem dX11_nextToken_16 : decode cX11_nextToken 16 = .ok (.getfield 63, 3) := by decide +kernel
theorem dX11_nextToken_19 : decode cX11_nextToken 19 = .ok (.iaload, 1) := by decide +kernel
theorem dX11_nextToken_20 : decode cX11_nextToken 20 = .ok (.bipush 32, 2) := by decide +kernel
theorem dX11_nextToken_22 : decode cX11_nextToken 22 = .ok (.if_icmp .ne 16, 3) := by decide +kernel
theorem dX11_nextToken_25 : decode cX11_nextToken 25 = .ok (.aload_n 0, 1) := by decide +kernel
theorem dX11_nextToken_26 : decode cX11_nextToken 26 = .ok (.dup, 1) := by decide +kernel
theorem dX11_nextToken_27 : decode cX11_nextToken 27 = .ok (.getfield 63, 3) := by decide +kernel
theorem dX11_nextToken_30 : decode cX11_nextToken 30 = .ok (.iconst 1, 1) := by decide +kernel
theorem dX11_nextToken_31 : decode cX11_nextToken 31 = .ok (.iadd, 1) := by decide +kernel
theorem dX11_nextToken_32 : decode cX11_nextToken 32 = .ok (.putfield 63, 3) := by decide +kernel
theorem dX11_nextToken_35 : decode cX11_nextToken 35 = .ok (.goto (-35), 3) := by decide +kernel
theorem dX11_nextToken_38 : decode cX11_nextToken 38 = .ok (.aload_n 0, 1) := by decide +kernel
theorem dX11_nextToken_39 : decode cX11_nextToken 39 = .ok (.aload_n 0, 1) := by decide +kernel
theorem dX11_nextToken_40 : decode cX11_nextToken 40 = .ok (.getfield 63, 3) := by decide +kernel
theorem dX11_nextToken_43 : decode cX11_nextToken 43 = .ok (.putfield 66, 3) := by decide +kernel
theorem dX11_nextToken_46 : decode cX11_nextToken 46 = .ok (.aload_n 0, 1) := by decide +kernel
theorem dX11_nextToken_47 : decode cX11_nextToken 47 = .ok (.iconst 0, 1) := by decide +kernel
theorem dX11_nextToken_48 : decode cX11_nextToken 48 = .ok (.putfield 69, 3) := by decide +kernel
theorem dX11_nextToken_51 : decode cX11_nextToken 51 = .ok (.aload_n 0, 1) := by decide +kernel
theorem dX11_nextToken_52 : decode cX11_nextToken 52 = .ok (.iconst 0, 1) := by decide +kernel
theorem dX11_nextToken_53 : decode cX11_nextToken 53 = .ok (.putfield 72, 3) := by decide +kernel
theorem dX11_nextToken_56 : decode cX11_nextToken 56 = .ok (.aload_n 0, 1) := by decide +kernel
theorem dX11_nextToken_57 : decode cX11_nextToken 57 = .ok (.getfield 63, 3) := by decide +kernel
theorem dX11_nextToken_60 : decode cX11_nextToken 60 = .ok (.aload_n 0, 1) := by decide +kernel
theorem dX11_nextToken_61 : decode cX11_nextToken 61 = .ok (.getfield 58, 3) := by decide +kernel
theorem dX11_nextToken_64 : decode cX11_nextToken 64 = .ok (.if_icmp .ne 13, 3) := by decide +kernel
theorem dX11_nextToken_67 : decode cX11_nextToken 67 = .ok (.aload_n 0, 1) := by decide +kernel
theorem dX11_nextToken_68 : decode cX11_nextToken 68 = .ok (.ldc2_w 75, 3) := by decide +kernel
theorem dX11_nextToken_71 : decode cX11_nextToken 71 = .ok (.putfield 77, 3) := by decide +kernel
theorem dX11_nextToken_74 : decode cX11_nextToken 74 = .ok (.goto 320, 3) := by decide +kernel
theorem dX11_nextToken_77 : decode cX11_nextToken 77 = .ok (.aload_n 0, 1) := by decide +kernel
theorem dX11_nextToken_78 : decode cX11_nextToken 78 = .ok (.getfield 16, 3) := by decide +kernel
theorem dX11_nextToken_81 : decode cX11_nextToken 81 = .ok (.aload_n 0, 1) := by decide +kernel
theorem dX11_nextToken_82 : decode cX11_nextToken 82 = .ok (.getfield 63, 3) := by decide +kernel
theorem dX11_nextToken_85 : decode cX11_nextToken 85 = .ok (.iaload, 1) := by decide +kernel
theorem dX11_nextToken_86 : decode cX11_nextToken 86 = .ok (.bipush 97, 2) := by decide +kernel
theorem dX11_nextToken_88 : decode cX11_nextToken 88 = .ok (.bipush 122, 2) := by decide +kernel
theorem dX11_nextToken_90 : decode cX11_nextToken 90 = .ok (.invokestatic 51, 3) := by decide +kernel
theorem dX11_nextToken_93 : decode cX11_nextToken 93 = .ok (.ifCond .eq 129, 3) := by decide +kernel
theorem dX11_nextToken_96 : decode cX11_nextToken 96 = .ok (.aload_n 0, 1) := by decide +kernel
theorem dX11_nextToken_97 : decode cX11_nextToken 97 = .ok (.lconst 0, 1) := by decide +kernel
theorem dX11_nextToken_98 : decode cX11_nextToken 98 = .ok (.putfield 77, 3) := by decide +kernel
theorem dX11_nextToken_101 : decode cX11_nextToken 101 = .ok (.aload_n 0, 1) := by decide +kernel
theorem dX11_nextToken_102 : decode cX11_nextToken 102 = .ok (.getfield 63, 3) := by decide +kernel
theorem dX11_nextToken_105 : decode cX11_nextToken 105 = .ok (.aload_n 0, 1) := by decide +kernel
theorem dX11_nextToken_106 : decode cX11_nextToken 106 = .ok (.getfield 58, 3) := by decide +kernel
theorem dX11_nextToken_109 : decode cX11_nextToken 109 = .ok (.if_icmp .ge 82, 3) := by decide +kernel
theorem dX11_nextToken_112 : decode cX11_nextToken 112 = .ok (.aload_n 0, 1) := by decide +kernel
theorem dX11_nextToken_113 : decode cX11_nextToken 113 = .ok (.getfield 16, 3) := by decide +kernel
theorem dX11_nextToken_116 : decode cX11_nextToken 116 = .ok (.aload_n 0, 1) := by decide +kernel
theorem dX11_nextToken_117 : decode cX11_nextToken 117 = .ok (.getfield 63, 3) := by decide +kernel
theorem dX11_nextToken_120 : decode cX11_nextToken 120 = .ok (.iaload, 1) := by decide +kernel
theorem dX11_nextToken_121 : decode cX11_nextToken 121 = .ok (.bipush 97, 2) := by decide +kernel
theorem dX11_nextToken_123 : decode cX11_nextToken 123 = .ok (.bipush 122, 2) := by decide +kernel
theorem dX11_nextToken_125 : decode cX11_nextToken 125 = .ok (.invokestatic 51, 3) := by decide +kernel
theorem dX11_nextToken_128 : decode cX11_nextToken 128 = .ok (.ifCond .eq 63, 3) := by decide +kernel
theorem dX11_nextToken_131 : decode cX11_nextToken 131 = .ok (.aload_n 0, 1) := by decide +kernel
theorem dX11_nextToken_132 : decode cX11_nextToken 132 = .ok (.aload_n 0, 1) := by decide +kernel
theorem dX11_nextToken_133 : decode cX11_nextToken 133 = .ok (.getfield 63, 3) := by decide +kernel
theorem dX11_nextToken_136 : decode cX11_nextToken 136 = .ok (.aload_n 0, 1) := by decide +kernel
theorem dX11_nextToken_137 : decode cX11_nextToken 137 = .ok (.getfield 66, 3) := by decide +kernel
theorem dX11_nextToken_140 : decode cX11_nextToken 140 = .ok (.isub, 1) := by decide +kernel
theorem dX11_nextToken_141 : decode cX11_nextToken 141 = .ok (.bipush 9, 2) := by decide +kernel
theorem dX11_nextToken_143 : decode cX11_nextToken 143 = .ok (.if_icmp .ge 29, 3) := by decide +kernel
theorem dX11_nextToken_146 : decode cX11_nextToken 146 = .ok (.ldc2_w 81, 3) := by decide +kernel
theorem dX11_nextToken_149 : decode cX11_nextToken 149 = .ok (.aload_n 0, 1) := by decide +kernel
theorem dX11_nextToken_150 : decode cX11_nextToken 150 = .ok (.getfield 77, 3) := by decide +kernel
theorem dX11_nextToken_153 : decode cX11_nextToken 153 = .ok (.lmul, 1) := by decide +kernel
theorem dX11_nextToken_154 : decode cX11_nextToken 154 = .ok (.aload_n 0, 1) := by decide +kernel
theorem dX11_nextToken_155 : decode cX11_nextToken 155 = .ok (.getfield 16, 3) := by decide +kernel
theorem dX11_nextToken_158 : decode cX11_nextToken 158 = .ok (.aload_n 0, 1) := by decide +kernel
theorem dX11_nextToken_159 : decode cX11_nextToken 159 = .ok (.getfield 63, 3) := by decide +kernel
theorem dX11_nextToken_162 : decode cX11_nextToken 162 = .ok (.iaload, 1) := by decide +kernel
theorem dX11_nextToken_163 : decode cX11_nextToken 163 = .ok (.i2l, 1) := by decide +kernel
theorem dX11_nextToken_164 : decode cX11_nextToken 164 = .ok (.ladd, 1) := by decide +kernel
theorem dX11_nextToken_165 : decode cX11_nextToken 165 = .ok (.ldc2_w 83, 3) := by decide +kernel
theorem dX11_nextToken_168 : decode cX11_nextToken 168 = .ok (.lsub, 1) := by decide +kernel
theorem dX11_nextToken_169 : decode cX11_nextToken 169 = .ok (.goto 6, 3) := by decide +kernel
theorem dX11_nextToken_172 : decode cX11_nextToken 172 = .ok (.ldc2_w 85, 3) := by decide +kernel
theorem dX11_nextToken_175 : decode cX11_nextToken 175 = .ok (.putfield 77, 3) := by decide +kernel
theorem dX11_nextToken_178 : decode cX11_nextToken 178 = .ok (.aload_n 0, 1) := by decide +kernel
theorem dX11_nextToken_179 : decode cX11_nextToken 179 = .ok (.dup, 1) := by decide +kernel
theorem dX11_nextToken_180 : decode cX11_nextToken 180 = .ok (.getfield 63, 3) := by decide +kernel
theorem dX11_nextToken_183 : decode cX11_nextToken 183 = .ok (.iconst 1, 1) := by decide +kernel
theorem dX11_nextToken_184 : decode cX11_nextToken 184 = .ok (.iadd, 1) := by decide +kernel
theorem dX11_nextToken_185 : decode cX11_nextToken 185 = .ok (.putfield 63, 3) := by decide +kernel
theorem dX11_nextToken_188 : decode cX11_nextToken 188 = .ok (.goto (-87), 3) := by decide +kernel
theorem dX11_nextToken_191 : decode cX11_nextToken 191 = .ok (.aload_n 0, 1) := by decide +kernel
theorem dX11_nextToken_192 : decode cX11_nextToken 192 = .ok (.aload_n 0, 1) := by decide +kernel
theorem dX11_nextToken_193 : decode cX11_nextToken 193 = .ok (.getfield 63, 3) := by decide +kernel
theorem dX11_nextToken_196 : decode cX11_nextToken 196 = .ok (.aload_n 0, 1) := by decide +kernel
theorem dX11_nextToken_197 : decode cX11_nextToken 197 = .ok (.getfield 66, 3) := by decide +kernel
theorem dX11_nextToken_200 : decode cX11_nextToken 200 = .ok (.isub, 1) := by decide +kernel
theorem dX11_nextToken_201 : decode cX11_nextToken 201 = .ok (.bipush 9, 2) := by decide +kernel
theorem dX11_nextToken_203 : decode cX11_nextToken 203 = .ok (.if_icmp .le 9, 3) := by decide +kernel
theorem dX11_nextToken_206 : decode cX11_nextToken 206 = .ok (.ldc2_w 85, 3) := by decide +kernel
theorem dX11_nextToken_209 : decode cX11_nextToken 209 = .ok (.goto 7, 3) := by decide +kernel
theorem dX11_nextToken_212 : decode cX11_nextToken 212 = .ok (.aload_n 0, 1) := by decide +kernel
theorem dX11_nextToken_213 : decode cX11_nextToken 213 = .ok (.getfield 77, 3) := by decide +kernel
theorem dX11_nextToken_216 : decode cX11_nextToken 216 = .ok (.putfield 77, 3) := by decide +kernel
theorem dX11_nextToken_219 : decode cX11_nextToken 219 = .ok (.goto 175, 3) := by decide +kernel
theorem dX11_nextToken_222 : decode cX11_nextToken 222 = .ok (.aload_n 0, 1) := by decide +kernel
theorem dX11_nextToken_223 : decode cX11_nextToken 223 = .ok (.getfield 16, 3) := by decide +kernel
theorem dX11_nextToken_226 : decode cX11_nextToken 226 = .ok (.aload_n 0, 1) := by decide +kernel
theorem dX11_nextToken_227 : decode cX11_nextToken 227 = .ok (.getfield 63, 3) := by decide +kernel
theorem dX11_nextToken_230 : decode cX11_nextToken 230 = .ok (.iaload, 1) := by decide +kernel
theorem dX11_nextToken_231 : decode cX11_nextToken 231 = .ok (.bipush 48, 2) := by decide +kernel
theorem dX11_nextToken_233 : decode cX11_nextToken 233 = .ok (.bipush 57, 2) := by decide +kernel
theorem dX11_nextToken_235 : decode cX11_nextToken 235 = .ok (.invokestatic 51, 3) := by decide +kernel
theorem dX11_nextToken_238 : decode cX11_nextToken 238 = .ok (.ifCond .eq 119, 3) := by decide +kernel
theorem dX11_nextToken_241 : decode cX11_nextToken 241 = .ok (.aload_n 0, 1) := by decide +kernel
theorem dX11_nextToken_242 : decode cX11_nextToken 242 = .ok (.getfield 63, 3) := by decide +kernel
theorem dX11_nextToken_245 : decode cX11_nextToken 245 = .ok (.aload_n 0, 1) := by decide +kernel
theorem dX11_nextToken_246 : decode cX11_nextToken 246 = .ok (.getfield 58, 3) := by decide +kernel
theorem dX11_nextToken_249 : decode cX11_nextToken 249 = .ok (.if_icmp .ge 84, 3) := by decide +kernel
theorem dX11_nextToken_252 : decode cX11_nextToken 252 = .ok (.aload_n 0, 1) := by decide +kernel
theorem dX11_nextToken_253 : decode cX11_nextToken 253 = .ok (.getfield 16, 3) := by decide +kernel
theorem dX11_nextToken_256 : decode cX11_nextToken 256 = .ok (.aload_n 0, 1) := by decide +kernel
theorem dX11_nextToken_257 : decode cX11_nextToken 257 = .ok (.getfield 63, 3) := by decide +kernel
theorem dX11_nextToken_260 : decode cX11_nextToken 260 = .ok (.iaload, 1) := by decide +kernel
theorem dX11_nextToken_261 : decode cX11_nextToken 261 = .ok (.bipush 48, 2) := by decide +kernel
theorem dX11_nextToken_263 : decode cX11_nextToken 263 = .ok (.bipush 57, 2) := by decide +kernel
theorem dX11_nextToken_265 : decode cX11_nextToken 265 = .ok (.invokestatic 51, 3) := by decide +kernel
theorem dX11_nextToken_268 : decode cX11_nextToken 268 = .ok (.ifCond .eq 65, 3) := by decide +kernel
theorem dX11_nextToken_271 : decode cX11_nextToken 271 = .ok (.aload_n 0, 1) := by decide +kernel
theorem dX11_nextToken_272 : decode cX11_nextToken 272 = .ok (.aload_n 0, 1) := by decide +kernel
theorem dX11_nextToken_273 : decode cX11_nextToken 273 = .ok (.getfield 69, 3) := by decide +kernel
theorem dX11_nextToken_276 : decode cX11_nextToken 276 = .ok (.iconst 3, 1) := by decide +kernel
theorem dX11_nextToken_277 : decode cX11_nextToken 277 = .ok (.if_icmp .ge 26, 3) := by decide +kernel
theorem dX11_nextToken_280 : decode cX11_nextToken 280 = .ok (.bipush 10, 2) := by decide +kernel
theorem dX11_nextToken_282 : decode cX11_nextToken 282 = .ok (.aload_n 0, 1) := by decide +kernel
theorem dX11_nextToken_283 : decode cX11_nextToken 283 = .ok (.getfield 72, 3) := by decide +kernel
theorem dX11_nextToken_286 : decode cX11_nextToken 286 = .ok (.imul, 1) := by decide +kernel
theorem dX11_nextToken_287 : decode cX11_nextToken 287 = .ok (.aload_n 0, 1) := by decide +kernel
theorem dX11_nextToken_288 : decode cX11_nextToken 288 = .ok (.getfield 16, 3) := by decide +kernel
theorem dX11_nextToken_291 : decode cX11_nextToken 291 = .ok (.aload_n 0, 1) := by decide +kernel
theorem dX11_nextToken_292 : decode cX11_nextToken 292 = .ok (.getfield 63, 3) := by decide +kernel
theorem dX11_nextToken_295 : decode cX11_nextToken 295 = .ok (.iaload, 1) := by decide +kernel
theorem dX11_nextToken_296 : decode cX11_nextToken 296 = .ok (.iadd, 1) := by decide +kernel
theorem dX11_nextToken_297 : decode cX11_nextToken 297 = .ok (.bipush 48, 2) := by decide +kernel
theorem dX11_nextToken_299 : decode cX11_nextToken 299 = .ok (.isub, 1) := by decide +kernel
theorem dX11_nextToken_300 : decode cX11_nextToken 300 = .ok (.goto 7, 3) := by decide +kernel
theorem dX11_nextToken_303 : decode cX11_nextToken 303 = .ok (.aload_n 0, 1) := by decide +kernel
theorem dX11_nextToken_304 : decode cX11_nextToken 304 = .ok (.getfield 72, 3) := by decide +kernel
theorem dX11_nextToken_307 : decode cX11_nextToken 307 = .ok (.putfield 72, 3) := by decide +kernel
theorem dX11_nextToken_310 : decode cX11_nextToken 310 = .ok (.aload_n 0, 1) := by decide +kernel
theorem dX11_nextToken_311 : decode cX11_nextToken 311 = .ok (.dup, 1) := by decide +kernel
theorem dX11_nextToken_312 : decode cX11_nextToken 312 = .ok (.getfield 69, 3) := by decide +kernel
theorem dX11_nextToken_315 : decode cX11_nextToken 315 = .ok (.iconst 1, 1) := by decide +kernel
theorem dX11_nextToken_316 : decode cX11_nextToken 316 = .ok (.iadd, 1) := by decide +kernel
theorem dX11_nextToken_317 : decode cX11_nextToken 317 = .ok (.putfield 69, 3) := by decide +kernel
theorem dX11_nextToken_320 : decode cX11_nextToken 320 = .ok (.aload_n 0, 1) := by decide +kernel
theorem dX11_nextToken_321 : decode cX11_nextToken 321 = .ok (.dup, 1) := by decide +kernel
theorem dX11_nextToken_322 : decode cX11_nextToken 322 = .ok (.getfield 63, 3) := by decide +kernel
theorem dX11_nextToken_325 : decode cX11_nextToken 325 = .ok (.iconst 1, 1) := by decide +kernel
theorem dX11_nextToken_326 : decode cX11_nextToken 326 = .ok (.iadd, 1) := by decide +kernel
theorem dX11_nextToken_327 : decode cX11_nextToken 327 = .ok (.putfield 63, 3) := by decide +kernel
theorem dX11_nextToken_330 : decode cX11_nextToken 330 = .ok (.goto (-89), 3) := by decide +kernel
theorem dX11_nextToken_333 : decode cX11_nextToken 333 = .ok (.aload_n 0, 1) := by decide +kernel
theorem dX11_nextToken_334 : decode cX11_nextToken 334 = .ok (.aload_n 0, 1) := by decide +kernel
theorem dX11_nextToken_335 : decode cX11_nextToken 335 = .ok (.getfield 69, 3) := by decide +kernel
theorem dX11_nextToken_338 : decode cX11_nextToken 338 = .ok (.iconst 3, 1) := by decide +kernel
theorem dX11_nextToken_339 : decode cX11_nextToken 339 = .ok (.if_icmp .le 9, 3) := by decide +kernel
theorem dX11_nextToken_342 : decode cX11_nextToken 342 = .ok (.ldc2_w 85, 3) := by decide +kernel
theorem dX11_nextToken_345 : decode cX11_nextToken 345 = .ok (.goto 6, 3) := by decide +kernel
theorem dX11_nextToken_348 : decode cX11_nextToken 348 = .ok (.ldc2_w 87, 3) := by decide +kernel
theorem dX11_nextToken_351 : decode cX11_nextToken 351 = .ok (.putfield 77, 3) := by decide +kernel
theorem dX11_nextToken_354 : decode cX11_nextToken 354 = .ok (.goto 40, 3) := by decide +kernel
theorem dX11_nextToken_357 : decode cX11_nextToken 357 = .ok (.aload_n 0, 1) := by decide +kernel
theorem dX11_nextToken_358 : decode cX11_nextToken 358 = .ok (.aload_n 0, 1) := by decide +kernel
theorem dX11_nextToken_359 : decode cX11_nextToken 359 = .ok (.getfield 16, 3) := by decide +kernel
theorem dX11_nextToken_362 : decode cX11_nextToken 362 = .ok (.aload_n 0, 1) := by decide +kernel
theorem dX11_nextToken_363 : decode cX11_nextToken 363 = .ok (.getfield 63, 3) := by decide +kernel
theorem dX11_nextToken_366 : decode cX11_nextToken 366 = .ok (.iaload, 1) := by decide +kernel
theorem dX11_nextToken_367 : decode cX11_nextToken 367 = .ok (.bipush 59, 2) := by decide +kernel
theorem dX11_nextToken_369 : decode cX11_nextToken 369 = .ok (.if_icmp .ne 9, 3) := by decide +kernel
theorem dX11_nextToken_372 : decode cX11_nextToken 372 = .ok (.ldc2_w 89, 3) := by decide +kernel
theorem dX11_nextToken_375 : decode cX11_nextToken 375 = .ok (.goto 6, 3) := by decide +kernel
theorem dX11_nextToken_378 : decode cX11_nextToken 378 = .ok (.ldc2_w 85, 3) := by decide +kernel
theorem dX11_nextToken_381 : decode cX11_nextToken 381 = .ok (.putfield 77, 3) := by decide +kernel
theorem dX11_nextToken_384 : decode cX11_nextToken 384 = .ok (.aload_n 0, 1) := by decide +kernel
theorem dX11_nextToken_385 : decode cX11_nextToken 385 = .ok (.dup, 1) := by decide +kernel
theorem dX11_nextToken_386 : decode cX11_nextToken 386 = .ok (.getfield 63, 3) := by decide +kernel
theorem dX11_nextToken_389 : decode cX11_nextToken 389 = .ok (.iconst 1, 1) := by decide +kernel
theorem dX11_nextToken_390 : decode cX11_nextToken 390 = .ok (.iadd, 1) := by decide +kernel
theorem dX11_nextToken_391 : decode cX11_nextToken 391 = .ok (.putfield 63, 3) := by decide +kernel
theorem dX11_nextToken_394 : decode cX11_nextToken 394 = .ok (.return_, 1) := by decide +kernel
theorem dX11_fails_0 : decode cX11_fails 0 = .ok (.aload_n 0, 1) := by decide +kernel
theorem dX11_fails_1 : decode cX11_fails 1 = .ok (.aload_n 0, 1) := by decide +kernel
theorem dX11_fails_2 : decode cX11_fails 2 = .ok (.getfield 66, 3) := by decide +kernel
theorem dX11_fails_5 : decode cX11_fails 5 = .ok (.putfield 91, 3) := by decide +kernel
theorem dX11_fails_8 : decode cX11_fails 8 = .ok (.iconst 0, 1) := by decide +kernel
theorem dX11_fails_9 : decode cX11_fails 9 = .ok (.ireturn, 1) := by decide +kernel
theorem dX11_isNumber_0 : decode cX11_isNumber 0 = .ok (.aload_n 0, 1) := by decide +kernel
theorem dX11_isNumber_1 : decode cX11_isNumber 1 = .ok (.invokevirtual 94, 3) := by decide +kernel
theorem dX11_isNumber_4 : decode cX11_isNumber 4 = .ok (.aload_n 0, 1) := by decide +kernel
theorem dX11_isNumber_5 : decode cX11_isNumber 5 = .ok (.getfield 77, 3) := by decide +kernel
theorem dX11_isNumber_8 : decode cX11_isNumber 8 = .ok (.ldc2_w 87, 3) := by decide +kernel
theorem dX11_isNumber_11 : decode cX11_isNumber 11 = .ok (.lcmp, 1) := by decide +kernel
theorem dX11_isNumber_12 : decode cX11_isNumber 12 = .ok (.ifCond .ne 15, 3) := by decide +kernel
theorem dX11_isNumber_15 : decode cX11_isNumber 15 = .ok (.aload_n 0, 1) := by decide +kernel
theorem dX11_isNumber_16 : decode cX11_isNumber 16 = .ok (.getfield 72, 3) := by decide +kernel
theorem dX11_isNumber_19 : decode cX11_isNumber 19 = .ok (.iload_n 2, 1) := by decide +kernel
theorem dX11_isNumber_20 : decode cX11_isNumber 20 = .ok (.iload_n 3, 1) := by decide +kernel
theorem dX11_isNumber_21 : decode cX11_isNumber 21 = .ok (.invokestatic 51, 3) := by decide +kernel
theorem dX11_isNumber_24 : decode cX11_isNumber 24 = .ok (.ifCond .ne 8, 3) := by decide +kernel
theorem dX11_isNumber_27 : decode cX11_isNumber 27 = .ok (.aload_n 0, 1) := by decide +kernel
theorem dX11_isNumber_28 : decode cX11_isNumber 28 = .ok (.invokevirtual 97, 3) := by decide +kernel
theorem dX11_isNumber_31 : decode cX11_isNumber 31 = .ok (.ireturn, 1) := by decide +kernel
theorem dX11_isNumber_32 : decode cX11_isNumber 32 = .ok (.aload_n 0, 1) := by decide +kernel
theorem dX11_isNumber_33 : decode cX11_isNumber 33 = .ok (.getfield 22, 3) := by decide +kernel
theorem dX11_isNumber_36 : decode cX11_isNumber 36 = .ok (.iload_n 1, 1) := by decide +kernel
theorem dX11_isNumber_37 : decode cX11_isNumber 37 = .ok (.aload_n 0, 1) := by decide +kernel
theorem dX11_isNumber_38 : decode cX11_isNumber 38 = .ok (.getfield 72, 3) := by decide +kernel
theorem dX11_isNumber_41 : decode cX11_isNumber 41 = .ok (.iastore, 1) := by decide +kernel
theorem dX11_isNumber_42 : decode cX11_isNumber 42 = .ok (.iconst 1, 1) := by decide +kernel
theorem dX11_isNumber_43 : decode cX11_isNumber 43 = .ok (.ireturn, 1) := by decide +kernel
theorem dX11_isThingLine_0 : decode cX11_isThingLine 0 = .ok (.aload_n 0, 1) := by decide +kernel
theorem dX11_isThingLine_1 : decode cX11_isThingLine 1 = .ok (.getfield 101, 3) := by decide +kernel
theorem dX11_isThingLine_4 : decode cX11_isThingLine 4 = .ok (.bipush 8, 2) := by decide +kernel
theorem dX11_isThingLine_6 : decode cX11_isThingLine 6 = .ok (.if_icmp .ne 8, 3) := by decide +kernel
theorem dX11_isThingLine_9 : decode cX11_isThingLine 9 = .ok (.aload_n 0, 1) := by decide +kernel
theorem dX11_isThingLine_10 : decode cX11_isThingLine 10 = .ok (.invokevirtual 97, 3) := by decide +kernel
theorem dX11_isThingLine_13 : decode cX11_isThingLine 13 = .ok (.ireturn, 1) := by decide +kernel
theorem dX11_isThingLine_14 : decode cX11_isThingLine 14 = .ok (.aload_n 0, 1) := by decide +kernel
theorem dX11_isThingLine_15 : decode cX11_isThingLine 15 = .ok (.getfield 19, 3) := by decide +kernel
theorem dX11_isThingLine_18 : decode cX11_isThingLine 18 = .ok (.aload_n 0, 1) := by decide +kernel
theorem dX11_isThingLine_19 : decode cX11_isThingLine 19 = .ok (.getfield 101, 3) := by decide +kernel
theorem dX11_isThingLine_22 : decode cX11_isThingLine 22 = .ok (.aload_n 0, 1) := by decide +kernel
theorem dX11_isThingLine_23 : decode cX11_isThingLine 23 = .ok (.getfield 22, 3) := by decide +kernel
theorem dX11_isThingLine_26 : decode cX11_isThingLine 26 = .ok (.iload_n 1, 1) := by decide +kernel
theorem dX11_isThingLine_27 : decode cX11_isThingLine 27 = .ok (.iaload, 1) := by decide +kernel
theorem dX11_isThingLine_28 : decode cX11_isThingLine 28 = .ok (.iastore, 1) := by decide +kernel
theorem dX11_isThingLine_29 : decode cX11_isThingLine 29 = .ok (.aload_n 0, 1) := by decide +kernel
theorem dX11_isThingLine_30 : decode cX11_isThingLine 30 = .ok (.dup, 1) := by decide +kernel
theorem dX11_isThingLine_31 : decode cX11_isThingLine 31 = .ok (.getfield 101, 3) := by decide +kernel
theorem dX11_isThingLine_34 : decode cX11_isThingLine 34 = .ok (.iconst 1, 1) := by decide +kernel
theorem dX11_isThingLine_35 : decode cX11_isThingLine 35 = .ok (.iadd, 1) := by decide +kernel
theorem dX11_isThingLine_36 : decode cX11_isThingLine 36 = .ok (.putfield 101, 3) := by decide +kernel
theorem dX11_isThingLine_39 : decode cX11_isThingLine 39 = .ok (.aload_n 0, 1) := by decide +kernel
theorem dX11_isThingLine_40 : decode cX11_isThingLine 40 = .ok (.iload_n 1, 1) := by decide +kernel
theorem dX11_isThingLine_41 : decode cX11_isThingLine 41 = .ok (.iconst 1, 1) := by decide +kernel
theorem dX11_isThingLine_42 : decode cX11_isThingLine 42 = .ok (.iadd, 1) := by decide +kernel
theorem dX11_isThingLine_43 : decode cX11_isThingLine 43 = .ok (.iconst 1, 1) := by decide +kernel
theorem dX11_isThingLine_44 : decode cX11_isThingLine 44 = .ok (.bipush 99, 2) := by decide +kernel
theorem dX11_isThingLine_46 : decode cX11_isThingLine 46 = .ok (.invokevirtual 104, 3) := by decide +kernel
theorem dX11_isThingLine_49 : decode cX11_isThingLine 49 = .ok (.ifCond .eq 19, 3) := by decide +kernel
theorem dX11_isThingLine_52 : decode cX11_isThingLine 52 = .ok (.aload_n 0, 1) := by decide +kernel
theorem dX11_isThingLine_53 : decode cX11_isThingLine 53 = .ok (.iload_n 1, 1) := by decide +kernel
theorem dX11_isThingLine_54 : decode cX11_isThingLine 54 = .ok (.iconst 2, 1) := by decide +kernel
theorem dX11_isThingLine_55 : decode cX11_isThingLine 55 = .ok (.iadd, 1) := by decide +kernel
theorem dX11_isThingLine_56 : decode cX11_isThingLine 56 = .ok (.iconst 0, 1) := by decide +kernel
theorem dX11_isThingLine_57 : decode cX11_isThingLine 57 = .ok (.iconst 1, 1) := by decide +kernel
theorem dX11_isThingLine_58 : decode cX11_isThingLine 58 = .ok (.invokevirtual 104, 3) := by decide +kernel
theorem dX11_isThingLine_61 : decode cX11_isThingLine 61 = .ok (.ifCond .eq 7, 3) := by decide +kernel
theorem dX11_isThingLine_64 : decode cX11_isThingLine 64 = .ok (.iconst 1, 1) := by decide +kernel
theorem dX11_isThingLine_65 : decode cX11_isThingLine 65 = .ok (.goto 4, 3) := by decide +kernel
theorem dX11_isThingLine_68 : decode cX11_isThingLine 68 = .ok (.iconst 0, 1) := by decide +kernel
theorem dX11_isThingLine_69 : decode cX11_isThingLine 69 = .ok (.ireturn, 1) := by decide +kernel
theorem dX11_isFerryLine_0 : decode cX11_isFerryLine 0 = .ok (.aload_n 0, 1) := by decide +kernel
theorem dX11_isFerryLine_1 : decode cX11_isFerryLine 1 = .ok (.getfield 107, 3) := by decide +kernel
theorem dX11_isFerryLine_4 : decode cX11_isFerryLine 4 = .ok (.iconst 3, 1) := by decide +kernel
theorem dX11_isFerryLine_5 : decode cX11_isFerryLine 5 = .ok (.if_icmp .ne 8, 3) := by decide +kernel
theorem dX11_isFerryLine_8 : decode cX11_isFerryLine 8 = .ok (.aload_n 0, 1) := by decide +kernel
theorem dX11_isFerryLine_9 : decode cX11_isFerryLine 9 = .ok (.invokevirtual 97, 3) := by decide +kernel
theorem dX11_isFerryLine_12 : decode cX11_isFerryLine 12 = .ok (.ireturn, 1) := by decide +kernel
theorem dX11_isFerryLine_13 : decode cX11_isFerryLine 13 = .ok (.aload_n 0, 1) := by decide +kernel
theorem dX11_isFerryLine_14 : decode cX11_isFerryLine 14 = .ok (.dup, 1) := by decide +kernel
theorem dX11_isFerryLine_15 : decode cX11_isFerryLine 15 = .ok (.getfield 107, 3) := by decide +kernel
theorem dX11_isFerryLine_18 : decode cX11_isFerryLine 18 = .ok (.iconst 1, 1) := by decide +kernel
theorem dX11_isFerryLine_19 : decode cX11_isFerryLine 19 = .ok (.iadd, 1) := by decide +kernel
theorem dX11_isFerryLine_20 : decode cX11_isFerryLine 20 = .ok (.putfield 107, 3) := by decide +kernel
theorem dX11_isFerryLine_23 : decode cX11_isFerryLine 23 = .ok (.aload_n 0, 1) := by decide +kernel
theorem dX11_isFerryLine_24 : decode cX11_isFerryLine 24 = .ok (.iload_n 1, 1) := by decide +kernel
theorem dX11_isFerryLine_25 : decode cX11_isFerryLine 25 = .ok (.iconst 1, 1) := by decide +kernel
theorem dX11_isFerryLine_26 : decode cX11_isFerryLine 26 = .ok (.iadd, 1) := by decide +kernel
theorem dX11_isFerryLine_27 : decode cX11_isFerryLine 27 = .ok (.iconst 1, 1) := by decide +kernel
theorem dX11_isFerryLine_28 : decode cX11_isFerryLine 28 = .ok (.sipush 999, 3) := by decide +kernel
theorem dX11_isFerryLine_31 : decode cX11_isFerryLine 31 = .ok (.invokevirtual 104, 3) := by decide +kernel
theorem dX11_isFerryLine_34 : decode cX11_isFerryLine 34 = .ok (.ifCond .eq 45, 3) := by decide +kernel
theorem dX11_isFerryLine_37 : decode cX11_isFerryLine 37 = .ok (.aload_n 0, 1) := by decide +kernel
theorem dX11_isFerryLine_38 : decode cX11_isFerryLine 38 = .ok (.iload_n 1, 1) := by decide +kernel
theorem dX11_isFerryLine_39 : decode cX11_isFerryLine 39 = .ok (.iconst 2, 1) := by decide +kernel
theorem dX11_isFerryLine_40 : decode cX11_isFerryLine 40 = .ok (.iadd, 1) := by decide +kernel
theorem dX11_isFerryLine_41 : decode cX11_isFerryLine 41 = .ok (.iconst 0, 1) := by decide +kernel
theorem dX11_isFerryLine_42 : decode cX11_isFerryLine 42 = .ok (.iconst 1, 1) := by decide +kernel
theorem dX11_isFerryLine_43 : decode cX11_isFerryLine 43 = .ok (.invokevirtual 104, 3) := by decide +kernel
theorem dX11_isFerryLine_46 : decode cX11_isFerryLine 46 = .ok (.ifCond .eq 33, 3) := by decide +kernel
theorem dX11_isFerryLine_49 : decode cX11_isFerryLine 49 = .ok (.aload_n 0, 1) := by decide +kernel
theorem dX11_isFerryLine_50 : decode cX11_isFerryLine 50 = .ok (.iload_n 1, 1) := by decide +kernel
theorem dX11_isFerryLine_51 : decode cX11_isFerryLine 51 = .ok (.iconst 3, 1) := by decide +kernel
theorem dX11_isFerryLine_52 : decode cX11_isFerryLine 52 = .ok (.iadd, 1) := by decide +kernel
theorem dX11_isFerryLine_53 : decode cX11_isFerryLine 53 = .ok (.iconst 1, 1) := by decide +kernel
theorem dX11_isFerryLine_54 : decode cX11_isFerryLine 54 = .ok (.bipush 8, 2) := by decide +kernel
theorem dX11_isFerryLine_56 : decode cX11_isFerryLine 56 = .ok (.invokevirtual 104, 3) := by decide +kernel
theorem dX11_isFerryLine_59 : decode cX11_isFerryLine 59 = .ok (.ifCond .eq 20, 3) := by decide +kernel
theorem dX11_isFerryLine_62 : decode cX11_isFerryLine 62 = .ok (.aload_n 0, 1) := by decide +kernel
theorem dX11_isFerryLine_63 : decode cX11_isFerryLine 63 = .ok (.iload_n 1, 1) := by decide +kernel
theorem dX11_isFerryLine_64 : decode cX11_isFerryLine 64 = .ok (.iconst 4, 1) := by decide +kernel
theorem dX11_isFerryLine_65 : decode cX11_isFerryLine 65 = .ok (.iadd, 1) := by decide +kernel
theorem dX11_isFerryLine_66 : decode cX11_isFerryLine 66 = .ok (.iconst 1, 1) := by decide +kernel
theorem dX11_isFerryLine_67 : decode cX11_isFerryLine 67 = .ok (.bipush 9, 2) := by decide +kernel
theorem dX11_isFerryLine_69 : decode cX11_isFerryLine 69 = .ok (.invokevirtual 104, 3) := by decide +kernel
theorem dX11_isFerryLine_72 : decode cX11_isFerryLine 72 = .ok (.ifCond .eq 7, 3) := by decide +kernel
theorem dX11_isFerryLine_75 : decode cX11_isFerryLine 75 = .ok (.iconst 1, 1) := by decide +kernel
theorem dX11_isFerryLine_76 : decode cX11_isFerryLine 76 = .ok (.goto 4, 3) := by decide +kernel
theorem dX11_isFerryLine_79 : decode cX11_isFerryLine 79 = .ok (.iconst 0, 1) := by decide +kernel
theorem dX11_isFerryLine_80 : decode cX11_isFerryLine 80 = .ok (.ireturn, 1) := by decide +kernel
theorem dX11_isHat_0 : decode cX11_isHat 0 = .ok (.aload_n 0, 1) := by decide +kernel
theorem dX11_isHat_1 : decode cX11_isHat 1 = .ok (.iload_n 1, 1) := by decide +kernel
theorem dX11_isHat_2 : decode cX11_isHat 2 = .ok (.iconst 1, 1) := by decide +kernel
theorem dX11_isHat_3 : decode cX11_isHat 3 = .ok (.iadd, 1) := by decide +kernel
theorem dX11_isHat_4 : decode cX11_isHat 4 = .ok (.iconst 0, 1) := by decide +kernel
theorem dX11_isHat_5 : decode cX11_isHat 5 = .ok (.aload_n 0, 1) := by decide +kernel
theorem dX11_isHat_6 : decode cX11_isHat 6 = .ok (.getfield 101, 3) := by decide +kernel
theorem dX11_isHat_9 : decode cX11_isHat 9 = .ok (.iconst 1, 1) := by decide +kernel
theorem dX11_isHat_10 : decode cX11_isHat 10 = .ok (.isub, 1) := by decide +kernel
theorem dX11_isHat_11 : decode cX11_isHat 11 = .ok (.invokevirtual 104, 3) := by decide +kernel
theorem dX11_isHat_14 : decode cX11_isHat 14 = .ok (.ifCond .ne 5, 3) := by decide +kernel
theorem dX11_isHat_17 : decode cX11_isHat 17 = .ok (.iconst 0, 1) := by decide +kernel
theorem dX11_isHat_18 : decode cX11_isHat 18 = .ok (.ireturn, 1) := by decide +kernel
theorem dX11_isHat_19 : decode cX11_isHat 19 = .ok (.aload_n 0, 1) := by decide +kernel
theorem dX11_isHat_20 : decode cX11_isHat 20 = .ok (.getfield 19, 3) := by decide +kernel
theorem dX11_isHat_23 : decode cX11_isHat 23 = .ok (.aload_n 0, 1) := by decide +kernel
theorem dX11_isHat_24 : decode cX11_isHat 24 = .ok (.getfield 22, 3) := by decide +kernel
theorem dX11_isHat_27 : decode cX11_isHat 27 = .ok (.iload_n 1, 1) := by decide +kernel
theorem dX11_isHat_28 : decode cX11_isHat 28 = .ok (.iconst 1, 1) := by decide +kernel
theorem dX11_isHat_29 : decode cX11_isHat 29 = .ok (.iadd, 1) := by decide +kernel
theorem dX11_isHat_30 : decode cX11_isHat 30 = .ok (.iaload, 1) := by decide +kernel
theorem dX11_isHat_31 : decode cX11_isHat 31 = .ok (.iaload, 1) := by decide +kernel
theorem dX11_isHat_32 : decode cX11_isHat 32 = .ok (.iconst 2, 1) := by decide +kernel
theorem dX11_isHat_33 : decode cX11_isHat 33 = .ok (.if_icmp .ge 16, 3) := by decide +kernel
theorem dX11_isHat_36 : decode cX11_isHat 36 = .ok (.aload_n 0, 1) := by decide +kernel
theorem dX11_isHat_37 : decode cX11_isHat 37 = .ok (.iload_n 1, 1) := by decide +kernel
theorem dX11_isHat_38 : decode cX11_isHat 38 = .ok (.iconst 2, 1) := by decide +kernel
theorem dX11_isHat_39 : decode cX11_isHat 39 = .ok (.iadd, 1) := by decide +kernel
theorem dX11_isHat_40 : decode cX11_isHat 40 = .ok (.iconst 0, 1) := by decide +kernel
theorem dX11_isHat_41 : decode cX11_isHat 41 = .ok (.bipush 9, 2) := by decide +kernel
theorem dX11_isHat_43 : decode cX11_isHat 43 = .ok (.invokevirtual 104, 3) := by decide +kernel
theorem dX11_isHat_46 : decode cX11_isHat 46 = .ok (.goto 7, 3) := by decide +kernel
theorem dX11_isHat_49 : decode cX11_isHat 49 = .ok (.aload_n 0, 1) := by decide +kernel
theorem dX11_isHat_50 : decode cX11_isHat 50 = .ok (.invokevirtual 97, 3) := by decide +kernel
theorem dX11_isHat_53 : decode cX11_isHat 53 = .ok (.ireturn, 1) := by decide +kernel
theorem dX11_isLine_0 : decode cX11_isLine 0 = .ok (.aload_n 0, 1) := by decide +kernel
theorem dX11_isLine_1 : decode cX11_isLine 1 = .ok (.invokevirtual 94, 3) := by decide +kernel
theorem dX11_isLine_4 : decode cX11_isLine 4 = .ok (.aload_n 0, 1) := by decide +kernel
theorem dX11_isLine_5 : decode cX11_isLine 5 = .ok (.getfield 77, 3) := by decide +kernel
theorem dX11_isLine_8 : decode cX11_isLine 8 = .ok (.ldc2_w 110, 3) := by decide +kernel
theorem dX11_isLine_11 : decode cX11_isLine 11 = .ok (.lcmp, 1) := by decide +kernel
theorem dX11_isLine_12 : decode cX11_isLine 12 = .ok (.ifCond .ne 7, 3) := by decide +kernel
theorem dX11_isLine_15 : decode cX11_isLine 15 = .ok (.iconst 0, 1) := by decide +kernel
theorem dX11_isLine_16 : decode cX11_isLine 16 = .ok (.goto 79, 3) := by decide +kernel
theorem dX11_isLine_19 : decode cX11_isLine 19 = .ok (.aload_n 0, 1) := by decide +kernel
theorem dX11_isLine_20 : decode cX11_isLine 20 = .ok (.getfield 77, 3) := by decide +kernel
theorem dX11_isLine_23 : decode cX11_isLine 23 = .ok (.ldc2_w 112, 3) := by decide +kernel
theorem dX11_isLine_26 : decode cX11_isLine 26 = .ok (.lcmp, 1) := by decide +kernel
theorem dX11_isLine_27 : decode cX11_isLine 27 = .ok (.ifCond .ne 7, 3) := by decide +kernel
theorem dX11_isLine_30 : decode cX11_isLine 30 = .ok (.iconst 1, 1) := by decide +kernel
theorem dX11_isLine_31 : decode cX11_isLine 31 = .ok (.goto 64, 3) := by decide +kernel
theorem dX11_isLine_34 : decode cX11_isLine 34 = .ok (.aload_n 0, 1) := by decide +kernel
theorem dX11_isLine_35 : decode cX11_isLine 35 = .ok (.getfield 77, 3) := by decide +kernel
theorem dX11_isLine_38 : decode cX11_isLine 38 = .ok (.ldc2_w 114, 3) := by decide +kernel
theorem dX11_isLine_41 : decode cX11_isLine 41 = .ok (.lcmp, 1) := by decide +kernel
theorem dX11_isLine_42 : decode cX11_isLine 42 = .ok (.ifCond .ne 7, 3) := by decide +kernel
theorem dX11_isLine_45 : decode cX11_isLine 45 = .ok (.iconst 2, 1) := by decide +kernel
theorem dX11_isLine_46 : decode cX11_isLine 46 = .ok (.goto 49, 3) := by decide +kernel
theorem dX11_isLine_49 : decode cX11_isLine 49 = .ok (.aload_n 0, 1) := by decide +kernel
theorem dX11_isLine_50 : decode cX11_isLine 50 = .ok (.getfield 77, 3) := by decide +kernel
theorem dX11_isLine_53 : decode cX11_isLine 53 = .ok (.ldc2_w 116, 3) := by decide +kernel
theorem dX11_isLine_56 : decode cX11_isLine 56 = .ok (.lcmp, 1) := by decide +kernel
theorem dX11_isLine_57 : decode cX11_isLine 57 = .ok (.ifCond .ne 7, 3) := by decide +kernel
theorem dX11_isLine_60 : decode cX11_isLine 60 = .ok (.iconst 3, 1) := by decide +kernel
theorem dX11_isLine_61 : decode cX11_isLine 61 = .ok (.goto 34, 3) := by decide +kernel
theorem dX11_isLine_64 : decode cX11_isLine 64 = .ok (.aload_n 0, 1) := by decide +kernel
theorem dX11_isLine_65 : decode cX11_isLine 65 = .ok (.getfield 77, 3) := by decide +kernel
theorem dX11_isLine_68 : decode cX11_isLine 68 = .ok (.ldc2_w 118, 3) := by decide +kernel
theorem dX11_isLine_71 : decode cX11_isLine 71 = .ok (.lcmp, 1) := by decide +kernel
theorem dX11_isLine_72 : decode cX11_isLine 72 = .ok (.ifCond .ne 7, 3) := by decide +kernel
theorem dX11_isLine_75 : decode cX11_isLine 75 = .ok (.iconst 4, 1) := by decide +kernel
theorem dX11_isLine_76 : decode cX11_isLine 76 = .ok (.goto 19, 3) := by decide +kernel
theorem dX11_isLine_79 : decode cX11_isLine 79 = .ok (.aload_n 0, 1) := by decide +kernel
theorem dX11_isLine_80 : decode cX11_isLine 80 = .ok (.getfield 77, 3) := by decide +kernel
theorem dX11_isLine_83 : decode cX11_isLine 83 = .ok (.ldc2_w 120, 3) := by decide +kernel
theorem dX11_isLine_86 : decode cX11_isLine 86 = .ok (.lcmp, 1) := by decide +kernel
theorem dX11_isLine_87 : decode cX11_isLine 87 = .ok (.ifCond .ne 7, 3) := by decide +kernel
theorem dX11_isLine_90 : decode cX11_isLine 90 = .ok (.iconst 5, 1) := by decide +kernel
theorem dX11_isLine_91 : decode cX11_isLine 91 = .ok (.goto 4, 3) := by decide +kernel
theorem dX11_isLine_94 : decode cX11_isLine 94 = .ok (.iconst (-1), 1) := by decide +kernel
theorem dX11_isLine_95 : decode cX11_isLine 95 = .ok (.istore_n 2, 1) := by decide +kernel
theorem dX11_isLine_96 : decode cX11_isLine 96 = .ok (.aload_n 0, 1) := by decide +kernel
theorem dX11_isLine_97 : decode cX11_isLine 97 = .ok (.getfield 77, 3) := by decide +kernel
theorem dX11_isLine_100 : decode cX11_isLine 100 = .ok (.ldc2_w 122, 3) := by decide +kernel
theorem dX11_isLine_103 : decode cX11_isLine 103 = .ok (.lcmp, 1) := by decide +kernel
theorem dX11_isLine_104 : decode cX11_isLine 104 = .ok (.ifCond .ne 8, 3) := by decide +kernel
theorem dX11_isLine_107 : decode cX11_isLine 107 = .ok (.bipush 6, 2) := by decide +kernel
end
section
theorem dX11_isLine_109 : decode cX11_isLine 109 = .ok (.goto 68, 3) := by decide +kernel
theorem dX11_isLine_112 : decode cX11_isLine 112 = .ok (.aload_n 0, 1) := by decide +kernel
theorem dX11_isLine_113 : decode cX11_isLine 113 = .ok (.getfield 77, 3) := by decide +kernel
theorem dX11_isLine_116 : decode cX11_isLine 116 = .ok (.ldc2_w 124, 3) := by decide +kernel
theorem dX11_isLine_119 : decode cX11_isLine 119 = .ok (.lcmp, 1) := by decide +kernel
theorem dX11_isLine_120 : decode cX11_isLine 120 = .ok (.ifCond .ne 8, 3) := by decide +kernel
theorem dX11_isLine_123 : decode cX11_isLine 123 = .ok (.bipush 7, 2) := by decide +kernel
theorem dX11_isLine_125 : decode cX11_isLine 125 = .ok (.goto 52, 3) := by decide +kernel
theorem dX11_isLine_128 : decode cX11_isLine 128 = .ok (.aload_n 0, 1) := by decide +kernel
theorem dX11_isLine_129 : decode cX11_isLine 129 = .ok (.getfield 77, 3) := by decide +kernel
theorem dX11_isLine_132 : decode cX11_isLine 132 = .ok (.ldc2_w 126, 3) := by decide +kernel
theorem dX11_isLine_135 : decode cX11_isLine 135 = .ok (.lcmp, 1) := by decide +kernel
theorem dX11_isLine_136 : decode cX11_isLine 136 = .ok (.ifCond .ne 8, 3) := by decide +kernel
theorem dX11_isLine_139 : decode cX11_isLine 139 = .ok (.bipush 8, 2) := by decide +kernel
theorem dX11_isLine_141 : decode cX11_isLine 141 = .ok (.goto 36, 3) := by decide +kernel
theorem dX11_isLine_144 : decode cX11_isLine 144 = .ok (.aload_n 0, 1) := by decide +kernel
theorem dX11_isLine_145 : decode cX11_isLine 145 = .ok (.getfield 77, 3) := by decide +kernel
theorem dX11_isLine_148 : decode cX11_isLine 148 = .ok (.ldc2_w 128, 3) := by decide +kernel
theorem dX11_isLine_151 : decode cX11_isLine 151 = .ok (.lcmp, 1) := by decide +kernel
theorem dX11_isLine_152 : decode cX11_isLine 152 = .ok (.ifCond .ne 8, 3) := by decide +kernel
theorem dX11_isLine_155 : decode cX11_isLine 155 = .ok (.bipush 9, 2) := by decide +kernel
theorem dX11_isLine_157 : decode cX11_isLine 157 = .ok (.goto 20, 3) := by decide +kernel
theorem dX11_isLine_160 : decode cX11_isLine 160 = .ok (.aload_n 0, 1) := by decide +kernel
theorem dX11_isLine_161 : decode cX11_isLine 161 = .ok (.getfield 77, 3) := by decide +kernel
theorem dX11_isLine_164 : decode cX11_isLine 164 = .ok (.ldc2_w 130, 3) := by decide +kernel
theorem dX11_isLine_167 : decode cX11_isLine 167 = .ok (.lcmp, 1) := by decide +kernel
theorem dX11_isLine_168 : decode cX11_isLine 168 = .ok (.ifCond .ne 8, 3) := by decide +kernel
theorem dX11_isLine_171 : decode cX11_isLine 171 = .ok (.bipush 10, 2) := by decide +kernel
theorem dX11_isLine_173 : decode cX11_isLine 173 = .ok (.goto 4, 3) := by decide +kernel
theorem dX11_isLine_176 : decode cX11_isLine 176 = .ok (.iconst (-1), 1) := by decide +kernel
theorem dX11_isLine_177 : decode cX11_isLine 177 = .ok (.istore_n 3, 1) := by decide +kernel
theorem dX11_isLine_178 : decode cX11_isLine 178 = .ok (.aload_n 0, 1) := by decide +kernel
theorem dX11_isLine_179 : decode cX11_isLine 179 = .ok (.getfield 22, 3) := by decide +kernel
theorem dX11_isLine_182 : decode cX11_isLine 182 = .ok (.iload_n 1, 1) := by decide +kernel
theorem dX11_isLine_183 : decode cX11_isLine 183 = .ok (.iload_n 2, 1) := by decide +kernel
theorem dX11_isLine_184 : decode cX11_isLine 184 = .ok (.iconst (-1), 1) := by decide +kernel
theorem dX11_isLine_185 : decode cX11_isLine 185 = .ok (.if_icmp .ne 7, 3) := by decide +kernel
theorem dX11_isLine_188 : decode cX11_isLine 188 = .ok (.iload_n 3, 1) := by decide +kernel
theorem dX11_isLine_189 : decode cX11_isLine 189 = .ok (.goto 4, 3) := by decide +kernel
theorem dX11_isLine_192 : decode cX11_isLine 192 = .ok (.iload_n 2, 1) := by decide +kernel
theorem dX11_isLine_193 : decode cX11_isLine 193 = .ok (.iastore, 1) := by decide +kernel
theorem dX11_isLine_194 : decode cX11_isLine 194 = .ok (.aload_n 0, 1) := by decide +kernel
theorem dX11_isLine_195 : decode cX11_isLine 195 = .ok (.getfield 22, 3) := by decide +kernel
theorem dX11_isLine_198 : decode cX11_isLine 198 = .ok (.iload_n 1, 1) := by decide +kernel
theorem dX11_isLine_199 : decode cX11_isLine 199 = .ok (.iaload, 1) := by decide +kernel
theorem dX11_isLine_200 : decode cX11_isLine 200 = .ok (.tableswitch 141 0 10 #[60, 60, 60, 60, 66, 66, 66, 72, 84, 90, 126], 60) := by decide +kernel
theorem dX11_isLine_260 : decode cX11_isLine 260 = .ok (.aload_n 0, 1) := by decide +kernel
theorem dX11_isLine_261 : decode cX11_isLine 261 = .ok (.iload_n 1, 1) := by decide +kernel
theorem dX11_isLine_262 : decode cX11_isLine 262 = .ok (.invokevirtual 132, 3) := by decide +kernel
theorem dX11_isLine_265 : decode cX11_isLine 265 = .ok (.ireturn, 1) := by decide +kernel
theorem dX11_isLine_266 : decode cX11_isLine 266 = .ok (.aload_n 0, 1) := by decide +kernel
theorem dX11_isLine_267 : decode cX11_isLine 267 = .ok (.iload_n 1, 1) := by decide +kernel
theorem dX11_isLine_268 : decode cX11_isLine 268 = .ok (.invokevirtual 136, 3) := by decide +kernel
theorem dX11_isLine_271 : decode cX11_isLine 271 = .ok (.ireturn, 1) := by decide +kernel
theorem dX11_isLine_272 : decode cX11_isLine 272 = .ok (.aload_n 0, 1) := by decide +kernel
theorem dX11_isLine_273 : decode cX11_isLine 273 = .ok (.iconst 0, 1) := by decide +kernel
theorem dX11_isLine_274 : decode cX11_isLine 274 = .ok (.putfield 101, 3) := by decide +kernel
theorem dX11_isLine_277 : decode cX11_isLine 277 = .ok (.aload_n 0, 1) := by decide +kernel
theorem dX11_isLine_278 : decode cX11_isLine 278 = .ok (.iconst 0, 1) := by decide +kernel
theorem dX11_isLine_279 : decode cX11_isLine 279 = .ok (.putfield 107, 3) := by decide +kernel
theorem dX11_isLine_282 : decode cX11_isLine 282 = .ok (.iconst 1, 1) := by decide +kernel
theorem dX11_isLine_283 : decode cX11_isLine 283 = .ok (.ireturn, 1) := by decide +kernel
theorem dX11_isLine_284 : decode cX11_isLine 284 = .ok (.aload_n 0, 1) := by decide +kernel
theorem dX11_isLine_285 : decode cX11_isLine 285 = .ok (.iload_n 1, 1) := by decide +kernel
theorem dX11_isLine_286 : decode cX11_isLine 286 = .ok (.invokevirtual 139, 3) := by decide +kernel
theorem dX11_isLine_289 : decode cX11_isLine 289 = .ok (.ireturn, 1) := by decide +kernel
theorem dX11_isLine_290 : decode cX11_isLine 290 = .ok (.aload_n 0, 1) := by decide +kernel
theorem dX11_isLine_291 : decode cX11_isLine 291 = .ok (.iload_n 1, 1) := by decide +kernel
theorem dX11_isLine_292 : decode cX11_isLine 292 = .ok (.iconst 1, 1) := by decide +kernel
theorem dX11_isLine_293 : decode cX11_isLine 293 = .ok (.iadd, 1) := by decide +kernel
theorem dX11_isLine_294 : decode cX11_isLine 294 = .ok (.iconst 0, 1) := by decide +kernel
theorem dX11_isLine_295 : decode cX11_isLine 295 = .ok (.aload_n 0, 1) := by decide +kernel
theorem dX11_isLine_296 : decode cX11_isLine 296 = .ok (.getfield 101, 3) := by decide +kernel
theorem dX11_isLine_299 : decode cX11_isLine 299 = .ok (.iconst 1, 1) := by decide +kernel
theorem dX11_isLine_300 : decode cX11_isLine 300 = .ok (.isub, 1) := by decide +kernel
theorem dX11_isLine_301 : decode cX11_isLine 301 = .ok (.invokevirtual 104, 3) := by decide +kernel
theorem dX11_isLine_304 : decode cX11_isLine 304 = .ok (.ifCond .eq 20, 3) := by decide +kernel
theorem dX11_isLine_307 : decode cX11_isLine 307 = .ok (.aload_n 0, 1) := by decide +kernel
theorem dX11_isLine_308 : decode cX11_isLine 308 = .ok (.iload_n 1, 1) := by decide +kernel
theorem dX11_isLine_309 : decode cX11_isLine 309 = .ok (.iconst 2, 1) := by decide +kernel
theorem dX11_isLine_310 : decode cX11_isLine 310 = .ok (.iadd, 1) := by decide +kernel
theorem dX11_isLine_311 : decode cX11_isLine 311 = .ok (.iconst 0, 1) := by decide +kernel
theorem dX11_isLine_312 : decode cX11_isLine 312 = .ok (.bipush 9, 2) := by decide +kernel
theorem dX11_isLine_314 : decode cX11_isLine 314 = .ok (.invokevirtual 104, 3) := by decide +kernel
theorem dX11_isLine_317 : decode cX11_isLine 317 = .ok (.ifCond .eq 7, 3) := by decide +kernel
theorem dX11_isLine_320 : decode cX11_isLine 320 = .ok (.iconst 1, 1) := by decide +kernel
theorem dX11_isLine_321 : decode cX11_isLine 321 = .ok (.goto 4, 3) := by decide +kernel
theorem dX11_isLine_324 : decode cX11_isLine 324 = .ok (.iconst 0, 1) := by decide +kernel
theorem dX11_isLine_325 : decode cX11_isLine 325 = .ok (.ireturn, 1) := by decide +kernel
theorem dX11_isLine_326 : decode cX11_isLine 326 = .ok (.aload_n 0, 1) := by decide +kernel
theorem dX11_isLine_327 : decode cX11_isLine 327 = .ok (.iload_n 1, 1) := by decide +kernel
theorem dX11_isLine_328 : decode cX11_isLine 328 = .ok (.iconst 1, 1) := by decide +kernel
theorem dX11_isLine_329 : decode cX11_isLine 329 = .ok (.iadd, 1) := by decide +kernel
theorem dX11_isLine_330 : decode cX11_isLine 330 = .ok (.iconst 0, 1) := by decide +kernel
theorem dX11_isLine_331 : decode cX11_isLine 331 = .ok (.aload_n 0, 1) := by decide +kernel
theorem dX11_isLine_332 : decode cX11_isLine 332 = .ok (.getfield 101, 3) := by decide +kernel
theorem dX11_isLine_335 : decode cX11_isLine 335 = .ok (.iconst 1, 1) := by decide +kernel
theorem dX11_isLine_336 : decode cX11_isLine 336 = .ok (.isub, 1) := by decide +kernel
theorem dX11_isLine_337 : decode cX11_isLine 337 = .ok (.invokevirtual 104, 3) := by decide +kernel
theorem dX11_isLine_340 : decode cX11_isLine 340 = .ok (.ireturn, 1) := by decide +kernel
theorem dX11_isLine_341 : decode cX11_isLine 341 = .ok (.aload_n 0, 1) := by decide +kernel
theorem dX11_isLine_342 : decode cX11_isLine 342 = .ok (.invokevirtual 97, 3) := by decide +kernel
theorem dX11_isLine_345 : decode cX11_isLine 345 = .ok (.ireturn, 1) := by decide +kernel
theorem dX11_isRead_0 : decode cX11_isRead 0 = .ok (.aload_n 0, 1) := by decide +kernel
theorem dX11_isRead_1 : decode cX11_isRead 1 = .ok (.iconst 0, 1) := by decide +kernel
theorem dX11_isRead_2 : decode cX11_isRead 2 = .ok (.putfield 63, 3) := by decide +kernel
theorem dX11_isRead_5 : decode cX11_isRead 5 = .ok (.aload_n 0, 1) := by decide +kernel
theorem dX11_isRead_6 : decode cX11_isRead 6 = .ok (.iconst 0, 1) := by decide +kernel
theorem dX11_isRead_7 : decode cX11_isRead 7 = .ok (.putfield 142, 3) := by decide +kernel
theorem dX11_isRead_10 : decode cX11_isRead 10 = .ok (.aload_n 0, 1) := by decide +kernel
theorem dX11_isRead_11 : decode cX11_isRead 11 = .ok (.aload_n 0, 1) := by decide +kernel
theorem dX11_isRead_12 : decode cX11_isRead 12 = .ok (.getfield 47, 3) := by decide +kernel
theorem dX11_isRead_15 : decode cX11_isRead 15 = .ok (.putfield 101, 3) := by decide +kernel
theorem dX11_isRead_18 : decode cX11_isRead 18 = .ok (.aload_n 0, 1) := by decide +kernel
theorem dX11_isRead_19 : decode cX11_isRead 19 = .ok (.aload_n 0, 1) := by decide +kernel
theorem dX11_isRead_20 : decode cX11_isRead 20 = .ok (.getfield 55, 3) := by decide +kernel
theorem dX11_isRead_23 : decode cX11_isRead 23 = .ok (.putfield 107, 3) := by decide +kernel
theorem dX11_isRead_26 : decode cX11_isRead 26 = .ok (.iconst 0, 1) := by decide +kernel
theorem dX11_isRead_27 : decode cX11_isRead 27 = .ok (.istore_n 1, 1) := by decide +kernel
theorem dX11_isRead_28 : decode cX11_isRead 28 = .ok (.iload_n 1, 1) := by decide +kernel
theorem dX11_isRead_29 : decode cX11_isRead 29 = .ok (.aload_n 0, 1) := by decide +kernel
theorem dX11_isRead_30 : decode cX11_isRead 30 = .ok (.getfield 47, 3) := by decide +kernel
theorem dX11_isRead_33 : decode cX11_isRead 33 = .ok (.if_icmp .ge 24, 3) := by decide +kernel
theorem dX11_isRead_36 : decode cX11_isRead 36 = .ok (.aload_n 0, 1) := by decide +kernel
theorem dX11_isRead_37 : decode cX11_isRead 37 = .ok (.getfield 19, 3) := by decide +kernel
theorem dX11_isRead_40 : decode cX11_isRead 40 = .ok (.iload_n 1, 1) := by decide +kernel
theorem dX11_isRead_41 : decode cX11_isRead 41 = .ok (.aload_n 0, 1) := by decide +kernel
theorem dX11_isRead_42 : decode cX11_isRead 42 = .ok (.getfield 7, 3) := by decide +kernel
theorem dX11_isRead_45 : decode cX11_isRead 45 = .ok (.bipush 6, 2) := by decide +kernel
theorem dX11_isRead_47 : decode cX11_isRead 47 = .ok (.iload_n 1, 1) := by decide +kernel
theorem dX11_isRead_48 : decode cX11_isRead 48 = .ok (.imul, 1) := by decide +kernel
theorem dX11_isRead_49 : decode cX11_isRead 49 = .ok (.iaload, 1) := by decide +kernel
theorem dX11_isRead_50 : decode cX11_isRead 50 = .ok (.iastore, 1) := by decide +kernel
theorem dX11_isRead_51 : decode cX11_isRead 51 = .ok (.iinc 1 1, 3) := by decide +kernel
theorem dX11_isRead_54 : decode cX11_isRead 54 = .ok (.goto (-26), 3) := by decide +kernel
theorem dX11_isRead_57 : decode cX11_isRead 57 = .ok (.iconst 1, 1) := by decide +kernel
theorem dX11_isRead_58 : decode cX11_isRead 58 = .ok (.istore_n 1, 1) := by decide +kernel
theorem dX11_isRead_59 : decode cX11_isRead 59 = .ok (.iload_n 1, 1) := by decide +kernel
theorem dX11_isRead_60 : decode cX11_isRead 60 = .ok (.ifCond .eq 61, 3) := by decide +kernel
theorem dX11_isRead_63 : decode cX11_isRead 63 = .ok (.aload_n 0, 1) := by decide +kernel
theorem dX11_isRead_64 : decode cX11_isRead 64 = .ok (.iconst 5, 1) := by decide +kernel
theorem dX11_isRead_65 : decode cX11_isRead 65 = .ok (.aload_n 0, 1) := by decide +kernel
theorem dX11_isRead_66 : decode cX11_isRead 66 = .ok (.getfield 142, 3) := by decide +kernel
theorem dX11_isRead_69 : decode cX11_isRead 69 = .ok (.imul, 1) := by decide +kernel
theorem dX11_isRead_70 : decode cX11_isRead 70 = .ok (.invokevirtual 145, 3) := by decide +kernel
theorem dX11_isRead_73 : decode cX11_isRead 73 = .ok (.ifCond .ne 5, 3) := by decide +kernel
theorem dX11_isRead_76 : decode cX11_isRead 76 = .ok (.iconst 0, 1) := by decide +kernel
theorem dX11_isRead_77 : decode cX11_isRead 77 = .ok (.ireturn, 1) := by decide +kernel
theorem dX11_isRead_78 : decode cX11_isRead 78 = .ok (.aload_n 0, 1) := by decide +kernel
theorem dX11_isRead_79 : decode cX11_isRead 79 = .ok (.dup, 1) := by decide +kernel
theorem dX11_isRead_80 : decode cX11_isRead 80 = .ok (.getfield 142, 3) := by decide +kernel
theorem dX11_isRead_83 : decode cX11_isRead 83 = .ok (.iconst 1, 1) := by decide +kernel
theorem dX11_isRead_84 : decode cX11_isRead 84 = .ok (.iadd, 1) := by decide +kernel
theorem dX11_isRead_85 : decode cX11_isRead 85 = .ok (.putfield 142, 3) := by decide +kernel
theorem dX11_isRead_88 : decode cX11_isRead 88 = .ok (.aload_n 0, 1) := by decide +kernel
theorem dX11_isRead_89 : decode cX11_isRead 89 = .ok (.invokevirtual 94, 3) := by decide +kernel
theorem dX11_isRead_92 : decode cX11_isRead 92 = .ok (.aload_n 0, 1) := by decide +kernel
theorem dX11_isRead_93 : decode cX11_isRead 93 = .ok (.getfield 77, 3) := by decide +kernel
theorem dX11_isRead_96 : decode cX11_isRead 96 = .ok (.ldc2_w 89, 3) := by decide +kernel
theorem dX11_isRead_99 : decode cX11_isRead 99 = .ok (.lcmp, 1) := by decide +kernel
theorem dX11_isRead_100 : decode cX11_isRead 100 = .ok (.ifCond .ne 16, 3) := by decide +kernel
theorem dX11_isRead_103 : decode cX11_isRead 103 = .ok (.aload_n 0, 1) := by decide +kernel
theorem dX11_isRead_104 : decode cX11_isRead 104 = .ok (.getfield 142, 3) := by decide +kernel
theorem dX11_isRead_107 : decode cX11_isRead 107 = .ok (.bipush 12, 2) := by decide +kernel
theorem dX11_isRead_109 : decode cX11_isRead 109 = .ok (.if_icmp .ge 7, 3) := by decide +kernel
theorem dX11_isRead_112 : decode cX11_isRead 112 = .ok (.iconst 1, 1) := by decide +kernel
theorem dX11_isRead_113 : decode cX11_isRead 113 = .ok (.goto 4, 3) := by decide +kernel
theorem dX11_isRead_116 : decode cX11_isRead 116 = .ok (.iconst 0, 1) := by decide +kernel
theorem dX11_isRead_117 : decode cX11_isRead 117 = .ok (.istore_n 1, 1) := by decide +kernel
theorem dX11_isRead_118 : decode cX11_isRead 118 = .ok (.goto (-59), 3) := by decide +kernel
theorem dX11_isRead_121 : decode cX11_isRead 121 = .ok (.aload_n 0, 1) := by decide +kernel
theorem dX11_isRead_122 : decode cX11_isRead 122 = .ok (.getfield 77, 3) := by decide +kernel
theorem dX11_isRead_125 : decode cX11_isRead 125 = .ok (.ldc2_w 75, 3) := by decide +kernel
theorem dX11_isRead_128 : decode cX11_isRead 128 = .ok (.lcmp, 1) := by decide +kernel
theorem dX11_isRead_129 : decode cX11_isRead 129 = .ok (.ifCond .eq 10, 3) := by decide +kernel
theorem dX11_isRead_132 : decode cX11_isRead 132 = .ok (.aload_n 0, 1) := by decide +kernel
theorem dX11_isRead_133 : decode cX11_isRead 133 = .ok (.invokevirtual 97, 3) := by decide +kernel
theorem dX11_isRead_136 : decode cX11_isRead 136 = .ok (.ifCond .eq 7, 3) := by decide +kernel
theorem dX11_isRead_139 : decode cX11_isRead 139 = .ok (.iconst 1, 1) := by decide +kernel
theorem dX11_isRead_140 : decode cX11_isRead 140 = .ok (.goto 4, 3) := by decide +kernel
theorem dX11_isRead_143 : decode cX11_isRead 143 = .ok (.iconst 0, 1) := by decide +kernel
theorem dX11_isRead_144 : decode cX11_isRead 144 = .ok (.ireturn, 1) := by decide +kernel
theorem dX11_fault_0 : decode cX11_fault 0 = .ok (.aload_n 0, 1) := by decide +kernel
theorem dX11_fault_1 : decode cX11_fault 1 = .ok (.invokevirtual 148, 3) := by decide +kernel
theorem dX11_fault_4 : decode cX11_fault 4 = .ok (.ifCond .eq 7, 3) := by decide +kernel
theorem dX11_fault_7 : decode cX11_fault 7 = .ok (.iconst (-1), 1) := by decide +kernel
theorem dX11_fault_8 : decode cX11_fault 8 = .ok (.goto 7, 3) := by decide +kernel
theorem dX11_fault_11 : decode cX11_fault 11 = .ok (.aload_n 0, 1) := by decide +kernel
theorem dX11_fault_12 : decode cX11_fault 12 = .ok (.getfield 91, 3) := by decide +kernel
theorem dX11_fault_15 : decode cX11_fault 15 = .ok (.ireturn, 1) := by decide +kernel
theorem dX11_doLine_0 : decode cX11_doLine 0 = .ok (.aload_n 0, 1) := by decide +kernel
theorem dX11_doLine_1 : decode cX11_doLine 1 = .ok (.getfield 22, 3) := by decide +kernel
theorem dX11_doLine_4 : decode cX11_doLine 4 = .ok (.iload_n 1, 1) := by decide +kernel
theorem dX11_doLine_5 : decode cX11_doLine 5 = .ok (.iconst 1, 1) := by decide +kernel
theorem dX11_doLine_6 : decode cX11_doLine 6 = .ok (.iadd, 1) := by decide +kernel
theorem dX11_doLine_7 : decode cX11_doLine 7 = .ok (.iaload, 1) := by decide +kernel
theorem dX11_doLine_8 : decode cX11_doLine 8 = .ok (.istore_n 2, 1) := by decide +kernel
theorem dX11_doLine_9 : decode cX11_doLine 9 = .ok (.aload_n 0, 1) := by decide +kernel
theorem dX11_doLine_10 : decode cX11_doLine 10 = .ok (.getfield 22, 3) := by decide +kernel
theorem dX11_doLine_13 : decode cX11_doLine 13 = .ok (.iload_n 1, 1) := by decide +kernel
theorem dX11_doLine_14 : decode cX11_doLine 14 = .ok (.iconst 2, 1) := by decide +kernel
theorem dX11_doLine_15 : decode cX11_doLine 15 = .ok (.iadd, 1) := by decide +kernel
theorem dX11_doLine_16 : decode cX11_doLine 16 = .ok (.iaload, 1) := by decide +kernel
theorem dX11_doLine_17 : decode cX11_doLine 17 = .ok (.istore_n 3, 1) := by decide +kernel
theorem dX11_doLine_18 : decode cX11_doLine 18 = .ok (.aload_n 0, 1) := by decide +kernel
theorem dX11_doLine_19 : decode cX11_doLine 19 = .ok (.getfield 22, 3) := by decide +kernel
theorem dX11_doLine_22 : decode cX11_doLine 22 = .ok (.iload_n 1, 1) := by decide +kernel
theorem dX11_doLine_23 : decode cX11_doLine 23 = .ok (.iaload, 1) := by decide +kernel
theorem dX11_doLine_24 : decode cX11_doLine 24 = .ok (.tableswitch 232 0 9 #[56, 56, 56, 56, 119, 119, 119, 189, 202, 217], 56) := by decide +kernel
theorem dX11_doLine_80 : decode cX11_doLine 80 = .ok (.iconst 0, 1) := by decide +kernel
theorem dX11_doLine_81 : decode cX11_doLine 81 = .ok (.istore 4, 2) := by decide +kernel
theorem dX11_doLine_83 : decode cX11_doLine 83 = .ok (.iload 4, 2) := by decide +kernel
theorem dX11_doLine_85 : decode cX11_doLine 85 = .ok (.bipush 6, 2) := by decide +kernel
theorem dX11_doLine_87 : decode cX11_doLine 87 = .ok (.if_icmp .ge 43, 3) := by decide +kernel
theorem dX11_doLine_90 : decode cX11_doLine 90 = .ok (.aload_n 0, 1) := by decide +kernel
theorem dX11_doLine_91 : decode cX11_doLine 91 = .ok (.getfield 7, 3) := by decide +kernel
theorem dX11_doLine_94 : decode cX11_doLine 94 = .ok (.bipush 6, 2) := by decide +kernel
theorem dX11_doLine_96 : decode cX11_doLine 96 = .ok (.aload_n 0, 1) := by decide +kernel
theorem dX11_doLine_97 : decode cX11_doLine 97 = .ok (.getfield 47, 3) := by decide +kernel
theorem dX11_doLine_100 : decode cX11_doLine 100 = .ok (.imul, 1) := by decide +kernel
theorem dX11_doLine_101 : decode cX11_doLine 101 = .ok (.iload 4, 2) := by decide +kernel
theorem dX11_doLine_103 : decode cX11_doLine 103 = .ok (.iadd, 1) := by decide +kernel
theorem dX11_doLine_104 : decode cX11_doLine 104 = .ok (.iload 4, 2) := by decide +kernel
theorem dX11_doLine_106 : decode cX11_doLine 106 = .ok (.iconst 3, 1) := by decide +kernel
theorem dX11_doLine_107 : decode cX11_doLine 107 = .ok (.if_icmp .ge 15, 3) := by decide +kernel
theorem dX11_doLine_110 : decode cX11_doLine 110 = .ok (.aload_n 0, 1) := by decide +kernel
theorem dX11_doLine_111 : decode cX11_doLine 111 = .ok (.getfield 22, 3) := by decide +kernel
theorem dX11_doLine_114 : decode cX11_doLine 114 = .ok (.iload_n 1, 1) := by decide +kernel
theorem dX11_doLine_115 : decode cX11_doLine 115 = .ok (.iload 4, 2) := by decide +kernel
theorem dX11_doLine_117 : decode cX11_doLine 117 = .ok (.iadd, 1) := by decide +kernel
theorem dX11_doLine_118 : decode cX11_doLine 118 = .ok (.iaload, 1) := by decide +kernel
theorem dX11_doLine_119 : decode cX11_doLine 119 = .ok (.goto 4, 3) := by decide +kernel
theorem dX11_doLine_122 : decode cX11_doLine 122 = .ok (.iconst 0, 1) := by decide +kernel
theorem dX11_doLine_123 : decode cX11_doLine 123 = .ok (.iastore, 1) := by decide +kernel
theorem dX11_doLine_124 : decode cX11_doLine 124 = .ok (.iinc 4 1, 3) := by decide +kernel
theorem dX11_doLine_127 : decode cX11_doLine 127 = .ok (.goto (-44), 3) := by decide +kernel
theorem dX11_doLine_130 : decode cX11_doLine 130 = .ok (.aload_n 0, 1) := by decide +kernel
theorem dX11_doLine_131 : decode cX11_doLine 131 = .ok (.dup, 1) := by decide +kernel
theorem dX11_doLine_132 : decode cX11_doLine 132 = .ok (.getfield 47, 3) := by decide +kernel
theorem dX11_doLine_135 : decode cX11_doLine 135 = .ok (.iconst 1, 1) := by decide +kernel
theorem dX11_doLine_136 : decode cX11_doLine 136 = .ok (.iadd, 1) := by decide +kernel
theorem dX11_doLine_137 : decode cX11_doLine 137 = .ok (.putfield 47, 3) := by decide +kernel
theorem dX11_doLine_140 : decode cX11_doLine 140 = .ok (.goto 128, 3) := by decide +kernel
theorem dX11_doLine_143 : decode cX11_doLine 143 = .ok (.aload_n 0, 1) := by decide +kernel
theorem dX11_doLine_144 : decode cX11_doLine 144 = .ok (.getfield 13, 3) := by decide +kernel
theorem dX11_doLine_147 : decode cX11_doLine 147 = .ok (.iconst 5, 1) := by decide +kernel
theorem dX11_doLine_148 : decode cX11_doLine 148 = .ok (.aload_n 0, 1) := by decide +kernel
theorem dX11_doLine_149 : decode cX11_doLine 149 = .ok (.getfield 55, 3) := by decide +kernel
theorem dX11_doLine_152 : decode cX11_doLine 152 = .ok (.imul, 1) := by decide +kernel
theorem dX11_doLine_153 : decode cX11_doLine 153 = .ok (.aload_n 0, 1) := by decide +kernel
theorem dX11_doLine_154 : decode cX11_doLine 154 = .ok (.getfield 22, 3) := by decide +kernel
theorem dX11_doLine_157 : decode cX11_doLine 157 = .ok (.iload_n 1, 1) := by decide +kernel
theorem dX11_doLine_158 : decode cX11_doLine 158 = .ok (.iaload, 1) := by decide +kernel
theorem dX11_doLine_159 : decode cX11_doLine 159 = .ok (.iconst 4, 1) := by decide +kernel
theorem dX11_doLine_160 : decode cX11_doLine 160 = .ok (.isub, 1) := by decide +kernel
theorem dX11_doLine_161 : decode cX11_doLine 161 = .ok (.iastore, 1) := by decide +kernel
theorem dX11_doLine_162 : decode cX11_doLine 162 = .ok (.iconst 1, 1) := by decide +kernel
theorem dX11_doLine_163 : decode cX11_doLine 163 = .ok (.istore 4, 2) := by decide +kernel
theorem dX11_doLine_165 : decode cX11_doLine 165 = .ok (.iload 4, 2) := by decide +kernel
theorem dX11_doLine_167 : decode cX11_doLine 167 = .ok (.iconst 5, 1) := by decide +kernel
theorem dX11_doLine_168 : decode cX11_doLine 168 = .ok (.if_icmp .ge 32, 3) := by decide +kernel
theorem dX11_doLine_171 : decode cX11_doLine 171 = .ok (.aload_n 0, 1) := by decide +kernel
theorem dX11_doLine_172 : decode cX11_doLine 172 = .ok (.getfield 13, 3) := by decide +kernel
theorem dX11_doLine_175 : decode cX11_doLine 175 = .ok (.iconst 5, 1) := by decide +kernel
theorem dX11_doLine_176 : decode cX11_doLine 176 = .ok (.aload_n 0, 1) := by decide +kernel
theorem dX11_doLine_177 : decode cX11_doLine 177 = .ok (.getfield 55, 3) := by decide +kernel
theorem dX11_doLine_180 : decode cX11_doLine 180 = .ok (.imul, 1) := by decide +kernel
theorem dX11_doLine_181 : decode cX11_doLine 181 = .ok (.iload 4, 2) := by decide +kernel
theorem dX11_doLine_183 : decode cX11_doLine 183 = .ok (.iadd, 1) := by decide +kernel
theorem dX11_doLine_184 : decode cX11_doLine 184 = .ok (.aload_n 0, 1) := by decide +kernel
theorem dX11_doLine_185 : decode cX11_doLine 185 = .ok (.getfield 22, 3) := by decide +kernel
theorem dX11_doLine_188 : decode cX11_doLine 188 = .ok (.iload_n 1, 1) := by decide +kernel
theorem dX11_doLine_189 : decode cX11_doLine 189 = .ok (.iload 4, 2) := by decide +kernel
theorem dX11_doLine_191 : decode cX11_doLine 191 = .ok (.iadd, 1) := by decide +kernel
theorem dX11_doLine_192 : decode cX11_doLine 192 = .ok (.iaload, 1) := by decide +kernel
theorem dX11_doLine_193 : decode cX11_doLine 193 = .ok (.iastore, 1) := by decide +kernel
theorem dX11_doLine_194 : decode cX11_doLine 194 = .ok (.iinc 4 1, 3) := by decide +kernel
theorem dX11_doLine_197 : decode cX11_doLine 197 = .ok (.goto (-32), 3) := by decide +kernel
theorem dX11_doLine_200 : decode cX11_doLine 200 = .ok (.aload_n 0, 1) := by decide +kernel
theorem dX11_doLine_201 : decode cX11_doLine 201 = .ok (.dup, 1) := by decide +kernel
theorem dX11_doLine_202 : decode cX11_doLine 202 = .ok (.getfield 55, 3) := by decide +kernel
theorem dX11_doLine_205 : decode cX11_doLine 205 = .ok (.iconst 1, 1) := by decide +kernel
theorem dX11_doLine_206 : decode cX11_doLine 206 = .ok (.iadd, 1) := by decide +kernel
theorem dX11_doLine_207 : decode cX11_doLine 207 = .ok (.putfield 55, 3) := by decide +kernel
theorem dX11_doLine_210 : decode cX11_doLine 210 = .ok (.goto 58, 3) := by decide +kernel
theorem dX11_doLine_213 : decode cX11_doLine 213 = .ok (.aload_n 0, 1) := by decide +kernel
theorem dX11_doLine_214 : decode cX11_doLine 214 = .ok (.iconst 0, 1) := by decide +kernel
theorem dX11_doLine_215 : decode cX11_doLine 215 = .ok (.putfield 47, 3) := by decide +kernel
theorem dX11_doLine_218 : decode cX11_doLine 218 = .ok (.aload_n 0, 1) := by decide +kernel
theorem dX11_doLine_219 : decode cX11_doLine 219 = .ok (.iconst 0, 1) := by decide +kernel
theorem dX11_doLine_220 : decode cX11_doLine 220 = .ok (.putfield 55, 3) := by decide +kernel
theorem dX11_doLine_223 : decode cX11_doLine 223 = .ok (.goto 45, 3) := by decide +kernel
theorem dX11_doLine_226 : decode cX11_doLine 226 = .ok (.aload_n 0, 1) := by decide +kernel
theorem dX11_doLine_227 : decode cX11_doLine 227 = .ok (.getfield 7, 3) := by decide +kernel
theorem dX11_doLine_230 : decode cX11_doLine 230 = .ok (.bipush 6, 2) := by decide +kernel
theorem dX11_doLine_232 : decode cX11_doLine 232 = .ok (.iload_n 2, 1) := by decide +kernel
theorem dX11_doLine_233 : decode cX11_doLine 233 = .ok (.imul, 1) := by decide +kernel
theorem dX11_doLine_234 : decode cX11_doLine 234 = .ok (.iconst 3, 1) := by decide +kernel
theorem dX11_doLine_235 : decode cX11_doLine 235 = .ok (.iadd, 1) := by decide +kernel
theorem dX11_doLine_236 : decode cX11_doLine 236 = .ok (.iload_n 3, 1) := by decide +kernel
theorem dX11_doLine_237 : decode cX11_doLine 237 = .ok (.iastore, 1) := by decide +kernel
theorem dX11_doLine_238 : decode cX11_doLine 238 = .ok (.goto 30, 3) := by decide +kernel
theorem dX11_doLine_241 : decode cX11_doLine 241 = .ok (.aload_n 0, 1) := by decide +kernel
theorem dX11_doLine_242 : decode cX11_doLine 242 = .ok (.getfield 7, 3) := by decide +kernel
theorem dX11_doLine_245 : decode cX11_doLine 245 = .ok (.bipush 6, 2) := by decide +kernel
theorem dX11_doLine_247 : decode cX11_doLine 247 = .ok (.iload_n 2, 1) := by decide +kernel
theorem dX11_doLine_248 : decode cX11_doLine 248 = .ok (.imul, 1) := by decide +kernel
theorem dX11_doLine_249 : decode cX11_doLine 249 = .ok (.iconst 4, 1) := by decide +kernel
theorem dX11_doLine_250 : decode cX11_doLine 250 = .ok (.iadd, 1) := by decide +kernel
theorem dX11_doLine_251 : decode cX11_doLine 251 = .ok (.iload_n 3, 1) := by decide +kernel
theorem dX11_doLine_252 : decode cX11_doLine 252 = .ok (.iastore, 1) := by decide +kernel
theorem dX11_doLine_253 : decode cX11_doLine 253 = .ok (.goto 15, 3) := by decide +kernel
theorem dX11_doLine_256 : decode cX11_doLine 256 = .ok (.aload_n 0, 1) := by decide +kernel
theorem dX11_doLine_257 : decode cX11_doLine 257 = .ok (.getfield 7, 3) := by decide +kernel
theorem dX11_doLine_260 : decode cX11_doLine 260 = .ok (.bipush 6, 2) := by decide +kernel
theorem dX11_doLine_262 : decode cX11_doLine 262 = .ok (.iload_n 2, 1) := by decide +kernel
theorem dX11_doLine_263 : decode cX11_doLine 263 = .ok (.imul, 1) := by decide +kernel
theorem dX11_doLine_264 : decode cX11_doLine 264 = .ok (.iconst 5, 1) := by decide +kernel
theorem dX11_doLine_265 : decode cX11_doLine 265 = .ok (.iadd, 1) := by decide +kernel
theorem dX11_doLine_266 : decode cX11_doLine 266 = .ok (.iconst 1, 1) := by decide +kernel
theorem dX11_doLine_267 : decode cX11_doLine 267 = .ok (.iastore, 1) := by decide +kernel
theorem dX11_doLine_268 : decode cX11_doLine 268 = .ok (.return_, 1) := by decide +kernel
theorem dX11_shore_0 : decode cX11_shore 0 = .ok (.aload_n 0, 1) := by decide +kernel
theorem dX11_shore_1 : decode cX11_shore 1 = .ok (.invokevirtual 148, 3) := by decide +kernel
theorem dX11_shore_4 : decode cX11_shore 4 = .ok (.ifCond .ne 6, 3) := by decide +kernel
theorem dX11_shore_7 : decode cX11_shore 7 = .ok (.bipush (-4), 2) := by decide +kernel
theorem dX11_shore_9 : decode cX11_shore 9 = .ok (.ireturn, 1) := by decide +kernel
theorem dX11_shore_10 : decode cX11_shore 10 = .ok (.iconst 0, 1) := by decide +kernel
theorem dX11_shore_11 : decode cX11_shore 11 = .ok (.istore_n 1, 1) := by decide +kernel
theorem dX11_shore_12 : decode cX11_shore 12 = .ok (.iload_n 1, 1) := by decide +kernel
theorem dX11_shore_13 : decode cX11_shore 13 = .ok (.aload_n 0, 1) := by decide +kernel
theorem dX11_shore_14 : decode cX11_shore 14 = .ok (.getfield 142, 3) := by decide +kernel
theorem dX11_shore_17 : decode cX11_shore 17 = .ok (.if_icmp .ge 16, 3) := by decide +kernel
theorem dX11_shore_20 : decode cX11_shore 20 = .ok (.aload_n 0, 1) := by decide +kernel
theorem dX11_shore_21 : decode cX11_shore 21 = .ok (.iconst 5, 1) := by decide +kernel
theorem dX11_shore_22 : decode cX11_shore 22 = .ok (.iload_n 1, 1) := by decide +kernel
theorem dX11_shore_23 : decode cX11_shore 23 = .ok (.imul, 1) := by decide +kernel
theorem dX11_shore_24 : decode cX11_shore 24 = .ok (.invokevirtual 151, 3) := by decide +kernel
theorem dX11_shore_27 : decode cX11_shore 27 = .ok (.iinc 1 1, 3) := by decide +kernel
theorem dX11_shore_30 : decode cX11_shore 30 = .ok (.goto (-18), 3) := by decide +kernel
theorem dX11_shore_33 : decode cX11_shore 33 = .ok (.aload_n 0, 1) := by decide +kernel
theorem dX11_shore_34 : decode cX11_shore 34 = .ok (.iconst 0, 1) := by decide +kernel
theorem dX11_shore_35 : decode cX11_shore 35 = .ok (.putfield 58, 3) := by decide +kernel
theorem dX11_shore_38 : decode cX11_shore 38 = .ok (.aload_n 0, 1) := by decide +kernel
theorem dX11_shore_39 : decode cX11_shore 39 = .ok (.iconst 0, 1) := by decide +kernel
theorem dX11_shore_40 : decode cX11_shore 40 = .ok (.putfield 155, 3) := by decide +kernel
theorem dX11_shore_43 : decode cX11_shore 43 = .ok (.aload_n 0, 1) := by decide +kernel
theorem dX11_shore_44 : decode cX11_shore 44 = .ok (.iconst 0, 1) := by decide +kernel
theorem dX11_shore_45 : decode cX11_shore 45 = .ok (.putfield 158, 3) := by decide +kernel
theorem dX11_shore_48 : decode cX11_shore 48 = .ok (.iconst 0, 1) := by decide +kernel
theorem dX11_shore_49 : decode cX11_shore 49 = .ok (.istore_n 1, 1) := by decide +kernel
theorem dX11_shore_50 : decode cX11_shore 50 = .ok (.iload_n 1, 1) := by decide +kernel
theorem dX11_shore_51 : decode cX11_shore 51 = .ok (.aload_n 0, 1) := by decide +kernel
theorem dX11_shore_52 : decode cX11_shore 52 = .ok (.getfield 47, 3) := by decide +kernel
theorem dX11_shore_55 : decode cX11_shore 55 = .ok (.if_icmp .ge 31, 3) := by decide +kernel
theorem dX11_shore_58 : decode cX11_shore 58 = .ok (.aload_n 0, 1) := by decide +kernel
theorem dX11_shore_59 : decode cX11_shore 59 = .ok (.aload_n 0, 1) := by decide +kernel
theorem dX11_shore_60 : decode cX11_shore 60 = .ok (.getfield 155, 3) := by decide +kernel
theorem dX11_shore_63 : decode cX11_shore 63 = .ok (.aload_n 0, 1) := by decide +kernel
theorem dX11_shore_64 : decode cX11_shore 64 = .ok (.getfield 7, 3) := by decide +kernel
theorem dX11_shore_67 : decode cX11_shore 67 = .ok (.bipush 6, 2) := by decide +kernel
theorem dX11_shore_69 : decode cX11_shore 69 = .ok (.iload_n 1, 1) := by decide +kernel
theorem dX11_shore_70 : decode cX11_shore 70 = .ok (.imul, 1) := by decide +kernel
theorem dX11_shore_71 : decode cX11_shore 71 = .ok (.iconst 2, 1) := by decide +kernel
theorem dX11_shore_72 : decode cX11_shore 72 = .ok (.iadd, 1) := by decide +kernel
theorem dX11_shore_73 : decode cX11_shore 73 = .ok (.iaload, 1) := by decide +kernel
theorem dX11_shore_74 : decode cX11_shore 74 = .ok (.iload_n 1, 1) := by decide +kernel
theorem dX11_shore_75 : decode cX11_shore 75 = .ok (.ishl, 1) := by decide +kernel
theorem dX11_shore_76 : decode cX11_shore 76 = .ok (.ior, 1) := by decide +kernel
theorem dX11_shore_77 : decode cX11_shore 77 = .ok (.putfield 155, 3) := by decide +kernel
theorem dX11_shore_80 : decode cX11_shore 80 = .ok (.iinc 1 1, 3) := by decide +kernel
theorem dX11_shore_83 : decode cX11_shore 83 = .ok (.goto (-33), 3) := by decide +kernel
theorem dX11_shore_86 : decode cX11_shore 86 = .ok (.iconst 0, 1) := by decide +kernel
theorem dX11_shore_87 : decode cX11_shore 87 = .ok (.istore_n 1, 1) := by decide +kernel
theorem dX11_shore_88 : decode cX11_shore 88 = .ok (.iload_n 1, 1) := by decide +kernel
theorem dX11_shore_89 : decode cX11_shore 89 = .ok (.aload_n 0, 1) := by decide +kernel
theorem dX11_shore_90 : decode cX11_shore 90 = .ok (.getfield 55, 3) := by decide +kernel
theorem dX11_shore_93 : decode cX11_shore 93 = .ok (.if_icmp .ge 30, 3) := by decide +kernel
theorem dX11_shore_96 : decode cX11_shore 96 = .ok (.aload_n 0, 1) := by decide +kernel
theorem dX11_shore_97 : decode cX11_shore 97 = .ok (.aload_n 0, 1) := by decide +kernel
theorem dX11_shore_98 : decode cX11_shore 98 = .ok (.getfield 158, 3) := by decide +kernel
theorem dX11_shore_101 : decode cX11_shore 101 = .ok (.aload_n 0, 1) := by decide +kernel
theorem dX11_shore_102 : decode cX11_shore 102 = .ok (.getfield 13, 3) := by decide +kernel
theorem dX11_shore_105 : decode cX11_shore 105 = .ok (.iconst 5, 1) := by decide +kernel
theorem dX11_shore_106 : decode cX11_shore 106 = .ok (.iload_n 1, 1) := by decide +kernel
theorem dX11_shore_107 : decode cX11_shore 107 = .ok (.imul, 1) := by decide +kernel
theorem dX11_shore_108 : decode cX11_shore 108 = .ok (.iconst 2, 1) := by decide +kernel
theorem dX11_shore_109 : decode cX11_shore 109 = .ok (.iadd, 1) := by decide +kernel
theorem dX11_shore_110 : decode cX11_shore 110 = .ok (.iaload, 1) := by decide +kernel
theorem dX11_shore_111 : decode cX11_shore 111 = .ok (.iload_n 1, 1) := by decide +kernel
theorem dX11_shore_112 : decode cX11_shore 112 = .ok (.ishl, 1) := by decide +kernel
theorem dX11_shore_113 : decode cX11_shore 113 = .ok (.ior, 1) := by decide +kernel
theorem dX11_shore_114 : decode cX11_shore 114 = .ok (.putfield 158, 3) := by decide +kernel
theorem dX11_shore_117 : decode cX11_shore 117 = .ok (.iinc 1 1, 3) := by decide +kernel
theorem dX11_shore_120 : decode cX11_shore 120 = .ok (.goto (-32), 3) := by decide +kernel
theorem dX11_shore_123 : decode cX11_shore 123 = .ok (.aload_n 0, 1) := by decide +kernel
theorem dX11_shore_124 : decode cX11_shore 124 = .ok (.iconst 0, 1) := by decide +kernel
theorem dX11_shore_125 : decode cX11_shore 125 = .ok (.putfield 161, 3) := by decide +kernel
theorem dX11_shore_128 : decode cX11_shore 128 = .ok (.aload_n 0, 1) := by decide +kernel
theorem dX11_shore_129 : decode cX11_shore 129 = .ok (.iconst 0, 1) := by decide +kernel
theorem dX11_shore_130 : decode cX11_shore 130 = .ok (.putfield 164, 3) := by decide +kernel
theorem dX11_shore_133 : decode cX11_shore 133 = .ok (.aload_n 0, 1) := by decide +kernel
theorem dX11_shore_134 : decode cX11_shore 134 = .ok (.iconst 0, 1) := by decide +kernel
theorem dX11_shore_135 : decode cX11_shore 135 = .ok (.putfield 167, 3) := by decide +kernel
theorem dX11_shore_138 : decode cX11_shore 138 = .ok (.aload_n 0, 1) := by decide +kernel
theorem dX11_shore_139 : decode cX11_shore 139 = .ok (.iconst 0, 1) := by decide +kernel
theorem dX11_shore_140 : decode cX11_shore 140 = .ok (.putfield 170, 3) := by decide +kernel
theorem dX11_shore_143 : decode cX11_shore 143 = .ok (.aload_n 0, 1) := by decide +kernel
theorem dX11_shore_144 : decode cX11_shore 144 = .ok (.getfield 28, 3) := by decide +kernel
theorem dX11_shore_147 : decode cX11_shore 147 = .ok (.iconst 0, 1) := by decide +kernel
theorem dX11_shore_148 : decode cX11_shore 148 = .ok (.iconst 0, 1) := by decide +kernel
theorem dX11_shore_149 : decode cX11_shore 149 = .ok (.bastore, 1) := by decide +kernel
theorem dX11_shore_150 : decode cX11_shore 150 = .ok (.aload_n 0, 1) := by decide +kernel
theorem dX11_shore_151 : decode cX11_shore 151 = .ok (.getfield 28, 3) := by decide +kernel
theorem dX11_shore_154 : decode cX11_shore 154 = .ok (.iconst 1, 1) := by decide +kernel
theorem dX11_shore_155 : decode cX11_shore 155 = .ok (.iconst 0, 1) := by decide +kernel
theorem dX11_shore_156 : decode cX11_shore 156 = .ok (.bastore, 1) := by decide +kernel
theorem dX11_shore_157 : decode cX11_shore 157 = .ok (.aload_n 0, 1) := by decide +kernel
theorem dX11_shore_158 : decode cX11_shore 158 = .ok (.getfield 142, 3) := by decide +kernel
theorem dX11_shore_161 : decode cX11_shore 161 = .ok (.ireturn, 1) := by decide +kernel
theorem dX11_poundsOf_0 : decode cX11_poundsOf 0 = .ok (.aload_n 0, 1) := by decide +kernel
theorem dX11_poundsOf_1 : decode cX11_poundsOf 1 = .ok (.getfield 7, 3) := by decide +kernel
theorem dX11_poundsOf_4 : decode cX11_poundsOf 4 = .ok (.bipush 6, 2) := by decide +kernel
theorem dX11_poundsOf_6 : decode cX11_poundsOf 6 = .ok (.iload_n 1, 1) := by decide +kernel
theorem dX11_poundsOf_7 : decode cX11_poundsOf 7 = .ok (.imul, 1) := by decide +kernel
theorem dX11_poundsOf_8 : decode cX11_poundsOf 8 = .ok (.iconst 1, 1) := by decide +kernel
theorem dX11_poundsOf_9 : decode cX11_poundsOf 9 = .ok (.iadd, 1) := by decide +kernel
theorem dX11_poundsOf_10 : decode cX11_poundsOf 10 = .ok (.iaload, 1) := by decide +kernel
theorem dX11_poundsOf_11 : decode cX11_poundsOf 11 = .ok (.iload_n 2, 1) := by decide +kernel
theorem dX11_poundsOf_12 : decode cX11_poundsOf 12 = .ok (.iload_n 1, 1) := by decide +kernel
theorem dX11_poundsOf_13 : decode cX11_poundsOf 13 = .ok (.invokestatic 173, 3) := by decide +kernel
theorem dX11_poundsOf_16 : decode cX11_poundsOf 16 = .ok (.ifCond .eq 7, 3) := by decide +kernel
theorem dX11_poundsOf_19 : decode cX11_poundsOf 19 = .ok (.iconst 0, 1) := by decide +kernel
theorem dX11_poundsOf_20 : decode cX11_poundsOf 20 = .ok (.goto 14, 3) := by decide +kernel
theorem dX11_poundsOf_23 : decode cX11_poundsOf 23 = .ok (.aload_n 0, 1) := by decide +kernel
theorem dX11_poundsOf_24 : decode cX11_poundsOf 24 = .ok (.getfield 7, 3) := by decide +kernel
theorem dX11_poundsOf_27 : decode cX11_poundsOf 27 = .ok (.bipush 6, 2) := by decide +kernel
theorem dX11_poundsOf_29 : decode cX11_poundsOf 29 = .ok (.iload_n 1, 1) := by decide +kernel
theorem dX11_poundsOf_30 : decode cX11_poundsOf 30 = .ok (.imul, 1) := by decide +kernel
theorem dX11_poundsOf_31 : decode cX11_poundsOf 31 = .ok (.iconst 3, 1) := by decide +kernel
theorem dX11_poundsOf_32 : decode cX11_poundsOf 32 = .ok (.iadd, 1) := by decide +kernel
theorem dX11_poundsOf_33 : decode cX11_poundsOf 33 = .ok (.iaload, 1) := by decide +kernel
theorem dX11_poundsOf_34 : decode cX11_poundsOf 34 = .ok (.iadd, 1) := by decide +kernel
theorem dX11_poundsOf_35 : decode cX11_poundsOf 35 = .ok (.ireturn, 1) := by decide +kernel
theorem dX11_thing_0 : decode cX11_thing 0 = .ok (.aload_n 0, 1) := by decide +kernel
theorem dX11_thing_1 : decode cX11_thing 1 = .ok (.iload_n 1, 1) := by decide +kernel
theorem dX11_thing_2 : decode cX11_thing 2 = .ok (.invokevirtual 177, 3) := by decide +kernel
theorem dX11_thing_5 : decode cX11_thing 5 = .ok (.ifCond .ne 6, 3) := by decide +kernel
theorem dX11_thing_8 : decode cX11_thing 8 = .ok (.bipush (-2), 2) := by decide +kernel
theorem dX11_thing_10 : decode cX11_thing 10 = .ok (.ireturn, 1) := by decide +kernel
theorem dX11_thing_11 : decode cX11_thing 11 = .ok (.iload_n 2, 1) := by decide +kernel
theorem dX11_thing_12 : decode cX11_thing 12 = .ok (.tableswitch 135 0 7 #[48, 48, 60, 69, 81, 111, 111, 125], 48) := by decide +kernel
theorem dX11_thing_60 : decode cX11_thing 60 = .ok (.aload_n 0, 1) := by decide +kernel
theorem dX11_thing_61 : decode cX11_thing 61 = .ok (.getfield 7, 3) := by decide +kernel
theorem dX11_thing_64 : decode cX11_thing 64 = .ok (.bipush 6, 2) := by decide +kernel
theorem dX11_thing_66 : decode cX11_thing 66 = .ok (.iload_n 1, 1) := by decide +kernel
theorem dX11_thing_67 : decode cX11_thing 67 = .ok (.imul, 1) := by decide +kernel
theorem dX11_thing_68 : decode cX11_thing 68 = .ok (.iload_n 2, 1) := by decide +kernel
theorem dX11_thing_69 : decode cX11_thing 69 = .ok (.iadd, 1) := by decide +kernel
theorem dX11_thing_70 : decode cX11_thing 70 = .ok (.iaload, 1) := by decide +kernel
theorem dX11_thing_71 : decode cX11_thing 71 = .ok (.ireturn, 1) := by decide +kernel
theorem dX11_thing_72 : decode cX11_thing 72 = .ok (.aload_n 0, 1) := by decide +kernel
theorem dX11_thing_73 : decode cX11_thing 73 = .ok (.getfield 155, 3) := by decide +kernel
theorem dX11_thing_76 : decode cX11_thing 76 = .ok (.iload_n 1, 1) := by decide +kernel
theorem dX11_thing_77 : decode cX11_thing 77 = .ok (.ishr, 1) := by decide +kernel
theorem dX11_thing_78 : decode cX11_thing 78 = .ok (.iconst 1, 1) := by decide +kernel
theorem dX11_thing_79 : decode cX11_thing 79 = .ok (.iand, 1) := by decide +kernel
theorem dX11_thing_80 : decode cX11_thing 80 = .ok (.ireturn, 1) := by decide +kernel
theorem dX11_thing_81 : decode cX11_thing 81 = .ok (.aload_n 0, 1) := by decide +kernel
theorem dX11_thing_82 : decode cX11_thing 82 = .ok (.getfield 7, 3) := by decide +kernel
theorem dX11_thing_85 : decode cX11_thing 85 = .ok (.bipush 6, 2) := by decide +kernel
theorem dX11_thing_87 : decode cX11_thing 87 = .ok (.iload_n 1, 1) := by decide +kernel
theorem dX11_thing_88 : decode cX11_thing 88 = .ok (.imul, 1) := by decide +kernel
theorem dX11_thing_89 : decode cX11_thing 89 = .ok (.iconst 3, 1) := by decide +kernel
theorem dX11_thing_90 : decode cX11_thing 90 = .ok (.iadd, 1) := by decide +kernel
theorem dX11_thing_91 : decode cX11_thing 91 = .ok (.iaload, 1) := by decide +kernel
theorem dX11_thing_92 : decode cX11_thing 92 = .ok (.ireturn, 1) := by decide +kernel
theorem dX11_thing_93 : decode cX11_thing 93 = .ok (.aload_n 0, 1) := by decide +kernel
theorem dX11_thing_94 : decode cX11_thing 94 = .ok (.getfield 7, 3) := by decide +kernel
theorem dX11_thing_97 : decode cX11_thing 97 = .ok (.bipush 6, 2) := by decide +kernel
theorem dX11_thing_99 : decode cX11_thing 99 = .ok (.iload_n 1, 1) := by decide +kernel
theorem dX11_thing_100 : decode cX11_thing 100 = .ok (.imul, 1) := by decide +kernel
theorem dX11_thing_101 : decode cX11_thing 101 = .ok (.iaload, 1) := by decide +kernel
theorem dX11_thing_102 : decode cX11_thing 102 = .ok (.iconst 2, 1) := by decide +kernel
theorem dX11_thing_103 : decode cX11_thing 103 = .ok (.if_icmp .ge 18, 3) := by decide +kernel
theorem dX11_thing_106 : decode cX11_thing 106 = .ok (.aload_n 0, 1) := by decide +kernel
theorem dX11_thing_107 : decode cX11_thing 107 = .ok (.getfield 161, 3) := by decide +kernel
theorem dX11_thing_110 : decode cX11_thing 110 = .ok (.iload_n 1, 1) := by decide +kernel
theorem dX11_thing_111 : decode cX11_thing 111 = .ok (.invokestatic 173, 3) := by decide +kernel
theorem dX11_thing_114 : decode cX11_thing 114 = .ok (.ifCond .ne 7, 3) := by decide +kernel
theorem dX11_thing_117 : decode cX11_thing 117 = .ok (.iconst 1, 1) := by decide +kernel
theorem dX11_thing_118 : decode cX11_thing 118 = .ok (.goto 4, 3) := by decide +kernel
theorem dX11_thing_121 : decode cX11_thing 121 = .ok (.iconst 0, 1) := by decide +kernel
theorem dX11_thing_122 : decode cX11_thing 122 = .ok (.ireturn, 1) := by decide +kernel
theorem dX11_thing_123 : decode cX11_thing 123 = .ok (.aload_n 0, 1) := by decide +kernel
theorem dX11_thing_124 : decode cX11_thing 124 = .ok (.getfield 7, 3) := by decide +kernel
theorem dX11_thing_127 : decode cX11_thing 127 = .ok (.bipush 6, 2) := by decide +kernel
theorem dX11_thing_129 : decode cX11_thing 129 = .ok (.iload_n 1, 1) := by decide +kernel
theorem dX11_thing_130 : decode cX11_thing 130 = .ok (.imul, 1) := by decide +kernel
theorem dX11_thing_131 : decode cX11_thing 131 = .ok (.iload_n 2, 1) := by decide +kernel
theorem dX11_thing_132 : decode cX11_thing 132 = .ok (.iadd, 1) := by decide +kernel
theorem dX11_thing_133 : decode cX11_thing 133 = .ok (.iconst 1, 1) := by decide +kernel
theorem dX11_thing_134 : decode cX11_thing 134 = .ok (.isub, 1) := by decide +kernel
theorem dX11_thing_135 : decode cX11_thing 135 = .ok (.iaload, 1) := by decide +kernel
theorem dX11_thing_136 : decode cX11_thing 136 = .ok (.ireturn, 1) := by decide +kernel
theorem dX11_thing_137 : decode cX11_thing 137 = .ok (.aload_n 0, 1) := by decide +kernel
theorem dX11_thing_138 : decode cX11_thing 138 = .ok (.iload_n 1, 1) := by decide +kernel
theorem dX11_thing_139 : decode cX11_thing 139 = .ok (.aload_n 0, 1) := by decide +kernel
theorem dX11_thing_140 : decode cX11_thing 140 = .ok (.getfield 161, 3) := by decide +kernel
theorem dX11_thing_143 : decode cX11_thing 143 = .ok (.invokevirtual 180, 3) := by decide +kernel
theorem dX11_thing_146 : decode cX11_thing 146 = .ok (.ireturn, 1) := by decide +kernel
theorem dX11_thing_147 : decode cX11_thing 147 = .ok (.bipush (-3), 2) := by decide +kernel
theorem dX11_thing_149 : decode cX11_thing 149 = .ok (.ireturn, 1) := by decide +kernel
theorem dX11_numberOf_0 : decode cX11_numberOf 0 = .ok (.aload_n 0, 1) := by decide +kernel
theorem dX11_numberOf_1 : decode cX11_numberOf 1 = .ok (.getfield 13, 3) := by decide +kernel
theorem dX11_numberOf_4 : decode cX11_numberOf 4 = .ok (.iconst 5, 1) := by decide +kernel
theorem dX11_numberOf_5 : decode cX11_numberOf 5 = .ok (.iload_n 1, 1) := by decide +kernel
theorem dX11_numberOf_6 : decode cX11_numberOf 6 = .ok (.imul, 1) := by decide +kernel
theorem dX11_numberOf_7 : decode cX11_numberOf 7 = .ok (.iconst 1, 1) := by decide +kernel
theorem dX11_numberOf_8 : decode cX11_numberOf 8 = .ok (.iadd, 1) := by decide +kernel
theorem dX11_numberOf_9 : decode cX11_numberOf 9 = .ok (.iaload, 1) := by decide +kernel
theorem dX11_numberOf_10 : decode cX11_numberOf 10 = .ok (.istore_n 2, 1) := by decide +kernel
theorem dX11_numberOf_11 : decode cX11_numberOf 11 = .ok (.aload_n 0, 1) := by decide +kernel
theorem dX11_numberOf_12 : decode cX11_numberOf 12 = .ok (.getfield 13, 3) := by decide +kernel
theorem dX11_numberOf_15 : decode cX11_numberOf 15 = .ok (.iconst 5, 1) := by decide +kernel
theorem dX11_numberOf_16 : decode cX11_numberOf 16 = .ok (.iload_n 1, 1) := by decide +kernel
theorem dX11_numberOf_17 : decode cX11_numberOf 17 = .ok (.imul, 1) := by decide +kernel
theorem dX11_numberOf_18 : decode cX11_numberOf 18 = .ok (.iaload, 1) := by decide +kernel
theorem dX11_numberOf_19 : decode cX11_numberOf 19 = .ok (.iconst 2, 1) := by decide +kernel
theorem dX11_numberOf_20 : decode cX11_numberOf 20 = .ok (.if_icmp .lt 10, 3) := by decide +kernel
theorem dX11_numberOf_23 : decode cX11_numberOf 23 = .ok (.aload_n 0, 1) := by decide +kernel
theorem dX11_numberOf_24 : decode cX11_numberOf 24 = .ok (.getfield 164, 3) := by decide +kernel
theorem dX11_numberOf_27 : decode cX11_numberOf 27 = .ok (.ifCond .ne 5, 3) := by decide +kernel
theorem dX11_numberOf_30 : decode cX11_numberOf 30 = .ok (.iload_n 2, 1) := by decide +kernel
theorem dX11_numberOf_31 : decode cX11_numberOf 31 = .ok (.ireturn, 1) := by decide +kernel
theorem dX11_numberOf_32 : decode cX11_numberOf 32 = .ok (.iconst 0, 1) := by decide +kernel
theorem dX11_numberOf_33 : decode cX11_numberOf 33 = .ok (.istore_n 3, 1) := by decide +kernel
theorem dX11_numberOf_34 : decode cX11_numberOf 34 = .ok (.iload_n 2, 1) := by decide +kernel
theorem dX11_numberOf_35 : decode cX11_numberOf 35 = .ok (.ifCond .le 21, 3) := by decide +kernel
theorem dX11_numberOf_38 : decode cX11_numberOf 38 = .ok (.bipush 10, 2) := by decide +kernel
theorem dX11_numberOf_40 : decode cX11_numberOf 40 = .ok (.iload_n 3, 1) := by decide +kernel
theorem dX11_numberOf_41 : decode cX11_numberOf 41 = .ok (.imul, 1) := by decide +kernel
theorem dX11_numberOf_42 : decode cX11_numberOf 42 = .ok (.iload_n 2, 1) := by decide +kernel
theorem dX11_numberOf_43 : decode cX11_numberOf 43 = .ok (.bipush 10, 2) := by decide +kernel
theorem dX11_numberOf_45 : decode cX11_numberOf 45 = .ok (.irem, 1) := by decide +kernel
theorem dX11_numberOf_46 : decode cX11_numberOf 46 = .ok (.iadd, 1) := by decide +kernel
theorem dX11_numberOf_47 : decode cX11_numberOf 47 = .ok (.istore_n 3, 1) := by decide +kernel
theorem dX11_numberOf_48 : decode cX11_numberOf 48 = .ok (.iload_n 2, 1) := by decide +kernel
theorem dX11_numberOf_49 : decode cX11_numberOf 49 = .ok (.bipush 10, 2) := by decide +kernel
theorem dX11_numberOf_51 : decode cX11_numberOf 51 = .ok (.idiv, 1) := by decide +kernel
theorem dX11_numberOf_52 : decode cX11_numberOf 52 = .ok (.istore_n 2, 1) := by decide +kernel
theorem dX11_numberOf_53 : decode cX11_numberOf 53 = .ok (.goto (-19), 3) := by decide +kernel
theorem dX11_numberOf_56 : decode cX11_numberOf 56 = .ok (.iload_n 3, 1) := by decide +kernel
theorem dX11_numberOf_57 : decode cX11_numberOf 57 = .ok (.ireturn, 1) := by decide +kernel
theorem dX11_ferry_0 : decode cX11_ferry 0 = .ok (.aload_n 0, 1) := by decide +kernel
theorem dX11_ferry_1 : decode cX11_ferry 1 = .ok (.iload_n 1, 1) := by decide +kernel
theorem dX11_ferry_2 : decode cX11_ferry 2 = .ok (.invokevirtual 184, 3) := by decide +kernel
theorem dX11_ferry_5 : decode cX11_ferry 5 = .ok (.ifCond .ne 6, 3) := by decide +kernel
theorem dX11_ferry_8 : decode cX11_ferry 8 = .ok (.bipush (-2), 2) := by decide +kernel
theorem dX11_ferry_10 : decode cX11_ferry 10 = .ok (.ireturn, 1) := by decide +kernel
theorem dX11_ferry_11 : decode cX11_ferry 11 = .ok (.iload_n 2, 1) := by decide +kernel
theorem dX11_ferry_12 : decode cX11_ferry 12 = .ok (.tableswitch 62 0 4 #[51, 36, 42, 51, 51], 36) := by decide +kernel
theorem dX11_ferry_48 : decode cX11_ferry 48 = .ok (.aload_n 0, 1) := by decide +kernel
theorem dX11_ferry_49 : decode cX11_ferry 49 = .ok (.iload_n 1, 1) := by decide +kernel
theorem dX11_ferry_50 : decode cX11_ferry 50 = .ok (.invokevirtual 187, 3) := by decide +kernel
theorem dX11_ferry_53 : decode cX11_ferry 53 = .ok (.ireturn, 1) := by decide +kernel
theorem dX11_ferry_54 : decode cX11_ferry 54 = .ok (.aload_n 0, 1) := by decide +kernel
theorem dX11_ferry_55 : decode cX11_ferry 55 = .ok (.getfield 158, 3) := by decide +kernel
theorem dX11_ferry_58 : decode cX11_ferry 58 = .ok (.iload_n 1, 1) := by decide +kernel
theorem dX11_ferry_59 : decode cX11_ferry 59 = .ok (.ishr, 1) := by decide +kernel
theorem dX11_ferry_60 : decode cX11_ferry 60 = .ok (.iconst 1, 1) := by decide +kernel
theorem dX11_ferry_61 : decode cX11_ferry 61 = .ok (.iand, 1) := by decide +kernel
theorem dX11_ferry_62 : decode cX11_ferry 62 = .ok (.ireturn, 1) := by decide +kernel
theorem dX11_ferry_63 : decode cX11_ferry 63 = .ok (.aload_n 0, 1) := by decide +kernel
theorem dX11_ferry_64 : decode cX11_ferry 64 = .ok (.getfield 13, 3) := by decide +kernel
theorem dX11_ferry_67 : decode cX11_ferry 67 = .ok (.iconst 5, 1) := by decide +kernel
theorem dX11_ferry_68 : decode cX11_ferry 68 = .ok (.iload_n 1, 1) := by decide +kernel
theorem dX11_ferry_69 : decode cX11_ferry 69 = .ok (.imul, 1) := by decide +kernel
theorem dX11_ferry_70 : decode cX11_ferry 70 = .ok (.iload_n 2, 1) := by decide +kernel
theorem dX11_ferry_71 : decode cX11_ferry 71 = .ok (.iadd, 1) := by decide +kernel
theorem dX11_ferry_72 : decode cX11_ferry 72 = .ok (.iaload, 1) := by decide +kernel
theorem dX11_ferry_73 : decode cX11_ferry 73 = .ok (.ireturn, 1) := by decide +kernel
theorem dX11_ferry_74 : decode cX11_ferry 74 = .ok (.bipush (-3), 2) := by decide +kernel
theorem dX11_ferry_76 : decode cX11_ferry 76 = .ok (.ireturn, 1) := by decide +kernel
theorem dX11_as_0 : decode cX11_as 0 = .ok (.aload_n 0, 1) := by decide +kernel
theorem dX11_as_1 : decode cX11_as 1 = .ok (.iload_n 1, 1) := by decide +kernel
theorem dX11_as_2 : decode cX11_as 2 = .ok (.invokevirtual 177, 3) := by decide +kernel
theorem dX11_as_5 : decode cX11_as 5 = .ok (.ifCond .ne 6, 3) := by decide +kernel
theorem dX11_as_8 : decode cX11_as 8 = .ok (.bipush (-2), 2) := by decide +kernel
theorem dX11_as_10 : decode cX11_as 10 = .ok (.ireturn, 1) := by decide +kernel
theorem dX11_as_11 : decode cX11_as 11 = .ok (.iload_n 2, 1) := by decide +kernel
theorem dX11_as_12 : decode cX11_as 12 = .ok (.iconst 0, 1) := by decide +kernel
theorem dX11_as_13 : decode cX11_as 13 = .ok (.iconst 5, 1) := by decide +kernel
theorem dX11_as_14 : decode cX11_as 14 = .ok (.invokestatic 51, 3) := by decide +kernel
theorem dX11_as_17 : decode cX11_as 17 = .ok (.ifCond .ne 6, 3) := by decide +kernel
theorem dX11_as_20 : decode cX11_as 20 = .ok (.bipush (-3), 2) := by decide +kernel
theorem dX11_as_22 : decode cX11_as 22 = .ok (.ireturn, 1) := by decide +kernel
theorem dX11_as_23 : decode cX11_as 23 = .ok (.aload_n 0, 1) := by decide +kernel
theorem dX11_as_24 : decode cX11_as 24 = .ok (.getfield 7, 3) := by decide +kernel
theorem dX11_as_27 : decode cX11_as 27 = .ok (.bipush 6, 2) := by decide +kernel
theorem dX11_as_29 : decode cX11_as 29 = .ok (.iload_n 1, 1) := by decide +kernel
theorem dX11_as_30 : decode cX11_as 30 = .ok (.imul, 1) := by decide +kernel
theorem dX11_as_31 : decode cX11_as 31 = .ok (.iaload, 1) := by decide +kernel
theorem dX11_as_32 : decode cX11_as 32 = .ok (.istore_n 3, 1) := by decide +kernel
theorem dX11_as_33 : decode cX11_as 33 = .ok (.iload_n 2, 1) := by decide +kernel
theorem dX11_as_34 : decode cX11_as 34 = .ok (.ifCond .eq 60, 3) := by decide +kernel
theorem dX11_as_37 : decode cX11_as 37 = .ok (.iload_n 2, 1) := by decide +kernel
theorem dX11_as_38 : decode cX11_as 38 = .ok (.iconst 1, 1) := by decide +kernel
theorem dX11_as_39 : decode cX11_as 39 = .ok (.if_icmp .ne 11, 3) := by decide +kernel
theorem dX11_as_42 : decode cX11_as 42 = .ok (.iload_n 3, 1) := by decide +kernel
theorem dX11_as_43 : decode cX11_as 43 = .ok (.iconst 3, 1) := by decide +kernel
theorem dX11_as_44 : decode cX11_as 44 = .ok (.if_icmp .ge 54, 3) := by decide +kernel
theorem dX11_as_47 : decode cX11_as 47 = .ok (.goto 47, 3) := by decide +kernel
theorem dX11_as_50 : decode cX11_as 50 = .ok (.iload_n 2, 1) := by decide +kernel
theorem dX11_as_51 : decode cX11_as 51 = .ok (.iconst 2, 1) := by decide +kernel
theorem dX11_as_52 : decode cX11_as 52 = .ok (.if_icmp .ne 11, 3) := by decide +kernel
theorem dX11_as_55 : decode cX11_as 55 = .ok (.iload_n 3, 1) := by decide +kernel
theorem dX11_as_56 : decode cX11_as 56 = .ok (.iconst 2, 1) := by decide +kernel
theorem dX11_as_57 : decode cX11_as 57 = .ok (.if_icmp .ge 41, 3) := by decide +kernel
theorem dX11_as_60 : decode cX11_as 60 = .ok (.goto 34, 3) := by decide +kernel
theorem dX11_as_63 : decode cX11_as 63 = .ok (.iload_n 2, 1) := by decide +kernel
theorem dX11_as_64 : decode cX11_as 64 = .ok (.iconst 3, 1) := by decide +kernel
theorem dX11_as_65 : decode cX11_as 65 = .ok (.if_icmp .ne 11, 3) := by decide +kernel
theorem dX11_as_68 : decode cX11_as 68 = .ok (.iload_n 3, 1) := by decide +kernel
theorem dX11_as_69 : decode cX11_as 69 = .ok (.iconst 1, 1) := by decide +kernel
theorem dX11_as_70 : decode cX11_as 70 = .ok (.if_icmp .ne 28, 3) := by decide +kernel
theorem dX11_as_73 : decode cX11_as 73 = .ok (.goto 21, 3) := by decide +kernel
theorem dX11_as_76 : decode cX11_as 76 = .ok (.iload_n 2, 1) := by decide +kernel
theorem dX11_as_77 : decode cX11_as 77 = .ok (.iconst 4, 1) := by decide +kernel
theorem dX11_as_78 : decode cX11_as 78 = .ok (.if_icmp .ne 11, 3) := by decide +kernel
theorem dX11_as_81 : decode cX11_as 81 = .ok (.iload_n 3, 1) := by decide +kernel
theorem dX11_as_82 : decode cX11_as 82 = .ok (.iconst 2, 1) := by decide +kernel
theorem dX11_as_83 : decode cX11_as 83 = .ok (.if_icmp .ne 15, 3) := by decide +kernel
theorem dX11_as_86 : decode cX11_as 86 = .ok (.goto 8, 3) := by decide +kernel
theorem dX11_as_89 : decode cX11_as 89 = .ok (.iload_n 3, 1) := by decide +kernel
theorem dX11_as_90 : decode cX11_as 90 = .ok (.iconst 3, 1) := by decide +kernel
theorem dX11_as_91 : decode cX11_as 91 = .ok (.if_icmp .ne 7, 3) := by decide +kernel
theorem dX11_as_94 : decode cX11_as 94 = .ok (.iconst 1, 1) := by decide +kernel
theorem dX11_as_95 : decode cX11_as 95 = .ok (.goto 4, 3) := by decide +kernel
theorem dX11_as_98 : decode cX11_as 98 = .ok (.iconst 0, 1) := by decide +kernel
theorem dX11_as_99 : decode cX11_as 99 = .ok (.istore 4, 2) := by decide +kernel
theorem dX11_as_101 : decode cX11_as 101 = .ok (.iload 4, 2) := by decide +kernel
theorem dX11_as_103 : decode cX11_as 103 = .ok (.ifCond .eq 15, 3) := by decide +kernel
theorem dX11_as_106 : decode cX11_as 106 = .ok (.aload_n 0, 1) := by decide +kernel
theorem dX11_as_107 : decode cX11_as 107 = .ok (.iload_n 1, 1) := by decide +kernel
theorem dX11_as_108 : decode cX11_as 108 = .ok (.aload_n 0, 1) := by decide +kernel
theorem dX11_as_109 : decode cX11_as 109 = .ok (.getfield 161, 3) := by decide +kernel
theorem dX11_as_112 : decode cX11_as 112 = .ok (.invokevirtual 180, 3) := by decide +kernel
theorem dX11_as_115 : decode cX11_as 115 = .ok (.goto 5, 3) := by decide +kernel
theorem dX11_as_118 : decode cX11_as 118 = .ok (.bipush (-4), 2) := by decide +kernel
theorem dX11_as_120 : decode cX11_as 120 = .ok (.ireturn, 1) := by decide +kernel
theorem dX11_bits_0 : decode cX11_bits 0 = .ok (.iconst 0, 1) := by decide +kernel
theorem dX11_bits_1 : decode cX11_bits 1 = .ok (.istore_n 1, 1) := by decide +kernel
theorem dX11_bits_2 : decode cX11_bits 2 = .ok (.iconst 0, 1) := by decide +kernel
theorem dX11_bits_3 : decode cX11_bits 3 = .ok (.istore_n 2, 1) := by decide +kernel
theorem dX11_bits_4 : decode cX11_bits 4 = .ok (.iload_n 2, 1) := by decide +kernel
theorem dX11_bits_5 : decode cX11_bits 5 = .ok (.bipush 8, 2) := by decide +kernel
theorem dX11_bits_7 : decode cX11_bits 7 = .ok (.if_icmp .ge 17, 3) := by decide +kernel
theorem dX11_bits_10 : decode cX11_bits 10 = .ok (.iload_n 1, 1) := by decide +kernel
theorem dX11_bits_11 : decode cX11_bits 11 = .ok (.iload_n 0, 1) := by decide +kernel
theorem dX11_bits_12 : decode cX11_bits 12 = .ok (.iload_n 2, 1) := by decide +kernel
theorem dX11_bits_13 : decode cX11_bits 13 = .ok (.ishr, 1) := by decide +kernel
theorem dX11_bits_14 : decode cX11_bits 14 = .ok (.iconst 1, 1) := by decide +kernel
theorem dX11_bits_15 : decode cX11_bits 15 = .ok (.iand, 1) := by decide +kernel
theorem dX11_bits_16 : decode cX11_bits 16 = .ok (.iadd, 1) := by decide +kernel
theorem dX11_bits_17 : decode cX11_bits 17 = .ok (.istore_n 1, 1) := by decide +kernel
theorem dX11_bits_18 : decode cX11_bits 18 = .ok (.iinc 2 1, 3) := by decide +kernel
theorem dX11_bits_21 : decode cX11_bits 21 = .ok (.goto (-17), 3) := by decide +kernel
theorem dX11_bits_24 : decode cX11_bits 24 = .ok (.iload_n 1, 1) := by decide +kernel
theorem dX11_bits_25 : decode cX11_bits 25 = .ok (.ireturn, 1) := by decide +kernel
theorem dX11_poundsOfAll_0 : decode cX11_poundsOfAll 0 = .ok (.iconst 0, 1) := by decide +kernel
theorem dX11_poundsOfAll_1 : decode cX11_poundsOfAll 1 = .ok (.istore_n 3, 1) := by decide +kernel
theorem dX11_poundsOfAll_2 : decode cX11_poundsOfAll 2 = .ok (.iconst 0, 1) := by decide +kernel
theorem dX11_poundsOfAll_3 : decode cX11_poundsOfAll 3 = .ok (.istore 4, 2) := by decide +kernel
theorem dX11_poundsOfAll_5 : decode cX11_poundsOfAll 5 = .ok (.iload 4, 2) := by decide +kernel
theorem dX11_poundsOfAll_7 : decode cX11_poundsOfAll 7 = .ok (.aload_n 0, 1) := by decide +kernel
theorem dX11_poundsOfAll_8 : decode cX11_poundsOfAll 8 = .ok (.getfield 47, 3) := by decide +kernel
theorem dX11_poundsOfAll_11 : decode cX11_poundsOfAll 11 = .ok (.if_icmp .ge 32, 3) := by decide +kernel
theorem dX11_poundsOfAll_14 : decode cX11_poundsOfAll 14 = .ok (.iload_n 3, 1) := by decide +kernel
theorem dX11_poundsOfAll_15 : decode cX11_poundsOfAll 15 = .ok (.iload_n 1, 1) := by decide +kernel
theorem dX11_poundsOfAll_16 : decode cX11_poundsOfAll 16 = .ok (.iload 4, 2) := by decide +kernel
theorem dX11_poundsOfAll_18 : decode cX11_poundsOfAll 18 = .ok (.invokestatic 173, 3) := by decide +kernel
theorem dX11_poundsOfAll_21 : decode cX11_poundsOfAll 21 = .ok (.ifCond .eq 13, 3) := by decide +kernel
theorem dX11_poundsOfAll_24 : decode cX11_poundsOfAll 24 = .ok (.aload_n 0, 1) := by decide +kernel
theorem dX11_poundsOfAll_25 : decode cX11_poundsOfAll 25 = .ok (.iload 4, 2) := by decide +kernel
theorem dX11_poundsOfAll_27 : decode cX11_poundsOfAll 27 = .ok (.iload_n 2, 1) := by decide +kernel
theorem dX11_poundsOfAll_28 : decode cX11_poundsOfAll 28 = .ok (.invokevirtual 180, 3) := by decide +kernel
theorem dX11_poundsOfAll_31 : decode cX11_poundsOfAll 31 = .ok (.goto 4, 3) := by decide +kernel
theorem dX11_poundsOfAll_34 : decode cX11_poundsOfAll 34 = .ok (.iconst 0, 1) := by decide +kernel
theorem dX11_poundsOfAll_35 : decode cX11_poundsOfAll 35 = .ok (.iadd, 1) := by decide +kernel
theorem dX11_poundsOfAll_36 : decode cX11_poundsOfAll 36 = .ok (.istore_n 3, 1) := by decide +kernel
theorem dX11_poundsOfAll_37 : decode cX11_poundsOfAll 37 = .ok (.iinc 4 1, 3) := by decide +kernel
theorem dX11_poundsOfAll_40 : decode cX11_poundsOfAll 40 = .ok (.goto (-35), 3) := by decide +kernel
theorem dX11_poundsOfAll_43 : decode cX11_poundsOfAll 43 = .ok (.iload_n 3, 1) := by decide +kernel
theorem dX11_poundsOfAll_44 : decode cX11_poundsOfAll 44 = .ok (.ireturn, 1) := by decide +kernel
theorem dX11_canBoard_0 : decode cX11_canBoard 0 = .ok (.iconst 0, 1) := by decide +kernel
theorem dX11_canBoard_1 : decode cX11_canBoard 1 = .ok (.istore 5, 2) := by decide +kernel
theorem dX11_canBoard_3 : decode cX11_canBoard 3 = .ok (.iconst 0, 1) := by decide +kernel
theorem dX11_canBoard_4 : decode cX11_canBoard 4 = .ok (.istore 6, 2) := by decide +kernel
theorem dX11_canBoard_6 : decode cX11_canBoard 6 = .ok (.iload 6, 2) := by decide +kernel
theorem dX11_canBoard_8 : decode cX11_canBoard 8 = .ok (.aload_n 0, 1) := by decide +kernel
theorem dX11_canBoard_9 : decode cX11_canBoard 9 = .ok (.getfield 47, 3) := by decide +kernel
theorem dX11_canBoard_12 : decode cX11_canBoard 12 = .ok (.if_icmp .ge 43, 3) := by decide +kernel
theorem dX11_canBoard_15 : decode cX11_canBoard 15 = .ok (.iload 5, 2) := by decide +kernel
theorem dX11_canBoard_17 : decode cX11_canBoard 17 = .ok (.ifCond .ne 25, 3) := by decide +kernel
theorem dX11_canBoard_20 : decode cX11_canBoard 20 = .ok (.iload_n 2, 1) := by decide +kernel
theorem dX11_canBoard_21 : decode cX11_canBoard 21 = .ok (.iload 6, 2) := by decide +kernel
theorem dX11_canBoard_23 : decode cX11_canBoard 23 = .ok (.invokestatic 173, 3) := by decide +kernel
theorem dX11_canBoard_26 : decode cX11_canBoard 26 = .ok (.ifCond .eq 20, 3) := by decide +kernel
theorem dX11_canBoard_29 : decode cX11_canBoard 29 = .ok (.aload_n 0, 1) := by decide +kernel
theorem dX11_canBoard_30 : decode cX11_canBoard 30 = .ok (.getfield 7, 3) := by decide +kernel
theorem dX11_canBoard_33 : decode cX11_canBoard 33 = .ok (.bipush 6, 2) := by decide +kernel
theorem dX11_canBoard_35 : decode cX11_canBoard 35 = .ok (.iload 6, 2) := by decide +kernel
theorem dX11_canBoard_37 : decode cX11_canBoard 37 = .ok (.imul, 1) := by decide +kernel
theorem dX11_canBoard_38 : decode cX11_canBoard 38 = .ok (.iaload, 1) := by decide +kernel
theorem dX11_canBoard_39 : decode cX11_canBoard 39 = .ok (.ifCond .ne 7, 3) := by decide +kernel
theorem dX11_canBoard_42 : decode cX11_canBoard 42 = .ok (.iconst 1, 1) := by decide +kernel
theorem dX11_canBoard_43 : decode cX11_canBoard 43 = .ok (.goto 4, 3) := by decide +kernel
theorem dX11_canBoard_46 : decode cX11_canBoard 46 = .ok (.iconst 0, 1) := by decide +kernel
theorem dX11_canBoard_47 : decode cX11_canBoard 47 = .ok (.istore 5, 2) := by decide +kernel
theorem dX11_canBoard_49 : decode cX11_canBoard 49 = .ok (.iinc 6 1, 3) := by decide +kernel
theorem dX11_canBoard_52 : decode cX11_canBoard 52 = .ok (.goto (-46), 3) := by decide +kernel
theorem dX11_canBoard_55 : decode cX11_canBoard 55 = .ok (.iload 5, 2) := by decide +kernel
theorem dX11_canBoard_57 : decode cX11_canBoard 57 = .ok (.ifCond .eq 33, 3) := by decide +kernel
theorem dX11_canBoard_60 : decode cX11_canBoard 60 = .ok (.iload 4, 2) := by decide +kernel
theorem dX11_canBoard_62 : decode cX11_canBoard 62 = .ok (.iload_n 1, 1) := by decide +kernel
theorem dX11_canBoard_63 : decode cX11_canBoard 63 = .ok (.invokestatic 173, 3) := by decide +kernel
theorem dX11_canBoard_66 : decode cX11_canBoard 66 = .ok (.ifCond .eq 14, 3) := by decide +kernel
theorem dX11_canBoard_69 : decode cX11_canBoard 69 = .ok (.iload_n 2, 1) := by decide +kernel
theorem dX11_canBoard_70 : decode cX11_canBoard 70 = .ok (.iload_n 3, 1) := by decide +kernel
theorem dX11_canBoard_71 : decode cX11_canBoard 71 = .ok (.iconst (-1), 1) := by decide +kernel
theorem dX11_canBoard_72 : decode cX11_canBoard 72 = .ok (.ixor, 1) := by decide +kernel
theorem dX11_canBoard_73 : decode cX11_canBoard 73 = .ok (.iand, 1) := by decide +kernel
theorem dX11_canBoard_74 : decode cX11_canBoard 74 = .ok (.ifCond .ne 16, 3) := by decide +kernel
theorem dX11_canBoard_77 : decode cX11_canBoard 77 = .ok (.goto 9, 3) := by decide +kernel
theorem dX11_canBoard_80 : decode cX11_canBoard 80 = .ok (.iload_n 2, 1) := by decide +kernel
theorem dX11_canBoard_81 : decode cX11_canBoard 81 = .ok (.iload_n 3, 1) := by decide +kernel
theorem dX11_canBoard_82 : decode cX11_canBoard 82 = .ok (.iand, 1) := by decide +kernel
theorem dX11_canBoard_83 : decode cX11_canBoard 83 = .ok (.ifCond .ne 7, 3) := by decide +kernel
theorem dX11_canBoard_86 : decode cX11_canBoard 86 = .ok (.iconst 1, 1) := by decide +kernel
theorem dX11_canBoard_87 : decode cX11_canBoard 87 = .ok (.goto 4, 3) := by decide +kernel
theorem dX11_canBoard_90 : decode cX11_canBoard 90 = .ok (.iconst 0, 1) := by decide +kernel
theorem dX11_canBoard_91 : decode cX11_canBoard 91 = .ok (.ireturn, 1) := by decide +kernel
theorem dX11_fitsBy_0 : decode cX11_fitsBy 0 = .ok (.iload_n 2, 1) := by decide +kernel
theorem dX11_fitsBy_1 : decode cX11_fitsBy 1 = .ok (.aload_n 0, 1) := by decide +kernel
theorem dX11_fitsBy_2 : decode cX11_fitsBy 2 = .ok (.iload_n 1, 1) := by decide +kernel
theorem dX11_fitsBy_3 : decode cX11_fitsBy 3 = .ok (.invokevirtual 187, 3) := by decide +kernel
theorem dX11_fitsBy_6 : decode cX11_fitsBy 6 = .ok (.isub, 1) := by decide +kernel
theorem dX11_fitsBy_7 : decode cX11_fitsBy 7 = .ok (.istore 4, 2) := by decide +kernel
theorem dX11_fitsBy_9 : decode cX11_fitsBy 9 = .ok (.iload 4, 2) := by decide +kernel
theorem dX11_fitsBy_11 : decode cX11_fitsBy 11 = .ok (.ifCond .ge 9, 3) := by decide +kernel
theorem dX11_fitsBy_14 : decode cX11_fitsBy 14 = .ok (.iload 4, 2) := by decide +kernel
theorem dX11_fitsBy_16 : decode cX11_fitsBy 16 = .ok (.ineg, 1) := by decide +kernel
theorem dX11_fitsBy_17 : decode cX11_fitsBy 17 = .ok (.goto 5, 3) := by decide +kernel
theorem dX11_fitsBy_20 : decode cX11_fitsBy 20 = .ok (.iload 4, 2) := by decide +kernel
theorem dX11_fitsBy_22 : decode cX11_fitsBy 22 = .ok (.iload_n 3, 1) := by decide +kernel
theorem dX11_fitsBy_23 : decode cX11_fitsBy 23 = .ok (.iadd, 1) := by decide +kernel
theorem dX11_fitsBy_24 : decode cX11_fitsBy 24 = .ok (.aload_n 0, 1) := by decide +kernel
theorem dX11_fitsBy_25 : decode cX11_fitsBy 25 = .ok (.getfield 13, 3) := by decide +kernel
theorem dX11_fitsBy_28 : decode cX11_fitsBy 28 = .ok (.iconst 5, 1) := by decide +kernel
theorem dX11_fitsBy_29 : decode cX11_fitsBy 29 = .ok (.iload_n 1, 1) := by decide +kernel
theorem dX11_fitsBy_30 : decode cX11_fitsBy 30 = .ok (.imul, 1) := by decide +kernel
theorem dX11_fitsBy_31 : decode cX11_fitsBy 31 = .ok (.iaload, 1) := by decide +kernel
theorem dX11_fitsBy_32 : decode cX11_fitsBy 32 = .ok (.iconst 1, 1) := by decide +kernel
theorem dX11_fitsBy_33 : decode cX11_fitsBy 33 = .ok (.if_icmp .ne 7, 3) := by decide +kernel
theorem dX11_fitsBy_36 : decode cX11_fitsBy 36 = .ok (.iconst 1, 1) := by decide +kernel
theorem dX11_fitsBy_37 : decode cX11_fitsBy 37 = .ok (.goto 4, 3) := by decide +kernel
theorem dX11_fitsBy_40 : decode cX11_fitsBy 40 = .ok (.iconst 0, 1) := by decide +kernel
theorem dX11_fitsBy_41 : decode cX11_fitsBy 41 = .ok (.if_icmp .gt 7, 3) := by decide +kernel
theorem dX11_fitsBy_44 : decode cX11_fitsBy 44 = .ok (.iconst 1, 1) := by decide +kernel
theorem dX11_fitsBy_45 : decode cX11_fitsBy 45 = .ok (.goto 4, 3) := by decide +kernel
theorem dX11_fitsBy_48 : decode cX11_fitsBy 48 = .ok (.iconst 0, 1) := by decide +kernel
theorem dX11_fitsBy_49 : decode cX11_fitsBy 49 = .ok (.ireturn, 1) := by decide +kernel
theorem dX11_isRight_0 : decode cX11_isRight 0 = .ok (.aload_n 0, 1) := by decide +kernel
theorem dX11_isRight_1 : decode cX11_isRight 1 = .ok (.iload_n 1, 1) := by decide +kernel
theorem dX11_isRight_2 : decode cX11_isRight 2 = .ok (.iload_n 2, 1) := by decide +kernel
theorem dX11_isRight_3 : decode cX11_isRight 3 = .ok (.iload_n 3, 1) := by decide +kernel
theorem dX11_isRight_4 : decode cX11_isRight 4 = .ok (.iload 4, 2) := by decide +kernel
theorem dX11_isRight_6 : decode cX11_isRight 6 = .ok (.invokevirtual 191, 3) := by decide +kernel
theorem dX11_isRight_9 : decode cX11_isRight 9 = .ok (.ifCond .eq 40, 3) := by decide +kernel
theorem dX11_isRight_12 : decode cX11_isRight 12 = .ok (.iload_n 2, 1) := by decide +kernel
theorem dX11_isRight_13 : decode cX11_isRight 13 = .ok (.invokestatic 195, 3) := by decide +kernel
theorem dX11_isRight_16 : decode cX11_isRight 16 = .ok (.aload_n 0, 1) := by decide +kernel
theorem dX11_isRight_17 : decode cX11_isRight 17 = .ok (.getfield 13, 3) := by decide +kernel
theorem dX11_isRight_20 : decode cX11_isRight 20 = .ok (.iconst 5, 1) := by decide +kernel
theorem dX11_isRight_21 : decode cX11_isRight 21 = .ok (.iload_n 1, 1) := by decide +kernel
theorem dX11_isRight_22 : decode cX11_isRight 22 = .ok (.imul, 1) := by decide +kernel
theorem dX11_isRight_23 : decode cX11_isRight 23 = .ok (.iconst 3, 1) := by decide +kernel
theorem dX11_isRight_24 : decode cX11_isRight 24 = .ok (.iadd, 1) := by decide +kernel
theorem dX11_isRight_25 : decode cX11_isRight 25 = .ok (.iaload, 1) := by decide +kernel
theorem dX11_isRight_26 : decode cX11_isRight 26 = .ok (.if_icmp .gt 23, 3) := by decide +kernel
theorem dX11_isRight_29 : decode cX11_isRight 29 = .ok (.aload_n 0, 1) := by decide +kernel
theorem dX11_isRight_30 : decode cX11_isRight 30 = .ok (.iload_n 1, 1) := by decide +kernel
theorem dX11_isRight_31 : decode cX11_isRight 31 = .ok (.aload_n 0, 1) := by decide +kernel
theorem dX11_isRight_32 : decode cX11_isRight 32 = .ok (.iload_n 2, 1) := by decide +kernel
theorem dX11_isRight_33 : decode cX11_isRight 33 = .ok (.iload 5, 2) := by decide +kernel
theorem dX11_isRight_35 : decode cX11_isRight 35 = .ok (.invokevirtual 198, 3) := by decide +kernel
theorem dX11_isRight_38 : decode cX11_isRight 38 = .ok (.iconst 0, 1) := by decide +kernel
theorem dX11_isRight_39 : decode cX11_isRight 39 = .ok (.invokevirtual 201, 3) := by decide +kernel
theorem dX11_isRight_42 : decode cX11_isRight 42 = .ok (.ifCond .eq 7, 3) := by decide +kernel
theorem dX11_isRight_45 : decode cX11_isRight 45 = .ok (.iconst 1, 1) := by decide +kernel
theorem dX11_isRight_46 : decode cX11_isRight 46 = .ok (.goto 4, 3) := by decide +kernel
theorem dX11_isRight_49 : decode cX11_isRight 49 = .ok (.iconst 0, 1) := by decide +kernel
theorem dX11_isRight_50 : decode cX11_isRight 50 = .ok (.ireturn, 1) := by decide +kernel
theorem dX11_right_0 : decode cX11_right 0 = .ok (.aload_n 0, 1) := by decide +kernel
theorem dX11_right_1 : decode cX11_right 1 = .ok (.iload_n 1, 1) := by decide +kernel
theorem dX11_right_2 : decode cX11_right 2 = .ok (.invokevirtual 184, 3) := by decide +kernel
theorem dX11_right_5 : decode cX11_right 5 = .ok (.ifCond .eq 11, 3) := by decide +kernel
theorem dX11_right_8 : decode cX11_right 8 = .ok (.aload_n 0, 1) := by decide +kernel
theorem dX11_right_9 : decode cX11_right 9 = .ok (.iload_n 2, 1) := by decide +kernel
theorem dX11_right_10 : decode cX11_right 10 = .ok (.invokevirtual 204, 3) := by decide +kernel
theorem dX11_right_13 : decode cX11_right 13 = .ok (.ifCond .ne 6, 3) := by decide +kernel
theorem dX11_right_16 : decode cX11_right 16 = .ok (.bipush (-2), 2) := by decide +kernel
theorem dX11_right_18 : decode cX11_right 18 = .ok (.ireturn, 1) := by decide +kernel
theorem dX11_right_19 : decode cX11_right 19 = .ok (.aload_n 0, 1) := by decide +kernel
theorem dX11_right_20 : decode cX11_right 20 = .ok (.iload_n 1, 1) := by decide +kernel
theorem dX11_right_21 : decode cX11_right 21 = .ok (.iload_n 2, 1) := by decide +kernel
theorem dX11_right_22 : decode cX11_right 22 = .ok (.aload_n 0, 1) := by decide +kernel
theorem dX11_right_23 : decode cX11_right 23 = .ok (.getfield 155, 3) := by decide +kernel
theorem dX11_right_26 : decode cX11_right 26 = .ok (.aload_n 0, 1) := by decide +kernel
theorem dX11_right_27 : decode cX11_right 27 = .ok (.getfield 158, 3) := by decide +kernel
theorem dX11_right_30 : decode cX11_right 30 = .ok (.aload_n 0, 1) := by decide +kernel
theorem dX11_right_31 : decode cX11_right 31 = .ok (.getfield 161, 3) := by decide +kernel
theorem dX11_right_34 : decode cX11_right 34 = .ok (.invokevirtual 207, 3) := by decide +kernel
theorem dX11_right_37 : decode cX11_right 37 = .ok (.ifCond .eq 7, 3) := by decide +kernel
theorem dX11_right_40 : decode cX11_right 40 = .ok (.iconst 1, 1) := by decide +kernel
theorem dX11_right_41 : decode cX11_right 41 = .ok (.goto 4, 3) := by decide +kernel
theorem dX11_right_44 : decode cX11_right 44 = .ok (.iconst 0, 1) := by decide +kernel
theorem dX11_right_45 : decode cX11_right 45 = .ok (.ireturn, 1) := by decide +kernel
theorem dX11_cross_0 : decode cX11_cross 0 = .ok (.aload_n 0, 1) := by decide +kernel
theorem dX11_cross_1 : decode cX11_cross 1 = .ok (.iload_n 1, 1) := by decide +kernel
theorem dX11_cross_2 : decode cX11_cross 2 = .ok (.invokevirtual 184, 3) := by decide +kernel
theorem dX11_cross_5 : decode cX11_cross 5 = .ok (.ifCond .eq 11, 3) := by decide +kernel
theorem dX11_cross_8 : decode cX11_cross 8 = .ok (.aload_n 0, 1) := by decide +kernel
theorem dX11_cross_9 : decode cX11_cross 9 = .ok (.iload_n 2, 1) := by decide +kernel
theorem dX11_cross_10 : decode cX11_cross 10 = .ok (.invokevirtual 204, 3) := by decide +kernel
theorem dX11_cross_13 : decode cX11_cross 13 = .ok (.ifCond .ne 6, 3) := by decide +kernel
theorem dX11_cross_16 : decode cX11_cross 16 = .ok (.bipush (-2), 2) := by decide +kernel
theorem dX11_cross_18 : decode cX11_cross 18 = .ok (.ireturn, 1) := by decide +kernel
theorem dX11_cross_19 : decode cX11_cross 19 = .ok (.aload_n 0, 1) := by decide +kernel
theorem dX11_cross_20 : decode cX11_cross 20 = .ok (.iload_n 1, 1) := by decide +kernel
theorem dX11_cross_21 : decode cX11_cross 21 = .ok (.iload_n 2, 1) := by decide +kernel
theorem dX11_cross_22 : decode cX11_cross 22 = .ok (.aload_n 0, 1) := by decide +kernel
theorem dX11_cross_23 : decode cX11_cross 23 = .ok (.getfield 155, 3) := by decide +kernel
theorem dX11_cross_26 : decode cX11_cross 26 = .ok (.aload_n 0, 1) := by decide +kernel
theorem dX11_cross_27 : decode cX11_cross 27 = .ok (.getfield 158, 3) := by decide +kernel
theorem dX11_cross_30 : decode cX11_cross 30 = .ok (.aload_n 0, 1) := by decide +kernel
theorem dX11_cross_31 : decode cX11_cross 31 = .ok (.getfield 161, 3) := by decide +kernel
theorem dX11_cross_34 : decode cX11_cross 34 = .ok (.invokevirtual 207, 3) := by decide +kernel
theorem dX11_cross_37 : decode cX11_cross 37 = .ok (.ifCond .ne 6, 3) := by decide +kernel
theorem dX11_cross_40 : decode cX11_cross 40 = .ok (.bipush (-4), 2) := by decide +kernel
theorem dX11_cross_42 : decode cX11_cross 42 = .ok (.ireturn, 1) := by decide +kernel
theorem dX11_cross_43 : decode cX11_cross 43 = .ok (.aload_n 0, 1) := by decide +kernel
theorem dX11_cross_44 : decode cX11_cross 44 = .ok (.aload_n 0, 1) := by decide +kernel
theorem dX11_cross_45 : decode cX11_cross 45 = .ok (.getfield 155, 3) := by decide +kernel
theorem dX11_cross_48 : decode cX11_cross 48 = .ok (.iload_n 2, 1) := by decide +kernel
theorem dX11_cross_49 : decode cX11_cross 49 = .ok (.ixor, 1) := by decide +kernel
theorem dX11_cross_50 : decode cX11_cross 50 = .ok (.putfield 155, 3) := by decide +kernel
theorem dX11_cross_53 : decode cX11_cross 53 = .ok (.aload_n 0, 1) := by decide +kernel
theorem dX11_cross_54 : decode cX11_cross 54 = .ok (.aload_n 0, 1) := by decide +kernel
theorem dX11_cross_55 : decode cX11_cross 55 = .ok (.getfield 158, 3) := by decide +kernel
theorem dX11_cross_58 : decode cX11_cross 58 = .ok (.iconst 1, 1) := by decide +kernel
theorem dX11_cross_59 : decode cX11_cross 59 = .ok (.iload_n 1, 1) := by decide +kernel
theorem dX11_cross_60 : decode cX11_cross 60 = .ok (.ishl, 1) := by decide +kernel
theorem dX11_cross_61 : decode cX11_cross 61 = .ok (.ixor, 1) := by decide +kernel
theorem dX11_cross_62 : decode cX11_cross 62 = .ok (.putfield 158, 3) := by decide +kernel
theorem dX11_cross_65 : decode cX11_cross 65 = .ok (.aload_n 0, 1) := by decide +kernel
theorem dX11_cross_66 : decode cX11_cross 66 = .ok (.dup, 1) := by decide +kernel
theorem dX11_cross_67 : decode cX11_cross 67 = .ok (.getfield 167, 3) := by decide +kernel
theorem dX11_cross_70 : decode cX11_cross 70 = .ok (.iconst 1, 1) := by decide +kernel
theorem dX11_cross_71 : decode cX11_cross 71 = .ok (.iadd, 1) := by decide +kernel
theorem dX11_cross_72 : decode cX11_cross 72 = .ok (.putfield 167, 3) := by decide +kernel
theorem dX11_cross_75 : decode cX11_cross 75 = .ok (.aload_n 0, 1) := by decide +kernel
theorem dX11_cross_76 : decode cX11_cross 76 = .ok (.getfield 167, 3) := by decide +kernel
theorem dX11_cross_79 : decode cX11_cross 79 = .ok (.ireturn, 1) := by decide +kernel
theorem dX11_doff_0 : decode cX11_doff 0 = .ok (.aload_n 0, 1) := by decide +kernel
theorem dX11_doff_1 : decode cX11_doff 1 = .ok (.iload_n 1, 1) := by decide +kernel
theorem dX11_doff_2 : decode cX11_doff 2 = .ok (.invokevirtual 177, 3) := by decide +kernel
theorem dX11_doff_5 : decode cX11_doff 5 = .ok (.ifCond .ne 6, 3) := by decide +kernel
theorem dX11_doff_8 : decode cX11_doff 8 = .ok (.bipush (-2), 2) := by decide +kernel
theorem dX11_doff_10 : decode cX11_doff 10 = .ok (.ireturn, 1) := by decide +kernel
theorem dX11_doff_11 : decode cX11_doff 11 = .ok (.aload_n 0, 1) := by decide +kernel
theorem dX11_doff_12 : decode cX11_doff 12 = .ok (.getfield 7, 3) := by decide +kernel
theorem dX11_doff_15 : decode cX11_doff 15 = .ok (.bipush 6, 2) := by decide +kernel
theorem dX11_doff_17 : decode cX11_doff 17 = .ok (.iload_n 1, 1) := by decide +kernel
theorem dX11_doff_18 : decode cX11_doff 18 = .ok (.imul, 1) := by decide +kernel
theorem dX11_doff_19 : decode cX11_doff 19 = .ok (.iaload, 1) := by decide +kernel
theorem dX11_doff_20 : decode cX11_doff 20 = .ok (.iconst 1, 1) := by decide +kernel
theorem dX11_doff_21 : decode cX11_doff 21 = .ok (.if_icmp .le 6, 3) := by decide +kernel
theorem dX11_doff_24 : decode cX11_doff 24 = .ok (.bipush (-4), 2) := by decide +kernel
theorem dX11_doff_26 : decode cX11_doff 26 = .ok (.ireturn, 1) := by decide +kernel
theorem dX11_doff_27 : decode cX11_doff 27 = .ok (.aload_n 0, 1) := by decide +kernel
theorem dX11_doff_28 : decode cX11_doff 28 = .ok (.aload_n 0, 1) := by decide +kernel
theorem dX11_doff_29 : decode cX11_doff 29 = .ok (.getfield 161, 3) := by decide +kernel
theorem dX11_doff_32 : decode cX11_doff 32 = .ok (.iconst 1, 1) := by decide +kernel
theorem dX11_doff_33 : decode cX11_doff 33 = .ok (.iload_n 1, 1) := by decide +kernel
theorem dX11_doff_34 : decode cX11_doff 34 = .ok (.ishl, 1) := by decide +kernel
theorem dX11_doff_35 : decode cX11_doff 35 = .ok (.ixor, 1) := by decide +kernel
theorem dX11_doff_36 : decode cX11_doff 36 = .ok (.putfield 161, 3) := by decide +kernel
theorem dX11_doff_39 : decode cX11_doff 39 = .ok (.aload_n 0, 1) := by decide +kernel
theorem dX11_doff_40 : decode cX11_doff 40 = .ok (.iload_n 1, 1) := by decide +kernel
theorem dX11_doff_41 : decode cX11_doff 41 = .ok (.aload_n 0, 1) := by decide +kernel
theorem dX11_doff_42 : decode cX11_doff 42 = .ok (.getfield 161, 3) := by decide +kernel
theorem dX11_doff_45 : decode cX11_doff 45 = .ok (.invokevirtual 180, 3) := by decide +kernel
theorem dX11_doff_48 : decode cX11_doff 48 = .ok (.ireturn, 1) := by decide +kernel
theorem dX11_noon_0 : decode cX11_noon 0 = .ok (.aload_n 0, 1) := by decide +kernel
theorem dX11_noon_1 : decode cX11_noon 1 = .ok (.iconst 1, 1) := by decide +kernel
theorem dX11_noon_2 : decode cX11_noon 2 = .ok (.aload_n 0, 1) := by decide +kernel
theorem dX11_noon_3 : decode cX11_noon 3 = .ok (.getfield 164, 3) := by decide +kernel
theorem dX11_noon_6 : decode cX11_noon 6 = .ok (.isub, 1) := by decide +kernel
theorem dX11_noon_7 : decode cX11_noon 7 = .ok (.putfield 164, 3) := by decide +kernel
theorem dX11_noon_10 : decode cX11_noon 10 = .ok (.aload_n 0, 1) := by decide +kernel
theorem dX11_noon_11 : decode cX11_noon 11 = .ok (.getfield 164, 3) := by decide +kernel
theorem dX11_noon_14 : decode cX11_noon 14 = .ok (.ireturn, 1) := by decide +kernel
theorem dX11_keep_0 : decode cX11_keep 0 = .ok (.iload_n 1, 1) := by decide +kernel
theorem dX11_keep_1 : decode cX11_keep 1 = .ok (.iconst 0, 1) := by decide +kernel
theorem dX11_keep_2 : decode cX11_keep 2 = .ok (.iconst 1, 1) := by decide +kernel
theorem dX11_keep_3 : decode cX11_keep 3 = .ok (.invokestatic 51, 3) := by decide +kernel
theorem dX11_keep_6 : decode cX11_keep 6 = .ok (.ifCond .ne 6, 3) := by decide +kernel
theorem dX11_keep_9 : decode cX11_keep 9 = .ok (.bipush (-2), 2) := by decide +kernel
theorem dX11_keep_11 : decode cX11_keep 11 = .ok (.ireturn, 1) := by decide +kernel
theorem dX11_keep_12 : decode cX11_keep 12 = .ok (.aload_n 0, 1) := by decide +kernel
theorem dX11_keep_13 : decode cX11_keep 13 = .ok (.getfield 25, 3) := by decide +kernel
theorem dX11_keep_16 : decode cX11_keep 16 = .ok (.iconst 5, 1) := by decide +kernel
theorem dX11_keep_17 : decode cX11_keep 17 = .ok (.iload_n 1, 1) := by decide +kernel
theorem dX11_keep_18 : decode cX11_keep 18 = .ok (.imul, 1) := by decide +kernel
theorem dX11_keep_19 : decode cX11_keep 19 = .ok (.aload_n 0, 1) := by decide +kernel
theorem dX11_keep_20 : decode cX11_keep 20 = .ok (.getfield 155, 3) := by decide +kernel
theorem dX11_keep_23 : decode cX11_keep 23 = .ok (.iastore, 1) := by decide +kernel
theorem dX11_keep_24 : decode cX11_keep 24 = .ok (.aload_n 0, 1) := by decide +kernel
theorem dX11_keep_25 : decode cX11_keep 25 = .ok (.getfield 25, 3) := by decide +kernel
theorem dX11_keep_28 : decode cX11_keep 28 = .ok (.iconst 5, 1) := by decide +kernel
theorem dX11_keep_29 : decode cX11_keep 29 = .ok (.iload_n 1, 1) := by decide +kernel
theorem dX11_keep_30 : decode cX11_keep 30 = .ok (.imul, 1) := by decide +kernel
theorem dX11_keep_31 : decode cX11_keep 31 = .ok (.iconst 1, 1) := by decide +kernel
theorem dX11_keep_32 : decode cX11_keep 32 = .ok (.iadd, 1) := by decide +kernel
theorem dX11_keep_33 : decode cX11_keep 33 = .ok (.aload_n 0, 1) := by decide +kernel
theorem dX11_keep_34 : decode cX11_keep 34 = .ok (.getfield 158, 3) := by decide +kernel
theorem dX11_keep_37 : decode cX11_keep 37 = .ok (.iastore, 1) := by decide +kernel
theorem dX11_keep_38 : decode cX11_keep 38 = .ok (.aload_n 0, 1) := by decide +kernel
theorem dX11_keep_39 : decode cX11_keep 39 = .ok (.getfield 25, 3) := by decide +kernel
theorem dX11_keep_42 : decode cX11_keep 42 = .ok (.iconst 5, 1) := by decide +kernel
theorem dX11_keep_43 : decode cX11_keep 43 = .ok (.iload_n 1, 1) := by decide +kernel
theorem dX11_keep_44 : decode cX11_keep 44 = .ok (.imul, 1) := by decide +kernel
theorem dX11_keep_45 : decode cX11_keep 45 = .ok (.iconst 2, 1) := by decide +kernel
theorem dX11_keep_46 : decode cX11_keep 46 = .ok (.iadd, 1) := by decide +kernel
theorem dX11_keep_47 : decode cX11_keep 47 = .ok (.aload_n 0, 1) := by decide +kernel
theorem dX11_keep_48 : decode cX11_keep 48 = .ok (.getfield 161, 3) := by decide +kernel
theorem dX11_keep_51 : decode cX11_keep 51 = .ok (.iastore, 1) := by decide +kernel
theorem dX11_keep_52 : decode cX11_keep 52 = .ok (.aload_n 0, 1) := by decide +kernel
theorem dX11_keep_53 : decode cX11_keep 53 = .ok (.getfield 25, 3) := by decide +kernel
theorem dX11_keep_56 : decode cX11_keep 56 = .ok (.iconst 5, 1) := by decide +kernel
theorem dX11_keep_57 : decode cX11_keep 57 = .ok (.iload_n 1, 1) := by decide +kernel
theorem dX11_keep_58 : decode cX11_keep 58 = .ok (.imul, 1) := by decide +kernel
theorem dX11_keep_59 : decode cX11_keep 59 = .ok (.iconst 3, 1) := by decide +kernel
theorem dX11_keep_60 : decode cX11_keep 60 = .ok (.iadd, 1) := by decide +kernel
theorem dX11_keep_61 : decode cX11_keep 61 = .ok (.aload_n 0, 1) := by decide +kernel
theorem dX11_keep_62 : decode cX11_keep 62 = .ok (.getfield 164, 3) := by decide +kernel
theorem dX11_keep_65 : decode cX11_keep 65 = .ok (.iastore, 1) := by decide +kernel
theorem dX11_keep_66 : decode cX11_keep 66 = .ok (.aload_n 0, 1) := by decide +kernel
theorem dX11_keep_67 : decode cX11_keep 67 = .ok (.getfield 25, 3) := by decide +kernel
theorem dX11_keep_70 : decode cX11_keep 70 = .ok (.iconst 5, 1) := by decide +kernel
theorem dX11_keep_71 : decode cX11_keep 71 = .ok (.iload_n 1, 1) := by decide +kernel
theorem dX11_keep_72 : decode cX11_keep 72 = .ok (.imul, 1) := by decide +kernel
theorem dX11_keep_73 : decode cX11_keep 73 = .ok (.iconst 4, 1) := by decide +kernel
theorem dX11_keep_74 : decode cX11_keep 74 = .ok (.iadd, 1) := by decide +kernel
theorem dX11_keep_75 : decode cX11_keep 75 = .ok (.aload_n 0, 1) := by decide +kernel
theorem dX11_keep_76 : decode cX11_keep 76 = .ok (.getfield 167, 3) := by decide +kernel
theorem dX11_keep_79 : decode cX11_keep 79 = .ok (.iastore, 1) := by decide +kernel
theorem dX11_keep_80 : decode cX11_keep 80 = .ok (.aload_n 0, 1) := by decide +kernel
theorem dX11_keep_81 : decode cX11_keep 81 = .ok (.getfield 28, 3) := by decide +kernel
theorem dX11_keep_84 : decode cX11_keep 84 = .ok (.iload_n 1, 1) := by decide +kernel
theorem dX11_keep_85 : decode cX11_keep 85 = .ok (.iconst 1, 1) := by decide +kernel
theorem dX11_keep_86 : decode cX11_keep 86 = .ok (.bastore, 1) := by decide +kernel
theorem dX11_keep_87 : decode cX11_keep 87 = .ok (.aload_n 0, 1) := by decide +kernel
theorem dX11_keep_88 : decode cX11_keep 88 = .ok (.getfield 167, 3) := by decide +kernel
theorem dX11_keep_91 : decode cX11_keep 91 = .ok (.ireturn, 1) := by decide +kernel
theorem dX11_back_0 : decode cX11_back 0 = .ok (.iload_n 1, 1) := by decide +kernel
theorem dX11_back_1 : decode cX11_back 1 = .ok (.iconst 0, 1) := by decide +kernel
theorem dX11_back_2 : decode cX11_back 2 = .ok (.iconst 1, 1) := by decide +kernel
theorem dX11_back_3 : decode cX11_back 3 = .ok (.invokestatic 51, 3) := by decide +kernel
theorem dX11_back_6 : decode cX11_back 6 = .ok (.ifCond .ne 6, 3) := by decide +kernel
theorem dX11_back_9 : decode cX11_back 9 = .ok (.bipush (-2), 2) := by decide +kernel
theorem dX11_back_11 : decode cX11_back 11 = .ok (.ireturn, 1) := by decide +kernel
theorem dX11_back_12 : decode cX11_back 12 = .ok (.aload_n 0, 1) := by decide +kernel
theorem dX11_back_13 : decode cX11_back 13 = .ok (.getfield 28, 3) := by decide +kernel
theorem dX11_back_16 : decode cX11_back 16 = .ok (.iload_n 1, 1) := by decide +kernel
theorem dX11_back_17 : decode cX11_back 17 = .ok (.baload, 1) := by decide +kernel
theorem dX11_back_18 : decode cX11_back 18 = .ok (.ifCond .ne 6, 3) := by decide +kernel
theorem dX11_back_21 : decode cX11_back 21 = .ok (.bipush (-4), 2) := by decide +kernel
theorem dX11_back_23 : decode cX11_back 23 = .ok (.ireturn, 1) := by decide +kernel
theorem dX11_back_24 : decode cX11_back 24 = .ok (.aload_n 0, 1) := by decide +kernel
theorem dX11_back_25 : decode cX11_back 25 = .ok (.aload_n 0, 1) := by decide +kernel
theorem dX11_back_26 : decode cX11_back 26 = .ok (.getfield 25, 3) := by decide +kernel
theorem dX11_back_29 : decode cX11_back 29 = .ok (.iconst 5, 1) := by decide +kernel
theorem dX11_back_30 : decode cX11_back 30 = .ok (.iload_n 1, 1) := by decide +kernel
theorem dX11_back_31 : decode cX11_back 31 = .ok (.imul, 1) := by decide +kernel
theorem dX11_back_32 : decode cX11_back 32 = .ok (.iaload, 1) := by decide +kernel
theorem dX11_back_33 : decode cX11_back 33 = .ok (.putfield 155, 3) := by decide +kernel
theorem dX11_back_36 : decode cX11_back 36 = .ok (.aload_n 0, 1) := by decide +kernel
theorem dX11_back_37 : decode cX11_back 37 = .ok (.aload_n 0, 1) := by decide +kernel
theorem dX11_back_38 : decode cX11_back 38 = .ok (.getfield 25, 3) := by decide +kernel
theorem dX11_back_41 : decode cX11_back 41 = .ok (.iconst 5, 1) := by decide +kernel
theorem dX11_back_42 : decode cX11_back 42 = .ok (.iload_n 1, 1) := by decide +kernel
theorem dX11_back_43 : decode cX11_back 43 = .ok (.imul, 1) := by decide +kernel
theorem dX11_back_44 : decode cX11_back 44 = .ok (.iconst 1, 1) := by decide +kernel
theorem dX11_back_45 : decode cX11_back 45 = .ok (.iadd, 1) := by decide +kernel
theorem dX11_back_46 : decode cX11_back 46 = .ok (.iaload, 1) := by decide +kernel
theorem dX11_back_47 : decode cX11_back 47 = .ok (.putfield 158, 3) := by decide +kernel
theorem dX11_back_50 : decode cX11_back 50 = .ok (.aload_n 0, 1) := by decide +kernel
theorem dX11_back_51 : decode cX11_back 51 = .ok (.aload_n 0, 1) := by decide +kernel
theorem dX11_back_52 : decode cX11_back 52 = .ok (.getfield 25, 3) := by decide +kernel
theorem dX11_back_55 : decode cX11_back 55 = .ok (.iconst 5, 1) := by decide +kernel
theorem dX11_back_56 : decode cX11_back 56 = .ok (.iload_n 1, 1) := by decide +kernel
theorem dX11_back_57 : decode cX11_back 57 = .ok (.imul, 1) := by decide +kernel
theorem dX11_back_58 : decode cX11_back 58 = .ok (.iconst 2, 1) := by decide +kernel
theorem dX11_back_59 : decode cX11_back 59 = .ok (.iadd, 1) := by decide +kernel
theorem dX11_back_60 : decode cX11_back 60 = .ok (.iaload, 1) := by decide +kernel
theorem dX11_back_61 : decode cX11_back 61 = .ok (.putfield 161, 3) := by decide +kernel
theorem dX11_back_64 : decode cX11_back 64 = .ok (.aload_n 0, 1) := by decide +kernel
theorem dX11_back_65 : decode cX11_back 65 = .ok (.aload_n 0, 1) := by decide +kernel
theorem dX11_back_66 : decode cX11_back 66 = .ok (.getfield 25, 3) := by decide +kernel
theorem dX11_back_69 : decode cX11_back 69 = .ok (.iconst 5, 1) := by decide +kernel
theorem dX11_back_70 : decode cX11_back 70 = .ok (.iload_n 1, 1) := by decide +kernel
theorem dX11_back_71 : decode cX11_back 71 = .ok (.imul, 1) := by decide +kernel
theorem dX11_back_72 : decode cX11_back 72 = .ok (.iconst 3, 1) := by decide +kernel
theorem dX11_back_73 : decode cX11_back 73 = .ok (.iadd, 1) := by decide +kernel
theorem dX11_back_74 : decode cX11_back 74 = .ok (.iaload, 1) := by decide +kernel
theorem dX11_back_75 : decode cX11_back 75 = .ok (.putfield 164, 3) := by decide +kernel
theorem dX11_back_78 : decode cX11_back 78 = .ok (.aload_n 0, 1) := by decide +kernel
theorem dX11_back_79 : decode cX11_back 79 = .ok (.aload_n 0, 1) := by decide +kernel
theorem dX11_back_80 : decode cX11_back 80 = .ok (.getfield 25, 3) := by decide +kernel
theorem dX11_back_83 : decode cX11_back 83 = .ok (.iconst 5, 1) := by decide +kernel
theorem dX11_back_84 : decode cX11_back 84 = .ok (.iload_n 1, 1) := by decide +kernel
theorem dX11_back_85 : decode cX11_back 85 = .ok (.imul, 1) := by decide +kernel
theorem dX11_back_86 : decode cX11_back 86 = .ok (.iconst 4, 1) := by decide +kernel
theorem dX11_back_87 : decode cX11_back 87 = .ok (.iadd, 1) := by decide +kernel
theorem dX11_back_88 : decode cX11_back 88 = .ok (.iaload, 1) := by decide +kernel
theorem dX11_back_89 : decode cX11_back 89 = .ok (.putfield 167, 3) := by decide +kernel
theorem dX11_back_92 : decode cX11_back 92 = .ok (.aload_n 0, 1) := by decide +kernel
theorem dX11_back_93 : decode cX11_back 93 = .ok (.getfield 167, 3) := by decide +kernel
theorem dX11_back_96 : decode cX11_back 96 = .ok (.ireturn, 1) := by decide +kernel
theorem dX11_wishes_0 : decode cX11_wishes 0 = .ok (.iconst 0, 1) := by decide +kernel
theorem dX11_wishes_1 : decode cX11_wishes 1 = .ok (.istore_n 2, 1) := by decide +kernel
theorem dX11_wishes_2 : decode cX11_wishes 2 = .ok (.iconst 0, 1) := by decide +kernel
theorem dX11_wishes_3 : decode cX11_wishes 3 = .ok (.istore_n 3, 1) := by decide +kernel
theorem dX11_wishes_4 : decode cX11_wishes 4 = .ok (.iload_n 3, 1) := by decide +kernel
theorem dX11_wishes_5 : decode cX11_wishes 5 = .ok (.aload_n 0, 1) := by decide +kernel
theorem dX11_wishes_6 : decode cX11_wishes 6 = .ok (.getfield 47, 3) := by decide +kernel
theorem dX11_wishes_9 : decode cX11_wishes 9 = .ok (.if_icmp .ge 35, 3) := by decide +kernel
theorem dX11_wishes_12 : decode cX11_wishes 12 = .ok (.iload_n 2, 1) := by decide +kernel
theorem dX11_wishes_13 : decode cX11_wishes 13 = .ok (.iload_n 1, 1) := by decide +kernel
theorem dX11_wishes_14 : decode cX11_wishes 14 = .ok (.iload_n 3, 1) := by decide +kernel
theorem dX11_wishes_15 : decode cX11_wishes 15 = .ok (.invokestatic 173, 3) := by decide +kernel
theorem dX11_wishes_18 : decode cX11_wishes 18 = .ok (.ifCond .eq 17, 3) := by decide +kernel
theorem dX11_wishes_21 : decode cX11_wishes 21 = .ok (.aload_n 0, 1) := by decide +kernel
theorem dX11_wishes_22 : decode cX11_wishes 22 = .ok (.getfield 7, 3) := by decide +kernel
theorem dX11_wishes_25 : decode cX11_wishes 25 = .ok (.bipush 6, 2) := by decide +kernel
theorem dX11_wishes_27 : decode cX11_wishes 27 = .ok (.iload_n 3, 1) := by decide +kernel
theorem dX11_wishes_28 : decode cX11_wishes 28 = .ok (.imul, 1) := by decide +kernel
theorem dX11_wishes_29 : decode cX11_wishes 29 = .ok (.iconst 4, 1) := by decide +kernel
theorem dX11_wishes_30 : decode cX11_wishes 30 = .ok (.iadd, 1) := by decide +kernel
theorem dX11_wishes_31 : decode cX11_wishes 31 = .ok (.iaload, 1) := by decide +kernel
theorem dX11_wishes_32 : decode cX11_wishes 32 = .ok (.goto 4, 3) := by decide +kernel
theorem dX11_wishes_35 : decode cX11_wishes 35 = .ok (.iconst 0, 1) := by decide +kernel
theorem dX11_wishes_36 : decode cX11_wishes 36 = .ok (.iadd, 1) := by decide +kernel
theorem dX11_wishes_37 : decode cX11_wishes 37 = .ok (.istore_n 2, 1) := by decide +kernel
theorem dX11_wishes_38 : decode cX11_wishes 38 = .ok (.iinc 3 1, 3) := by decide +kernel
theorem dX11_wishes_41 : decode cX11_wishes 41 = .ok (.goto (-37), 3) := by decide +kernel
theorem dX11_wishes_44 : decode cX11_wishes 44 = .ok (.iload_n 2, 1) := by decide +kernel
theorem dX11_wishes_45 : decode cX11_wishes 45 = .ok (.ireturn, 1) := by decide +kernel
theorem dX11_loads_0 : decode cX11_loads 0 = .ok (.aload_n 0, 1) := by decide +kernel
theorem dX11_loads_1 : decode cX11_loads 1 = .ok (.iload_n 1, 1) := by decide +kernel
theorem dX11_loads_2 : decode cX11_loads 2 = .ok (.invokevirtual 184, 3) := by decide +kernel
theorem dX11_loads_5 : decode cX11_loads 5 = .ok (.ifCond .ne 6, 3) := by decide +kernel
theorem dX11_loads_8 : decode cX11_loads 8 = .ok (.bipush (-2), 2) := by decide +kernel
theorem dX11_loads_10 : decode cX11_loads 10 = .ok (.ireturn, 1) := by decide +kernel
theorem dX11_loads_11 : decode cX11_loads 11 = .ok (.iload_n 2, 1) := by decide +kernel
theorem dX11_loads_12 : decode cX11_loads 12 = .ok (.iconst 0, 1) := by decide +kernel
theorem dX11_loads_13 : decode cX11_loads 13 = .ok (.iconst 3, 1) := by decide +kernel
theorem dX11_loads_14 : decode cX11_loads 14 = .ok (.invokestatic 51, 3) := by decide +kernel
theorem dX11_loads_17 : decode cX11_loads 17 = .ok (.ifCond .ne 6, 3) := by decide +kernel
theorem dX11_loads_20 : decode cX11_loads 20 = .ok (.bipush (-3), 2) := by decide +kernel
theorem dX11_loads_22 : decode cX11_loads 22 = .ok (.ireturn, 1) := by decide +kernel
theorem dX11_loads_23 : decode cX11_loads 23 = .ok (.iconst 0, 1) := by decide +kernel
theorem dX11_loads_24 : decode cX11_loads 24 = .ok (.istore_n 3, 1) := by decide +kernel
theorem dX11_loads_25 : decode cX11_loads 25 = .ok (.iconst (-1), 1) := by decide +kernel
theorem dX11_loads_26 : decode cX11_loads 26 = .ok (.istore 4, 2) := by decide +kernel
theorem dX11_loads_28 : decode cX11_loads 28 = .ok (.iconst (-1), 1) := by decide +kernel
theorem dX11_loads_29 : decode cX11_loads 29 = .ok (.istore 5, 2) := by decide +kernel
theorem dX11_loads_31 : decode cX11_loads 31 = .ok (.iconst 0, 1) := by decide +kernel
theorem dX11_loads_32 : decode cX11_loads 32 = .ok (.istore 6, 2) := by decide +kernel
theorem dX11_loads_34 : decode cX11_loads 34 = .ok (.iload 6, 2) := by decide +kernel
theorem dX11_loads_36 : decode cX11_loads 36 = .ok (.iconst 1, 1) := by decide +kernel
theorem dX11_loads_37 : decode cX11_loads 37 = .ok (.aload_n 0, 1) := by decide +kernel
theorem dX11_loads_38 : decode cX11_loads 38 = .ok (.getfield 47, 3) := by decide +kernel
theorem dX11_loads_41 : decode cX11_loads 41 = .ok (.ishl, 1) := by decide +kernel
theorem dX11_loads_42 : decode cX11_loads 42 = .ok (.if_icmp .ge 79, 3) := by decide +kernel
theorem dX11_loads_45 : decode cX11_loads 45 = .ok (.aload_n 0, 1) := by decide +kernel
theorem dX11_loads_46 : decode cX11_loads 46 = .ok (.iload_n 1, 1) := by decide +kernel
theorem dX11_loads_47 : decode cX11_loads 47 = .ok (.iload 6, 2) := by decide +kernel
theorem dX11_loads_49 : decode cX11_loads 49 = .ok (.aload_n 0, 1) := by decide +kernel
theorem dX11_loads_50 : decode cX11_loads 50 = .ok (.getfield 155, 3) := by decide +kernel
theorem dX11_loads_53 : decode cX11_loads 53 = .ok (.aload_n 0, 1) := by decide +kernel
theorem dX11_loads_54 : decode cX11_loads 54 = .ok (.getfield 158, 3) := by decide +kernel
theorem dX11_loads_57 : decode cX11_loads 57 = .ok (.aload_n 0, 1) := by decide +kernel
theorem dX11_loads_58 : decode cX11_loads 58 = .ok (.getfield 161, 3) := by decide +kernel
theorem dX11_loads_61 : decode cX11_loads 61 = .ok (.invokevirtual 207, 3) := by decide +kernel
theorem dX11_loads_64 : decode cX11_loads 64 = .ok (.ifCond .eq 51, 3) := by decide +kernel
theorem dX11_loads_67 : decode cX11_loads 67 = .ok (.iinc 3 1, 3) := by decide +kernel
theorem dX11_loads_70 : decode cX11_loads 70 = .ok (.iload 4, 2) := by decide +kernel
theorem dX11_loads_72 : decode cX11_loads 72 = .ok (.iconst (-1), 1) := by decide +kernel
theorem dX11_loads_73 : decode cX11_loads 73 = .ok (.if_icmp .ne 8, 3) := by decide +kernel
theorem dX11_loads_76 : decode cX11_loads 76 = .ok (.iload 6, 2) := by decide +kernel
theorem dX11_loads_78 : decode cX11_loads 78 = .ok (.goto 5, 3) := by decide +kernel
theorem dX11_loads_81 : decode cX11_loads 81 = .ok (.iload 4, 2) := by decide +kernel
theorem dX11_loads_83 : decode cX11_loads 83 = .ok (.istore 4, 2) := by decide +kernel
theorem dX11_loads_85 : decode cX11_loads 85 = .ok (.iload 5, 2) := by decide +kernel
theorem dX11_loads_87 : decode cX11_loads 87 = .ok (.iconst (-1), 1) := by decide +kernel
theorem dX11_loads_88 : decode cX11_loads 88 = .ok (.if_icmp .eq 18, 3) := by decide +kernel
theorem dX11_loads_91 : decode cX11_loads 91 = .ok (.aload_n 0, 1) := by decide +kernel
theorem dX11_loads_92 : decode cX11_loads 92 = .ok (.iload 6, 2) := by decide +kernel
theorem dX11_loads_94 : decode cX11_loads 94 = .ok (.invokevirtual 211, 3) := by decide +kernel
theorem dX11_loads_97 : decode cX11_loads 97 = .ok (.aload_n 0, 1) := by decide +kernel
theorem dX11_loads_98 : decode cX11_loads 98 = .ok (.iload 5, 2) := by decide +kernel
theorem dX11_loads_100 : decode cX11_loads 100 = .ok (.invokevirtual 211, 3) := by decide +kernel
theorem dX11_loads_103 : decode cX11_loads 103 = .ok (.if_icmp .le 8, 3) := by decide +kernel
theorem dX11_loads_106 : decode cX11_loads 106 = .ok (.iload 6, 2) := by decide +kernel
theorem dX11_loads_108 : decode cX11_loads 108 = .ok (.goto 5, 3) := by decide +kernel
theorem dX11_loads_111 : decode cX11_loads 111 = .ok (.iload 5, 2) := by decide +kernel
theorem dX11_loads_113 : decode cX11_loads 113 = .ok (.istore 5, 2) := by decide +kernel
theorem dX11_loads_115 : decode cX11_loads 115 = .ok (.iinc 6 1, 3) := by decide +kernel
theorem dX11_loads_118 : decode cX11_loads 118 = .ok (.goto (-84), 3) := by decide +kernel
theorem dX11_loads_121 : decode cX11_loads 121 = .ok (.iload_n 2, 1) := by decide +kernel
theorem dX11_loads_122 : decode cX11_loads 122 = .ok (.ifCond .ne 7, 3) := by decide +kernel
theorem dX11_loads_125 : decode cX11_loads 125 = .ok (.iload_n 3, 1) := by decide +kernel
theorem dX11_loads_126 : decode cX11_loads 126 = .ok (.goto 35, 3) := by decide +kernel
theorem dX11_loads_129 : decode cX11_loads 129 = .ok (.iload_n 2, 1) := by decide +kernel
theorem dX11_loads_130 : decode cX11_loads 130 = .ok (.iconst 1, 1) := by decide +kernel
theorem dX11_loads_131 : decode cX11_loads 131 = .ok (.if_icmp .ne 8, 3) := by decide +kernel
theorem dX11_loads_134 : decode cX11_loads 134 = .ok (.iload 4, 2) := by decide +kernel
theorem dX11_loads_136 : decode cX11_loads 136 = .ok (.goto 25, 3) := by decide +kernel
theorem dX11_loads_139 : decode cX11_loads 139 = .ok (.iload_n 2, 1) := by decide +kernel
theorem dX11_loads_140 : decode cX11_loads 140 = .ok (.iconst 2, 1) := by decide +kernel
theorem dX11_loads_141 : decode cX11_loads 141 = .ok (.if_icmp .eq 9, 3) := by decide +kernel
theorem dX11_loads_144 : decode cX11_loads 144 = .ok (.iload 5, 2) := by decide +kernel
theorem dX11_loads_146 : decode cX11_loads 146 = .ok (.iconst (-1), 1) := by decide +kernel
theorem dX11_loads_147 : decode cX11_loads 147 = .ok (.if_icmp .ne 8, 3) := by decide +kernel
theorem dX11_loads_150 : decode cX11_loads 150 = .ok (.iload 5, 2) := by decide +kernel
theorem dX11_loads_152 : decode cX11_loads 152 = .ok (.goto 9, 3) := by decide +kernel
theorem dX11_loads_155 : decode cX11_loads 155 = .ok (.aload_n 0, 1) := by decide +kernel
theorem dX11_loads_156 : decode cX11_loads 156 = .ok (.iload 5, 2) := by decide +kernel
theorem dX11_loads_158 : decode cX11_loads 158 = .ok (.invokevirtual 211, 3) := by decide +kernel
theorem dX11_loads_161 : decode cX11_loads 161 = .ok (.ireturn, 1) := by decide +kernel
theorem dX11_weighed_0 : decode cX11_weighed 0 = .ok (.iload_n 1, 1) := by decide +kernel
theorem dX11_weighed_1 : decode cX11_weighed 1 = .ok (.invokestatic 214, 3) := by decide +kernel
theorem dX11_weighed_4 : decode cX11_weighed 4 = .ok (.ifCond .ne 6, 3) := by decide +kernel
theorem dX11_weighed_7 : decode cX11_weighed 7 = .ok (.bipush (-2), 2) := by decide +kernel
theorem dX11_weighed_9 : decode cX11_weighed 9 = .ok (.ireturn, 1) := by decide +kernel
theorem dX11_weighed_10 : decode cX11_weighed 10 = .ok (.iload_n 2, 1) := by decide +kernel
theorem dX11_weighed_11 : decode cX11_weighed 11 = .ok (.iconst 1, 1) := by decide +kernel
theorem dX11_weighed_12 : decode cX11_weighed 12 = .ok (.sipush 999, 3) := by decide +kernel
theorem dX11_weighed_15 : decode cX11_weighed 15 = .ok (.invokestatic 51, 3) := by decide +kernel
theorem dX11_weighed_18 : decode cX11_weighed 18 = .ok (.ifCond .ne 6, 3) := by decide +kernel
theorem dX11_weighed_21 : decode cX11_weighed 21 = .ok (.bipush (-3), 2) := by decide +kernel
theorem dX11_weighed_23 : decode cX11_weighed 23 = .ok (.ireturn, 1) := by decide +kernel
theorem dX11_weighed_24 : decode cX11_weighed 24 = .ok (.iconst 0, 1) := by decide +kernel
theorem dX11_weighed_25 : decode cX11_weighed 25 = .ok (.istore_n 3, 1) := by decide +kernel
theorem dX11_weighed_26 : decode cX11_weighed 26 = .ok (.iconst 1, 1) := by decide +kernel
theorem dX11_weighed_27 : decode cX11_weighed 27 = .ok (.istore 4, 2) := by decide +kernel
theorem dX11_weighed_29 : decode cX11_weighed 29 = .ok (.iload 4, 2) := by decide +kernel
theorem dX11_weighed_31 : decode cX11_weighed 31 = .ok (.iconst 1, 1) := by decide +kernel
theorem dX11_weighed_32 : decode cX11_weighed 32 = .ok (.aload_n 0, 1) := by decide +kernel
theorem dX11_weighed_33 : decode cX11_weighed 33 = .ok (.getfield 47, 3) := by decide +kernel
theorem dX11_weighed_36 : decode cX11_weighed 36 = .ok (.ishl, 1) := by decide +kernel
theorem dX11_weighed_37 : decode cX11_weighed 37 = .ok (.if_icmp .ge 78, 3) := by decide +kernel
theorem dX11_weighed_40 : decode cX11_weighed 40 = .ok (.iload_n 1, 1) := by decide +kernel
theorem dX11_weighed_41 : decode cX11_weighed 41 = .ok (.iconst 1, 1) := by decide +kernel
theorem dX11_weighed_42 : decode cX11_weighed 42 = .ok (.if_icmp .ne 23, 3) := by decide +kernel
theorem dX11_weighed_45 : decode cX11_weighed 45 = .ok (.iload 4, 2) := by decide +kernel
theorem dX11_weighed_47 : decode cX11_weighed 47 = .ok (.aload_n 0, 1) := by decide +kernel
theorem dX11_weighed_48 : decode cX11_weighed 48 = .ok (.getfield 155, 3) := by decide +kernel
theorem dX11_weighed_51 : decode cX11_weighed 51 = .ok (.iconst (-1), 1) := by decide +kernel
theorem dX11_weighed_52 : decode cX11_weighed 52 = .ok (.ixor, 1) := by decide +kernel
theorem dX11_weighed_53 : decode cX11_weighed 53 = .ok (.iand, 1) := by decide +kernel
theorem dX11_weighed_54 : decode cX11_weighed 54 = .ok (.ifCond .ne 7, 3) := by decide +kernel
theorem dX11_weighed_57 : decode cX11_weighed 57 = .ok (.iconst 1, 1) := by decide +kernel
theorem dX11_weighed_58 : decode cX11_weighed 58 = .ok (.goto 22, 3) := by decide +kernel
theorem dX11_weighed_61 : decode cX11_weighed 61 = .ok (.iconst 0, 1) := by decide +kernel
theorem dX11_weighed_62 : decode cX11_weighed 62 = .ok (.goto 18, 3) := by decide +kernel
theorem dX11_weighed_65 : decode cX11_weighed 65 = .ok (.iload 4, 2) := by decide +kernel
theorem dX11_weighed_67 : decode cX11_weighed 67 = .ok (.aload_n 0, 1) := by decide +kernel
theorem dX11_weighed_68 : decode cX11_weighed 68 = .ok (.getfield 155, 3) := by decide +kernel
theorem dX11_weighed_71 : decode cX11_weighed 71 = .ok (.iand, 1) := by decide +kernel
theorem dX11_weighed_72 : decode cX11_weighed 72 = .ok (.ifCond .ne 7, 3) := by decide +kernel
theorem dX11_weighed_75 : decode cX11_weighed 75 = .ok (.iconst 1, 1) := by decide +kernel
theorem dX11_weighed_76 : decode cX11_weighed 76 = .ok (.goto 4, 3) := by decide +kernel
theorem dX11_weighed_79 : decode cX11_weighed 79 = .ok (.iconst 0, 1) := by decide +kernel
theorem dX11_weighed_80 : decode cX11_weighed 80 = .ok (.istore 5, 2) := by decide +kernel
theorem dX11_weighed_82 : decode cX11_weighed 82 = .ok (.iload_n 3, 1) := by decide +kernel
theorem dX11_weighed_83 : decode cX11_weighed 83 = .ok (.iload 5, 2) := by decide +kernel
theorem dX11_weighed_85 : decode cX11_weighed 85 = .ok (.ifCond .eq 21, 3) := by decide +kernel
theorem dX11_weighed_88 : decode cX11_weighed 88 = .ok (.aload_n 0, 1) := by decide +kernel
theorem dX11_weighed_89 : decode cX11_weighed 89 = .ok (.iload 4, 2) := by decide +kernel
theorem dX11_weighed_91 : decode cX11_weighed 91 = .ok (.aload_n 0, 1) := by decide +kernel
theorem dX11_weighed_92 : decode cX11_weighed 92 = .ok (.getfield 161, 3) := by decide +kernel
theorem dX11_weighed_95 : decode cX11_weighed 95 = .ok (.invokevirtual 198, 3) := by decide +kernel
theorem dX11_weighed_98 : decode cX11_weighed 98 = .ok (.iload_n 2, 1) := by decide +kernel
theorem dX11_weighed_99 : decode cX11_weighed 99 = .ok (.if_icmp .ne 7, 3) := by decide +kernel
theorem dX11_weighed_102 : decode cX11_weighed 102 = .ok (.iconst 1, 1) := by decide +kernel
theorem dX11_weighed_103 : decode cX11_weighed 103 = .ok (.goto 4, 3) := by decide +kernel
theorem dX11_weighed_106 : decode cX11_weighed 106 = .ok (.iconst 0, 1) := by decide +kernel
theorem dX11_weighed_107 : decode cX11_weighed 107 = .ok (.iadd, 1) := by decide +kernel
theorem dX11_weighed_108 : decode cX11_weighed 108 = .ok (.istore_n 3, 1) := by decide +kernel
theorem dX11_weighed_109 : decode cX11_weighed 109 = .ok (.iinc 4 1, 3) := by decide +kernel
theorem dX11_weighed_112 : decode cX11_weighed 112 = .ok (.goto (-83), 3) := by decide +kernel
theorem dX11_weighed_115 : decode cX11_weighed 115 = .ok (.iload_n 3, 1) := by decide +kernel
theorem dX11_weighed_116 : decode cX11_weighed 116 = .ok (.ireturn, 1) := by decide +kernel
theorem dX11_hats_0 : decode cX11_hats 0 = .ok (.aload_n 0, 1) := by decide +kernel
theorem dX11_hats_1 : decode cX11_hats 1 = .ok (.iload_n 1, 1) := by decide +kernel
theorem dX11_hats_2 : decode cX11_hats 2 = .ok (.invokevirtual 184, 3) := by decide +kernel
theorem dX11_hats_5 : decode cX11_hats 5 = .ok (.ifCond .eq 11, 3) := by decide +kernel
theorem dX11_hats_8 : decode cX11_hats 8 = .ok (.aload_n 0, 1) := by decide +kernel
theorem dX11_hats_9 : decode cX11_hats 9 = .ok (.iload_n 2, 1) := by decide +kernel
theorem dX11_hats_10 : decode cX11_hats 10 = .ok (.invokevirtual 204, 3) := by decide +kernel
theorem dX11_hats_13 : decode cX11_hats 13 = .ok (.ifCond .ne 6, 3) := by decide +kernel
theorem dX11_hats_16 : decode cX11_hats 16 = .ok (.bipush (-2), 2) := by decide +kernel
theorem dX11_hats_18 : decode cX11_hats 18 = .ok (.ireturn, 1) := by decide +kernel
theorem dX11_hats_19 : decode cX11_hats 19 = .ok (.iload_n 3, 1) := by decide +kernel
theorem dX11_hats_20 : decode cX11_hats 20 = .ok (.iconst 0, 1) := by decide +kernel
theorem dX11_hats_21 : decode cX11_hats 21 = .ok (.iconst 1, 1) := by decide +kernel
theorem dX11_hats_22 : decode cX11_hats 22 = .ok (.invokestatic 51, 3) := by decide +kernel
theorem dX11_hats_25 : decode cX11_hats 25 = .ok (.ifCond .ne 6, 3) := by decide +kernel
theorem dX11_hats_28 : decode cX11_hats 28 = .ok (.bipush (-3), 2) := by decide +kernel
theorem dX11_hats_30 : decode cX11_hats 30 = .ok (.ireturn, 1) := by decide +kernel
theorem dX11_hats_31 : decode cX11_hats 31 = .ok (.iconst (-1), 1) := by decide +kernel
theorem dX11_hats_32 : decode cX11_hats 32 = .ok (.istore 4, 2) := by decide +kernel
theorem dX11_hats_34 : decode cX11_hats 34 = .ok (.iconst 0, 1) := by decide +kernel
theorem dX11_hats_35 : decode cX11_hats 35 = .ok (.istore 5, 2) := by decide +kernel
theorem dX11_hats_37 : decode cX11_hats 37 = .ok (.iload 5, 2) := by decide +kernel
theorem dX11_hats_39 : decode cX11_hats 39 = .ok (.iconst 1, 1) := by decide +kernel
theorem dX11_hats_40 : decode cX11_hats 40 = .ok (.aload_n 0, 1) := by decide +kernel
theorem dX11_hats_41 : decode cX11_hats 41 = .ok (.getfield 47, 3) := by decide +kernel
theorem dX11_hats_44 : decode cX11_hats 44 = .ok (.ishl, 1) := by decide +kernel
theorem dX11_hats_45 : decode cX11_hats 45 = .ok (.if_icmp .ge 126, 3) := by decide +kernel
theorem dX11_hats_48 : decode cX11_hats 48 = .ok (.iload 5, 2) := by decide +kernel
theorem dX11_hats_50 : decode cX11_hats 50 = .ok (.iload_n 2, 1) := by decide +kernel
theorem dX11_hats_51 : decode cX11_hats 51 = .ok (.iconst (-1), 1) := by decide +kernel
theorem dX11_hats_52 : decode cX11_hats 52 = .ok (.ixor, 1) := by decide +kernel
theorem dX11_hats_53 : decode cX11_hats 53 = .ok (.iand, 1) := by decide +kernel
theorem dX11_hats_54 : decode cX11_hats 54 = .ok (.ifCond .ne 7, 3) := by decide +kernel
theorem dX11_hats_57 : decode cX11_hats 57 = .ok (.iconst 1, 1) := by decide +kernel
theorem dX11_hats_58 : decode cX11_hats 58 = .ok (.goto 4, 3) := by decide +kernel
theorem dX11_hats_61 : decode cX11_hats 61 = .ok (.iconst 0, 1) := by decide +kernel
theorem dX11_hats_62 : decode cX11_hats 62 = .ok (.istore 6, 2) := by decide +kernel
theorem dX11_hats_64 : decode cX11_hats 64 = .ok (.iconst 0, 1) := by decide +kernel
theorem dX11_hats_65 : decode cX11_hats 65 = .ok (.istore 7, 2) := by decide +kernel
theorem dX11_hats_67 : decode cX11_hats 67 = .ok (.iload 7, 2) := by decide +kernel
theorem dX11_hats_69 : decode cX11_hats 69 = .ok (.aload_n 0, 1) := by decide +kernel
theorem dX11_hats_70 : decode cX11_hats 70 = .ok (.getfield 47, 3) := by decide +kernel
theorem dX11_hats_73 : decode cX11_hats 73 = .ok (.if_icmp .ge 45, 3) := by decide +kernel
theorem dX11_hats_76 : decode cX11_hats 76 = .ok (.iload 6, 2) := by decide +kernel
theorem dX11_hats_78 : decode cX11_hats 78 = .ok (.ifCond .eq 31, 3) := by decide +kernel
theorem dX11_hats_81 : decode cX11_hats 81 = .ok (.iload 5, 2) := by decide +kernel
theorem dX11_hats_83 : decode cX11_hats 83 = .ok (.iload 7, 2) := by decide +kernel
theorem dX11_hats_85 : decode cX11_hats 85 = .ok (.invokestatic 173, 3) := by decide +kernel
theorem dX11_hats_88 : decode cX11_hats 88 = .ok (.ifCond .eq 17, 3) := by decide +kernel
theorem dX11_hats_91 : decode cX11_hats 91 = .ok (.aload_n 0, 1) := by decide +kernel
theorem dX11_hats_92 : decode cX11_hats 92 = .ok (.getfield 7, 3) := by decide +kernel
theorem dX11_hats_95 : decode cX11_hats 95 = .ok (.bipush 6, 2) := by decide +kernel
theorem dX11_hats_97 : decode cX11_hats 97 = .ok (.iload 7, 2) := by decide +kernel
theorem dX11_hats_99 : decode cX11_hats 99 = .ok (.imul, 1) := by decide +kernel
theorem dX11_hats_100 : decode cX11_hats 100 = .ok (.iaload, 1) := by decide +kernel
theorem dX11_hats_101 : decode cX11_hats 101 = .ok (.iconst 2, 1) := by decide +kernel
theorem dX11_hats_102 : decode cX11_hats 102 = .ok (.if_icmp .ge 7, 3) := by decide +kernel
theorem dX11_hats_105 : decode cX11_hats 105 = .ok (.iconst 1, 1) := by decide +kernel
theorem dX11_hats_106 : decode cX11_hats 106 = .ok (.goto 4, 3) := by decide +kernel
theorem dX11_hats_109 : decode cX11_hats 109 = .ok (.iconst 0, 1) := by decide +kernel
theorem dX11_hats_110 : decode cX11_hats 110 = .ok (.istore 6, 2) := by decide +kernel
theorem dX11_hats_112 : decode cX11_hats 112 = .ok (.iinc 7 1, 3) := by decide +kernel
theorem dX11_hats_115 : decode cX11_hats 115 = .ok (.goto (-48), 3) := by decide +kernel
theorem dX11_hats_118 : decode cX11_hats 118 = .ok (.iload 6, 2) := by decide +kernel
theorem dX11_hats_120 : decode cX11_hats 120 = .ok (.ifCond .eq 45, 3) := by decide +kernel
theorem dX11_hats_123 : decode cX11_hats 123 = .ok (.iload 4, 2) := by decide +kernel
theorem dX11_hats_125 : decode cX11_hats 125 = .ok (.iconst (-1), 1) := by decide +kernel
theorem dX11_hats_126 : decode cX11_hats 126 = .ok (.if_icmp .eq 16, 3) := by decide +kernel
theorem dX11_hats_129 : decode cX11_hats 129 = .ok (.iload 5, 2) := by decide +kernel
theorem dX11_hats_131 : decode cX11_hats 131 = .ok (.invokestatic 195, 3) := by decide +kernel
theorem dX11_hats_134 : decode cX11_hats 134 = .ok (.iload 4, 2) := by decide +kernel
theorem dX11_hats_136 : decode cX11_hats 136 = .ok (.invokestatic 195, 3) := by decide +kernel
theorem dX11_hats_139 : decode cX11_hats 139 = .ok (.if_icmp .ge 26, 3) := by decide +kernel
theorem dX11_hats_142 : decode cX11_hats 142 = .ok (.aload_n 0, 1) := by decide +kernel
theorem dX11_hats_143 : decode cX11_hats 143 = .ok (.iload_n 1, 1) := by decide +kernel
theorem dX11_hats_144 : decode cX11_hats 144 = .ok (.iload_n 2, 1) := by decide +kernel
theorem dX11_hats_145 : decode cX11_hats 145 = .ok (.aload_n 0, 1) := by decide +kernel
theorem dX11_hats_146 : decode cX11_hats 146 = .ok (.getfield 155, 3) := by decide +kernel
theorem dX11_hats_149 : decode cX11_hats 149 = .ok (.aload_n 0, 1) := by decide +kernel
theorem dX11_hats_150 : decode cX11_hats 150 = .ok (.getfield 158, 3) := by decide +kernel
theorem dX11_hats_153 : decode cX11_hats 153 = .ok (.iload 5, 2) := by decide +kernel
theorem dX11_hats_155 : decode cX11_hats 155 = .ok (.invokevirtual 207, 3) := by decide +kernel
theorem dX11_hats_158 : decode cX11_hats 158 = .ok (.ifCond .eq 7, 3) := by decide +kernel
theorem dX11_hats_161 : decode cX11_hats 161 = .ok (.iload 5, 2) := by decide +kernel
theorem dX11_hats_163 : decode cX11_hats 163 = .ok (.istore 4, 2) := by decide +kernel
theorem dX11_hats_165 : decode cX11_hats 165 = .ok (.iinc 5 1, 3) := by decide +kernel
theorem dX11_hats_168 : decode cX11_hats 168 = .ok (.goto (-131), 3) := by decide +kernel
theorem dX11_hats_171 : decode cX11_hats 171 = .ok (.iload 4, 2) := by decide +kernel
theorem dX11_hats_173 : decode cX11_hats 173 = .ok (.iconst (-1), 1) := by decide +kernel
theorem dX11_hats_174 : decode cX11_hats 174 = .ok (.if_icmp .eq 8, 3) := by decide +kernel
theorem dX11_hats_177 : decode cX11_hats 177 = .ok (.iload_n 3, 1) := by decide +kernel
theorem dX11_hats_178 : decode cX11_hats 178 = .ok (.iconst 1, 1) := by decide +kernel
theorem dX11_hats_179 : decode cX11_hats 179 = .ok (.if_icmp .ne 8, 3) := by decide +kernel
theorem dX11_hats_182 : decode cX11_hats 182 = .ok (.iload 4, 2) := by decide +kernel
theorem dX11_hats_184 : decode cX11_hats 184 = .ok (.goto 8, 3) := by decide +kernel
theorem dX11_hats_187 : decode cX11_hats 187 = .ok (.iload 4, 2) := by decide +kernel
theorem dX11_hats_189 : decode cX11_hats 189 = .ok (.invokestatic 195, 3) := by decide +kernel
theorem dX11_hats_192 : decode cX11_hats 192 = .ok (.ireturn, 1) := by decide +kernel
theorem dX11_stones_0 : decode cX11_stones 0 = .ok (.aload_n 0, 1) := by decide +kernel
theorem dX11_stones_1 : decode cX11_stones 1 = .ok (.iload_n 1, 1) := by decide +kernel
theorem dX11_stones_2 : decode cX11_stones 2 = .ok (.invokevirtual 184, 3) := by decide +kernel
theorem dX11_stones_5 : decode cX11_stones 5 = .ok (.ifCond .eq 11, 3) := by decide +kernel
theorem dX11_stones_8 : decode cX11_stones 8 = .ok (.aload_n 0, 1) := by decide +kernel
theorem dX11_stones_9 : decode cX11_stones 9 = .ok (.iload_n 2, 1) := by decide +kernel
theorem dX11_stones_10 : decode cX11_stones 10 = .ok (.invokevirtual 204, 3) := by decide +kernel
theorem dX11_stones_13 : decode cX11_stones 13 = .ok (.ifCond .ne 6, 3) := by decide +kernel
theorem dX11_stones_16 : decode cX11_stones 16 = .ok (.bipush (-2), 2) := by decide +kernel
theorem dX11_stones_18 : decode cX11_stones 18 = .ok (.ireturn, 1) := by decide +kernel
theorem dX11_stones_19 : decode cX11_stones 19 = .ok (.iload_n 3, 1) := by decide +kernel
theorem dX11_stones_20 : decode cX11_stones 20 = .ok (.iconst 1, 1) := by decide +kernel
theorem dX11_stones_21 : decode cX11_stones 21 = .ok (.bipush 99, 2) := by decide +kernel
theorem dX11_stones_23 : decode cX11_stones 23 = .ok (.invokestatic 51, 3) := by decide +kernel
theorem dX11_stones_26 : decode cX11_stones 26 = .ok (.ifCond .ne 6, 3) := by decide +kernel
theorem dX11_stones_29 : decode cX11_stones 29 = .ok (.bipush (-3), 2) := by decide +kernel
theorem dX11_stones_31 : decode cX11_stones 31 = .ok (.ireturn, 1) := by decide +kernel
theorem dX11_stones_32 : decode cX11_stones 32 = .ok (.aload_n 0, 1) := by decide +kernel
theorem dX11_stones_33 : decode cX11_stones 33 = .ok (.iload_n 1, 1) := by decide +kernel
theorem dX11_stones_34 : decode cX11_stones 34 = .ok (.iload_n 2, 1) := by decide +kernel
theorem dX11_stones_35 : decode cX11_stones 35 = .ok (.aload_n 0, 1) := by decide +kernel
theorem dX11_stones_36 : decode cX11_stones 36 = .ok (.getfield 155, 3) := by decide +kernel
theorem dX11_stones_39 : decode cX11_stones 39 = .ok (.aload_n 0, 1) := by decide +kernel
theorem dX11_stones_40 : decode cX11_stones 40 = .ok (.getfield 158, 3) := by decide +kernel
theorem dX11_stones_43 : decode cX11_stones 43 = .ok (.invokevirtual 191, 3) := by decide +kernel
theorem dX11_stones_46 : decode cX11_stones 46 = .ok (.ifCond .ne 5, 3) := by decide +kernel
theorem dX11_stones_49 : decode cX11_stones 49 = .ok (.iconst (-1), 1) := by decide +kernel
theorem dX11_stones_50 : decode cX11_stones 50 = .ok (.ireturn, 1) := by decide +kernel
theorem dX11_stones_51 : decode cX11_stones 51 = .ok (.aload_n 0, 1) := by decide +kernel
theorem dX11_stones_52 : decode cX11_stones 52 = .ok (.iload_n 2, 1) := by decide +kernel
theorem dX11_stones_53 : decode cX11_stones 53 = .ok (.aload_n 0, 1) := by decide +kernel
theorem dX11_stones_54 : decode cX11_stones 54 = .ok (.getfield 161, 3) := by decide +kernel
theorem dX11_stones_57 : decode cX11_stones 57 = .ok (.invokevirtual 198, 3) := by decide +kernel
theorem dX11_stones_60 : decode cX11_stones 60 = .ok (.istore 4, 2) := by decide +kernel
theorem dX11_stones_62 : decode cX11_stones 62 = .ok (.iconst 0, 1) := by decide +kernel
theorem dX11_stones_63 : decode cX11_stones 63 = .ok (.istore 5, 2) := by decide +kernel
theorem dX11_stones_65 : decode cX11_stones 65 = .ok (.iload 5, 2) := by decide +kernel
theorem dX11_stones_67 : decode cX11_stones 67 = .ok (.iload_n 2, 1) := by decide +kernel
theorem dX11_stones_68 : decode cX11_stones 68 = .ok (.invokestatic 195, 3) := by decide +kernel
theorem dX11_stones_71 : decode cX11_stones 71 = .ok (.iadd, 1) := by decide +kernel
theorem dX11_stones_72 : decode cX11_stones 72 = .ok (.aload_n 0, 1) := by decide +kernel
theorem dX11_stones_73 : decode cX11_stones 73 = .ok (.getfield 13, 3) := by decide +kernel
theorem dX11_stones_76 : decode cX11_stones 76 = .ok (.iconst 5, 1) := by decide +kernel
theorem dX11_stones_77 : decode cX11_stones 77 = .ok (.iload_n 1, 1) := by decide +kernel
theorem dX11_stones_78 : decode cX11_stones 78 = .ok (.imul, 1) := by decide +kernel
theorem dX11_stones_79 : decode cX11_stones 79 = .ok (.iconst 3, 1) := by decide +kernel
theorem dX11_stones_80 : decode cX11_stones 80 = .ok (.iadd, 1) := by decide +kernel
theorem dX11_stones_81 : decode cX11_stones 81 = .ok (.iaload, 1) := by decide +kernel
theorem dX11_stones_82 : decode cX11_stones 82 = .ok (.if_icmp .gt 28, 3) := by decide +kernel
theorem dX11_stones_85 : decode cX11_stones 85 = .ok (.aload_n 0, 1) := by decide +kernel
theorem dX11_stones_86 : decode cX11_stones 86 = .ok (.iload_n 1, 1) := by decide +kernel
theorem dX11_stones_87 : decode cX11_stones 87 = .ok (.iload 4, 2) := by decide +kernel
theorem dX11_stones_89 : decode cX11_stones 89 = .ok (.iload 5, 2) := by decide +kernel
theorem dX11_stones_91 : decode cX11_stones 91 = .ok (.iload_n 3, 1) := by decide +kernel
theorem dX11_stones_92 : decode cX11_stones 92 = .ok (.imul, 1) := by decide +kernel
theorem dX11_stones_93 : decode cX11_stones 93 = .ok (.iadd, 1) := by decide +kernel
theorem dX11_stones_94 : decode cX11_stones 94 = .ok (.iconst 0, 1) := by decide +kernel
theorem dX11_stones_95 : decode cX11_stones 95 = .ok (.invokevirtual 201, 3) := by decide +kernel
theorem dX11_stones_98 : decode cX11_stones 98 = .ok (.ifCond .eq 6, 3) := by decide +kernel
theorem dX11_stones_101 : decode cX11_stones 101 = .ok (.iload 5, 2) := by decide +kernel
theorem dX11_stones_103 : decode cX11_stones 103 = .ok (.ireturn, 1) := by decide +kernel
theorem dX11_stones_104 : decode cX11_stones 104 = .ok (.iinc 5 1, 3) := by decide +kernel
theorem dX11_stones_107 : decode cX11_stones 107 = .ok (.goto (-42), 3) := by decide +kernel
theorem dX11_stones_110 : decode cX11_stones 110 = .ok (.iconst (-1), 1) := by decide +kernel
theorem dX11_stones_111 : decode cX11_stones 111 = .ok (.ireturn, 1) := by decide +kernel
theorem dX11_sure_0 : decode cX11_sure 0 = .ok (.aload_n 0, 1) := by decide +kernel
theorem dX11_sure_1 : decode cX11_sure 1 = .ok (.iload_n 1, 1) := by decide +kernel
theorem dX11_sure_2 : decode cX11_sure 2 = .ok (.invokevirtual 184, 3) := by decide +kernel
theorem dX11_sure_5 : decode cX11_sure 5 = .ok (.ifCond .ne 6, 3) := by decide +kernel
theorem dX11_sure_8 : decode cX11_sure 8 = .ok (.bipush (-2), 2) := by decide +kernel
theorem dX11_sure_10 : decode cX11_sure 10 = .ok (.ireturn, 1) := by decide +kernel
theorem dX11_sure_11 : decode cX11_sure 11 = .ok (.iconst 0, 1) := by decide +kernel
theorem dX11_sure_12 : decode cX11_sure 12 = .ok (.istore_n 2, 1) := by decide +kernel
theorem dX11_sure_13 : decode cX11_sure 13 = .ok (.iconst 0, 1) := by decide +kernel
theorem dX11_sure_14 : decode cX11_sure 14 = .ok (.istore_n 3, 1) := by decide +kernel
theorem dX11_sure_15 : decode cX11_sure 15 = .ok (.iload_n 3, 1) := by decide +kernel
theorem dX11_sure_16 : decode cX11_sure 16 = .ok (.iconst 1, 1) := by decide +kernel
theorem dX11_sure_17 : decode cX11_sure 17 = .ok (.aload_n 0, 1) := by decide +kernel
theorem dX11_sure_18 : decode cX11_sure 18 = .ok (.getfield 47, 3) := by decide +kernel
theorem dX11_sure_21 : decode cX11_sure 21 = .ok (.ishl, 1) := by decide +kernel
theorem dX11_sure_22 : decode cX11_sure 22 = .ok (.if_icmp .ge 108, 3) := by decide +kernel
theorem dX11_sure_25 : decode cX11_sure 25 = .ok (.iconst 0, 1) := by decide +kernel
theorem dX11_sure_26 : decode cX11_sure 26 = .ok (.istore 4, 2) := by decide +kernel
theorem dX11_sure_28 : decode cX11_sure 28 = .ok (.iconst 0, 1) := by decide +kernel
theorem dX11_sure_29 : decode cX11_sure 29 = .ok (.istore 5, 2) := by decide +kernel
theorem dX11_sure_31 : decode cX11_sure 31 = .ok (.iload 5, 2) := by decide +kernel
theorem dX11_sure_33 : decode cX11_sure 33 = .ok (.aload_n 0, 1) := by decide +kernel
theorem dX11_sure_34 : decode cX11_sure 34 = .ok (.getfield 47, 3) := by decide +kernel
theorem dX11_sure_37 : decode cX11_sure 37 = .ok (.if_icmp .ge 39, 3) := by decide +kernel
theorem dX11_sure_40 : decode cX11_sure 40 = .ok (.iload 4, 2) := by decide +kernel
theorem dX11_sure_42 : decode cX11_sure 42 = .ok (.iload_n 3, 1) := by decide +kernel
theorem dX11_sure_43 : decode cX11_sure 43 = .ok (.iload 5, 2) := by decide +kernel
theorem dX11_sure_45 : decode cX11_sure 45 = .ok (.invokestatic 173, 3) := by decide +kernel
theorem dX11_sure_48 : decode cX11_sure 48 = .ok (.ifCond .eq 18, 3) := by decide +kernel
theorem dX11_sure_51 : decode cX11_sure 51 = .ok (.aload_n 0, 1) := by decide +kernel
theorem dX11_sure_52 : decode cX11_sure 52 = .ok (.getfield 7, 3) := by decide +kernel
theorem dX11_sure_55 : decode cX11_sure 55 = .ok (.bipush 6, 2) := by decide +kernel
theorem dX11_sure_57 : decode cX11_sure 57 = .ok (.iload 5, 2) := by decide +kernel
theorem dX11_sure_59 : decode cX11_sure 59 = .ok (.imul, 1) := by decide +kernel
theorem dX11_sure_60 : decode cX11_sure 60 = .ok (.iconst 5, 1) := by decide +kernel
theorem dX11_sure_61 : decode cX11_sure 61 = .ok (.iadd, 1) := by decide +kernel
theorem dX11_sure_62 : decode cX11_sure 62 = .ok (.iaload, 1) := by decide +kernel
theorem dX11_sure_63 : decode cX11_sure 63 = .ok (.goto 4, 3) := by decide +kernel
theorem dX11_sure_66 : decode cX11_sure 66 = .ok (.iconst 0, 1) := by decide +kernel
theorem dX11_sure_67 : decode cX11_sure 67 = .ok (.iadd, 1) := by decide +kernel
theorem dX11_sure_68 : decode cX11_sure 68 = .ok (.istore 4, 2) := by decide +kernel
theorem dX11_sure_70 : decode cX11_sure 70 = .ok (.iinc 5 1, 3) := by decide +kernel
theorem dX11_sure_73 : decode cX11_sure 73 = .ok (.goto (-42), 3) := by decide +kernel
theorem dX11_sure_76 : decode cX11_sure 76 = .ok (.iload_n 2, 1) := by decide +kernel
theorem dX11_sure_77 : decode cX11_sure 77 = .ok (.aload_n 0, 1) := by decide +kernel
theorem dX11_sure_78 : decode cX11_sure 78 = .ok (.iload_n 1, 1) := by decide +kernel
theorem dX11_sure_79 : decode cX11_sure 79 = .ok (.iload_n 3, 1) := by decide +kernel
theorem dX11_sure_80 : decode cX11_sure 80 = .ok (.aload_n 0, 1) := by decide +kernel
theorem dX11_sure_81 : decode cX11_sure 81 = .ok (.getfield 155, 3) := by decide +kernel
theorem dX11_sure_84 : decode cX11_sure 84 = .ok (.aload_n 0, 1) := by decide +kernel
theorem dX11_sure_85 : decode cX11_sure 85 = .ok (.getfield 158, 3) := by decide +kernel
theorem dX11_sure_88 : decode cX11_sure 88 = .ok (.aload_n 0, 1) := by decide +kernel
theorem dX11_sure_89 : decode cX11_sure 89 = .ok (.getfield 161, 3) := by decide +kernel
theorem dX11_sure_92 : decode cX11_sure 92 = .ok (.invokevirtual 207, 3) := by decide +kernel
theorem dX11_sure_95 : decode cX11_sure 95 = .ok (.ifCond .eq 26, 3) := by decide +kernel
theorem dX11_sure_98 : decode cX11_sure 98 = .ok (.aload_n 0, 1) := by decide +kernel
theorem dX11_sure_99 : decode cX11_sure 99 = .ok (.iload_n 1, 1) := by decide +kernel
theorem dX11_sure_100 : decode cX11_sure 100 = .ok (.aload_n 0, 1) := by decide +kernel
theorem dX11_sure_101 : decode cX11_sure 101 = .ok (.iload_n 3, 1) := by decide +kernel
theorem dX11_sure_102 : decode cX11_sure 102 = .ok (.aload_n 0, 1) := by decide +kernel
theorem dX11_sure_103 : decode cX11_sure 103 = .ok (.getfield 161, 3) := by decide +kernel
theorem dX11_sure_106 : decode cX11_sure 106 = .ok (.invokevirtual 198, 3) := by decide +kernel
theorem dX11_sure_109 : decode cX11_sure 109 = .ok (.iload 4, 2) := by decide +kernel
theorem dX11_sure_111 : decode cX11_sure 111 = .ok (.invokevirtual 201, 3) := by decide +kernel
theorem dX11_sure_114 : decode cX11_sure 114 = .ok (.ifCond .eq 7, 3) := by decide +kernel
theorem dX11_sure_117 : decode cX11_sure 117 = .ok (.iconst 1, 1) := by decide +kernel
theorem dX11_sure_118 : decode cX11_sure 118 = .ok (.goto 4, 3) := by decide +kernel
theorem dX11_sure_121 : decode cX11_sure 121 = .ok (.iconst 0, 1) := by decide +kernel
theorem dX11_sure_122 : decode cX11_sure 122 = .ok (.iadd, 1) := by decide +kernel
theorem dX11_sure_123 : decode cX11_sure 123 = .ok (.istore_n 2, 1) := by decide +kernel
theorem dX11_sure_124 : decode cX11_sure 124 = .ok (.iinc 3 1, 3) := by decide +kernel
theorem dX11_sure_127 : decode cX11_sure 127 = .ok (.goto (-112), 3) := by decide +kernel
theorem dX11_sure_130 : decode cX11_sure 130 = .ok (.iload_n 2, 1) := by decide +kernel
theorem dX11_sure_131 : decode cX11_sure 131 = .ok (.ireturn, 1) := by decide +kernel
theorem dX11_aboard_0 : decode cX11_aboard 0 = .ok (.aload_n 0, 1) := by decide +kernel
theorem dX11_aboard_1 : decode cX11_aboard 1 = .ok (.iload_n 1, 1) := by decide +kernel
theorem dX11_aboard_2 : decode cX11_aboard 2 = .ok (.invokevirtual 184, 3) := by decide +kernel
theorem dX11_aboard_5 : decode cX11_aboard 5 = .ok (.ifCond .eq 19, 3) := by decide +kernel
theorem dX11_aboard_8 : decode cX11_aboard 8 = .ok (.aload_n 0, 1) := by decide +kernel
theorem dX11_aboard_9 : decode cX11_aboard 9 = .ok (.iload_n 2, 1) := by decide +kernel
theorem dX11_aboard_10 : decode cX11_aboard 10 = .ok (.invokevirtual 204, 3) := by decide +kernel
theorem dX11_aboard_13 : decode cX11_aboard 13 = .ok (.ifCond .eq 11, 3) := by decide +kernel
theorem dX11_aboard_16 : decode cX11_aboard 16 = .ok (.aload_n 0, 1) := by decide +kernel
theorem dX11_aboard_17 : decode cX11_aboard 17 = .ok (.iload_n 3, 1) := by decide +kernel
theorem dX11_aboard_18 : decode cX11_aboard 18 = .ok (.invokevirtual 204, 3) := by decide +kernel
theorem dX11_aboard_21 : decode cX11_aboard 21 = .ok (.ifCond .ne 6, 3) := by decide +kernel
theorem dX11_aboard_24 : decode cX11_aboard 24 = .ok (.bipush (-2), 2) := by decide +kernel
theorem dX11_aboard_26 : decode cX11_aboard 26 = .ok (.ireturn, 1) := by decide +kernel
theorem dX11_aboard_27 : decode cX11_aboard 27 = .ok (.iload 4, 2) := by decide +kernel
theorem dX11_aboard_29 : decode cX11_aboard 29 = .ok (.iconst 0, 1) := by decide +kernel
theorem dX11_aboard_30 : decode cX11_aboard 30 = .ok (.iconst 2, 1) := by decide +kernel
theorem dX11_aboard_31 : decode cX11_aboard 31 = .ok (.invokestatic 51, 3) := by decide +kernel
theorem dX11_aboard_34 : decode cX11_aboard 34 = .ok (.ifCond .ne 6, 3) := by decide +kernel
theorem dX11_aboard_37 : decode cX11_aboard 37 = .ok (.bipush (-3), 2) := by decide +kernel
theorem dX11_aboard_39 : decode cX11_aboard 39 = .ok (.ireturn, 1) := by decide +kernel
theorem dX11_aboard_40 : decode cX11_aboard 40 = .ok (.iconst 0, 1) := by decide +kernel
theorem dX11_aboard_41 : decode cX11_aboard 41 = .ok (.istore 5, 2) := by decide +kernel
theorem dX11_aboard_43 : decode cX11_aboard 43 = .ok (.iconst 0, 1) := by decide +kernel
theorem dX11_aboard_44 : decode cX11_aboard 44 = .ok (.istore 6, 2) := by decide +kernel
theorem dX11_aboard_46 : decode cX11_aboard 46 = .ok (.iconst 1, 1) := by decide +kernel
theorem dX11_aboard_47 : decode cX11_aboard 47 = .ok (.aload_n 0, 1) := by decide +kernel
theorem dX11_aboard_48 : decode cX11_aboard 48 = .ok (.getfield 47, 3) := by decide +kernel
theorem dX11_aboard_51 : decode cX11_aboard 51 = .ok (.ishl, 1) := by decide +kernel
theorem dX11_aboard_52 : decode cX11_aboard 52 = .ok (.iconst 1, 1) := by decide +kernel
theorem dX11_aboard_53 : decode cX11_aboard 53 = .ok (.isub, 1) := by decide +kernel
theorem dX11_aboard_54 : decode cX11_aboard 54 = .ok (.istore 7, 2) := by decide +kernel
theorem dX11_aboard_56 : decode cX11_aboard 56 = .ok (.iconst 0, 1) := by decide +kernel
theorem dX11_aboard_57 : decode cX11_aboard 57 = .ok (.istore 8, 2) := by decide +kernel
theorem dX11_aboard_59 : decode cX11_aboard 59 = .ok (.iload 8, 2) := by decide +kernel
theorem dX11_aboard_61 : decode cX11_aboard 61 = .ok (.iconst 1, 1) := by decide +kernel
theorem dX11_aboard_62 : decode cX11_aboard 62 = .ok (.aload_n 0, 1) := by decide +kernel
theorem dX11_aboard_63 : decode cX11_aboard 63 = .ok (.getfield 47, 3) := by decide +kernel
theorem dX11_aboard_66 : decode cX11_aboard 66 = .ok (.ishl, 1) := by decide +kernel
theorem dX11_aboard_67 : decode cX11_aboard 67 = .ok (.if_icmp .ge 64, 3) := by decide +kernel
theorem dX11_aboard_70 : decode cX11_aboard 70 = .ok (.iload_n 2, 1) := by decide +kernel
theorem dX11_aboard_71 : decode cX11_aboard 71 = .ok (.iload 8, 2) := by decide +kernel
theorem dX11_aboard_73 : decode cX11_aboard 73 = .ok (.iconst (-1), 1) := by decide +kernel
theorem dX11_aboard_74 : decode cX11_aboard 74 = .ok (.ixor, 1) := by decide +kernel
theorem dX11_aboard_75 : decode cX11_aboard 75 = .ok (.iand, 1) := by decide +kernel
theorem dX11_aboard_76 : decode cX11_aboard 76 = .ok (.ifCond .ne 49, 3) := by decide +kernel
theorem dX11_aboard_79 : decode cX11_aboard 79 = .ok (.iload_n 3, 1) := by decide +kernel
theorem dX11_aboard_80 : decode cX11_aboard 80 = .ok (.iload 8, 2) := by decide +kernel
theorem dX11_aboard_82 : decode cX11_aboard 82 = .ok (.iand, 1) := by decide +kernel
theorem dX11_aboard_83 : decode cX11_aboard 83 = .ok (.ifCond .ne 42, 3) := by decide +kernel
theorem dX11_aboard_86 : decode cX11_aboard 86 = .ok (.aload_n 0, 1) := by decide +kernel
theorem dX11_aboard_87 : decode cX11_aboard 87 = .ok (.iload_n 1, 1) := by decide +kernel
theorem dX11_aboard_88 : decode cX11_aboard 88 = .ok (.iload 8, 2) := by decide +kernel
theorem dX11_aboard_90 : decode cX11_aboard 90 = .ok (.aload_n 0, 1) := by decide +kernel
theorem dX11_aboard_91 : decode cX11_aboard 91 = .ok (.getfield 155, 3) := by decide +kernel
theorem dX11_aboard_94 : decode cX11_aboard 94 = .ok (.aload_n 0, 1) := by decide +kernel
theorem dX11_aboard_95 : decode cX11_aboard 95 = .ok (.getfield 158, 3) := by decide +kernel
theorem dX11_aboard_98 : decode cX11_aboard 98 = .ok (.aload_n 0, 1) := by decide +kernel
theorem dX11_aboard_99 : decode cX11_aboard 99 = .ok (.getfield 161, 3) := by decide +kernel
theorem dX11_aboard_102 : decode cX11_aboard 102 = .ok (.invokevirtual 207, 3) := by decide +kernel
theorem dX11_aboard_105 : decode cX11_aboard 105 = .ok (.ifCond .eq 20, 3) := by decide +kernel
theorem dX11_aboard_108 : decode cX11_aboard 108 = .ok (.iinc 5 1, 3) := by decide +kernel
theorem dX11_aboard_111 : decode cX11_aboard 111 = .ok (.iload 6, 2) := by decide +kernel
theorem dX11_aboard_113 : decode cX11_aboard 113 = .ok (.iload 8, 2) := by decide +kernel
theorem dX11_aboard_115 : decode cX11_aboard 115 = .ok (.ior, 1) := by decide +kernel
theorem dX11_aboard_116 : decode cX11_aboard 116 = .ok (.istore 6, 2) := by decide +kernel
theorem dX11_aboard_118 : decode cX11_aboard 118 = .ok (.iload 7, 2) := by decide +kernel
theorem dX11_aboard_120 : decode cX11_aboard 120 = .ok (.iload 8, 2) := by decide +kernel
theorem dX11_aboard_122 : decode cX11_aboard 122 = .ok (.iand, 1) := by decide +kernel
theorem dX11_aboard_123 : decode cX11_aboard 123 = .ok (.istore 7, 2) := by decide +kernel
theorem dX11_aboard_125 : decode cX11_aboard 125 = .ok (.iinc 8 1, 3) := by decide +kernel
theorem dX11_aboard_128 : decode cX11_aboard 128 = .ok (.goto (-69), 3) := by decide +kernel
theorem dX11_aboard_131 : decode cX11_aboard 131 = .ok (.iload 4, 2) := by decide +kernel
theorem dX11_aboard_133 : decode cX11_aboard 133 = .ok (.ifCond .ne 8, 3) := by decide +kernel
theorem dX11_aboard_136 : decode cX11_aboard 136 = .ok (.iload 5, 2) := by decide +kernel
theorem dX11_aboard_138 : decode cX11_aboard 138 = .ok (.goto 25, 3) := by decide +kernel
theorem dX11_aboard_141 : decode cX11_aboard 141 = .ok (.iload 5, 2) := by decide +kernel
theorem dX11_aboard_143 : decode cX11_aboard 143 = .ok (.ifCond .ne 7, 3) := by decide +kernel
theorem dX11_aboard_146 : decode cX11_aboard 146 = .ok (.iconst (-1), 1) := by decide +kernel
theorem dX11_aboard_147 : decode cX11_aboard 147 = .ok (.goto 16, 3) := by decide +kernel
theorem dX11_aboard_150 : decode cX11_aboard 150 = .ok (.iload 4, 2) := by decide +kernel
theorem dX11_aboard_152 : decode cX11_aboard 152 = .ok (.iconst 1, 1) := by decide +kernel
theorem dX11_aboard_153 : decode cX11_aboard 153 = .ok (.if_icmp .ne 8, 3) := by decide +kernel
theorem dX11_aboard_156 : decode cX11_aboard 156 = .ok (.iload 6, 2) := by decide +kernel
theorem dX11_aboard_158 : decode cX11_aboard 158 = .ok (.goto 5, 3) := by decide +kernel
theorem dX11_aboard_161 : decode cX11_aboard 161 = .ok (.iload 7, 2) := by decide +kernel
theorem dX11_aboard_163 : decode cX11_aboard 163 = .ok (.ireturn, 1) := by decide +kernel
theorem dX11_isOver_0 : decode cX11_isOver 0 = .ok (.iload_n 2, 1) := by decide +kernel
theorem dX11_isOver_1 : decode cX11_isOver 1 = .ok (.iconst 1, 1) := by decide +kernel
theorem dX11_isOver_2 : decode cX11_isOver 2 = .ok (.if_icmp .ne 19, 3) := by decide +kernel
theorem dX11_isOver_5 : decode cX11_isOver 5 = .ok (.iload_n 1, 1) := by decide +kernel
theorem dX11_isOver_6 : decode cX11_isOver 6 = .ok (.iload_n 0, 1) := by decide +kernel
theorem dX11_isOver_7 : decode cX11_isOver 7 = .ok (.iconst (-1), 1) := by decide +kernel
theorem dX11_isOver_8 : decode cX11_isOver 8 = .ok (.ixor, 1) := by decide +kernel
theorem dX11_isOver_9 : decode cX11_isOver 9 = .ok (.iand, 1) := by decide +kernel
theorem dX11_isOver_10 : decode cX11_isOver 10 = .ok (.ifCond .ne 7, 3) := by decide +kernel
theorem dX11_isOver_13 : decode cX11_isOver 13 = .ok (.iconst 1, 1) := by decide +kernel
theorem dX11_isOver_14 : decode cX11_isOver 14 = .ok (.goto 18, 3) := by decide +kernel
theorem dX11_isOver_17 : decode cX11_isOver 17 = .ok (.iconst 0, 1) := by decide +kernel
theorem dX11_isOver_18 : decode cX11_isOver 18 = .ok (.goto 14, 3) := by decide +kernel
theorem dX11_isOver_21 : decode cX11_isOver 21 = .ok (.iload_n 1, 1) := by decide +kernel
theorem dX11_isOver_22 : decode cX11_isOver 22 = .ok (.iload_n 0, 1) := by decide +kernel
theorem dX11_isOver_23 : decode cX11_isOver 23 = .ok (.iand, 1) := by decide +kernel
theorem dX11_isOver_24 : decode cX11_isOver 24 = .ok (.ifCond .ne 7, 3) := by decide +kernel
theorem dX11_isOver_27 : decode cX11_isOver 27 = .ok (.iconst 1, 1) := by decide +kernel
theorem dX11_isOver_28 : decode cX11_isOver 28 = .ok (.goto 4, 3) := by decide +kernel
theorem dX11_isOver_31 : decode cX11_isOver 31 = .ok (.iconst 0, 1) := by decide +kernel
theorem dX11_isOver_32 : decode cX11_isOver 32 = .ok (.ireturn, 1) := by decide +kernel
theorem dX11_goThrough_0 : decode cX11_goThrough 0 = .ok (.iconst 0, 1) := by decide +kernel
theorem dX11_goThrough_1 : decode cX11_goThrough 1 = .ok (.istore_n 3, 1) := by decide +kernel
theorem dX11_goThrough_2 : decode cX11_goThrough 2 = .ok (.iload_n 3, 1) := by decide +kernel
theorem dX11_goThrough_3 : decode cX11_goThrough 3 = .ok (.sipush 2048, 3) := by decide +kernel
theorem dX11_goThrough_6 : decode cX11_goThrough 6 = .ok (.if_icmp .ge 16, 3) := by decide +kernel
theorem dX11_goThrough_9 : decode cX11_goThrough 9 = .ok (.aload_n 0, 1) := by decide +kernel
theorem dX11_goThrough_10 : decode cX11_goThrough 10 = .ok (.getfield 35, 3) := by decide +kernel
theorem dX11_goThrough_13 : decode cX11_goThrough 13 = .ok (.iload_n 3, 1) := by decide +kernel
theorem dX11_goThrough_14 : decode cX11_goThrough 14 = .ok (.iconst (-1), 1) := by decide +kernel
theorem dX11_goThrough_15 : decode cX11_goThrough 15 = .ok (.iastore, 1) := by decide +kernel
theorem dX11_goThrough_16 : decode cX11_goThrough 16 = .ok (.iinc 3 1, 3) := by decide +kernel
theorem dX11_goThrough_19 : decode cX11_goThrough 19 = .ok (.goto (-17), 3) := by decide +kernel
theorem dX11_goThrough_22 : decode cX11_goThrough 22 = .ok (.sipush 256, 3) := by decide +kernel
theorem dX11_goThrough_25 : decode cX11_goThrough 25 = .ok (.aload_n 0, 1) := by decide +kernel
theorem dX11_goThrough_26 : decode cX11_goThrough 26 = .ok (.getfield 158, 3) := by decide +kernel
theorem dX11_goThrough_29 : decode cX11_goThrough 29 = .ok (.imul, 1) := by decide +kernel
theorem dX11_goThrough_30 : decode cX11_goThrough 30 = .ok (.aload_n 0, 1) := by decide +kernel
theorem dX11_goThrough_31 : decode cX11_goThrough 31 = .ok (.getfield 155, 3) := by decide +kernel
theorem dX11_goThrough_34 : decode cX11_goThrough 34 = .ok (.iadd, 1) := by decide +kernel
theorem dX11_goThrough_35 : decode cX11_goThrough 35 = .ok (.istore_n 3, 1) := by decide +kernel
theorem dX11_goThrough_36 : decode cX11_goThrough 36 = .ok (.iconst 1, 1) := by decide +kernel
theorem dX11_goThrough_37 : decode cX11_goThrough 37 = .ok (.istore 4, 2) := by decide +kernel
theorem dX11_goThrough_39 : decode cX11_goThrough 39 = .ok (.aload_n 0, 1) := by decide +kernel
theorem dX11_goThrough_40 : decode cX11_goThrough 40 = .ok (.getfield 44, 3) := by decide +kernel
theorem dX11_goThrough_43 : decode cX11_goThrough 43 = .ok (.iconst 0, 1) := by decide +kernel
theorem dX11_goThrough_44 : decode cX11_goThrough 44 = .ok (.iload_n 3, 1) := by decide +kernel
theorem dX11_goThrough_45 : decode cX11_goThrough 45 = .ok (.iastore, 1) := by decide +kernel
theorem dX11_goThrough_46 : decode cX11_goThrough 46 = .ok (.aload_n 0, 1) := by decide +kernel
theorem dX11_goThrough_47 : decode cX11_goThrough 47 = .ok (.getfield 35, 3) := by decide +kernel
theorem dX11_goThrough_50 : decode cX11_goThrough 50 = .ok (.iload_n 3, 1) := by decide +kernel
theorem dX11_goThrough_51 : decode cX11_goThrough 51 = .ok (.iconst 0, 1) := by decide +kernel
theorem dX11_goThrough_52 : decode cX11_goThrough 52 = .ok (.iastore, 1) := by decide +kernel
theorem dX11_goThrough_53 : decode cX11_goThrough 53 = .ok (.iconst 0, 1) := by decide +kernel
theorem dX11_goThrough_54 : decode cX11_goThrough 54 = .ok (.istore 5, 2) := by decide +kernel
theorem dX11_goThrough_56 : decode cX11_goThrough 56 = .ok (.iload 5, 2) := by decide +kernel
theorem dX11_goThrough_58 : decode cX11_goThrough 58 = .ok (.iload 4, 2) := by decide +kernel
theorem dX11_goThrough_60 : decode cX11_goThrough 60 = .ok (.if_icmp .ge 177, 3) := by decide +kernel
theorem dX11_goThrough_63 : decode cX11_goThrough 63 = .ok (.aload_n 0, 1) := by decide +kernel
theorem dX11_goThrough_64 : decode cX11_goThrough 64 = .ok (.getfield 44, 3) := by decide +kernel
theorem dX11_goThrough_67 : decode cX11_goThrough 67 = .ok (.iload 5, 2) := by decide +kernel
theorem dX11_goThrough_69 : decode cX11_goThrough 69 = .ok (.iaload, 1) := by decide +kernel
theorem dX11_goThrough_70 : decode cX11_goThrough 70 = .ok (.istore 6, 2) := by decide +kernel
theorem dX11_goThrough_72 : decode cX11_goThrough 72 = .ok (.iload 6, 2) := by decide +kernel
theorem dX11_goThrough_74 : decode cX11_goThrough 74 = .ok (.sipush 255, 3) := by decide +kernel
theorem dX11_goThrough_77 : decode cX11_goThrough 77 = .ok (.iand, 1) := by decide +kernel
theorem dX11_goThrough_78 : decode cX11_goThrough 78 = .ok (.iload_n 1, 1) := by decide +kernel
theorem dX11_goThrough_79 : decode cX11_goThrough 79 = .ok (.iload_n 2, 1) := by decide +kernel
theorem dX11_goThrough_80 : decode cX11_goThrough 80 = .ok (.invokestatic 217, 3) := by decide +kernel
theorem dX11_goThrough_83 : decode cX11_goThrough 83 = .ok (.ifCond .eq 6, 3) := by decide +kernel
theorem dX11_goThrough_86 : decode cX11_goThrough 86 = .ok (.iload 6, 2) := by decide +kernel
theorem dX11_goThrough_88 : decode cX11_goThrough 88 = .ok (.ireturn, 1) := by decide +kernel
theorem dX11_goThrough_89 : decode cX11_goThrough 89 = .ok (.iconst 0, 1) := by decide +kernel
theorem dX11_goThrough_90 : decode cX11_goThrough 90 = .ok (.istore 7, 2) := by decide +kernel
theorem dX11_goThrough_92 : decode cX11_goThrough 92 = .ok (.iload 7, 2) := by decide +kernel
theorem dX11_goThrough_94 : decode cX11_goThrough 94 = .ok (.aload_n 0, 1) := by decide +kernel
theorem dX11_goThrough_95 : decode cX11_goThrough 95 = .ok (.getfield 55, 3) := by decide +kernel
theorem dX11_goThrough_98 : decode cX11_goThrough 98 = .ok (.if_icmp .ge 133, 3) := by decide +kernel
theorem dX11_goThrough_101 : decode cX11_goThrough 101 = .ok (.iconst 1, 1) := by decide +kernel
theorem dX11_goThrough_102 : decode cX11_goThrough 102 = .ok (.istore 8, 2) := by decide +kernel
theorem dX11_goThrough_104 : decode cX11_goThrough 104 = .ok (.iload 8, 2) := by decide +kernel
theorem dX11_goThrough_106 : decode cX11_goThrough 106 = .ok (.iconst 1, 1) := by decide +kernel
theorem dX11_goThrough_107 : decode cX11_goThrough 107 = .ok (.aload_n 0, 1) := by decide +kernel
theorem dX11_goThrough_108 : decode cX11_goThrough 108 = .ok (.getfield 47, 3) := by decide +kernel
theorem dX11_goThrough_111 : decode cX11_goThrough 111 = .ok (.ishl, 1) := by decide +kernel
theorem dX11_goThrough_112 : decode cX11_goThrough 112 = .ok (.if_icmp .ge 113, 3) := by decide +kernel
theorem dX11_goThrough_115 : decode cX11_goThrough 115 = .ok (.iload 6, 2) := by decide +kernel
theorem dX11_goThrough_117 : decode cX11_goThrough 117 = .ok (.iload 8, 2) := by decide +kernel
theorem dX11_goThrough_119 : decode cX11_goThrough 119 = .ok (.ixor, 1) := by decide +kernel
theorem dX11_goThrough_120 : decode cX11_goThrough 120 = .ok (.sipush 256, 3) := by decide +kernel
theorem dX11_goThrough_123 : decode cX11_goThrough 123 = .ok (.iload 7, 2) := by decide +kernel
theorem dX11_goThrough_125 : decode cX11_goThrough 125 = .ok (.ishl, 1) := by decide +kernel
theorem dX11_goThrough_126 : decode cX11_goThrough 126 = .ok (.ixor, 1) := by decide +kernel
theorem dX11_goThrough_127 : decode cX11_goThrough 127 = .ok (.istore 9, 2) := by decide +kernel
theorem dX11_goThrough_129 : decode cX11_goThrough 129 = .ok (.aload_n 0, 1) := by decide +kernel
theorem dX11_goThrough_130 : decode cX11_goThrough 130 = .ok (.getfield 35, 3) := by decide +kernel
theorem dX11_goThrough_133 : decode cX11_goThrough 133 = .ok (.iload 9, 2) := by decide +kernel
theorem dX11_goThrough_135 : decode cX11_goThrough 135 = .ok (.iaload, 1) := by decide +kernel
theorem dX11_goThrough_136 : decode cX11_goThrough 136 = .ok (.iconst (-1), 1) := by decide +kernel
theorem dX11_goThrough_137 : decode cX11_goThrough 137 = .ok (.if_icmp .ne 82, 3) := by decide +kernel
theorem dX11_goThrough_140 : decode cX11_goThrough 140 = .ok (.aload_n 0, 1) := by decide +kernel
theorem dX11_goThrough_141 : decode cX11_goThrough 141 = .ok (.iload 7, 2) := by decide +kernel
theorem dX11_goThrough_143 : decode cX11_goThrough 143 = .ok (.iload 8, 2) := by decide +kernel
theorem dX11_goThrough_145 : decode cX11_goThrough 145 = .ok (.iload 6, 2) := by decide +kernel
theorem dX11_goThrough_147 : decode cX11_goThrough 147 = .ok (.sipush 255, 3) := by decide +kernel
theorem dX11_goThrough_150 : decode cX11_goThrough 150 = .ok (.iand, 1) := by decide +kernel
theorem dX11_goThrough_151 : decode cX11_goThrough 151 = .ok (.iload 6, 2) := by decide +kernel
theorem dX11_goThrough_153 : decode cX11_goThrough 153 = .ok (.bipush 8, 2) := by decide +kernel
theorem dX11_goThrough_155 : decode cX11_goThrough 155 = .ok (.ishr, 1) := by decide +kernel
theorem dX11_goThrough_156 : decode cX11_goThrough 156 = .ok (.aload_n 0, 1) := by decide +kernel
theorem dX11_goThrough_157 : decode cX11_goThrough 157 = .ok (.getfield 161, 3) := by decide +kernel
theorem dX11_goThrough_160 : decode cX11_goThrough 160 = .ok (.invokevirtual 207, 3) := by decide +kernel
theorem dX11_goThrough_163 : decode cX11_goThrough 163 = .ok (.ifCond .eq 56, 3) := by decide +kernel
theorem dX11_goThrough_166 : decode cX11_goThrough 166 = .ok (.aload_n 0, 1) := by decide +kernel
theorem dX11_goThrough_167 : decode cX11_goThrough 167 = .ok (.getfield 35, 3) := by decide +kernel
theorem dX11_goThrough_170 : decode cX11_goThrough 170 = .ok (.iload 9, 2) := by decide +kernel
theorem dX11_goThrough_172 : decode cX11_goThrough 172 = .ok (.aload_n 0, 1) := by decide +kernel
theorem dX11_goThrough_173 : decode cX11_goThrough 173 = .ok (.getfield 35, 3) := by decide +kernel
theorem dX11_goThrough_176 : decode cX11_goThrough 176 = .ok (.iload 6, 2) := by decide +kernel
theorem dX11_goThrough_178 : decode cX11_goThrough 178 = .ok (.iaload, 1) := by decide +kernel
theorem dX11_goThrough_179 : decode cX11_goThrough 179 = .ok (.iconst 1, 1) := by decide +kernel
theorem dX11_goThrough_180 : decode cX11_goThrough 180 = .ok (.iadd, 1) := by decide +kernel
theorem dX11_goThrough_181 : decode cX11_goThrough 181 = .ok (.iastore, 1) := by decide +kernel
theorem dX11_goThrough_182 : decode cX11_goThrough 182 = .ok (.aload_n 0, 1) := by decide +kernel
theorem dX11_goThrough_183 : decode cX11_goThrough 183 = .ok (.getfield 38, 3) := by decide +kernel
theorem dX11_goThrough_186 : decode cX11_goThrough 186 = .ok (.iload 9, 2) := by decide +kernel
theorem dX11_goThrough_188 : decode cX11_goThrough 188 = .ok (.iload 6, 2) := by decide +kernel
theorem dX11_goThrough_190 : decode cX11_goThrough 190 = .ok (.iastore, 1) := by decide +kernel
theorem dX11_goThrough_191 : decode cX11_goThrough 191 = .ok (.aload_n 0, 1) := by decide +kernel
theorem dX11_goThrough_192 : decode cX11_goThrough 192 = .ok (.getfield 41, 3) := by decide +kernel
theorem dX11_goThrough_195 : decode cX11_goThrough 195 = .ok (.iload 9, 2) := by decide +kernel
theorem dX11_goThrough_197 : decode cX11_goThrough 197 = .ok (.sipush 256, 3) := by decide +kernel
theorem dX11_goThrough_200 : decode cX11_goThrough 200 = .ok (.iload 7, 2) := by decide +kernel
theorem dX11_goThrough_202 : decode cX11_goThrough 202 = .ok (.imul, 1) := by decide +kernel
theorem dX11_goThrough_203 : decode cX11_goThrough 203 = .ok (.iload 8, 2) := by decide +kernel
theorem dX11_goThrough_205 : decode cX11_goThrough 205 = .ok (.iadd, 1) := by decide +kernel
theorem dX11_goThrough_206 : decode cX11_goThrough 206 = .ok (.iastore, 1) := by decide +kernel
theorem dX11_goThrough_207 : decode cX11_goThrough 207 = .ok (.aload_n 0, 1) := by decide +kernel
theorem dX11_goThrough_208 : decode cX11_goThrough 208 = .ok (.getfield 44, 3) := by decide +kernel
theorem dX11_goThrough_211 : decode cX11_goThrough 211 = .ok (.iload 4, 2) := by decide +kernel
theorem dX11_goThrough_213 : decode cX11_goThrough 213 = .ok (.iload 9, 2) := by decide +kernel
theorem dX11_goThrough_215 : decode cX11_goThrough 215 = .ok (.iastore, 1) := by decide +kernel
theorem dX11_goThrough_216 : decode cX11_goThrough 216 = .ok (.iinc 4 1, 3) := by decide +kernel
theorem dX11_goThrough_219 : decode cX11_goThrough 219 = .ok (.iinc 8 1, 3) := by decide +kernel
theorem dX11_goThrough_222 : decode cX11_goThrough 222 = .ok (.goto (-118), 3) := by decide +kernel
theorem dX11_goThrough_225 : decode cX11_goThrough 225 = .ok (.iinc 7 1, 3) := by decide +kernel
theorem dX11_goThrough_228 : decode cX11_goThrough 228 = .ok (.goto (-136), 3) := by decide +kernel
theorem dX11_goThrough_231 : decode cX11_goThrough 231 = .ok (.iinc 5 1, 3) := by decide +kernel
theorem dX11_goThrough_234 : decode cX11_goThrough 234 = .ok (.goto (-178), 3) := by decide +kernel
theorem dX11_goThrough_237 : decode cX11_goThrough 237 = .ok (.iconst (-1), 1) := by decide +kernel
theorem dX11_goThrough_238 : decode cX11_goThrough 238 = .ok (.ireturn, 1) := by decide +kernel
theorem dX11_fewest_0 : decode cX11_fewest 0 = .ok (.aload_n 0, 1) := by decide +kernel
theorem dX11_fewest_1 : decode cX11_fewest 1 = .ok (.iload_n 1, 1) := by decide +kernel
theorem dX11_fewest_2 : decode cX11_fewest 2 = .ok (.invokevirtual 204, 3) := by decide +kernel
theorem dX11_fewest_5 : decode cX11_fewest 5 = .ok (.ifCond .eq 10, 3) := by decide +kernel
theorem dX11_fewest_8 : decode cX11_fewest 8 = .ok (.iload_n 2, 1) := by decide +kernel
theorem dX11_fewest_9 : decode cX11_fewest 9 = .ok (.invokestatic 214, 3) := by decide +kernel
theorem dX11_fewest_12 : decode cX11_fewest 12 = .ok (.ifCond .ne 6, 3) := by decide +kernel
end
section
theorem dX11_fewest_15 : decode cX11_fewest 15 = .ok (.bipush (-2), 2) := by decide +kernel
theorem dX11_fewest_17 : decode cX11_fewest 17 = .ok (.ireturn, 1) := by decide +kernel
theorem dX11_fewest_18 : decode cX11_fewest 18 = .ok (.iload_n 3, 1) := by decide +kernel
theorem dX11_fewest_19 : decode cX11_fewest 19 = .ok (.iconst (-1), 1) := by decide +kernel
theorem dX11_fewest_20 : decode cX11_fewest 20 = .ok (.if_icmp .ge 6, 3) := by decide +kernel
theorem dX11_fewest_23 : decode cX11_fewest 23 = .ok (.bipush (-3), 2) := by decide +kernel
theorem dX11_fewest_25 : decode cX11_fewest 25 = .ok (.ireturn, 1) := by decide +kernel
theorem dX11_fewest_26 : decode cX11_fewest 26 = .ok (.aload_n 0, 1) := by decide +kernel
theorem dX11_fewest_27 : decode cX11_fewest 27 = .ok (.iload_n 1, 1) := by decide +kernel
theorem dX11_fewest_28 : decode cX11_fewest 28 = .ok (.iload_n 2, 1) := by decide +kernel
theorem dX11_fewest_29 : decode cX11_fewest 29 = .ok (.invokevirtual 220, 3) := by decide +kernel
theorem dX11_fewest_32 : decode cX11_fewest 32 = .ok (.istore 4, 2) := by decide +kernel
theorem dX11_fewest_34 : decode cX11_fewest 34 = .ok (.iload 4, 2) := by decide +kernel
theorem dX11_fewest_36 : decode cX11_fewest 36 = .ok (.iconst (-1), 1) := by decide +kernel
theorem dX11_fewest_37 : decode cX11_fewest 37 = .ok (.if_icmp .eq 8, 3) := by decide +kernel
theorem dX11_fewest_40 : decode cX11_fewest 40 = .ok (.iload_n 3, 1) := by decide +kernel
theorem dX11_fewest_41 : decode cX11_fewest 41 = .ok (.iconst (-1), 1) := by decide +kernel
theorem dX11_fewest_42 : decode cX11_fewest 42 = .ok (.if_icmp .ne 21, 3) := by decide +kernel
theorem dX11_fewest_45 : decode cX11_fewest 45 = .ok (.iload 4, 2) := by decide +kernel
theorem dX11_fewest_47 : decode cX11_fewest 47 = .ok (.iconst (-1), 1) := by decide +kernel
theorem dX11_fewest_48 : decode cX11_fewest 48 = .ok (.if_icmp .ne 7, 3) := by decide +kernel
theorem dX11_fewest_51 : decode cX11_fewest 51 = .ok (.iconst (-1), 1) := by decide +kernel
theorem dX11_fewest_52 : decode cX11_fewest 52 = .ok (.goto 10, 3) := by decide +kernel
theorem dX11_fewest_55 : decode cX11_fewest 55 = .ok (.aload_n 0, 1) := by decide +kernel
theorem dX11_fewest_56 : decode cX11_fewest 56 = .ok (.getfield 35, 3) := by decide +kernel
theorem dX11_fewest_59 : decode cX11_fewest 59 = .ok (.iload 4, 2) := by decide +kernel
theorem dX11_fewest_61 : decode cX11_fewest 61 = .ok (.iaload, 1) := by decide +kernel
theorem dX11_fewest_62 : decode cX11_fewest 62 = .ok (.ireturn, 1) := by decide +kernel
theorem dX11_fewest_63 : decode cX11_fewest 63 = .ok (.iload_n 3, 1) := by decide +kernel
theorem dX11_fewest_64 : decode cX11_fewest 64 = .ok (.aload_n 0, 1) := by decide +kernel
theorem dX11_fewest_65 : decode cX11_fewest 65 = .ok (.getfield 35, 3) := by decide +kernel
theorem dX11_fewest_68 : decode cX11_fewest 68 = .ok (.iload 4, 2) := by decide +kernel
theorem dX11_fewest_70 : decode cX11_fewest 70 = .ok (.iaload, 1) := by decide +kernel
theorem dX11_fewest_71 : decode cX11_fewest 71 = .ok (.if_icmp .lt 5, 3) := by decide +kernel
theorem dX11_fewest_74 : decode cX11_fewest 74 = .ok (.iconst (-1), 1) := by decide +kernel
theorem dX11_fewest_75 : decode cX11_fewest 75 = .ok (.ireturn, 1) := by decide +kernel
theorem dX11_fewest_76 : decode cX11_fewest 76 = .ok (.aload_n 0, 1) := by decide +kernel
theorem dX11_fewest_77 : decode cX11_fewest 77 = .ok (.getfield 35, 3) := by decide +kernel
theorem dX11_fewest_80 : decode cX11_fewest 80 = .ok (.iload 4, 2) := by decide +kernel
theorem dX11_fewest_82 : decode cX11_fewest 82 = .ok (.iaload, 1) := by decide +kernel
theorem dX11_fewest_83 : decode cX11_fewest 83 = .ok (.iload_n 3, 1) := by decide +kernel
theorem dX11_fewest_84 : decode cX11_fewest 84 = .ok (.iconst 1, 1) := by decide +kernel
theorem dX11_fewest_85 : decode cX11_fewest 85 = .ok (.iadd, 1) := by decide +kernel
theorem dX11_fewest_86 : decode cX11_fewest 86 = .ok (.if_icmp .le 15, 3) := by decide +kernel
theorem dX11_fewest_89 : decode cX11_fewest 89 = .ok (.aload_n 0, 1) := by decide +kernel
theorem dX11_fewest_90 : decode cX11_fewest 90 = .ok (.getfield 38, 3) := by decide +kernel
theorem dX11_fewest_93 : decode cX11_fewest 93 = .ok (.iload 4, 2) := by decide +kernel
theorem dX11_fewest_95 : decode cX11_fewest 95 = .ok (.iaload, 1) := by decide +kernel
theorem dX11_fewest_96 : decode cX11_fewest 96 = .ok (.istore 4, 2) := by decide +kernel
theorem dX11_fewest_98 : decode cX11_fewest 98 = .ok (.goto (-22), 3) := by decide +kernel
theorem dX11_fewest_101 : decode cX11_fewest 101 = .ok (.aload_n 0, 1) := by decide +kernel
theorem dX11_fewest_102 : decode cX11_fewest 102 = .ok (.getfield 41, 3) := by decide +kernel
theorem dX11_fewest_105 : decode cX11_fewest 105 = .ok (.iload 4, 2) := by decide +kernel
theorem dX11_fewest_107 : decode cX11_fewest 107 = .ok (.iaload, 1) := by decide +kernel
theorem dX11_fewest_108 : decode cX11_fewest 108 = .ok (.ireturn, 1) := by decide +kernel
theorem dX11_soonest_0 : decode cX11_soonest 0 = .ok (.aload_n 0, 1) := by decide +kernel
theorem dX11_soonest_1 : decode cX11_soonest 1 = .ok (.iload_n 1, 1) := by decide +kernel
theorem dX11_soonest_2 : decode cX11_soonest 2 = .ok (.invokevirtual 204, 3) := by decide +kernel
theorem dX11_soonest_5 : decode cX11_soonest 5 = .ok (.ifCond .eq 10, 3) := by decide +kernel
theorem dX11_soonest_8 : decode cX11_soonest 8 = .ok (.iload_n 2, 1) := by decide +kernel
theorem dX11_soonest_9 : decode cX11_soonest 9 = .ok (.invokestatic 214, 3) := by decide +kernel
theorem dX11_soonest_12 : decode cX11_soonest 12 = .ok (.ifCond .ne 6, 3) := by decide +kernel
theorem dX11_soonest_15 : decode cX11_soonest 15 = .ok (.bipush (-2), 2) := by decide +kernel
theorem dX11_soonest_17 : decode cX11_soonest 17 = .ok (.ireturn, 1) := by decide +kernel
theorem dX11_soonest_18 : decode cX11_soonest 18 = .ok (.iconst 0, 1) := by decide +kernel
theorem dX11_soonest_19 : decode cX11_soonest 19 = .ok (.istore_n 3, 1) := by decide +kernel
theorem dX11_soonest_20 : decode cX11_soonest 20 = .ok (.iload_n 3, 1) := by decide +kernel
theorem dX11_soonest_21 : decode cX11_soonest 21 = .ok (.sipush 2048, 3) := by decide +kernel
theorem dX11_soonest_24 : decode cX11_soonest 24 = .ok (.if_icmp .ge 24, 3) := by decide +kernel
theorem dX11_soonest_27 : decode cX11_soonest 27 = .ok (.aload_n 0, 1) := by decide +kernel
theorem dX11_soonest_28 : decode cX11_soonest 28 = .ok (.getfield 35, 3) := by decide +kernel
theorem dX11_soonest_31 : decode cX11_soonest 31 = .ok (.iload_n 3, 1) := by decide +kernel
theorem dX11_soonest_32 : decode cX11_soonest 32 = .ok (.ldc 223, 2) := by decide +kernel
theorem dX11_soonest_34 : decode cX11_soonest 34 = .ok (.iastore, 1) := by decide +kernel
theorem dX11_soonest_35 : decode cX11_soonest 35 = .ok (.aload_n 0, 1) := by decide +kernel
theorem dX11_soonest_36 : decode cX11_soonest 36 = .ok (.getfield 38, 3) := by decide +kernel
theorem dX11_soonest_39 : decode cX11_soonest 39 = .ok (.iload_n 3, 1) := by decide +kernel
theorem dX11_soonest_40 : decode cX11_soonest 40 = .ok (.iconst 0, 1) := by decide +kernel
theorem dX11_soonest_41 : decode cX11_soonest 41 = .ok (.iastore, 1) := by decide +kernel
theorem dX11_soonest_42 : decode cX11_soonest 42 = .ok (.iinc 3 1, 3) := by decide +kernel
theorem dX11_soonest_45 : decode cX11_soonest 45 = .ok (.goto (-25), 3) := by decide +kernel
theorem dX11_soonest_48 : decode cX11_soonest 48 = .ok (.aload_n 0, 1) := by decide +kernel
theorem dX11_soonest_49 : decode cX11_soonest 49 = .ok (.getfield 35, 3) := by decide +kernel
theorem dX11_soonest_52 : decode cX11_soonest 52 = .ok (.sipush 256, 3) := by decide +kernel
theorem dX11_soonest_55 : decode cX11_soonest 55 = .ok (.aload_n 0, 1) := by decide +kernel
theorem dX11_soonest_56 : decode cX11_soonest 56 = .ok (.getfield 158, 3) := by decide +kernel
theorem dX11_soonest_59 : decode cX11_soonest 59 = .ok (.imul, 1) := by decide +kernel
theorem dX11_soonest_60 : decode cX11_soonest 60 = .ok (.aload_n 0, 1) := by decide +kernel
theorem dX11_soonest_61 : decode cX11_soonest 61 = .ok (.getfield 155, 3) := by decide +kernel
theorem dX11_soonest_64 : decode cX11_soonest 64 = .ok (.iadd, 1) := by decide +kernel
theorem dX11_soonest_65 : decode cX11_soonest 65 = .ok (.iconst 0, 1) := by decide +kernel
theorem dX11_soonest_66 : decode cX11_soonest 66 = .ok (.iastore, 1) := by decide +kernel
theorem dX11_soonest_67 : decode cX11_soonest 67 = .ok (.iconst (-1), 1) := by decide +kernel
theorem dX11_soonest_68 : decode cX11_soonest 68 = .ok (.istore_n 3, 1) := by decide +kernel
theorem dX11_soonest_69 : decode cX11_soonest 69 = .ok (.iconst 0, 1) := by decide +kernel
theorem dX11_soonest_70 : decode cX11_soonest 70 = .ok (.istore 4, 2) := by decide +kernel
theorem dX11_soonest_72 : decode cX11_soonest 72 = .ok (.iload 4, 2) := by decide +kernel
theorem dX11_soonest_74 : decode cX11_soonest 74 = .ok (.sipush 256, 3) := by decide +kernel
theorem dX11_soonest_77 : decode cX11_soonest 77 = .ok (.aload_n 0, 1) := by decide +kernel
theorem dX11_soonest_78 : decode cX11_soonest 78 = .ok (.getfield 55, 3) := by decide +kernel
theorem dX11_soonest_81 : decode cX11_soonest 81 = .ok (.ishl, 1) := by decide +kernel
theorem dX11_soonest_82 : decode cX11_soonest 82 = .ok (.if_icmp .ge 59, 3) := by decide +kernel
theorem dX11_soonest_85 : decode cX11_soonest 85 = .ok (.aload_n 0, 1) := by decide +kernel
theorem dX11_soonest_86 : decode cX11_soonest 86 = .ok (.getfield 38, 3) := by decide +kernel
theorem dX11_soonest_89 : decode cX11_soonest 89 = .ok (.iload 4, 2) := by decide +kernel
theorem dX11_soonest_91 : decode cX11_soonest 91 = .ok (.iaload, 1) := by decide +kernel
theorem dX11_soonest_92 : decode cX11_soonest 92 = .ok (.ifCond .ne 41, 3) := by decide +kernel
theorem dX11_soonest_95 : decode cX11_soonest 95 = .ok (.aload_n 0, 1) := by decide +kernel
theorem dX11_soonest_96 : decode cX11_soonest 96 = .ok (.getfield 35, 3) := by decide +kernel
theorem dX11_soonest_99 : decode cX11_soonest 99 = .ok (.iload 4, 2) := by decide +kernel
theorem dX11_soonest_101 : decode cX11_soonest 101 = .ok (.iaload, 1) := by decide +kernel
theorem dX11_soonest_102 : decode cX11_soonest 102 = .ok (.ldc 223, 2) := by decide +kernel
theorem dX11_soonest_104 : decode cX11_soonest 104 = .ok (.if_icmp .ge 29, 3) := by decide +kernel
theorem dX11_soonest_107 : decode cX11_soonest 107 = .ok (.iload_n 3, 1) := by decide +kernel
theorem dX11_soonest_108 : decode cX11_soonest 108 = .ok (.iconst (-1), 1) := by decide +kernel
theorem dX11_soonest_109 : decode cX11_soonest 109 = .ok (.if_icmp .eq 19, 3) := by decide +kernel
theorem dX11_soonest_112 : decode cX11_soonest 112 = .ok (.aload_n 0, 1) := by decide +kernel
theorem dX11_soonest_113 : decode cX11_soonest 113 = .ok (.getfield 35, 3) := by decide +kernel
theorem dX11_soonest_116 : decode cX11_soonest 116 = .ok (.iload 4, 2) := by decide +kernel
theorem dX11_soonest_118 : decode cX11_soonest 118 = .ok (.iaload, 1) := by decide +kernel
theorem dX11_soonest_119 : decode cX11_soonest 119 = .ok (.aload_n 0, 1) := by decide +kernel
theorem dX11_soonest_120 : decode cX11_soonest 120 = .ok (.getfield 35, 3) := by decide +kernel
theorem dX11_soonest_123 : decode cX11_soonest 123 = .ok (.iload_n 3, 1) := by decide +kernel
theorem dX11_soonest_124 : decode cX11_soonest 124 = .ok (.iaload, 1) := by decide +kernel
theorem dX11_soonest_125 : decode cX11_soonest 125 = .ok (.if_icmp .ge 8, 3) := by decide +kernel
theorem dX11_soonest_128 : decode cX11_soonest 128 = .ok (.iload 4, 2) := by decide +kernel
theorem dX11_soonest_130 : decode cX11_soonest 130 = .ok (.goto 4, 3) := by decide +kernel
theorem dX11_soonest_133 : decode cX11_soonest 133 = .ok (.iload_n 3, 1) := by decide +kernel
theorem dX11_soonest_134 : decode cX11_soonest 134 = .ok (.istore_n 3, 1) := by decide +kernel
theorem dX11_soonest_135 : decode cX11_soonest 135 = .ok (.iinc 4 1, 3) := by decide +kernel
theorem dX11_soonest_138 : decode cX11_soonest 138 = .ok (.goto (-66), 3) := by decide +kernel
theorem dX11_soonest_141 : decode cX11_soonest 141 = .ok (.iload_n 3, 1) := by decide +kernel
theorem dX11_soonest_142 : decode cX11_soonest 142 = .ok (.iconst (-1), 1) := by decide +kernel
theorem dX11_soonest_143 : decode cX11_soonest 143 = .ok (.if_icmp .eq 16, 3) := by decide +kernel
theorem dX11_soonest_146 : decode cX11_soonest 146 = .ok (.iload_n 3, 1) := by decide +kernel
theorem dX11_soonest_147 : decode cX11_soonest 147 = .ok (.sipush 255, 3) := by decide +kernel
theorem dX11_soonest_150 : decode cX11_soonest 150 = .ok (.iand, 1) := by decide +kernel
theorem dX11_soonest_151 : decode cX11_soonest 151 = .ok (.iload_n 1, 1) := by decide +kernel
theorem dX11_soonest_152 : decode cX11_soonest 152 = .ok (.iload_n 2, 1) := by decide +kernel
theorem dX11_soonest_153 : decode cX11_soonest 153 = .ok (.invokestatic 217, 3) := by decide +kernel
theorem dX11_soonest_156 : decode cX11_soonest 156 = .ok (.ifCond .eq 19, 3) := by decide +kernel
theorem dX11_soonest_159 : decode cX11_soonest 159 = .ok (.iload_n 3, 1) := by decide +kernel
theorem dX11_soonest_160 : decode cX11_soonest 160 = .ok (.iconst (-1), 1) := by decide +kernel
theorem dX11_soonest_161 : decode cX11_soonest 161 = .ok (.if_icmp .ne 7, 3) := by decide +kernel
theorem dX11_soonest_164 : decode cX11_soonest 164 = .ok (.iconst (-1), 1) := by decide +kernel
theorem dX11_soonest_165 : decode cX11_soonest 165 = .ok (.goto 9, 3) := by decide +kernel
theorem dX11_soonest_168 : decode cX11_soonest 168 = .ok (.aload_n 0, 1) := by decide +kernel
theorem dX11_soonest_169 : decode cX11_soonest 169 = .ok (.getfield 35, 3) := by decide +kernel
theorem dX11_soonest_172 : decode cX11_soonest 172 = .ok (.iload_n 3, 1) := by decide +kernel
theorem dX11_soonest_173 : decode cX11_soonest 173 = .ok (.iaload, 1) := by decide +kernel
theorem dX11_soonest_174 : decode cX11_soonest 174 = .ok (.ireturn, 1) := by decide +kernel
theorem dX11_soonest_175 : decode cX11_soonest 175 = .ok (.aload_n 0, 1) := by decide +kernel
theorem dX11_soonest_176 : decode cX11_soonest 176 = .ok (.getfield 38, 3) := by decide +kernel
theorem dX11_soonest_179 : decode cX11_soonest 179 = .ok (.iload_n 3, 1) := by decide +kernel
theorem dX11_soonest_180 : decode cX11_soonest 180 = .ok (.iconst 1, 1) := by decide +kernel
theorem dX11_soonest_181 : decode cX11_soonest 181 = .ok (.iastore, 1) := by decide +kernel
theorem dX11_soonest_182 : decode cX11_soonest 182 = .ok (.iconst 0, 1) := by decide +kernel
theorem dX11_soonest_183 : decode cX11_soonest 183 = .ok (.istore 4, 2) := by decide +kernel
theorem dX11_soonest_185 : decode cX11_soonest 185 = .ok (.iload 4, 2) := by decide +kernel
theorem dX11_soonest_187 : decode cX11_soonest 187 = .ok (.aload_n 0, 1) := by decide +kernel
theorem dX11_soonest_188 : decode cX11_soonest 188 = .ok (.getfield 55, 3) := by decide +kernel
theorem dX11_soonest_191 : decode cX11_soonest 191 = .ok (.if_icmp .ge 129, 3) := by decide +kernel
theorem dX11_soonest_194 : decode cX11_soonest 194 = .ok (.iconst 1, 1) := by decide +kernel
theorem dX11_soonest_195 : decode cX11_soonest 195 = .ok (.istore 5, 2) := by decide +kernel
theorem dX11_soonest_197 : decode cX11_soonest 197 = .ok (.iload 5, 2) := by decide +kernel
theorem dX11_soonest_199 : decode cX11_soonest 199 = .ok (.iconst 1, 1) := by decide +kernel
theorem dX11_soonest_200 : decode cX11_soonest 200 = .ok (.aload_n 0, 1) := by decide +kernel
theorem dX11_soonest_201 : decode cX11_soonest 201 = .ok (.getfield 47, 3) := by decide +kernel
theorem dX11_soonest_204 : decode cX11_soonest 204 = .ok (.ishl, 1) := by decide +kernel
theorem dX11_soonest_205 : decode cX11_soonest 205 = .ok (.if_icmp .ge 109, 3) := by decide +kernel
theorem dX11_soonest_208 : decode cX11_soonest 208 = .ok (.iload_n 3, 1) := by decide +kernel
theorem dX11_soonest_209 : decode cX11_soonest 209 = .ok (.iload 5, 2) := by decide +kernel
theorem dX11_soonest_211 : decode cX11_soonest 211 = .ok (.ixor, 1) := by decide +kernel
theorem dX11_soonest_212 : decode cX11_soonest 212 = .ok (.sipush 256, 3) := by decide +kernel
theorem dX11_soonest_215 : decode cX11_soonest 215 = .ok (.iload 4, 2) := by decide +kernel
theorem dX11_soonest_217 : decode cX11_soonest 217 = .ok (.ishl, 1) := by decide +kernel
theorem dX11_soonest_218 : decode cX11_soonest 218 = .ok (.ixor, 1) := by decide +kernel
theorem dX11_soonest_219 : decode cX11_soonest 219 = .ok (.istore 6, 2) := by decide +kernel
theorem dX11_soonest_221 : decode cX11_soonest 221 = .ok (.aload_n 0, 1) := by decide +kernel
theorem dX11_soonest_222 : decode cX11_soonest 222 = .ok (.getfield 38, 3) := by decide +kernel
theorem dX11_soonest_225 : decode cX11_soonest 225 = .ok (.iload 6, 2) := by decide +kernel
theorem dX11_soonest_227 : decode cX11_soonest 227 = .ok (.iaload, 1) := by decide +kernel
theorem dX11_soonest_228 : decode cX11_soonest 228 = .ok (.ifCond .ne 80, 3) := by decide +kernel
theorem dX11_soonest_231 : decode cX11_soonest 231 = .ok (.aload_n 0, 1) := by decide +kernel
theorem dX11_soonest_232 : decode cX11_soonest 232 = .ok (.getfield 35, 3) := by decide +kernel
theorem dX11_soonest_235 : decode cX11_soonest 235 = .ok (.iload_n 3, 1) := by decide +kernel
theorem dX11_soonest_236 : decode cX11_soonest 236 = .ok (.iaload, 1) := by decide +kernel
theorem dX11_soonest_237 : decode cX11_soonest 237 = .ok (.aload_n 0, 1) := by decide +kernel
theorem dX11_soonest_238 : decode cX11_soonest 238 = .ok (.getfield 13, 3) := by decide +kernel
theorem dX11_soonest_241 : decode cX11_soonest 241 = .ok (.iconst 5, 1) := by decide +kernel
theorem dX11_soonest_242 : decode cX11_soonest 242 = .ok (.iload 4, 2) := by decide +kernel
theorem dX11_soonest_244 : decode cX11_soonest 244 = .ok (.imul, 1) := by decide +kernel
theorem dX11_soonest_245 : decode cX11_soonest 245 = .ok (.iconst 4, 1) := by decide +kernel
theorem dX11_soonest_246 : decode cX11_soonest 246 = .ok (.iadd, 1) := by decide +kernel
theorem dX11_soonest_247 : decode cX11_soonest 247 = .ok (.iaload, 1) := by decide +kernel
theorem dX11_soonest_248 : decode cX11_soonest 248 = .ok (.iadd, 1) := by decide +kernel
theorem dX11_soonest_249 : decode cX11_soonest 249 = .ok (.aload_n 0, 1) := by decide +kernel
theorem dX11_soonest_250 : decode cX11_soonest 250 = .ok (.getfield 35, 3) := by decide +kernel
theorem dX11_soonest_253 : decode cX11_soonest 253 = .ok (.iload 6, 2) := by decide +kernel
theorem dX11_soonest_255 : decode cX11_soonest 255 = .ok (.iaload, 1) := by decide +kernel
theorem dX11_soonest_256 : decode cX11_soonest 256 = .ok (.if_icmp .ge 52, 3) := by decide +kernel
theorem dX11_soonest_259 : decode cX11_soonest 259 = .ok (.aload_n 0, 1) := by decide +kernel
theorem dX11_soonest_260 : decode cX11_soonest 260 = .ok (.iload 4, 2) := by decide +kernel
theorem dX11_soonest_262 : decode cX11_soonest 262 = .ok (.iload 5, 2) := by decide +kernel
theorem dX11_soonest_264 : decode cX11_soonest 264 = .ok (.iload_n 3, 1) := by decide +kernel
theorem dX11_soonest_265 : decode cX11_soonest 265 = .ok (.sipush 255, 3) := by decide +kernel
theorem dX11_soonest_268 : decode cX11_soonest 268 = .ok (.iand, 1) := by decide +kernel
theorem dX11_soonest_269 : decode cX11_soonest 269 = .ok (.iload_n 3, 1) := by decide +kernel
theorem dX11_soonest_270 : decode cX11_soonest 270 = .ok (.bipush 8, 2) := by decide +kernel
theorem dX11_soonest_272 : decode cX11_soonest 272 = .ok (.ishr, 1) := by decide +kernel
theorem dX11_soonest_273 : decode cX11_soonest 273 = .ok (.aload_n 0, 1) := by decide +kernel
theorem dX11_soonest_274 : decode cX11_soonest 274 = .ok (.getfield 161, 3) := by decide +kernel
theorem dX11_soonest_277 : decode cX11_soonest 277 = .ok (.invokevirtual 207, 3) := by decide +kernel
theorem dX11_soonest_280 : decode cX11_soonest 280 = .ok (.ifCond .eq 28, 3) := by decide +kernel
theorem dX11_soonest_283 : decode cX11_soonest 283 = .ok (.aload_n 0, 1) := by decide +kernel
theorem dX11_soonest_284 : decode cX11_soonest 284 = .ok (.getfield 35, 3) := by decide +kernel
theorem dX11_soonest_287 : decode cX11_soonest 287 = .ok (.iload 6, 2) := by decide +kernel
theorem dX11_soonest_289 : decode cX11_soonest 289 = .ok (.aload_n 0, 1) := by decide +kernel
theorem dX11_soonest_290 : decode cX11_soonest 290 = .ok (.getfield 35, 3) := by decide +kernel
theorem dX11_soonest_293 : decode cX11_soonest 293 = .ok (.iload_n 3, 1) := by decide +kernel
theorem dX11_soonest_294 : decode cX11_soonest 294 = .ok (.iaload, 1) := by decide +kernel
theorem dX11_soonest_295 : decode cX11_soonest 295 = .ok (.aload_n 0, 1) := by decide +kernel
theorem dX11_soonest_296 : decode cX11_soonest 296 = .ok (.getfield 13, 3) := by decide +kernel
theorem dX11_soonest_299 : decode cX11_soonest 299 = .ok (.iconst 5, 1) := by decide +kernel
theorem dX11_soonest_300 : decode cX11_soonest 300 = .ok (.iload 4, 2) := by decide +kernel
theorem dX11_soonest_302 : decode cX11_soonest 302 = .ok (.imul, 1) := by decide +kernel
theorem dX11_soonest_303 : decode cX11_soonest 303 = .ok (.iconst 4, 1) := by decide +kernel
theorem dX11_soonest_304 : decode cX11_soonest 304 = .ok (.iadd, 1) := by decide +kernel
theorem dX11_soonest_305 : decode cX11_soonest 305 = .ok (.iaload, 1) := by decide +kernel
theorem dX11_soonest_306 : decode cX11_soonest 306 = .ok (.iadd, 1) := by decide +kernel
theorem dX11_soonest_307 : decode cX11_soonest 307 = .ok (.iastore, 1) := by decide +kernel
theorem dX11_soonest_308 : decode cX11_soonest 308 = .ok (.iinc 5 1, 3) := by decide +kernel
theorem dX11_soonest_311 : decode cX11_soonest 311 = .ok (.goto (-114), 3) := by decide +kernel
theorem dX11_soonest_314 : decode cX11_soonest 314 = .ok (.iinc 4 1, 3) := by decide +kernel
theorem dX11_soonest_317 : decode cX11_soonest 317 = .ok (.goto (-132), 3) := by decide +kernel
theorem dX11_soonest_320 : decode cX11_soonest 320 = .ok (.goto (-253), 3) := by decide +kernel
theorem dX11_row_0 : decode cX11_row 0 = .ok (.aload_n 0, 1) := by decide +kernel
theorem dX11_row_1 : decode cX11_row 1 = .ok (.iload_n 1, 1) := by decide +kernel
theorem dX11_row_2 : decode cX11_row 2 = .ok (.invokevirtual 184, 3) := by decide +kernel
theorem dX11_row_5 : decode cX11_row 5 = .ok (.ifCond .eq 11, 3) := by decide +kernel
theorem dX11_row_8 : decode cX11_row 8 = .ok (.aload_n 0, 1) := by decide +kernel
theorem dX11_row_9 : decode cX11_row 9 = .ok (.iload_n 2, 1) := by decide +kernel
theorem dX11_row_10 : decode cX11_row 10 = .ok (.invokevirtual 204, 3) := by decide +kernel
theorem dX11_row_13 : decode cX11_row 13 = .ok (.ifCond .ne 6, 3) := by decide +kernel
theorem dX11_row_16 : decode cX11_row 16 = .ok (.bipush (-2), 2) := by decide +kernel
theorem dX11_row_18 : decode cX11_row 18 = .ok (.ireturn, 1) := by decide +kernel
theorem dX11_row_19 : decode cX11_row 19 = .ok (.aload_n 0, 1) := by decide +kernel
theorem dX11_row_20 : decode cX11_row 20 = .ok (.getfield 170, 3) := by decide +kernel
theorem dX11_row_23 : decode cX11_row 23 = .ok (.bipush 12, 2) := by decide +kernel
theorem dX11_row_25 : decode cX11_row 25 = .ok (.if_icmp .ne 6, 3) := by decide +kernel
theorem dX11_row_28 : decode cX11_row 28 = .ok (.bipush (-5), 2) := by decide +kernel
theorem dX11_row_30 : decode cX11_row 30 = .ok (.ireturn, 1) := by decide +kernel
theorem dX11_row_31 : decode cX11_row 31 = .ok (.aload_n 0, 1) := by decide +kernel
theorem dX11_row_32 : decode cX11_row 32 = .ok (.getfield 32, 3) := by decide +kernel
theorem dX11_row_35 : decode cX11_row 35 = .ok (.iconst 2, 1) := by decide +kernel
theorem dX11_row_36 : decode cX11_row 36 = .ok (.aload_n 0, 1) := by decide +kernel
theorem dX11_row_37 : decode cX11_row 37 = .ok (.getfield 170, 3) := by decide +kernel
theorem dX11_row_40 : decode cX11_row 40 = .ok (.imul, 1) := by decide +kernel
theorem dX11_row_41 : decode cX11_row 41 = .ok (.iload_n 1, 1) := by decide +kernel
theorem dX11_row_42 : decode cX11_row 42 = .ok (.iastore, 1) := by decide +kernel
theorem dX11_row_43 : decode cX11_row 43 = .ok (.aload_n 0, 1) := by decide +kernel
theorem dX11_row_44 : decode cX11_row 44 = .ok (.getfield 32, 3) := by decide +kernel
theorem dX11_row_47 : decode cX11_row 47 = .ok (.iconst 2, 1) := by decide +kernel
theorem dX11_row_48 : decode cX11_row 48 = .ok (.aload_n 0, 1) := by decide +kernel
theorem dX11_row_49 : decode cX11_row 49 = .ok (.getfield 170, 3) := by decide +kernel
theorem dX11_row_52 : decode cX11_row 52 = .ok (.imul, 1) := by decide +kernel
theorem dX11_row_53 : decode cX11_row 53 = .ok (.iconst 1, 1) := by decide +kernel
theorem dX11_row_54 : decode cX11_row 54 = .ok (.iadd, 1) := by decide +kernel
theorem dX11_row_55 : decode cX11_row 55 = .ok (.iload_n 2, 1) := by decide +kernel
theorem dX11_row_56 : decode cX11_row 56 = .ok (.iastore, 1) := by decide +kernel
theorem dX11_row_57 : decode cX11_row 57 = .ok (.aload_n 0, 1) := by decide +kernel
theorem dX11_row_58 : decode cX11_row 58 = .ok (.dup, 1) := by decide +kernel
theorem dX11_row_59 : decode cX11_row 59 = .ok (.getfield 170, 3) := by decide +kernel
theorem dX11_row_62 : decode cX11_row 62 = .ok (.iconst 1, 1) := by decide +kernel
theorem dX11_row_63 : decode cX11_row 63 = .ok (.iadd, 1) := by decide +kernel
theorem dX11_row_64 : decode cX11_row 64 = .ok (.putfield 170, 3) := by decide +kernel
theorem dX11_row_67 : decode cX11_row 67 = .ok (.aload_n 0, 1) := by decide +kernel
theorem dX11_row_68 : decode cX11_row 68 = .ok (.getfield 170, 3) := by decide +kernel
theorem dX11_row_71 : decode cX11_row 71 = .ok (.ireturn, 1) := by decide +kernel
theorem dX11_burn_0 : decode cX11_burn 0 = .ok (.aload_n 0, 1) := by decide +kernel
theorem dX11_burn_1 : decode cX11_burn 1 = .ok (.getfield 170, 3) := by decide +kernel
theorem dX11_burn_4 : decode cX11_burn 4 = .ok (.istore_n 1, 1) := by decide +kernel
theorem dX11_burn_5 : decode cX11_burn 5 = .ok (.aload_n 0, 1) := by decide +kernel
theorem dX11_burn_6 : decode cX11_burn 6 = .ok (.iconst 0, 1) := by decide +kernel
theorem dX11_burn_7 : decode cX11_burn 7 = .ok (.putfield 170, 3) := by decide +kernel
theorem dX11_burn_10 : decode cX11_burn 10 = .ok (.iload_n 1, 1) := by decide +kernel
theorem dX11_burn_11 : decode cX11_burn 11 = .ok (.ireturn, 1) := by decide +kernel
theorem dX11_judge_0 : decode cX11_judge 0 = .ok (.aload_n 0, 1) := by decide +kernel
theorem dX11_judge_1 : decode cX11_judge 1 = .ok (.getfield 155, 3) := by decide +kernel
theorem dX11_judge_4 : decode cX11_judge 4 = .ok (.istore_n 1, 1) := by decide +kernel
theorem dX11_judge_5 : decode cX11_judge 5 = .ok (.aload_n 0, 1) := by decide +kernel
theorem dX11_judge_6 : decode cX11_judge 6 = .ok (.getfield 158, 3) := by decide +kernel
theorem dX11_judge_9 : decode cX11_judge 9 = .ok (.istore_n 2, 1) := by decide +kernel
theorem dX11_judge_10 : decode cX11_judge 10 = .ok (.aload_n 0, 1) := by decide +kernel
theorem dX11_judge_11 : decode cX11_judge 11 = .ok (.iconst (-1), 1) := by decide +kernel
theorem dX11_judge_12 : decode cX11_judge 12 = .ok (.putfield 224, 3) := by decide +kernel
theorem dX11_judge_15 : decode cX11_judge 15 = .ok (.iconst 0, 1) := by decide +kernel
theorem dX11_judge_16 : decode cX11_judge 16 = .ok (.istore_n 3, 1) := by decide +kernel
theorem dX11_judge_17 : decode cX11_judge 17 = .ok (.iload_n 3, 1) := by decide +kernel
theorem dX11_judge_18 : decode cX11_judge 18 = .ok (.aload_n 0, 1) := by decide +kernel
theorem dX11_judge_19 : decode cX11_judge 19 = .ok (.getfield 170, 3) := by decide +kernel
theorem dX11_judge_22 : decode cX11_judge 22 = .ok (.if_icmp .ge 83, 3) := by decide +kernel
theorem dX11_judge_25 : decode cX11_judge 25 = .ok (.aload_n 0, 1) := by decide +kernel
theorem dX11_judge_26 : decode cX11_judge 26 = .ok (.getfield 224, 3) := by decide +kernel
theorem dX11_judge_29 : decode cX11_judge 29 = .ok (.iconst (-1), 1) := by decide +kernel
theorem dX11_judge_30 : decode cX11_judge 30 = .ok (.if_icmp .ne 75, 3) := by decide +kernel
theorem dX11_judge_33 : decode cX11_judge 33 = .ok (.aload_n 0, 1) := by decide +kernel
theorem dX11_judge_34 : decode cX11_judge 34 = .ok (.aload_n 0, 1) := by decide +kernel
theorem dX11_judge_35 : decode cX11_judge 35 = .ok (.aload_n 0, 1) := by decide +kernel
theorem dX11_judge_36 : decode cX11_judge 36 = .ok (.getfield 32, 3) := by decide +kernel
theorem dX11_judge_39 : decode cX11_judge 39 = .ok (.iconst 2, 1) := by decide +kernel
theorem dX11_judge_40 : decode cX11_judge 40 = .ok (.iload_n 3, 1) := by decide +kernel
theorem dX11_judge_41 : decode cX11_judge 41 = .ok (.imul, 1) := by decide +kernel
theorem dX11_judge_42 : decode cX11_judge 42 = .ok (.iaload, 1) := by decide +kernel
theorem dX11_judge_43 : decode cX11_judge 43 = .ok (.aload_n 0, 1) := by decide +kernel
theorem dX11_judge_44 : decode cX11_judge 44 = .ok (.getfield 32, 3) := by decide +kernel
theorem dX11_judge_47 : decode cX11_judge 47 = .ok (.iconst 2, 1) := by decide +kernel
theorem dX11_judge_48 : decode cX11_judge 48 = .ok (.iload_n 3, 1) := by decide +kernel
theorem dX11_judge_49 : decode cX11_judge 49 = .ok (.imul, 1) := by decide +kernel
theorem dX11_judge_50 : decode cX11_judge 50 = .ok (.iconst 1, 1) := by decide +kernel
theorem dX11_judge_51 : decode cX11_judge 51 = .ok (.iadd, 1) := by decide +kernel
theorem dX11_judge_52 : decode cX11_judge 52 = .ok (.iaload, 1) := by decide +kernel
theorem dX11_judge_53 : decode cX11_judge 53 = .ok (.iload_n 1, 1) := by decide +kernel
theorem dX11_judge_54 : decode cX11_judge 54 = .ok (.iload_n 2, 1) := by decide +kernel
theorem dX11_judge_55 : decode cX11_judge 55 = .ok (.aload_n 0, 1) := by decide +kernel
theorem dX11_judge_56 : decode cX11_judge 56 = .ok (.getfield 161, 3) := by decide +kernel
theorem dX11_judge_59 : decode cX11_judge 59 = .ok (.invokevirtual 207, 3) := by decide +kernel
theorem dX11_judge_62 : decode cX11_judge 62 = .ok (.ifCond .eq 7, 3) := by decide +kernel
theorem dX11_judge_65 : decode cX11_judge 65 = .ok (.iconst (-1), 1) := by decide +kernel
theorem dX11_judge_66 : decode cX11_judge 66 = .ok (.goto 4, 3) := by decide +kernel
theorem dX11_judge_69 : decode cX11_judge 69 = .ok (.iload_n 3, 1) := by decide +kernel
theorem dX11_judge_70 : decode cX11_judge 70 = .ok (.putfield 224, 3) := by decide +kernel
theorem dX11_judge_73 : decode cX11_judge 73 = .ok (.iload_n 1, 1) := by decide +kernel
theorem dX11_judge_74 : decode cX11_judge 74 = .ok (.aload_n 0, 1) := by decide +kernel
theorem dX11_judge_75 : decode cX11_judge 75 = .ok (.getfield 32, 3) := by decide +kernel
theorem dX11_judge_78 : decode cX11_judge 78 = .ok (.iconst 2, 1) := by decide +kernel
theorem dX11_judge_79 : decode cX11_judge 79 = .ok (.iload_n 3, 1) := by decide +kernel
theorem dX11_judge_80 : decode cX11_judge 80 = .ok (.imul, 1) := by decide +kernel
theorem dX11_judge_81 : decode cX11_judge 81 = .ok (.iconst 1, 1) := by decide +kernel
theorem dX11_judge_82 : decode cX11_judge 82 = .ok (.iadd, 1) := by decide +kernel
theorem dX11_judge_83 : decode cX11_judge 83 = .ok (.iaload, 1) := by decide +kernel
theorem dX11_judge_84 : decode cX11_judge 84 = .ok (.ixor, 1) := by decide +kernel
theorem dX11_judge_85 : decode cX11_judge 85 = .ok (.istore_n 1, 1) := by decide +kernel
theorem dX11_judge_86 : decode cX11_judge 86 = .ok (.iload_n 2, 1) := by decide +kernel
theorem dX11_judge_87 : decode cX11_judge 87 = .ok (.iconst 1, 1) := by decide +kernel
theorem dX11_judge_88 : decode cX11_judge 88 = .ok (.aload_n 0, 1) := by decide +kernel
theorem dX11_judge_89 : decode cX11_judge 89 = .ok (.getfield 32, 3) := by decide +kernel
theorem dX11_judge_92 : decode cX11_judge 92 = .ok (.iconst 2, 1) := by decide +kernel
theorem dX11_judge_93 : decode cX11_judge 93 = .ok (.iload_n 3, 1) := by decide +kernel
theorem dX11_judge_94 : decode cX11_judge 94 = .ok (.imul, 1) := by decide +kernel
theorem dX11_judge_95 : decode cX11_judge 95 = .ok (.iaload, 1) := by decide +kernel
theorem dX11_judge_96 : decode cX11_judge 96 = .ok (.ishl, 1) := by decide +kernel
theorem dX11_judge_97 : decode cX11_judge 97 = .ok (.ixor, 1) := by decide +kernel
theorem dX11_judge_98 : decode cX11_judge 98 = .ok (.istore_n 2, 1) := by decide +kernel
theorem dX11_judge_99 : decode cX11_judge 99 = .ok (.iinc 3 1, 3) := by decide +kernel
theorem dX11_judge_102 : decode cX11_judge 102 = .ok (.goto (-85), 3) := by decide +kernel
theorem dX11_judge_105 : decode cX11_judge 105 = .ok (.aload_n 0, 1) := by decide +kernel
theorem dX11_judge_106 : decode cX11_judge 106 = .ok (.getfield 224, 3) := by decide +kernel
theorem dX11_judge_109 : decode cX11_judge 109 = .ok (.ireturn, 1) := by decide +kernel
theorem dX11_count_0 : decode cX11_count 0 = .ok (.iload_n 1, 1) := by decide +kernel
theorem dX11_count_1 : decode cX11_count 1 = .ok (.tableswitch 87 0 7 #[47, 52, 57, 62, 67, 72, 77, 82], 47) := by decide +kernel
theorem dX11_count_48 : decode cX11_count 48 = .ok (.aload_n 0, 1) := by decide +kernel
theorem dX11_count_49 : decode cX11_count 49 = .ok (.getfield 47, 3) := by decide +kernel
theorem dX11_count_52 : decode cX11_count 52 = .ok (.ireturn, 1) := by decide +kernel
theorem dX11_count_53 : decode cX11_count 53 = .ok (.aload_n 0, 1) := by decide +kernel
theorem dX11_count_54 : decode cX11_count 54 = .ok (.getfield 55, 3) := by decide +kernel
theorem dX11_count_57 : decode cX11_count 57 = .ok (.ireturn, 1) := by decide +kernel
theorem dX11_count_58 : decode cX11_count 58 = .ok (.aload_n 0, 1) := by decide +kernel
theorem dX11_count_59 : decode cX11_count 59 = .ok (.getfield 155, 3) := by decide +kernel
theorem dX11_count_62 : decode cX11_count 62 = .ok (.ireturn, 1) := by decide +kernel
theorem dX11_count_63 : decode cX11_count 63 = .ok (.aload_n 0, 1) := by decide +kernel
theorem dX11_count_64 : decode cX11_count 64 = .ok (.getfield 158, 3) := by decide +kernel
theorem dX11_count_67 : decode cX11_count 67 = .ok (.ireturn, 1) := by decide +kernel
theorem dX11_count_68 : decode cX11_count 68 = .ok (.aload_n 0, 1) := by decide +kernel
theorem dX11_count_69 : decode cX11_count 69 = .ok (.getfield 167, 3) := by decide +kernel
theorem dX11_count_72 : decode cX11_count 72 = .ok (.ireturn, 1) := by decide +kernel
theorem dX11_count_73 : decode cX11_count 73 = .ok (.aload_n 0, 1) := by decide +kernel
theorem dX11_count_74 : decode cX11_count 74 = .ok (.getfield 164, 3) := by decide +kernel
theorem dX11_count_77 : decode cX11_count 77 = .ok (.ireturn, 1) := by decide +kernel
theorem dX11_count_78 : decode cX11_count 78 = .ok (.aload_n 0, 1) := by decide +kernel
theorem dX11_count_79 : decode cX11_count 79 = .ok (.getfield 170, 3) := by decide +kernel
theorem dX11_count_82 : decode cX11_count 82 = .ok (.ireturn, 1) := by decide +kernel
theorem dX11_count_83 : decode cX11_count 83 = .ok (.aload_n 0, 1) := by decide +kernel
theorem dX11_count_84 : decode cX11_count 84 = .ok (.getfield 58, 3) := by decide +kernel
theorem dX11_count_87 : decode cX11_count 87 = .ok (.ireturn, 1) := by decide +kernel
theorem dX11_count_88 : decode cX11_count 88 = .ok (.bipush (-3), 2) := by decide +kernel
theorem dX11_count_90 : decode cX11_count 90 = .ok (.ireturn, 1) := by decide +kernel
theorem dJ11_isValidCodePoint_9a6ad_0 : decode cJ11_isValidCodePoint_9a6ad 0 = .ok (.iload_n 0, 1) := by decide +kernel
theorem dJ11_isValidCodePoint_9a6ad_1 : decode cJ11_isValidCodePoint_9a6ad 1 = .ok (.bipush 16, 2) := by decide +kernel
theorem dJ11_isValidCodePoint_9a6ad_3 : decode cJ11_isValidCodePoint_9a6ad 3 = .ok (.iushr, 1) := by decide +kernel
theorem dJ11_isValidCodePoint_9a6ad_4 : decode cJ11_isValidCodePoint_9a6ad 4 = .ok (.istore_n 1, 1) := by decide +kernel
theorem dJ11_isValidCodePoint_9a6ad_5 : decode cJ11_isValidCodePoint_9a6ad 5 = .ok (.iload_n 1, 1) := by decide +kernel
theorem dJ11_isValidCodePoint_9a6ad_6 : decode cJ11_isValidCodePoint_9a6ad 6 = .ok (.bipush 17, 2) := by decide +kernel
theorem dJ11_isValidCodePoint_9a6ad_8 : decode cJ11_isValidCodePoint_9a6ad 8 = .ok (.if_icmp .ge 7, 3) := by decide +kernel
theorem dJ11_isValidCodePoint_9a6ad_11 : decode cJ11_isValidCodePoint_9a6ad 11 = .ok (.iconst 1, 1) := by decide +kernel
theorem dJ11_isValidCodePoint_9a6ad_12 : decode cJ11_isValidCodePoint_9a6ad 12 = .ok (.goto 4, 3) := by decide +kernel
theorem dJ11_isValidCodePoint_9a6ad_15 : decode cJ11_isValidCodePoint_9a6ad 15 = .ok (.iconst 0, 1) := by decide +kernel
theorem dJ11_isValidCodePoint_9a6ad_16 : decode cJ11_isValidCodePoint_9a6ad 16 = .ok (.ireturn, 1) := by decide +kernel
theorem dJ11_highSurrogate_5068e_0 : decode cJ11_highSurrogate_5068e 0 = .ok (.iload_n 0, 1) := by decide +kernel
theorem dJ11_highSurrogate_5068e_1 : decode cJ11_highSurrogate_5068e 1 = .ok (.bipush 10, 2) := by decide +kernel
theorem dJ11_highSurrogate_5068e_3 : decode cJ11_highSurrogate_5068e 3 = .ok (.iushr, 1) := by decide +kernel
theorem dJ11_highSurrogate_5068e_4 : decode cJ11_highSurrogate_5068e 4 = .ok (.ldc 110, 2) := by decide +kernel
theorem dJ11_highSurrogate_5068e_6 : decode cJ11_highSurrogate_5068e 6 = .ok (.iadd, 1) := by decide +kernel
theorem dJ11_highSurrogate_5068e_7 : decode cJ11_highSurrogate_5068e 7 = .ok (.i2c, 1) := by decide +kernel
theorem dJ11_highSurrogate_5068e_8 : decode cJ11_highSurrogate_5068e 8 = .ok (.ireturn, 1) := by decide +kernel
theorem dJ11_lowSurrogate_5068e_0 : decode cJ11_lowSurrogate_5068e 0 = .ok (.iload_n 0, 1) := by decide +kernel
theorem dJ11_lowSurrogate_5068e_1 : decode cJ11_lowSurrogate_5068e 1 = .ok (.sipush 1023, 3) := by decide +kernel
theorem dJ11_lowSurrogate_5068e_4 : decode cJ11_lowSurrogate_5068e 4 = .ok (.iand, 1) := by decide +kernel
theorem dJ11_lowSurrogate_5068e_5 : decode cJ11_lowSurrogate_5068e 5 = .ok (.ldc 76, 2) := by decide +kernel
theorem dJ11_lowSurrogate_5068e_7 : decode cJ11_lowSurrogate_5068e 7 = .ok (.iadd, 1) := by decide +kernel
theorem dJ11_lowSurrogate_5068e_8 : decode cJ11_lowSurrogate_5068e 8 = .ok (.i2c, 1) := by decide +kernel
theorem dJ11_lowSurrogate_5068e_9 : decode cJ11_lowSurrogate_5068e 9 = .ok (.ireturn, 1) := by decide +kernel
theorem dJ6_bitCount_0f7a4_0 : decode cJ6_bitCount_0f7a4 0 = .ok (.iload_n 0, 1) := by decide +kernel
theorem dJ6_bitCount_0f7a4_1 : decode cJ6_bitCount_0f7a4 1 = .ok (.iload_n 0, 1) := by decide +kernel
theorem dJ6_bitCount_0f7a4_2 : decode cJ6_bitCount_0f7a4 2 = .ok (.iconst 1, 1) := by decide +kernel
theorem dJ6_bitCount_0f7a4_3 : decode cJ6_bitCount_0f7a4 3 = .ok (.iushr, 1) := by decide +kernel
theorem dJ6_bitCount_0f7a4_4 : decode cJ6_bitCount_0f7a4 4 = .ok (.ldc_w 265, 3) := by decide +kernel
theorem dJ6_bitCount_0f7a4_7 : decode cJ6_bitCount_0f7a4 7 = .ok (.iand, 1) := by decide +kernel
theorem dJ6_bitCount_0f7a4_8 : decode cJ6_bitCount_0f7a4 8 = .ok (.isub, 1) := by decide +kernel
theorem dJ6_bitCount_0f7a4_9 : decode cJ6_bitCount_0f7a4 9 = .ok (.istore_n 0, 1) := by decide +kernel
theorem dJ6_bitCount_0f7a4_10 : decode cJ6_bitCount_0f7a4 10 = .ok (.iload_n 0, 1) := by decide +kernel
theorem dJ6_bitCount_0f7a4_11 : decode cJ6_bitCount_0f7a4 11 = .ok (.ldc_w 266, 3) := by decide +kernel
theorem dJ6_bitCount_0f7a4_14 : decode cJ6_bitCount_0f7a4 14 = .ok (.iand, 1) := by decide +kernel
theorem dJ6_bitCount_0f7a4_15 : decode cJ6_bitCount_0f7a4 15 = .ok (.iload_n 0, 1) := by decide +kernel
theorem dJ6_bitCount_0f7a4_16 : decode cJ6_bitCount_0f7a4 16 = .ok (.iconst 2, 1) := by decide +kernel
theorem dJ6_bitCount_0f7a4_17 : decode cJ6_bitCount_0f7a4 17 = .ok (.iushr, 1) := by decide +kernel
theorem dJ6_bitCount_0f7a4_18 : decode cJ6_bitCount_0f7a4 18 = .ok (.ldc_w 266, 3) := by decide +kernel
theorem dJ6_bitCount_0f7a4_21 : decode cJ6_bitCount_0f7a4 21 = .ok (.iand, 1) := by decide +kernel
theorem dJ6_bitCount_0f7a4_22 : decode cJ6_bitCount_0f7a4 22 = .ok (.iadd, 1) := by decide +kernel
theorem dJ6_bitCount_0f7a4_23 : decode cJ6_bitCount_0f7a4 23 = .ok (.istore_n 0, 1) := by decide +kernel
theorem dJ6_bitCount_0f7a4_24 : decode cJ6_bitCount_0f7a4 24 = .ok (.iload_n 0, 1) := by decide +kernel
theorem dJ6_bitCount_0f7a4_25 : decode cJ6_bitCount_0f7a4 25 = .ok (.iload_n 0, 1) := by decide +kernel
theorem dJ6_bitCount_0f7a4_26 : decode cJ6_bitCount_0f7a4 26 = .ok (.iconst 4, 1) := by decide +kernel
theorem dJ6_bitCount_0f7a4_27 : decode cJ6_bitCount_0f7a4 27 = .ok (.iushr, 1) := by decide +kernel
theorem dJ6_bitCount_0f7a4_28 : decode cJ6_bitCount_0f7a4 28 = .ok (.iadd, 1) := by decide +kernel
theorem dJ6_bitCount_0f7a4_29 : decode cJ6_bitCount_0f7a4 29 = .ok (.ldc_w 267, 3) := by decide +kernel
theorem dJ6_bitCount_0f7a4_32 : decode cJ6_bitCount_0f7a4 32 = .ok (.iand, 1) := by decide +kernel
theorem dJ6_bitCount_0f7a4_33 : decode cJ6_bitCount_0f7a4 33 = .ok (.istore_n 0, 1) := by decide +kernel
theorem dJ6_bitCount_0f7a4_34 : decode cJ6_bitCount_0f7a4 34 = .ok (.iload_n 0, 1) := by decide +kernel
theorem dJ6_bitCount_0f7a4_35 : decode cJ6_bitCount_0f7a4 35 = .ok (.iload_n 0, 1) := by decide +kernel
theorem dJ6_bitCount_0f7a4_36 : decode cJ6_bitCount_0f7a4 36 = .ok (.bipush 8, 2) := by decide +kernel
theorem dJ6_bitCount_0f7a4_38 : decode cJ6_bitCount_0f7a4 38 = .ok (.iushr, 1) := by decide +kernel
theorem dJ6_bitCount_0f7a4_39 : decode cJ6_bitCount_0f7a4 39 = .ok (.iadd, 1) := by decide +kernel
theorem dJ6_bitCount_0f7a4_40 : decode cJ6_bitCount_0f7a4 40 = .ok (.istore_n 0, 1) := by decide +kernel
theorem dJ6_bitCount_0f7a4_41 : decode cJ6_bitCount_0f7a4 41 = .ok (.iload_n 0, 1) := by decide +kernel
theorem dJ6_bitCount_0f7a4_42 : decode cJ6_bitCount_0f7a4 42 = .ok (.iload_n 0, 1) := by decide +kernel
theorem dJ6_bitCount_0f7a4_43 : decode cJ6_bitCount_0f7a4 43 = .ok (.bipush 16, 2) := by decide +kernel
theorem dJ6_bitCount_0f7a4_45 : decode cJ6_bitCount_0f7a4 45 = .ok (.iushr, 1) := by decide +kernel
theorem dJ6_bitCount_0f7a4_46 : decode cJ6_bitCount_0f7a4 46 = .ok (.iadd, 1) := by decide +kernel
theorem dJ6_bitCount_0f7a4_47 : decode cJ6_bitCount_0f7a4 47 = .ok (.istore_n 0, 1) := by decide +kernel
theorem dJ6_bitCount_0f7a4_48 : decode cJ6_bitCount_0f7a4 48 = .ok (.iload_n 0, 1) := by decide +kernel
theorem dJ6_bitCount_0f7a4_49 : decode cJ6_bitCount_0f7a4 49 = .ok (.bipush 63, 2) := by decide +kernel
theorem dJ6_bitCount_0f7a4_51 : decode cJ6_bitCount_0f7a4 51 = .ok (.iand, 1) := by decide +kernel
theorem dJ6_bitCount_0f7a4_52 : decode cJ6_bitCount_0f7a4 52 = .ok (.ireturn, 1) := by decide +kernel
theorem dJ9_abs_0f7a4_0 : decode cJ9_abs_0f7a4 0 = .ok (.iload_n 0, 1) := by decide +kernel
theorem dJ9_abs_0f7a4_1 : decode cJ9_abs_0f7a4 1 = .ok (.ifCond .ge 8, 3) := by decide +kernel
theorem dJ9_abs_0f7a4_4 : decode cJ9_abs_0f7a4 4 = .ok (.iload_n 0, 1) := by decide +kernel
theorem dJ9_abs_0f7a4_5 : decode cJ9_abs_0f7a4 5 = .ok (.ineg, 1) := by decide +kernel
theorem dJ9_abs_0f7a4_6 : decode cJ9_abs_0f7a4 6 = .ok (.goto 4, 3) := by decide +kernel
theorem dJ9_abs_0f7a4_9 : decode cJ9_abs_0f7a4 9 = .ok (.iload_n 0, 1) := by decide +kernel
theorem dJ9_abs_0f7a4_10 : decode cJ9_abs_0f7a4 10 = .ok (.ireturn, 1) := by decide +kernel
theorem dJ9_max_7cf53_0 : decode cJ9_max_7cf53 0 = .ok (.iload_n 0, 1) := by decide +kernel
theorem dJ9_max_7cf53_1 : decode cJ9_max_7cf53 1 = .ok (.iload_n 1, 1) := by decide +kernel
theorem dJ9_max_7cf53_2 : decode cJ9_max_7cf53 2 = .ok (.if_icmp .lt 7, 3) := by decide +kernel
theorem dJ9_max_7cf53_5 : decode cJ9_max_7cf53 5 = .ok (.iload_n 0, 1) := by decide +kernel
theorem dJ9_max_7cf53_6 : decode cJ9_max_7cf53 6 = .ok (.goto 4, 3) := by decide +kernel
theorem dJ9_max_7cf53_9 : decode cJ9_max_7cf53 9 = .ok (.iload_n 1, 1) := by decide +kernel
theorem dJ9_max_7cf53_10 : decode cJ9_max_7cf53 10 = .ok (.ireturn, 1) := by decide +kernel
theorem dJ9_min_7cf53_0 : decode cJ9_min_7cf53 0 = .ok (.iload_n 0, 1) := by decide +kernel
theorem dJ9_min_7cf53_1 : decode cJ9_min_7cf53 1 = .ok (.iload_n 1, 1) := by decide +kernel
theorem dJ9_min_7cf53_2 : decode cJ9_min_7cf53 2 = .ok (.if_icmp .gt 7, 3) := by decide +kernel
theorem dJ9_min_7cf53_5 : decode cJ9_min_7cf53 5 = .ok (.iload_n 0, 1) := by decide +kernel
theorem dJ9_min_7cf53_6 : decode cJ9_min_7cf53 6 = .ok (.goto 4, 3) := by decide +kernel
theorem dJ9_min_7cf53_9 : decode cJ9_min_7cf53 9 = .ok (.iload_n 1, 1) := by decide +kernel
theorem dJ9_min_7cf53_10 : decode cJ9_min_7cf53 10 = .ok (.ireturn, 1) := by decide +kernel
theorem dJ0_length_8abf5_0 : decode cJ0_length_8abf5 0 = .ok (.aload_n 0, 1) := by decide +kernel
theorem dJ0_length_8abf5_1 : decode cJ0_length_8abf5 1 = .ok (.getfield 9, 3) := by decide +kernel
theorem dJ0_length_8abf5_4 : decode cJ0_length_8abf5 4 = .ok (.arraylength, 1) := by decide +kernel
theorem dJ0_length_8abf5_5 : decode cJ0_length_8abf5 5 = .ok (.aload_n 0, 1) := by decide +kernel
theorem dJ0_length_8abf5_6 : decode cJ0_length_8abf5 6 = .ok (.invokevirtual 335, 3) := by decide +kernel
theorem dJ0_length_8abf5_9 : decode cJ0_length_8abf5 9 = .ok (.ishr, 1) := by decide +kernel
theorem dJ0_length_8abf5_10 : decode cJ0_length_8abf5 10 = .ok (.ireturn, 1) := by decide +kernel
theorem dJ0_charAt_5068e_0 : decode cJ0_charAt_5068e 0 = .ok (.aload_n 0, 1) := by decide +kernel
theorem dJ0_charAt_5068e_1 : decode cJ0_charAt_5068e 1 = .ok (.invokevirtual 492, 3) := by decide +kernel
theorem dJ0_charAt_5068e_4 : decode cJ0_charAt_5068e 4 = .ok (.ifCond .eq 12, 3) := by decide +kernel
theorem dJ0_charAt_5068e_7 : decode cJ0_charAt_5068e 7 = .ok (.aload_n 0, 1) := by decide +kernel
theorem dJ0_charAt_5068e_8 : decode cJ0_charAt_5068e 8 = .ok (.getfield 9, 3) := by decide +kernel
theorem dJ0_charAt_5068e_11 : decode cJ0_charAt_5068e 11 = .ok (.iload_n 1, 1) := by decide +kernel
theorem dJ0_charAt_5068e_12 : decode cJ0_charAt_5068e 12 = .ok (.invokestatic 495, 3) := by decide +kernel
theorem dJ0_charAt_5068e_15 : decode cJ0_charAt_5068e 15 = .ok (.ireturn, 1) := by decide +kernel
theorem dJ0_charAt_5068e_16 : decode cJ0_charAt_5068e 16 = .ok (.aload_n 0, 1) := by decide +kernel
theorem dJ0_charAt_5068e_17 : decode cJ0_charAt_5068e 17 = .ok (.getfield 9, 3) := by decide +kernel
theorem dJ0_charAt_5068e_20 : decode cJ0_charAt_5068e 20 = .ok (.iload_n 1, 1) := by decide +kernel
theorem dJ0_charAt_5068e_21 : decode cJ0_charAt_5068e 21 = .ok (.invokestatic 498, 3) := by decide +kernel
theorem dJ0_charAt_5068e_24 : decode cJ0_charAt_5068e 24 = .ok (.ireturn, 1) := by decide +kernel
theorem dJ0_indexOf_0f7a4_0 : decode cJ0_indexOf_0f7a4 0 = .ok (.aload_n 0, 1) := by decide +kernel
theorem dJ0_indexOf_0f7a4_1 : decode cJ0_indexOf_0f7a4 1 = .ok (.iload_n 1, 1) := by decide +kernel
theorem dJ0_indexOf_0f7a4_2 : decode cJ0_indexOf_0f7a4 2 = .ok (.iconst 0, 1) := by decide +kernel
theorem dJ0_indexOf_0f7a4_3 : decode cJ0_indexOf_0f7a4 3 = .ok (.invokevirtual 633, 3) := by decide +kernel
theorem dJ0_indexOf_0f7a4_6 : decode cJ0_indexOf_0f7a4 6 = .ok (.ireturn, 1) := by decide +kernel
theorem dJ0_indexOf_7cf53_0 : decode cJ0_indexOf_7cf53 0 = .ok (.aload_n 0, 1) := by decide +kernel
theorem dJ0_indexOf_7cf53_1 : decode cJ0_indexOf_7cf53 1 = .ok (.invokevirtual 492, 3) := by decide +kernel
theorem dJ0_indexOf_7cf53_4 : decode cJ0_indexOf_7cf53 4 = .ok (.ifCond .eq 19, 3) := by decide +kernel
theorem dJ0_indexOf_7cf53_7 : decode cJ0_indexOf_7cf53 7 = .ok (.aload_n 0, 1) := by decide +kernel
theorem dJ0_indexOf_7cf53_8 : decode cJ0_indexOf_7cf53 8 = .ok (.getfield 9, 3) := by decide +kernel
theorem dJ0_indexOf_7cf53_11 : decode cJ0_indexOf_7cf53 11 = .ok (.iload_n 1, 1) := by decide +kernel
theorem dJ0_indexOf_7cf53_12 : decode cJ0_indexOf_7cf53 12 = .ok (.iload_n 2, 1) := by decide +kernel
theorem dJ0_indexOf_7cf53_13 : decode cJ0_indexOf_7cf53 13 = .ok (.aload_n 0, 1) := by decide +kernel
theorem dJ0_indexOf_7cf53_14 : decode cJ0_indexOf_7cf53 14 = .ok (.invokevirtual 505, 3) := by decide +kernel
theorem dJ0_indexOf_7cf53_17 : decode cJ0_indexOf_7cf53 17 = .ok (.invokestatic 637, 3) := by decide +kernel
theorem dJ0_indexOf_7cf53_20 : decode cJ0_indexOf_7cf53 20 = .ok (.goto 16, 3) := by decide +kernel
theorem dJ0_indexOf_7cf53_23 : decode cJ0_indexOf_7cf53 23 = .ok (.aload_n 0, 1) := by decide +kernel
theorem dJ0_indexOf_7cf53_24 : decode cJ0_indexOf_7cf53 24 = .ok (.getfield 9, 3) := by decide +kernel
theorem dJ0_indexOf_7cf53_27 : decode cJ0_indexOf_7cf53 27 = .ok (.iload_n 1, 1) := by decide +kernel
theorem dJ0_indexOf_7cf53_28 : decode cJ0_indexOf_7cf53 28 = .ok (.iload_n 2, 1) := by decide +kernel
theorem dJ0_indexOf_7cf53_29 : decode cJ0_indexOf_7cf53 29 = .ok (.aload_n 0, 1) := by decide +kernel
theorem dJ0_indexOf_7cf53_30 : decode cJ0_indexOf_7cf53 30 = .ok (.invokevirtual 505, 3) := by decide +kernel
theorem dJ0_indexOf_7cf53_33 : decode cJ0_indexOf_7cf53 33 = .ok (.invokestatic 640, 3) := by decide +kernel
theorem dJ0_indexOf_7cf53_36 : decode cJ0_indexOf_7cf53 36 = .ok (.ireturn, 1) := by decide +kernel
theorem dJ0_coder_7d493_0 : decode cJ0_coder_7d493 0 = .ok (.getstatic 38, 3) := by decide +kernel
theorem dJ0_coder_7d493_3 : decode cJ0_coder_7d493 3 = .ok (.ifCond .eq 10, 3) := by decide +kernel
theorem dJ0_coder_7d493_6 : decode cJ0_coder_7d493 6 = .ok (.aload_n 0, 1) := by decide +kernel
theorem dJ0_coder_7d493_7 : decode cJ0_coder_7d493 7 = .ok (.getfield 15, 3) := by decide +kernel
theorem dJ0_coder_7d493_10 : decode cJ0_coder_7d493 10 = .ok (.goto 4, 3) := by decide +kernel
theorem dJ0_coder_7d493_13 : decode cJ0_coder_7d493 13 = .ok (.iconst 1, 1) := by decide +kernel
theorem dJ0_coder_7d493_14 : decode cJ0_coder_7d493 14 = .ok (.ireturn, 1) := by decide +kernel
theorem dJ0_isLatin1_aae02_0 : decode cJ0_isLatin1_aae02 0 = .ok (.getstatic 38, 3) := by decide +kernel
theorem dJ0_isLatin1_aae02_3 : decode cJ0_isLatin1_aae02 3 = .ok (.ifCond .eq 14, 3) := by decide +kernel
theorem dJ0_isLatin1_aae02_6 : decode cJ0_isLatin1_aae02 6 = .ok (.aload_n 0, 1) := by decide +kernel
theorem dJ0_isLatin1_aae02_7 : decode cJ0_isLatin1_aae02 7 = .ok (.getfield 15, 3) := by decide +kernel
theorem dJ0_isLatin1_aae02_10 : decode cJ0_isLatin1_aae02 10 = .ok (.ifCond .ne 7, 3) := by decide +kernel
theorem dJ0_isLatin1_aae02_13 : decode cJ0_isLatin1_aae02 13 = .ok (.iconst 1, 1) := by decide +kernel
theorem dJ0_isLatin1_aae02_14 : decode cJ0_isLatin1_aae02 14 = .ok (.goto 4, 3) := by decide +kernel
theorem dJ0_isLatin1_aae02_17 : decode cJ0_isLatin1_aae02 17 = .ok (.iconst 0, 1) := by decide +kernel
theorem dJ0_isLatin1_aae02_18 : decode cJ0_isLatin1_aae02 18 = .ok (.ireturn, 1) := by decide +kernel
theorem dJ0_checkIndex_df160_0 : decode cJ0_checkIndex_df160 0 = .ok (.iload_n 0, 1) := by decide +kernel
theorem dJ0_checkIndex_df160_1 : decode cJ0_checkIndex_df160 1 = .ok (.iload_n 1, 1) := by decide +kernel
theorem dJ0_checkIndex_df160_2 : decode cJ0_checkIndex_df160 2 = .ok (.getstatic 1053, 3) := by decide +kernel
theorem dJ0_checkIndex_df160_5 : decode cJ0_checkIndex_df160 5 = .ok (.invokestatic 1059, 3) := by decide +kernel
theorem dJ0_checkIndex_df160_8 : decode cJ0_checkIndex_df160 8 = .ok (.pop, 1) := by decide +kernel
theorem dJ0_checkIndex_df160_9 : decode cJ0_checkIndex_df160 9 = .ok (.return_, 1) := by decide +kernel
theorem dJ0_checkBoundsBeginEnd_23922_0 : decode cJ0_checkBoundsBeginEnd_23922 0 = .ok (.iload_n 0, 1) := by decide +kernel
theorem dJ0_checkBoundsBeginEnd_23922_1 : decode cJ0_checkBoundsBeginEnd_23922 1 = .ok (.iload_n 1, 1) := by decide +kernel
theorem dJ0_checkBoundsBeginEnd_23922_2 : decode cJ0_checkBoundsBeginEnd_23922 2 = .ok (.iload_n 2, 1) := by decide +kernel
theorem dJ0_checkBoundsBeginEnd_23922_3 : decode cJ0_checkBoundsBeginEnd_23922 3 = .ok (.getstatic 1053, 3) := by decide +kernel
theorem dJ0_checkBoundsBeginEnd_23922_6 : decode cJ0_checkBoundsBeginEnd_23922 6 = .ok (.invokestatic 1062, 3) := by decide +kernel
theorem dJ0_checkBoundsBeginEnd_23922_9 : decode cJ0_checkBoundsBeginEnd_23922 9 = .ok (.pop, 1) := by decide +kernel
theorem dJ0_checkBoundsBeginEnd_23922_10 : decode cJ0_checkBoundsBeginEnd_23922 10 = .ok (.return_, 1) := by decide +kernel
theorem dJ1_charAt_3b067_0 : decode cJ1_charAt_3b067 0 = .ok (.iload_n 1, 1) := by decide +kernel
theorem dJ1_charAt_3b067_1 : decode cJ1_charAt_3b067 1 = .ok (.aload_n 0, 1) := by decide +kernel
theorem dJ1_charAt_3b067_2 : decode cJ1_charAt_3b067 2 = .ok (.arraylength, 1) := by decide +kernel
theorem dJ1_charAt_3b067_3 : decode cJ1_charAt_3b067 3 = .ok (.invokestatic 9, 3) := by decide +kernel
theorem dJ1_charAt_3b067_6 : decode cJ1_charAt_3b067 6 = .ok (.aload_n 0, 1) := by decide +kernel
theorem dJ1_charAt_3b067_7 : decode cJ1_charAt_3b067 7 = .ok (.iload_n 1, 1) := by decide +kernel
theorem dJ1_charAt_3b067_8 : decode cJ1_charAt_3b067 8 = .ok (.baload, 1) := by decide +kernel
theorem dJ1_charAt_3b067_9 : decode cJ1_charAt_3b067 9 = .ok (.sipush 255, 3) := by decide +kernel
theorem dJ1_charAt_3b067_12 : decode cJ1_charAt_3b067 12 = .ok (.iand, 1) := by decide +kernel
theorem dJ1_charAt_3b067_13 : decode cJ1_charAt_3b067 13 = .ok (.i2c, 1) := by decide +kernel
theorem dJ1_charAt_3b067_14 : decode cJ1_charAt_3b067 14 = .ok (.ireturn, 1) := by decide +kernel
theorem dJ1_canEncode_9a6ad_0 : decode cJ1_canEncode_9a6ad 0 = .ok (.iload_n 0, 1) := by decide +kernel
theorem dJ1_canEncode_9a6ad_1 : decode cJ1_canEncode_9a6ad 1 = .ok (.ifCond .lt 14, 3) := by decide +kernel
theorem dJ1_canEncode_9a6ad_4 : decode cJ1_canEncode_9a6ad 4 = .ok (.iload_n 0, 1) := by decide +kernel
theorem dJ1_canEncode_9a6ad_5 : decode cJ1_canEncode_9a6ad 5 = .ok (.sipush 255, 3) := by decide +kernel
theorem dJ1_canEncode_9a6ad_8 : decode cJ1_canEncode_9a6ad 8 = .ok (.if_icmp .gt 7, 3) := by decide +kernel
theorem dJ1_canEncode_9a6ad_11 : decode cJ1_canEncode_9a6ad 11 = .ok (.iconst 1, 1) := by decide +kernel
theorem dJ1_canEncode_9a6ad_12 : decode cJ1_canEncode_9a6ad 12 = .ok (.goto 4, 3) := by decide +kernel
theorem dJ1_canEncode_9a6ad_15 : decode cJ1_canEncode_9a6ad 15 = .ok (.iconst 0, 1) := by decide +kernel
theorem dJ1_canEncode_9a6ad_16 : decode cJ1_canEncode_9a6ad 16 = .ok (.ireturn, 1) := by decide +kernel
theorem dJ1_indexOf_4cfef_0 : decode cJ1_indexOf_4cfef 0 = .ok (.iload_n 1, 1) := by decide +kernel
theorem dJ1_indexOf_4cfef_1 : decode cJ1_indexOf_4cfef 1 = .ok (.invokestatic 88, 3) := by decide +kernel
theorem dJ1_indexOf_4cfef_4 : decode cJ1_indexOf_4cfef 4 = .ok (.ifCond .ne 5, 3) := by decide +kernel
theorem dJ1_indexOf_4cfef_7 : decode cJ1_indexOf_4cfef 7 = .ok (.iconst (-1), 1) := by decide +kernel
theorem dJ1_indexOf_4cfef_8 : decode cJ1_indexOf_4cfef 8 = .ok (.ireturn, 1) := by decide +kernel
theorem dJ1_indexOf_4cfef_9 : decode cJ1_indexOf_4cfef 9 = .ok (.iload_n 2, 1) := by decide +kernel
theorem dJ1_indexOf_4cfef_10 : decode cJ1_indexOf_4cfef 10 = .ok (.iconst 0, 1) := by decide +kernel
theorem dJ1_indexOf_4cfef_11 : decode cJ1_indexOf_4cfef 11 = .ok (.invokestatic 92, 3) := by decide +kernel
theorem dJ1_indexOf_4cfef_14 : decode cJ1_indexOf_4cfef 14 = .ok (.istore_n 2, 1) := by decide +kernel
theorem dJ1_indexOf_4cfef_15 : decode cJ1_indexOf_4cfef 15 = .ok (.iload_n 3, 1) := by decide +kernel
theorem dJ1_indexOf_4cfef_16 : decode cJ1_indexOf_4cfef 16 = .ok (.aload_n 0, 1) := by decide +kernel
theorem dJ1_indexOf_4cfef_17 : decode cJ1_indexOf_4cfef 17 = .ok (.arraylength, 1) := by decide +kernel
theorem dJ1_indexOf_4cfef_18 : decode cJ1_indexOf_4cfef 18 = .ok (.invokestatic 38, 3) := by decide +kernel
theorem dJ1_indexOf_4cfef_21 : decode cJ1_indexOf_4cfef 21 = .ok (.istore_n 3, 1) := by decide +kernel
theorem dJ1_indexOf_4cfef_22 : decode cJ1_indexOf_4cfef 22 = .ok (.iload_n 2, 1) := by decide +kernel
theorem dJ1_indexOf_4cfef_23 : decode cJ1_indexOf_4cfef 23 = .ok (.iload_n 3, 1) := by decide +kernel
theorem dJ1_indexOf_4cfef_24 : decode cJ1_indexOf_4cfef 24 = .ok (.if_icmp .lt 5, 3) := by decide +kernel
theorem dJ1_indexOf_4cfef_27 : decode cJ1_indexOf_4cfef 27 = .ok (.iconst (-1), 1) := by decide +kernel
theorem dJ1_indexOf_4cfef_28 : decode cJ1_indexOf_4cfef 28 = .ok (.ireturn, 1) := by decide +kernel
theorem dJ1_indexOf_4cfef_29 : decode cJ1_indexOf_4cfef 29 = .ok (.aload_n 0, 1) := by decide +kernel
theorem dJ1_indexOf_4cfef_30 : decode cJ1_indexOf_4cfef 30 = .ok (.iload_n 1, 1) := by decide +kernel
theorem dJ1_indexOf_4cfef_31 : decode cJ1_indexOf_4cfef 31 = .ok (.iload_n 2, 1) := by decide +kernel
theorem dJ1_indexOf_4cfef_32 : decode cJ1_indexOf_4cfef 32 = .ok (.iload_n 3, 1) := by decide +kernel
theorem dJ1_indexOf_4cfef_33 : decode cJ1_indexOf_4cfef 33 = .ok (.invokestatic 95, 3) := by decide +kernel
theorem dJ1_indexOf_4cfef_36 : decode cJ1_indexOf_4cfef 36 = .ok (.ireturn, 1) := by decide +kernel
theorem dJ1_indexOfChar_4cfef_0 : decode cJ1_indexOfChar_4cfef 0 = .ok (.iload_n 1, 1) := by decide +kernel
theorem dJ1_indexOfChar_4cfef_1 : decode cJ1_indexOfChar_4cfef 1 = .ok (.i2b, 1) := by decide +kernel
theorem dJ1_indexOfChar_4cfef_2 : decode cJ1_indexOfChar_4cfef 2 = .ok (.istore 4, 2) := by decide +kernel
theorem dJ1_indexOfChar_4cfef_4 : decode cJ1_indexOfChar_4cfef 4 = .ok (.iload_n 2, 1) := by decide +kernel
theorem dJ1_indexOfChar_4cfef_5 : decode cJ1_indexOfChar_4cfef 5 = .ok (.istore 5, 2) := by decide +kernel
theorem dJ1_indexOfChar_4cfef_7 : decode cJ1_indexOfChar_4cfef 7 = .ok (.iload 5, 2) := by decide +kernel
theorem dJ1_indexOfChar_4cfef_9 : decode cJ1_indexOfChar_4cfef 9 = .ok (.iload_n 3, 1) := by decide +kernel
theorem dJ1_indexOfChar_4cfef_10 : decode cJ1_indexOfChar_4cfef 10 = .ok (.if_icmp .ge 21, 3) := by decide +kernel
theorem dJ1_indexOfChar_4cfef_13 : decode cJ1_indexOfChar_4cfef 13 = .ok (.aload_n 0, 1) := by decide +kernel
theorem dJ1_indexOfChar_4cfef_14 : decode cJ1_indexOfChar_4cfef 14 = .ok (.iload 5, 2) := by decide +kernel
theorem dJ1_indexOfChar_4cfef_16 : decode cJ1_indexOfChar_4cfef 16 = .ok (.baload, 1) := by decide +kernel
theorem dJ1_indexOfChar_4cfef_17 : decode cJ1_indexOfChar_4cfef 17 = .ok (.iload 4, 2) := by decide +kernel
theorem dJ1_indexOfChar_4cfef_19 : decode cJ1_indexOfChar_4cfef 19 = .ok (.if_icmp .ne 6, 3) := by decide +kernel
theorem dJ1_indexOfChar_4cfef_22 : decode cJ1_indexOfChar_4cfef 22 = .ok (.iload 5, 2) := by decide +kernel
theorem dJ1_indexOfChar_4cfef_24 : decode cJ1_indexOfChar_4cfef 24 = .ok (.ireturn, 1) := by decide +kernel
theorem dJ1_indexOfChar_4cfef_25 : decode cJ1_indexOfChar_4cfef 25 = .ok (.iinc 5 1, 3) := by decide +kernel
theorem dJ1_indexOfChar_4cfef_28 : decode cJ1_indexOfChar_4cfef 28 = .ok (.goto (-21), 3) := by decide +kernel
theorem dJ1_indexOfChar_4cfef_31 : decode cJ1_indexOfChar_4cfef 31 = .ok (.iconst (-1), 1) := by decide +kernel
theorem dJ1_indexOfChar_4cfef_32 : decode cJ1_indexOfChar_4cfef 32 = .ok (.ireturn, 1) := by decide +kernel
theorem dJ2_getChar_3b067_0 : decode cJ2_getChar_3b067 0 = .ok (.getstatic 44, 3) := by decide +kernel
theorem dJ2_getChar_3b067_3 : decode cJ2_getChar_3b067 3 = .ok (.ifCond .ne 25, 3) := by decide +kernel
theorem dJ2_getChar_3b067_6 : decode cJ2_getChar_3b067 6 = .ok (.iload_n 1, 1) := by decide +kernel
theorem dJ2_getChar_3b067_7 : decode cJ2_getChar_3b067 7 = .ok (.ifCond .lt 11, 3) := by decide +kernel
theorem dJ2_getChar_3b067_10 : decode cJ2_getChar_3b067 10 = .ok (.iload_n 1, 1) := by decide +kernel
theorem dJ2_getChar_3b067_11 : decode cJ2_getChar_3b067 11 = .ok (.aload_n 0, 1) := by decide +kernel
theorem dJ2_getChar_3b067_12 : decode cJ2_getChar_3b067 12 = .ok (.invokestatic 48, 3) := by decide +kernel
theorem dJ2_getChar_3b067_15 : decode cJ2_getChar_3b067 15 = .ok (.if_icmp .lt 13, 3) := by decide +kernel
theorem dJ2_getChar_3b067_18 : decode cJ2_getChar_3b067 18 = .ok (.new 52, 3) := by decide +kernel
theorem dJ2_getChar_3b067_21 : decode cJ2_getChar_3b067 21 = .ok (.dup, 1) := by decide +kernel
theorem dJ2_getChar_3b067_22 : decode cJ2_getChar_3b067 22 = .ok (.ldc 54, 2) := by decide +kernel
theorem dJ2_getChar_3b067_24 : decode cJ2_getChar_3b067 24 = .ok (.invokespecial 56, 3) := by decide +kernel
theorem dJ2_getChar_3b067_27 : decode cJ2_getChar_3b067 27 = .ok (.athrow, 1) := by decide +kernel
theorem dJ2_getChar_3b067_28 : decode cJ2_getChar_3b067 28 = .ok (.iload_n 1, 1) := by decide +kernel
theorem dJ2_getChar_3b067_29 : decode cJ2_getChar_3b067 29 = .ok (.iconst 1, 1) := by decide +kernel
theorem dJ2_getChar_3b067_30 : decode cJ2_getChar_3b067 30 = .ok (.ishl, 1) := by decide +kernel
theorem dJ2_getChar_3b067_31 : decode cJ2_getChar_3b067 31 = .ok (.istore_n 1, 1) := by decide +kernel
theorem dJ2_getChar_3b067_32 : decode cJ2_getChar_3b067 32 = .ok (.aload_n 0, 1) := by decide +kernel
theorem dJ2_getChar_3b067_33 : decode cJ2_getChar_3b067 33 = .ok (.iload_n 1, 1) := by decide +kernel
theorem dJ2_getChar_3b067_34 : decode cJ2_getChar_3b067 34 = .ok (.iinc 1 1, 3) := by decide +kernel
theorem dJ2_getChar_3b067_37 : decode cJ2_getChar_3b067 37 = .ok (.baload, 1) := by decide +kernel
theorem dJ2_getChar_3b067_38 : decode cJ2_getChar_3b067 38 = .ok (.sipush 255, 3) := by decide +kernel
theorem dJ2_getChar_3b067_41 : decode cJ2_getChar_3b067 41 = .ok (.iand, 1) := by decide +kernel
theorem dJ2_getChar_3b067_42 : decode cJ2_getChar_3b067 42 = .ok (.getstatic 59, 3) := by decide +kernel
theorem dJ2_getChar_3b067_45 : decode cJ2_getChar_3b067 45 = .ok (.ishl, 1) := by decide +kernel
theorem dJ2_getChar_3b067_46 : decode cJ2_getChar_3b067 46 = .ok (.aload_n 0, 1) := by decide +kernel
theorem dJ2_getChar_3b067_47 : decode cJ2_getChar_3b067 47 = .ok (.iload_n 1, 1) := by decide +kernel
theorem dJ2_getChar_3b067_48 : decode cJ2_getChar_3b067 48 = .ok (.baload, 1) := by decide +kernel
theorem dJ2_getChar_3b067_49 : decode cJ2_getChar_3b067 49 = .ok (.sipush 255, 3) := by decide +kernel
theorem dJ2_getChar_3b067_52 : decode cJ2_getChar_3b067 52 = .ok (.iand, 1) := by decide +kernel
theorem dJ2_getChar_3b067_53 : decode cJ2_getChar_3b067 53 = .ok (.getstatic 63, 3) := by decide +kernel
theorem dJ2_getChar_3b067_56 : decode cJ2_getChar_3b067 56 = .ok (.ishl, 1) := by decide +kernel
theorem dJ2_getChar_3b067_57 : decode cJ2_getChar_3b067 57 = .ok (.ior, 1) := by decide +kernel
theorem dJ2_getChar_3b067_58 : decode cJ2_getChar_3b067 58 = .ok (.i2c, 1) := by decide +kernel
theorem dJ2_getChar_3b067_59 : decode cJ2_getChar_3b067 59 = .ok (.ireturn, 1) := by decide +kernel
theorem dJ2_length_9d52b_0 : decode cJ2_length_9d52b 0 = .ok (.aload_n 0, 1) := by decide +kernel
theorem dJ2_length_9d52b_1 : decode cJ2_length_9d52b 1 = .ok (.arraylength, 1) := by decide +kernel
theorem dJ2_length_9d52b_2 : decode cJ2_length_9d52b 2 = .ok (.iconst 1, 1) := by decide +kernel
theorem dJ2_length_9d52b_3 : decode cJ2_length_9d52b 3 = .ok (.ishr, 1) := by decide +kernel
theorem dJ2_length_9d52b_4 : decode cJ2_length_9d52b 4 = .ok (.ireturn, 1) := by decide +kernel
theorem dJ2_indexOf_4cfef_0 : decode cJ2_indexOf_4cfef 0 = .ok (.iload_n 2, 1) := by decide +kernel
theorem dJ2_indexOf_4cfef_1 : decode cJ2_indexOf_4cfef 1 = .ok (.iconst 0, 1) := by decide +kernel
theorem dJ2_indexOf_4cfef_2 : decode cJ2_indexOf_4cfef 2 = .ok (.invokestatic 224, 3) := by decide +kernel
theorem dJ2_indexOf_4cfef_5 : decode cJ2_indexOf_4cfef 5 = .ok (.istore_n 2, 1) := by decide +kernel
theorem dJ2_indexOf_4cfef_6 : decode cJ2_indexOf_4cfef 6 = .ok (.iload_n 3, 1) := by decide +kernel
theorem dJ2_indexOf_4cfef_7 : decode cJ2_indexOf_4cfef 7 = .ok (.aload_n 0, 1) := by decide +kernel
theorem dJ2_indexOf_4cfef_8 : decode cJ2_indexOf_4cfef 8 = .ok (.arraylength, 1) := by decide +kernel
theorem dJ2_indexOf_4cfef_9 : decode cJ2_indexOf_4cfef 9 = .ok (.iconst 1, 1) := by decide +kernel
theorem dJ2_indexOf_4cfef_10 : decode cJ2_indexOf_4cfef 10 = .ok (.ishr, 1) := by decide +kernel
theorem dJ2_indexOf_4cfef_11 : decode cJ2_indexOf_4cfef 11 = .ok (.invokestatic 183, 3) := by decide +kernel
theorem dJ2_indexOf_4cfef_14 : decode cJ2_indexOf_4cfef 14 = .ok (.istore_n 3, 1) := by decide +kernel
theorem dJ2_indexOf_4cfef_15 : decode cJ2_indexOf_4cfef 15 = .ok (.iload_n 2, 1) := by decide +kernel
theorem dJ2_indexOf_4cfef_16 : decode cJ2_indexOf_4cfef 16 = .ok (.iload_n 3, 1) := by decide +kernel
theorem dJ2_indexOf_4cfef_17 : decode cJ2_indexOf_4cfef 17 = .ok (.if_icmp .lt 5, 3) := by decide +kernel
theorem dJ2_indexOf_4cfef_20 : decode cJ2_indexOf_4cfef 20 = .ok (.iconst (-1), 1) := by decide +kernel
theorem dJ2_indexOf_4cfef_21 : decode cJ2_indexOf_4cfef 21 = .ok (.ireturn, 1) := by decide +kernel
theorem dJ2_indexOf_4cfef_22 : decode cJ2_indexOf_4cfef 22 = .ok (.iload_n 1, 1) := by decide +kernel
theorem dJ2_indexOf_4cfef_23 : decode cJ2_indexOf_4cfef 23 = .ok (.ldc 227, 2) := by decide +kernel
theorem dJ2_indexOf_4cfef_25 : decode cJ2_indexOf_4cfef 25 = .ok (.if_icmp .ge 11, 3) := by decide +kernel
theorem dJ2_indexOf_4cfef_28 : decode cJ2_indexOf_4cfef 28 = .ok (.aload_n 0, 1) := by decide +kernel
theorem dJ2_indexOf_4cfef_29 : decode cJ2_indexOf_4cfef 29 = .ok (.iload_n 1, 1) := by decide +kernel
theorem dJ2_indexOf_4cfef_30 : decode cJ2_indexOf_4cfef 30 = .ok (.iload_n 2, 1) := by decide +kernel
theorem dJ2_indexOf_4cfef_31 : decode cJ2_indexOf_4cfef 31 = .ok (.iload_n 3, 1) := by decide +kernel
theorem dJ2_indexOf_4cfef_32 : decode cJ2_indexOf_4cfef 32 = .ok (.invokestatic 228, 3) := by decide +kernel
theorem dJ2_indexOf_4cfef_35 : decode cJ2_indexOf_4cfef 35 = .ok (.ireturn, 1) := by decide +kernel
theorem dJ2_indexOf_4cfef_36 : decode cJ2_indexOf_4cfef 36 = .ok (.aload_n 0, 1) := by decide +kernel
theorem dJ2_indexOf_4cfef_37 : decode cJ2_indexOf_4cfef 37 = .ok (.iload_n 1, 1) := by decide +kernel
theorem dJ2_indexOf_4cfef_38 : decode cJ2_indexOf_4cfef 38 = .ok (.iload_n 2, 1) := by decide +kernel
theorem dJ2_indexOf_4cfef_39 : decode cJ2_indexOf_4cfef 39 = .ok (.iload_n 3, 1) := by decide +kernel
theorem dJ2_indexOf_4cfef_40 : decode cJ2_indexOf_4cfef 40 = .ok (.invokestatic 232, 3) := by decide +kernel
theorem dJ2_indexOf_4cfef_43 : decode cJ2_indexOf_4cfef 43 = .ok (.ireturn, 1) := by decide +kernel
theorem dJ2_indexOfChar_4cfef_0 : decode cJ2_indexOfChar_4cfef 0 = .ok (.iload_n 2, 1) := by decide +kernel
theorem dJ2_indexOfChar_4cfef_1 : decode cJ2_indexOfChar_4cfef 1 = .ok (.iload_n 3, 1) := by decide +kernel
theorem dJ2_indexOfChar_4cfef_2 : decode cJ2_indexOfChar_4cfef 2 = .ok (.aload_n 0, 1) := by decide +kernel
theorem dJ2_indexOfChar_4cfef_3 : decode cJ2_indexOfChar_4cfef 3 = .ok (.invokestatic 96, 3) := by decide +kernel
theorem dJ2_indexOfChar_4cfef_6 : decode cJ2_indexOfChar_4cfef 6 = .ok (.aload_n 0, 1) := by decide +kernel
theorem dJ2_indexOfChar_4cfef_7 : decode cJ2_indexOfChar_4cfef 7 = .ok (.iload_n 1, 1) := by decide +kernel
theorem dJ2_indexOfChar_4cfef_8 : decode cJ2_indexOfChar_4cfef 8 = .ok (.iload_n 2, 1) := by decide +kernel
theorem dJ2_indexOfChar_4cfef_9 : decode cJ2_indexOfChar_4cfef 9 = .ok (.iload_n 3, 1) := by decide +kernel
theorem dJ2_indexOfChar_4cfef_10 : decode cJ2_indexOfChar_4cfef 10 = .ok (.invokestatic 244, 3) := by decide +kernel
theorem dJ2_indexOfChar_4cfef_13 : decode cJ2_indexOfChar_4cfef 13 = .ok (.ireturn, 1) := by decide +kernel
theorem dJ2_indexOfCharUnsafe_4cfef_0 : decode cJ2_indexOfCharUnsafe_4cfef 0 = .ok (.iload_n 2, 1) := by decide +kernel
theorem dJ2_indexOfCharUnsafe_4cfef_1 : decode cJ2_indexOfCharUnsafe_4cfef 1 = .ok (.istore 4, 2) := by decide +kernel
theorem dJ2_indexOfCharUnsafe_4cfef_3 : decode cJ2_indexOfCharUnsafe_4cfef 3 = .ok (.iload 4, 2) := by decide +kernel
theorem dJ2_indexOfCharUnsafe_4cfef_5 : decode cJ2_indexOfCharUnsafe_4cfef 5 = .ok (.iload_n 3, 1) := by decide +kernel
theorem dJ2_indexOfCharUnsafe_4cfef_6 : decode cJ2_indexOfCharUnsafe_4cfef 6 = .ok (.if_icmp .ge 22, 3) := by decide +kernel
theorem dJ2_indexOfCharUnsafe_4cfef_9 : decode cJ2_indexOfCharUnsafe_4cfef 9 = .ok (.aload_n 0, 1) := by decide +kernel
theorem dJ2_indexOfCharUnsafe_4cfef_10 : decode cJ2_indexOfCharUnsafe_4cfef 10 = .ok (.iload 4, 2) := by decide +kernel
theorem dJ2_indexOfCharUnsafe_4cfef_12 : decode cJ2_indexOfCharUnsafe_4cfef 12 = .ok (.invokestatic 71, 3) := by decide +kernel
theorem dJ2_indexOfCharUnsafe_4cfef_15 : decode cJ2_indexOfCharUnsafe_4cfef 15 = .ok (.iload_n 1, 1) := by decide +kernel
theorem dJ2_indexOfCharUnsafe_4cfef_16 : decode cJ2_indexOfCharUnsafe_4cfef 16 = .ok (.if_icmp .ne 6, 3) := by decide +kernel
theorem dJ2_indexOfCharUnsafe_4cfef_19 : decode cJ2_indexOfCharUnsafe_4cfef 19 = .ok (.iload 4, 2) := by decide +kernel
theorem dJ2_indexOfCharUnsafe_4cfef_21 : decode cJ2_indexOfCharUnsafe_4cfef 21 = .ok (.ireturn, 1) := by decide +kernel
theorem dJ2_indexOfCharUnsafe_4cfef_22 : decode cJ2_indexOfCharUnsafe_4cfef 22 = .ok (.iinc 4 1, 3) := by decide +kernel
theorem dJ2_indexOfCharUnsafe_4cfef_25 : decode cJ2_indexOfCharUnsafe_4cfef 25 = .ok (.goto (-22), 3) := by decide +kernel
theorem dJ2_indexOfCharUnsafe_4cfef_28 : decode cJ2_indexOfCharUnsafe_4cfef 28 = .ok (.iconst (-1), 1) := by decide +kernel
theorem dJ2_indexOfCharUnsafe_4cfef_29 : decode cJ2_indexOfCharUnsafe_4cfef 29 = .ok (.ireturn, 1) := by decide +kernel
theorem dJ2_indexOfSupplementary_4cfef_0 : decode cJ2_indexOfSupplementary_4cfef 0 = .ok (.iload_n 1, 1) := by decide +kernel
theorem dJ2_indexOfSupplementary_4cfef_1 : decode cJ2_indexOfSupplementary_4cfef 1 = .ok (.invokestatic 164, 3) := by decide +kernel
theorem dJ2_indexOfSupplementary_4cfef_4 : decode cJ2_indexOfSupplementary_4cfef 4 = .ok (.ifCond .eq 65, 3) := by decide +kernel
theorem dJ2_indexOfSupplementary_4cfef_7 : decode cJ2_indexOfSupplementary_4cfef 7 = .ok (.iload_n 1, 1) := by decide +kernel
theorem dJ2_indexOfSupplementary_4cfef_8 : decode cJ2_indexOfSupplementary_4cfef 8 = .ok (.invokestatic 157, 3) := by decide +kernel
theorem dJ2_indexOfSupplementary_4cfef_11 : decode cJ2_indexOfSupplementary_4cfef 11 = .ok (.istore 4, 2) := by decide +kernel
theorem dJ2_indexOfSupplementary_4cfef_13 : decode cJ2_indexOfSupplementary_4cfef 13 = .ok (.iload_n 1, 1) := by decide +kernel
theorem dJ2_indexOfSupplementary_4cfef_14 : decode cJ2_indexOfSupplementary_4cfef 14 = .ok (.invokestatic 161, 3) := by decide +kernel
theorem dJ2_indexOfSupplementary_4cfef_17 : decode cJ2_indexOfSupplementary_4cfef 17 = .ok (.istore 5, 2) := by decide +kernel
theorem dJ2_indexOfSupplementary_4cfef_19 : decode cJ2_indexOfSupplementary_4cfef 19 = .ok (.iload_n 2, 1) := by decide +kernel
theorem dJ2_indexOfSupplementary_4cfef_20 : decode cJ2_indexOfSupplementary_4cfef 20 = .ok (.iload_n 3, 1) := by decide +kernel
theorem dJ2_indexOfSupplementary_4cfef_21 : decode cJ2_indexOfSupplementary_4cfef 21 = .ok (.aload_n 0, 1) := by decide +kernel
theorem dJ2_indexOfSupplementary_4cfef_22 : decode cJ2_indexOfSupplementary_4cfef 22 = .ok (.invokestatic 96, 3) := by decide +kernel
theorem dJ2_indexOfSupplementary_4cfef_25 : decode cJ2_indexOfSupplementary_4cfef 25 = .ok (.iload_n 2, 1) := by decide +kernel
theorem dJ2_indexOfSupplementary_4cfef_26 : decode cJ2_indexOfSupplementary_4cfef 26 = .ok (.istore 6, 2) := by decide +kernel
theorem dJ2_indexOfSupplementary_4cfef_28 : decode cJ2_indexOfSupplementary_4cfef 28 = .ok (.iload 6, 2) := by decide +kernel
theorem dJ2_indexOfSupplementary_4cfef_30 : decode cJ2_indexOfSupplementary_4cfef 30 = .ok (.iload_n 3, 1) := by decide +kernel
theorem dJ2_indexOfSupplementary_4cfef_31 : decode cJ2_indexOfSupplementary_4cfef 31 = .ok (.iconst 1, 1) := by decide +kernel
theorem dJ2_indexOfSupplementary_4cfef_32 : decode cJ2_indexOfSupplementary_4cfef 32 = .ok (.isub, 1) := by decide +kernel
theorem dJ2_indexOfSupplementary_4cfef_33 : decode cJ2_indexOfSupplementary_4cfef 33 = .ok (.if_icmp .ge 36, 3) := by decide +kernel
theorem dJ2_indexOfSupplementary_4cfef_36 : decode cJ2_indexOfSupplementary_4cfef 36 = .ok (.aload_n 0, 1) := by decide +kernel
theorem dJ2_indexOfSupplementary_4cfef_37 : decode cJ2_indexOfSupplementary_4cfef 37 = .ok (.iload 6, 2) := by decide +kernel
theorem dJ2_indexOfSupplementary_4cfef_39 : decode cJ2_indexOfSupplementary_4cfef 39 = .ok (.invokestatic 71, 3) := by decide +kernel
theorem dJ2_indexOfSupplementary_4cfef_42 : decode cJ2_indexOfSupplementary_4cfef 42 = .ok (.iload 4, 2) := by decide +kernel
theorem dJ2_indexOfSupplementary_4cfef_44 : decode cJ2_indexOfSupplementary_4cfef 44 = .ok (.if_icmp .ne 19, 3) := by decide +kernel
theorem dJ2_indexOfSupplementary_4cfef_47 : decode cJ2_indexOfSupplementary_4cfef 47 = .ok (.aload_n 0, 1) := by decide +kernel
theorem dJ2_indexOfSupplementary_4cfef_48 : decode cJ2_indexOfSupplementary_4cfef 48 = .ok (.iload 6, 2) := by decide +kernel
theorem dJ2_indexOfSupplementary_4cfef_50 : decode cJ2_indexOfSupplementary_4cfef 50 = .ok (.iconst 1, 1) := by decide +kernel
theorem dJ2_indexOfSupplementary_4cfef_51 : decode cJ2_indexOfSupplementary_4cfef 51 = .ok (.iadd, 1) := by decide +kernel
theorem dJ2_indexOfSupplementary_4cfef_52 : decode cJ2_indexOfSupplementary_4cfef 52 = .ok (.invokestatic 71, 3) := by decide +kernel
theorem dJ2_indexOfSupplementary_4cfef_55 : decode cJ2_indexOfSupplementary_4cfef 55 = .ok (.iload 5, 2) := by decide +kernel
theorem dJ2_indexOfSupplementary_4cfef_57 : decode cJ2_indexOfSupplementary_4cfef 57 = .ok (.if_icmp .ne 6, 3) := by decide +kernel
theorem dJ2_indexOfSupplementary_4cfef_60 : decode cJ2_indexOfSupplementary_4cfef 60 = .ok (.iload 6, 2) := by decide +kernel
theorem dJ2_indexOfSupplementary_4cfef_62 : decode cJ2_indexOfSupplementary_4cfef 62 = .ok (.ireturn, 1) := by decide +kernel
theorem dJ2_indexOfSupplementary_4cfef_63 : decode cJ2_indexOfSupplementary_4cfef 63 = .ok (.iinc 6 1, 3) := by decide +kernel
theorem dJ2_indexOfSupplementary_4cfef_66 : decode cJ2_indexOfSupplementary_4cfef 66 = .ok (.goto (-38), 3) := by decide +kernel
theorem dJ2_indexOfSupplementary_4cfef_69 : decode cJ2_indexOfSupplementary_4cfef 69 = .ok (.iconst (-1), 1) := by decide +kernel
theorem dJ2_indexOfSupplementary_4cfef_70 : decode cJ2_indexOfSupplementary_4cfef 70 = .ok (.ireturn, 1) := by decide +kernel
theorem dJ2_charAt_3b067_0 : decode cJ2_charAt_3b067 0 = .ok (.iload_n 1, 1) := by decide +kernel
theorem dJ2_charAt_3b067_1 : decode cJ2_charAt_3b067 1 = .ok (.aload_n 0, 1) := by decide +kernel
theorem dJ2_charAt_3b067_2 : decode cJ2_charAt_3b067 2 = .ok (.invokestatic 67, 3) := by decide +kernel
theorem dJ2_charAt_3b067_5 : decode cJ2_charAt_3b067 5 = .ok (.aload_n 0, 1) := by decide +kernel
theorem dJ2_charAt_3b067_6 : decode cJ2_charAt_3b067 6 = .ok (.iload_n 1, 1) := by decide +kernel
theorem dJ2_charAt_3b067_7 : decode cJ2_charAt_3b067 7 = .ok (.invokestatic 71, 3) := by decide +kernel
theorem dJ2_charAt_3b067_10 : decode cJ2_charAt_3b067 10 = .ok (.ireturn, 1) := by decide +kernel
theorem dJ2_checkIndex_2214a_0 : decode cJ2_checkIndex_2214a 0 = .ok (.iload_n 0, 1) := by decide +kernel
theorem dJ2_checkIndex_2214a_1 : decode cJ2_checkIndex_2214a 1 = .ok (.aload_n 1, 1) := by decide +kernel
theorem dJ2_checkIndex_2214a_2 : decode cJ2_checkIndex_2214a 2 = .ok (.invokestatic 48, 3) := by decide +kernel
theorem dJ2_checkIndex_2214a_5 : decode cJ2_checkIndex_2214a 5 = .ok (.invokestatic 414, 3) := by decide +kernel
theorem dJ2_checkIndex_2214a_8 : decode cJ2_checkIndex_2214a 8 = .ok (.return_, 1) := by decide +kernel
theorem dJ2_checkBoundsBeginEnd_d044e_0 : decode cJ2_checkBoundsBeginEnd_d044e 0 = .ok (.iload_n 0, 1) := by decide +kernel
theorem dJ2_checkBoundsBeginEnd_d044e_1 : decode cJ2_checkBoundsBeginEnd_d044e 1 = .ok (.iload_n 1, 1) := by decide +kernel
theorem dJ2_checkBoundsBeginEnd_d044e_2 : decode cJ2_checkBoundsBeginEnd_d044e 2 = .ok (.aload_n 2, 1) := by decide +kernel
theorem dJ2_checkBoundsBeginEnd_d044e_3 : decode cJ2_checkBoundsBeginEnd_d044e 3 = .ok (.invokestatic 48, 3) := by decide +kernel
theorem dJ2_checkBoundsBeginEnd_d044e_6 : decode cJ2_checkBoundsBeginEnd_d044e 6 = .ok (.invokestatic 241, 3) := by decide +kernel
theorem dJ2_checkBoundsBeginEnd_d044e_9 : decode cJ2_checkBoundsBeginEnd_d044e 9 = .ok (.return_, 1) := by decide +kernel
theorem dJ7_fill_53178_0 : decode cJ7_fill_53178 0 = .ok (.iconst 0, 1) := by decide +kernel
theorem dJ7_fill_53178_1 : decode cJ7_fill_53178 1 = .ok (.istore_n 2, 1) := by decide +kernel
theorem dJ7_fill_53178_2 : decode cJ7_fill_53178 2 = .ok (.aload_n 0, 1) := by decide +kernel
theorem dJ7_fill_53178_3 : decode cJ7_fill_53178 3 = .ok (.arraylength, 1) := by decide +kernel
theorem dJ7_fill_53178_4 : decode cJ7_fill_53178 4 = .ok (.istore_n 3, 1) := by decide +kernel
theorem dJ7_fill_53178_5 : decode cJ7_fill_53178 5 = .ok (.iload_n 2, 1) := by decide +kernel
theorem dJ7_fill_53178_6 : decode cJ7_fill_53178 6 = .ok (.iload_n 3, 1) := by decide +kernel
theorem dJ7_fill_53178_7 : decode cJ7_fill_53178 7 = .ok (.if_icmp .ge 13, 3) := by decide +kernel
theorem dJ7_fill_53178_10 : decode cJ7_fill_53178 10 = .ok (.aload_n 0, 1) := by decide +kernel
theorem dJ7_fill_53178_11 : decode cJ7_fill_53178 11 = .ok (.iload_n 2, 1) := by decide +kernel
theorem dJ7_fill_53178_12 : decode cJ7_fill_53178 12 = .ok (.iload_n 1, 1) := by decide +kernel
theorem dJ7_fill_53178_13 : decode cJ7_fill_53178 13 = .ok (.iastore, 1) := by decide +kernel
theorem dJ7_fill_53178_14 : decode cJ7_fill_53178 14 = .ok (.iinc 2 1, 3) := by decide +kernel
theorem dJ7_fill_53178_17 : decode cJ7_fill_53178 17 = .ok (.goto (-12), 3) := by decide +kernel
theorem dJ7_fill_53178_20 : decode cJ7_fill_53178 20 = .ok (.return_, 1) := by decide +kernel
theorem dJ3_checkIndex_8e157_0 : decode cJ3_checkIndex_8e157 0 = .ok (.iload_n 0, 1) := by decide +kernel
theorem dJ3_checkIndex_8e157_1 : decode cJ3_checkIndex_8e157 1 = .ok (.ifCond .lt 8, 3) := by decide +kernel
theorem dJ3_checkIndex_8e157_4 : decode cJ3_checkIndex_8e157 4 = .ok (.iload_n 0, 1) := by decide +kernel
theorem dJ3_checkIndex_8e157_5 : decode cJ3_checkIndex_8e157 5 = .ok (.iload_n 1, 1) := by decide +kernel
theorem dJ3_checkIndex_8e157_6 : decode cJ3_checkIndex_8e157 6 = .ok (.if_icmp .lt 10, 3) := by decide +kernel
theorem dJ3_checkIndex_8e157_9 : decode cJ3_checkIndex_8e157 9 = .ok (.aload_n 2, 1) := by decide +kernel
theorem dJ3_checkIndex_8e157_10 : decode cJ3_checkIndex_8e157 10 = .ok (.iload_n 0, 1) := by decide +kernel
theorem dJ3_checkIndex_8e157_11 : decode cJ3_checkIndex_8e157 11 = .ok (.iload_n 1, 1) := by decide +kernel
theorem dJ3_checkIndex_8e157_12 : decode cJ3_checkIndex_8e157 12 = .ok (.invokestatic 95, 3) := by decide +kernel
theorem dJ3_checkIndex_8e157_15 : decode cJ3_checkIndex_8e157 15 = .ok (.athrow, 1) := by decide +kernel
theorem dJ3_checkIndex_8e157_16 : decode cJ3_checkIndex_8e157 16 = .ok (.iload_n 0, 1) := by decide +kernel
theorem dJ3_checkIndex_8e157_17 : decode cJ3_checkIndex_8e157 17 = .ok (.ireturn, 1) := by decide +kernel
theorem dJ3_checkFromToIndex_8c36e_0 : decode cJ3_checkFromToIndex_8c36e 0 = .ok (.iload_n 0, 1) := by decide +kernel
theorem dJ3_checkFromToIndex_8c36e_1 : decode cJ3_checkFromToIndex_8c36e 1 = .ok (.ifCond .lt 13, 3) := by decide +kernel
theorem dJ3_checkFromToIndex_8c36e_4 : decode cJ3_checkFromToIndex_8c36e 4 = .ok (.iload_n 0, 1) := by decide +kernel
theorem dJ3_checkFromToIndex_8c36e_5 : decode cJ3_checkFromToIndex_8c36e 5 = .ok (.iload_n 1, 1) := by decide +kernel
theorem dJ3_checkFromToIndex_8c36e_6 : decode cJ3_checkFromToIndex_8c36e 6 = .ok (.if_icmp .gt 8, 3) := by decide +kernel
theorem dJ3_checkFromToIndex_8c36e_9 : decode cJ3_checkFromToIndex_8c36e 9 = .ok (.iload_n 1, 1) := by decide +kernel
theorem dJ3_checkFromToIndex_8c36e_10 : decode cJ3_checkFromToIndex_8c36e 10 = .ok (.iload_n 2, 1) := by decide +kernel
theorem dJ3_checkFromToIndex_8c36e_11 : decode cJ3_checkFromToIndex_8c36e 11 = .ok (.if_icmp .le 11, 3) := by decide +kernel
theorem dJ3_checkFromToIndex_8c36e_14 : decode cJ3_checkFromToIndex_8c36e 14 = .ok (.aload_n 3, 1) := by decide +kernel
theorem dJ3_checkFromToIndex_8c36e_15 : decode cJ3_checkFromToIndex_8c36e 15 = .ok (.iload_n 0, 1) := by decide +kernel
theorem dJ3_checkFromToIndex_8c36e_16 : decode cJ3_checkFromToIndex_8c36e 16 = .ok (.iload_n 1, 1) := by decide +kernel
theorem dJ3_checkFromToIndex_8c36e_17 : decode cJ3_checkFromToIndex_8c36e 17 = .ok (.iload_n 2, 1) := by decide +kernel
theorem dJ3_checkFromToIndex_8c36e_18 : decode cJ3_checkFromToIndex_8c36e 18 = .ok (.invokestatic 99, 3) := by decide +kernel
theorem dJ3_checkFromToIndex_8c36e_21 : decode cJ3_checkFromToIndex_8c36e 21 = .ok (.athrow, 1) := by decide +kernel
theorem dJ3_checkFromToIndex_8c36e_22 : decode cJ3_checkFromToIndex_8c36e 22 = .ok (.iload_n 0, 1) := by decide +kernel
theorem dJ3_checkFromToIndex_8c36e_23 : decode cJ3_checkFromToIndex_8c36e 23 = .ok (.ireturn, 1) := by decide +kernel
theorem dL_law_0 : decode cL_law 0 = .ok (.new 7, 3) := by decide +kernel
theorem dL_law_3 : decode cL_law 3 = .ok (.dup, 1) := by decide +kernel
theorem dL_law_4 : decode cL_law 4 = .ok (.invokespecial 9, 3) := by decide +kernel
theorem dL_law_7 : decode cL_law 7 = .ok (.astore_n 1, 1) := by decide +kernel
theorem dL_law_8 : decode cL_law 8 = .ok (.new 10, 3) := by decide +kernel
theorem dL_law_11 : decode cL_law 11 = .ok (.dup, 1) := by decide +kernel
theorem dL_law_12 : decode cL_law 12 = .ok (.invokespecial 12, 3) := by decide +kernel
theorem dL_law_15 : decode cL_law 15 = .ok (.astore_n 2, 1) := by decide +kernel
theorem dL_law_16 : decode cL_law 16 = .ok (.iconst 0, 1) := by decide +kernel
theorem dL_law_17 : decode cL_law 17 = .ok (.istore_n 3, 1) := by decide +kernel
theorem dL_law_18 : decode cL_law 18 = .ok (.iload_n 3, 1) := by decide +kernel
theorem dL_law_19 : decode cL_law 19 = .ok (.aload_n 0, 1) := by decide +kernel
theorem dL_law_20 : decode cL_law 20 = .ok (.arraylength, 1) := by decide +kernel
theorem dL_law_21 : decode cL_law 21 = .ok (.iconst 5, 1) := by decide +kernel
theorem dL_law_22 : decode cL_law 22 = .ok (.isub, 1) := by decide +kernel
theorem dL_law_23 : decode cL_law 23 = .ok (.if_icmp .gt 866, 3) := by decide +kernel
theorem dL_law_26 : decode cL_law 26 = .ok (.aload_n 0, 1) := by decide +kernel
theorem dL_law_27 : decode cL_law 27 = .ok (.iload_n 3, 1) := by decide +kernel
theorem dL_law_28 : decode cL_law 28 = .ok (.iaload, 1) := by decide +kernel
theorem dL_law_29 : decode cL_law 29 = .ok (.bipush 31, 2) := by decide +kernel
theorem dL_law_31 : decode cL_law 31 = .ok (.iand, 1) := by decide +kernel
theorem dL_law_32 : decode cL_law 32 = .ok (.tableswitch 851 0 24 #[116, 179, 192, 205, 218, 251, 284, 317, 350, 383, 406, 419, 442, 465, 498, 531, 574, 617, 640, 693, 736, 769, 802, 815, 828], 116) := by decide +kernel
theorem dL_law_148 : decode cL_law 148 = .ok (.aload_n 1, 1) := by decide +kernel
theorem dL_law_149 : decode cL_law 149 = .ok (.aload_n 0, 1) := by decide +kernel
theorem dL_law_150 : decode cL_law 150 = .ok (.iload_n 3, 1) := by decide +kernel
theorem dL_law_151 : decode cL_law 151 = .ok (.iconst 1, 1) := by decide +kernel
theorem dL_law_152 : decode cL_law 152 = .ok (.iadd, 1) := by decide +kernel
theorem dL_law_153 : decode cL_law 153 = .ok (.iaload, 1) := by decide +kernel
theorem dL_law_154 : decode cL_law 154 = .ok (.i2l, 1) := by decide +kernel
theorem dL_law_155 : decode cL_law 155 = .ok (.bipush 32, 2) := by decide +kernel
theorem dL_law_157 : decode cL_law 157 = .ok (.lshl, 1) := by decide +kernel
theorem dL_law_158 : decode cL_law 158 = .ok (.aload_n 0, 1) := by decide +kernel
theorem dL_law_159 : decode cL_law 159 = .ok (.iload_n 3, 1) := by decide +kernel
theorem dL_law_160 : decode cL_law 160 = .ok (.iconst 2, 1) := by decide +kernel
theorem dL_law_161 : decode cL_law 161 = .ok (.iadd, 1) := by decide +kernel
theorem dL_law_162 : decode cL_law 162 = .ok (.iaload, 1) := by decide +kernel
theorem dL_law_163 : decode cL_law 163 = .ok (.i2l, 1) := by decide +kernel
theorem dL_law_164 : decode cL_law 164 = .ok (.ldc2_w 13, 3) := by decide +kernel
theorem dL_law_167 : decode cL_law 167 = .ok (.land, 1) := by decide +kernel
theorem dL_law_168 : decode cL_law 168 = .ok (.lor, 1) := by decide +kernel
theorem dL_law_169 : decode cL_law 169 = .ok (.aload_n 0, 1) := by decide +kernel
theorem dL_law_170 : decode cL_law 170 = .ok (.iload_n 3, 1) := by decide +kernel
theorem dL_law_171 : decode cL_law 171 = .ok (.iconst 3, 1) := by decide +kernel
theorem dL_law_172 : decode cL_law 172 = .ok (.iadd, 1) := by decide +kernel
theorem dL_law_173 : decode cL_law 173 = .ok (.iaload, 1) := by decide +kernel
theorem dL_law_174 : decode cL_law 174 = .ok (.invokevirtual 15, 3) := by decide +kernel
theorem dL_law_177 : decode cL_law 177 = .ok (.aload_n 2, 1) := by decide +kernel
theorem dL_law_178 : decode cL_law 178 = .ok (.aload_n 0, 1) := by decide +kernel
theorem dL_law_179 : decode cL_law 179 = .ok (.iload_n 3, 1) := by decide +kernel
theorem dL_law_180 : decode cL_law 180 = .ok (.iconst 1, 1) := by decide +kernel
theorem dL_law_181 : decode cL_law 181 = .ok (.iadd, 1) := by decide +kernel
theorem dL_law_182 : decode cL_law 182 = .ok (.iaload, 1) := by decide +kernel
theorem dL_law_183 : decode cL_law 183 = .ok (.i2l, 1) := by decide +kernel
theorem dL_law_184 : decode cL_law 184 = .ok (.bipush 32, 2) := by decide +kernel
theorem dL_law_186 : decode cL_law 186 = .ok (.lshl, 1) := by decide +kernel
theorem dL_law_187 : decode cL_law 187 = .ok (.aload_n 0, 1) := by decide +kernel
theorem dL_law_188 : decode cL_law 188 = .ok (.iload_n 3, 1) := by decide +kernel
theorem dL_law_189 : decode cL_law 189 = .ok (.iconst 2, 1) := by decide +kernel
theorem dL_law_190 : decode cL_law 190 = .ok (.iadd, 1) := by decide +kernel
theorem dL_law_191 : decode cL_law 191 = .ok (.iaload, 1) := by decide +kernel
theorem dL_law_192 : decode cL_law 192 = .ok (.i2l, 1) := by decide +kernel
theorem dL_law_193 : decode cL_law 193 = .ok (.ldc2_w 13, 3) := by decide +kernel
theorem dL_law_196 : decode cL_law 196 = .ok (.land, 1) := by decide +kernel
theorem dL_law_197 : decode cL_law 197 = .ok (.lor, 1) := by decide +kernel
theorem dL_law_198 : decode cL_law 198 = .ok (.aload_n 0, 1) := by decide +kernel
theorem dL_law_199 : decode cL_law 199 = .ok (.iload_n 3, 1) := by decide +kernel
theorem dL_law_200 : decode cL_law 200 = .ok (.iconst 3, 1) := by decide +kernel
theorem dL_law_201 : decode cL_law 201 = .ok (.iadd, 1) := by decide +kernel
theorem dL_law_202 : decode cL_law 202 = .ok (.iaload, 1) := by decide +kernel
theorem dL_law_203 : decode cL_law 203 = .ok (.invokevirtual 19, 3) := by decide +kernel
theorem dL_law_206 : decode cL_law 206 = .ok (.if_icmp .eq 677, 3) := by decide +kernel
theorem dL_law_209 : decode cL_law 209 = .ok (.iconst 0, 1) := by decide +kernel
theorem dL_law_210 : decode cL_law 210 = .ok (.ireturn, 1) := by decide +kernel
theorem dL_law_211 : decode cL_law 211 = .ok (.aload_n 1, 1) := by decide +kernel
theorem dL_law_212 : decode cL_law 212 = .ok (.invokevirtual 20, 3) := by decide +kernel
theorem dL_law_215 : decode cL_law 215 = .ok (.aload_n 2, 1) := by decide +kernel
theorem dL_law_216 : decode cL_law 216 = .ok (.invokevirtual 24, 3) := by decide +kernel
theorem dL_law_219 : decode cL_law 219 = .ok (.if_icmp .eq 664, 3) := by decide +kernel
theorem dL_law_222 : decode cL_law 222 = .ok (.iconst 0, 1) := by decide +kernel
theorem dL_law_223 : decode cL_law 223 = .ok (.ireturn, 1) := by decide +kernel
theorem dL_law_224 : decode cL_law 224 = .ok (.aload_n 1, 1) := by decide +kernel
theorem dL_law_225 : decode cL_law 225 = .ok (.invokevirtual 25, 3) := by decide +kernel
theorem dL_law_228 : decode cL_law 228 = .ok (.aload_n 2, 1) := by decide +kernel
theorem dL_law_229 : decode cL_law 229 = .ok (.invokevirtual 28, 3) := by decide +kernel
theorem dL_law_232 : decode cL_law 232 = .ok (.if_icmp .eq 651, 3) := by decide +kernel
theorem dL_law_235 : decode cL_law 235 = .ok (.iconst 0, 1) := by decide +kernel
theorem dL_law_236 : decode cL_law 236 = .ok (.ireturn, 1) := by decide +kernel
theorem dL_law_237 : decode cL_law 237 = .ok (.aload_n 1, 1) := by decide +kernel
theorem dL_law_238 : decode cL_law 238 = .ok (.invokevirtual 29, 3) := by decide +kernel
theorem dL_law_241 : decode cL_law 241 = .ok (.aload_n 2, 1) := by decide +kernel
theorem dL_law_242 : decode cL_law 242 = .ok (.invokevirtual 32, 3) := by decide +kernel
theorem dL_law_245 : decode cL_law 245 = .ok (.if_icmp .eq 638, 3) := by decide +kernel
theorem dL_law_248 : decode cL_law 248 = .ok (.iconst 0, 1) := by decide +kernel
theorem dL_law_249 : decode cL_law 249 = .ok (.ireturn, 1) := by decide +kernel
theorem dL_law_250 : decode cL_law 250 = .ok (.aload_n 1, 1) := by decide +kernel
theorem dL_law_251 : decode cL_law 251 = .ok (.aload_n 0, 1) := by decide +kernel
theorem dL_law_252 : decode cL_law 252 = .ok (.iload_n 3, 1) := by decide +kernel
theorem dL_law_253 : decode cL_law 253 = .ok (.iconst 1, 1) := by decide +kernel
theorem dL_law_254 : decode cL_law 254 = .ok (.iadd, 1) := by decide +kernel
theorem dL_law_255 : decode cL_law 255 = .ok (.iaload, 1) := by decide +kernel
theorem dL_law_256 : decode cL_law 256 = .ok (.aload_n 0, 1) := by decide +kernel
theorem dL_law_257 : decode cL_law 257 = .ok (.iload_n 3, 1) := by decide +kernel
theorem dL_law_258 : decode cL_law 258 = .ok (.iconst 2, 1) := by decide +kernel
theorem dL_law_259 : decode cL_law 259 = .ok (.iadd, 1) := by decide +kernel
theorem dL_law_260 : decode cL_law 260 = .ok (.iaload, 1) := by decide +kernel
theorem dL_law_261 : decode cL_law 261 = .ok (.invokevirtual 33, 3) := by decide +kernel
theorem dL_law_264 : decode cL_law 264 = .ok (.aload_n 2, 1) := by decide +kernel
theorem dL_law_265 : decode cL_law 265 = .ok (.aload_n 0, 1) := by decide +kernel
theorem dL_law_266 : decode cL_law 266 = .ok (.iload_n 3, 1) := by decide +kernel
theorem dL_law_267 : decode cL_law 267 = .ok (.iconst 1, 1) := by decide +kernel
theorem dL_law_268 : decode cL_law 268 = .ok (.iadd, 1) := by decide +kernel
theorem dL_law_269 : decode cL_law 269 = .ok (.iaload, 1) := by decide +kernel
theorem dL_law_270 : decode cL_law 270 = .ok (.aload_n 0, 1) := by decide +kernel
theorem dL_law_271 : decode cL_law 271 = .ok (.iload_n 3, 1) := by decide +kernel
theorem dL_law_272 : decode cL_law 272 = .ok (.iconst 2, 1) := by decide +kernel
theorem dL_law_273 : decode cL_law 273 = .ok (.iadd, 1) := by decide +kernel
theorem dL_law_274 : decode cL_law 274 = .ok (.iaload, 1) := by decide +kernel
theorem dL_law_275 : decode cL_law 275 = .ok (.invokevirtual 37, 3) := by decide +kernel
theorem dL_law_278 : decode cL_law 278 = .ok (.if_icmp .eq 605, 3) := by decide +kernel
theorem dL_law_281 : decode cL_law 281 = .ok (.iconst 0, 1) := by decide +kernel
theorem dL_law_282 : decode cL_law 282 = .ok (.ireturn, 1) := by decide +kernel
theorem dL_law_283 : decode cL_law 283 = .ok (.aload_n 1, 1) := by decide +kernel
theorem dL_law_284 : decode cL_law 284 = .ok (.aload_n 0, 1) := by decide +kernel
theorem dL_law_285 : decode cL_law 285 = .ok (.iload_n 3, 1) := by decide +kernel
theorem dL_law_286 : decode cL_law 286 = .ok (.iconst 1, 1) := by decide +kernel
theorem dL_law_287 : decode cL_law 287 = .ok (.iadd, 1) := by decide +kernel
theorem dL_law_288 : decode cL_law 288 = .ok (.iaload, 1) := by decide +kernel
theorem dL_law_289 : decode cL_law 289 = .ok (.aload_n 0, 1) := by decide +kernel
theorem dL_law_290 : decode cL_law 290 = .ok (.iload_n 3, 1) := by decide +kernel
theorem dL_law_291 : decode cL_law 291 = .ok (.iconst 2, 1) := by decide +kernel
theorem dL_law_292 : decode cL_law 292 = .ok (.iadd, 1) := by decide +kernel
theorem dL_law_293 : decode cL_law 293 = .ok (.iaload, 1) := by decide +kernel
theorem dL_law_294 : decode cL_law 294 = .ok (.invokevirtual 38, 3) := by decide +kernel
theorem dL_law_297 : decode cL_law 297 = .ok (.aload_n 2, 1) := by decide +kernel
theorem dL_law_298 : decode cL_law 298 = .ok (.aload_n 0, 1) := by decide +kernel
theorem dL_law_299 : decode cL_law 299 = .ok (.iload_n 3, 1) := by decide +kernel
theorem dL_law_300 : decode cL_law 300 = .ok (.iconst 1, 1) := by decide +kernel
theorem dL_law_301 : decode cL_law 301 = .ok (.iadd, 1) := by decide +kernel
theorem dL_law_302 : decode cL_law 302 = .ok (.iaload, 1) := by decide +kernel
theorem dL_law_303 : decode cL_law 303 = .ok (.aload_n 0, 1) := by decide +kernel
theorem dL_law_304 : decode cL_law 304 = .ok (.iload_n 3, 1) := by decide +kernel
theorem dL_law_305 : decode cL_law 305 = .ok (.iconst 2, 1) := by decide +kernel
theorem dL_law_306 : decode cL_law 306 = .ok (.iadd, 1) := by decide +kernel
theorem dL_law_307 : decode cL_law 307 = .ok (.iaload, 1) := by decide +kernel
theorem dL_law_308 : decode cL_law 308 = .ok (.invokevirtual 41, 3) := by decide +kernel
theorem dL_law_311 : decode cL_law 311 = .ok (.if_icmp .eq 572, 3) := by decide +kernel
theorem dL_law_314 : decode cL_law 314 = .ok (.iconst 0, 1) := by decide +kernel
theorem dL_law_315 : decode cL_law 315 = .ok (.ireturn, 1) := by decide +kernel
theorem dL_law_316 : decode cL_law 316 = .ok (.aload_n 1, 1) := by decide +kernel
theorem dL_law_317 : decode cL_law 317 = .ok (.aload_n 0, 1) := by decide +kernel
theorem dL_law_318 : decode cL_law 318 = .ok (.iload_n 3, 1) := by decide +kernel
theorem dL_law_319 : decode cL_law 319 = .ok (.iconst 1, 1) := by decide +kernel
theorem dL_law_320 : decode cL_law 320 = .ok (.iadd, 1) := by decide +kernel
theorem dL_law_321 : decode cL_law 321 = .ok (.iaload, 1) := by decide +kernel
theorem dL_law_322 : decode cL_law 322 = .ok (.aload_n 0, 1) := by decide +kernel
theorem dL_law_323 : decode cL_law 323 = .ok (.iload_n 3, 1) := by decide +kernel
theorem dL_law_324 : decode cL_law 324 = .ok (.iconst 2, 1) := by decide +kernel
theorem dL_law_325 : decode cL_law 325 = .ok (.iadd, 1) := by decide +kernel
theorem dL_law_326 : decode cL_law 326 = .ok (.iaload, 1) := by decide +kernel
theorem dL_law_327 : decode cL_law 327 = .ok (.invokevirtual 42, 3) := by decide +kernel
theorem dL_law_330 : decode cL_law 330 = .ok (.aload_n 2, 1) := by decide +kernel
theorem dL_law_331 : decode cL_law 331 = .ok (.aload_n 0, 1) := by decide +kernel
theorem dL_law_332 : decode cL_law 332 = .ok (.iload_n 3, 1) := by decide +kernel
theorem dL_law_333 : decode cL_law 333 = .ok (.iconst 1, 1) := by decide +kernel
theorem dL_law_334 : decode cL_law 334 = .ok (.iadd, 1) := by decide +kernel
theorem dL_law_335 : decode cL_law 335 = .ok (.iaload, 1) := by decide +kernel
theorem dL_law_336 : decode cL_law 336 = .ok (.aload_n 0, 1) := by decide +kernel
theorem dL_law_337 : decode cL_law 337 = .ok (.iload_n 3, 1) := by decide +kernel
theorem dL_law_338 : decode cL_law 338 = .ok (.iconst 2, 1) := by decide +kernel
theorem dL_law_339 : decode cL_law 339 = .ok (.iadd, 1) := by decide +kernel
theorem dL_law_340 : decode cL_law 340 = .ok (.iaload, 1) := by decide +kernel
theorem dL_law_341 : decode cL_law 341 = .ok (.invokevirtual 45, 3) := by decide +kernel
theorem dL_law_344 : decode cL_law 344 = .ok (.if_icmp .eq 539, 3) := by decide +kernel
theorem dL_law_347 : decode cL_law 347 = .ok (.iconst 0, 1) := by decide +kernel
theorem dL_law_348 : decode cL_law 348 = .ok (.ireturn, 1) := by decide +kernel
theorem dL_law_349 : decode cL_law 349 = .ok (.aload_n 1, 1) := by decide +kernel
theorem dL_law_350 : decode cL_law 350 = .ok (.aload_n 0, 1) := by decide +kernel
theorem dL_law_351 : decode cL_law 351 = .ok (.iload_n 3, 1) := by decide +kernel
theorem dL_law_352 : decode cL_law 352 = .ok (.iconst 1, 1) := by decide +kernel
theorem dL_law_353 : decode cL_law 353 = .ok (.iadd, 1) := by decide +kernel
theorem dL_law_354 : decode cL_law 354 = .ok (.iaload, 1) := by decide +kernel
theorem dL_law_355 : decode cL_law 355 = .ok (.aload_n 0, 1) := by decide +kernel
theorem dL_law_356 : decode cL_law 356 = .ok (.iload_n 3, 1) := by decide +kernel
theorem dL_law_357 : decode cL_law 357 = .ok (.iconst 2, 1) := by decide +kernel
theorem dL_law_358 : decode cL_law 358 = .ok (.iadd, 1) := by decide +kernel
theorem dL_law_359 : decode cL_law 359 = .ok (.iaload, 1) := by decide +kernel
theorem dL_law_360 : decode cL_law 360 = .ok (.invokevirtual 46, 3) := by decide +kernel
theorem dL_law_363 : decode cL_law 363 = .ok (.aload_n 2, 1) := by decide +kernel
theorem dL_law_364 : decode cL_law 364 = .ok (.aload_n 0, 1) := by decide +kernel
theorem dL_law_365 : decode cL_law 365 = .ok (.iload_n 3, 1) := by decide +kernel
theorem dL_law_366 : decode cL_law 366 = .ok (.iconst 1, 1) := by decide +kernel
theorem dL_law_367 : decode cL_law 367 = .ok (.iadd, 1) := by decide +kernel
theorem dL_law_368 : decode cL_law 368 = .ok (.iaload, 1) := by decide +kernel
theorem dL_law_369 : decode cL_law 369 = .ok (.aload_n 0, 1) := by decide +kernel
theorem dL_law_370 : decode cL_law 370 = .ok (.iload_n 3, 1) := by decide +kernel
theorem dL_law_371 : decode cL_law 371 = .ok (.iconst 2, 1) := by decide +kernel
theorem dL_law_372 : decode cL_law 372 = .ok (.iadd, 1) := by decide +kernel
theorem dL_law_373 : decode cL_law 373 = .ok (.iaload, 1) := by decide +kernel
theorem dL_law_374 : decode cL_law 374 = .ok (.invokevirtual 49, 3) := by decide +kernel
theorem dL_law_377 : decode cL_law 377 = .ok (.if_icmp .eq 506, 3) := by decide +kernel
theorem dL_law_380 : decode cL_law 380 = .ok (.iconst 0, 1) := by decide +kernel
theorem dL_law_381 : decode cL_law 381 = .ok (.ireturn, 1) := by decide +kernel
theorem dL_law_382 : decode cL_law 382 = .ok (.aload_n 1, 1) := by decide +kernel
theorem dL_law_383 : decode cL_law 383 = .ok (.aload_n 0, 1) := by decide +kernel
theorem dL_law_384 : decode cL_law 384 = .ok (.iload_n 3, 1) := by decide +kernel
theorem dL_law_385 : decode cL_law 385 = .ok (.iconst 1, 1) := by decide +kernel
theorem dL_law_386 : decode cL_law 386 = .ok (.iadd, 1) := by decide +kernel
theorem dL_law_387 : decode cL_law 387 = .ok (.iaload, 1) := by decide +kernel
theorem dL_law_388 : decode cL_law 388 = .ok (.aload_n 0, 1) := by decide +kernel
theorem dL_law_389 : decode cL_law 389 = .ok (.iload_n 3, 1) := by decide +kernel
theorem dL_law_390 : decode cL_law 390 = .ok (.iconst 2, 1) := by decide +kernel
theorem dL_law_391 : decode cL_law 391 = .ok (.iadd, 1) := by decide +kernel
theorem dL_law_392 : decode cL_law 392 = .ok (.iaload, 1) := by decide +kernel
theorem dL_law_393 : decode cL_law 393 = .ok (.invokevirtual 50, 3) := by decide +kernel
theorem dL_law_396 : decode cL_law 396 = .ok (.aload_n 2, 1) := by decide +kernel
theorem dL_law_397 : decode cL_law 397 = .ok (.aload_n 0, 1) := by decide +kernel
theorem dL_law_398 : decode cL_law 398 = .ok (.iload_n 3, 1) := by decide +kernel
theorem dL_law_399 : decode cL_law 399 = .ok (.iconst 1, 1) := by decide +kernel
theorem dL_law_400 : decode cL_law 400 = .ok (.iadd, 1) := by decide +kernel
theorem dL_law_401 : decode cL_law 401 = .ok (.iaload, 1) := by decide +kernel
theorem dL_law_402 : decode cL_law 402 = .ok (.aload_n 0, 1) := by decide +kernel
theorem dL_law_403 : decode cL_law 403 = .ok (.iload_n 3, 1) := by decide +kernel
theorem dL_law_404 : decode cL_law 404 = .ok (.iconst 2, 1) := by decide +kernel
theorem dL_law_405 : decode cL_law 405 = .ok (.iadd, 1) := by decide +kernel
theorem dL_law_406 : decode cL_law 406 = .ok (.iaload, 1) := by decide +kernel
theorem dL_law_407 : decode cL_law 407 = .ok (.invokevirtual 53, 3) := by decide +kernel
theorem dL_law_410 : decode cL_law 410 = .ok (.if_icmp .eq 473, 3) := by decide +kernel
theorem dL_law_413 : decode cL_law 413 = .ok (.iconst 0, 1) := by decide +kernel
theorem dL_law_414 : decode cL_law 414 = .ok (.ireturn, 1) := by decide +kernel
theorem dL_law_415 : decode cL_law 415 = .ok (.aload_n 1, 1) := by decide +kernel
theorem dL_law_416 : decode cL_law 416 = .ok (.aload_n 0, 1) := by decide +kernel
theorem dL_law_417 : decode cL_law 417 = .ok (.iload_n 3, 1) := by decide +kernel
theorem dL_law_418 : decode cL_law 418 = .ok (.iconst 1, 1) := by decide +kernel
theorem dL_law_419 : decode cL_law 419 = .ok (.iadd, 1) := by decide +kernel
theorem dL_law_420 : decode cL_law 420 = .ok (.iaload, 1) := by decide +kernel
theorem dL_law_421 : decode cL_law 421 = .ok (.invokevirtual 54, 3) := by decide +kernel
theorem dL_law_424 : decode cL_law 424 = .ok (.aload_n 2, 1) := by decide +kernel
theorem dL_law_425 : decode cL_law 425 = .ok (.aload_n 0, 1) := by decide +kernel
theorem dL_law_426 : decode cL_law 426 = .ok (.iload_n 3, 1) := by decide +kernel
theorem dL_law_427 : decode cL_law 427 = .ok (.iconst 1, 1) := by decide +kernel
theorem dL_law_428 : decode cL_law 428 = .ok (.iadd, 1) := by decide +kernel
theorem dL_law_429 : decode cL_law 429 = .ok (.iaload, 1) := by decide +kernel
theorem dL_law_430 : decode cL_law 430 = .ok (.invokevirtual 58, 3) := by decide +kernel
theorem dL_law_433 : decode cL_law 433 = .ok (.if_icmp .eq 450, 3) := by decide +kernel
theorem dL_law_436 : decode cL_law 436 = .ok (.iconst 0, 1) := by decide +kernel
theorem dL_law_437 : decode cL_law 437 = .ok (.ireturn, 1) := by decide +kernel
theorem dL_law_438 : decode cL_law 438 = .ok (.aload_n 1, 1) := by decide +kernel
theorem dL_law_439 : decode cL_law 439 = .ok (.invokevirtual 59, 3) := by decide +kernel
theorem dL_law_442 : decode cL_law 442 = .ok (.aload_n 2, 1) := by decide +kernel
theorem dL_law_443 : decode cL_law 443 = .ok (.invokevirtual 62, 3) := by decide +kernel
theorem dL_law_446 : decode cL_law 446 = .ok (.if_icmp .eq 437, 3) := by decide +kernel
theorem dL_law_449 : decode cL_law 449 = .ok (.iconst 0, 1) := by decide +kernel
theorem dL_law_450 : decode cL_law 450 = .ok (.ireturn, 1) := by decide +kernel
theorem dL_law_451 : decode cL_law 451 = .ok (.aload_n 1, 1) := by decide +kernel
theorem dL_law_452 : decode cL_law 452 = .ok (.aload_n 0, 1) := by decide +kernel
theorem dL_law_453 : decode cL_law 453 = .ok (.iload_n 3, 1) := by decide +kernel
theorem dL_law_454 : decode cL_law 454 = .ok (.iconst 1, 1) := by decide +kernel
theorem dL_law_455 : decode cL_law 455 = .ok (.iadd, 1) := by decide +kernel
theorem dL_law_456 : decode cL_law 456 = .ok (.iaload, 1) := by decide +kernel
theorem dL_law_457 : decode cL_law 457 = .ok (.invokevirtual 63, 3) := by decide +kernel
theorem dL_law_460 : decode cL_law 460 = .ok (.aload_n 2, 1) := by decide +kernel
theorem dL_law_461 : decode cL_law 461 = .ok (.aload_n 0, 1) := by decide +kernel
theorem dL_law_462 : decode cL_law 462 = .ok (.iload_n 3, 1) := by decide +kernel
theorem dL_law_463 : decode cL_law 463 = .ok (.iconst 1, 1) := by decide +kernel
theorem dL_law_464 : decode cL_law 464 = .ok (.iadd, 1) := by decide +kernel
theorem dL_law_465 : decode cL_law 465 = .ok (.iaload, 1) := by decide +kernel
theorem dL_law_466 : decode cL_law 466 = .ok (.invokevirtual 66, 3) := by decide +kernel
theorem dL_law_469 : decode cL_law 469 = .ok (.if_icmp .eq 414, 3) := by decide +kernel
theorem dL_law_472 : decode cL_law 472 = .ok (.iconst 0, 1) := by decide +kernel
theorem dL_law_473 : decode cL_law 473 = .ok (.ireturn, 1) := by decide +kernel
theorem dL_law_474 : decode cL_law 474 = .ok (.aload_n 1, 1) := by decide +kernel
theorem dL_law_475 : decode cL_law 475 = .ok (.aload_n 0, 1) := by decide +kernel
theorem dL_law_476 : decode cL_law 476 = .ok (.iload_n 3, 1) := by decide +kernel
theorem dL_law_477 : decode cL_law 477 = .ok (.iconst 1, 1) := by decide +kernel
theorem dL_law_478 : decode cL_law 478 = .ok (.iadd, 1) := by decide +kernel
theorem dL_law_479 : decode cL_law 479 = .ok (.iaload, 1) := by decide +kernel
theorem dL_law_480 : decode cL_law 480 = .ok (.invokevirtual 67, 3) := by decide +kernel
theorem dL_law_483 : decode cL_law 483 = .ok (.aload_n 2, 1) := by decide +kernel
theorem dL_law_484 : decode cL_law 484 = .ok (.aload_n 0, 1) := by decide +kernel
theorem dL_law_485 : decode cL_law 485 = .ok (.iload_n 3, 1) := by decide +kernel
theorem dL_law_486 : decode cL_law 486 = .ok (.iconst 1, 1) := by decide +kernel
theorem dL_law_487 : decode cL_law 487 = .ok (.iadd, 1) := by decide +kernel
theorem dL_law_488 : decode cL_law 488 = .ok (.iaload, 1) := by decide +kernel
theorem dL_law_489 : decode cL_law 489 = .ok (.invokevirtual 70, 3) := by decide +kernel
theorem dL_law_492 : decode cL_law 492 = .ok (.if_icmp .eq 391, 3) := by decide +kernel
theorem dL_law_495 : decode cL_law 495 = .ok (.iconst 0, 1) := by decide +kernel
theorem dL_law_496 : decode cL_law 496 = .ok (.ireturn, 1) := by decide +kernel
theorem dL_law_497 : decode cL_law 497 = .ok (.aload_n 1, 1) := by decide +kernel
theorem dL_law_498 : decode cL_law 498 = .ok (.aload_n 0, 1) := by decide +kernel
theorem dL_law_499 : decode cL_law 499 = .ok (.iload_n 3, 1) := by decide +kernel
theorem dL_law_500 : decode cL_law 500 = .ok (.iconst 1, 1) := by decide +kernel
theorem dL_law_501 : decode cL_law 501 = .ok (.iadd, 1) := by decide +kernel
theorem dL_law_502 : decode cL_law 502 = .ok (.iaload, 1) := by decide +kernel
theorem dL_law_503 : decode cL_law 503 = .ok (.aload_n 0, 1) := by decide +kernel
theorem dL_law_504 : decode cL_law 504 = .ok (.iload_n 3, 1) := by decide +kernel
theorem dL_law_505 : decode cL_law 505 = .ok (.iconst 2, 1) := by decide +kernel
theorem dL_law_506 : decode cL_law 506 = .ok (.iadd, 1) := by decide +kernel
theorem dL_law_507 : decode cL_law 507 = .ok (.iaload, 1) := by decide +kernel
theorem dL_law_508 : decode cL_law 508 = .ok (.invokevirtual 71, 3) := by decide +kernel
theorem dL_law_511 : decode cL_law 511 = .ok (.aload_n 2, 1) := by decide +kernel
theorem dL_law_512 : decode cL_law 512 = .ok (.aload_n 0, 1) := by decide +kernel
theorem dL_law_513 : decode cL_law 513 = .ok (.iload_n 3, 1) := by decide +kernel
theorem dL_law_514 : decode cL_law 514 = .ok (.iconst 1, 1) := by decide +kernel
theorem dL_law_515 : decode cL_law 515 = .ok (.iadd, 1) := by decide +kernel
theorem dL_law_516 : decode cL_law 516 = .ok (.iaload, 1) := by decide +kernel
theorem dL_law_517 : decode cL_law 517 = .ok (.aload_n 0, 1) := by decide +kernel
theorem dL_law_518 : decode cL_law 518 = .ok (.iload_n 3, 1) := by decide +kernel
theorem dL_law_519 : decode cL_law 519 = .ok (.iconst 2, 1) := by decide +kernel
theorem dL_law_520 : decode cL_law 520 = .ok (.iadd, 1) := by decide +kernel
theorem dL_law_521 : decode cL_law 521 = .ok (.iaload, 1) := by decide +kernel
theorem dL_law_522 : decode cL_law 522 = .ok (.invokevirtual 74, 3) := by decide +kernel
theorem dL_law_525 : decode cL_law 525 = .ok (.if_icmp .eq 358, 3) := by decide +kernel
theorem dL_law_528 : decode cL_law 528 = .ok (.iconst 0, 1) := by decide +kernel
theorem dL_law_529 : decode cL_law 529 = .ok (.ireturn, 1) := by decide +kernel
theorem dL_law_530 : decode cL_law 530 = .ok (.aload_n 1, 1) := by decide +kernel
theorem dL_law_531 : decode cL_law 531 = .ok (.aload_n 0, 1) := by decide +kernel
theorem dL_law_532 : decode cL_law 532 = .ok (.iload_n 3, 1) := by decide +kernel
theorem dL_law_533 : decode cL_law 533 = .ok (.iconst 1, 1) := by decide +kernel
theorem dL_law_534 : decode cL_law 534 = .ok (.iadd, 1) := by decide +kernel
theorem dL_law_535 : decode cL_law 535 = .ok (.iaload, 1) := by decide +kernel
theorem dL_law_536 : decode cL_law 536 = .ok (.aload_n 0, 1) := by decide +kernel
theorem dL_law_537 : decode cL_law 537 = .ok (.iload_n 3, 1) := by decide +kernel
theorem dL_law_538 : decode cL_law 538 = .ok (.iconst 2, 1) := by decide +kernel
theorem dL_law_539 : decode cL_law 539 = .ok (.iadd, 1) := by decide +kernel
theorem dL_law_540 : decode cL_law 540 = .ok (.iaload, 1) := by decide +kernel
theorem dL_law_541 : decode cL_law 541 = .ok (.invokevirtual 75, 3) := by decide +kernel
theorem dL_law_544 : decode cL_law 544 = .ok (.aload_n 2, 1) := by decide +kernel
theorem dL_law_545 : decode cL_law 545 = .ok (.aload_n 0, 1) := by decide +kernel
theorem dL_law_546 : decode cL_law 546 = .ok (.iload_n 3, 1) := by decide +kernel
theorem dL_law_547 : decode cL_law 547 = .ok (.iconst 1, 1) := by decide +kernel
theorem dL_law_548 : decode cL_law 548 = .ok (.iadd, 1) := by decide +kernel
theorem dL_law_549 : decode cL_law 549 = .ok (.iaload, 1) := by decide +kernel
theorem dL_law_550 : decode cL_law 550 = .ok (.aload_n 0, 1) := by decide +kernel
theorem dL_law_551 : decode cL_law 551 = .ok (.iload_n 3, 1) := by decide +kernel
theorem dL_law_552 : decode cL_law 552 = .ok (.iconst 2, 1) := by decide +kernel
theorem dL_law_553 : decode cL_law 553 = .ok (.iadd, 1) := by decide +kernel
theorem dL_law_554 : decode cL_law 554 = .ok (.iaload, 1) := by decide +kernel
theorem dL_law_555 : decode cL_law 555 = .ok (.invokevirtual 78, 3) := by decide +kernel
theorem dL_law_558 : decode cL_law 558 = .ok (.if_icmp .eq 325, 3) := by decide +kernel
theorem dL_law_561 : decode cL_law 561 = .ok (.iconst 0, 1) := by decide +kernel
theorem dL_law_562 : decode cL_law 562 = .ok (.ireturn, 1) := by decide +kernel
theorem dL_law_563 : decode cL_law 563 = .ok (.aload_n 1, 1) := by decide +kernel
theorem dL_law_564 : decode cL_law 564 = .ok (.aload_n 0, 1) := by decide +kernel
theorem dL_law_565 : decode cL_law 565 = .ok (.iload_n 3, 1) := by decide +kernel
theorem dL_law_566 : decode cL_law 566 = .ok (.iconst 1, 1) := by decide +kernel
theorem dL_law_567 : decode cL_law 567 = .ok (.iadd, 1) := by decide +kernel
theorem dL_law_568 : decode cL_law 568 = .ok (.iaload, 1) := by decide +kernel
theorem dL_law_569 : decode cL_law 569 = .ok (.aload_n 0, 1) := by decide +kernel
theorem dL_law_570 : decode cL_law 570 = .ok (.iload_n 3, 1) := by decide +kernel
theorem dL_law_571 : decode cL_law 571 = .ok (.iconst 2, 1) := by decide +kernel
theorem dL_law_572 : decode cL_law 572 = .ok (.iadd, 1) := by decide +kernel
theorem dL_law_573 : decode cL_law 573 = .ok (.iaload, 1) := by decide +kernel
theorem dL_law_574 : decode cL_law 574 = .ok (.aload_n 0, 1) := by decide +kernel
theorem dL_law_575 : decode cL_law 575 = .ok (.iload_n 3, 1) := by decide +kernel
theorem dL_law_576 : decode cL_law 576 = .ok (.iconst 3, 1) := by decide +kernel
theorem dL_law_577 : decode cL_law 577 = .ok (.iadd, 1) := by decide +kernel
theorem dL_law_578 : decode cL_law 578 = .ok (.iaload, 1) := by decide +kernel
theorem dL_law_579 : decode cL_law 579 = .ok (.invokevirtual 79, 3) := by decide +kernel
theorem dL_law_582 : decode cL_law 582 = .ok (.aload_n 2, 1) := by decide +kernel
theorem dL_law_583 : decode cL_law 583 = .ok (.aload_n 0, 1) := by decide +kernel
theorem dL_law_584 : decode cL_law 584 = .ok (.iload_n 3, 1) := by decide +kernel
theorem dL_law_585 : decode cL_law 585 = .ok (.iconst 1, 1) := by decide +kernel
theorem dL_law_586 : decode cL_law 586 = .ok (.iadd, 1) := by decide +kernel
theorem dL_law_587 : decode cL_law 587 = .ok (.iaload, 1) := by decide +kernel
theorem dL_law_588 : decode cL_law 588 = .ok (.aload_n 0, 1) := by decide +kernel
theorem dL_law_589 : decode cL_law 589 = .ok (.iload_n 3, 1) := by decide +kernel
theorem dL_law_590 : decode cL_law 590 = .ok (.iconst 2, 1) := by decide +kernel
theorem dL_law_591 : decode cL_law 591 = .ok (.iadd, 1) := by decide +kernel
theorem dL_law_592 : decode cL_law 592 = .ok (.iaload, 1) := by decide +kernel
theorem dL_law_593 : decode cL_law 593 = .ok (.aload_n 0, 1) := by decide +kernel
theorem dL_law_594 : decode cL_law 594 = .ok (.iload_n 3, 1) := by decide +kernel
theorem dL_law_595 : decode cL_law 595 = .ok (.iconst 3, 1) := by decide +kernel
theorem dL_law_596 : decode cL_law 596 = .ok (.iadd, 1) := by decide +kernel
theorem dL_law_597 : decode cL_law 597 = .ok (.iaload, 1) := by decide +kernel
theorem dL_law_598 : decode cL_law 598 = .ok (.invokevirtual 83, 3) := by decide +kernel
theorem dL_law_601 : decode cL_law 601 = .ok (.if_icmp .eq 282, 3) := by decide +kernel
theorem dL_law_604 : decode cL_law 604 = .ok (.iconst 0, 1) := by decide +kernel
theorem dL_law_605 : decode cL_law 605 = .ok (.ireturn, 1) := by decide +kernel
theorem dL_law_606 : decode cL_law 606 = .ok (.aload_n 1, 1) := by decide +kernel
theorem dL_law_607 : decode cL_law 607 = .ok (.aload_n 0, 1) := by decide +kernel
theorem dL_law_608 : decode cL_law 608 = .ok (.iload_n 3, 1) := by decide +kernel
theorem dL_law_609 : decode cL_law 609 = .ok (.iconst 1, 1) := by decide +kernel
theorem dL_law_610 : decode cL_law 610 = .ok (.iadd, 1) := by decide +kernel
theorem dL_law_611 : decode cL_law 611 = .ok (.iaload, 1) := by decide +kernel
theorem dL_law_612 : decode cL_law 612 = .ok (.aload_n 0, 1) := by decide +kernel
theorem dL_law_613 : decode cL_law 613 = .ok (.iload_n 3, 1) := by decide +kernel
theorem dL_law_614 : decode cL_law 614 = .ok (.iconst 2, 1) := by decide +kernel
theorem dL_law_615 : decode cL_law 615 = .ok (.iadd, 1) := by decide +kernel
theorem dL_law_616 : decode cL_law 616 = .ok (.iaload, 1) := by decide +kernel
theorem dL_law_617 : decode cL_law 617 = .ok (.aload_n 0, 1) := by decide +kernel
theorem dL_law_618 : decode cL_law 618 = .ok (.iload_n 3, 1) := by decide +kernel
theorem dL_law_619 : decode cL_law 619 = .ok (.iconst 3, 1) := by decide +kernel
theorem dL_law_620 : decode cL_law 620 = .ok (.iadd, 1) := by decide +kernel
theorem dL_law_621 : decode cL_law 621 = .ok (.iaload, 1) := by decide +kernel
theorem dL_law_622 : decode cL_law 622 = .ok (.invokevirtual 84, 3) := by decide +kernel
theorem dL_law_625 : decode cL_law 625 = .ok (.aload_n 2, 1) := by decide +kernel
theorem dL_law_626 : decode cL_law 626 = .ok (.aload_n 0, 1) := by decide +kernel
theorem dL_law_627 : decode cL_law 627 = .ok (.iload_n 3, 1) := by decide +kernel
theorem dL_law_628 : decode cL_law 628 = .ok (.iconst 1, 1) := by decide +kernel
theorem dL_law_629 : decode cL_law 629 = .ok (.iadd, 1) := by decide +kernel
theorem dL_law_630 : decode cL_law 630 = .ok (.iaload, 1) := by decide +kernel
theorem dL_law_631 : decode cL_law 631 = .ok (.aload_n 0, 1) := by decide +kernel
theorem dL_law_632 : decode cL_law 632 = .ok (.iload_n 3, 1) := by decide +kernel
theorem dL_law_633 : decode cL_law 633 = .ok (.iconst 2, 1) := by decide +kernel
theorem dL_law_634 : decode cL_law 634 = .ok (.iadd, 1) := by decide +kernel
theorem dL_law_635 : decode cL_law 635 = .ok (.iaload, 1) := by decide +kernel
theorem dL_law_636 : decode cL_law 636 = .ok (.aload_n 0, 1) := by decide +kernel
theorem dL_law_637 : decode cL_law 637 = .ok (.iload_n 3, 1) := by decide +kernel
theorem dL_law_638 : decode cL_law 638 = .ok (.iconst 3, 1) := by decide +kernel
theorem dL_law_639 : decode cL_law 639 = .ok (.iadd, 1) := by decide +kernel
theorem dL_law_640 : decode cL_law 640 = .ok (.iaload, 1) := by decide +kernel
theorem dL_law_641 : decode cL_law 641 = .ok (.invokevirtual 87, 3) := by decide +kernel
theorem dL_law_644 : decode cL_law 644 = .ok (.if_icmp .eq 239, 3) := by decide +kernel
theorem dL_law_647 : decode cL_law 647 = .ok (.iconst 0, 1) := by decide +kernel
theorem dL_law_648 : decode cL_law 648 = .ok (.ireturn, 1) := by decide +kernel
theorem dL_law_649 : decode cL_law 649 = .ok (.aload_n 1, 1) := by decide +kernel
theorem dL_law_650 : decode cL_law 650 = .ok (.aload_n 0, 1) := by decide +kernel
theorem dL_law_651 : decode cL_law 651 = .ok (.iload_n 3, 1) := by decide +kernel
theorem dL_law_652 : decode cL_law 652 = .ok (.iconst 1, 1) := by decide +kernel
theorem dL_law_653 : decode cL_law 653 = .ok (.iadd, 1) := by decide +kernel
theorem dL_law_654 : decode cL_law 654 = .ok (.iaload, 1) := by decide +kernel
theorem dL_law_655 : decode cL_law 655 = .ok (.invokevirtual 88, 3) := by decide +kernel
theorem dL_law_658 : decode cL_law 658 = .ok (.aload_n 2, 1) := by decide +kernel
theorem dL_law_659 : decode cL_law 659 = .ok (.aload_n 0, 1) := by decide +kernel
theorem dL_law_660 : decode cL_law 660 = .ok (.iload_n 3, 1) := by decide +kernel
theorem dL_law_661 : decode cL_law 661 = .ok (.iconst 1, 1) := by decide +kernel
theorem dL_law_662 : decode cL_law 662 = .ok (.iadd, 1) := by decide +kernel
theorem dL_law_663 : decode cL_law 663 = .ok (.iaload, 1) := by decide +kernel
theorem dL_law_664 : decode cL_law 664 = .ok (.invokevirtual 91, 3) := by decide +kernel
theorem dL_law_667 : decode cL_law 667 = .ok (.if_icmp .eq 216, 3) := by decide +kernel
theorem dL_law_670 : decode cL_law 670 = .ok (.iconst 0, 1) := by decide +kernel
theorem dL_law_671 : decode cL_law 671 = .ok (.ireturn, 1) := by decide +kernel
theorem dL_law_672 : decode cL_law 672 = .ok (.aload_n 1, 1) := by decide +kernel
theorem dL_law_673 : decode cL_law 673 = .ok (.aload_n 0, 1) := by decide +kernel
theorem dL_law_674 : decode cL_law 674 = .ok (.iload_n 3, 1) := by decide +kernel
theorem dL_law_675 : decode cL_law 675 = .ok (.iconst 1, 1) := by decide +kernel
theorem dL_law_676 : decode cL_law 676 = .ok (.iadd, 1) := by decide +kernel
theorem dL_law_677 : decode cL_law 677 = .ok (.iaload, 1) := by decide +kernel
theorem dL_law_678 : decode cL_law 678 = .ok (.aload_n 0, 1) := by decide +kernel
theorem dL_law_679 : decode cL_law 679 = .ok (.iload_n 3, 1) := by decide +kernel
theorem dL_law_680 : decode cL_law 680 = .ok (.iconst 2, 1) := by decide +kernel
theorem dL_law_681 : decode cL_law 681 = .ok (.iadd, 1) := by decide +kernel
theorem dL_law_682 : decode cL_law 682 = .ok (.iaload, 1) := by decide +kernel
theorem dL_law_683 : decode cL_law 683 = .ok (.aload_n 0, 1) := by decide +kernel
theorem dL_law_684 : decode cL_law 684 = .ok (.iload_n 3, 1) := by decide +kernel
theorem dL_law_685 : decode cL_law 685 = .ok (.iconst 3, 1) := by decide +kernel
theorem dL_law_686 : decode cL_law 686 = .ok (.iadd, 1) := by decide +kernel
theorem dL_law_687 : decode cL_law 687 = .ok (.iaload, 1) := by decide +kernel
theorem dL_law_688 : decode cL_law 688 = .ok (.aload_n 0, 1) := by decide +kernel
theorem dL_law_689 : decode cL_law 689 = .ok (.iload_n 3, 1) := by decide +kernel
theorem dL_law_690 : decode cL_law 690 = .ok (.iconst 4, 1) := by decide +kernel
theorem dL_law_691 : decode cL_law 691 = .ok (.iadd, 1) := by decide +kernel
theorem dL_law_692 : decode cL_law 692 = .ok (.iaload, 1) := by decide +kernel
theorem dL_law_693 : decode cL_law 693 = .ok (.invokevirtual 92, 3) := by decide +kernel
theorem dL_law_696 : decode cL_law 696 = .ok (.aload_n 2, 1) := by decide +kernel
theorem dL_law_697 : decode cL_law 697 = .ok (.aload_n 0, 1) := by decide +kernel
theorem dL_law_698 : decode cL_law 698 = .ok (.iload_n 3, 1) := by decide +kernel
theorem dL_law_699 : decode cL_law 699 = .ok (.iconst 1, 1) := by decide +kernel
theorem dL_law_700 : decode cL_law 700 = .ok (.iadd, 1) := by decide +kernel
theorem dL_law_701 : decode cL_law 701 = .ok (.iaload, 1) := by decide +kernel
theorem dL_law_702 : decode cL_law 702 = .ok (.aload_n 0, 1) := by decide +kernel
theorem dL_law_703 : decode cL_law 703 = .ok (.iload_n 3, 1) := by decide +kernel
theorem dL_law_704 : decode cL_law 704 = .ok (.iconst 2, 1) := by decide +kernel
theorem dL_law_705 : decode cL_law 705 = .ok (.iadd, 1) := by decide +kernel
theorem dL_law_706 : decode cL_law 706 = .ok (.iaload, 1) := by decide +kernel
theorem dL_law_707 : decode cL_law 707 = .ok (.aload_n 0, 1) := by decide +kernel
theorem dL_law_708 : decode cL_law 708 = .ok (.iload_n 3, 1) := by decide +kernel
theorem dL_law_709 : decode cL_law 709 = .ok (.iconst 3, 1) := by decide +kernel
theorem dL_law_710 : decode cL_law 710 = .ok (.iadd, 1) := by decide +kernel
theorem dL_law_711 : decode cL_law 711 = .ok (.iaload, 1) := by decide +kernel
theorem dL_law_712 : decode cL_law 712 = .ok (.aload_n 0, 1) := by decide +kernel
theorem dL_law_713 : decode cL_law 713 = .ok (.iload_n 3, 1) := by decide +kernel
theorem dL_law_714 : decode cL_law 714 = .ok (.iconst 4, 1) := by decide +kernel
theorem dL_law_715 : decode cL_law 715 = .ok (.iadd, 1) := by decide +kernel
theorem dL_law_716 : decode cL_law 716 = .ok (.iaload, 1) := by decide +kernel
theorem dL_law_717 : decode cL_law 717 = .ok (.invokevirtual 96, 3) := by decide +kernel
theorem dL_law_720 : decode cL_law 720 = .ok (.if_icmp .eq 163, 3) := by decide +kernel
theorem dL_law_723 : decode cL_law 723 = .ok (.iconst 0, 1) := by decide +kernel
theorem dL_law_724 : decode cL_law 724 = .ok (.ireturn, 1) := by decide +kernel
theorem dL_law_725 : decode cL_law 725 = .ok (.aload_n 1, 1) := by decide +kernel
theorem dL_law_726 : decode cL_law 726 = .ok (.aload_n 0, 1) := by decide +kernel
theorem dL_law_727 : decode cL_law 727 = .ok (.iload_n 3, 1) := by decide +kernel
theorem dL_law_728 : decode cL_law 728 = .ok (.iconst 1, 1) := by decide +kernel
theorem dL_law_729 : decode cL_law 729 = .ok (.iadd, 1) := by decide +kernel
theorem dL_law_730 : decode cL_law 730 = .ok (.iaload, 1) := by decide +kernel
theorem dL_law_731 : decode cL_law 731 = .ok (.aload_n 0, 1) := by decide +kernel
theorem dL_law_732 : decode cL_law 732 = .ok (.iload_n 3, 1) := by decide +kernel
theorem dL_law_733 : decode cL_law 733 = .ok (.iconst 2, 1) := by decide +kernel
theorem dL_law_734 : decode cL_law 734 = .ok (.iadd, 1) := by decide +kernel
theorem dL_law_735 : decode cL_law 735 = .ok (.iaload, 1) := by decide +kernel
theorem dL_law_736 : decode cL_law 736 = .ok (.aload_n 0, 1) := by decide +kernel
theorem dL_law_737 : decode cL_law 737 = .ok (.iload_n 3, 1) := by decide +kernel
theorem dL_law_738 : decode cL_law 738 = .ok (.iconst 3, 1) := by decide +kernel
theorem dL_law_739 : decode cL_law 739 = .ok (.iadd, 1) := by decide +kernel
theorem dL_law_740 : decode cL_law 740 = .ok (.iaload, 1) := by decide +kernel
theorem dL_law_741 : decode cL_law 741 = .ok (.invokevirtual 97, 3) := by decide +kernel
theorem dL_law_744 : decode cL_law 744 = .ok (.aload_n 2, 1) := by decide +kernel
theorem dL_law_745 : decode cL_law 745 = .ok (.aload_n 0, 1) := by decide +kernel
theorem dL_law_746 : decode cL_law 746 = .ok (.iload_n 3, 1) := by decide +kernel
theorem dL_law_747 : decode cL_law 747 = .ok (.iconst 1, 1) := by decide +kernel
theorem dL_law_748 : decode cL_law 748 = .ok (.iadd, 1) := by decide +kernel
theorem dL_law_749 : decode cL_law 749 = .ok (.iaload, 1) := by decide +kernel
theorem dL_law_750 : decode cL_law 750 = .ok (.aload_n 0, 1) := by decide +kernel
theorem dL_law_751 : decode cL_law 751 = .ok (.iload_n 3, 1) := by decide +kernel
theorem dL_law_752 : decode cL_law 752 = .ok (.iconst 2, 1) := by decide +kernel
theorem dL_law_753 : decode cL_law 753 = .ok (.iadd, 1) := by decide +kernel
theorem dL_law_754 : decode cL_law 754 = .ok (.iaload, 1) := by decide +kernel
theorem dL_law_755 : decode cL_law 755 = .ok (.aload_n 0, 1) := by decide +kernel
theorem dL_law_756 : decode cL_law 756 = .ok (.iload_n 3, 1) := by decide +kernel
theorem dL_law_757 : decode cL_law 757 = .ok (.iconst 3, 1) := by decide +kernel
theorem dL_law_758 : decode cL_law 758 = .ok (.iadd, 1) := by decide +kernel
theorem dL_law_759 : decode cL_law 759 = .ok (.iaload, 1) := by decide +kernel
theorem dL_law_760 : decode cL_law 760 = .ok (.invokevirtual 100, 3) := by decide +kernel
theorem dL_law_763 : decode cL_law 763 = .ok (.if_icmp .eq 120, 3) := by decide +kernel
theorem dL_law_766 : decode cL_law 766 = .ok (.iconst 0, 1) := by decide +kernel
theorem dL_law_767 : decode cL_law 767 = .ok (.ireturn, 1) := by decide +kernel
theorem dL_law_768 : decode cL_law 768 = .ok (.aload_n 1, 1) := by decide +kernel
theorem dL_law_769 : decode cL_law 769 = .ok (.aload_n 0, 1) := by decide +kernel
theorem dL_law_770 : decode cL_law 770 = .ok (.iload_n 3, 1) := by decide +kernel
theorem dL_law_771 : decode cL_law 771 = .ok (.iconst 1, 1) := by decide +kernel
theorem dL_law_772 : decode cL_law 772 = .ok (.iadd, 1) := by decide +kernel
theorem dL_law_773 : decode cL_law 773 = .ok (.iaload, 1) := by decide +kernel
theorem dL_law_774 : decode cL_law 774 = .ok (.aload_n 0, 1) := by decide +kernel
theorem dL_law_775 : decode cL_law 775 = .ok (.iload_n 3, 1) := by decide +kernel
theorem dL_law_776 : decode cL_law 776 = .ok (.iconst 2, 1) := by decide +kernel
theorem dL_law_777 : decode cL_law 777 = .ok (.iadd, 1) := by decide +kernel
theorem dL_law_778 : decode cL_law 778 = .ok (.iaload, 1) := by decide +kernel
theorem dL_law_779 : decode cL_law 779 = .ok (.invokevirtual 101, 3) := by decide +kernel
theorem dL_law_782 : decode cL_law 782 = .ok (.aload_n 2, 1) := by decide +kernel
theorem dL_law_783 : decode cL_law 783 = .ok (.aload_n 0, 1) := by decide +kernel
theorem dL_law_784 : decode cL_law 784 = .ok (.iload_n 3, 1) := by decide +kernel
theorem dL_law_785 : decode cL_law 785 = .ok (.iconst 1, 1) := by decide +kernel
theorem dL_law_786 : decode cL_law 786 = .ok (.iadd, 1) := by decide +kernel
theorem dL_law_787 : decode cL_law 787 = .ok (.iaload, 1) := by decide +kernel
theorem dL_law_788 : decode cL_law 788 = .ok (.aload_n 0, 1) := by decide +kernel
theorem dL_law_789 : decode cL_law 789 = .ok (.iload_n 3, 1) := by decide +kernel
theorem dL_law_790 : decode cL_law 790 = .ok (.iconst 2, 1) := by decide +kernel
theorem dL_law_791 : decode cL_law 791 = .ok (.iadd, 1) := by decide +kernel
theorem dL_law_792 : decode cL_law 792 = .ok (.iaload, 1) := by decide +kernel
theorem dL_law_793 : decode cL_law 793 = .ok (.invokevirtual 104, 3) := by decide +kernel
theorem dL_law_796 : decode cL_law 796 = .ok (.if_icmp .eq 87, 3) := by decide +kernel
theorem dL_law_799 : decode cL_law 799 = .ok (.iconst 0, 1) := by decide +kernel
theorem dL_law_800 : decode cL_law 800 = .ok (.ireturn, 1) := by decide +kernel
theorem dL_law_801 : decode cL_law 801 = .ok (.aload_n 1, 1) := by decide +kernel
theorem dL_law_802 : decode cL_law 802 = .ok (.aload_n 0, 1) := by decide +kernel
theorem dL_law_803 : decode cL_law 803 = .ok (.iload_n 3, 1) := by decide +kernel
theorem dL_law_804 : decode cL_law 804 = .ok (.iconst 1, 1) := by decide +kernel
theorem dL_law_805 : decode cL_law 805 = .ok (.iadd, 1) := by decide +kernel
theorem dL_law_806 : decode cL_law 806 = .ok (.iaload, 1) := by decide +kernel
theorem dL_law_807 : decode cL_law 807 = .ok (.aload_n 0, 1) := by decide +kernel
theorem dL_law_808 : decode cL_law 808 = .ok (.iload_n 3, 1) := by decide +kernel
theorem dL_law_809 : decode cL_law 809 = .ok (.iconst 2, 1) := by decide +kernel
theorem dL_law_810 : decode cL_law 810 = .ok (.iadd, 1) := by decide +kernel
theorem dL_law_811 : decode cL_law 811 = .ok (.iaload, 1) := by decide +kernel
theorem dL_law_812 : decode cL_law 812 = .ok (.invokevirtual 105, 3) := by decide +kernel
theorem dL_law_815 : decode cL_law 815 = .ok (.aload_n 2, 1) := by decide +kernel
theorem dL_law_816 : decode cL_law 816 = .ok (.aload_n 0, 1) := by decide +kernel
theorem dL_law_817 : decode cL_law 817 = .ok (.iload_n 3, 1) := by decide +kernel
theorem dL_law_818 : decode cL_law 818 = .ok (.iconst 1, 1) := by decide +kernel
theorem dL_law_819 : decode cL_law 819 = .ok (.iadd, 1) := by decide +kernel
theorem dL_law_820 : decode cL_law 820 = .ok (.iaload, 1) := by decide +kernel
theorem dL_law_821 : decode cL_law 821 = .ok (.aload_n 0, 1) := by decide +kernel
theorem dL_law_822 : decode cL_law 822 = .ok (.iload_n 3, 1) := by decide +kernel
theorem dL_law_823 : decode cL_law 823 = .ok (.iconst 2, 1) := by decide +kernel
theorem dL_law_824 : decode cL_law 824 = .ok (.iadd, 1) := by decide +kernel
theorem dL_law_825 : decode cL_law 825 = .ok (.iaload, 1) := by decide +kernel
theorem dL_law_826 : decode cL_law 826 = .ok (.invokevirtual 108, 3) := by decide +kernel
theorem dL_law_829 : decode cL_law 829 = .ok (.if_icmp .eq 54, 3) := by decide +kernel
theorem dL_law_832 : decode cL_law 832 = .ok (.iconst 0, 1) := by decide +kernel
theorem dL_law_833 : decode cL_law 833 = .ok (.ireturn, 1) := by decide +kernel
theorem dL_law_834 : decode cL_law 834 = .ok (.aload_n 1, 1) := by decide +kernel
theorem dL_law_835 : decode cL_law 835 = .ok (.invokevirtual 109, 3) := by decide +kernel
theorem dL_law_838 : decode cL_law 838 = .ok (.aload_n 2, 1) := by decide +kernel
theorem dL_law_839 : decode cL_law 839 = .ok (.invokevirtual 112, 3) := by decide +kernel
theorem dL_law_842 : decode cL_law 842 = .ok (.if_icmp .eq 41, 3) := by decide +kernel
theorem dL_law_845 : decode cL_law 845 = .ok (.iconst 0, 1) := by decide +kernel
theorem dL_law_846 : decode cL_law 846 = .ok (.ireturn, 1) := by decide +kernel
theorem dL_law_847 : decode cL_law 847 = .ok (.aload_n 1, 1) := by decide +kernel
theorem dL_law_848 : decode cL_law 848 = .ok (.invokevirtual 113, 3) := by decide +kernel
theorem dL_law_851 : decode cL_law 851 = .ok (.aload_n 2, 1) := by decide +kernel
theorem dL_law_852 : decode cL_law 852 = .ok (.invokevirtual 116, 3) := by decide +kernel
theorem dL_law_855 : decode cL_law 855 = .ok (.if_icmp .eq 28, 3) := by decide +kernel
theorem dL_law_858 : decode cL_law 858 = .ok (.iconst 0, 1) := by decide +kernel
theorem dL_law_859 : decode cL_law 859 = .ok (.ireturn, 1) := by decide +kernel
theorem dL_law_860 : decode cL_law 860 = .ok (.aload_n 1, 1) := by decide +kernel
theorem dL_law_861 : decode cL_law 861 = .ok (.aload_n 0, 1) := by decide +kernel
theorem dL_law_862 : decode cL_law 862 = .ok (.iload_n 3, 1) := by decide +kernel
theorem dL_law_863 : decode cL_law 863 = .ok (.iconst 1, 1) := by decide +kernel
theorem dL_law_864 : decode cL_law 864 = .ok (.iadd, 1) := by decide +kernel
theorem dL_law_865 : decode cL_law 865 = .ok (.iaload, 1) := by decide +kernel
theorem dL_law_866 : decode cL_law 866 = .ok (.invokevirtual 117, 3) := by decide +kernel
theorem dL_law_869 : decode cL_law 869 = .ok (.aload_n 2, 1) := by decide +kernel
theorem dL_law_870 : decode cL_law 870 = .ok (.aload_n 0, 1) := by decide +kernel
theorem dL_law_871 : decode cL_law 871 = .ok (.iload_n 3, 1) := by decide +kernel
theorem dL_law_872 : decode cL_law 872 = .ok (.iconst 1, 1) := by decide +kernel
theorem dL_law_873 : decode cL_law 873 = .ok (.iadd, 1) := by decide +kernel
theorem dL_law_874 : decode cL_law 874 = .ok (.iaload, 1) := by decide +kernel
theorem dL_law_875 : decode cL_law 875 = .ok (.invokevirtual 120, 3) := by decide +kernel
theorem dL_law_878 : decode cL_law 878 = .ok (.if_icmp .eq 5, 3) := by decide +kernel
theorem dL_law_881 : decode cL_law 881 = .ok (.iconst 0, 1) := by decide +kernel
theorem dL_law_882 : decode cL_law 882 = .ok (.ireturn, 1) := by decide +kernel
theorem dL_law_883 : decode cL_law 883 = .ok (.iinc 3 5, 3) := by decide +kernel
theorem dL_law_886 : decode cL_law 886 = .ok (.goto (-868), 3) := by decide +kernel
theorem dL_law_889 : decode cL_law 889 = .ok (.iconst 1, 1) := by decide +kernel
theorem dL_law_890 : decode cL_law 890 = .ok (.ireturn, 1) := by decide +kernel
end
section
def tg : List Cond := lw_tbl.filter goodWord
theorem tg_sub {w : Cond} (h : w ∈ tg) : w ∈ lw_tbl := (List.mem_filter.mp h).1
theorem tg_in : GoodIn tg tg := fun w h => ⟨h, good_of_word (List.mem_filter.mp h).2⟩
theorem tb_at (i : Nat) {w : Cond} (h : tables_1[i]? = some w) (g : goodWord w = true := by rfl) : w ∈ tg := List.mem_filter.mpr ⟨List.mem_append_right _ (List.mem_of_getElem? h), g⟩
abbrev qX10_init : List Cond := Cond.code yX10_init cX10_init 2 none :: tg
theorem cdX10_init : Cond.code yX10_init cX10_init 2 none ∈ tg := tb_at 26 (by decide +kernel)
abbrev qX7_init : List Cond := Cond.code yX7_init cX7_init 1 none :: tg
theorem cdX7_init : Cond.code yX7_init cX7_init 1 none ∈ tg := tb_at 34 (by decide +kernel)
abbrev qX3_init : List Cond := Cond.code yX3_init cX3_init 2 none :: tg
theorem cdX3_init : Cond.code yX3_init cX3_init 2 none ∈ tg := tb_at 50 (by decide +kernel)
abbrev qX5_init : List Cond := Cond.code yX5_init cX5_init 1 none :: tg
theorem cdX5_init : Cond.code yX5_init cX5_init 1 none ∈ tg := tb_at 60 (by decide +kernel)
abbrev qX8_init : List Cond := Cond.code yX8_init cX8_init 1 none :: tg
theorem cdX8_init : Cond.code yX8_init cX8_init 1 none ∈ tg := tb_at 91 (by decide +kernel)
abbrev qX0_init : List Cond := Cond.code yX0_init cX0_init 1 none :: tg
theorem cdX0_init : Cond.code yX0_init cX0_init 1 none ∈ tg := tb_at 126 (by decide +kernel)
abbrev qX2_init : List Cond := Cond.code yX2_init cX2_init 4 none :: tg
theorem cdX2_init : Cond.code yX2_init cX2_init 4 none ∈ tg := tb_at 196 (by decide +kernel)
abbrev qX1_init : List Cond := Cond.code yX1_init cX1_init 1 none :: tg
theorem cdX1_init : Cond.code yX1_init cX1_init 1 none ∈ tg := tb_at 203 (by decide +kernel)
abbrev qX6_init : List Cond := Cond.code yX6_init cX6_init 2 none :: tg
theorem cdX6_init : Cond.code yX6_init cX6_init 2 none ∈ tg := tb_at 259 (by decide +kernel)
abbrev qX4_init : List Cond := Cond.code yX4_init cX4_init 2 none :: tg
theorem cdX4_init : Cond.code yX4_init cX4_init 2 none ∈ tg := tb_at 297 (by decide +kernel)
abbrev qX10_write : List Cond := Cond.code yX10_write cX10_write 5 (some .int) :: tg
theorem cdX10_write : Cond.code yX10_write cX10_write 5 (some .int) ∈ tg := tb_at 355 (by decide +kernel)
abbrev qX7_add : List Cond := Cond.code yX7_add cX7_add 2 none :: tg
theorem cdX7_add : Cond.code yX7_add cX7_add 2 none ∈ tg := tb_at 360 (by decide +kernel)
abbrev qX10_erase : List Cond := Cond.code yX10_erase cX10_erase 1 (some .int) :: tg
theorem cdX10_erase : Cond.code yX10_erase cX10_erase 1 (some .int) ∈ tg := tb_at 364 (by decide +kernel)
abbrev qX7_empty : List Cond := Cond.code yX7_empty cX7_empty 2 (some .int) :: tg
theorem cdX7_empty : Cond.code yX7_empty cX7_empty 2 (some .int) ∈ tg := tb_at 368 (by decide +kernel)
abbrev qX10_fault : List Cond := Cond.code yX10_fault cX10_fault 1 (some .int) :: tg
theorem cdX10_fault : Cond.code yX10_fault cX10_fault 1 (some .int) ∈ tg := tb_at 372 (by decide +kernel)
abbrev qX2_read : List Cond := Cond.code yX2_read cX2_read 3 none :: tg
theorem cdX2_read : Cond.code yX2_read cX2_read 3 none ∈ tg := tb_at 376 (by decide +kernel)
abbrev qX2_readLine : List Cond := Cond.code yX2_readLine cX2_readLine 6 (some .boolean) :: tg
theorem cdX2_readLine : Cond.code yX2_readLine cX2_readLine 6 (some .boolean) ∈ tg := tb_at 380 (by decide +kernel)
abbrev qX2_nextToken : List Cond := Cond.code yX2_nextToken cX2_nextToken 1 none :: tg
theorem cdX2_nextToken : Cond.code yX2_nextToken cX2_nextToken 1 none ∈ tg := tb_at 384 (by decide +kernel)
abbrev qX7_byteAt : List Cond := Cond.code yX7_byteAt cX7_byteAt 2 (some .int) :: tg
theorem cdX7_byteAt : Cond.code yX7_byteAt cX7_byteAt 2 (some .int) ∈ tg := tb_at 388 (by decide +kernel)
abbrev qX2_sortAt : List Cond := Cond.code yX2_sortAt cX2_sortAt 3 (some .int) :: tg
theorem cdX2_sortAt : Cond.code yX2_sortAt cX2_sortAt 3 (some .int) ∈ tg := tb_at 392 (by decide +kernel)
abbrev qX2_findWord : List Cond := Cond.code yX2_findWord cX2_findWord 2 (some (.object "NumberFerries$Word")) :: tg
theorem cdX2_findWord : Cond.code yX2_findWord cX2_findWord 2 (some (.object "NumberFerries$Word")) ∈ tg := tb_at 396 (by decide +kernel)
abbrev qX2_isSpelt : List Cond := Cond.code yX2_isSpelt cX2_isSpelt 4 (some .boolean) :: tg
theorem cdX2_isSpelt : Cond.code yX2_isSpelt cX2_isSpelt 4 (some .boolean) ∈ tg := tb_at 402 (by decide +kernel)
abbrev qJ0_length_8abf5 : List Cond := Cond.code yJ0_length_8abf5 cJ0_length_8abf5 1 (some .int) :: tg
theorem cdJ0_length_8abf5 : Cond.code yJ0_length_8abf5 cJ0_length_8abf5 1 (some .int) ∈ tg := tb_at 406 (by decide +kernel)
abbrev qJ0_coder_7d493 : List Cond := Cond.code yJ0_coder_7d493 cJ0_coder_7d493 1 (some .byte) :: tg
theorem cdJ0_coder_7d493 : Cond.code yJ0_coder_7d493 cJ0_coder_7d493 1 (some .byte) ∈ tg := tb_at 410 (by decide +kernel)
abbrev qJ0_charAt_5068e : List Cond := Cond.code yJ0_charAt_5068e cJ0_charAt_5068e 2 (some .char) :: tg
theorem cdJ0_charAt_5068e : Cond.code yJ0_charAt_5068e cJ0_charAt_5068e 2 (some .char) ∈ tg := tb_at 416 (by decide +kernel)
abbrev qJ0_isLatin1_aae02 : List Cond := Cond.code yJ0_isLatin1_aae02 cJ0_isLatin1_aae02 1 (some .boolean) :: tg
theorem cdJ0_isLatin1_aae02 : Cond.code yJ0_isLatin1_aae02 cJ0_isLatin1_aae02 1 (some .boolean) ∈ tg := tb_at 420 (by decide +kernel)
abbrev qJ1_charAt_3b067 : List Cond := Cond.code yJ1_charAt_3b067 cJ1_charAt_3b067 2 (some .char) :: tg
theorem cdJ1_charAt_3b067 : Cond.code yJ1_charAt_3b067 cJ1_charAt_3b067 2 (some .char) ∈ tg := tb_at 423 (by decide +kernel)
abbrev qJ0_checkIndex_df160 : List Cond := Cond.code yJ0_checkIndex_df160 cJ0_checkIndex_df160 2 none :: tg
theorem cdJ0_checkIndex_df160 : Cond.code yJ0_checkIndex_df160 cJ0_checkIndex_df160 2 none ∈ tg := tb_at 426 (by decide +kernel)
abbrev qJ3_checkIndex_8e157 : List Cond := Cond.code yJ3_checkIndex_8e157 cJ3_checkIndex_8e157 3 (some .int) :: tg
theorem cdJ3_checkIndex_8e157 : Cond.code yJ3_checkIndex_8e157 cJ3_checkIndex_8e157 3 (some .int) ∈ tg := tb_at 431 (by decide +kernel)
abbrev qJ2_charAt_3b067 : List Cond := Cond.code yJ2_charAt_3b067 cJ2_charAt_3b067 2 (some .char) :: tg
theorem cdJ2_charAt_3b067 : Cond.code yJ2_charAt_3b067 cJ2_charAt_3b067 2 (some .char) ∈ tg := tb_at 434 (by decide +kernel)
abbrev qJ2_checkIndex_2214a : List Cond := Cond.code yJ2_checkIndex_2214a cJ2_checkIndex_2214a 2 none :: tg
theorem cdJ2_checkIndex_2214a : Cond.code yJ2_checkIndex_2214a cJ2_checkIndex_2214a 2 none ∈ tg := tb_at 437 (by decide +kernel)
abbrev qJ2_length_9d52b : List Cond := Cond.code yJ2_length_9d52b cJ2_length_9d52b 1 (some .int) :: tg
theorem cdJ2_length_9d52b : Cond.code yJ2_length_9d52b cJ2_length_9d52b 1 (some .int) ∈ tg := tb_at 440 (by decide +kernel)
abbrev qJ2_getChar_3b067 : List Cond := Cond.code yJ2_getChar_3b067 cJ2_getChar_3b067 2 (some .char) :: tg
theorem cdJ2_getChar_3b067 : Cond.code yJ2_getChar_3b067 cJ2_getChar_3b067 2 (some .char) ∈ tg := tb_at 444 (by decide +kernel)
abbrev qX2_isTooMany : List Cond := Cond.code yX2_isTooMany cX2_isTooMany 2 (some .boolean) :: tg
theorem cdX2_isTooMany : Cond.code yX2_isTooMany cX2_isTooMany 2 (some .boolean) ∈ tg := tb_at 454 (by decide +kernel)
abbrev qX2_faultHere : List Cond := Cond.code yX2_faultHere cX2_faultHere 1 (some .boolean) :: tg
theorem cdX2_faultHere : Cond.code yX2_faultHere cX2_faultHere 1 (some .boolean) ∈ tg := tb_at 458 (by decide +kernel)
abbrev qX2_numberHere : List Cond := Cond.code yX2_numberHere cX2_numberHere 3 (some .int) :: tg
theorem cdX2_numberHere : Cond.code yX2_numberHere cX2_numberHere 3 (some .int) ∈ tg := tb_at 462 (by decide +kernel)
abbrev qX2_canStand : List Cond := Cond.code yX2_canStand cX2_canStand 4 (some .boolean) :: tg
theorem cdX2_canStand : Cond.code yX2_canStand cX2_canStand 4 (some .boolean) ∈ tg := tb_at 466 (by decide +kernel)
abbrev qJ0_indexOf_0f7a4 : List Cond := Cond.code yJ0_indexOf_0f7a4 cJ0_indexOf_0f7a4 2 (some .int) :: tg
theorem cdJ0_indexOf_0f7a4 : Cond.code yJ0_indexOf_0f7a4 cJ0_indexOf_0f7a4 2 (some .int) ∈ tg := tb_at 471 (by decide +kernel)
abbrev qJ0_indexOf_7cf53 : List Cond := Cond.code yJ0_indexOf_7cf53 cJ0_indexOf_7cf53 3 (some .int) :: tg
theorem cdJ0_indexOf_7cf53 : Cond.code yJ0_indexOf_7cf53 cJ0_indexOf_7cf53 3 (some .int) ∈ tg := tb_at 475 (by decide +kernel)
abbrev qJ1_indexOf_4cfef : List Cond := Cond.code yJ1_indexOf_4cfef cJ1_indexOf_4cfef 4 (some .int) :: tg
theorem cdJ1_indexOf_4cfef : Cond.code yJ1_indexOf_4cfef cJ1_indexOf_4cfef 4 (some .int) ∈ tg := tb_at 479 (by decide +kernel)
abbrev qJ1_canEncode_9a6ad : List Cond := Cond.code yJ1_canEncode_9a6ad cJ1_canEncode_9a6ad 1 (some .boolean) :: tg
theorem cdJ1_canEncode_9a6ad : Cond.code yJ1_canEncode_9a6ad cJ1_canEncode_9a6ad 1 (some .boolean) ∈ tg := tb_at 482 (by decide +kernel)
abbrev qJ9_max_7cf53 : List Cond := Cond.code yJ9_max_7cf53 cJ9_max_7cf53 2 (some .int) :: tg
theorem cdJ9_max_7cf53 : Cond.code yJ9_max_7cf53 cJ9_max_7cf53 2 (some .int) ∈ tg := tb_at 485 (by decide +kernel)
abbrev qJ9_min_7cf53 : List Cond := Cond.code yJ9_min_7cf53 cJ9_min_7cf53 2 (some .int) :: tg
theorem cdJ9_min_7cf53 : Cond.code yJ9_min_7cf53 cJ9_min_7cf53 2 (some .int) ∈ tg := tb_at 488 (by decide +kernel)
abbrev qJ1_indexOfChar_4cfef : List Cond := Cond.code yJ1_indexOfChar_4cfef cJ1_indexOfChar_4cfef 6 (some .int) :: tg
theorem cdJ1_indexOfChar_4cfef : Cond.code yJ1_indexOfChar_4cfef cJ1_indexOfChar_4cfef 6 (some .int) ∈ tg := tb_at 491 (by decide +kernel)
abbrev qJ2_indexOf_4cfef : List Cond := Cond.code yJ2_indexOf_4cfef cJ2_indexOf_4cfef 4 (some .int) :: tg
theorem cdJ2_indexOf_4cfef : Cond.code yJ2_indexOf_4cfef cJ2_indexOf_4cfef 4 (some .int) ∈ tg := tb_at 494 (by decide +kernel)
abbrev qJ2_indexOfChar_4cfef : List Cond := Cond.code yJ2_indexOfChar_4cfef cJ2_indexOfChar_4cfef 4 (some .int) :: tg
theorem cdJ2_indexOfChar_4cfef : Cond.code yJ2_indexOfChar_4cfef cJ2_indexOfChar_4cfef 4 (some .int) ∈ tg := tb_at 500 (by decide +kernel)
abbrev qJ2_checkBoundsBeginEnd_d044e : List Cond := Cond.code yJ2_checkBoundsBeginEnd_d044e cJ2_checkBoundsBeginEnd_d044e 3 none :: tg
theorem cdJ2_checkBoundsBeginEnd_d044e : Cond.code yJ2_checkBoundsBeginEnd_d044e cJ2_checkBoundsBeginEnd_d044e 3 none ∈ tg := tb_at 503 (by decide +kernel)
abbrev qJ0_checkBoundsBeginEnd_23922 : List Cond := Cond.code yJ0_checkBoundsBeginEnd_23922 cJ0_checkBoundsBeginEnd_23922 3 none :: tg
theorem cdJ0_checkBoundsBeginEnd_23922 : Cond.code yJ0_checkBoundsBeginEnd_23922 cJ0_checkBoundsBeginEnd_23922 3 none ∈ tg := tb_at 506 (by decide +kernel)
abbrev qJ3_checkFromToIndex_8c36e : List Cond := Cond.code yJ3_checkFromToIndex_8c36e cJ3_checkFromToIndex_8c36e 4 (some .int) :: tg
theorem cdJ3_checkFromToIndex_8c36e : Cond.code yJ3_checkFromToIndex_8c36e cJ3_checkFromToIndex_8c36e 4 (some .int) ∈ tg := tb_at 509 (by decide +kernel)
abbrev qJ2_indexOfCharUnsafe_4cfef : List Cond := Cond.code yJ2_indexOfCharUnsafe_4cfef cJ2_indexOfCharUnsafe_4cfef 5 (some .int) :: tg
theorem cdJ2_indexOfCharUnsafe_4cfef : Cond.code yJ2_indexOfCharUnsafe_4cfef cJ2_indexOfCharUnsafe_4cfef 5 (some .int) ∈ tg := tb_at 512 (by decide +kernel)
abbrev qJ2_indexOfSupplementary_4cfef : List Cond := Cond.code yJ2_indexOfSupplementary_4cfef cJ2_indexOfSupplementary_4cfef 7 (some .int) :: tg
theorem cdJ2_indexOfSupplementary_4cfef : Cond.code yJ2_indexOfSupplementary_4cfef cJ2_indexOfSupplementary_4cfef 7 (some .int) ∈ tg := tb_at 515 (by decide +kernel)
abbrev qJ11_isValidCodePoint_9a6ad : List Cond := Cond.code yJ11_isValidCodePoint_9a6ad cJ11_isValidCodePoint_9a6ad 2 (some .boolean) :: tg
theorem cdJ11_isValidCodePoint_9a6ad : Cond.code yJ11_isValidCodePoint_9a6ad cJ11_isValidCodePoint_9a6ad 2 (some .boolean) ∈ tg := tb_at 518 (by decide +kernel)
abbrev qJ11_highSurrogate_5068e : List Cond := Cond.code yJ11_highSurrogate_5068e cJ11_highSurrogate_5068e 1 (some .char) :: tg
theorem cdJ11_highSurrogate_5068e : Cond.code yJ11_highSurrogate_5068e cJ11_highSurrogate_5068e 1 (some .char) ∈ tg := tb_at 521 (by decide +kernel)
abbrev qJ11_lowSurrogate_5068e : List Cond := Cond.code yJ11_lowSurrogate_5068e cJ11_lowSurrogate_5068e 1 (some .char) :: tg
theorem cdJ11_lowSurrogate_5068e : Cond.code yJ11_lowSurrogate_5068e cJ11_lowSurrogate_5068e 1 (some .char) ∈ tg := tb_at 525 (by decide +kernel)
abbrev qX2_foresee : List Cond := Cond.code yX2_foresee cX2_foresee 2 none :: tg
theorem cdX2_foresee : Cond.code yX2_foresee cX2_foresee 2 none ∈ tg := tb_at 534 (by decide +kernel)
abbrev qX8_isHatted : List Cond := Cond.code yX8_isHatted cX8_isHatted 1 (some .boolean) :: tg
theorem cdX8_isHatted : Cond.code yX8_isHatted cX8_isHatted 1 (some .boolean) ∈ tg := tb_at 538 (by decide +kernel)
abbrev qX2_readSemicolon : List Cond := Cond.code yX2_readSemicolon cX2_readSemicolon 1 (some .boolean) :: tg
theorem cdX2_readSemicolon : Cond.code yX2_readSemicolon cX2_readSemicolon 1 (some .boolean) ∈ tg := tb_at 542 (by decide +kernel)
abbrev qX10_shore : List Cond := Cond.code yX10_shore cX10_shore 2 (some .int) :: tg
theorem cdX10_shore : Cond.code yX10_shore cX10_shore 2 (some .int) ∈ tg := tb_at 547 (by decide +kernel)
abbrev qX3_carryOut : List Cond := Cond.code yX3_carryOut cX3_carryOut 4 none :: tg
theorem cdX3_carryOut : Cond.code yX3_carryOut cX3_carryOut 4 none ∈ tg := tb_at 551 (by decide +kernel)
abbrev qX3_addThing : List Cond := Cond.code yX3_addThing cX3_addThing 3 none :: tg
theorem cdX3_addThing : Cond.code yX3_addThing cX3_addThing 3 none ∈ tg := tb_at 556 (by decide +kernel)
abbrev qX8_tell : List Cond := Cond.code yX8_tell cX8_tell 4 none :: tg
theorem cdX8_tell : Cond.code yX8_tell cX8_tell 4 none ∈ tg := tb_at 560 (by decide +kernel)
abbrev qX3_addFerry : List Cond := Cond.code yX3_addFerry cX3_addFerry 3 none :: tg
theorem cdX3_addFerry : Cond.code yX3_addFerry cX3_addFerry 3 none ∈ tg := tb_at 564 (by decide +kernel)
abbrev qX0_tell : List Cond := Cond.code yX0_tell cX0_tell 6 none :: tg
theorem cdX0_tell : Cond.code yX0_tell cX0_tell 6 none ∈ tg := tb_at 568 (by decide +kernel)
abbrev qX3_hasThing : List Cond := Cond.code yX3_hasThing cX3_hasThing 2 (some .boolean) :: tg
theorem cdX3_hasThing : Cond.code yX3_hasThing cX3_hasThing 2 (some .boolean) ∈ tg := tb_at 572 (by decide +kernel)
abbrev qX3_change : List Cond := Cond.code yX3_change cX3_change 3 none :: tg
theorem cdX3_change : Cond.code yX3_change cX3_change 3 none ∈ tg := tb_at 575 (by decide +kernel)
abbrev qX3_beginDay : List Cond := Cond.code yX3_beginDay cX3_beginDay 3 none :: tg
theorem cdX3_beginDay : Cond.code yX3_beginDay cX3_beginDay 3 none ∈ tg := tb_at 585 (by decide +kernel)
abbrev qX8_hasHat : List Cond := Cond.code yX8_hasHat cX8_hasHat 1 (some .boolean) :: tg
theorem cdX8_hasHat : Cond.code yX8_hasHat cX8_hasHat 1 (some .boolean) ∈ tg := tb_at 589 (by decide +kernel)
abbrev qX3_weighAll : List Cond := Cond.code yX3_weighAll cX3_weighAll 4 none :: tg
theorem cdX3_weighAll : Cond.code yX3_weighAll cX3_weighAll 4 none ∈ tg := tb_at 594 (by decide +kernel)
abbrev qX3_hatIsOn : List Cond := Cond.code yX3_hatIsOn cX3_hatIsOn 2 (some .boolean) :: tg
theorem cdX3_hatIsOn : Cond.code yX3_hatIsOn cX3_hatIsOn 2 (some .boolean) ∈ tg := tb_at 598 (by decide +kernel)
abbrev qX10_thing : List Cond := Cond.code yX10_thing cX10_thing 4 (some .int) :: tg
theorem cdX10_thing : Cond.code yX10_thing cX10_thing 4 (some .int) ∈ tg := tb_at 602 (by decide +kernel)
abbrev qX3_poundsOf : List Cond := Cond.code yX3_poundsOf cX3_poundsOf 2 (some .int) :: tg
theorem cdX3_poundsOf : Cond.code yX3_poundsOf cX3_poundsOf 2 (some .int) ∈ tg := tb_at 608 (by decide +kernel)
abbrev qX3_hasAll : List Cond := Cond.code yX3_hasAll cX3_hasAll 2 (some .boolean) :: tg
theorem cdX3_hasAll : Cond.code yX3_hasAll cX3_hasAll 2 (some .boolean) ∈ tg := tb_at 612 (by decide +kernel)
abbrev qX10_ferry : List Cond := Cond.code yX10_ferry cX10_ferry 4 (some .int) :: tg
theorem cdX10_ferry : Cond.code yX10_ferry cX10_ferry 4 (some .int) ∈ tg := tb_at 616 (by decide +kernel)
abbrev qX3_hasFerry : List Cond := Cond.code yX3_hasFerry cX3_hasFerry 2 (some .boolean) :: tg
theorem cdX3_hasFerry : Cond.code yX3_hasFerry cX3_hasFerry 2 (some .boolean) ∈ tg := tb_at 620 (by decide +kernel)
abbrev qX0_numberNow : List Cond := Cond.code yX0_numberNow cX0_numberNow 5 (some .int) :: tg
theorem cdX0_numberNow : Cond.code yX0_numberNow cX0_numberNow 5 (some .int) ∈ tg := tb_at 624 (by decide +kernel)
abbrev qX10_bankOf : List Cond := Cond.code yX10_bankOf cX10_bankOf 2 (some .int) :: tg
theorem cdX10_bankOf : Cond.code yX10_bankOf cX10_bankOf 2 (some .int) ∈ tg := tb_at 627 (by decide +kernel)
abbrev qX10_as : List Cond := Cond.code yX10_as cX10_as 3 (some .int) :: tg
theorem cdX10_as : Cond.code yX10_as cX10_as 3 (some .int) ∈ tg := tb_at 631 (by decide +kernel)
abbrev qX8_isUnder : List Cond := Cond.code yX8_isUnder cX8_isUnder 4 (some .boolean) :: tg
theorem cdX8_isUnder : Cond.code yX8_isUnder cX8_isUnder 4 (some .boolean) ∈ tg := tb_at 637 (by decide +kernel)
abbrev qX10_right : List Cond := Cond.code yX10_right cX10_right 3 (some .int) :: tg
theorem cdX10_right : Cond.code yX10_right cX10_right 3 (some .int) ∈ tg := tb_at 642 (by decide +kernel)
abbrev qX3_isRight : List Cond := Cond.code yX3_isRight cX3_isRight 4 (some .boolean) :: tg
theorem cdX3_isRight : Cond.code yX3_isRight cX3_isRight 4 (some .boolean) ∈ tg := tb_at 647 (by decide +kernel)
abbrev qX3_isOnBankOf : List Cond := Cond.code yX3_isOnBankOf cX3_isOnBankOf 4 (some .boolean) :: tg
theorem cdX3_isOnBankOf : Cond.code yX3_isOnBankOf cX3_isOnBankOf 4 (some .boolean) ∈ tg := tb_at 651 (by decide +kernel)
abbrev qX10_allOn : List Cond := Cond.code yX10_allOn cX10_allOn 3 (some .boolean) :: tg
theorem cdX10_allOn : Cond.code yX10_allOn cX10_allOn 3 (some .boolean) ∈ tg := tb_at 655 (by decide +kernel)
abbrev qX3_isRightSomewhere : List Cond := Cond.code yX3_isRightSomewhere cX3_isRightSomewhere 3 (some .boolean) :: tg
theorem cdX3_isRightSomewhere : Cond.code yX3_isRightSomewhere cX3_isRightSomewhere 3 (some .boolean) ∈ tg := tb_at 659 (by decide +kernel)
abbrev qX3_mayGoAboard : List Cond := Cond.code yX3_mayGoAboard cX3_mayGoAboard 3 (some .boolean) :: tg
theorem cdX3_mayGoAboard : Cond.code yX3_mayGoAboard cX3_mayGoAboard 3 (some .boolean) ∈ tg := tb_at 663 (by decide +kernel)
abbrev qJ6_bitCount_0f7a4 : List Cond := Cond.code yJ6_bitCount_0f7a4 cJ6_bitCount_0f7a4 1 (some .int) :: tg
theorem cdJ6_bitCount_0f7a4 : Cond.code yJ6_bitCount_0f7a4 cJ6_bitCount_0f7a4 1 (some .int) ∈ tg := tb_at 666 (by decide +kernel)
abbrev qX3_isNumber : List Cond := Cond.code yX3_isNumber cX3_isNumber 3 (some .boolean) :: tg
theorem cdX3_isNumber : Cond.code yX3_isNumber cX3_isNumber 3 (some .boolean) ∈ tg := tb_at 674 (by decide +kernel)
abbrev qX3_missBy : List Cond := Cond.code yX3_missBy cX3_missBy 3 (some .int) :: tg
theorem cdX3_missBy : Cond.code yX3_missBy cX3_missBy 3 (some .int) ∈ tg := tb_at 678 (by decide +kernel)
abbrev qJ9_abs_0f7a4 : List Cond := Cond.code yJ9_abs_0f7a4 cJ9_abs_0f7a4 1 (some .int) :: tg
theorem cdJ9_abs_0f7a4 : Cond.code yJ9_abs_0f7a4 cJ9_abs_0f7a4 1 (some .int) ∈ tg := tb_at 682 (by decide +kernel)
abbrev qX0_play : List Cond := Cond.code yX0_play cX0_play 1 (some .int) :: tg
theorem cdX0_play : Cond.code yX0_play cX0_play 1 (some .int) ∈ tg := tb_at 686 (by decide +kernel)
abbrev qX10_cross : List Cond := Cond.code yX10_cross cX10_cross 4 (some .int) :: tg
theorem cdX10_cross : Cond.code yX10_cross cX10_cross 4 (some .int) ∈ tg := tb_at 690 (by decide +kernel)
abbrev qX10_crossingOf : List Cond := Cond.code yX10_crossingOf cX10_crossingOf 2 (some .int) :: tg
theorem cdX10_crossingOf : Cond.code yX10_crossingOf cX10_crossingOf 2 (some .int) ∈ tg := tb_at 693 (by decide +kernel)
abbrev qX10_banksBehind : List Cond := Cond.code yX10_banksBehind cX10_banksBehind 2 (some .int) :: tg
theorem cdX10_banksBehind : Cond.code yX10_banksBehind cX10_banksBehind 2 (some .int) ∈ tg := tb_at 696 (by decide +kernel)
abbrev qX10_loadOf : List Cond := Cond.code yX10_loadOf cX10_loadOf 1 (some .int) :: tg
theorem cdX10_loadOf : Cond.code yX10_loadOf cX10_loadOf 1 (some .int) ∈ tg := tb_at 699 (by decide +kernel)
abbrev qX10_ferryOf : List Cond := Cond.code yX10_ferryOf cX10_ferryOf 1 (some .int) :: tg
theorem cdX10_ferryOf : Cond.code yX10_ferryOf cX10_ferryOf 1 (some .int) ∈ tg := tb_at 702 (by decide +kernel)
abbrev qX10_doff : List Cond := Cond.code yX10_doff cX10_doff 2 (some .int) :: tg
theorem cdX10_doff : Cond.code yX10_doff cX10_doff 2 (some .int) ∈ tg := tb_at 706 (by decide +kernel)
abbrev qX3_turnHat : List Cond := Cond.code yX3_turnHat cX3_turnHat 2 none :: tg
theorem cdX3_turnHat : Cond.code yX3_turnHat cX3_turnHat 2 none ∈ tg := tb_at 711 (by decide +kernel)
abbrev qX10_noon : List Cond := Cond.code yX10_noon cX10_noon 1 (some .int) :: tg
theorem cdX10_noon : Cond.code yX10_noon cX10_noon 1 (some .int) ∈ tg := tb_at 715 (by decide +kernel)
abbrev qX10_keep : List Cond := Cond.code yX10_keep cX10_keep 2 (some .int) :: tg
theorem cdX10_keep : Cond.code yX10_keep cX10_keep 2 (some .int) ∈ tg := tb_at 719 (by decide +kernel)
abbrev qX5_become : List Cond := Cond.code yX5_become cX5_become 2 none :: tg
theorem cdX5_become : Cond.code yX5_become cX5_become 2 none ∈ tg := tb_at 723 (by decide +kernel)
abbrev qX10_back : List Cond := Cond.code yX10_back cX10_back 2 (some .int) :: tg
theorem cdX10_back : Cond.code yX10_back cX10_back 2 (some .int) ∈ tg := tb_at 727 (by decide +kernel)
abbrev qX3_bringBack : List Cond := Cond.code yX3_bringBack cX3_bringBack 2 none :: tg
theorem cdX3_bringBack : Cond.code yX3_bringBack cX3_bringBack 2 none ∈ tg := tb_at 731 (by decide +kernel)
abbrev qX10_loads : List Cond := Cond.code yX10_loads cX10_loads 3 (some .int) :: tg
theorem cdX10_loads : Cond.code yX10_loads cX10_loads 3 (some .int) ∈ tg := tb_at 736 (by decide +kernel)
abbrev qX6_make : List Cond := Cond.code yX6_make cX6_make 5 none :: tg
theorem cdX6_make : Cond.code yX6_make cX6_make 5 none ∈ tg := tb_at 740 (by decide +kernel)
abbrev qX3_wishesOfAll : List Cond := Cond.code yX3_wishesOfAll cX3_wishesOfAll 4 (some .int) :: tg
theorem cdX3_wishesOfAll : Cond.code yX3_wishesOfAll cX3_wishesOfAll 4 (some .int) ∈ tg := tb_at 745 (by decide +kernel)
abbrev qX3_isSure : List Cond := Cond.code yX3_isSure cX3_isSure 4 (some .boolean) :: tg
theorem cdX3_isSure : Cond.code yX3_isSure cX3_isSure 4 (some .boolean) ∈ tg := tb_at 749 (by decide +kernel)
abbrev qX6_take : List Cond := Cond.code yX6_take cX6_take 4 none :: tg
theorem cdX6_take : Cond.code yX6_take cX6_take 4 none ∈ tg := tb_at 753 (by decide +kernel)
abbrev qX10_weighed : List Cond := Cond.code yX10_weighed cX10_weighed 5 (some .int) :: tg
theorem cdX10_weighed : Cond.code yX10_weighed cX10_weighed 5 (some .int) ∈ tg := tb_at 757 (by decide +kernel)
abbrev qX10_isBank : List Cond := Cond.code yX10_isBank cX10_isBank 1 (some .boolean) :: tg
theorem cdX10_isBank : Cond.code yX10_isBank cX10_isBank 1 (some .boolean) ∈ tg := tb_at 760 (by decide +kernel)
abbrev qX10_hats : List Cond := Cond.code yX10_hats cX10_hats 5 (some .int) :: tg
theorem cdX10_hats : Cond.code yX10_hats cX10_hats 5 (some .int) ∈ tg := tb_at 765 (by decide +kernel)
abbrev qX3_fewestHatsOff : List Cond := Cond.code yX3_fewestHatsOff cX3_fewestHatsOff 6 (some .int) :: tg
theorem cdX3_fewestHatsOff : Cond.code yX3_fewestHatsOff cX3_fewestHatsOff 6 (some .int) ∈ tg := tb_at 769 (by decide +kernel)
abbrev qX3_hatsOfAll : List Cond := Cond.code yX3_hatsOfAll cX3_hatsOfAll 4 (some .int) :: tg
theorem cdX3_hatsOfAll : Cond.code yX3_hatsOfAll cX3_hatsOfAll 4 (some .int) ∈ tg := tb_at 773 (by decide +kernel)
abbrev qX10_stones : List Cond := Cond.code yX10_stones cX10_stones 4 (some .int) :: tg
theorem cdX10_stones : Cond.code yX10_stones cX10_stones 4 (some .int) ∈ tg := tb_at 778 (by decide +kernel)
abbrev qX3_fewestStones : List Cond := Cond.code yX3_fewestStones cX3_fewestStones 7 (some .int) :: tg
theorem cdX3_fewestStones : Cond.code yX3_fewestStones cX3_fewestStones 7 (some .int) ∈ tg := tb_at 782 (by decide +kernel)
abbrev qX10_sure : List Cond := Cond.code yX10_sure cX10_sure 2 (some .int) :: tg
theorem cdX10_sure : Cond.code yX10_sure cX10_sure 2 (some .int) ∈ tg := tb_at 786 (by decide +kernel)
abbrev qX10_aboard : List Cond := Cond.code yX10_aboard cX10_aboard 5 (some .int) :: tg
theorem cdX10_aboard : Cond.code yX10_aboard cX10_aboard 5 (some .int) ∈ tg := tb_at 790 (by decide +kernel)
abbrev qX10_fewest : List Cond := Cond.code yX10_fewest cX10_fewest 5 (some .int) :: tg
theorem cdX10_fewest : Cond.code yX10_fewest cX10_fewest 5 (some .int) ∈ tg := tb_at 794 (by decide +kernel)
abbrev qX4_find : List Cond := Cond.code yX4_find cX4_find 8 (some .int) :: tg
theorem cdX4_find : Cond.code yX4_find cX4_find 8 (some .int) ∈ tg := tb_at 798 (by decide +kernel)
abbrev qX4_clear : List Cond := Cond.code yX4_clear cX4_clear 2 none :: tg
theorem cdX4_clear : Cond.code yX4_clear cX4_clear 2 none ∈ tg := tb_at 802 (by decide +kernel)
abbrev qJ7_fill_53178 : List Cond := Cond.code yJ7_fill_53178 cJ7_fill_53178 4 none :: tg
theorem cdJ7_fill_53178 : Cond.code yJ7_fill_53178 cJ7_fill_53178 4 none ∈ tg := tb_at 806 (by decide +kernel)
abbrev qX4_listFits : List Cond := Cond.code yX4_listFits cX4_listFits 3 none :: tg
theorem cdX4_listFits : Cond.code yX4_listFits cX4_listFits 3 none ∈ tg := tb_at 810 (by decide +kernel)
abbrev qX4_reach : List Cond := Cond.code yX4_reach cX4_reach 5 none :: tg
theorem cdX4_reach : Cond.code yX4_reach cX4_reach 5 none ∈ tg := tb_at 815 (by decide +kernel)
abbrev qX4_cheapestQueue : List Cond := Cond.code yX4_cheapestQueue cX4_cheapestQueue 4 (some .int) :: tg
theorem cdX4_cheapestQueue : Cond.code yX4_cheapestQueue cX4_cheapestQueue 4 (some .int) ∈ tg := tb_at 819 (by decide +kernel)
abbrev qX4_spread : List Cond := Cond.code yX4_spread cX4_spread 9 none :: tg
theorem cdX4_spread : Cond.code yX4_spread cX4_spread 9 none ∈ tg := tb_at 824 (by decide +kernel)
abbrev qX4_costOf : List Cond := Cond.code yX4_costOf cX4_costOf 2 (some .int) :: tg
theorem cdX4_costOf : Cond.code yX4_costOf cX4_costOf 2 (some .int) ∈ tg := tb_at 831 (by decide +kernel)
abbrev qX4_crossingTo : List Cond := Cond.code yX4_crossingTo cX4_crossingTo 5 (some .int) :: tg
theorem cdX4_crossingTo : Cond.code yX4_crossingTo cX4_crossingTo 5 (some .int) ∈ tg := tb_at 835 (by decide +kernel)
abbrev qX10_soonest : List Cond := Cond.code yX10_soonest cX10_soonest 3 (some .int) :: tg
theorem cdX10_soonest : Cond.code yX10_soonest cX10_soonest 3 (some .int) ∈ tg := tb_at 839 (by decide +kernel)
abbrev qX10_row : List Cond := Cond.code yX10_row cX10_row 3 (some .int) :: tg
theorem cdX10_row : Cond.code yX10_row cX10_row 3 (some .int) ∈ tg := tb_at 843 (by decide +kernel)
abbrev qX10_burn : List Cond := Cond.code yX10_burn cX10_burn 2 (some .int) :: tg
theorem cdX10_burn : Cond.code yX10_burn cX10_burn 2 (some .int) ∈ tg := tb_at 847 (by decide +kernel)
abbrev qX10_judge : List Cond := Cond.code yX10_judge cX10_judge 3 (some .int) :: tg
theorem cdX10_judge : Cond.code yX10_judge cX10_judge 3 (some .int) ∈ tg := tb_at 851 (by decide +kernel)
abbrev qX10_count : List Cond := Cond.code yX10_count cX10_count 2 (some .int) :: tg
theorem cdX10_count : Cond.code yX10_count cX10_count 2 (some .int) ∈ tg := tb_at 855 (by decide +kernel)
abbrev qX11_init : List Cond := Cond.code yX11_init cX11_init 1 none :: tg
theorem cdX11_init : Cond.code yX11_init cX11_init 1 none ∈ tg := tb_at 860 (by decide +kernel)
abbrev qX11_write : List Cond := Cond.code yX11_write cX11_write 5 (some .int) :: tg
theorem cdX11_write : Cond.code yX11_write cX11_write 5 (some .int) ∈ tg := tb_at 960 (by decide +kernel)
abbrev qX11_in : List Cond := Cond.code yX11_in cX11_in 3 (some .boolean) :: tg
theorem cdX11_in : Cond.code yX11_in cX11_in 3 (some .boolean) ∈ tg := tb_at 963 (by decide +kernel)
abbrev qX11_erase : List Cond := Cond.code yX11_erase cX11_erase 2 (some .int) :: tg
theorem cdX11_erase : Cond.code yX11_erase cX11_erase 2 (some .int) ∈ tg := tb_at 968 (by decide +kernel)
abbrev qX11_fault : List Cond := Cond.code yX11_fault cX11_fault 1 (some .int) :: tg
theorem cdX11_fault : Cond.code yX11_fault cX11_fault 1 (some .int) ∈ tg := tb_at 972 (by decide +kernel)
abbrev qX11_isRead : List Cond := Cond.code yX11_isRead cX11_isRead 2 (some .boolean) :: tg
theorem cdX11_isRead : Cond.code yX11_isRead cX11_isRead 2 (some .boolean) ∈ tg := tb_at 976 (by decide +kernel)
abbrev qX11_isLine : List Cond := Cond.code yX11_isLine cX11_isLine 4 (some .boolean) :: tg
theorem cdX11_isLine : Cond.code yX11_isLine cX11_isLine 4 (some .boolean) ∈ tg := tb_at 980 (by decide +kernel)
abbrev qX11_nextToken : List Cond := Cond.code yX11_nextToken cX11_nextToken 1 none :: tg
theorem cdX11_nextToken : Cond.code yX11_nextToken cX11_nextToken 1 none ∈ tg := tb_at 984 (by decide +kernel)
abbrev qX11_isThingLine : List Cond := Cond.code yX11_isThingLine cX11_isThingLine 2 (some .boolean) :: tg
theorem cdX11_isThingLine : Cond.code yX11_isThingLine cX11_isThingLine 2 (some .boolean) ∈ tg := tb_at 1005 (by decide +kernel)
abbrev qX11_fails : List Cond := Cond.code yX11_fails cX11_fails 1 (some .boolean) :: tg
theorem cdX11_fails : Cond.code yX11_fails cX11_fails 1 (some .boolean) ∈ tg := tb_at 1009 (by decide +kernel)
abbrev qX11_isNumber : List Cond := Cond.code yX11_isNumber cX11_isNumber 4 (some .boolean) :: tg
theorem cdX11_isNumber : Cond.code yX11_isNumber cX11_isNumber 4 (some .boolean) ∈ tg := tb_at 1013 (by decide +kernel)
abbrev qX11_isFerryLine : List Cond := Cond.code yX11_isFerryLine cX11_isFerryLine 2 (some .boolean) :: tg
theorem cdX11_isFerryLine : Cond.code yX11_isFerryLine cX11_isFerryLine 2 (some .boolean) ∈ tg := tb_at 1017 (by decide +kernel)
abbrev qX11_isHat : List Cond := Cond.code yX11_isHat cX11_isHat 2 (some .boolean) :: tg
theorem cdX11_isHat : Cond.code yX11_isHat cX11_isHat 2 (some .boolean) ∈ tg := tb_at 1021 (by decide +kernel)
abbrev qX11_shore : List Cond := Cond.code yX11_shore cX11_shore 2 (some .int) :: tg
theorem cdX11_shore : Cond.code yX11_shore cX11_shore 2 (some .int) ∈ tg := tb_at 1025 (by decide +kernel)
abbrev qX11_doLine : List Cond := Cond.code yX11_doLine cX11_doLine 5 none :: tg
theorem cdX11_doLine : Cond.code yX11_doLine cX11_doLine 5 none ∈ tg := tb_at 1029 (by decide +kernel)
abbrev qX11_thing : List Cond := Cond.code yX11_thing cX11_thing 3 (some .int) :: tg
theorem cdX11_thing : Cond.code yX11_thing cX11_thing 3 (some .int) ∈ tg := tb_at 1033 (by decide +kernel)
abbrev qX11_isThing : List Cond := Cond.code yX11_isThing cX11_isThing 2 (some .boolean) :: tg
theorem cdX11_isThing : Cond.code yX11_isThing cX11_isThing 2 (some .boolean) ∈ tg := tb_at 1037 (by decide +kernel)
abbrev qX11_has : List Cond := Cond.code yX11_has cX11_has 2 (some .boolean) :: tg
theorem cdX11_has : Cond.code yX11_has cX11_has 2 (some .boolean) ∈ tg := tb_at 1040 (by decide +kernel)
abbrev qX11_poundsOf : List Cond := Cond.code yX11_poundsOf cX11_poundsOf 3 (some .int) :: tg
theorem cdX11_poundsOf : Cond.code yX11_poundsOf cX11_poundsOf 3 (some .int) ∈ tg := tb_at 1044 (by decide +kernel)
abbrev qX11_ferry : List Cond := Cond.code yX11_ferry cX11_ferry 3 (some .int) :: tg
theorem cdX11_ferry : Cond.code yX11_ferry cX11_ferry 3 (some .int) ∈ tg := tb_at 1048 (by decide +kernel)
abbrev qX11_isFerry : List Cond := Cond.code yX11_isFerry cX11_isFerry 2 (some .boolean) :: tg
theorem cdX11_isFerry : Cond.code yX11_isFerry cX11_isFerry 2 (some .boolean) ∈ tg := tb_at 1052 (by decide +kernel)
abbrev qX11_numberOf : List Cond := Cond.code yX11_numberOf cX11_numberOf 4 (some .int) :: tg
theorem cdX11_numberOf : Cond.code yX11_numberOf cX11_numberOf 4 (some .int) ∈ tg := tb_at 1056 (by decide +kernel)
abbrev qX11_as : List Cond := Cond.code yX11_as cX11_as 5 (some .int) :: tg
theorem cdX11_as : Cond.code yX11_as cX11_as 5 (some .int) ∈ tg := tb_at 1060 (by decide +kernel)
abbrev qX11_right : List Cond := Cond.code yX11_right cX11_right 3 (some .int) :: tg
theorem cdX11_right : Cond.code yX11_right cX11_right 3 (some .int) ∈ tg := tb_at 1064 (by decide +kernel)
abbrev qX11_isSet : List Cond := Cond.code yX11_isSet cX11_isSet 2 (some .boolean) :: tg
theorem cdX11_isSet : Cond.code yX11_isSet cX11_isSet 2 (some .boolean) ∈ tg := tb_at 1068 (by decide +kernel)
abbrev qX11_isRight : List Cond := Cond.code yX11_isRight cX11_isRight 6 (some .boolean) :: tg
theorem cdX11_isRight : Cond.code yX11_isRight cX11_isRight 6 (some .boolean) ∈ tg := tb_at 1072 (by decide +kernel)
abbrev qX11_canBoard : List Cond := Cond.code yX11_canBoard cX11_canBoard 7 (some .boolean) :: tg
theorem cdX11_canBoard : Cond.code yX11_canBoard cX11_canBoard 7 (some .boolean) ∈ tg := tb_at 1076 (by decide +kernel)
abbrev qX11_bits : List Cond := Cond.code yX11_bits cX11_bits 3 (some .int) :: tg
theorem cdX11_bits : Cond.code yX11_bits cX11_bits 3 (some .int) ∈ tg := tb_at 1079 (by decide +kernel)
abbrev qX11_poundsOfAll : List Cond := Cond.code yX11_poundsOfAll cX11_poundsOfAll 5 (some .int) :: tg
theorem cdX11_poundsOfAll : Cond.code yX11_poundsOfAll cX11_poundsOfAll 5 (some .int) ∈ tg := tb_at 1083 (by decide +kernel)
abbrev qX11_fitsBy : List Cond := Cond.code yX11_fitsBy cX11_fitsBy 5 (some .boolean) :: tg
theorem cdX11_fitsBy : Cond.code yX11_fitsBy cX11_fitsBy 5 (some .boolean) ∈ tg := tb_at 1087 (by decide +kernel)
abbrev qX11_cross : List Cond := Cond.code yX11_cross cX11_cross 3 (some .int) :: tg
theorem cdX11_cross : Cond.code yX11_cross cX11_cross 3 (some .int) ∈ tg := tb_at 1091 (by decide +kernel)
abbrev qX11_doff : List Cond := Cond.code yX11_doff cX11_doff 2 (some .int) :: tg
theorem cdX11_doff : Cond.code yX11_doff cX11_doff 2 (some .int) ∈ tg := tb_at 1095 (by decide +kernel)
abbrev qX11_noon : List Cond := Cond.code yX11_noon cX11_noon 1 (some .int) :: tg
theorem cdX11_noon : Cond.code yX11_noon cX11_noon 1 (some .int) ∈ tg := tb_at 1099 (by decide +kernel)
abbrev qX11_keep : List Cond := Cond.code yX11_keep cX11_keep 2 (some .int) :: tg
theorem cdX11_keep : Cond.code yX11_keep cX11_keep 2 (some .int) ∈ tg := tb_at 1103 (by decide +kernel)
abbrev qX11_back : List Cond := Cond.code yX11_back cX11_back 2 (some .int) :: tg
theorem cdX11_back : Cond.code yX11_back cX11_back 2 (some .int) ∈ tg := tb_at 1107 (by decide +kernel)
abbrev qX11_loads : List Cond := Cond.code yX11_loads cX11_loads 7 (some .int) :: tg
theorem cdX11_loads : Cond.code yX11_loads cX11_loads 7 (some .int) ∈ tg := tb_at 1111 (by decide +kernel)
abbrev qX11_wishes : List Cond := Cond.code yX11_wishes cX11_wishes 4 (some .int) :: tg
theorem cdX11_wishes : Cond.code yX11_wishes cX11_wishes 4 (some .int) ∈ tg := tb_at 1115 (by decide +kernel)
abbrev qX11_weighed : List Cond := Cond.code yX11_weighed cX11_weighed 6 (some .int) :: tg
theorem cdX11_weighed : Cond.code yX11_weighed cX11_weighed 6 (some .int) ∈ tg := tb_at 1119 (by decide +kernel)
abbrev qX11_isBank : List Cond := Cond.code yX11_isBank cX11_isBank 1 (some .boolean) :: tg
theorem cdX11_isBank : Cond.code yX11_isBank cX11_isBank 1 (some .boolean) ∈ tg := tb_at 1122 (by decide +kernel)
abbrev qX11_hats : List Cond := Cond.code yX11_hats cX11_hats 8 (some .int) :: tg
theorem cdX11_hats : Cond.code yX11_hats cX11_hats 8 (some .int) ∈ tg := tb_at 1126 (by decide +kernel)
abbrev qX11_stones : List Cond := Cond.code yX11_stones cX11_stones 6 (some .int) :: tg
theorem cdX11_stones : Cond.code yX11_stones cX11_stones 6 (some .int) ∈ tg := tb_at 1130 (by decide +kernel)
abbrev qX11_sure : List Cond := Cond.code yX11_sure cX11_sure 6 (some .int) :: tg
theorem cdX11_sure : Cond.code yX11_sure cX11_sure 6 (some .int) ∈ tg := tb_at 1134 (by decide +kernel)
abbrev qX11_aboard : List Cond := Cond.code yX11_aboard cX11_aboard 9 (some .int) :: tg
theorem cdX11_aboard : Cond.code yX11_aboard cX11_aboard 9 (some .int) ∈ tg := tb_at 1138 (by decide +kernel)
abbrev qX11_fewest : List Cond := Cond.code yX11_fewest cX11_fewest 5 (some .int) :: tg
theorem cdX11_fewest : Cond.code yX11_fewest cX11_fewest 5 (some .int) ∈ tg := tb_at 1142 (by decide +kernel)
abbrev qX11_goThrough : List Cond := Cond.code yX11_goThrough cX11_goThrough 10 (some .int) :: tg
theorem cdX11_goThrough : Cond.code yX11_goThrough cX11_goThrough 10 (some .int) ∈ tg := tb_at 1146 (by decide +kernel)
abbrev qX11_isOver : List Cond := Cond.code yX11_isOver cX11_isOver 3 (some .boolean) :: tg
theorem cdX11_isOver : Cond.code yX11_isOver cX11_isOver 3 (some .boolean) ∈ tg := tb_at 1149 (by decide +kernel)
abbrev qX11_soonest : List Cond := Cond.code yX11_soonest cX11_soonest 7 (some .int) :: tg
theorem cdX11_soonest : Cond.code yX11_soonest cX11_soonest 7 (some .int) ∈ tg := tb_at 1153 (by decide +kernel)
abbrev qX11_row : List Cond := Cond.code yX11_row cX11_row 3 (some .int) :: tg
theorem cdX11_row : Cond.code yX11_row cX11_row 3 (some .int) ∈ tg := tb_at 1158 (by decide +kernel)
abbrev qX11_burn : List Cond := Cond.code yX11_burn cX11_burn 2 (some .int) :: tg
theorem cdX11_burn : Cond.code yX11_burn cX11_burn 2 (some .int) ∈ tg := tb_at 1162 (by decide +kernel)
abbrev qX11_judge : List Cond := Cond.code yX11_judge cX11_judge 4 (some .int) :: tg
theorem cdX11_judge : Cond.code yX11_judge cX11_judge 4 (some .int) ∈ tg := tb_at 1166 (by decide +kernel)
abbrev qX11_count : List Cond := Cond.code yX11_count cX11_count 2 (some .int) :: tg
theorem cdX11_count : Cond.code yX11_count cX11_count 2 (some .int) ∈ tg := tb_at 1170 (by decide +kernel)
theorem flX7_9 : Cond.fieldLink RX7 9 "NumberFerries$Text" "bytes" "[I" ∈ tg := tb_at 36 (by decide +kernel)
theorem flX7_15 : Cond.fieldLink RX7 15 "NumberFerries$Text" "length" "I" ∈ tg := tb_at 37 (by decide +kernel)
theorem flX10_63 : Cond.fieldLink RX10 63 "NumberFerries$Text" "length" "I" ∈ tg := tb_at 38 (by decide +kernel)
theorem flX2_123 : Cond.fieldLink RX2 123 "NumberFerries$Text" "length" "I" ∈ tg := tb_at 39 (by decide +kernel)
theorem flX5_7 : Cond.fieldLink RX5 7 "NumberFerries$Stand" "made" "Z" ∈ tg := tb_at 62 (by decide +kernel)
theorem flX10_96 : Cond.fieldLink RX10 96 "NumberFerries$Stand" "made" "Z" ∈ tg := tb_at 63 (by decide +kernel)
theorem flX5_13 : Cond.fieldLink RX5 13 "NumberFerries$Stand" "banks" "I" ∈ tg := tb_at 64 (by decide +kernel)
theorem flX4_56 : Cond.fieldLink RX4 56 "NumberFerries$Stand" "banks" "I" ∈ tg := tb_at 65 (by decide +kernel)
theorem flX6_46 : Cond.fieldLink RX6 46 "NumberFerries$Stand" "banks" "I" ∈ tg := tb_at 66 (by decide +kernel)
theorem flX10_120 : Cond.fieldLink RX10 120 "NumberFerries$Stand" "banks" "I" ∈ tg := tb_at 67 (by decide +kernel)
theorem flX3_112 : Cond.fieldLink RX3 112 "NumberFerries$Stand" "banks" "I" ∈ tg := tb_at 68 (by decide +kernel)
theorem flX5_17 : Cond.fieldLink RX5 17 "NumberFerries$Stand" "hatsOff" "I" ∈ tg := tb_at 69 (by decide +kernel)
theorem flX3_126 : Cond.fieldLink RX3 126 "NumberFerries$Stand" "hatsOff" "I" ∈ tg := tb_at 70 (by decide +kernel)
theorem flX5_20 : Cond.fieldLink RX5 20 "NumberFerries$Stand" "afternoon" "Z" ∈ tg := tb_at 71 (by decide +kernel)
theorem flX10_149 : Cond.fieldLink RX10 149 "NumberFerries$Stand" "afternoon" "Z" ∈ tg := tb_at 72 (by decide +kernel)
theorem flX3_129 : Cond.fieldLink RX3 129 "NumberFerries$Stand" "afternoon" "Z" ∈ tg := tb_at 73 (by decide +kernel)
theorem flX5_23 : Cond.fieldLink RX5 23 "NumberFerries$Stand" "crossings" "I" ∈ tg := tb_at 74 (by decide +kernel)
theorem flX3_132 : Cond.fieldLink RX3 132 "NumberFerries$Stand" "crossings" "I" ∈ tg := tb_at 75 (by decide +kernel)
theorem flX10_185 : Cond.fieldLink RX10 185 "NumberFerries$Stand" "crossings" "I" ∈ tg := tb_at 76 (by decide +kernel)
theorem flX8_9 : Cond.fieldLink RX8 9 "NumberFerries$Thing" "kind" "I" ∈ tg := tb_at 93 (by decide +kernel)
theorem flX10_108 : Cond.fieldLink RX10 108 "NumberFerries$Thing" "kind" "I" ∈ tg := tb_at 94 (by decide +kernel)
theorem flX3_118 : Cond.fieldLink RX3 118 "NumberFerries$Thing" "kind" "I" ∈ tg := tb_at 95 (by decide +kernel)
theorem flX8_15 : Cond.fieldLink RX8 15 "NumberFerries$Thing" "weight" "I" ∈ tg := tb_at 96 (by decide +kernel)
theorem flX10_113 : Cond.fieldLink RX10 113 "NumberFerries$Thing" "weight" "I" ∈ tg := tb_at 97 (by decide +kernel)
theorem flX3_142 : Cond.fieldLink RX3 142 "NumberFerries$Thing" "weight" "I" ∈ tg := tb_at 98 (by decide +kernel)
theorem flX8_18 : Cond.fieldLink RX8 18 "NumberFerries$Thing" "bank" "I" ∈ tg := tb_at 99 (by decide +kernel)
theorem flX3_115 : Cond.fieldLink RX3 115 "NumberFerries$Thing" "bank" "I" ∈ tg := tb_at 100 (by decide +kernel)
theorem flX8_21 : Cond.fieldLink RX8 21 "NumberFerries$Thing" "hat" "I" ∈ tg := tb_at 101 (by decide +kernel)
theorem flX10_123 : Cond.fieldLink RX10 123 "NumberFerries$Thing" "hat" "I" ∈ tg := tb_at 102 (by decide +kernel)
theorem flX3_97 : Cond.fieldLink RX3 97 "NumberFerries$Thing" "hat" "I" ∈ tg := tb_at 103 (by decide +kernel)
theorem flX8_24 : Cond.fieldLink RX8 24 "NumberFerries$Thing" "wish" "I" ∈ tg := tb_at 104 (by decide +kernel)
theorem flX10_129 : Cond.fieldLink RX10 129 "NumberFerries$Thing" "wish" "I" ∈ tg := tb_at 105 (by decide +kernel)
theorem flX3_103 : Cond.fieldLink RX3 103 "NumberFerries$Thing" "wish" "I" ∈ tg := tb_at 106 (by decide +kernel)
theorem flX8_27 : Cond.fieldLink RX8 27 "NumberFerries$Thing" "unsure" "Z" ∈ tg := tb_at 107 (by decide +kernel)
theorem flX10_132 : Cond.fieldLink RX10 132 "NumberFerries$Thing" "unsure" "Z" ∈ tg := tb_at 108 (by decide +kernel)
theorem flX3_109 : Cond.fieldLink RX3 109 "NumberFerries$Thing" "unsure" "Z" ∈ tg := tb_at 109 (by decide +kernel)
theorem flX0_9 : Cond.fieldLink RX0 9 "NumberFerries$Ferry" "kind" "I" ∈ tg := tb_at 128 (by decide +kernel)
theorem flX10_146 : Cond.fieldLink RX10 146 "NumberFerries$Ferry" "kind" "I" ∈ tg := tb_at 129 (by decide +kernel)
theorem flX0_15 : Cond.fieldLink RX0 15 "NumberFerries$Ferry" "number" "I" ∈ tg := tb_at 130 (by decide +kernel)
theorem flX0_18 : Cond.fieldLink RX0 18 "NumberFerries$Ferry" "bank" "I" ∈ tg := tb_at 131 (by decide +kernel)
theorem flX3_125 : Cond.fieldLink RX3 125 "NumberFerries$Ferry" "bank" "I" ∈ tg := tb_at 132 (by decide +kernel)
theorem flX0_21 : Cond.fieldLink RX0 21 "NumberFerries$Ferry" "room" "I" ∈ tg := tb_at 133 (by decide +kernel)
theorem flX10_160 : Cond.fieldLink RX10 160 "NumberFerries$Ferry" "room" "I" ∈ tg := tb_at 134 (by decide +kernel)
theorem flX3_165 : Cond.fieldLink RX3 165 "NumberFerries$Ferry" "room" "I" ∈ tg := tb_at 135 (by decide +kernel)
theorem flX0_24 : Cond.fieldLink RX0 24 "NumberFerries$Ferry" "minutes" "I" ∈ tg := tb_at 136 (by decide +kernel)
theorem flX4_77 : Cond.fieldLink RX4 77 "NumberFerries$Ferry" "minutes" "I" ∈ tg := tb_at 137 (by decide +kernel)
theorem flX10_163 : Cond.fieldLink RX10 163 "NumberFerries$Ferry" "minutes" "I" ∈ tg := tb_at 138 (by decide +kernel)
theorem flX3_11 : Cond.fieldLink RX3 11 "NumberFerries$River" "things" "[LNumberFerries$Thing;" ∈ tg := tb_at 150 (by decide +kernel)
theorem flX10_104 : Cond.fieldLink RX10 104 "NumberFerries$River" "things" "[LNumberFerries$Thing;" ∈ tg := tb_at 151 (by decide +kernel)
theorem flX3_19 : Cond.fieldLink RX3 19 "NumberFerries$River" "ferries" "[LNumberFerries$Ferry;" ∈ tg := tb_at 152 (by decide +kernel)
theorem flX4_73 : Cond.fieldLink RX4 73 "NumberFerries$River" "ferries" "[LNumberFerries$Ferry;" ∈ tg := tb_at 153 (by decide +kernel)
theorem flX10_142 : Cond.fieldLink RX10 142 "NumberFerries$River" "ferries" "[LNumberFerries$Ferry;" ∈ tg := tb_at 154 (by decide +kernel)
theorem flX3_26 : Cond.fieldLink RX3 26 "NumberFerries$River" "now" "LNumberFerries$Stand;" ∈ tg := tb_at 155 (by decide +kernel)
theorem flX4_52 : Cond.fieldLink RX4 52 "NumberFerries$River" "now" "LNumberFerries$Stand;" ∈ tg := tb_at 156 (by decide +kernel)
theorem flX6_42 : Cond.fieldLink RX6 42 "NumberFerries$River" "now" "LNumberFerries$Stand;" ∈ tg := tb_at 157 (by decide +kernel)
theorem flX10_116 : Cond.fieldLink RX10 116 "NumberFerries$River" "now" "LNumberFerries$Stand;" ∈ tg := tb_at 158 (by decide +kernel)
theorem flX3_30 : Cond.fieldLink RX3 30 "NumberFerries$River" "thingCount" "I" ∈ tg := tb_at 159 (by decide +kernel)
theorem flX2_36 : Cond.fieldLink RX2 36 "NumberFerries$River" "thingCount" "I" ∈ tg := tb_at 160 (by decide +kernel)
theorem flX6_37 : Cond.fieldLink RX6 37 "NumberFerries$River" "thingCount" "I" ∈ tg := tb_at 161 (by decide +kernel)
theorem flX4_96 : Cond.fieldLink RX4 96 "NumberFerries$River" "thingCount" "I" ∈ tg := tb_at 162 (by decide +kernel)
theorem flX10_221 : Cond.fieldLink RX10 221 "NumberFerries$River" "thingCount" "I" ∈ tg := tb_at 163 (by decide +kernel)
theorem flX3_34 : Cond.fieldLink RX3 34 "NumberFerries$River" "ferryCount" "I" ∈ tg := tb_at 164 (by decide +kernel)
theorem flX4_42 : Cond.fieldLink RX4 42 "NumberFerries$River" "ferryCount" "I" ∈ tg := tb_at 165 (by decide +kernel)
theorem flX2_48 : Cond.fieldLink RX2 48 "NumberFerries$River" "ferryCount" "I" ∈ tg := tb_at 166 (by decide +kernel)
theorem flX10_264 : Cond.fieldLink RX10 264 "NumberFerries$River" "ferryCount" "I" ∈ tg := tb_at 167 (by decide +kernel)
theorem flX3_37 : Cond.fieldLink RX3 37 "NumberFerries$River" "persons" "I" ∈ tg := tb_at 168 (by decide +kernel)
theorem flX3_40 : Cond.fieldLink RX3 40 "NumberFerries$River" "withHats" "I" ∈ tg := tb_at 169 (by decide +kernel)
theorem flX2_44 : Cond.fieldLink RX2 44 "NumberFerries$River" "withHats" "I" ∈ tg := tb_at 170 (by decide +kernel)
theorem flX3_43 : Cond.fieldLink RX3 43 "NumberFerries$River" "unsure" "I" ∈ tg := tb_at 171 (by decide +kernel)
theorem flX3_46 : Cond.fieldLink RX3 46 "NumberFerries$River" "poundsBy" "[I" ∈ tg := tb_at 172 (by decide +kernel)
theorem flX1_9 : Cond.fieldLink RX1 9 "NumberFerries$Word" "SHORE" "LNumberFerries$Word;" ∈ tg := tb_at 205 (by decide +kernel)
theorem flX1_15 : Cond.fieldLink RX1 15 "NumberFerries$Line" "word" "LNumberFerries$Word;" ∈ tg := tb_at 207 (by decide +kernel)
theorem flX2_76 : Cond.fieldLink RX2 76 "NumberFerries$Line" "word" "LNumberFerries$Word;" ∈ tg := tb_at 208 (by decide +kernel)
theorem flX3_57 : Cond.fieldLink RX3 57 "NumberFerries$Line" "word" "LNumberFerries$Word;" ∈ tg := tb_at 209 (by decide +kernel)
theorem flX1_20 : Cond.fieldLink RX1 20 "NumberFerries$Line" "numbers" "[I" ∈ tg := tb_at 210 (by decide +kernel)
theorem flX2_103 : Cond.fieldLink RX2 103 "NumberFerries$Line" "numbers" "[I" ∈ tg := tb_at 211 (by decide +kernel)
theorem flX3_52 : Cond.fieldLink RX3 52 "NumberFerries$Line" "numbers" "[I" ∈ tg := tb_at 212 (by decide +kernel)
theorem flX2_11 : Cond.fieldLink RX2 11 "NumberFerries$Reader" "lines" "[LNumberFerries$Line;" ∈ tg := tb_at 218 (by decide +kernel)
theorem flX10_85 : Cond.fieldLink RX10 85 "NumberFerries$Reader" "lines" "[LNumberFerries$Line;" ∈ tg := tb_at 219 (by decide +kernel)
theorem flX2_17 : Cond.fieldLink RX2 17 "NumberFerries$Reader" "lineCount" "I" ∈ tg := tb_at 220 (by decide +kernel)
theorem flX10_82 : Cond.fieldLink RX10 82 "NumberFerries$Reader" "lineCount" "I" ∈ tg := tb_at 221 (by decide +kernel)
theorem flX2_21 : Cond.fieldLink RX2 21 "NumberFerries$Reader" "fault" "I" ∈ tg := tb_at 222 (by decide +kernel)
theorem flX10_79 : Cond.fieldLink RX10 79 "NumberFerries$Reader" "fault" "I" ∈ tg := tb_at 223 (by decide +kernel)
theorem flX2_24 : Cond.fieldLink RX2 24 "NumberFerries$Reader" "text" "LNumberFerries$Text;" ∈ tg := tb_at 224 (by decide +kernel)
theorem flX2_28 : Cond.fieldLink RX2 28 "NumberFerries$Reader" "river" "LNumberFerries$River;" ∈ tg := tb_at 225 (by decide +kernel)
theorem flX2_114 : Cond.fieldLink RX2 114 "NumberFerries$Reader" "begin" "I" ∈ tg := tb_at 226 (by decide +kernel)
theorem flX2_33 : Cond.fieldLink RX2 33 "NumberFerries$Reader" "end" "I" ∈ tg := tb_at 227 (by decide +kernel)
theorem flX2_111 : Cond.fieldLink RX2 111 "NumberFerries$Reader" "sort" "I" ∈ tg := tb_at 228 (by decide +kernel)
theorem flX2_41 : Cond.fieldLink RX2 41 "NumberFerries$Reader" "things" "I" ∈ tg := tb_at 229 (by decide +kernel)
theorem flX2_47 : Cond.fieldLink RX2 47 "NumberFerries$Reader" "withHats" "I" ∈ tg := tb_at 230 (by decide +kernel)
theorem flX2_51 : Cond.fieldLink RX2 51 "NumberFerries$Reader" "ferries" "I" ∈ tg := tb_at 231 (by decide +kernel)
theorem flX6_9 : Cond.fieldLink RX6 9 "NumberFerries$Survey" "river" "LNumberFerries$River;" ∈ tg := tb_at 261 (by decide +kernel)
theorem flX6_15 : Cond.fieldLink RX6 15 "NumberFerries$Survey" "howMany" "I" ∈ tg := tb_at 262 (by decide +kernel)
theorem flX10_206 : Cond.fieldLink RX10 206 "NumberFerries$Survey" "howMany" "I" ∈ tg := tb_at 263 (by decide +kernel)
theorem flX6_19 : Cond.fieldLink RX6 19 "NumberFerries$Survey" "howManySure" "I" ∈ tg := tb_at 264 (by decide +kernel)
theorem flX10_239 : Cond.fieldLink RX10 239 "NumberFerries$Survey" "howManySure" "I" ∈ tg := tb_at 265 (by decide +kernel)
theorem flX6_22 : Cond.fieldLink RX6 22 "NumberFerries$Survey" "least" "I" ∈ tg := tb_at 266 (by decide +kernel)
theorem flX10_209 : Cond.fieldLink RX10 209 "NumberFerries$Survey" "least" "I" ∈ tg := tb_at 267 (by decide +kernel)
theorem flX6_25 : Cond.fieldLink RX6 25 "NumberFerries$Survey" "mostWished" "I" ∈ tg := tb_at 268 (by decide +kernel)
theorem flX10_212 : Cond.fieldLink RX10 212 "NumberFerries$Survey" "mostWished" "I" ∈ tg := tb_at 269 (by decide +kernel)
theorem flX6_28 : Cond.fieldLink RX6 28 "NumberFerries$Survey" "mostWishes" "I" ∈ tg := tb_at 270 (by decide +kernel)
theorem flX10_215 : Cond.fieldLink RX10 215 "NumberFerries$Survey" "mostWishes" "I" ∈ tg := tb_at 271 (by decide +kernel)
theorem flX6_31 : Cond.fieldLink RX6 31 "NumberFerries$Survey" "inAny" "I" ∈ tg := tb_at 272 (by decide +kernel)
theorem flX10_242 : Cond.fieldLink RX10 242 "NumberFerries$Survey" "inAny" "I" ∈ tg := tb_at 273 (by decide +kernel)
theorem flX6_34 : Cond.fieldLink RX6 34 "NumberFerries$Survey" "inAll" "I" ∈ tg := tb_at 274 (by decide +kernel)
theorem flX10_245 : Cond.fieldLink RX10 245 "NumberFerries$Survey" "inAll" "I" ∈ tg := tb_at 275 (by decide +kernel)
theorem flX4_35 : Cond.fieldLink RX4 35 "NumberFerries$Search" "river" "LNumberFerries$River;" ∈ tg := tb_at 299 (by decide +kernel)
theorem flX4_11 : Cond.fieldLink RX4 11 "NumberFerries$Search" "fits" "[I" ∈ tg := tb_at 300 (by decide +kernel)
theorem flX4_17 : Cond.fieldLink RX4 17 "NumberFerries$Search" "fitCount" "[I" ∈ tg := tb_at 301 (by decide +kernel)
theorem flX4_20 : Cond.fieldLink RX4 20 "NumberFerries$Search" "cost" "[I" ∈ tg := tb_at 302 (by decide +kernel)
theorem flX4_23 : Cond.fieldLink RX4 23 "NumberFerries$Search" "cameBy" "[I" ∈ tg := tb_at 303 (by decide +kernel)
theorem flX4_26 : Cond.fieldLink RX4 26 "NumberFerries$Search" "waiting" "[I" ∈ tg := tb_at 304 (by decide +kernel)
theorem flX4_29 : Cond.fieldLink RX4 29 "NumberFerries$Search" "head" "[I" ∈ tg := tb_at 305 (by decide +kernel)
theorem flX4_32 : Cond.fieldLink RX4 32 "NumberFerries$Search" "tail" "[I" ∈ tg := tb_at 306 (by decide +kernel)
theorem flX10_12 : Cond.fieldLink RX10 12 "NumberFerries" "text" "LNumberFerries$Text;" ∈ tg := tb_at 327 (by decide +kernel)
theorem flX10_19 : Cond.fieldLink RX10 19 "NumberFerries" "river" "LNumberFerries$River;" ∈ tg := tb_at 328 (by decide +kernel)
theorem flX10_28 : Cond.fieldLink RX10 28 "NumberFerries" "reader" "LNumberFerries$Reader;" ∈ tg := tb_at 329 (by decide +kernel)
theorem flX10_37 : Cond.fieldLink RX10 37 "NumberFerries" "survey" "LNumberFerries$Survey;" ∈ tg := tb_at 330 (by decide +kernel)
theorem flX10_44 : Cond.fieldLink RX10 44 "NumberFerries" "search" "LNumberFerries$Search;" ∈ tg := tb_at 331 (by decide +kernel)
theorem flX10_50 : Cond.fieldLink RX10 50 "NumberFerries" "kept" "[LNumberFerries$Stand;" ∈ tg := tb_at 332 (by decide +kernel)
theorem flX10_54 : Cond.fieldLink RX10 54 "NumberFerries" "told" "[I" ∈ tg := tb_at 333 (by decide +kernel)
theorem flX10_58 : Cond.fieldLink RX10 58 "NumberFerries" "toldCount" "I" ∈ tg := tb_at 334 (by decide +kernel)
theorem flX2_128 : Cond.fieldLink RX2 128 "NumberFerries$Reader" "WORDS" "[LNumberFerries$Word;" ∈ tg := tb_at 397 (by decide +kernel)
theorem flJ0_38 : Cond.fieldLink RJ0 38 "java/lang/String" "COMPACT_STRINGS" "Z" ∈ tg := tb_at 411 (by decide +kernel)
theorem flJ0_1053 : Cond.fieldLink RJ0 1053 "jdk/internal/util/Preconditions" "SIOOBE_FORMATTER" "Ljava/util/function/BiFunction;" ∈ tg := tb_at 427 (by decide +kernel)
theorem flJ2_44 : Cond.fieldLink RJ2 44 "java/lang/StringUTF16" "$assertionsDisabled" "Z" ∈ tg := tb_at 445 (by decide +kernel)
theorem flJ2_59 : Cond.fieldLink RJ2 59 "java/lang/StringUTF16" "HI_BYTE_SHIFT" "I" ∈ tg := tb_at 447 (by decide +kernel)
theorem flJ2_63 : Cond.fieldLink RJ2 63 "java/lang/StringUTF16" "LO_BYTE_SHIFT" "I" ∈ tg := tb_at 449 (by decide +kernel)
theorem flX2_150 : Cond.fieldLink RX2 150 "NumberFerries$Reader" "LEAST" "[I" ∈ tg := tb_at 527 (by decide +kernel)
theorem flX2_153 : Cond.fieldLink RX2 153 "NumberFerries$Reader" "MOST" "[I" ∈ tg := tb_at 529 (by decide +kernel)
theorem flX2_156 : Cond.fieldLink RX2 156 "NumberFerries$Word" "SHORE" "LNumberFerries$Word;" ∈ tg := tb_at 535 (by decide +kernel)
theorem flX3_61 : Cond.fieldLink RX3 61 "NumberFerries$Word" "SHORE" "LNumberFerries$Word;" ∈ tg := tb_at 552 (by decide +kernel)
theorem flX3_94 : Cond.fieldLink RX3 94 "NumberFerries$Word" "HAT" "LNumberFerries$Word;" ∈ tg := tb_at 576 (by decide +kernel)
theorem flX3_100 : Cond.fieldLink RX3 100 "NumberFerries$Word" "WISH" "LNumberFerries$Word;" ∈ tg := tb_at 578 (by decide +kernel)
theorem flX3_106 : Cond.fieldLink RX3 106 "NumberFerries$Word" "UNSURE" "LNumberFerries$Word;" ∈ tg := tb_at 580 (by decide +kernel)
theorem flX8_35 : Cond.fieldLink RX8 35 "NumberFerries$Thing" "OVER" "[I" ∈ tg := tb_at 638 (by decide +kernel)
theorem flX11_47 : Cond.fieldLink RX11 47 "NumberFerriesModel" "things" "I" ∈ tg := tb_at 862 (by decide +kernel)
theorem flX11_7 : Cond.fieldLink RX11 7 "NumberFerriesModel" "thing" "[I" ∈ tg := tb_at 863 (by decide +kernel)
theorem flX11_55 : Cond.fieldLink RX11 55 "NumberFerriesModel" "ferries" "I" ∈ tg := tb_at 864 (by decide +kernel)
theorem flX11_13 : Cond.fieldLink RX11 13 "NumberFerriesModel" "ferry" "[I" ∈ tg := tb_at 865 (by decide +kernel)
theorem flX11_58 : Cond.fieldLink RX11 58 "NumberFerriesModel" "bytes" "I" ∈ tg := tb_at 866 (by decide +kernel)
theorem flX11_16 : Cond.fieldLink RX11 16 "NumberFerriesModel" "text" "[I" ∈ tg := tb_at 867 (by decide +kernel)
theorem flX11_63 : Cond.fieldLink RX11 63 "NumberFerriesModel" "position" "I" ∈ tg := tb_at 868 (by decide +kernel)
theorem flX11_66 : Cond.fieldLink RX11 66 "NumberFerriesModel" "tokenAt" "I" ∈ tg := tb_at 869 (by decide +kernel)
theorem flX11_77 : Cond.fieldLink RX11 77 "NumberFerriesModel" "token" "J" ∈ tg := tb_at 870 (by decide +kernel)
theorem flX11_69 : Cond.fieldLink RX11 69 "NumberFerriesModel" "digits" "I" ∈ tg := tb_at 871 (by decide +kernel)
theorem flX11_72 : Cond.fieldLink RX11 72 "NumberFerriesModel" "number" "I" ∈ tg := tb_at 872 (by decide +kernel)
theorem flX11_91 : Cond.fieldLink RX11 91 "NumberFerriesModel" "faultAt" "I" ∈ tg := tb_at 873 (by decide +kernel)
theorem flX11_142 : Cond.fieldLink RX11 142 "NumberFerriesModel" "readMany" "I" ∈ tg := tb_at 874 (by decide +kernel)
theorem flX11_101 : Cond.fieldLink RX11 101 "NumberFerriesModel" "readThings" "I" ∈ tg := tb_at 875 (by decide +kernel)
theorem flX11_107 : Cond.fieldLink RX11 107 "NumberFerriesModel" "readFerries" "I" ∈ tg := tb_at 876 (by decide +kernel)
theorem flX11_19 : Cond.fieldLink RX11 19 "NumberFerriesModel" "readKind" "[I" ∈ tg := tb_at 877 (by decide +kernel)
theorem flX11_22 : Cond.fieldLink RX11 22 "NumberFerriesModel" "read" "[I" ∈ tg := tb_at 878 (by decide +kernel)
theorem flX11_155 : Cond.fieldLink RX11 155 "NumberFerriesModel" "over" "I" ∈ tg := tb_at 879 (by decide +kernel)
theorem flX11_158 : Cond.fieldLink RX11 158 "NumberFerriesModel" "moored" "I" ∈ tg := tb_at 880 (by decide +kernel)
theorem flX11_161 : Cond.fieldLink RX11 161 "NumberFerriesModel" "off" "I" ∈ tg := tb_at 881 (by decide +kernel)
theorem flX11_164 : Cond.fieldLink RX11 164 "NumberFerriesModel" "late" "I" ∈ tg := tb_at 882 (by decide +kernel)
theorem flX11_167 : Cond.fieldLink RX11 167 "NumberFerriesModel" "crossed" "I" ∈ tg := tb_at 883 (by decide +kernel)
theorem flX11_25 : Cond.fieldLink RX11 25 "NumberFerriesModel" "image" "[I" ∈ tg := tb_at 884 (by decide +kernel)
theorem flX11_28 : Cond.fieldLink RX11 28 "NumberFerriesModel" "isKept" "[Z" ∈ tg := tb_at 885 (by decide +kernel)
theorem flX11_170 : Cond.fieldLink RX11 170 "NumberFerriesModel" "rows" "I" ∈ tg := tb_at 886 (by decide +kernel)
theorem flX11_32 : Cond.fieldLink RX11 32 "NumberFerriesModel" "row" "[I" ∈ tg := tb_at 887 (by decide +kernel)
theorem flX11_35 : Cond.fieldLink RX11 35 "NumberFerriesModel" "many" "[I" ∈ tg := tb_at 888 (by decide +kernel)
theorem flX11_38 : Cond.fieldLink RX11 38 "NumberFerriesModel" "ahead" "[I" ∈ tg := tb_at 889 (by decide +kernel)
theorem flX11_41 : Cond.fieldLink RX11 41 "NumberFerriesModel" "by" "[I" ∈ tg := tb_at 890 (by decide +kernel)
theorem flX11_44 : Cond.fieldLink RX11 44 "NumberFerriesModel" "line" "[I" ∈ tg := tb_at 891 (by decide +kernel)
theorem flX11_224 : Cond.fieldLink RX11 224 "NumberFerriesModel" "found" "I" ∈ tg := tb_at 892 (by decide +kernel)
theorem flX2_132 : Cond.fieldLink RX2 132 "NumberFerries$Word" "spelling" "Ljava/lang/String;" ∈ tg := tb_at 1172 (by decide +kernel)
theorem flJ0_9 : Cond.fieldLink RJ0 9 "java/lang/String" "value" "[B" ∈ tg := tb_at 1173 (by decide +kernel)
theorem flJ0_15 : Cond.fieldLink RJ0 15 "java/lang/String" "coder" "B" ∈ tg := tb_at 1174 (by decide +kernel)
theorem flX2_139 : Cond.fieldLink RX2 139 "NumberFerries$Word" "thingKind" "I" ∈ tg := tb_at 1175 (by decide +kernel)
theorem flX2_142 : Cond.fieldLink RX2 142 "NumberFerries$Word" "ferryKind" "I" ∈ tg := tb_at 1176 (by decide +kernel)
theorem flX2_80 : Cond.fieldLink RX2 80 "NumberFerries$Word" "slots" "Ljava/lang/String;" ∈ tg := tb_at 1177 (by decide +kernel)
theorem flX3_66 : Cond.fieldLink RX3 66 "NumberFerries$Word" "thingKind" "I" ∈ tg := tb_at 1178 (by decide +kernel)
theorem flX3_73 : Cond.fieldLink RX3 73 "NumberFerries$Word" "ferryKind" "I" ∈ tg := tb_at 1179 (by decide +kernel)
theorem gv_of {own C : String} {idx n : Nat} {y : MethodName} {cc : ByteArray} {rt : Option FieldType} (h1 : Cond.methodLink own idx y ∈ tg) (h2 : Cond.instanceMethod y ∈ tg) (h3 : Cond.selects C y y ∈ tg) (h4 : Cond.initialized C ∈ tg) (h5 : Cond.code y cc n rt ∈ tg) : GoodIn tg (wsV own idx C y (Cond.code y cc n rt :: tg)) := by
  intro w hw
  have hm : w ∈ tg := by
    rcases List.mem_append.mp hw with h | h
    · simp only [List.mem_cons, List.not_mem_nil, or_false] at h
      rcases h with rfl | rfl | rfl | rfl <;> assumption
    · rcases List.mem_cons.mp h with rfl | h <;> assumption
  exact tg_in w hm
theorem gs_of {own : String} {idx n : Nat} {y : MethodName} {cc : ByteArray} {rt : Option FieldType} (h1 : Cond.methodLink own idx y ∈ tg) (h2 : Cond.static y ∈ tg) (h4 : Cond.initialized own ∈ tg) (h5 : Cond.code y cc n rt ∈ tg) : GoodIn tg (wsS own idx y (Cond.code y cc n rt :: tg)) := by
  intro w hw
  have hm : w ∈ tg := by
    rcases List.mem_append.mp hw with h | h
    · simp only [List.mem_cons, List.not_mem_nil, or_false] at h
      rcases h with rfl | rfl | rfl <;> assumption
    · rcases List.mem_cons.mp h with rfl | h <;> assumption
  exact tg_in w hm
theorem gc_of {n : Nat} {y : MethodName} {cc : ByteArray} {rt : Option FieldType} (h5 : Cond.code y cc n rt ∈ tg) : GoodIn tg (Cond.code y cc n rt :: tg) := by
  intro w hw
  have hm : w ∈ tg := by
    rcases List.mem_cons.mp hw with rfl | h <;> assumption
  exact tg_in w hm
theorem iniL : Cond.initialized RL ∈ tg := tb_at 0 (by decide +kernel)
theorem iniX10 : Cond.initialized RX10 ∈ tg := tb_at 1 (by decide +kernel)
theorem iniX7 : Cond.initialized RX7 ∈ tg := tb_at 2 (by decide +kernel)
theorem iniX3 : Cond.initialized RX3 ∈ tg := tb_at 3 (by decide +kernel)
theorem iniX5 : Cond.initialized RX5 ∈ tg := tb_at 4 (by decide +kernel)
theorem iniX8 : Cond.initialized RX8 ∈ tg := tb_at 5 (by decide +kernel)
theorem iniX0 : Cond.initialized RX0 ∈ tg := tb_at 6 (by decide +kernel)
theorem iniX2 : Cond.initialized RX2 ∈ tg := tb_at 7 (by decide +kernel)
theorem iniX1 : Cond.initialized RX1 ∈ tg := tb_at 8 (by decide +kernel)
theorem iniJx29ce0 : Cond.initialized RJx29ce0 ∈ tg := tb_at 9 (by decide +kernel)
theorem iniX9 : Cond.initialized RX9 ∈ tg := tb_at 10 (by decide +kernel)
theorem iniX6 : Cond.initialized RX6 ∈ tg := tb_at 11 (by decide +kernel)
theorem iniX4 : Cond.initialized RX4 ∈ tg := tb_at 12 (by decide +kernel)
theorem iniX11 : Cond.initialized RX11 ∈ tg := tb_at 13 (by decide +kernel)
theorem iniJ0 : Cond.initialized RJ0 ∈ tg := tb_at 14 (by decide +kernel)
theorem iniJ1 : Cond.initialized RJ1 ∈ tg := tb_at 15 (by decide +kernel)
theorem iniJ3 : Cond.initialized RJ3 ∈ tg := tb_at 16 (by decide +kernel)
theorem iniJ2 : Cond.initialized RJ2 ∈ tg := tb_at 17 (by decide +kernel)
theorem iniJ9 : Cond.initialized RJ9 ∈ tg := tb_at 18 (by decide +kernel)
theorem iniJ11 : Cond.initialized RJ11 ∈ tg := tb_at 19 (by decide +kernel)
theorem iniJ6 : Cond.initialized RJ6 ∈ tg := tb_at 20 (by decide +kernel)
theorem iniJ7 : Cond.initialized RJ7 ∈ tg := tb_at 21 (by decide +kernel)
theorem mlL_9 : Cond.methodLink RL 9 yX10_init ∈ tg := tb_at 24 (by decide +kernel)
theorem imX10_init : Cond.instanceMethod yX10_init ∈ tg := tb_at 25 (by decide +kernel)
theorem mlX10_18 : Cond.methodLink RX10 18 yX3_init ∈ tg := tb_at 48 (by decide +kernel)
theorem imX3_init : Cond.instanceMethod yX3_init ∈ tg := tb_at 49 (by decide +kernel)
theorem mlX10_25 : Cond.methodLink RX10 25 yX2_init ∈ tg := tb_at 194 (by decide +kernel)
theorem imX2_init : Cond.instanceMethod yX2_init ∈ tg := tb_at 195 (by decide +kernel)
theorem mlX10_34 : Cond.methodLink RX10 34 yX6_init ∈ tg := tb_at 257 (by decide +kernel)
theorem imX6_init : Cond.instanceMethod yX6_init ∈ tg := tb_at 258 (by decide +kernel)
theorem mlX10_43 : Cond.methodLink RX10 43 yX4_init ∈ tg := tb_at 295 (by decide +kernel)
theorem imX4_init : Cond.instanceMethod yX4_init ∈ tg := tb_at 296 (by decide +kernel)
theorem mlL_15 : Cond.methodLink RL 15 yX10_write ∈ tg := tb_at 352 (by decide +kernel)
theorem imX10_write : Cond.instanceMethod yX10_write ∈ tg := tb_at 353 (by decide +kernel)
theorem slX10_write : Cond.selects RX10 yX10_write yX10_write ∈ tg := by decide +kernel
theorem gvL_15 : GoodIn tg (wsV RL 15 RX10 yX10_write qX10_write) := gv_of mlL_15 imX10_write slX10_write iniX10 cdX10_write
theorem mlX10_68 : Cond.methodLink RX10 68 yX7_add ∈ tg := tb_at 357 (by decide +kernel)
theorem imX7_add : Cond.instanceMethod yX7_add ∈ tg := tb_at 358 (by decide +kernel)
theorem slX7_add : Cond.selects RX7 yX7_add yX7_add ∈ tg := by decide +kernel
theorem gvX10_68 : GoodIn tg (wsV RX10 68 RX7 yX7_add qX7_add) := gv_of mlX10_68 imX7_add slX7_add iniX7 cdX7_add
theorem mlL_20 : Cond.methodLink RL 20 yX10_erase ∈ tg := tb_at 361 (by decide +kernel)
theorem imX10_erase : Cond.instanceMethod yX10_erase ∈ tg := tb_at 362 (by decide +kernel)
theorem slX10_erase : Cond.selects RX10 yX10_erase yX10_erase ∈ tg := by decide +kernel
theorem gvL_20 : GoodIn tg (wsV RL 20 RX10 yX10_erase qX10_erase) := gv_of mlL_20 imX10_erase slX10_erase iniX10 cdX10_erase
theorem mlX10_72 : Cond.methodLink RX10 72 yX7_empty ∈ tg := tb_at 365 (by decide +kernel)
theorem imX7_empty : Cond.instanceMethod yX7_empty ∈ tg := tb_at 366 (by decide +kernel)
theorem slX7_empty : Cond.selects RX7 yX7_empty yX7_empty ∈ tg := by decide +kernel
theorem gvX10_72 : GoodIn tg (wsV RX10 72 RX7 yX7_empty qX7_empty) := gv_of mlX10_72 imX7_empty slX7_empty iniX7 cdX7_empty
theorem mlL_25 : Cond.methodLink RL 25 yX10_fault ∈ tg := tb_at 369 (by decide +kernel)
theorem imX10_fault : Cond.instanceMethod yX10_fault ∈ tg := tb_at 370 (by decide +kernel)
theorem slX10_fault : Cond.selects RX10 yX10_fault yX10_fault ∈ tg := by decide +kernel
theorem gvL_25 : GoodIn tg (wsV RL 25 RX10 yX10_fault qX10_fault) := gv_of mlL_25 imX10_fault slX10_fault iniX10 cdX10_fault
theorem mlX10_76 : Cond.methodLink RX10 76 yX2_read ∈ tg := tb_at 373 (by decide +kernel)
theorem imX2_read : Cond.instanceMethod yX2_read ∈ tg := tb_at 374 (by decide +kernel)
theorem slX2_read : Cond.selects RX2 yX2_read yX2_read ∈ tg := by decide +kernel
theorem gvX10_76 : GoodIn tg (wsV RX10 76 RX2 yX2_read qX2_read) := gv_of mlX10_76 imX2_read slX2_read iniX2 cdX2_read
theorem mlX2_54 : Cond.methodLink RX2 54 yX2_readLine ∈ tg := tb_at 377 (by decide +kernel)
theorem imX2_readLine : Cond.instanceMethod yX2_readLine ∈ tg := tb_at 379 (by decide +kernel)
theorem slX2_readLine : Cond.selects RX2 yX2_readLine yX2_readLine ∈ tg := by decide +kernel
theorem gvX2_54 : GoodIn tg (wsV RX2 54 RX2 yX2_readLine qX2_readLine) := gv_of mlX2_54 imX2_readLine slX2_readLine iniX2 cdX2_readLine
theorem mlX2_62 : Cond.methodLink RX2 62 yX2_nextToken ∈ tg := tb_at 381 (by decide +kernel)
theorem imX2_nextToken : Cond.instanceMethod yX2_nextToken ∈ tg := tb_at 383 (by decide +kernel)
theorem slX2_nextToken : Cond.selects RX2 yX2_nextToken yX2_nextToken ∈ tg := by decide +kernel
theorem gvX2_62 : GoodIn tg (wsV RX2 62 RX2 yX2_nextToken qX2_nextToken) := gv_of mlX2_62 imX2_nextToken slX2_nextToken iniX2 cdX2_nextToken
theorem mlX2_117 : Cond.methodLink RX2 117 yX7_byteAt ∈ tg := tb_at 385 (by decide +kernel)
theorem imX7_byteAt : Cond.instanceMethod yX7_byteAt ∈ tg := tb_at 386 (by decide +kernel)
theorem slX7_byteAt : Cond.selects RX7 yX7_byteAt yX7_byteAt ∈ tg := by decide +kernel
theorem gvX2_117 : GoodIn tg (wsV RX2 117 RX7 yX7_byteAt qX7_byteAt) := gv_of mlX2_117 imX7_byteAt slX7_byteAt iniX7 cdX7_byteAt
theorem mlX2_125 : Cond.methodLink RX2 125 yX2_sortAt ∈ tg := tb_at 389 (by decide +kernel)
theorem imX2_sortAt : Cond.instanceMethod yX2_sortAt ∈ tg := tb_at 391 (by decide +kernel)
theorem slX2_sortAt : Cond.selects RX2 yX2_sortAt yX2_sortAt ∈ tg := by decide +kernel
theorem gvX2_125 : GoodIn tg (wsV RX2 125 RX2 yX2_sortAt qX2_sortAt) := gv_of mlX2_125 imX2_sortAt slX2_sortAt iniX2 cdX2_sortAt
theorem mlX2_65 : Cond.methodLink RX2 65 yX2_findWord ∈ tg := tb_at 393 (by decide +kernel)
theorem imX2_findWord : Cond.instanceMethod yX2_findWord ∈ tg := tb_at 395 (by decide +kernel)
theorem slX2_findWord : Cond.selects RX2 yX2_findWord yX2_findWord ∈ tg := by decide +kernel
theorem gvX2_65 : GoodIn tg (wsV RX2 65 RX2 yX2_findWord qX2_findWord) := gv_of mlX2_65 imX2_findWord slX2_findWord iniX2 cdX2_findWord
theorem mlX2_135 : Cond.methodLink RX2 135 yX2_isSpelt ∈ tg := tb_at 399 (by decide +kernel)
theorem imX2_isSpelt : Cond.instanceMethod yX2_isSpelt ∈ tg := tb_at 401 (by decide +kernel)
theorem slX2_isSpelt : Cond.selects RX2 yX2_isSpelt yX2_isSpelt ∈ tg := by decide +kernel
theorem gvX2_135 : GoodIn tg (wsV RX2 135 RX2 yX2_isSpelt qX2_isSpelt) := gv_of mlX2_135 imX2_isSpelt slX2_isSpelt iniX2 cdX2_isSpelt
theorem mlX2_86 : Cond.methodLink RX2 86 yJ0_length_8abf5 ∈ tg := tb_at 403 (by decide +kernel)
theorem imJ0_length_8abf5 : Cond.instanceMethod yJ0_length_8abf5 ∈ tg := tb_at 404 (by decide +kernel)
theorem slJ0_length_8abf5 : Cond.selects RJ0 yJ0_length_8abf5 yJ0_length_8abf5 ∈ tg := by decide +kernel
theorem gvX2_86 : GoodIn tg (wsV RX2 86 RJ0 yJ0_length_8abf5 qJ0_length_8abf5) := gv_of mlX2_86 imJ0_length_8abf5 slJ0_length_8abf5 iniJ0 cdJ0_length_8abf5
theorem mlJ0_335 : Cond.methodLink RJ0 335 yJ0_coder_7d493 ∈ tg := tb_at 407 (by decide +kernel)
theorem imJ0_coder_7d493 : Cond.instanceMethod yJ0_coder_7d493 ∈ tg := tb_at 408 (by decide +kernel)
theorem slJ0_coder_7d493 : Cond.selects RJ0 yJ0_coder_7d493 yJ0_coder_7d493 ∈ tg := by decide +kernel
theorem gvJ0_335 : GoodIn tg (wsV RJ0 335 RJ0 yJ0_coder_7d493 qJ0_coder_7d493) := gv_of mlJ0_335 imJ0_coder_7d493 slJ0_coder_7d493 iniJ0 cdJ0_coder_7d493
theorem mlX2_95 : Cond.methodLink RX2 95 yJ0_charAt_5068e ∈ tg := tb_at 413 (by decide +kernel)
theorem imJ0_charAt_5068e : Cond.instanceMethod yJ0_charAt_5068e ∈ tg := tb_at 414 (by decide +kernel)
theorem slJ0_charAt_5068e : Cond.selects RJ0 yJ0_charAt_5068e yJ0_charAt_5068e ∈ tg := by decide +kernel
theorem gvX2_95 : GoodIn tg (wsV RX2 95 RJ0 yJ0_charAt_5068e qJ0_charAt_5068e) := gv_of mlX2_95 imJ0_charAt_5068e slJ0_charAt_5068e iniJ0 cdJ0_charAt_5068e
theorem mlJ0_492 : Cond.methodLink RJ0 492 yJ0_isLatin1_aae02 ∈ tg := tb_at 417 (by decide +kernel)
theorem imJ0_isLatin1_aae02 : Cond.instanceMethod yJ0_isLatin1_aae02 ∈ tg := tb_at 418 (by decide +kernel)
theorem slJ0_isLatin1_aae02 : Cond.selects RJ0 yJ0_isLatin1_aae02 yJ0_isLatin1_aae02 ∈ tg := by decide +kernel
theorem gvJ0_492 : GoodIn tg (wsV RJ0 492 RJ0 yJ0_isLatin1_aae02 qJ0_isLatin1_aae02) := gv_of mlJ0_492 imJ0_isLatin1_aae02 slJ0_isLatin1_aae02 iniJ0 cdJ0_isLatin1_aae02
theorem mlJ0_495 : Cond.methodLink RJ0 495 yJ1_charAt_3b067 ∈ tg := tb_at 421 (by decide +kernel)
theorem smJ1_charAt_3b067 : Cond.static yJ1_charAt_3b067 ∈ tg := tb_at 422 (by decide +kernel)
theorem mlJ1_9 : Cond.methodLink RJ1 9 yJ0_checkIndex_df160 ∈ tg := tb_at 424 (by decide +kernel)
theorem smJ0_checkIndex_df160 : Cond.static yJ0_checkIndex_df160 ∈ tg := tb_at 425 (by decide +kernel)
theorem mlJ0_1059 : Cond.methodLink RJ0 1059 yJ3_checkIndex_8e157 ∈ tg := tb_at 429 (by decide +kernel)
theorem smJ3_checkIndex_8e157 : Cond.static yJ3_checkIndex_8e157 ∈ tg := tb_at 430 (by decide +kernel)
theorem mlJ0_498 : Cond.methodLink RJ0 498 yJ2_charAt_3b067 ∈ tg := tb_at 432 (by decide +kernel)
theorem smJ2_charAt_3b067 : Cond.static yJ2_charAt_3b067 ∈ tg := tb_at 433 (by decide +kernel)
theorem mlJ2_67 : Cond.methodLink RJ2 67 yJ2_checkIndex_2214a ∈ tg := tb_at 435 (by decide +kernel)
theorem smJ2_checkIndex_2214a : Cond.static yJ2_checkIndex_2214a ∈ tg := tb_at 436 (by decide +kernel)
theorem gsJ2_67 : GoodIn tg (wsS RJ2 67 yJ2_checkIndex_2214a qJ2_checkIndex_2214a) := gs_of mlJ2_67 smJ2_checkIndex_2214a iniJ2 cdJ2_checkIndex_2214a
theorem mlJ2_48 : Cond.methodLink RJ2 48 yJ2_length_9d52b ∈ tg := tb_at 438 (by decide +kernel)
theorem smJ2_length_9d52b : Cond.static yJ2_length_9d52b ∈ tg := tb_at 439 (by decide +kernel)
theorem gsJ2_48 : GoodIn tg (wsS RJ2 48 yJ2_length_9d52b qJ2_length_9d52b) := gs_of mlJ2_48 smJ2_length_9d52b iniJ2 cdJ2_length_9d52b
theorem mlJ2_414 : Cond.methodLink RJ2 414 yJ0_checkIndex_df160 ∈ tg := tb_at 441 (by decide +kernel)
theorem mlJ2_71 : Cond.methodLink RJ2 71 yJ2_getChar_3b067 ∈ tg := tb_at 442 (by decide +kernel)
theorem smJ2_getChar_3b067 : Cond.static yJ2_getChar_3b067 ∈ tg := tb_at 443 (by decide +kernel)
theorem gsJ2_71 : GoodIn tg (wsS RJ2 71 yJ2_getChar_3b067 qJ2_getChar_3b067) := gs_of mlJ2_71 smJ2_getChar_3b067 iniJ2 cdJ2_getChar_3b067
theorem mlX2_69 : Cond.methodLink RX2 69 yX2_isTooMany ∈ tg := tb_at 451 (by decide +kernel)
theorem imX2_isTooMany : Cond.instanceMethod yX2_isTooMany ∈ tg := tb_at 453 (by decide +kernel)
theorem slX2_isTooMany : Cond.selects RX2 yX2_isTooMany yX2_isTooMany ∈ tg := by decide +kernel
theorem gvX2_69 : GoodIn tg (wsV RX2 69 RX2 yX2_isTooMany qX2_isTooMany) := gv_of mlX2_69 imX2_isTooMany slX2_isTooMany iniX2 cdX2_isTooMany
theorem mlX2_73 : Cond.methodLink RX2 73 yX2_faultHere ∈ tg := tb_at 455 (by decide +kernel)
theorem imX2_faultHere : Cond.instanceMethod yX2_faultHere ∈ tg := tb_at 457 (by decide +kernel)
theorem slX2_faultHere : Cond.selects RX2 yX2_faultHere yX2_faultHere ∈ tg := by decide +kernel
theorem gvX2_73 : GoodIn tg (wsV RX2 73 RX2 yX2_faultHere qX2_faultHere) := gv_of mlX2_73 imX2_faultHere slX2_faultHere iniX2 cdX2_faultHere
theorem mlX2_92 : Cond.methodLink RX2 92 yX2_numberHere ∈ tg := tb_at 459 (by decide +kernel)
theorem imX2_numberHere : Cond.instanceMethod yX2_numberHere ∈ tg := tb_at 461 (by decide +kernel)
theorem slX2_numberHere : Cond.selects RX2 yX2_numberHere yX2_numberHere ∈ tg := by decide +kernel
theorem gvX2_92 : GoodIn tg (wsV RX2 92 RX2 yX2_numberHere qX2_numberHere) := gv_of mlX2_92 imX2_numberHere slX2_numberHere iniX2 cdX2_numberHere
theorem mlX2_99 : Cond.methodLink RX2 99 yX2_canStand ∈ tg := tb_at 463 (by decide +kernel)
theorem imX2_canStand : Cond.instanceMethod yX2_canStand ∈ tg := tb_at 465 (by decide +kernel)
theorem slX2_canStand : Cond.selects RX2 yX2_canStand yX2_canStand ∈ tg := by decide +kernel
theorem gvX2_99 : GoodIn tg (wsV RX2 99 RX2 yX2_canStand qX2_canStand) := gv_of mlX2_99 imX2_canStand slX2_canStand iniX2 cdX2_canStand
theorem mlX2_147 : Cond.methodLink RX2 147 yJ0_indexOf_0f7a4 ∈ tg := tb_at 468 (by decide +kernel)
theorem imJ0_indexOf_0f7a4 : Cond.instanceMethod yJ0_indexOf_0f7a4 ∈ tg := tb_at 469 (by decide +kernel)
theorem slJ0_indexOf_0f7a4 : Cond.selects RJ0 yJ0_indexOf_0f7a4 yJ0_indexOf_0f7a4 ∈ tg := by decide +kernel
theorem gvX2_147 : GoodIn tg (wsV RX2 147 RJ0 yJ0_indexOf_0f7a4 qJ0_indexOf_0f7a4) := gv_of mlX2_147 imJ0_indexOf_0f7a4 slJ0_indexOf_0f7a4 iniJ0 cdJ0_indexOf_0f7a4
theorem mlJ0_633 : Cond.methodLink RJ0 633 yJ0_indexOf_7cf53 ∈ tg := tb_at 472 (by decide +kernel)
theorem imJ0_indexOf_7cf53 : Cond.instanceMethod yJ0_indexOf_7cf53 ∈ tg := tb_at 473 (by decide +kernel)
theorem slJ0_indexOf_7cf53 : Cond.selects RJ0 yJ0_indexOf_7cf53 yJ0_indexOf_7cf53 ∈ tg := by decide +kernel
theorem gvJ0_633 : GoodIn tg (wsV RJ0 633 RJ0 yJ0_indexOf_7cf53 qJ0_indexOf_7cf53) := gv_of mlJ0_633 imJ0_indexOf_7cf53 slJ0_indexOf_7cf53 iniJ0 cdJ0_indexOf_7cf53
theorem mlJ0_505 : Cond.methodLink RJ0 505 yJ0_length_8abf5 ∈ tg := tb_at 476 (by decide +kernel)
theorem gvJ0_505 : GoodIn tg (wsV RJ0 505 RJ0 yJ0_length_8abf5 qJ0_length_8abf5) := gv_of mlJ0_505 imJ0_length_8abf5 slJ0_length_8abf5 iniJ0 cdJ0_length_8abf5
theorem mlJ0_637 : Cond.methodLink RJ0 637 yJ1_indexOf_4cfef ∈ tg := tb_at 477 (by decide +kernel)
theorem smJ1_indexOf_4cfef : Cond.static yJ1_indexOf_4cfef ∈ tg := tb_at 478 (by decide +kernel)
theorem mlJ1_88 : Cond.methodLink RJ1 88 yJ1_canEncode_9a6ad ∈ tg := tb_at 480 (by decide +kernel)
theorem smJ1_canEncode_9a6ad : Cond.static yJ1_canEncode_9a6ad ∈ tg := tb_at 481 (by decide +kernel)
theorem gsJ1_88 : GoodIn tg (wsS RJ1 88 yJ1_canEncode_9a6ad qJ1_canEncode_9a6ad) := gs_of mlJ1_88 smJ1_canEncode_9a6ad iniJ1 cdJ1_canEncode_9a6ad
theorem mlJ1_92 : Cond.methodLink RJ1 92 yJ9_max_7cf53 ∈ tg := tb_at 483 (by decide +kernel)
theorem smJ9_max_7cf53 : Cond.static yJ9_max_7cf53 ∈ tg := tb_at 484 (by decide +kernel)
theorem mlJ1_38 : Cond.methodLink RJ1 38 yJ9_min_7cf53 ∈ tg := tb_at 486 (by decide +kernel)
theorem smJ9_min_7cf53 : Cond.static yJ9_min_7cf53 ∈ tg := tb_at 487 (by decide +kernel)
theorem mlJ1_95 : Cond.methodLink RJ1 95 yJ1_indexOfChar_4cfef ∈ tg := tb_at 489 (by decide +kernel)
theorem smJ1_indexOfChar_4cfef : Cond.static yJ1_indexOfChar_4cfef ∈ tg := tb_at 490 (by decide +kernel)
theorem gsJ1_95 : GoodIn tg (wsS RJ1 95 yJ1_indexOfChar_4cfef qJ1_indexOfChar_4cfef) := gs_of mlJ1_95 smJ1_indexOfChar_4cfef iniJ1 cdJ1_indexOfChar_4cfef
theorem mlJ0_640 : Cond.methodLink RJ0 640 yJ2_indexOf_4cfef ∈ tg := tb_at 492 (by decide +kernel)
theorem smJ2_indexOf_4cfef : Cond.static yJ2_indexOf_4cfef ∈ tg := tb_at 493 (by decide +kernel)
theorem mlJ2_224 : Cond.methodLink RJ2 224 yJ9_max_7cf53 ∈ tg := tb_at 495 (by decide +kernel)
theorem mlJ2_183 : Cond.methodLink RJ2 183 yJ9_min_7cf53 ∈ tg := tb_at 496 (by decide +kernel)
theorem mlJ2_228 : Cond.methodLink RJ2 228 yJ2_indexOfChar_4cfef ∈ tg := tb_at 498 (by decide +kernel)
theorem smJ2_indexOfChar_4cfef : Cond.static yJ2_indexOfChar_4cfef ∈ tg := tb_at 499 (by decide +kernel)
theorem gsJ2_228 : GoodIn tg (wsS RJ2 228 yJ2_indexOfChar_4cfef qJ2_indexOfChar_4cfef) := gs_of mlJ2_228 smJ2_indexOfChar_4cfef iniJ2 cdJ2_indexOfChar_4cfef
theorem mlJ2_96 : Cond.methodLink RJ2 96 yJ2_checkBoundsBeginEnd_d044e ∈ tg := tb_at 501 (by decide +kernel)
theorem smJ2_checkBoundsBeginEnd_d044e : Cond.static yJ2_checkBoundsBeginEnd_d044e ∈ tg := tb_at 502 (by decide +kernel)
theorem gsJ2_96 : GoodIn tg (wsS RJ2 96 yJ2_checkBoundsBeginEnd_d044e qJ2_checkBoundsBeginEnd_d044e) := gs_of mlJ2_96 smJ2_checkBoundsBeginEnd_d044e iniJ2 cdJ2_checkBoundsBeginEnd_d044e
theorem mlJ2_241 : Cond.methodLink RJ2 241 yJ0_checkBoundsBeginEnd_23922 ∈ tg := tb_at 504 (by decide +kernel)
theorem smJ0_checkBoundsBeginEnd_23922 : Cond.static yJ0_checkBoundsBeginEnd_23922 ∈ tg := tb_at 505 (by decide +kernel)
theorem mlJ0_1062 : Cond.methodLink RJ0 1062 yJ3_checkFromToIndex_8c36e ∈ tg := tb_at 507 (by decide +kernel)
theorem smJ3_checkFromToIndex_8c36e : Cond.static yJ3_checkFromToIndex_8c36e ∈ tg := tb_at 508 (by decide +kernel)
theorem mlJ2_244 : Cond.methodLink RJ2 244 yJ2_indexOfCharUnsafe_4cfef ∈ tg := tb_at 510 (by decide +kernel)
theorem smJ2_indexOfCharUnsafe_4cfef : Cond.static yJ2_indexOfCharUnsafe_4cfef ∈ tg := tb_at 511 (by decide +kernel)
theorem gsJ2_244 : GoodIn tg (wsS RJ2 244 yJ2_indexOfCharUnsafe_4cfef qJ2_indexOfCharUnsafe_4cfef) := gs_of mlJ2_244 smJ2_indexOfCharUnsafe_4cfef iniJ2 cdJ2_indexOfCharUnsafe_4cfef
theorem mlJ2_232 : Cond.methodLink RJ2 232 yJ2_indexOfSupplementary_4cfef ∈ tg := tb_at 513 (by decide +kernel)
theorem smJ2_indexOfSupplementary_4cfef : Cond.static yJ2_indexOfSupplementary_4cfef ∈ tg := tb_at 514 (by decide +kernel)
theorem gsJ2_232 : GoodIn tg (wsS RJ2 232 yJ2_indexOfSupplementary_4cfef qJ2_indexOfSupplementary_4cfef) := gs_of mlJ2_232 smJ2_indexOfSupplementary_4cfef iniJ2 cdJ2_indexOfSupplementary_4cfef
theorem mlJ2_164 : Cond.methodLink RJ2 164 yJ11_isValidCodePoint_9a6ad ∈ tg := tb_at 516 (by decide +kernel)
theorem smJ11_isValidCodePoint_9a6ad : Cond.static yJ11_isValidCodePoint_9a6ad ∈ tg := tb_at 517 (by decide +kernel)
theorem mlJ2_157 : Cond.methodLink RJ2 157 yJ11_highSurrogate_5068e ∈ tg := tb_at 519 (by decide +kernel)
theorem smJ11_highSurrogate_5068e : Cond.static yJ11_highSurrogate_5068e ∈ tg := tb_at 520 (by decide +kernel)
theorem mlJ2_161 : Cond.methodLink RJ2 161 yJ11_lowSurrogate_5068e ∈ tg := tb_at 523 (by decide +kernel)
theorem smJ11_lowSurrogate_5068e : Cond.static yJ11_lowSurrogate_5068e ∈ tg := tb_at 524 (by decide +kernel)
theorem mlX2_107 : Cond.methodLink RX2 107 yX2_foresee ∈ tg := tb_at 531 (by decide +kernel)
theorem imX2_foresee : Cond.instanceMethod yX2_foresee ∈ tg := tb_at 533 (by decide +kernel)
theorem slX2_foresee : Cond.selects RX2 yX2_foresee yX2_foresee ∈ tg := by decide +kernel
theorem gvX2_107 : GoodIn tg (wsV RX2 107 RX2 yX2_foresee qX2_foresee) := gv_of mlX2_107 imX2_foresee slX2_foresee iniX2 cdX2_foresee
theorem mlX2_159 : Cond.methodLink RX2 159 yX8_isHatted ∈ tg := tb_at 536 (by decide +kernel)
theorem smX8_isHatted : Cond.static yX8_isHatted ∈ tg := tb_at 537 (by decide +kernel)
theorem mlX2_58 : Cond.methodLink RX2 58 yX2_readSemicolon ∈ tg := tb_at 539 (by decide +kernel)
theorem imX2_readSemicolon : Cond.instanceMethod yX2_readSemicolon ∈ tg := tb_at 541 (by decide +kernel)
theorem slX2_readSemicolon : Cond.selects RX2 yX2_readSemicolon yX2_readSemicolon ∈ tg := by decide +kernel
theorem gvX2_58 : GoodIn tg (wsV RX2 58 RX2 yX2_readSemicolon qX2_readSemicolon) := gv_of mlX2_58 imX2_readSemicolon slX2_readSemicolon iniX2 cdX2_readSemicolon
theorem mlL_29 : Cond.methodLink RL 29 yX10_shore ∈ tg := tb_at 544 (by decide +kernel)
theorem imX10_shore : Cond.instanceMethod yX10_shore ∈ tg := tb_at 545 (by decide +kernel)
theorem slX10_shore : Cond.selects RX10 yX10_shore yX10_shore ∈ tg := by decide +kernel
theorem gvL_29 : GoodIn tg (wsV RL 29 RX10 yX10_shore qX10_shore) := gv_of mlL_29 imX10_shore slX10_shore iniX10 cdX10_shore
theorem mlX10_89 : Cond.methodLink RX10 89 yX3_carryOut ∈ tg := tb_at 548 (by decide +kernel)
theorem imX3_carryOut : Cond.instanceMethod yX3_carryOut ∈ tg := tb_at 549 (by decide +kernel)
theorem slX3_carryOut : Cond.selects RX3 yX3_carryOut yX3_carryOut ∈ tg := by decide +kernel
theorem gvX10_89 : GoodIn tg (wsV RX10 89 RX3 yX3_carryOut qX3_carryOut) := gv_of mlX10_89 imX3_carryOut slX3_carryOut iniX3 cdX3_carryOut
theorem mlX3_69 : Cond.methodLink RX3 69 yX3_addThing ∈ tg := tb_at 553 (by decide +kernel)
theorem imX3_addThing : Cond.instanceMethod yX3_addThing ∈ tg := tb_at 555 (by decide +kernel)
theorem slX3_addThing : Cond.selects RX3 yX3_addThing yX3_addThing ∈ tg := by decide +kernel
theorem gvX3_69 : GoodIn tg (wsV RX3 69 RX3 yX3_addThing qX3_addThing) := gv_of mlX3_69 imX3_addThing slX3_addThing iniX3 cdX3_addThing
theorem mlX3_87 : Cond.methodLink RX3 87 yX8_tell ∈ tg := tb_at 557 (by decide +kernel)
theorem imX8_tell : Cond.instanceMethod yX8_tell ∈ tg := tb_at 558 (by decide +kernel)
theorem slX8_tell : Cond.selects RX8 yX8_tell yX8_tell ∈ tg := by decide +kernel
theorem gvX3_87 : GoodIn tg (wsV RX3 87 RX8 yX8_tell qX8_tell) := gv_of mlX3_87 imX8_tell slX8_tell iniX8 cdX8_tell
theorem mlX3_76 : Cond.methodLink RX3 76 yX3_addFerry ∈ tg := tb_at 561 (by decide +kernel)
theorem imX3_addFerry : Cond.instanceMethod yX3_addFerry ∈ tg := tb_at 563 (by decide +kernel)
theorem slX3_addFerry : Cond.selects RX3 yX3_addFerry yX3_addFerry ∈ tg := by decide +kernel
theorem gvX3_76 : GoodIn tg (wsV RX3 76 RX3 yX3_addFerry qX3_addFerry) := gv_of mlX3_76 imX3_addFerry slX3_addFerry iniX3 cdX3_addFerry
theorem mlX3_91 : Cond.methodLink RX3 91 yX0_tell ∈ tg := tb_at 565 (by decide +kernel)
theorem imX0_tell : Cond.instanceMethod yX0_tell ∈ tg := tb_at 566 (by decide +kernel)
theorem slX0_tell : Cond.selects RX0 yX0_tell yX0_tell ∈ tg := by decide +kernel
theorem gvX3_91 : GoodIn tg (wsV RX3 91 RX0 yX0_tell qX0_tell) := gv_of mlX3_91 imX0_tell slX0_tell iniX0 cdX0_tell
theorem mlX3_79 : Cond.methodLink RX3 79 yX3_hasThing ∈ tg := tb_at 569 (by decide +kernel)
theorem imX3_hasThing : Cond.instanceMethod yX3_hasThing ∈ tg := tb_at 570 (by decide +kernel)
theorem slX3_hasThing : Cond.selects RX3 yX3_hasThing yX3_hasThing ∈ tg := by decide +kernel
theorem gvX3_79 : GoodIn tg (wsV RX3 79 RX3 yX3_hasThing qX3_hasThing) := gv_of mlX3_79 imX3_hasThing slX3_hasThing iniX3 cdX3_hasThing
theorem mlX3_83 : Cond.methodLink RX3 83 yX3_change ∈ tg := tb_at 573 (by decide +kernel)
theorem smX3_change : Cond.static yX3_change ∈ tg := tb_at 574 (by decide +kernel)
theorem gsX3_83 : GoodIn tg (wsS RX3 83 yX3_change qX3_change) := gs_of mlX3_83 smX3_change iniX3 cdX3_change
theorem mlX10_93 : Cond.methodLink RX10 93 yX3_beginDay ∈ tg := tb_at 582 (by decide +kernel)
theorem imX3_beginDay : Cond.instanceMethod yX3_beginDay ∈ tg := tb_at 583 (by decide +kernel)
theorem slX3_beginDay : Cond.selects RX3 yX3_beginDay yX3_beginDay ∈ tg := by decide +kernel
theorem gvX10_93 : GoodIn tg (wsV RX10 93 RX3 yX3_beginDay qX3_beginDay) := gv_of mlX10_93 imX3_beginDay slX3_beginDay iniX3 cdX3_beginDay
theorem mlX3_121 : Cond.methodLink RX3 121 yX8_hasHat ∈ tg := tb_at 586 (by decide +kernel)
theorem imX8_hasHat : Cond.instanceMethod yX8_hasHat ∈ tg := tb_at 587 (by decide +kernel)
theorem slX8_hasHat : Cond.selects RX8 yX8_hasHat yX8_hasHat ∈ tg := by decide +kernel
theorem gvX3_121 : GoodIn tg (wsV RX3 121 RX8 yX8_hasHat qX8_hasHat) := gv_of mlX3_121 imX8_hasHat slX8_hasHat iniX8 cdX8_hasHat
theorem mlX8_31 : Cond.methodLink RX8 31 yX8_isHatted ∈ tg := tb_at 590 (by decide +kernel)
theorem gsX8_31 : GoodIn tg (wsS RX8 31 yX8_isHatted qX8_isHatted) := gs_of mlX8_31 smX8_isHatted iniX8 cdX8_isHatted
theorem mlX3_135 : Cond.methodLink RX3 135 yX3_weighAll ∈ tg := tb_at 591 (by decide +kernel)
theorem imX3_weighAll : Cond.instanceMethod yX3_weighAll ∈ tg := tb_at 593 (by decide +kernel)
theorem slX3_weighAll : Cond.selects RX3 yX3_weighAll yX3_weighAll ∈ tg := by decide +kernel
theorem gvX3_135 : GoodIn tg (wsV RX3 135 RX3 yX3_weighAll qX3_weighAll) := gv_of mlX3_135 imX3_weighAll slX3_weighAll iniX3 cdX3_weighAll
theorem mlX3_145 : Cond.methodLink RX3 145 yX3_hatIsOn ∈ tg := tb_at 595 (by decide +kernel)
theorem imX3_hatIsOn : Cond.instanceMethod yX3_hatIsOn ∈ tg := tb_at 596 (by decide +kernel)
theorem slX3_hatIsOn : Cond.selects RX3 yX3_hatIsOn yX3_hatIsOn ∈ tg := by decide +kernel
theorem gvX3_145 : GoodIn tg (wsV RX3 145 RX3 yX3_hatIsOn qX3_hatIsOn) := gv_of mlX3_145 imX3_hatIsOn slX3_hatIsOn iniX3 cdX3_hatIsOn
theorem mlL_33 : Cond.methodLink RL 33 yX10_thing ∈ tg := tb_at 599 (by decide +kernel)
theorem imX10_thing : Cond.instanceMethod yX10_thing ∈ tg := tb_at 600 (by decide +kernel)
theorem slX10_thing : Cond.selects RX10 yX10_thing yX10_thing ∈ tg := by decide +kernel
theorem gvL_33 : GoodIn tg (wsV RL 33 RX10 yX10_thing qX10_thing) := gv_of mlL_33 imX10_thing slX10_thing iniX10 cdX10_thing
theorem mlX10_100 : Cond.methodLink RX10 100 yX3_hasThing ∈ tg := tb_at 603 (by decide +kernel)
theorem gvX10_100 : GoodIn tg (wsV RX10 100 RX3 yX3_hasThing qX3_hasThing) := gv_of mlX10_100 imX3_hasThing slX3_hasThing iniX3 cdX3_hasThing
theorem mlX10_126 : Cond.methodLink RX10 126 yX3_hatIsOn ∈ tg := tb_at 604 (by decide +kernel)
theorem gvX10_126 : GoodIn tg (wsV RX10 126 RX3 yX3_hatIsOn qX3_hatIsOn) := gv_of mlX10_126 imX3_hatIsOn slX3_hatIsOn iniX3 cdX3_hatIsOn
theorem mlX10_135 : Cond.methodLink RX10 135 yX3_poundsOf ∈ tg := tb_at 605 (by decide +kernel)
theorem imX3_poundsOf : Cond.instanceMethod yX3_poundsOf ∈ tg := tb_at 606 (by decide +kernel)
theorem slX3_poundsOf : Cond.selects RX3 yX3_poundsOf yX3_poundsOf ∈ tg := by decide +kernel
theorem gvX10_135 : GoodIn tg (wsV RX10 135 RX3 yX3_poundsOf qX3_poundsOf) := gv_of mlX10_135 imX3_poundsOf slX3_poundsOf iniX3 cdX3_poundsOf
theorem mlX3_148 : Cond.methodLink RX3 148 yX3_hasAll ∈ tg := tb_at 609 (by decide +kernel)
theorem imX3_hasAll : Cond.instanceMethod yX3_hasAll ∈ tg := tb_at 610 (by decide +kernel)
theorem slX3_hasAll : Cond.selects RX3 yX3_hasAll yX3_hasAll ∈ tg := by decide +kernel
theorem gvX3_148 : GoodIn tg (wsV RX3 148 RX3 yX3_hasAll qX3_hasAll) := gv_of mlX3_148 imX3_hasAll slX3_hasAll iniX3 cdX3_hasAll
theorem mlL_38 : Cond.methodLink RL 38 yX10_ferry ∈ tg := tb_at 613 (by decide +kernel)
theorem imX10_ferry : Cond.instanceMethod yX10_ferry ∈ tg := tb_at 614 (by decide +kernel)
theorem slX10_ferry : Cond.selects RX10 yX10_ferry yX10_ferry ∈ tg := by decide +kernel
theorem gvL_38 : GoodIn tg (wsV RL 38 RX10 yX10_ferry qX10_ferry) := gv_of mlL_38 imX10_ferry slX10_ferry iniX10 cdX10_ferry
theorem mlX10_139 : Cond.methodLink RX10 139 yX3_hasFerry ∈ tg := tb_at 617 (by decide +kernel)
theorem imX3_hasFerry : Cond.instanceMethod yX3_hasFerry ∈ tg := tb_at 618 (by decide +kernel)
theorem slX3_hasFerry : Cond.selects RX3 yX3_hasFerry yX3_hasFerry ∈ tg := by decide +kernel
theorem gvX10_139 : GoodIn tg (wsV RX10 139 RX3 yX3_hasFerry qX3_hasFerry) := gv_of mlX10_139 imX3_hasFerry slX3_hasFerry iniX3 cdX3_hasFerry
theorem mlX10_152 : Cond.methodLink RX10 152 yX0_numberNow ∈ tg := tb_at 621 (by decide +kernel)
theorem imX0_numberNow : Cond.instanceMethod yX0_numberNow ∈ tg := tb_at 622 (by decide +kernel)
theorem slX0_numberNow : Cond.selects RX0 yX0_numberNow yX0_numberNow ∈ tg := by decide +kernel
theorem gvX10_152 : GoodIn tg (wsV RX10 152 RX0 yX0_numberNow qX0_numberNow) := gv_of mlX10_152 imX0_numberNow slX0_numberNow iniX0 cdX0_numberNow
theorem mlX10_156 : Cond.methodLink RX10 156 yX10_bankOf ∈ tg := tb_at 625 (by decide +kernel)
theorem smX10_bankOf : Cond.static yX10_bankOf ∈ tg := tb_at 626 (by decide +kernel)
theorem gsX10_156 : GoodIn tg (wsS RX10 156 yX10_bankOf qX10_bankOf) := gs_of mlX10_156 smX10_bankOf iniX10 cdX10_bankOf
theorem mlL_42 : Cond.methodLink RL 42 yX10_as ∈ tg := tb_at 628 (by decide +kernel)
theorem imX10_as : Cond.instanceMethod yX10_as ∈ tg := tb_at 629 (by decide +kernel)
theorem slX10_as : Cond.selects RX10 yX10_as yX10_as ∈ tg := by decide +kernel
theorem gvL_42 : GoodIn tg (wsV RL 42 RX10 yX10_as qX10_as) := gv_of mlL_42 imX10_as slX10_as iniX10 cdX10_as
theorem mlX10_169 : Cond.methodLink RX10 169 yX8_isUnder ∈ tg := tb_at 634 (by decide +kernel)
theorem imX8_isUnder : Cond.instanceMethod yX8_isUnder ∈ tg := tb_at 635 (by decide +kernel)
theorem slX8_isUnder : Cond.selects RX8 yX8_isUnder yX8_isUnder ∈ tg := by decide +kernel
theorem gvX10_169 : GoodIn tg (wsV RX10 169 RX8 yX8_isUnder qX8_isUnder) := gv_of mlX10_169 imX8_isUnder slX8_isUnder iniX8 cdX8_isUnder
theorem mlL_46 : Cond.methodLink RL 46 yX10_right ∈ tg := tb_at 639 (by decide +kernel)
theorem imX10_right : Cond.instanceMethod yX10_right ∈ tg := tb_at 640 (by decide +kernel)
theorem slX10_right : Cond.selects RX10 yX10_right yX10_right ∈ tg := by decide +kernel
theorem gvL_46 : GoodIn tg (wsV RL 46 RX10 yX10_right qX10_right) := gv_of mlL_46 imX10_right slX10_right iniX10 cdX10_right
theorem mlX10_172 : Cond.methodLink RX10 172 yX3_hasAll ∈ tg := tb_at 643 (by decide +kernel)
theorem gvX10_172 : GoodIn tg (wsV RX10 172 RX3 yX3_hasAll qX3_hasAll) := gv_of mlX10_172 imX3_hasAll slX3_hasAll iniX3 cdX3_hasAll
theorem mlX10_175 : Cond.methodLink RX10 175 yX3_isRight ∈ tg := tb_at 644 (by decide +kernel)
theorem imX3_isRight : Cond.instanceMethod yX3_isRight ∈ tg := tb_at 645 (by decide +kernel)
theorem slX3_isRight : Cond.selects RX3 yX3_isRight yX3_isRight ∈ tg := by decide +kernel
theorem gvX10_175 : GoodIn tg (wsV RX10 175 RX3 yX3_isRight qX3_isRight) := gv_of mlX10_175 imX3_isRight slX3_isRight iniX3 cdX3_isRight
theorem mlX3_194 : Cond.methodLink RX3 194 yX3_isOnBankOf ∈ tg := tb_at 648 (by decide +kernel)
theorem imX3_isOnBankOf : Cond.instanceMethod yX3_isOnBankOf ∈ tg := tb_at 650 (by decide +kernel)
theorem slX3_isOnBankOf : Cond.selects RX3 yX3_isOnBankOf yX3_isOnBankOf ∈ tg := by decide +kernel
theorem gvX3_194 : GoodIn tg (wsV RX3 194 RX3 yX3_isOnBankOf qX3_isOnBankOf) := gv_of mlX3_194 imX3_isOnBankOf slX3_isOnBankOf iniX3 cdX3_isOnBankOf
theorem mlX3_197 : Cond.methodLink RX3 197 yX3_isRightSomewhere ∈ tg := tb_at 656 (by decide +kernel)
theorem imX3_isRightSomewhere : Cond.instanceMethod yX3_isRightSomewhere ∈ tg := tb_at 657 (by decide +kernel)
theorem slX3_isRightSomewhere : Cond.selects RX3 yX3_isRightSomewhere yX3_isRightSomewhere ∈ tg := by decide +kernel
theorem gvX3_197 : GoodIn tg (wsV RX3 197 RX3 yX3_isRightSomewhere qX3_isRightSomewhere) := gv_of mlX3_197 imX3_isRightSomewhere slX3_isRightSomewhere iniX3 cdX3_isRightSomewhere
theorem mlX3_184 : Cond.methodLink RX3 184 yX3_mayGoAboard ∈ tg := tb_at 660 (by decide +kernel)
theorem imX3_mayGoAboard : Cond.instanceMethod yX3_mayGoAboard ∈ tg := tb_at 662 (by decide +kernel)
theorem slX3_mayGoAboard : Cond.selects RX3 yX3_mayGoAboard yX3_mayGoAboard ∈ tg := by decide +kernel
theorem gvX3_184 : GoodIn tg (wsV RX3 184 RX3 yX3_mayGoAboard qX3_mayGoAboard) := gv_of mlX3_184 imX3_mayGoAboard slX3_mayGoAboard iniX3 cdX3_mayGoAboard
theorem mlX3_159 : Cond.methodLink RX3 159 yJ6_bitCount_0f7a4 ∈ tg := tb_at 664 (by decide +kernel)
theorem smJ6_bitCount_0f7a4 : Cond.static yJ6_bitCount_0f7a4 ∈ tg := tb_at 665 (by decide +kernel)
theorem mlX3_188 : Cond.methodLink RX3 188 yX3_poundsOf ∈ tg := tb_at 670 (by decide +kernel)
theorem gvX3_188 : GoodIn tg (wsV RX3 188 RX3 yX3_poundsOf qX3_poundsOf) := gv_of mlX3_188 imX3_poundsOf slX3_poundsOf iniX3 cdX3_poundsOf
theorem mlX3_191 : Cond.methodLink RX3 191 yX3_isNumber ∈ tg := tb_at 671 (by decide +kernel)
theorem imX3_isNumber : Cond.instanceMethod yX3_isNumber ∈ tg := tb_at 673 (by decide +kernel)
theorem slX3_isNumber : Cond.selects RX3 yX3_isNumber yX3_isNumber ∈ tg := by decide +kernel
theorem gvX3_191 : GoodIn tg (wsV RX3 191 RX3 yX3_isNumber qX3_isNumber) := gv_of mlX3_191 imX3_isNumber slX3_isNumber iniX3 cdX3_isNumber
theorem mlX3_177 : Cond.methodLink RX3 177 yX3_missBy ∈ tg := tb_at 675 (by decide +kernel)
theorem imX3_missBy : Cond.instanceMethod yX3_missBy ∈ tg := tb_at 677 (by decide +kernel)
theorem slX3_missBy : Cond.selects RX3 yX3_missBy yX3_missBy ∈ tg := by decide +kernel
theorem gvX3_177 : GoodIn tg (wsV RX3 177 RX3 yX3_missBy qX3_missBy) := gv_of mlX3_177 imX3_missBy slX3_missBy iniX3 cdX3_missBy
theorem mlX3_168 : Cond.methodLink RX3 168 yX0_numberNow ∈ tg := tb_at 679 (by decide +kernel)
theorem gvX3_168 : GoodIn tg (wsV RX3 168 RX0 yX0_numberNow qX0_numberNow) := gv_of mlX3_168 imX0_numberNow slX0_numberNow iniX0 cdX0_numberNow
theorem mlX3_172 : Cond.methodLink RX3 172 yJ9_abs_0f7a4 ∈ tg := tb_at 680 (by decide +kernel)
theorem smJ9_abs_0f7a4 : Cond.static yJ9_abs_0f7a4 ∈ tg := tb_at 681 (by decide +kernel)
theorem mlX3_180 : Cond.methodLink RX3 180 yX0_play ∈ tg := tb_at 683 (by decide +kernel)
theorem imX0_play : Cond.instanceMethod yX0_play ∈ tg := tb_at 684 (by decide +kernel)
theorem slX0_play : Cond.selects RX0 yX0_play yX0_play ∈ tg := by decide +kernel
theorem gvX3_180 : GoodIn tg (wsV RX3 180 RX0 yX0_play qX0_play) := gv_of mlX3_180 imX0_play slX0_play iniX0 cdX0_play
theorem mlL_50 : Cond.methodLink RL 50 yX10_cross ∈ tg := tb_at 687 (by decide +kernel)
theorem imX10_cross : Cond.instanceMethod yX10_cross ∈ tg := tb_at 688 (by decide +kernel)
theorem slX10_cross : Cond.selects RX10 yX10_cross yX10_cross ∈ tg := by decide +kernel
theorem gvL_50 : GoodIn tg (wsV RL 50 RX10 yX10_cross qX10_cross) := gv_of mlL_50 imX10_cross slX10_cross iniX10 cdX10_cross
theorem mlX10_179 : Cond.methodLink RX10 179 yX10_crossingOf ∈ tg := tb_at 691 (by decide +kernel)
theorem smX10_crossingOf : Cond.static yX10_crossingOf ∈ tg := tb_at 692 (by decide +kernel)
theorem gsX10_179 : GoodIn tg (wsS RX10 179 yX10_crossingOf qX10_crossingOf) := gs_of mlX10_179 smX10_crossingOf iniX10 cdX10_crossingOf
theorem mlX10_182 : Cond.methodLink RX10 182 yX10_banksBehind ∈ tg := tb_at 694 (by decide +kernel)
theorem smX10_banksBehind : Cond.static yX10_banksBehind ∈ tg := tb_at 695 (by decide +kernel)
theorem gsX10_182 : GoodIn tg (wsS RX10 182 yX10_banksBehind qX10_banksBehind) := gs_of mlX10_182 smX10_banksBehind iniX10 cdX10_banksBehind
theorem mlX10_261 : Cond.methodLink RX10 261 yX10_loadOf ∈ tg := tb_at 697 (by decide +kernel)
theorem smX10_loadOf : Cond.static yX10_loadOf ∈ tg := tb_at 698 (by decide +kernel)
theorem gsX10_261 : GoodIn tg (wsS RX10 261 yX10_loadOf qX10_loadOf) := gs_of mlX10_261 smX10_loadOf iniX10 cdX10_loadOf
theorem mlX10_258 : Cond.methodLink RX10 258 yX10_ferryOf ∈ tg := tb_at 700 (by decide +kernel)
theorem smX10_ferryOf : Cond.static yX10_ferryOf ∈ tg := tb_at 701 (by decide +kernel)
theorem gsX10_258 : GoodIn tg (wsS RX10 258 yX10_ferryOf qX10_ferryOf) := gs_of mlX10_258 smX10_ferryOf iniX10 cdX10_ferryOf
theorem mlL_54 : Cond.methodLink RL 54 yX10_doff ∈ tg := tb_at 703 (by decide +kernel)
theorem imX10_doff : Cond.instanceMethod yX10_doff ∈ tg := tb_at 704 (by decide +kernel)
theorem slX10_doff : Cond.selects RX10 yX10_doff yX10_doff ∈ tg := by decide +kernel
theorem gvL_54 : GoodIn tg (wsV RL 54 RX10 yX10_doff qX10_doff) := gv_of mlL_54 imX10_doff slX10_doff iniX10 cdX10_doff
theorem mlX10_188 : Cond.methodLink RX10 188 yX8_hasHat ∈ tg := tb_at 707 (by decide +kernel)
theorem gvX10_188 : GoodIn tg (wsV RX10 188 RX8 yX8_hasHat qX8_hasHat) := gv_of mlX10_188 imX8_hasHat slX8_hasHat iniX8 cdX8_hasHat
theorem mlX10_192 : Cond.methodLink RX10 192 yX3_turnHat ∈ tg := tb_at 708 (by decide +kernel)
theorem imX3_turnHat : Cond.instanceMethod yX3_turnHat ∈ tg := tb_at 709 (by decide +kernel)
theorem slX3_turnHat : Cond.selects RX3 yX3_turnHat yX3_turnHat ∈ tg := by decide +kernel
theorem gvX10_192 : GoodIn tg (wsV RX10 192 RX3 yX3_turnHat qX3_turnHat) := gv_of mlX10_192 imX3_turnHat slX3_turnHat iniX3 cdX3_turnHat
theorem mlL_59 : Cond.methodLink RL 59 yX10_noon ∈ tg := tb_at 712 (by decide +kernel)
theorem imX10_noon : Cond.instanceMethod yX10_noon ∈ tg := tb_at 713 (by decide +kernel)
theorem slX10_noon : Cond.selects RX10 yX10_noon yX10_noon ∈ tg := by decide +kernel
theorem gvL_59 : GoodIn tg (wsV RL 59 RX10 yX10_noon qX10_noon) := gv_of mlL_59 imX10_noon slX10_noon iniX10 cdX10_noon
theorem mlL_63 : Cond.methodLink RL 63 yX10_keep ∈ tg := tb_at 716 (by decide +kernel)
theorem imX10_keep : Cond.instanceMethod yX10_keep ∈ tg := tb_at 717 (by decide +kernel)
theorem slX10_keep : Cond.selects RX10 yX10_keep yX10_keep ∈ tg := by decide +kernel
theorem gvL_63 : GoodIn tg (wsV RL 63 RX10 yX10_keep qX10_keep) := gv_of mlL_63 imX10_keep slX10_keep iniX10 cdX10_keep
theorem mlX10_195 : Cond.methodLink RX10 195 yX5_become ∈ tg := tb_at 720 (by decide +kernel)
theorem imX5_become : Cond.instanceMethod yX5_become ∈ tg := tb_at 721 (by decide +kernel)
theorem slX5_become : Cond.selects RX5 yX5_become yX5_become ∈ tg := by decide +kernel
theorem gvX10_195 : GoodIn tg (wsV RX10 195 RX5 yX5_become qX5_become) := gv_of mlX10_195 imX5_become slX5_become iniX5 cdX5_become
theorem mlL_67 : Cond.methodLink RL 67 yX10_back ∈ tg := tb_at 724 (by decide +kernel)
theorem imX10_back : Cond.instanceMethod yX10_back ∈ tg := tb_at 725 (by decide +kernel)
theorem slX10_back : Cond.selects RX10 yX10_back yX10_back ∈ tg := by decide +kernel
theorem gvL_67 : GoodIn tg (wsV RL 67 RX10 yX10_back qX10_back) := gv_of mlL_67 imX10_back slX10_back iniX10 cdX10_back
theorem mlX10_199 : Cond.methodLink RX10 199 yX3_bringBack ∈ tg := tb_at 728 (by decide +kernel)
theorem imX3_bringBack : Cond.instanceMethod yX3_bringBack ∈ tg := tb_at 729 (by decide +kernel)
theorem slX3_bringBack : Cond.selects RX3 yX3_bringBack yX3_bringBack ∈ tg := by decide +kernel
theorem gvX10_199 : GoodIn tg (wsV RX10 199 RX3 yX3_bringBack qX3_bringBack) := gv_of mlX10_199 imX3_bringBack slX3_bringBack iniX3 cdX3_bringBack
theorem mlX3_138 : Cond.methodLink RX3 138 yX5_become ∈ tg := tb_at 732 (by decide +kernel)
theorem gvX3_138 : GoodIn tg (wsV RX3 138 RX5 yX5_become qX5_become) := gv_of mlX3_138 imX5_become slX5_become iniX5 cdX5_become
theorem mlL_71 : Cond.methodLink RL 71 yX10_loads ∈ tg := tb_at 733 (by decide +kernel)
theorem imX10_loads : Cond.instanceMethod yX10_loads ∈ tg := tb_at 734 (by decide +kernel)
theorem slX10_loads : Cond.selects RX10 yX10_loads yX10_loads ∈ tg := by decide +kernel
theorem gvL_71 : GoodIn tg (wsV RL 71 RX10 yX10_loads qX10_loads) := gv_of mlL_71 imX10_loads slX10_loads iniX10 cdX10_loads
theorem mlX10_202 : Cond.methodLink RX10 202 yX6_make ∈ tg := tb_at 737 (by decide +kernel)
theorem imX6_make : Cond.instanceMethod yX6_make ∈ tg := tb_at 738 (by decide +kernel)
theorem slX6_make : Cond.selects RX6 yX6_make yX6_make ∈ tg := by decide +kernel
theorem gvX10_202 : GoodIn tg (wsV RX10 202 RX6 yX6_make qX6_make) := gv_of mlX10_202 imX6_make slX6_make iniX6 cdX6_make
theorem mlX6_51 : Cond.methodLink RX6 51 yX3_isRight ∈ tg := tb_at 741 (by decide +kernel)
theorem gvX6_51 : GoodIn tg (wsV RX6 51 RX3 yX3_isRight qX3_isRight) := gv_of mlX6_51 imX3_isRight slX3_isRight iniX3 cdX3_isRight
theorem mlX6_55 : Cond.methodLink RX6 55 yX3_wishesOfAll ∈ tg := tb_at 742 (by decide +kernel)
theorem imX3_wishesOfAll : Cond.instanceMethod yX3_wishesOfAll ∈ tg := tb_at 743 (by decide +kernel)
theorem slX3_wishesOfAll : Cond.selects RX3 yX3_wishesOfAll yX3_wishesOfAll ∈ tg := by decide +kernel
theorem gvX6_55 : GoodIn tg (wsV RX6 55 RX3 yX3_wishesOfAll qX3_wishesOfAll) := gv_of mlX6_55 imX3_wishesOfAll slX3_wishesOfAll iniX3 cdX3_wishesOfAll
theorem mlX6_59 : Cond.methodLink RX6 59 yX3_isSure ∈ tg := tb_at 746 (by decide +kernel)
theorem imX3_isSure : Cond.instanceMethod yX3_isSure ∈ tg := tb_at 747 (by decide +kernel)
theorem slX3_isSure : Cond.selects RX3 yX3_isSure yX3_isSure ∈ tg := by decide +kernel
theorem gvX6_59 : GoodIn tg (wsV RX6 59 RX3 yX3_isSure qX3_isSure) := gv_of mlX6_59 imX3_isSure slX3_isSure iniX3 cdX3_isSure
theorem mlX6_63 : Cond.methodLink RX6 63 yX6_take ∈ tg := tb_at 750 (by decide +kernel)
theorem imX6_take : Cond.instanceMethod yX6_take ∈ tg := tb_at 752 (by decide +kernel)
theorem slX6_take : Cond.selects RX6 yX6_take yX6_take ∈ tg := by decide +kernel
theorem gvX6_63 : GoodIn tg (wsV RX6 63 RX6 yX6_take qX6_take) := gv_of mlX6_63 imX6_take slX6_take iniX6 cdX6_take
theorem mlL_75 : Cond.methodLink RL 75 yX10_weighed ∈ tg := tb_at 754 (by decide +kernel)
theorem imX10_weighed : Cond.instanceMethod yX10_weighed ∈ tg := tb_at 755 (by decide +kernel)
theorem slX10_weighed : Cond.selects RX10 yX10_weighed yX10_weighed ∈ tg := by decide +kernel
theorem gvL_75 : GoodIn tg (wsV RL 75 RX10 yX10_weighed qX10_weighed) := gv_of mlL_75 imX10_weighed slX10_weighed iniX10 cdX10_weighed
theorem mlX10_218 : Cond.methodLink RX10 218 yX10_isBank ∈ tg := tb_at 758 (by decide +kernel)
theorem smX10_isBank : Cond.static yX10_isBank ∈ tg := tb_at 759 (by decide +kernel)
theorem gsX10_218 : GoodIn tg (wsS RX10 218 yX10_isBank qX10_isBank) := gs_of mlX10_218 smX10_isBank iniX10 cdX10_isBank
theorem mlX10_224 : Cond.methodLink RX10 224 yX10_allOn ∈ tg := tb_at 761 (by decide +kernel)
theorem smX10_allOn : Cond.static yX10_allOn ∈ tg := tb_at 654 (by decide +kernel)
theorem gsX10_224 : GoodIn tg (wsS RX10 224 yX10_allOn qX10_allOn) := gs_of mlX10_224 smX10_allOn iniX10 cdX10_allOn
theorem mlL_79 : Cond.methodLink RL 79 yX10_hats ∈ tg := tb_at 762 (by decide +kernel)
theorem imX10_hats : Cond.instanceMethod yX10_hats ∈ tg := tb_at 763 (by decide +kernel)
theorem slX10_hats : Cond.selects RX10 yX10_hats yX10_hats ∈ tg := by decide +kernel
theorem gvL_79 : GoodIn tg (wsV RL 79 RX10 yX10_hats qX10_hats) := gv_of mlL_79 imX10_hats slX10_hats iniX10 cdX10_hats
theorem mlX10_227 : Cond.methodLink RX10 227 yX3_fewestHatsOff ∈ tg := tb_at 766 (by decide +kernel)
theorem imX3_fewestHatsOff : Cond.instanceMethod yX3_fewestHatsOff ∈ tg := tb_at 767 (by decide +kernel)
theorem slX3_fewestHatsOff : Cond.selects RX3 yX3_fewestHatsOff yX3_fewestHatsOff ∈ tg := by decide +kernel
theorem gvX10_227 : GoodIn tg (wsV RX10 227 RX3 yX3_fewestHatsOff qX3_fewestHatsOff) := gv_of mlX10_227 imX3_fewestHatsOff slX3_fewestHatsOff iniX3 cdX3_fewestHatsOff
theorem mlX3_200 : Cond.methodLink RX3 200 yX3_hatsOfAll ∈ tg := tb_at 770 (by decide +kernel)
theorem imX3_hatsOfAll : Cond.instanceMethod yX3_hatsOfAll ∈ tg := tb_at 771 (by decide +kernel)
theorem slX3_hatsOfAll : Cond.selects RX3 yX3_hatsOfAll yX3_hatsOfAll ∈ tg := by decide +kernel
theorem gvX3_200 : GoodIn tg (wsV RX3 200 RX3 yX3_hatsOfAll qX3_hatsOfAll) := gv_of mlX3_200 imX3_hatsOfAll slX3_hatsOfAll iniX3 cdX3_hatsOfAll
theorem mlX10_230 : Cond.methodLink RX10 230 yJ6_bitCount_0f7a4 ∈ tg := tb_at 774 (by decide +kernel)
theorem mlL_84 : Cond.methodLink RL 84 yX10_stones ∈ tg := tb_at 775 (by decide +kernel)
theorem imX10_stones : Cond.instanceMethod yX10_stones ∈ tg := tb_at 776 (by decide +kernel)
theorem slX10_stones : Cond.selects RX10 yX10_stones yX10_stones ∈ tg := by decide +kernel
theorem gvL_84 : GoodIn tg (wsV RL 84 RX10 yX10_stones qX10_stones) := gv_of mlL_84 imX10_stones slX10_stones iniX10 cdX10_stones
theorem mlX10_235 : Cond.methodLink RX10 235 yX3_fewestStones ∈ tg := tb_at 779 (by decide +kernel)
theorem imX3_fewestStones : Cond.instanceMethod yX3_fewestStones ∈ tg := tb_at 780 (by decide +kernel)
theorem slX3_fewestStones : Cond.selects RX3 yX3_fewestStones yX3_fewestStones ∈ tg := by decide +kernel
theorem gvX10_235 : GoodIn tg (wsV RX10 235 RX3 yX3_fewestStones qX3_fewestStones) := gv_of mlX10_235 imX3_fewestStones slX3_fewestStones iniX3 cdX3_fewestStones
theorem mlL_88 : Cond.methodLink RL 88 yX10_sure ∈ tg := tb_at 783 (by decide +kernel)
theorem imX10_sure : Cond.instanceMethod yX10_sure ∈ tg := tb_at 784 (by decide +kernel)
theorem slX10_sure : Cond.selects RX10 yX10_sure yX10_sure ∈ tg := by decide +kernel
theorem gvL_88 : GoodIn tg (wsV RL 88 RX10 yX10_sure qX10_sure) := gv_of mlL_88 imX10_sure slX10_sure iniX10 cdX10_sure
theorem mlL_92 : Cond.methodLink RL 92 yX10_aboard ∈ tg := tb_at 787 (by decide +kernel)
theorem imX10_aboard : Cond.instanceMethod yX10_aboard ∈ tg := tb_at 788 (by decide +kernel)
theorem slX10_aboard : Cond.selects RX10 yX10_aboard yX10_aboard ∈ tg := by decide +kernel
theorem gvL_92 : GoodIn tg (wsV RL 92 RX10 yX10_aboard qX10_aboard) := gv_of mlL_92 imX10_aboard slX10_aboard iniX10 cdX10_aboard
theorem mlL_97 : Cond.methodLink RL 97 yX10_fewest ∈ tg := tb_at 791 (by decide +kernel)
theorem imX10_fewest : Cond.instanceMethod yX10_fewest ∈ tg := tb_at 792 (by decide +kernel)
theorem slX10_fewest : Cond.selects RX10 yX10_fewest yX10_fewest ∈ tg := by decide +kernel
theorem gvL_97 : GoodIn tg (wsV RL 97 RX10 yX10_fewest qX10_fewest) := gv_of mlL_97 imX10_fewest slX10_fewest iniX10 cdX10_fewest
theorem mlX10_248 : Cond.methodLink RX10 248 yX4_find ∈ tg := tb_at 795 (by decide +kernel)
theorem imX4_find : Cond.instanceMethod yX4_find ∈ tg := tb_at 796 (by decide +kernel)
theorem slX4_find : Cond.selects RX4 yX4_find yX4_find ∈ tg := by decide +kernel
theorem gvX10_248 : GoodIn tg (wsV RX10 248 RX4 yX4_find qX4_find) := gv_of mlX10_248 imX4_find slX4_find iniX4 cdX4_find
theorem mlX4_39 : Cond.methodLink RX4 39 yX4_clear ∈ tg := tb_at 799 (by decide +kernel)
theorem imX4_clear : Cond.instanceMethod yX4_clear ∈ tg := tb_at 801 (by decide +kernel)
theorem slX4_clear : Cond.selects RX4 yX4_clear yX4_clear ∈ tg := by decide +kernel
theorem gvX4_39 : GoodIn tg (wsV RX4 39 RX4 yX4_clear qX4_clear) := gv_of mlX4_39 imX4_clear slX4_clear iniX4 cdX4_clear
theorem mlX4_90 : Cond.methodLink RX4 90 yJ7_fill_53178 ∈ tg := tb_at 804 (by decide +kernel)
theorem smJ7_fill_53178 : Cond.static yJ7_fill_53178 ∈ tg := tb_at 805 (by decide +kernel)
theorem mlX4_48 : Cond.methodLink RX4 48 yX4_listFits ∈ tg := tb_at 807 (by decide +kernel)
theorem imX4_listFits : Cond.instanceMethod yX4_listFits ∈ tg := tb_at 809 (by decide +kernel)
theorem slX4_listFits : Cond.selects RX4 yX4_listFits yX4_listFits ∈ tg := by decide +kernel
theorem gvX4_48 : GoodIn tg (wsV RX4 48 RX4 yX4_listFits qX4_listFits) := gv_of mlX4_48 imX4_listFits slX4_listFits iniX4 cdX4_listFits
theorem mlX4_99 : Cond.methodLink RX4 99 yX3_isRightSomewhere ∈ tg := tb_at 811 (by decide +kernel)
theorem gvX4_99 : GoodIn tg (wsV RX4 99 RX3 yX3_isRightSomewhere qX3_isRightSomewhere) := gv_of mlX4_99 imX3_isRightSomewhere slX3_isRightSomewhere iniX3 cdX3_isRightSomewhere
theorem mlX4_61 : Cond.methodLink RX4 61 yX4_reach ∈ tg := tb_at 812 (by decide +kernel)
theorem imX4_reach : Cond.instanceMethod yX4_reach ∈ tg := tb_at 814 (by decide +kernel)
theorem slX4_reach : Cond.selects RX4 yX4_reach yX4_reach ∈ tg := by decide +kernel
theorem gvX4_61 : GoodIn tg (wsV RX4 61 RX4 yX4_reach qX4_reach) := gv_of mlX4_61 imX4_reach slX4_reach iniX4 cdX4_reach
theorem mlX4_65 : Cond.methodLink RX4 65 yX4_cheapestQueue ∈ tg := tb_at 816 (by decide +kernel)
theorem imX4_cheapestQueue : Cond.instanceMethod yX4_cheapestQueue ∈ tg := tb_at 818 (by decide +kernel)
theorem slX4_cheapestQueue : Cond.selects RX4 yX4_cheapestQueue yX4_cheapestQueue ∈ tg := by decide +kernel
theorem gvX4_65 : GoodIn tg (wsV RX4 65 RX4 yX4_cheapestQueue qX4_cheapestQueue) := gv_of mlX4_65 imX4_cheapestQueue slX4_cheapestQueue iniX4 cdX4_cheapestQueue
theorem mlX4_82 : Cond.methodLink RX4 82 yX4_spread ∈ tg := tb_at 821 (by decide +kernel)
theorem imX4_spread : Cond.instanceMethod yX4_spread ∈ tg := tb_at 823 (by decide +kernel)
theorem slX4_spread : Cond.selects RX4 yX4_spread yX4_spread ∈ tg := by decide +kernel
theorem gvX4_82 : GoodIn tg (wsV RX4 82 RX4 yX4_spread qX4_spread) := gv_of mlX4_82 imX4_spread slX4_spread iniX4 cdX4_spread
theorem mlX10_252 : Cond.methodLink RX10 252 yX4_costOf ∈ tg := tb_at 828 (by decide +kernel)
theorem imX4_costOf : Cond.instanceMethod yX4_costOf ∈ tg := tb_at 829 (by decide +kernel)
theorem slX4_costOf : Cond.selects RX4 yX4_costOf yX4_costOf ∈ tg := by decide +kernel
theorem gvX10_252 : GoodIn tg (wsV RX10 252 RX4 yX4_costOf qX4_costOf) := gv_of mlX10_252 imX4_costOf slX4_costOf iniX4 cdX4_costOf
theorem mlX10_255 : Cond.methodLink RX10 255 yX4_crossingTo ∈ tg := tb_at 832 (by decide +kernel)
theorem imX4_crossingTo : Cond.instanceMethod yX4_crossingTo ∈ tg := tb_at 833 (by decide +kernel)
theorem slX4_crossingTo : Cond.selects RX4 yX4_crossingTo yX4_crossingTo ∈ tg := by decide +kernel
theorem gvX10_255 : GoodIn tg (wsV RX10 255 RX4 yX4_crossingTo qX4_crossingTo) := gv_of mlX10_255 imX4_crossingTo slX4_crossingTo iniX4 cdX4_crossingTo
theorem mlL_101 : Cond.methodLink RL 101 yX10_soonest ∈ tg := tb_at 836 (by decide +kernel)
theorem imX10_soonest : Cond.instanceMethod yX10_soonest ∈ tg := tb_at 837 (by decide +kernel)
theorem slX10_soonest : Cond.selects RX10 yX10_soonest yX10_soonest ∈ tg := by decide +kernel
theorem gvL_101 : GoodIn tg (wsV RL 101 RX10 yX10_soonest qX10_soonest) := gv_of mlL_101 imX10_soonest slX10_soonest iniX10 cdX10_soonest
theorem mlL_105 : Cond.methodLink RL 105 yX10_row ∈ tg := tb_at 840 (by decide +kernel)
theorem imX10_row : Cond.instanceMethod yX10_row ∈ tg := tb_at 841 (by decide +kernel)
theorem slX10_row : Cond.selects RX10 yX10_row yX10_row ∈ tg := by decide +kernel
theorem gvL_105 : GoodIn tg (wsV RL 105 RX10 yX10_row qX10_row) := gv_of mlL_105 imX10_row slX10_row iniX10 cdX10_row
theorem mlL_109 : Cond.methodLink RL 109 yX10_burn ∈ tg := tb_at 844 (by decide +kernel)
theorem imX10_burn : Cond.instanceMethod yX10_burn ∈ tg := tb_at 845 (by decide +kernel)
theorem slX10_burn : Cond.selects RX10 yX10_burn yX10_burn ∈ tg := by decide +kernel
theorem gvL_109 : GoodIn tg (wsV RL 109 RX10 yX10_burn qX10_burn) := gv_of mlL_109 imX10_burn slX10_burn iniX10 cdX10_burn
theorem mlL_113 : Cond.methodLink RL 113 yX10_judge ∈ tg := tb_at 848 (by decide +kernel)
theorem imX10_judge : Cond.instanceMethod yX10_judge ∈ tg := tb_at 849 (by decide +kernel)
theorem slX10_judge : Cond.selects RX10 yX10_judge yX10_judge ∈ tg := by decide +kernel
theorem gvL_113 : GoodIn tg (wsV RL 113 RX10 yX10_judge qX10_judge) := gv_of mlL_113 imX10_judge slX10_judge iniX10 cdX10_judge
theorem mlL_117 : Cond.methodLink RL 117 yX10_count ∈ tg := tb_at 852 (by decide +kernel)
theorem imX10_count : Cond.instanceMethod yX10_count ∈ tg := tb_at 853 (by decide +kernel)
theorem slX10_count : Cond.selects RX10 yX10_count yX10_count ∈ tg := by decide +kernel
theorem gvL_117 : GoodIn tg (wsV RL 117 RX10 yX10_count qX10_count) := gv_of mlL_117 imX10_count slX10_count iniX10 cdX10_count
theorem mlL_12 : Cond.methodLink RL 12 yX11_init ∈ tg := tb_at 858 (by decide +kernel)
theorem imX11_init : Cond.instanceMethod yX11_init ∈ tg := tb_at 859 (by decide +kernel)
theorem mlL_19 : Cond.methodLink RL 19 yX11_write ∈ tg := tb_at 957 (by decide +kernel)
theorem imX11_write : Cond.instanceMethod yX11_write ∈ tg := tb_at 958 (by decide +kernel)
theorem slX11_write : Cond.selects RX11 yX11_write yX11_write ∈ tg := by decide +kernel
theorem gvL_19 : GoodIn tg (wsV RL 19 RX11 yX11_write qX11_write) := gv_of mlL_19 imX11_write slX11_write iniX11 cdX11_write
theorem mlX11_51 : Cond.methodLink RX11 51 yX11_in ∈ tg := tb_at 961 (by decide +kernel)
theorem smX11_in : Cond.static yX11_in ∈ tg := tb_at 962 (by decide +kernel)
theorem gsX11_51 : GoodIn tg (wsS RX11 51 yX11_in qX11_in) := gs_of mlX11_51 smX11_in iniX11 cdX11_in
theorem mlL_24 : Cond.methodLink RL 24 yX11_erase ∈ tg := tb_at 965 (by decide +kernel)
theorem imX11_erase : Cond.instanceMethod yX11_erase ∈ tg := tb_at 966 (by decide +kernel)
theorem slX11_erase : Cond.selects RX11 yX11_erase yX11_erase ∈ tg := by decide +kernel
theorem gvL_24 : GoodIn tg (wsV RL 24 RX11 yX11_erase qX11_erase) := gv_of mlL_24 imX11_erase slX11_erase iniX11 cdX11_erase
theorem mlL_28 : Cond.methodLink RL 28 yX11_fault ∈ tg := tb_at 969 (by decide +kernel)
theorem imX11_fault : Cond.instanceMethod yX11_fault ∈ tg := tb_at 970 (by decide +kernel)
theorem slX11_fault : Cond.selects RX11 yX11_fault yX11_fault ∈ tg := by decide +kernel
theorem gvL_28 : GoodIn tg (wsV RL 28 RX11 yX11_fault qX11_fault) := gv_of mlL_28 imX11_fault slX11_fault iniX11 cdX11_fault
theorem mlX11_148 : Cond.methodLink RX11 148 yX11_isRead ∈ tg := tb_at 973 (by decide +kernel)
theorem imX11_isRead : Cond.instanceMethod yX11_isRead ∈ tg := tb_at 975 (by decide +kernel)
theorem slX11_isRead : Cond.selects RX11 yX11_isRead yX11_isRead ∈ tg := by decide +kernel
theorem gvX11_148 : GoodIn tg (wsV RX11 148 RX11 yX11_isRead qX11_isRead) := gv_of mlX11_148 imX11_isRead slX11_isRead iniX11 cdX11_isRead
theorem mlX11_145 : Cond.methodLink RX11 145 yX11_isLine ∈ tg := tb_at 977 (by decide +kernel)
theorem imX11_isLine : Cond.instanceMethod yX11_isLine ∈ tg := tb_at 979 (by decide +kernel)
theorem slX11_isLine : Cond.selects RX11 yX11_isLine yX11_isLine ∈ tg := by decide +kernel
theorem gvX11_145 : GoodIn tg (wsV RX11 145 RX11 yX11_isLine qX11_isLine) := gv_of mlX11_145 imX11_isLine slX11_isLine iniX11 cdX11_isLine
theorem mlX11_94 : Cond.methodLink RX11 94 yX11_nextToken ∈ tg := tb_at 981 (by decide +kernel)
theorem imX11_nextToken : Cond.instanceMethod yX11_nextToken ∈ tg := tb_at 983 (by decide +kernel)
theorem slX11_nextToken : Cond.selects RX11 yX11_nextToken yX11_nextToken ∈ tg := by decide +kernel
theorem gvX11_94 : GoodIn tg (wsV RX11 94 RX11 yX11_nextToken qX11_nextToken) := gv_of mlX11_94 imX11_nextToken slX11_nextToken iniX11 cdX11_nextToken
theorem mlX11_132 : Cond.methodLink RX11 132 yX11_isThingLine ∈ tg := tb_at 1002 (by decide +kernel)
theorem imX11_isThingLine : Cond.instanceMethod yX11_isThingLine ∈ tg := tb_at 1004 (by decide +kernel)
theorem slX11_isThingLine : Cond.selects RX11 yX11_isThingLine yX11_isThingLine ∈ tg := by decide +kernel
theorem gvX11_132 : GoodIn tg (wsV RX11 132 RX11 yX11_isThingLine qX11_isThingLine) := gv_of mlX11_132 imX11_isThingLine slX11_isThingLine iniX11 cdX11_isThingLine
theorem mlX11_97 : Cond.methodLink RX11 97 yX11_fails ∈ tg := tb_at 1006 (by decide +kernel)
theorem imX11_fails : Cond.instanceMethod yX11_fails ∈ tg := tb_at 1008 (by decide +kernel)
theorem slX11_fails : Cond.selects RX11 yX11_fails yX11_fails ∈ tg := by decide +kernel
theorem gvX11_97 : GoodIn tg (wsV RX11 97 RX11 yX11_fails qX11_fails) := gv_of mlX11_97 imX11_fails slX11_fails iniX11 cdX11_fails
theorem mlX11_104 : Cond.methodLink RX11 104 yX11_isNumber ∈ tg := tb_at 1010 (by decide +kernel)
theorem imX11_isNumber : Cond.instanceMethod yX11_isNumber ∈ tg := tb_at 1012 (by decide +kernel)
theorem slX11_isNumber : Cond.selects RX11 yX11_isNumber yX11_isNumber ∈ tg := by decide +kernel
theorem gvX11_104 : GoodIn tg (wsV RX11 104 RX11 yX11_isNumber qX11_isNumber) := gv_of mlX11_104 imX11_isNumber slX11_isNumber iniX11 cdX11_isNumber
theorem mlX11_136 : Cond.methodLink RX11 136 yX11_isFerryLine ∈ tg := tb_at 1014 (by decide +kernel)
theorem imX11_isFerryLine : Cond.instanceMethod yX11_isFerryLine ∈ tg := tb_at 1016 (by decide +kernel)
theorem slX11_isFerryLine : Cond.selects RX11 yX11_isFerryLine yX11_isFerryLine ∈ tg := by decide +kernel
theorem gvX11_136 : GoodIn tg (wsV RX11 136 RX11 yX11_isFerryLine qX11_isFerryLine) := gv_of mlX11_136 imX11_isFerryLine slX11_isFerryLine iniX11 cdX11_isFerryLine
theorem mlX11_139 : Cond.methodLink RX11 139 yX11_isHat ∈ tg := tb_at 1018 (by decide +kernel)
theorem imX11_isHat : Cond.instanceMethod yX11_isHat ∈ tg := tb_at 1020 (by decide +kernel)
theorem slX11_isHat : Cond.selects RX11 yX11_isHat yX11_isHat ∈ tg := by decide +kernel
theorem gvX11_139 : GoodIn tg (wsV RX11 139 RX11 yX11_isHat qX11_isHat) := gv_of mlX11_139 imX11_isHat slX11_isHat iniX11 cdX11_isHat
theorem mlL_32 : Cond.methodLink RL 32 yX11_shore ∈ tg := tb_at 1022 (by decide +kernel)
theorem imX11_shore : Cond.instanceMethod yX11_shore ∈ tg := tb_at 1023 (by decide +kernel)
theorem slX11_shore : Cond.selects RX11 yX11_shore yX11_shore ∈ tg := by decide +kernel
theorem gvL_32 : GoodIn tg (wsV RL 32 RX11 yX11_shore qX11_shore) := gv_of mlL_32 imX11_shore slX11_shore iniX11 cdX11_shore
theorem mlX11_151 : Cond.methodLink RX11 151 yX11_doLine ∈ tg := tb_at 1026 (by decide +kernel)
theorem imX11_doLine : Cond.instanceMethod yX11_doLine ∈ tg := tb_at 1028 (by decide +kernel)
theorem slX11_doLine : Cond.selects RX11 yX11_doLine yX11_doLine ∈ tg := by decide +kernel
theorem gvX11_151 : GoodIn tg (wsV RX11 151 RX11 yX11_doLine qX11_doLine) := gv_of mlX11_151 imX11_doLine slX11_doLine iniX11 cdX11_doLine
theorem mlL_37 : Cond.methodLink RL 37 yX11_thing ∈ tg := tb_at 1030 (by decide +kernel)
theorem imX11_thing : Cond.instanceMethod yX11_thing ∈ tg := tb_at 1031 (by decide +kernel)
theorem slX11_thing : Cond.selects RX11 yX11_thing yX11_thing ∈ tg := by decide +kernel
theorem gvL_37 : GoodIn tg (wsV RL 37 RX11 yX11_thing qX11_thing) := gv_of mlL_37 imX11_thing slX11_thing iniX11 cdX11_thing
theorem mlX11_177 : Cond.methodLink RX11 177 yX11_isThing ∈ tg := tb_at 1034 (by decide +kernel)
theorem imX11_isThing : Cond.instanceMethod yX11_isThing ∈ tg := tb_at 1036 (by decide +kernel)
theorem slX11_isThing : Cond.selects RX11 yX11_isThing yX11_isThing ∈ tg := by decide +kernel
theorem gvX11_177 : GoodIn tg (wsV RX11 177 RX11 yX11_isThing qX11_isThing) := gv_of mlX11_177 imX11_isThing slX11_isThing iniX11 cdX11_isThing
theorem mlX11_173 : Cond.methodLink RX11 173 yX11_has ∈ tg := tb_at 1038 (by decide +kernel)
theorem smX11_has : Cond.static yX11_has ∈ tg := tb_at 1039 (by decide +kernel)
theorem gsX11_173 : GoodIn tg (wsS RX11 173 yX11_has qX11_has) := gs_of mlX11_173 smX11_has iniX11 cdX11_has
theorem mlX11_180 : Cond.methodLink RX11 180 yX11_poundsOf ∈ tg := tb_at 1041 (by decide +kernel)
theorem imX11_poundsOf : Cond.instanceMethod yX11_poundsOf ∈ tg := tb_at 1043 (by decide +kernel)
theorem slX11_poundsOf : Cond.selects RX11 yX11_poundsOf yX11_poundsOf ∈ tg := by decide +kernel
theorem gvX11_180 : GoodIn tg (wsV RX11 180 RX11 yX11_poundsOf qX11_poundsOf) := gv_of mlX11_180 imX11_poundsOf slX11_poundsOf iniX11 cdX11_poundsOf
theorem mlL_41 : Cond.methodLink RL 41 yX11_ferry ∈ tg := tb_at 1045 (by decide +kernel)
theorem imX11_ferry : Cond.instanceMethod yX11_ferry ∈ tg := tb_at 1046 (by decide +kernel)
theorem slX11_ferry : Cond.selects RX11 yX11_ferry yX11_ferry ∈ tg := by decide +kernel
theorem gvL_41 : GoodIn tg (wsV RL 41 RX11 yX11_ferry qX11_ferry) := gv_of mlL_41 imX11_ferry slX11_ferry iniX11 cdX11_ferry
theorem mlX11_184 : Cond.methodLink RX11 184 yX11_isFerry ∈ tg := tb_at 1049 (by decide +kernel)
theorem imX11_isFerry : Cond.instanceMethod yX11_isFerry ∈ tg := tb_at 1051 (by decide +kernel)
theorem slX11_isFerry : Cond.selects RX11 yX11_isFerry yX11_isFerry ∈ tg := by decide +kernel
theorem gvX11_184 : GoodIn tg (wsV RX11 184 RX11 yX11_isFerry qX11_isFerry) := gv_of mlX11_184 imX11_isFerry slX11_isFerry iniX11 cdX11_isFerry
theorem mlX11_187 : Cond.methodLink RX11 187 yX11_numberOf ∈ tg := tb_at 1053 (by decide +kernel)
theorem imX11_numberOf : Cond.instanceMethod yX11_numberOf ∈ tg := tb_at 1055 (by decide +kernel)
theorem slX11_numberOf : Cond.selects RX11 yX11_numberOf yX11_numberOf ∈ tg := by decide +kernel
theorem gvX11_187 : GoodIn tg (wsV RX11 187 RX11 yX11_numberOf qX11_numberOf) := gv_of mlX11_187 imX11_numberOf slX11_numberOf iniX11 cdX11_numberOf
theorem mlL_45 : Cond.methodLink RL 45 yX11_as ∈ tg := tb_at 1057 (by decide +kernel)
theorem imX11_as : Cond.instanceMethod yX11_as ∈ tg := tb_at 1058 (by decide +kernel)
theorem slX11_as : Cond.selects RX11 yX11_as yX11_as ∈ tg := by decide +kernel
theorem gvL_45 : GoodIn tg (wsV RL 45 RX11 yX11_as qX11_as) := gv_of mlL_45 imX11_as slX11_as iniX11 cdX11_as
theorem mlL_49 : Cond.methodLink RL 49 yX11_right ∈ tg := tb_at 1061 (by decide +kernel)
theorem imX11_right : Cond.instanceMethod yX11_right ∈ tg := tb_at 1062 (by decide +kernel)
theorem slX11_right : Cond.selects RX11 yX11_right yX11_right ∈ tg := by decide +kernel
theorem gvL_49 : GoodIn tg (wsV RL 49 RX11 yX11_right qX11_right) := gv_of mlL_49 imX11_right slX11_right iniX11 cdX11_right
theorem mlX11_204 : Cond.methodLink RX11 204 yX11_isSet ∈ tg := tb_at 1065 (by decide +kernel)
theorem imX11_isSet : Cond.instanceMethod yX11_isSet ∈ tg := tb_at 1067 (by decide +kernel)
theorem slX11_isSet : Cond.selects RX11 yX11_isSet yX11_isSet ∈ tg := by decide +kernel
theorem gvX11_204 : GoodIn tg (wsV RX11 204 RX11 yX11_isSet qX11_isSet) := gv_of mlX11_204 imX11_isSet slX11_isSet iniX11 cdX11_isSet
theorem mlX11_207 : Cond.methodLink RX11 207 yX11_isRight ∈ tg := tb_at 1069 (by decide +kernel)
theorem imX11_isRight : Cond.instanceMethod yX11_isRight ∈ tg := tb_at 1071 (by decide +kernel)
theorem slX11_isRight : Cond.selects RX11 yX11_isRight yX11_isRight ∈ tg := by decide +kernel
theorem gvX11_207 : GoodIn tg (wsV RX11 207 RX11 yX11_isRight qX11_isRight) := gv_of mlX11_207 imX11_isRight slX11_isRight iniX11 cdX11_isRight
theorem mlX11_191 : Cond.methodLink RX11 191 yX11_canBoard ∈ tg := tb_at 1073 (by decide +kernel)
theorem imX11_canBoard : Cond.instanceMethod yX11_canBoard ∈ tg := tb_at 1075 (by decide +kernel)
theorem slX11_canBoard : Cond.selects RX11 yX11_canBoard yX11_canBoard ∈ tg := by decide +kernel
theorem gvX11_191 : GoodIn tg (wsV RX11 191 RX11 yX11_canBoard qX11_canBoard) := gv_of mlX11_191 imX11_canBoard slX11_canBoard iniX11 cdX11_canBoard
theorem mlX11_195 : Cond.methodLink RX11 195 yX11_bits ∈ tg := tb_at 1077 (by decide +kernel)
theorem smX11_bits : Cond.static yX11_bits ∈ tg := tb_at 1078 (by decide +kernel)
theorem gsX11_195 : GoodIn tg (wsS RX11 195 yX11_bits qX11_bits) := gs_of mlX11_195 smX11_bits iniX11 cdX11_bits
theorem mlX11_198 : Cond.methodLink RX11 198 yX11_poundsOfAll ∈ tg := tb_at 1080 (by decide +kernel)
theorem imX11_poundsOfAll : Cond.instanceMethod yX11_poundsOfAll ∈ tg := tb_at 1082 (by decide +kernel)
theorem slX11_poundsOfAll : Cond.selects RX11 yX11_poundsOfAll yX11_poundsOfAll ∈ tg := by decide +kernel
theorem gvX11_198 : GoodIn tg (wsV RX11 198 RX11 yX11_poundsOfAll qX11_poundsOfAll) := gv_of mlX11_198 imX11_poundsOfAll slX11_poundsOfAll iniX11 cdX11_poundsOfAll
theorem mlX11_201 : Cond.methodLink RX11 201 yX11_fitsBy ∈ tg := tb_at 1084 (by decide +kernel)
theorem imX11_fitsBy : Cond.instanceMethod yX11_fitsBy ∈ tg := tb_at 1086 (by decide +kernel)
theorem slX11_fitsBy : Cond.selects RX11 yX11_fitsBy yX11_fitsBy ∈ tg := by decide +kernel
theorem gvX11_201 : GoodIn tg (wsV RX11 201 RX11 yX11_fitsBy qX11_fitsBy) := gv_of mlX11_201 imX11_fitsBy slX11_fitsBy iniX11 cdX11_fitsBy
theorem mlL_53 : Cond.methodLink RL 53 yX11_cross ∈ tg := tb_at 1088 (by decide +kernel)
theorem imX11_cross : Cond.instanceMethod yX11_cross ∈ tg := tb_at 1089 (by decide +kernel)
theorem slX11_cross : Cond.selects RX11 yX11_cross yX11_cross ∈ tg := by decide +kernel
theorem gvL_53 : GoodIn tg (wsV RL 53 RX11 yX11_cross qX11_cross) := gv_of mlL_53 imX11_cross slX11_cross iniX11 cdX11_cross
theorem mlL_58 : Cond.methodLink RL 58 yX11_doff ∈ tg := tb_at 1092 (by decide +kernel)
theorem imX11_doff : Cond.instanceMethod yX11_doff ∈ tg := tb_at 1093 (by decide +kernel)
theorem slX11_doff : Cond.selects RX11 yX11_doff yX11_doff ∈ tg := by decide +kernel
theorem gvL_58 : GoodIn tg (wsV RL 58 RX11 yX11_doff qX11_doff) := gv_of mlL_58 imX11_doff slX11_doff iniX11 cdX11_doff
theorem mlL_62 : Cond.methodLink RL 62 yX11_noon ∈ tg := tb_at 1096 (by decide +kernel)
theorem imX11_noon : Cond.instanceMethod yX11_noon ∈ tg := tb_at 1097 (by decide +kernel)
theorem slX11_noon : Cond.selects RX11 yX11_noon yX11_noon ∈ tg := by decide +kernel
theorem gvL_62 : GoodIn tg (wsV RL 62 RX11 yX11_noon qX11_noon) := gv_of mlL_62 imX11_noon slX11_noon iniX11 cdX11_noon
theorem mlL_66 : Cond.methodLink RL 66 yX11_keep ∈ tg := tb_at 1100 (by decide +kernel)
theorem imX11_keep : Cond.instanceMethod yX11_keep ∈ tg := tb_at 1101 (by decide +kernel)
theorem slX11_keep : Cond.selects RX11 yX11_keep yX11_keep ∈ tg := by decide +kernel
theorem gvL_66 : GoodIn tg (wsV RL 66 RX11 yX11_keep qX11_keep) := gv_of mlL_66 imX11_keep slX11_keep iniX11 cdX11_keep
theorem mlL_70 : Cond.methodLink RL 70 yX11_back ∈ tg := tb_at 1104 (by decide +kernel)
theorem imX11_back : Cond.instanceMethod yX11_back ∈ tg := tb_at 1105 (by decide +kernel)
theorem slX11_back : Cond.selects RX11 yX11_back yX11_back ∈ tg := by decide +kernel
theorem gvL_70 : GoodIn tg (wsV RL 70 RX11 yX11_back qX11_back) := gv_of mlL_70 imX11_back slX11_back iniX11 cdX11_back
theorem mlL_74 : Cond.methodLink RL 74 yX11_loads ∈ tg := tb_at 1108 (by decide +kernel)
theorem imX11_loads : Cond.instanceMethod yX11_loads ∈ tg := tb_at 1109 (by decide +kernel)
theorem slX11_loads : Cond.selects RX11 yX11_loads yX11_loads ∈ tg := by decide +kernel
theorem gvL_74 : GoodIn tg (wsV RL 74 RX11 yX11_loads qX11_loads) := gv_of mlL_74 imX11_loads slX11_loads iniX11 cdX11_loads
theorem mlX11_211 : Cond.methodLink RX11 211 yX11_wishes ∈ tg := tb_at 1112 (by decide +kernel)
theorem imX11_wishes : Cond.instanceMethod yX11_wishes ∈ tg := tb_at 1114 (by decide +kernel)
theorem slX11_wishes : Cond.selects RX11 yX11_wishes yX11_wishes ∈ tg := by decide +kernel
theorem gvX11_211 : GoodIn tg (wsV RX11 211 RX11 yX11_wishes qX11_wishes) := gv_of mlX11_211 imX11_wishes slX11_wishes iniX11 cdX11_wishes
theorem mlL_78 : Cond.methodLink RL 78 yX11_weighed ∈ tg := tb_at 1116 (by decide +kernel)
theorem imX11_weighed : Cond.instanceMethod yX11_weighed ∈ tg := tb_at 1117 (by decide +kernel)
theorem slX11_weighed : Cond.selects RX11 yX11_weighed yX11_weighed ∈ tg := by decide +kernel
theorem gvL_78 : GoodIn tg (wsV RL 78 RX11 yX11_weighed qX11_weighed) := gv_of mlL_78 imX11_weighed slX11_weighed iniX11 cdX11_weighed
theorem mlX11_214 : Cond.methodLink RX11 214 yX11_isBank ∈ tg := tb_at 1120 (by decide +kernel)
theorem smX11_isBank : Cond.static yX11_isBank ∈ tg := tb_at 1121 (by decide +kernel)
theorem gsX11_214 : GoodIn tg (wsS RX11 214 yX11_isBank qX11_isBank) := gs_of mlX11_214 smX11_isBank iniX11 cdX11_isBank
theorem mlL_83 : Cond.methodLink RL 83 yX11_hats ∈ tg := tb_at 1123 (by decide +kernel)
theorem imX11_hats : Cond.instanceMethod yX11_hats ∈ tg := tb_at 1124 (by decide +kernel)
theorem slX11_hats : Cond.selects RX11 yX11_hats yX11_hats ∈ tg := by decide +kernel
theorem gvL_83 : GoodIn tg (wsV RL 83 RX11 yX11_hats qX11_hats) := gv_of mlL_83 imX11_hats slX11_hats iniX11 cdX11_hats
theorem mlL_87 : Cond.methodLink RL 87 yX11_stones ∈ tg := tb_at 1127 (by decide +kernel)
theorem imX11_stones : Cond.instanceMethod yX11_stones ∈ tg := tb_at 1128 (by decide +kernel)
theorem slX11_stones : Cond.selects RX11 yX11_stones yX11_stones ∈ tg := by decide +kernel
theorem gvL_87 : GoodIn tg (wsV RL 87 RX11 yX11_stones qX11_stones) := gv_of mlL_87 imX11_stones slX11_stones iniX11 cdX11_stones
theorem mlL_91 : Cond.methodLink RL 91 yX11_sure ∈ tg := tb_at 1131 (by decide +kernel)
theorem imX11_sure : Cond.instanceMethod yX11_sure ∈ tg := tb_at 1132 (by decide +kernel)
theorem slX11_sure : Cond.selects RX11 yX11_sure yX11_sure ∈ tg := by decide +kernel
theorem gvL_91 : GoodIn tg (wsV RL 91 RX11 yX11_sure qX11_sure) := gv_of mlL_91 imX11_sure slX11_sure iniX11 cdX11_sure
theorem mlL_96 : Cond.methodLink RL 96 yX11_aboard ∈ tg := tb_at 1135 (by decide +kernel)
theorem imX11_aboard : Cond.instanceMethod yX11_aboard ∈ tg := tb_at 1136 (by decide +kernel)
theorem slX11_aboard : Cond.selects RX11 yX11_aboard yX11_aboard ∈ tg := by decide +kernel
theorem gvL_96 : GoodIn tg (wsV RL 96 RX11 yX11_aboard qX11_aboard) := gv_of mlL_96 imX11_aboard slX11_aboard iniX11 cdX11_aboard
theorem mlL_100 : Cond.methodLink RL 100 yX11_fewest ∈ tg := tb_at 1139 (by decide +kernel)
theorem imX11_fewest : Cond.instanceMethod yX11_fewest ∈ tg := tb_at 1140 (by decide +kernel)
theorem slX11_fewest : Cond.selects RX11 yX11_fewest yX11_fewest ∈ tg := by decide +kernel
theorem gvL_100 : GoodIn tg (wsV RL 100 RX11 yX11_fewest qX11_fewest) := gv_of mlL_100 imX11_fewest slX11_fewest iniX11 cdX11_fewest
theorem mlX11_220 : Cond.methodLink RX11 220 yX11_goThrough ∈ tg := tb_at 1143 (by decide +kernel)
theorem imX11_goThrough : Cond.instanceMethod yX11_goThrough ∈ tg := tb_at 1145 (by decide +kernel)
theorem slX11_goThrough : Cond.selects RX11 yX11_goThrough yX11_goThrough ∈ tg := by decide +kernel
theorem gvX11_220 : GoodIn tg (wsV RX11 220 RX11 yX11_goThrough qX11_goThrough) := gv_of mlX11_220 imX11_goThrough slX11_goThrough iniX11 cdX11_goThrough
theorem mlX11_217 : Cond.methodLink RX11 217 yX11_isOver ∈ tg := tb_at 1147 (by decide +kernel)
theorem smX11_isOver : Cond.static yX11_isOver ∈ tg := tb_at 1148 (by decide +kernel)
theorem gsX11_217 : GoodIn tg (wsS RX11 217 yX11_isOver qX11_isOver) := gs_of mlX11_217 smX11_isOver iniX11 cdX11_isOver
theorem mlL_104 : Cond.methodLink RL 104 yX11_soonest ∈ tg := tb_at 1150 (by decide +kernel)
theorem imX11_soonest : Cond.instanceMethod yX11_soonest ∈ tg := tb_at 1151 (by decide +kernel)
theorem slX11_soonest : Cond.selects RX11 yX11_soonest yX11_soonest ∈ tg := by decide +kernel
theorem gvL_104 : GoodIn tg (wsV RL 104 RX11 yX11_soonest qX11_soonest) := gv_of mlL_104 imX11_soonest slX11_soonest iniX11 cdX11_soonest
theorem mlL_108 : Cond.methodLink RL 108 yX11_row ∈ tg := tb_at 1155 (by decide +kernel)
theorem imX11_row : Cond.instanceMethod yX11_row ∈ tg := tb_at 1156 (by decide +kernel)
theorem slX11_row : Cond.selects RX11 yX11_row yX11_row ∈ tg := by decide +kernel
theorem gvL_108 : GoodIn tg (wsV RL 108 RX11 yX11_row qX11_row) := gv_of mlL_108 imX11_row slX11_row iniX11 cdX11_row
theorem mlL_112 : Cond.methodLink RL 112 yX11_burn ∈ tg := tb_at 1159 (by decide +kernel)
theorem imX11_burn : Cond.instanceMethod yX11_burn ∈ tg := tb_at 1160 (by decide +kernel)
theorem slX11_burn : Cond.selects RX11 yX11_burn yX11_burn ∈ tg := by decide +kernel
theorem gvL_112 : GoodIn tg (wsV RL 112 RX11 yX11_burn qX11_burn) := gv_of mlL_112 imX11_burn slX11_burn iniX11 cdX11_burn
theorem mlL_116 : Cond.methodLink RL 116 yX11_judge ∈ tg := tb_at 1163 (by decide +kernel)
theorem imX11_judge : Cond.instanceMethod yX11_judge ∈ tg := tb_at 1164 (by decide +kernel)
theorem slX11_judge : Cond.selects RX11 yX11_judge yX11_judge ∈ tg := by decide +kernel
theorem gvL_116 : GoodIn tg (wsV RL 116 RX11 yX11_judge qX11_judge) := gv_of mlL_116 imX11_judge slX11_judge iniX11 cdX11_judge
theorem mlL_120 : Cond.methodLink RL 120 yX11_count ∈ tg := tb_at 1167 (by decide +kernel)
theorem imX11_count : Cond.instanceMethod yX11_count ∈ tg := tb_at 1168 (by decide +kernel)
theorem slX11_count : Cond.selects RX11 yX11_count yX11_count ∈ tg := by decide +kernel
theorem gvL_120 : GoodIn tg (wsV RL 120 RX11 yX11_count qX11_count) := gv_of mlL_120 imX11_count slX11_count iniX11 cdX11_count
theorem cnX10_66 : Cond.constantLong RX10 66 (255) ∈ tg := tb_at 356 (by decide +kernel)
theorem cnJ2_227 : Cond.constant RJ2 227 (65536) ∈ tg := tb_at 497 (by decide +kernel)
theorem cnJ11_110 : Cond.constant RJ11 110 (55232) ∈ tg := tb_at 522 (by decide +kernel)
theorem cnJ11_76 : Cond.constant RJ11 76 (56320) ∈ tg := tb_at 526 (by decide +kernel)
theorem cnJ6_265 : Cond.constant RJ6 265 (1431655765) ∈ tg := tb_at 667 (by decide +kernel)
theorem cnJ6_266 : Cond.constant RJ6 266 (858993459) ∈ tg := tb_at 668 (by decide +kernel)
theorem cnJ6_267 : Cond.constant RJ6 267 (252645135) ∈ tg := tb_at 669 (by decide +kernel)
theorem cnX4_89 : Cond.constant RX4 89 (2147483647) ∈ tg := tb_at 803 (by decide +kernel)
theorem cnX11_61 : Cond.constantLong RX11 61 (255) ∈ tg := tb_at 964 (by decide +kernel)
theorem cnX11_75 : Cond.constantLong RX11 75 (-2) ∈ tg := tb_at 985 (by decide +kernel)
theorem cnX11_81 : Cond.constantLong RX11 81 (27) ∈ tg := tb_at 986 (by decide +kernel)
theorem cnX11_83 : Cond.constantLong RX11 83 (96) ∈ tg := tb_at 987 (by decide +kernel)
theorem cnX11_85 : Cond.constantLong RX11 85 (-4) ∈ tg := tb_at 988 (by decide +kernel)
theorem cnX11_87 : Cond.constantLong RX11 87 (-1) ∈ tg := tb_at 989 (by decide +kernel)
theorem cnX11_89 : Cond.constantLong RX11 89 (-3) ∈ tg := tb_at 990 (by decide +kernel)
theorem cnX11_110 : Cond.constantLong RX11 110 (232608281) ∈ tg := tb_at 991 (by decide +kernel)
theorem cnX11_112 : Cond.constantLong RX11 112 (1758676) ∈ tg := tb_at 992 (by decide +kernel)
theorem cnX11_114 : Cond.constantLong RX11 114 (1162559) ∈ tg := tb_at 993 (by decide +kernel)
theorem cnX11_116 : Cond.constantLong RX11 116 (10502357) ∈ tg := tb_at 994 (by decide +kernel)
theorem cnX11_118 : Cond.constantLong RX11 118 (3130427) ∈ tg := tb_at 995 (by decide +kernel)
theorem cnX11_120 : Cond.constantLong RX11 120 (6683990) ∈ tg := tb_at 996 (by decide +kernel)
theorem cnX11_122 : Cond.constantLong RX11 122 (8059585273) ∈ tg := tb_at 997 (by decide +kernel)
theorem cnX11_124 : Cond.constantLong RX11 124 (10266269) ∈ tg := tb_at 998 (by decide +kernel)
theorem cnX11_126 : Cond.constantLong RX11 126 (5879) ∈ tg := tb_at 999 (by decide +kernel)
theorem cnX11_128 : Cond.constantLong RX11 128 (459791) ∈ tg := tb_at 1000 (by decide +kernel)
theorem cnX11_130 : Cond.constantLong RX11 130 (309156998) ∈ tg := tb_at 1001 (by decide +kernel)
theorem cnX11_223 : Cond.constant RX11 223 (1000000) ∈ tg := tb_at 1154 (by decide +kernel)
theorem cnL_13 : Cond.constantLong RL 13 (4294967295) ∈ tg := tb_at 1171 (by decide +kernel)
theorem clL_7 : Cond.classLink RL 7 RX10 ∈ tg := tb_at 22 (by decide +kernel)
theorem clX10_9 : Cond.classLink RX10 9 RX7 ∈ tg := tb_at 30 (by decide +kernel)
theorem clX10_16 : Cond.classLink RX10 16 RX3 ∈ tg := tb_at 46 (by decide +kernel)
theorem clX3_9 : Cond.classLink RX3 9 RX8 ∈ tg := tb_at 52 (by decide +kernel)
theorem clX3_17 : Cond.classLink RX3 17 RX0 ∈ tg := tb_at 54 (by decide +kernel)
theorem clX3_23 : Cond.classLink RX3 23 RX5 ∈ tg := tb_at 56 (by decide +kernel)
theorem clX10_23 : Cond.classLink RX10 23 RX2 ∈ tg := tb_at 192 (by decide +kernel)
theorem clX2_9 : Cond.classLink RX2 9 RX1 ∈ tg := tb_at 198 (by decide +kernel)
theorem clX10_32 : Cond.classLink RX10 32 RX6 ∈ tg := tb_at 255 (by decide +kernel)
theorem clX10_41 : Cond.classLink RX10 41 RX4 ∈ tg := tb_at 293 (by decide +kernel)
theorem clX10_48 : Cond.classLink RX10 48 RX5 ∈ tg := tb_at 324 (by decide +kernel)
theorem clL_10 : Cond.classLink RL 10 RX11 ∈ tg := tb_at 856 (by decide +kernel)
theorem ni0 : ∀ w ∈ wsX00, w ∈ tg := by decide +kernel
theorem ni1 : ∀ w ∈ wsX10, w ∈ tg := by decide +kernel
theorem ni2 : ∀ w ∈ wsX20, w ∈ tg := by decide +kernel
theorem ni3 : ∀ w ∈ wsX30, w ∈ tg := by decide +kernel
theorem ni4 : ∀ w ∈ wsX40, w ∈ tg := by decide +kernel
theorem ni5 : ∀ w ∈ wsX50, w ∈ tg := by decide +kernel
theorem ni6 : ∀ w ∈ wsX60, w ∈ tg := by decide +kernel
theorem ni7 : ∀ w ∈ wsX70, w ∈ tg := by decide +kernel
theorem ni8 : ∀ w ∈ wsX80, w ∈ tg := by decide +kernel
theorem ni10 : ∀ w ∈ wsX100, w ∈ tg := by decide +kernel
theorem ni11 : ∀ w ∈ wsX110, w ∈ tg := by decide +kernel
end
section
/-! rows over numbers that are naturals (nI), reads and calls over one world -/
def bI (b : Bool) : Int32 := if b then 1 else 0
def rq (d : Nat) : Room := { frames := d, cells := 0, slots := 0, locals := 40 * d }
def tyL (cy : Nat → ClassId) : List (ClassId × FieldType) := [(cy 0, .int), (cy 1, .boolean), (cy 2, .object "NumberFerries$Ferry"), (cy 3, .object "NumberFerries$Line"), (cy 4, .object "NumberFerries$Stand"), (cy 5, .object "NumberFerries$Thing")]
theorem nI_and (a b : Nat) : nI a &&& nI b = nI (a &&& b) := by
  apply Int32.toBitVec_inj.1
  show BitVec.ofNat 32 a &&& BitVec.ofNat 32 b = BitVec.ofNat 32 (a &&& b)
  apply BitVec.eq_of_getLsbD_eq
  intro i hi
  simp [hi]
theorem nI_or (a b : Nat) : nI a ||| nI b = nI (a ||| b) := by
  apply Int32.toBitVec_inj.1
  show BitVec.ofNat 32 a ||| BitVec.ofNat 32 b = BitVec.ofNat 32 (a ||| b)
  apply BitVec.eq_of_getLsbD_eq
  intro i hi
  simp [hi]
theorem nI_xor (a b : Nat) : nI a ^^^ nI b = nI (a ^^^ b) := by
  apply Int32.toBitVec_inj.1
  show BitVec.ofNat 32 a ^^^ BitVec.ofNat 32 b = BitVec.ofNat 32 (a ^^^ b)
  apply BitVec.eq_of_getLsbD_eq
  intro i hi
  simp [hi]
theorem sh_amt : ∀ k, k < 32 → ((nI k &&& 31).toBitVec.smod 32).toNat = k := by decide
theorem nI_shl {a k : Nat} (hk : k < 32) (h : a * 2 ^ k < 2 ^ 32) : nI a <<< (nI k &&& 31) = nI (a * 2 ^ k) := pk_shlN _ k (sh_amt k hk) h
theorem nI_shr {a k : Nat} (hk : k < 32) (h : a < 2 ^ 31) : nI a >>> (nI k &&& 31) = nI (a / 2 ^ k) := pk_shrN h _ k (sh_amt k hk)
theorem nI_nne0 {d : Nat} (h0 : 0 < d) (hd : d < 2 ^ 31) : ¬ nI d = 0 := nI_ne0 h0 hd
theorem bI_t : bI true = nI 1 := rfl
theorem bI_f : bI false = nI 0 := rfl
theorem bI_n (b : Bool) : narrow .boolean (.int (bI b)) = .int (bI b) := by cases b <;> rfl
theorem bI_eq0 (b : Bool) : bI b = 0 ↔ b = false := by cases b <;> decide
theorem m1_ne (a : Nat) (h : a < 2 ^ 31) : ¬ nI a = -1 := by
  intro q
  have h1 := nI_toInt h
  rw [q] at h1
  have h2 : ((-1 : Int32)).toInt = -1 := rfl
  omega
/-- links between nest mates that the methods use -/
def kNl : List Cond := [.methodLinkNest RX3 151 yX10_bankOf "NumberFerries", .methodLinkNest RX3 155 yX10_allOn "NumberFerries", .methodLinkNest RX4 69 yX10_allOn "NumberFerries", .methodLinkNest RX4 103 yX10_bankOf "NumberFerries", .methodLinkNest RX4 106 yX10_crossingOf "NumberFerries", .methodLinkNest RX4 85 yX10_banksBehind "NumberFerries"]
def kN (U : State) : Prop := ∀ w ∈ kNl, va_Nw w U
theorem kN.warm {s U : State} (hW : s.WarmedH U.vm) (h : kN s) : kN U := by
  intro w hw
  have h1 := h w hw
  simp only [kNl, List.mem_cons, List.not_mem_nil, or_false] at hw
  rcases hw with rfl | rfl | rfl | rfl | rfl | rfl <;> exact va_Nw.warmM hW h1
theorem kN.same {s U : State} (hv : s.vm = U.vm) (h : kN s) : kN U := by
  intro w hw
  have h1 := h w hw
  simp only [kNl, List.mem_cons, List.not_mem_nil, or_false] at hw
  rcases hw with rfl | rfl | rfl | rfl | rfl | rfl <;> exact va_Nw.same rfl hv h1
section NR
variable {p : Program} {l : Launch} {e : Env} {R : Room} {s : State} {m : MethodId} {args : Array Value} {below : List Frame} {meth : Method} {c : Code} {H : Heap} {locs : List Loc} {cells slots : Nat} {Q : State → Prop} {cc : ByteArray} {pc : Nat} {ls : Array Slot} {rest : List Value}
theorem ln_iadd (hx : p.tables.exec = Jvm.exec) (hb : c.code = cc) {a b : Nat} (hd : decode cc pc = .ok (.iadd, 1)) (k : W p l e R s m args below meth c H locs cells slots Q (F0 m (pc + 1) ls (.int (nI (a + b)) :: rest))) : W p l e R s m args below meth c H locs cells slots Q (F0 m pc ls (.int (nI b) :: .int (nI a) :: rest)) := lv_iadd hx hb hd (by rw [nI_add]; exact k)
theorem ln_imul (hx : p.tables.exec = Jvm.exec) (hb : c.code = cc) {a b : Nat} (hd : decode cc pc = .ok (.imul, 1)) (k : W p l e R s m args below meth c H locs cells slots Q (F0 m (pc + 1) ls (.int (nI (a * b)) :: rest))) : W p l e R s m args below meth c H locs cells slots Q (F0 m pc ls (.int (nI b) :: .int (nI a) :: rest)) := lv_imul hx hb hd (by rw [pk_mul]; exact k)
theorem ln_iand (hx : p.tables.exec = Jvm.exec) (hb : c.code = cc) {a b : Nat} (hd : decode cc pc = .ok (.iand, 1)) (k : W p l e R s m args below meth c H locs cells slots Q (F0 m (pc + 1) ls (.int (nI (a &&& b)) :: rest))) : W p l e R s m args below meth c H locs cells slots Q (F0 m pc ls (.int (nI b) :: .int (nI a) :: rest)) := lv_iand hx hb hd (by rw [nI_and]; exact k)
theorem ln_ior (hx : p.tables.exec = Jvm.exec) (hb : c.code = cc) {a b : Nat} (hd : decode cc pc = .ok (.ior, 1)) (k : W p l e R s m args below meth c H locs cells slots Q (F0 m (pc + 1) ls (.int (nI (a ||| b)) :: rest))) : W p l e R s m args below meth c H locs cells slots Q (F0 m pc ls (.int (nI b) :: .int (nI a) :: rest)) := lv_ior hx hb hd (by rw [nI_or]; exact k)
theorem ln_ixor (hx : p.tables.exec = Jvm.exec) (hb : c.code = cc) {a b : Nat} (hd : decode cc pc = .ok (.ixor, 1)) (k : W p l e R s m args below meth c H locs cells slots Q (F0 m (pc + 1) ls (.int (nI (a ^^^ b)) :: rest))) : W p l e R s m args below meth c H locs cells slots Q (F0 m pc ls (.int (nI b) :: .int (nI a) :: rest)) := lv_ixor hx hb hd (by rw [nI_xor]; exact k)
theorem ln_isub (hx : p.tables.exec = Jvm.exec) (hb : c.code = cc) {a b : Nat} (hd : decode cc pc = .ok (.isub, 1)) (h : b ≤ a) (k : W p l e R s m args below meth c H locs cells slots Q (F0 m (pc + 1) ls (.int (nI (a - b)) :: rest))) : W p l e R s m args below meth c H locs cells slots Q (F0 m pc ls (.int (nI b) :: .int (nI a) :: rest)) := lv_isub hx hb hd (by rw [pk_sub h]; exact k)
theorem ln_idiv (hx : p.tables.exec = Jvm.exec) (hb : c.code = cc) {a b : Nat} (hd : decode cc pc = .ok (.idiv, 1)) (ha : a < 2 ^ 31) (h0 : 0 < b) (h1 : b < 2 ^ 31) (k : W p l e R s m args below meth c H locs cells slots Q (F0 m (pc + 1) ls (.int (nI (a / b)) :: rest))) : W p l e R s m args below meth c H locs cells slots Q (F0 m pc ls (.int (nI b) :: .int (nI a) :: rest)) := lv_idiv hx hb hd (nI_nne0 h0 h1) (by rw [pk_div ha h0 h1]; exact k)
theorem ln_irem (hx : p.tables.exec = Jvm.exec) (hb : c.code = cc) {a b : Nat} (hd : decode cc pc = .ok (.irem, 1)) (ha : a < 2 ^ 31) (h0 : 0 < b) (h1 : b < 2 ^ 31) (k : W p l e R s m args below meth c H locs cells slots Q (F0 m (pc + 1) ls (.int (nI (a % b)) :: rest))) : W p l e R s m args below meth c H locs cells slots Q (F0 m pc ls (.int (nI b) :: .int (nI a) :: rest)) := lv_irem hx hb hd (nI_nne0 h0 h1) (by rw [pk_rem ha h0 h1]; exact k)
theorem ln_ishl (hx : p.tables.exec = Jvm.exec) (hb : c.code = cc) {a b : Nat} (hd : decode cc pc = .ok (.ishl, 1)) (h0 : b < 32) (h1 : a * 2 ^ b < 2 ^ 32) (k : W p l e R s m args below meth c H locs cells slots Q (F0 m (pc + 1) ls (.int (nI (a * 2 ^ b)) :: rest))) : W p l e R s m args below meth c H locs cells slots Q (F0 m pc ls (.int (nI b) :: .int (nI a) :: rest)) := lv_ishl hx hb hd (by rw [nI_shl h0 h1]; exact k)
theorem ln_ishr (hx : p.tables.exec = Jvm.exec) (hb : c.code = cc) {a b : Nat} (hd : decode cc pc = .ok (.ishr, 1)) (h0 : b < 32) (h1 : a < 2 ^ 31) (k : W p l e R s m args below meth c H locs cells slots Q (F0 m (pc + 1) ls (.int (nI (a / 2 ^ b)) :: rest))) : W p l e R s m args below meth c H locs cells slots Q (F0 m pc ls (.int (nI b) :: .int (nI a) :: rest)) := lv_ishr hx hb hd (by rw [nI_shr h0 h1]; exact k)
theorem ln_eq {v w : Int32} (h : v = w) (k : W p l e R s m args below meth c H locs cells slots Q (F0 m pc ls (.int w :: rest))) : W p l e R s m args below meth c H locs cells slots Q (F0 m pc ls (.int v :: rest)) := by rw [h]; exact k
theorem ln_nat {a b : Nat} (h : a = b) (k : W p l e R s m args below meth c H locs cells slots Q (F0 m pc ls (.int (nI b) :: rest))) : W p l e R s m args below meth c H locs cells slots Q (F0 m pc ls (.int (nI a) :: rest)) := by rw [h]; exact k
theorem ln_iinc (hx : p.tables.exec = Jvm.exec) (hb : c.code = cc) {i nL k a : Nat} {n : Nat} {lv lv' : List (Nat × Value)} (hd : decode cc pc = .ok (.iinc i (n : Int), 3)) (h : lv_has ls nL lv) (hk : lv[k]? = some (i, .int (nI a))) (hn : i < nL) (hl : (i, Value.int (nI (a + n))) :: lv.filter (fun q => !(q.1 == i) && !(q.1 + 1 == i && q.2.category == 2)) = lv') (kk : ∀ ls : Array Slot, lv_has ls nL lv' → W p l e R s m args below meth c H locs cells slots Q (F0 m (pc + 3) ls rest)) : W p l e R s m args below meth c H locs cells slots Q (F0 m pc ls rest) := lv_iinc (v := nI (a + n)) hx hb hd h hk (by rw [← nI_add]; congr 1) hn hl kk
theorem ln_icmp_eq (hx : p.tables.exec = Jvm.exec) (hb : c.code = cc) {a b : Nat} {off : Int} {tgt : Nat} (hd : decode cc pc = .ok (.if_icmp .eq off, 3)) (ht : (pc : Int) + off = (tgt : Int)) (ha : a < 2 ^ 31) (hb2 : b < 2 ^ 31) (kt : a = b → W p l e R s m args below meth c H locs cells slots Q (F0 m tgt ls rest)) (kf : ¬ a = b → W p l e R s m args below meth c H locs cells slots Q (F0 m (pc + 3) ls rest)) : W p l e R s m args below meth c H locs cells slots Q (F0 m pc ls (.int (nI b) :: .int (nI a) :: rest)) := lv_icmp_eq hx hb hd ht (fun h => kt ((nI_eq ha hb2).mp h)) (fun h => kf (fun q => h ((nI_eq ha hb2).mpr q)))
theorem ln_icmp_ne (hx : p.tables.exec = Jvm.exec) (hb : c.code = cc) {a b : Nat} {off : Int} {tgt : Nat} (hd : decode cc pc = .ok (.if_icmp .ne off, 3)) (ht : (pc : Int) + off = (tgt : Int)) (ha : a < 2 ^ 31) (hb2 : b < 2 ^ 31) (kt : ¬ a = b → W p l e R s m args below meth c H locs cells slots Q (F0 m tgt ls rest)) (kf : a = b → W p l e R s m args below meth c H locs cells slots Q (F0 m (pc + 3) ls rest)) : W p l e R s m args below meth c H locs cells slots Q (F0 m pc ls (.int (nI b) :: .int (nI a) :: rest)) := lv_icmp_ne hx hb hd ht (fun h => kt (fun q => h ((nI_eq ha hb2).mpr q))) (fun h => kf ((nI_eq ha hb2).mp h))
theorem ln_icmp_lt (hx : p.tables.exec = Jvm.exec) (hb : c.code = cc) {a b : Nat} {off : Int} {tgt : Nat} (hd : decode cc pc = .ok (.if_icmp .lt off, 3)) (ht : (pc : Int) + off = (tgt : Int)) (ha : a < 2 ^ 31) (hb2 : b < 2 ^ 31) (kt : a < b → W p l e R s m args below meth c H locs cells slots Q (F0 m tgt ls rest)) (kf : b ≤ a → W p l e R s m args below meth c H locs cells slots Q (F0 m (pc + 3) ls rest)) : W p l e R s m args below meth c H locs cells slots Q (F0 m pc ls (.int (nI b) :: .int (nI a) :: rest)) := lv_icmp_lt hx hb hd ht (fun h => kt ((nI_ltI ha hb2).mp h)) (fun h => kf (Nat.not_lt.mp fun q => h ((nI_ltI ha hb2).mpr q)))
theorem ln_icmp_ge (hx : p.tables.exec = Jvm.exec) (hb : c.code = cc) {a b : Nat} {off : Int} {tgt : Nat} (hd : decode cc pc = .ok (.if_icmp .ge off, 3)) (ht : (pc : Int) + off = (tgt : Int)) (ha : a < 2 ^ 31) (hb2 : b < 2 ^ 31) (kt : b ≤ a → W p l e R s m args below meth c H locs cells slots Q (F0 m tgt ls rest)) (kf : a < b → W p l e R s m args below meth c H locs cells slots Q (F0 m (pc + 3) ls rest)) : W p l e R s m args below meth c H locs cells slots Q (F0 m pc ls (.int (nI b) :: .int (nI a) :: rest)) := lv_icmp_ge hx hb hd ht (fun h => kt ((nI_leI hb2 ha).mp h)) (fun h => kf (Nat.not_le.mp fun q => h ((nI_leI hb2 ha).mpr q)))
theorem ln_icmp_gt (hx : p.tables.exec = Jvm.exec) (hb : c.code = cc) {a b : Nat} {off : Int} {tgt : Nat} (hd : decode cc pc = .ok (.if_icmp .gt off, 3)) (ht : (pc : Int) + off = (tgt : Int)) (ha : a < 2 ^ 31) (hb2 : b < 2 ^ 31) (kt : b < a → W p l e R s m args below meth c H locs cells slots Q (F0 m tgt ls rest)) (kf : a ≤ b → W p l e R s m args below meth c H locs cells slots Q (F0 m (pc + 3) ls rest)) : W p l e R s m args below meth c H locs cells slots Q (F0 m pc ls (.int (nI b) :: .int (nI a) :: rest)) := lv_icmp_gt hx hb hd ht (fun h => kt ((nI_ltI hb2 ha).mp h)) (fun h => kf (Nat.not_lt.mp fun q => h ((nI_ltI hb2 ha).mpr q)))
theorem ln_icmp_le (hx : p.tables.exec = Jvm.exec) (hb : c.code = cc) {a b : Nat} {off : Int} {tgt : Nat} (hd : decode cc pc = .ok (.if_icmp .le off, 3)) (ht : (pc : Int) + off = (tgt : Int)) (ha : a < 2 ^ 31) (hb2 : b < 2 ^ 31) (kt : a ≤ b → W p l e R s m args below meth c H locs cells slots Q (F0 m tgt ls rest)) (kf : b < a → W p l e R s m args below meth c H locs cells slots Q (F0 m (pc + 3) ls rest)) : W p l e R s m args below meth c H locs cells slots Q (F0 m pc ls (.int (nI b) :: .int (nI a) :: rest)) := lv_icmp_le hx hb hd ht (fun h => kt ((nI_leI ha hb2).mp h)) (fun h => kf (Nat.not_le.mp fun q => h ((nI_leI ha hb2).mpr q)))
theorem ln_if_eq (hx : p.tables.exec = Jvm.exec) (hb : c.code = cc) {a : Nat} {off : Int} {tgt : Nat} (hd : decode cc pc = .ok (.ifCond .eq off, 3)) (ht : (pc : Int) + off = (tgt : Int)) (ha : a < 2 ^ 31) (kt : a = 0 → W p l e R s m args below meth c H locs cells slots Q (F0 m tgt ls rest)) (kf : 0 < a → W p l e R s m args below meth c H locs cells slots Q (F0 m (pc + 3) ls rest)) : W p l e R s m args below meth c H locs cells slots Q (F0 m pc ls (.int (nI a) :: rest)) := lv_if_eq hx hb hd ht (fun h => kt ((nI_eq ha (b := 0) (by decide)).mp h)) (fun h => kf (Nat.pos_of_ne_zero fun q => h ((nI_eq ha (b := 0) (by decide)).mpr q)))
theorem ln_if_ne (hx : p.tables.exec = Jvm.exec) (hb : c.code = cc) {a : Nat} {off : Int} {tgt : Nat} (hd : decode cc pc = .ok (.ifCond .ne off, 3)) (ht : (pc : Int) + off = (tgt : Int)) (ha : a < 2 ^ 31) (kt : 0 < a → W p l e R s m args below meth c H locs cells slots Q (F0 m tgt ls rest)) (kf : a = 0 → W p l e R s m args below meth c H locs cells slots Q (F0 m (pc + 3) ls rest)) : W p l e R s m args below meth c H locs cells slots Q (F0 m pc ls (.int (nI a) :: rest)) := lv_if_ne hx hb hd ht (fun h => kt (Nat.pos_of_ne_zero fun q => h ((nI_eq ha (b := 0) (by decide)).mpr q))) (fun h => kf ((nI_eq ha (b := 0) (by decide)).mp h))
theorem ln_if_gt (hx : p.tables.exec = Jvm.exec) (hb : c.code = cc) {a : Nat} {off : Int} {tgt : Nat} (hd : decode cc pc = .ok (.ifCond .gt off, 3)) (ht : (pc : Int) + off = (tgt : Int)) (ha : a < 2 ^ 31) (kt : 0 < a → W p l e R s m args below meth c H locs cells slots Q (F0 m tgt ls rest)) (kf : a = 0 → W p l e R s m args below meth c H locs cells slots Q (F0 m (pc + 3) ls rest)) : W p l e R s m args below meth c H locs cells slots Q (F0 m pc ls (.int (nI a) :: rest)) := lv_if_gt hx hb hd ht (fun h => kt ((nI_ltI (a := 0) (by decide) ha).mp h)) (fun h => kf (Nat.eq_zero_of_not_pos fun q => h ((nI_ltI (a := 0) (by decide) ha).mpr q)))
theorem ln_if_le (hx : p.tables.exec = Jvm.exec) (hb : c.code = cc) {a : Nat} {off : Int} {tgt : Nat} (hd : decode cc pc = .ok (.ifCond .le off, 3)) (ht : (pc : Int) + off = (tgt : Int)) (ha : a < 2 ^ 31) (kt : a = 0 → W p l e R s m args below meth c H locs cells slots Q (F0 m tgt ls rest)) (kf : 0 < a → W p l e R s m args below meth c H locs cells slots Q (F0 m (pc + 3) ls rest)) : W p l e R s m args below meth c H locs cells slots Q (F0 m pc ls (.int (nI a) :: rest)) := lv_if_le hx hb hd ht (fun h => kt (Nat.le_zero.mp ((nI_leI ha (b := 0) (by decide)).mp h))) (fun h => kf (Nat.pos_of_ne_zero fun q => h ((nI_leI ha (b := 0) (by decide)).mpr (Nat.le_zero.mpr q))))
theorem ln_if_lt (hx : p.tables.exec = Jvm.exec) (hb : c.code = cc) {a : Nat} {off : Int} {tgt : Nat} (hd : decode cc pc = .ok (.ifCond .lt off, 3)) (ht : (pc : Int) + off = (tgt : Int)) (ha : a < 2 ^ 31) (kf : W p l e R s m args below meth c H locs cells slots Q (F0 m (pc + 3) ls rest)) : W p l e R s m args below meth c H locs cells slots Q (F0 m pc ls (.int (nI a) :: rest)) := lv_if_lt hx hb hd ht (fun h => absurd h (nI_pos ha)) (fun _ => kf)
theorem ln_if_ge (hx : p.tables.exec = Jvm.exec) (hb : c.code = cc) {a : Nat} {off : Int} {tgt : Nat} (hd : decode cc pc = .ok (.ifCond .ge off, 3)) (ht : (pc : Int) + off = (tgt : Int)) (ha : a < 2 ^ 31) (kt : W p l e R s m args below meth c H locs cells slots Q (F0 m tgt ls rest)) : W p l e R s m args below meth c H locs cells slots Q (F0 m pc ls (.int (nI a) :: rest)) := lv_if_ge hx hb hd ht (fun _ => kt) (fun h => absurd (nI_pos' ha) h)
theorem lb_if_eq (hx : p.tables.exec = Jvm.exec) (hb : c.code = cc) {b : Bool} {off : Int} {tgt : Nat} (hd : decode cc pc = .ok (.ifCond .eq off, 3)) (ht : (pc : Int) + off = (tgt : Int)) (kt : b = false → W p l e R s m args below meth c H locs cells slots Q (F0 m tgt ls rest)) (kf : b = true → W p l e R s m args below meth c H locs cells slots Q (F0 m (pc + 3) ls rest)) : W p l e R s m args below meth c H locs cells slots Q (F0 m pc ls (.int (bI b) :: rest)) := lv_if_eq hx hb hd ht (fun h => kt ((bI_eq0 b).mp h)) (fun h => kf (by cases b with | true => rfl | false => exact absurd rfl h))
theorem lb_if_ne (hx : p.tables.exec = Jvm.exec) (hb : c.code = cc) {b : Bool} {off : Int} {tgt : Nat} (hd : decode cc pc = .ok (.ifCond .ne off, 3)) (ht : (pc : Int) + off = (tgt : Int)) (kt : b = true → W p l e R s m args below meth c H locs cells slots Q (F0 m tgt ls rest)) (kf : b = false → W p l e R s m args below meth c H locs cells slots Q (F0 m (pc + 3) ls rest)) : W p l e R s m args below meth c H locs cells slots Q (F0 m pc ls (.int (bI b) :: rest)) := lv_if_ne hx hb hd ht (fun h => kt (by cases b with | true => rfl | false => exact absurd rfl h)) (fun h => kf ((bI_eq0 b).mp h))
variable {D : va_G} {cy : Nat → ClassId} {ws ws' : va_W} {a q0 n : Nat} {A : Nat → Prop} {H0 : Heap}
theorem ln_iald (hx : p.tables.exec = Jvm.exec) (hb : c.code = cc) (hK : va_K D vwCl (tyL cy) s) (hP : va_P D vwCl ws H) (q0 : Nat) {f : Nat → Int32} (ha : ws[q0]? = some (a, .inl (cy 0, n, .inl f))) {i : Nat} {v : Int32} (hi : i < n) (hn : n < 2 ^ 31) (hv : f i = v) (hd : decode cc pc = .ok (.iaload, 1)) (k : W p l e R s m args below meth c H locs cells slots Q (F0 m (pc + 1) ls (.int v :: rest))) : W p l e R s m args below meth c H locs cells slots Q (F0 m pc ls (.int (nI i) :: .ref a :: rest)) := va_iald hx hb hK hP q0 0 ha rfl (vp_in_nI hi hn) hd (by rw [nI_clamp (Nat.lt_trans hi hn), hv]; exact k)
theorem ln_zald (hx : p.tables.exec = Jvm.exec) (hb : c.code = cc) (hK : va_K D vwCl (tyL cy) s) (hP : va_P D vwCl ws H) (q0 : Nat) {f : Nat → Int32} (ha : ws[q0]? = some (a, .inl (cy 1, n, .inl f))) {i : Nat} {v : Int32} (hi : i < n) (hn : n < 2 ^ 31) (hv : f i = v) (hd : decode cc pc = .ok (.baload, 1)) (k : W p l e R s m args below meth c H locs cells slots Q (F0 m (pc + 1) ls (.int v :: rest))) : W p l e R s m args below meth c H locs cells slots Q (F0 m pc ls (.int (nI i) :: .ref a :: rest)) := va_zald hx hb hK hP q0 1 ha rfl (vp_in_nI hi hn) hd (by rw [nI_clamp (Nat.lt_trans hi hn), hv]; exact k)
theorem ln_aald (hx : p.tables.exec = Jvm.exec) (hb : c.code = cc) (hK : va_K D vwCl (tyL cy) s) (hP : va_P D vwCl ws H) (q0 t0 : Nat) {C : String} {f : Nat → Option Nat} {cA : ClassId} (ha : ws[q0]? = some (a, .inl (cA, n, .inr (.inr (.inr (.inr f)))))) (ht : (tyL cy)[t0]? = some (cA, .object C)) {i x : Nat} (hi : i < n) (hn : n < 2 ^ 31) (hf : f i = some x) (hd : decode cc pc = .ok (.aaload, 1)) (k : W p l e R s m args below meth c H locs cells slots Q (F0 m (pc + 1) ls (.ref x :: rest))) : W p l e R s m args below meth c H locs cells slots Q (F0 m pc ls (.int (nI i) :: .ref a :: rest)) := va_aldq hx hb hK hP q0 t0 ha ht (vp_in_nI hi hn) hd (by rw [nI_clamp (Nat.lt_trans hi hn), hf]; exact k)
theorem ln_iast (hx : p.tables.exec = Jvm.exec) (hb : c.code = cc) (hK : va_K D vwCl (tyL cy) s) (hP : va_P D vwCl ws H) (hD : va_D A ws) (hS : va_S A H0 H locs) (q0 : Nat) {f : Nat → Int32} (ha : ws[q0]? = some (a, .inl (cy 0, n, .inl f))) {i : Nat} {x : Int32} (hi : i < n) (hn : n < 2 ^ 31) (hw : ws.set q0 (a, .inl (cy 0, n, .inl (upd f i x))) = ws') (hd : decode cc pc = .ok (.iastore, 1)) (kk : ∀ (H1 : Heap) (locs1 : List Loc), va_P D vwCl ws' H1 → va_D A ws' → va_S A H0 H1 locs1 → W p l e R s m args below meth c H1 locs1 cells slots Q (F0 m (pc + 1) ls rest)) : W p l e R s m args below meth c H locs cells slots Q (F0 m pc ls (.int x :: .int (nI i) :: .ref a :: rest)) := va_iast hx hb hK hP hD hS q0 0 ha rfl (vp_in_nI hi hn) hd (by rw [nI_clamp (Nat.lt_trans hi hn), hw]; exact kk)
theorem ln_zast (hx : p.tables.exec = Jvm.exec) (hb : c.code = cc) (hK : va_K D vwCl (tyL cy) s) (hP : va_P D vwCl ws H) (hD : va_D A ws) (hS : va_S A H0 H locs) (q0 : Nat) {f : Nat → Int32} (ha : ws[q0]? = some (a, .inl (cy 1, n, .inl f))) {i : Nat} {b : Bool} (hi : i < n) (hn : n < 2 ^ 31) (hw : ws.set q0 (a, .inl (cy 1, n, .inl (upd f i (bI b)))) = ws') (hd : decode cc pc = .ok (.bastore, 1)) (kk : ∀ (H1 : Heap) (locs1 : List Loc), va_P D vwCl ws' H1 → va_D A ws' → va_S A H0 H1 locs1 → W p l e R s m args below meth c H1 locs1 cells slots Q (F0 m (pc + 1) ls rest)) : W p l e R s m args below meth c H locs cells slots Q (F0 m pc ls (.int (bI b) :: .int (nI i) :: .ref a :: rest)) := va_zast hx hb hK hP hD hS q0 1 ha rfl (vp_in_nI hi hn) hd (by rw [nI_clamp (Nat.lt_trans hi hn), show vp_nar .boolean (bI b) = bI b by cases b <;> rfl, hw]; exact kk)
theorem ln_alen (hx : p.tables.exec = Jvm.exec) (hb : c.code = cc) (hK : va_K D vwCl (tyL cy) s) (hP : va_P D vwCl ws H) (q0 t0 : Nat) {cA : ClassId} {x : vp_A} (ha : ws[q0]? = some (a, .inl (cA, x))) {ty : FieldType} (ht : (tyL cy)[t0]? = some (cA, ty)) (hv : x.1 = n) (hd : decode cc pc = .ok (.arraylength, 1)) (k : W p l e R s m args below meth c H locs cells slots Q (F0 m (pc + 1) ls (.int (nI n) :: rest))) : W p l e R s m args below meth c H locs cells slots Q (F0 m pc ls (.ref a :: rest)) := va_alen hx hb hK hP q0 t0 ha ht (v := nI n) (by rw [hv]; rfl) hd k
/-- a contract that only reads one world: the answer is v -/
def MR (l : Launch) (y : MethodName) (q : List Cond) (d : Nat) (av : List Value) (D : va_G) (cy : Nat → ClassId) (ws : va_W) (v : Int32) : Prop := Met l y q (rq d) (va_Pc av (fun U => va_P D vwCl ws U.heap ∧ va_K D vwCl (tyL cy) U ∧ kN U)) (vp_Si (fun r => r = v)) 0 0 (fun _ => False)
/-- a contract of a static method of numbers alone -/
def MS (l : Launch) (y : MethodName) (q : List Cond) (d : Nat) (av : List Value) (v : Int32) : Prop := Met l y q (rq d) (va_Pc av (fun _ => True)) (vp_Si (fun r => r = v)) 0 0 (fun _ => False)
variable {nL maxL index : Nat} {own C host : String} {y : MethodName} {bytes : ByteArray} {rt : Option FieldType} {d b : Nat} {As st0 : List Value} {v : Int32} {ci N : Nat} {fs : List Value} {T : u_T}
theorem cr_v (S : CallFix p m c cc nL s args tg own) (hM : MR l y (Cond.code y bytes maxL rt :: tg) d (.ref b :: As) D cy ws v) (hG : GoodIn tg (wsV own index C y (Cond.code y bytes maxL rt :: tg))) (hd : y.cls = C ∧ y.cls ≠ "java/lang/invoke/MethodHandle" ∧ y.cls ≠ "java/lang/invoke/VarHandle" ∧ (parseMethodDescriptor y.desc).map (fun d => d.parameters.length) = some n) (hR : d + 1 ≤ R.frames ∧ 8 + (maxL + 11) + 40 * d ≤ R.locals) (hK : va_K D vwCl (tyL cy) s) (hN : kN s) (hP : va_P D vwCl ws H) (q0 : Nat) (he : ws[q0]? = some (b, .inr (ci, fs))) (hc : vwCl[ci]? = some (C, T, N)) (hn : As.length = n) (hsize : ls.size = nL) (hstack : st0 = As.reverse ++ .ref b :: rest) (hW : (rest.map fun v => v.category).sum ≤ 8) (hdg : decode cc pc = .ok (.invokevirtual index, 3)) (hcs : cells ≤ R.cells ∧ slots ≤ R.slots) (kk : W p l e R s m args below meth c H locs cells slots Q (F0 m (pc + 3) ls (.int v :: rest))) : W p l e R s m args below meth c H locs cells slots Q (F0 m pc ls st0) :=
  vp_callSi (W.runV (As := As) (rest := rest) S hM (cwV n S.2.2.2.2 hG rfl rfl rfl hd hR) ⟨fun a U g mk q => ⟨q.1, q.2.1, va_K.moved (u := U) (U := U.calling g mk a) (Vm.Alike.refl U.vm) q.2.2.1, kN.same (s := U) (U := U.calling g mk a) rfl q.2.2.2⟩, va_recv hK hP hc he, fun U hU hW => ⟨rfl, by rw [hU]; exact hP, va_K.moved hW.alike hK, kN.warm hW hN⟩⟩ rfl hn hsize hstack (lv_room hW) hdg hcs) (fun r hr => by rw [show r = v from hr]; exact kk)
theorem cr_s (S : CallFix p m c cc nL s args tg own) (hM : MS l y (Cond.code y bytes maxL rt :: tg) d As v) (hG : GoodIn tg (wsS own index y (Cond.code y bytes maxL rt :: tg))) (hd : y.cls = own ∧ y.cls ≠ "java/lang/invoke/MethodHandle" ∧ y.cls ≠ "java/lang/invoke/VarHandle" ∧ (parseMethodDescriptor y.desc).map (fun d => d.parameters.length) = some n) (hR : d + 1 ≤ R.frames ∧ 8 + (maxL + 11) + 40 * d ≤ R.locals) (hn : As.length = n) (hsize : ls.size = nL) (hstack : st0 = As.reverse ++ rest) (hW : (rest.map fun v => v.category).sum ≤ 8) (hdg : decode cc pc = .ok (.invokestatic index, 3)) (hcs : cells ≤ R.cells ∧ slots ≤ R.slots) (kk : W p l e R s m args below meth c H locs cells slots Q (F0 m (pc + 3) ls (.int v :: rest))) : W p l e R s m args below meth c H locs cells slots Q (F0 m pc ls st0) :=
  vp_callSi (W.runS (As := As) (rest := rest) S hM (cwS n S.2.2.2.2 hG rfl rfl rfl hd hR) ⟨fun a U g mk q => q, fun U hU hW => ⟨rfl, trivial⟩⟩ rfl hn hsize hstack (lv_room hW) hdg hcs) (fun r hr => by rw [show r = v from hr]; exact kk)
theorem cr_sn (S : CallFix p m c cc nL s args tg own) (hM : MS l y (Cond.code y bytes maxL rt :: tg) d As v) (hl : va_Nw (.methodLinkNest own index y host) s) (hst : (Cond.static y).before args s = true) (hini : (Cond.initialized y.cls).before args s = true) (hG : GoodIn tg (Cond.code y bytes maxL rt :: tg)) (hd : y.cls ≠ "java/lang/invoke/MethodHandle" ∧ y.cls ≠ "java/lang/invoke/VarHandle" ∧ (parseMethodDescriptor y.desc).map (fun d => d.parameters.length) = some n) (hR : d + 1 ≤ R.frames ∧ 8 + (maxL + 11) + 40 * d ≤ R.locals) (hn : As.length = n) (hsize : ls.size = nL) (hstack : st0 = As.reverse ++ rest) (hW : (rest.map fun v => v.category).sum ≤ 8) (hdg : decode cc pc = .ok (.invokestatic index, 3)) (hcs : cells ≤ R.cells ∧ slots ≤ R.slots) (kk : W p l e R s m args below meth c H locs cells slots Q (F0 m (pc + 3) ls (.int v :: rest))) : W p l e R s m args below meth c H locs cells slots Q (F0 m pc ls st0) := by
  have hr := va_runSN (H := H) (locs := locs) (cells := cells) (slots := slots) (e := e) (below := below) (meth := meth) (As := As) (rest := rest) (g := F0 m pc ls st0) S hM ⟨va_cnB n S.2.2.2.2 hG rfl rfl rfl hl hini hd hR, hst, trivial⟩ ⟨fun a U g mk q => q, fun U hU hW => ⟨rfl, trivial⟩⟩ rfl hn hsize hstack (lv_room hW) hdg hcs
  intro T hT X
  obtain ⟨v1, st₀, t, T', L, h0, X', hL, e1, _, ⟨r, hv, hp, hh⟩, st⟩ := hr T hT X
  cases hv
  rw [show r = v from hp] at st
  obtain ⟨t2, a1, b1⟩ := kk T' (by rw [e1, hh, h0]) (Stand.forget X' (fun q h => (hL q h).elim))
  exact ⟨t2, st t2 a1, b1⟩
theorem cr_so (S : CallFix p m c cc nL s args tg own) (hM : MS l y (Cond.code y bytes maxL rt :: tg) d As v) (hl : (Cond.methodLink own index y).before args s = true) (hst : (Cond.static y).before args s = true) (hini : (Cond.initialized y.cls).before args s = true) (hG : GoodIn tg (Cond.code y bytes maxL rt :: tg)) (hd : y.cls ≠ "java/lang/invoke/MethodHandle" ∧ y.cls ≠ "java/lang/invoke/VarHandle" ∧ (parseMethodDescriptor y.desc).map (fun d => d.parameters.length) = some n) (hR : d + 1 ≤ R.frames ∧ 8 + (maxL + 11) + 40 * d ≤ R.locals) (hn : As.length = n) (hsize : ls.size = nL) (hstack : st0 = As.reverse ++ rest) (hW : (rest.map fun v => v.category).sum ≤ 8) (hdg : decode cc pc = .ok (.invokestatic index, 3)) (hcs : cells ≤ R.cells ∧ slots ≤ R.slots) (kk : W p l e R s m args below meth c H locs cells slots Q (F0 m (pc + 3) ls (.int v :: rest))) : W p l e R s m args below meth c H locs cells slots Q (F0 m pc ls st0) :=
  vp_callSi (W.runS (As := As) (rest := rest) S hM ⟨callB_of n S.2.2.2.2 hG rfl rfl rfl hini hl hd hR, hst⟩ ⟨fun a U g mk q => q, fun U hU hW => ⟨rfl, trivial⟩⟩ rfl hn hsize hstack (lv_room hW) hdg hcs) (fun r hr => by rw [show r = v from hr]; exact kk)
theorem rt_i (hx : p.tables.exec = Jvm.exec) (hb : c.code = cc) (hr : meth.sig.returnType = some .int) (hlocks : meth.locks = false) {u w : Int32} (h : u = w) (hd : decode cc pc = .ok (.ireturn, 1)) : W p l e R s m args below meth c s.heap [] 0 0 (MQ below (vp_Si (fun r => r = w)) args s 0 0 (fun _ => False)) (F0 m pc ls [.int u]) := W.iret hx hb hr (fun t ht _ => ⟨u, rfl, h, ht⟩) (fun q h => absurd h List.not_mem_nil) hd
theorem rt_z (hx : p.tables.exec = Jvm.exec) (hb : c.code = cc) (hr : meth.sig.returnType = some .boolean) (hlocks : meth.locks = false) {u w : Bool} (h : u = w) (hd : decode cc pc = .ok (.ireturn, 1)) : W p l e R s m args below meth c s.heap [] 0 0 (MQ below (vp_Si (fun r => r = bI w)) args s 0 0 (fun _ => False)) (F0 m pc ls [.int (bI u)]) := W.zret hx hb hr (bI_n u) (fun t ht _ => ⟨bI u, rfl, by rw [h], ht⟩) (fun q h => absurd h List.not_mem_nil) hd
theorem ln_put (hx : p.tables.exec = Jvm.exec) (hb : c.code = cc) (hts : ∀ w ∈ tg, w.before args s = true) (hin : ∀ w ∈ u_ws C T N, w ∈ tg) (ty0 : Nat → FieldType) (hty : ∀ k, k < N → parseFieldDescriptor (T k).2.2.1 = some (ty0 k)) (hnm : ∀ a, a < N → ∀ b, b < N → a ≠ b → (T a).2.1 ≠ (T b).2.1) (hown : s.vm.findClass own = some m.cls) (hK : va_K D vwCl (tyL cy) s) (hP : va_P D vwCl ws H) (hD : va_D A ws) (hS : va_S A H0 H locs) (q0 : Nat) (he : ws[q0]? = some (a, .inr (ci, fs))) (hc : vwCl[ci]? = some (C, T, N)) (k : Nat) (hk : k < N) {ref : String} (hlink : (Cond.fieldLink own index ref (T k).2.1 (T k).2.2.1).before args s = true) (hsame : ∀ x, s.fieldFound? (T k).1 (T k).2.1 (T k).2.2.1 = some x → s.fieldFound? ref (T k).2.1 (T k).2.2.1 = some x) (hfin : (T k).2.2.2 = false) {ty : FieldType} {v : Value} (hd : parseFieldDescriptor (T k).2.2.1 = some ty) (hn : narrow ty v = v) (hfit : fits ty v = true) (hl : k < fs.length) (hw : ws.set q0 (a, .inr (ci, fs.set k v)) = ws') (hdg : decode cc pc = .ok (.putfield index, 3)) (kk : ∀ (H1 : Heap) (locs1 : List Loc), va_P D vwCl ws' H1 → va_D A ws' → va_S A H0 H1 locs1 → W p l e R s m args below meth c H1 locs1 cells slots Q (F0 m (pc + 3) ls rest)) : W p l e R s m args below meth c H locs cells slots Q (F0 m pc ls (v :: .ref a :: rest)) := va_put hx hb hts hin ty0 hty hnm hown hK hP hD hS q0 he hc k hk hlink hsame hfin hd hn hfit hl hdg (by rw [hw]; exact kk)
theorem va_D_map {A : Nat → Prop} {w1 w2 : va_W} (h : w2.map (·.1) = w1.map (·.1)) (hD : va_D A w1) : va_D A w2 := by
  have key : ∀ (k : Nat) (q : Nat × va_E), w2[k]? = some q → ∃ q', w1[k]? = some q' ∧ q'.1 = q.1 := by
    intro k q hq
    have h1 : (w2.map (·.1))[k]? = some q.1 := by rw [List.getElem?_map, hq]; rfl
    rw [h, List.getElem?_map] at h1
    cases h2 : w1[k]? with
    | none => rw [h2] at h1; cases h1
    | some q' => rw [h2] at h1; exact ⟨q', rfl, Option.some.inj h1⟩
  refine ⟨fun i j x y hi hj hxy => ?_, fun k q hq => ?_⟩
  · obtain ⟨x', hx', ex⟩ := key i x hi
    obtain ⟨y', hy', ey⟩ := key j y hj
    exact hD.1 i j x' y' hx' hy' (by rw [ex, ey, hxy])
  · obtain ⟨q', hq', eq⟩ := key k q hq
    rw [← eq]
    exact hD.2 k q' hq'
/-- a contract that writes within one world: an int comes back -/
def MW {S : Type} (l : Launch) (y : MethodName) (q : List Cond) (d : Nat) (av : List Value) (D : va_G) (cy : Nat → ClassId) (ws : va_W) (post : Int32 → S → Prop) (wd : S → va_W) : Prop := ∀ sz : Nat, Met l y q (rq d) (va_Pc av (fun U => U.heap.size = sz ∧ va_P D vwCl ws U.heap ∧ va_K D vwCl (tyL cy) U ∧ kN U ∧ va_D (fun _ => True) ws)) (va_Qi post (fun u t => va_P D vwCl (wd u) t.heap) (va_A ws sz)) 0 0 (va_A ws sz)
/-- the same, nothing comes back -/
def MV {S : Type} (l : Launch) (y : MethodName) (q : List Cond) (d : Nat) (av : List Value) (D : va_G) (cy : Nat → ClassId) (ws : va_W) (post : S → Prop) (wd : S → va_W) : Prop := ∀ sz : Nat, Met l y q (rq d) (va_Pc av (fun U => U.heap.size = sz ∧ va_P D vwCl ws U.heap ∧ va_K D vwCl (tyL cy) U ∧ kN U ∧ va_D (fun _ => True) ws)) (va_Qv post (fun u t => va_P D vwCl (wd u) t.heap) (va_A ws sz)) 0 0 (va_A ws sz)
theorem fr_all {A0 : Nat → Prop} {w : va_W} {Ha Hb : Heap} {lo : List Loc} (hD : va_D A0 w) (hS : va_S A0 Ha Hb lo) (hA : ∀ q, Ha.size ≤ q → A0 q) : ∀ q, va_A w Hb.size q → A0 q := by
  intro q h
  rcases h with ⟨k, e, hk⟩ | h
  · exact hD.2 k _ hk
  · exact hA q (Nat.le_trans hS.1 h)
theorem cr_w {S : Type} {post : Int32 → S → Prop} {wd : S → va_W} (S0 : CallFix p m c cc nL s args tg own) (hM : MW l y (Cond.code y bytes maxL rt :: tg) d (.ref b :: As) D cy ws post wd) (hG : GoodIn tg (wsV own index C y (Cond.code y bytes maxL rt :: tg))) (hd : y.cls = C ∧ y.cls ≠ "java/lang/invoke/MethodHandle" ∧ y.cls ≠ "java/lang/invoke/VarHandle" ∧ (parseMethodDescriptor y.desc).map (fun d => d.parameters.length) = some n) (hR : d + 1 ≤ R.frames ∧ 8 + (maxL + 11) + 40 * d ≤ R.locals) (hK : va_K D vwCl (tyL cy) s) (hN : kN s) (hP : va_P D vwCl ws H) (hD : va_D A ws) (hS : va_S A H0 H locs) (hA : ∀ q, H0.size ≤ q → A q) (q0 : Nat) (he : ws[q0]? = some (b, .inr (ci, fs))) (hc : vwCl[ci]? = some (C, T, N)) (hn : As.length = n) (hsize : ls.size = nL) (hstack : st0 = As.reverse ++ .ref b :: rest) (hW : (rest.map fun v => v.category).sum ≤ 8) (hdg : decode cc pc = .ok (.invokevirtual index, 3)) (hcs : cells ≤ R.cells ∧ slots ≤ R.slots) (hmap : ∀ u, (wd u).map (·.1) = ws.map (·.1)) (kk : ∀ (r : Int32) (u : S) (H1 : Heap) (locs1 : List Loc), post r u → va_P D vwCl (wd u) H1 → va_D A (wd u) → va_S A H0 H1 locs1 → W p l e R s m args below meth c H1 locs1 cells slots Q (F0 m (pc + 3) ls (.int r :: rest))) : W p l e R s m args below meth c H locs cells slots Q (F0 m pc ls st0) :=
  va_calli (va_runV (As := As) (rest := rest) S0 (hM H.size) (cwV n S0.2.2.2.2 hG rfl rfl rfl hd hR) ⟨fun a U g mk q => ⟨q.1, q.2.1, q.2.2.1, va_K.moved (u := U) (U := U.calling g mk a) (Vm.Alike.refl U.vm) q.2.2.2.1, kN.same (s := U) (U := U.calling g mk a) rfl q.2.2.2.2.1, q.2.2.2.2.2⟩, va_recv hK hP hc he, fun U hU hW => ⟨rfl, by rw [hU], by rw [hU]; exact hP, va_K.moved hW.alike hK, kN.warm hW hN, hD.weaken (fun _ _ _ _ => trivial)⟩⟩ rfl hn hsize hstack (lv_room hW) hdg hcs) hS (fun q _ h => fr_all hD hS hA q h) (fr_all hD hS hA) (fun r u t H1 locs1 ht _ hp hB _ _ hS1 => kk r u H1 locs1 hp (by rw [← ht]; exact hB) (va_D_map (hmap u) hD) hS1)
theorem cr_vv {S : Type} {post : S → Prop} {wd : S → va_W} (S0 : CallFix p m c cc nL s args tg own) (hM : MV l y (Cond.code y bytes maxL rt :: tg) d (.ref b :: As) D cy ws post wd) (hG : GoodIn tg (wsV own index C y (Cond.code y bytes maxL rt :: tg))) (hd : y.cls = C ∧ y.cls ≠ "java/lang/invoke/MethodHandle" ∧ y.cls ≠ "java/lang/invoke/VarHandle" ∧ (parseMethodDescriptor y.desc).map (fun d => d.parameters.length) = some n) (hR : d + 1 ≤ R.frames ∧ 8 + (maxL + 11) + 40 * d ≤ R.locals) (hK : va_K D vwCl (tyL cy) s) (hN : kN s) (hP : va_P D vwCl ws H) (hD : va_D A ws) (hS : va_S A H0 H locs) (hA : ∀ q, H0.size ≤ q → A q) (q0 : Nat) (he : ws[q0]? = some (b, .inr (ci, fs))) (hc : vwCl[ci]? = some (C, T, N)) (hn : As.length = n) (hsize : ls.size = nL) (hstack : st0 = As.reverse ++ .ref b :: rest) (hW : (rest.map fun v => v.category).sum ≤ 8) (hdg : decode cc pc = .ok (.invokevirtual index, 3)) (hcs : cells ≤ R.cells ∧ slots ≤ R.slots) (hmap : ∀ u, (wd u).map (·.1) = ws.map (·.1)) (kk : ∀ (u : S) (H1 : Heap) (locs1 : List Loc), post u → va_P D vwCl (wd u) H1 → va_D A (wd u) → va_S A H0 H1 locs1 → W p l e R s m args below meth c H1 locs1 cells slots Q (F0 m (pc + 3) ls rest)) : W p l e R s m args below meth c H locs cells slots Q (F0 m pc ls st0) :=
  va_callv (va_runV (As := As) (rest := rest) S0 (hM H.size) (cwV n S0.2.2.2.2 hG rfl rfl rfl hd hR) ⟨fun a U g mk q => ⟨q.1, q.2.1, q.2.2.1, va_K.moved (u := U) (U := U.calling g mk a) (Vm.Alike.refl U.vm) q.2.2.2.1, kN.same (s := U) (U := U.calling g mk a) rfl q.2.2.2.2.1, q.2.2.2.2.2⟩, va_recv hK hP hc he, fun U hU hW => ⟨rfl, by rw [hU], by rw [hU]; exact hP, va_K.moved hW.alike hK, kN.warm hW hN, hD.weaken (fun _ _ _ _ => trivial)⟩⟩ rfl hn hsize hstack (lv_room hW) hdg hcs) hS (fun q _ h => fr_all hD hS hA q h) (fr_all hD hS hA) (fun u t H1 locs1 ht _ hp hB _ _ hS1 => kk u H1 locs1 hp (by rw [← ht]; exact hB) (va_D_map (hmap u) hD) hS1)
theorem rw_i {S : Type} {post : Int32 → S → Prop} {wd : S → va_W} (hx : p.tables.exec = Jvm.exec) (hb : c.code = cc) (hr : meth.sig.returnType = some .int) (hlocks : meth.locks = false) (hS : va_S A s.heap H locs) {r : Int32} (u : S) (hp : post r u) (hP : va_P D vwCl (wd u) H) (hd : decode cc pc = .ok (.ireturn, 1)) : W p l e R s m args below meth c H locs 0 0 (MQ below (va_Qi post (fun u t => va_P D vwCl (wd u) t.heap) A) args s 0 0 A) (F0 m pc ls [.int r]) := W.iret hx hb hr (fun t ht _ => ⟨⟨r, u, rfl, hp, show va_P D vwCl (wd u) t.heap by rw [ht]; exact hP⟩, hS.F ht⟩) hS.2.2 hd
theorem rw_z {S : Type} {post : Int32 → S → Prop} {wd : S → va_W} (hx : p.tables.exec = Jvm.exec) (hb : c.code = cc) (hr : meth.sig.returnType = some .boolean) (hlocks : meth.locks = false) (hS : va_S A s.heap H locs) {r : Bool} (u : S) (hp : post (bI r) u) (hP : va_P D vwCl (wd u) H) (hd : decode cc pc = .ok (.ireturn, 1)) : W p l e R s m args below meth c H locs 0 0 (MQ below (va_Qi post (fun u t => va_P D vwCl (wd u) t.heap) A) args s 0 0 A) (F0 m pc ls [.int (bI r)]) := W.zret hx hb hr (bI_n r) (fun t ht _ => ⟨⟨bI r, u, rfl, hp, show va_P D vwCl (wd u) t.heap by rw [ht]; exact hP⟩, hS.F ht⟩) hS.2.2 hd
theorem rw_v {S : Type} {post : S → Prop} {wd : S → va_W} (hx : p.tables.exec = Jvm.exec) (hb : c.code = cc) (hr : meth.sig.returnType = none) (hlocks : meth.locks = false) (hS : va_S A s.heap H locs) (u : S) (hp : post u) (hP : va_P D vwCl (wd u) H) (hd : decode cc pc = .ok (.return_, 1)) : W p l e R s m args below meth c H locs 0 0 (MQ below (va_Qv post (fun u t => va_P D vwCl (wd u) t.heap) A) args s 0 0 A) (F0 m pc ls []) := W.vret hx hb hr (fun t ht _ => ⟨⟨u, rfl, hp, show va_P D vwCl (wd u) t.heap by rw [ht]; exact hP⟩, hS.F ht⟩) hS.2.2 hd
end NR
end
section
abbrev Sg : Type := (Nat) × (Nat → Nat) × (Nat) × (Nat → Nat) × (Nat) × (Nat → Nat) × (Nat) × (Nat) × (Nat) × (Bool) × (Nat) × (Nat → Nat) × (Nat → Bool) × (Nat) × (Nat → Nat)
def s_n (x : Sg) : Nat := x.1
def s_th (x : Sg) : Nat → Nat := x.2.1
def s_m (x : Sg) : Nat := x.2.2.1
def s_fe (x : Sg) : Nat → Nat := x.2.2.2.1
def s_ln (x : Sg) : Nat := x.2.2.2.2.1
def s_tx (x : Sg) : Nat → Nat := x.2.2.2.2.2.1
def s_ov (x : Sg) : Nat := x.2.2.2.2.2.2.1
def s_mo (x : Sg) : Nat := x.2.2.2.2.2.2.2.1
def s_of (x : Sg) : Nat := x.2.2.2.2.2.2.2.2.1
def s_la (x : Sg) : Bool := x.2.2.2.2.2.2.2.2.2.1
def s_cr (x : Sg) : Nat := x.2.2.2.2.2.2.2.2.2.2.1
def s_im (x : Sg) : Nat → Nat := x.2.2.2.2.2.2.2.2.2.2.2.1
def s_kp (x : Sg) : Nat → Bool := x.2.2.2.2.2.2.2.2.2.2.2.2.1
def s_rn (x : Sg) : Nat := x.2.2.2.2.2.2.2.2.2.2.2.2.2.1
def s_ro (x : Sg) : Nat → Nat := x.2.2.2.2.2.2.2.2.2.2.2.2.2.2
def su_n (x : Sg) (v : Nat) : Sg := (v, s_th x, s_m x, s_fe x, s_ln x, s_tx x, s_ov x, s_mo x, s_of x, s_la x, s_cr x, s_im x, s_kp x, s_rn x, s_ro x)
def su_th (x : Sg) (v : Nat → Nat) : Sg := (s_n x, v, s_m x, s_fe x, s_ln x, s_tx x, s_ov x, s_mo x, s_of x, s_la x, s_cr x, s_im x, s_kp x, s_rn x, s_ro x)
def su_m (x : Sg) (v : Nat) : Sg := (s_n x, s_th x, v, s_fe x, s_ln x, s_tx x, s_ov x, s_mo x, s_of x, s_la x, s_cr x, s_im x, s_kp x, s_rn x, s_ro x)
def su_fe (x : Sg) (v : Nat → Nat) : Sg := (s_n x, s_th x, s_m x, v, s_ln x, s_tx x, s_ov x, s_mo x, s_of x, s_la x, s_cr x, s_im x, s_kp x, s_rn x, s_ro x)
def su_ln (x : Sg) (v : Nat) : Sg := (s_n x, s_th x, s_m x, s_fe x, v, s_tx x, s_ov x, s_mo x, s_of x, s_la x, s_cr x, s_im x, s_kp x, s_rn x, s_ro x)
def su_tx (x : Sg) (v : Nat → Nat) : Sg := (s_n x, s_th x, s_m x, s_fe x, s_ln x, v, s_ov x, s_mo x, s_of x, s_la x, s_cr x, s_im x, s_kp x, s_rn x, s_ro x)
def su_ov (x : Sg) (v : Nat) : Sg := (s_n x, s_th x, s_m x, s_fe x, s_ln x, s_tx x, v, s_mo x, s_of x, s_la x, s_cr x, s_im x, s_kp x, s_rn x, s_ro x)
def su_mo (x : Sg) (v : Nat) : Sg := (s_n x, s_th x, s_m x, s_fe x, s_ln x, s_tx x, s_ov x, v, s_of x, s_la x, s_cr x, s_im x, s_kp x, s_rn x, s_ro x)
def su_of (x : Sg) (v : Nat) : Sg := (s_n x, s_th x, s_m x, s_fe x, s_ln x, s_tx x, s_ov x, s_mo x, v, s_la x, s_cr x, s_im x, s_kp x, s_rn x, s_ro x)
def su_la (x : Sg) (v : Bool) : Sg := (s_n x, s_th x, s_m x, s_fe x, s_ln x, s_tx x, s_ov x, s_mo x, s_of x, v, s_cr x, s_im x, s_kp x, s_rn x, s_ro x)
def su_cr (x : Sg) (v : Nat) : Sg := (s_n x, s_th x, s_m x, s_fe x, s_ln x, s_tx x, s_ov x, s_mo x, s_of x, s_la x, v, s_im x, s_kp x, s_rn x, s_ro x)
def su_im (x : Sg) (v : Nat → Nat) : Sg := (s_n x, s_th x, s_m x, s_fe x, s_ln x, s_tx x, s_ov x, s_mo x, s_of x, s_la x, s_cr x, v, s_kp x, s_rn x, s_ro x)
def su_kp (x : Sg) (v : Nat → Bool) : Sg := (s_n x, s_th x, s_m x, s_fe x, s_ln x, s_tx x, s_ov x, s_mo x, s_of x, s_la x, s_cr x, s_im x, v, s_rn x, s_ro x)
def su_rn (x : Sg) (v : Nat) : Sg := (s_n x, s_th x, s_m x, s_fe x, s_ln x, s_tx x, s_ov x, s_mo x, s_of x, s_la x, s_cr x, s_im x, s_kp x, v, s_ro x)
def su_ro (x : Sg) (v : Nat → Nat) : Sg := (s_n x, s_th x, s_m x, s_fe x, s_ln x, s_tx x, s_ov x, s_mo x, s_of x, s_la x, s_cr x, s_im x, s_kp x, s_rn x, v)
theorem s_ext {x y : Sg} (h0 : s_n x = s_n y) (h1 : s_th x = s_th y) (h2 : s_m x = s_m y) (h3 : s_fe x = s_fe y) (h4 : s_ln x = s_ln y) (h5 : s_tx x = s_tx y) (h6 : s_ov x = s_ov y) (h7 : s_mo x = s_mo y) (h8 : s_of x = s_of y) (h9 : s_la x = s_la y) (h10 : s_cr x = s_cr y) (h11 : s_im x = s_im y) (h12 : s_kp x = s_kp y) (h13 : s_rn x = s_rn y) (h14 : s_ro x = s_ro y) : x = y := by
  obtain ⟨x0, x1, x2, x3, x4, x5, x6, x7, x8, x9, x10, x11, x12, x13, x14⟩ := x
  obtain ⟨y0, y1, y2, y3, y4, y5, y6, y7, y8, y9, y10, y11, y12, y13, y14⟩ := y
  obtain rfl : x0 = y0 := h0
  obtain rfl : x1 = y1 := h1
  obtain rfl : x2 = y2 := h2
  obtain rfl : x3 = y3 := h3
  obtain rfl : x4 = y4 := h4
  obtain rfl : x5 = y5 := h5
  obtain rfl : x6 = y6 := h6
  obtain rfl : x7 = y7 := h7
  obtain rfl : x8 = y8 := h8
  obtain rfl : x9 = y9 := h9
  obtain rfl : x10 = y10 := h10
  obtain rfl : x11 = y11 := h11
  obtain rfl : x12 = y12 := h12
  obtain rfl : x13 = y13 := h13
  obtain rfl : x14 = y14 := h14
  rfl
abbrev Ms : Type := (Int32) × (Int32) × (Int64) × (Int32) × (Int32) × (Int32) × (Int32) × (Int32) × (Int32) × (Int32) × (Nat → Int32) × (Nat → Int32) × (Nat → Int32) × (Nat → Int32) × (Nat → Int32) × (Nat → Int32)
def m_po (x : Ms) : Int32 := x.1
def m_ta (x : Ms) : Int32 := x.2.1
def m_tk (x : Ms) : Int64 := x.2.2.1
def m_dg (x : Ms) : Int32 := x.2.2.2.1
def m_nu (x : Ms) : Int32 := x.2.2.2.2.1
def m_fa (x : Ms) : Int32 := x.2.2.2.2.2.1
def m_rm (x : Ms) : Int32 := x.2.2.2.2.2.2.1
def m_rt (x : Ms) : Int32 := x.2.2.2.2.2.2.2.1
def m_rf (x : Ms) : Int32 := x.2.2.2.2.2.2.2.2.1
def m_fo (x : Ms) : Int32 := x.2.2.2.2.2.2.2.2.2.1
def m_rk (x : Ms) : Nat → Int32 := x.2.2.2.2.2.2.2.2.2.2.1
def m_rd (x : Ms) : Nat → Int32 := x.2.2.2.2.2.2.2.2.2.2.2.1
def m_ma (x : Ms) : Nat → Int32 := x.2.2.2.2.2.2.2.2.2.2.2.2.1
def m_ah (x : Ms) : Nat → Int32 := x.2.2.2.2.2.2.2.2.2.2.2.2.2.1
def m_by (x : Ms) : Nat → Int32 := x.2.2.2.2.2.2.2.2.2.2.2.2.2.2.1
def m_li (x : Ms) : Nat → Int32 := x.2.2.2.2.2.2.2.2.2.2.2.2.2.2.2
def mu_po (x : Ms) (v : Int32) : Ms := (v, m_ta x, m_tk x, m_dg x, m_nu x, m_fa x, m_rm x, m_rt x, m_rf x, m_fo x, m_rk x, m_rd x, m_ma x, m_ah x, m_by x, m_li x)
def mu_ta (x : Ms) (v : Int32) : Ms := (m_po x, v, m_tk x, m_dg x, m_nu x, m_fa x, m_rm x, m_rt x, m_rf x, m_fo x, m_rk x, m_rd x, m_ma x, m_ah x, m_by x, m_li x)
def mu_tk (x : Ms) (v : Int64) : Ms := (m_po x, m_ta x, v, m_dg x, m_nu x, m_fa x, m_rm x, m_rt x, m_rf x, m_fo x, m_rk x, m_rd x, m_ma x, m_ah x, m_by x, m_li x)
def mu_dg (x : Ms) (v : Int32) : Ms := (m_po x, m_ta x, m_tk x, v, m_nu x, m_fa x, m_rm x, m_rt x, m_rf x, m_fo x, m_rk x, m_rd x, m_ma x, m_ah x, m_by x, m_li x)
def mu_nu (x : Ms) (v : Int32) : Ms := (m_po x, m_ta x, m_tk x, m_dg x, v, m_fa x, m_rm x, m_rt x, m_rf x, m_fo x, m_rk x, m_rd x, m_ma x, m_ah x, m_by x, m_li x)
def mu_fa (x : Ms) (v : Int32) : Ms := (m_po x, m_ta x, m_tk x, m_dg x, m_nu x, v, m_rm x, m_rt x, m_rf x, m_fo x, m_rk x, m_rd x, m_ma x, m_ah x, m_by x, m_li x)
def mu_rm (x : Ms) (v : Int32) : Ms := (m_po x, m_ta x, m_tk x, m_dg x, m_nu x, m_fa x, v, m_rt x, m_rf x, m_fo x, m_rk x, m_rd x, m_ma x, m_ah x, m_by x, m_li x)
def mu_rt (x : Ms) (v : Int32) : Ms := (m_po x, m_ta x, m_tk x, m_dg x, m_nu x, m_fa x, m_rm x, v, m_rf x, m_fo x, m_rk x, m_rd x, m_ma x, m_ah x, m_by x, m_li x)
def mu_rf (x : Ms) (v : Int32) : Ms := (m_po x, m_ta x, m_tk x, m_dg x, m_nu x, m_fa x, m_rm x, m_rt x, v, m_fo x, m_rk x, m_rd x, m_ma x, m_ah x, m_by x, m_li x)
def mu_fo (x : Ms) (v : Int32) : Ms := (m_po x, m_ta x, m_tk x, m_dg x, m_nu x, m_fa x, m_rm x, m_rt x, m_rf x, v, m_rk x, m_rd x, m_ma x, m_ah x, m_by x, m_li x)
def mu_rk (x : Ms) (v : Nat → Int32) : Ms := (m_po x, m_ta x, m_tk x, m_dg x, m_nu x, m_fa x, m_rm x, m_rt x, m_rf x, m_fo x, v, m_rd x, m_ma x, m_ah x, m_by x, m_li x)
def mu_rd (x : Ms) (v : Nat → Int32) : Ms := (m_po x, m_ta x, m_tk x, m_dg x, m_nu x, m_fa x, m_rm x, m_rt x, m_rf x, m_fo x, m_rk x, v, m_ma x, m_ah x, m_by x, m_li x)
def mu_ma (x : Ms) (v : Nat → Int32) : Ms := (m_po x, m_ta x, m_tk x, m_dg x, m_nu x, m_fa x, m_rm x, m_rt x, m_rf x, m_fo x, m_rk x, m_rd x, v, m_ah x, m_by x, m_li x)
def mu_ah (x : Ms) (v : Nat → Int32) : Ms := (m_po x, m_ta x, m_tk x, m_dg x, m_nu x, m_fa x, m_rm x, m_rt x, m_rf x, m_fo x, m_rk x, m_rd x, m_ma x, v, m_by x, m_li x)
def mu_by (x : Ms) (v : Nat → Int32) : Ms := (m_po x, m_ta x, m_tk x, m_dg x, m_nu x, m_fa x, m_rm x, m_rt x, m_rf x, m_fo x, m_rk x, m_rd x, m_ma x, m_ah x, v, m_li x)
def mu_li (x : Ms) (v : Nat → Int32) : Ms := (m_po x, m_ta x, m_tk x, m_dg x, m_nu x, m_fa x, m_rm x, m_rt x, m_rf x, m_fo x, m_rk x, m_rd x, m_ma x, m_ah x, m_by x, v)
theorem m_ext {x y : Ms} (h0 : m_po x = m_po y) (h1 : m_ta x = m_ta y) (h2 : m_tk x = m_tk y) (h3 : m_dg x = m_dg y) (h4 : m_nu x = m_nu y) (h5 : m_fa x = m_fa y) (h6 : m_rm x = m_rm y) (h7 : m_rt x = m_rt y) (h8 : m_rf x = m_rf y) (h9 : m_fo x = m_fo y) (h10 : m_rk x = m_rk y) (h11 : m_rd x = m_rd y) (h12 : m_ma x = m_ma y) (h13 : m_ah x = m_ah y) (h14 : m_by x = m_by y) (h15 : m_li x = m_li y) : x = y := by
  obtain ⟨x0, x1, x2, x3, x4, x5, x6, x7, x8, x9, x10, x11, x12, x13, x14, x15⟩ := x
  obtain ⟨y0, y1, y2, y3, y4, y5, y6, y7, y8, y9, y10, y11, y12, y13, y14, y15⟩ := y
  obtain rfl : x0 = y0 := h0
  obtain rfl : x1 = y1 := h1
  obtain rfl : x2 = y2 := h2
  obtain rfl : x3 = y3 := h3
  obtain rfl : x4 = y4 := h4
  obtain rfl : x5 = y5 := h5
  obtain rfl : x6 = y6 := h6
  obtain rfl : x7 = y7 := h7
  obtain rfl : x8 = y8 := h8
  obtain rfl : x9 = y9 := h9
  obtain rfl : x10 = y10 := h10
  obtain rfl : x11 = y11 := h11
  obtain rfl : x12 = y12 := h12
  obtain rfl : x13 = y13 := h13
  obtain rfl : x14 = y14 := h14
  obtain rfl : x15 = y15 := h15
  rfl
abbrev Js : Type := (Nat → Option Nat) × (Nat → Nat → Int32) × (Int32) × (Int32) × (Int32) × (Int32) × (Int32) × (Int32) × (Int32) × (Int32) × (Nat) × (Nat) × (Nat) × (Nat → Int32) × (Int32) × (Int32) × (Int32) × (Int32) × (Int32) × (Int32) × (Int32) × (Nat → Int32) × (Nat → Int32) × (Nat → Int32) × (Nat → Int32) × (Nat → Int32) × (Nat → Int32) × (Nat → Int32)
def j_lw (x : Js) : Nat → Option Nat := x.1
def j_nb (x : Js) : Nat → Nat → Int32 := x.2.1
def j_lc (x : Js) : Int32 := x.2.2.1
def j_fa (x : Js) : Int32 := x.2.2.2.1
def j_be (x : Js) : Int32 := x.2.2.2.2.1
def j_en (x : Js) : Int32 := x.2.2.2.2.2.1
def j_so (x : Js) : Int32 := x.2.2.2.2.2.2.1
def j_rt (x : Js) : Int32 := x.2.2.2.2.2.2.2.1
def j_rh (x : Js) : Int32 := x.2.2.2.2.2.2.2.2.1
def j_rf (x : Js) : Int32 := x.2.2.2.2.2.2.2.2.2.1
def j_pe (x : Js) : Nat := x.2.2.2.2.2.2.2.2.2.2.1
def j_wh (x : Js) : Nat := x.2.2.2.2.2.2.2.2.2.2.2.1
def j_us (x : Js) : Nat := x.2.2.2.2.2.2.2.2.2.2.2.2.1
def j_pb (x : Js) : Nat → Int32 := x.2.2.2.2.2.2.2.2.2.2.2.2.2.1
def j_hm (x : Js) : Int32 := x.2.2.2.2.2.2.2.2.2.2.2.2.2.2.1
def j_hs (x : Js) : Int32 := x.2.2.2.2.2.2.2.2.2.2.2.2.2.2.2.1
def j_le (x : Js) : Int32 := x.2.2.2.2.2.2.2.2.2.2.2.2.2.2.2.2.1
def j_mw (x : Js) : Int32 := x.2.2.2.2.2.2.2.2.2.2.2.2.2.2.2.2.2.1
def j_ms (x : Js) : Int32 := x.2.2.2.2.2.2.2.2.2.2.2.2.2.2.2.2.2.2.1
def j_ia (x : Js) : Int32 := x.2.2.2.2.2.2.2.2.2.2.2.2.2.2.2.2.2.2.2.1
def j_il (x : Js) : Int32 := x.2.2.2.2.2.2.2.2.2.2.2.2.2.2.2.2.2.2.2.2.1
def j_fi (x : Js) : Nat → Int32 := x.2.2.2.2.2.2.2.2.2.2.2.2.2.2.2.2.2.2.2.2.2.1
def j_fc (x : Js) : Nat → Int32 := x.2.2.2.2.2.2.2.2.2.2.2.2.2.2.2.2.2.2.2.2.2.2.1
def j_co (x : Js) : Nat → Int32 := x.2.2.2.2.2.2.2.2.2.2.2.2.2.2.2.2.2.2.2.2.2.2.2.1
def j_cb (x : Js) : Nat → Int32 := x.2.2.2.2.2.2.2.2.2.2.2.2.2.2.2.2.2.2.2.2.2.2.2.2.1
def j_wa (x : Js) : Nat → Int32 := x.2.2.2.2.2.2.2.2.2.2.2.2.2.2.2.2.2.2.2.2.2.2.2.2.2.1
def j_hd (x : Js) : Nat → Int32 := x.2.2.2.2.2.2.2.2.2.2.2.2.2.2.2.2.2.2.2.2.2.2.2.2.2.2.1
def j_tl (x : Js) : Nat → Int32 := x.2.2.2.2.2.2.2.2.2.2.2.2.2.2.2.2.2.2.2.2.2.2.2.2.2.2.2
def ju_lw (x : Js) (v : Nat → Option Nat) : Js := (v, j_nb x, j_lc x, j_fa x, j_be x, j_en x, j_so x, j_rt x, j_rh x, j_rf x, j_pe x, j_wh x, j_us x, j_pb x, j_hm x, j_hs x, j_le x, j_mw x, j_ms x, j_ia x, j_il x, j_fi x, j_fc x, j_co x, j_cb x, j_wa x, j_hd x, j_tl x)
def ju_nb (x : Js) (v : Nat → Nat → Int32) : Js := (j_lw x, v, j_lc x, j_fa x, j_be x, j_en x, j_so x, j_rt x, j_rh x, j_rf x, j_pe x, j_wh x, j_us x, j_pb x, j_hm x, j_hs x, j_le x, j_mw x, j_ms x, j_ia x, j_il x, j_fi x, j_fc x, j_co x, j_cb x, j_wa x, j_hd x, j_tl x)
def ju_lc (x : Js) (v : Int32) : Js := (j_lw x, j_nb x, v, j_fa x, j_be x, j_en x, j_so x, j_rt x, j_rh x, j_rf x, j_pe x, j_wh x, j_us x, j_pb x, j_hm x, j_hs x, j_le x, j_mw x, j_ms x, j_ia x, j_il x, j_fi x, j_fc x, j_co x, j_cb x, j_wa x, j_hd x, j_tl x)
def ju_fa (x : Js) (v : Int32) : Js := (j_lw x, j_nb x, j_lc x, v, j_be x, j_en x, j_so x, j_rt x, j_rh x, j_rf x, j_pe x, j_wh x, j_us x, j_pb x, j_hm x, j_hs x, j_le x, j_mw x, j_ms x, j_ia x, j_il x, j_fi x, j_fc x, j_co x, j_cb x, j_wa x, j_hd x, j_tl x)
def ju_be (x : Js) (v : Int32) : Js := (j_lw x, j_nb x, j_lc x, j_fa x, v, j_en x, j_so x, j_rt x, j_rh x, j_rf x, j_pe x, j_wh x, j_us x, j_pb x, j_hm x, j_hs x, j_le x, j_mw x, j_ms x, j_ia x, j_il x, j_fi x, j_fc x, j_co x, j_cb x, j_wa x, j_hd x, j_tl x)
def ju_en (x : Js) (v : Int32) : Js := (j_lw x, j_nb x, j_lc x, j_fa x, j_be x, v, j_so x, j_rt x, j_rh x, j_rf x, j_pe x, j_wh x, j_us x, j_pb x, j_hm x, j_hs x, j_le x, j_mw x, j_ms x, j_ia x, j_il x, j_fi x, j_fc x, j_co x, j_cb x, j_wa x, j_hd x, j_tl x)
def ju_so (x : Js) (v : Int32) : Js := (j_lw x, j_nb x, j_lc x, j_fa x, j_be x, j_en x, v, j_rt x, j_rh x, j_rf x, j_pe x, j_wh x, j_us x, j_pb x, j_hm x, j_hs x, j_le x, j_mw x, j_ms x, j_ia x, j_il x, j_fi x, j_fc x, j_co x, j_cb x, j_wa x, j_hd x, j_tl x)
def ju_rt (x : Js) (v : Int32) : Js := (j_lw x, j_nb x, j_lc x, j_fa x, j_be x, j_en x, j_so x, v, j_rh x, j_rf x, j_pe x, j_wh x, j_us x, j_pb x, j_hm x, j_hs x, j_le x, j_mw x, j_ms x, j_ia x, j_il x, j_fi x, j_fc x, j_co x, j_cb x, j_wa x, j_hd x, j_tl x)
def ju_rh (x : Js) (v : Int32) : Js := (j_lw x, j_nb x, j_lc x, j_fa x, j_be x, j_en x, j_so x, j_rt x, v, j_rf x, j_pe x, j_wh x, j_us x, j_pb x, j_hm x, j_hs x, j_le x, j_mw x, j_ms x, j_ia x, j_il x, j_fi x, j_fc x, j_co x, j_cb x, j_wa x, j_hd x, j_tl x)
def ju_rf (x : Js) (v : Int32) : Js := (j_lw x, j_nb x, j_lc x, j_fa x, j_be x, j_en x, j_so x, j_rt x, j_rh x, v, j_pe x, j_wh x, j_us x, j_pb x, j_hm x, j_hs x, j_le x, j_mw x, j_ms x, j_ia x, j_il x, j_fi x, j_fc x, j_co x, j_cb x, j_wa x, j_hd x, j_tl x)
def ju_pe (x : Js) (v : Nat) : Js := (j_lw x, j_nb x, j_lc x, j_fa x, j_be x, j_en x, j_so x, j_rt x, j_rh x, j_rf x, v, j_wh x, j_us x, j_pb x, j_hm x, j_hs x, j_le x, j_mw x, j_ms x, j_ia x, j_il x, j_fi x, j_fc x, j_co x, j_cb x, j_wa x, j_hd x, j_tl x)
def ju_wh (x : Js) (v : Nat) : Js := (j_lw x, j_nb x, j_lc x, j_fa x, j_be x, j_en x, j_so x, j_rt x, j_rh x, j_rf x, j_pe x, v, j_us x, j_pb x, j_hm x, j_hs x, j_le x, j_mw x, j_ms x, j_ia x, j_il x, j_fi x, j_fc x, j_co x, j_cb x, j_wa x, j_hd x, j_tl x)
def ju_us (x : Js) (v : Nat) : Js := (j_lw x, j_nb x, j_lc x, j_fa x, j_be x, j_en x, j_so x, j_rt x, j_rh x, j_rf x, j_pe x, j_wh x, v, j_pb x, j_hm x, j_hs x, j_le x, j_mw x, j_ms x, j_ia x, j_il x, j_fi x, j_fc x, j_co x, j_cb x, j_wa x, j_hd x, j_tl x)
def ju_pb (x : Js) (v : Nat → Int32) : Js := (j_lw x, j_nb x, j_lc x, j_fa x, j_be x, j_en x, j_so x, j_rt x, j_rh x, j_rf x, j_pe x, j_wh x, j_us x, v, j_hm x, j_hs x, j_le x, j_mw x, j_ms x, j_ia x, j_il x, j_fi x, j_fc x, j_co x, j_cb x, j_wa x, j_hd x, j_tl x)
def ju_hm (x : Js) (v : Int32) : Js := (j_lw x, j_nb x, j_lc x, j_fa x, j_be x, j_en x, j_so x, j_rt x, j_rh x, j_rf x, j_pe x, j_wh x, j_us x, j_pb x, v, j_hs x, j_le x, j_mw x, j_ms x, j_ia x, j_il x, j_fi x, j_fc x, j_co x, j_cb x, j_wa x, j_hd x, j_tl x)
def ju_hs (x : Js) (v : Int32) : Js := (j_lw x, j_nb x, j_lc x, j_fa x, j_be x, j_en x, j_so x, j_rt x, j_rh x, j_rf x, j_pe x, j_wh x, j_us x, j_pb x, j_hm x, v, j_le x, j_mw x, j_ms x, j_ia x, j_il x, j_fi x, j_fc x, j_co x, j_cb x, j_wa x, j_hd x, j_tl x)
def ju_le (x : Js) (v : Int32) : Js := (j_lw x, j_nb x, j_lc x, j_fa x, j_be x, j_en x, j_so x, j_rt x, j_rh x, j_rf x, j_pe x, j_wh x, j_us x, j_pb x, j_hm x, j_hs x, v, j_mw x, j_ms x, j_ia x, j_il x, j_fi x, j_fc x, j_co x, j_cb x, j_wa x, j_hd x, j_tl x)
def ju_mw (x : Js) (v : Int32) : Js := (j_lw x, j_nb x, j_lc x, j_fa x, j_be x, j_en x, j_so x, j_rt x, j_rh x, j_rf x, j_pe x, j_wh x, j_us x, j_pb x, j_hm x, j_hs x, j_le x, v, j_ms x, j_ia x, j_il x, j_fi x, j_fc x, j_co x, j_cb x, j_wa x, j_hd x, j_tl x)
def ju_ms (x : Js) (v : Int32) : Js := (j_lw x, j_nb x, j_lc x, j_fa x, j_be x, j_en x, j_so x, j_rt x, j_rh x, j_rf x, j_pe x, j_wh x, j_us x, j_pb x, j_hm x, j_hs x, j_le x, j_mw x, v, j_ia x, j_il x, j_fi x, j_fc x, j_co x, j_cb x, j_wa x, j_hd x, j_tl x)
def ju_ia (x : Js) (v : Int32) : Js := (j_lw x, j_nb x, j_lc x, j_fa x, j_be x, j_en x, j_so x, j_rt x, j_rh x, j_rf x, j_pe x, j_wh x, j_us x, j_pb x, j_hm x, j_hs x, j_le x, j_mw x, j_ms x, v, j_il x, j_fi x, j_fc x, j_co x, j_cb x, j_wa x, j_hd x, j_tl x)
def ju_il (x : Js) (v : Int32) : Js := (j_lw x, j_nb x, j_lc x, j_fa x, j_be x, j_en x, j_so x, j_rt x, j_rh x, j_rf x, j_pe x, j_wh x, j_us x, j_pb x, j_hm x, j_hs x, j_le x, j_mw x, j_ms x, j_ia x, v, j_fi x, j_fc x, j_co x, j_cb x, j_wa x, j_hd x, j_tl x)
def ju_fi (x : Js) (v : Nat → Int32) : Js := (j_lw x, j_nb x, j_lc x, j_fa x, j_be x, j_en x, j_so x, j_rt x, j_rh x, j_rf x, j_pe x, j_wh x, j_us x, j_pb x, j_hm x, j_hs x, j_le x, j_mw x, j_ms x, j_ia x, j_il x, v, j_fc x, j_co x, j_cb x, j_wa x, j_hd x, j_tl x)
def ju_fc (x : Js) (v : Nat → Int32) : Js := (j_lw x, j_nb x, j_lc x, j_fa x, j_be x, j_en x, j_so x, j_rt x, j_rh x, j_rf x, j_pe x, j_wh x, j_us x, j_pb x, j_hm x, j_hs x, j_le x, j_mw x, j_ms x, j_ia x, j_il x, j_fi x, v, j_co x, j_cb x, j_wa x, j_hd x, j_tl x)
def ju_co (x : Js) (v : Nat → Int32) : Js := (j_lw x, j_nb x, j_lc x, j_fa x, j_be x, j_en x, j_so x, j_rt x, j_rh x, j_rf x, j_pe x, j_wh x, j_us x, j_pb x, j_hm x, j_hs x, j_le x, j_mw x, j_ms x, j_ia x, j_il x, j_fi x, j_fc x, v, j_cb x, j_wa x, j_hd x, j_tl x)
def ju_cb (x : Js) (v : Nat → Int32) : Js := (j_lw x, j_nb x, j_lc x, j_fa x, j_be x, j_en x, j_so x, j_rt x, j_rh x, j_rf x, j_pe x, j_wh x, j_us x, j_pb x, j_hm x, j_hs x, j_le x, j_mw x, j_ms x, j_ia x, j_il x, j_fi x, j_fc x, j_co x, v, j_wa x, j_hd x, j_tl x)
def ju_wa (x : Js) (v : Nat → Int32) : Js := (j_lw x, j_nb x, j_lc x, j_fa x, j_be x, j_en x, j_so x, j_rt x, j_rh x, j_rf x, j_pe x, j_wh x, j_us x, j_pb x, j_hm x, j_hs x, j_le x, j_mw x, j_ms x, j_ia x, j_il x, j_fi x, j_fc x, j_co x, j_cb x, v, j_hd x, j_tl x)
def ju_hd (x : Js) (v : Nat → Int32) : Js := (j_lw x, j_nb x, j_lc x, j_fa x, j_be x, j_en x, j_so x, j_rt x, j_rh x, j_rf x, j_pe x, j_wh x, j_us x, j_pb x, j_hm x, j_hs x, j_le x, j_mw x, j_ms x, j_ia x, j_il x, j_fi x, j_fc x, j_co x, j_cb x, j_wa x, v, j_tl x)
def ju_tl (x : Js) (v : Nat → Int32) : Js := (j_lw x, j_nb x, j_lc x, j_fa x, j_be x, j_en x, j_so x, j_rt x, j_rh x, j_rf x, j_pe x, j_wh x, j_us x, j_pb x, j_hm x, j_hs x, j_le x, j_mw x, j_ms x, j_ia x, j_il x, j_fi x, j_fc x, j_co x, j_cb x, j_wa x, j_hd x, v)
theorem j_ext {x y : Js} (h0 : j_lw x = j_lw y) (h1 : j_nb x = j_nb y) (h2 : j_lc x = j_lc y) (h3 : j_fa x = j_fa y) (h4 : j_be x = j_be y) (h5 : j_en x = j_en y) (h6 : j_so x = j_so y) (h7 : j_rt x = j_rt y) (h8 : j_rh x = j_rh y) (h9 : j_rf x = j_rf y) (h10 : j_pe x = j_pe y) (h11 : j_wh x = j_wh y) (h12 : j_us x = j_us y) (h13 : j_pb x = j_pb y) (h14 : j_hm x = j_hm y) (h15 : j_hs x = j_hs y) (h16 : j_le x = j_le y) (h17 : j_mw x = j_mw y) (h18 : j_ms x = j_ms y) (h19 : j_ia x = j_ia y) (h20 : j_il x = j_il y) (h21 : j_fi x = j_fi y) (h22 : j_fc x = j_fc y) (h23 : j_co x = j_co y) (h24 : j_cb x = j_cb y) (h25 : j_wa x = j_wa y) (h26 : j_hd x = j_hd y) (h27 : j_tl x = j_tl y) : x = y := by
  obtain ⟨x0, x1, x2, x3, x4, x5, x6, x7, x8, x9, x10, x11, x12, x13, x14, x15, x16, x17, x18, x19, x20, x21, x22, x23, x24, x25, x26, x27⟩ := x
  obtain ⟨y0, y1, y2, y3, y4, y5, y6, y7, y8, y9, y10, y11, y12, y13, y14, y15, y16, y17, y18, y19, y20, y21, y22, y23, y24, y25, y26, y27⟩ := y
  obtain rfl : x0 = y0 := h0
  obtain rfl : x1 = y1 := h1
  obtain rfl : x2 = y2 := h2
  obtain rfl : x3 = y3 := h3
  obtain rfl : x4 = y4 := h4
  obtain rfl : x5 = y5 := h5
  obtain rfl : x6 = y6 := h6
  obtain rfl : x7 = y7 := h7
  obtain rfl : x8 = y8 := h8
  obtain rfl : x9 = y9 := h9
  obtain rfl : x10 = y10 := h10
  obtain rfl : x11 = y11 := h11
  obtain rfl : x12 = y12 := h12
  obtain rfl : x13 = y13 := h13
  obtain rfl : x14 = y14 := h14
  obtain rfl : x15 = y15 := h15
  obtain rfl : x16 = y16 := h16
  obtain rfl : x17 = y17 := h17
  obtain rfl : x18 = y18 := h18
  obtain rfl : x19 = y19 := h19
  obtain rfl : x20 = y20 := h20
  obtain rfl : x21 = y21 := h21
  obtain rfl : x22 = y22 := h22
  obtain rfl : x23 = y23 := h23
  obtain rfl : x24 = y24 := h24
  obtain rfl : x25 = y25 := h25
  obtain rfl : x26 = y26 := h26
  obtain rfl : x27 = y27 := h27
  rfl
def updN (f : Nat → Nat) (k v : Nat) : Nat → Nat := fun j => if j = k then v else f j
def updB (f : Nat → Bool) (k : Nat) (v : Bool) : Nat → Bool := fun j => if j = k then v else f j
def updA (f : Nat → Nat → Int32) (k : Nat) (v : Nat → Int32) : Nat → Nat → Int32 := fun j => if j = k then v else f j
def updO (f : Nat → Option Nat) (k : Nat) (v : Option Nat) : Nat → Option Nat := fun j => if j = k then v else f j
theorem upd_nI (f : Nat → Nat) (k v : Nat) : upd (fun i => nI (f i)) k (nI v) = fun i => nI (updN f k v i) := by funext j; unfold upd updN; split <;> rfl
theorem upd_bI (f : Nat → Bool) (k : Nat) (v : Bool) : upd (fun i => bI (f i)) k (bI v) = fun i => bI (updB f k v i) := by funext j; unfold upd updB; split <;> rfl
def mfs (ad : Nat → Nat) (σ : Sg) (T : Ms) : List Value := [.int (nI (s_n σ)), .ref (ad 1), .int (nI (s_m σ)), .ref (ad 2), .int (nI (s_ln σ)), .ref (ad 3), .int (m_po T), .int (m_ta T), .long (m_tk T), .int (m_dg T), .int (m_nu T), .int (m_fa T), .int (m_rm T), .int (m_rt T), .int (m_rf T), .ref (ad 4), .ref (ad 5), .int (nI (s_ov σ)), .int (nI (s_mo σ)), .int (nI (s_of σ)), .int (bI (s_la σ)), .int (nI (s_cr σ)), .ref (ad 6), .ref (ad 7), .int (nI (s_rn σ)), .ref (ad 8), .ref (ad 9), .ref (ad 10), .ref (ad 11), .ref (ad 12), .int (m_fo T)]
def mw (cy : Nat → ClassId) (ad : Nat → Nat) (σ : Sg) (T : Ms) : va_W := [(ad 0, .inr (10, mfs ad σ T)),
  (ad 1, .inl (cy 0, 48, .inl (fun i => nI (s_th σ i)))),
  (ad 2, .inl (cy 0, 15, .inl (fun i => nI (s_fe σ i)))),
  (ad 3, .inl (cy 0, 200, .inl (fun i => nI (s_tx σ i)))),
  (ad 4, .inl (cy 0, 8, .inl (m_rk T))),
  (ad 5, .inl (cy 0, 60, .inl (m_rd T))),
  (ad 6, .inl (cy 0, 10, .inl (fun i => nI (s_im σ i)))),
  (ad 7, .inl (cy 1, 2, .inl (fun i => bI (s_kp σ i)))),
  (ad 8, .inl (cy 0, 24, .inl (fun i => nI (s_ro σ i)))),
  (ad 9, .inl (cy 0, 2048, .inl (m_ma T))),
  (ad 10, .inl (cy 0, 2048, .inl (m_ah T))),
  (ad 11, .inl (cy 0, 2048, .inl (m_by T))),
  (ad 12, .inl (cy 0, 2048, .inl (m_li T)))]
theorem mw_c0 (cy : Nat → ClassId) (ad : Nat → Nat) (σ : Sg) (T : Ms) : (mw cy ad σ T)[0]? = some (ad 0, .inr (10, mfs ad σ T)) := rfl
theorem mw_c1 (cy : Nat → ClassId) (ad : Nat → Nat) (σ : Sg) (T : Ms) : (mw cy ad σ T)[1]? = some (ad 1, .inl (cy 0, 48, .inl (fun i => nI (s_th σ i)))) := rfl
theorem mw_c2 (cy : Nat → ClassId) (ad : Nat → Nat) (σ : Sg) (T : Ms) : (mw cy ad σ T)[2]? = some (ad 2, .inl (cy 0, 15, .inl (fun i => nI (s_fe σ i)))) := rfl
theorem mw_c3 (cy : Nat → ClassId) (ad : Nat → Nat) (σ : Sg) (T : Ms) : (mw cy ad σ T)[3]? = some (ad 3, .inl (cy 0, 200, .inl (fun i => nI (s_tx σ i)))) := rfl
theorem mw_c4 (cy : Nat → ClassId) (ad : Nat → Nat) (σ : Sg) (T : Ms) : (mw cy ad σ T)[4]? = some (ad 4, .inl (cy 0, 8, .inl (m_rk T))) := rfl
theorem mw_c5 (cy : Nat → ClassId) (ad : Nat → Nat) (σ : Sg) (T : Ms) : (mw cy ad σ T)[5]? = some (ad 5, .inl (cy 0, 60, .inl (m_rd T))) := rfl
theorem mw_c6 (cy : Nat → ClassId) (ad : Nat → Nat) (σ : Sg) (T : Ms) : (mw cy ad σ T)[6]? = some (ad 6, .inl (cy 0, 10, .inl (fun i => nI (s_im σ i)))) := rfl
theorem mw_c7 (cy : Nat → ClassId) (ad : Nat → Nat) (σ : Sg) (T : Ms) : (mw cy ad σ T)[7]? = some (ad 7, .inl (cy 1, 2, .inl (fun i => bI (s_kp σ i)))) := rfl
theorem mw_c8 (cy : Nat → ClassId) (ad : Nat → Nat) (σ : Sg) (T : Ms) : (mw cy ad σ T)[8]? = some (ad 8, .inl (cy 0, 24, .inl (fun i => nI (s_ro σ i)))) := rfl
theorem mw_c9 (cy : Nat → ClassId) (ad : Nat → Nat) (σ : Sg) (T : Ms) : (mw cy ad σ T)[9]? = some (ad 9, .inl (cy 0, 2048, .inl (m_ma T))) := rfl
theorem mw_c10 (cy : Nat → ClassId) (ad : Nat → Nat) (σ : Sg) (T : Ms) : (mw cy ad σ T)[10]? = some (ad 10, .inl (cy 0, 2048, .inl (m_ah T))) := rfl
theorem mw_c11 (cy : Nat → ClassId) (ad : Nat → Nat) (σ : Sg) (T : Ms) : (mw cy ad σ T)[11]? = some (ad 11, .inl (cy 0, 2048, .inl (m_by T))) := rfl
theorem mw_c12 (cy : Nat → ClassId) (ad : Nat → Nat) (σ : Sg) (T : Ms) : (mw cy ad σ T)[12]? = some (ad 12, .inl (cy 0, 2048, .inl (m_li T))) := rfl
theorem mp_0_0 (cy : Nat → ClassId) (ad : Nat → Nat) (σ : Sg) (T : Ms) (v : Nat) : (mw cy ad σ T).set 0 (ad 0, .inr (10, (mfs ad σ T).set 0 (.int (nI v)))) = mw cy ad (su_n σ v) T := rfl
theorem mp_0_2 (cy : Nat → ClassId) (ad : Nat → Nat) (σ : Sg) (T : Ms) (v : Nat) : (mw cy ad σ T).set 0 (ad 0, .inr (10, (mfs ad σ T).set 2 (.int (nI v)))) = mw cy ad (su_m σ v) T := rfl
theorem mp_0_4 (cy : Nat → ClassId) (ad : Nat → Nat) (σ : Sg) (T : Ms) (v : Nat) : (mw cy ad σ T).set 0 (ad 0, .inr (10, (mfs ad σ T).set 4 (.int (nI v)))) = mw cy ad (su_ln σ v) T := rfl
theorem mp_0_6 (cy : Nat → ClassId) (ad : Nat → Nat) (σ : Sg) (T : Ms) (v : Int32) : (mw cy ad σ T).set 0 (ad 0, .inr (10, (mfs ad σ T).set 6 (.int v))) = mw cy ad σ (mu_po T v) := rfl
theorem mp_0_7 (cy : Nat → ClassId) (ad : Nat → Nat) (σ : Sg) (T : Ms) (v : Int32) : (mw cy ad σ T).set 0 (ad 0, .inr (10, (mfs ad σ T).set 7 (.int v))) = mw cy ad σ (mu_ta T v) := rfl
theorem mp_0_8 (cy : Nat → ClassId) (ad : Nat → Nat) (σ : Sg) (T : Ms) (v : Int64) : (mw cy ad σ T).set 0 (ad 0, .inr (10, (mfs ad σ T).set 8 (.long v))) = mw cy ad σ (mu_tk T v) := rfl
theorem mp_0_9 (cy : Nat → ClassId) (ad : Nat → Nat) (σ : Sg) (T : Ms) (v : Int32) : (mw cy ad σ T).set 0 (ad 0, .inr (10, (mfs ad σ T).set 9 (.int v))) = mw cy ad σ (mu_dg T v) := rfl
theorem mp_0_10 (cy : Nat → ClassId) (ad : Nat → Nat) (σ : Sg) (T : Ms) (v : Int32) : (mw cy ad σ T).set 0 (ad 0, .inr (10, (mfs ad σ T).set 10 (.int v))) = mw cy ad σ (mu_nu T v) := rfl
theorem mp_0_11 (cy : Nat → ClassId) (ad : Nat → Nat) (σ : Sg) (T : Ms) (v : Int32) : (mw cy ad σ T).set 0 (ad 0, .inr (10, (mfs ad σ T).set 11 (.int v))) = mw cy ad σ (mu_fa T v) := rfl
theorem mp_0_12 (cy : Nat → ClassId) (ad : Nat → Nat) (σ : Sg) (T : Ms) (v : Int32) : (mw cy ad σ T).set 0 (ad 0, .inr (10, (mfs ad σ T).set 12 (.int v))) = mw cy ad σ (mu_rm T v) := rfl
theorem mp_0_13 (cy : Nat → ClassId) (ad : Nat → Nat) (σ : Sg) (T : Ms) (v : Int32) : (mw cy ad σ T).set 0 (ad 0, .inr (10, (mfs ad σ T).set 13 (.int v))) = mw cy ad σ (mu_rt T v) := rfl
theorem mp_0_14 (cy : Nat → ClassId) (ad : Nat → Nat) (σ : Sg) (T : Ms) (v : Int32) : (mw cy ad σ T).set 0 (ad 0, .inr (10, (mfs ad σ T).set 14 (.int v))) = mw cy ad σ (mu_rf T v) := rfl
theorem mp_0_17 (cy : Nat → ClassId) (ad : Nat → Nat) (σ : Sg) (T : Ms) (v : Nat) : (mw cy ad σ T).set 0 (ad 0, .inr (10, (mfs ad σ T).set 17 (.int (nI v)))) = mw cy ad (su_ov σ v) T := rfl
theorem mp_0_18 (cy : Nat → ClassId) (ad : Nat → Nat) (σ : Sg) (T : Ms) (v : Nat) : (mw cy ad σ T).set 0 (ad 0, .inr (10, (mfs ad σ T).set 18 (.int (nI v)))) = mw cy ad (su_mo σ v) T := rfl
theorem mp_0_19 (cy : Nat → ClassId) (ad : Nat → Nat) (σ : Sg) (T : Ms) (v : Nat) : (mw cy ad σ T).set 0 (ad 0, .inr (10, (mfs ad σ T).set 19 (.int (nI v)))) = mw cy ad (su_of σ v) T := rfl
theorem mp_0_20 (cy : Nat → ClassId) (ad : Nat → Nat) (σ : Sg) (T : Ms) (v : Bool) : (mw cy ad σ T).set 0 (ad 0, .inr (10, (mfs ad σ T).set 20 (.int (bI v)))) = mw cy ad (su_la σ v) T := rfl
theorem mp_0_21 (cy : Nat → ClassId) (ad : Nat → Nat) (σ : Sg) (T : Ms) (v : Nat) : (mw cy ad σ T).set 0 (ad 0, .inr (10, (mfs ad σ T).set 21 (.int (nI v)))) = mw cy ad (su_cr σ v) T := rfl
theorem mp_0_24 (cy : Nat → ClassId) (ad : Nat → Nat) (σ : Sg) (T : Ms) (v : Nat) : (mw cy ad σ T).set 0 (ad 0, .inr (10, (mfs ad σ T).set 24 (.int (nI v)))) = mw cy ad (su_rn σ v) T := rfl
theorem mp_0_30 (cy : Nat → ClassId) (ad : Nat → Nat) (σ : Sg) (T : Ms) (v : Int32) : (mw cy ad σ T).set 0 (ad 0, .inr (10, (mfs ad σ T).set 30 (.int v))) = mw cy ad σ (mu_fo T v) := rfl
theorem mp_1 (cy : Nat → ClassId) (ad : Nat → Nat) (σ : Sg) (T : Ms) (i v : Nat) : (mw cy ad σ T).set 1 (ad 1, .inl (cy 0, 48, .inl (upd (fun i => nI (s_th σ i)) i (nI v)))) = mw cy ad (su_th σ (updN (s_th σ) i v)) T := by rw [upd_nI]; rfl
theorem mp_2 (cy : Nat → ClassId) (ad : Nat → Nat) (σ : Sg) (T : Ms) (i v : Nat) : (mw cy ad σ T).set 2 (ad 2, .inl (cy 0, 15, .inl (upd (fun i => nI (s_fe σ i)) i (nI v)))) = mw cy ad (su_fe σ (updN (s_fe σ) i v)) T := by rw [upd_nI]; rfl
theorem mp_3 (cy : Nat → ClassId) (ad : Nat → Nat) (σ : Sg) (T : Ms) (i v : Nat) : (mw cy ad σ T).set 3 (ad 3, .inl (cy 0, 200, .inl (upd (fun i => nI (s_tx σ i)) i (nI v)))) = mw cy ad (su_tx σ (updN (s_tx σ) i v)) T := by rw [upd_nI]; rfl
theorem mp_4 (cy : Nat → ClassId) (ad : Nat → Nat) (σ : Sg) (T : Ms) (i : Nat) (v : Int32) : (mw cy ad σ T).set 4 (ad 4, .inl (cy 0, 8, .inl (upd (m_rk T) i v))) = mw cy ad σ (mu_rk T (upd (m_rk T) i v)) := rfl
theorem mp_5 (cy : Nat → ClassId) (ad : Nat → Nat) (σ : Sg) (T : Ms) (i : Nat) (v : Int32) : (mw cy ad σ T).set 5 (ad 5, .inl (cy 0, 60, .inl (upd (m_rd T) i v))) = mw cy ad σ (mu_rd T (upd (m_rd T) i v)) := rfl
theorem mp_6 (cy : Nat → ClassId) (ad : Nat → Nat) (σ : Sg) (T : Ms) (i v : Nat) : (mw cy ad σ T).set 6 (ad 6, .inl (cy 0, 10, .inl (upd (fun i => nI (s_im σ i)) i (nI v)))) = mw cy ad (su_im σ (updN (s_im σ) i v)) T := by rw [upd_nI]; rfl
theorem mp_7 (cy : Nat → ClassId) (ad : Nat → Nat) (σ : Sg) (T : Ms) (i : Nat) (v : Bool) : (mw cy ad σ T).set 7 (ad 7, .inl (cy 1, 2, .inl (upd (fun i => bI (s_kp σ i)) i (bI v)))) = mw cy ad (su_kp σ (updB (s_kp σ) i v)) T := by rw [upd_bI]; rfl
theorem mp_8 (cy : Nat → ClassId) (ad : Nat → Nat) (σ : Sg) (T : Ms) (i v : Nat) : (mw cy ad σ T).set 8 (ad 8, .inl (cy 0, 24, .inl (upd (fun i => nI (s_ro σ i)) i (nI v)))) = mw cy ad (su_ro σ (updN (s_ro σ) i v)) T := by rw [upd_nI]; rfl
theorem mp_9 (cy : Nat → ClassId) (ad : Nat → Nat) (σ : Sg) (T : Ms) (i : Nat) (v : Int32) : (mw cy ad σ T).set 9 (ad 9, .inl (cy 0, 2048, .inl (upd (m_ma T) i v))) = mw cy ad σ (mu_ma T (upd (m_ma T) i v)) := rfl
theorem mp_10 (cy : Nat → ClassId) (ad : Nat → Nat) (σ : Sg) (T : Ms) (i : Nat) (v : Int32) : (mw cy ad σ T).set 10 (ad 10, .inl (cy 0, 2048, .inl (upd (m_ah T) i v))) = mw cy ad σ (mu_ah T (upd (m_ah T) i v)) := rfl
theorem mp_11 (cy : Nat → ClassId) (ad : Nat → Nat) (σ : Sg) (T : Ms) (i : Nat) (v : Int32) : (mw cy ad σ T).set 11 (ad 11, .inl (cy 0, 2048, .inl (upd (m_by T) i v))) = mw cy ad σ (mu_by T (upd (m_by T) i v)) := rfl
theorem mp_12 (cy : Nat → ClassId) (ad : Nat → Nat) (σ : Sg) (T : Ms) (i : Nat) (v : Int32) : (mw cy ad σ T).set 12 (ad 12, .inl (cy 0, 2048, .inl (upd (m_li T) i v))) = mw cy ad σ (mu_li T (upd (m_li T) i v)) := rfl
theorem mw_ad (cy : Nat → ClassId) (ad : Nat → Nat) (σ : Sg) (T : Ms) : (mw cy ad σ T).map (·.1) = (List.range 13).map ad := rfl
def cf0 (ad : Nat → Nat) (σ : Sg) (J : Js) : List Value := [.ref (ad 1), .ref (ad 3), .ref (ad 8), .ref (ad 10), .ref (ad 11), .ref (ad 19), .ref (ad 20), .int (nI (s_rn σ))]
def cf1 (ad : Nat → Nat) (σ : Sg) (J : Js) : List Value := [.ref (ad 2), .int (nI (s_ln σ))]
def cf3 (ad : Nat → Nat) (σ : Sg) (J : Js) : List Value := [.ref (ad 4), .ref (ad 5), .ref (ad 6), .int (nI (s_n σ)), .int (nI (s_m σ)), .int (nI (j_pe J)), .int (nI (j_wh J)), .int (nI (j_us J)), .ref (ad 7)]
def cf6 (ad : Nat → Nat) (σ : Sg) (J : Js) : List Value := [.int 0, .int (nI (s_ov σ + 256 * s_mo σ)), .int (nI (s_of σ)), .int (bI (s_la σ)), .int (nI (s_cr σ))]
def cf8 (ad : Nat → Nat) (σ : Sg) (J : Js) : List Value := [.ref (ad 9), .int (j_lc J), .int (j_fa J), .ref (ad 1), .ref (ad 3), .int (j_be J), .int (j_en J), .int (j_so J), .int (j_rt J), .int (j_rh J), .int (j_rf J)]
def cf10 (ad : Nat → Nat) (σ : Sg) (J : Js) : List Value := [.ref (ad 3), .int (j_hm J), .int (j_hs J), .int (j_le J), .int (j_mw J), .int (j_ms J), .int (j_ia J), .int (j_il J)]
def cf11 (ad : Nat → Nat) (σ : Sg) (J : Js) : List Value := [.ref (ad 3), .ref (ad 12), .ref (ad 13), .ref (ad 14), .ref (ad 15), .ref (ad 16), .ref (ad 17), .ref (ad 18)]
def cf_thing (ad aw : Nat → Nat) (σ : Sg) (J : Js) (t : Nat) : List Value := [.int (nI (s_th σ (6 * t))), .int (nI (s_th σ (6 * t + 1))), .int (nI (s_th σ (6 * t + 2))), .int (nI (s_th σ (6 * t + 3))), .int (nI (s_th σ (6 * t + 4))), .int (nI (s_th σ (6 * t + 5)))]
def cf_ferry (ad aw : Nat → Nat) (σ : Sg) (J : Js) (t : Nat) : List Value := [.int (nI (s_fe σ (5 * t))), .int (nI (s_fe σ (5 * t + 1))), .int (nI (s_fe σ (5 * t + 2))), .int (nI (s_fe σ (5 * t + 3))), .int (nI (s_fe σ (5 * t + 4)))]
def cf_kept (ad aw : Nat → Nat) (σ : Sg) (J : Js) (t : Nat) : List Value := [.int (bI (s_kp σ t)), .int (nI (s_im σ (5 * t) + 256 * s_im σ (5 * t + 1))), .int (nI (s_im σ (5 * t + 2))), .int (nI (s_im σ (5 * t + 3))), .int (nI (s_im σ (5 * t + 4)))]
def cf_line (ad aw : Nat → Nat) (σ : Sg) (J : Js) (t : Nat) : List Value := [va_re aw (j_lw J t), .ref (ad (46 + t))]
def cw (cy : Nat → ClassId) (ad aw : Nat → Nat) (σ : Sg) (J : Js) : va_W := [(ad 0, .inr (9, cf0 ad σ J)),
  (ad 1, .inr (7, cf1 ad σ J)),
  (ad 2, .inl (cy 0, 200, .inl (fun i => nI (s_tx σ i)))),
  (ad 3, .inr (3, cf3 ad σ J)),
  (ad 4, .inl (cy 5, 8, .inr (.inr (.inr (.inr (fun i => some (ad (21 + i)))))))),
  (ad 5, .inl (cy 2, 3, .inr (.inr (.inr (.inr (fun i => some (ad (29 + i)))))))),
  (ad 6, .inr (5, cf6 ad σ J)),
  (ad 7, .inl (cy 0, 256, .inl (j_pb J))),
  (ad 8, .inr (2, cf8 ad σ J)),
  (ad 9, .inl (cy 3, 12, .inr (.inr (.inr (.inr (fun i => some (ad (34 + i)))))))),
  (ad 10, .inr (6, cf10 ad σ J)),
  (ad 11, .inr (4, cf11 ad σ J)),
  (ad 12, .inl (cy 0, 768, .inl (j_fi J))),
  (ad 13, .inl (cy 0, 3, .inl (j_fc J))),
  (ad 14, .inl (cy 0, 2048, .inl (j_co J))),
  (ad 15, .inl (cy 0, 2048, .inl (j_cb J))),
  (ad 16, .inl (cy 0, 6144, .inl (j_wa J))),
  (ad 17, .inl (cy 0, 3, .inl (j_hd J))),
  (ad 18, .inl (cy 0, 3, .inl (j_tl J))),
  (ad 19, .inl (cy 4, 2, .inr (.inr (.inr (.inr (fun i => some (ad (32 + i)))))))),
  (ad 20, .inl (cy 0, 12, .inl (fun i => nI (256 * s_ro σ (2 * i) + s_ro σ (2 * i + 1))))),
  (ad 21, .inr (8, cf_thing ad aw σ J 0)),
  (ad 22, .inr (8, cf_thing ad aw σ J 1)),
  (ad 23, .inr (8, cf_thing ad aw σ J 2)),
  (ad 24, .inr (8, cf_thing ad aw σ J 3)),
  (ad 25, .inr (8, cf_thing ad aw σ J 4)),
  (ad 26, .inr (8, cf_thing ad aw σ J 5)),
  (ad 27, .inr (8, cf_thing ad aw σ J 6)),
  (ad 28, .inr (8, cf_thing ad aw σ J 7)),
  (ad 29, .inr (0, cf_ferry ad aw σ J 0)),
  (ad 30, .inr (0, cf_ferry ad aw σ J 1)),
  (ad 31, .inr (0, cf_ferry ad aw σ J 2)),
  (ad 32, .inr (5, cf_kept ad aw σ J 0)),
  (ad 33, .inr (5, cf_kept ad aw σ J 1)),
  (ad 34, .inr (1, cf_line ad aw σ J 0)),
  (ad 35, .inr (1, cf_line ad aw σ J 1)),
  (ad 36, .inr (1, cf_line ad aw σ J 2)),
  (ad 37, .inr (1, cf_line ad aw σ J 3)),
  (ad 38, .inr (1, cf_line ad aw σ J 4)),
  (ad 39, .inr (1, cf_line ad aw σ J 5)),
  (ad 40, .inr (1, cf_line ad aw σ J 6)),
  (ad 41, .inr (1, cf_line ad aw σ J 7)),
  (ad 42, .inr (1, cf_line ad aw σ J 8)),
  (ad 43, .inr (1, cf_line ad aw σ J 9)),
  (ad 44, .inr (1, cf_line ad aw σ J 10)),
  (ad 45, .inr (1, cf_line ad aw σ J 11)),
  (ad 46, .inl (cy 0, 4, .inl (j_nb J 0))),
  (ad 47, .inl (cy 0, 4, .inl (j_nb J 1))),
  (ad 48, .inl (cy 0, 4, .inl (j_nb J 2))),
  (ad 49, .inl (cy 0, 4, .inl (j_nb J 3))),
  (ad 50, .inl (cy 0, 4, .inl (j_nb J 4))),
  (ad 51, .inl (cy 0, 4, .inl (j_nb J 5))),
  (ad 52, .inl (cy 0, 4, .inl (j_nb J 6))),
  (ad 53, .inl (cy 0, 4, .inl (j_nb J 7))),
  (ad 54, .inl (cy 0, 4, .inl (j_nb J 8))),
  (ad 55, .inl (cy 0, 4, .inl (j_nb J 9))),
  (ad 56, .inl (cy 0, 4, .inl (j_nb J 10))),
  (ad 57, .inl (cy 0, 4, .inl (j_nb J 11)))]
theorem cw_c0 (cy : Nat → ClassId) (ad aw : Nat → Nat) (σ : Sg) (J : Js) : (cw cy ad aw σ J)[0]? = some (ad 0, .inr (9, cf0 ad σ J)) := rfl
theorem cw_c1 (cy : Nat → ClassId) (ad aw : Nat → Nat) (σ : Sg) (J : Js) : (cw cy ad aw σ J)[1]? = some (ad 1, .inr (7, cf1 ad σ J)) := rfl
theorem cw_c2 (cy : Nat → ClassId) (ad aw : Nat → Nat) (σ : Sg) (J : Js) : (cw cy ad aw σ J)[2]? = some (ad 2, .inl (cy 0, 200, .inl (fun i => nI (s_tx σ i)))) := rfl
theorem cw_c3 (cy : Nat → ClassId) (ad aw : Nat → Nat) (σ : Sg) (J : Js) : (cw cy ad aw σ J)[3]? = some (ad 3, .inr (3, cf3 ad σ J)) := rfl
theorem cw_c4 (cy : Nat → ClassId) (ad aw : Nat → Nat) (σ : Sg) (J : Js) : (cw cy ad aw σ J)[4]? = some (ad 4, .inl (cy 5, 8, .inr (.inr (.inr (.inr (fun i => some (ad (21 + i)))))))) := rfl
theorem cw_c5 (cy : Nat → ClassId) (ad aw : Nat → Nat) (σ : Sg) (J : Js) : (cw cy ad aw σ J)[5]? = some (ad 5, .inl (cy 2, 3, .inr (.inr (.inr (.inr (fun i => some (ad (29 + i)))))))) := rfl
theorem cw_c6 (cy : Nat → ClassId) (ad aw : Nat → Nat) (σ : Sg) (J : Js) : (cw cy ad aw σ J)[6]? = some (ad 6, .inr (5, cf6 ad σ J)) := rfl
theorem cw_c7 (cy : Nat → ClassId) (ad aw : Nat → Nat) (σ : Sg) (J : Js) : (cw cy ad aw σ J)[7]? = some (ad 7, .inl (cy 0, 256, .inl (j_pb J))) := rfl
theorem cw_c8 (cy : Nat → ClassId) (ad aw : Nat → Nat) (σ : Sg) (J : Js) : (cw cy ad aw σ J)[8]? = some (ad 8, .inr (2, cf8 ad σ J)) := rfl
theorem cw_c9 (cy : Nat → ClassId) (ad aw : Nat → Nat) (σ : Sg) (J : Js) : (cw cy ad aw σ J)[9]? = some (ad 9, .inl (cy 3, 12, .inr (.inr (.inr (.inr (fun i => some (ad (34 + i)))))))) := rfl
theorem cw_c10 (cy : Nat → ClassId) (ad aw : Nat → Nat) (σ : Sg) (J : Js) : (cw cy ad aw σ J)[10]? = some (ad 10, .inr (6, cf10 ad σ J)) := rfl
theorem cw_c11 (cy : Nat → ClassId) (ad aw : Nat → Nat) (σ : Sg) (J : Js) : (cw cy ad aw σ J)[11]? = some (ad 11, .inr (4, cf11 ad σ J)) := rfl
theorem cw_c12 (cy : Nat → ClassId) (ad aw : Nat → Nat) (σ : Sg) (J : Js) : (cw cy ad aw σ J)[12]? = some (ad 12, .inl (cy 0, 768, .inl (j_fi J))) := rfl
theorem cw_c13 (cy : Nat → ClassId) (ad aw : Nat → Nat) (σ : Sg) (J : Js) : (cw cy ad aw σ J)[13]? = some (ad 13, .inl (cy 0, 3, .inl (j_fc J))) := rfl
theorem cw_c14 (cy : Nat → ClassId) (ad aw : Nat → Nat) (σ : Sg) (J : Js) : (cw cy ad aw σ J)[14]? = some (ad 14, .inl (cy 0, 2048, .inl (j_co J))) := rfl
theorem cw_c15 (cy : Nat → ClassId) (ad aw : Nat → Nat) (σ : Sg) (J : Js) : (cw cy ad aw σ J)[15]? = some (ad 15, .inl (cy 0, 2048, .inl (j_cb J))) := rfl
theorem cw_c16 (cy : Nat → ClassId) (ad aw : Nat → Nat) (σ : Sg) (J : Js) : (cw cy ad aw σ J)[16]? = some (ad 16, .inl (cy 0, 6144, .inl (j_wa J))) := rfl
theorem cw_c17 (cy : Nat → ClassId) (ad aw : Nat → Nat) (σ : Sg) (J : Js) : (cw cy ad aw σ J)[17]? = some (ad 17, .inl (cy 0, 3, .inl (j_hd J))) := rfl
theorem cw_c18 (cy : Nat → ClassId) (ad aw : Nat → Nat) (σ : Sg) (J : Js) : (cw cy ad aw σ J)[18]? = some (ad 18, .inl (cy 0, 3, .inl (j_tl J))) := rfl
theorem cw_c19 (cy : Nat → ClassId) (ad aw : Nat → Nat) (σ : Sg) (J : Js) : (cw cy ad aw σ J)[19]? = some (ad 19, .inl (cy 4, 2, .inr (.inr (.inr (.inr (fun i => some (ad (32 + i)))))))) := rfl
theorem cw_c20 (cy : Nat → ClassId) (ad aw : Nat → Nat) (σ : Sg) (J : Js) : (cw cy ad aw σ J)[20]? = some (ad 20, .inl (cy 0, 12, .inl (fun i => nI (256 * s_ro σ (2 * i) + s_ro σ (2 * i + 1))))) := rfl
theorem cw_thing (cy : Nat → ClassId) (ad aw : Nat → Nat) (σ : Sg) (J : Js) : ∀ {t : Nat}, t < 8 → (cw cy ad aw σ J)[21 + t]? = some (ad (21 + t), .inr (8, cf_thing ad aw σ J t))
  | 0, _ => rfl
  | 1, _ => rfl
  | 2, _ => rfl
  | 3, _ => rfl
  | 4, _ => rfl
  | 5, _ => rfl
  | 6, _ => rfl
  | 7, _ => rfl
  | _ + 8, h => absurd h (by omega)
theorem cw_ferry (cy : Nat → ClassId) (ad aw : Nat → Nat) (σ : Sg) (J : Js) : ∀ {t : Nat}, t < 3 → (cw cy ad aw σ J)[29 + t]? = some (ad (29 + t), .inr (0, cf_ferry ad aw σ J t))
  | 0, _ => rfl
  | 1, _ => rfl
  | 2, _ => rfl
  | _ + 3, h => absurd h (by omega)
theorem cw_kept (cy : Nat → ClassId) (ad aw : Nat → Nat) (σ : Sg) (J : Js) : ∀ {t : Nat}, t < 2 → (cw cy ad aw σ J)[32 + t]? = some (ad (32 + t), .inr (5, cf_kept ad aw σ J t))
  | 0, _ => rfl
  | 1, _ => rfl
  | _ + 2, h => absurd h (by omega)
theorem cw_line (cy : Nat → ClassId) (ad aw : Nat → Nat) (σ : Sg) (J : Js) : ∀ {t : Nat}, t < 12 → (cw cy ad aw σ J)[34 + t]? = some (ad (34 + t), .inr (1, cf_line ad aw σ J t))
  | 0, _ => rfl
  | 1, _ => rfl
  | 2, _ => rfl
  | 3, _ => rfl
  | 4, _ => rfl
  | 5, _ => rfl
  | 6, _ => rfl
  | 7, _ => rfl
  | 8, _ => rfl
  | 9, _ => rfl
  | 10, _ => rfl
  | 11, _ => rfl
  | _ + 12, h => absurd h (by omega)
theorem cw_nums (cy : Nat → ClassId) (ad aw : Nat → Nat) (σ : Sg) (J : Js) : ∀ {t : Nat}, t < 12 → (cw cy ad aw σ J)[46 + t]? = some (ad (46 + t), .inl (cy 0, 4, .inl (j_nb J t)))
  | 0, _ => rfl
  | 1, _ => rfl
  | 2, _ => rfl
  | 3, _ => rfl
  | 4, _ => rfl
  | 5, _ => rfl
  | 6, _ => rfl
  | 7, _ => rfl
  | 8, _ => rfl
  | 9, _ => rfl
  | 10, _ => rfl
  | 11, _ => rfl
  | _ + 12, h => absurd h (by omega)
theorem cp_0_7 (cy : Nat → ClassId) (ad aw : Nat → Nat) (σ : Sg) (J : Js) (v : Nat) : (cw cy ad aw σ J).set 0 (ad 0, .inr (9, (cf0 ad σ J).set 7 (.int (nI v)))) = cw cy ad aw (su_rn σ v) J := rfl
theorem cp_1_1 (cy : Nat → ClassId) (ad aw : Nat → Nat) (σ : Sg) (J : Js) (v : Nat) : (cw cy ad aw σ J).set 1 (ad 1, .inr (7, (cf1 ad σ J).set 1 (.int (nI v)))) = cw cy ad aw (su_ln σ v) J := rfl
theorem cp_2 (cy : Nat → ClassId) (ad aw : Nat → Nat) (σ : Sg) (J : Js) (i v : Nat) : (cw cy ad aw σ J).set 2 (ad 2, .inl (cy 0, 200, .inl (upd (fun i => nI (s_tx σ i)) i (nI v)))) = cw cy ad aw (su_tx σ (updN (s_tx σ) i v)) J := by rw [upd_nI]; rfl
theorem cp_3_3 (cy : Nat → ClassId) (ad aw : Nat → Nat) (σ : Sg) (J : Js) (v : Nat) : (cw cy ad aw σ J).set 3 (ad 3, .inr (3, (cf3 ad σ J).set 3 (.int (nI v)))) = cw cy ad aw (su_n σ v) J := rfl
theorem cp_3_4 (cy : Nat → ClassId) (ad aw : Nat → Nat) (σ : Sg) (J : Js) (v : Nat) : (cw cy ad aw σ J).set 3 (ad 3, .inr (3, (cf3 ad σ J).set 4 (.int (nI v)))) = cw cy ad aw (su_m σ v) J := rfl
theorem cp_3_5 (cy : Nat → ClassId) (ad aw : Nat → Nat) (σ : Sg) (J : Js) (v : Nat) : (cw cy ad aw σ J).set 3 (ad 3, .inr (3, (cf3 ad σ J).set 5 (.int (nI v)))) = cw cy ad aw σ (ju_pe J v) := rfl
theorem cp_3_6 (cy : Nat → ClassId) (ad aw : Nat → Nat) (σ : Sg) (J : Js) (v : Nat) : (cw cy ad aw σ J).set 3 (ad 3, .inr (3, (cf3 ad σ J).set 6 (.int (nI v)))) = cw cy ad aw σ (ju_wh J v) := rfl
theorem cp_3_7 (cy : Nat → ClassId) (ad aw : Nat → Nat) (σ : Sg) (J : Js) (v : Nat) : (cw cy ad aw σ J).set 3 (ad 3, .inr (3, (cf3 ad σ J).set 7 (.int (nI v)))) = cw cy ad aw σ (ju_us J v) := rfl
theorem cp_6_2 (cy : Nat → ClassId) (ad aw : Nat → Nat) (σ : Sg) (J : Js) (v : Nat) : (cw cy ad aw σ J).set 6 (ad 6, .inr (5, (cf6 ad σ J).set 2 (.int (nI v)))) = cw cy ad aw (su_of σ v) J := rfl
theorem cp_6_3 (cy : Nat → ClassId) (ad aw : Nat → Nat) (σ : Sg) (J : Js) (v : Bool) : (cw cy ad aw σ J).set 6 (ad 6, .inr (5, (cf6 ad σ J).set 3 (.int (bI v)))) = cw cy ad aw (su_la σ v) J := rfl
theorem cp_6_4 (cy : Nat → ClassId) (ad aw : Nat → Nat) (σ : Sg) (J : Js) (v : Nat) : (cw cy ad aw σ J).set 6 (ad 6, .inr (5, (cf6 ad σ J).set 4 (.int (nI v)))) = cw cy ad aw (su_cr σ v) J := rfl
theorem cp_7 (cy : Nat → ClassId) (ad aw : Nat → Nat) (σ : Sg) (J : Js) (i : Nat) (v : Int32) : (cw cy ad aw σ J).set 7 (ad 7, .inl (cy 0, 256, .inl (upd (j_pb J) i v))) = cw cy ad aw σ (ju_pb J (upd (j_pb J) i v)) := rfl
theorem cp_8_1 (cy : Nat → ClassId) (ad aw : Nat → Nat) (σ : Sg) (J : Js) (v : Int32) : (cw cy ad aw σ J).set 8 (ad 8, .inr (2, (cf8 ad σ J).set 1 (.int v))) = cw cy ad aw σ (ju_lc J v) := rfl
theorem cp_8_2 (cy : Nat → ClassId) (ad aw : Nat → Nat) (σ : Sg) (J : Js) (v : Int32) : (cw cy ad aw σ J).set 8 (ad 8, .inr (2, (cf8 ad σ J).set 2 (.int v))) = cw cy ad aw σ (ju_fa J v) := rfl
theorem cp_8_5 (cy : Nat → ClassId) (ad aw : Nat → Nat) (σ : Sg) (J : Js) (v : Int32) : (cw cy ad aw σ J).set 8 (ad 8, .inr (2, (cf8 ad σ J).set 5 (.int v))) = cw cy ad aw σ (ju_be J v) := rfl
theorem cp_8_6 (cy : Nat → ClassId) (ad aw : Nat → Nat) (σ : Sg) (J : Js) (v : Int32) : (cw cy ad aw σ J).set 8 (ad 8, .inr (2, (cf8 ad σ J).set 6 (.int v))) = cw cy ad aw σ (ju_en J v) := rfl
theorem cp_8_7 (cy : Nat → ClassId) (ad aw : Nat → Nat) (σ : Sg) (J : Js) (v : Int32) : (cw cy ad aw σ J).set 8 (ad 8, .inr (2, (cf8 ad σ J).set 7 (.int v))) = cw cy ad aw σ (ju_so J v) := rfl
theorem cp_8_8 (cy : Nat → ClassId) (ad aw : Nat → Nat) (σ : Sg) (J : Js) (v : Int32) : (cw cy ad aw σ J).set 8 (ad 8, .inr (2, (cf8 ad σ J).set 8 (.int v))) = cw cy ad aw σ (ju_rt J v) := rfl
theorem cp_8_9 (cy : Nat → ClassId) (ad aw : Nat → Nat) (σ : Sg) (J : Js) (v : Int32) : (cw cy ad aw σ J).set 8 (ad 8, .inr (2, (cf8 ad σ J).set 9 (.int v))) = cw cy ad aw σ (ju_rh J v) := rfl
theorem cp_8_10 (cy : Nat → ClassId) (ad aw : Nat → Nat) (σ : Sg) (J : Js) (v : Int32) : (cw cy ad aw σ J).set 8 (ad 8, .inr (2, (cf8 ad σ J).set 10 (.int v))) = cw cy ad aw σ (ju_rf J v) := rfl
theorem cp_10_1 (cy : Nat → ClassId) (ad aw : Nat → Nat) (σ : Sg) (J : Js) (v : Int32) : (cw cy ad aw σ J).set 10 (ad 10, .inr (6, (cf10 ad σ J).set 1 (.int v))) = cw cy ad aw σ (ju_hm J v) := rfl
theorem cp_10_2 (cy : Nat → ClassId) (ad aw : Nat → Nat) (σ : Sg) (J : Js) (v : Int32) : (cw cy ad aw σ J).set 10 (ad 10, .inr (6, (cf10 ad σ J).set 2 (.int v))) = cw cy ad aw σ (ju_hs J v) := rfl
theorem cp_10_3 (cy : Nat → ClassId) (ad aw : Nat → Nat) (σ : Sg) (J : Js) (v : Int32) : (cw cy ad aw σ J).set 10 (ad 10, .inr (6, (cf10 ad σ J).set 3 (.int v))) = cw cy ad aw σ (ju_le J v) := rfl
theorem cp_10_4 (cy : Nat → ClassId) (ad aw : Nat → Nat) (σ : Sg) (J : Js) (v : Int32) : (cw cy ad aw σ J).set 10 (ad 10, .inr (6, (cf10 ad σ J).set 4 (.int v))) = cw cy ad aw σ (ju_mw J v) := rfl
theorem cp_10_5 (cy : Nat → ClassId) (ad aw : Nat → Nat) (σ : Sg) (J : Js) (v : Int32) : (cw cy ad aw σ J).set 10 (ad 10, .inr (6, (cf10 ad σ J).set 5 (.int v))) = cw cy ad aw σ (ju_ms J v) := rfl
theorem cp_10_6 (cy : Nat → ClassId) (ad aw : Nat → Nat) (σ : Sg) (J : Js) (v : Int32) : (cw cy ad aw σ J).set 10 (ad 10, .inr (6, (cf10 ad σ J).set 6 (.int v))) = cw cy ad aw σ (ju_ia J v) := rfl
theorem cp_10_7 (cy : Nat → ClassId) (ad aw : Nat → Nat) (σ : Sg) (J : Js) (v : Int32) : (cw cy ad aw σ J).set 10 (ad 10, .inr (6, (cf10 ad σ J).set 7 (.int v))) = cw cy ad aw σ (ju_il J v) := rfl
theorem cp_12 (cy : Nat → ClassId) (ad aw : Nat → Nat) (σ : Sg) (J : Js) (i : Nat) (v : Int32) : (cw cy ad aw σ J).set 12 (ad 12, .inl (cy 0, 768, .inl (upd (j_fi J) i v))) = cw cy ad aw σ (ju_fi J (upd (j_fi J) i v)) := rfl
theorem cp_13 (cy : Nat → ClassId) (ad aw : Nat → Nat) (σ : Sg) (J : Js) (i : Nat) (v : Int32) : (cw cy ad aw σ J).set 13 (ad 13, .inl (cy 0, 3, .inl (upd (j_fc J) i v))) = cw cy ad aw σ (ju_fc J (upd (j_fc J) i v)) := rfl
theorem cp_14 (cy : Nat → ClassId) (ad aw : Nat → Nat) (σ : Sg) (J : Js) (i : Nat) (v : Int32) : (cw cy ad aw σ J).set 14 (ad 14, .inl (cy 0, 2048, .inl (upd (j_co J) i v))) = cw cy ad aw σ (ju_co J (upd (j_co J) i v)) := rfl
theorem cp_15 (cy : Nat → ClassId) (ad aw : Nat → Nat) (σ : Sg) (J : Js) (i : Nat) (v : Int32) : (cw cy ad aw σ J).set 15 (ad 15, .inl (cy 0, 2048, .inl (upd (j_cb J) i v))) = cw cy ad aw σ (ju_cb J (upd (j_cb J) i v)) := rfl
theorem cp_16 (cy : Nat → ClassId) (ad aw : Nat → Nat) (σ : Sg) (J : Js) (i : Nat) (v : Int32) : (cw cy ad aw σ J).set 16 (ad 16, .inl (cy 0, 6144, .inl (upd (j_wa J) i v))) = cw cy ad aw σ (ju_wa J (upd (j_wa J) i v)) := rfl
theorem cp_17 (cy : Nat → ClassId) (ad aw : Nat → Nat) (σ : Sg) (J : Js) (i : Nat) (v : Int32) : (cw cy ad aw σ J).set 17 (ad 17, .inl (cy 0, 3, .inl (upd (j_hd J) i v))) = cw cy ad aw σ (ju_hd J (upd (j_hd J) i v)) := rfl
theorem cp_18 (cy : Nat → ClassId) (ad aw : Nat → Nat) (σ : Sg) (J : Js) (i : Nat) (v : Int32) : (cw cy ad aw σ J).set 18 (ad 18, .inl (cy 0, 3, .inl (upd (j_tl J) i v))) = cw cy ad aw σ (ju_tl J (upd (j_tl J) i v)) := rfl
theorem cp_thing_0 (cy : Nat → ClassId) (ad aw : Nat → Nat) (σ : Sg) (J : Js) (v : Nat) : ∀ {t : Nat}, t < 8 → (cw cy ad aw σ J).set (21 + t) (ad (21 + t), .inr (8, (cf_thing ad aw σ J t).set 0 (.int (nI v)))) = cw cy ad aw (su_th σ (updN (s_th σ) (6 * t) v)) J
  | 0, _ => rfl
  | 1, _ => rfl
  | 2, _ => rfl
  | 3, _ => rfl
  | 4, _ => rfl
  | 5, _ => rfl
  | 6, _ => rfl
  | 7, _ => rfl
  | _ + 8, h => absurd h (by omega)
theorem cp_thing_1 (cy : Nat → ClassId) (ad aw : Nat → Nat) (σ : Sg) (J : Js) (v : Nat) : ∀ {t : Nat}, t < 8 → (cw cy ad aw σ J).set (21 + t) (ad (21 + t), .inr (8, (cf_thing ad aw σ J t).set 1 (.int (nI v)))) = cw cy ad aw (su_th σ (updN (s_th σ) (6 * t + 1) v)) J
  | 0, _ => rfl
  | 1, _ => rfl
  | 2, _ => rfl
  | 3, _ => rfl
  | 4, _ => rfl
  | 5, _ => rfl
  | 6, _ => rfl
  | 7, _ => rfl
  | _ + 8, h => absurd h (by omega)
theorem cp_thing_2 (cy : Nat → ClassId) (ad aw : Nat → Nat) (σ : Sg) (J : Js) (v : Nat) : ∀ {t : Nat}, t < 8 → (cw cy ad aw σ J).set (21 + t) (ad (21 + t), .inr (8, (cf_thing ad aw σ J t).set 2 (.int (nI v)))) = cw cy ad aw (su_th σ (updN (s_th σ) (6 * t + 2) v)) J
  | 0, _ => rfl
  | 1, _ => rfl
  | 2, _ => rfl
  | 3, _ => rfl
  | 4, _ => rfl
  | 5, _ => rfl
  | 6, _ => rfl
  | 7, _ => rfl
  | _ + 8, h => absurd h (by omega)
theorem cp_thing_3 (cy : Nat → ClassId) (ad aw : Nat → Nat) (σ : Sg) (J : Js) (v : Nat) : ∀ {t : Nat}, t < 8 → (cw cy ad aw σ J).set (21 + t) (ad (21 + t), .inr (8, (cf_thing ad aw σ J t).set 3 (.int (nI v)))) = cw cy ad aw (su_th σ (updN (s_th σ) (6 * t + 3) v)) J
  | 0, _ => rfl
  | 1, _ => rfl
  | 2, _ => rfl
  | 3, _ => rfl
  | 4, _ => rfl
  | 5, _ => rfl
  | 6, _ => rfl
  | 7, _ => rfl
  | _ + 8, h => absurd h (by omega)
theorem cp_thing_4 (cy : Nat → ClassId) (ad aw : Nat → Nat) (σ : Sg) (J : Js) (v : Nat) : ∀ {t : Nat}, t < 8 → (cw cy ad aw σ J).set (21 + t) (ad (21 + t), .inr (8, (cf_thing ad aw σ J t).set 4 (.int (nI v)))) = cw cy ad aw (su_th σ (updN (s_th σ) (6 * t + 4) v)) J
  | 0, _ => rfl
  | 1, _ => rfl
  | 2, _ => rfl
  | 3, _ => rfl
  | 4, _ => rfl
  | 5, _ => rfl
  | 6, _ => rfl
  | 7, _ => rfl
  | _ + 8, h => absurd h (by omega)
theorem cp_thing_5 (cy : Nat → ClassId) (ad aw : Nat → Nat) (σ : Sg) (J : Js) (v : Nat) : ∀ {t : Nat}, t < 8 → (cw cy ad aw σ J).set (21 + t) (ad (21 + t), .inr (8, (cf_thing ad aw σ J t).set 5 (.int (nI v)))) = cw cy ad aw (su_th σ (updN (s_th σ) (6 * t + 5) v)) J
  | 0, _ => rfl
  | 1, _ => rfl
  | 2, _ => rfl
  | 3, _ => rfl
  | 4, _ => rfl
  | 5, _ => rfl
  | 6, _ => rfl
  | 7, _ => rfl
  | _ + 8, h => absurd h (by omega)
theorem cp_ferry_0 (cy : Nat → ClassId) (ad aw : Nat → Nat) (σ : Sg) (J : Js) (v : Nat) : ∀ {t : Nat}, t < 3 → (cw cy ad aw σ J).set (29 + t) (ad (29 + t), .inr (0, (cf_ferry ad aw σ J t).set 0 (.int (nI v)))) = cw cy ad aw (su_fe σ (updN (s_fe σ) (5 * t) v)) J
  | 0, _ => rfl
  | 1, _ => rfl
  | 2, _ => rfl
  | _ + 3, h => absurd h (by omega)
theorem cp_ferry_1 (cy : Nat → ClassId) (ad aw : Nat → Nat) (σ : Sg) (J : Js) (v : Nat) : ∀ {t : Nat}, t < 3 → (cw cy ad aw σ J).set (29 + t) (ad (29 + t), .inr (0, (cf_ferry ad aw σ J t).set 1 (.int (nI v)))) = cw cy ad aw (su_fe σ (updN (s_fe σ) (5 * t + 1) v)) J
  | 0, _ => rfl
  | 1, _ => rfl
  | 2, _ => rfl
  | _ + 3, h => absurd h (by omega)
theorem cp_ferry_2 (cy : Nat → ClassId) (ad aw : Nat → Nat) (σ : Sg) (J : Js) (v : Nat) : ∀ {t : Nat}, t < 3 → (cw cy ad aw σ J).set (29 + t) (ad (29 + t), .inr (0, (cf_ferry ad aw σ J t).set 2 (.int (nI v)))) = cw cy ad aw (su_fe σ (updN (s_fe σ) (5 * t + 2) v)) J
  | 0, _ => rfl
  | 1, _ => rfl
  | 2, _ => rfl
  | _ + 3, h => absurd h (by omega)
theorem cp_ferry_3 (cy : Nat → ClassId) (ad aw : Nat → Nat) (σ : Sg) (J : Js) (v : Nat) : ∀ {t : Nat}, t < 3 → (cw cy ad aw σ J).set (29 + t) (ad (29 + t), .inr (0, (cf_ferry ad aw σ J t).set 3 (.int (nI v)))) = cw cy ad aw (su_fe σ (updN (s_fe σ) (5 * t + 3) v)) J
  | 0, _ => rfl
  | 1, _ => rfl
  | 2, _ => rfl
  | _ + 3, h => absurd h (by omega)
theorem cp_ferry_4 (cy : Nat → ClassId) (ad aw : Nat → Nat) (σ : Sg) (J : Js) (v : Nat) : ∀ {t : Nat}, t < 3 → (cw cy ad aw σ J).set (29 + t) (ad (29 + t), .inr (0, (cf_ferry ad aw σ J t).set 4 (.int (nI v)))) = cw cy ad aw (su_fe σ (updN (s_fe σ) (5 * t + 4) v)) J
  | 0, _ => rfl
  | 1, _ => rfl
  | 2, _ => rfl
  | _ + 3, h => absurd h (by omega)
theorem cp_line_0 (cy : Nat → ClassId) (ad aw : Nat → Nat) (σ : Sg) (J : Js) (v : Option Nat) : ∀ {t : Nat}, t < 12 → (cw cy ad aw σ J).set (34 + t) (ad (34 + t), .inr (1, (cf_line ad aw σ J t).set 0 (va_re aw v))) = cw cy ad aw σ (ju_lw J (updO (j_lw J) t v))
  | 0, _ => rfl
  | 1, _ => rfl
  | 2, _ => rfl
  | 3, _ => rfl
  | 4, _ => rfl
  | 5, _ => rfl
  | 6, _ => rfl
  | 7, _ => rfl
  | 8, _ => rfl
  | 9, _ => rfl
  | 10, _ => rfl
  | 11, _ => rfl
  | _ + 12, h => absurd h (by omega)
theorem cp_nums (cy : Nat → ClassId) (ad aw : Nat → Nat) (σ : Sg) (J : Js) (i : Nat) (v : Int32) : ∀ {t : Nat}, t < 12 → (cw cy ad aw σ J).set (46 + t) (ad (46 + t), .inl (cy 0, 4, .inl (upd (j_nb J t) i v))) = cw cy ad aw σ (ju_nb J (updA (j_nb J) t (upd (j_nb J t) i v)))
  | 0, _ => rfl
  | 1, _ => rfl
  | 2, _ => rfl
  | 3, _ => rfl
  | 4, _ => rfl
  | 5, _ => rfl
  | 6, _ => rfl
  | 7, _ => rfl
  | 8, _ => rfl
  | 9, _ => rfl
  | 10, _ => rfl
  | 11, _ => rfl
  | _ + 12, h => absurd h (by omega)
theorem cw_ad (cy : Nat → ClassId) (ad aw : Nat → Nat) (σ : Sg) (J : Js) : (cw cy ad aw σ J).map (·.1) = (List.range 58).map ad := rfl
end
section
/-! what the answers are, over the abstract state -/
def isIx (n : Nat) (x : Int32) : Bool := decide (0 ≤ x ∧ x < nI n)
theorem ix_toInt (n : Nat) (h : n < 2 ^ 31) (x : Int32) : isIx n x = true ↔ 0 ≤ x.toInt ∧ x.toInt < n := by
  unfold isIx
  rw [decide_eq_true_iff, Int32.le_iff_toInt_le, Int32.lt_iff_toInt_lt, nI_toInt h]
  rfl
theorem ix_of {n : Nat} {x : Int32} (c : isIx n x = true) (h : n < 2 ^ 31) : ∃ k, k < n ∧ x = nI k := by
  have h1 := (ix_toInt n h x).mp c
  refine ⟨x.toInt.toNat, by omega, ?_⟩
  apply Int32.toInt_inj.mp
  rw [nI_toInt (by omega)]
  omega
theorem ix_nI {n k : Nat} (h : n < 2 ^ 31) (hk : k < 2 ^ 31) : isIx n (nI k) = decide (k < n) := by
  have h1 := ix_toInt n h (nI k)
  rw [nI_toInt hk] at h1
  cases hq : isIx n (nI k) with
  | true => rw [hq] at h1; exact (decide_eq_true (by have := h1.mp rfl; omega)).symm
  | false => rw [hq] at h1; refine (decide_eq_false (fun q => ?_)).symm; have := h1.mpr (by omega); cases this
theorem ix_le {n : Nat} (h : n < 2 ^ 31) (x : Int32) : decide (nI 0 ≤ x ∧ x ≤ nI n - nI 1) = isIx n x := by
  have h0 : (nI 0).toInt = 0 := rfl
  have h1 : (nI n - nI 1).toInt = (n : Int) - 1 := by
    rcases Nat.eq_zero_or_pos n with rfl | hp
    · rfl
    · rw [pk_sub hp, nI_toInt (by omega)]; omega
  have h2 := ix_toInt n h x
  cases hq : isIx n x with
  | true => rw [hq] at h2; have := h2.mp rfl; rw [decide_eq_true_iff, Int32.le_iff_toInt_le, Int32.le_iff_toInt_le, h0, h1]; omega
  | false => rw [hq] at h2; rw [decide_eq_false_iff_not, Int32.le_iff_toInt_le, Int32.le_iff_toInt_le, h0, h1]; intro q; have := h2.mpr (by omega); cases this
theorem bit_and (x k : Nat) : x / 2 ^ k &&& 1 = (x.testBit k).toNat := by
  rw [Nat.and_one_is_mod, Nat.testBit_eq_decide_div_mod_eq]
  rcases Nat.mod_two_eq_zero_or_one (x / 2 ^ k) with h | h <;> simp [h]
theorem bit_1 (x k : Nat) : (x / 2 ^ k &&& 1 = 1) ↔ x.testBit k = true := by
  rw [bit_and]; cases x.testBit k <;> simp
theorem pw_le {k n : Nat} (h : k ≤ n) : 2 ^ k ≤ 2 ^ n := Nat.pow_le_pow_right (by decide) h
theorem pw_8 {k : Nat} (h : k ≤ 8) : 2 ^ k ≤ 256 := pw_le (n := 8) h
theorem pw_pos (k : Nat) : 0 < 2 ^ k := Nat.two_pow_pos k
def sumN (f : Nat → Nat) : Nat → Nat
  | 0 => 0
  | n + 1 => sumN f n + f n
theorem sumN_le {f : Nat → Nat} {b : Nat} : ∀ {n : Nat}, (∀ k, k < n → f k ≤ b) → sumN f n ≤ n * b
  | 0, _ => by simp [sumN]
  | n + 1, h => by
    have h1 := sumN_le (n := n) (fun k hk => h k (Nat.lt_succ_of_lt hk))
    have h2 := h n (Nat.lt_succ_self n)
    rw [sumN, Nat.succ_mul]
    omega
theorem sumN_cong {f g : Nat → Nat} : ∀ {n : Nat}, (∀ k, k < n → f k = g k) → sumN f n = sumN g n
  | 0, _ => rfl
  | n + 1, h => by rw [sumN, sumN, sumN_cong (fun k hk => h k (Nat.lt_succ_of_lt hk)), h n (Nat.lt_succ_self n)]
/-- the pounds of a thing, the hats of h off -/
def pd (σ : Sg) (h t : Nat) : Nat := s_th σ (6 * t + 1) + (if h.testBit t then 0 else s_th σ (6 * t + 3))
def pdA (σ : Sg) (ld h : Nat) : Nat := sumN (fun t => if ld.testBit t then pd σ h t else 0) (s_n σ)
def wiA (σ : Sg) (ld : Nat) : Nat := sumN (fun t => if ld.testBit t then s_th σ (6 * t + 4) else 0) (s_n σ)
def unA (σ : Sg) (ld : Nat) : Nat := sumN (fun t => if ld.testBit t then s_th σ (6 * t + 5) else 0) (s_n σ)
def bits (S : Nat) : Nat := sumN (fun k => (S.testBit k).toNat) 8
def rev3 (x : Nat) : Nat := if x < 10 then x else if x < 100 then x % 10 * 10 + x / 10 else x % 10 * 100 + x / 10 % 10 * 10 + x / 100
def numN (σ : Sg) (f : Nat) : Nat := if s_fe σ (5 * f) < 2 ∨ s_la σ = false then s_fe σ (5 * f + 1) else rev3 (s_fe σ (5 * f + 1))
def plN (σ : Sg) (f : Nat) : Nat := if s_fe σ (5 * f) = 1 then 1 else 0
def adif (a b : Nat) : Nat := if a < b then b - a else a - b
/-- pounds, with some play more, are THE NUMBER -/
def fit (σ : Sg) (f pds more : Nat) : Bool := decide (adif pds (numN σ f) + more ≤ plN σ f)
def anyN (p : Nat → Bool) : Nat → Bool
  | 0 => false
  | n + 1 => anyN p n || p n
def hasP (σ : Sg) (ld : Nat) : Bool := anyN (fun t => ld.testBit t && decide (s_th σ (6 * t) = 0)) (s_n σ)
def onB (b : Bool) (ld there : Nat) : Bool := if b then decide (ld &&& there = ld) else decide (ld &&& there = 0)
def board (σ : Sg) (f ld there boats : Nat) : Bool := hasP σ ld && onB (boats.testBit f) ld there
def isR (σ : Sg) (f ld there boats h : Nat) : Bool := board σ f ld there boats && decide (bits ld ≤ s_fe σ (5 * f + 3)) && fit σ f (pdA σ ld h) 0
def wfT (th : Nat → Nat) : Prop := ∀ t, t < 8 → th (6 * t) ≤ 3 ∧ th (6 * t + 1) ≤ 99 ∧ th (6 * t + 2) ≤ 1 ∧ th (6 * t + 3) ≤ 9 ∧ th (6 * t + 4) ≤ 9 ∧ th (6 * t + 5) ≤ 1 ∧ (2 ≤ th (6 * t) → th (6 * t + 3) = 0)
def wfF (fe : Nat → Nat) : Prop := ∀ f, f < 3 → fe (5 * f) ≤ 2 ∧ fe (5 * f + 1) ≤ 999 ∧ fe (5 * f + 2) ≤ 1 ∧ fe (5 * f + 3) ≤ 8 ∧ fe (5 * f + 4) ≤ 9
def wfS (σ : Sg) : Prop := s_n σ ≤ 8 ∧ s_m σ ≤ 3 ∧ wfT (s_th σ) ∧ wfF (s_fe σ) ∧ s_ln σ ≤ 200 ∧ (∀ i, s_tx σ i < 256) ∧ s_ov σ < 2 ^ s_n σ ∧ s_mo σ < 2 ^ s_m σ ∧ s_of σ < 2 ^ s_n σ ∧ s_rn σ ≤ 12 ∧ (∀ f, f < s_m σ → 1 ≤ s_fe σ (5 * f + 4)) ∧ (∀ k, k < s_rn σ → s_ro σ (2 * k) < s_m σ ∧ s_ro σ (2 * k + 1) < 2 ^ s_n σ) ∧ (∀ k, k < 2 → s_kp σ k = true → s_im σ (5 * k) < 2 ^ s_n σ ∧ s_im σ (5 * k + 1) < 2 ^ s_m σ ∧ s_im σ (5 * k + 2) < 2 ^ s_n σ) ∧ (∀ k, k < 2 → s_im σ (5 * k + 3) ≤ 1)
theorem pd_le {σ : Sg} (hw : wfS σ) (h : Nat) {t : Nat} (ht : t < 8) : pd σ h t ≤ 108 := by
  have h1 := hw.2.2.1 t ht
  unfold pd
  split <;> omega
theorem pdA_le {σ : Sg} (hw : wfS σ) (ld h : Nat) : pdA σ ld h ≤ 864 := by
  have h1 : pdA σ ld h ≤ s_n σ * 108 := sumN_le (fun t ht => by
    split
    · exact pd_le hw h (Nat.lt_of_lt_of_le ht hw.1)
    · omega)
  have h2 := hw.1
  omega
theorem pdT_le {σ : Sg} (hw : wfS σ) (ld h : Nat) {i : Nat} (hi : i ≤ s_n σ) : sumN (fun t => if ld.testBit t then pd σ h t else 0) i ≤ 864 := by
  have h1 : sumN (fun t => if ld.testBit t then pd σ h t else 0) i ≤ i * 108 := sumN_le (fun t ht => by
    split
    · exact pd_le hw h (Nat.lt_of_lt_of_le ht (Nat.le_trans hi hw.1))
    · omega)
  have h2 := hw.1
  omega
theorem bits_le (S : Nat) : bits S ≤ 8 := sumN_le (b := 1) (fun k _ => by cases S.testBit k <;> decide)
end
section
theorem in_t {v a b : Int32} (h1 : ¬ v < a) (h2 : ¬ b < v) : true = decide (a ≤ v ∧ v ≤ b) := by
  rw [Int32.lt_iff_toInt_lt] at h1 h2
  symm
  rw [decide_eq_true_iff, Int32.le_iff_toInt_le, Int32.le_iff_toInt_le]
  omega
theorem in_f1 {v a b : Int32} (h1 : v < a) : false = decide (a ≤ v ∧ v ≤ b) := by
  rw [Int32.lt_iff_toInt_lt] at h1
  symm
  rw [decide_eq_false_iff_not, Int32.le_iff_toInt_le, Int32.le_iff_toInt_le]
  omega
theorem in_f2 {v a b : Int32} (h1 : b < v) : false = decide (a ≤ v ∧ v ≤ b) := by
  rw [Int32.lt_iff_toInt_lt] at h1
  symm
  rw [decide_eq_false_iff_not, Int32.le_iff_toInt_le, Int32.le_iff_toInt_le]
  omega
theorem and1_lt (x : Nat) : x &&& 1 < 2 ^ 31 := Nat.lt_of_le_of_lt Nat.and_le_right (by decide)
set_option maxHeartbeats 4000000 in
set_option maxRecDepth 100000 in
theorem k_X11_in (l : Launch)  (v a b : Int32)  : MS l yX11_in qX11_in 0 [.int (v), .int (a), .int (b)] (bI (decide (a ≤ v ∧ v ≤ b))) := by
  refine Met.ofW (cc := cX11_in) (maxL := 3) (ret := (some .boolean)) (by decide) rfl ?_
  intro p e s m args below meth c s₁ B hml hv
  obtain ⟨rfl, -⟩ := hv
  have hx := B.exec
  have hb := B.bytes
  have hr := B.returns
  have hlocks := B.notSynchronized
  have hts : ∀ w ∈ tg, w.before ([.int (v), .int (a), .int (b)] : List Value).toArray s = true := fun w h => atoms_spec (ws := qX11_in) B.pre w (List.mem_cons_of_mem _ h)
  have hown : s.vm.findClass RX11 = some m.cls := findClass_of_methodNamed B.named
  have hl := lv_entry ([.int (v), .int (a), .int (b)]) (n := 3) (Nat.le_of_ble_eq_true rfl)
  rw [lg_entry_eq]
  generalize (lg_sl ([.int (v), .int (a), .int (b)]) ++ List.replicate (3 - (lg_sl ([.int (v), .int (a), .int (b)])).length) Slot.unset).toArray = ls at hl ⊢
  have hl : lv_has ls 3 [(0, .int (v)), (1, .int (a)), (2, .int (b))] := hl
  refine lv_iload_n hx hb dX11_in_0 rfl (lv_at hl 0 rfl) ?_
  refine lv_iload_n hx hb dX11_in_1 rfl (lv_at hl 1 rfl) ?_
  refine lv_icmp_lt (tgt := 14) hx hb dX11_in_2 (by decide) (fun c2 => ?_) (fun c2 => ?_)
  · refine lv_iconst (v := nI 0) hx hb dX11_in_14 (by decide) ?_
    refine ln_eq bI_f.symm ?_
    exact rt_z hx hb hr hlocks (by first | exact in_t c2 c7 | exact in_f1 c2 | exact in_f2 c7) dX11_in_15
  · refine lv_iload_n hx hb dX11_in_5 rfl (lv_at hl 0 rfl) ?_
    refine lv_iload_n hx hb dX11_in_6 rfl (lv_at hl 2 rfl) ?_
    refine lv_icmp_gt (tgt := 14) hx hb dX11_in_7 (by decide) (fun c7 => ?_) (fun c7 => ?_)
    · refine lv_iconst (v := nI 0) hx hb dX11_in_14 (by decide) ?_
      refine ln_eq bI_f.symm ?_
      exact rt_z hx hb hr hlocks (by first | exact in_t c2 c7 | exact in_f1 c2 | exact in_f2 c7) dX11_in_15
    · refine lv_iconst (v := nI 1) hx hb dX11_in_10 (by decide) ?_
      refine lv_goto (tgt := 15) hx hb dX11_in_11 (by decide) ?_
      refine ln_eq bI_t.symm ?_
      exact rt_z hx hb hr hlocks (by first | exact in_t c2 c7 | exact in_f1 c2 | exact in_f2 c7) dX11_in_15
set_option maxHeartbeats 4000000 in
set_option maxRecDepth 100000 in
theorem k_X11_has (l : Launch)  (x k : Nat) (h1 : x < 2 ^ 31) (h2 : k < 32) : MS l yX11_has qX11_has 0 [.int (nI (x)), .int (nI (k))] (bI (x.testBit k)) := by
  refine Met.ofW (cc := cX11_has) (maxL := 2) (ret := (some .boolean)) (by decide) rfl ?_
  intro p e s m args below meth c s₁ B hml hv
  obtain ⟨rfl, -⟩ := hv
  have hx := B.exec
  have hb := B.bytes
  have hr := B.returns
  have hlocks := B.notSynchronized
  have hts : ∀ w ∈ tg, w.before ([.int (nI (x)), .int (nI (k))] : List Value).toArray s = true := fun w h => atoms_spec (ws := qX11_has) B.pre w (List.mem_cons_of_mem _ h)
  have hown : s.vm.findClass RX11 = some m.cls := findClass_of_methodNamed B.named
  have hl := lv_entry ([.int (nI (x)), .int (nI (k))]) (n := 2) (Nat.le_of_ble_eq_true rfl)
  rw [lg_entry_eq]
  generalize (lg_sl ([.int (nI (x)), .int (nI (k))]) ++ List.replicate (2 - (lg_sl ([.int (nI (x)), .int (nI (k))])).length) Slot.unset).toArray = ls at hl ⊢
  have hl : lv_has ls 2 [(0, .int (nI (x))), (1, .int (nI (k)))] := hl
  refine lv_iload_n hx hb dX11_has_0 rfl (lv_at hl 0 rfl) ?_
  refine lv_iload_n hx hb dX11_has_1 rfl (lv_at hl 1 rfl) ?_
  refine ln_ishr hx hb dX11_has_2 (by omega) (by omega) ?_
  refine lv_iconst (v := nI 1) hx hb dX11_has_3 (by decide) ?_
  refine ln_iand hx hb dX11_has_4 ?_
  refine lv_iconst (v := nI 1) hx hb dX11_has_5 (by decide) ?_
  refine ln_icmp_ne (tgt := 13) hx hb dX11_has_6 (by decide) (and1_lt _) (by decide) (fun c6 => ?_) (fun c6 => ?_)
  · refine lv_iconst (v := nI 0) hx hb dX11_has_13 (by decide) ?_
    refine ln_eq bI_f.symm ?_
    exact rt_z hx hb hr hlocks (by first | exact ((bit_1 x k).mp c6).symm | exact (Bool.eq_false_iff.mpr (fun q => c6 ((bit_1 x k).mpr q))).symm) dX11_has_14
  · refine lv_iconst (v := nI 1) hx hb dX11_has_9 (by decide) ?_
    refine lv_goto (tgt := 14) hx hb dX11_has_10 (by decide) ?_
    refine ln_eq bI_t.symm ?_
    exact rt_z hx hb hr hlocks (by first | exact ((bit_1 x k).mp c6).symm | exact (Bool.eq_false_iff.mpr (fun q => c6 ((bit_1 x k).mpr q))).symm) dX11_has_14
set_option maxHeartbeats 4000000 in
set_option maxRecDepth 100000 in
theorem k_X11_isThing (l : Launch) (D : va_G) (cy : Nat → ClassId) (ad : Nat → Nat) (σ : Sg) (T : Ms) (x : Int32) (hw : wfS σ) : MR l yX11_isThing qX11_isThing 1 [.ref (ad 0), .int (x)] D cy (mw cy ad σ T) (bI (isIx (s_n σ) x)) := by
  refine Met.ofW (cc := cX11_isThing) (maxL := 2) (ret := (some .boolean)) (by decide) rfl ?_
  intro p e s m args below meth c s₁ B hml hv
  obtain ⟨rfl, hP, hK, hN⟩ := hv
  have hx := B.exec
  have hb := B.bytes
  have hr := B.returns
  have hlocks := B.notSynchronized
  have hts : ∀ w ∈ tg, w.before ([.ref (ad 0), .int (x)] : List Value).toArray s = true := fun w h => atoms_spec (ws := qX11_isThing) B.pre w (List.mem_cons_of_mem _ h)
  have hown : s.vm.findClass RX11 = some m.cls := findClass_of_methodNamed B.named
  have hl := lv_entry ([.ref (ad 0), .int (x)]) (n := 2) (Nat.le_of_ble_eq_true rfl)
  rw [lg_entry_eq]
  generalize (lg_sl ([.ref (ad 0), .int (x)]) ++ List.replicate (2 - (lg_sl ([.ref (ad 0), .int (x)])).length) Slot.unset).toArray = ls at hl ⊢
  have hl : lv_has ls 2 [(0, .ref (ad 0)), (1, .int (x))] := hl
  have hw1 := hw.1
  have hw2 := hw.2.1
  refine lv_iload_n hx hb dX11_isThing_0 rfl (lv_at hl 1 rfl) ?_
  refine lv_iconst (v := nI 0) hx hb dX11_isThing_1 (by decide) ?_
  refine lv_aload_n hx hb dX11_isThing_2 rfl (lv_at hl 0 rfl) ?_
  refine va_get (D := D) (ci := 10) (v := .int (nI (s_n σ))) (C := RX11) (T := TX11) (N := 31) hx hb hts ni11 hown hK hP 0 (mw_c0 cy ad σ T) rfl 0 (by decide) (hts _ flX11_47) (fun _ h => h) rfl dX11_isThing_3 ?_
  refine lv_iconst (v := nI 1) hx hb dX11_isThing_6 (by decide) ?_
  refine lv_isub hx hb dX11_isThing_7 ?_
  refine cr_s (n := 3) (As := [.int (x), .int (nI (0)), .int ((nI (s_n σ)) - (nI (1)))]) (rest := []) ⟨hx, hb, hml, hown, hts⟩ (k_X11_in l (x) (nI (0)) ((nI (s_n σ)) - (nI (1)))) gsX11_51 (by decide +kernel) ⟨Nat.le_of_ble_eq_true rfl, Nat.le_of_ble_eq_true rfl⟩ rfl hl.1 rfl (Nat.le_of_ble_eq_true rfl) dX11_isThing_8 ⟨Nat.zero_le _, Nat.zero_le _⟩ ?_
  exact rt_z hx hb hr hlocks (ix_le (by omega) x) dX11_isThing_11
set_option maxHeartbeats 4000000 in
set_option maxRecDepth 100000 in
theorem k_X11_isFerry (l : Launch) (D : va_G) (cy : Nat → ClassId) (ad : Nat → Nat) (σ : Sg) (T : Ms) (x : Int32) (hw : wfS σ) : MR l yX11_isFerry qX11_isFerry 1 [.ref (ad 0), .int (x)] D cy (mw cy ad σ T) (bI (isIx (s_m σ) x)) := by
  refine Met.ofW (cc := cX11_isFerry) (maxL := 2) (ret := (some .boolean)) (by decide) rfl ?_
  intro p e s m args below meth c s₁ B hml hv
  obtain ⟨rfl, hP, hK, hN⟩ := hv
  have hx := B.exec
  have hb := B.bytes
  have hr := B.returns
  have hlocks := B.notSynchronized
  have hts : ∀ w ∈ tg, w.before ([.ref (ad 0), .int (x)] : List Value).toArray s = true := fun w h => atoms_spec (ws := qX11_isFerry) B.pre w (List.mem_cons_of_mem _ h)
  have hown : s.vm.findClass RX11 = some m.cls := findClass_of_methodNamed B.named
  have hl := lv_entry ([.ref (ad 0), .int (x)]) (n := 2) (Nat.le_of_ble_eq_true rfl)
  rw [lg_entry_eq]
  generalize (lg_sl ([.ref (ad 0), .int (x)]) ++ List.replicate (2 - (lg_sl ([.ref (ad 0), .int (x)])).length) Slot.unset).toArray = ls at hl ⊢
  have hl : lv_has ls 2 [(0, .ref (ad 0)), (1, .int (x))] := hl
  have hw1 := hw.1
  have hw2 := hw.2.1
  refine lv_iload_n hx hb dX11_isFerry_0 rfl (lv_at hl 1 rfl) ?_
  refine lv_iconst (v := nI 0) hx hb dX11_isFerry_1 (by decide) ?_
  refine lv_aload_n hx hb dX11_isFerry_2 rfl (lv_at hl 0 rfl) ?_
  refine va_get (D := D) (ci := 10) (v := .int (nI (s_m σ))) (C := RX11) (T := TX11) (N := 31) hx hb hts ni11 hown hK hP 0 (mw_c0 cy ad σ T) rfl 2 (by decide) (hts _ flX11_55) (fun _ h => h) rfl dX11_isFerry_3 ?_
  refine lv_iconst (v := nI 1) hx hb dX11_isFerry_6 (by decide) ?_
  refine lv_isub hx hb dX11_isFerry_7 ?_
  refine cr_s (n := 3) (As := [.int (x), .int (nI (0)), .int ((nI (s_m σ)) - (nI (1)))]) (rest := []) ⟨hx, hb, hml, hown, hts⟩ (k_X11_in l (x) (nI (0)) ((nI (s_m σ)) - (nI (1)))) gsX11_51 (by decide +kernel) ⟨Nat.le_of_ble_eq_true rfl, Nat.le_of_ble_eq_true rfl⟩ rfl hl.1 rfl (Nat.le_of_ble_eq_true rfl) dX11_isFerry_8 ⟨Nat.zero_le _, Nat.zero_le _⟩ ?_
  exact rt_z hx hb hr hlocks (ix_le (by omega) x) dX11_isFerry_11
set_option maxHeartbeats 4000000 in
set_option maxRecDepth 100000 in
theorem k_X11_isSet (l : Launch) (D : va_G) (cy : Nat → ClassId) (ad : Nat → Nat) (σ : Sg) (T : Ms) (x : Int32) (hw : wfS σ) : MR l yX11_isSet qX11_isSet 1 [.ref (ad 0), .int (x)] D cy (mw cy ad σ T) (bI (isIx (2 ^ s_n σ) x)) := by
  refine Met.ofW (cc := cX11_isSet) (maxL := 2) (ret := (some .boolean)) (by decide) rfl ?_
  intro p e s m args below meth c s₁ B hml hv
  obtain ⟨rfl, hP, hK, hN⟩ := hv
  have hx := B.exec
  have hb := B.bytes
  have hr := B.returns
  have hlocks := B.notSynchronized
  have hts : ∀ w ∈ tg, w.before ([.ref (ad 0), .int (x)] : List Value).toArray s = true := fun w h => atoms_spec (ws := qX11_isSet) B.pre w (List.mem_cons_of_mem _ h)
  have hown : s.vm.findClass RX11 = some m.cls := findClass_of_methodNamed B.named
  have hl := lv_entry ([.ref (ad 0), .int (x)]) (n := 2) (Nat.le_of_ble_eq_true rfl)
  rw [lg_entry_eq]
  generalize (lg_sl ([.ref (ad 0), .int (x)]) ++ List.replicate (2 - (lg_sl ([.ref (ad 0), .int (x)])).length) Slot.unset).toArray = ls at hl ⊢
  have hl : lv_has ls 2 [(0, .ref (ad 0)), (1, .int (x))] := hl
  have hw1 := hw.1
  have hp := pw_8 hw1
  refine lv_iload_n hx hb dX11_isSet_0 rfl (lv_at hl 1 rfl) ?_
  refine lv_iconst (v := nI 0) hx hb dX11_isSet_1 (by decide) ?_
  refine lv_iconst (v := nI 1) hx hb dX11_isSet_2 (by decide) ?_
  refine lv_aload_n hx hb dX11_isSet_3 rfl (lv_at hl 0 rfl) ?_
  refine va_get (D := D) (ci := 10) (v := .int (nI (s_n σ))) (C := RX11) (T := TX11) (N := 31) hx hb hts ni11 hown hK hP 0 (mw_c0 cy ad σ T) rfl 0 (by decide) (hts _ flX11_47) (fun _ h => h) rfl dX11_isSet_4 ?_
  refine ln_ishl hx hb dX11_isSet_7 (by omega) (by omega) ?_
  refine lv_iconst (v := nI 1) hx hb dX11_isSet_8 (by decide) ?_
  refine lv_isub hx hb dX11_isSet_9 ?_
  refine cr_s (n := 3) (As := [.int (x), .int (nI (0)), .int ((nI (1 * 2 ^ (s_n σ))) - (nI (1)))]) (rest := []) ⟨hx, hb, hml, hown, hts⟩ (k_X11_in l (x) (nI (0)) ((nI (1 * 2 ^ (s_n σ))) - (nI (1)))) gsX11_51 (by decide +kernel) ⟨Nat.le_of_ble_eq_true rfl, Nat.le_of_ble_eq_true rfl⟩ rfl hl.1 rfl (Nat.le_of_ble_eq_true rfl) dX11_isSet_10 ⟨Nat.zero_le _, Nat.zero_le _⟩ ?_
  exact rt_z hx hb hr hlocks (by rw [Nat.one_mul]; exact ix_le (by omega) x) dX11_isSet_13
set_option maxHeartbeats 4000000 in
set_option maxRecDepth 100000 in
theorem k_X11_isBank (l : Launch)  (x : Int32)  : MS l yX11_isBank qX11_isBank 1 [.int (x)] (bI (isIx 2 x)) := by
  refine Met.ofW (cc := cX11_isBank) (maxL := 1) (ret := (some .boolean)) (by decide) rfl ?_
  intro p e s m args below meth c s₁ B hml hv
  obtain ⟨rfl, -⟩ := hv
  have hx := B.exec
  have hb := B.bytes
  have hr := B.returns
  have hlocks := B.notSynchronized
  have hts : ∀ w ∈ tg, w.before ([.int (x)] : List Value).toArray s = true := fun w h => atoms_spec (ws := qX11_isBank) B.pre w (List.mem_cons_of_mem _ h)
  have hown : s.vm.findClass RX11 = some m.cls := findClass_of_methodNamed B.named
  have hl := lv_entry ([.int (x)]) (n := 1) (Nat.le_of_ble_eq_true rfl)
  rw [lg_entry_eq]
  generalize (lg_sl ([.int (x)]) ++ List.replicate (1 - (lg_sl ([.int (x)])).length) Slot.unset).toArray = ls at hl ⊢
  have hl : lv_has ls 1 [(0, .int (x))] := hl
  refine lv_iload_n hx hb dX11_isBank_0 rfl (lv_at hl 0 rfl) ?_
  refine lv_iconst (v := nI 0) hx hb dX11_isBank_1 (by decide) ?_
  refine lv_iconst (v := nI 1) hx hb dX11_isBank_2 (by decide) ?_
  refine cr_s (n := 3) (As := [.int (x), .int (nI (0)), .int (nI (1))]) (rest := []) ⟨hx, hb, hml, hown, hts⟩ (k_X11_in l (x) (nI (0)) (nI (1))) gsX11_51 (by decide +kernel) ⟨Nat.le_of_ble_eq_true rfl, Nat.le_of_ble_eq_true rfl⟩ rfl hl.1 rfl (Nat.le_of_ble_eq_true rfl) dX11_isBank_3 ⟨Nat.zero_le _, Nat.zero_le _⟩ ?_
  exact rt_z hx hb hr hlocks (ix_le (n := 2) (by decide) x) dX11_isBank_6
set_option maxHeartbeats 4000000 in
set_option maxRecDepth 100000 in
theorem k_X11_poundsOf (l : Launch) (D : va_G) (cy : Nat → ClassId) (ad : Nat → Nat) (σ : Sg) (T : Ms) (t h : Nat) (ht : t < 8) (hh : h < 2 ^ 31) : MR l yX11_poundsOf qX11_poundsOf 1 [.ref (ad 0), .int (nI (t)), .int (nI (h))] D cy (mw cy ad σ T) (nI (pd σ h t)) := by
  refine Met.ofW (cc := cX11_poundsOf) (maxL := 3) (ret := (some .int)) (by decide) rfl ?_
  intro p e s m args below meth c s₁ B hml hv
  obtain ⟨rfl, hP, hK, hN⟩ := hv
  have hx := B.exec
  have hb := B.bytes
  have hr := B.returns
  have hlocks := B.notSynchronized
  have hts : ∀ w ∈ tg, w.before ([.ref (ad 0), .int (nI (t)), .int (nI (h))] : List Value).toArray s = true := fun w h => atoms_spec (ws := qX11_poundsOf) B.pre w (List.mem_cons_of_mem _ h)
  have hown : s.vm.findClass RX11 = some m.cls := findClass_of_methodNamed B.named
  have hl := lv_entry ([.ref (ad 0), .int (nI (t)), .int (nI (h))]) (n := 3) (Nat.le_of_ble_eq_true rfl)
  rw [lg_entry_eq]
  generalize (lg_sl ([.ref (ad 0), .int (nI (t)), .int (nI (h))]) ++ List.replicate (3 - (lg_sl ([.ref (ad 0), .int (nI (t)), .int (nI (h))])).length) Slot.unset).toArray = ls at hl ⊢
  have hl : lv_has ls 3 [(0, .ref (ad 0)), (1, .int (nI (t))), (2, .int (nI (h)))] := hl
  refine lv_aload_n hx hb dX11_poundsOf_0 rfl (lv_at hl 0 rfl) ?_
  refine va_get (D := D) (ci := 10) (v := .ref (ad 1)) (C := RX11) (T := TX11) (N := 31) hx hb hts ni11 hown hK hP 0 (mw_c0 cy ad σ T) rfl 1 (by decide) (hts _ flX11_7) (fun _ h => h) rfl dX11_poundsOf_1 ?_
  refine lv_bipush (v := nI 6) hx hb dX11_poundsOf_4 (by decide) ?_
  refine lv_iload_n hx hb dX11_poundsOf_6 rfl (lv_at hl 1 rfl) ?_
  refine ln_imul hx hb dX11_poundsOf_7 ?_
  refine lv_iconst (v := nI 1) hx hb dX11_poundsOf_8 (by decide) ?_
  refine ln_iadd hx hb dX11_poundsOf_9 ?_
  refine ln_iald (v := (nI (s_th σ ((6 * t) + 1)))) hx hb hK hP 1 (mw_c1 cy ad σ T) (by omega) (by decide) rfl dX11_poundsOf_10 ?_
  refine lv_iload_n hx hb dX11_poundsOf_11 rfl (lv_at hl 2 rfl) ?_
  refine lv_iload_n hx hb dX11_poundsOf_12 rfl (lv_at hl 1 rfl) ?_
  refine cr_s (n := 2) (As := [.int (nI (h)), .int (nI (t))]) (rest := [.int (nI (s_th σ ((6 * t) + 1)))]) ⟨hx, hb, hml, hown, hts⟩ (k_X11_has l h t (by omega) (by omega)) gsX11_173 (by decide +kernel) ⟨Nat.le_of_ble_eq_true rfl, Nat.le_of_ble_eq_true rfl⟩ rfl hl.1 rfl (Nat.le_of_ble_eq_true rfl) dX11_poundsOf_13 ⟨Nat.zero_le _, Nat.zero_le _⟩ ?_
  refine lb_if_eq (tgt := 23) hx hb dX11_poundsOf_16 (by decide) (fun c16 => ?_) (fun c16 => ?_)
  · refine lv_aload_n hx hb dX11_poundsOf_23 rfl (lv_at hl 0 rfl) ?_
    refine va_get (D := D) (ci := 10) (v := .ref (ad 1)) (C := RX11) (T := TX11) (N := 31) hx hb hts ni11 hown hK hP 0 (mw_c0 cy ad σ T) rfl 1 (by decide) (hts _ flX11_7) (fun _ h => h) rfl dX11_poundsOf_24 ?_
    refine lv_bipush (v := nI 6) hx hb dX11_poundsOf_27 (by decide) ?_
    refine lv_iload_n hx hb dX11_poundsOf_29 rfl (lv_at hl 1 rfl) ?_
    refine ln_imul hx hb dX11_poundsOf_30 ?_
    refine lv_iconst (v := nI 3) hx hb dX11_poundsOf_31 (by decide) ?_
    refine ln_iadd hx hb dX11_poundsOf_32 ?_
    refine ln_iald (v := (nI (s_th σ ((6 * t) + 3)))) hx hb hK hP 1 (mw_c1 cy ad σ T) (by omega) (by decide) rfl dX11_poundsOf_33 ?_
    refine ln_iadd hx hb dX11_poundsOf_34 ?_
    exact rt_i hx hb hr hlocks (congrArg nI (by unfold pd; simp [c16])) dX11_poundsOf_35
  · refine lv_iconst (v := nI 0) hx hb dX11_poundsOf_19 (by decide) ?_
    refine lv_goto (tgt := 34) hx hb dX11_poundsOf_20 (by decide) ?_
    refine ln_iadd hx hb dX11_poundsOf_34 ?_
    exact rt_i hx hb hr hlocks (congrArg nI (by unfold pd; simp [c16])) dX11_poundsOf_35
end
section
theorem bits_step (x i : Nat) : sumN (fun k => (x.testBit k).toNat) i + (x / 2 ^ i &&& 1) = sumN (fun k => (x.testBit k).toNat) (i + 1) := by rw [bit_and]; rfl
theorem sum_t {f g : Nat → Nat} {p : Nat → Bool} {i a : Nat} (c : p i = true) (h : g i = a) : sumN (fun t => if p t then g t else 0) i + a = sumN (fun t => if p t then g t else 0) (i + 1) := by rw [sumN, if_pos c, h]
theorem sum_f {g : Nat → Nat} {p : Nat → Bool} {i : Nat} (c : p i = false) : sumN (fun t => if p t then g t else 0) i + 0 = sumN (fun t => if p t then g t else 0) (i + 1) := by rw [sumN, c]; rfl
theorem sumb {n i : Nat} {f : Nat → Nat} (h : ∀ k, k < 8 → f k ≤ 108) (hi : i ≤ n) (hn : n ≤ 8) : sumN f i ≤ 864 := by
  have h1 : sumN f i ≤ i * 108 := sumN_le (fun k hk => h k (by omega))
  omega
theorem xorm1 (x : Nat) (h : x < 2 ^ 31) : nI x ^^^ (-1) = nI (x ^^^ (2 ^ 32 - 1)) := nI_xor x (2 ^ 32 - 1)
theorem and_not_0 {a b : Nat} (ha : a < 2 ^ 31) : (a &&& (b ^^^ (2 ^ 32 - 1)) = 0) ↔ (a &&& b = a) := by
  constructor
  · intro h
    apply Nat.eq_of_testBit_eq
    intro i
    have h1 : (a &&& (b ^^^ (2 ^ 32 - 1))).testBit i = false := by rw [h]; exact Nat.zero_testBit i
    rw [Nat.testBit_and, Nat.testBit_xor, Nat.testBit_two_pow_sub_one] at h1
    rw [Nat.testBit_and]
    by_cases hi : i < 32
    · rw [decide_eq_true hi] at h1
      cases ha2 : a.testBit i <;> cases hb2 : b.testBit i <;> simp_all
    · have : a.testBit i = false := Nat.testBit_lt_two_pow (Nat.lt_of_lt_of_le ha (Nat.pow_le_pow_right (by decide) (by omega)))
      rw [this]; rfl
  · intro h
    apply Nat.eq_of_testBit_eq
    intro i
    have h1 : (a &&& b).testBit i = a.testBit i := by rw [h]
    rw [Nat.testBit_and] at h1
    rw [Nat.zero_testBit, Nat.testBit_and, Nat.testBit_xor, Nat.testBit_two_pow_sub_one]
    by_cases hi : i < 32
    · rw [decide_eq_true hi]
      cases ha2 : a.testBit i <;> cases hb2 : b.testBit i <;> simp_all
    · have : a.testBit i = false := Nat.testBit_lt_two_pow (Nat.lt_of_lt_of_le ha (Nat.pow_le_pow_right (by decide) (by omega)))
      rw [this]; rfl
theorem and_lt {a b n : Nat} (h : a < n) : a &&& b < n := Nat.lt_of_le_of_lt Nat.and_le_left h
set_option maxHeartbeats 4000000 in
set_option maxRecDepth 100000 in
theorem k_X11_bits (l : Launch)  (x : Nat) (h1 : x < 2 ^ 31) : MS l yX11_bits qX11_bits 0 [.int (nI (x))] (nI (bits x)) := by
  refine Met.ofW (cc := cX11_bits) (maxL := 3) (ret := (some .int)) (by decide) rfl ?_
  intro p e s m args below meth c s₁ B hml hv
  obtain ⟨rfl, -⟩ := hv
  have hx := B.exec
  have hb := B.bytes
  have hr := B.returns
  have hlocks := B.notSynchronized
  have hts : ∀ w ∈ tg, w.before ([.int (nI (x))] : List Value).toArray s = true := fun w h => atoms_spec (ws := qX11_bits) B.pre w (List.mem_cons_of_mem _ h)
  have hown : s.vm.findClass RX11 = some m.cls := findClass_of_methodNamed B.named
  have hl := lv_entry ([.int (nI (x))]) (n := 3) (Nat.le_of_ble_eq_true rfl)
  rw [lg_entry_eq]
  generalize (lg_sl ([.int (nI (x))]) ++ List.replicate (3 - (lg_sl ([.int (nI (x))])).length) Slot.unset).toArray = ls at hl ⊢
  have hl : lv_has ls 3 [(0, .int (nI (x)))] := hl
  refine lv_iconst (v := nI 0) hx hb dX11_bits_0 (by decide) ?_
  refine lv_istore_n (lv' := [(1, .int (nI (0))), (0, .int (nI (x)))]) hx hb dX11_bits_1 rfl hl (by decide) rfl (fun ls hl => ?_)
  refine lv_iconst (v := nI 0) hx hb dX11_bits_2 (by decide) ?_
  refine lv_istore_n (lv' := [(2, .int (nI (0))), (1, .int (nI (0))), (0, .int (nI (x)))]) hx hb dX11_bits_3 rfl hl (by decide) rfl (fun ls hl => ?_)
  have loop : ∀ (k i : Nat) (ls : Array Slot), i + k = 8 →  lv_has ls 3 [(2, .int (nI (i))), (1, .int (nI (sumN (fun k => (x.testBit k).toNat) i))), (0, .int (nI (x)))] → W p l e (headSpec qX11_bits (rq 0)).room s m ([.int (nI (x))] : List Value).toArray below meth c s.heap [] 0 0 (MQ below (vp_Si (fun r => r = nI (bits x))) ([.int (nI (x))] : List Value).toArray s 0 0 (fun _ => False)) (F0 m 4 ls []) := by
    intro k
    induction k with
    | zero =>
      intro i ls hi hl
      refine lv_iload_n hx hb dX11_bits_4 rfl (lv_at hl 0 rfl) ?_
      refine lv_bipush (v := nI 8) hx hb dX11_bits_5 (by decide) ?_
      refine ln_icmp_ge (tgt := 24) hx hb dX11_bits_7 (by decide) (by omega) (by omega) (fun c7 => ?_) (fun c7 => ?_)
      · refine lv_iload_n hx hb dX11_bits_24 rfl (lv_at hl 1 rfl) ?_
        exact rt_i hx hb hr hlocks (by rw [show i = 8 by omega]; rfl) dX11_bits_25
      · exact absurd c7 (by omega)
    | succ k ih =>
      intro i ls hi hl
      refine lv_iload_n hx hb dX11_bits_4 rfl (lv_at hl 0 rfl) ?_
      refine lv_bipush (v := nI 8) hx hb dX11_bits_5 (by decide) ?_
      refine ln_icmp_ge (tgt := 24) hx hb dX11_bits_7 (by decide) (by omega) (by omega) (fun c7 => ?_) (fun c7 => ?_)
      · exact absurd c7 (by omega)
      · refine lv_iload_n hx hb dX11_bits_10 rfl (lv_at hl 1 rfl) ?_
        refine lv_iload_n hx hb dX11_bits_11 rfl (lv_at hl 2 rfl) ?_
        refine lv_iload_n hx hb dX11_bits_12 rfl (lv_at hl 0 rfl) ?_
        refine ln_ishr hx hb dX11_bits_13 (by omega) (by omega) ?_
        refine lv_iconst (v := nI 1) hx hb dX11_bits_14 (by decide) ?_
        refine ln_iand hx hb dX11_bits_15 ?_
        refine ln_iadd hx hb dX11_bits_16 ?_
        refine ln_nat (show (sumN (fun k => (x.testBit k).toNat) i) + ((x / 2 ^ i) &&& 1) = sumN (fun k => (x.testBit k).toNat) (i + 1) from bits_step x i) ?_
        refine lv_istore_n (lv' := [(1, .int (nI (sumN (fun k => (x.testBit k).toNat) (i + 1)))), (2, .int (nI (i))), (0, .int (nI (x)))]) hx hb dX11_bits_17 rfl hl (by decide) rfl (fun ls hl => ?_)
        refine ln_iinc (lv' := [(2, .int (nI (i + 1))), (1, .int (nI (sumN (fun k => (x.testBit k).toNat) (i + 1)))), (0, .int (nI (x)))]) hx hb dX11_bits_18 hl (k := 1) (n := 1) rfl (by decide) rfl (fun ls hl => ?_)
        refine lv_goto (tgt := 4) hx hb dX11_bits_21 (by decide) ?_
        exact ih (i + 1) ls (by omega)  (lv_sub hl [0, 1, 2] rfl)
  exact loop (8 - 0) 0 ls (by omega)  (lv_sub hl [0, 1, 2] rfl)
set_option maxHeartbeats 4000000 in
set_option maxRecDepth 100000 in
theorem k_X11_poundsOfAll (l : Launch) (D : va_G) (cy : Nat → ClassId) (ad : Nat → Nat) (σ : Sg) (T : Ms) (x h : Nat) (hw : wfS σ) (h1 : x < 2 ^ 31) (h2 : h < 2 ^ 31) : MR l yX11_poundsOfAll qX11_poundsOfAll 2 [.ref (ad 0), .int (nI (x)), .int (nI (h))] D cy (mw cy ad σ T) (nI (pdA σ x h)) := by
  refine Met.ofW (cc := cX11_poundsOfAll) (maxL := 5) (ret := (some .int)) (by decide) rfl ?_
  intro p e s m args below meth c s₁ B hml hv
  obtain ⟨rfl, hP, hK, hN⟩ := hv
  have hx := B.exec
  have hb := B.bytes
  have hr := B.returns
  have hlocks := B.notSynchronized
  have hts : ∀ w ∈ tg, w.before ([.ref (ad 0), .int (nI (x)), .int (nI (h))] : List Value).toArray s = true := fun w h => atoms_spec (ws := qX11_poundsOfAll) B.pre w (List.mem_cons_of_mem _ h)
  have hown : s.vm.findClass RX11 = some m.cls := findClass_of_methodNamed B.named
  have hl := lv_entry ([.ref (ad 0), .int (nI (x)), .int (nI (h))]) (n := 5) (Nat.le_of_ble_eq_true rfl)
  rw [lg_entry_eq]
  generalize (lg_sl ([.ref (ad 0), .int (nI (x)), .int (nI (h))]) ++ List.replicate (5 - (lg_sl ([.ref (ad 0), .int (nI (x)), .int (nI (h))])).length) Slot.unset).toArray = ls at hl ⊢
  have hl : lv_has ls 5 [(0, .ref (ad 0)), (1, .int (nI (x))), (2, .int (nI (h)))] := hl
  have hw1 := hw.1
  refine lv_iconst (v := nI 0) hx hb dX11_poundsOfAll_0 (by decide) ?_
  refine lv_istore_n (lv' := [(3, .int (nI (0))), (0, .ref (ad 0)), (1, .int (nI (x))), (2, .int (nI (h)))]) hx hb dX11_poundsOfAll_1 rfl hl (by decide) rfl (fun ls hl => ?_)
  refine lv_iconst (v := nI 0) hx hb dX11_poundsOfAll_2 (by decide) ?_
  refine lv_istore (lv' := [(4, .int (nI (0))), (3, .int (nI (0))), (0, .ref (ad 0)), (1, .int (nI (x))), (2, .int (nI (h)))]) hx hb dX11_poundsOfAll_3 hl (by decide) rfl (fun ls hl => ?_)
  have loop : ∀ (k i : Nat) (ls : Array Slot), i + k = s_n σ →  lv_has ls 5 [(4, .int (nI (i))), (3, .int (nI (sumN (fun t => if x.testBit t then pd σ h t else 0) i))), (0, .ref (ad 0)), (1, .int (nI (x))), (2, .int (nI (h)))] → W p l e (headSpec qX11_poundsOfAll (rq 2)).room s m ([.ref (ad 0), .int (nI (x)), .int (nI (h))] : List Value).toArray below meth c s.heap [] 0 0 (MQ below (vp_Si (fun r => r = nI (pdA σ x h))) ([.ref (ad 0), .int (nI (x)), .int (nI (h))] : List Value).toArray s 0 0 (fun _ => False)) (F0 m 5 ls []) := by
    intro k
    induction k with
    | zero =>
      intro i ls hi hl
      refine lv_iload hx hb dX11_poundsOfAll_5 (lv_at hl 0 rfl) ?_
      refine lv_aload_n hx hb dX11_poundsOfAll_7 rfl (lv_at hl 2 rfl) ?_
      refine va_get (D := D) (ci := 10) (v := .int (nI (s_n σ))) (C := RX11) (T := TX11) (N := 31) hx hb hts ni11 hown hK hP 0 (mw_c0 cy ad σ T) rfl 0 (by decide) (hts _ flX11_47) (fun _ h => h) rfl dX11_poundsOfAll_8 ?_
      refine ln_icmp_ge (tgt := 43) hx hb dX11_poundsOfAll_11 (by decide) (by omega) (by omega) (fun c11 => ?_) (fun c11 => ?_)
      · refine lv_iload_n hx hb dX11_poundsOfAll_43 rfl (lv_at hl 1 rfl) ?_
        exact rt_i hx hb hr hlocks (by rw [show i = s_n σ by omega]; rfl) dX11_poundsOfAll_44
      · exact absurd c11 (by omega)
    | succ k ih =>
      intro i ls hi hl
      refine lv_iload hx hb dX11_poundsOfAll_5 (lv_at hl 0 rfl) ?_
      refine lv_aload_n hx hb dX11_poundsOfAll_7 rfl (lv_at hl 2 rfl) ?_
      refine va_get (D := D) (ci := 10) (v := .int (nI (s_n σ))) (C := RX11) (T := TX11) (N := 31) hx hb hts ni11 hown hK hP 0 (mw_c0 cy ad σ T) rfl 0 (by decide) (hts _ flX11_47) (fun _ h => h) rfl dX11_poundsOfAll_8 ?_
      refine ln_icmp_ge (tgt := 43) hx hb dX11_poundsOfAll_11 (by decide) (by omega) (by omega) (fun c11 => ?_) (fun c11 => ?_)
      · exact absurd c11 (by omega)
      · refine lv_iload_n hx hb dX11_poundsOfAll_14 rfl (lv_at hl 1 rfl) ?_
        refine lv_iload_n hx hb dX11_poundsOfAll_15 rfl (lv_at hl 3 rfl) ?_
        refine lv_iload hx hb dX11_poundsOfAll_16 (lv_at hl 0 rfl) ?_
        refine cr_s (n := 2) (As := [.int (nI (x)), .int (nI (i))]) (rest := [.int (nI (sumN (fun t => if x.testBit t then pd σ h t else 0) i))]) ⟨hx, hb, hml, hown, hts⟩ (k_X11_has l x i (by omega) (by omega)) gsX11_173 (by decide +kernel) ⟨Nat.le_of_ble_eq_true rfl, Nat.le_of_ble_eq_true rfl⟩ rfl hl.1 rfl (Nat.le_of_ble_eq_true rfl) dX11_poundsOfAll_18 ⟨Nat.zero_le _, Nat.zero_le _⟩ ?_
        refine lb_if_eq (tgt := 34) hx hb dX11_poundsOfAll_21 (by decide) (fun c21 => ?_) (fun c21 => ?_)
        · refine lv_iconst (v := nI 0) hx hb dX11_poundsOfAll_34 (by decide) ?_
          refine ln_iadd hx hb dX11_poundsOfAll_35 ?_
          refine ln_nat (show (sumN (fun t => if x.testBit t then pd σ h t else 0) i) + 0 = sumN (fun t => if x.testBit t then pd σ h t else 0) (i + 1) from by first | exact sum_t (f := fun _ => 0) c21 rfl | exact sum_f c21) ?_
          refine lv_istore_n (lv' := [(3, .int (nI (sumN (fun t => if x.testBit t then pd σ h t else 0) (i + 1)))), (4, .int (nI (i))), (0, .ref (ad 0)), (1, .int (nI (x))), (2, .int (nI (h)))]) hx hb dX11_poundsOfAll_36 rfl hl (by decide) rfl (fun ls hl => ?_)
          refine ln_iinc (lv' := [(4, .int (nI (i + 1))), (3, .int (nI (sumN (fun t => if x.testBit t then pd σ h t else 0) (i + 1)))), (0, .ref (ad 0)), (1, .int (nI (x))), (2, .int (nI (h)))]) hx hb dX11_poundsOfAll_37 hl (k := 1) (n := 1) rfl (by decide) rfl (fun ls hl => ?_)
          refine lv_goto (tgt := 5) hx hb dX11_poundsOfAll_40 (by decide) ?_
          exact ih (i + 1) ls (by omega)  (lv_sub hl [0, 1, 2, 3, 4] rfl)
        · refine lv_aload_n hx hb dX11_poundsOfAll_24 rfl (lv_at hl 2 rfl) ?_
          refine lv_iload hx hb dX11_poundsOfAll_25 (lv_at hl 0 rfl) ?_
          refine lv_iload_n hx hb dX11_poundsOfAll_27 rfl (lv_at hl 4 rfl) ?_
          refine cr_v (n := 2) (As := [.int (nI (i)), .int (nI (h))]) (rest := [.int (nI (sumN (fun t => if x.testBit t then pd σ h t else 0) i))]) ⟨hx, hb, hml, hown, hts⟩ (k_X11_poundsOf l D cy ad σ T i h (by omega) (by omega)) gvX11_180 (by decide +kernel) ⟨Nat.le_of_ble_eq_true rfl, Nat.le_of_ble_eq_true rfl⟩ hK hN hP 0 (mw_c0 cy ad σ T) rfl rfl hl.1 rfl (Nat.le_of_ble_eq_true rfl) dX11_poundsOfAll_28 ⟨Nat.zero_le _, Nat.zero_le _⟩ ?_
          refine lv_goto (tgt := 35) hx hb dX11_poundsOfAll_31 (by decide) ?_
          refine ln_iadd hx hb dX11_poundsOfAll_35 ?_
          refine ln_nat (show (sumN (fun t => if x.testBit t then pd σ h t else 0) i) + (pd σ h i) = sumN (fun t => if x.testBit t then pd σ h t else 0) (i + 1) from by first | exact sum_t (f := fun _ => 0) c21 rfl | exact sum_f c21) ?_
          refine lv_istore_n (lv' := [(3, .int (nI (sumN (fun t => if x.testBit t then pd σ h t else 0) (i + 1)))), (4, .int (nI (i))), (0, .ref (ad 0)), (1, .int (nI (x))), (2, .int (nI (h)))]) hx hb dX11_poundsOfAll_36 rfl hl (by decide) rfl (fun ls hl => ?_)
          refine ln_iinc (lv' := [(4, .int (nI (i + 1))), (3, .int (nI (sumN (fun t => if x.testBit t then pd σ h t else 0) (i + 1)))), (0, .ref (ad 0)), (1, .int (nI (x))), (2, .int (nI (h)))]) hx hb dX11_poundsOfAll_37 hl (k := 1) (n := 1) rfl (by decide) rfl (fun ls hl => ?_)
          refine lv_goto (tgt := 5) hx hb dX11_poundsOfAll_40 (by decide) ?_
          exact ih (i + 1) ls (by omega)  (lv_sub hl [0, 1, 2, 3, 4] rfl)
  exact loop (s_n σ - 0) 0 ls (by omega)  (lv_sub hl [0, 1, 2, 3, 4] rfl)
theorem any_t1 {p : Nat → Bool} {i : Nat} (h : anyN p i = true) : nI 1 = bI (anyN p (i + 1)) := by rw [anyN, h]; rfl
theorem any_t2 {p : Nat → Bool} {i : Nat} (h : p i = true) : nI 1 = bI (anyN p (i + 1)) := by rw [anyN, h, Bool.or_true]; rfl
theorem any_f {p : Nat → Bool} {i : Nat} (h : anyN p i = false) (h2 : p i = false) : nI 0 = bI (anyN p (i + 1)) := by rw [anyN, h, h2]; rfl
theorem board_f0 {σ : Sg} {f x th bo i : Nat} (hi : i = s_n σ) (h : anyN (fun t => x.testBit t && decide (s_th σ (6 * t) = 0)) i = false) : false = board σ f x th bo := by
  subst hi
  have h2 : hasP σ x = false := h
  rw [board, h2]; rfl
theorem board_1 {σ : Sg} {f x th bo i : Nat} (hi : i = s_n σ) (h : anyN (fun t => x.testBit t && decide (s_th σ (6 * t) = 0)) i = true) (c : bo.testBit f = true) (h1 : x < 2 ^ 31) (h3 : x &&& (th ^^^ (2 ^ 32 - 1)) = 0) : true = board σ f x th bo := by
  subst hi
  have h2 : hasP σ x = true := h
  rw [board, h2, onB, c, (and_not_0 h1).mp h3]; simp
theorem board_2 {σ : Sg} {f x th bo : Nat} (c : bo.testBit f = true) (h1 : x < 2 ^ 31) (h3 : 0 < x &&& (th ^^^ (2 ^ 32 - 1))) : false = board σ f x th bo := by
  have h4 : ¬ x &&& th = x := fun q => by rw [(and_not_0 h1).mpr q] at h3; exact absurd h3 (by decide)
  rw [board, onB, c]; simp [h4]
theorem board_3 {σ : Sg} {f x th bo i : Nat} (hi : i = s_n σ) (h : anyN (fun t => x.testBit t && decide (s_th σ (6 * t) = 0)) i = true) (c : bo.testBit f = false) (h3 : x &&& th = 0) : true = board σ f x th bo := by
  subst hi
  have h2 : hasP σ x = true := h
  rw [board, h2, onB, c, h3]; simp
theorem board_4 {σ : Sg} {f x th bo : Nat} (c : bo.testBit f = false) (h3 : 0 < x &&& th) : false = board σ f x th bo := by
  have h4 : ¬ x &&& th = 0 := by omega
  rw [board, onB, c]; simp [h4]
theorem sub_toInt {a b : Nat} (ha : a < 2 ^ 30) (hb : b < 2 ^ 30) : (nI a - nI b).toInt = (a : Int) - b := pk_sub_toInt ha hb
theorem abs_p {a b : Nat} (ha : a < 2 ^ 30) (hb : b < 2 ^ 30) (h : 0 ≤ nI a - nI b) : nI a - nI b = nI (adif a b) := by
  rw [Int32.le_iff_toInt_le, sub_toInt ha hb] at h
  have h0 : (0 : Int32).toInt = 0 := rfl
  rw [h0] at h
  rw [pk_sub (by omega), adif, if_neg (by omega)]
theorem abs_n {a b : Nat} (ha : a < 2 ^ 30) (hb : b < 2 ^ 30) (h : ¬ 0 ≤ nI a - nI b) : -(nI a - nI b) = nI (adif a b) := by
  rw [Int32.le_iff_toInt_le, sub_toInt ha hb] at h
  have h0 : (0 : Int32).toInt = 0 := rfl
  rw [h0] at h
  rw [Int32.neg_sub, pk_sub (by omega), adif, if_pos (by omega)]
theorem adif_lt {a b c : Nat} (ha : a < c) (hb : b < c) : adif a b < c := by unfold adif; split <;> omega
theorem rev3_lt {x : Nat} (h : x ≤ 999) : rev3 x ≤ 999 := by unfold rev3; split; omega; split <;> omega
theorem numN_lt {σ : Sg} (hw : wfS σ) {f : Nat} (hf : f < 3) : numN σ f ≤ 999 := by
  have h := hw.2.2.2.1 f hf
  unfold numN
  split
  · omega
  · exact rev3_lt h.2.1
set_option maxHeartbeats 4000000 in
set_option maxRecDepth 100000 in
theorem k_X11_numberOf (l : Launch) (D : va_G) (cy : Nat → ClassId) (ad : Nat → Nat) (σ : Sg) (T : Ms) (f : Nat) (hw : wfS σ) (hf : f < 3) : MR l yX11_numberOf qX11_numberOf 0 [.ref (ad 0), .int (nI (f))] D cy (mw cy ad σ T) (nI (numN σ f)) := by
  refine Met.ofW (cc := cX11_numberOf) (maxL := 4) (ret := (some .int)) (by decide) rfl ?_
  intro p e s m args below meth c s₁ B hml hv
  obtain ⟨rfl, hP, hK, hN⟩ := hv
  have hx := B.exec
  have hb := B.bytes
  have hr := B.returns
  have hlocks := B.notSynchronized
  have hts : ∀ w ∈ tg, w.before ([.ref (ad 0), .int (nI (f))] : List Value).toArray s = true := fun w h => atoms_spec (ws := qX11_numberOf) B.pre w (List.mem_cons_of_mem _ h)
  have hown : s.vm.findClass RX11 = some m.cls := findClass_of_methodNamed B.named
  have hl := lv_entry ([.ref (ad 0), .int (nI (f))]) (n := 4) (Nat.le_of_ble_eq_true rfl)
  rw [lg_entry_eq]
  generalize (lg_sl ([.ref (ad 0), .int (nI (f))]) ++ List.replicate (4 - (lg_sl ([.ref (ad 0), .int (nI (f))])).length) Slot.unset).toArray = ls at hl ⊢
  have hl : lv_has ls 4 [(0, .ref (ad 0)), (1, .int (nI (f)))] := hl
  have hk := hw.2.2.2.1 f hf
  refine lv_aload_n hx hb dX11_numberOf_0 rfl (lv_at hl 0 rfl) ?_
  refine va_get (D := D) (ci := 10) (v := .ref (ad 2)) (C := RX11) (T := TX11) (N := 31) hx hb hts ni11 hown hK hP 0 (mw_c0 cy ad σ T) rfl 3 (by decide) (hts _ flX11_13) (fun _ h => h) rfl dX11_numberOf_1 ?_
  refine lv_iconst (v := nI 5) hx hb dX11_numberOf_4 (by decide) ?_
  refine lv_iload_n hx hb dX11_numberOf_5 rfl (lv_at hl 1 rfl) ?_
  refine ln_imul hx hb dX11_numberOf_6 ?_
  refine lv_iconst (v := nI 1) hx hb dX11_numberOf_7 (by decide) ?_
  refine ln_iadd hx hb dX11_numberOf_8 ?_
  refine ln_iald (v := (nI (s_fe σ ((5 * f) + 1)))) hx hb hK hP 2 (mw_c2 cy ad σ T) (by omega) (by decide) rfl dX11_numberOf_9 ?_
  refine lv_istore_n (lv' := [(2, .int (nI (s_fe σ ((5 * f) + 1)))), (0, .ref (ad 0)), (1, .int (nI (f)))]) hx hb dX11_numberOf_10 rfl hl (by decide) rfl (fun ls hl => ?_)
  refine lv_aload_n hx hb dX11_numberOf_11 rfl (lv_at hl 1 rfl) ?_
  refine va_get (D := D) (ci := 10) (v := .ref (ad 2)) (C := RX11) (T := TX11) (N := 31) hx hb hts ni11 hown hK hP 0 (mw_c0 cy ad σ T) rfl 3 (by decide) (hts _ flX11_13) (fun _ h => h) rfl dX11_numberOf_12 ?_
  refine lv_iconst (v := nI 5) hx hb dX11_numberOf_15 (by decide) ?_
  refine lv_iload_n hx hb dX11_numberOf_16 rfl (lv_at hl 2 rfl) ?_
  refine ln_imul hx hb dX11_numberOf_17 ?_
  refine ln_iald (v := (nI (s_fe σ (5 * f)))) hx hb hK hP 2 (mw_c2 cy ad σ T) (by omega) (by decide) rfl dX11_numberOf_18 ?_
  refine lv_iconst (v := nI 2) hx hb dX11_numberOf_19 (by decide) ?_
  refine ln_icmp_lt (tgt := 30) hx hb dX11_numberOf_20 (by decide) (by omega) (by omega) (fun c20 => ?_) (fun c20 => ?_)
  · refine lv_iload_n hx hb dX11_numberOf_30 rfl (lv_at hl 0 rfl) ?_
    exact rt_i hx hb hr hlocks (congrArg nI (by unfold numN; first | (rw [if_pos (Or.inl c20)]; done) | (rw [if_pos (Or.inr c27)]; done) | (rw [if_neg (by rintro (q | q); omega; rw [q] at c27; cases c27)]; unfold rev3; split; omega; split <;> omega))) dX11_numberOf_31
  · refine lv_aload_n hx hb dX11_numberOf_23 rfl (lv_at hl 1 rfl) ?_
    refine va_get (D := D) (ci := 10) (v := .int (bI (s_la σ))) (C := RX11) (T := TX11) (N := 31) hx hb hts ni11 hown hK hP 0 (mw_c0 cy ad σ T) rfl 20 (by decide) (hts _ flX11_164) (fun _ h => h) rfl dX11_numberOf_24 ?_
    refine lb_if_ne (tgt := 32) hx hb dX11_numberOf_27 (by decide) (fun c27 => ?_) (fun c27 => ?_)
    · refine lv_iconst (v := nI 0) hx hb dX11_numberOf_32 (by decide) ?_
      refine lv_istore_n (lv' := [(3, .int (nI (0))), (2, .int (nI (s_fe σ ((5 * f) + 1)))), (0, .ref (ad 0)), (1, .int (nI (f)))]) hx hb dX11_numberOf_33 rfl hl (by decide) rfl (fun ls hl => ?_)
      refine lv_iload_n hx hb dX11_numberOf_34 rfl (lv_at hl 1 rfl) ?_
      refine ln_if_le (tgt := 56) hx hb dX11_numberOf_35 (by decide) (by omega) (fun c35 => ?_) (fun c35 => ?_)
      · have e0 := c35
        refine lv_iload_n hx hb dX11_numberOf_56 rfl (lv_at hl 0 rfl) ?_
        exact rt_i hx hb hr hlocks (congrArg nI (by unfold numN; first | (rw [if_pos (Or.inl c20)]; done) | (rw [if_pos (Or.inr c27)]; done) | (rw [if_neg (by rintro (q | q); omega; rw [q] at c27; cases c27)]; unfold rev3; split; omega; split <;> omega))) dX11_numberOf_57
      · have e0 := c35
        refine lv_bipush (v := nI 10) hx hb dX11_numberOf_38 (by decide) ?_
        refine lv_iload_n hx hb dX11_numberOf_40 rfl (lv_at hl 0 rfl) ?_
        refine ln_imul hx hb dX11_numberOf_41 ?_
        refine lv_iload_n hx hb dX11_numberOf_42 rfl (lv_at hl 1 rfl) ?_
        refine lv_bipush (v := nI 10) hx hb dX11_numberOf_43 (by decide) ?_
        refine ln_irem hx hb dX11_numberOf_45 (by omega) (by omega) (by omega) ?_
        refine ln_iadd hx hb dX11_numberOf_46 ?_
        refine lv_istore_n (lv' := [(3, .int (nI ((10 * 0) + ((s_fe σ ((5 * f) + 1)) % 10)))), (2, .int (nI (s_fe σ ((5 * f) + 1)))), (0, .ref (ad 0)), (1, .int (nI (f)))]) hx hb dX11_numberOf_47 rfl hl (by decide) rfl (fun ls hl => ?_)
        refine lv_iload_n hx hb dX11_numberOf_48 rfl (lv_at hl 1 rfl) ?_
        refine lv_bipush (v := nI 10) hx hb dX11_numberOf_49 (by decide) ?_
        refine ln_idiv hx hb dX11_numberOf_51 (by omega) (by omega) (by omega) ?_
        refine lv_istore_n (lv' := [(2, .int (nI ((s_fe σ ((5 * f) + 1)) / 10))), (3, .int (nI ((10 * 0) + ((s_fe σ ((5 * f) + 1)) % 10)))), (0, .ref (ad 0)), (1, .int (nI (f)))]) hx hb dX11_numberOf_52 rfl hl (by decide) rfl (fun ls hl => ?_)
        refine lv_goto (tgt := 34) hx hb dX11_numberOf_53 (by decide) ?_
        refine lv_iload_n hx hb dX11_numberOf_34 rfl (lv_at hl 0 rfl) ?_
        refine ln_if_le (tgt := 56) hx hb dX11_numberOf_35 (by decide) (by omega) (fun c35 => ?_) (fun c35 => ?_)
        · have e1 := c35
          refine lv_iload_n hx hb dX11_numberOf_56 rfl (lv_at hl 1 rfl) ?_
          exact rt_i hx hb hr hlocks (congrArg nI (by unfold numN; first | (rw [if_pos (Or.inl c20)]; done) | (rw [if_pos (Or.inr c27)]; done) | (rw [if_neg (by rintro (q | q); omega; rw [q] at c27; cases c27)]; unfold rev3; split; omega; split <;> omega))) dX11_numberOf_57
        · have e1 := c35
          refine lv_bipush (v := nI 10) hx hb dX11_numberOf_38 (by decide) ?_
          refine lv_iload_n hx hb dX11_numberOf_40 rfl (lv_at hl 1 rfl) ?_
          refine ln_imul hx hb dX11_numberOf_41 ?_
          refine lv_iload_n hx hb dX11_numberOf_42 rfl (lv_at hl 0 rfl) ?_
          refine lv_bipush (v := nI 10) hx hb dX11_numberOf_43 (by decide) ?_
          refine ln_irem hx hb dX11_numberOf_45 (by omega) (by omega) (by omega) ?_
          refine ln_iadd hx hb dX11_numberOf_46 ?_
          refine lv_istore_n (lv' := [(3, .int (nI ((10 * ((10 * 0) + ((s_fe σ ((5 * f) + 1)) % 10))) + (((s_fe σ ((5 * f) + 1)) / 10) % 10)))), (2, .int (nI ((s_fe σ ((5 * f) + 1)) / 10))), (0, .ref (ad 0)), (1, .int (nI (f)))]) hx hb dX11_numberOf_47 rfl hl (by decide) rfl (fun ls hl => ?_)
          refine lv_iload_n hx hb dX11_numberOf_48 rfl (lv_at hl 1 rfl) ?_
          refine lv_bipush (v := nI 10) hx hb dX11_numberOf_49 (by decide) ?_
          refine ln_idiv hx hb dX11_numberOf_51 (by omega) (by omega) (by omega) ?_
          refine lv_istore_n (lv' := [(2, .int (nI (((s_fe σ ((5 * f) + 1)) / 10) / 10))), (3, .int (nI ((10 * ((10 * 0) + ((s_fe σ ((5 * f) + 1)) % 10))) + (((s_fe σ ((5 * f) + 1)) / 10) % 10)))), (0, .ref (ad 0)), (1, .int (nI (f)))]) hx hb dX11_numberOf_52 rfl hl (by decide) rfl (fun ls hl => ?_)
          refine lv_goto (tgt := 34) hx hb dX11_numberOf_53 (by decide) ?_
          refine lv_iload_n hx hb dX11_numberOf_34 rfl (lv_at hl 0 rfl) ?_
          refine ln_if_le (tgt := 56) hx hb dX11_numberOf_35 (by decide) (by omega) (fun c35 => ?_) (fun c35 => ?_)
          · have e2 := c35
            refine lv_iload_n hx hb dX11_numberOf_56 rfl (lv_at hl 1 rfl) ?_
            exact rt_i hx hb hr hlocks (congrArg nI (by unfold numN; first | (rw [if_pos (Or.inl c20)]; done) | (rw [if_pos (Or.inr c27)]; done) | (rw [if_neg (by rintro (q | q); omega; rw [q] at c27; cases c27)]; unfold rev3; split; omega; split <;> omega))) dX11_numberOf_57
          · have e2 := c35
            refine lv_bipush (v := nI 10) hx hb dX11_numberOf_38 (by decide) ?_
            refine lv_iload_n hx hb dX11_numberOf_40 rfl (lv_at hl 1 rfl) ?_
            refine ln_imul hx hb dX11_numberOf_41 ?_
            refine lv_iload_n hx hb dX11_numberOf_42 rfl (lv_at hl 0 rfl) ?_
            refine lv_bipush (v := nI 10) hx hb dX11_numberOf_43 (by decide) ?_
            refine ln_irem hx hb dX11_numberOf_45 (by omega) (by omega) (by omega) ?_
            refine ln_iadd hx hb dX11_numberOf_46 ?_
            refine lv_istore_n (lv' := [(3, .int (nI ((10 * ((10 * ((10 * 0) + ((s_fe σ ((5 * f) + 1)) % 10))) + (((s_fe σ ((5 * f) + 1)) / 10) % 10))) + ((((s_fe σ ((5 * f) + 1)) / 10) / 10) % 10)))), (2, .int (nI (((s_fe σ ((5 * f) + 1)) / 10) / 10))), (0, .ref (ad 0)), (1, .int (nI (f)))]) hx hb dX11_numberOf_47 rfl hl (by decide) rfl (fun ls hl => ?_)
            refine lv_iload_n hx hb dX11_numberOf_48 rfl (lv_at hl 1 rfl) ?_
            refine lv_bipush (v := nI 10) hx hb dX11_numberOf_49 (by decide) ?_
            refine ln_idiv hx hb dX11_numberOf_51 (by omega) (by omega) (by omega) ?_
            refine lv_istore_n (lv' := [(2, .int (nI ((((s_fe σ ((5 * f) + 1)) / 10) / 10) / 10))), (3, .int (nI ((10 * ((10 * ((10 * 0) + ((s_fe σ ((5 * f) + 1)) % 10))) + (((s_fe σ ((5 * f) + 1)) / 10) % 10))) + ((((s_fe σ ((5 * f) + 1)) / 10) / 10) % 10)))), (0, .ref (ad 0)), (1, .int (nI (f)))]) hx hb dX11_numberOf_52 rfl hl (by decide) rfl (fun ls hl => ?_)
            refine lv_goto (tgt := 34) hx hb dX11_numberOf_53 (by decide) ?_
            refine lv_iload_n hx hb dX11_numberOf_34 rfl (lv_at hl 0 rfl) ?_
            refine ln_if_le (tgt := 56) hx hb dX11_numberOf_35 (by decide) (by omega) (fun c35 => ?_) (fun c35 => ?_)
            · refine lv_iload_n hx hb dX11_numberOf_56 rfl (lv_at hl 1 rfl) ?_
              exact rt_i hx hb hr hlocks (congrArg nI (by unfold numN; first | (rw [if_pos (Or.inl c20)]; done) | (rw [if_pos (Or.inr c27)]; done) | (rw [if_neg (by rintro (q | q); omega; rw [q] at c27; cases c27)]; unfold rev3; split; omega; split <;> omega))) dX11_numberOf_57
            · exact absurd c35 (by omega)
    · refine lv_iload_n hx hb dX11_numberOf_30 rfl (lv_at hl 0 rfl) ?_
      exact rt_i hx hb hr hlocks (congrArg nI (by unfold numN; first | (rw [if_pos (Or.inl c20)]; done) | (rw [if_pos (Or.inr c27)]; done) | (rw [if_neg (by rintro (q | q); omega; rw [q] at c27; cases c27)]; unfold rev3; split; omega; split <;> omega))) dX11_numberOf_31
set_option maxHeartbeats 4000000 in
set_option maxRecDepth 100000 in
theorem k_X11_canBoard (l : Launch) (D : va_G) (cy : Nat → ClassId) (ad : Nat → Nat) (σ : Sg) (T : Ms) (f x th bo : Nat) (hw : wfS σ) (hf : f < 3) (h1 : x < 2 ^ 31) (h2 : th < 2 ^ 31) (h3 : bo < 2 ^ 31) : MR l yX11_canBoard qX11_canBoard 1 [.ref (ad 0), .int (nI (f)), .int (nI (x)), .int (nI (th)), .int (nI (bo))] D cy (mw cy ad σ T) (bI (board σ f x th bo)) := by
  refine Met.ofW (cc := cX11_canBoard) (maxL := 7) (ret := (some .boolean)) (by decide) rfl ?_
  intro p e s m args below meth c s₁ B hml hv
  obtain ⟨rfl, hP, hK, hN⟩ := hv
  have hx := B.exec
  have hb := B.bytes
  have hr := B.returns
  have hlocks := B.notSynchronized
  have hts : ∀ w ∈ tg, w.before ([.ref (ad 0), .int (nI (f)), .int (nI (x)), .int (nI (th)), .int (nI (bo))] : List Value).toArray s = true := fun w h => atoms_spec (ws := qX11_canBoard) B.pre w (List.mem_cons_of_mem _ h)
  have hown : s.vm.findClass RX11 = some m.cls := findClass_of_methodNamed B.named
  have hl := lv_entry ([.ref (ad 0), .int (nI (f)), .int (nI (x)), .int (nI (th)), .int (nI (bo))]) (n := 7) (Nat.le_of_ble_eq_true rfl)
  rw [lg_entry_eq]
  generalize (lg_sl ([.ref (ad 0), .int (nI (f)), .int (nI (x)), .int (nI (th)), .int (nI (bo))]) ++ List.replicate (7 - (lg_sl ([.ref (ad 0), .int (nI (f)), .int (nI (x)), .int (nI (th)), .int (nI (bo))])).length) Slot.unset).toArray = ls at hl ⊢
  have hl : lv_has ls 7 [(0, .ref (ad 0)), (1, .int (nI (f))), (2, .int (nI (x))), (3, .int (nI (th))), (4, .int (nI (bo)))] := hl
  have hw1 := hw.1
  refine lv_iconst (v := nI 0) hx hb dX11_canBoard_0 (by decide) ?_
  refine ln_eq (show (nI (0)) = (bI (anyN (fun t => x.testBit t && decide (s_th σ (6 * t) = 0)) 0)) from rfl) ?_
  refine lv_istore (lv' := [(5, .int (bI (anyN (fun t => x.testBit t && decide (s_th σ (6 * t) = 0)) 0))), (0, .ref (ad 0)), (1, .int (nI (f))), (2, .int (nI (x))), (3, .int (nI (th))), (4, .int (nI (bo)))]) hx hb dX11_canBoard_1 hl (by decide) rfl (fun ls hl => ?_)
  refine lv_iconst (v := nI 0) hx hb dX11_canBoard_3 (by decide) ?_
  refine lv_istore (lv' := [(6, .int (nI (0))), (5, .int (bI (anyN (fun t => x.testBit t && decide (s_th σ (6 * t) = 0)) 0))), (0, .ref (ad 0)), (1, .int (nI (f))), (2, .int (nI (x))), (3, .int (nI (th))), (4, .int (nI (bo)))]) hx hb dX11_canBoard_4 hl (by decide) rfl (fun ls hl => ?_)
  have loop : ∀ (k i : Nat) (ls : Array Slot), i + k = s_n σ →  lv_has ls 7 [(6, .int (nI (i))), (5, .int (bI (anyN (fun t => x.testBit t && decide (s_th σ (6 * t) = 0)) i))), (0, .ref (ad 0)), (1, .int (nI (f))), (2, .int (nI (x))), (3, .int (nI (th))), (4, .int (nI (bo)))] → W p l e (headSpec qX11_canBoard (rq 1)).room s m ([.ref (ad 0), .int (nI (f)), .int (nI (x)), .int (nI (th)), .int (nI (bo))] : List Value).toArray below meth c s.heap [] 0 0 (MQ below (vp_Si (fun r => r = bI (board σ f x th bo))) ([.ref (ad 0), .int (nI (f)), .int (nI (x)), .int (nI (th)), .int (nI (bo))] : List Value).toArray s 0 0 (fun _ => False)) (F0 m 6 ls []) := by
    intro k
    induction k with
    | zero =>
      intro i ls hi hl
      refine lv_iload hx hb dX11_canBoard_6 (lv_at hl 0 rfl) ?_
      refine lv_aload_n hx hb dX11_canBoard_8 rfl (lv_at hl 2 rfl) ?_
      refine va_get (D := D) (ci := 10) (v := .int (nI (s_n σ))) (C := RX11) (T := TX11) (N := 31) hx hb hts ni11 hown hK hP 0 (mw_c0 cy ad σ T) rfl 0 (by decide) (hts _ flX11_47) (fun _ h => h) rfl dX11_canBoard_9 ?_
      refine ln_icmp_ge (tgt := 55) hx hb dX11_canBoard_12 (by decide) (by omega) (by omega) (fun c12 => ?_) (fun c12 => ?_)
      · refine lv_iload hx hb dX11_canBoard_55 (lv_at hl 1 rfl) ?_
        refine lb_if_eq (tgt := 90) hx hb dX11_canBoard_57 (by decide) (fun c57 => ?_) (fun c57 => ?_)
        · refine lv_iconst (v := nI 0) hx hb dX11_canBoard_90 (by decide) ?_
          refine ln_eq bI_f.symm ?_
          exact rt_z hx hb hr hlocks (by first | exact board_f0 (by omega) c57 | exact board_1 (by omega) c57 c66 h1 c74 | exact board_2 c66 h1 c74 | exact board_3 (by omega) c57 c66 c83 | exact board_4 c66 c83) dX11_canBoard_91
        · refine lv_iload hx hb dX11_canBoard_60 (lv_at hl 6 rfl) ?_
          refine lv_iload_n hx hb dX11_canBoard_62 rfl (lv_at hl 3 rfl) ?_
          refine cr_s (n := 2) (As := [.int (nI (bo)), .int (nI (f))]) (rest := []) ⟨hx, hb, hml, hown, hts⟩ (k_X11_has l bo f (by omega) (by omega)) gsX11_173 (by decide +kernel) ⟨Nat.le_of_ble_eq_true rfl, Nat.le_of_ble_eq_true rfl⟩ rfl hl.1 rfl (Nat.le_of_ble_eq_true rfl) dX11_canBoard_63 ⟨Nat.zero_le _, Nat.zero_le _⟩ ?_
          refine lb_if_eq (tgt := 80) hx hb dX11_canBoard_66 (by decide) (fun c66 => ?_) (fun c66 => ?_)
          · refine lv_iload_n hx hb dX11_canBoard_80 rfl (lv_at hl 4 rfl) ?_
            refine lv_iload_n hx hb dX11_canBoard_81 rfl (lv_at hl 5 rfl) ?_
            refine ln_iand hx hb dX11_canBoard_82 ?_
            refine ln_if_ne (tgt := 90) hx hb dX11_canBoard_83 (by decide) (and_lt h1) (fun c83 => ?_) (fun c83 => ?_)
            · refine lv_iconst (v := nI 0) hx hb dX11_canBoard_90 (by decide) ?_
              refine ln_eq bI_f.symm ?_
              exact rt_z hx hb hr hlocks (by first | exact board_f0 (by omega) c57 | exact board_1 (by omega) c57 c66 h1 c74 | exact board_2 c66 h1 c74 | exact board_3 (by omega) c57 c66 c83 | exact board_4 c66 c83) dX11_canBoard_91
            · refine lv_iconst (v := nI 1) hx hb dX11_canBoard_86 (by decide) ?_
              refine lv_goto (tgt := 91) hx hb dX11_canBoard_87 (by decide) ?_
              refine ln_eq bI_t.symm ?_
              exact rt_z hx hb hr hlocks (by first | exact board_f0 (by omega) c57 | exact board_1 (by omega) c57 c66 h1 c74 | exact board_2 c66 h1 c74 | exact board_3 (by omega) c57 c66 c83 | exact board_4 c66 c83) dX11_canBoard_91
          · refine lv_iload_n hx hb dX11_canBoard_69 rfl (lv_at hl 4 rfl) ?_
            refine lv_iload_n hx hb dX11_canBoard_70 rfl (lv_at hl 5 rfl) ?_
            refine lv_iconst (v := -1) hx hb dX11_canBoard_71 (by decide) ?_
            refine lv_ixor hx hb dX11_canBoard_72 ?_
            refine ln_eq (show ((nI (th)) ^^^ (-1)) = (nI (th ^^^ (2 ^ 32 - 1))) from xorm1 th h2) ?_
            refine ln_iand hx hb dX11_canBoard_73 ?_
            refine ln_if_ne (tgt := 90) hx hb dX11_canBoard_74 (by decide) (and_lt h1) (fun c74 => ?_) (fun c74 => ?_)
            · refine lv_iconst (v := nI 0) hx hb dX11_canBoard_90 (by decide) ?_
              refine ln_eq bI_f.symm ?_
              exact rt_z hx hb hr hlocks (by first | exact board_f0 (by omega) c57 | exact board_1 (by omega) c57 c66 h1 c74 | exact board_2 c66 h1 c74 | exact board_3 (by omega) c57 c66 c83 | exact board_4 c66 c83) dX11_canBoard_91
            · refine lv_goto (tgt := 86) hx hb dX11_canBoard_77 (by decide) ?_
              refine lv_iconst (v := nI 1) hx hb dX11_canBoard_86 (by decide) ?_
              refine lv_goto (tgt := 91) hx hb dX11_canBoard_87 (by decide) ?_
              refine ln_eq bI_t.symm ?_
              exact rt_z hx hb hr hlocks (by first | exact board_f0 (by omega) c57 | exact board_1 (by omega) c57 c66 h1 c74 | exact board_2 c66 h1 c74 | exact board_3 (by omega) c57 c66 c83 | exact board_4 c66 c83) dX11_canBoard_91
      · exact absurd c12 (by omega)
    | succ k ih =>
      intro i ls hi hl
      refine lv_iload hx hb dX11_canBoard_6 (lv_at hl 0 rfl) ?_
      refine lv_aload_n hx hb dX11_canBoard_8 rfl (lv_at hl 2 rfl) ?_
      refine va_get (D := D) (ci := 10) (v := .int (nI (s_n σ))) (C := RX11) (T := TX11) (N := 31) hx hb hts ni11 hown hK hP 0 (mw_c0 cy ad σ T) rfl 0 (by decide) (hts _ flX11_47) (fun _ h => h) rfl dX11_canBoard_9 ?_
      refine ln_icmp_ge (tgt := 55) hx hb dX11_canBoard_12 (by decide) (by omega) (by omega) (fun c12 => ?_) (fun c12 => ?_)
      · exact absurd c12 (by omega)
      · refine lv_iload hx hb dX11_canBoard_15 (lv_at hl 1 rfl) ?_
        refine lb_if_ne (tgt := 42) hx hb dX11_canBoard_17 (by decide) (fun c17 => ?_) (fun c17 => ?_)
        · refine lv_iconst (v := nI 1) hx hb dX11_canBoard_42 (by decide) ?_
          refine lv_goto (tgt := 47) hx hb dX11_canBoard_43 (by decide) ?_
          refine ln_eq (show (nI (1)) = (bI (anyN (fun t => x.testBit t && decide (s_th σ (6 * t) = 0)) (i + 1))) from by first | exact any_t1 c17 | exact any_t2 (by simp [c26, c39]) | exact any_f c17 (by first | (simp [c26]; done) | (simp [c26]; omega))) ?_
          refine lv_istore (lv' := [(5, .int (bI (anyN (fun t => x.testBit t && decide (s_th σ (6 * t) = 0)) (i + 1)))), (6, .int (nI (i))), (0, .ref (ad 0)), (1, .int (nI (f))), (2, .int (nI (x))), (3, .int (nI (th))), (4, .int (nI (bo)))]) hx hb dX11_canBoard_47 hl (by decide) rfl (fun ls hl => ?_)
          refine ln_iinc (lv' := [(6, .int (nI (i + 1))), (5, .int (bI (anyN (fun t => x.testBit t && decide (s_th σ (6 * t) = 0)) (i + 1)))), (0, .ref (ad 0)), (1, .int (nI (f))), (2, .int (nI (x))), (3, .int (nI (th))), (4, .int (nI (bo)))]) hx hb dX11_canBoard_49 hl (k := 1) (n := 1) rfl (by decide) rfl (fun ls hl => ?_)
          refine lv_goto (tgt := 6) hx hb dX11_canBoard_52 (by decide) ?_
          exact ih (i + 1) ls (by omega)  (lv_sub hl [0, 1, 2, 3, 4, 5, 6] rfl)
        · refine lv_iload_n hx hb dX11_canBoard_20 rfl (lv_at hl 4 rfl) ?_
          refine lv_iload hx hb dX11_canBoard_21 (lv_at hl 0 rfl) ?_
          refine cr_s (n := 2) (As := [.int (nI (x)), .int (nI (i))]) (rest := []) ⟨hx, hb, hml, hown, hts⟩ (k_X11_has l x i (by omega) (by omega)) gsX11_173 (by decide +kernel) ⟨Nat.le_of_ble_eq_true rfl, Nat.le_of_ble_eq_true rfl⟩ rfl hl.1 rfl (Nat.le_of_ble_eq_true rfl) dX11_canBoard_23 ⟨Nat.zero_le _, Nat.zero_le _⟩ ?_
          refine lb_if_eq (tgt := 46) hx hb dX11_canBoard_26 (by decide) (fun c26 => ?_) (fun c26 => ?_)
          · refine lv_iconst (v := nI 0) hx hb dX11_canBoard_46 (by decide) ?_
            refine ln_eq (show (nI (0)) = (bI (anyN (fun t => x.testBit t && decide (s_th σ (6 * t) = 0)) (i + 1))) from by first | exact any_t1 c17 | exact any_t2 (by simp [c26, c39]) | exact any_f c17 (by first | (simp [c26]; done) | (simp [c26]; omega))) ?_
            refine lv_istore (lv' := [(5, .int (bI (anyN (fun t => x.testBit t && decide (s_th σ (6 * t) = 0)) (i + 1)))), (6, .int (nI (i))), (0, .ref (ad 0)), (1, .int (nI (f))), (2, .int (nI (x))), (3, .int (nI (th))), (4, .int (nI (bo)))]) hx hb dX11_canBoard_47 hl (by decide) rfl (fun ls hl => ?_)
            refine ln_iinc (lv' := [(6, .int (nI (i + 1))), (5, .int (bI (anyN (fun t => x.testBit t && decide (s_th σ (6 * t) = 0)) (i + 1)))), (0, .ref (ad 0)), (1, .int (nI (f))), (2, .int (nI (x))), (3, .int (nI (th))), (4, .int (nI (bo)))]) hx hb dX11_canBoard_49 hl (k := 1) (n := 1) rfl (by decide) rfl (fun ls hl => ?_)
            refine lv_goto (tgt := 6) hx hb dX11_canBoard_52 (by decide) ?_
            exact ih (i + 1) ls (by omega)  (lv_sub hl [0, 1, 2, 3, 4, 5, 6] rfl)
          · refine lv_aload_n hx hb dX11_canBoard_29 rfl (lv_at hl 2 rfl) ?_
            refine va_get (D := D) (ci := 10) (v := .ref (ad 1)) (C := RX11) (T := TX11) (N := 31) hx hb hts ni11 hown hK hP 0 (mw_c0 cy ad σ T) rfl 1 (by decide) (hts _ flX11_7) (fun _ h => h) rfl dX11_canBoard_30 ?_
            refine lv_bipush (v := nI 6) hx hb dX11_canBoard_33 (by decide) ?_
            refine lv_iload hx hb dX11_canBoard_35 (lv_at hl 0 rfl) ?_
            refine ln_imul hx hb dX11_canBoard_37 ?_
            refine ln_iald (v := (nI (s_th σ (6 * i)))) hx hb hK hP 1 (mw_c1 cy ad σ T) (by omega) (by decide) rfl dX11_canBoard_38 ?_
            have hk := hw.2.2.1 i (by omega)
            refine ln_if_ne (tgt := 46) hx hb dX11_canBoard_39 (by decide) (by omega) (fun c39 => ?_) (fun c39 => ?_)
            · refine lv_iconst (v := nI 0) hx hb dX11_canBoard_46 (by decide) ?_
              refine ln_eq (show (nI (0)) = (bI (anyN (fun t => x.testBit t && decide (s_th σ (6 * t) = 0)) (i + 1))) from by first | exact any_t1 c17 | exact any_t2 (by simp [c26, c39]) | exact any_f c17 (by first | (simp [c26]; done) | (simp [c26]; omega))) ?_
              refine lv_istore (lv' := [(5, .int (bI (anyN (fun t => x.testBit t && decide (s_th σ (6 * t) = 0)) (i + 1)))), (6, .int (nI (i))), (0, .ref (ad 0)), (1, .int (nI (f))), (2, .int (nI (x))), (3, .int (nI (th))), (4, .int (nI (bo)))]) hx hb dX11_canBoard_47 hl (by decide) rfl (fun ls hl => ?_)
              refine ln_iinc (lv' := [(6, .int (nI (i + 1))), (5, .int (bI (anyN (fun t => x.testBit t && decide (s_th σ (6 * t) = 0)) (i + 1)))), (0, .ref (ad 0)), (1, .int (nI (f))), (2, .int (nI (x))), (3, .int (nI (th))), (4, .int (nI (bo)))]) hx hb dX11_canBoard_49 hl (k := 1) (n := 1) rfl (by decide) rfl (fun ls hl => ?_)
              refine lv_goto (tgt := 6) hx hb dX11_canBoard_52 (by decide) ?_
              exact ih (i + 1) ls (by omega)  (lv_sub hl [0, 1, 2, 3, 4, 5, 6] rfl)
            · refine lv_iconst (v := nI 1) hx hb dX11_canBoard_42 (by decide) ?_
              refine lv_goto (tgt := 47) hx hb dX11_canBoard_43 (by decide) ?_
              refine ln_eq (show (nI (1)) = (bI (anyN (fun t => x.testBit t && decide (s_th σ (6 * t) = 0)) (i + 1))) from by first | exact any_t1 c17 | exact any_t2 (by simp [c26, c39]) | exact any_f c17 (by first | (simp [c26]; done) | (simp [c26]; omega))) ?_
              refine lv_istore (lv' := [(5, .int (bI (anyN (fun t => x.testBit t && decide (s_th σ (6 * t) = 0)) (i + 1)))), (6, .int (nI (i))), (0, .ref (ad 0)), (1, .int (nI (f))), (2, .int (nI (x))), (3, .int (nI (th))), (4, .int (nI (bo)))]) hx hb dX11_canBoard_47 hl (by decide) rfl (fun ls hl => ?_)
              refine ln_iinc (lv' := [(6, .int (nI (i + 1))), (5, .int (bI (anyN (fun t => x.testBit t && decide (s_th σ (6 * t) = 0)) (i + 1)))), (0, .ref (ad 0)), (1, .int (nI (f))), (2, .int (nI (x))), (3, .int (nI (th))), (4, .int (nI (bo)))]) hx hb dX11_canBoard_49 hl (k := 1) (n := 1) rfl (by decide) rfl (fun ls hl => ?_)
              refine lv_goto (tgt := 6) hx hb dX11_canBoard_52 (by decide) ?_
              exact ih (i + 1) ls (by omega)  (lv_sub hl [0, 1, 2, 3, 4, 5, 6] rfl)
  exact loop (s_n σ - 0) 0 ls (by omega)  (lv_sub hl [0, 1, 2, 3, 4, 5, 6] rfl)
set_option maxHeartbeats 4000000 in
set_option maxRecDepth 100000 in
theorem k_X11_fitsBy (l : Launch) (D : va_G) (cy : Nat → ClassId) (ad : Nat → Nat) (σ : Sg) (T : Ms) (f x mo : Nat) (hw : wfS σ) (hf : f < 3) (h1 : x < 2 ^ 29) (h2 : mo < 2 ^ 29) : MR l yX11_fitsBy qX11_fitsBy 1 [.ref (ad 0), .int (nI (f)), .int (nI (x)), .int (nI (mo))] D cy (mw cy ad σ T) (bI (fit σ f x mo)) := by
  refine Met.ofW (cc := cX11_fitsBy) (maxL := 5) (ret := (some .boolean)) (by decide) rfl ?_
  intro p e s m args below meth c s₁ B hml hv
  obtain ⟨rfl, hP, hK, hN⟩ := hv
  have hx := B.exec
  have hb := B.bytes
  have hr := B.returns
  have hlocks := B.notSynchronized
  have hts : ∀ w ∈ tg, w.before ([.ref (ad 0), .int (nI (f)), .int (nI (x)), .int (nI (mo))] : List Value).toArray s = true := fun w h => atoms_spec (ws := qX11_fitsBy) B.pre w (List.mem_cons_of_mem _ h)
  have hown : s.vm.findClass RX11 = some m.cls := findClass_of_methodNamed B.named
  have hl := lv_entry ([.ref (ad 0), .int (nI (f)), .int (nI (x)), .int (nI (mo))]) (n := 5) (Nat.le_of_ble_eq_true rfl)
  rw [lg_entry_eq]
  generalize (lg_sl ([.ref (ad 0), .int (nI (f)), .int (nI (x)), .int (nI (mo))]) ++ List.replicate (5 - (lg_sl ([.ref (ad 0), .int (nI (f)), .int (nI (x)), .int (nI (mo))])).length) Slot.unset).toArray = ls at hl ⊢
  have hl : lv_has ls 5 [(0, .ref (ad 0)), (1, .int (nI (f))), (2, .int (nI (x))), (3, .int (nI (mo)))] := hl
  have hk := hw.2.2.2.1 f hf
  have hnum := numN_lt hw hf
  have hdf := adif_lt (a := x) (b := numN σ f) (c := 2 ^ 29) h1 (by omega)
  refine lv_iload_n hx hb dX11_fitsBy_0 rfl (lv_at hl 2 rfl) ?_
  refine lv_aload_n hx hb dX11_fitsBy_1 rfl (lv_at hl 0 rfl) ?_
  refine lv_iload_n hx hb dX11_fitsBy_2 rfl (lv_at hl 1 rfl) ?_
  refine cr_v (n := 1) (As := [.int (nI (f))]) (rest := [.int (nI (x))]) ⟨hx, hb, hml, hown, hts⟩ (k_X11_numberOf l D cy ad σ T f hw (by omega)) gvX11_187 (by decide +kernel) ⟨Nat.le_of_ble_eq_true rfl, Nat.le_of_ble_eq_true rfl⟩ hK hN hP 0 (mw_c0 cy ad σ T) rfl rfl hl.1 rfl (Nat.le_of_ble_eq_true rfl) dX11_fitsBy_3 ⟨Nat.zero_le _, Nat.zero_le _⟩ ?_
  refine lv_isub hx hb dX11_fitsBy_6 ?_
  refine lv_istore (lv' := [(4, .int ((nI (x)) - (nI (numN σ f)))), (0, .ref (ad 0)), (1, .int (nI (f))), (2, .int (nI (x))), (3, .int (nI (mo)))]) hx hb dX11_fitsBy_7 hl (by decide) rfl (fun ls hl => ?_)
  refine lv_iload hx hb dX11_fitsBy_9 (lv_at hl 0 rfl) ?_
  refine lv_if_ge (tgt := 20) hx hb dX11_fitsBy_11 (by decide) (fun c11 => ?_) (fun c11 => ?_)
  · refine lv_iload hx hb dX11_fitsBy_20 (lv_at hl 0 rfl) ?_
    refine ln_eq (show ((nI (x)) - (nI (numN σ f))) = (nI (adif x (numN σ f))) from by first | exact abs_p (by omega) (by omega) c11 | exact abs_n (by omega) (by omega) c11) ?_
    refine lv_iload_n hx hb dX11_fitsBy_22 rfl (lv_at hl 4 rfl) ?_
    refine ln_iadd hx hb dX11_fitsBy_23 ?_
    refine lv_aload_n hx hb dX11_fitsBy_24 rfl (lv_at hl 1 rfl) ?_
    refine va_get (D := D) (ci := 10) (v := .ref (ad 2)) (C := RX11) (T := TX11) (N := 31) hx hb hts ni11 hown hK hP 0 (mw_c0 cy ad σ T) rfl 3 (by decide) (hts _ flX11_13) (fun _ h => h) rfl dX11_fitsBy_25 ?_
    refine lv_iconst (v := nI 5) hx hb dX11_fitsBy_28 (by decide) ?_
    refine lv_iload_n hx hb dX11_fitsBy_29 rfl (lv_at hl 2 rfl) ?_
    refine ln_imul hx hb dX11_fitsBy_30 ?_
    refine ln_iald (v := (nI (s_fe σ (5 * f)))) hx hb hK hP 2 (mw_c2 cy ad σ T) (by omega) (by decide) rfl dX11_fitsBy_31 ?_
    refine lv_iconst (v := nI 1) hx hb dX11_fitsBy_32 (by decide) ?_
    refine ln_icmp_ne (tgt := 40) hx hb dX11_fitsBy_33 (by decide) (by omega) (by omega) (fun c33 => ?_) (fun c33 => ?_)
    · refine lv_iconst (v := nI 0) hx hb dX11_fitsBy_40 (by decide) ?_
      refine ln_icmp_gt (tgt := 48) hx hb dX11_fitsBy_41 (by decide) (by omega) (by omega) (fun c41 => ?_) (fun c41 => ?_)
      · refine lv_iconst (v := nI 0) hx hb dX11_fitsBy_48 (by decide) ?_
        refine ln_eq bI_f.symm ?_
        exact rt_z hx hb hr hlocks (by unfold fit plN; first | (rw [if_pos c33]; simp; omega) | (rw [if_neg c33]; simp; omega)) dX11_fitsBy_49
      · refine lv_iconst (v := nI 1) hx hb dX11_fitsBy_44 (by decide) ?_
        refine lv_goto (tgt := 49) hx hb dX11_fitsBy_45 (by decide) ?_
        refine ln_eq bI_t.symm ?_
        exact rt_z hx hb hr hlocks (by unfold fit plN; first | (rw [if_pos c33]; simp; omega) | (rw [if_neg c33]; simp; omega)) dX11_fitsBy_49
    · refine lv_iconst (v := nI 1) hx hb dX11_fitsBy_36 (by decide) ?_
      refine lv_goto (tgt := 41) hx hb dX11_fitsBy_37 (by decide) ?_
      refine ln_icmp_gt (tgt := 48) hx hb dX11_fitsBy_41 (by decide) (by omega) (by omega) (fun c41 => ?_) (fun c41 => ?_)
      · refine lv_iconst (v := nI 0) hx hb dX11_fitsBy_48 (by decide) ?_
        refine ln_eq bI_f.symm ?_
        exact rt_z hx hb hr hlocks (by unfold fit plN; first | (rw [if_pos c33]; simp; omega) | (rw [if_neg c33]; simp; omega)) dX11_fitsBy_49
      · refine lv_iconst (v := nI 1) hx hb dX11_fitsBy_44 (by decide) ?_
        refine lv_goto (tgt := 49) hx hb dX11_fitsBy_45 (by decide) ?_
        refine ln_eq bI_t.symm ?_
        exact rt_z hx hb hr hlocks (by unfold fit plN; first | (rw [if_pos c33]; simp; omega) | (rw [if_neg c33]; simp; omega)) dX11_fitsBy_49
  · refine lv_iload hx hb dX11_fitsBy_14 (lv_at hl 0 rfl) ?_
    refine lv_ineg hx hb dX11_fitsBy_16 ?_
    refine lv_goto (tgt := 22) hx hb dX11_fitsBy_17 (by decide) ?_
    refine ln_eq (show (-((nI (x)) - (nI (numN σ f)))) = (nI (adif x (numN σ f))) from by first | exact abs_p (by omega) (by omega) c11 | exact abs_n (by omega) (by omega) c11) ?_
    refine lv_iload_n hx hb dX11_fitsBy_22 rfl (lv_at hl 4 rfl) ?_
    refine ln_iadd hx hb dX11_fitsBy_23 ?_
    refine lv_aload_n hx hb dX11_fitsBy_24 rfl (lv_at hl 1 rfl) ?_
    refine va_get (D := D) (ci := 10) (v := .ref (ad 2)) (C := RX11) (T := TX11) (N := 31) hx hb hts ni11 hown hK hP 0 (mw_c0 cy ad σ T) rfl 3 (by decide) (hts _ flX11_13) (fun _ h => h) rfl dX11_fitsBy_25 ?_
    refine lv_iconst (v := nI 5) hx hb dX11_fitsBy_28 (by decide) ?_
    refine lv_iload_n hx hb dX11_fitsBy_29 rfl (lv_at hl 2 rfl) ?_
    refine ln_imul hx hb dX11_fitsBy_30 ?_
    refine ln_iald (v := (nI (s_fe σ (5 * f)))) hx hb hK hP 2 (mw_c2 cy ad σ T) (by omega) (by decide) rfl dX11_fitsBy_31 ?_
    refine lv_iconst (v := nI 1) hx hb dX11_fitsBy_32 (by decide) ?_
    refine ln_icmp_ne (tgt := 40) hx hb dX11_fitsBy_33 (by decide) (by omega) (by omega) (fun c33 => ?_) (fun c33 => ?_)
    · refine lv_iconst (v := nI 0) hx hb dX11_fitsBy_40 (by decide) ?_
      refine ln_icmp_gt (tgt := 48) hx hb dX11_fitsBy_41 (by decide) (by omega) (by omega) (fun c41 => ?_) (fun c41 => ?_)
      · refine lv_iconst (v := nI 0) hx hb dX11_fitsBy_48 (by decide) ?_
        refine ln_eq bI_f.symm ?_
        exact rt_z hx hb hr hlocks (by unfold fit plN; first | (rw [if_pos c33]; simp; omega) | (rw [if_neg c33]; simp; omega)) dX11_fitsBy_49
      · refine lv_iconst (v := nI 1) hx hb dX11_fitsBy_44 (by decide) ?_
        refine lv_goto (tgt := 49) hx hb dX11_fitsBy_45 (by decide) ?_
        refine ln_eq bI_t.symm ?_
        exact rt_z hx hb hr hlocks (by unfold fit plN; first | (rw [if_pos c33]; simp; omega) | (rw [if_neg c33]; simp; omega)) dX11_fitsBy_49
    · refine lv_iconst (v := nI 1) hx hb dX11_fitsBy_36 (by decide) ?_
      refine lv_goto (tgt := 41) hx hb dX11_fitsBy_37 (by decide) ?_
      refine ln_icmp_gt (tgt := 48) hx hb dX11_fitsBy_41 (by decide) (by omega) (by omega) (fun c41 => ?_) (fun c41 => ?_)
      · refine lv_iconst (v := nI 0) hx hb dX11_fitsBy_48 (by decide) ?_
        refine ln_eq bI_f.symm ?_
        exact rt_z hx hb hr hlocks (by unfold fit plN; first | (rw [if_pos c33]; simp; omega) | (rw [if_neg c33]; simp; omega)) dX11_fitsBy_49
      · refine lv_iconst (v := nI 1) hx hb dX11_fitsBy_44 (by decide) ?_
        refine lv_goto (tgt := 49) hx hb dX11_fitsBy_45 (by decide) ?_
        refine ln_eq bI_t.symm ?_
        exact rt_z hx hb hr hlocks (by unfold fit plN; first | (rw [if_pos c33]; simp; omega) | (rw [if_neg c33]; simp; omega)) dX11_fitsBy_49
set_option maxHeartbeats 4000000 in
set_option maxRecDepth 100000 in
theorem k_X11_isRight (l : Launch) (D : va_G) (cy : Nat → ClassId) (ad : Nat → Nat) (σ : Sg) (T : Ms) (f x th bo h : Nat) (hw : wfS σ) (hf : f < 3) (h1 : x < 2 ^ 31) (h2 : th < 2 ^ 31) (h3 : bo < 2 ^ 31) (h4 : h < 2 ^ 31) : MR l yX11_isRight qX11_isRight 3 [.ref (ad 0), .int (nI (f)), .int (nI (x)), .int (nI (th)), .int (nI (bo)), .int (nI (h))] D cy (mw cy ad σ T) (bI (isR σ f x th bo h)) := by
  refine Met.ofW (cc := cX11_isRight) (maxL := 6) (ret := (some .boolean)) (by decide) rfl ?_
  intro p e s m args below meth c s₁ B hml hv
  obtain ⟨rfl, hP, hK, hN⟩ := hv
  have hx := B.exec
  have hb := B.bytes
  have hr := B.returns
  have hlocks := B.notSynchronized
  have hts : ∀ w ∈ tg, w.before ([.ref (ad 0), .int (nI (f)), .int (nI (x)), .int (nI (th)), .int (nI (bo)), .int (nI (h))] : List Value).toArray s = true := fun w h => atoms_spec (ws := qX11_isRight) B.pre w (List.mem_cons_of_mem _ h)
  have hown : s.vm.findClass RX11 = some m.cls := findClass_of_methodNamed B.named
  have hl := lv_entry ([.ref (ad 0), .int (nI (f)), .int (nI (x)), .int (nI (th)), .int (nI (bo)), .int (nI (h))]) (n := 6) (Nat.le_of_ble_eq_true rfl)
  rw [lg_entry_eq]
  generalize (lg_sl ([.ref (ad 0), .int (nI (f)), .int (nI (x)), .int (nI (th)), .int (nI (bo)), .int (nI (h))]) ++ List.replicate (6 - (lg_sl ([.ref (ad 0), .int (nI (f)), .int (nI (x)), .int (nI (th)), .int (nI (bo)), .int (nI (h))])).length) Slot.unset).toArray = ls at hl ⊢
  have hl : lv_has ls 6 [(0, .ref (ad 0)), (1, .int (nI (f))), (2, .int (nI (x))), (3, .int (nI (th))), (4, .int (nI (bo))), (5, .int (nI (h)))] := hl
  have hk := hw.2.2.2.1 f hf
  have hpd := pdA_le hw x h
  have hbt := bits_le x
  refine lv_aload_n hx hb dX11_isRight_0 rfl (lv_at hl 0 rfl) ?_
  refine lv_iload_n hx hb dX11_isRight_1 rfl (lv_at hl 1 rfl) ?_
  refine lv_iload_n hx hb dX11_isRight_2 rfl (lv_at hl 2 rfl) ?_
  refine lv_iload_n hx hb dX11_isRight_3 rfl (lv_at hl 3 rfl) ?_
  refine lv_iload hx hb dX11_isRight_4 (lv_at hl 4 rfl) ?_
  refine cr_v (n := 4) (As := [.int (nI (f)), .int (nI (x)), .int (nI (th)), .int (nI (bo))]) (rest := []) ⟨hx, hb, hml, hown, hts⟩ (k_X11_canBoard l D cy ad σ T f x th bo hw (by omega) (by omega) (by omega) (by omega)) gvX11_191 (by decide +kernel) ⟨Nat.le_of_ble_eq_true rfl, Nat.le_of_ble_eq_true rfl⟩ hK hN hP 0 (mw_c0 cy ad σ T) rfl rfl hl.1 rfl (Nat.le_of_ble_eq_true rfl) dX11_isRight_6 ⟨Nat.zero_le _, Nat.zero_le _⟩ ?_
  refine lb_if_eq (tgt := 49) hx hb dX11_isRight_9 (by decide) (fun c9 => ?_) (fun c9 => ?_)
  · refine lv_iconst (v := nI 0) hx hb dX11_isRight_49 (by decide) ?_
    refine ln_eq bI_f.symm ?_
    exact rt_z hx hb hr hlocks (by unfold isR; first | (rw [c9]; rfl) | (rw [c9, decide_eq_false (by omega)]; rfl) | (rw [c9, decide_eq_true (by omega), c42]; rfl)) dX11_isRight_50
  · refine lv_iload_n hx hb dX11_isRight_12 rfl (lv_at hl 2 rfl) ?_
    refine cr_s (n := 1) (As := [.int (nI (x))]) (rest := []) ⟨hx, hb, hml, hown, hts⟩ (k_X11_bits l x (by omega)) gsX11_195 (by decide +kernel) ⟨Nat.le_of_ble_eq_true rfl, Nat.le_of_ble_eq_true rfl⟩ rfl hl.1 rfl (Nat.le_of_ble_eq_true rfl) dX11_isRight_13 ⟨Nat.zero_le _, Nat.zero_le _⟩ ?_
    refine lv_aload_n hx hb dX11_isRight_16 rfl (lv_at hl 0 rfl) ?_
    refine va_get (D := D) (ci := 10) (v := .ref (ad 2)) (C := RX11) (T := TX11) (N := 31) hx hb hts ni11 hown hK hP 0 (mw_c0 cy ad σ T) rfl 3 (by decide) (hts _ flX11_13) (fun _ h => h) rfl dX11_isRight_17 ?_
    refine lv_iconst (v := nI 5) hx hb dX11_isRight_20 (by decide) ?_
    refine lv_iload_n hx hb dX11_isRight_21 rfl (lv_at hl 1 rfl) ?_
    refine ln_imul hx hb dX11_isRight_22 ?_
    refine lv_iconst (v := nI 3) hx hb dX11_isRight_23 (by decide) ?_
    refine ln_iadd hx hb dX11_isRight_24 ?_
    refine ln_iald (v := (nI (s_fe σ ((5 * f) + 3)))) hx hb hK hP 2 (mw_c2 cy ad σ T) (by omega) (by decide) rfl dX11_isRight_25 ?_
    refine ln_icmp_gt (tgt := 49) hx hb dX11_isRight_26 (by decide) (by omega) (by omega) (fun c26 => ?_) (fun c26 => ?_)
    · refine lv_iconst (v := nI 0) hx hb dX11_isRight_49 (by decide) ?_
      refine ln_eq bI_f.symm ?_
      exact rt_z hx hb hr hlocks (by unfold isR; first | (rw [c9]; rfl) | (rw [c9, decide_eq_false (by omega)]; rfl) | (rw [c9, decide_eq_true (by omega), c42]; rfl)) dX11_isRight_50
    · refine lv_aload_n hx hb dX11_isRight_29 rfl (lv_at hl 0 rfl) ?_
      refine lv_iload_n hx hb dX11_isRight_30 rfl (lv_at hl 1 rfl) ?_
      refine lv_aload_n hx hb dX11_isRight_31 rfl (lv_at hl 0 rfl) ?_
      refine lv_iload_n hx hb dX11_isRight_32 rfl (lv_at hl 2 rfl) ?_
      refine lv_iload hx hb dX11_isRight_33 (lv_at hl 5 rfl) ?_
      refine cr_v (n := 2) (As := [.int (nI (x)), .int (nI (h))]) (rest := [.int (nI (f)), .ref (ad 0)]) ⟨hx, hb, hml, hown, hts⟩ (k_X11_poundsOfAll l D cy ad σ T x h hw (by omega) (by omega)) gvX11_198 (by decide +kernel) ⟨Nat.le_of_ble_eq_true rfl, Nat.le_of_ble_eq_true rfl⟩ hK hN hP 0 (mw_c0 cy ad σ T) rfl rfl hl.1 rfl (Nat.le_of_ble_eq_true rfl) dX11_isRight_35 ⟨Nat.zero_le _, Nat.zero_le _⟩ ?_
      refine lv_iconst (v := nI 0) hx hb dX11_isRight_38 (by decide) ?_
      refine cr_v (n := 3) (As := [.int (nI (f)), .int (nI (pdA σ x h)), .int (nI (0))]) (rest := []) ⟨hx, hb, hml, hown, hts⟩ (k_X11_fitsBy l D cy ad σ T f (pdA σ x h) 0 hw (by omega) (by omega) (by omega)) gvX11_201 (by decide +kernel) ⟨Nat.le_of_ble_eq_true rfl, Nat.le_of_ble_eq_true rfl⟩ hK hN hP 0 (mw_c0 cy ad σ T) rfl rfl hl.1 rfl (Nat.le_of_ble_eq_true rfl) dX11_isRight_39 ⟨Nat.zero_le _, Nat.zero_le _⟩ ?_
      refine lb_if_eq (tgt := 49) hx hb dX11_isRight_42 (by decide) (fun c42 => ?_) (fun c42 => ?_)
      · refine lv_iconst (v := nI 0) hx hb dX11_isRight_49 (by decide) ?_
        refine ln_eq bI_f.symm ?_
        exact rt_z hx hb hr hlocks (by unfold isR; first | (rw [c9]; rfl) | (rw [c9, decide_eq_false (by omega)]; rfl) | (rw [c9, decide_eq_true (by omega), c42]; rfl)) dX11_isRight_50
      · refine lv_iconst (v := nI 1) hx hb dX11_isRight_45 (by decide) ?_
        refine lv_goto (tgt := 50) hx hb dX11_isRight_46 (by decide) ?_
        refine ln_eq bI_t.symm ?_
        exact rt_z hx hb hr hlocks (by unfold isR; first | (rw [c9]; rfl) | (rw [c9, decide_eq_false (by omega)]; rfl) | (rw [c9, decide_eq_true (by omega), c42]; rfl)) dX11_isRight_50
end
