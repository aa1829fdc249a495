section
-- ===== PART A: goes FIRST, ahead of the names: the tables' words, and 'selects' of the private methods out of them =====
/-- a private method of a class that the tables say can be made, by its rows of tables_1 -/
def lw_okq (q : MethodName × Nat) : Prop := (q.1.cls ≠ "java/lang/invoke/MethodHandle" ∧ q.1.cls ≠ "java/lang/invoke/VarHandle") ∧ Cond.instantiable q.1.cls q.2 ∈ tables_1 ∧ Cond.privateMethod q.1 ∈ tables_1 ∧ Cond.instanceMethod q.1 ∈ tables_1
theorem lw_p0 : lw_okq (⟨"TeaBlends$Search", "readValues", "(LTeaBlends$Shop;)V"⟩, 10) := ⟨⟨by decide +kernel, by decide +kernel⟩, List.mem_of_getElem? (i := 179) (by decide +kernel), List.mem_of_getElem? (i := 349) (by decide +kernel), List.mem_of_getElem? (i := 350) (by decide +kernel)⟩
theorem lw_p1 : lw_okq (⟨"TeaBlends$Search", "readBounds", "(LTeaBlends$Shop;I)V"⟩, 10) := ⟨⟨by decide +kernel, by decide +kernel⟩, List.mem_of_getElem? (i := 179) (by decide +kernel), List.mem_of_getElem? (i := 360) (by decide +kernel), List.mem_of_getElem? (i := 361) (by decide +kernel)⟩
theorem lw_p2 : lw_okq (⟨"TeaBlends$Search", "mayImprove", "(II)Z"⟩, 10) := ⟨⟨by decide +kernel, by decide +kernel⟩, List.mem_of_getElem? (i := 179) (by decide +kernel), List.mem_of_getElem? (i := 369) (by decide +kernel), List.mem_of_getElem? (i := 370) (by decide +kernel)⟩
theorem lw_p3 : lw_okq (⟨"TeaBlends$Search", "keepBest", "(II)V"⟩, 10) := ⟨⟨by decide +kernel, by decide +kernel⟩, List.mem_of_getElem? (i := 179) (by decide +kernel), List.mem_of_getElem? (i := 373) (by decide +kernel), List.mem_of_getElem? (i := 374) (by decide +kernel)⟩
theorem lw_p4 : lw_okq (⟨"TeaBlends$Search", "giveTo", "(II)V"⟩, 10) := ⟨⟨by decide +kernel, by decide +kernel⟩, List.mem_of_getElem? (i := 179) (by decide +kernel), List.mem_of_getElem? (i := 378) (by decide +kernel), List.mem_of_getElem? (i := 379) (by decide +kernel)⟩
theorem lw_p5 : lw_okq (⟨"TeaBlends$Shop", "stocksSuffice", "(I)Z"⟩, 8) := ⟨⟨by decide +kernel, by decide +kernel⟩, List.mem_of_getElem? (i := 28) (by decide +kernel), List.mem_of_getElem? (i := 403) (by decide +kernel), List.mem_of_getElem? (i := 404) (by decide +kernel)⟩
theorem lw_p6 : lw_okq (⟨"TeaBlends$Shop", "keepsAfterSwap", "(II)Z"⟩, 8) := ⟨⟨by decide +kernel, by decide +kernel⟩, List.mem_of_getElem? (i := 28) (by decide +kernel), List.mem_of_getElem? (i := 475) (by decide +kernel), List.mem_of_getElem? (i := 476) (by decide +kernel)⟩
theorem lw_p7 : lw_okq (⟨"TeaBlends$OrderReader", "readSign", "(I)Z"⟩, 5) := ⟨⟨by decide +kernel, by decide +kernel⟩, List.mem_of_getElem? (i := 155) (by decide +kernel), List.mem_of_getElem? (i := 539) (by decide +kernel), List.mem_of_getElem? (i := 540) (by decide +kernel)⟩
theorem lw_p8 : lw_okq (⟨"TeaBlends$OrderReader", "sign", "()I"⟩, 5) := ⟨⟨by decide +kernel, by decide +kernel⟩, List.mem_of_getElem? (i := 155) (by decide +kernel), List.mem_of_getElem? (i := 543) (by decide +kernel), List.mem_of_getElem? (i := 544) (by decide +kernel)⟩
theorem lw_p9 : lw_okq (⟨"TeaBlends$OrderReader", "readPart", "(C)Z"⟩, 5) := ⟨⟨by decide +kernel, by decide +kernel⟩, List.mem_of_getElem? (i := 155) (by decide +kernel), List.mem_of_getElem? (i := 606) (by decide +kernel), List.mem_of_getElem? (i := 607) (by decide +kernel)⟩
theorem lw_p10 : lw_okq (⟨"TeaBlends$OrderReader", "readNumber", "(I)Z"⟩, 5) := ⟨⟨by decide +kernel, by decide +kernel⟩, List.mem_of_getElem? (i := 155) (by decide +kernel), List.mem_of_getElem? (i := 610) (by decide +kernel), List.mem_of_getElem? (i := 611) (by decide +kernel)⟩
theorem lw_p11 : lw_okq (⟨"TeaBlends$OrderReader", "isAtDigit", "()Z"⟩, 5) := ⟨⟨by decide +kernel, by decide +kernel⟩, List.mem_of_getElem? (i := 155) (by decide +kernel), List.mem_of_getElem? (i := 614) (by decide +kernel), List.mem_of_getElem? (i := 615) (by decide +kernel)⟩
theorem lw_p12 : lw_okq (⟨"TeaBlends", "carryOutOne", "()I"⟩, 6) := ⟨⟨by decide +kernel, by decide +kernel⟩, List.mem_of_getElem? (i := 20) (by decide +kernel), List.mem_of_getElem? (i := 625) (by decide +kernel), List.mem_of_getElem? (i := 626) (by decide +kernel)⟩
theorem lw_p13 : lw_okq (⟨"TeaBlendsModel", "remember", "()V"⟩, 16) := ⟨⟨by decide +kernel, by decide +kernel⟩, List.mem_of_getElem? (i := 646) (by decide +kernel), List.mem_of_getElem? (i := 717) (by decide +kernel), List.mem_of_getElem? (i := 718) (by decide +kernel)⟩
theorem lw_p14 : lw_okq (⟨"TeaBlendsModel", "record", "(I)I"⟩, 16) := ⟨⟨by decide +kernel, by decide +kernel⟩, List.mem_of_getElem? (i := 646) (by decide +kernel), List.mem_of_getElem? (i := 721) (by decide +kernel), List.mem_of_getElem? (i := 722) (by decide +kernel)⟩
theorem lw_p15 : lw_okq (⟨"TeaBlendsModel", "comes", "(IIIII)I"⟩, 16) := ⟨⟨by decide +kernel, by decide +kernel⟩, List.mem_of_getElem? (i := 646) (by decide +kernel), List.mem_of_getElem? (i := 733) (by decide +kernel), List.mem_of_getElem? (i := 734) (by decide +kernel)⟩
def lw_privs_1 : List (MethodName × Nat) := [(⟨"TeaBlends$Search", "readValues", "(LTeaBlends$Shop;)V"⟩, 10), (⟨"TeaBlends$Search", "readBounds", "(LTeaBlends$Shop;I)V"⟩, 10), (⟨"TeaBlends$Search", "mayImprove", "(II)Z"⟩, 10), (⟨"TeaBlends$Search", "keepBest", "(II)V"⟩, 10), (⟨"TeaBlends$Search", "giveTo", "(II)V"⟩, 10), (⟨"TeaBlends$Shop", "stocksSuffice", "(I)Z"⟩, 8), (⟨"TeaBlends$Shop", "keepsAfterSwap", "(II)Z"⟩, 8), (⟨"TeaBlends$OrderReader", "readSign", "(I)Z"⟩, 5), (⟨"TeaBlends$OrderReader", "sign", "()I"⟩, 5), (⟨"TeaBlends$OrderReader", "readPart", "(C)Z"⟩, 5), (⟨"TeaBlends$OrderReader", "readNumber", "(I)Z"⟩, 5), (⟨"TeaBlends$OrderReader", "isAtDigit", "()Z"⟩, 5), (⟨"TeaBlends", "carryOutOne", "()I"⟩, 6), (⟨"TeaBlendsModel", "remember", "()V"⟩, 16), (⟨"TeaBlendsModel", "record", "(I)I"⟩, 16), (⟨"TeaBlendsModel", "comes", "(IIIII)I"⟩, 16)]
theorem lw_r1 : ∀ q ∈ lw_privs_1, lw_okq q := List.forall_mem_cons.mpr ⟨lw_p0, List.forall_mem_cons.mpr ⟨lw_p1, List.forall_mem_cons.mpr ⟨lw_p2, List.forall_mem_cons.mpr ⟨lw_p3, List.forall_mem_cons.mpr ⟨lw_p4, List.forall_mem_cons.mpr ⟨lw_p5, List.forall_mem_cons.mpr ⟨lw_p6, List.forall_mem_cons.mpr ⟨lw_p7, List.forall_mem_cons.mpr ⟨lw_p8, List.forall_mem_cons.mpr ⟨lw_p9, List.forall_mem_cons.mpr ⟨lw_p10, List.forall_mem_cons.mpr ⟨lw_p11, List.forall_mem_cons.mpr ⟨lw_p12, List.forall_mem_cons.mpr ⟨lw_p13, List.forall_mem_cons.mpr ⟨lw_p14, List.forall_mem_cons.mpr ⟨lw_p15, fun _ h => absurd h List.not_mem_nil⟩⟩⟩⟩⟩⟩⟩⟩⟩⟩⟩⟩⟩⟩⟩⟩
theorem lw_p16 : lw_okq (⟨"TeaBlendsModel", "lay", "(III)V"⟩, 16) := ⟨⟨by decide +kernel, by decide +kernel⟩, List.mem_of_getElem? (i := 646) (by decide +kernel), List.mem_of_getElem? (i := 737) (by decide +kernel), List.mem_of_getElem? (i := 738) (by decide +kernel)⟩
theorem lw_p17 : lw_okq (⟨"TeaBlendsModel", "isLeaf", "(I)Z"⟩, 16) := ⟨⟨by decide +kernel, by decide +kernel⟩, List.mem_of_getElem? (i := 646) (by decide +kernel), List.mem_of_getElem? (i := 745) (by decide +kernel), List.mem_of_getElem? (i := 746) (by decide +kernel)⟩
theorem lw_p18 : lw_okq (⟨"TeaBlendsModel", "priceOf", "(I)I"⟩, 16) := ⟨⟨by decide +kernel, by decide +kernel⟩, List.mem_of_getElem? (i := 646) (by decide +kernel), List.mem_of_getElem? (i := 751) (by decide +kernel), List.mem_of_getElem? (i := 752) (by decide +kernel)⟩
theorem lw_p19 : lw_okq (⟨"TeaBlendsModel", "its", "(II)I"⟩, 16) := ⟨⟨by decide +kernel, by decide +kernel⟩, List.mem_of_getElem? (i := 646) (by decide +kernel), List.mem_of_getElem? (i := 755) (by decide +kernel), List.mem_of_getElem? (i := 756) (by decide +kernel)⟩
theorem lw_p20 : lw_okq (⟨"TeaBlendsModel", "gets", "(II)I"⟩, 16) := ⟨⟨by decide +kernel, by decide +kernel⟩, List.mem_of_getElem? (i := 646) (by decide +kernel), List.mem_of_getElem? (i := 771) (by decide +kernel), List.mem_of_getElem? (i := 772) (by decide +kernel)⟩
theorem lw_p21 : lw_okq (⟨"TeaBlendsModel", "shares", "()I"⟩, 16) := ⟨⟨by decide +kernel, by decide +kernel⟩, List.mem_of_getElem? (i := 646) (by decide +kernel), List.mem_of_getElem? (i := 775) (by decide +kernel), List.mem_of_getElem? (i := 776) (by decide +kernel)⟩
theorem lw_p22 : lw_okq (⟨"TeaBlendsModel", "seek", "()V"⟩, 16) := ⟨⟨by decide +kernel, by decide +kernel⟩, List.mem_of_getElem? (i := 646) (by decide +kernel), List.mem_of_getElem? (i := 783) (by decide +kernel), List.mem_of_getElem? (i := 784) (by decide +kernel)⟩
theorem lw_p23 : lw_okq (⟨"TeaBlendsModel", "layDay", "()V"⟩, 16) := ⟨⟨by decide +kernel, by decide +kernel⟩, List.mem_of_getElem? (i := 646) (by decide +kernel), List.mem_of_getElem? (i := 787) (by decide +kernel), List.mem_of_getElem? (i := 788) (by decide +kernel)⟩
theorem lw_p24 : lw_okq (⟨"TeaBlendsModel", "tasteOf", "(III)I"⟩, 16) := ⟨⟨by decide +kernel, by decide +kernel⟩, List.mem_of_getElem? (i := 646) (by decide +kernel), List.mem_of_getElem? (i := 791) (by decide +kernel), List.mem_of_getElem? (i := 792) (by decide +kernel)⟩
theorem lw_p25 : lw_okq (⟨"TeaBlendsModel", "triedPrice", "()I"⟩, 16) := ⟨⟨by decide +kernel, by decide +kernel⟩, List.mem_of_getElem? (i := 646) (by decide +kernel), List.mem_of_getElem? (i := 795) (by decide +kernel), List.mem_of_getElem? (i := 796) (by decide +kernel)⟩
theorem lw_p26 : lw_okq (⟨"TeaBlendsModel", "keeps", "()Z"⟩, 16) := ⟨⟨by decide +kernel, by decide +kernel⟩, List.mem_of_getElem? (i := 646) (by decide +kernel), List.mem_of_getElem? (i := 799) (by decide +kernel), List.mem_of_getElem? (i := 800) (by decide +kernel)⟩
theorem lw_p27 : lw_okq (⟨"TeaBlendsModel", "nextTried", "(I)Z"⟩, 16) := ⟨⟨by decide +kernel, by decide +kernel⟩, List.mem_of_getElem? (i := 646) (by decide +kernel), List.mem_of_getElem? (i := 803) (by decide +kernel), List.mem_of_getElem? (i := 804) (by decide +kernel)⟩
theorem lw_p28 : lw_okq (⟨"TeaBlendsModel", "mixes", "(I)I"⟩, 16) := ⟨⟨by decide +kernel, by decide +kernel⟩, List.mem_of_getElem? (i := 646) (by decide +kernel), List.mem_of_getElem? (i := 811) (by decide +kernel), List.mem_of_getElem? (i := 812) (by decide +kernel)⟩
theorem lw_p29 : lw_okq (⟨"TeaBlendsModel", "reason", "(I)I"⟩, 16) := ⟨⟨by decide +kernel, by decide +kernel⟩, List.mem_of_getElem? (i := 646) (by decide +kernel), List.mem_of_getElem? (i := 815) (by decide +kernel), List.mem_of_getElem? (i := 816) (by decide +kernel)⟩
theorem lw_p30 : lw_okq (⟨"TeaBlendsModel", "sumOfTastes", "(II)I"⟩, 16) := ⟨⟨by decide +kernel, by decide +kernel⟩, List.mem_of_getElem? (i := 646) (by decide +kernel), List.mem_of_getElem? (i := 819) (by decide +kernel), List.mem_of_getElem? (i := 820) (by decide +kernel)⟩
theorem lw_p31 : lw_okq (⟨"TeaBlendsModel", "suffices", "(I)Z"⟩, 16) := ⟨⟨by decide +kernel, by decide +kernel⟩, List.mem_of_getElem? (i := 646) (by decide +kernel), List.mem_of_getElem? (i := 823) (by decide +kernel), List.mem_of_getElem? (i := 824) (by decide +kernel)⟩
def lw_privs_2 : List (MethodName × Nat) := [(⟨"TeaBlendsModel", "lay", "(III)V"⟩, 16), (⟨"TeaBlendsModel", "isLeaf", "(I)Z"⟩, 16), (⟨"TeaBlendsModel", "priceOf", "(I)I"⟩, 16), (⟨"TeaBlendsModel", "its", "(II)I"⟩, 16), (⟨"TeaBlendsModel", "gets", "(II)I"⟩, 16), (⟨"TeaBlendsModel", "shares", "()I"⟩, 16), (⟨"TeaBlendsModel", "seek", "()V"⟩, 16), (⟨"TeaBlendsModel", "layDay", "()V"⟩, 16), (⟨"TeaBlendsModel", "tasteOf", "(III)I"⟩, 16), (⟨"TeaBlendsModel", "triedPrice", "()I"⟩, 16), (⟨"TeaBlendsModel", "keeps", "()Z"⟩, 16), (⟨"TeaBlendsModel", "nextTried", "(I)Z"⟩, 16), (⟨"TeaBlendsModel", "mixes", "(I)I"⟩, 16), (⟨"TeaBlendsModel", "reason", "(I)I"⟩, 16), (⟨"TeaBlendsModel", "sumOfTastes", "(II)I"⟩, 16), (⟨"TeaBlendsModel", "suffices", "(I)Z"⟩, 16)]
theorem lw_r2 : ∀ q ∈ lw_privs_2, lw_okq q := List.forall_mem_cons.mpr ⟨lw_p16, List.forall_mem_cons.mpr ⟨lw_p17, List.forall_mem_cons.mpr ⟨lw_p18, List.forall_mem_cons.mpr ⟨lw_p19, List.forall_mem_cons.mpr ⟨lw_p20, List.forall_mem_cons.mpr ⟨lw_p21, List.forall_mem_cons.mpr ⟨lw_p22, List.forall_mem_cons.mpr ⟨lw_p23, List.forall_mem_cons.mpr ⟨lw_p24, List.forall_mem_cons.mpr ⟨lw_p25, List.forall_mem_cons.mpr ⟨lw_p26, List.forall_mem_cons.mpr ⟨lw_p27, List.forall_mem_cons.mpr ⟨lw_p28, List.forall_mem_cons.mpr ⟨lw_p29, List.forall_mem_cons.mpr ⟨lw_p30, List.forall_mem_cons.mpr ⟨lw_p31, fun _ h => absurd h List.not_mem_nil⟩⟩⟩⟩⟩⟩⟩⟩⟩⟩⟩⟩⟩⟩⟩⟩
theorem lw_p32 : lw_okq (⟨"TeaBlendsModel", "needs", "(II)I"⟩, 16) := ⟨⟨by decide +kernel, by decide +kernel⟩, List.mem_of_getElem? (i := 646) (by decide +kernel), List.mem_of_getElem? (i := 827) (by decide +kernel), List.mem_of_getElem? (i := 828) (by decide +kernel)⟩
theorem lw_p33 : lw_okq (⟨"TeaBlendsModel", "sumOfPrices", "()I"⟩, 16) := ⟨⟨by decide +kernel, by decide +kernel⟩, List.mem_of_getElem? (i := 646) (by decide +kernel), List.mem_of_getElem? (i := 831) (by decide +kernel), List.mem_of_getElem? (i := 832) (by decide +kernel)⟩
theorem lw_p34 : lw_okq (⟨"TeaBlendsModel", "waits", "(I)I"⟩, 16) := ⟨⟨by decide +kernel, by decide +kernel⟩, List.mem_of_getElem? (i := 646) (by decide +kernel), List.mem_of_getElem? (i := 839) (by decide +kernel), List.mem_of_getElem? (i := 840) (by decide +kernel)⟩
theorem lw_p35 : lw_okq (⟨"TeaBlendsModel", "mask", "()I"⟩, 16) := ⟨⟨by decide +kernel, by decide +kernel⟩, List.mem_of_getElem? (i := 646) (by decide +kernel), List.mem_of_getElem? (i := 851) (by decide +kernel), List.mem_of_getElem? (i := 852) (by decide +kernel)⟩
theorem lw_p36 : lw_okq (⟨"TeaBlendsModel", "isWell", "()Z"⟩, 16) := ⟨⟨by decide +kernel, by decide +kernel⟩, List.mem_of_getElem? (i := 646) (by decide +kernel), List.mem_of_getElem? (i := 925) (by decide +kernel), List.mem_of_getElem? (i := 926) (by decide +kernel)⟩
theorem lw_p37 : lw_okq (⟨"TeaBlendsModel", "order", "(Z)I"⟩, 16) := ⟨⟨by decide +kernel, by decide +kernel⟩, List.mem_of_getElem? (i := 646) (by decide +kernel), List.mem_of_getElem? (i := 929) (by decide +kernel), List.mem_of_getElem? (i := 930) (by decide +kernel)⟩
theorem lw_p38 : lw_okq (⟨"TeaBlendsModel", "number", "(I)Z"⟩, 16) := ⟨⟨by decide +kernel, by decide +kernel⟩, List.mem_of_getElem? (i := 646) (by decide +kernel), List.mem_of_getElem? (i := 933) (by decide +kernel), List.mem_of_getElem? (i := 934) (by decide +kernel)⟩
theorem lw_p39 : lw_okq (⟨"TeaBlendsModel", "sees", "(II)Z"⟩, 16) := ⟨⟨by decide +kernel, by decide +kernel⟩, List.mem_of_getElem? (i := 646) (by decide +kernel), List.mem_of_getElem? (i := 937) (by decide +kernel), List.mem_of_getElem? (i := 938) (by decide +kernel)⟩
theorem lw_p40 : lw_okq (⟨"TeaBlendsModel", "sign", "(I)Z"⟩, 16) := ⟨⟨by decide +kernel, by decide +kernel⟩, List.mem_of_getElem? (i := 646) (by decide +kernel), List.mem_of_getElem? (i := 941) (by decide +kernel), List.mem_of_getElem? (i := 942) (by decide +kernel)⟩
theorem lw_p41 : lw_okq (⟨"TeaBlendsModel", "digit", "()Z"⟩, 16) := ⟨⟨by decide +kernel, by decide +kernel⟩, List.mem_of_getElem? (i := 646) (by decide +kernel), List.mem_of_getElem? (i := 945) (by decide +kernel), List.mem_of_getElem? (i := 946) (by decide +kernel)⟩
def lw_privs_3 : List (MethodName × Nat) := [(⟨"TeaBlendsModel", "needs", "(II)I"⟩, 16), (⟨"TeaBlendsModel", "sumOfPrices", "()I"⟩, 16), (⟨"TeaBlendsModel", "waits", "(I)I"⟩, 16), (⟨"TeaBlendsModel", "mask", "()I"⟩, 16), (⟨"TeaBlendsModel", "isWell", "()Z"⟩, 16), (⟨"TeaBlendsModel", "order", "(Z)I"⟩, 16), (⟨"TeaBlendsModel", "number", "(I)Z"⟩, 16), (⟨"TeaBlendsModel", "sees", "(II)Z"⟩, 16), (⟨"TeaBlendsModel", "sign", "(I)Z"⟩, 16), (⟨"TeaBlendsModel", "digit", "()Z"⟩, 16)]
theorem lw_r3 : ∀ q ∈ lw_privs_3, lw_okq q := List.forall_mem_cons.mpr ⟨lw_p32, List.forall_mem_cons.mpr ⟨lw_p33, List.forall_mem_cons.mpr ⟨lw_p34, List.forall_mem_cons.mpr ⟨lw_p35, List.forall_mem_cons.mpr ⟨lw_p36, List.forall_mem_cons.mpr ⟨lw_p37, List.forall_mem_cons.mpr ⟨lw_p38, List.forall_mem_cons.mpr ⟨lw_p39, List.forall_mem_cons.mpr ⟨lw_p40, List.forall_mem_cons.mpr ⟨lw_p41, fun _ h => absurd h List.not_mem_nil⟩⟩⟩⟩⟩⟩⟩⟩⟩⟩
def lw_privs : List (MethodName × Nat) := lw_privs_1 ++ (lw_privs_2 ++ (lw_privs_3))
def lw_tbl : List Cond := k2_sels lw_privs ++ tables_1
theorem lw_privs_ok : ∀ q ∈ lw_privs, lw_okq q := by
  show ∀ q ∈ lw_privs_1 ++ (lw_privs_2 ++ (lw_privs_3)), lw_okq q
  exact List.forall_mem_append.mpr ⟨lw_r1, List.forall_mem_append.mpr ⟨lw_r2, lw_r3⟩⟩
/-- the streams that the claim lets the run draw from -/
abbrev lw_cs : List Choice := [Jvm.Choice.named "NaN.bits"]
theorem lw_bits : nanBits ∈ lw_cs := by first | decide | exact List.mem_cons_self | simp [lw_cs, nanBits]
end
section
/-! ===== BEGIN printed: names, fields, word lists, decode rows ===== -/
def RX0 : String := "TeaBlends$History"
def TX0 : u_T := fun k => match k with
  | 0 => ("TeaBlends$History", "states", "[LTeaBlends$Shop;", true)
  | 1 => ("TeaBlends$History", "next", "I", false)
  | _ => ("TeaBlends$History", "kept", "I", false)
def tyX0 : Nat → FieldType := fun k => match k with
  | 0 => .array (.object "TeaBlends$Shop")
  | 1 => .int
  | _ => .int
abbrev wsX00 : List Cond := u_ws RX0 TX0 3
theorem nmX0 : ∀ a, a < 3 → ∀ b, b < 3 → a ≠ b → (TX0 a).2.1 ≠ (TX0 b).2.1 := by decide +kernel
theorem tyX0_ok : ∀ k, k < 3 → parseFieldDescriptor (TX0 k).2.2.1 = some (tyX0 k) := by decide +kernel
abbrev cX0_init : ByteArray := prog_2_method_1_code
def yX0_init : MethodName := ⟨RX0, "<init>", "()V"⟩
abbrev cX0_draft : ByteArray := prog_2_method_2_code
def yX0_draft : MethodName := ⟨RX0, "draft", "(LTeaBlends$Shop;)V"⟩
abbrev cX0_settle : ByteArray := prog_2_method_3_code
def yX0_settle : MethodName := ⟨RX0, "settle", "(I)I"⟩
abbrev cX0_takeBack : ByteArray := prog_2_method_4_code
def yX0_takeBack : MethodName := ⟨RX0, "takeBack", "(LTeaBlends$Shop;)Z"⟩
def RX1 : String := "TeaBlends$Leaf"
def TX1 : u_T := fun k => match k with
  | 0 => ("TeaBlends$Leaf", "price", "I", false)
  | 1 => ("TeaBlends$Leaf", "stock", "I", false)
  | 2 => ("TeaBlends$Leaf", "age", "I", false)
  | 3 => ("TeaBlends$Leaf", "share", "I", false)
  | 4 => ("TeaBlends$Leaf", "changes", "[I", true)
  | _ => ("TeaBlends$Leaf", "fresh", "[I", true)
def tyX1 : Nat → FieldType := fun k => match k with
  | 0 => .int
  | 1 => .int
  | 2 => .int
  | 3 => .int
  | 4 => .array .int
  | _ => .array .int
abbrev wsX10 : List Cond := u_ws RX1 TX1 6
theorem nmX1 : ∀ a, a < 6 → ∀ b, b < 6 → a ≠ b → (TX1 a).2.1 ≠ (TX1 b).2.1 := by decide +kernel
theorem tyX1_ok : ∀ k, k < 6 → parseFieldDescriptor (TX1 k).2.2.1 = some (tyX1 k) := by decide +kernel
abbrev cX1_init : ByteArray := prog_3_method_1_code
def yX1_init : MethodName := ⟨RX1, "<init>", "()V"⟩
abbrev cX1_copyFrom : ByteArray := prog_3_method_2_code
def yX1_copyFrom : MethodName := ⟨RX1, "copyFrom", "(LTeaBlends$Leaf;)V"⟩
abbrev cX1_comeFresh : ByteArray := prog_3_method_3_code
def yX1_comeFresh : MethodName := ⟨RX1, "comeFresh", "(II)V"⟩
abbrev cX1_gramsFor : ByteArray := prog_3_method_4_code
def yX1_gramsFor : MethodName := ⟨RX1, "gramsFor", "(I)I"⟩
def RX2 : String := "TeaBlends$OrderReader"
def TX2 : u_T := fun k => match k with
  | 0 => ("TeaBlends$OrderReader", "pad", "LTeaBlends$Pad;", true)
  | 1 => ("TeaBlends$OrderReader", "at", "I", false)
  | 2 => ("TeaBlends$OrderReader", "numberCount", "I", false)
  | 3 => ("TeaBlends$OrderReader", "kind", "I", false)
  | _ => ("TeaBlends$OrderReader", "numbers", "[I", true)
def tyX2 : Nat → FieldType := fun k => match k with
  | 0 => .object "TeaBlends$Pad"
  | 1 => .int
  | 2 => .int
  | 3 => .int
  | _ => .array .int
abbrev wsX20 : List Cond := u_ws RX2 TX2 5
theorem nmX2 : ∀ a, a < 5 → ∀ b, b < 5 → a ≠ b → (TX2 a).2.1 ≠ (TX2 b).2.1 := by decide +kernel
theorem tyX2_ok : ∀ k, k < 5 → parseFieldDescriptor (TX2 k).2.2.1 = some (tyX2 k) := by decide +kernel
abbrev cX2_init : ByteArray := prog_4_method_1_code
def yX2_init : MethodName := ⟨RX2, "<init>", "(LTeaBlends$Pad;)V"⟩
abbrev cX2_start : ByteArray := prog_4_method_2_code
def yX2_start : MethodName := ⟨RX2, "start", "()V"⟩
abbrev cX2_findFault : ByteArray := prog_4_method_3_code
def yX2_findFault : MethodName := ⟨RX2, "findFault", "()I"⟩
abbrev cX2_readOrder : ByteArray := prog_4_method_4_code
def yX2_readOrder : MethodName := ⟨RX2, "readOrder", "()Z"⟩
abbrev cX2_formOf : ByteArray := prog_4_method_5_code
def yX2_formOf : MethodName := ⟨RX2, "formOf", "(I)Ljava/lang/String;"⟩
abbrev cX2_readPart : ByteArray := prog_4_method_6_code
def yX2_readPart : MethodName := ⟨RX2, "readPart", "(C)Z"⟩
abbrev cX2_readSign : ByteArray := prog_4_method_7_code
def yX2_readSign : MethodName := ⟨RX2, "readSign", "(I)Z"⟩
abbrev cX2_readNumber : ByteArray := prog_4_method_8_code
def yX2_readNumber : MethodName := ⟨RX2, "readNumber", "(I)Z"⟩
abbrev cX2_isAtDigit : ByteArray := prog_4_method_9_code
def yX2_isAtDigit : MethodName := ⟨RX2, "isAtDigit", "()Z"⟩
abbrev cX2_sign : ByteArray := prog_4_method_10_code
def yX2_sign : MethodName := ⟨RX2, "sign", "()I"⟩
def RX3 : String := "TeaBlends$Pad"
def TX3 : u_T := fun k => match k with
  | 0 => ("TeaBlends$Pad", "text", "[C", true)
  | _ => ("TeaBlends$Pad", "length", "I", false)
def tyX3 : Nat → FieldType := fun k => match k with
  | 0 => .array .char
  | _ => .int
abbrev wsX30 : List Cond := u_ws RX3 TX3 2
theorem nmX3 : ∀ a, a < 2 → ∀ b, b < 2 → a ≠ b → (TX3 a).2.1 ≠ (TX3 b).2.1 := by decide +kernel
theorem tyX3_ok : ∀ k, k < 2 → parseFieldDescriptor (TX3 k).2.2.1 = some (tyX3 k) := by decide +kernel
abbrev cX3_init : ByteArray := prog_5_method_1_code
def yX3_init : MethodName := ⟨RX3, "<init>", "()V"⟩
abbrev cX3_append : ByteArray := prog_5_method_2_code
def yX3_append : MethodName := ⟨RX3, "append", "(J)I"⟩
abbrev cX3_empty : ByteArray := prog_5_method_3_code
def yX3_empty : MethodName := ⟨RX3, "empty", "()I"⟩
abbrev cX3_lengthOf : ByteArray := prog_5_method_4_code
def yX3_lengthOf : MethodName := ⟨RX3, "lengthOf", "(J)I"⟩
abbrev cX3_codeIn : ByteArray := prog_5_method_5_code
def yX3_codeIn : MethodName := ⟨RX3, "codeIn", "(JI)I"⟩
def RX4 : String := "TeaBlends$Search"
def TX4 : u_T := fun k => match k with
  | 0 => ("TeaBlends$Search", "best", "[I", true)
  | 1 => ("TeaBlends$Search", "bestSum", "I", false)
  | 2 => ("TeaBlends$Search", "leafCount", "I", false)
  | 3 => ("TeaBlends$Search", "tried", "[I", true)
  | 4 => ("TeaBlends$Search", "lowSums", "[I", true)
  | 5 => ("TeaBlends$Search", "highSums", "[I", true)
  | 6 => ("TeaBlends$Search", "values", "[[I", true)
  | 7 => ("TeaBlends$Search", "leastFrom", "[[I", true)
  | 8 => ("TeaBlends$Search", "mostFrom", "[[I", true)
  | _ => ("TeaBlends$Search", "sumsAhead", "[[I", true)
def tyX4 : Nat → FieldType := fun k => match k with
  | 0 => .array .int
  | 1 => .int
  | 2 => .int
  | 3 => .array .int
  | 4 => .array .int
  | 5 => .array .int
  | 6 => .array (.array .int)
  | 7 => .array (.array .int)
  | 8 => .array (.array .int)
  | _ => .array (.array .int)
abbrev wsX40 : List Cond := u_ws RX4 TX4 10
theorem nmX4 : ∀ a, a < 10 → ∀ b, b < 10 → a ≠ b → (TX4 a).2.1 ≠ (TX4 b).2.1 := by decide +kernel
theorem tyX4_ok : ∀ k, k < 10 → parseFieldDescriptor (TX4 k).2.2.1 = some (tyX4 k) := by decide +kernel
abbrev cX4_init : ByteArray := prog_6_method_1_code
def yX4_init : MethodName := ⟨RX4, "<init>", "()V"⟩
abbrev cX4_find : ByteArray := prog_6_method_2_code
def yX4_find : MethodName := ⟨RX4, "find", "(LTeaBlends$Shop;I)Z"⟩
abbrev cX4_readValues : ByteArray := prog_6_method_3_code
def yX4_readValues : MethodName := ⟨RX4, "readValues", "(LTeaBlends$Shop;)V"⟩
abbrev cX4_readBounds : ByteArray := prog_6_method_4_code
def yX4_readBounds : MethodName := ⟨RX4, "readBounds", "(LTeaBlends$Shop;I)V"⟩
abbrev cX4_tryShares : ByteArray := prog_6_method_5_code
def yX4_tryShares : MethodName := ⟨RX4, "tryShares", "(LTeaBlends$Search;II)V"⟩
abbrev cX4_mayImprove : ByteArray := prog_6_method_6_code
def yX4_mayImprove : MethodName := ⟨RX4, "mayImprove", "(II)Z"⟩
abbrev cX4_giveTo : ByteArray := prog_6_method_7_code
def yX4_giveTo : MethodName := ⟨RX4, "giveTo", "(II)V"⟩
abbrev cX4_keepBest : ByteArray := prog_6_method_8_code
def yX4_keepBest : MethodName := ⟨RX4, "keepBest", "(II)V"⟩
def RX5 : String := "TeaBlends$Shop"
def TX5 : u_T := fun k => match k with
  | 0 => ("TeaBlends$Shop", "leaves", "[LTeaBlends$Leaf;", true)
  | 1 => ("TeaBlends$Shop", "low", "[I", true)
  | 2 => ("TeaBlends$Shop", "high", "[I", true)
  | 3 => ("TeaBlends$Shop", "settings", "[I", true)
  | 4 => ("TeaBlends$Shop", "leafCount", "I", false)
  | 5 => ("TeaBlends$Shop", "day", "I", false)
  | 6 => ("TeaBlends$Shop", "mixedGrams", "I", false)
  | _ => ("TeaBlends$Shop", "coins", "I", false)
def tyX5 : Nat → FieldType := fun k => match k with
  | 0 => .array (.object "TeaBlends$Leaf")
  | 1 => .array .int
  | 2 => .array .int
  | 3 => .array .int
  | 4 => .int
  | 5 => .int
  | 6 => .int
  | _ => .int
abbrev wsX50 : List Cond := u_ws RX5 TX5 8
theorem nmX5 : ∀ a, a < 8 → ∀ b, b < 8 → a ≠ b → (TX5 a).2.1 ≠ (TX5 b).2.1 := by decide +kernel
theorem tyX5_ok : ∀ k, k < 8 → parseFieldDescriptor (TX5 k).2.2.1 = some (tyX5 k) := by decide +kernel
abbrev cX5_init : ByteArray := prog_7_method_1_code
def yX5_init : MethodName := ⟨RX5, "<init>", "()V"⟩
abbrev cX5_copyFrom : ByteArray := prog_7_method_2_code
def yX5_copyFrom : MethodName := ⟨RX5, "copyFrom", "(LTeaBlends$Shop;)V"⟩
abbrev cX5_hasLeaf : ByteArray := prog_7_method_3_code
def yX5_hasLeaf : MethodName := ⟨RX5, "hasLeaf", "(I)Z"⟩
abbrev cX5_changeSetting : ByteArray := prog_7_method_4_code
def yX5_changeSetting : MethodName := ⟨RX5, "changeSetting", "(II)I"⟩
abbrev cX5_addLeaf : ByteArray := prog_7_method_5_code
def yX5_addLeaf : MethodName := ⟨RX5, "addLeaf", "(IIIII)I"⟩
abbrev cX5_changeRow : ByteArray := prog_7_method_6_code
def yX5_changeRow : MethodName := ⟨RX5, "changeRow", "(IJ)I"⟩
abbrev cX5_changeIn : ByteArray := prog_7_method_7_code
def yX5_changeIn : MethodName := ⟨RX5, "changeIn", "(JI)I"⟩
abbrev cX5_addGrams : ByteArray := prog_7_method_8_code
def yX5_addGrams : MethodName := ⟨RX5, "addGrams", "(II)I"⟩
abbrev cX5_changeBounds : ByteArray := prog_7_method_9_code
def yX5_changeBounds : MethodName := ⟨RX5, "changeBounds", "(III)I"⟩
abbrev cX5_changeShare : ByteArray := prog_7_method_10_code
def yX5_changeShare : MethodName := ⟨RX5, "changeShare", "(II)I"⟩
abbrev cX5_takeShares : ByteArray := prog_7_method_11_code
def yX5_takeShares : MethodName := ⟨RX5, "takeShares", "([I)V"⟩
abbrev cX5_mixGrams : ByteArray := prog_7_method_12_code
def yX5_mixGrams : MethodName := ⟨RX5, "mixGrams", "(I)I"⟩
abbrev cX5_stocksSuffice : ByteArray := prog_7_method_13_code
def yX5_stocksSuffice : MethodName := ⟨RX5, "stocksSuffice", "(I)Z"⟩
abbrev cX5_passDays : ByteArray := prog_7_method_14_code
def yX5_passDays : MethodName := ⟨RX5, "passDays", "(I)I"⟩
abbrev cX5_priceOf : ByteArray := prog_7_method_15_code
def yX5_priceOf : MethodName := ⟨RX5, "priceOf", "(I)I"⟩
abbrev cX5_tasteOf : ByteArray := prog_7_method_16_code
def yX5_tasteOf : MethodName := ⟨RX5, "tasteOf", "(III)I"⟩
abbrev cX5_blendPrice : ByteArray := prog_7_method_17_code
def yX5_blendPrice : MethodName := ⟨RX5, "blendPrice", "()I"⟩
abbrev cX5_tasteSum : ByteArray := prog_7_method_18_code
def yX5_tasteSum : MethodName := ⟨RX5, "tasteSum", "(II)I"⟩
abbrev cX5_allShares : ByteArray := prog_7_method_19_code
def yX5_allShares : MethodName := ⟨RX5, "allShares", "()I"⟩
abbrev cX5_leavesInBlend : ByteArray := prog_7_method_20_code
def yX5_leavesInBlend : MethodName := ⟨RX5, "leavesInBlend", "()I"⟩
abbrev cX5_whyBroken : ByteArray := prog_7_method_21_code
def yX5_whyBroken : MethodName := ⟨RX5, "whyBroken", "(I)I"⟩
abbrev cX5_gramsByStocks : ByteArray := prog_7_method_22_code
def yX5_gramsByStocks : MethodName := ⟨RX5, "gramsByStocks", "()I"⟩
abbrev cX5_bestSwap : ByteArray := prog_7_method_23_code
def yX5_bestSwap : MethodName := ⟨RX5, "bestSwap", "()I"⟩
abbrev cX5_keepsAfterSwap : ByteArray := prog_7_method_24_code
def yX5_keepsAfterSwap : MethodName := ⟨RX5, "keepsAfterSwap", "(II)Z"⟩
abbrev cX5_canBeLooser : ByteArray := prog_7_method_25_code
def yX5_canBeLooser : MethodName := ⟨RX5, "canBeLooser", "(I)Z"⟩
abbrev cX5_isWithin : ByteArray := prog_7_method_26_code
def yX5_isWithin : MethodName := ⟨RX5, "isWithin", "(III)Z"⟩
def RX6 : String := "TeaBlends"
def TX6 : u_T := fun k => match k with
  | 0 => ("TeaBlends", "shop", "LTeaBlends$Shop;", true)
  | 1 => ("TeaBlends", "history", "LTeaBlends$History;", true)
  | 2 => ("TeaBlends", "slots", "[LTeaBlends$Shop;", true)
  | 3 => ("TeaBlends", "pad", "LTeaBlends$Pad;", true)
  | 4 => ("TeaBlends", "orders", "LTeaBlends$OrderReader;", true)
  | _ => ("TeaBlends", "search", "LTeaBlends$Search;", true)
def tyX6 : Nat → FieldType := fun k => match k with
  | 0 => .object "TeaBlends$Shop"
  | 1 => .object "TeaBlends$History"
  | 2 => .array (.object "TeaBlends$Shop")
  | 3 => .object "TeaBlends$Pad"
  | 4 => .object "TeaBlends$OrderReader"
  | _ => .object "TeaBlends$Search"
abbrev wsX60 : List Cond := u_ws RX6 TX6 6
theorem nmX6 : ∀ a, a < 6 → ∀ b, b < 6 → a ≠ b → (TX6 a).2.1 ≠ (TX6 b).2.1 := by decide +kernel
theorem tyX6_ok : ∀ k, k < 6 → parseFieldDescriptor (TX6 k).2.2.1 = some (tyX6 k) := by decide +kernel
abbrev cX6_init : ByteArray := prog_1_method_1_code
def yX6_init : MethodName := ⟨RX6, "<init>", "()V"⟩
abbrev cX6_set : ByteArray := prog_1_method_2_code
def yX6_set : MethodName := ⟨RX6, "set", "(II)I"⟩
abbrev cX6_leaf : ByteArray := prog_1_method_3_code
def yX6_leaf : MethodName := ⟨RX6, "leaf", "(III)I"⟩
abbrev cX6_row : ByteArray := prog_1_method_4_code
def yX6_row : MethodName := ⟨RX6, "row", "(IJ)I"⟩
abbrev cX6_buy : ByteArray := prog_1_method_5_code
def yX6_buy : MethodName := ⟨RX6, "buy", "(II)I"⟩
abbrev cX6_bound : ByteArray := prog_1_method_6_code
def yX6_bound : MethodName := ⟨RX6, "bound", "(III)I"⟩
abbrev cX6_share : ByteArray := prog_1_method_7_code
def yX6_share : MethodName := ⟨RX6, "share", "(II)I"⟩
abbrev cX6_choose : ByteArray := prog_1_method_8_code
def yX6_choose : MethodName := ⟨RX6, "choose", "()I"⟩
abbrev cX6_mix : ByteArray := prog_1_method_9_code
def yX6_mix : MethodName := ⟨RX6, "mix", "(I)I"⟩
abbrev cX6_pass : ByteArray := prog_1_method_10_code
def yX6_pass : MethodName := ⟨RX6, "pass", "(I)I"⟩
abbrev cX6_of : ByteArray := prog_1_method_11_code
def yX6_of : MethodName := ⟨RX6, "of", "(II)I"⟩
abbrev cX6_blend : ByteArray := prog_1_method_12_code
def yX6_blend : MethodName := ⟨RX6, "blend", "(I)I"⟩
abbrev cX6_why : ByteArray := prog_1_method_13_code
def yX6_why : MethodName := ⟨RX6, "why", "()I"⟩
abbrev cX6_count : ByteArray := prog_1_method_14_code
def yX6_count : MethodName := ⟨RX6, "count", "(I)I"⟩
abbrev cX6_taste : ByteArray := prog_1_method_15_code
def yX6_taste : MethodName := ⟨RX6, "taste", "(I)J"⟩
abbrev cX6_mean : ByteArray := prog_1_method_16_code
def yX6_mean : MethodName := ⟨RX6, "mean", "()I"⟩
abbrev cX6_cheapest : ByteArray := prog_1_method_17_code
def yX6_cheapest : MethodName := ⟨RX6, "cheapest", "(I)I"⟩
abbrev cX6_swap : ByteArray := prog_1_method_18_code
def yX6_swap : MethodName := ⟨RX6, "swap", "(I)I"⟩
abbrev cX6_looser : ByteArray := prog_1_method_19_code
def yX6_looser : MethodName := ⟨RX6, "looser", "(I)I"⟩
abbrev cX6_keepsFor : ByteArray := prog_1_method_20_code
def yX6_keepsFor : MethodName := ⟨RX6, "keepsFor", "()I"⟩
abbrev cX6_mostGrams : ByteArray := prog_1_method_21_code
def yX6_mostGrams : MethodName := ⟨RX6, "mostGrams", "()I"⟩
abbrev cX6_put : ByteArray := prog_1_method_22_code
def yX6_put : MethodName := ⟨RX6, "put", "(J)I"⟩
abbrev cX6_wipe : ByteArray := prog_1_method_23_code
def yX6_wipe : MethodName := ⟨RX6, "wipe", "()I"⟩
abbrev cX6_fault : ByteArray := prog_1_method_24_code
def yX6_fault : MethodName := ⟨RX6, "fault", "()I"⟩
abbrev cX6_carryOut : ByteArray := prog_1_method_25_code
def yX6_carryOut : MethodName := ⟨RX6, "carryOut", "()I"⟩
abbrev cX6_undo : ByteArray := prog_1_method_26_code
def yX6_undo : MethodName := ⟨RX6, "undo", "()I"⟩
abbrev cX6_save : ByteArray := prog_1_method_27_code
def yX6_save : MethodName := ⟨RX6, "save", "(I)I"⟩
abbrev cX6_restore : ByteArray := prog_1_method_28_code
def yX6_restore : MethodName := ⟨RX6, "restore", "(I)I"⟩
abbrev cX6_carryOutOne : ByteArray := prog_1_method_29_code
def yX6_carryOutOne : MethodName := ⟨RX6, "carryOutOne", "()I"⟩
abbrev cX6_bitsOf : ByteArray := prog_1_method_30_code
def yX6_bitsOf : MethodName := ⟨RX6, "bitsOf", "(DII)J"⟩
def RX7 : String := "TeaBlendsModel"
def TX7 : u_T := fun k => match k with
  | 0 => ("TeaBlendsModel", "row", "[I", true)
  | 1 => ("TeaBlendsModel", "past", "[I", true)
  | 2 => ("TeaBlendsModel", "before", "[I", true)
  | 3 => ("TeaBlendsModel", "slots", "[I", true)
  | 4 => ("TeaBlendsModel", "isSaved", "[Z", true)
  | 5 => ("TeaBlendsModel", "states", "I", false)
  | 6 => ("TeaBlendsModel", "pad", "[I", true)
  | 7 => ("TeaBlendsModel", "length", "I", false)
  | 8 => ("TeaBlendsModel", "at", "I", false)
  | 9 => ("TeaBlendsModel", "codes", "[I", true)
  | 10 => ("TeaBlendsModel", "numbers", "[I", true)
  | 11 => ("TeaBlendsModel", "tried", "[I", true)
  | 12 => ("TeaBlendsModel", "prices", "[I", true)
  | 13 => ("TeaBlendsModel", "tastes", "[I", true)
  | 14 => ("TeaBlendsModel", "found", "[I", true)
  | _ => ("TeaBlendsModel", "least", "I", false)
def tyX7 : Nat → FieldType := fun k => match k with
  | 0 => .array .int
  | 1 => .array .int
  | 2 => .array .int
  | 3 => .array .int
  | 4 => .array .boolean
  | 5 => .int
  | 6 => .array .int
  | 7 => .int
  | 8 => .int
  | 9 => .array .int
  | 10 => .array .int
  | 11 => .array .int
  | 12 => .array .int
  | 13 => .array .int
  | 14 => .array .int
  | _ => .int
abbrev wsX70 : List Cond := u_ws RX7 TX7 16
theorem nmX7 : ∀ a, a < 16 → ∀ b, b < 16 → a ≠ b → (TX7 a).2.1 ≠ (TX7 b).2.1 := by decide +kernel
theorem tyX7_ok : ∀ k, k < 16 → parseFieldDescriptor (TX7 k).2.2.1 = some (tyX7 k) := by decide +kernel
abbrev cX7_init : ByteArray := prog_9_method_1_code
def yX7_init : MethodName := ⟨RX7, "<init>", "()V"⟩
abbrev cX7_in : ByteArray := prog_9_method_2_code
def yX7_in : MethodName := ⟨RX7, "in", "(JII)Z"⟩
abbrev cX7_its : ByteArray := prog_9_method_3_code
def yX7_its : MethodName := ⟨RX7, "its", "(II)I"⟩
abbrev cX7_lay : ByteArray := prog_9_method_4_code
def yX7_lay : MethodName := ⟨RX7, "lay", "(III)V"⟩
abbrev cX7_isLeaf : ByteArray := prog_9_method_5_code
def yX7_isLeaf : MethodName := ⟨RX7, "isLeaf", "(I)Z"⟩
abbrev cX7_remember : ByteArray := prog_9_method_6_code
def yX7_remember : MethodName := ⟨RX7, "remember", "()V"⟩
abbrev cX7_record : ByteArray := prog_9_method_7_code
def yX7_record : MethodName := ⟨RX7, "record", "(I)I"⟩
abbrev cX7_undo : ByteArray := prog_9_method_8_code
def yX7_undo : MethodName := ⟨RX7, "undo", "()I"⟩
abbrev cX7_save : ByteArray := prog_9_method_9_code
def yX7_save : MethodName := ⟨RX7, "save", "(I)I"⟩
abbrev cX7_restore : ByteArray := prog_9_method_10_code
def yX7_restore : MethodName := ⟨RX7, "restore", "(I)I"⟩
abbrev cX7_priceOf : ByteArray := prog_9_method_11_code
def yX7_priceOf : MethodName := ⟨RX7, "priceOf", "(I)I"⟩
abbrev cX7_tasteOf : ByteArray := prog_9_method_12_code
def yX7_tasteOf : MethodName := ⟨RX7, "tasteOf", "(III)I"⟩
abbrev cX7_sumOfPrices : ByteArray := prog_9_method_13_code
def yX7_sumOfPrices : MethodName := ⟨RX7, "sumOfPrices", "()I"⟩
abbrev cX7_sumOfTastes : ByteArray := prog_9_method_14_code
def yX7_sumOfTastes : MethodName := ⟨RX7, "sumOfTastes", "(II)I"⟩
abbrev cX7_shares : ByteArray := prog_9_method_15_code
def yX7_shares : MethodName := ⟨RX7, "shares", "()I"⟩
abbrev cX7_reason : ByteArray := prog_9_method_16_code
def yX7_reason : MethodName := ⟨RX7, "reason", "(I)I"⟩
abbrev cX7_layDay : ByteArray := prog_9_method_17_code
def yX7_layDay : MethodName := ⟨RX7, "layDay", "()V"⟩
abbrev cX7_keeps : ByteArray := prog_9_method_18_code
def yX7_keeps : MethodName := ⟨RX7, "keeps", "()Z"⟩
abbrev cX7_triedPrice : ByteArray := prog_9_method_19_code
def yX7_triedPrice : MethodName := ⟨RX7, "triedPrice", "()I"⟩
abbrev cX7_nextTried : ByteArray := prog_9_method_20_code
def yX7_nextTried : MethodName := ⟨RX7, "nextTried", "(I)Z"⟩
abbrev cX7_seek : ByteArray := prog_9_method_21_code
def yX7_seek : MethodName := ⟨RX7, "seek", "()V"⟩
abbrev cX7_comes : ByteArray := prog_9_method_22_code
def yX7_comes : MethodName := ⟨RX7, "comes", "(IIIII)I"⟩
abbrev cX7_gets : ByteArray := prog_9_method_23_code
def yX7_gets : MethodName := ⟨RX7, "gets", "(II)I"⟩
abbrev cX7_needs : ByteArray := prog_9_method_24_code
def yX7_needs : MethodName := ⟨RX7, "needs", "(II)I"⟩
abbrev cX7_suffices : ByteArray := prog_9_method_25_code
def yX7_suffices : MethodName := ⟨RX7, "suffices", "(I)Z"⟩
abbrev cX7_mixes : ByteArray := prog_9_method_26_code
def yX7_mixes : MethodName := ⟨RX7, "mixes", "(I)I"⟩
abbrev cX7_waits : ByteArray := prog_9_method_27_code
def yX7_waits : MethodName := ⟨RX7, "waits", "(I)I"⟩
abbrev cX7_set : ByteArray := prog_9_method_28_code
def yX7_set : MethodName := ⟨RX7, "set", "(II)I"⟩
abbrev cX7_leaf : ByteArray := prog_9_method_29_code
def yX7_leaf : MethodName := ⟨RX7, "leaf", "(III)I"⟩
abbrev cX7_row : ByteArray := prog_9_method_30_code
def yX7_row : MethodName := ⟨RX7, "row", "(IJ)I"⟩
abbrev cX7_buy : ByteArray := prog_9_method_31_code
def yX7_buy : MethodName := ⟨RX7, "buy", "(II)I"⟩
abbrev cX7_bound : ByteArray := prog_9_method_32_code
def yX7_bound : MethodName := ⟨RX7, "bound", "(III)I"⟩
abbrev cX7_share : ByteArray := prog_9_method_33_code
def yX7_share : MethodName := ⟨RX7, "share", "(II)I"⟩
abbrev cX7_choose : ByteArray := prog_9_method_34_code
def yX7_choose : MethodName := ⟨RX7, "choose", "()I"⟩
abbrev cX7_mix : ByteArray := prog_9_method_35_code
def yX7_mix : MethodName := ⟨RX7, "mix", "(I)I"⟩
abbrev cX7_pass : ByteArray := prog_9_method_36_code
def yX7_pass : MethodName := ⟨RX7, "pass", "(I)I"⟩
abbrev cX7_of : ByteArray := prog_9_method_37_code
def yX7_of : MethodName := ⟨RX7, "of", "(II)I"⟩
abbrev cX7_mask : ByteArray := prog_9_method_38_code
def yX7_mask : MethodName := ⟨RX7, "mask", "()I"⟩
abbrev cX7_blend : ByteArray := prog_9_method_39_code
def yX7_blend : MethodName := ⟨RX7, "blend", "(I)I"⟩
abbrev cX7_why : ByteArray := prog_9_method_40_code
def yX7_why : MethodName := ⟨RX7, "why", "()I"⟩
abbrev cX7_count : ByteArray := prog_9_method_41_code
def yX7_count : MethodName := ⟨RX7, "count", "(I)I"⟩
abbrev cX7_taste : ByteArray := prog_9_method_42_code
def yX7_taste : MethodName := ⟨RX7, "taste", "(I)J"⟩
abbrev cX7_mean : ByteArray := prog_9_method_43_code
def yX7_mean : MethodName := ⟨RX7, "mean", "()I"⟩
abbrev cX7_cheapest : ByteArray := prog_9_method_44_code
def yX7_cheapest : MethodName := ⟨RX7, "cheapest", "(I)I"⟩
abbrev cX7_swap : ByteArray := prog_9_method_45_code
def yX7_swap : MethodName := ⟨RX7, "swap", "(I)I"⟩
abbrev cX7_looser : ByteArray := prog_9_method_46_code
def yX7_looser : MethodName := ⟨RX7, "looser", "(I)I"⟩
abbrev cX7_keepsFor : ByteArray := prog_9_method_47_code
def yX7_keepsFor : MethodName := ⟨RX7, "keepsFor", "()I"⟩
abbrev cX7_mostGrams : ByteArray := prog_9_method_48_code
def yX7_mostGrams : MethodName := ⟨RX7, "mostGrams", "()I"⟩
abbrev cX7_put : ByteArray := prog_9_method_49_code
def yX7_put : MethodName := ⟨RX7, "put", "(J)I"⟩
abbrev cX7_wipe : ByteArray := prog_9_method_50_code
def yX7_wipe : MethodName := ⟨RX7, "wipe", "()I"⟩
abbrev cX7_sees : ByteArray := prog_9_method_51_code
def yX7_sees : MethodName := ⟨RX7, "sees", "(II)Z"⟩
abbrev cX7_sign : ByteArray := prog_9_method_52_code
def yX7_sign : MethodName := ⟨RX7, "sign", "(I)Z"⟩
abbrev cX7_number : ByteArray := prog_9_method_53_code
def yX7_number : MethodName := ⟨RX7, "number", "(I)Z"⟩
abbrev cX7_digit : ByteArray := prog_9_method_54_code
def yX7_digit : MethodName := ⟨RX7, "digit", "()Z"⟩
abbrev cX7_order : ByteArray := prog_9_method_55_code
def yX7_order : MethodName := ⟨RX7, "order", "(Z)I"⟩
abbrev cX7_isWell : ByteArray := prog_9_method_56_code
def yX7_isWell : MethodName := ⟨RX7, "isWell", "()Z"⟩
abbrev cX7_fault : ByteArray := prog_9_method_57_code
def yX7_fault : MethodName := ⟨RX7, "fault", "()I"⟩
abbrev cX7_carryOut : ByteArray := prog_9_method_58_code
def yX7_carryOut : MethodName := ⟨RX7, "carryOut", "()I"⟩
def RJx145de : String := "java/io/Serializable"
def TJx145de : u_T := fun k => match k with
  | _ => ("", "", "", false)
def tyJx145de : Nat → FieldType := fun k => match k with
  | _ => .int
theorem nmJx145de : ∀ a, a < 0 → ∀ b, b < 0 → a ≠ b → (TJx145de a).2.1 ≠ (TJx145de b).2.1 := by decide +kernel
theorem tyJx145de_ok : ∀ k, k < 0 → parseFieldDescriptor (TJx145de k).2.2.1 = some (tyJx145de k) := by decide +kernel
def RJx9f9b0 : String := "java/lang/CharSequence"
def TJx9f9b0 : u_T := fun k => match k with
  | _ => ("", "", "", false)
def tyJx9f9b0 : Nat → FieldType := fun k => match k with
  | _ => .int
theorem nmJx9f9b0 : ∀ a, a < 0 → ∀ b, b < 0 → a ≠ b → (TJx9f9b0 a).2.1 ≠ (TJx9f9b0 b).2.1 := by decide +kernel
theorem tyJx9f9b0_ok : ∀ k, k < 0 → parseFieldDescriptor (TJx9f9b0 k).2.2.1 = some (tyJx9f9b0 k) := by decide +kernel
def RJx8e188 : String := "java/lang/Cloneable"
def TJx8e188 : u_T := fun k => match k with
  | _ => ("", "", "", false)
def tyJx8e188 : Nat → FieldType := fun k => match k with
  | _ => .int
theorem nmJx8e188 : ∀ a, a < 0 → ∀ b, b < 0 → a ≠ b → (TJx8e188 a).2.1 ≠ (TJx8e188 b).2.1 := by decide +kernel
theorem tyJx8e188_ok : ∀ k, k < 0 → parseFieldDescriptor (TJx8e188 k).2.2.1 = some (tyJx8e188 k) := by decide +kernel
def RJxb160c : String := "java/lang/Comparable"
def TJxb160c : u_T := fun k => match k with
  | _ => ("", "", "", false)
def tyJxb160c : Nat → FieldType := fun k => match k with
  | _ => .int
theorem nmJxb160c : ∀ a, a < 0 → ∀ b, b < 0 → a ≠ b → (TJxb160c a).2.1 ≠ (TJxb160c b).2.1 := by decide +kernel
theorem tyJxb160c_ok : ∀ k, k < 0 → parseFieldDescriptor (TJxb160c k).2.2.1 = some (tyJxb160c k) := by decide +kernel
def RJxe99ae : String := "java/lang/Double"
def TJxe99ae : u_T := fun k => match k with
  | _ => ("", "", "", false)
def tyJxe99ae : Nat → FieldType := fun k => match k with
  | _ => .int
theorem nmJxe99ae : ∀ a, a < 0 → ∀ b, b < 0 → a ≠ b → (TJxe99ae a).2.1 ≠ (TJxe99ae b).2.1 := by decide +kernel
theorem tyJxe99ae_ok : ∀ k, k < 0 → parseFieldDescriptor (TJxe99ae k).2.2.1 = some (tyJxe99ae k) := by decide +kernel
abbrev cJxe99ae_isNaN_b9ae7 : ByteArray := prog_11_method_6_code
def yJxe99ae_isNaN_b9ae7 : MethodName := ⟨RJxe99ae, "isNaN", "(D)Z"⟩
abbrev cJxe99ae_doubleToLongBits_ccdee : ByteArray := prog_11_method_23_code
def yJxe99ae_doubleToLongBits_ccdee : MethodName := ⟨RJxe99ae, "doubleToLongBits", "(D)J"⟩
def RJxf58ca : String := "java/lang/Float"
def TJxf58ca : u_T := fun k => match k with
  | _ => ("", "", "", false)
def tyJxf58ca : Nat → FieldType := fun k => match k with
  | _ => .int
theorem nmJxf58ca : ∀ a, a < 0 → ∀ b, b < 0 → a ≠ b → (TJxf58ca a).2.1 ≠ (TJxf58ca b).2.1 := by decide +kernel
theorem tyJxf58ca_ok : ∀ k, k < 0 → parseFieldDescriptor (TJxf58ca k).2.2.1 = some (tyJxf58ca k) := by decide +kernel
abbrev cJxf58ca_isNaN_12338 : ByteArray := prog_12_method_6_code
def yJxf58ca_isNaN_12338 : MethodName := ⟨RJxf58ca, "isNaN", "(F)Z"⟩
abbrev cJxf58ca_floatToIntBits_5c35a : ByteArray := prog_12_method_24_code
def yJxf58ca_floatToIntBits_5c35a : MethodName := ⟨RJxf58ca, "floatToIntBits", "(F)I"⟩
def RJ9 : String := "java/lang/Math"
def TJ9 : u_T := fun k => match k with
  | _ => ("", "", "", false)
def tyJ9 : Nat → FieldType := fun k => match k with
  | _ => .int
theorem nmJ9 : ∀ a, a < 0 → ∀ b, b < 0 → a ≠ b → (TJ9 a).2.1 ≠ (TJ9 b).2.1 := by decide +kernel
theorem tyJ9_ok : ∀ k, k < 0 → parseFieldDescriptor (TJ9 k).2.2.1 = some (tyJ9 k) := by decide +kernel
abbrev cJ9_max_7cf53 : ByteArray := prog_13_method_65_code
def yJ9_max_7cf53 : MethodName := ⟨RJ9, "max", "(II)I"⟩
abbrev cJ9_min_7cf53 : ByteArray := prog_13_method_69_code
def yJ9_min_7cf53 : MethodName := ⟨RJ9, "min", "(II)I"⟩
def RJxd2413 : String := "java/lang/Number"
def TJxd2413 : u_T := fun k => match k with
  | _ => ("", "", "", false)
def tyJxd2413 : Nat → FieldType := fun k => match k with
  | _ => .int
theorem nmJxd2413 : ∀ a, a < 0 → ∀ b, b < 0 → a ≠ b → (TJxd2413 a).2.1 ≠ (TJxd2413 b).2.1 := by decide +kernel
theorem tyJxd2413_ok : ∀ k, k < 0 → parseFieldDescriptor (TJxd2413 k).2.2.1 = some (tyJxd2413 k) := by decide +kernel
def RJ0 : String := "java/lang/String"
def TJ0 : u_T := fun k => match k with
  | _ => ("", "", "", false)
def tyJ0 : Nat → FieldType := fun k => match k with
  | _ => .int
theorem nmJ0 : ∀ a, a < 0 → ∀ b, b < 0 → a ≠ b → (TJ0 a).2.1 ≠ (TJ0 b).2.1 := by decide +kernel
theorem tyJ0_ok : ∀ k, k < 0 → parseFieldDescriptor (TJ0 k).2.2.1 = some (tyJ0 k) := by decide +kernel
abbrev cJ0_length_8abf5 : ByteArray := prog_15_method_54_code
def yJ0_length_8abf5 : MethodName := ⟨RJ0, "length", "()I"⟩
abbrev cJ0_isEmpty_aae02 : ByteArray := prog_15_method_55_code
def yJ0_isEmpty_aae02 : MethodName := ⟨RJ0, "isEmpty", "()Z"⟩
abbrev cJ0_charAt_5068e : ByteArray := prog_15_method_56_code
def yJ0_charAt_5068e : MethodName := ⟨RJ0, "charAt", "(I)C"⟩
abbrev cJ0_coder_7d493 : ByteArray := prog_15_method_152_code
def yJ0_coder_7d493 : MethodName := ⟨RJ0, "coder", "()B"⟩
abbrev cJ0_isLatin1_aae02 : ByteArray := prog_15_method_154_code
def yJ0_isLatin1_aae02 : MethodName := ⟨RJ0, "isLatin1", "()Z"⟩
abbrev cJ0_checkIndex_df160 : ByteArray := prog_15_method_155_code
def yJ0_checkIndex_df160 : MethodName := ⟨RJ0, "checkIndex", "(II)V"⟩
def RJ1 : String := "java/lang/StringLatin1"
def TJ1 : u_T := fun k => match k with
  | _ => ("", "", "", false)
def tyJ1 : Nat → FieldType := fun k => match k with
  | _ => .int
theorem nmJ1 : ∀ a, a < 0 → ∀ b, b < 0 → a ≠ b → (TJ1 a).2.1 ≠ (TJ1 b).2.1 := by decide +kernel
theorem tyJ1_ok : ∀ k, k < 0 → parseFieldDescriptor (TJ1 k).2.2.1 = some (tyJ1 k) := by decide +kernel
abbrev cJ1_charAt_3b067 : ByteArray := prog_16_method_2_code
def yJ1_charAt_3b067 : MethodName := ⟨RJ1, "charAt", "([BI)C"⟩
def RJ2 : String := "java/lang/StringUTF16"
def TJ2 : u_T := fun k => match k with
  | _ => ("", "", "", false)
def tyJ2 : Nat → FieldType := fun k => match k with
  | _ => .int
theorem nmJ2 : ∀ a, a < 0 → ∀ b, b < 0 → a ≠ b → (TJ2 a).2.1 ≠ (TJ2 b).2.1 := by decide +kernel
theorem tyJ2_ok : ∀ k, k < 0 → parseFieldDescriptor (TJ2 k).2.2.1 = some (tyJ2 k) := by decide +kernel
abbrev cJ2_getChar_3b067 : ByteArray := prog_17_method_5_code
def yJ2_getChar_3b067 : MethodName := ⟨RJ2, "getChar", "([BI)C"⟩
abbrev cJ2_length_9d52b : ByteArray := prog_17_method_6_code
def yJ2_length_9d52b : MethodName := ⟨RJ2, "length", "([B)I"⟩
abbrev cJ2_charAt_3b067 : ByteArray := prog_17_method_83_code
def yJ2_charAt_3b067 : MethodName := ⟨RJ2, "charAt", "([BI)C"⟩
abbrev cJ2_checkIndex_2214a : ByteArray := prog_17_method_91_code
def yJ2_checkIndex_2214a : MethodName := ⟨RJ2, "checkIndex", "(I[B)V"⟩
def RJ10 : String := "java/lang/System"
def TJ10 : u_T := fun k => match k with
  | _ => ("", "", "", false)
def tyJ10 : Nat → FieldType := fun k => match k with
  | _ => .int
theorem nmJ10 : ∀ a, a < 0 → ∀ b, b < 0 → a ≠ b → (TJ10 a).2.1 ≠ (TJ10 b).2.1 := by decide +kernel
theorem tyJ10_ok : ∀ k, k < 0 → parseFieldDescriptor (TJ10 k).2.2.1 = some (tyJ10 k) := by decide +kernel
def RJxfd54e : String := "java/lang/constant/Constable"
def TJxfd54e : u_T := fun k => match k with
  | _ => ("", "", "", false)
def tyJxfd54e : Nat → FieldType := fun k => match k with
  | _ => .int
theorem nmJxfd54e : ∀ a, a < 0 → ∀ b, b < 0 → a ≠ b → (TJxfd54e a).2.1 ≠ (TJxfd54e b).2.1 := by decide +kernel
theorem tyJxfd54e_ok : ∀ k, k < 0 → parseFieldDescriptor (TJxfd54e k).2.2.1 = some (tyJxfd54e k) := by decide +kernel
def RJx3cf43 : String := "java/lang/constant/ConstantDesc"
def TJx3cf43 : u_T := fun k => match k with
  | _ => ("", "", "", false)
def tyJx3cf43 : Nat → FieldType := fun k => match k with
  | _ => .int
theorem nmJx3cf43 : ∀ a, a < 0 → ∀ b, b < 0 → a ≠ b → (TJx3cf43 a).2.1 ≠ (TJx3cf43 b).2.1 := by decide +kernel
theorem tyJx3cf43_ok : ∀ k, k < 0 → parseFieldDescriptor (TJx3cf43 k).2.2.1 = some (tyJx3cf43 k) := by decide +kernel
def RJ7 : String := "java/util/Arrays"
def TJ7 : u_T := fun k => match k with
  | _ => ("", "", "", false)
def tyJ7 : Nat → FieldType := fun k => match k with
  | _ => .int
theorem nmJ7 : ∀ a, a < 0 → ∀ b, b < 0 → a ≠ b → (TJ7 a).2.1 ≠ (TJ7 b).2.1 := by decide +kernel
theorem tyJ7_ok : ∀ k, k < 0 → parseFieldDescriptor (TJ7 k).2.2.1 = some (tyJ7 k) := by decide +kernel
abbrev cJ7_fill_53178 : ByteArray := prog_19_method_103_code
def yJ7_fill_53178 : MethodName := ⟨RJ7, "fill", "([II)V"⟩
def RJ3 : String := "jdk/internal/util/Preconditions"
def TJ3 : u_T := fun k => match k with
  | _ => ("", "", "", false)
def tyJ3 : Nat → FieldType := fun k => match k with
  | _ => .int
theorem nmJ3 : ∀ a, a < 0 → ∀ b, b < 0 → a ≠ b → (TJ3 a).2.1 ≠ (TJ3 b).2.1 := by decide +kernel
theorem tyJ3_ok : ∀ k, k < 0 → parseFieldDescriptor (TJ3 k).2.2.1 = some (tyJ3 k) := by decide +kernel
abbrev cJ3_checkIndex_8e157 : ByteArray := prog_20_method_11_code
def yJ3_checkIndex_8e157 : MethodName := ⟨RJ3, "checkIndex", "(IILjava/util/function/BiFunction;)I"⟩
def RL : String := "TeaBlendsLaw"
abbrev cL_law : ByteArray := code
def yL_law : MethodName := ⟨RL, "law", "([I)Z"⟩
theorem dX0_init_0 : decode cX0_init 0 = .ok (.aload_n 0, 1) := by decide +kernel
theorem dX0_init_1 : decode cX0_init 1 = .ok (.invokespecial 3, 3) := by decide +kernel
theorem dX0_init_4 : decode cX0_init 4 = .ok (.aload_n 0, 1) := by decide +kernel
theorem dX0_init_5 : decode cX0_init 5 = .ok (.bipush 7, 2) := by decide +kernel
theorem dX0_init_7 : decode cX0_init 7 = .ok (.anewarray 11, 3) := by decide +kernel
theorem dX0_init_10 : decode cX0_init 10 = .ok (.putfield 13, 3) := by decide +kernel
theorem dX0_init_13 : decode cX0_init 13 = .ok (.iconst 0, 1) := by decide +kernel
theorem dX0_init_14 : decode cX0_init 14 = .ok (.istore_n 1, 1) := by decide +kernel
theorem dX0_init_15 : decode cX0_init 15 = .ok (.iload_n 1, 1) := by decide +kernel
theorem dX0_init_16 : decode cX0_init 16 = .ok (.aload_n 0, 1) := by decide +kernel
theorem dX0_init_17 : decode cX0_init 17 = .ok (.getfield 13, 3) := by decide +kernel
theorem dX0_init_20 : decode cX0_init 20 = .ok (.arraylength, 1) := by decide +kernel
theorem dX0_init_21 : decode cX0_init 21 = .ok (.if_icmp .ge 22, 3) := by decide +kernel
theorem dX0_init_24 : decode cX0_init 24 = .ok (.aload_n 0, 1) := by decide +kernel
theorem dX0_init_25 : decode cX0_init 25 = .ok (.getfield 13, 3) := by decide +kernel
theorem dX0_init_28 : decode cX0_init 28 = .ok (.iload_n 1, 1) := by decide +kernel
theorem dX0_init_29 : decode cX0_init 29 = .ok (.new 11, 3) := by decide +kernel
theorem dX0_init_32 : decode cX0_init 32 = .ok (.dup, 1) := by decide +kernel
theorem dX0_init_33 : decode cX0_init 33 = .ok (.invokespecial 17, 3) := by decide +kernel
theorem dX0_init_36 : decode cX0_init 36 = .ok (.aastore, 1) := by decide +kernel
theorem dX0_init_37 : decode cX0_init 37 = .ok (.iinc 1 1, 3) := by decide +kernel
theorem dX0_init_40 : decode cX0_init 40 = .ok (.goto (-25), 3) := by decide +kernel
theorem dX0_init_43 : decode cX0_init 43 = .ok (.return_, 1) := by decide +kernel
theorem dX0_draft_0 : decode cX0_draft 0 = .ok (.aload_n 0, 1) := by decide +kernel
theorem dX0_draft_1 : decode cX0_draft 1 = .ok (.getfield 13, 3) := by decide +kernel
theorem dX0_draft_4 : decode cX0_draft 4 = .ok (.aload_n 0, 1) := by decide +kernel
theorem dX0_draft_5 : decode cX0_draft 5 = .ok (.getfield 18, 3) := by decide +kernel
theorem dX0_draft_8 : decode cX0_draft 8 = .ok (.aaload, 1) := by decide +kernel
theorem dX0_draft_9 : decode cX0_draft 9 = .ok (.aload_n 1, 1) := by decide +kernel
theorem dX0_draft_10 : decode cX0_draft 10 = .ok (.invokevirtual 22, 3) := by decide +kernel
theorem dX0_draft_13 : decode cX0_draft 13 = .ok (.return_, 1) := by decide +kernel
theorem dX0_settle_0 : decode cX0_settle 0 = .ok (.iload_n 1, 1) := by decide +kernel
theorem dX0_settle_1 : decode cX0_settle 1 = .ok (.ifCond .lt 31, 3) := by decide +kernel
theorem dX0_settle_4 : decode cX0_settle 4 = .ok (.aload_n 0, 1) := by decide +kernel
theorem dX0_settle_5 : decode cX0_settle 5 = .ok (.aload_n 0, 1) := by decide +kernel
theorem dX0_settle_6 : decode cX0_settle 6 = .ok (.getfield 18, 3) := by decide +kernel
theorem dX0_settle_9 : decode cX0_settle 9 = .ok (.iconst 1, 1) := by decide +kernel
theorem dX0_settle_10 : decode cX0_settle 10 = .ok (.iadd, 1) := by decide +kernel
theorem dX0_settle_11 : decode cX0_settle 11 = .ok (.bipush 7, 2) := by decide +kernel
theorem dX0_settle_13 : decode cX0_settle 13 = .ok (.irem, 1) := by decide +kernel
theorem dX0_settle_14 : decode cX0_settle 14 = .ok (.putfield 18, 3) := by decide +kernel
theorem dX0_settle_17 : decode cX0_settle 17 = .ok (.aload_n 0, 1) := by decide +kernel
theorem dX0_settle_18 : decode cX0_settle 18 = .ok (.aload_n 0, 1) := by decide +kernel
theorem dX0_settle_19 : decode cX0_settle 19 = .ok (.getfield 26, 3) := by decide +kernel
theorem dX0_settle_22 : decode cX0_settle 22 = .ok (.iconst 1, 1) := by decide +kernel
theorem dX0_settle_23 : decode cX0_settle 23 = .ok (.iadd, 1) := by decide +kernel
theorem dX0_settle_24 : decode cX0_settle 24 = .ok (.bipush 6, 2) := by decide +kernel
theorem dX0_settle_26 : decode cX0_settle 26 = .ok (.invokestatic 29, 3) := by decide +kernel
theorem dX0_settle_29 : decode cX0_settle 29 = .ok (.putfield 26, 3) := by decide +kernel
theorem dX0_settle_32 : decode cX0_settle 32 = .ok (.iload_n 1, 1) := by decide +kernel
theorem dX0_settle_33 : decode cX0_settle 33 = .ok (.ireturn, 1) := by decide +kernel
theorem dX0_takeBack_0 : decode cX0_takeBack 0 = .ok (.aload_n 0, 1) := by decide +kernel
theorem dX0_takeBack_1 : decode cX0_takeBack 1 = .ok (.getfield 26, 3) := by decide +kernel
theorem dX0_takeBack_4 : decode cX0_takeBack 4 = .ok (.ifCond .ne 5, 3) := by decide +kernel
theorem dX0_takeBack_7 : decode cX0_takeBack 7 = .ok (.iconst 0, 1) := by decide +kernel
theorem dX0_takeBack_8 : decode cX0_takeBack 8 = .ok (.ireturn, 1) := by decide +kernel
theorem dX0_takeBack_9 : decode cX0_takeBack 9 = .ok (.aload_n 0, 1) := by decide +kernel
theorem dX0_takeBack_10 : decode cX0_takeBack 10 = .ok (.dup, 1) := by decide +kernel
theorem dX0_takeBack_11 : decode cX0_takeBack 11 = .ok (.getfield 26, 3) := by decide +kernel
theorem dX0_takeBack_14 : decode cX0_takeBack 14 = .ok (.iconst 1, 1) := by decide +kernel
theorem dX0_takeBack_15 : decode cX0_takeBack 15 = .ok (.isub, 1) := by decide +kernel
theorem dX0_takeBack_16 : decode cX0_takeBack 16 = .ok (.putfield 26, 3) := by decide +kernel
theorem dX0_takeBack_19 : decode cX0_takeBack 19 = .ok (.aload_n 0, 1) := by decide +kernel
theorem dX0_takeBack_20 : decode cX0_takeBack 20 = .ok (.aload_n 0, 1) := by decide +kernel
theorem dX0_takeBack_21 : decode cX0_takeBack 21 = .ok (.getfield 18, 3) := by decide +kernel
theorem dX0_takeBack_24 : decode cX0_takeBack 24 = .ok (.bipush 7, 2) := by decide +kernel
theorem dX0_takeBack_26 : decode cX0_takeBack 26 = .ok (.iadd, 1) := by decide +kernel
theorem dX0_takeBack_27 : decode cX0_takeBack 27 = .ok (.iconst 1, 1) := by decide +kernel
theorem dX0_takeBack_28 : decode cX0_takeBack 28 = .ok (.isub, 1) := by decide +kernel
theorem dX0_takeBack_29 : decode cX0_takeBack 29 = .ok (.bipush 7, 2) := by decide +kernel
theorem dX0_takeBack_31 : decode cX0_takeBack 31 = .ok (.irem, 1) := by decide +kernel
theorem dX0_takeBack_32 : decode cX0_takeBack 32 = .ok (.putfield 18, 3) := by decide +kernel
theorem dX0_takeBack_35 : decode cX0_takeBack 35 = .ok (.aload_n 1, 1) := by decide +kernel
theorem dX0_takeBack_36 : decode cX0_takeBack 36 = .ok (.aload_n 0, 1) := by decide +kernel
theorem dX0_takeBack_37 : decode cX0_takeBack 37 = .ok (.getfield 13, 3) := by decide +kernel
theorem dX0_takeBack_40 : decode cX0_takeBack 40 = .ok (.aload_n 0, 1) := by decide +kernel
theorem dX0_takeBack_41 : decode cX0_takeBack 41 = .ok (.getfield 18, 3) := by decide +kernel
theorem dX0_takeBack_44 : decode cX0_takeBack 44 = .ok (.aaload, 1) := by decide +kernel
theorem dX0_takeBack_45 : decode cX0_takeBack 45 = .ok (.invokevirtual 22, 3) := by decide +kernel
theorem dX0_takeBack_48 : decode cX0_takeBack 48 = .ok (.iconst 1, 1) := by decide +kernel
theorem dX0_takeBack_49 : decode cX0_takeBack 49 = .ok (.ireturn, 1) := by decide +kernel
theorem dX1_init_0 : decode cX1_init 0 = .ok (.aload_n 0, 1) := by decide +kernel
theorem dX1_init_1 : decode cX1_init 1 = .ok (.invokespecial 3, 3) := by decide +kernel
theorem dX1_init_4 : decode cX1_init 4 = .ok (.aload_n 0, 1) := by decide +kernel
theorem dX1_init_5 : decode cX1_init 5 = .ok (.bipush 7, 2) := by decide +kernel
theorem dX1_init_7 : decode cX1_init 7 = .ok (.newarray .int, 2) := by decide +kernel
theorem dX1_init_9 : decode cX1_init 9 = .ok (.putfield 9, 3) := by decide +kernel
theorem dX1_init_12 : decode cX1_init 12 = .ok (.aload_n 0, 1) := by decide +kernel
theorem dX1_init_13 : decode cX1_init 13 = .ok (.iconst 3, 1) := by decide +kernel
theorem dX1_init_14 : decode cX1_init 14 = .ok (.newarray .int, 2) := by decide +kernel
theorem dX1_init_16 : decode cX1_init 16 = .ok (.putfield 15, 3) := by decide +kernel
theorem dX1_init_19 : decode cX1_init 19 = .ok (.return_, 1) := by decide +kernel
theorem dX1_copyFrom_0 : decode cX1_copyFrom 0 = .ok (.aload_n 0, 1) := by decide +kernel
theorem dX1_copyFrom_1 : decode cX1_copyFrom 1 = .ok (.aload_n 1, 1) := by decide +kernel
theorem dX1_copyFrom_2 : decode cX1_copyFrom 2 = .ok (.getfield 18, 3) := by decide +kernel
theorem dX1_copyFrom_5 : decode cX1_copyFrom 5 = .ok (.putfield 18, 3) := by decide +kernel
theorem dX1_copyFrom_8 : decode cX1_copyFrom 8 = .ok (.aload_n 0, 1) := by decide +kernel
theorem dX1_copyFrom_9 : decode cX1_copyFrom 9 = .ok (.aload_n 1, 1) := by decide +kernel
theorem dX1_copyFrom_10 : decode cX1_copyFrom 10 = .ok (.getfield 22, 3) := by decide +kernel
theorem dX1_copyFrom_13 : decode cX1_copyFrom 13 = .ok (.putfield 22, 3) := by decide +kernel
theorem dX1_copyFrom_16 : decode cX1_copyFrom 16 = .ok (.aload_n 0, 1) := by decide +kernel
theorem dX1_copyFrom_17 : decode cX1_copyFrom 17 = .ok (.aload_n 1, 1) := by decide +kernel
theorem dX1_copyFrom_18 : decode cX1_copyFrom 18 = .ok (.getfield 25, 3) := by decide +kernel
theorem dX1_copyFrom_21 : decode cX1_copyFrom 21 = .ok (.putfield 25, 3) := by decide +kernel
theorem dX1_copyFrom_24 : decode cX1_copyFrom 24 = .ok (.aload_n 0, 1) := by decide +kernel
theorem dX1_copyFrom_25 : decode cX1_copyFrom 25 = .ok (.aload_n 1, 1) := by decide +kernel
theorem dX1_copyFrom_26 : decode cX1_copyFrom 26 = .ok (.getfield 28, 3) := by decide +kernel
theorem dX1_copyFrom_29 : decode cX1_copyFrom 29 = .ok (.putfield 28, 3) := by decide +kernel
theorem dX1_copyFrom_32 : decode cX1_copyFrom 32 = .ok (.aload_n 1, 1) := by decide +kernel
theorem dX1_copyFrom_33 : decode cX1_copyFrom 33 = .ok (.getfield 9, 3) := by decide +kernel
theorem dX1_copyFrom_36 : decode cX1_copyFrom 36 = .ok (.iconst 0, 1) := by decide +kernel
theorem dX1_copyFrom_37 : decode cX1_copyFrom 37 = .ok (.aload_n 0, 1) := by decide +kernel
theorem dX1_copyFrom_38 : decode cX1_copyFrom 38 = .ok (.getfield 9, 3) := by decide +kernel
theorem dX1_copyFrom_41 : decode cX1_copyFrom 41 = .ok (.iconst 0, 1) := by decide +kernel
theorem dX1_copyFrom_42 : decode cX1_copyFrom 42 = .ok (.bipush 7, 2) := by decide +kernel
theorem dX1_copyFrom_44 : decode cX1_copyFrom 44 = .ok (.invokestatic 31, 3) := by decide +kernel
theorem dX1_copyFrom_47 : decode cX1_copyFrom 47 = .ok (.aload_n 1, 1) := by decide +kernel
theorem dX1_copyFrom_48 : decode cX1_copyFrom 48 = .ok (.getfield 15, 3) := by decide +kernel
theorem dX1_copyFrom_51 : decode cX1_copyFrom 51 = .ok (.iconst 0, 1) := by decide +kernel
theorem dX1_copyFrom_52 : decode cX1_copyFrom 52 = .ok (.aload_n 0, 1) := by decide +kernel
theorem dX1_copyFrom_53 : decode cX1_copyFrom 53 = .ok (.getfield 15, 3) := by decide +kernel
theorem dX1_copyFrom_56 : decode cX1_copyFrom 56 = .ok (.iconst 0, 1) := by decide +kernel
theorem dX1_copyFrom_57 : decode cX1_copyFrom 57 = .ok (.iconst 3, 1) := by decide +kernel
theorem dX1_copyFrom_58 : decode cX1_copyFrom 58 = .ok (.invokestatic 31, 3) := by decide +kernel
theorem dX1_copyFrom_61 : decode cX1_copyFrom 61 = .ok (.return_, 1) := by decide +kernel
theorem dX1_comeFresh_0 : decode cX1_comeFresh 0 = .ok (.aload_n 0, 1) := by decide +kernel
theorem dX1_comeFresh_1 : decode cX1_comeFresh 1 = .ok (.iload_n 1, 1) := by decide +kernel
theorem dX1_comeFresh_2 : decode cX1_comeFresh 2 = .ok (.putfield 18, 3) := by decide +kernel
theorem dX1_comeFresh_5 : decode cX1_comeFresh 5 = .ok (.aload_n 0, 1) := by decide +kernel
theorem dX1_comeFresh_6 : decode cX1_comeFresh 6 = .ok (.iload_n 2, 1) := by decide +kernel
theorem dX1_comeFresh_7 : decode cX1_comeFresh 7 = .ok (.putfield 22, 3) := by decide +kernel
theorem dX1_comeFresh_10 : decode cX1_comeFresh 10 = .ok (.aload_n 0, 1) := by decide +kernel
theorem dX1_comeFresh_11 : decode cX1_comeFresh 11 = .ok (.iconst 0, 1) := by decide +kernel
theorem dX1_comeFresh_12 : decode cX1_comeFresh 12 = .ok (.putfield 25, 3) := by decide +kernel
theorem dX1_comeFresh_15 : decode cX1_comeFresh 15 = .ok (.aload_n 0, 1) := by decide +kernel
theorem dX1_comeFresh_16 : decode cX1_comeFresh 16 = .ok (.iconst 0, 1) := by decide +kernel
theorem dX1_comeFresh_17 : decode cX1_comeFresh 17 = .ok (.putfield 28, 3) := by decide +kernel
theorem dX1_comeFresh_20 : decode cX1_comeFresh 20 = .ok (.aload_n 0, 1) := by decide +kernel
theorem dX1_comeFresh_21 : decode cX1_comeFresh 21 = .ok (.getfield 9, 3) := by decide +kernel
theorem dX1_comeFresh_24 : decode cX1_comeFresh 24 = .ok (.iconst 0, 1) := by decide +kernel
theorem dX1_comeFresh_25 : decode cX1_comeFresh 25 = .ok (.invokestatic 37, 3) := by decide +kernel
theorem dX1_comeFresh_28 : decode cX1_comeFresh 28 = .ok (.return_, 1) := by decide +kernel
theorem dX1_gramsFor_0 : decode cX1_gramsFor 0 = .ok (.iload_n 1, 1) := by decide +kernel
theorem dX1_gramsFor_1 : decode cX1_gramsFor 1 = .ok (.aload_n 0, 1) := by decide +kernel
theorem dX1_gramsFor_2 : decode cX1_gramsFor 2 = .ok (.getfield 28, 3) := by decide +kernel
theorem dX1_gramsFor_5 : decode cX1_gramsFor 5 = .ok (.imul, 1) := by decide +kernel
theorem dX1_gramsFor_6 : decode cX1_gramsFor 6 = .ok (.bipush 20, 2) := by decide +kernel
theorem dX1_gramsFor_8 : decode cX1_gramsFor 8 = .ok (.iadd, 1) := by decide +kernel
theorem dX1_gramsFor_9 : decode cX1_gramsFor 9 = .ok (.iconst 1, 1) := by decide +kernel
theorem dX1_gramsFor_10 : decode cX1_gramsFor 10 = .ok (.isub, 1) := by decide +kernel
theorem dX1_gramsFor_11 : decode cX1_gramsFor 11 = .ok (.bipush 20, 2) := by decide +kernel
theorem dX1_gramsFor_13 : decode cX1_gramsFor 13 = .ok (.idiv, 1) := by decide +kernel
theorem dX1_gramsFor_14 : decode cX1_gramsFor 14 = .ok (.ireturn, 1) := by decide +kernel
theorem dX2_init_0 : decode cX2_init 0 = .ok (.aload_n 0, 1) := by decide +kernel
theorem dX2_init_1 : decode cX2_init 1 = .ok (.invokespecial 3, 3) := by decide +kernel
theorem dX2_init_4 : decode cX2_init 4 = .ok (.aload_n 0, 1) := by decide +kernel
theorem dX2_init_5 : decode cX2_init 5 = .ok (.iconst 5, 1) := by decide +kernel
theorem dX2_init_6 : decode cX2_init 6 = .ok (.newarray .int, 2) := by decide +kernel
theorem dX2_init_8 : decode cX2_init 8 = .ok (.putfield 9, 3) := by decide +kernel
theorem dX2_init_11 : decode cX2_init 11 = .ok (.aload_n 0, 1) := by decide +kernel
theorem dX2_init_12 : decode cX2_init 12 = .ok (.aload_n 1, 1) := by decide +kernel
theorem dX2_init_13 : decode cX2_init 13 = .ok (.putfield 15, 3) := by decide +kernel
theorem dX2_init_16 : decode cX2_init 16 = .ok (.return_, 1) := by decide +kernel
theorem dX2_start_0 : decode cX2_start 0 = .ok (.aload_n 0, 1) := by decide +kernel
theorem dX2_start_1 : decode cX2_start 1 = .ok (.iconst 0, 1) := by decide +kernel
theorem dX2_start_2 : decode cX2_start 2 = .ok (.putfield 19, 3) := by decide +kernel
theorem dX2_start_5 : decode cX2_start 5 = .ok (.return_, 1) := by decide +kernel
theorem dX2_findFault_0 : decode cX2_findFault 0 = .ok (.aload_n 0, 1) := by decide +kernel
theorem dX2_findFault_1 : decode cX2_findFault 1 = .ok (.invokevirtual 23, 3) := by decide +kernel
theorem dX2_findFault_4 : decode cX2_findFault 4 = .ok (.iconst 0, 1) := by decide +kernel
theorem dX2_findFault_5 : decode cX2_findFault 5 = .ok (.istore_n 1, 1) := by decide +kernel
theorem dX2_findFault_6 : decode cX2_findFault 6 = .ok (.iload_n 1, 1) := by decide +kernel
theorem dX2_findFault_7 : decode cX2_findFault 7 = .ok (.bipush 80, 2) := by decide +kernel
theorem dX2_findFault_9 : decode cX2_findFault 9 = .ok (.if_icmp .ge 38, 3) := by decide +kernel
theorem dX2_findFault_12 : decode cX2_findFault 12 = .ok (.aload_n 0, 1) := by decide +kernel
theorem dX2_findFault_13 : decode cX2_findFault 13 = .ok (.invokevirtual 26, 3) := by decide +kernel
theorem dX2_findFault_16 : decode cX2_findFault 16 = .ok (.ifCond .ne 8, 3) := by decide +kernel
theorem dX2_findFault_19 : decode cX2_findFault 19 = .ok (.aload_n 0, 1) := by decide +kernel
theorem dX2_findFault_20 : decode cX2_findFault 20 = .ok (.getfield 19, 3) := by decide +kernel
theorem dX2_findFault_23 : decode cX2_findFault 23 = .ok (.ireturn, 1) := by decide +kernel
theorem dX2_findFault_24 : decode cX2_findFault 24 = .ok (.aload_n 0, 1) := by decide +kernel
theorem dX2_findFault_25 : decode cX2_findFault 25 = .ok (.getfield 19, 3) := by decide +kernel
theorem dX2_findFault_28 : decode cX2_findFault 28 = .ok (.aload_n 0, 1) := by decide +kernel
theorem dX2_findFault_29 : decode cX2_findFault 29 = .ok (.getfield 15, 3) := by decide +kernel
theorem dX2_findFault_32 : decode cX2_findFault 32 = .ok (.getfield 30, 3) := by decide +kernel
theorem dX2_findFault_35 : decode cX2_findFault 35 = .ok (.if_icmp .ne 6, 3) := by decide +kernel
theorem dX2_findFault_38 : decode cX2_findFault 38 = .ok (.bipush (-6), 2) := by decide +kernel
theorem dX2_findFault_40 : decode cX2_findFault 40 = .ok (.ireturn, 1) := by decide +kernel
theorem dX2_findFault_41 : decode cX2_findFault 41 = .ok (.iinc 1 1, 3) := by decide +kernel
theorem dX2_findFault_44 : decode cX2_findFault 44 = .ok (.goto (-38), 3) := by decide +kernel
theorem dX2_findFault_47 : decode cX2_findFault 47 = .ok (.aload_n 0, 1) := by decide +kernel
theorem dX2_findFault_48 : decode cX2_findFault 48 = .ok (.getfield 19, 3) := by decide +kernel
theorem dX2_findFault_51 : decode cX2_findFault 51 = .ok (.ireturn, 1) := by decide +kernel
theorem dX2_readOrder_0 : decode cX2_readOrder 0 = .ok (.aload_n 0, 1) := by decide +kernel
theorem dX2_readOrder_1 : decode cX2_readOrder 1 = .ok (.getfield 19, 3) := by decide +kernel
theorem dX2_readOrder_4 : decode cX2_readOrder 4 = .ok (.ifCond .le 14, 3) := by decide +kernel
theorem dX2_readOrder_7 : decode cX2_readOrder 7 = .ok (.aload_n 0, 1) := by decide +kernel
theorem dX2_readOrder_8 : decode cX2_readOrder 8 = .ok (.bipush 59, 2) := by decide +kernel
theorem dX2_readOrder_10 : decode cX2_readOrder 10 = .ok (.invokevirtual 35, 3) := by decide +kernel
theorem dX2_readOrder_13 : decode cX2_readOrder 13 = .ok (.ifCond .ne 5, 3) := by decide +kernel
theorem dX2_readOrder_16 : decode cX2_readOrder 16 = .ok (.iconst 0, 1) := by decide +kernel
theorem dX2_readOrder_17 : decode cX2_readOrder 17 = .ok (.ireturn, 1) := by decide +kernel
theorem dX2_readOrder_18 : decode cX2_readOrder 18 = .ok (.aload_n 0, 1) := by decide +kernel
theorem dX2_readOrder_19 : decode cX2_readOrder 19 = .ok (.aload_n 0, 1) := by decide +kernel
theorem dX2_readOrder_20 : decode cX2_readOrder 20 = .ok (.invokevirtual 39, 3) := by decide +kernel
theorem dX2_readOrder_23 : decode cX2_readOrder 23 = .ok (.putfield 43, 3) := by decide +kernel
theorem dX2_readOrder_26 : decode cX2_readOrder 26 = .ok (.aload_n 0, 1) := by decide +kernel
theorem dX2_readOrder_27 : decode cX2_readOrder 27 = .ok (.getfield 43, 3) := by decide +kernel
theorem dX2_readOrder_30 : decode cX2_readOrder 30 = .ok (.invokestatic 46, 3) := by decide +kernel
theorem dX2_readOrder_33 : decode cX2_readOrder 33 = .ok (.astore_n 1, 1) := by decide +kernel
theorem dX2_readOrder_34 : decode cX2_readOrder 34 = .ok (.aload_n 1, 1) := by decide +kernel
theorem dX2_readOrder_35 : decode cX2_readOrder 35 = .ok (.invokevirtual 50, 3) := by decide +kernel
theorem dX2_readOrder_38 : decode cX2_readOrder 38 = .ok (.ifCond .eq 5, 3) := by decide +kernel
theorem dX2_readOrder_41 : decode cX2_readOrder 41 = .ok (.iconst 0, 1) := by decide +kernel
theorem dX2_readOrder_42 : decode cX2_readOrder 42 = .ok (.ireturn, 1) := by decide +kernel
theorem dX2_readOrder_43 : decode cX2_readOrder 43 = .ok (.aload_n 0, 1) := by decide +kernel
theorem dX2_readOrder_44 : decode cX2_readOrder 44 = .ok (.dup, 1) := by decide +kernel
theorem dX2_readOrder_45 : decode cX2_readOrder 45 = .ok (.getfield 19, 3) := by decide +kernel
theorem dX2_readOrder_48 : decode cX2_readOrder 48 = .ok (.iconst 1, 1) := by decide +kernel
theorem dX2_readOrder_49 : decode cX2_readOrder 49 = .ok (.iadd, 1) := by decide +kernel
theorem dX2_readOrder_50 : decode cX2_readOrder 50 = .ok (.putfield 19, 3) := by decide +kernel
theorem dX2_readOrder_53 : decode cX2_readOrder 53 = .ok (.aload_n 0, 1) := by decide +kernel
theorem dX2_readOrder_54 : decode cX2_readOrder 54 = .ok (.iconst 0, 1) := by decide +kernel
theorem dX2_readOrder_55 : decode cX2_readOrder 55 = .ok (.putfield 55, 3) := by decide +kernel
theorem dX2_readOrder_58 : decode cX2_readOrder 58 = .ok (.iconst 0, 1) := by decide +kernel
theorem dX2_readOrder_59 : decode cX2_readOrder 59 = .ok (.istore_n 2, 1) := by decide +kernel
theorem dX2_readOrder_60 : decode cX2_readOrder 60 = .ok (.iload_n 2, 1) := by decide +kernel
theorem dX2_readOrder_61 : decode cX2_readOrder 61 = .ok (.aload_n 1, 1) := by decide +kernel
theorem dX2_readOrder_62 : decode cX2_readOrder 62 = .ok (.invokevirtual 58, 3) := by decide +kernel
theorem dX2_readOrder_65 : decode cX2_readOrder 65 = .ok (.if_icmp .ge 23, 3) := by decide +kernel
theorem dX2_readOrder_68 : decode cX2_readOrder 68 = .ok (.aload_n 0, 1) := by decide +kernel
theorem dX2_readOrder_69 : decode cX2_readOrder 69 = .ok (.aload_n 1, 1) := by decide +kernel
theorem dX2_readOrder_70 : decode cX2_readOrder 70 = .ok (.iload_n 2, 1) := by decide +kernel
theorem dX2_readOrder_71 : decode cX2_readOrder 71 = .ok (.invokevirtual 60, 3) := by decide +kernel
theorem dX2_readOrder_74 : decode cX2_readOrder 74 = .ok (.invokevirtual 64, 3) := by decide +kernel
theorem dX2_readOrder_77 : decode cX2_readOrder 77 = .ok (.ifCond .ne 5, 3) := by decide +kernel
theorem dX2_readOrder_80 : decode cX2_readOrder 80 = .ok (.iconst 0, 1) := by decide +kernel
theorem dX2_readOrder_81 : decode cX2_readOrder 81 = .ok (.ireturn, 1) := by decide +kernel
theorem dX2_readOrder_82 : decode cX2_readOrder 82 = .ok (.iinc 2 1, 3) := by decide +kernel
theorem dX2_readOrder_85 : decode cX2_readOrder 85 = .ok (.goto (-25), 3) := by decide +kernel
theorem dX2_readOrder_88 : decode cX2_readOrder 88 = .ok (.iconst 1, 1) := by decide +kernel
theorem dX2_readOrder_89 : decode cX2_readOrder 89 = .ok (.ireturn, 1) := by decide +kernel
theorem dX2_formOf_0 : decode cX2_formOf 0 = .ok (.iload_n 0, 1) := by decide +kernel
theorem dX2_formOf_1 : decode cX2_formOf 1 = .ok (.lookupswitch 52 #[(43, 43), (100, 49), (109, 49), (115, 46)], 43) := by decide +kernel
theorem dX2_formOf_44 : decode cX2_formOf 44 = .ok (.ldc 68, 2) := by decide +kernel
theorem dX2_formOf_46 : decode cX2_formOf 46 = .ok (.areturn, 1) := by decide +kernel
theorem dX2_formOf_47 : decode cX2_formOf 47 = .ok (.ldc 70, 2) := by decide +kernel
theorem dX2_formOf_49 : decode cX2_formOf 49 = .ok (.areturn, 1) := by decide +kernel
theorem dX2_formOf_50 : decode cX2_formOf 50 = .ok (.ldc 72, 2) := by decide +kernel
theorem dX2_formOf_52 : decode cX2_formOf 52 = .ok (.areturn, 1) := by decide +kernel
theorem dX2_formOf_53 : decode cX2_formOf 53 = .ok (.ldc 74, 2) := by decide +kernel
theorem dX2_formOf_55 : decode cX2_formOf 55 = .ok (.areturn, 1) := by decide +kernel
theorem dX2_readPart_0 : decode cX2_readPart 0 = .ok (.iload_n 1, 1) := by decide +kernel
theorem dX2_readPart_1 : decode cX2_readPart 1 = .ok (.bipush 35, 2) := by decide +kernel
theorem dX2_readPart_3 : decode cX2_readPart 3 = .ok (.if_icmp .ne 9, 3) := by decide +kernel
theorem dX2_readPart_6 : decode cX2_readPart 6 = .ok (.aload_n 0, 1) := by decide +kernel
theorem dX2_readPart_7 : decode cX2_readPart 7 = .ok (.iconst 4, 1) := by decide +kernel
theorem dX2_readPart_8 : decode cX2_readPart 8 = .ok (.invokevirtual 76, 3) := by decide +kernel
theorem dX2_readPart_11 : decode cX2_readPart 11 = .ok (.ireturn, 1) := by decide +kernel
theorem dX2_readPart_12 : decode cX2_readPart 12 = .ok (.iload_n 1, 1) := by decide +kernel
theorem dX2_readPart_13 : decode cX2_readPart 13 = .ok (.bipush 37, 2) := by decide +kernel
theorem dX2_readPart_15 : decode cX2_readPart 15 = .ok (.if_icmp .ne 11, 3) := by decide +kernel
theorem dX2_readPart_18 : decode cX2_readPart 18 = .ok (.aload_n 0, 1) := by decide +kernel
theorem dX2_readPart_19 : decode cX2_readPart 19 = .ok (.iconst 1, 1) := by decide +kernel
theorem dX2_readPart_20 : decode cX2_readPart 20 = .ok (.invokevirtual 76, 3) := by decide +kernel
theorem dX2_readPart_23 : decode cX2_readPart 23 = .ok (.goto 8, 3) := by decide +kernel
theorem dX2_readPart_26 : decode cX2_readPart 26 = .ok (.aload_n 0, 1) := by decide +kernel
theorem dX2_readPart_27 : decode cX2_readPart 27 = .ok (.iload_n 1, 1) := by decide +kernel
theorem dX2_readPart_28 : decode cX2_readPart 28 = .ok (.invokevirtual 35, 3) := by decide +kernel
theorem dX2_readPart_31 : decode cX2_readPart 31 = .ok (.ireturn, 1) := by decide +kernel
theorem dX2_readSign_0 : decode cX2_readSign 0 = .ok (.aload_n 0, 1) := by decide +kernel
theorem dX2_readSign_1 : decode cX2_readSign 1 = .ok (.invokevirtual 39, 3) := by decide +kernel
theorem dX2_readSign_4 : decode cX2_readSign 4 = .ok (.iload_n 1, 1) := by decide +kernel
theorem dX2_readSign_5 : decode cX2_readSign 5 = .ok (.if_icmp .eq 5, 3) := by decide +kernel
theorem dX2_readSign_8 : decode cX2_readSign 8 = .ok (.iconst 0, 1) := by decide +kernel
theorem dX2_readSign_9 : decode cX2_readSign 9 = .ok (.ireturn, 1) := by decide +kernel
theorem dX2_readSign_10 : decode cX2_readSign 10 = .ok (.aload_n 0, 1) := by decide +kernel
theorem dX2_readSign_11 : decode cX2_readSign 11 = .ok (.dup, 1) := by decide +kernel
theorem dX2_readSign_12 : decode cX2_readSign 12 = .ok (.getfield 19, 3) := by decide +kernel
theorem dX2_readSign_15 : decode cX2_readSign 15 = .ok (.iconst 1, 1) := by decide +kernel
theorem dX2_readSign_16 : decode cX2_readSign 16 = .ok (.iadd, 1) := by decide +kernel
theorem dX2_readSign_17 : decode cX2_readSign 17 = .ok (.putfield 19, 3) := by decide +kernel
theorem dX2_readSign_20 : decode cX2_readSign 20 = .ok (.iconst 1, 1) := by decide +kernel
theorem dX2_readSign_21 : decode cX2_readSign 21 = .ok (.ireturn, 1) := by decide +kernel
theorem dX2_readNumber_0 : decode cX2_readNumber 0 = .ok (.aload_n 0, 1) := by decide +kernel
theorem dX2_readNumber_1 : decode cX2_readNumber 1 = .ok (.invokevirtual 79, 3) := by decide +kernel
theorem dX2_readNumber_4 : decode cX2_readNumber 4 = .ok (.ifCond .eq 15, 3) := by decide +kernel
theorem dX2_readNumber_7 : decode cX2_readNumber 7 = .ok (.aload_n 0, 1) := by decide +kernel
theorem dX2_readNumber_8 : decode cX2_readNumber 8 = .ok (.getfield 55, 3) := by decide +kernel
theorem dX2_readNumber_11 : decode cX2_readNumber 11 = .ok (.aload_n 0, 1) := by decide +kernel
theorem dX2_readNumber_12 : decode cX2_readNumber 12 = .ok (.getfield 9, 3) := by decide +kernel
theorem dX2_readNumber_15 : decode cX2_readNumber 15 = .ok (.arraylength, 1) := by decide +kernel
theorem dX2_readNumber_16 : decode cX2_readNumber 16 = .ok (.if_icmp .lt 5, 3) := by decide +kernel
theorem dX2_readNumber_19 : decode cX2_readNumber 19 = .ok (.iconst 0, 1) := by decide +kernel
theorem dX2_readNumber_20 : decode cX2_readNumber 20 = .ok (.ireturn, 1) := by decide +kernel
theorem dX2_readNumber_21 : decode cX2_readNumber 21 = .ok (.aload_n 0, 1) := by decide +kernel
theorem dX2_readNumber_22 : decode cX2_readNumber 22 = .ok (.invokevirtual 39, 3) := by decide +kernel
theorem dX2_readNumber_25 : decode cX2_readNumber 25 = .ok (.bipush 48, 2) := by decide +kernel
theorem dX2_readNumber_27 : decode cX2_readNumber 27 = .ok (.isub, 1) := by decide +kernel
theorem dX2_readNumber_28 : decode cX2_readNumber 28 = .ok (.istore_n 2, 1) := by decide +kernel
theorem dX2_readNumber_29 : decode cX2_readNumber 29 = .ok (.aload_n 0, 1) := by decide +kernel
theorem dX2_readNumber_30 : decode cX2_readNumber 30 = .ok (.dup, 1) := by decide +kernel
theorem dX2_readNumber_31 : decode cX2_readNumber 31 = .ok (.getfield 19, 3) := by decide +kernel
theorem dX2_readNumber_34 : decode cX2_readNumber 34 = .ok (.iconst 1, 1) := by decide +kernel
theorem dX2_readNumber_35 : decode cX2_readNumber 35 = .ok (.iadd, 1) := by decide +kernel
theorem dX2_readNumber_36 : decode cX2_readNumber 36 = .ok (.putfield 19, 3) := by decide +kernel
theorem dX2_readNumber_39 : decode cX2_readNumber 39 = .ok (.iconst 1, 1) := by decide +kernel
theorem dX2_readNumber_40 : decode cX2_readNumber 40 = .ok (.istore_n 3, 1) := by decide +kernel
theorem dX2_readNumber_41 : decode cX2_readNumber 41 = .ok (.iload_n 3, 1) := by decide +kernel
theorem dX2_readNumber_42 : decode cX2_readNumber 42 = .ok (.iload_n 1, 1) := by decide +kernel
theorem dX2_readNumber_43 : decode cX2_readNumber 43 = .ok (.if_icmp .ge 43, 3) := by decide +kernel
theorem dX2_readNumber_46 : decode cX2_readNumber 46 = .ok (.iload_n 2, 1) := by decide +kernel
theorem dX2_readNumber_47 : decode cX2_readNumber 47 = .ok (.ifCond .le 39, 3) := by decide +kernel
theorem dX2_readNumber_50 : decode cX2_readNumber 50 = .ok (.aload_n 0, 1) := by decide +kernel
theorem dX2_readNumber_51 : decode cX2_readNumber 51 = .ok (.invokevirtual 79, 3) := by decide +kernel
theorem dX2_readNumber_54 : decode cX2_readNumber 54 = .ok (.ifCond .eq 32, 3) := by decide +kernel
theorem dX2_readNumber_57 : decode cX2_readNumber 57 = .ok (.bipush 10, 2) := by decide +kernel
theorem dX2_readNumber_59 : decode cX2_readNumber 59 = .ok (.iload_n 2, 1) := by decide +kernel
theorem dX2_readNumber_60 : decode cX2_readNumber 60 = .ok (.imul, 1) := by decide +kernel
theorem dX2_readNumber_61 : decode cX2_readNumber 61 = .ok (.aload_n 0, 1) := by decide +kernel
theorem dX2_readNumber_62 : decode cX2_readNumber 62 = .ok (.invokevirtual 39, 3) := by decide +kernel
theorem dX2_readNumber_65 : decode cX2_readNumber 65 = .ok (.iadd, 1) := by decide +kernel
theorem dX2_readNumber_66 : decode cX2_readNumber 66 = .ok (.bipush 48, 2) := by decide +kernel
theorem dX2_readNumber_68 : decode cX2_readNumber 68 = .ok (.isub, 1) := by decide +kernel
theorem dX2_readNumber_69 : decode cX2_readNumber 69 = .ok (.istore_n 2, 1) := by decide +kernel
theorem dX2_readNumber_70 : decode cX2_readNumber 70 = .ok (.aload_n 0, 1) := by decide +kernel
theorem dX2_readNumber_71 : decode cX2_readNumber 71 = .ok (.dup, 1) := by decide +kernel
theorem dX2_readNumber_72 : decode cX2_readNumber 72 = .ok (.getfield 19, 3) := by decide +kernel
theorem dX2_readNumber_75 : decode cX2_readNumber 75 = .ok (.iconst 1, 1) := by decide +kernel
theorem dX2_readNumber_76 : decode cX2_readNumber 76 = .ok (.iadd, 1) := by decide +kernel
theorem dX2_readNumber_77 : decode cX2_readNumber 77 = .ok (.putfield 19, 3) := by decide +kernel
theorem dX2_readNumber_80 : decode cX2_readNumber 80 = .ok (.iinc 3 1, 3) := by decide +kernel
theorem dX2_readNumber_83 : decode cX2_readNumber 83 = .ok (.goto (-42), 3) := by decide +kernel
theorem dX2_readNumber_86 : decode cX2_readNumber 86 = .ok (.aload_n 0, 1) := by decide +kernel
theorem dX2_readNumber_87 : decode cX2_readNumber 87 = .ok (.getfield 9, 3) := by decide +kernel
theorem dX2_readNumber_90 : decode cX2_readNumber 90 = .ok (.aload_n 0, 1) := by decide +kernel
theorem dX2_readNumber_91 : decode cX2_readNumber 91 = .ok (.getfield 55, 3) := by decide +kernel
theorem dX2_readNumber_94 : decode cX2_readNumber 94 = .ok (.iload_n 2, 1) := by decide +kernel
theorem dX2_readNumber_95 : decode cX2_readNumber 95 = .ok (.iastore, 1) := by decide +kernel
theorem dX2_readNumber_96 : decode cX2_readNumber 96 = .ok (.aload_n 0, 1) := by decide +kernel
theorem dX2_readNumber_97 : decode cX2_readNumber 97 = .ok (.dup, 1) := by decide +kernel
theorem dX2_readNumber_98 : decode cX2_readNumber 98 = .ok (.getfield 55, 3) := by decide +kernel
theorem dX2_readNumber_101 : decode cX2_readNumber 101 = .ok (.iconst 1, 1) := by decide +kernel
theorem dX2_readNumber_102 : decode cX2_readNumber 102 = .ok (.iadd, 1) := by decide +kernel
theorem dX2_readNumber_103 : decode cX2_readNumber 103 = .ok (.putfield 55, 3) := by decide +kernel
theorem dX2_readNumber_106 : decode cX2_readNumber 106 = .ok (.iconst 1, 1) := by decide +kernel
theorem dX2_readNumber_107 : decode cX2_readNumber 107 = .ok (.ireturn, 1) := by decide +kernel
theorem dX2_isAtDigit_0 : decode cX2_isAtDigit 0 = .ok (.aload_n 0, 1) := by decide +kernel
theorem dX2_isAtDigit_1 : decode cX2_isAtDigit 1 = .ok (.invokevirtual 39, 3) := by decide +kernel
theorem dX2_isAtDigit_4 : decode cX2_isAtDigit 4 = .ok (.bipush 48, 2) := by decide +kernel
theorem dX2_isAtDigit_6 : decode cX2_isAtDigit 6 = .ok (.if_icmp .lt 16, 3) := by decide +kernel
theorem dX2_isAtDigit_9 : decode cX2_isAtDigit 9 = .ok (.aload_n 0, 1) := by decide +kernel
theorem dX2_isAtDigit_10 : decode cX2_isAtDigit 10 = .ok (.invokevirtual 39, 3) := by decide +kernel
theorem dX2_isAtDigit_13 : decode cX2_isAtDigit 13 = .ok (.bipush 57, 2) := by decide +kernel
theorem dX2_isAtDigit_15 : decode cX2_isAtDigit 15 = .ok (.if_icmp .gt 7, 3) := by decide +kernel
theorem dX2_isAtDigit_18 : decode cX2_isAtDigit 18 = .ok (.iconst 1, 1) := by decide +kernel
theorem dX2_isAtDigit_19 : decode cX2_isAtDigit 19 = .ok (.goto 4, 3) := by decide +kernel
theorem dX2_isAtDigit_22 : decode cX2_isAtDigit 22 = .ok (.iconst 0, 1) := by decide +kernel
theorem dX2_isAtDigit_23 : decode cX2_isAtDigit 23 = .ok (.ireturn, 1) := by decide +kernel
theorem dX2_sign_0 : decode cX2_sign 0 = .ok (.aload_n 0, 1) := by decide +kernel
theorem dX2_sign_1 : decode cX2_sign 1 = .ok (.getfield 19, 3) := by decide +kernel
theorem dX2_sign_4 : decode cX2_sign 4 = .ok (.aload_n 0, 1) := by decide +kernel
theorem dX2_sign_5 : decode cX2_sign 5 = .ok (.getfield 15, 3) := by decide +kernel
theorem dX2_sign_8 : decode cX2_sign 8 = .ok (.getfield 30, 3) := by decide +kernel
theorem dX2_sign_11 : decode cX2_sign 11 = .ok (.if_icmp .ge 18, 3) := by decide +kernel
theorem dX2_sign_14 : decode cX2_sign 14 = .ok (.aload_n 0, 1) := by decide +kernel
theorem dX2_sign_15 : decode cX2_sign 15 = .ok (.getfield 15, 3) := by decide +kernel
theorem dX2_sign_18 : decode cX2_sign 18 = .ok (.getfield 82, 3) := by decide +kernel
theorem dX2_sign_21 : decode cX2_sign 21 = .ok (.aload_n 0, 1) := by decide +kernel
theorem dX2_sign_22 : decode cX2_sign 22 = .ok (.getfield 19, 3) := by decide +kernel
theorem dX2_sign_25 : decode cX2_sign 25 = .ok (.caload, 1) := by decide +kernel
theorem dX2_sign_26 : decode cX2_sign 26 = .ok (.goto 4, 3) := by decide +kernel
theorem dX2_sign_29 : decode cX2_sign 29 = .ok (.iconst 0, 1) := by decide +kernel
theorem dX2_sign_30 : decode cX2_sign 30 = .ok (.ireturn, 1) := by decide +kernel
theorem dX3_init_0 : decode cX3_init 0 = .ok (.aload_n 0, 1) := by decide +kernel
theorem dX3_init_1 : decode cX3_init 1 = .ok (.invokespecial 3, 3) := by decide +kernel
theorem dX3_init_4 : decode cX3_init 4 = .ok (.aload_n 0, 1) := by decide +kernel
theorem dX3_init_5 : decode cX3_init 5 = .ok (.bipush 80, 2) := by decide +kernel
theorem dX3_init_7 : decode cX3_init 7 = .ok (.newarray .char, 2) := by decide +kernel
theorem dX3_init_9 : decode cX3_init 9 = .ok (.putfield 9, 3) := by decide +kernel
theorem dX3_init_12 : decode cX3_init 12 = .ok (.return_, 1) := by decide +kernel
theorem dX3_append_0 : decode cX3_append 0 = .ok (.lload_n 1, 1) := by decide +kernel
theorem dX3_append_1 : decode cX3_append 1 = .ok (.invokestatic 15, 3) := by decide +kernel
theorem dX3_append_4 : decode cX3_append 4 = .ok (.istore_n 3, 1) := by decide +kernel
theorem dX3_append_5 : decode cX3_append 5 = .ok (.iload_n 3, 1) := by decide +kernel
theorem dX3_append_6 : decode cX3_append 6 = .ok (.ifCond .ge 5, 3) := by decide +kernel
theorem dX3_append_9 : decode cX3_append 9 = .ok (.iload_n 3, 1) := by decide +kernel
theorem dX3_append_10 : decode cX3_append 10 = .ok (.ireturn, 1) := by decide +kernel
theorem dX3_append_11 : decode cX3_append 11 = .ok (.aload_n 0, 1) := by decide +kernel
theorem dX3_append_12 : decode cX3_append 12 = .ok (.getfield 19, 3) := by decide +kernel
theorem dX3_append_15 : decode cX3_append 15 = .ok (.iload_n 3, 1) := by decide +kernel
theorem dX3_append_16 : decode cX3_append 16 = .ok (.iadd, 1) := by decide +kernel
theorem dX3_append_17 : decode cX3_append 17 = .ok (.bipush 80, 2) := by decide +kernel
theorem dX3_append_19 : decode cX3_append 19 = .ok (.if_icmp .le 6, 3) := by decide +kernel
theorem dX3_append_22 : decode cX3_append 22 = .ok (.bipush (-4), 2) := by decide +kernel
theorem dX3_append_24 : decode cX3_append 24 = .ok (.ireturn, 1) := by decide +kernel
theorem dX3_append_25 : decode cX3_append 25 = .ok (.iload_n 3, 1) := by decide +kernel
theorem dX3_append_26 : decode cX3_append 26 = .ok (.iconst 1, 1) := by decide +kernel
theorem dX3_append_27 : decode cX3_append 27 = .ok (.isub, 1) := by decide +kernel
theorem dX3_append_28 : decode cX3_append 28 = .ok (.istore 4, 2) := by decide +kernel
theorem dX3_append_30 : decode cX3_append 30 = .ok (.iload 4, 2) := by decide +kernel
theorem dX3_append_32 : decode cX3_append 32 = .ok (.ifCond .lt 35, 3) := by decide +kernel
theorem dX3_append_35 : decode cX3_append 35 = .ok (.aload_n 0, 1) := by decide +kernel
theorem dX3_append_36 : decode cX3_append 36 = .ok (.getfield 9, 3) := by decide +kernel
theorem dX3_append_39 : decode cX3_append 39 = .ok (.aload_n 0, 1) := by decide +kernel
theorem dX3_append_40 : decode cX3_append 40 = .ok (.getfield 19, 3) := by decide +kernel
theorem dX3_append_43 : decode cX3_append 43 = .ok (.lload_n 1, 1) := by decide +kernel
theorem dX3_append_44 : decode cX3_append 44 = .ok (.iload 4, 2) := by decide +kernel
theorem dX3_append_46 : decode cX3_append 46 = .ok (.invokestatic 23, 3) := by decide +kernel
theorem dX3_append_49 : decode cX3_append 49 = .ok (.i2c, 1) := by decide +kernel
theorem dX3_append_50 : decode cX3_append 50 = .ok (.castore, 1) := by decide +kernel
theorem dX3_append_51 : decode cX3_append 51 = .ok (.aload_n 0, 1) := by decide +kernel
theorem dX3_append_52 : decode cX3_append 52 = .ok (.dup, 1) := by decide +kernel
theorem dX3_append_53 : decode cX3_append 53 = .ok (.getfield 19, 3) := by decide +kernel
theorem dX3_append_56 : decode cX3_append 56 = .ok (.iconst 1, 1) := by decide +kernel
theorem dX3_append_57 : decode cX3_append 57 = .ok (.iadd, 1) := by decide +kernel
theorem dX3_append_58 : decode cX3_append 58 = .ok (.putfield 19, 3) := by decide +kernel
theorem dX3_append_61 : decode cX3_append 61 = .ok (.iinc 4 (-1), 3) := by decide +kernel
theorem dX3_append_64 : decode cX3_append 64 = .ok (.goto (-34), 3) := by decide +kernel
theorem dX3_append_67 : decode cX3_append 67 = .ok (.aload_n 0, 1) := by decide +kernel
theorem dX3_append_68 : decode cX3_append 68 = .ok (.getfield 19, 3) := by decide +kernel
theorem dX3_append_71 : decode cX3_append 71 = .ok (.ireturn, 1) := by decide +kernel
theorem dX3_empty_0 : decode cX3_empty 0 = .ok (.aload_n 0, 1) := by decide +kernel
theorem dX3_empty_1 : decode cX3_empty 1 = .ok (.getfield 19, 3) := by decide +kernel
theorem dX3_empty_4 : decode cX3_empty 4 = .ok (.istore_n 1, 1) := by decide +kernel
theorem dX3_empty_5 : decode cX3_empty 5 = .ok (.aload_n 0, 1) := by decide +kernel
theorem dX3_empty_6 : decode cX3_empty 6 = .ok (.iconst 0, 1) := by decide +kernel
theorem dX3_empty_7 : decode cX3_empty 7 = .ok (.putfield 19, 3) := by decide +kernel
theorem dX3_empty_10 : decode cX3_empty 10 = .ok (.iload_n 1, 1) := by decide +kernel
theorem dX3_empty_11 : decode cX3_empty 11 = .ok (.ireturn, 1) := by decide +kernel
theorem dX3_lengthOf_0 : decode cX3_lengthOf 0 = .ok (.iconst 0, 1) := by decide +kernel
theorem dX3_lengthOf_1 : decode cX3_lengthOf 1 = .ok (.istore_n 2, 1) := by decide +kernel
theorem dX3_lengthOf_2 : decode cX3_lengthOf 2 = .ok (.iload_n 2, 1) := by decide +kernel
theorem dX3_lengthOf_3 : decode cX3_lengthOf 3 = .ok (.bipush 8, 2) := by decide +kernel
theorem dX3_lengthOf_5 : decode cX3_lengthOf 5 = .ok (.if_icmp .ge 56, 3) := by decide +kernel
theorem dX3_lengthOf_8 : decode cX3_lengthOf 8 = .ok (.lload_n 0, 1) := by decide +kernel
theorem dX3_lengthOf_9 : decode cX3_lengthOf 9 = .ok (.iload_n 2, 1) := by decide +kernel
theorem dX3_lengthOf_10 : decode cX3_lengthOf 10 = .ok (.invokestatic 23, 3) := by decide +kernel
theorem dX3_lengthOf_13 : decode cX3_lengthOf 13 = .ok (.istore_n 3, 1) := by decide +kernel
theorem dX3_lengthOf_14 : decode cX3_lengthOf 14 = .ok (.iload_n 3, 1) := by decide +kernel
theorem dX3_lengthOf_15 : decode cX3_lengthOf 15 = .ok (.ifCond .ne 25, 3) := by decide +kernel
theorem dX3_lengthOf_18 : decode cX3_lengthOf 18 = .ok (.iload_n 2, 1) := by decide +kernel
theorem dX3_lengthOf_19 : decode cX3_lengthOf 19 = .ok (.ifCond .le 18, 3) := by decide +kernel
theorem dX3_lengthOf_22 : decode cX3_lengthOf 22 = .ok (.lload_n 0, 1) := by decide +kernel
theorem dX3_lengthOf_23 : decode cX3_lengthOf 23 = .ok (.bipush 8, 2) := by decide +kernel
theorem dX3_lengthOf_25 : decode cX3_lengthOf 25 = .ok (.iload_n 2, 1) := by decide +kernel
theorem dX3_lengthOf_26 : decode cX3_lengthOf 26 = .ok (.imul, 1) := by decide +kernel
theorem dX3_lengthOf_27 : decode cX3_lengthOf 27 = .ok (.lushr, 1) := by decide +kernel
theorem dX3_lengthOf_28 : decode cX3_lengthOf 28 = .ok (.lconst 0, 1) := by decide +kernel
theorem dX3_lengthOf_29 : decode cX3_lengthOf 29 = .ok (.lcmp, 1) := by decide +kernel
theorem dX3_lengthOf_30 : decode cX3_lengthOf 30 = .ok (.ifCond .ne 7, 3) := by decide +kernel
theorem dX3_lengthOf_33 : decode cX3_lengthOf 33 = .ok (.iload_n 2, 1) := by decide +kernel
theorem dX3_lengthOf_34 : decode cX3_lengthOf 34 = .ok (.goto 5, 3) := by decide +kernel
theorem dX3_lengthOf_37 : decode cX3_lengthOf 37 = .ok (.bipush (-2), 2) := by decide +kernel
theorem dX3_lengthOf_39 : decode cX3_lengthOf 39 = .ok (.ireturn, 1) := by decide +kernel
theorem dX3_lengthOf_40 : decode cX3_lengthOf 40 = .ok (.iload_n 3, 1) := by decide +kernel
theorem dX3_lengthOf_41 : decode cX3_lengthOf 41 = .ok (.bipush 33, 2) := by decide +kernel
theorem dX3_lengthOf_43 : decode cX3_lengthOf 43 = .ok (.if_icmp .lt 9, 3) := by decide +kernel
theorem dX3_lengthOf_46 : decode cX3_lengthOf 46 = .ok (.iload_n 3, 1) := by decide +kernel
theorem dX3_lengthOf_47 : decode cX3_lengthOf 47 = .ok (.bipush 126, 2) := by decide +kernel
theorem dX3_lengthOf_49 : decode cX3_lengthOf 49 = .ok (.if_icmp .le 6, 3) := by decide +kernel
theorem dX3_lengthOf_52 : decode cX3_lengthOf 52 = .ok (.bipush (-2), 2) := by decide +kernel
theorem dX3_lengthOf_54 : decode cX3_lengthOf 54 = .ok (.ireturn, 1) := by decide +kernel
theorem dX3_lengthOf_55 : decode cX3_lengthOf 55 = .ok (.iinc 2 1, 3) := by decide +kernel
theorem dX3_lengthOf_58 : decode cX3_lengthOf 58 = .ok (.goto (-56), 3) := by decide +kernel
theorem dX3_lengthOf_61 : decode cX3_lengthOf 61 = .ok (.bipush 8, 2) := by decide +kernel
theorem dX3_lengthOf_63 : decode cX3_lengthOf 63 = .ok (.ireturn, 1) := by decide +kernel
theorem dX3_codeIn_0 : decode cX3_codeIn 0 = .ok (.lload_n 0, 1) := by decide +kernel
theorem dX3_codeIn_1 : decode cX3_codeIn 1 = .ok (.bipush 8, 2) := by decide +kernel
theorem dX3_codeIn_3 : decode cX3_codeIn 3 = .ok (.iload_n 2, 1) := by decide +kernel
theorem dX3_codeIn_4 : decode cX3_codeIn 4 = .ok (.imul, 1) := by decide +kernel
theorem dX3_codeIn_5 : decode cX3_codeIn 5 = .ok (.lushr, 1) := by decide +kernel
theorem dX3_codeIn_6 : decode cX3_codeIn 6 = .ok (.ldc2_w 27, 3) := by decide +kernel
theorem dX3_codeIn_9 : decode cX3_codeIn 9 = .ok (.land, 1) := by decide +kernel
theorem dX3_codeIn_10 : decode cX3_codeIn 10 = .ok (.l2i, 1) := by decide +kernel
theorem dX3_codeIn_11 : decode cX3_codeIn 11 = .ok (.ireturn, 1) := by decide +kernel
theorem dX4_init_0 : decode cX4_init 0 = .ok (.aload_n 0, 1) := by decide +kernel
theorem dX4_init_1 : decode cX4_init 1 = .ok (.invokespecial 3, 3) := by decide +kernel
theorem dX4_init_4 : decode cX4_init 4 = .ok (.aload_n 0, 1) := by decide +kernel
theorem dX4_init_5 : decode cX4_init 5 = .ok (.iconst 5, 1) := by decide +kernel
theorem dX4_init_6 : decode cX4_init 6 = .ok (.newarray .int, 2) := by decide +kernel
theorem dX4_init_8 : decode cX4_init 8 = .ok (.putfield 9, 3) := by decide +kernel
theorem dX4_init_11 : decode cX4_init 11 = .ok (.aload_n 0, 1) := by decide +kernel
theorem dX4_init_12 : decode cX4_init 12 = .ok (.iconst 5, 1) := by decide +kernel
theorem dX4_init_13 : decode cX4_init 13 = .ok (.newarray .int, 2) := by decide +kernel
theorem dX4_init_15 : decode cX4_init 15 = .ok (.putfield 15, 3) := by decide +kernel
theorem dX4_init_18 : decode cX4_init 18 = .ok (.aload_n 0, 1) := by decide +kernel
theorem dX4_init_19 : decode cX4_init 19 = .ok (.iconst 3, 1) := by decide +kernel
theorem dX4_init_20 : decode cX4_init 20 = .ok (.newarray .int, 2) := by decide +kernel
theorem dX4_init_22 : decode cX4_init 22 = .ok (.putfield 18, 3) := by decide +kernel
theorem dX4_init_25 : decode cX4_init 25 = .ok (.aload_n 0, 1) := by decide +kernel
theorem dX4_init_26 : decode cX4_init 26 = .ok (.iconst 3, 1) := by decide +kernel
theorem dX4_init_27 : decode cX4_init 27 = .ok (.newarray .int, 2) := by decide +kernel
theorem dX4_init_29 : decode cX4_init 29 = .ok (.putfield 21, 3) := by decide +kernel
theorem dX4_init_32 : decode cX4_init 32 = .ok (.aload_n 0, 1) := by decide +kernel
theorem dX4_init_33 : decode cX4_init 33 = .ok (.iconst 5, 1) := by decide +kernel
theorem dX4_init_34 : decode cX4_init 34 = .ok (.iconst 4, 1) := by decide +kernel
theorem dX4_init_35 : decode cX4_init 35 = .ok (.multianewarray 24 2, 4) := by decide +kernel
theorem dX4_init_39 : decode cX4_init 39 = .ok (.putfield 26, 3) := by decide +kernel
theorem dX4_init_42 : decode cX4_init 42 = .ok (.aload_n 0, 1) := by decide +kernel
theorem dX4_init_43 : decode cX4_init 43 = .ok (.iconst 5, 1) := by decide +kernel
theorem dX4_init_44 : decode cX4_init 44 = .ok (.iconst 4, 1) := by decide +kernel
theorem dX4_init_45 : decode cX4_init 45 = .ok (.multianewarray 24 2, 4) := by decide +kernel
theorem dX4_init_49 : decode cX4_init 49 = .ok (.putfield 29, 3) := by decide +kernel
theorem dX4_init_52 : decode cX4_init 52 = .ok (.aload_n 0, 1) := by decide +kernel
theorem dX4_init_53 : decode cX4_init 53 = .ok (.iconst 5, 1) := by decide +kernel
theorem dX4_init_54 : decode cX4_init 54 = .ok (.iconst 4, 1) := by decide +kernel
theorem dX4_init_55 : decode cX4_init 55 = .ok (.multianewarray 24 2, 4) := by decide +kernel
theorem dX4_init_59 : decode cX4_init 59 = .ok (.putfield 32, 3) := by decide +kernel
theorem dX4_init_62 : decode cX4_init 62 = .ok (.aload_n 0, 1) := by decide +kernel
theorem dX4_init_63 : decode cX4_init 63 = .ok (.iconst 5, 1) := by decide +kernel
theorem dX4_init_64 : decode cX4_init 64 = .ok (.iconst 4, 1) := by decide +kernel
theorem dX4_init_65 : decode cX4_init 65 = .ok (.multianewarray 24 2, 4) := by decide +kernel
theorem dX4_init_69 : decode cX4_init 69 = .ok (.putfield 35, 3) := by decide +kernel
theorem dX4_init_72 : decode cX4_init 72 = .ok (.return_, 1) := by decide +kernel
theorem dX4_find_0 : decode cX4_find 0 = .ok (.aload_n 0, 1) := by decide +kernel
theorem dX4_find_1 : decode cX4_find 1 = .ok (.aload_n 1, 1) := by decide +kernel
theorem dX4_find_2 : decode cX4_find 2 = .ok (.getfield 38, 3) := by decide +kernel
theorem dX4_find_5 : decode cX4_find 5 = .ok (.putfield 44, 3) := by decide +kernel
theorem dX4_find_8 : decode cX4_find 8 = .ok (.aload_n 0, 1) := by decide +kernel
theorem dX4_find_9 : decode cX4_find 9 = .ok (.aload_n 1, 1) := by decide +kernel
theorem dX4_find_10 : decode cX4_find 10 = .ok (.invokevirtual 45, 3) := by decide +kernel
theorem dX4_find_13 : decode cX4_find 13 = .ok (.aload_n 0, 1) := by decide +kernel
theorem dX4_find_14 : decode cX4_find 14 = .ok (.aload_n 1, 1) := by decide +kernel
theorem dX4_find_15 : decode cX4_find 15 = .ok (.iload_n 2, 1) := by decide +kernel
theorem dX4_find_16 : decode cX4_find 16 = .ok (.invokevirtual 49, 3) := by decide +kernel
theorem dX4_find_19 : decode cX4_find 19 = .ok (.aload_n 0, 1) := by decide +kernel
theorem dX4_find_20 : decode cX4_find 20 = .ok (.ldc 53, 2) := by decide +kernel
theorem dX4_find_22 : decode cX4_find 22 = .ok (.putfield 54, 3) := by decide +kernel
theorem dX4_find_25 : decode cX4_find 25 = .ok (.aload_n 0, 1) := by decide +kernel
theorem dX4_find_26 : decode cX4_find 26 = .ok (.getfield 9, 3) := by decide +kernel
theorem dX4_find_29 : decode cX4_find 29 = .ok (.iconst 0, 1) := by decide +kernel
theorem dX4_find_30 : decode cX4_find 30 = .ok (.invokestatic 57, 3) := by decide +kernel
theorem dX4_find_33 : decode cX4_find 33 = .ok (.aload_n 0, 1) := by decide +kernel
theorem dX4_find_34 : decode cX4_find 34 = .ok (.iconst 0, 1) := by decide +kernel
theorem dX4_find_35 : decode cX4_find 35 = .ok (.bipush 20, 2) := by decide +kernel
theorem dX4_find_37 : decode cX4_find 37 = .ok (.invokestatic 63, 3) := by decide +kernel
theorem dX4_find_40 : decode cX4_find 40 = .ok (.aload_n 0, 1) := by decide +kernel
theorem dX4_find_41 : decode cX4_find 41 = .ok (.getfield 54, 3) := by decide +kernel
theorem dX4_find_44 : decode cX4_find 44 = .ok (.ldc 53, 2) := by decide +kernel
theorem dX4_find_46 : decode cX4_find 46 = .ok (.if_icmp .eq 7, 3) := by decide +kernel
theorem dX4_find_49 : decode cX4_find 49 = .ok (.iconst 1, 1) := by decide +kernel
theorem dX4_find_50 : decode cX4_find 50 = .ok (.goto 4, 3) := by decide +kernel
theorem dX4_find_53 : decode cX4_find 53 = .ok (.iconst 0, 1) := by decide +kernel
theorem dX4_find_54 : decode cX4_find 54 = .ok (.ireturn, 1) := by decide +kernel
theorem dX4_readValues_0 : decode cX4_readValues 0 = .ok (.aload_n 0, 1) := by decide +kernel
theorem dX4_readValues_1 : decode cX4_readValues 1 = .ok (.getfield 44, 3) := by decide +kernel
theorem dX4_readValues_4 : decode cX4_readValues 4 = .ok (.iconst 1, 1) := by decide +kernel
theorem dX4_readValues_5 : decode cX4_readValues 5 = .ok (.isub, 1) := by decide +kernel
theorem dX4_readValues_6 : decode cX4_readValues 6 = .ok (.istore_n 2, 1) := by decide +kernel
theorem dX4_readValues_7 : decode cX4_readValues 7 = .ok (.iload_n 2, 1) := by decide +kernel
theorem dX4_readValues_8 : decode cX4_readValues 8 = .ok (.ifCond .lt 156, 3) := by decide +kernel
theorem dX4_readValues_11 : decode cX4_readValues 11 = .ok (.iconst 0, 1) := by decide +kernel
theorem dX4_readValues_12 : decode cX4_readValues 12 = .ok (.istore_n 3, 1) := by decide +kernel
theorem dX4_readValues_13 : decode cX4_readValues 13 = .ok (.iload_n 3, 1) := by decide +kernel
theorem dX4_readValues_14 : decode cX4_readValues 14 = .ok (.iconst 3, 1) := by decide +kernel
theorem dX4_readValues_15 : decode cX4_readValues 15 = .ok (.if_icmp .ge 24, 3) := by decide +kernel
theorem dX4_readValues_18 : decode cX4_readValues 18 = .ok (.aload_n 0, 1) := by decide +kernel
theorem dX4_readValues_19 : decode cX4_readValues 19 = .ok (.getfield 26, 3) := by decide +kernel
theorem dX4_readValues_22 : decode cX4_readValues 22 = .ok (.iload_n 2, 1) := by decide +kernel
theorem dX4_readValues_23 : decode cX4_readValues 23 = .ok (.aaload, 1) := by decide +kernel
theorem dX4_readValues_24 : decode cX4_readValues 24 = .ok (.iload_n 3, 1) := by decide +kernel
theorem dX4_readValues_25 : decode cX4_readValues 25 = .ok (.aload_n 1, 1) := by decide +kernel
theorem dX4_readValues_26 : decode cX4_readValues 26 = .ok (.iload_n 2, 1) := by decide +kernel
theorem dX4_readValues_27 : decode cX4_readValues 27 = .ok (.iload_n 3, 1) := by decide +kernel
theorem dX4_readValues_28 : decode cX4_readValues 28 = .ok (.iconst 0, 1) := by decide +kernel
theorem dX4_readValues_29 : decode cX4_readValues 29 = .ok (.invokevirtual 67, 3) := by decide +kernel
theorem dX4_readValues_32 : decode cX4_readValues 32 = .ok (.iastore, 1) := by decide +kernel
theorem dX4_readValues_33 : decode cX4_readValues 33 = .ok (.iinc 3 1, 3) := by decide +kernel
theorem dX4_readValues_36 : decode cX4_readValues 36 = .ok (.goto (-23), 3) := by decide +kernel
theorem dX4_readValues_39 : decode cX4_readValues 39 = .ok (.aload_n 0, 1) := by decide +kernel
theorem dX4_readValues_40 : decode cX4_readValues 40 = .ok (.getfield 26, 3) := by decide +kernel
theorem dX4_readValues_43 : decode cX4_readValues 43 = .ok (.iload_n 2, 1) := by decide +kernel
theorem dX4_readValues_44 : decode cX4_readValues 44 = .ok (.aaload, 1) := by decide +kernel
theorem dX4_readValues_45 : decode cX4_readValues 45 = .ok (.iconst 3, 1) := by decide +kernel
theorem dX4_readValues_46 : decode cX4_readValues 46 = .ok (.aload_n 1, 1) := by decide +kernel
theorem dX4_readValues_47 : decode cX4_readValues 47 = .ok (.iload_n 2, 1) := by decide +kernel
theorem dX4_readValues_48 : decode cX4_readValues 48 = .ok (.invokevirtual 71, 3) := by decide +kernel
theorem dX4_readValues_51 : decode cX4_readValues 51 = .ok (.iastore, 1) := by decide +kernel
theorem dX4_readValues_52 : decode cX4_readValues 52 = .ok (.iconst 0, 1) := by decide +kernel
theorem dX4_readValues_53 : decode cX4_readValues 53 = .ok (.istore_n 3, 1) := by decide +kernel
theorem dX4_readValues_54 : decode cX4_readValues 54 = .ok (.iload_n 3, 1) := by decide +kernel
theorem dX4_readValues_55 : decode cX4_readValues 55 = .ok (.iconst 4, 1) := by decide +kernel
theorem dX4_readValues_56 : decode cX4_readValues 56 = .ok (.if_icmp .ge 102, 3) := by decide +kernel
theorem dX4_readValues_59 : decode cX4_readValues 59 = .ok (.iload_n 2, 1) := by decide +kernel
theorem dX4_readValues_60 : decode cX4_readValues 60 = .ok (.iconst 1, 1) := by decide +kernel
theorem dX4_readValues_61 : decode cX4_readValues 61 = .ok (.iadd, 1) := by decide +kernel
theorem dX4_readValues_62 : decode cX4_readValues 62 = .ok (.aload_n 0, 1) := by decide +kernel
theorem dX4_readValues_63 : decode cX4_readValues 63 = .ok (.getfield 44, 3) := by decide +kernel
theorem dX4_readValues_66 : decode cX4_readValues 66 = .ok (.if_icmp .lt 7, 3) := by decide +kernel
theorem dX4_readValues_69 : decode cX4_readValues 69 = .ok (.iconst 1, 1) := by decide +kernel
theorem dX4_readValues_70 : decode cX4_readValues 70 = .ok (.goto 4, 3) := by decide +kernel
theorem dX4_readValues_73 : decode cX4_readValues 73 = .ok (.iconst 0, 1) := by decide +kernel
theorem dX4_readValues_74 : decode cX4_readValues 74 = .ok (.istore 4, 2) := by decide +kernel
theorem dX4_readValues_76 : decode cX4_readValues 76 = .ok (.aload_n 0, 1) := by decide +kernel
theorem dX4_readValues_77 : decode cX4_readValues 77 = .ok (.getfield 26, 3) := by decide +kernel
theorem dX4_readValues_80 : decode cX4_readValues 80 = .ok (.iload_n 2, 1) := by decide +kernel
theorem dX4_readValues_81 : decode cX4_readValues 81 = .ok (.aaload, 1) := by decide +kernel
theorem dX4_readValues_82 : decode cX4_readValues 82 = .ok (.iload_n 3, 1) := by decide +kernel
theorem dX4_readValues_83 : decode cX4_readValues 83 = .ok (.iaload, 1) := by decide +kernel
theorem dX4_readValues_84 : decode cX4_readValues 84 = .ok (.istore 5, 2) := by decide +kernel
theorem dX4_readValues_86 : decode cX4_readValues 86 = .ok (.aload_n 0, 1) := by decide +kernel
theorem dX4_readValues_87 : decode cX4_readValues 87 = .ok (.getfield 29, 3) := by decide +kernel
theorem dX4_readValues_90 : decode cX4_readValues 90 = .ok (.iload_n 2, 1) := by decide +kernel
theorem dX4_readValues_91 : decode cX4_readValues 91 = .ok (.aaload, 1) := by decide +kernel
theorem dX4_readValues_92 : decode cX4_readValues 92 = .ok (.iload_n 3, 1) := by decide +kernel
theorem dX4_readValues_93 : decode cX4_readValues 93 = .ok (.iload 4, 2) := by decide +kernel
theorem dX4_readValues_95 : decode cX4_readValues 95 = .ok (.ifCond .eq 8, 3) := by decide +kernel
theorem dX4_readValues_98 : decode cX4_readValues 98 = .ok (.iload 5, 2) := by decide +kernel
theorem dX4_readValues_100 : decode cX4_readValues 100 = .ok (.goto 18, 3) := by decide +kernel
theorem dX4_readValues_103 : decode cX4_readValues 103 = .ok (.iload 5, 2) := by decide +kernel
theorem dX4_readValues_105 : decode cX4_readValues 105 = .ok (.aload_n 0, 1) := by decide +kernel
theorem dX4_readValues_106 : decode cX4_readValues 106 = .ok (.getfield 29, 3) := by decide +kernel
theorem dX4_readValues_109 : decode cX4_readValues 109 = .ok (.iload_n 2, 1) := by decide +kernel
theorem dX4_readValues_110 : decode cX4_readValues 110 = .ok (.iconst 1, 1) := by decide +kernel
theorem dX4_readValues_111 : decode cX4_readValues 111 = .ok (.iadd, 1) := by decide +kernel
theorem dX4_readValues_112 : decode cX4_readValues 112 = .ok (.aaload, 1) := by decide +kernel
theorem dX4_readValues_113 : decode cX4_readValues 113 = .ok (.iload_n 3, 1) := by decide +kernel
theorem dX4_readValues_114 : decode cX4_readValues 114 = .ok (.iaload, 1) := by decide +kernel
theorem dX4_readValues_115 : decode cX4_readValues 115 = .ok (.invokestatic 75, 3) := by decide +kernel
theorem dX4_readValues_118 : decode cX4_readValues 118 = .ok (.iastore, 1) := by decide +kernel
theorem dX4_readValues_119 : decode cX4_readValues 119 = .ok (.aload_n 0, 1) := by decide +kernel
theorem dX4_readValues_120 : decode cX4_readValues 120 = .ok (.getfield 32, 3) := by decide +kernel
theorem dX4_readValues_123 : decode cX4_readValues 123 = .ok (.iload_n 2, 1) := by decide +kernel
theorem dX4_readValues_124 : decode cX4_readValues 124 = .ok (.aaload, 1) := by decide +kernel
theorem dX4_readValues_125 : decode cX4_readValues 125 = .ok (.iload_n 3, 1) := by decide +kernel
theorem dX4_readValues_126 : decode cX4_readValues 126 = .ok (.iload 4, 2) := by decide +kernel
theorem dX4_readValues_128 : decode cX4_readValues 128 = .ok (.ifCond .eq 8, 3) := by decide +kernel
theorem dX4_readValues_131 : decode cX4_readValues 131 = .ok (.iload 5, 2) := by decide +kernel
theorem dX4_readValues_133 : decode cX4_readValues 133 = .ok (.goto 18, 3) := by decide +kernel
theorem dX4_readValues_136 : decode cX4_readValues 136 = .ok (.iload 5, 2) := by decide +kernel
theorem dX4_readValues_138 : decode cX4_readValues 138 = .ok (.aload_n 0, 1) := by decide +kernel
theorem dX4_readValues_139 : decode cX4_readValues 139 = .ok (.getfield 32, 3) := by decide +kernel
theorem dX4_readValues_142 : decode cX4_readValues 142 = .ok (.iload_n 2, 1) := by decide +kernel
theorem dX4_readValues_143 : decode cX4_readValues 143 = .ok (.iconst 1, 1) := by decide +kernel
theorem dX4_readValues_144 : decode cX4_readValues 144 = .ok (.iadd, 1) := by decide +kernel
theorem dX4_readValues_145 : decode cX4_readValues 145 = .ok (.aaload, 1) := by decide +kernel
theorem dX4_readValues_146 : decode cX4_readValues 146 = .ok (.iload_n 3, 1) := by decide +kernel
theorem dX4_readValues_147 : decode cX4_readValues 147 = .ok (.iaload, 1) := by decide +kernel
theorem dX4_readValues_148 : decode cX4_readValues 148 = .ok (.invokestatic 81, 3) := by decide +kernel
theorem dX4_readValues_151 : decode cX4_readValues 151 = .ok (.iastore, 1) := by decide +kernel
theorem dX4_readValues_152 : decode cX4_readValues 152 = .ok (.iinc 3 1, 3) := by decide +kernel
theorem dX4_readValues_155 : decode cX4_readValues 155 = .ok (.goto (-101), 3) := by decide +kernel
theorem dX4_readValues_158 : decode cX4_readValues 158 = .ok (.iinc 2 (-1), 3) := by decide +kernel
theorem dX4_readValues_161 : decode cX4_readValues 161 = .ok (.goto (-154), 3) := by decide +kernel
theorem dX4_readValues_164 : decode cX4_readValues 164 = .ok (.return_, 1) := by decide +kernel
theorem dX4_readBounds_0 : decode cX4_readBounds 0 = .ok (.iconst 0, 1) := by decide +kernel
theorem dX4_readBounds_1 : decode cX4_readBounds 1 = .ok (.istore_n 3, 1) := by decide +kernel
theorem dX4_readBounds_2 : decode cX4_readBounds 2 = .ok (.iload_n 3, 1) := by decide +kernel
theorem dX4_readBounds_3 : decode cX4_readBounds 3 = .ok (.iconst 3, 1) := by decide +kernel
theorem dX4_readBounds_4 : decode cX4_readBounds 4 = .ok (.if_icmp .ge 76, 3) := by decide +kernel
theorem dX4_readBounds_7 : decode cX4_readBounds 7 = .ok (.aload_n 1, 1) := by decide +kernel
theorem dX4_readBounds_8 : decode cX4_readBounds 8 = .ok (.getfield 84, 3) := by decide +kernel
theorem dX4_readBounds_11 : decode cX4_readBounds 11 = .ok (.iload_n 3, 1) := by decide +kernel
theorem dX4_readBounds_12 : decode cX4_readBounds 12 = .ok (.iaload, 1) := by decide +kernel
theorem dX4_readBounds_13 : decode cX4_readBounds 13 = .ok (.iload_n 2, 1) := by decide +kernel
theorem dX4_readBounds_14 : decode cX4_readBounds 14 = .ok (.iload_n 3, 1) := by decide +kernel
theorem dX4_readBounds_15 : decode cX4_readBounds 15 = .ok (.if_icmp .ne 7, 3) := by decide +kernel
theorem dX4_readBounds_18 : decode cX4_readBounds 18 = .ok (.iconst 1, 1) := by decide +kernel
theorem dX4_readBounds_19 : decode cX4_readBounds 19 = .ok (.goto 4, 3) := by decide +kernel
theorem dX4_readBounds_22 : decode cX4_readBounds 22 = .ok (.iconst 0, 1) := by decide +kernel
theorem dX4_readBounds_23 : decode cX4_readBounds 23 = .ok (.isub, 1) := by decide +kernel
theorem dX4_readBounds_24 : decode cX4_readBounds 24 = .ok (.istore 4, 2) := by decide +kernel
theorem dX4_readBounds_26 : decode cX4_readBounds 26 = .ok (.aload_n 1, 1) := by decide +kernel
theorem dX4_readBounds_27 : decode cX4_readBounds 27 = .ok (.getfield 87, 3) := by decide +kernel
theorem dX4_readBounds_30 : decode cX4_readBounds 30 = .ok (.iload_n 3, 1) := by decide +kernel
theorem dX4_readBounds_31 : decode cX4_readBounds 31 = .ok (.iaload, 1) := by decide +kernel
theorem dX4_readBounds_32 : decode cX4_readBounds 32 = .ok (.iload_n 2, 1) := by decide +kernel
theorem dX4_readBounds_33 : decode cX4_readBounds 33 = .ok (.iconst 3, 1) := by decide +kernel
theorem dX4_readBounds_34 : decode cX4_readBounds 34 = .ok (.iload_n 3, 1) := by decide +kernel
theorem dX4_readBounds_35 : decode cX4_readBounds 35 = .ok (.iadd, 1) := by decide +kernel
theorem dX4_readBounds_36 : decode cX4_readBounds 36 = .ok (.if_icmp .ne 7, 3) := by decide +kernel
theorem dX4_readBounds_39 : decode cX4_readBounds 39 = .ok (.iconst 1, 1) := by decide +kernel
theorem dX4_readBounds_40 : decode cX4_readBounds 40 = .ok (.goto 4, 3) := by decide +kernel
theorem dX4_readBounds_43 : decode cX4_readBounds 43 = .ok (.iconst 0, 1) := by decide +kernel
theorem dX4_readBounds_44 : decode cX4_readBounds 44 = .ok (.iadd, 1) := by decide +kernel
theorem dX4_readBounds_45 : decode cX4_readBounds 45 = .ok (.istore 5, 2) := by decide +kernel
theorem dX4_readBounds_47 : decode cX4_readBounds 47 = .ok (.aload_n 0, 1) := by decide +kernel
theorem dX4_readBounds_48 : decode cX4_readBounds 48 = .ok (.getfield 18, 3) := by decide +kernel
theorem dX4_readBounds_51 : decode cX4_readBounds 51 = .ok (.iload_n 3, 1) := by decide +kernel
theorem dX4_readBounds_52 : decode cX4_readBounds 52 = .ok (.iload 4, 2) := by decide +kernel
theorem dX4_readBounds_54 : decode cX4_readBounds 54 = .ok (.bipush 20, 2) := by decide +kernel
theorem dX4_readBounds_56 : decode cX4_readBounds 56 = .ok (.imul, 1) := by decide +kernel
theorem dX4_readBounds_57 : decode cX4_readBounds 57 = .ok (.iastore, 1) := by decide +kernel
theorem dX4_readBounds_58 : decode cX4_readBounds 58 = .ok (.aload_n 0, 1) := by decide +kernel
theorem dX4_readBounds_59 : decode cX4_readBounds 59 = .ok (.getfield 21, 3) := by decide +kernel
theorem dX4_readBounds_62 : decode cX4_readBounds 62 = .ok (.iload_n 3, 1) := by decide +kernel
theorem dX4_readBounds_63 : decode cX4_readBounds 63 = .ok (.iload 5, 2) := by decide +kernel
theorem dX4_readBounds_65 : decode cX4_readBounds 65 = .ok (.bipush 20, 2) := by decide +kernel
theorem dX4_readBounds_67 : decode cX4_readBounds 67 = .ok (.imul, 1) := by decide +kernel
theorem dX4_readBounds_68 : decode cX4_readBounds 68 = .ok (.bipush 20, 2) := by decide +kernel
theorem dX4_readBounds_70 : decode cX4_readBounds 70 = .ok (.iadd, 1) := by decide +kernel
theorem dX4_readBounds_71 : decode cX4_readBounds 71 = .ok (.iconst 1, 1) := by decide +kernel
theorem dX4_readBounds_72 : decode cX4_readBounds 72 = .ok (.isub, 1) := by decide +kernel
theorem dX4_readBounds_73 : decode cX4_readBounds 73 = .ok (.iastore, 1) := by decide +kernel
theorem dX4_readBounds_74 : decode cX4_readBounds 74 = .ok (.iinc 3 1, 3) := by decide +kernel
theorem dX4_readBounds_77 : decode cX4_readBounds 77 = .ok (.goto (-75), 3) := by decide +kernel
theorem dX4_readBounds_80 : decode cX4_readBounds 80 = .ok (.return_, 1) := by decide +kernel
theorem dX4_tryShares_0 : decode cX4_tryShares 0 = .ok (.iload_n 1, 1) := by decide +kernel
theorem dX4_tryShares_1 : decode cX4_tryShares 1 = .ok (.aload_n 0, 1) := by decide +kernel
theorem dX4_tryShares_2 : decode cX4_tryShares 2 = .ok (.getfield 44, 3) := by decide +kernel
theorem dX4_tryShares_5 : decode cX4_tryShares 5 = .ok (.if_icmp .ge 12, 3) := by decide +kernel
theorem dX4_tryShares_8 : decode cX4_tryShares 8 = .ok (.aload_n 0, 1) := by decide +kernel
theorem dX4_tryShares_9 : decode cX4_tryShares 9 = .ok (.iload_n 1, 1) := by decide +kernel
theorem dX4_tryShares_10 : decode cX4_tryShares 10 = .ok (.iload_n 2, 1) := by decide +kernel
theorem dX4_tryShares_11 : decode cX4_tryShares 11 = .ok (.invokevirtual 90, 3) := by decide +kernel
theorem dX4_tryShares_14 : decode cX4_tryShares 14 = .ok (.ifCond .ne 4, 3) := by decide +kernel
theorem dX4_tryShares_17 : decode cX4_tryShares 17 = .ok (.return_, 1) := by decide +kernel
theorem dX4_tryShares_18 : decode cX4_tryShares 18 = .ok (.iload_n 1, 1) := by decide +kernel
theorem dX4_tryShares_19 : decode cX4_tryShares 19 = .ok (.aload_n 0, 1) := by decide +kernel
theorem dX4_tryShares_20 : decode cX4_tryShares 20 = .ok (.getfield 44, 3) := by decide +kernel
theorem dX4_tryShares_23 : decode cX4_tryShares 23 = .ok (.iconst 1, 1) := by decide +kernel
theorem dX4_tryShares_24 : decode cX4_tryShares 24 = .ok (.isub, 1) := by decide +kernel
theorem dX4_tryShares_25 : decode cX4_tryShares 25 = .ok (.if_icmp .ne 10, 3) := by decide +kernel
theorem dX4_tryShares_28 : decode cX4_tryShares 28 = .ok (.aload_n 0, 1) := by decide +kernel
theorem dX4_tryShares_29 : decode cX4_tryShares 29 = .ok (.iload_n 1, 1) := by decide +kernel
theorem dX4_tryShares_30 : decode cX4_tryShares 30 = .ok (.iload_n 2, 1) := by decide +kernel
theorem dX4_tryShares_31 : decode cX4_tryShares 31 = .ok (.invokevirtual 94, 3) := by decide +kernel
theorem dX4_tryShares_34 : decode cX4_tryShares 34 = .ok (.return_, 1) := by decide +kernel
theorem dX4_tryShares_35 : decode cX4_tryShares 35 = .ok (.iload_n 2, 1) := by decide +kernel
theorem dX4_tryShares_36 : decode cX4_tryShares 36 = .ok (.istore_n 3, 1) := by decide +kernel
theorem dX4_tryShares_37 : decode cX4_tryShares 37 = .ok (.iload_n 3, 1) := by decide +kernel
theorem dX4_tryShares_38 : decode cX4_tryShares 38 = .ok (.ifCond .lt 25, 3) := by decide +kernel
theorem dX4_tryShares_41 : decode cX4_tryShares 41 = .ok (.aload_n 0, 1) := by decide +kernel
theorem dX4_tryShares_42 : decode cX4_tryShares 42 = .ok (.iload_n 1, 1) := by decide +kernel
theorem dX4_tryShares_43 : decode cX4_tryShares 43 = .ok (.iload_n 3, 1) := by decide +kernel
theorem dX4_tryShares_44 : decode cX4_tryShares 44 = .ok (.invokevirtual 98, 3) := by decide +kernel
theorem dX4_tryShares_47 : decode cX4_tryShares 47 = .ok (.aload_n 0, 1) := by decide +kernel
theorem dX4_tryShares_48 : decode cX4_tryShares 48 = .ok (.iload_n 1, 1) := by decide +kernel
theorem dX4_tryShares_49 : decode cX4_tryShares 49 = .ok (.iconst 1, 1) := by decide +kernel
theorem dX4_tryShares_50 : decode cX4_tryShares 50 = .ok (.iadd, 1) := by decide +kernel
theorem dX4_tryShares_51 : decode cX4_tryShares 51 = .ok (.iload_n 2, 1) := by decide +kernel
theorem dX4_tryShares_52 : decode cX4_tryShares 52 = .ok (.iload_n 3, 1) := by decide +kernel
theorem dX4_tryShares_53 : decode cX4_tryShares 53 = .ok (.isub, 1) := by decide +kernel
theorem dX4_tryShares_54 : decode cX4_tryShares 54 = .ok (.invokestatic 63, 3) := by decide +kernel
theorem dX4_tryShares_57 : decode cX4_tryShares 57 = .ok (.iinc 3 (-1), 3) := by decide +kernel
theorem dX4_tryShares_60 : decode cX4_tryShares 60 = .ok (.goto (-23), 3) := by decide +kernel
theorem dX4_tryShares_63 : decode cX4_tryShares 63 = .ok (.return_, 1) := by decide +kernel
theorem dX4_mayImprove_0 : decode cX4_mayImprove 0 = .ok (.aload_n 0, 1) := by decide +kernel
theorem dX4_mayImprove_1 : decode cX4_mayImprove 1 = .ok (.getfield 35, 3) := by decide +kernel
theorem dX4_mayImprove_4 : decode cX4_mayImprove 4 = .ok (.iload_n 1, 1) := by decide +kernel
theorem dX4_mayImprove_5 : decode cX4_mayImprove 5 = .ok (.aaload, 1) := by decide +kernel
theorem dX4_mayImprove_6 : decode cX4_mayImprove 6 = .ok (.astore_n 3, 1) := by decide +kernel
theorem dX4_mayImprove_7 : decode cX4_mayImprove 7 = .ok (.aload_n 3, 1) := by decide +kernel
theorem dX4_mayImprove_8 : decode cX4_mayImprove 8 = .ok (.iconst 3, 1) := by decide +kernel
theorem dX4_mayImprove_9 : decode cX4_mayImprove 9 = .ok (.iaload, 1) := by decide +kernel
theorem dX4_mayImprove_10 : decode cX4_mayImprove 10 = .ok (.iload_n 2, 1) := by decide +kernel
theorem dX4_mayImprove_11 : decode cX4_mayImprove 11 = .ok (.aload_n 0, 1) := by decide +kernel
theorem dX4_mayImprove_12 : decode cX4_mayImprove 12 = .ok (.getfield 29, 3) := by decide +kernel
theorem dX4_mayImprove_15 : decode cX4_mayImprove 15 = .ok (.iload_n 1, 1) := by decide +kernel
theorem dX4_mayImprove_16 : decode cX4_mayImprove 16 = .ok (.aaload, 1) := by decide +kernel
theorem dX4_mayImprove_17 : decode cX4_mayImprove 17 = .ok (.iconst 3, 1) := by decide +kernel
theorem dX4_mayImprove_18 : decode cX4_mayImprove 18 = .ok (.iaload, 1) := by decide +kernel
theorem dX4_mayImprove_19 : decode cX4_mayImprove 19 = .ok (.imul, 1) := by decide +kernel
theorem dX4_mayImprove_20 : decode cX4_mayImprove 20 = .ok (.iadd, 1) := by decide +kernel
theorem dX4_mayImprove_21 : decode cX4_mayImprove 21 = .ok (.aload_n 0, 1) := by decide +kernel
theorem dX4_mayImprove_22 : decode cX4_mayImprove 22 = .ok (.getfield 54, 3) := by decide +kernel
theorem dX4_mayImprove_25 : decode cX4_mayImprove 25 = .ok (.if_icmp .lt 5, 3) := by decide +kernel
theorem dX4_mayImprove_28 : decode cX4_mayImprove 28 = .ok (.iconst 0, 1) := by decide +kernel
theorem dX4_mayImprove_29 : decode cX4_mayImprove 29 = .ok (.ireturn, 1) := by decide +kernel
theorem dX4_mayImprove_30 : decode cX4_mayImprove 30 = .ok (.iconst 0, 1) := by decide +kernel
theorem dX4_mayImprove_31 : decode cX4_mayImprove 31 = .ok (.istore 4, 2) := by decide +kernel
theorem dX4_mayImprove_33 : decode cX4_mayImprove 33 = .ok (.iload 4, 2) := by decide +kernel
theorem dX4_mayImprove_35 : decode cX4_mayImprove 35 = .ok (.iconst 3, 1) := by decide +kernel
theorem dX4_mayImprove_36 : decode cX4_mayImprove 36 = .ok (.if_icmp .ge 65, 3) := by decide +kernel
theorem dX4_mayImprove_39 : decode cX4_mayImprove 39 = .ok (.aload_n 3, 1) := by decide +kernel
theorem dX4_mayImprove_40 : decode cX4_mayImprove 40 = .ok (.iload 4, 2) := by decide +kernel
theorem dX4_mayImprove_42 : decode cX4_mayImprove 42 = .ok (.iaload, 1) := by decide +kernel
theorem dX4_mayImprove_43 : decode cX4_mayImprove 43 = .ok (.iload_n 2, 1) := by decide +kernel
theorem dX4_mayImprove_44 : decode cX4_mayImprove 44 = .ok (.aload_n 0, 1) := by decide +kernel
theorem dX4_mayImprove_45 : decode cX4_mayImprove 45 = .ok (.getfield 32, 3) := by decide +kernel
theorem dX4_mayImprove_48 : decode cX4_mayImprove 48 = .ok (.iload_n 1, 1) := by decide +kernel
theorem dX4_mayImprove_49 : decode cX4_mayImprove 49 = .ok (.aaload, 1) := by decide +kernel
theorem dX4_mayImprove_50 : decode cX4_mayImprove 50 = .ok (.iload 4, 2) := by decide +kernel
theorem dX4_mayImprove_52 : decode cX4_mayImprove 52 = .ok (.iaload, 1) := by decide +kernel
theorem dX4_mayImprove_53 : decode cX4_mayImprove 53 = .ok (.imul, 1) := by decide +kernel
theorem dX4_mayImprove_54 : decode cX4_mayImprove 54 = .ok (.iadd, 1) := by decide +kernel
theorem dX4_mayImprove_55 : decode cX4_mayImprove 55 = .ok (.aload_n 0, 1) := by decide +kernel
theorem dX4_mayImprove_56 : decode cX4_mayImprove 56 = .ok (.getfield 18, 3) := by decide +kernel
theorem dX4_mayImprove_59 : decode cX4_mayImprove 59 = .ok (.iload 4, 2) := by decide +kernel
theorem dX4_mayImprove_61 : decode cX4_mayImprove 61 = .ok (.iaload, 1) := by decide +kernel
theorem dX4_mayImprove_62 : decode cX4_mayImprove 62 = .ok (.if_icmp .ge 5, 3) := by decide +kernel
theorem dX4_mayImprove_65 : decode cX4_mayImprove 65 = .ok (.iconst 0, 1) := by decide +kernel
theorem dX4_mayImprove_66 : decode cX4_mayImprove 66 = .ok (.ireturn, 1) := by decide +kernel
theorem dX4_mayImprove_67 : decode cX4_mayImprove 67 = .ok (.aload_n 3, 1) := by decide +kernel
theorem dX4_mayImprove_68 : decode cX4_mayImprove 68 = .ok (.iload 4, 2) := by decide +kernel
theorem dX4_mayImprove_70 : decode cX4_mayImprove 70 = .ok (.iaload, 1) := by decide +kernel
theorem dX4_mayImprove_71 : decode cX4_mayImprove 71 = .ok (.iload_n 2, 1) := by decide +kernel
theorem dX4_mayImprove_72 : decode cX4_mayImprove 72 = .ok (.aload_n 0, 1) := by decide +kernel
theorem dX4_mayImprove_73 : decode cX4_mayImprove 73 = .ok (.getfield 29, 3) := by decide +kernel
theorem dX4_mayImprove_76 : decode cX4_mayImprove 76 = .ok (.iload_n 1, 1) := by decide +kernel
theorem dX4_mayImprove_77 : decode cX4_mayImprove 77 = .ok (.aaload, 1) := by decide +kernel
theorem dX4_mayImprove_78 : decode cX4_mayImprove 78 = .ok (.iload 4, 2) := by decide +kernel
theorem dX4_mayImprove_80 : decode cX4_mayImprove 80 = .ok (.iaload, 1) := by decide +kernel
theorem dX4_mayImprove_81 : decode cX4_mayImprove 81 = .ok (.imul, 1) := by decide +kernel
theorem dX4_mayImprove_82 : decode cX4_mayImprove 82 = .ok (.iadd, 1) := by decide +kernel
theorem dX4_mayImprove_83 : decode cX4_mayImprove 83 = .ok (.aload_n 0, 1) := by decide +kernel
theorem dX4_mayImprove_84 : decode cX4_mayImprove 84 = .ok (.getfield 21, 3) := by decide +kernel
theorem dX4_mayImprove_87 : decode cX4_mayImprove 87 = .ok (.iload 4, 2) := by decide +kernel
theorem dX4_mayImprove_89 : decode cX4_mayImprove 89 = .ok (.iaload, 1) := by decide +kernel
theorem dX4_mayImprove_90 : decode cX4_mayImprove 90 = .ok (.if_icmp .le 5, 3) := by decide +kernel
theorem dX4_mayImprove_93 : decode cX4_mayImprove 93 = .ok (.iconst 0, 1) := by decide +kernel
theorem dX4_mayImprove_94 : decode cX4_mayImprove 94 = .ok (.ireturn, 1) := by decide +kernel
theorem dX4_mayImprove_95 : decode cX4_mayImprove 95 = .ok (.iinc 4 1, 3) := by decide +kernel
theorem dX4_mayImprove_98 : decode cX4_mayImprove 98 = .ok (.goto (-65), 3) := by decide +kernel
theorem dX4_mayImprove_101 : decode cX4_mayImprove 101 = .ok (.iconst 1, 1) := by decide +kernel
theorem dX4_mayImprove_102 : decode cX4_mayImprove 102 = .ok (.ireturn, 1) := by decide +kernel
theorem dX4_giveTo_0 : decode cX4_giveTo 0 = .ok (.aload_n 0, 1) := by decide +kernel
theorem dX4_giveTo_1 : decode cX4_giveTo 1 = .ok (.getfield 15, 3) := by decide +kernel
theorem dX4_giveTo_4 : decode cX4_giveTo 4 = .ok (.iload_n 1, 1) := by decide +kernel
theorem dX4_giveTo_5 : decode cX4_giveTo 5 = .ok (.iload_n 2, 1) := by decide +kernel
theorem dX4_giveTo_6 : decode cX4_giveTo 6 = .ok (.iastore, 1) := by decide +kernel
theorem dX4_giveTo_7 : decode cX4_giveTo 7 = .ok (.iconst 0, 1) := by decide +kernel
theorem dX4_giveTo_8 : decode cX4_giveTo 8 = .ok (.istore_n 3, 1) := by decide +kernel
theorem dX4_giveTo_9 : decode cX4_giveTo 9 = .ok (.iload_n 3, 1) := by decide +kernel
theorem dX4_giveTo_10 : decode cX4_giveTo 10 = .ok (.iconst 4, 1) := by decide +kernel
theorem dX4_giveTo_11 : decode cX4_giveTo 11 = .ok (.if_icmp .ge 38, 3) := by decide +kernel
theorem dX4_giveTo_14 : decode cX4_giveTo 14 = .ok (.aload_n 0, 1) := by decide +kernel
theorem dX4_giveTo_15 : decode cX4_giveTo 15 = .ok (.getfield 35, 3) := by decide +kernel
theorem dX4_giveTo_18 : decode cX4_giveTo 18 = .ok (.iload_n 1, 1) := by decide +kernel
theorem dX4_giveTo_19 : decode cX4_giveTo 19 = .ok (.iconst 1, 1) := by decide +kernel
theorem dX4_giveTo_20 : decode cX4_giveTo 20 = .ok (.iadd, 1) := by decide +kernel
theorem dX4_giveTo_21 : decode cX4_giveTo 21 = .ok (.aaload, 1) := by decide +kernel
theorem dX4_giveTo_22 : decode cX4_giveTo 22 = .ok (.iload_n 3, 1) := by decide +kernel
theorem dX4_giveTo_23 : decode cX4_giveTo 23 = .ok (.aload_n 0, 1) := by decide +kernel
theorem dX4_giveTo_24 : decode cX4_giveTo 24 = .ok (.getfield 35, 3) := by decide +kernel
theorem dX4_giveTo_27 : decode cX4_giveTo 27 = .ok (.iload_n 1, 1) := by decide +kernel
theorem dX4_giveTo_28 : decode cX4_giveTo 28 = .ok (.aaload, 1) := by decide +kernel
theorem dX4_giveTo_29 : decode cX4_giveTo 29 = .ok (.iload_n 3, 1) := by decide +kernel
theorem dX4_giveTo_30 : decode cX4_giveTo 30 = .ok (.iaload, 1) := by decide +kernel
theorem dX4_giveTo_31 : decode cX4_giveTo 31 = .ok (.iload_n 2, 1) := by decide +kernel
theorem dX4_giveTo_32 : decode cX4_giveTo 32 = .ok (.aload_n 0, 1) := by decide +kernel
theorem dX4_giveTo_33 : decode cX4_giveTo 33 = .ok (.getfield 26, 3) := by decide +kernel
theorem dX4_giveTo_36 : decode cX4_giveTo 36 = .ok (.iload_n 1, 1) := by decide +kernel
theorem dX4_giveTo_37 : decode cX4_giveTo 37 = .ok (.aaload, 1) := by decide +kernel
theorem dX4_giveTo_38 : decode cX4_giveTo 38 = .ok (.iload_n 3, 1) := by decide +kernel
theorem dX4_giveTo_39 : decode cX4_giveTo 39 = .ok (.iaload, 1) := by decide +kernel
theorem dX4_giveTo_40 : decode cX4_giveTo 40 = .ok (.imul, 1) := by decide +kernel
theorem dX4_giveTo_41 : decode cX4_giveTo 41 = .ok (.iadd, 1) := by decide +kernel
theorem dX4_giveTo_42 : decode cX4_giveTo 42 = .ok (.iastore, 1) := by decide +kernel
theorem dX4_giveTo_43 : decode cX4_giveTo 43 = .ok (.iinc 3 1, 3) := by decide +kernel
theorem dX4_giveTo_46 : decode cX4_giveTo 46 = .ok (.goto (-37), 3) := by decide +kernel
theorem dX4_giveTo_49 : decode cX4_giveTo 49 = .ok (.return_, 1) := by decide +kernel
theorem dX4_keepBest_0 : decode cX4_keepBest 0 = .ok (.aload_n 0, 1) := by decide +kernel
theorem dX4_keepBest_1 : decode cX4_keepBest 1 = .ok (.getfield 15, 3) := by decide +kernel
theorem dX4_keepBest_4 : decode cX4_keepBest 4 = .ok (.iload_n 1, 1) := by decide +kernel
theorem dX4_keepBest_5 : decode cX4_keepBest 5 = .ok (.iload_n 2, 1) := by decide +kernel
theorem dX4_keepBest_6 : decode cX4_keepBest 6 = .ok (.iastore, 1) := by decide +kernel
theorem dX4_keepBest_7 : decode cX4_keepBest 7 = .ok (.aload_n 0, 1) := by decide +kernel
theorem dX4_keepBest_8 : decode cX4_keepBest 8 = .ok (.getfield 15, 3) := by decide +kernel
theorem dX4_keepBest_11 : decode cX4_keepBest 11 = .ok (.iconst 0, 1) := by decide +kernel
theorem dX4_keepBest_12 : decode cX4_keepBest 12 = .ok (.aload_n 0, 1) := by decide +kernel
theorem dX4_keepBest_13 : decode cX4_keepBest 13 = .ok (.getfield 9, 3) := by decide +kernel
theorem dX4_keepBest_16 : decode cX4_keepBest 16 = .ok (.iconst 0, 1) := by decide +kernel
theorem dX4_keepBest_17 : decode cX4_keepBest 17 = .ok (.aload_n 0, 1) := by decide +kernel
theorem dX4_keepBest_18 : decode cX4_keepBest 18 = .ok (.getfield 44, 3) := by decide +kernel
theorem dX4_keepBest_21 : decode cX4_keepBest 21 = .ok (.invokestatic 101, 3) := by decide +kernel
theorem dX4_keepBest_24 : decode cX4_keepBest 24 = .ok (.aload_n 0, 1) := by decide +kernel
theorem dX4_keepBest_25 : decode cX4_keepBest 25 = .ok (.aload_n 0, 1) := by decide +kernel
theorem dX4_keepBest_26 : decode cX4_keepBest 26 = .ok (.getfield 35, 3) := by decide +kernel
theorem dX4_keepBest_29 : decode cX4_keepBest 29 = .ok (.iload_n 1, 1) := by decide +kernel
theorem dX4_keepBest_30 : decode cX4_keepBest 30 = .ok (.aaload, 1) := by decide +kernel
theorem dX4_keepBest_31 : decode cX4_keepBest 31 = .ok (.iconst 3, 1) := by decide +kernel
theorem dX4_keepBest_32 : decode cX4_keepBest 32 = .ok (.iaload, 1) := by decide +kernel
theorem dX4_keepBest_33 : decode cX4_keepBest 33 = .ok (.iload_n 2, 1) := by decide +kernel
theorem dX4_keepBest_34 : decode cX4_keepBest 34 = .ok (.aload_n 0, 1) := by decide +kernel
theorem dX4_keepBest_35 : decode cX4_keepBest 35 = .ok (.getfield 26, 3) := by decide +kernel
theorem dX4_keepBest_38 : decode cX4_keepBest 38 = .ok (.iload_n 1, 1) := by decide +kernel
theorem dX4_keepBest_39 : decode cX4_keepBest 39 = .ok (.aaload, 1) := by decide +kernel
theorem dX4_keepBest_40 : decode cX4_keepBest 40 = .ok (.iconst 3, 1) := by decide +kernel
theorem dX4_keepBest_41 : decode cX4_keepBest 41 = .ok (.iaload, 1) := by decide +kernel
theorem dX4_keepBest_42 : decode cX4_keepBest 42 = .ok (.imul, 1) := by decide +kernel
theorem dX4_keepBest_43 : decode cX4_keepBest 43 = .ok (.iadd, 1) := by decide +kernel
theorem dX4_keepBest_44 : decode cX4_keepBest 44 = .ok (.putfield 54, 3) := by decide +kernel
theorem dX4_keepBest_47 : decode cX4_keepBest 47 = .ok (.return_, 1) := by decide +kernel
theorem dX5_init_0 : decode cX5_init 0 = .ok (.aload_n 0, 1) := by decide +kernel
theorem dX5_init_1 : decode cX5_init 1 = .ok (.invokespecial 3, 3) := by decide +kernel
theorem dX5_init_4 : decode cX5_init 4 = .ok (.aload_n 0, 1) := by decide +kernel
theorem dX5_init_5 : decode cX5_init 5 = .ok (.iconst 5, 1) := by decide +kernel
theorem dX5_init_6 : decode cX5_init 6 = .ok (.anewarray 9, 3) := by decide +kernel
theorem dX5_init_9 : decode cX5_init 9 = .ok (.putfield 11, 3) := by decide +kernel
theorem dX5_init_12 : decode cX5_init 12 = .ok (.aload_n 0, 1) := by decide +kernel
theorem dX5_init_13 : decode cX5_init 13 = .ok (.iconst 3, 1) := by decide +kernel
theorem dX5_init_14 : decode cX5_init 14 = .ok (.newarray .int, 2) := by decide +kernel
theorem dX5_init_16 : decode cX5_init 16 = .ok (.putfield 17, 3) := by decide +kernel
theorem dX5_init_19 : decode cX5_init 19 = .ok (.aload_n 0, 1) := by decide +kernel
theorem dX5_init_20 : decode cX5_init 20 = .ok (.iconst 3, 1) := by decide +kernel
theorem dX5_init_21 : decode cX5_init 21 = .ok (.newarray .int, 2) := by decide +kernel
theorem dX5_init_23 : decode cX5_init 23 = .ok (.putfield 21, 3) := by decide +kernel
theorem dX5_init_26 : decode cX5_init 26 = .ok (.aload_n 0, 1) := by decide +kernel
theorem dX5_init_27 : decode cX5_init 27 = .ok (.getstatic 24, 3) := by decide +kernel
theorem dX5_init_30 : decode cX5_init 30 = .ok (.invokevirtual 27, 3) := by decide +kernel
theorem dX5_init_33 : decode cX5_init 33 = .ok (.checkcast 28, 3) := by decide +kernel
theorem dX5_init_36 : decode cX5_init 36 = .ok (.putfield 32, 3) := by decide +kernel
theorem dX5_init_39 : decode cX5_init 39 = .ok (.iconst 0, 1) := by decide +kernel
theorem dX5_init_40 : decode cX5_init 40 = .ok (.istore_n 1, 1) := by decide +kernel
theorem dX5_init_41 : decode cX5_init 41 = .ok (.iload_n 1, 1) := by decide +kernel
theorem dX5_init_42 : decode cX5_init 42 = .ok (.aload_n 0, 1) := by decide +kernel
theorem dX5_init_43 : decode cX5_init 43 = .ok (.getfield 11, 3) := by decide +kernel
theorem dX5_init_46 : decode cX5_init 46 = .ok (.arraylength, 1) := by decide +kernel
theorem dX5_init_47 : decode cX5_init 47 = .ok (.if_icmp .ge 22, 3) := by decide +kernel
theorem dX5_init_50 : decode cX5_init 50 = .ok (.aload_n 0, 1) := by decide +kernel
theorem dX5_init_51 : decode cX5_init 51 = .ok (.getfield 11, 3) := by decide +kernel
theorem dX5_init_54 : decode cX5_init 54 = .ok (.iload_n 1, 1) := by decide +kernel
theorem dX5_init_55 : decode cX5_init 55 = .ok (.new 9, 3) := by decide +kernel
theorem dX5_init_58 : decode cX5_init 58 = .ok (.dup, 1) := by decide +kernel
theorem dX5_init_59 : decode cX5_init 59 = .ok (.invokespecial 35, 3) := by decide +kernel
theorem dX5_init_62 : decode cX5_init 62 = .ok (.aastore, 1) := by decide +kernel
theorem dX5_init_63 : decode cX5_init 63 = .ok (.iinc 1 1, 3) := by decide +kernel
theorem dX5_init_66 : decode cX5_init 66 = .ok (.goto (-25), 3) := by decide +kernel
theorem dX5_init_69 : decode cX5_init 69 = .ok (.aload_n 0, 1) := by decide +kernel
theorem dX5_init_70 : decode cX5_init 70 = .ok (.getfield 21, 3) := by decide +kernel
theorem dX5_init_73 : decode cX5_init 73 = .ok (.bipush 100, 2) := by decide +kernel
theorem dX5_init_75 : decode cX5_init 75 = .ok (.invokestatic 36, 3) := by decide +kernel
theorem dX5_init_78 : decode cX5_init 78 = .ok (.return_, 1) := by decide +kernel
theorem dX5_copyFrom_0 : decode cX5_copyFrom 0 = .ok (.iconst 0, 1) := by decide +kernel
theorem dX5_copyFrom_1 : decode cX5_copyFrom 1 = .ok (.istore_n 2, 1) := by decide +kernel
theorem dX5_copyFrom_2 : decode cX5_copyFrom 2 = .ok (.iload_n 2, 1) := by decide +kernel
theorem dX5_copyFrom_3 : decode cX5_copyFrom 3 = .ok (.iconst 5, 1) := by decide +kernel
theorem dX5_copyFrom_4 : decode cX5_copyFrom 4 = .ok (.if_icmp .ge 24, 3) := by decide +kernel
theorem dX5_copyFrom_7 : decode cX5_copyFrom 7 = .ok (.aload_n 0, 1) := by decide +kernel
theorem dX5_copyFrom_8 : decode cX5_copyFrom 8 = .ok (.getfield 11, 3) := by decide +kernel
theorem dX5_copyFrom_11 : decode cX5_copyFrom 11 = .ok (.iload_n 2, 1) := by decide +kernel
theorem dX5_copyFrom_12 : decode cX5_copyFrom 12 = .ok (.aaload, 1) := by decide +kernel
theorem dX5_copyFrom_13 : decode cX5_copyFrom 13 = .ok (.aload_n 1, 1) := by decide +kernel
theorem dX5_copyFrom_14 : decode cX5_copyFrom 14 = .ok (.getfield 11, 3) := by decide +kernel
theorem dX5_copyFrom_17 : decode cX5_copyFrom 17 = .ok (.iload_n 2, 1) := by decide +kernel
theorem dX5_copyFrom_18 : decode cX5_copyFrom 18 = .ok (.aaload, 1) := by decide +kernel
theorem dX5_copyFrom_19 : decode cX5_copyFrom 19 = .ok (.invokevirtual 42, 3) := by decide +kernel
theorem dX5_copyFrom_22 : decode cX5_copyFrom 22 = .ok (.iinc 2 1, 3) := by decide +kernel
theorem dX5_copyFrom_25 : decode cX5_copyFrom 25 = .ok (.goto (-23), 3) := by decide +kernel
theorem dX5_copyFrom_28 : decode cX5_copyFrom 28 = .ok (.aload_n 1, 1) := by decide +kernel
theorem dX5_copyFrom_29 : decode cX5_copyFrom 29 = .ok (.getfield 17, 3) := by decide +kernel
theorem dX5_copyFrom_32 : decode cX5_copyFrom 32 = .ok (.iconst 0, 1) := by decide +kernel
theorem dX5_copyFrom_33 : decode cX5_copyFrom 33 = .ok (.aload_n 0, 1) := by decide +kernel
theorem dX5_copyFrom_34 : decode cX5_copyFrom 34 = .ok (.getfield 17, 3) := by decide +kernel
theorem dX5_copyFrom_37 : decode cX5_copyFrom 37 = .ok (.iconst 0, 1) := by decide +kernel
theorem dX5_copyFrom_38 : decode cX5_copyFrom 38 = .ok (.iconst 3, 1) := by decide +kernel
theorem dX5_copyFrom_39 : decode cX5_copyFrom 39 = .ok (.invokestatic 46, 3) := by decide +kernel
theorem dX5_copyFrom_42 : decode cX5_copyFrom 42 = .ok (.aload_n 1, 1) := by decide +kernel
theorem dX5_copyFrom_43 : decode cX5_copyFrom 43 = .ok (.getfield 21, 3) := by decide +kernel
theorem dX5_copyFrom_46 : decode cX5_copyFrom 46 = .ok (.iconst 0, 1) := by decide +kernel
theorem dX5_copyFrom_47 : decode cX5_copyFrom 47 = .ok (.aload_n 0, 1) := by decide +kernel
theorem dX5_copyFrom_48 : decode cX5_copyFrom 48 = .ok (.getfield 21, 3) := by decide +kernel
theorem dX5_copyFrom_51 : decode cX5_copyFrom 51 = .ok (.iconst 0, 1) := by decide +kernel
theorem dX5_copyFrom_52 : decode cX5_copyFrom 52 = .ok (.iconst 3, 1) := by decide +kernel
theorem dX5_copyFrom_53 : decode cX5_copyFrom 53 = .ok (.invokestatic 46, 3) := by decide +kernel
theorem dX5_copyFrom_56 : decode cX5_copyFrom 56 = .ok (.aload_n 1, 1) := by decide +kernel
theorem dX5_copyFrom_57 : decode cX5_copyFrom 57 = .ok (.getfield 32, 3) := by decide +kernel
theorem dX5_copyFrom_60 : decode cX5_copyFrom 60 = .ok (.iconst 0, 1) := by decide +kernel
theorem dX5_copyFrom_61 : decode cX5_copyFrom 61 = .ok (.aload_n 0, 1) := by decide +kernel
theorem dX5_copyFrom_62 : decode cX5_copyFrom 62 = .ok (.getfield 32, 3) := by decide +kernel
theorem dX5_copyFrom_65 : decode cX5_copyFrom 65 = .ok (.iconst 0, 1) := by decide +kernel
theorem dX5_copyFrom_66 : decode cX5_copyFrom 66 = .ok (.aload_n 0, 1) := by decide +kernel
theorem dX5_copyFrom_67 : decode cX5_copyFrom 67 = .ok (.getfield 32, 3) := by decide +kernel
theorem dX5_copyFrom_70 : decode cX5_copyFrom 70 = .ok (.arraylength, 1) := by decide +kernel
theorem dX5_copyFrom_71 : decode cX5_copyFrom 71 = .ok (.invokestatic 46, 3) := by decide +kernel
theorem dX5_copyFrom_74 : decode cX5_copyFrom 74 = .ok (.aload_n 0, 1) := by decide +kernel
theorem dX5_copyFrom_75 : decode cX5_copyFrom 75 = .ok (.aload_n 1, 1) := by decide +kernel
theorem dX5_copyFrom_76 : decode cX5_copyFrom 76 = .ok (.getfield 52, 3) := by decide +kernel
theorem dX5_copyFrom_79 : decode cX5_copyFrom 79 = .ok (.putfield 52, 3) := by decide +kernel
theorem dX5_copyFrom_82 : decode cX5_copyFrom 82 = .ok (.aload_n 0, 1) := by decide +kernel
theorem dX5_copyFrom_83 : decode cX5_copyFrom 83 = .ok (.aload_n 1, 1) := by decide +kernel
theorem dX5_copyFrom_84 : decode cX5_copyFrom 84 = .ok (.getfield 56, 3) := by decide +kernel
theorem dX5_copyFrom_87 : decode cX5_copyFrom 87 = .ok (.putfield 56, 3) := by decide +kernel
theorem dX5_copyFrom_90 : decode cX5_copyFrom 90 = .ok (.aload_n 0, 1) := by decide +kernel
theorem dX5_copyFrom_91 : decode cX5_copyFrom 91 = .ok (.aload_n 1, 1) := by decide +kernel
theorem dX5_copyFrom_92 : decode cX5_copyFrom 92 = .ok (.getfield 59, 3) := by decide +kernel
theorem dX5_copyFrom_95 : decode cX5_copyFrom 95 = .ok (.putfield 59, 3) := by decide +kernel
theorem dX5_copyFrom_98 : decode cX5_copyFrom 98 = .ok (.aload_n 0, 1) := by decide +kernel
theorem dX5_copyFrom_99 : decode cX5_copyFrom 99 = .ok (.aload_n 1, 1) := by decide +kernel
theorem dX5_copyFrom_100 : decode cX5_copyFrom 100 = .ok (.getfield 62, 3) := by decide +kernel
theorem dX5_copyFrom_103 : decode cX5_copyFrom 103 = .ok (.putfield 62, 3) := by decide +kernel
theorem dX5_copyFrom_106 : decode cX5_copyFrom 106 = .ok (.return_, 1) := by decide +kernel
theorem dX5_hasLeaf_0 : decode cX5_hasLeaf 0 = .ok (.iload_n 1, 1) := by decide +kernel
theorem dX5_hasLeaf_1 : decode cX5_hasLeaf 1 = .ok (.ifCond .lt 15, 3) := by decide +kernel
theorem dX5_hasLeaf_4 : decode cX5_hasLeaf 4 = .ok (.iload_n 1, 1) := by decide +kernel
theorem dX5_hasLeaf_5 : decode cX5_hasLeaf 5 = .ok (.aload_n 0, 1) := by decide +kernel
theorem dX5_hasLeaf_6 : decode cX5_hasLeaf 6 = .ok (.getfield 52, 3) := by decide +kernel
theorem dX5_hasLeaf_9 : decode cX5_hasLeaf 9 = .ok (.if_icmp .ge 7, 3) := by decide +kernel
theorem dX5_hasLeaf_12 : decode cX5_hasLeaf 12 = .ok (.iconst 1, 1) := by decide +kernel
theorem dX5_hasLeaf_13 : decode cX5_hasLeaf 13 = .ok (.goto 4, 3) := by decide +kernel
theorem dX5_hasLeaf_16 : decode cX5_hasLeaf 16 = .ok (.iconst 0, 1) := by decide +kernel
theorem dX5_hasLeaf_17 : decode cX5_hasLeaf 17 = .ok (.ireturn, 1) := by decide +kernel
theorem dX5_changeSetting_0 : decode cX5_changeSetting 0 = .ok (.iload_n 1, 1) := by decide +kernel
theorem dX5_changeSetting_1 : decode cX5_changeSetting 1 = .ok (.ifCond .lt 12, 3) := by decide +kernel
theorem dX5_changeSetting_4 : decode cX5_changeSetting 4 = .ok (.iload_n 1, 1) := by decide +kernel
theorem dX5_changeSetting_5 : decode cX5_changeSetting 5 = .ok (.aload_n 0, 1) := by decide +kernel
theorem dX5_changeSetting_6 : decode cX5_changeSetting 6 = .ok (.getfield 32, 3) := by decide +kernel
theorem dX5_changeSetting_9 : decode cX5_changeSetting 9 = .ok (.arraylength, 1) := by decide +kernel
theorem dX5_changeSetting_10 : decode cX5_changeSetting 10 = .ok (.if_icmp .lt 6, 3) := by decide +kernel
theorem dX5_changeSetting_13 : decode cX5_changeSetting 13 = .ok (.bipush (-2), 2) := by decide +kernel
theorem dX5_changeSetting_15 : decode cX5_changeSetting 15 = .ok (.ireturn, 1) := by decide +kernel
theorem dX5_changeSetting_16 : decode cX5_changeSetting 16 = .ok (.iload_n 2, 1) := by decide +kernel
theorem dX5_changeSetting_17 : decode cX5_changeSetting 17 = .ok (.getstatic 65, 3) := by decide +kernel
theorem dX5_changeSetting_20 : decode cX5_changeSetting 20 = .ok (.iload_n 1, 1) := by decide +kernel
theorem dX5_changeSetting_21 : decode cX5_changeSetting 21 = .ok (.iaload, 1) := by decide +kernel
theorem dX5_changeSetting_22 : decode cX5_changeSetting 22 = .ok (.getstatic 68, 3) := by decide +kernel
theorem dX5_changeSetting_25 : decode cX5_changeSetting 25 = .ok (.iload_n 1, 1) := by decide +kernel
theorem dX5_changeSetting_26 : decode cX5_changeSetting 26 = .ok (.iaload, 1) := by decide +kernel
theorem dX5_changeSetting_27 : decode cX5_changeSetting 27 = .ok (.invokestatic 71, 3) := by decide +kernel
theorem dX5_changeSetting_30 : decode cX5_changeSetting 30 = .ok (.ifCond .ne 6, 3) := by decide +kernel
theorem dX5_changeSetting_33 : decode cX5_changeSetting 33 = .ok (.bipush (-2), 2) := by decide +kernel
theorem dX5_changeSetting_35 : decode cX5_changeSetting 35 = .ok (.ireturn, 1) := by decide +kernel
theorem dX5_changeSetting_36 : decode cX5_changeSetting 36 = .ok (.aload_n 0, 1) := by decide +kernel
theorem dX5_changeSetting_37 : decode cX5_changeSetting 37 = .ok (.getfield 32, 3) := by decide +kernel
theorem dX5_changeSetting_40 : decode cX5_changeSetting 40 = .ok (.iload_n 1, 1) := by decide +kernel
theorem dX5_changeSetting_41 : decode cX5_changeSetting 41 = .ok (.iaload, 1) := by decide +kernel
theorem dX5_changeSetting_42 : decode cX5_changeSetting 42 = .ok (.istore_n 3, 1) := by decide +kernel
theorem dX5_changeSetting_43 : decode cX5_changeSetting 43 = .ok (.aload_n 0, 1) := by decide +kernel
theorem dX5_changeSetting_44 : decode cX5_changeSetting 44 = .ok (.getfield 32, 3) := by decide +kernel
theorem dX5_changeSetting_47 : decode cX5_changeSetting 47 = .ok (.iload_n 1, 1) := by decide +kernel
theorem dX5_changeSetting_48 : decode cX5_changeSetting 48 = .ok (.iload_n 2, 1) := by decide +kernel
theorem dX5_changeSetting_49 : decode cX5_changeSetting 49 = .ok (.iastore, 1) := by decide +kernel
theorem dX5_changeSetting_50 : decode cX5_changeSetting 50 = .ok (.iload_n 3, 1) := by decide +kernel
theorem dX5_changeSetting_51 : decode cX5_changeSetting 51 = .ok (.ireturn, 1) := by decide +kernel
theorem dX5_addLeaf_0 : decode cX5_addLeaf 0 = .ok (.iload_n 2, 1) := by decide +kernel
theorem dX5_addLeaf_1 : decode cX5_addLeaf 1 = .ok (.iconst 0, 1) := by decide +kernel
theorem dX5_addLeaf_2 : decode cX5_addLeaf 2 = .ok (.bipush 100, 2) := by decide +kernel
theorem dX5_addLeaf_4 : decode cX5_addLeaf 4 = .ok (.invokestatic 71, 3) := by decide +kernel
theorem dX5_addLeaf_7 : decode cX5_addLeaf 7 = .ok (.ifCond .eq 28, 3) := by decide +kernel
theorem dX5_addLeaf_10 : decode cX5_addLeaf 10 = .ok (.iload_n 3, 1) := by decide +kernel
theorem dX5_addLeaf_11 : decode cX5_addLeaf 11 = .ok (.iconst 0, 1) := by decide +kernel
theorem dX5_addLeaf_12 : decode cX5_addLeaf 12 = .ok (.bipush 100, 2) := by decide +kernel
theorem dX5_addLeaf_14 : decode cX5_addLeaf 14 = .ok (.invokestatic 71, 3) := by decide +kernel
theorem dX5_addLeaf_17 : decode cX5_addLeaf 17 = .ok (.ifCond .eq 18, 3) := by decide +kernel
theorem dX5_addLeaf_20 : decode cX5_addLeaf 20 = .ok (.iload 4, 2) := by decide +kernel
theorem dX5_addLeaf_22 : decode cX5_addLeaf 22 = .ok (.iconst 0, 1) := by decide +kernel
theorem dX5_addLeaf_23 : decode cX5_addLeaf 23 = .ok (.bipush 100, 2) := by decide +kernel
theorem dX5_addLeaf_25 : decode cX5_addLeaf 25 = .ok (.invokestatic 71, 3) := by decide +kernel
theorem dX5_addLeaf_28 : decode cX5_addLeaf 28 = .ok (.ifCond .eq 7, 3) := by decide +kernel
theorem dX5_addLeaf_31 : decode cX5_addLeaf 31 = .ok (.iconst 1, 1) := by decide +kernel
theorem dX5_addLeaf_32 : decode cX5_addLeaf 32 = .ok (.goto 4, 3) := by decide +kernel
theorem dX5_addLeaf_35 : decode cX5_addLeaf 35 = .ok (.iconst 0, 1) := by decide +kernel
theorem dX5_addLeaf_36 : decode cX5_addLeaf 36 = .ok (.istore 6, 2) := by decide +kernel
theorem dX5_addLeaf_38 : decode cX5_addLeaf 38 = .ok (.iload 6, 2) := by decide +kernel
theorem dX5_addLeaf_40 : decode cX5_addLeaf 40 = .ok (.ifCond .eq 26, 3) := by decide +kernel
theorem dX5_addLeaf_43 : decode cX5_addLeaf 43 = .ok (.iload_n 1, 1) := by decide +kernel
theorem dX5_addLeaf_44 : decode cX5_addLeaf 44 = .ok (.iconst 0, 1) := by decide +kernel
theorem dX5_addLeaf_45 : decode cX5_addLeaf 45 = .ok (.sipush 999, 3) := by decide +kernel
theorem dX5_addLeaf_48 : decode cX5_addLeaf 48 = .ok (.invokestatic 71, 3) := by decide +kernel
theorem dX5_addLeaf_51 : decode cX5_addLeaf 51 = .ok (.ifCond .eq 15, 3) := by decide +kernel
theorem dX5_addLeaf_54 : decode cX5_addLeaf 54 = .ok (.iload 5, 2) := by decide +kernel
theorem dX5_addLeaf_56 : decode cX5_addLeaf 56 = .ok (.iconst 0, 1) := by decide +kernel
theorem dX5_addLeaf_57 : decode cX5_addLeaf 57 = .ok (.sipush 9999, 3) := by decide +kernel
theorem dX5_addLeaf_60 : decode cX5_addLeaf 60 = .ok (.invokestatic 71, 3) := by decide +kernel
theorem dX5_addLeaf_63 : decode cX5_addLeaf 63 = .ok (.ifCond .ne 6, 3) := by decide +kernel
theorem dX5_addLeaf_66 : decode cX5_addLeaf 66 = .ok (.bipush (-2), 2) := by decide +kernel
theorem dX5_addLeaf_68 : decode cX5_addLeaf 68 = .ok (.ireturn, 1) := by decide +kernel
theorem dX5_addLeaf_69 : decode cX5_addLeaf 69 = .ok (.aload_n 0, 1) := by decide +kernel
theorem dX5_addLeaf_70 : decode cX5_addLeaf 70 = .ok (.getfield 52, 3) := by decide +kernel
theorem dX5_addLeaf_73 : decode cX5_addLeaf 73 = .ok (.iconst 5, 1) := by decide +kernel
theorem dX5_addLeaf_74 : decode cX5_addLeaf 74 = .ok (.if_icmp .lt 6, 3) := by decide +kernel
theorem dX5_addLeaf_77 : decode cX5_addLeaf 77 = .ok (.bipush (-4), 2) := by decide +kernel
theorem dX5_addLeaf_79 : decode cX5_addLeaf 79 = .ok (.ireturn, 1) := by decide +kernel
theorem dX5_addLeaf_80 : decode cX5_addLeaf 80 = .ok (.aload_n 0, 1) := by decide +kernel
theorem dX5_addLeaf_81 : decode cX5_addLeaf 81 = .ok (.getfield 11, 3) := by decide +kernel
theorem dX5_addLeaf_84 : decode cX5_addLeaf 84 = .ok (.aload_n 0, 1) := by decide +kernel
theorem dX5_addLeaf_85 : decode cX5_addLeaf 85 = .ok (.getfield 52, 3) := by decide +kernel
theorem dX5_addLeaf_88 : decode cX5_addLeaf 88 = .ok (.aaload, 1) := by decide +kernel
theorem dX5_addLeaf_89 : decode cX5_addLeaf 89 = .ok (.astore 7, 2) := by decide +kernel
theorem dX5_addLeaf_91 : decode cX5_addLeaf 91 = .ok (.aload 7, 2) := by decide +kernel
theorem dX5_addLeaf_93 : decode cX5_addLeaf 93 = .ok (.iload_n 1, 1) := by decide +kernel
theorem dX5_addLeaf_94 : decode cX5_addLeaf 94 = .ok (.iload 5, 2) := by decide +kernel
theorem dX5_addLeaf_96 : decode cX5_addLeaf 96 = .ok (.invokevirtual 75, 3) := by decide +kernel
theorem dX5_addLeaf_99 : decode cX5_addLeaf 99 = .ok (.aload 7, 2) := by decide +kernel
theorem dX5_addLeaf_101 : decode cX5_addLeaf 101 = .ok (.getfield 79, 3) := by decide +kernel
theorem dX5_addLeaf_104 : decode cX5_addLeaf 104 = .ok (.iconst 0, 1) := by decide +kernel
theorem dX5_addLeaf_105 : decode cX5_addLeaf 105 = .ok (.iload_n 2, 1) := by decide +kernel
theorem dX5_addLeaf_106 : decode cX5_addLeaf 106 = .ok (.iastore, 1) := by decide +kernel
theorem dX5_addLeaf_107 : decode cX5_addLeaf 107 = .ok (.aload 7, 2) := by decide +kernel
theorem dX5_addLeaf_109 : decode cX5_addLeaf 109 = .ok (.getfield 79, 3) := by decide +kernel
theorem dX5_addLeaf_112 : decode cX5_addLeaf 112 = .ok (.iconst 1, 1) := by decide +kernel
theorem dX5_addLeaf_113 : decode cX5_addLeaf 113 = .ok (.iload_n 3, 1) := by decide +kernel
theorem dX5_addLeaf_114 : decode cX5_addLeaf 114 = .ok (.iastore, 1) := by decide +kernel
theorem dX5_addLeaf_115 : decode cX5_addLeaf 115 = .ok (.aload 7, 2) := by decide +kernel
theorem dX5_addLeaf_117 : decode cX5_addLeaf 117 = .ok (.getfield 79, 3) := by decide +kernel
theorem dX5_addLeaf_120 : decode cX5_addLeaf 120 = .ok (.iconst 2, 1) := by decide +kernel
theorem dX5_addLeaf_121 : decode cX5_addLeaf 121 = .ok (.iload 4, 2) := by decide +kernel
theorem dX5_addLeaf_123 : decode cX5_addLeaf 123 = .ok (.iastore, 1) := by decide +kernel
theorem dX5_addLeaf_124 : decode cX5_addLeaf 124 = .ok (.aload_n 0, 1) := by decide +kernel
theorem dX5_addLeaf_125 : decode cX5_addLeaf 125 = .ok (.dup, 1) := by decide +kernel
theorem dX5_addLeaf_126 : decode cX5_addLeaf 126 = .ok (.getfield 52, 3) := by decide +kernel
theorem dX5_addLeaf_129 : decode cX5_addLeaf 129 = .ok (.iconst 1, 1) := by decide +kernel
theorem dX5_addLeaf_130 : decode cX5_addLeaf 130 = .ok (.iadd, 1) := by decide +kernel
theorem dX5_addLeaf_131 : decode cX5_addLeaf 131 = .ok (.putfield 52, 3) := by decide +kernel
theorem dX5_addLeaf_134 : decode cX5_addLeaf 134 = .ok (.aload_n 0, 1) := by decide +kernel
theorem dX5_addLeaf_135 : decode cX5_addLeaf 135 = .ok (.getfield 52, 3) := by decide +kernel
theorem dX5_addLeaf_138 : decode cX5_addLeaf 138 = .ok (.iconst 1, 1) := by decide +kernel
theorem dX5_addLeaf_139 : decode cX5_addLeaf 139 = .ok (.isub, 1) := by decide +kernel
theorem dX5_addLeaf_140 : decode cX5_addLeaf 140 = .ok (.ireturn, 1) := by decide +kernel
theorem dX5_changeRow_0 : decode cX5_changeRow 0 = .ok (.aload_n 0, 1) := by decide +kernel
theorem dX5_changeRow_1 : decode cX5_changeRow 1 = .ok (.iload_n 1, 1) := by decide +kernel
theorem dX5_changeRow_2 : decode cX5_changeRow 2 = .ok (.invokevirtual 82, 3) := by decide +kernel
theorem dX5_changeRow_5 : decode cX5_changeRow 5 = .ok (.ifCond .ne 5, 3) := by decide +kernel
theorem dX5_changeRow_8 : decode cX5_changeRow 8 = .ok (.iconst (-1), 1) := by decide +kernel
theorem dX5_changeRow_9 : decode cX5_changeRow 9 = .ok (.ireturn, 1) := by decide +kernel
theorem dX5_changeRow_10 : decode cX5_changeRow 10 = .ok (.iconst 0, 1) := by decide +kernel
theorem dX5_changeRow_11 : decode cX5_changeRow 11 = .ok (.istore 4, 2) := by decide +kernel
theorem dX5_changeRow_13 : decode cX5_changeRow 13 = .ok (.iload 4, 2) := by decide +kernel
theorem dX5_changeRow_15 : decode cX5_changeRow 15 = .ok (.bipush 7, 2) := by decide +kernel
theorem dX5_changeRow_17 : decode cX5_changeRow 17 = .ok (.if_icmp .ge 28, 3) := by decide +kernel
theorem dX5_changeRow_20 : decode cX5_changeRow 20 = .ok (.lload_n 2, 1) := by decide +kernel
theorem dX5_changeRow_21 : decode cX5_changeRow 21 = .ok (.iload 4, 2) := by decide +kernel
theorem dX5_changeRow_23 : decode cX5_changeRow 23 = .ok (.invokestatic 86, 3) := by decide +kernel
theorem dX5_changeRow_26 : decode cX5_changeRow 26 = .ok (.bipush (-9), 2) := by decide +kernel
theorem dX5_changeRow_28 : decode cX5_changeRow 28 = .ok (.bipush 9, 2) := by decide +kernel
theorem dX5_changeRow_30 : decode cX5_changeRow 30 = .ok (.invokestatic 71, 3) := by decide +kernel
theorem dX5_changeRow_33 : decode cX5_changeRow 33 = .ok (.ifCond .ne 6, 3) := by decide +kernel
theorem dX5_changeRow_36 : decode cX5_changeRow 36 = .ok (.bipush (-2), 2) := by decide +kernel
theorem dX5_changeRow_38 : decode cX5_changeRow 38 = .ok (.ireturn, 1) := by decide +kernel
theorem dX5_changeRow_39 : decode cX5_changeRow 39 = .ok (.iinc 4 1, 3) := by decide +kernel
theorem dX5_changeRow_42 : decode cX5_changeRow 42 = .ok (.goto (-29), 3) := by decide +kernel
theorem dX5_changeRow_45 : decode cX5_changeRow 45 = .ok (.aload_n 0, 1) := by decide +kernel
theorem dX5_changeRow_46 : decode cX5_changeRow 46 = .ok (.getfield 11, 3) := by decide +kernel
theorem dX5_changeRow_49 : decode cX5_changeRow 49 = .ok (.iload_n 1, 1) := by decide +kernel
theorem dX5_changeRow_50 : decode cX5_changeRow 50 = .ok (.aaload, 1) := by decide +kernel
theorem dX5_changeRow_51 : decode cX5_changeRow 51 = .ok (.getfield 90, 3) := by decide +kernel
theorem dX5_changeRow_54 : decode cX5_changeRow 54 = .ok (.astore 4, 2) := by decide +kernel
theorem dX5_changeRow_56 : decode cX5_changeRow 56 = .ok (.iconst 0, 1) := by decide +kernel
theorem dX5_changeRow_57 : decode cX5_changeRow 57 = .ok (.istore 5, 2) := by decide +kernel
theorem dX5_changeRow_59 : decode cX5_changeRow 59 = .ok (.iload 5, 2) := by decide +kernel
theorem dX5_changeRow_61 : decode cX5_changeRow 61 = .ok (.bipush 7, 2) := by decide +kernel
theorem dX5_changeRow_63 : decode cX5_changeRow 63 = .ok (.if_icmp .ge 20, 3) := by decide +kernel
theorem dX5_changeRow_66 : decode cX5_changeRow 66 = .ok (.aload 4, 2) := by decide +kernel
theorem dX5_changeRow_68 : decode cX5_changeRow 68 = .ok (.iload 5, 2) := by decide +kernel
theorem dX5_changeRow_70 : decode cX5_changeRow 70 = .ok (.lload_n 2, 1) := by decide +kernel
theorem dX5_changeRow_71 : decode cX5_changeRow 71 = .ok (.iload 5, 2) := by decide +kernel
theorem dX5_changeRow_73 : decode cX5_changeRow 73 = .ok (.invokestatic 86, 3) := by decide +kernel
theorem dX5_changeRow_76 : decode cX5_changeRow 76 = .ok (.iastore, 1) := by decide +kernel
theorem dX5_changeRow_77 : decode cX5_changeRow 77 = .ok (.iinc 5 1, 3) := by decide +kernel
theorem dX5_changeRow_80 : decode cX5_changeRow 80 = .ok (.goto (-21), 3) := by decide +kernel
theorem dX5_changeRow_83 : decode cX5_changeRow 83 = .ok (.aload_n 0, 1) := by decide +kernel
theorem dX5_changeRow_84 : decode cX5_changeRow 84 = .ok (.iload_n 1, 1) := by decide +kernel
theorem dX5_changeRow_85 : decode cX5_changeRow 85 = .ok (.invokevirtual 93, 3) := by decide +kernel
theorem dX5_changeRow_88 : decode cX5_changeRow 88 = .ok (.ireturn, 1) := by decide +kernel
theorem dX5_changeIn_0 : decode cX5_changeIn 0 = .ok (.lload_n 0, 1) := by decide +kernel
theorem dX5_changeIn_1 : decode cX5_changeIn 1 = .ok (.iconst 5, 1) := by decide +kernel
theorem dX5_changeIn_2 : decode cX5_changeIn 2 = .ok (.iload_n 2, 1) := by decide +kernel
theorem dX5_changeIn_3 : decode cX5_changeIn 3 = .ok (.imul, 1) := by decide +kernel
theorem dX5_changeIn_4 : decode cX5_changeIn 4 = .ok (.lshr, 1) := by decide +kernel
theorem dX5_changeIn_5 : decode cX5_changeIn 5 = .ok (.ldc2_w 97, 3) := by decide +kernel
theorem dX5_changeIn_8 : decode cX5_changeIn 8 = .ok (.land, 1) := by decide +kernel
theorem dX5_changeIn_9 : decode cX5_changeIn 9 = .ok (.l2i, 1) := by decide +kernel
theorem dX5_changeIn_10 : decode cX5_changeIn 10 = .ok (.bipush 9, 2) := by decide +kernel
theorem dX5_changeIn_12 : decode cX5_changeIn 12 = .ok (.isub, 1) := by decide +kernel
theorem dX5_changeIn_13 : decode cX5_changeIn 13 = .ok (.ireturn, 1) := by decide +kernel
theorem dX5_addGrams_0 : decode cX5_addGrams 0 = .ok (.aload_n 0, 1) := by decide +kernel
theorem dX5_addGrams_1 : decode cX5_addGrams 1 = .ok (.iload_n 1, 1) := by decide +kernel
theorem dX5_addGrams_2 : decode cX5_addGrams 2 = .ok (.invokevirtual 82, 3) := by decide +kernel
theorem dX5_addGrams_5 : decode cX5_addGrams 5 = .ok (.ifCond .ne 5, 3) := by decide +kernel
theorem dX5_addGrams_8 : decode cX5_addGrams 8 = .ok (.iconst (-1), 1) := by decide +kernel
theorem dX5_addGrams_9 : decode cX5_addGrams 9 = .ok (.ireturn, 1) := by decide +kernel
theorem dX5_addGrams_10 : decode cX5_addGrams 10 = .ok (.iload_n 2, 1) := by decide +kernel
theorem dX5_addGrams_11 : decode cX5_addGrams 11 = .ok (.iconst 1, 1) := by decide +kernel
theorem dX5_addGrams_12 : decode cX5_addGrams 12 = .ok (.sipush 9999, 3) := by decide +kernel
theorem dX5_addGrams_15 : decode cX5_addGrams 15 = .ok (.invokestatic 71, 3) := by decide +kernel
theorem dX5_addGrams_18 : decode cX5_addGrams 18 = .ok (.ifCond .ne 6, 3) := by decide +kernel
theorem dX5_addGrams_21 : decode cX5_addGrams 21 = .ok (.bipush (-2), 2) := by decide +kernel
theorem dX5_addGrams_23 : decode cX5_addGrams 23 = .ok (.ireturn, 1) := by decide +kernel
theorem dX5_addGrams_24 : decode cX5_addGrams 24 = .ok (.aload_n 0, 1) := by decide +kernel
theorem dX5_addGrams_25 : decode cX5_addGrams 25 = .ok (.getfield 11, 3) := by decide +kernel
theorem dX5_addGrams_28 : decode cX5_addGrams 28 = .ok (.iload_n 1, 1) := by decide +kernel
theorem dX5_addGrams_29 : decode cX5_addGrams 29 = .ok (.aaload, 1) := by decide +kernel
theorem dX5_addGrams_30 : decode cX5_addGrams 30 = .ok (.astore_n 3, 1) := by decide +kernel
theorem dX5_addGrams_31 : decode cX5_addGrams 31 = .ok (.aload_n 3, 1) := by decide +kernel
theorem dX5_addGrams_32 : decode cX5_addGrams 32 = .ok (.getfield 99, 3) := by decide +kernel
theorem dX5_addGrams_35 : decode cX5_addGrams 35 = .ok (.iload_n 2, 1) := by decide +kernel
theorem dX5_addGrams_36 : decode cX5_addGrams 36 = .ok (.iadd, 1) := by decide +kernel
theorem dX5_addGrams_37 : decode cX5_addGrams 37 = .ok (.istore 4, 2) := by decide +kernel
theorem dX5_addGrams_39 : decode cX5_addGrams 39 = .ok (.iload 4, 2) := by decide +kernel
theorem dX5_addGrams_41 : decode cX5_addGrams 41 = .ok (.sipush 9999, 3) := by decide +kernel
theorem dX5_addGrams_44 : decode cX5_addGrams 44 = .ok (.if_icmp .le 6, 3) := by decide +kernel
theorem dX5_addGrams_47 : decode cX5_addGrams 47 = .ok (.bipush (-5), 2) := by decide +kernel
theorem dX5_addGrams_49 : decode cX5_addGrams 49 = .ok (.ireturn, 1) := by decide +kernel
theorem dX5_addGrams_50 : decode cX5_addGrams 50 = .ok (.aload_n 3, 1) := by decide +kernel
theorem dX5_addGrams_51 : decode cX5_addGrams 51 = .ok (.iload 4, 2) := by decide +kernel
theorem dX5_addGrams_53 : decode cX5_addGrams 53 = .ok (.ifCond .le 18, 3) := by decide +kernel
theorem dX5_addGrams_56 : decode cX5_addGrams 56 = .ok (.aload_n 3, 1) := by decide +kernel
theorem dX5_addGrams_57 : decode cX5_addGrams 57 = .ok (.getfield 99, 3) := by decide +kernel
theorem dX5_addGrams_60 : decode cX5_addGrams 60 = .ok (.aload_n 3, 1) := by decide +kernel
theorem dX5_addGrams_61 : decode cX5_addGrams 61 = .ok (.getfield 102, 3) := by decide +kernel
theorem dX5_addGrams_64 : decode cX5_addGrams 64 = .ok (.imul, 1) := by decide +kernel
theorem dX5_addGrams_65 : decode cX5_addGrams 65 = .ok (.iload 4, 2) := by decide +kernel
theorem dX5_addGrams_67 : decode cX5_addGrams 67 = .ok (.idiv, 1) := by decide +kernel
theorem dX5_addGrams_68 : decode cX5_addGrams 68 = .ok (.goto 4, 3) := by decide +kernel
theorem dX5_addGrams_71 : decode cX5_addGrams 71 = .ok (.iconst 0, 1) := by decide +kernel
theorem dX5_addGrams_72 : decode cX5_addGrams 72 = .ok (.putfield 102, 3) := by decide +kernel
theorem dX5_addGrams_75 : decode cX5_addGrams 75 = .ok (.aload_n 3, 1) := by decide +kernel
theorem dX5_addGrams_76 : decode cX5_addGrams 76 = .ok (.iload 4, 2) := by decide +kernel
theorem dX5_addGrams_78 : decode cX5_addGrams 78 = .ok (.putfield 99, 3) := by decide +kernel
theorem dX5_addGrams_81 : decode cX5_addGrams 81 = .ok (.iload 4, 2) := by decide +kernel
theorem dX5_addGrams_83 : decode cX5_addGrams 83 = .ok (.ireturn, 1) := by decide +kernel
theorem dX5_changeBounds_0 : decode cX5_changeBounds 0 = .ok (.iload_n 1, 1) := by decide +kernel
theorem dX5_changeBounds_1 : decode cX5_changeBounds 1 = .ok (.ifCond .lt 8, 3) := by decide +kernel
theorem dX5_changeBounds_4 : decode cX5_changeBounds 4 = .ok (.iload_n 1, 1) := by decide +kernel
theorem dX5_changeBounds_5 : decode cX5_changeBounds 5 = .ok (.iconst 3, 1) := by decide +kernel
theorem dX5_changeBounds_6 : decode cX5_changeBounds 6 = .ok (.if_icmp .lt 5, 3) := by decide +kernel
theorem dX5_changeBounds_9 : decode cX5_changeBounds 9 = .ok (.iconst (-1), 1) := by decide +kernel
theorem dX5_changeBounds_10 : decode cX5_changeBounds 10 = .ok (.ireturn, 1) := by decide +kernel
theorem dX5_changeBounds_11 : decode cX5_changeBounds 11 = .ok (.iload_n 2, 1) := by decide +kernel
theorem dX5_changeBounds_12 : decode cX5_changeBounds 12 = .ok (.iconst 0, 1) := by decide +kernel
theorem dX5_changeBounds_13 : decode cX5_changeBounds 13 = .ok (.bipush 100, 2) := by decide +kernel
theorem dX5_changeBounds_15 : decode cX5_changeBounds 15 = .ok (.invokestatic 71, 3) := by decide +kernel
theorem dX5_changeBounds_18 : decode cX5_changeBounds 18 = .ok (.ifCond .eq 13, 3) := by decide +kernel
theorem dX5_changeBounds_21 : decode cX5_changeBounds 21 = .ok (.iload_n 3, 1) := by decide +kernel
theorem dX5_changeBounds_22 : decode cX5_changeBounds 22 = .ok (.iload_n 2, 1) := by decide +kernel
theorem dX5_changeBounds_23 : decode cX5_changeBounds 23 = .ok (.bipush 100, 2) := by decide +kernel
theorem dX5_changeBounds_25 : decode cX5_changeBounds 25 = .ok (.invokestatic 71, 3) := by decide +kernel
theorem dX5_changeBounds_28 : decode cX5_changeBounds 28 = .ok (.ifCond .ne 6, 3) := by decide +kernel
theorem dX5_changeBounds_31 : decode cX5_changeBounds 31 = .ok (.bipush (-2), 2) := by decide +kernel
theorem dX5_changeBounds_33 : decode cX5_changeBounds 33 = .ok (.ireturn, 1) := by decide +kernel
theorem dX5_changeBounds_34 : decode cX5_changeBounds 34 = .ok (.bipush 100, 2) := by decide +kernel
theorem dX5_changeBounds_36 : decode cX5_changeBounds 36 = .ok (.aload_n 0, 1) := by decide +kernel
theorem dX5_changeBounds_37 : decode cX5_changeBounds 37 = .ok (.getfield 17, 3) := by decide +kernel
theorem dX5_changeBounds_40 : decode cX5_changeBounds 40 = .ok (.iload_n 1, 1) := by decide +kernel
theorem dX5_changeBounds_41 : decode cX5_changeBounds 41 = .ok (.iaload, 1) := by decide +kernel
theorem dX5_changeBounds_42 : decode cX5_changeBounds 42 = .ok (.imul, 1) := by decide +kernel
theorem dX5_changeBounds_43 : decode cX5_changeBounds 43 = .ok (.aload_n 0, 1) := by decide +kernel
theorem dX5_changeBounds_44 : decode cX5_changeBounds 44 = .ok (.getfield 21, 3) := by decide +kernel
theorem dX5_changeBounds_47 : decode cX5_changeBounds 47 = .ok (.iload_n 1, 1) := by decide +kernel
theorem dX5_changeBounds_48 : decode cX5_changeBounds 48 = .ok (.iaload, 1) := by decide +kernel
theorem dX5_changeBounds_49 : decode cX5_changeBounds 49 = .ok (.iadd, 1) := by decide +kernel
theorem dX5_changeBounds_50 : decode cX5_changeBounds 50 = .ok (.istore 4, 2) := by decide +kernel
theorem dX5_changeBounds_52 : decode cX5_changeBounds 52 = .ok (.aload_n 0, 1) := by decide +kernel
theorem dX5_changeBounds_53 : decode cX5_changeBounds 53 = .ok (.getfield 17, 3) := by decide +kernel
theorem dX5_changeBounds_56 : decode cX5_changeBounds 56 = .ok (.iload_n 1, 1) := by decide +kernel
theorem dX5_changeBounds_57 : decode cX5_changeBounds 57 = .ok (.iload_n 2, 1) := by decide +kernel
theorem dX5_changeBounds_58 : decode cX5_changeBounds 58 = .ok (.iastore, 1) := by decide +kernel
theorem dX5_changeBounds_59 : decode cX5_changeBounds 59 = .ok (.aload_n 0, 1) := by decide +kernel
theorem dX5_changeBounds_60 : decode cX5_changeBounds 60 = .ok (.getfield 21, 3) := by decide +kernel
theorem dX5_changeBounds_63 : decode cX5_changeBounds 63 = .ok (.iload_n 1, 1) := by decide +kernel
theorem dX5_changeBounds_64 : decode cX5_changeBounds 64 = .ok (.iload_n 3, 1) := by decide +kernel
theorem dX5_changeBounds_65 : decode cX5_changeBounds 65 = .ok (.iastore, 1) := by decide +kernel
theorem dX5_changeBounds_66 : decode cX5_changeBounds 66 = .ok (.iload 4, 2) := by decide +kernel
theorem dX5_changeBounds_68 : decode cX5_changeBounds 68 = .ok (.ireturn, 1) := by decide +kernel
theorem dX5_changeShare_0 : decode cX5_changeShare 0 = .ok (.aload_n 0, 1) := by decide +kernel
theorem dX5_changeShare_1 : decode cX5_changeShare 1 = .ok (.iload_n 1, 1) := by decide +kernel
theorem dX5_changeShare_2 : decode cX5_changeShare 2 = .ok (.invokevirtual 82, 3) := by decide +kernel
theorem dX5_changeShare_5 : decode cX5_changeShare 5 = .ok (.ifCond .ne 5, 3) := by decide +kernel
theorem dX5_changeShare_8 : decode cX5_changeShare 8 = .ok (.iconst (-1), 1) := by decide +kernel
theorem dX5_changeShare_9 : decode cX5_changeShare 9 = .ok (.ireturn, 1) := by decide +kernel
theorem dX5_changeShare_10 : decode cX5_changeShare 10 = .ok (.iload_n 2, 1) := by decide +kernel
theorem dX5_changeShare_11 : decode cX5_changeShare 11 = .ok (.iconst 0, 1) := by decide +kernel
theorem dX5_changeShare_12 : decode cX5_changeShare 12 = .ok (.bipush 20, 2) := by decide +kernel
theorem dX5_changeShare_14 : decode cX5_changeShare 14 = .ok (.invokestatic 71, 3) := by decide +kernel
theorem dX5_changeShare_17 : decode cX5_changeShare 17 = .ok (.ifCond .ne 6, 3) := by decide +kernel
theorem dX5_changeShare_20 : decode cX5_changeShare 20 = .ok (.bipush (-2), 2) := by decide +kernel
theorem dX5_changeShare_22 : decode cX5_changeShare 22 = .ok (.ireturn, 1) := by decide +kernel
theorem dX5_changeShare_23 : decode cX5_changeShare 23 = .ok (.aload_n 0, 1) := by decide +kernel
theorem dX5_changeShare_24 : decode cX5_changeShare 24 = .ok (.invokevirtual 105, 3) := by decide +kernel
theorem dX5_changeShare_27 : decode cX5_changeShare 27 = .ok (.aload_n 0, 1) := by decide +kernel
theorem dX5_changeShare_28 : decode cX5_changeShare 28 = .ok (.getfield 11, 3) := by decide +kernel
theorem dX5_changeShare_31 : decode cX5_changeShare 31 = .ok (.iload_n 1, 1) := by decide +kernel
theorem dX5_changeShare_32 : decode cX5_changeShare 32 = .ok (.aaload, 1) := by decide +kernel
theorem dX5_changeShare_33 : decode cX5_changeShare 33 = .ok (.getfield 109, 3) := by decide +kernel
theorem dX5_changeShare_36 : decode cX5_changeShare 36 = .ok (.isub, 1) := by decide +kernel
theorem dX5_changeShare_37 : decode cX5_changeShare 37 = .ok (.iload_n 2, 1) := by decide +kernel
theorem dX5_changeShare_38 : decode cX5_changeShare 38 = .ok (.iadd, 1) := by decide +kernel
theorem dX5_changeShare_39 : decode cX5_changeShare 39 = .ok (.istore_n 3, 1) := by decide +kernel
theorem dX5_changeShare_40 : decode cX5_changeShare 40 = .ok (.iload_n 3, 1) := by decide +kernel
theorem dX5_changeShare_41 : decode cX5_changeShare 41 = .ok (.bipush 20, 2) := by decide +kernel
theorem dX5_changeShare_43 : decode cX5_changeShare 43 = .ok (.if_icmp .le 6, 3) := by decide +kernel
theorem dX5_changeShare_46 : decode cX5_changeShare 46 = .ok (.bipush (-5), 2) := by decide +kernel
theorem dX5_changeShare_48 : decode cX5_changeShare 48 = .ok (.ireturn, 1) := by decide +kernel
theorem dX5_changeShare_49 : decode cX5_changeShare 49 = .ok (.aload_n 0, 1) := by decide +kernel
theorem dX5_changeShare_50 : decode cX5_changeShare 50 = .ok (.getfield 11, 3) := by decide +kernel
theorem dX5_changeShare_53 : decode cX5_changeShare 53 = .ok (.iload_n 1, 1) := by decide +kernel
theorem dX5_changeShare_54 : decode cX5_changeShare 54 = .ok (.aaload, 1) := by decide +kernel
theorem dX5_changeShare_55 : decode cX5_changeShare 55 = .ok (.iload_n 2, 1) := by decide +kernel
theorem dX5_changeShare_56 : decode cX5_changeShare 56 = .ok (.putfield 109, 3) := by decide +kernel
theorem dX5_changeShare_59 : decode cX5_changeShare 59 = .ok (.iload_n 3, 1) := by decide +kernel
theorem dX5_changeShare_60 : decode cX5_changeShare 60 = .ok (.ireturn, 1) := by decide +kernel
theorem dX5_takeShares_0 : decode cX5_takeShares 0 = .ok (.iconst 0, 1) := by decide +kernel
theorem dX5_takeShares_1 : decode cX5_takeShares 1 = .ok (.istore_n 2, 1) := by decide +kernel
theorem dX5_takeShares_2 : decode cX5_takeShares 2 = .ok (.iload_n 2, 1) := by decide +kernel
theorem dX5_takeShares_3 : decode cX5_takeShares 3 = .ok (.aload_n 0, 1) := by decide +kernel
theorem dX5_takeShares_4 : decode cX5_takeShares 4 = .ok (.getfield 52, 3) := by decide +kernel
theorem dX5_takeShares_7 : decode cX5_takeShares 7 = .ok (.if_icmp .ge 27, 3) := by decide +kernel
theorem dX5_takeShares_10 : decode cX5_takeShares 10 = .ok (.iload_n 2, 1) := by decide +kernel
theorem dX5_takeShares_11 : decode cX5_takeShares 11 = .ok (.aload_n 1, 1) := by decide +kernel
theorem dX5_takeShares_12 : decode cX5_takeShares 12 = .ok (.arraylength, 1) := by decide +kernel
theorem dX5_takeShares_13 : decode cX5_takeShares 13 = .ok (.if_icmp .ge 21, 3) := by decide +kernel
theorem dX5_takeShares_16 : decode cX5_takeShares 16 = .ok (.aload_n 0, 1) := by decide +kernel
theorem dX5_takeShares_17 : decode cX5_takeShares 17 = .ok (.getfield 11, 3) := by decide +kernel
theorem dX5_takeShares_20 : decode cX5_takeShares 20 = .ok (.iload_n 2, 1) := by decide +kernel
theorem dX5_takeShares_21 : decode cX5_takeShares 21 = .ok (.aaload, 1) := by decide +kernel
theorem dX5_takeShares_22 : decode cX5_takeShares 22 = .ok (.aload_n 1, 1) := by decide +kernel
theorem dX5_takeShares_23 : decode cX5_takeShares 23 = .ok (.iload_n 2, 1) := by decide +kernel
theorem dX5_takeShares_24 : decode cX5_takeShares 24 = .ok (.iaload, 1) := by decide +kernel
theorem dX5_takeShares_25 : decode cX5_takeShares 25 = .ok (.putfield 109, 3) := by decide +kernel
theorem dX5_takeShares_28 : decode cX5_takeShares 28 = .ok (.iinc 2 1, 3) := by decide +kernel
theorem dX5_takeShares_31 : decode cX5_takeShares 31 = .ok (.goto (-29), 3) := by decide +kernel
theorem dX5_takeShares_34 : decode cX5_takeShares 34 = .ok (.return_, 1) := by decide +kernel
theorem dX5_mixGrams_0 : decode cX5_mixGrams 0 = .ok (.iload_n 1, 1) := by decide +kernel
theorem dX5_mixGrams_1 : decode cX5_mixGrams 1 = .ok (.iconst 1, 1) := by decide +kernel
theorem dX5_mixGrams_2 : decode cX5_mixGrams 2 = .ok (.sipush 9999, 3) := by decide +kernel
theorem dX5_mixGrams_5 : decode cX5_mixGrams 5 = .ok (.invokestatic 71, 3) := by decide +kernel
theorem dX5_mixGrams_8 : decode cX5_mixGrams 8 = .ok (.ifCond .ne 6, 3) := by decide +kernel
theorem dX5_mixGrams_11 : decode cX5_mixGrams 11 = .ok (.bipush (-2), 2) := by decide +kernel
theorem dX5_mixGrams_13 : decode cX5_mixGrams 13 = .ok (.ireturn, 1) := by decide +kernel
theorem dX5_mixGrams_14 : decode cX5_mixGrams 14 = .ok (.aload_n 0, 1) := by decide +kernel
theorem dX5_mixGrams_15 : decode cX5_mixGrams 15 = .ok (.iconst 0, 1) := by decide +kernel
theorem dX5_mixGrams_16 : decode cX5_mixGrams 16 = .ok (.invokevirtual 112, 3) := by decide +kernel
theorem dX5_mixGrams_19 : decode cX5_mixGrams 19 = .ok (.ifCond .ne 11, 3) := by decide +kernel
theorem dX5_mixGrams_22 : decode cX5_mixGrams 22 = .ok (.aload_n 0, 1) := by decide +kernel
theorem dX5_mixGrams_23 : decode cX5_mixGrams 23 = .ok (.iload_n 1, 1) := by decide +kernel
theorem dX5_mixGrams_24 : decode cX5_mixGrams 24 = .ok (.invokevirtual 115, 3) := by decide +kernel
theorem dX5_mixGrams_27 : decode cX5_mixGrams 27 = .ok (.ifCond .ne 6, 3) := by decide +kernel
theorem dX5_mixGrams_30 : decode cX5_mixGrams 30 = .ok (.bipush (-5), 2) := by decide +kernel
theorem dX5_mixGrams_32 : decode cX5_mixGrams 32 = .ok (.ireturn, 1) := by decide +kernel
theorem dX5_mixGrams_33 : decode cX5_mixGrams 33 = .ok (.iconst 0, 1) := by decide +kernel
theorem dX5_mixGrams_34 : decode cX5_mixGrams 34 = .ok (.istore_n 2, 1) := by decide +kernel
theorem dX5_mixGrams_35 : decode cX5_mixGrams 35 = .ok (.iload_n 2, 1) := by decide +kernel
theorem dX5_mixGrams_36 : decode cX5_mixGrams 36 = .ok (.aload_n 0, 1) := by decide +kernel
theorem dX5_mixGrams_37 : decode cX5_mixGrams 37 = .ok (.getfield 52, 3) := by decide +kernel
theorem dX5_mixGrams_40 : decode cX5_mixGrams 40 = .ok (.if_icmp .ge 33, 3) := by decide +kernel
theorem dX5_mixGrams_43 : decode cX5_mixGrams 43 = .ok (.aload_n 0, 1) := by decide +kernel
theorem dX5_mixGrams_44 : decode cX5_mixGrams 44 = .ok (.getfield 11, 3) := by decide +kernel
theorem dX5_mixGrams_47 : decode cX5_mixGrams 47 = .ok (.iload_n 2, 1) := by decide +kernel
theorem dX5_mixGrams_48 : decode cX5_mixGrams 48 = .ok (.aaload, 1) := by decide +kernel
theorem dX5_mixGrams_49 : decode cX5_mixGrams 49 = .ok (.dup, 1) := by decide +kernel
theorem dX5_mixGrams_50 : decode cX5_mixGrams 50 = .ok (.getfield 99, 3) := by decide +kernel
theorem dX5_mixGrams_53 : decode cX5_mixGrams 53 = .ok (.aload_n 0, 1) := by decide +kernel
theorem dX5_mixGrams_54 : decode cX5_mixGrams 54 = .ok (.getfield 11, 3) := by decide +kernel
theorem dX5_mixGrams_57 : decode cX5_mixGrams 57 = .ok (.iload_n 2, 1) := by decide +kernel
theorem dX5_mixGrams_58 : decode cX5_mixGrams 58 = .ok (.aaload, 1) := by decide +kernel
theorem dX5_mixGrams_59 : decode cX5_mixGrams 59 = .ok (.iload_n 1, 1) := by decide +kernel
theorem dX5_mixGrams_60 : decode cX5_mixGrams 60 = .ok (.invokevirtual 118, 3) := by decide +kernel
theorem dX5_mixGrams_63 : decode cX5_mixGrams 63 = .ok (.isub, 1) := by decide +kernel
theorem dX5_mixGrams_64 : decode cX5_mixGrams 64 = .ok (.putfield 99, 3) := by decide +kernel
theorem dX5_mixGrams_67 : decode cX5_mixGrams 67 = .ok (.iinc 2 1, 3) := by decide +kernel
theorem dX5_mixGrams_70 : decode cX5_mixGrams 70 = .ok (.goto (-35), 3) := by decide +kernel
theorem dX5_mixGrams_73 : decode cX5_mixGrams 73 = .ok (.aload_n 0, 1) := by decide +kernel
theorem dX5_mixGrams_74 : decode cX5_mixGrams 74 = .ok (.invokevirtual 121, 3) := by decide +kernel
theorem dX5_mixGrams_77 : decode cX5_mixGrams 77 = .ok (.istore_n 2, 1) := by decide +kernel
theorem dX5_mixGrams_78 : decode cX5_mixGrams 78 = .ok (.aload_n 0, 1) := by decide +kernel
theorem dX5_mixGrams_79 : decode cX5_mixGrams 79 = .ok (.dup, 1) := by decide +kernel
theorem dX5_mixGrams_80 : decode cX5_mixGrams 80 = .ok (.getfield 59, 3) := by decide +kernel
theorem dX5_mixGrams_83 : decode cX5_mixGrams 83 = .ok (.iload_n 1, 1) := by decide +kernel
theorem dX5_mixGrams_84 : decode cX5_mixGrams 84 = .ok (.iadd, 1) := by decide +kernel
theorem dX5_mixGrams_85 : decode cX5_mixGrams 85 = .ok (.putfield 59, 3) := by decide +kernel
theorem dX5_mixGrams_88 : decode cX5_mixGrams 88 = .ok (.aload_n 0, 1) := by decide +kernel
theorem dX5_mixGrams_89 : decode cX5_mixGrams 89 = .ok (.dup, 1) := by decide +kernel
theorem dX5_mixGrams_90 : decode cX5_mixGrams 90 = .ok (.getfield 62, 3) := by decide +kernel
theorem dX5_mixGrams_93 : decode cX5_mixGrams 93 = .ok (.iload_n 1, 1) := by decide +kernel
theorem dX5_mixGrams_94 : decode cX5_mixGrams 94 = .ok (.iload_n 2, 1) := by decide +kernel
theorem dX5_mixGrams_95 : decode cX5_mixGrams 95 = .ok (.imul, 1) := by decide +kernel
theorem dX5_mixGrams_96 : decode cX5_mixGrams 96 = .ok (.bipush 100, 2) := by decide +kernel
theorem dX5_mixGrams_98 : decode cX5_mixGrams 98 = .ok (.idiv, 1) := by decide +kernel
theorem dX5_mixGrams_99 : decode cX5_mixGrams 99 = .ok (.iadd, 1) := by decide +kernel
theorem dX5_mixGrams_100 : decode cX5_mixGrams 100 = .ok (.putfield 62, 3) := by decide +kernel
theorem dX5_mixGrams_103 : decode cX5_mixGrams 103 = .ok (.iload_n 2, 1) := by decide +kernel
theorem dX5_mixGrams_104 : decode cX5_mixGrams 104 = .ok (.ireturn, 1) := by decide +kernel
theorem dX5_stocksSuffice_0 : decode cX5_stocksSuffice 0 = .ok (.iconst 0, 1) := by decide +kernel
theorem dX5_stocksSuffice_1 : decode cX5_stocksSuffice 1 = .ok (.istore_n 2, 1) := by decide +kernel
theorem dX5_stocksSuffice_2 : decode cX5_stocksSuffice 2 = .ok (.iload_n 2, 1) := by decide +kernel
theorem dX5_stocksSuffice_3 : decode cX5_stocksSuffice 3 = .ok (.aload_n 0, 1) := by decide +kernel
theorem dX5_stocksSuffice_4 : decode cX5_stocksSuffice 4 = .ok (.getfield 52, 3) := by decide +kernel
theorem dX5_stocksSuffice_7 : decode cX5_stocksSuffice 7 = .ok (.if_icmp .ge 33, 3) := by decide +kernel
theorem dX5_stocksSuffice_10 : decode cX5_stocksSuffice 10 = .ok (.aload_n 0, 1) := by decide +kernel
theorem dX5_stocksSuffice_11 : decode cX5_stocksSuffice 11 = .ok (.getfield 11, 3) := by decide +kernel
theorem dX5_stocksSuffice_14 : decode cX5_stocksSuffice 14 = .ok (.iload_n 2, 1) := by decide +kernel
theorem dX5_stocksSuffice_15 : decode cX5_stocksSuffice 15 = .ok (.aaload, 1) := by decide +kernel
theorem dX5_stocksSuffice_16 : decode cX5_stocksSuffice 16 = .ok (.iload_n 1, 1) := by decide +kernel
theorem dX5_stocksSuffice_17 : decode cX5_stocksSuffice 17 = .ok (.invokevirtual 118, 3) := by decide +kernel
theorem dX5_stocksSuffice_20 : decode cX5_stocksSuffice 20 = .ok (.aload_n 0, 1) := by decide +kernel
theorem dX5_stocksSuffice_21 : decode cX5_stocksSuffice 21 = .ok (.getfield 11, 3) := by decide +kernel
theorem dX5_stocksSuffice_24 : decode cX5_stocksSuffice 24 = .ok (.iload_n 2, 1) := by decide +kernel
theorem dX5_stocksSuffice_25 : decode cX5_stocksSuffice 25 = .ok (.aaload, 1) := by decide +kernel
theorem dX5_stocksSuffice_26 : decode cX5_stocksSuffice 26 = .ok (.getfield 99, 3) := by decide +kernel
theorem dX5_stocksSuffice_29 : decode cX5_stocksSuffice 29 = .ok (.if_icmp .le 5, 3) := by decide +kernel
theorem dX5_stocksSuffice_32 : decode cX5_stocksSuffice 32 = .ok (.iconst 0, 1) := by decide +kernel
theorem dX5_stocksSuffice_33 : decode cX5_stocksSuffice 33 = .ok (.ireturn, 1) := by decide +kernel
theorem dX5_stocksSuffice_34 : decode cX5_stocksSuffice 34 = .ok (.iinc 2 1, 3) := by decide +kernel
theorem dX5_stocksSuffice_37 : decode cX5_stocksSuffice 37 = .ok (.goto (-35), 3) := by decide +kernel
theorem dX5_stocksSuffice_40 : decode cX5_stocksSuffice 40 = .ok (.iconst 1, 1) := by decide +kernel
theorem dX5_stocksSuffice_41 : decode cX5_stocksSuffice 41 = .ok (.ireturn, 1) := by decide +kernel
theorem dX5_passDays_0 : decode cX5_passDays 0 = .ok (.iload_n 1, 1) := by decide +kernel
theorem dX5_passDays_1 : decode cX5_passDays 1 = .ok (.iconst 1, 1) := by decide +kernel
theorem dX5_passDays_2 : decode cX5_passDays 2 = .ok (.bipush 99, 2) := by decide +kernel
theorem dX5_passDays_4 : decode cX5_passDays 4 = .ok (.invokestatic 71, 3) := by decide +kernel
theorem dX5_passDays_7 : decode cX5_passDays 7 = .ok (.ifCond .ne 6, 3) := by decide +kernel
theorem dX5_passDays_10 : decode cX5_passDays 10 = .ok (.bipush (-2), 2) := by decide +kernel
theorem dX5_passDays_12 : decode cX5_passDays 12 = .ok (.ireturn, 1) := by decide +kernel
theorem dX5_passDays_13 : decode cX5_passDays 13 = .ok (.aload_n 0, 1) := by decide +kernel
theorem dX5_passDays_14 : decode cX5_passDays 14 = .ok (.getfield 56, 3) := by decide +kernel
theorem dX5_passDays_17 : decode cX5_passDays 17 = .ok (.iload_n 1, 1) := by decide +kernel
theorem dX5_passDays_18 : decode cX5_passDays 18 = .ok (.iadd, 1) := by decide +kernel
theorem dX5_passDays_19 : decode cX5_passDays 19 = .ok (.sipush 9999, 3) := by decide +kernel
theorem dX5_passDays_22 : decode cX5_passDays 22 = .ok (.if_icmp .le 6, 3) := by decide +kernel
theorem dX5_passDays_25 : decode cX5_passDays 25 = .ok (.bipush (-5), 2) := by decide +kernel
theorem dX5_passDays_27 : decode cX5_passDays 27 = .ok (.ireturn, 1) := by decide +kernel
theorem dX5_passDays_28 : decode cX5_passDays 28 = .ok (.iconst 0, 1) := by decide +kernel
theorem dX5_passDays_29 : decode cX5_passDays 29 = .ok (.istore_n 2, 1) := by decide +kernel
theorem dX5_passDays_30 : decode cX5_passDays 30 = .ok (.iload_n 2, 1) := by decide +kernel
theorem dX5_passDays_31 : decode cX5_passDays 31 = .ok (.aload_n 0, 1) := by decide +kernel
theorem dX5_passDays_32 : decode cX5_passDays 32 = .ok (.getfield 52, 3) := by decide +kernel
theorem dX5_passDays_35 : decode cX5_passDays 35 = .ok (.if_icmp .ge 24, 3) := by decide +kernel
theorem dX5_passDays_38 : decode cX5_passDays 38 = .ok (.aload_n 0, 1) := by decide +kernel
theorem dX5_passDays_39 : decode cX5_passDays 39 = .ok (.getfield 11, 3) := by decide +kernel
theorem dX5_passDays_42 : decode cX5_passDays 42 = .ok (.iload_n 2, 1) := by decide +kernel
theorem dX5_passDays_43 : decode cX5_passDays 43 = .ok (.aaload, 1) := by decide +kernel
theorem dX5_passDays_44 : decode cX5_passDays 44 = .ok (.dup, 1) := by decide +kernel
theorem dX5_passDays_45 : decode cX5_passDays 45 = .ok (.getfield 102, 3) := by decide +kernel
theorem dX5_passDays_48 : decode cX5_passDays 48 = .ok (.iload_n 1, 1) := by decide +kernel
theorem dX5_passDays_49 : decode cX5_passDays 49 = .ok (.iadd, 1) := by decide +kernel
theorem dX5_passDays_50 : decode cX5_passDays 50 = .ok (.putfield 102, 3) := by decide +kernel
theorem dX5_passDays_53 : decode cX5_passDays 53 = .ok (.iinc 2 1, 3) := by decide +kernel
theorem dX5_passDays_56 : decode cX5_passDays 56 = .ok (.goto (-26), 3) := by decide +kernel
theorem dX5_passDays_59 : decode cX5_passDays 59 = .ok (.aload_n 0, 1) := by decide +kernel
theorem dX5_passDays_60 : decode cX5_passDays 60 = .ok (.dup, 1) := by decide +kernel
theorem dX5_passDays_61 : decode cX5_passDays 61 = .ok (.getfield 56, 3) := by decide +kernel
theorem dX5_passDays_64 : decode cX5_passDays 64 = .ok (.iload_n 1, 1) := by decide +kernel
theorem dX5_passDays_65 : decode cX5_passDays 65 = .ok (.iadd, 1) := by decide +kernel
theorem dX5_passDays_66 : decode cX5_passDays 66 = .ok (.putfield 56, 3) := by decide +kernel
theorem dX5_passDays_69 : decode cX5_passDays 69 = .ok (.aload_n 0, 1) := by decide +kernel
theorem dX5_passDays_70 : decode cX5_passDays 70 = .ok (.getfield 56, 3) := by decide +kernel
theorem dX5_passDays_73 : decode cX5_passDays 73 = .ok (.ireturn, 1) := by decide +kernel
theorem dX5_priceOf_0 : decode cX5_priceOf 0 = .ok (.aload_n 0, 1) := by decide +kernel
theorem dX5_priceOf_1 : decode cX5_priceOf 1 = .ok (.getfield 32, 3) := by decide +kernel
theorem dX5_priceOf_4 : decode cX5_priceOf 4 = .ok (.iconst 1, 1) := by decide +kernel
theorem dX5_priceOf_5 : decode cX5_priceOf 5 = .ok (.iaload, 1) := by decide +kernel
theorem dX5_priceOf_6 : decode cX5_priceOf 6 = .ok (.istore_n 2, 1) := by decide +kernel
theorem dX5_priceOf_7 : decode cX5_priceOf 7 = .ok (.iload_n 2, 1) := by decide +kernel
theorem dX5_priceOf_8 : decode cX5_priceOf 8 = .ok (.ifCond .le 12, 3) := by decide +kernel
theorem dX5_priceOf_11 : decode cX5_priceOf 11 = .ok (.aload_n 0, 1) := by decide +kernel
theorem dX5_priceOf_12 : decode cX5_priceOf 12 = .ok (.getfield 56, 3) := by decide +kernel
theorem dX5_priceOf_15 : decode cX5_priceOf 15 = .ok (.iload_n 2, 1) := by decide +kernel
theorem dX5_priceOf_16 : decode cX5_priceOf 16 = .ok (.irem, 1) := by decide +kernel
theorem dX5_priceOf_17 : decode cX5_priceOf 17 = .ok (.goto 4, 3) := by decide +kernel
theorem dX5_priceOf_20 : decode cX5_priceOf 20 = .ok (.iconst 0, 1) := by decide +kernel
theorem dX5_priceOf_21 : decode cX5_priceOf 21 = .ok (.istore_n 3, 1) := by decide +kernel
theorem dX5_priceOf_22 : decode cX5_priceOf 22 = .ok (.iconst 0, 1) := by decide +kernel
theorem dX5_priceOf_23 : decode cX5_priceOf 23 = .ok (.aload_n 0, 1) := by decide +kernel
theorem dX5_priceOf_24 : decode cX5_priceOf 24 = .ok (.getfield 11, 3) := by decide +kernel
theorem dX5_priceOf_27 : decode cX5_priceOf 27 = .ok (.iload_n 1, 1) := by decide +kernel
theorem dX5_priceOf_28 : decode cX5_priceOf 28 = .ok (.aaload, 1) := by decide +kernel
theorem dX5_priceOf_29 : decode cX5_priceOf 29 = .ok (.getfield 124, 3) := by decide +kernel
theorem dX5_priceOf_32 : decode cX5_priceOf 32 = .ok (.aload_n 0, 1) := by decide +kernel
theorem dX5_priceOf_33 : decode cX5_priceOf 33 = .ok (.getfield 11, 3) := by decide +kernel
theorem dX5_priceOf_36 : decode cX5_priceOf 36 = .ok (.iload_n 1, 1) := by decide +kernel
theorem dX5_priceOf_37 : decode cX5_priceOf 37 = .ok (.aaload, 1) := by decide +kernel
theorem dX5_priceOf_38 : decode cX5_priceOf 38 = .ok (.getfield 90, 3) := by decide +kernel
theorem dX5_priceOf_41 : decode cX5_priceOf 41 = .ok (.iload_n 3, 1) := by decide +kernel
theorem dX5_priceOf_42 : decode cX5_priceOf 42 = .ok (.iaload, 1) := by decide +kernel
theorem dX5_priceOf_43 : decode cX5_priceOf 43 = .ok (.iadd, 1) := by decide +kernel
theorem dX5_priceOf_44 : decode cX5_priceOf 44 = .ok (.invokestatic 127, 3) := by decide +kernel
theorem dX5_priceOf_47 : decode cX5_priceOf 47 = .ok (.ireturn, 1) := by decide +kernel
theorem dX5_tasteOf_0 : decode cX5_tasteOf 0 = .ok (.iconst 0, 1) := by decide +kernel
theorem dX5_tasteOf_1 : decode cX5_tasteOf 1 = .ok (.sipush 1000, 3) := by decide +kernel
theorem dX5_tasteOf_4 : decode cX5_tasteOf 4 = .ok (.aload_n 0, 1) := by decide +kernel
theorem dX5_tasteOf_5 : decode cX5_tasteOf 5 = .ok (.getfield 32, 3) := by decide +kernel
theorem dX5_tasteOf_8 : decode cX5_tasteOf 8 = .ok (.iconst 0, 1) := by decide +kernel
theorem dX5_tasteOf_9 : decode cX5_tasteOf 9 = .ok (.iaload, 1) := by decide +kernel
theorem dX5_tasteOf_10 : decode cX5_tasteOf 10 = .ok (.aload_n 0, 1) := by decide +kernel
theorem dX5_tasteOf_11 : decode cX5_tasteOf 11 = .ok (.getfield 11, 3) := by decide +kernel
theorem dX5_tasteOf_14 : decode cX5_tasteOf 14 = .ok (.iload_n 1, 1) := by decide +kernel
theorem dX5_tasteOf_15 : decode cX5_tasteOf 15 = .ok (.aaload, 1) := by decide +kernel
theorem dX5_tasteOf_16 : decode cX5_tasteOf 16 = .ok (.getfield 102, 3) := by decide +kernel
theorem dX5_tasteOf_19 : decode cX5_tasteOf 19 = .ok (.iload_n 3, 1) := by decide +kernel
theorem dX5_tasteOf_20 : decode cX5_tasteOf 20 = .ok (.iadd, 1) := by decide +kernel
theorem dX5_tasteOf_21 : decode cX5_tasteOf 21 = .ok (.imul, 1) := by decide +kernel
theorem dX5_tasteOf_22 : decode cX5_tasteOf 22 = .ok (.isub, 1) := by decide +kernel
theorem dX5_tasteOf_23 : decode cX5_tasteOf 23 = .ok (.invokestatic 127, 3) := by decide +kernel
theorem dX5_tasteOf_26 : decode cX5_tasteOf 26 = .ok (.istore 4, 2) := by decide +kernel
theorem dX5_tasteOf_28 : decode cX5_tasteOf 28 = .ok (.aload_n 0, 1) := by decide +kernel
theorem dX5_tasteOf_29 : decode cX5_tasteOf 29 = .ok (.getfield 11, 3) := by decide +kernel
theorem dX5_tasteOf_32 : decode cX5_tasteOf 32 = .ok (.iload_n 1, 1) := by decide +kernel
theorem dX5_tasteOf_33 : decode cX5_tasteOf 33 = .ok (.aaload, 1) := by decide +kernel
theorem dX5_tasteOf_34 : decode cX5_tasteOf 34 = .ok (.getfield 79, 3) := by decide +kernel
theorem dX5_tasteOf_37 : decode cX5_tasteOf 37 = .ok (.iload_n 2, 1) := by decide +kernel
theorem dX5_tasteOf_38 : decode cX5_tasteOf 38 = .ok (.iaload, 1) := by decide +kernel
theorem dX5_tasteOf_39 : decode cX5_tasteOf 39 = .ok (.iload 4, 2) := by decide +kernel
theorem dX5_tasteOf_41 : decode cX5_tasteOf 41 = .ok (.imul, 1) := by decide +kernel
theorem dX5_tasteOf_42 : decode cX5_tasteOf 42 = .ok (.sipush 1000, 3) := by decide +kernel
theorem dX5_tasteOf_45 : decode cX5_tasteOf 45 = .ok (.idiv, 1) := by decide +kernel
theorem dX5_tasteOf_46 : decode cX5_tasteOf 46 = .ok (.ireturn, 1) := by decide +kernel
theorem dX5_blendPrice_0 : decode cX5_blendPrice 0 = .ok (.iconst 0, 1) := by decide +kernel
theorem dX5_blendPrice_1 : decode cX5_blendPrice 1 = .ok (.istore_n 1, 1) := by decide +kernel
theorem dX5_blendPrice_2 : decode cX5_blendPrice 2 = .ok (.iconst 0, 1) := by decide +kernel
theorem dX5_blendPrice_3 : decode cX5_blendPrice 3 = .ok (.istore_n 2, 1) := by decide +kernel
theorem dX5_blendPrice_4 : decode cX5_blendPrice 4 = .ok (.iload_n 2, 1) := by decide +kernel
theorem dX5_blendPrice_5 : decode cX5_blendPrice 5 = .ok (.aload_n 0, 1) := by decide +kernel
theorem dX5_blendPrice_6 : decode cX5_blendPrice 6 = .ok (.getfield 52, 3) := by decide +kernel
theorem dX5_blendPrice_9 : decode cX5_blendPrice 9 = .ok (.if_icmp .ge 27, 3) := by decide +kernel
theorem dX5_blendPrice_12 : decode cX5_blendPrice 12 = .ok (.iload_n 1, 1) := by decide +kernel
theorem dX5_blendPrice_13 : decode cX5_blendPrice 13 = .ok (.aload_n 0, 1) := by decide +kernel
theorem dX5_blendPrice_14 : decode cX5_blendPrice 14 = .ok (.getfield 11, 3) := by decide +kernel
theorem dX5_blendPrice_17 : decode cX5_blendPrice 17 = .ok (.iload_n 2, 1) := by decide +kernel
theorem dX5_blendPrice_18 : decode cX5_blendPrice 18 = .ok (.aaload, 1) := by decide +kernel
theorem dX5_blendPrice_19 : decode cX5_blendPrice 19 = .ok (.getfield 109, 3) := by decide +kernel
theorem dX5_blendPrice_22 : decode cX5_blendPrice 22 = .ok (.aload_n 0, 1) := by decide +kernel
theorem dX5_blendPrice_23 : decode cX5_blendPrice 23 = .ok (.iload_n 2, 1) := by decide +kernel
theorem dX5_blendPrice_24 : decode cX5_blendPrice 24 = .ok (.invokevirtual 93, 3) := by decide +kernel
theorem dX5_blendPrice_27 : decode cX5_blendPrice 27 = .ok (.imul, 1) := by decide +kernel
theorem dX5_blendPrice_28 : decode cX5_blendPrice 28 = .ok (.iadd, 1) := by decide +kernel
theorem dX5_blendPrice_29 : decode cX5_blendPrice 29 = .ok (.istore_n 1, 1) := by decide +kernel
theorem dX5_blendPrice_30 : decode cX5_blendPrice 30 = .ok (.iinc 2 1, 3) := by decide +kernel
theorem dX5_blendPrice_33 : decode cX5_blendPrice 33 = .ok (.goto (-29), 3) := by decide +kernel
theorem dX5_blendPrice_36 : decode cX5_blendPrice 36 = .ok (.iload_n 1, 1) := by decide +kernel
theorem dX5_blendPrice_37 : decode cX5_blendPrice 37 = .ok (.bipush 20, 2) := by decide +kernel
theorem dX5_blendPrice_39 : decode cX5_blendPrice 39 = .ok (.idiv, 1) := by decide +kernel
theorem dX5_blendPrice_40 : decode cX5_blendPrice 40 = .ok (.ireturn, 1) := by decide +kernel
theorem dX5_tasteSum_0 : decode cX5_tasteSum 0 = .ok (.iconst 0, 1) := by decide +kernel
theorem dX5_tasteSum_1 : decode cX5_tasteSum 1 = .ok (.istore_n 3, 1) := by decide +kernel
theorem dX5_tasteSum_2 : decode cX5_tasteSum 2 = .ok (.iconst 0, 1) := by decide +kernel
theorem dX5_tasteSum_3 : decode cX5_tasteSum 3 = .ok (.istore 4, 2) := by decide +kernel
theorem dX5_tasteSum_5 : decode cX5_tasteSum 5 = .ok (.iload 4, 2) := by decide +kernel
theorem dX5_tasteSum_7 : decode cX5_tasteSum 7 = .ok (.aload_n 0, 1) := by decide +kernel
theorem dX5_tasteSum_8 : decode cX5_tasteSum 8 = .ok (.getfield 52, 3) := by decide +kernel
theorem dX5_tasteSum_11 : decode cX5_tasteSum 11 = .ok (.if_icmp .ge 31, 3) := by decide +kernel
theorem dX5_tasteSum_14 : decode cX5_tasteSum 14 = .ok (.iload_n 3, 1) := by decide +kernel
theorem dX5_tasteSum_15 : decode cX5_tasteSum 15 = .ok (.aload_n 0, 1) := by decide +kernel
theorem dX5_tasteSum_16 : decode cX5_tasteSum 16 = .ok (.getfield 11, 3) := by decide +kernel
theorem dX5_tasteSum_19 : decode cX5_tasteSum 19 = .ok (.iload 4, 2) := by decide +kernel
theorem dX5_tasteSum_21 : decode cX5_tasteSum 21 = .ok (.aaload, 1) := by decide +kernel
theorem dX5_tasteSum_22 : decode cX5_tasteSum 22 = .ok (.getfield 109, 3) := by decide +kernel
theorem dX5_tasteSum_25 : decode cX5_tasteSum 25 = .ok (.aload_n 0, 1) := by decide +kernel
theorem dX5_tasteSum_26 : decode cX5_tasteSum 26 = .ok (.iload 4, 2) := by decide +kernel
theorem dX5_tasteSum_28 : decode cX5_tasteSum 28 = .ok (.iload_n 1, 1) := by decide +kernel
theorem dX5_tasteSum_29 : decode cX5_tasteSum 29 = .ok (.iload_n 2, 1) := by decide +kernel
theorem dX5_tasteSum_30 : decode cX5_tasteSum 30 = .ok (.invokevirtual 133, 3) := by decide +kernel
theorem dX5_tasteSum_33 : decode cX5_tasteSum 33 = .ok (.imul, 1) := by decide +kernel
theorem dX5_tasteSum_34 : decode cX5_tasteSum 34 = .ok (.iadd, 1) := by decide +kernel
theorem dX5_tasteSum_35 : decode cX5_tasteSum 35 = .ok (.istore_n 3, 1) := by decide +kernel
theorem dX5_tasteSum_36 : decode cX5_tasteSum 36 = .ok (.iinc 4 1, 3) := by decide +kernel
theorem dX5_tasteSum_39 : decode cX5_tasteSum 39 = .ok (.goto (-34), 3) := by decide +kernel
theorem dX5_tasteSum_42 : decode cX5_tasteSum 42 = .ok (.iload_n 3, 1) := by decide +kernel
theorem dX5_tasteSum_43 : decode cX5_tasteSum 43 = .ok (.ireturn, 1) := by decide +kernel
theorem dX5_allShares_0 : decode cX5_allShares 0 = .ok (.iconst 0, 1) := by decide +kernel
theorem dX5_allShares_1 : decode cX5_allShares 1 = .ok (.istore_n 1, 1) := by decide +kernel
theorem dX5_allShares_2 : decode cX5_allShares 2 = .ok (.iconst 0, 1) := by decide +kernel
theorem dX5_allShares_3 : decode cX5_allShares 3 = .ok (.istore_n 2, 1) := by decide +kernel
theorem dX5_allShares_4 : decode cX5_allShares 4 = .ok (.iload_n 2, 1) := by decide +kernel
theorem dX5_allShares_5 : decode cX5_allShares 5 = .ok (.aload_n 0, 1) := by decide +kernel
theorem dX5_allShares_6 : decode cX5_allShares 6 = .ok (.getfield 52, 3) := by decide +kernel
theorem dX5_allShares_9 : decode cX5_allShares 9 = .ok (.if_icmp .ge 21, 3) := by decide +kernel
theorem dX5_allShares_12 : decode cX5_allShares 12 = .ok (.iload_n 1, 1) := by decide +kernel
theorem dX5_allShares_13 : decode cX5_allShares 13 = .ok (.aload_n 0, 1) := by decide +kernel
theorem dX5_allShares_14 : decode cX5_allShares 14 = .ok (.getfield 11, 3) := by decide +kernel
theorem dX5_allShares_17 : decode cX5_allShares 17 = .ok (.iload_n 2, 1) := by decide +kernel
theorem dX5_allShares_18 : decode cX5_allShares 18 = .ok (.aaload, 1) := by decide +kernel
theorem dX5_allShares_19 : decode cX5_allShares 19 = .ok (.getfield 109, 3) := by decide +kernel
theorem dX5_allShares_22 : decode cX5_allShares 22 = .ok (.iadd, 1) := by decide +kernel
theorem dX5_allShares_23 : decode cX5_allShares 23 = .ok (.istore_n 1, 1) := by decide +kernel
theorem dX5_allShares_24 : decode cX5_allShares 24 = .ok (.iinc 2 1, 3) := by decide +kernel
theorem dX5_allShares_27 : decode cX5_allShares 27 = .ok (.goto (-23), 3) := by decide +kernel
theorem dX5_allShares_30 : decode cX5_allShares 30 = .ok (.iload_n 1, 1) := by decide +kernel
theorem dX5_allShares_31 : decode cX5_allShares 31 = .ok (.ireturn, 1) := by decide +kernel
theorem dX5_leavesInBlend_0 : decode cX5_leavesInBlend 0 = .ok (.iconst 0, 1) := by decide +kernel
theorem dX5_leavesInBlend_1 : decode cX5_leavesInBlend 1 = .ok (.istore_n 1, 1) := by decide +kernel
theorem dX5_leavesInBlend_2 : decode cX5_leavesInBlend 2 = .ok (.iconst 0, 1) := by decide +kernel
theorem dX5_leavesInBlend_3 : decode cX5_leavesInBlend 3 = .ok (.istore_n 2, 1) := by decide +kernel
theorem dX5_leavesInBlend_4 : decode cX5_leavesInBlend 4 = .ok (.iload_n 2, 1) := by decide +kernel
theorem dX5_leavesInBlend_5 : decode cX5_leavesInBlend 5 = .ok (.aload_n 0, 1) := by decide +kernel
theorem dX5_leavesInBlend_6 : decode cX5_leavesInBlend 6 = .ok (.getfield 52, 3) := by decide +kernel
theorem dX5_leavesInBlend_9 : decode cX5_leavesInBlend 9 = .ok (.if_icmp .ge 27, 3) := by decide +kernel
theorem dX5_leavesInBlend_12 : decode cX5_leavesInBlend 12 = .ok (.aload_n 0, 1) := by decide +kernel
theorem dX5_leavesInBlend_13 : decode cX5_leavesInBlend 13 = .ok (.getfield 11, 3) := by decide +kernel
theorem dX5_leavesInBlend_16 : decode cX5_leavesInBlend 16 = .ok (.iload_n 2, 1) := by decide +kernel
theorem dX5_leavesInBlend_17 : decode cX5_leavesInBlend 17 = .ok (.aaload, 1) := by decide +kernel
theorem dX5_leavesInBlend_18 : decode cX5_leavesInBlend 18 = .ok (.getfield 109, 3) := by decide +kernel
theorem dX5_leavesInBlend_21 : decode cX5_leavesInBlend 21 = .ok (.ifCond .le 9, 3) := by decide +kernel
theorem dX5_leavesInBlend_24 : decode cX5_leavesInBlend 24 = .ok (.iload_n 1, 1) := by decide +kernel
theorem dX5_leavesInBlend_25 : decode cX5_leavesInBlend 25 = .ok (.iconst 1, 1) := by decide +kernel
theorem dX5_leavesInBlend_26 : decode cX5_leavesInBlend 26 = .ok (.iload_n 2, 1) := by decide +kernel
theorem dX5_leavesInBlend_27 : decode cX5_leavesInBlend 27 = .ok (.ishl, 1) := by decide +kernel
theorem dX5_leavesInBlend_28 : decode cX5_leavesInBlend 28 = .ok (.ior, 1) := by decide +kernel
theorem dX5_leavesInBlend_29 : decode cX5_leavesInBlend 29 = .ok (.istore_n 1, 1) := by decide +kernel
theorem dX5_leavesInBlend_30 : decode cX5_leavesInBlend 30 = .ok (.iinc 2 1, 3) := by decide +kernel
theorem dX5_leavesInBlend_33 : decode cX5_leavesInBlend 33 = .ok (.goto (-29), 3) := by decide +kernel
theorem dX5_leavesInBlend_36 : decode cX5_leavesInBlend 36 = .ok (.iload_n 1, 1) := by decide +kernel
theorem dX5_leavesInBlend_37 : decode cX5_leavesInBlend 37 = .ok (.ireturn, 1) := by decide +kernel
theorem dX5_whyBroken_0 : decode cX5_whyBroken 0 = .ok (.aload_n 0, 1) := by decide +kernel
theorem dX5_whyBroken_1 : decode cX5_whyBroken 1 = .ok (.invokevirtual 105, 3) := by decide +kernel
theorem dX5_whyBroken_4 : decode cX5_whyBroken 4 = .ok (.bipush 20, 2) := by decide +kernel
theorem dX5_whyBroken_6 : decode cX5_whyBroken 6 = .ok (.if_icmp .eq 5, 3) := by decide +kernel
theorem dX5_whyBroken_9 : decode cX5_whyBroken 9 = .ok (.iconst 1, 1) := by decide +kernel
theorem dX5_whyBroken_10 : decode cX5_whyBroken 10 = .ok (.ireturn, 1) := by decide +kernel
theorem dX5_whyBroken_11 : decode cX5_whyBroken 11 = .ok (.iconst 0, 1) := by decide +kernel
theorem dX5_whyBroken_12 : decode cX5_whyBroken 12 = .ok (.istore_n 2, 1) := by decide +kernel
theorem dX5_whyBroken_13 : decode cX5_whyBroken 13 = .ok (.iconst 0, 1) := by decide +kernel
theorem dX5_whyBroken_14 : decode cX5_whyBroken 14 = .ok (.istore_n 3, 1) := by decide +kernel
theorem dX5_whyBroken_15 : decode cX5_whyBroken 15 = .ok (.iload_n 3, 1) := by decide +kernel
theorem dX5_whyBroken_16 : decode cX5_whyBroken 16 = .ok (.iconst 3, 1) := by decide +kernel
theorem dX5_whyBroken_17 : decode cX5_whyBroken 17 = .ok (.if_icmp .ge 54, 3) := by decide +kernel
theorem dX5_whyBroken_20 : decode cX5_whyBroken 20 = .ok (.aload_n 0, 1) := by decide +kernel
theorem dX5_whyBroken_21 : decode cX5_whyBroken 21 = .ok (.iload_n 3, 1) := by decide +kernel
theorem dX5_whyBroken_22 : decode cX5_whyBroken 22 = .ok (.iload_n 1, 1) := by decide +kernel
theorem dX5_whyBroken_23 : decode cX5_whyBroken 23 = .ok (.invokevirtual 137, 3) := by decide +kernel
theorem dX5_whyBroken_26 : decode cX5_whyBroken 26 = .ok (.bipush 20, 2) := by decide +kernel
theorem dX5_whyBroken_28 : decode cX5_whyBroken 28 = .ok (.idiv, 1) := by decide +kernel
theorem dX5_whyBroken_29 : decode cX5_whyBroken 29 = .ok (.istore 4, 2) := by decide +kernel
theorem dX5_whyBroken_31 : decode cX5_whyBroken 31 = .ok (.iload 4, 2) := by decide +kernel
theorem dX5_whyBroken_33 : decode cX5_whyBroken 33 = .ok (.aload_n 0, 1) := by decide +kernel
theorem dX5_whyBroken_34 : decode cX5_whyBroken 34 = .ok (.getfield 17, 3) := by decide +kernel
theorem dX5_whyBroken_37 : decode cX5_whyBroken 37 = .ok (.iload_n 3, 1) := by decide +kernel
theorem dX5_whyBroken_38 : decode cX5_whyBroken 38 = .ok (.iaload, 1) := by decide +kernel
theorem dX5_whyBroken_39 : decode cX5_whyBroken 39 = .ok (.if_icmp .ge 7, 3) := by decide +kernel
theorem dX5_whyBroken_42 : decode cX5_whyBroken 42 = .ok (.iconst 2, 1) := by decide +kernel
theorem dX5_whyBroken_43 : decode cX5_whyBroken 43 = .ok (.iload_n 3, 1) := by decide +kernel
theorem dX5_whyBroken_44 : decode cX5_whyBroken 44 = .ok (.iadd, 1) := by decide +kernel
theorem dX5_whyBroken_45 : decode cX5_whyBroken 45 = .ok (.ireturn, 1) := by decide +kernel
theorem dX5_whyBroken_46 : decode cX5_whyBroken 46 = .ok (.iload 4, 2) := by decide +kernel
theorem dX5_whyBroken_48 : decode cX5_whyBroken 48 = .ok (.aload_n 0, 1) := by decide +kernel
theorem dX5_whyBroken_49 : decode cX5_whyBroken 49 = .ok (.getfield 21, 3) := by decide +kernel
theorem dX5_whyBroken_52 : decode cX5_whyBroken 52 = .ok (.iload_n 3, 1) := by decide +kernel
theorem dX5_whyBroken_53 : decode cX5_whyBroken 53 = .ok (.iaload, 1) := by decide +kernel
theorem dX5_whyBroken_54 : decode cX5_whyBroken 54 = .ok (.if_icmp .le 11, 3) := by decide +kernel
theorem dX5_whyBroken_57 : decode cX5_whyBroken 57 = .ok (.iload_n 2, 1) := by decide +kernel
theorem dX5_whyBroken_58 : decode cX5_whyBroken 58 = .ok (.ifCond .ne 7, 3) := by decide +kernel
theorem dX5_whyBroken_61 : decode cX5_whyBroken 61 = .ok (.iconst 5, 1) := by decide +kernel
theorem dX5_whyBroken_62 : decode cX5_whyBroken 62 = .ok (.iload_n 3, 1) := by decide +kernel
theorem dX5_whyBroken_63 : decode cX5_whyBroken 63 = .ok (.iadd, 1) := by decide +kernel
theorem dX5_whyBroken_64 : decode cX5_whyBroken 64 = .ok (.istore_n 2, 1) := by decide +kernel
theorem dX5_whyBroken_65 : decode cX5_whyBroken 65 = .ok (.iinc 3 1, 3) := by decide +kernel
theorem dX5_whyBroken_68 : decode cX5_whyBroken 68 = .ok (.goto (-53), 3) := by decide +kernel
theorem dX5_whyBroken_71 : decode cX5_whyBroken 71 = .ok (.iload_n 2, 1) := by decide +kernel
theorem dX5_whyBroken_72 : decode cX5_whyBroken 72 = .ok (.ireturn, 1) := by decide +kernel
theorem dX5_gramsByStocks_0 : decode cX5_gramsByStocks 0 = .ok (.sipush 9999, 3) := by decide +kernel
theorem dX5_gramsByStocks_3 : decode cX5_gramsByStocks 3 = .ok (.istore_n 1, 1) := by decide +kernel
theorem dX5_gramsByStocks_4 : decode cX5_gramsByStocks 4 = .ok (.iconst 0, 1) := by decide +kernel
theorem dX5_gramsByStocks_5 : decode cX5_gramsByStocks 5 = .ok (.istore_n 2, 1) := by decide +kernel
theorem dX5_gramsByStocks_6 : decode cX5_gramsByStocks 6 = .ok (.iload_n 2, 1) := by decide +kernel
theorem dX5_gramsByStocks_7 : decode cX5_gramsByStocks 7 = .ok (.aload_n 0, 1) := by decide +kernel
theorem dX5_gramsByStocks_8 : decode cX5_gramsByStocks 8 = .ok (.getfield 52, 3) := by decide +kernel
theorem dX5_gramsByStocks_11 : decode cX5_gramsByStocks 11 = .ok (.if_icmp .ge 48, 3) := by decide +kernel
theorem dX5_gramsByStocks_14 : decode cX5_gramsByStocks 14 = .ok (.aload_n 0, 1) := by decide +kernel
theorem dX5_gramsByStocks_15 : decode cX5_gramsByStocks 15 = .ok (.getfield 11, 3) := by decide +kernel
theorem dX5_gramsByStocks_18 : decode cX5_gramsByStocks 18 = .ok (.iload_n 2, 1) := by decide +kernel
theorem dX5_gramsByStocks_19 : decode cX5_gramsByStocks 19 = .ok (.aaload, 1) := by decide +kernel
theorem dX5_gramsByStocks_20 : decode cX5_gramsByStocks 20 = .ok (.getfield 109, 3) := by decide +kernel
theorem dX5_gramsByStocks_23 : decode cX5_gramsByStocks 23 = .ok (.ifCond .le 30, 3) := by decide +kernel
theorem dX5_gramsByStocks_26 : decode cX5_gramsByStocks 26 = .ok (.iload_n 1, 1) := by decide +kernel
theorem dX5_gramsByStocks_27 : decode cX5_gramsByStocks 27 = .ok (.aload_n 0, 1) := by decide +kernel
theorem dX5_gramsByStocks_28 : decode cX5_gramsByStocks 28 = .ok (.getfield 11, 3) := by decide +kernel
theorem dX5_gramsByStocks_31 : decode cX5_gramsByStocks 31 = .ok (.iload_n 2, 1) := by decide +kernel
theorem dX5_gramsByStocks_32 : decode cX5_gramsByStocks 32 = .ok (.aaload, 1) := by decide +kernel
theorem dX5_gramsByStocks_33 : decode cX5_gramsByStocks 33 = .ok (.getfield 99, 3) := by decide +kernel
theorem dX5_gramsByStocks_36 : decode cX5_gramsByStocks 36 = .ok (.bipush 20, 2) := by decide +kernel
theorem dX5_gramsByStocks_38 : decode cX5_gramsByStocks 38 = .ok (.imul, 1) := by decide +kernel
theorem dX5_gramsByStocks_39 : decode cX5_gramsByStocks 39 = .ok (.aload_n 0, 1) := by decide +kernel
theorem dX5_gramsByStocks_40 : decode cX5_gramsByStocks 40 = .ok (.getfield 11, 3) := by decide +kernel
theorem dX5_gramsByStocks_43 : decode cX5_gramsByStocks 43 = .ok (.iload_n 2, 1) := by decide +kernel
theorem dX5_gramsByStocks_44 : decode cX5_gramsByStocks 44 = .ok (.aaload, 1) := by decide +kernel
theorem dX5_gramsByStocks_45 : decode cX5_gramsByStocks 45 = .ok (.getfield 109, 3) := by decide +kernel
theorem dX5_gramsByStocks_48 : decode cX5_gramsByStocks 48 = .ok (.idiv, 1) := by decide +kernel
theorem dX5_gramsByStocks_49 : decode cX5_gramsByStocks 49 = .ok (.invokestatic 140, 3) := by decide +kernel
theorem dX5_gramsByStocks_52 : decode cX5_gramsByStocks 52 = .ok (.istore_n 1, 1) := by decide +kernel
theorem dX5_gramsByStocks_53 : decode cX5_gramsByStocks 53 = .ok (.iinc 2 1, 3) := by decide +kernel
theorem dX5_gramsByStocks_56 : decode cX5_gramsByStocks 56 = .ok (.goto (-50), 3) := by decide +kernel
theorem dX5_gramsByStocks_59 : decode cX5_gramsByStocks 59 = .ok (.iload_n 1, 1) := by decide +kernel
theorem dX5_gramsByStocks_60 : decode cX5_gramsByStocks 60 = .ok (.ireturn, 1) := by decide +kernel
theorem dX5_bestSwap_0 : decode cX5_bestSwap 0 = .ok (.bipush (-6), 2) := by decide +kernel
theorem dX5_bestSwap_2 : decode cX5_bestSwap 2 = .ok (.istore_n 1, 1) := by decide +kernel
theorem dX5_bestSwap_3 : decode cX5_bestSwap 3 = .ok (.iconst 0, 1) := by decide +kernel
theorem dX5_bestSwap_4 : decode cX5_bestSwap 4 = .ok (.istore_n 2, 1) := by decide +kernel
theorem dX5_bestSwap_5 : decode cX5_bestSwap 5 = .ok (.iconst 0, 1) := by decide +kernel
theorem dX5_bestSwap_6 : decode cX5_bestSwap 6 = .ok (.istore_n 3, 1) := by decide +kernel
theorem dX5_bestSwap_7 : decode cX5_bestSwap 7 = .ok (.iload_n 3, 1) := by decide +kernel
theorem dX5_bestSwap_8 : decode cX5_bestSwap 8 = .ok (.aload_n 0, 1) := by decide +kernel
theorem dX5_bestSwap_9 : decode cX5_bestSwap 9 = .ok (.getfield 52, 3) := by decide +kernel
theorem dX5_bestSwap_12 : decode cX5_bestSwap 12 = .ok (.if_icmp .ge 67, 3) := by decide +kernel
theorem dX5_bestSwap_15 : decode cX5_bestSwap 15 = .ok (.iconst 0, 1) := by decide +kernel
theorem dX5_bestSwap_16 : decode cX5_bestSwap 16 = .ok (.istore 4, 2) := by decide +kernel
theorem dX5_bestSwap_18 : decode cX5_bestSwap 18 = .ok (.iload 4, 2) := by decide +kernel
theorem dX5_bestSwap_20 : decode cX5_bestSwap 20 = .ok (.aload_n 0, 1) := by decide +kernel
theorem dX5_bestSwap_21 : decode cX5_bestSwap 21 = .ok (.getfield 52, 3) := by decide +kernel
theorem dX5_bestSwap_24 : decode cX5_bestSwap 24 = .ok (.if_icmp .ge 49, 3) := by decide +kernel
theorem dX5_bestSwap_27 : decode cX5_bestSwap 27 = .ok (.aload_n 0, 1) := by decide +kernel
theorem dX5_bestSwap_28 : decode cX5_bestSwap 28 = .ok (.iload_n 3, 1) := by decide +kernel
theorem dX5_bestSwap_29 : decode cX5_bestSwap 29 = .ok (.invokevirtual 93, 3) := by decide +kernel
theorem dX5_bestSwap_32 : decode cX5_bestSwap 32 = .ok (.aload_n 0, 1) := by decide +kernel
theorem dX5_bestSwap_33 : decode cX5_bestSwap 33 = .ok (.iload 4, 2) := by decide +kernel
theorem dX5_bestSwap_35 : decode cX5_bestSwap 35 = .ok (.invokevirtual 93, 3) := by decide +kernel
theorem dX5_bestSwap_38 : decode cX5_bestSwap 38 = .ok (.isub, 1) := by decide +kernel
theorem dX5_bestSwap_39 : decode cX5_bestSwap 39 = .ok (.istore 5, 2) := by decide +kernel
theorem dX5_bestSwap_41 : decode cX5_bestSwap 41 = .ok (.iload 5, 2) := by decide +kernel
theorem dX5_bestSwap_43 : decode cX5_bestSwap 43 = .ok (.iload_n 2, 1) := by decide +kernel
theorem dX5_bestSwap_44 : decode cX5_bestSwap 44 = .ok (.if_icmp .le 23, 3) := by decide +kernel
theorem dX5_bestSwap_47 : decode cX5_bestSwap 47 = .ok (.aload_n 0, 1) := by decide +kernel
theorem dX5_bestSwap_48 : decode cX5_bestSwap 48 = .ok (.iload_n 3, 1) := by decide +kernel
theorem dX5_bestSwap_49 : decode cX5_bestSwap 49 = .ok (.iload 4, 2) := by decide +kernel
theorem dX5_bestSwap_51 : decode cX5_bestSwap 51 = .ok (.invokevirtual 143, 3) := by decide +kernel
theorem dX5_bestSwap_54 : decode cX5_bestSwap 54 = .ok (.ifCond .eq 13, 3) := by decide +kernel
theorem dX5_bestSwap_57 : decode cX5_bestSwap 57 = .ok (.iload 5, 2) := by decide +kernel
theorem dX5_bestSwap_59 : decode cX5_bestSwap 59 = .ok (.istore_n 2, 1) := by decide +kernel
theorem dX5_bestSwap_60 : decode cX5_bestSwap 60 = .ok (.iconst 5, 1) := by decide +kernel
theorem dX5_bestSwap_61 : decode cX5_bestSwap 61 = .ok (.iload_n 3, 1) := by decide +kernel
theorem dX5_bestSwap_62 : decode cX5_bestSwap 62 = .ok (.imul, 1) := by decide +kernel
theorem dX5_bestSwap_63 : decode cX5_bestSwap 63 = .ok (.iload 4, 2) := by decide +kernel
theorem dX5_bestSwap_65 : decode cX5_bestSwap 65 = .ok (.iadd, 1) := by decide +kernel
theorem dX5_bestSwap_66 : decode cX5_bestSwap 66 = .ok (.istore_n 1, 1) := by decide +kernel
theorem dX5_bestSwap_67 : decode cX5_bestSwap 67 = .ok (.iinc 4 1, 3) := by decide +kernel
theorem dX5_bestSwap_70 : decode cX5_bestSwap 70 = .ok (.goto (-52), 3) := by decide +kernel
theorem dX5_bestSwap_73 : decode cX5_bestSwap 73 = .ok (.iinc 3 1, 3) := by decide +kernel
theorem dX5_bestSwap_76 : decode cX5_bestSwap 76 = .ok (.goto (-69), 3) := by decide +kernel
theorem dX5_bestSwap_79 : decode cX5_bestSwap 79 = .ok (.iload_n 1, 1) := by decide +kernel
theorem dX5_bestSwap_80 : decode cX5_bestSwap 80 = .ok (.ireturn, 1) := by decide +kernel
theorem dX5_keepsAfterSwap_0 : decode cX5_keepsAfterSwap 0 = .ok (.aload_n 0, 1) := by decide +kernel
theorem dX5_keepsAfterSwap_1 : decode cX5_keepsAfterSwap 1 = .ok (.getfield 11, 3) := by decide +kernel
theorem dX5_keepsAfterSwap_4 : decode cX5_keepsAfterSwap 4 = .ok (.iload_n 1, 1) := by decide +kernel
theorem dX5_keepsAfterSwap_5 : decode cX5_keepsAfterSwap 5 = .ok (.aaload, 1) := by decide +kernel
theorem dX5_keepsAfterSwap_6 : decode cX5_keepsAfterSwap 6 = .ok (.getfield 109, 3) := by decide +kernel
theorem dX5_keepsAfterSwap_9 : decode cX5_keepsAfterSwap 9 = .ok (.ifCond .eq 12, 3) := by decide +kernel
theorem dX5_keepsAfterSwap_12 : decode cX5_keepsAfterSwap 12 = .ok (.aload_n 0, 1) := by decide +kernel
theorem dX5_keepsAfterSwap_13 : decode cX5_keepsAfterSwap 13 = .ok (.invokevirtual 105, 3) := by decide +kernel
theorem dX5_keepsAfterSwap_16 : decode cX5_keepsAfterSwap 16 = .ok (.bipush 20, 2) := by decide +kernel
theorem dX5_keepsAfterSwap_18 : decode cX5_keepsAfterSwap 18 = .ok (.if_icmp .eq 5, 3) := by decide +kernel
theorem dX5_keepsAfterSwap_21 : decode cX5_keepsAfterSwap 21 = .ok (.iconst 0, 1) := by decide +kernel
theorem dX5_keepsAfterSwap_22 : decode cX5_keepsAfterSwap 22 = .ok (.ireturn, 1) := by decide +kernel
theorem dX5_keepsAfterSwap_23 : decode cX5_keepsAfterSwap 23 = .ok (.iconst 0, 1) := by decide +kernel
theorem dX5_keepsAfterSwap_24 : decode cX5_keepsAfterSwap 24 = .ok (.istore_n 3, 1) := by decide +kernel
theorem dX5_keepsAfterSwap_25 : decode cX5_keepsAfterSwap 25 = .ok (.iload_n 3, 1) := by decide +kernel
theorem dX5_keepsAfterSwap_26 : decode cX5_keepsAfterSwap 26 = .ok (.iconst 3, 1) := by decide +kernel
theorem dX5_keepsAfterSwap_27 : decode cX5_keepsAfterSwap 27 = .ok (.if_icmp .ge 58, 3) := by decide +kernel
theorem dX5_keepsAfterSwap_30 : decode cX5_keepsAfterSwap 30 = .ok (.aload_n 0, 1) := by decide +kernel
theorem dX5_keepsAfterSwap_31 : decode cX5_keepsAfterSwap 31 = .ok (.iload_n 3, 1) := by decide +kernel
theorem dX5_keepsAfterSwap_32 : decode cX5_keepsAfterSwap 32 = .ok (.iconst 0, 1) := by decide +kernel
theorem dX5_keepsAfterSwap_33 : decode cX5_keepsAfterSwap 33 = .ok (.invokevirtual 137, 3) := by decide +kernel
theorem dX5_keepsAfterSwap_36 : decode cX5_keepsAfterSwap 36 = .ok (.aload_n 0, 1) := by decide +kernel
theorem dX5_keepsAfterSwap_37 : decode cX5_keepsAfterSwap 37 = .ok (.iload_n 1, 1) := by decide +kernel
theorem dX5_keepsAfterSwap_38 : decode cX5_keepsAfterSwap 38 = .ok (.iload_n 3, 1) := by decide +kernel
theorem dX5_keepsAfterSwap_39 : decode cX5_keepsAfterSwap 39 = .ok (.iconst 0, 1) := by decide +kernel
theorem dX5_keepsAfterSwap_40 : decode cX5_keepsAfterSwap 40 = .ok (.invokevirtual 133, 3) := by decide +kernel
theorem dX5_keepsAfterSwap_43 : decode cX5_keepsAfterSwap 43 = .ok (.isub, 1) := by decide +kernel
theorem dX5_keepsAfterSwap_44 : decode cX5_keepsAfterSwap 44 = .ok (.aload_n 0, 1) := by decide +kernel
theorem dX5_keepsAfterSwap_45 : decode cX5_keepsAfterSwap 45 = .ok (.iload_n 2, 1) := by decide +kernel
theorem dX5_keepsAfterSwap_46 : decode cX5_keepsAfterSwap 46 = .ok (.iload_n 3, 1) := by decide +kernel
theorem dX5_keepsAfterSwap_47 : decode cX5_keepsAfterSwap 47 = .ok (.iconst 0, 1) := by decide +kernel
theorem dX5_keepsAfterSwap_48 : decode cX5_keepsAfterSwap 48 = .ok (.invokevirtual 133, 3) := by decide +kernel
theorem dX5_keepsAfterSwap_51 : decode cX5_keepsAfterSwap 51 = .ok (.iadd, 1) := by decide +kernel
theorem dX5_keepsAfterSwap_52 : decode cX5_keepsAfterSwap 52 = .ok (.istore 4, 2) := by decide +kernel
theorem dX5_keepsAfterSwap_54 : decode cX5_keepsAfterSwap 54 = .ok (.iload 4, 2) := by decide +kernel
theorem dX5_keepsAfterSwap_56 : decode cX5_keepsAfterSwap 56 = .ok (.bipush 20, 2) := by decide +kernel
theorem dX5_keepsAfterSwap_58 : decode cX5_keepsAfterSwap 58 = .ok (.idiv, 1) := by decide +kernel
theorem dX5_keepsAfterSwap_59 : decode cX5_keepsAfterSwap 59 = .ok (.aload_n 0, 1) := by decide +kernel
theorem dX5_keepsAfterSwap_60 : decode cX5_keepsAfterSwap 60 = .ok (.getfield 17, 3) := by decide +kernel
theorem dX5_keepsAfterSwap_63 : decode cX5_keepsAfterSwap 63 = .ok (.iload_n 3, 1) := by decide +kernel
theorem dX5_keepsAfterSwap_64 : decode cX5_keepsAfterSwap 64 = .ok (.iaload, 1) := by decide +kernel
theorem dX5_keepsAfterSwap_65 : decode cX5_keepsAfterSwap 65 = .ok (.aload_n 0, 1) := by decide +kernel
theorem dX5_keepsAfterSwap_66 : decode cX5_keepsAfterSwap 66 = .ok (.getfield 21, 3) := by decide +kernel
theorem dX5_keepsAfterSwap_69 : decode cX5_keepsAfterSwap 69 = .ok (.iload_n 3, 1) := by decide +kernel
theorem dX5_keepsAfterSwap_70 : decode cX5_keepsAfterSwap 70 = .ok (.iaload, 1) := by decide +kernel
theorem dX5_keepsAfterSwap_71 : decode cX5_keepsAfterSwap 71 = .ok (.invokestatic 71, 3) := by decide +kernel
theorem dX5_keepsAfterSwap_74 : decode cX5_keepsAfterSwap 74 = .ok (.ifCond .ne 5, 3) := by decide +kernel
theorem dX5_keepsAfterSwap_77 : decode cX5_keepsAfterSwap 77 = .ok (.iconst 0, 1) := by decide +kernel
theorem dX5_keepsAfterSwap_78 : decode cX5_keepsAfterSwap 78 = .ok (.ireturn, 1) := by decide +kernel
theorem dX5_keepsAfterSwap_79 : decode cX5_keepsAfterSwap 79 = .ok (.iinc 3 1, 3) := by decide +kernel
theorem dX5_keepsAfterSwap_82 : decode cX5_keepsAfterSwap 82 = .ok (.goto (-57), 3) := by decide +kernel
theorem dX5_keepsAfterSwap_85 : decode cX5_keepsAfterSwap 85 = .ok (.iconst 1, 1) := by decide +kernel
theorem dX5_keepsAfterSwap_86 : decode cX5_keepsAfterSwap 86 = .ok (.ireturn, 1) := by decide +kernel
theorem dX5_canBeLooser_0 : decode cX5_canBeLooser 0 = .ok (.iload_n 1, 1) := by decide +kernel
theorem dX5_canBeLooser_1 : decode cX5_canBeLooser 1 = .ok (.iconst 3, 1) := by decide +kernel
theorem dX5_canBeLooser_2 : decode cX5_canBeLooser 2 = .ok (.if_icmp .ge 20, 3) := by decide +kernel
theorem dX5_canBeLooser_5 : decode cX5_canBeLooser 5 = .ok (.aload_n 0, 1) := by decide +kernel
theorem dX5_canBeLooser_6 : decode cX5_canBeLooser 6 = .ok (.getfield 17, 3) := by decide +kernel
theorem dX5_canBeLooser_9 : decode cX5_canBeLooser 9 = .ok (.iload_n 1, 1) := by decide +kernel
theorem dX5_canBeLooser_10 : decode cX5_canBeLooser 10 = .ok (.iaload, 1) := by decide +kernel
theorem dX5_canBeLooser_11 : decode cX5_canBeLooser 11 = .ok (.ifCond .le 7, 3) := by decide +kernel
theorem dX5_canBeLooser_14 : decode cX5_canBeLooser 14 = .ok (.iconst 1, 1) := by decide +kernel
theorem dX5_canBeLooser_15 : decode cX5_canBeLooser 15 = .ok (.goto 25, 3) := by decide +kernel
theorem dX5_canBeLooser_18 : decode cX5_canBeLooser 18 = .ok (.iconst 0, 1) := by decide +kernel
theorem dX5_canBeLooser_19 : decode cX5_canBeLooser 19 = .ok (.goto 21, 3) := by decide +kernel
theorem dX5_canBeLooser_22 : decode cX5_canBeLooser 22 = .ok (.aload_n 0, 1) := by decide +kernel
theorem dX5_canBeLooser_23 : decode cX5_canBeLooser 23 = .ok (.getfield 21, 3) := by decide +kernel
theorem dX5_canBeLooser_26 : decode cX5_canBeLooser 26 = .ok (.iload_n 1, 1) := by decide +kernel
theorem dX5_canBeLooser_27 : decode cX5_canBeLooser 27 = .ok (.iconst 3, 1) := by decide +kernel
theorem dX5_canBeLooser_28 : decode cX5_canBeLooser 28 = .ok (.isub, 1) := by decide +kernel
theorem dX5_canBeLooser_29 : decode cX5_canBeLooser 29 = .ok (.iaload, 1) := by decide +kernel
theorem dX5_canBeLooser_30 : decode cX5_canBeLooser 30 = .ok (.bipush 100, 2) := by decide +kernel
theorem dX5_canBeLooser_32 : decode cX5_canBeLooser 32 = .ok (.if_icmp .ge 7, 3) := by decide +kernel
theorem dX5_canBeLooser_35 : decode cX5_canBeLooser 35 = .ok (.iconst 1, 1) := by decide +kernel
theorem dX5_canBeLooser_36 : decode cX5_canBeLooser 36 = .ok (.goto 4, 3) := by decide +kernel
theorem dX5_canBeLooser_39 : decode cX5_canBeLooser 39 = .ok (.iconst 0, 1) := by decide +kernel
theorem dX5_canBeLooser_40 : decode cX5_canBeLooser 40 = .ok (.ireturn, 1) := by decide +kernel
theorem dX5_isWithin_0 : decode cX5_isWithin 0 = .ok (.iload_n 0, 1) := by decide +kernel
theorem dX5_isWithin_1 : decode cX5_isWithin 1 = .ok (.iload_n 1, 1) := by decide +kernel
theorem dX5_isWithin_2 : decode cX5_isWithin 2 = .ok (.if_icmp .lt 12, 3) := by decide +kernel
theorem dX5_isWithin_5 : decode cX5_isWithin 5 = .ok (.iload_n 0, 1) := by decide +kernel
theorem dX5_isWithin_6 : decode cX5_isWithin 6 = .ok (.iload_n 2, 1) := by decide +kernel
theorem dX5_isWithin_7 : decode cX5_isWithin 7 = .ok (.if_icmp .gt 7, 3) := by decide +kernel
theorem dX5_isWithin_10 : decode cX5_isWithin 10 = .ok (.iconst 1, 1) := by decide +kernel
theorem dX5_isWithin_11 : decode cX5_isWithin 11 = .ok (.goto 4, 3) := by decide +kernel
theorem dX5_isWithin_14 : decode cX5_isWithin 14 = .ok (.iconst 0, 1) := by decide +kernel
theorem dX5_isWithin_15 : decode cX5_isWithin 15 = .ok (.ireturn, 1) := by decide +kernel
theorem dX6_init_0 : decode cX6_init 0 = .ok (.aload_n 0, 1) := by decide +kernel
theorem dX6_init_1 : decode cX6_init 1 = .ok (.invokespecial 1, 3) := by decide +kernel
theorem dX6_init_4 : decode cX6_init 4 = .ok (.aload_n 0, 1) := by decide +kernel
theorem dX6_init_5 : decode cX6_init 5 = .ok (.new 7, 3) := by decide +kernel
theorem dX6_init_8 : decode cX6_init 8 = .ok (.dup, 1) := by decide +kernel
theorem dX6_init_9 : decode cX6_init 9 = .ok (.invokespecial 9, 3) := by decide +kernel
theorem dX6_init_12 : decode cX6_init 12 = .ok (.putfield 10, 3) := by decide +kernel
theorem dX6_init_15 : decode cX6_init 15 = .ok (.aload_n 0, 1) := by decide +kernel
theorem dX6_init_16 : decode cX6_init 16 = .ok (.new 16, 3) := by decide +kernel
theorem dX6_init_19 : decode cX6_init 19 = .ok (.dup, 1) := by decide +kernel
theorem dX6_init_20 : decode cX6_init 20 = .ok (.invokespecial 18, 3) := by decide +kernel
theorem dX6_init_23 : decode cX6_init 23 = .ok (.putfield 19, 3) := by decide +kernel
theorem dX6_init_26 : decode cX6_init 26 = .ok (.aload_n 0, 1) := by decide +kernel
theorem dX6_init_27 : decode cX6_init 27 = .ok (.iconst 2, 1) := by decide +kernel
theorem dX6_init_28 : decode cX6_init 28 = .ok (.anewarray 7, 3) := by decide +kernel
theorem dX6_init_31 : decode cX6_init 31 = .ok (.putfield 23, 3) := by decide +kernel
theorem dX6_init_34 : decode cX6_init 34 = .ok (.aload_n 0, 1) := by decide +kernel
theorem dX6_init_35 : decode cX6_init 35 = .ok (.new 27, 3) := by decide +kernel
theorem dX6_init_38 : decode cX6_init 38 = .ok (.dup, 1) := by decide +kernel
theorem dX6_init_39 : decode cX6_init 39 = .ok (.invokespecial 29, 3) := by decide +kernel
theorem dX6_init_42 : decode cX6_init 42 = .ok (.putfield 30, 3) := by decide +kernel
theorem dX6_init_45 : decode cX6_init 45 = .ok (.aload_n 0, 1) := by decide +kernel
theorem dX6_init_46 : decode cX6_init 46 = .ok (.new 34, 3) := by decide +kernel
theorem dX6_init_49 : decode cX6_init 49 = .ok (.dup, 1) := by decide +kernel
theorem dX6_init_50 : decode cX6_init 50 = .ok (.aload_n 0, 1) := by decide +kernel
theorem dX6_init_51 : decode cX6_init 51 = .ok (.getfield 30, 3) := by decide +kernel
theorem dX6_init_54 : decode cX6_init 54 = .ok (.invokespecial 36, 3) := by decide +kernel
theorem dX6_init_57 : decode cX6_init 57 = .ok (.putfield 39, 3) := by decide +kernel
theorem dX6_init_60 : decode cX6_init 60 = .ok (.aload_n 0, 1) := by decide +kernel
theorem dX6_init_61 : decode cX6_init 61 = .ok (.new 43, 3) := by decide +kernel
theorem dX6_init_64 : decode cX6_init 64 = .ok (.dup, 1) := by decide +kernel
theorem dX6_init_65 : decode cX6_init 65 = .ok (.invokespecial 45, 3) := by decide +kernel
theorem dX6_init_68 : decode cX6_init 68 = .ok (.putfield 46, 3) := by decide +kernel
theorem dX6_init_71 : decode cX6_init 71 = .ok (.return_, 1) := by decide +kernel
theorem dX6_set_0 : decode cX6_set 0 = .ok (.aload_n 0, 1) := by decide +kernel
theorem dX6_set_1 : decode cX6_set 1 = .ok (.getfield 19, 3) := by decide +kernel
theorem dX6_set_4 : decode cX6_set 4 = .ok (.aload_n 0, 1) := by decide +kernel
theorem dX6_set_5 : decode cX6_set 5 = .ok (.getfield 10, 3) := by decide +kernel
theorem dX6_set_8 : decode cX6_set 8 = .ok (.invokevirtual 50, 3) := by decide +kernel
theorem dX6_set_11 : decode cX6_set 11 = .ok (.aload_n 0, 1) := by decide +kernel
theorem dX6_set_12 : decode cX6_set 12 = .ok (.getfield 19, 3) := by decide +kernel
theorem dX6_set_15 : decode cX6_set 15 = .ok (.aload_n 0, 1) := by decide +kernel
theorem dX6_set_16 : decode cX6_set 16 = .ok (.getfield 10, 3) := by decide +kernel
theorem dX6_set_19 : decode cX6_set 19 = .ok (.iload_n 1, 1) := by decide +kernel
theorem dX6_set_20 : decode cX6_set 20 = .ok (.iload_n 2, 1) := by decide +kernel
theorem dX6_set_21 : decode cX6_set 21 = .ok (.invokevirtual 54, 3) := by decide +kernel
theorem dX6_set_24 : decode cX6_set 24 = .ok (.invokevirtual 58, 3) := by decide +kernel
theorem dX6_set_27 : decode cX6_set 27 = .ok (.ireturn, 1) := by decide +kernel
theorem dX6_leaf_0 : decode cX6_leaf 0 = .ok (.aload_n 0, 1) := by decide +kernel
theorem dX6_leaf_1 : decode cX6_leaf 1 = .ok (.getfield 19, 3) := by decide +kernel
theorem dX6_leaf_4 : decode cX6_leaf 4 = .ok (.aload_n 0, 1) := by decide +kernel
theorem dX6_leaf_5 : decode cX6_leaf 5 = .ok (.getfield 10, 3) := by decide +kernel
theorem dX6_leaf_8 : decode cX6_leaf 8 = .ok (.invokevirtual 50, 3) := by decide +kernel
theorem dX6_leaf_11 : decode cX6_leaf 11 = .ok (.aload_n 0, 1) := by decide +kernel
theorem dX6_leaf_12 : decode cX6_leaf 12 = .ok (.getfield 19, 3) := by decide +kernel
theorem dX6_leaf_15 : decode cX6_leaf 15 = .ok (.aload_n 0, 1) := by decide +kernel
theorem dX6_leaf_16 : decode cX6_leaf 16 = .ok (.getfield 10, 3) := by decide +kernel
theorem dX6_leaf_19 : decode cX6_leaf 19 = .ok (.iload_n 1, 1) := by decide +kernel
theorem dX6_leaf_20 : decode cX6_leaf 20 = .ok (.iload_n 2, 1) := by decide +kernel
theorem dX6_leaf_21 : decode cX6_leaf 21 = .ok (.bipush 127, 2) := by decide +kernel
theorem dX6_leaf_23 : decode cX6_leaf 23 = .ok (.iand, 1) := by decide +kernel
theorem dX6_leaf_24 : decode cX6_leaf 24 = .ok (.iload_n 2, 1) := by decide +kernel
theorem dX6_leaf_25 : decode cX6_leaf 25 = .ok (.bipush 7, 2) := by decide +kernel
theorem dX6_leaf_27 : decode cX6_leaf 27 = .ok (.ishr, 1) := by decide +kernel
theorem dX6_leaf_28 : decode cX6_leaf 28 = .ok (.bipush 127, 2) := by decide +kernel
theorem dX6_leaf_30 : decode cX6_leaf 30 = .ok (.iand, 1) := by decide +kernel
theorem dX6_leaf_31 : decode cX6_leaf 31 = .ok (.iload_n 2, 1) := by decide +kernel
theorem dX6_leaf_32 : decode cX6_leaf 32 = .ok (.bipush 14, 2) := by decide +kernel
theorem dX6_leaf_34 : decode cX6_leaf 34 = .ok (.ishr, 1) := by decide +kernel
theorem dX6_leaf_35 : decode cX6_leaf 35 = .ok (.bipush 127, 2) := by decide +kernel
theorem dX6_leaf_37 : decode cX6_leaf 37 = .ok (.iand, 1) := by decide +kernel
theorem dX6_leaf_38 : decode cX6_leaf 38 = .ok (.iload_n 3, 1) := by decide +kernel
theorem dX6_leaf_39 : decode cX6_leaf 39 = .ok (.invokevirtual 62, 3) := by decide +kernel
theorem dX6_leaf_42 : decode cX6_leaf 42 = .ok (.invokevirtual 58, 3) := by decide +kernel
theorem dX6_leaf_45 : decode cX6_leaf 45 = .ok (.ireturn, 1) := by decide +kernel
theorem dX6_row_0 : decode cX6_row 0 = .ok (.aload_n 0, 1) := by decide +kernel
theorem dX6_row_1 : decode cX6_row 1 = .ok (.getfield 19, 3) := by decide +kernel
theorem dX6_row_4 : decode cX6_row 4 = .ok (.aload_n 0, 1) := by decide +kernel
theorem dX6_row_5 : decode cX6_row 5 = .ok (.getfield 10, 3) := by decide +kernel
theorem dX6_row_8 : decode cX6_row 8 = .ok (.invokevirtual 50, 3) := by decide +kernel
theorem dX6_row_11 : decode cX6_row 11 = .ok (.aload_n 0, 1) := by decide +kernel
theorem dX6_row_12 : decode cX6_row 12 = .ok (.getfield 19, 3) := by decide +kernel
theorem dX6_row_15 : decode cX6_row 15 = .ok (.aload_n 0, 1) := by decide +kernel
theorem dX6_row_16 : decode cX6_row 16 = .ok (.getfield 10, 3) := by decide +kernel
theorem dX6_row_19 : decode cX6_row 19 = .ok (.iload_n 1, 1) := by decide +kernel
theorem dX6_row_20 : decode cX6_row 20 = .ok (.lload_n 2, 1) := by decide +kernel
theorem dX6_row_21 : decode cX6_row 21 = .ok (.invokevirtual 66, 3) := by decide +kernel
theorem dX6_row_24 : decode cX6_row 24 = .ok (.invokevirtual 58, 3) := by decide +kernel
theorem dX6_row_27 : decode cX6_row 27 = .ok (.ireturn, 1) := by decide +kernel
theorem dX6_buy_0 : decode cX6_buy 0 = .ok (.aload_n 0, 1) := by decide +kernel
theorem dX6_buy_1 : decode cX6_buy 1 = .ok (.getfield 19, 3) := by decide +kernel
theorem dX6_buy_4 : decode cX6_buy 4 = .ok (.aload_n 0, 1) := by decide +kernel
theorem dX6_buy_5 : decode cX6_buy 5 = .ok (.getfield 10, 3) := by decide +kernel
theorem dX6_buy_8 : decode cX6_buy 8 = .ok (.invokevirtual 50, 3) := by decide +kernel
theorem dX6_buy_11 : decode cX6_buy 11 = .ok (.aload_n 0, 1) := by decide +kernel
theorem dX6_buy_12 : decode cX6_buy 12 = .ok (.getfield 19, 3) := by decide +kernel
theorem dX6_buy_15 : decode cX6_buy 15 = .ok (.aload_n 0, 1) := by decide +kernel
theorem dX6_buy_16 : decode cX6_buy 16 = .ok (.getfield 10, 3) := by decide +kernel
theorem dX6_buy_19 : decode cX6_buy 19 = .ok (.iload_n 1, 1) := by decide +kernel
theorem dX6_buy_20 : decode cX6_buy 20 = .ok (.iload_n 2, 1) := by decide +kernel
theorem dX6_buy_21 : decode cX6_buy 21 = .ok (.invokevirtual 70, 3) := by decide +kernel
theorem dX6_buy_24 : decode cX6_buy 24 = .ok (.invokevirtual 58, 3) := by decide +kernel
theorem dX6_buy_27 : decode cX6_buy 27 = .ok (.ireturn, 1) := by decide +kernel
theorem dX6_bound_0 : decode cX6_bound 0 = .ok (.aload_n 0, 1) := by decide +kernel
theorem dX6_bound_1 : decode cX6_bound 1 = .ok (.getfield 19, 3) := by decide +kernel
theorem dX6_bound_4 : decode cX6_bound 4 = .ok (.aload_n 0, 1) := by decide +kernel
theorem dX6_bound_5 : decode cX6_bound 5 = .ok (.getfield 10, 3) := by decide +kernel
theorem dX6_bound_8 : decode cX6_bound 8 = .ok (.invokevirtual 50, 3) := by decide +kernel
theorem dX6_bound_11 : decode cX6_bound 11 = .ok (.aload_n 0, 1) := by decide +kernel
theorem dX6_bound_12 : decode cX6_bound 12 = .ok (.getfield 19, 3) := by decide +kernel
theorem dX6_bound_15 : decode cX6_bound 15 = .ok (.aload_n 0, 1) := by decide +kernel
theorem dX6_bound_16 : decode cX6_bound 16 = .ok (.getfield 10, 3) := by decide +kernel
theorem dX6_bound_19 : decode cX6_bound 19 = .ok (.iload_n 1, 1) := by decide +kernel
theorem dX6_bound_20 : decode cX6_bound 20 = .ok (.iload_n 2, 1) := by decide +kernel
theorem dX6_bound_21 : decode cX6_bound 21 = .ok (.iload_n 3, 1) := by decide +kernel
theorem dX6_bound_22 : decode cX6_bound 22 = .ok (.invokevirtual 73, 3) := by decide +kernel
theorem dX6_bound_25 : decode cX6_bound 25 = .ok (.invokevirtual 58, 3) := by decide +kernel
theorem dX6_bound_28 : decode cX6_bound 28 = .ok (.ireturn, 1) := by decide +kernel
theorem dX6_share_0 : decode cX6_share 0 = .ok (.aload_n 0, 1) := by decide +kernel
theorem dX6_share_1 : decode cX6_share 1 = .ok (.getfield 19, 3) := by decide +kernel
theorem dX6_share_4 : decode cX6_share 4 = .ok (.aload_n 0, 1) := by decide +kernel
theorem dX6_share_5 : decode cX6_share 5 = .ok (.getfield 10, 3) := by decide +kernel
theorem dX6_share_8 : decode cX6_share 8 = .ok (.invokevirtual 50, 3) := by decide +kernel
theorem dX6_share_11 : decode cX6_share 11 = .ok (.aload_n 0, 1) := by decide +kernel
theorem dX6_share_12 : decode cX6_share 12 = .ok (.getfield 19, 3) := by decide +kernel
theorem dX6_share_15 : decode cX6_share 15 = .ok (.aload_n 0, 1) := by decide +kernel
theorem dX6_share_16 : decode cX6_share 16 = .ok (.getfield 10, 3) := by decide +kernel
theorem dX6_share_19 : decode cX6_share 19 = .ok (.iload_n 1, 1) := by decide +kernel
theorem dX6_share_20 : decode cX6_share 20 = .ok (.iload_n 2, 1) := by decide +kernel
theorem dX6_share_21 : decode cX6_share 21 = .ok (.invokevirtual 77, 3) := by decide +kernel
theorem dX6_share_24 : decode cX6_share 24 = .ok (.invokevirtual 58, 3) := by decide +kernel
theorem dX6_share_27 : decode cX6_share 27 = .ok (.ireturn, 1) := by decide +kernel
theorem dX6_choose_0 : decode cX6_choose 0 = .ok (.aload_n 0, 1) := by decide +kernel
theorem dX6_choose_1 : decode cX6_choose 1 = .ok (.getfield 46, 3) := by decide +kernel
theorem dX6_choose_4 : decode cX6_choose 4 = .ok (.aload_n 0, 1) := by decide +kernel
theorem dX6_choose_5 : decode cX6_choose 5 = .ok (.getfield 10, 3) := by decide +kernel
theorem dX6_choose_8 : decode cX6_choose 8 = .ok (.iconst (-1), 1) := by decide +kernel
theorem dX6_choose_9 : decode cX6_choose 9 = .ok (.invokevirtual 80, 3) := by decide +kernel
theorem dX6_choose_12 : decode cX6_choose 12 = .ok (.ifCond .ne 6, 3) := by decide +kernel
theorem dX6_choose_15 : decode cX6_choose 15 = .ok (.bipush (-5), 2) := by decide +kernel
theorem dX6_choose_17 : decode cX6_choose 17 = .ok (.ireturn, 1) := by decide +kernel
theorem dX6_choose_18 : decode cX6_choose 18 = .ok (.aload_n 0, 1) := by decide +kernel
theorem dX6_choose_19 : decode cX6_choose 19 = .ok (.getfield 19, 3) := by decide +kernel
theorem dX6_choose_22 : decode cX6_choose 22 = .ok (.aload_n 0, 1) := by decide +kernel
theorem dX6_choose_23 : decode cX6_choose 23 = .ok (.getfield 10, 3) := by decide +kernel
theorem dX6_choose_26 : decode cX6_choose 26 = .ok (.invokevirtual 50, 3) := by decide +kernel
theorem dX6_choose_29 : decode cX6_choose 29 = .ok (.aload_n 0, 1) := by decide +kernel
theorem dX6_choose_30 : decode cX6_choose 30 = .ok (.getfield 10, 3) := by decide +kernel
theorem dX6_choose_33 : decode cX6_choose 33 = .ok (.aload_n 0, 1) := by decide +kernel
theorem dX6_choose_34 : decode cX6_choose 34 = .ok (.getfield 46, 3) := by decide +kernel
theorem dX6_choose_37 : decode cX6_choose 37 = .ok (.getfield 84, 3) := by decide +kernel
theorem dX6_choose_40 : decode cX6_choose 40 = .ok (.invokevirtual 88, 3) := by decide +kernel
theorem dX6_choose_43 : decode cX6_choose 43 = .ok (.aload_n 0, 1) := by decide +kernel
theorem dX6_choose_44 : decode cX6_choose 44 = .ok (.getfield 19, 3) := by decide +kernel
theorem dX6_choose_47 : decode cX6_choose 47 = .ok (.aload_n 0, 1) := by decide +kernel
theorem dX6_choose_48 : decode cX6_choose 48 = .ok (.getfield 46, 3) := by decide +kernel
theorem dX6_choose_51 : decode cX6_choose 51 = .ok (.getfield 92, 3) := by decide +kernel
theorem dX6_choose_54 : decode cX6_choose 54 = .ok (.bipush 20, 2) := by decide +kernel
theorem dX6_choose_56 : decode cX6_choose 56 = .ok (.idiv, 1) := by decide +kernel
theorem dX6_choose_57 : decode cX6_choose 57 = .ok (.invokevirtual 58, 3) := by decide +kernel
theorem dX6_choose_60 : decode cX6_choose 60 = .ok (.ireturn, 1) := by decide +kernel
theorem dX6_mix_0 : decode cX6_mix 0 = .ok (.aload_n 0, 1) := by decide +kernel
theorem dX6_mix_1 : decode cX6_mix 1 = .ok (.getfield 19, 3) := by decide +kernel
theorem dX6_mix_4 : decode cX6_mix 4 = .ok (.aload_n 0, 1) := by decide +kernel
theorem dX6_mix_5 : decode cX6_mix 5 = .ok (.getfield 10, 3) := by decide +kernel
theorem dX6_mix_8 : decode cX6_mix 8 = .ok (.invokevirtual 50, 3) := by decide +kernel
theorem dX6_mix_11 : decode cX6_mix 11 = .ok (.aload_n 0, 1) := by decide +kernel
theorem dX6_mix_12 : decode cX6_mix 12 = .ok (.getfield 19, 3) := by decide +kernel
theorem dX6_mix_15 : decode cX6_mix 15 = .ok (.aload_n 0, 1) := by decide +kernel
theorem dX6_mix_16 : decode cX6_mix 16 = .ok (.getfield 10, 3) := by decide +kernel
theorem dX6_mix_19 : decode cX6_mix 19 = .ok (.iload_n 1, 1) := by decide +kernel
theorem dX6_mix_20 : decode cX6_mix 20 = .ok (.invokevirtual 96, 3) := by decide +kernel
theorem dX6_mix_23 : decode cX6_mix 23 = .ok (.invokevirtual 58, 3) := by decide +kernel
theorem dX6_mix_26 : decode cX6_mix 26 = .ok (.ireturn, 1) := by decide +kernel
theorem dX6_pass_0 : decode cX6_pass 0 = .ok (.aload_n 0, 1) := by decide +kernel
theorem dX6_pass_1 : decode cX6_pass 1 = .ok (.getfield 19, 3) := by decide +kernel
theorem dX6_pass_4 : decode cX6_pass 4 = .ok (.aload_n 0, 1) := by decide +kernel
theorem dX6_pass_5 : decode cX6_pass 5 = .ok (.getfield 10, 3) := by decide +kernel
theorem dX6_pass_8 : decode cX6_pass 8 = .ok (.invokevirtual 50, 3) := by decide +kernel
theorem dX6_pass_11 : decode cX6_pass 11 = .ok (.aload_n 0, 1) := by decide +kernel
theorem dX6_pass_12 : decode cX6_pass 12 = .ok (.getfield 19, 3) := by decide +kernel
theorem dX6_pass_15 : decode cX6_pass 15 = .ok (.aload_n 0, 1) := by decide +kernel
theorem dX6_pass_16 : decode cX6_pass 16 = .ok (.getfield 10, 3) := by decide +kernel
theorem dX6_pass_19 : decode cX6_pass 19 = .ok (.iload_n 1, 1) := by decide +kernel
theorem dX6_pass_20 : decode cX6_pass 20 = .ok (.invokevirtual 99, 3) := by decide +kernel
theorem dX6_pass_23 : decode cX6_pass 23 = .ok (.invokevirtual 58, 3) := by decide +kernel
theorem dX6_pass_26 : decode cX6_pass 26 = .ok (.ireturn, 1) := by decide +kernel
theorem dX6_of_0 : decode cX6_of 0 = .ok (.aload_n 0, 1) := by decide +kernel
theorem dX6_of_1 : decode cX6_of 1 = .ok (.getfield 10, 3) := by decide +kernel
theorem dX6_of_4 : decode cX6_of 4 = .ok (.iload_n 1, 1) := by decide +kernel
theorem dX6_of_5 : decode cX6_of 5 = .ok (.invokevirtual 102, 3) := by decide +kernel
theorem dX6_of_8 : decode cX6_of 8 = .ok (.ifCond .ne 5, 3) := by decide +kernel
theorem dX6_of_11 : decode cX6_of 11 = .ok (.iconst (-1), 1) := by decide +kernel
theorem dX6_of_12 : decode cX6_of 12 = .ok (.ireturn, 1) := by decide +kernel
theorem dX6_of_13 : decode cX6_of 13 = .ok (.iload_n 2, 1) := by decide +kernel
theorem dX6_of_14 : decode cX6_of 14 = .ok (.tableswitch 103 0 6 #[42, 51, 51, 51, 64, 77, 90], 42) := by decide +kernel
theorem dX6_of_56 : decode cX6_of 56 = .ok (.aload_n 0, 1) := by decide +kernel
theorem dX6_of_57 : decode cX6_of 57 = .ok (.getfield 10, 3) := by decide +kernel
theorem dX6_of_60 : decode cX6_of 60 = .ok (.iload_n 1, 1) := by decide +kernel
theorem dX6_of_61 : decode cX6_of 61 = .ok (.invokevirtual 106, 3) := by decide +kernel
theorem dX6_of_64 : decode cX6_of 64 = .ok (.ireturn, 1) := by decide +kernel
theorem dX6_of_65 : decode cX6_of 65 = .ok (.aload_n 0, 1) := by decide +kernel
theorem dX6_of_66 : decode cX6_of 66 = .ok (.getfield 10, 3) := by decide +kernel
theorem dX6_of_69 : decode cX6_of 69 = .ok (.iload_n 1, 1) := by decide +kernel
theorem dX6_of_70 : decode cX6_of 70 = .ok (.iload_n 2, 1) := by decide +kernel
theorem dX6_of_71 : decode cX6_of 71 = .ok (.iconst 1, 1) := by decide +kernel
theorem dX6_of_72 : decode cX6_of 72 = .ok (.isub, 1) := by decide +kernel
theorem dX6_of_73 : decode cX6_of 73 = .ok (.iconst 0, 1) := by decide +kernel
theorem dX6_of_74 : decode cX6_of 74 = .ok (.invokevirtual 109, 3) := by decide +kernel
theorem dX6_of_77 : decode cX6_of 77 = .ok (.ireturn, 1) := by decide +kernel
theorem dX6_of_78 : decode cX6_of 78 = .ok (.aload_n 0, 1) := by decide +kernel
theorem dX6_of_79 : decode cX6_of 79 = .ok (.getfield 10, 3) := by decide +kernel
theorem dX6_of_82 : decode cX6_of 82 = .ok (.getfield 112, 3) := by decide +kernel
theorem dX6_of_85 : decode cX6_of 85 = .ok (.iload_n 1, 1) := by decide +kernel
theorem dX6_of_86 : decode cX6_of 86 = .ok (.aaload, 1) := by decide +kernel
theorem dX6_of_87 : decode cX6_of 87 = .ok (.getfield 116, 3) := by decide +kernel
theorem dX6_of_90 : decode cX6_of 90 = .ok (.ireturn, 1) := by decide +kernel
theorem dX6_of_91 : decode cX6_of 91 = .ok (.aload_n 0, 1) := by decide +kernel
theorem dX6_of_92 : decode cX6_of 92 = .ok (.getfield 10, 3) := by decide +kernel
theorem dX6_of_95 : decode cX6_of 95 = .ok (.getfield 112, 3) := by decide +kernel
theorem dX6_of_98 : decode cX6_of 98 = .ok (.iload_n 1, 1) := by decide +kernel
theorem dX6_of_99 : decode cX6_of 99 = .ok (.aaload, 1) := by decide +kernel
theorem dX6_of_100 : decode cX6_of 100 = .ok (.getfield 121, 3) := by decide +kernel
theorem dX6_of_103 : decode cX6_of 103 = .ok (.ireturn, 1) := by decide +kernel
theorem dX6_of_104 : decode cX6_of 104 = .ok (.aload_n 0, 1) := by decide +kernel
theorem dX6_of_105 : decode cX6_of 105 = .ok (.getfield 10, 3) := by decide +kernel
theorem dX6_of_108 : decode cX6_of 108 = .ok (.getfield 112, 3) := by decide +kernel
theorem dX6_of_111 : decode cX6_of 111 = .ok (.iload_n 1, 1) := by decide +kernel
theorem dX6_of_112 : decode cX6_of 112 = .ok (.aaload, 1) := by decide +kernel
theorem dX6_of_113 : decode cX6_of 113 = .ok (.getfield 124, 3) := by decide +kernel
theorem dX6_of_116 : decode cX6_of 116 = .ok (.ireturn, 1) := by decide +kernel
theorem dX6_of_117 : decode cX6_of 117 = .ok (.bipush (-2), 2) := by decide +kernel
theorem dX6_of_119 : decode cX6_of 119 = .ok (.ireturn, 1) := by decide +kernel
theorem dX6_blend_0 : decode cX6_blend 0 = .ok (.iload_n 1, 1) := by decide +kernel
theorem dX6_blend_1 : decode cX6_blend 1 = .ok (.tableswitch 78 0 5 #[39, 47, 47, 47, 62, 70], 39) := by decide +kernel
theorem dX6_blend_40 : decode cX6_blend 40 = .ok (.aload_n 0, 1) := by decide +kernel
theorem dX6_blend_41 : decode cX6_blend 41 = .ok (.getfield 10, 3) := by decide +kernel
theorem dX6_blend_44 : decode cX6_blend 44 = .ok (.invokevirtual 127, 3) := by decide +kernel
theorem dX6_blend_47 : decode cX6_blend 47 = .ok (.ireturn, 1) := by decide +kernel
theorem dX6_blend_48 : decode cX6_blend 48 = .ok (.aload_n 0, 1) := by decide +kernel
theorem dX6_blend_49 : decode cX6_blend 49 = .ok (.getfield 10, 3) := by decide +kernel
theorem dX6_blend_52 : decode cX6_blend 52 = .ok (.iload_n 1, 1) := by decide +kernel
theorem dX6_blend_53 : decode cX6_blend 53 = .ok (.iconst 1, 1) := by decide +kernel
theorem dX6_blend_54 : decode cX6_blend 54 = .ok (.isub, 1) := by decide +kernel
theorem dX6_blend_55 : decode cX6_blend 55 = .ok (.iconst 0, 1) := by decide +kernel
theorem dX6_blend_56 : decode cX6_blend 56 = .ok (.invokevirtual 131, 3) := by decide +kernel
theorem dX6_blend_59 : decode cX6_blend 59 = .ok (.bipush 20, 2) := by decide +kernel
theorem dX6_blend_61 : decode cX6_blend 61 = .ok (.idiv, 1) := by decide +kernel
theorem dX6_blend_62 : decode cX6_blend 62 = .ok (.ireturn, 1) := by decide +kernel
theorem dX6_blend_63 : decode cX6_blend 63 = .ok (.aload_n 0, 1) := by decide +kernel
theorem dX6_blend_64 : decode cX6_blend 64 = .ok (.getfield 10, 3) := by decide +kernel
theorem dX6_blend_67 : decode cX6_blend 67 = .ok (.invokevirtual 134, 3) := by decide +kernel
theorem dX6_blend_70 : decode cX6_blend 70 = .ok (.ireturn, 1) := by decide +kernel
theorem dX6_blend_71 : decode cX6_blend 71 = .ok (.aload_n 0, 1) := by decide +kernel
theorem dX6_blend_72 : decode cX6_blend 72 = .ok (.getfield 10, 3) := by decide +kernel
theorem dX6_blend_75 : decode cX6_blend 75 = .ok (.invokevirtual 137, 3) := by decide +kernel
theorem dX6_blend_78 : decode cX6_blend 78 = .ok (.ireturn, 1) := by decide +kernel
theorem dX6_blend_79 : decode cX6_blend 79 = .ok (.bipush (-2), 2) := by decide +kernel
theorem dX6_blend_81 : decode cX6_blend 81 = .ok (.ireturn, 1) := by decide +kernel
theorem dX6_why_0 : decode cX6_why 0 = .ok (.aload_n 0, 1) := by decide +kernel
theorem dX6_why_1 : decode cX6_why 1 = .ok (.getfield 10, 3) := by decide +kernel
theorem dX6_why_4 : decode cX6_why 4 = .ok (.iconst 0, 1) := by decide +kernel
theorem dX6_why_5 : decode cX6_why 5 = .ok (.invokevirtual 140, 3) := by decide +kernel
theorem dX6_why_8 : decode cX6_why 8 = .ok (.ireturn, 1) := by decide +kernel
theorem dX6_count_0 : decode cX6_count 0 = .ok (.iload_n 1, 1) := by decide +kernel
theorem dX6_count_1 : decode cX6_count 1 = .ok (.iconst 4, 1) := by decide +kernel
theorem dX6_count_2 : decode cX6_count 2 = .ok (.if_icmp .lt 21, 3) := by decide +kernel
theorem dX6_count_5 : decode cX6_count 5 = .ok (.iload_n 1, 1) := by decide +kernel
theorem dX6_count_6 : decode cX6_count 6 = .ok (.bipush 7, 2) := by decide +kernel
theorem dX6_count_8 : decode cX6_count 8 = .ok (.if_icmp .ge 15, 3) := by decide +kernel
theorem dX6_count_11 : decode cX6_count 11 = .ok (.aload_n 0, 1) := by decide +kernel
theorem dX6_count_12 : decode cX6_count 12 = .ok (.getfield 10, 3) := by decide +kernel
theorem dX6_count_15 : decode cX6_count 15 = .ok (.getfield 143, 3) := by decide +kernel
theorem dX6_count_18 : decode cX6_count 18 = .ok (.iload_n 1, 1) := by decide +kernel
theorem dX6_count_19 : decode cX6_count 19 = .ok (.iconst 4, 1) := by decide +kernel
theorem dX6_count_20 : decode cX6_count 20 = .ok (.isub, 1) := by decide +kernel
theorem dX6_count_21 : decode cX6_count 21 = .ok (.iaload, 1) := by decide +kernel
theorem dX6_count_22 : decode cX6_count 22 = .ok (.ireturn, 1) := by decide +kernel
theorem dX6_count_23 : decode cX6_count 23 = .ok (.iload_n 1, 1) := by decide +kernel
theorem dX6_count_24 : decode cX6_count 24 = .ok (.bipush 7, 2) := by decide +kernel
theorem dX6_count_26 : decode cX6_count 26 = .ok (.if_icmp .lt 22, 3) := by decide +kernel
theorem dX6_count_29 : decode cX6_count 29 = .ok (.iload_n 1, 1) := by decide +kernel
theorem dX6_count_30 : decode cX6_count 30 = .ok (.bipush 10, 2) := by decide +kernel
theorem dX6_count_32 : decode cX6_count 32 = .ok (.if_icmp .ge 16, 3) := by decide +kernel
theorem dX6_count_35 : decode cX6_count 35 = .ok (.aload_n 0, 1) := by decide +kernel
theorem dX6_count_36 : decode cX6_count 36 = .ok (.getfield 10, 3) := by decide +kernel
theorem dX6_count_39 : decode cX6_count 39 = .ok (.getfield 146, 3) := by decide +kernel
theorem dX6_count_42 : decode cX6_count 42 = .ok (.iload_n 1, 1) := by decide +kernel
theorem dX6_count_43 : decode cX6_count 43 = .ok (.bipush 7, 2) := by decide +kernel
theorem dX6_count_45 : decode cX6_count 45 = .ok (.isub, 1) := by decide +kernel
theorem dX6_count_46 : decode cX6_count 46 = .ok (.iaload, 1) := by decide +kernel
theorem dX6_count_47 : decode cX6_count 47 = .ok (.ireturn, 1) := by decide +kernel
theorem dX6_count_48 : decode cX6_count 48 = .ok (.iload_n 1, 1) := by decide +kernel
theorem dX6_count_49 : decode cX6_count 49 = .ok (.tableswitch 139 0 13 #[71, 79, 87, 95, 139, 139, 139, 139, 139, 139, 103, 113, 123, 131], 71) := by decide +kernel
theorem dX6_count_120 : decode cX6_count 120 = .ok (.aload_n 0, 1) := by decide +kernel
theorem dX6_count_121 : decode cX6_count 121 = .ok (.getfield 10, 3) := by decide +kernel
theorem dX6_count_124 : decode cX6_count 124 = .ok (.getfield 149, 3) := by decide +kernel
theorem dX6_count_127 : decode cX6_count 127 = .ok (.ireturn, 1) := by decide +kernel
theorem dX6_count_128 : decode cX6_count 128 = .ok (.aload_n 0, 1) := by decide +kernel
theorem dX6_count_129 : decode cX6_count 129 = .ok (.getfield 10, 3) := by decide +kernel
theorem dX6_count_132 : decode cX6_count 132 = .ok (.getfield 152, 3) := by decide +kernel
theorem dX6_count_135 : decode cX6_count 135 = .ok (.ireturn, 1) := by decide +kernel
theorem dX6_count_136 : decode cX6_count 136 = .ok (.aload_n 0, 1) := by decide +kernel
theorem dX6_count_137 : decode cX6_count 137 = .ok (.getfield 10, 3) := by decide +kernel
theorem dX6_count_140 : decode cX6_count 140 = .ok (.getfield 155, 3) := by decide +kernel
theorem dX6_count_143 : decode cX6_count 143 = .ok (.ireturn, 1) := by decide +kernel
theorem dX6_count_144 : decode cX6_count 144 = .ok (.aload_n 0, 1) := by decide +kernel
theorem dX6_count_145 : decode cX6_count 145 = .ok (.getfield 10, 3) := by decide +kernel
theorem dX6_count_148 : decode cX6_count 148 = .ok (.getfield 158, 3) := by decide +kernel
theorem dX6_count_151 : decode cX6_count 151 = .ok (.ireturn, 1) := by decide +kernel
theorem dX6_count_152 : decode cX6_count 152 = .ok (.aload_n 0, 1) := by decide +kernel
theorem dX6_count_153 : decode cX6_count 153 = .ok (.getfield 10, 3) := by decide +kernel
theorem dX6_count_156 : decode cX6_count 156 = .ok (.getfield 161, 3) := by decide +kernel
theorem dX6_count_159 : decode cX6_count 159 = .ok (.iconst 0, 1) := by decide +kernel
theorem dX6_count_160 : decode cX6_count 160 = .ok (.iaload, 1) := by decide +kernel
theorem dX6_count_161 : decode cX6_count 161 = .ok (.ireturn, 1) := by decide +kernel
theorem dX6_count_162 : decode cX6_count 162 = .ok (.aload_n 0, 1) := by decide +kernel
theorem dX6_count_163 : decode cX6_count 163 = .ok (.getfield 10, 3) := by decide +kernel
theorem dX6_count_166 : decode cX6_count 166 = .ok (.getfield 161, 3) := by decide +kernel
theorem dX6_count_169 : decode cX6_count 169 = .ok (.iconst 1, 1) := by decide +kernel
theorem dX6_count_170 : decode cX6_count 170 = .ok (.iaload, 1) := by decide +kernel
theorem dX6_count_171 : decode cX6_count 171 = .ok (.ireturn, 1) := by decide +kernel
theorem dX6_count_172 : decode cX6_count 172 = .ok (.aload_n 0, 1) := by decide +kernel
theorem dX6_count_173 : decode cX6_count 173 = .ok (.getfield 30, 3) := by decide +kernel
theorem dX6_count_176 : decode cX6_count 176 = .ok (.getfield 164, 3) := by decide +kernel
theorem dX6_count_179 : decode cX6_count 179 = .ok (.ireturn, 1) := by decide +kernel
theorem dX6_count_180 : decode cX6_count 180 = .ok (.aload_n 0, 1) := by decide +kernel
theorem dX6_count_181 : decode cX6_count 181 = .ok (.getfield 19, 3) := by decide +kernel
theorem dX6_count_184 : decode cX6_count 184 = .ok (.getfield 167, 3) := by decide +kernel
theorem dX6_count_187 : decode cX6_count 187 = .ok (.ireturn, 1) := by decide +kernel
theorem dX6_count_188 : decode cX6_count 188 = .ok (.bipush (-2), 2) := by decide +kernel
theorem dX6_count_190 : decode cX6_count 190 = .ok (.ireturn, 1) := by decide +kernel
theorem dX6_taste_0 : decode cX6_taste 0 = .ok (.iload_n 1, 1) := by decide +kernel
theorem dX6_taste_1 : decode cX6_taste 1 = .ok (.ifCond .lt 8, 3) := by decide +kernel
theorem dX6_taste_4 : decode cX6_taste 4 = .ok (.iload_n 1, 1) := by decide +kernel
theorem dX6_taste_5 : decode cX6_taste 5 = .ok (.iconst 3, 1) := by decide +kernel
theorem dX6_taste_6 : decode cX6_taste 6 = .ok (.if_icmp .lt 5, 3) := by decide +kernel
theorem dX6_taste_9 : decode cX6_taste 9 = .ok (.lconst 0, 1) := by decide +kernel
theorem dX6_taste_10 : decode cX6_taste 10 = .ok (.lreturn, 1) := by decide +kernel
theorem dX6_taste_11 : decode cX6_taste 11 = .ok (.aload_n 0, 1) := by decide +kernel
theorem dX6_taste_12 : decode cX6_taste 12 = .ok (.getfield 10, 3) := by decide +kernel
theorem dX6_taste_15 : decode cX6_taste 15 = .ok (.iload_n 1, 1) := by decide +kernel
theorem dX6_taste_16 : decode cX6_taste 16 = .ok (.iconst 0, 1) := by decide +kernel
theorem dX6_taste_17 : decode cX6_taste 17 = .ok (.invokevirtual 131, 3) := by decide +kernel
theorem dX6_taste_20 : decode cX6_taste 20 = .ok (.i2d, 1) := by decide +kernel
theorem dX6_taste_21 : decode cX6_taste 21 = .ok (.ldc2_w 170, 3) := by decide +kernel
theorem dX6_taste_24 : decode cX6_taste 24 = .ok (.ddiv, 1) := by decide +kernel
theorem dX6_taste_25 : decode cX6_taste 25 = .ok (.bipush 52, 2) := by decide +kernel
theorem dX6_taste_27 : decode cX6_taste 27 = .ok (.sipush 1023, 3) := by decide +kernel
theorem dX6_taste_30 : decode cX6_taste 30 = .ok (.invokestatic 172, 3) := by decide +kernel
theorem dX6_taste_33 : decode cX6_taste 33 = .ok (.lreturn, 1) := by decide +kernel
theorem dX6_mean_0 : decode cX6_mean 0 = .ok (.aload_n 0, 1) := by decide +kernel
theorem dX6_mean_1 : decode cX6_mean 1 = .ok (.getfield 10, 3) := by decide +kernel
theorem dX6_mean_4 : decode cX6_mean 4 = .ok (.getfield 155, 3) := by decide +kernel
theorem dX6_mean_7 : decode cX6_mean 7 = .ok (.ifCond .ne 5, 3) := by decide +kernel
theorem dX6_mean_10 : decode cX6_mean 10 = .ok (.iconst 0, 1) := by decide +kernel
theorem dX6_mean_11 : decode cX6_mean 11 = .ok (.ireturn, 1) := by decide +kernel
theorem dX6_mean_12 : decode cX6_mean 12 = .ok (.aload_n 0, 1) := by decide +kernel
theorem dX6_mean_13 : decode cX6_mean 13 = .ok (.getfield 10, 3) := by decide +kernel
theorem dX6_mean_16 : decode cX6_mean 16 = .ok (.getfield 158, 3) := by decide +kernel
theorem dX6_mean_19 : decode cX6_mean 19 = .ok (.i2f, 1) := by decide +kernel
theorem dX6_mean_20 : decode cX6_mean 20 = .ok (.aload_n 0, 1) := by decide +kernel
theorem dX6_mean_21 : decode cX6_mean 21 = .ok (.getfield 10, 3) := by decide +kernel
theorem dX6_mean_24 : decode cX6_mean 24 = .ok (.getfield 155, 3) := by decide +kernel
theorem dX6_mean_27 : decode cX6_mean 27 = .ok (.i2f, 1) := by decide +kernel
theorem dX6_mean_28 : decode cX6_mean 28 = .ok (.fdiv, 1) := by decide +kernel
theorem dX6_mean_29 : decode cX6_mean 29 = .ok (.fstore_n 1, 1) := by decide +kernel
theorem dX6_mean_30 : decode cX6_mean 30 = .ok (.fload_n 1, 1) := by decide +kernel
theorem dX6_mean_31 : decode cX6_mean 31 = .ok (.f2d, 1) := by decide +kernel
theorem dX6_mean_32 : decode cX6_mean 32 = .ok (.bipush 23, 2) := by decide +kernel
theorem dX6_mean_34 : decode cX6_mean 34 = .ok (.bipush 127, 2) := by decide +kernel
theorem dX6_mean_36 : decode cX6_mean 36 = .ok (.invokestatic 172, 3) := by decide +kernel
theorem dX6_mean_39 : decode cX6_mean 39 = .ok (.l2i, 1) := by decide +kernel
theorem dX6_mean_40 : decode cX6_mean 40 = .ok (.ireturn, 1) := by decide +kernel
theorem dX6_cheapest_0 : decode cX6_cheapest 0 = .ok (.iload_n 1, 1) := by decide +kernel
theorem dX6_cheapest_1 : decode cX6_cheapest 1 = .ok (.ifCond .lt 8, 3) := by decide +kernel
theorem dX6_cheapest_4 : decode cX6_cheapest 4 = .ok (.iload_n 1, 1) := by decide +kernel
theorem dX6_cheapest_5 : decode cX6_cheapest 5 = .ok (.iconst 5, 1) := by decide +kernel
theorem dX6_cheapest_6 : decode cX6_cheapest 6 = .ok (.if_icmp .le 6, 3) := by decide +kernel
theorem dX6_cheapest_9 : decode cX6_cheapest 9 = .ok (.bipush (-2), 2) := by decide +kernel
theorem dX6_cheapest_11 : decode cX6_cheapest 11 = .ok (.ireturn, 1) := by decide +kernel
theorem dX6_cheapest_12 : decode cX6_cheapest 12 = .ok (.aload_n 0, 1) := by decide +kernel
theorem dX6_cheapest_13 : decode cX6_cheapest 13 = .ok (.getfield 46, 3) := by decide +kernel
theorem dX6_cheapest_16 : decode cX6_cheapest 16 = .ok (.aload_n 0, 1) := by decide +kernel
theorem dX6_cheapest_17 : decode cX6_cheapest 17 = .ok (.getfield 10, 3) := by decide +kernel
theorem dX6_cheapest_20 : decode cX6_cheapest 20 = .ok (.iconst (-1), 1) := by decide +kernel
theorem dX6_cheapest_21 : decode cX6_cheapest 21 = .ok (.invokevirtual 80, 3) := by decide +kernel
theorem dX6_cheapest_24 : decode cX6_cheapest 24 = .ok (.ifCond .ne 6, 3) := by decide +kernel
theorem dX6_cheapest_27 : decode cX6_cheapest 27 = .ok (.bipush (-6), 2) := by decide +kernel
theorem dX6_cheapest_29 : decode cX6_cheapest 29 = .ok (.ireturn, 1) := by decide +kernel
theorem dX6_cheapest_30 : decode cX6_cheapest 30 = .ok (.iload_n 1, 1) := by decide +kernel
theorem dX6_cheapest_31 : decode cX6_cheapest 31 = .ok (.ifCond .ne 16, 3) := by decide +kernel
theorem dX6_cheapest_34 : decode cX6_cheapest 34 = .ok (.aload_n 0, 1) := by decide +kernel
theorem dX6_cheapest_35 : decode cX6_cheapest 35 = .ok (.getfield 46, 3) := by decide +kernel
theorem dX6_cheapest_38 : decode cX6_cheapest 38 = .ok (.getfield 92, 3) := by decide +kernel
theorem dX6_cheapest_41 : decode cX6_cheapest 41 = .ok (.bipush 20, 2) := by decide +kernel
theorem dX6_cheapest_43 : decode cX6_cheapest 43 = .ok (.idiv, 1) := by decide +kernel
theorem dX6_cheapest_44 : decode cX6_cheapest 44 = .ok (.goto 14, 3) := by decide +kernel
theorem dX6_cheapest_47 : decode cX6_cheapest 47 = .ok (.aload_n 0, 1) := by decide +kernel
theorem dX6_cheapest_48 : decode cX6_cheapest 48 = .ok (.getfield 46, 3) := by decide +kernel
theorem dX6_cheapest_51 : decode cX6_cheapest 51 = .ok (.getfield 84, 3) := by decide +kernel
theorem dX6_cheapest_54 : decode cX6_cheapest 54 = .ok (.iload_n 1, 1) := by decide +kernel
theorem dX6_cheapest_55 : decode cX6_cheapest 55 = .ok (.iconst 1, 1) := by decide +kernel
theorem dX6_cheapest_56 : decode cX6_cheapest 56 = .ok (.isub, 1) := by decide +kernel
theorem dX6_cheapest_57 : decode cX6_cheapest 57 = .ok (.iaload, 1) := by decide +kernel
theorem dX6_cheapest_58 : decode cX6_cheapest 58 = .ok (.ireturn, 1) := by decide +kernel
theorem dX6_swap_0 : decode cX6_swap 0 = .ok (.iload_n 1, 1) := by decide +kernel
theorem dX6_swap_1 : decode cX6_swap 1 = .ok (.ifCond .lt 8, 3) := by decide +kernel
theorem dX6_swap_4 : decode cX6_swap 4 = .ok (.iload_n 1, 1) := by decide +kernel
theorem dX6_swap_5 : decode cX6_swap 5 = .ok (.iconst 2, 1) := by decide +kernel
theorem dX6_swap_6 : decode cX6_swap 6 = .ok (.if_icmp .le 6, 3) := by decide +kernel
theorem dX6_swap_9 : decode cX6_swap 9 = .ok (.bipush (-2), 2) := by decide +kernel
theorem dX6_swap_11 : decode cX6_swap 11 = .ok (.ireturn, 1) := by decide +kernel
theorem dX6_swap_12 : decode cX6_swap 12 = .ok (.aload_n 0, 1) := by decide +kernel
theorem dX6_swap_13 : decode cX6_swap 13 = .ok (.getfield 10, 3) := by decide +kernel
theorem dX6_swap_16 : decode cX6_swap 16 = .ok (.invokevirtual 176, 3) := by decide +kernel
theorem dX6_swap_19 : decode cX6_swap 19 = .ok (.istore_n 2, 1) := by decide +kernel
theorem dX6_swap_20 : decode cX6_swap 20 = .ok (.iload_n 2, 1) := by decide +kernel
theorem dX6_swap_21 : decode cX6_swap 21 = .ok (.ifCond .ge 6, 3) := by decide +kernel
theorem dX6_swap_24 : decode cX6_swap 24 = .ok (.bipush (-6), 2) := by decide +kernel
theorem dX6_swap_26 : decode cX6_swap 26 = .ok (.ireturn, 1) := by decide +kernel
theorem dX6_swap_27 : decode cX6_swap 27 = .ok (.iload_n 2, 1) := by decide +kernel
theorem dX6_swap_28 : decode cX6_swap 28 = .ok (.iconst 5, 1) := by decide +kernel
theorem dX6_swap_29 : decode cX6_swap 29 = .ok (.idiv, 1) := by decide +kernel
theorem dX6_swap_30 : decode cX6_swap 30 = .ok (.istore_n 3, 1) := by decide +kernel
theorem dX6_swap_31 : decode cX6_swap 31 = .ok (.iload_n 2, 1) := by decide +kernel
theorem dX6_swap_32 : decode cX6_swap 32 = .ok (.iconst 5, 1) := by decide +kernel
theorem dX6_swap_33 : decode cX6_swap 33 = .ok (.irem, 1) := by decide +kernel
theorem dX6_swap_34 : decode cX6_swap 34 = .ok (.istore 4, 2) := by decide +kernel
theorem dX6_swap_36 : decode cX6_swap 36 = .ok (.iload_n 1, 1) := by decide +kernel
theorem dX6_swap_37 : decode cX6_swap 37 = .ok (.iconst 2, 1) := by decide +kernel
theorem dX6_swap_38 : decode cX6_swap 38 = .ok (.if_icmp .ne 22, 3) := by decide +kernel
theorem dX6_swap_41 : decode cX6_swap 41 = .ok (.aload_n 0, 1) := by decide +kernel
theorem dX6_swap_42 : decode cX6_swap 42 = .ok (.getfield 10, 3) := by decide +kernel
theorem dX6_swap_45 : decode cX6_swap 45 = .ok (.iload_n 3, 1) := by decide +kernel
theorem dX6_swap_46 : decode cX6_swap 46 = .ok (.invokevirtual 106, 3) := by decide +kernel
theorem dX6_swap_49 : decode cX6_swap 49 = .ok (.aload_n 0, 1) := by decide +kernel
theorem dX6_swap_50 : decode cX6_swap 50 = .ok (.getfield 10, 3) := by decide +kernel
theorem dX6_swap_53 : decode cX6_swap 53 = .ok (.iload 4, 2) := by decide +kernel
theorem dX6_swap_55 : decode cX6_swap 55 = .ok (.invokevirtual 106, 3) := by decide +kernel
theorem dX6_swap_58 : decode cX6_swap 58 = .ok (.isub, 1) := by decide +kernel
theorem dX6_swap_59 : decode cX6_swap 59 = .ok (.ireturn, 1) := by decide +kernel
theorem dX6_swap_60 : decode cX6_swap 60 = .ok (.iload_n 1, 1) := by decide +kernel
theorem dX6_swap_61 : decode cX6_swap 61 = .ok (.ifCond .ne 7, 3) := by decide +kernel
theorem dX6_swap_64 : decode cX6_swap 64 = .ok (.iload_n 3, 1) := by decide +kernel
theorem dX6_swap_65 : decode cX6_swap 65 = .ok (.goto 5, 3) := by decide +kernel
theorem dX6_swap_68 : decode cX6_swap 68 = .ok (.iload 4, 2) := by decide +kernel
theorem dX6_swap_70 : decode cX6_swap 70 = .ok (.ireturn, 1) := by decide +kernel
theorem dX6_looser_0 : decode cX6_looser 0 = .ok (.iload_n 1, 1) := by decide +kernel
theorem dX6_looser_1 : decode cX6_looser 1 = .ok (.ifCond .lt 9, 3) := by decide +kernel
theorem dX6_looser_4 : decode cX6_looser 4 = .ok (.iload_n 1, 1) := by decide +kernel
theorem dX6_looser_5 : decode cX6_looser 5 = .ok (.bipush 6, 2) := by decide +kernel
theorem dX6_looser_7 : decode cX6_looser 7 = .ok (.if_icmp .lt 6, 3) := by decide +kernel
theorem dX6_looser_10 : decode cX6_looser 10 = .ok (.bipush (-2), 2) := by decide +kernel
theorem dX6_looser_12 : decode cX6_looser 12 = .ok (.ireturn, 1) := by decide +kernel
theorem dX6_looser_13 : decode cX6_looser 13 = .ok (.aload_n 0, 1) := by decide +kernel
theorem dX6_looser_14 : decode cX6_looser 14 = .ok (.getfield 46, 3) := by decide +kernel
theorem dX6_looser_17 : decode cX6_looser 17 = .ok (.aload_n 0, 1) := by decide +kernel
theorem dX6_looser_18 : decode cX6_looser 18 = .ok (.getfield 10, 3) := by decide +kernel
theorem dX6_looser_21 : decode cX6_looser 21 = .ok (.iconst (-1), 1) := by decide +kernel
theorem dX6_looser_22 : decode cX6_looser 22 = .ok (.invokevirtual 80, 3) := by decide +kernel
theorem dX6_looser_25 : decode cX6_looser 25 = .ok (.ifCond .ne 6, 3) := by decide +kernel
theorem dX6_looser_28 : decode cX6_looser 28 = .ok (.bipush (-6), 2) := by decide +kernel
theorem dX6_looser_30 : decode cX6_looser 30 = .ok (.ireturn, 1) := by decide +kernel
theorem dX6_looser_31 : decode cX6_looser 31 = .ok (.aload_n 0, 1) := by decide +kernel
theorem dX6_looser_32 : decode cX6_looser 32 = .ok (.getfield 46, 3) := by decide +kernel
theorem dX6_looser_35 : decode cX6_looser 35 = .ok (.getfield 92, 3) := by decide +kernel
theorem dX6_looser_38 : decode cX6_looser 38 = .ok (.istore_n 2, 1) := by decide +kernel
theorem dX6_looser_39 : decode cX6_looser 39 = .ok (.aload_n 0, 1) := by decide +kernel
theorem dX6_looser_40 : decode cX6_looser 40 = .ok (.getfield 10, 3) := by decide +kernel
theorem dX6_looser_43 : decode cX6_looser 43 = .ok (.iload_n 1, 1) := by decide +kernel
theorem dX6_looser_44 : decode cX6_looser 44 = .ok (.invokevirtual 179, 3) := by decide +kernel
theorem dX6_looser_47 : decode cX6_looser 47 = .ok (.ifCond .eq 18, 3) := by decide +kernel
theorem dX6_looser_50 : decode cX6_looser 50 = .ok (.aload_n 0, 1) := by decide +kernel
theorem dX6_looser_51 : decode cX6_looser 51 = .ok (.getfield 46, 3) := by decide +kernel
theorem dX6_looser_54 : decode cX6_looser 54 = .ok (.aload_n 0, 1) := by decide +kernel
theorem dX6_looser_55 : decode cX6_looser 55 = .ok (.getfield 10, 3) := by decide +kernel
theorem dX6_looser_58 : decode cX6_looser 58 = .ok (.iload_n 1, 1) := by decide +kernel
theorem dX6_looser_59 : decode cX6_looser 59 = .ok (.invokevirtual 80, 3) := by decide +kernel
theorem dX6_looser_62 : decode cX6_looser 62 = .ok (.ifCond .ne 5, 3) := by decide +kernel
theorem dX6_looser_65 : decode cX6_looser 65 = .ok (.iconst 0, 1) := by decide +kernel
theorem dX6_looser_66 : decode cX6_looser 66 = .ok (.ireturn, 1) := by decide +kernel
theorem dX6_looser_67 : decode cX6_looser 67 = .ok (.iload_n 2, 1) := by decide +kernel
theorem dX6_looser_68 : decode cX6_looser 68 = .ok (.aload_n 0, 1) := by decide +kernel
theorem dX6_looser_69 : decode cX6_looser 69 = .ok (.getfield 46, 3) := by decide +kernel
theorem dX6_looser_72 : decode cX6_looser 72 = .ok (.getfield 92, 3) := by decide +kernel
theorem dX6_looser_75 : decode cX6_looser 75 = .ok (.isub, 1) := by decide +kernel
theorem dX6_looser_76 : decode cX6_looser 76 = .ok (.ireturn, 1) := by decide +kernel
theorem dX6_keepsFor_0 : decode cX6_keepsFor 0 = .ok (.iconst 0, 1) := by decide +kernel
theorem dX6_keepsFor_1 : decode cX6_keepsFor 1 = .ok (.istore_n 1, 1) := by decide +kernel
theorem dX6_keepsFor_2 : decode cX6_keepsFor 2 = .ok (.iload_n 1, 1) := by decide +kernel
theorem dX6_keepsFor_3 : decode cX6_keepsFor 3 = .ok (.sipush 400, 3) := by decide +kernel
theorem dX6_keepsFor_6 : decode cX6_keepsFor 6 = .ok (.if_icmp .gt 22, 3) := by decide +kernel
theorem dX6_keepsFor_9 : decode cX6_keepsFor 9 = .ok (.aload_n 0, 1) := by decide +kernel
theorem dX6_keepsFor_10 : decode cX6_keepsFor 10 = .ok (.getfield 10, 3) := by decide +kernel
theorem dX6_keepsFor_13 : decode cX6_keepsFor 13 = .ok (.iload_n 1, 1) := by decide +kernel
theorem dX6_keepsFor_14 : decode cX6_keepsFor 14 = .ok (.invokevirtual 140, 3) := by decide +kernel
theorem dX6_keepsFor_17 : decode cX6_keepsFor 17 = .ok (.ifCond .eq 5, 3) := by decide +kernel
theorem dX6_keepsFor_20 : decode cX6_keepsFor 20 = .ok (.iload_n 1, 1) := by decide +kernel
theorem dX6_keepsFor_21 : decode cX6_keepsFor 21 = .ok (.ireturn, 1) := by decide +kernel
theorem dX6_keepsFor_22 : decode cX6_keepsFor 22 = .ok (.iinc 1 1, 3) := by decide +kernel
theorem dX6_keepsFor_25 : decode cX6_keepsFor 25 = .ok (.goto (-23), 3) := by decide +kernel
theorem dX6_keepsFor_28 : decode cX6_keepsFor 28 = .ok (.bipush (-6), 2) := by decide +kernel
theorem dX6_keepsFor_30 : decode cX6_keepsFor 30 = .ok (.ireturn, 1) := by decide +kernel
theorem dX6_mostGrams_0 : decode cX6_mostGrams 0 = .ok (.aload_n 0, 1) := by decide +kernel
theorem dX6_mostGrams_1 : decode cX6_mostGrams 1 = .ok (.getfield 10, 3) := by decide +kernel
theorem dX6_mostGrams_4 : decode cX6_mostGrams 4 = .ok (.iconst 0, 1) := by decide +kernel
theorem dX6_mostGrams_5 : decode cX6_mostGrams 5 = .ok (.invokevirtual 140, 3) := by decide +kernel
theorem dX6_mostGrams_8 : decode cX6_mostGrams 8 = .ok (.ifCond .ne 13, 3) := by decide +kernel
theorem dX6_mostGrams_11 : decode cX6_mostGrams 11 = .ok (.aload_n 0, 1) := by decide +kernel
theorem dX6_mostGrams_12 : decode cX6_mostGrams 12 = .ok (.getfield 10, 3) := by decide +kernel
theorem dX6_mostGrams_15 : decode cX6_mostGrams 15 = .ok (.invokevirtual 182, 3) := by decide +kernel
theorem dX6_mostGrams_18 : decode cX6_mostGrams 18 = .ok (.goto 4, 3) := by decide +kernel
theorem dX6_mostGrams_21 : decode cX6_mostGrams 21 = .ok (.iconst 0, 1) := by decide +kernel
theorem dX6_mostGrams_22 : decode cX6_mostGrams 22 = .ok (.ireturn, 1) := by decide +kernel
theorem dX6_put_0 : decode cX6_put 0 = .ok (.aload_n 0, 1) := by decide +kernel
theorem dX6_put_1 : decode cX6_put 1 = .ok (.getfield 30, 3) := by decide +kernel
theorem dX6_put_4 : decode cX6_put 4 = .ok (.lload_n 1, 1) := by decide +kernel
theorem dX6_put_5 : decode cX6_put 5 = .ok (.invokevirtual 185, 3) := by decide +kernel
theorem dX6_put_8 : decode cX6_put 8 = .ok (.ireturn, 1) := by decide +kernel
theorem dX6_wipe_0 : decode cX6_wipe 0 = .ok (.aload_n 0, 1) := by decide +kernel
theorem dX6_wipe_1 : decode cX6_wipe 1 = .ok (.getfield 30, 3) := by decide +kernel
theorem dX6_wipe_4 : decode cX6_wipe 4 = .ok (.invokevirtual 189, 3) := by decide +kernel
theorem dX6_wipe_7 : decode cX6_wipe 7 = .ok (.ireturn, 1) := by decide +kernel
theorem dX6_fault_0 : decode cX6_fault 0 = .ok (.aload_n 0, 1) := by decide +kernel
theorem dX6_fault_1 : decode cX6_fault 1 = .ok (.getfield 39, 3) := by decide +kernel
theorem dX6_fault_4 : decode cX6_fault 4 = .ok (.invokevirtual 192, 3) := by decide +kernel
theorem dX6_fault_7 : decode cX6_fault 7 = .ok (.ireturn, 1) := by decide +kernel
theorem dX6_carryOut_0 : decode cX6_carryOut 0 = .ok (.aload_n 0, 1) := by decide +kernel
theorem dX6_carryOut_1 : decode cX6_carryOut 1 = .ok (.getfield 39, 3) := by decide +kernel
theorem dX6_carryOut_4 : decode cX6_carryOut 4 = .ok (.invokevirtual 192, 3) := by decide +kernel
theorem dX6_carryOut_7 : decode cX6_carryOut 7 = .ok (.bipush (-6), 2) := by decide +kernel
theorem dX6_carryOut_9 : decode cX6_carryOut 9 = .ok (.if_icmp .eq 6, 3) := by decide +kernel
theorem dX6_carryOut_12 : decode cX6_carryOut 12 = .ok (.bipush (-3), 2) := by decide +kernel
theorem dX6_carryOut_14 : decode cX6_carryOut 14 = .ok (.ireturn, 1) := by decide +kernel
theorem dX6_carryOut_15 : decode cX6_carryOut 15 = .ok (.aload_n 0, 1) := by decide +kernel
theorem dX6_carryOut_16 : decode cX6_carryOut 16 = .ok (.getfield 19, 3) := by decide +kernel
theorem dX6_carryOut_19 : decode cX6_carryOut 19 = .ok (.aload_n 0, 1) := by decide +kernel
theorem dX6_carryOut_20 : decode cX6_carryOut 20 = .ok (.getfield 10, 3) := by decide +kernel
theorem dX6_carryOut_23 : decode cX6_carryOut 23 = .ok (.invokevirtual 50, 3) := by decide +kernel
theorem dX6_carryOut_26 : decode cX6_carryOut 26 = .ok (.aload_n 0, 1) := by decide +kernel
theorem dX6_carryOut_27 : decode cX6_carryOut 27 = .ok (.getfield 39, 3) := by decide +kernel
theorem dX6_carryOut_30 : decode cX6_carryOut 30 = .ok (.invokevirtual 195, 3) := by decide +kernel
theorem dX6_carryOut_33 : decode cX6_carryOut 33 = .ok (.iconst 0, 1) := by decide +kernel
theorem dX6_carryOut_34 : decode cX6_carryOut 34 = .ok (.istore_n 1, 1) := by decide +kernel
theorem dX6_carryOut_35 : decode cX6_carryOut 35 = .ok (.iload_n 1, 1) := by decide +kernel
theorem dX6_carryOut_36 : decode cX6_carryOut 36 = .ok (.bipush 80, 2) := by decide +kernel
theorem dX6_carryOut_38 : decode cX6_carryOut 38 = .ok (.if_icmp .ge 26, 3) := by decide +kernel
theorem dX6_carryOut_41 : decode cX6_carryOut 41 = .ok (.aload_n 0, 1) := by decide +kernel
theorem dX6_carryOut_42 : decode cX6_carryOut 42 = .ok (.getfield 39, 3) := by decide +kernel
theorem dX6_carryOut_45 : decode cX6_carryOut 45 = .ok (.invokevirtual 198, 3) := by decide +kernel
theorem dX6_carryOut_48 : decode cX6_carryOut 48 = .ok (.ifCond .eq 16, 3) := by decide +kernel
theorem dX6_carryOut_51 : decode cX6_carryOut 51 = .ok (.aload_n 0, 1) := by decide +kernel
theorem dX6_carryOut_52 : decode cX6_carryOut 52 = .ok (.invokevirtual 202, 3) := by decide +kernel
theorem dX6_carryOut_55 : decode cX6_carryOut 55 = .ok (.ifCond .lt 9, 3) := by decide +kernel
theorem dX6_carryOut_58 : decode cX6_carryOut 58 = .ok (.iinc 1 1, 3) := by decide +kernel
theorem dX6_carryOut_61 : decode cX6_carryOut 61 = .ok (.goto (-26), 3) := by decide +kernel
theorem dX6_carryOut_64 : decode cX6_carryOut 64 = .ok (.aload_n 0, 1) := by decide +kernel
theorem dX6_carryOut_65 : decode cX6_carryOut 65 = .ok (.getfield 30, 3) := by decide +kernel
theorem dX6_carryOut_68 : decode cX6_carryOut 68 = .ok (.invokevirtual 189, 3) := by decide +kernel
theorem dX6_carryOut_71 : decode cX6_carryOut 71 = .ok (.pop, 1) := by decide +kernel
theorem dX6_carryOut_72 : decode cX6_carryOut 72 = .ok (.aload_n 0, 1) := by decide +kernel
theorem dX6_carryOut_73 : decode cX6_carryOut 73 = .ok (.getfield 19, 3) := by decide +kernel
theorem dX6_carryOut_76 : decode cX6_carryOut 76 = .ok (.iload_n 1, 1) := by decide +kernel
theorem dX6_carryOut_77 : decode cX6_carryOut 77 = .ok (.invokevirtual 58, 3) := by decide +kernel
theorem dX6_carryOut_80 : decode cX6_carryOut 80 = .ok (.ireturn, 1) := by decide +kernel
theorem dX6_undo_0 : decode cX6_undo 0 = .ok (.aload_n 0, 1) := by decide +kernel
theorem dX6_undo_1 : decode cX6_undo 1 = .ok (.getfield 19, 3) := by decide +kernel
theorem dX6_undo_4 : decode cX6_undo 4 = .ok (.aload_n 0, 1) := by decide +kernel
theorem dX6_undo_5 : decode cX6_undo 5 = .ok (.getfield 10, 3) := by decide +kernel
theorem dX6_undo_8 : decode cX6_undo 8 = .ok (.invokevirtual 205, 3) := by decide +kernel
theorem dX6_undo_11 : decode cX6_undo 11 = .ok (.ifCond .eq 13, 3) := by decide +kernel
theorem dX6_undo_14 : decode cX6_undo 14 = .ok (.aload_n 0, 1) := by decide +kernel
theorem dX6_undo_15 : decode cX6_undo 15 = .ok (.getfield 19, 3) := by decide +kernel
theorem dX6_undo_18 : decode cX6_undo 18 = .ok (.getfield 167, 3) := by decide +kernel
theorem dX6_undo_21 : decode cX6_undo 21 = .ok (.goto 5, 3) := by decide +kernel
theorem dX6_undo_24 : decode cX6_undo 24 = .ok (.bipush (-5), 2) := by decide +kernel
theorem dX6_undo_26 : decode cX6_undo 26 = .ok (.ireturn, 1) := by decide +kernel
theorem dX6_save_0 : decode cX6_save 0 = .ok (.iload_n 1, 1) := by decide +kernel
theorem dX6_save_1 : decode cX6_save 1 = .ok (.ifCond .lt 8, 3) := by decide +kernel
theorem dX6_save_4 : decode cX6_save 4 = .ok (.iload_n 1, 1) := by decide +kernel
theorem dX6_save_5 : decode cX6_save 5 = .ok (.iconst 2, 1) := by decide +kernel
theorem dX6_save_6 : decode cX6_save 6 = .ok (.if_icmp .lt 6, 3) := by decide +kernel
theorem dX6_save_9 : decode cX6_save 9 = .ok (.bipush (-2), 2) := by decide +kernel
theorem dX6_save_11 : decode cX6_save 11 = .ok (.ireturn, 1) := by decide +kernel
theorem dX6_save_12 : decode cX6_save 12 = .ok (.aload_n 0, 1) := by decide +kernel
theorem dX6_save_13 : decode cX6_save 13 = .ok (.getfield 23, 3) := by decide +kernel
theorem dX6_save_16 : decode cX6_save 16 = .ok (.iload_n 1, 1) := by decide +kernel
theorem dX6_save_17 : decode cX6_save 17 = .ok (.aaload, 1) := by decide +kernel
theorem dX6_save_18 : decode cX6_save 18 = .ok (.ifnonnull 16, 3) := by decide +kernel
theorem dX6_save_21 : decode cX6_save 21 = .ok (.aload_n 0, 1) := by decide +kernel
theorem dX6_save_22 : decode cX6_save 22 = .ok (.getfield 23, 3) := by decide +kernel
theorem dX6_save_25 : decode cX6_save 25 = .ok (.iload_n 1, 1) := by decide +kernel
theorem dX6_save_26 : decode cX6_save 26 = .ok (.new 7, 3) := by decide +kernel
theorem dX6_save_29 : decode cX6_save 29 = .ok (.dup, 1) := by decide +kernel
theorem dX6_save_30 : decode cX6_save 30 = .ok (.invokespecial 9, 3) := by decide +kernel
theorem dX6_save_33 : decode cX6_save 33 = .ok (.aastore, 1) := by decide +kernel
theorem dX6_save_34 : decode cX6_save 34 = .ok (.aload_n 0, 1) := by decide +kernel
theorem dX6_save_35 : decode cX6_save 35 = .ok (.getfield 23, 3) := by decide +kernel
theorem dX6_save_38 : decode cX6_save 38 = .ok (.iload_n 1, 1) := by decide +kernel
theorem dX6_save_39 : decode cX6_save 39 = .ok (.aaload, 1) := by decide +kernel
theorem dX6_save_40 : decode cX6_save 40 = .ok (.aload_n 0, 1) := by decide +kernel
theorem dX6_save_41 : decode cX6_save 41 = .ok (.getfield 10, 3) := by decide +kernel
theorem dX6_save_44 : decode cX6_save 44 = .ok (.invokevirtual 209, 3) := by decide +kernel
theorem dX6_save_47 : decode cX6_save 47 = .ok (.aload_n 0, 1) := by decide +kernel
theorem dX6_save_48 : decode cX6_save 48 = .ok (.getfield 10, 3) := by decide +kernel
theorem dX6_save_51 : decode cX6_save 51 = .ok (.getfield 152, 3) := by decide +kernel
theorem dX6_save_54 : decode cX6_save 54 = .ok (.ireturn, 1) := by decide +kernel
theorem dX6_restore_0 : decode cX6_restore 0 = .ok (.iload_n 1, 1) := by decide +kernel
theorem dX6_restore_1 : decode cX6_restore 1 = .ok (.ifCond .lt 8, 3) := by decide +kernel
theorem dX6_restore_4 : decode cX6_restore 4 = .ok (.iload_n 1, 1) := by decide +kernel
theorem dX6_restore_5 : decode cX6_restore 5 = .ok (.iconst 2, 1) := by decide +kernel
theorem dX6_restore_6 : decode cX6_restore 6 = .ok (.if_icmp .lt 6, 3) := by decide +kernel
theorem dX6_restore_9 : decode cX6_restore 9 = .ok (.bipush (-2), 2) := by decide +kernel
theorem dX6_restore_11 : decode cX6_restore 11 = .ok (.ireturn, 1) := by decide +kernel
theorem dX6_restore_12 : decode cX6_restore 12 = .ok (.aload_n 0, 1) := by decide +kernel
theorem dX6_restore_13 : decode cX6_restore 13 = .ok (.getfield 23, 3) := by decide +kernel
theorem dX6_restore_16 : decode cX6_restore 16 = .ok (.iload_n 1, 1) := by decide +kernel
theorem dX6_restore_17 : decode cX6_restore 17 = .ok (.aaload, 1) := by decide +kernel
theorem dX6_restore_18 : decode cX6_restore 18 = .ok (.ifnonnull 6, 3) := by decide +kernel
theorem dX6_restore_21 : decode cX6_restore 21 = .ok (.bipush (-5), 2) := by decide +kernel
theorem dX6_restore_23 : decode cX6_restore 23 = .ok (.ireturn, 1) := by decide +kernel
theorem dX6_restore_24 : decode cX6_restore 24 = .ok (.aload_n 0, 1) := by decide +kernel
theorem dX6_restore_25 : decode cX6_restore 25 = .ok (.getfield 19, 3) := by decide +kernel
theorem dX6_restore_28 : decode cX6_restore 28 = .ok (.aload_n 0, 1) := by decide +kernel
theorem dX6_restore_29 : decode cX6_restore 29 = .ok (.getfield 10, 3) := by decide +kernel
theorem dX6_restore_32 : decode cX6_restore 32 = .ok (.invokevirtual 50, 3) := by decide +kernel
theorem dX6_restore_35 : decode cX6_restore 35 = .ok (.aload_n 0, 1) := by decide +kernel
theorem dX6_restore_36 : decode cX6_restore 36 = .ok (.getfield 10, 3) := by decide +kernel
theorem dX6_restore_39 : decode cX6_restore 39 = .ok (.aload_n 0, 1) := by decide +kernel
theorem dX6_restore_40 : decode cX6_restore 40 = .ok (.getfield 23, 3) := by decide +kernel
theorem dX6_restore_43 : decode cX6_restore 43 = .ok (.iload_n 1, 1) := by decide +kernel
theorem dX6_restore_44 : decode cX6_restore 44 = .ok (.aaload, 1) := by decide +kernel
theorem dX6_restore_45 : decode cX6_restore 45 = .ok (.invokevirtual 209, 3) := by decide +kernel
theorem dX6_restore_48 : decode cX6_restore 48 = .ok (.aload_n 0, 1) := by decide +kernel
theorem dX6_restore_49 : decode cX6_restore 49 = .ok (.getfield 19, 3) := by decide +kernel
theorem dX6_restore_52 : decode cX6_restore 52 = .ok (.aload_n 0, 1) := by decide +kernel
theorem dX6_restore_53 : decode cX6_restore 53 = .ok (.getfield 10, 3) := by decide +kernel
theorem dX6_restore_56 : decode cX6_restore 56 = .ok (.getfield 152, 3) := by decide +kernel
theorem dX6_restore_59 : decode cX6_restore 59 = .ok (.invokevirtual 58, 3) := by decide +kernel
theorem dX6_restore_62 : decode cX6_restore 62 = .ok (.ireturn, 1) := by decide +kernel
theorem dX6_carryOutOne_0 : decode cX6_carryOutOne 0 = .ok (.aload_n 0, 1) := by decide +kernel
theorem dX6_carryOutOne_1 : decode cX6_carryOutOne 1 = .ok (.getfield 39, 3) := by decide +kernel
theorem dX6_carryOutOne_4 : decode cX6_carryOutOne 4 = .ok (.getfield 212, 3) := by decide +kernel
theorem dX6_carryOutOne_7 : decode cX6_carryOutOne 7 = .ok (.astore_n 1, 1) := by decide +kernel
theorem dX6_carryOutOne_8 : decode cX6_carryOutOne 8 = .ok (.aload_n 0, 1) := by decide +kernel
theorem dX6_carryOutOne_9 : decode cX6_carryOutOne 9 = .ok (.getfield 39, 3) := by decide +kernel
theorem dX6_carryOutOne_12 : decode cX6_carryOutOne 12 = .ok (.getfield 215, 3) := by decide +kernel
theorem dX6_carryOutOne_15 : decode cX6_carryOutOne 15 = .ok (.lookupswitch 100 #[(43, 41), (100, 78), (109, 89), (115, 64)], 41) := by decide +kernel
theorem dX6_carryOutOne_56 : decode cX6_carryOutOne 56 = .ok (.aload_n 0, 1) := by decide +kernel
theorem dX6_carryOutOne_57 : decode cX6_carryOutOne 57 = .ok (.getfield 10, 3) := by decide +kernel
theorem dX6_carryOutOne_60 : decode cX6_carryOutOne 60 = .ok (.aload_n 1, 1) := by decide +kernel
theorem dX6_carryOutOne_61 : decode cX6_carryOutOne 61 = .ok (.iconst 0, 1) := by decide +kernel
theorem dX6_carryOutOne_62 : decode cX6_carryOutOne 62 = .ok (.iaload, 1) := by decide +kernel
theorem dX6_carryOutOne_63 : decode cX6_carryOutOne 63 = .ok (.aload_n 1, 1) := by decide +kernel
theorem dX6_carryOutOne_64 : decode cX6_carryOutOne 64 = .ok (.iconst 1, 1) := by decide +kernel
theorem dX6_carryOutOne_65 : decode cX6_carryOutOne 65 = .ok (.iaload, 1) := by decide +kernel
theorem dX6_carryOutOne_66 : decode cX6_carryOutOne 66 = .ok (.aload_n 1, 1) := by decide +kernel
theorem dX6_carryOutOne_67 : decode cX6_carryOutOne 67 = .ok (.iconst 2, 1) := by decide +kernel
theorem dX6_carryOutOne_68 : decode cX6_carryOutOne 68 = .ok (.iaload, 1) := by decide +kernel
theorem dX6_carryOutOne_69 : decode cX6_carryOutOne 69 = .ok (.aload_n 1, 1) := by decide +kernel
theorem dX6_carryOutOne_70 : decode cX6_carryOutOne 70 = .ok (.iconst 3, 1) := by decide +kernel
theorem dX6_carryOutOne_71 : decode cX6_carryOutOne 71 = .ok (.iaload, 1) := by decide +kernel
theorem dX6_carryOutOne_72 : decode cX6_carryOutOne 72 = .ok (.aload_n 1, 1) := by decide +kernel
theorem dX6_carryOutOne_73 : decode cX6_carryOutOne 73 = .ok (.iconst 4, 1) := by decide +kernel
theorem dX6_carryOutOne_74 : decode cX6_carryOutOne 74 = .ok (.iaload, 1) := by decide +kernel
theorem dX6_carryOutOne_75 : decode cX6_carryOutOne 75 = .ok (.invokevirtual 62, 3) := by decide +kernel
theorem dX6_carryOutOne_78 : decode cX6_carryOutOne 78 = .ok (.ireturn, 1) := by decide +kernel
theorem dX6_carryOutOne_79 : decode cX6_carryOutOne 79 = .ok (.aload_n 0, 1) := by decide +kernel
theorem dX6_carryOutOne_80 : decode cX6_carryOutOne 80 = .ok (.getfield 10, 3) := by decide +kernel
theorem dX6_carryOutOne_83 : decode cX6_carryOutOne 83 = .ok (.aload_n 1, 1) := by decide +kernel
theorem dX6_carryOutOne_84 : decode cX6_carryOutOne 84 = .ok (.iconst 0, 1) := by decide +kernel
theorem dX6_carryOutOne_85 : decode cX6_carryOutOne 85 = .ok (.iaload, 1) := by decide +kernel
theorem dX6_carryOutOne_86 : decode cX6_carryOutOne 86 = .ok (.aload_n 1, 1) := by decide +kernel
theorem dX6_carryOutOne_87 : decode cX6_carryOutOne 87 = .ok (.iconst 1, 1) := by decide +kernel
theorem dX6_carryOutOne_88 : decode cX6_carryOutOne 88 = .ok (.iaload, 1) := by decide +kernel
theorem dX6_carryOutOne_89 : decode cX6_carryOutOne 89 = .ok (.invokevirtual 77, 3) := by decide +kernel
theorem dX6_carryOutOne_92 : decode cX6_carryOutOne 92 = .ok (.ireturn, 1) := by decide +kernel
theorem dX6_carryOutOne_93 : decode cX6_carryOutOne 93 = .ok (.aload_n 0, 1) := by decide +kernel
theorem dX6_carryOutOne_94 : decode cX6_carryOutOne 94 = .ok (.getfield 10, 3) := by decide +kernel
theorem dX6_carryOutOne_97 : decode cX6_carryOutOne 97 = .ok (.aload_n 1, 1) := by decide +kernel
theorem dX6_carryOutOne_98 : decode cX6_carryOutOne 98 = .ok (.iconst 0, 1) := by decide +kernel
theorem dX6_carryOutOne_99 : decode cX6_carryOutOne 99 = .ok (.iaload, 1) := by decide +kernel
theorem dX6_carryOutOne_100 : decode cX6_carryOutOne 100 = .ok (.invokevirtual 99, 3) := by decide +kernel
theorem dX6_carryOutOne_103 : decode cX6_carryOutOne 103 = .ok (.ireturn, 1) := by decide +kernel
theorem dX6_carryOutOne_104 : decode cX6_carryOutOne 104 = .ok (.aload_n 0, 1) := by decide +kernel
theorem dX6_carryOutOne_105 : decode cX6_carryOutOne 105 = .ok (.getfield 10, 3) := by decide +kernel
theorem dX6_carryOutOne_108 : decode cX6_carryOutOne 108 = .ok (.aload_n 1, 1) := by decide +kernel
theorem dX6_carryOutOne_109 : decode cX6_carryOutOne 109 = .ok (.iconst 0, 1) := by decide +kernel
theorem dX6_carryOutOne_110 : decode cX6_carryOutOne 110 = .ok (.iaload, 1) := by decide +kernel
theorem dX6_carryOutOne_111 : decode cX6_carryOutOne 111 = .ok (.invokevirtual 96, 3) := by decide +kernel
theorem dX6_carryOutOne_114 : decode cX6_carryOutOne 114 = .ok (.ireturn, 1) := by decide +kernel
theorem dX6_carryOutOne_115 : decode cX6_carryOutOne 115 = .ok (.bipush (-3), 2) := by decide +kernel
theorem dX6_carryOutOne_117 : decode cX6_carryOutOne 117 = .ok (.ireturn, 1) := by decide +kernel
theorem dX6_bitsOf_0 : decode cX6_bitsOf 0 = .ok (.dload_n 0, 1) := by decide +kernel
theorem dX6_bitsOf_1 : decode cX6_bitsOf 1 = .ok (.dconst 0, 1) := by decide +kernel
theorem dX6_bitsOf_2 : decode cX6_bitsOf 2 = .ok (.dcmp .g, 1) := by decide +kernel
theorem dX6_bitsOf_3 : decode cX6_bitsOf 3 = .ok (.ifCond .gt 5, 3) := by decide +kernel
theorem dX6_bitsOf_6 : decode cX6_bitsOf 6 = .ok (.lconst 0, 1) := by decide +kernel
theorem dX6_bitsOf_7 : decode cX6_bitsOf 7 = .ok (.lreturn, 1) := by decide +kernel
theorem dX6_bitsOf_8 : decode cX6_bitsOf 8 = .ok (.iconst 0, 1) := by decide +kernel
theorem dX6_bitsOf_9 : decode cX6_bitsOf 9 = .ok (.istore 4, 2) := by decide +kernel
theorem dX6_bitsOf_11 : decode cX6_bitsOf 11 = .ok (.dload_n 0, 1) := by decide +kernel
theorem dX6_bitsOf_12 : decode cX6_bitsOf 12 = .ok (.dstore 5, 2) := by decide +kernel
theorem dX6_bitsOf_14 : decode cX6_bitsOf 14 = .ok (.iconst 0, 1) := by decide +kernel
theorem dX6_bitsOf_15 : decode cX6_bitsOf 15 = .ok (.istore 7, 2) := by decide +kernel
theorem dX6_bitsOf_17 : decode cX6_bitsOf 17 = .ok (.iload 7, 2) := by decide +kernel
theorem dX6_bitsOf_19 : decode cX6_bitsOf 19 = .ok (.bipush 64, 2) := by decide +kernel
theorem dX6_bitsOf_21 : decode cX6_bitsOf 21 = .ok (.if_icmp .ge 29, 3) := by decide +kernel
theorem dX6_bitsOf_24 : decode cX6_bitsOf 24 = .ok (.dload 5, 2) := by decide +kernel
theorem dX6_bitsOf_26 : decode cX6_bitsOf 26 = .ok (.ldc2_w 218, 3) := by decide +kernel
theorem dX6_bitsOf_29 : decode cX6_bitsOf 29 = .ok (.dcmp .l, 1) := by decide +kernel
theorem dX6_bitsOf_30 : decode cX6_bitsOf 30 = .ok (.ifCond .lt 20, 3) := by decide +kernel
theorem dX6_bitsOf_33 : decode cX6_bitsOf 33 = .ok (.dload 5, 2) := by decide +kernel
theorem dX6_bitsOf_35 : decode cX6_bitsOf 35 = .ok (.ldc2_w 218, 3) := by decide +kernel
theorem dX6_bitsOf_38 : decode cX6_bitsOf 38 = .ok (.ddiv, 1) := by decide +kernel
theorem dX6_bitsOf_39 : decode cX6_bitsOf 39 = .ok (.dstore 5, 2) := by decide +kernel
theorem dX6_bitsOf_41 : decode cX6_bitsOf 41 = .ok (.iinc 4 1, 3) := by decide +kernel
theorem dX6_bitsOf_44 : decode cX6_bitsOf 44 = .ok (.iinc 7 1, 3) := by decide +kernel
theorem dX6_bitsOf_47 : decode cX6_bitsOf 47 = .ok (.goto (-30), 3) := by decide +kernel
theorem dX6_bitsOf_50 : decode cX6_bitsOf 50 = .ok (.iconst 0, 1) := by decide +kernel
theorem dX6_bitsOf_51 : decode cX6_bitsOf 51 = .ok (.istore 7, 2) := by decide +kernel
theorem dX6_bitsOf_53 : decode cX6_bitsOf 53 = .ok (.iload 7, 2) := by decide +kernel
theorem dX6_bitsOf_55 : decode cX6_bitsOf 55 = .ok (.bipush 64, 2) := by decide +kernel
theorem dX6_bitsOf_57 : decode cX6_bitsOf 57 = .ok (.if_icmp .ge 27, 3) := by decide +kernel
theorem dX6_bitsOf_60 : decode cX6_bitsOf 60 = .ok (.dload 5, 2) := by decide +kernel
theorem dX6_bitsOf_62 : decode cX6_bitsOf 62 = .ok (.dconst 1, 1) := by decide +kernel
theorem dX6_bitsOf_63 : decode cX6_bitsOf 63 = .ok (.dcmp .g, 1) := by decide +kernel
theorem dX6_bitsOf_64 : decode cX6_bitsOf 64 = .ok (.ifCond .ge 20, 3) := by decide +kernel
theorem dX6_bitsOf_67 : decode cX6_bitsOf 67 = .ok (.dload 5, 2) := by decide +kernel
theorem dX6_bitsOf_69 : decode cX6_bitsOf 69 = .ok (.ldc2_w 218, 3) := by decide +kernel
theorem dX6_bitsOf_72 : decode cX6_bitsOf 72 = .ok (.dmul, 1) := by decide +kernel
theorem dX6_bitsOf_73 : decode cX6_bitsOf 73 = .ok (.dstore 5, 2) := by decide +kernel
theorem dX6_bitsOf_75 : decode cX6_bitsOf 75 = .ok (.iinc 4 (-1), 3) := by decide +kernel
theorem dX6_bitsOf_78 : decode cX6_bitsOf 78 = .ok (.iinc 7 1, 3) := by decide +kernel
theorem dX6_bitsOf_81 : decode cX6_bitsOf 81 = .ok (.goto (-28), 3) := by decide +kernel
theorem dX6_bitsOf_84 : decode cX6_bitsOf 84 = .ok (.dload 5, 2) := by decide +kernel
theorem dX6_bitsOf_86 : decode cX6_bitsOf 86 = .ok (.dconst 1, 1) := by decide +kernel
theorem dX6_bitsOf_87 : decode cX6_bitsOf 87 = .ok (.dsub, 1) := by decide +kernel
theorem dX6_bitsOf_88 : decode cX6_bitsOf 88 = .ok (.lconst 1, 1) := by decide +kernel
theorem dX6_bitsOf_89 : decode cX6_bitsOf 89 = .ok (.iload_n 2, 1) := by decide +kernel
theorem dX6_bitsOf_90 : decode cX6_bitsOf 90 = .ok (.lshl, 1) := by decide +kernel
theorem dX6_bitsOf_91 : decode cX6_bitsOf 91 = .ok (.l2d, 1) := by decide +kernel
theorem dX6_bitsOf_92 : decode cX6_bitsOf 92 = .ok (.dmul, 1) := by decide +kernel
theorem dX6_bitsOf_93 : decode cX6_bitsOf 93 = .ok (.d2l, 1) := by decide +kernel
theorem dX6_bitsOf_94 : decode cX6_bitsOf 94 = .ok (.lstore 7, 2) := by decide +kernel
theorem dX6_bitsOf_96 : decode cX6_bitsOf 96 = .ok (.iload 4, 2) := by decide +kernel
theorem dX6_bitsOf_98 : decode cX6_bitsOf 98 = .ok (.iload_n 3, 1) := by decide +kernel
theorem dX6_bitsOf_99 : decode cX6_bitsOf 99 = .ok (.iadd, 1) := by decide +kernel
theorem dX6_bitsOf_100 : decode cX6_bitsOf 100 = .ok (.i2l, 1) := by decide +kernel
theorem dX6_bitsOf_101 : decode cX6_bitsOf 101 = .ok (.iload_n 2, 1) := by decide +kernel
theorem dX6_bitsOf_102 : decode cX6_bitsOf 102 = .ok (.lshl, 1) := by decide +kernel
theorem dX6_bitsOf_103 : decode cX6_bitsOf 103 = .ok (.lload 7, 2) := by decide +kernel
theorem dX6_bitsOf_105 : decode cX6_bitsOf 105 = .ok (.lor, 1) := by decide +kernel
theorem dX6_bitsOf_106 : decode cX6_bitsOf 106 = .ok (.lreturn, 1) := by decide +kernel
theorem dX7_init_0 : decode cX7_init 0 = .ok (.aload_n 0, 1) := by decide +kernel
theorem dX7_init_1 : decode cX7_init 1 = .ok (.invokespecial 1, 3) := by decide +kernel
theorem dX7_init_4 : decode cX7_init 4 = .ok (.aload_n 0, 1) := by decide +kernel
theorem dX7_init_5 : decode cX7_init 5 = .ok (.bipush 82, 2) := by decide +kernel
theorem dX7_init_7 : decode cX7_init 7 = .ok (.newarray .int, 2) := by decide +kernel
theorem dX7_init_9 : decode cX7_init 9 = .ok (.putfield 7, 3) := by decide +kernel
theorem dX7_init_12 : decode cX7_init 12 = .ok (.aload_n 0, 1) := by decide +kernel
theorem dX7_init_13 : decode cX7_init 13 = .ok (.sipush 492, 3) := by decide +kernel
theorem dX7_init_16 : decode cX7_init 16 = .ok (.newarray .int, 2) := by decide +kernel
theorem dX7_init_18 : decode cX7_init 18 = .ok (.putfield 13, 3) := by decide +kernel
theorem dX7_init_21 : decode cX7_init 21 = .ok (.aload_n 0, 1) := by decide +kernel
theorem dX7_init_22 : decode cX7_init 22 = .ok (.bipush 82, 2) := by decide +kernel
theorem dX7_init_24 : decode cX7_init 24 = .ok (.newarray .int, 2) := by decide +kernel
theorem dX7_init_26 : decode cX7_init 26 = .ok (.putfield 16, 3) := by decide +kernel
theorem dX7_init_29 : decode cX7_init 29 = .ok (.aload_n 0, 1) := by decide +kernel
theorem dX7_init_30 : decode cX7_init 30 = .ok (.sipush 164, 3) := by decide +kernel
theorem dX7_init_33 : decode cX7_init 33 = .ok (.newarray .int, 2) := by decide +kernel
theorem dX7_init_35 : decode cX7_init 35 = .ok (.putfield 19, 3) := by decide +kernel
theorem dX7_init_38 : decode cX7_init 38 = .ok (.aload_n 0, 1) := by decide +kernel
theorem dX7_init_39 : decode cX7_init 39 = .ok (.iconst 2, 1) := by decide +kernel
theorem dX7_init_40 : decode cX7_init 40 = .ok (.newarray .boolean, 2) := by decide +kernel
theorem dX7_init_42 : decode cX7_init 42 = .ok (.putfield 22, 3) := by decide +kernel
theorem dX7_init_45 : decode cX7_init 45 = .ok (.aload_n 0, 1) := by decide +kernel
theorem dX7_init_46 : decode cX7_init 46 = .ok (.bipush 80, 2) := by decide +kernel
theorem dX7_init_48 : decode cX7_init 48 = .ok (.newarray .int, 2) := by decide +kernel
theorem dX7_init_50 : decode cX7_init 50 = .ok (.putfield 26, 3) := by decide +kernel
theorem dX7_init_53 : decode cX7_init 53 = .ok (.aload_n 0, 1) := by decide +kernel
theorem dX7_init_54 : decode cX7_init 54 = .ok (.bipush 8, 2) := by decide +kernel
theorem dX7_init_56 : decode cX7_init 56 = .ok (.newarray .int, 2) := by decide +kernel
theorem dX7_init_58 : decode cX7_init 58 = .ok (.putfield 29, 3) := by decide +kernel
theorem dX7_init_61 : decode cX7_init 61 = .ok (.aload_n 0, 1) := by decide +kernel
theorem dX7_init_62 : decode cX7_init 62 = .ok (.iconst 5, 1) := by decide +kernel
theorem dX7_init_63 : decode cX7_init 63 = .ok (.newarray .int, 2) := by decide +kernel
theorem dX7_init_65 : decode cX7_init 65 = .ok (.putfield 32, 3) := by decide +kernel
theorem dX7_init_68 : decode cX7_init 68 = .ok (.aload_n 0, 1) := by decide +kernel
theorem dX7_init_69 : decode cX7_init 69 = .ok (.iconst 5, 1) := by decide +kernel
theorem dX7_init_70 : decode cX7_init 70 = .ok (.newarray .int, 2) := by decide +kernel
theorem dX7_init_72 : decode cX7_init 72 = .ok (.putfield 35, 3) := by decide +kernel
theorem dX7_init_75 : decode cX7_init 75 = .ok (.aload_n 0, 1) := by decide +kernel
theorem dX7_init_76 : decode cX7_init 76 = .ok (.iconst 5, 1) := by decide +kernel
theorem dX7_init_77 : decode cX7_init 77 = .ok (.newarray .int, 2) := by decide +kernel
theorem dX7_init_79 : decode cX7_init 79 = .ok (.putfield 38, 3) := by decide +kernel
theorem dX7_init_82 : decode cX7_init 82 = .ok (.aload_n 0, 1) := by decide +kernel
theorem dX7_init_83 : decode cX7_init 83 = .ok (.bipush 15, 2) := by decide +kernel
theorem dX7_init_85 : decode cX7_init 85 = .ok (.newarray .int, 2) := by decide +kernel
theorem dX7_init_87 : decode cX7_init 87 = .ok (.putfield 41, 3) := by decide +kernel
theorem dX7_init_90 : decode cX7_init 90 = .ok (.aload_n 0, 1) := by decide +kernel
theorem dX7_init_91 : decode cX7_init 91 = .ok (.iconst 5, 1) := by decide +kernel
theorem dX7_init_92 : decode cX7_init 92 = .ok (.newarray .int, 2) := by decide +kernel
theorem dX7_init_94 : decode cX7_init 94 = .ok (.putfield 44, 3) := by decide +kernel
theorem dX7_init_97 : decode cX7_init 97 = .ok (.aload_n 0, 1) := by decide +kernel
theorem dX7_init_98 : decode cX7_init 98 = .ok (.getfield 7, 3) := by decide +kernel
theorem dX7_init_101 : decode cX7_init 101 = .ok (.iconst 0, 1) := by decide +kernel
theorem dX7_init_102 : decode cX7_init 102 = .ok (.bipush 10, 2) := by decide +kernel
theorem dX7_init_104 : decode cX7_init 104 = .ok (.iastore, 1) := by decide +kernel
theorem dX7_init_105 : decode cX7_init 105 = .ok (.aload_n 0, 1) := by decide +kernel
theorem dX7_init_106 : decode cX7_init 106 = .ok (.getfield 7, 3) := by decide +kernel
theorem dX7_init_109 : decode cX7_init 109 = .ok (.iconst 1, 1) := by decide +kernel
theorem dX7_init_110 : decode cX7_init 110 = .ok (.bipush 7, 2) := by decide +kernel
theorem dX7_init_112 : decode cX7_init 112 = .ok (.iastore, 1) := by decide +kernel
theorem dX7_init_113 : decode cX7_init 113 = .ok (.iconst 0, 1) := by decide +kernel
theorem dX7_init_114 : decode cX7_init 114 = .ok (.istore_n 1, 1) := by decide +kernel
theorem dX7_init_115 : decode cX7_init 115 = .ok (.iload_n 1, 1) := by decide +kernel
theorem dX7_init_116 : decode cX7_init 116 = .ok (.iconst 3, 1) := by decide +kernel
theorem dX7_init_117 : decode cX7_init 117 = .ok (.if_icmp .ge 20, 3) := by decide +kernel
theorem dX7_init_120 : decode cX7_init 120 = .ok (.aload_n 0, 1) := by decide +kernel
theorem dX7_init_121 : decode cX7_init 121 = .ok (.getfield 7, 3) := by decide +kernel
theorem dX7_init_124 : decode cX7_init 124 = .ok (.bipush 9, 2) := by decide +kernel
theorem dX7_init_126 : decode cX7_init 126 = .ok (.iload_n 1, 1) := by decide +kernel
theorem dX7_init_127 : decode cX7_init 127 = .ok (.iadd, 1) := by decide +kernel
theorem dX7_init_128 : decode cX7_init 128 = .ok (.bipush 100, 2) := by decide +kernel
theorem dX7_init_130 : decode cX7_init 130 = .ok (.iastore, 1) := by decide +kernel
theorem dX7_init_131 : decode cX7_init 131 = .ok (.iinc 1 1, 3) := by decide +kernel
theorem dX7_init_134 : decode cX7_init 134 = .ok (.goto (-19), 3) := by decide +kernel
theorem dX7_init_137 : decode cX7_init 137 = .ok (.return_, 1) := by decide +kernel
theorem dX7_in_0 : decode cX7_in 0 = .ok (.lload_n 0, 1) := by decide +kernel
theorem dX7_in_1 : decode cX7_in 1 = .ok (.iload_n 2, 1) := by decide +kernel
theorem dX7_in_2 : decode cX7_in 2 = .ok (.i2l, 1) := by decide +kernel
theorem dX7_in_3 : decode cX7_in 3 = .ok (.lcmp, 1) := by decide +kernel
theorem dX7_in_4 : decode cX7_in 4 = .ok (.ifCond .lt 14, 3) := by decide +kernel
theorem dX7_in_7 : decode cX7_in 7 = .ok (.lload_n 0, 1) := by decide +kernel
theorem dX7_in_8 : decode cX7_in 8 = .ok (.iload_n 3, 1) := by decide +kernel
theorem dX7_in_9 : decode cX7_in 9 = .ok (.i2l, 1) := by decide +kernel
theorem dX7_in_10 : decode cX7_in 10 = .ok (.lcmp, 1) := by decide +kernel
theorem dX7_in_11 : decode cX7_in 11 = .ok (.ifCond .gt 7, 3) := by decide +kernel
theorem dX7_in_14 : decode cX7_in 14 = .ok (.iconst 1, 1) := by decide +kernel
theorem dX7_in_15 : decode cX7_in 15 = .ok (.goto 4, 3) := by decide +kernel
theorem dX7_in_18 : decode cX7_in 18 = .ok (.iconst 0, 1) := by decide +kernel
theorem dX7_in_19 : decode cX7_in 19 = .ok (.ireturn, 1) := by decide +kernel
theorem dX7_its_0 : decode cX7_its 0 = .ok (.aload_n 0, 1) := by decide +kernel
theorem dX7_its_1 : decode cX7_its 1 = .ok (.getfield 7, 3) := by decide +kernel
theorem dX7_its_4 : decode cX7_its 4 = .ok (.bipush 12, 2) := by decide +kernel
theorem dX7_its_6 : decode cX7_its 6 = .ok (.bipush 14, 2) := by decide +kernel
theorem dX7_its_8 : decode cX7_its 8 = .ok (.iload_n 1, 1) := by decide +kernel
theorem dX7_its_9 : decode cX7_its 9 = .ok (.imul, 1) := by decide +kernel
theorem dX7_its_10 : decode cX7_its 10 = .ok (.iadd, 1) := by decide +kernel
theorem dX7_its_11 : decode cX7_its 11 = .ok (.iload_n 2, 1) := by decide +kernel
theorem dX7_its_12 : decode cX7_its 12 = .ok (.iadd, 1) := by decide +kernel
theorem dX7_its_13 : decode cX7_its 13 = .ok (.iaload, 1) := by decide +kernel
theorem dX7_its_14 : decode cX7_its 14 = .ok (.ireturn, 1) := by decide +kernel
theorem dX7_lay_0 : decode cX7_lay 0 = .ok (.aload_n 0, 1) := by decide +kernel
theorem dX7_lay_1 : decode cX7_lay 1 = .ok (.getfield 7, 3) := by decide +kernel
theorem dX7_lay_4 : decode cX7_lay 4 = .ok (.bipush 12, 2) := by decide +kernel
theorem dX7_lay_6 : decode cX7_lay 6 = .ok (.bipush 14, 2) := by decide +kernel
theorem dX7_lay_8 : decode cX7_lay 8 = .ok (.iload_n 1, 1) := by decide +kernel
theorem dX7_lay_9 : decode cX7_lay 9 = .ok (.imul, 1) := by decide +kernel
theorem dX7_lay_10 : decode cX7_lay 10 = .ok (.iadd, 1) := by decide +kernel
theorem dX7_lay_11 : decode cX7_lay 11 = .ok (.iload_n 2, 1) := by decide +kernel
theorem dX7_lay_12 : decode cX7_lay 12 = .ok (.iadd, 1) := by decide +kernel
theorem dX7_lay_13 : decode cX7_lay 13 = .ok (.iload_n 3, 1) := by decide +kernel
theorem dX7_lay_14 : decode cX7_lay 14 = .ok (.iastore, 1) := by decide +kernel
theorem dX7_lay_15 : decode cX7_lay 15 = .ok (.return_, 1) := by decide +kernel
theorem dX7_isLeaf_0 : decode cX7_isLeaf 0 = .ok (.iload_n 1, 1) := by decide +kernel
theorem dX7_isLeaf_1 : decode cX7_isLeaf 1 = .ok (.i2l, 1) := by decide +kernel
theorem dX7_isLeaf_2 : decode cX7_isLeaf 2 = .ok (.iconst 0, 1) := by decide +kernel
theorem dX7_isLeaf_3 : decode cX7_isLeaf 3 = .ok (.aload_n 0, 1) := by decide +kernel
theorem dX7_isLeaf_4 : decode cX7_isLeaf 4 = .ok (.getfield 7, 3) := by decide +kernel
theorem dX7_isLeaf_7 : decode cX7_isLeaf 7 = .ok (.iconst 5, 1) := by decide +kernel
theorem dX7_isLeaf_8 : decode cX7_isLeaf 8 = .ok (.iaload, 1) := by decide +kernel
theorem dX7_isLeaf_9 : decode cX7_isLeaf 9 = .ok (.iconst 1, 1) := by decide +kernel
theorem dX7_isLeaf_10 : decode cX7_isLeaf 10 = .ok (.isub, 1) := by decide +kernel
theorem dX7_isLeaf_11 : decode cX7_isLeaf 11 = .ok (.invokestatic 47, 3) := by decide +kernel
theorem dX7_isLeaf_14 : decode cX7_isLeaf 14 = .ok (.ireturn, 1) := by decide +kernel
theorem dX7_remember_0 : decode cX7_remember 0 = .ok (.iconst 0, 1) := by decide +kernel
theorem dX7_remember_1 : decode cX7_remember 1 = .ok (.istore_n 1, 1) := by decide +kernel
theorem dX7_remember_2 : decode cX7_remember 2 = .ok (.iload_n 1, 1) := by decide +kernel
theorem dX7_remember_3 : decode cX7_remember 3 = .ok (.bipush 82, 2) := by decide +kernel
theorem dX7_remember_5 : decode cX7_remember 5 = .ok (.if_icmp .ge 21, 3) := by decide +kernel
theorem dX7_remember_8 : decode cX7_remember 8 = .ok (.aload_n 0, 1) := by decide +kernel
theorem dX7_remember_9 : decode cX7_remember 9 = .ok (.getfield 16, 3) := by decide +kernel
theorem dX7_remember_12 : decode cX7_remember 12 = .ok (.iload_n 1, 1) := by decide +kernel
theorem dX7_remember_13 : decode cX7_remember 13 = .ok (.aload_n 0, 1) := by decide +kernel
theorem dX7_remember_14 : decode cX7_remember 14 = .ok (.getfield 7, 3) := by decide +kernel
theorem dX7_remember_17 : decode cX7_remember 17 = .ok (.iload_n 1, 1) := by decide +kernel
theorem dX7_remember_18 : decode cX7_remember 18 = .ok (.iaload, 1) := by decide +kernel
theorem dX7_remember_19 : decode cX7_remember 19 = .ok (.iastore, 1) := by decide +kernel
theorem dX7_remember_20 : decode cX7_remember 20 = .ok (.iinc 1 1, 3) := by decide +kernel
theorem dX7_remember_23 : decode cX7_remember 23 = .ok (.goto (-21), 3) := by decide +kernel
theorem dX7_remember_26 : decode cX7_remember 26 = .ok (.return_, 1) := by decide +kernel
theorem dX7_record_0 : decode cX7_record 0 = .ok (.iload_n 1, 1) := by decide +kernel
theorem dX7_record_1 : decode cX7_record 1 = .ok (.ifCond .ge 5, 3) := by decide +kernel
theorem dX7_record_4 : decode cX7_record 4 = .ok (.iload_n 1, 1) := by decide +kernel
theorem dX7_record_5 : decode cX7_record 5 = .ok (.ireturn, 1) := by decide +kernel
theorem dX7_record_6 : decode cX7_record 6 = .ok (.aload_n 0, 1) := by decide +kernel
theorem dX7_record_7 : decode cX7_record 7 = .ok (.getfield 51, 3) := by decide +kernel
theorem dX7_record_10 : decode cX7_record 10 = .ok (.bipush 6, 2) := by decide +kernel
theorem dX7_record_12 : decode cX7_record 12 = .ok (.if_icmp .ne 43, 3) := by decide +kernel
theorem dX7_record_15 : decode cX7_record 15 = .ok (.iconst 0, 1) := by decide +kernel
theorem dX7_record_16 : decode cX7_record 16 = .ok (.istore_n 2, 1) := by decide +kernel
theorem dX7_record_17 : decode cX7_record 17 = .ok (.iload_n 2, 1) := by decide +kernel
theorem dX7_record_18 : decode cX7_record 18 = .ok (.sipush 410, 3) := by decide +kernel
theorem dX7_record_21 : decode cX7_record 21 = .ok (.if_icmp .ge 24, 3) := by decide +kernel
theorem dX7_record_24 : decode cX7_record 24 = .ok (.aload_n 0, 1) := by decide +kernel
theorem dX7_record_25 : decode cX7_record 25 = .ok (.getfield 13, 3) := by decide +kernel
theorem dX7_record_28 : decode cX7_record 28 = .ok (.iload_n 2, 1) := by decide +kernel
theorem dX7_record_29 : decode cX7_record 29 = .ok (.aload_n 0, 1) := by decide +kernel
theorem dX7_record_30 : decode cX7_record 30 = .ok (.getfield 13, 3) := by decide +kernel
theorem dX7_record_33 : decode cX7_record 33 = .ok (.bipush 82, 2) := by decide +kernel
theorem dX7_record_35 : decode cX7_record 35 = .ok (.iload_n 2, 1) := by decide +kernel
theorem dX7_record_36 : decode cX7_record 36 = .ok (.iadd, 1) := by decide +kernel
theorem dX7_record_37 : decode cX7_record 37 = .ok (.iaload, 1) := by decide +kernel
theorem dX7_record_38 : decode cX7_record 38 = .ok (.iastore, 1) := by decide +kernel
theorem dX7_record_39 : decode cX7_record 39 = .ok (.iinc 2 1, 3) := by decide +kernel
theorem dX7_record_42 : decode cX7_record 42 = .ok (.goto (-25), 3) := by decide +kernel
theorem dX7_record_45 : decode cX7_record 45 = .ok (.aload_n 0, 1) := by decide +kernel
theorem dX7_record_46 : decode cX7_record 46 = .ok (.dup, 1) := by decide +kernel
theorem dX7_record_47 : decode cX7_record 47 = .ok (.getfield 51, 3) := by decide +kernel
theorem dX7_record_50 : decode cX7_record 50 = .ok (.iconst 1, 1) := by decide +kernel
theorem dX7_record_51 : decode cX7_record 51 = .ok (.isub, 1) := by decide +kernel
theorem dX7_record_52 : decode cX7_record 52 = .ok (.putfield 51, 3) := by decide +kernel
theorem dX7_record_55 : decode cX7_record 55 = .ok (.iconst 0, 1) := by decide +kernel
theorem dX7_record_56 : decode cX7_record 56 = .ok (.istore_n 2, 1) := by decide +kernel
theorem dX7_record_57 : decode cX7_record 57 = .ok (.iload_n 2, 1) := by decide +kernel
theorem dX7_record_58 : decode cX7_record 58 = .ok (.bipush 82, 2) := by decide +kernel
theorem dX7_record_60 : decode cX7_record 60 = .ok (.if_icmp .ge 29, 3) := by decide +kernel
theorem dX7_record_63 : decode cX7_record 63 = .ok (.aload_n 0, 1) := by decide +kernel
theorem dX7_record_64 : decode cX7_record 64 = .ok (.getfield 13, 3) := by decide +kernel
theorem dX7_record_67 : decode cX7_record 67 = .ok (.bipush 82, 2) := by decide +kernel
theorem dX7_record_69 : decode cX7_record 69 = .ok (.aload_n 0, 1) := by decide +kernel
theorem dX7_record_70 : decode cX7_record 70 = .ok (.getfield 51, 3) := by decide +kernel
theorem dX7_record_73 : decode cX7_record 73 = .ok (.imul, 1) := by decide +kernel
theorem dX7_record_74 : decode cX7_record 74 = .ok (.iload_n 2, 1) := by decide +kernel
theorem dX7_record_75 : decode cX7_record 75 = .ok (.iadd, 1) := by decide +kernel
theorem dX7_record_76 : decode cX7_record 76 = .ok (.aload_n 0, 1) := by decide +kernel
theorem dX7_record_77 : decode cX7_record 77 = .ok (.getfield 16, 3) := by decide +kernel
theorem dX7_record_80 : decode cX7_record 80 = .ok (.iload_n 2, 1) := by decide +kernel
theorem dX7_record_81 : decode cX7_record 81 = .ok (.iaload, 1) := by decide +kernel
theorem dX7_record_82 : decode cX7_record 82 = .ok (.iastore, 1) := by decide +kernel
theorem dX7_record_83 : decode cX7_record 83 = .ok (.iinc 2 1, 3) := by decide +kernel
theorem dX7_record_86 : decode cX7_record 86 = .ok (.goto (-29), 3) := by decide +kernel
theorem dX7_record_89 : decode cX7_record 89 = .ok (.aload_n 0, 1) := by decide +kernel
theorem dX7_record_90 : decode cX7_record 90 = .ok (.dup, 1) := by decide +kernel
theorem dX7_record_91 : decode cX7_record 91 = .ok (.getfield 51, 3) := by decide +kernel
theorem dX7_record_94 : decode cX7_record 94 = .ok (.iconst 1, 1) := by decide +kernel
theorem dX7_record_95 : decode cX7_record 95 = .ok (.iadd, 1) := by decide +kernel
theorem dX7_record_96 : decode cX7_record 96 = .ok (.putfield 51, 3) := by decide +kernel
theorem dX7_record_99 : decode cX7_record 99 = .ok (.iload_n 1, 1) := by decide +kernel
theorem dX7_record_100 : decode cX7_record 100 = .ok (.ireturn, 1) := by decide +kernel
theorem dX7_undo_0 : decode cX7_undo 0 = .ok (.aload_n 0, 1) := by decide +kernel
theorem dX7_undo_1 : decode cX7_undo 1 = .ok (.getfield 51, 3) := by decide +kernel
theorem dX7_undo_4 : decode cX7_undo 4 = .ok (.ifCond .ne 6, 3) := by decide +kernel
theorem dX7_undo_7 : decode cX7_undo 7 = .ok (.bipush (-5), 2) := by decide +kernel
theorem dX7_undo_9 : decode cX7_undo 9 = .ok (.ireturn, 1) := by decide +kernel
theorem dX7_undo_10 : decode cX7_undo 10 = .ok (.aload_n 0, 1) := by decide +kernel
theorem dX7_undo_11 : decode cX7_undo 11 = .ok (.dup, 1) := by decide +kernel
theorem dX7_undo_12 : decode cX7_undo 12 = .ok (.getfield 51, 3) := by decide +kernel
theorem dX7_undo_15 : decode cX7_undo 15 = .ok (.iconst 1, 1) := by decide +kernel
theorem dX7_undo_16 : decode cX7_undo 16 = .ok (.isub, 1) := by decide +kernel
theorem dX7_undo_17 : decode cX7_undo 17 = .ok (.putfield 51, 3) := by decide +kernel
theorem dX7_undo_20 : decode cX7_undo 20 = .ok (.iconst 0, 1) := by decide +kernel
theorem dX7_undo_21 : decode cX7_undo 21 = .ok (.istore_n 1, 1) := by decide +kernel
theorem dX7_undo_22 : decode cX7_undo 22 = .ok (.iload_n 1, 1) := by decide +kernel
theorem dX7_undo_23 : decode cX7_undo 23 = .ok (.bipush 82, 2) := by decide +kernel
theorem dX7_undo_25 : decode cX7_undo 25 = .ok (.if_icmp .ge 29, 3) := by decide +kernel
theorem dX7_undo_28 : decode cX7_undo 28 = .ok (.aload_n 0, 1) := by decide +kernel
theorem dX7_undo_29 : decode cX7_undo 29 = .ok (.getfield 7, 3) := by decide +kernel
theorem dX7_undo_32 : decode cX7_undo 32 = .ok (.iload_n 1, 1) := by decide +kernel
theorem dX7_undo_33 : decode cX7_undo 33 = .ok (.aload_n 0, 1) := by decide +kernel
theorem dX7_undo_34 : decode cX7_undo 34 = .ok (.getfield 13, 3) := by decide +kernel
theorem dX7_undo_37 : decode cX7_undo 37 = .ok (.bipush 82, 2) := by decide +kernel
theorem dX7_undo_39 : decode cX7_undo 39 = .ok (.aload_n 0, 1) := by decide +kernel
theorem dX7_undo_40 : decode cX7_undo 40 = .ok (.getfield 51, 3) := by decide +kernel
theorem dX7_undo_43 : decode cX7_undo 43 = .ok (.imul, 1) := by decide +kernel
theorem dX7_undo_44 : decode cX7_undo 44 = .ok (.iload_n 1, 1) := by decide +kernel
theorem dX7_undo_45 : decode cX7_undo 45 = .ok (.iadd, 1) := by decide +kernel
theorem dX7_undo_46 : decode cX7_undo 46 = .ok (.iaload, 1) := by decide +kernel
theorem dX7_undo_47 : decode cX7_undo 47 = .ok (.iastore, 1) := by decide +kernel
theorem dX7_undo_48 : decode cX7_undo 48 = .ok (.iinc 1 1, 3) := by decide +kernel
theorem dX7_undo_51 : decode cX7_undo 51 = .ok (.goto (-29), 3) := by decide +kernel
theorem dX7_undo_54 : decode cX7_undo 54 = .ok (.aload_n 0, 1) := by decide +kernel
theorem dX7_undo_55 : decode cX7_undo 55 = .ok (.getfield 51, 3) := by decide +kernel
theorem dX7_undo_58 : decode cX7_undo 58 = .ok (.ireturn, 1) := by decide +kernel
theorem dX7_save_0 : decode cX7_save 0 = .ok (.iload_n 1, 1) := by decide +kernel
theorem dX7_save_1 : decode cX7_save 1 = .ok (.i2l, 1) := by decide +kernel
theorem dX7_save_2 : decode cX7_save 2 = .ok (.iconst 0, 1) := by decide +kernel
theorem dX7_save_3 : decode cX7_save 3 = .ok (.iconst 1, 1) := by decide +kernel
theorem dX7_save_4 : decode cX7_save 4 = .ok (.invokestatic 47, 3) := by decide +kernel
theorem dX7_save_7 : decode cX7_save 7 = .ok (.ifCond .ne 6, 3) := by decide +kernel
theorem dX7_save_10 : decode cX7_save 10 = .ok (.bipush (-2), 2) := by decide +kernel
theorem dX7_save_12 : decode cX7_save 12 = .ok (.ireturn, 1) := by decide +kernel
theorem dX7_save_13 : decode cX7_save 13 = .ok (.iconst 0, 1) := by decide +kernel
theorem dX7_save_14 : decode cX7_save 14 = .ok (.istore_n 2, 1) := by decide +kernel
theorem dX7_save_15 : decode cX7_save 15 = .ok (.iload_n 2, 1) := by decide +kernel
theorem dX7_save_16 : decode cX7_save 16 = .ok (.bipush 82, 2) := by decide +kernel
theorem dX7_save_18 : decode cX7_save 18 = .ok (.if_icmp .ge 26, 3) := by decide +kernel
theorem dX7_save_21 : decode cX7_save 21 = .ok (.aload_n 0, 1) := by decide +kernel
theorem dX7_save_22 : decode cX7_save 22 = .ok (.getfield 19, 3) := by decide +kernel
theorem dX7_save_25 : decode cX7_save 25 = .ok (.bipush 82, 2) := by decide +kernel
theorem dX7_save_27 : decode cX7_save 27 = .ok (.iload_n 1, 1) := by decide +kernel
theorem dX7_save_28 : decode cX7_save 28 = .ok (.imul, 1) := by decide +kernel
theorem dX7_save_29 : decode cX7_save 29 = .ok (.iload_n 2, 1) := by decide +kernel
theorem dX7_save_30 : decode cX7_save 30 = .ok (.iadd, 1) := by decide +kernel
theorem dX7_save_31 : decode cX7_save 31 = .ok (.aload_n 0, 1) := by decide +kernel
theorem dX7_save_32 : decode cX7_save 32 = .ok (.getfield 7, 3) := by decide +kernel
theorem dX7_save_35 : decode cX7_save 35 = .ok (.iload_n 2, 1) := by decide +kernel
theorem dX7_save_36 : decode cX7_save 36 = .ok (.iaload, 1) := by decide +kernel
theorem dX7_save_37 : decode cX7_save 37 = .ok (.iastore, 1) := by decide +kernel
theorem dX7_save_38 : decode cX7_save 38 = .ok (.iinc 2 1, 3) := by decide +kernel
theorem dX7_save_41 : decode cX7_save 41 = .ok (.goto (-26), 3) := by decide +kernel
theorem dX7_save_44 : decode cX7_save 44 = .ok (.aload_n 0, 1) := by decide +kernel
theorem dX7_save_45 : decode cX7_save 45 = .ok (.getfield 22, 3) := by decide +kernel
theorem dX7_save_48 : decode cX7_save 48 = .ok (.iload_n 1, 1) := by decide +kernel
theorem dX7_save_49 : decode cX7_save 49 = .ok (.iconst 1, 1) := by decide +kernel
theorem dX7_save_50 : decode cX7_save 50 = .ok (.bastore, 1) := by decide +kernel
theorem dX7_save_51 : decode cX7_save 51 = .ok (.aload_n 0, 1) := by decide +kernel
theorem dX7_save_52 : decode cX7_save 52 = .ok (.getfield 7, 3) := by decide +kernel
theorem dX7_save_55 : decode cX7_save 55 = .ok (.iconst 5, 1) := by decide +kernel
theorem dX7_save_56 : decode cX7_save 56 = .ok (.iaload, 1) := by decide +kernel
theorem dX7_save_57 : decode cX7_save 57 = .ok (.ireturn, 1) := by decide +kernel
theorem dX7_restore_0 : decode cX7_restore 0 = .ok (.iload_n 1, 1) := by decide +kernel
theorem dX7_restore_1 : decode cX7_restore 1 = .ok (.i2l, 1) := by decide +kernel
theorem dX7_restore_2 : decode cX7_restore 2 = .ok (.iconst 0, 1) := by decide +kernel
theorem dX7_restore_3 : decode cX7_restore 3 = .ok (.iconst 1, 1) := by decide +kernel
theorem dX7_restore_4 : decode cX7_restore 4 = .ok (.invokestatic 47, 3) := by decide +kernel
theorem dX7_restore_7 : decode cX7_restore 7 = .ok (.ifCond .ne 6, 3) := by decide +kernel
theorem dX7_restore_10 : decode cX7_restore 10 = .ok (.bipush (-2), 2) := by decide +kernel
theorem dX7_restore_12 : decode cX7_restore 12 = .ok (.ireturn, 1) := by decide +kernel
theorem dX7_restore_13 : decode cX7_restore 13 = .ok (.aload_n 0, 1) := by decide +kernel
theorem dX7_restore_14 : decode cX7_restore 14 = .ok (.getfield 22, 3) := by decide +kernel
theorem dX7_restore_17 : decode cX7_restore 17 = .ok (.iload_n 1, 1) := by decide +kernel
theorem dX7_restore_18 : decode cX7_restore 18 = .ok (.baload, 1) := by decide +kernel
theorem dX7_restore_19 : decode cX7_restore 19 = .ok (.ifCond .ne 6, 3) := by decide +kernel
theorem dX7_restore_22 : decode cX7_restore 22 = .ok (.bipush (-5), 2) := by decide +kernel
theorem dX7_restore_24 : decode cX7_restore 24 = .ok (.ireturn, 1) := by decide +kernel
theorem dX7_restore_25 : decode cX7_restore 25 = .ok (.aload_n 0, 1) := by decide +kernel
theorem dX7_restore_26 : decode cX7_restore 26 = .ok (.invokevirtual 55, 3) := by decide +kernel
theorem dX7_restore_29 : decode cX7_restore 29 = .ok (.iconst 0, 1) := by decide +kernel
theorem dX7_restore_30 : decode cX7_restore 30 = .ok (.istore_n 2, 1) := by decide +kernel
theorem dX7_restore_31 : decode cX7_restore 31 = .ok (.iload_n 2, 1) := by decide +kernel
theorem dX7_restore_32 : decode cX7_restore 32 = .ok (.bipush 82, 2) := by decide +kernel
theorem dX7_restore_34 : decode cX7_restore 34 = .ok (.if_icmp .ge 26, 3) := by decide +kernel
theorem dX7_restore_37 : decode cX7_restore 37 = .ok (.aload_n 0, 1) := by decide +kernel
theorem dX7_restore_38 : decode cX7_restore 38 = .ok (.getfield 7, 3) := by decide +kernel
theorem dX7_restore_41 : decode cX7_restore 41 = .ok (.iload_n 2, 1) := by decide +kernel
theorem dX7_restore_42 : decode cX7_restore 42 = .ok (.aload_n 0, 1) := by decide +kernel
theorem dX7_restore_43 : decode cX7_restore 43 = .ok (.getfield 19, 3) := by decide +kernel
theorem dX7_restore_46 : decode cX7_restore 46 = .ok (.bipush 82, 2) := by decide +kernel
theorem dX7_restore_48 : decode cX7_restore 48 = .ok (.iload_n 1, 1) := by decide +kernel
theorem dX7_restore_49 : decode cX7_restore 49 = .ok (.imul, 1) := by decide +kernel
theorem dX7_restore_50 : decode cX7_restore 50 = .ok (.iload_n 2, 1) := by decide +kernel
theorem dX7_restore_51 : decode cX7_restore 51 = .ok (.iadd, 1) := by decide +kernel
theorem dX7_restore_52 : decode cX7_restore 52 = .ok (.iaload, 1) := by decide +kernel
theorem dX7_restore_53 : decode cX7_restore 53 = .ok (.iastore, 1) := by decide +kernel
theorem dX7_restore_54 : decode cX7_restore 54 = .ok (.iinc 2 1, 3) := by decide +kernel
theorem dX7_restore_57 : decode cX7_restore 57 = .ok (.goto (-26), 3) := by decide +kernel
theorem dX7_restore_60 : decode cX7_restore 60 = .ok (.aload_n 0, 1) := by decide +kernel
theorem dX7_restore_61 : decode cX7_restore 61 = .ok (.aload_n 0, 1) := by decide +kernel
theorem dX7_restore_62 : decode cX7_restore 62 = .ok (.getfield 7, 3) := by decide +kernel
theorem dX7_restore_65 : decode cX7_restore 65 = .ok (.iconst 5, 1) := by decide +kernel
theorem dX7_restore_66 : decode cX7_restore 66 = .ok (.iaload, 1) := by decide +kernel
theorem dX7_restore_67 : decode cX7_restore 67 = .ok (.invokevirtual 58, 3) := by decide +kernel
theorem dX7_restore_70 : decode cX7_restore 70 = .ok (.ireturn, 1) := by decide +kernel
theorem dX7_priceOf_0 : decode cX7_priceOf 0 = .ok (.aload_n 0, 1) := by decide +kernel
theorem dX7_priceOf_1 : decode cX7_priceOf 1 = .ok (.iload_n 1, 1) := by decide +kernel
theorem dX7_priceOf_2 : decode cX7_priceOf 2 = .ok (.iconst 0, 1) := by decide +kernel
theorem dX7_priceOf_3 : decode cX7_priceOf 3 = .ok (.invokevirtual 62, 3) := by decide +kernel
theorem dX7_priceOf_6 : decode cX7_priceOf 6 = .ok (.aload_n 0, 1) := by decide +kernel
theorem dX7_priceOf_7 : decode cX7_priceOf 7 = .ok (.iload_n 1, 1) := by decide +kernel
theorem dX7_priceOf_8 : decode cX7_priceOf 8 = .ok (.iconst 1, 1) := by decide +kernel
theorem dX7_priceOf_9 : decode cX7_priceOf 9 = .ok (.aload_n 0, 1) := by decide +kernel
theorem dX7_priceOf_10 : decode cX7_priceOf 10 = .ok (.getfield 7, 3) := by decide +kernel
theorem dX7_priceOf_13 : decode cX7_priceOf 13 = .ok (.iconst 2, 1) := by decide +kernel
theorem dX7_priceOf_14 : decode cX7_priceOf 14 = .ok (.iaload, 1) := by decide +kernel
theorem dX7_priceOf_15 : decode cX7_priceOf 15 = .ok (.aload_n 0, 1) := by decide +kernel
theorem dX7_priceOf_16 : decode cX7_priceOf 16 = .ok (.getfield 7, 3) := by decide +kernel
theorem dX7_priceOf_19 : decode cX7_priceOf 19 = .ok (.iconst 1, 1) := by decide +kernel
theorem dX7_priceOf_20 : decode cX7_priceOf 20 = .ok (.iaload, 1) := by decide +kernel
theorem dX7_priceOf_21 : decode cX7_priceOf 21 = .ok (.irem, 1) := by decide +kernel
theorem dX7_priceOf_22 : decode cX7_priceOf 22 = .ok (.iadd, 1) := by decide +kernel
theorem dX7_priceOf_23 : decode cX7_priceOf 23 = .ok (.invokevirtual 62, 3) := by decide +kernel
theorem dX7_priceOf_26 : decode cX7_priceOf 26 = .ok (.iadd, 1) := by decide +kernel
theorem dX7_priceOf_27 : decode cX7_priceOf 27 = .ok (.istore_n 2, 1) := by decide +kernel
theorem dX7_priceOf_28 : decode cX7_priceOf 28 = .ok (.iload_n 2, 1) := by decide +kernel
theorem dX7_priceOf_29 : decode cX7_priceOf 29 = .ok (.ifCond .ge 7, 3) := by decide +kernel
theorem dX7_priceOf_32 : decode cX7_priceOf 32 = .ok (.iconst 0, 1) := by decide +kernel
theorem dX7_priceOf_33 : decode cX7_priceOf 33 = .ok (.goto 4, 3) := by decide +kernel
theorem dX7_priceOf_36 : decode cX7_priceOf 36 = .ok (.iload_n 2, 1) := by decide +kernel
theorem dX7_priceOf_37 : decode cX7_priceOf 37 = .ok (.ireturn, 1) := by decide +kernel
theorem dX7_tasteOf_0 : decode cX7_tasteOf 0 = .ok (.sipush 1000, 3) := by decide +kernel
theorem dX7_tasteOf_3 : decode cX7_tasteOf 3 = .ok (.aload_n 0, 1) := by decide +kernel
theorem dX7_tasteOf_4 : decode cX7_tasteOf 4 = .ok (.getfield 7, 3) := by decide +kernel
theorem dX7_tasteOf_7 : decode cX7_tasteOf 7 = .ok (.iconst 0, 1) := by decide +kernel
theorem dX7_tasteOf_8 : decode cX7_tasteOf 8 = .ok (.iaload, 1) := by decide +kernel
theorem dX7_tasteOf_9 : decode cX7_tasteOf 9 = .ok (.aload_n 0, 1) := by decide +kernel
theorem dX7_tasteOf_10 : decode cX7_tasteOf 10 = .ok (.iload_n 1, 1) := by decide +kernel
theorem dX7_tasteOf_11 : decode cX7_tasteOf 11 = .ok (.bipush 12, 2) := by decide +kernel
theorem dX7_tasteOf_13 : decode cX7_tasteOf 13 = .ok (.invokevirtual 62, 3) := by decide +kernel
theorem dX7_tasteOf_16 : decode cX7_tasteOf 16 = .ok (.iload_n 3, 1) := by decide +kernel
theorem dX7_tasteOf_17 : decode cX7_tasteOf 17 = .ok (.iadd, 1) := by decide +kernel
theorem dX7_tasteOf_18 : decode cX7_tasteOf 18 = .ok (.imul, 1) := by decide +kernel
theorem dX7_tasteOf_19 : decode cX7_tasteOf 19 = .ok (.isub, 1) := by decide +kernel
theorem dX7_tasteOf_20 : decode cX7_tasteOf 20 = .ok (.istore 4, 2) := by decide +kernel
theorem dX7_tasteOf_22 : decode cX7_tasteOf 22 = .ok (.iload 4, 2) := by decide +kernel
theorem dX7_tasteOf_24 : decode cX7_tasteOf 24 = .ok (.ifCond .ge 7, 3) := by decide +kernel
theorem dX7_tasteOf_27 : decode cX7_tasteOf 27 = .ok (.iconst 0, 1) := by decide +kernel
theorem dX7_tasteOf_28 : decode cX7_tasteOf 28 = .ok (.goto 19, 3) := by decide +kernel
theorem dX7_tasteOf_31 : decode cX7_tasteOf 31 = .ok (.aload_n 0, 1) := by decide +kernel
theorem dX7_tasteOf_32 : decode cX7_tasteOf 32 = .ok (.iload_n 1, 1) := by decide +kernel
theorem dX7_tasteOf_33 : decode cX7_tasteOf 33 = .ok (.bipush 8, 2) := by decide +kernel
theorem dX7_tasteOf_35 : decode cX7_tasteOf 35 = .ok (.iload_n 2, 1) := by decide +kernel
theorem dX7_tasteOf_36 : decode cX7_tasteOf 36 = .ok (.iadd, 1) := by decide +kernel
theorem dX7_tasteOf_37 : decode cX7_tasteOf 37 = .ok (.invokevirtual 62, 3) := by decide +kernel
theorem dX7_tasteOf_40 : decode cX7_tasteOf 40 = .ok (.iload 4, 2) := by decide +kernel
theorem dX7_tasteOf_42 : decode cX7_tasteOf 42 = .ok (.imul, 1) := by decide +kernel
theorem dX7_tasteOf_43 : decode cX7_tasteOf 43 = .ok (.sipush 1000, 3) := by decide +kernel
theorem dX7_tasteOf_46 : decode cX7_tasteOf 46 = .ok (.idiv, 1) := by decide +kernel
theorem dX7_tasteOf_47 : decode cX7_tasteOf 47 = .ok (.ireturn, 1) := by decide +kernel
theorem dX7_sumOfPrices_0 : decode cX7_sumOfPrices 0 = .ok (.iconst 0, 1) := by decide +kernel
theorem dX7_sumOfPrices_1 : decode cX7_sumOfPrices 1 = .ok (.istore_n 1, 1) := by decide +kernel
theorem dX7_sumOfPrices_2 : decode cX7_sumOfPrices 2 = .ok (.iconst 0, 1) := by decide +kernel
theorem dX7_sumOfPrices_3 : decode cX7_sumOfPrices 3 = .ok (.istore_n 2, 1) := by decide +kernel
theorem dX7_sumOfPrices_4 : decode cX7_sumOfPrices 4 = .ok (.iload_n 2, 1) := by decide +kernel
theorem dX7_sumOfPrices_5 : decode cX7_sumOfPrices 5 = .ok (.aload_n 0, 1) := by decide +kernel
theorem dX7_sumOfPrices_6 : decode cX7_sumOfPrices 6 = .ok (.getfield 7, 3) := by decide +kernel
theorem dX7_sumOfPrices_9 : decode cX7_sumOfPrices 9 = .ok (.iconst 5, 1) := by decide +kernel
theorem dX7_sumOfPrices_10 : decode cX7_sumOfPrices 10 = .ok (.iaload, 1) := by decide +kernel
theorem dX7_sumOfPrices_11 : decode cX7_sumOfPrices 11 = .ok (.if_icmp .ge 25, 3) := by decide +kernel
theorem dX7_sumOfPrices_14 : decode cX7_sumOfPrices 14 = .ok (.iload_n 1, 1) := by decide +kernel
theorem dX7_sumOfPrices_15 : decode cX7_sumOfPrices 15 = .ok (.aload_n 0, 1) := by decide +kernel
theorem dX7_sumOfPrices_16 : decode cX7_sumOfPrices 16 = .ok (.iload_n 2, 1) := by decide +kernel
theorem dX7_sumOfPrices_17 : decode cX7_sumOfPrices 17 = .ok (.bipush 13, 2) := by decide +kernel
theorem dX7_sumOfPrices_19 : decode cX7_sumOfPrices 19 = .ok (.invokevirtual 62, 3) := by decide +kernel
theorem dX7_sumOfPrices_22 : decode cX7_sumOfPrices 22 = .ok (.aload_n 0, 1) := by decide +kernel
theorem dX7_sumOfPrices_23 : decode cX7_sumOfPrices 23 = .ok (.iload_n 2, 1) := by decide +kernel
theorem dX7_sumOfPrices_24 : decode cX7_sumOfPrices 24 = .ok (.invokevirtual 66, 3) := by decide +kernel
theorem dX7_sumOfPrices_27 : decode cX7_sumOfPrices 27 = .ok (.imul, 1) := by decide +kernel
theorem dX7_sumOfPrices_28 : decode cX7_sumOfPrices 28 = .ok (.iadd, 1) := by decide +kernel
theorem dX7_sumOfPrices_29 : decode cX7_sumOfPrices 29 = .ok (.istore_n 1, 1) := by decide +kernel
theorem dX7_sumOfPrices_30 : decode cX7_sumOfPrices 30 = .ok (.iinc 2 1, 3) := by decide +kernel
theorem dX7_sumOfPrices_33 : decode cX7_sumOfPrices 33 = .ok (.goto (-29), 3) := by decide +kernel
theorem dX7_sumOfPrices_36 : decode cX7_sumOfPrices 36 = .ok (.iload_n 1, 1) := by decide +kernel
theorem dX7_sumOfPrices_37 : decode cX7_sumOfPrices 37 = .ok (.ireturn, 1) := by decide +kernel
theorem dX7_sumOfTastes_0 : decode cX7_sumOfTastes 0 = .ok (.iconst 0, 1) := by decide +kernel
theorem dX7_sumOfTastes_1 : decode cX7_sumOfTastes 1 = .ok (.istore_n 3, 1) := by decide +kernel
theorem dX7_sumOfTastes_2 : decode cX7_sumOfTastes 2 = .ok (.iconst 0, 1) := by decide +kernel
theorem dX7_sumOfTastes_3 : decode cX7_sumOfTastes 3 = .ok (.istore 4, 2) := by decide +kernel
theorem dX7_sumOfTastes_5 : decode cX7_sumOfTastes 5 = .ok (.iload 4, 2) := by decide +kernel
theorem dX7_sumOfTastes_7 : decode cX7_sumOfTastes 7 = .ok (.aload_n 0, 1) := by decide +kernel
theorem dX7_sumOfTastes_8 : decode cX7_sumOfTastes 8 = .ok (.getfield 7, 3) := by decide +kernel
theorem dX7_sumOfTastes_11 : decode cX7_sumOfTastes 11 = .ok (.iconst 5, 1) := by decide +kernel
theorem dX7_sumOfTastes_12 : decode cX7_sumOfTastes 12 = .ok (.iaload, 1) := by decide +kernel
theorem dX7_sumOfTastes_13 : decode cX7_sumOfTastes 13 = .ok (.if_icmp .ge 29, 3) := by decide +kernel
theorem dX7_sumOfTastes_16 : decode cX7_sumOfTastes 16 = .ok (.iload_n 3, 1) := by decide +kernel
theorem dX7_sumOfTastes_17 : decode cX7_sumOfTastes 17 = .ok (.aload_n 0, 1) := by decide +kernel
theorem dX7_sumOfTastes_18 : decode cX7_sumOfTastes 18 = .ok (.iload 4, 2) := by decide +kernel
theorem dX7_sumOfTastes_20 : decode cX7_sumOfTastes 20 = .ok (.bipush 13, 2) := by decide +kernel
theorem dX7_sumOfTastes_22 : decode cX7_sumOfTastes 22 = .ok (.invokevirtual 62, 3) := by decide +kernel
theorem dX7_sumOfTastes_25 : decode cX7_sumOfTastes 25 = .ok (.aload_n 0, 1) := by decide +kernel
theorem dX7_sumOfTastes_26 : decode cX7_sumOfTastes 26 = .ok (.iload 4, 2) := by decide +kernel
theorem dX7_sumOfTastes_28 : decode cX7_sumOfTastes 28 = .ok (.iload_n 1, 1) := by decide +kernel
theorem dX7_sumOfTastes_29 : decode cX7_sumOfTastes 29 = .ok (.iload_n 2, 1) := by decide +kernel
theorem dX7_sumOfTastes_30 : decode cX7_sumOfTastes 30 = .ok (.invokevirtual 69, 3) := by decide +kernel
theorem dX7_sumOfTastes_33 : decode cX7_sumOfTastes 33 = .ok (.imul, 1) := by decide +kernel
theorem dX7_sumOfTastes_34 : decode cX7_sumOfTastes 34 = .ok (.iadd, 1) := by decide +kernel
theorem dX7_sumOfTastes_35 : decode cX7_sumOfTastes 35 = .ok (.istore_n 3, 1) := by decide +kernel
theorem dX7_sumOfTastes_36 : decode cX7_sumOfTastes 36 = .ok (.iinc 4 1, 3) := by decide +kernel
theorem dX7_sumOfTastes_39 : decode cX7_sumOfTastes 39 = .ok (.goto (-34), 3) := by decide +kernel
theorem dX7_sumOfTastes_42 : decode cX7_sumOfTastes 42 = .ok (.iload_n 3, 1) := by decide +kernel
theorem dX7_sumOfTastes_43 : decode cX7_sumOfTastes 43 = .ok (.ireturn, 1) := by decide +kernel
theorem dX7_shares_0 : decode cX7_shares 0 = .ok (.iconst 0, 1) := by decide +kernel
theorem dX7_shares_1 : decode cX7_shares 1 = .ok (.istore_n 1, 1) := by decide +kernel
theorem dX7_shares_2 : decode cX7_shares 2 = .ok (.iconst 0, 1) := by decide +kernel
theorem dX7_shares_3 : decode cX7_shares 3 = .ok (.istore_n 2, 1) := by decide +kernel
theorem dX7_shares_4 : decode cX7_shares 4 = .ok (.iload_n 2, 1) := by decide +kernel
theorem dX7_shares_5 : decode cX7_shares 5 = .ok (.aload_n 0, 1) := by decide +kernel
theorem dX7_shares_6 : decode cX7_shares 6 = .ok (.getfield 7, 3) := by decide +kernel
theorem dX7_shares_9 : decode cX7_shares 9 = .ok (.iconst 5, 1) := by decide +kernel
theorem dX7_shares_10 : decode cX7_shares 10 = .ok (.iaload, 1) := by decide +kernel
theorem dX7_shares_11 : decode cX7_shares 11 = .ok (.if_icmp .ge 19, 3) := by decide +kernel
theorem dX7_shares_14 : decode cX7_shares 14 = .ok (.iload_n 1, 1) := by decide +kernel
theorem dX7_shares_15 : decode cX7_shares 15 = .ok (.aload_n 0, 1) := by decide +kernel
theorem dX7_shares_16 : decode cX7_shares 16 = .ok (.iload_n 2, 1) := by decide +kernel
theorem dX7_shares_17 : decode cX7_shares 17 = .ok (.bipush 13, 2) := by decide +kernel
theorem dX7_shares_19 : decode cX7_shares 19 = .ok (.invokevirtual 62, 3) := by decide +kernel
theorem dX7_shares_22 : decode cX7_shares 22 = .ok (.iadd, 1) := by decide +kernel
theorem dX7_shares_23 : decode cX7_shares 23 = .ok (.istore_n 1, 1) := by decide +kernel
theorem dX7_shares_24 : decode cX7_shares 24 = .ok (.iinc 2 1, 3) := by decide +kernel
theorem dX7_shares_27 : decode cX7_shares 27 = .ok (.goto (-23), 3) := by decide +kernel
theorem dX7_shares_30 : decode cX7_shares 30 = .ok (.iload_n 1, 1) := by decide +kernel
theorem dX7_shares_31 : decode cX7_shares 31 = .ok (.ireturn, 1) := by decide +kernel
theorem dX7_reason_0 : decode cX7_reason 0 = .ok (.aload_n 0, 1) := by decide +kernel
theorem dX7_reason_1 : decode cX7_reason 1 = .ok (.invokevirtual 73, 3) := by decide +kernel
theorem dX7_reason_4 : decode cX7_reason 4 = .ok (.bipush 20, 2) := by decide +kernel
theorem dX7_reason_6 : decode cX7_reason 6 = .ok (.if_icmp .eq 5, 3) := by decide +kernel
theorem dX7_reason_9 : decode cX7_reason 9 = .ok (.iconst 1, 1) := by decide +kernel
theorem dX7_reason_10 : decode cX7_reason 10 = .ok (.ireturn, 1) := by decide +kernel
theorem dX7_reason_11 : decode cX7_reason 11 = .ok (.iconst 0, 1) := by decide +kernel
theorem dX7_reason_12 : decode cX7_reason 12 = .ok (.istore_n 2, 1) := by decide +kernel
theorem dX7_reason_13 : decode cX7_reason 13 = .ok (.iload_n 2, 1) := by decide +kernel
theorem dX7_reason_14 : decode cX7_reason 14 = .ok (.bipush 6, 2) := by decide +kernel
theorem dX7_reason_16 : decode cX7_reason 16 = .ok (.if_icmp .ge 61, 3) := by decide +kernel
theorem dX7_reason_19 : decode cX7_reason 19 = .ok (.aload_n 0, 1) := by decide +kernel
theorem dX7_reason_20 : decode cX7_reason 20 = .ok (.iload_n 2, 1) := by decide +kernel
theorem dX7_reason_21 : decode cX7_reason 21 = .ok (.iconst 3, 1) := by decide +kernel
theorem dX7_reason_22 : decode cX7_reason 22 = .ok (.irem, 1) := by decide +kernel
theorem dX7_reason_23 : decode cX7_reason 23 = .ok (.iload_n 1, 1) := by decide +kernel
theorem dX7_reason_24 : decode cX7_reason 24 = .ok (.invokevirtual 77, 3) := by decide +kernel
theorem dX7_reason_27 : decode cX7_reason 27 = .ok (.bipush 20, 2) := by decide +kernel
theorem dX7_reason_29 : decode cX7_reason 29 = .ok (.idiv, 1) := by decide +kernel
theorem dX7_reason_30 : decode cX7_reason 30 = .ok (.istore_n 3, 1) := by decide +kernel
theorem dX7_reason_31 : decode cX7_reason 31 = .ok (.iload_n 2, 1) := by decide +kernel
theorem dX7_reason_32 : decode cX7_reason 32 = .ok (.iconst 3, 1) := by decide +kernel
theorem dX7_reason_33 : decode cX7_reason 33 = .ok (.if_icmp .ge 19, 3) := by decide +kernel
theorem dX7_reason_36 : decode cX7_reason 36 = .ok (.iload_n 3, 1) := by decide +kernel
theorem dX7_reason_37 : decode cX7_reason 37 = .ok (.aload_n 0, 1) := by decide +kernel
theorem dX7_reason_38 : decode cX7_reason 38 = .ok (.getfield 7, 3) := by decide +kernel
theorem dX7_reason_41 : decode cX7_reason 41 = .ok (.bipush 6, 2) := by decide +kernel
theorem dX7_reason_43 : decode cX7_reason 43 = .ok (.iload_n 2, 1) := by decide +kernel
theorem dX7_reason_44 : decode cX7_reason 44 = .ok (.iadd, 1) := by decide +kernel
theorem dX7_reason_45 : decode cX7_reason 45 = .ok (.iaload, 1) := by decide +kernel
theorem dX7_reason_46 : decode cX7_reason 46 = .ok (.if_icmp .ge 25, 3) := by decide +kernel
theorem dX7_reason_49 : decode cX7_reason 49 = .ok (.goto 18, 3) := by decide +kernel
theorem dX7_reason_52 : decode cX7_reason 52 = .ok (.iload_n 3, 1) := by decide +kernel
theorem dX7_reason_53 : decode cX7_reason 53 = .ok (.aload_n 0, 1) := by decide +kernel
theorem dX7_reason_54 : decode cX7_reason 54 = .ok (.getfield 7, 3) := by decide +kernel
theorem dX7_reason_57 : decode cX7_reason 57 = .ok (.bipush 9, 2) := by decide +kernel
theorem dX7_reason_59 : decode cX7_reason 59 = .ok (.iload_n 2, 1) := by decide +kernel
theorem dX7_reason_60 : decode cX7_reason 60 = .ok (.iadd, 1) := by decide +kernel
theorem dX7_reason_61 : decode cX7_reason 61 = .ok (.iconst 3, 1) := by decide +kernel
theorem dX7_reason_62 : decode cX7_reason 62 = .ok (.isub, 1) := by decide +kernel
theorem dX7_reason_63 : decode cX7_reason 63 = .ok (.iaload, 1) := by decide +kernel
theorem dX7_reason_64 : decode cX7_reason 64 = .ok (.if_icmp .le 7, 3) := by decide +kernel
theorem dX7_reason_67 : decode cX7_reason 67 = .ok (.iconst 2, 1) := by decide +kernel
theorem dX7_reason_68 : decode cX7_reason 68 = .ok (.iload_n 2, 1) := by decide +kernel
theorem dX7_reason_69 : decode cX7_reason 69 = .ok (.iadd, 1) := by decide +kernel
theorem dX7_reason_70 : decode cX7_reason 70 = .ok (.ireturn, 1) := by decide +kernel
theorem dX7_reason_71 : decode cX7_reason 71 = .ok (.iinc 2 1, 3) := by decide +kernel
theorem dX7_reason_74 : decode cX7_reason 74 = .ok (.goto (-61), 3) := by decide +kernel
theorem dX7_reason_77 : decode cX7_reason 77 = .ok (.iconst 0, 1) := by decide +kernel
theorem dX7_reason_78 : decode cX7_reason 78 = .ok (.ireturn, 1) := by decide +kernel
theorem dX7_layDay_0 : decode cX7_layDay 0 = .ok (.iconst 0, 1) := by decide +kernel
theorem dX7_layDay_1 : decode cX7_layDay 1 = .ok (.istore_n 1, 1) := by decide +kernel
theorem dX7_layDay_2 : decode cX7_layDay 2 = .ok (.iload_n 1, 1) := by decide +kernel
theorem dX7_layDay_3 : decode cX7_layDay 3 = .ok (.iconst 5, 1) := by decide +kernel
theorem dX7_layDay_4 : decode cX7_layDay 4 = .ok (.if_icmp .ge 82, 3) := by decide +kernel
theorem dX7_layDay_7 : decode cX7_layDay 7 = .ok (.iload_n 1, 1) := by decide +kernel
theorem dX7_layDay_8 : decode cX7_layDay 8 = .ok (.aload_n 0, 1) := by decide +kernel
theorem dX7_layDay_9 : decode cX7_layDay 9 = .ok (.getfield 7, 3) := by decide +kernel
theorem dX7_layDay_12 : decode cX7_layDay 12 = .ok (.iconst 5, 1) := by decide +kernel
theorem dX7_layDay_13 : decode cX7_layDay 13 = .ok (.iaload, 1) := by decide +kernel
theorem dX7_layDay_14 : decode cX7_layDay 14 = .ok (.if_icmp .ge 7, 3) := by decide +kernel
theorem dX7_layDay_17 : decode cX7_layDay 17 = .ok (.iconst 1, 1) := by decide +kernel
theorem dX7_layDay_18 : decode cX7_layDay 18 = .ok (.goto 4, 3) := by decide +kernel
theorem dX7_layDay_21 : decode cX7_layDay 21 = .ok (.iconst 0, 1) := by decide +kernel
theorem dX7_layDay_22 : decode cX7_layDay 22 = .ok (.istore_n 2, 1) := by decide +kernel
theorem dX7_layDay_23 : decode cX7_layDay 23 = .ok (.aload_n 0, 1) := by decide +kernel
theorem dX7_layDay_24 : decode cX7_layDay 24 = .ok (.getfield 38, 3) := by decide +kernel
theorem dX7_layDay_27 : decode cX7_layDay 27 = .ok (.iload_n 1, 1) := by decide +kernel
theorem dX7_layDay_28 : decode cX7_layDay 28 = .ok (.iload_n 2, 1) := by decide +kernel
theorem dX7_layDay_29 : decode cX7_layDay 29 = .ok (.ifCond .eq 11, 3) := by decide +kernel
theorem dX7_layDay_32 : decode cX7_layDay 32 = .ok (.aload_n 0, 1) := by decide +kernel
theorem dX7_layDay_33 : decode cX7_layDay 33 = .ok (.iload_n 1, 1) := by decide +kernel
theorem dX7_layDay_34 : decode cX7_layDay 34 = .ok (.invokevirtual 66, 3) := by decide +kernel
theorem dX7_layDay_37 : decode cX7_layDay 37 = .ok (.goto 4, 3) := by decide +kernel
theorem dX7_layDay_40 : decode cX7_layDay 40 = .ok (.iconst 0, 1) := by decide +kernel
theorem dX7_layDay_41 : decode cX7_layDay 41 = .ok (.iastore, 1) := by decide +kernel
theorem dX7_layDay_42 : decode cX7_layDay 42 = .ok (.iconst 0, 1) := by decide +kernel
theorem dX7_layDay_43 : decode cX7_layDay 43 = .ok (.istore_n 3, 1) := by decide +kernel
theorem dX7_layDay_44 : decode cX7_layDay 44 = .ok (.iload_n 3, 1) := by decide +kernel
theorem dX7_layDay_45 : decode cX7_layDay 45 = .ok (.iconst 3, 1) := by decide +kernel
theorem dX7_layDay_46 : decode cX7_layDay 46 = .ok (.if_icmp .ge 34, 3) := by decide +kernel
theorem dX7_layDay_49 : decode cX7_layDay 49 = .ok (.aload_n 0, 1) := by decide +kernel
theorem dX7_layDay_50 : decode cX7_layDay 50 = .ok (.getfield 41, 3) := by decide +kernel
theorem dX7_layDay_53 : decode cX7_layDay 53 = .ok (.iconst 3, 1) := by decide +kernel
theorem dX7_layDay_54 : decode cX7_layDay 54 = .ok (.iload_n 1, 1) := by decide +kernel
theorem dX7_layDay_55 : decode cX7_layDay 55 = .ok (.imul, 1) := by decide +kernel
theorem dX7_layDay_56 : decode cX7_layDay 56 = .ok (.iload_n 3, 1) := by decide +kernel
theorem dX7_layDay_57 : decode cX7_layDay 57 = .ok (.iadd, 1) := by decide +kernel
theorem dX7_layDay_58 : decode cX7_layDay 58 = .ok (.iload_n 2, 1) := by decide +kernel
theorem dX7_layDay_59 : decode cX7_layDay 59 = .ok (.ifCond .eq 13, 3) := by decide +kernel
theorem dX7_layDay_62 : decode cX7_layDay 62 = .ok (.aload_n 0, 1) := by decide +kernel
theorem dX7_layDay_63 : decode cX7_layDay 63 = .ok (.iload_n 1, 1) := by decide +kernel
theorem dX7_layDay_64 : decode cX7_layDay 64 = .ok (.iload_n 3, 1) := by decide +kernel
theorem dX7_layDay_65 : decode cX7_layDay 65 = .ok (.iconst 0, 1) := by decide +kernel
theorem dX7_layDay_66 : decode cX7_layDay 66 = .ok (.invokevirtual 69, 3) := by decide +kernel
theorem dX7_layDay_69 : decode cX7_layDay 69 = .ok (.goto 4, 3) := by decide +kernel
theorem dX7_layDay_72 : decode cX7_layDay 72 = .ok (.iconst 0, 1) := by decide +kernel
theorem dX7_layDay_73 : decode cX7_layDay 73 = .ok (.iastore, 1) := by decide +kernel
theorem dX7_layDay_74 : decode cX7_layDay 74 = .ok (.iinc 3 1, 3) := by decide +kernel
theorem dX7_layDay_77 : decode cX7_layDay 77 = .ok (.goto (-33), 3) := by decide +kernel
theorem dX7_layDay_80 : decode cX7_layDay 80 = .ok (.iinc 1 1, 3) := by decide +kernel
theorem dX7_layDay_83 : decode cX7_layDay 83 = .ok (.goto (-81), 3) := by decide +kernel
theorem dX7_layDay_86 : decode cX7_layDay 86 = .ok (.return_, 1) := by decide +kernel
theorem dX7_keeps_0 : decode cX7_keeps 0 = .ok (.iconst 0, 1) := by decide +kernel
theorem dX7_keeps_1 : decode cX7_keeps 1 = .ok (.istore_n 1, 1) := by decide +kernel
theorem dX7_keeps_2 : decode cX7_keeps 2 = .ok (.iload_n 1, 1) := by decide +kernel
theorem dX7_keeps_3 : decode cX7_keeps 3 = .ok (.iconst 3, 1) := by decide +kernel
theorem dX7_keeps_4 : decode cX7_keeps 4 = .ok (.if_icmp .ge 78, 3) := by decide +kernel
theorem dX7_keeps_7 : decode cX7_keeps 7 = .ok (.iconst 0, 1) := by decide +kernel
theorem dX7_keeps_8 : decode cX7_keeps 8 = .ok (.istore_n 2, 1) := by decide +kernel
theorem dX7_keeps_9 : decode cX7_keeps 9 = .ok (.iconst 0, 1) := by decide +kernel
theorem dX7_keeps_10 : decode cX7_keeps 10 = .ok (.istore_n 3, 1) := by decide +kernel
theorem dX7_keeps_11 : decode cX7_keeps 11 = .ok (.iload_n 3, 1) := by decide +kernel
theorem dX7_keeps_12 : decode cX7_keeps 12 = .ok (.iconst 5, 1) := by decide +kernel
theorem dX7_keeps_13 : decode cX7_keeps 13 = .ok (.if_icmp .ge 29, 3) := by decide +kernel
theorem dX7_keeps_16 : decode cX7_keeps 16 = .ok (.iload_n 2, 1) := by decide +kernel
theorem dX7_keeps_17 : decode cX7_keeps 17 = .ok (.aload_n 0, 1) := by decide +kernel
theorem dX7_keeps_18 : decode cX7_keeps 18 = .ok (.getfield 35, 3) := by decide +kernel
theorem dX7_keeps_21 : decode cX7_keeps 21 = .ok (.iload_n 3, 1) := by decide +kernel
theorem dX7_keeps_22 : decode cX7_keeps 22 = .ok (.iaload, 1) := by decide +kernel
theorem dX7_keeps_23 : decode cX7_keeps 23 = .ok (.aload_n 0, 1) := by decide +kernel
theorem dX7_keeps_24 : decode cX7_keeps 24 = .ok (.getfield 41, 3) := by decide +kernel
theorem dX7_keeps_27 : decode cX7_keeps 27 = .ok (.iconst 3, 1) := by decide +kernel
theorem dX7_keeps_28 : decode cX7_keeps 28 = .ok (.iload_n 3, 1) := by decide +kernel
theorem dX7_keeps_29 : decode cX7_keeps 29 = .ok (.imul, 1) := by decide +kernel
theorem dX7_keeps_30 : decode cX7_keeps 30 = .ok (.iload_n 1, 1) := by decide +kernel
theorem dX7_keeps_31 : decode cX7_keeps 31 = .ok (.iadd, 1) := by decide +kernel
theorem dX7_keeps_32 : decode cX7_keeps 32 = .ok (.iaload, 1) := by decide +kernel
theorem dX7_keeps_33 : decode cX7_keeps 33 = .ok (.imul, 1) := by decide +kernel
theorem dX7_keeps_34 : decode cX7_keeps 34 = .ok (.iadd, 1) := by decide +kernel
theorem dX7_keeps_35 : decode cX7_keeps 35 = .ok (.istore_n 2, 1) := by decide +kernel
theorem dX7_keeps_36 : decode cX7_keeps 36 = .ok (.iinc 3 1, 3) := by decide +kernel
theorem dX7_keeps_39 : decode cX7_keeps 39 = .ok (.goto (-28), 3) := by decide +kernel
theorem dX7_keeps_42 : decode cX7_keeps 42 = .ok (.iload_n 2, 1) := by decide +kernel
theorem dX7_keeps_43 : decode cX7_keeps 43 = .ok (.bipush 20, 2) := by decide +kernel
theorem dX7_keeps_45 : decode cX7_keeps 45 = .ok (.idiv, 1) := by decide +kernel
theorem dX7_keeps_46 : decode cX7_keeps 46 = .ok (.aload_n 0, 1) := by decide +kernel
theorem dX7_keeps_47 : decode cX7_keeps 47 = .ok (.getfield 7, 3) := by decide +kernel
theorem dX7_keeps_50 : decode cX7_keeps 50 = .ok (.bipush 6, 2) := by decide +kernel
theorem dX7_keeps_52 : decode cX7_keeps 52 = .ok (.iload_n 1, 1) := by decide +kernel
theorem dX7_keeps_53 : decode cX7_keeps 53 = .ok (.iadd, 1) := by decide +kernel
theorem dX7_keeps_54 : decode cX7_keeps 54 = .ok (.iaload, 1) := by decide +kernel
theorem dX7_keeps_55 : decode cX7_keeps 55 = .ok (.if_icmp .lt 19, 3) := by decide +kernel
theorem dX7_keeps_58 : decode cX7_keeps 58 = .ok (.iload_n 2, 1) := by decide +kernel
theorem dX7_keeps_59 : decode cX7_keeps 59 = .ok (.bipush 20, 2) := by decide +kernel
theorem dX7_keeps_61 : decode cX7_keeps 61 = .ok (.idiv, 1) := by decide +kernel
theorem dX7_keeps_62 : decode cX7_keeps 62 = .ok (.aload_n 0, 1) := by decide +kernel
theorem dX7_keeps_63 : decode cX7_keeps 63 = .ok (.getfield 7, 3) := by decide +kernel
theorem dX7_keeps_66 : decode cX7_keeps 66 = .ok (.bipush 9, 2) := by decide +kernel
theorem dX7_keeps_68 : decode cX7_keeps 68 = .ok (.iload_n 1, 1) := by decide +kernel
theorem dX7_keeps_69 : decode cX7_keeps 69 = .ok (.iadd, 1) := by decide +kernel
theorem dX7_keeps_70 : decode cX7_keeps 70 = .ok (.iaload, 1) := by decide +kernel
theorem dX7_keeps_71 : decode cX7_keeps 71 = .ok (.if_icmp .le 5, 3) := by decide +kernel
theorem dX7_keeps_74 : decode cX7_keeps 74 = .ok (.iconst 0, 1) := by decide +kernel
theorem dX7_keeps_75 : decode cX7_keeps 75 = .ok (.ireturn, 1) := by decide +kernel
theorem dX7_keeps_76 : decode cX7_keeps 76 = .ok (.iinc 1 1, 3) := by decide +kernel
theorem dX7_keeps_79 : decode cX7_keeps 79 = .ok (.goto (-77), 3) := by decide +kernel
theorem dX7_keeps_82 : decode cX7_keeps 82 = .ok (.iconst 1, 1) := by decide +kernel
theorem dX7_keeps_83 : decode cX7_keeps 83 = .ok (.ireturn, 1) := by decide +kernel
theorem dX7_triedPrice_0 : decode cX7_triedPrice 0 = .ok (.iconst 0, 1) := by decide +kernel
theorem dX7_triedPrice_1 : decode cX7_triedPrice 1 = .ok (.istore_n 1, 1) := by decide +kernel
theorem dX7_triedPrice_2 : decode cX7_triedPrice 2 = .ok (.iconst 0, 1) := by decide +kernel
theorem dX7_triedPrice_3 : decode cX7_triedPrice 3 = .ok (.istore_n 2, 1) := by decide +kernel
theorem dX7_triedPrice_4 : decode cX7_triedPrice 4 = .ok (.iload_n 2, 1) := by decide +kernel
theorem dX7_triedPrice_5 : decode cX7_triedPrice 5 = .ok (.iconst 5, 1) := by decide +kernel
theorem dX7_triedPrice_6 : decode cX7_triedPrice 6 = .ok (.if_icmp .ge 25, 3) := by decide +kernel
theorem dX7_triedPrice_9 : decode cX7_triedPrice 9 = .ok (.iload_n 1, 1) := by decide +kernel
theorem dX7_triedPrice_10 : decode cX7_triedPrice 10 = .ok (.aload_n 0, 1) := by decide +kernel
theorem dX7_triedPrice_11 : decode cX7_triedPrice 11 = .ok (.getfield 35, 3) := by decide +kernel
theorem dX7_triedPrice_14 : decode cX7_triedPrice 14 = .ok (.iload_n 2, 1) := by decide +kernel
theorem dX7_triedPrice_15 : decode cX7_triedPrice 15 = .ok (.iaload, 1) := by decide +kernel
theorem dX7_triedPrice_16 : decode cX7_triedPrice 16 = .ok (.aload_n 0, 1) := by decide +kernel
theorem dX7_triedPrice_17 : decode cX7_triedPrice 17 = .ok (.getfield 38, 3) := by decide +kernel
theorem dX7_triedPrice_20 : decode cX7_triedPrice 20 = .ok (.iload_n 2, 1) := by decide +kernel
theorem dX7_triedPrice_21 : decode cX7_triedPrice 21 = .ok (.iaload, 1) := by decide +kernel
theorem dX7_triedPrice_22 : decode cX7_triedPrice 22 = .ok (.imul, 1) := by decide +kernel
theorem dX7_triedPrice_23 : decode cX7_triedPrice 23 = .ok (.iadd, 1) := by decide +kernel
theorem dX7_triedPrice_24 : decode cX7_triedPrice 24 = .ok (.istore_n 1, 1) := by decide +kernel
theorem dX7_triedPrice_25 : decode cX7_triedPrice 25 = .ok (.iinc 2 1, 3) := by decide +kernel
theorem dX7_triedPrice_28 : decode cX7_triedPrice 28 = .ok (.goto (-24), 3) := by decide +kernel
theorem dX7_triedPrice_31 : decode cX7_triedPrice 31 = .ok (.iload_n 1, 1) := by decide +kernel
theorem dX7_triedPrice_32 : decode cX7_triedPrice 32 = .ok (.ireturn, 1) := by decide +kernel
theorem dX7_nextTried_0 : decode cX7_nextTried 0 = .ok (.iload_n 1, 1) := by decide +kernel
theorem dX7_nextTried_1 : decode cX7_nextTried 1 = .ok (.iconst 2, 1) := by decide +kernel
theorem dX7_nextTried_2 : decode cX7_nextTried 2 = .ok (.isub, 1) := by decide +kernel
theorem dX7_nextTried_3 : decode cX7_nextTried 3 = .ok (.istore_n 2, 1) := by decide +kernel
theorem dX7_nextTried_4 : decode cX7_nextTried 4 = .ok (.iload_n 2, 1) := by decide +kernel
theorem dX7_nextTried_5 : decode cX7_nextTried 5 = .ok (.ifCond .lt 18, 3) := by decide +kernel
theorem dX7_nextTried_8 : decode cX7_nextTried 8 = .ok (.aload_n 0, 1) := by decide +kernel
theorem dX7_nextTried_9 : decode cX7_nextTried 9 = .ok (.getfield 35, 3) := by decide +kernel
theorem dX7_nextTried_12 : decode cX7_nextTried 12 = .ok (.iload_n 2, 1) := by decide +kernel
theorem dX7_nextTried_13 : decode cX7_nextTried 13 = .ok (.iaload, 1) := by decide +kernel
theorem dX7_nextTried_14 : decode cX7_nextTried 14 = .ok (.ifCond .ne 9, 3) := by decide +kernel
theorem dX7_nextTried_17 : decode cX7_nextTried 17 = .ok (.iinc 2 (-1), 3) := by decide +kernel
theorem dX7_nextTried_20 : decode cX7_nextTried 20 = .ok (.goto (-16), 3) := by decide +kernel
theorem dX7_nextTried_23 : decode cX7_nextTried 23 = .ok (.iload_n 2, 1) := by decide +kernel
theorem dX7_nextTried_24 : decode cX7_nextTried 24 = .ok (.ifCond .ge 5, 3) := by decide +kernel
theorem dX7_nextTried_27 : decode cX7_nextTried 27 = .ok (.iconst 0, 1) := by decide +kernel
theorem dX7_nextTried_28 : decode cX7_nextTried 28 = .ok (.ireturn, 1) := by decide +kernel
theorem dX7_nextTried_29 : decode cX7_nextTried 29 = .ok (.aload_n 0, 1) := by decide +kernel
theorem dX7_nextTried_30 : decode cX7_nextTried 30 = .ok (.getfield 35, 3) := by decide +kernel
theorem dX7_nextTried_33 : decode cX7_nextTried 33 = .ok (.iload_n 1, 1) := by decide +kernel
theorem dX7_nextTried_34 : decode cX7_nextTried 34 = .ok (.iconst 1, 1) := by decide +kernel
theorem dX7_nextTried_35 : decode cX7_nextTried 35 = .ok (.isub, 1) := by decide +kernel
theorem dX7_nextTried_36 : decode cX7_nextTried 36 = .ok (.iaload, 1) := by decide +kernel
theorem dX7_nextTried_37 : decode cX7_nextTried 37 = .ok (.istore_n 3, 1) := by decide +kernel
theorem dX7_nextTried_38 : decode cX7_nextTried 38 = .ok (.aload_n 0, 1) := by decide +kernel
theorem dX7_nextTried_39 : decode cX7_nextTried 39 = .ok (.getfield 35, 3) := by decide +kernel
theorem dX7_nextTried_42 : decode cX7_nextTried 42 = .ok (.iload_n 1, 1) := by decide +kernel
theorem dX7_nextTried_43 : decode cX7_nextTried 43 = .ok (.iconst 1, 1) := by decide +kernel
theorem dX7_nextTried_44 : decode cX7_nextTried 44 = .ok (.isub, 1) := by decide +kernel
theorem dX7_nextTried_45 : decode cX7_nextTried 45 = .ok (.iconst 0, 1) := by decide +kernel
theorem dX7_nextTried_46 : decode cX7_nextTried 46 = .ok (.iastore, 1) := by decide +kernel
theorem dX7_nextTried_47 : decode cX7_nextTried 47 = .ok (.aload_n 0, 1) := by decide +kernel
theorem dX7_nextTried_48 : decode cX7_nextTried 48 = .ok (.getfield 35, 3) := by decide +kernel
theorem dX7_nextTried_51 : decode cX7_nextTried 51 = .ok (.iload_n 2, 1) := by decide +kernel
theorem dX7_nextTried_52 : decode cX7_nextTried 52 = .ok (.dup2, 1) := by decide +kernel
theorem dX7_nextTried_53 : decode cX7_nextTried 53 = .ok (.iaload, 1) := by decide +kernel
theorem dX7_nextTried_54 : decode cX7_nextTried 54 = .ok (.iconst 1, 1) := by decide +kernel
theorem dX7_nextTried_55 : decode cX7_nextTried 55 = .ok (.isub, 1) := by decide +kernel
theorem dX7_nextTried_56 : decode cX7_nextTried 56 = .ok (.iastore, 1) := by decide +kernel
theorem dX7_nextTried_57 : decode cX7_nextTried 57 = .ok (.aload_n 0, 1) := by decide +kernel
theorem dX7_nextTried_58 : decode cX7_nextTried 58 = .ok (.getfield 35, 3) := by decide +kernel
theorem dX7_nextTried_61 : decode cX7_nextTried 61 = .ok (.iload_n 2, 1) := by decide +kernel
theorem dX7_nextTried_62 : decode cX7_nextTried 62 = .ok (.iconst 1, 1) := by decide +kernel
theorem dX7_nextTried_63 : decode cX7_nextTried 63 = .ok (.iadd, 1) := by decide +kernel
theorem dX7_nextTried_64 : decode cX7_nextTried 64 = .ok (.iload_n 3, 1) := by decide +kernel
theorem dX7_nextTried_65 : decode cX7_nextTried 65 = .ok (.iconst 1, 1) := by decide +kernel
theorem dX7_nextTried_66 : decode cX7_nextTried 66 = .ok (.iadd, 1) := by decide +kernel
theorem dX7_nextTried_67 : decode cX7_nextTried 67 = .ok (.iastore, 1) := by decide +kernel
theorem dX7_nextTried_68 : decode cX7_nextTried 68 = .ok (.iconst 1, 1) := by decide +kernel
theorem dX7_nextTried_69 : decode cX7_nextTried 69 = .ok (.ireturn, 1) := by decide +kernel
theorem dX7_seek_0 : decode cX7_seek 0 = .ok (.aload_n 0, 1) := by decide +kernel
theorem dX7_seek_1 : decode cX7_seek 1 = .ok (.iconst (-1), 1) := by decide +kernel
theorem dX7_seek_2 : decode cX7_seek 2 = .ok (.putfield 80, 3) := by decide +kernel
theorem dX7_seek_5 : decode cX7_seek 5 = .ok (.aload_n 0, 1) := by decide +kernel
theorem dX7_seek_6 : decode cX7_seek 6 = .ok (.getfield 7, 3) := by decide +kernel
theorem dX7_seek_9 : decode cX7_seek 9 = .ok (.iconst 5, 1) := by decide +kernel
theorem dX7_seek_10 : decode cX7_seek 10 = .ok (.iaload, 1) := by decide +kernel
theorem dX7_seek_11 : decode cX7_seek 11 = .ok (.istore_n 1, 1) := by decide +kernel
theorem dX7_seek_12 : decode cX7_seek 12 = .ok (.iconst 0, 1) := by decide +kernel
theorem dX7_seek_13 : decode cX7_seek 13 = .ok (.istore_n 2, 1) := by decide +kernel
theorem dX7_seek_14 : decode cX7_seek 14 = .ok (.iload_n 2, 1) := by decide +kernel
theorem dX7_seek_15 : decode cX7_seek 15 = .ok (.iconst 5, 1) := by decide +kernel
theorem dX7_seek_16 : decode cX7_seek 16 = .ok (.if_icmp .ge 32, 3) := by decide +kernel
theorem dX7_seek_19 : decode cX7_seek 19 = .ok (.aload_n 0, 1) := by decide +kernel
theorem dX7_seek_20 : decode cX7_seek 20 = .ok (.getfield 35, 3) := by decide +kernel
theorem dX7_seek_23 : decode cX7_seek 23 = .ok (.iload_n 2, 1) := by decide +kernel
theorem dX7_seek_24 : decode cX7_seek 24 = .ok (.iload_n 2, 1) := by decide +kernel
theorem dX7_seek_25 : decode cX7_seek 25 = .ok (.ifCond .ne 8, 3) := by decide +kernel
theorem dX7_seek_28 : decode cX7_seek 28 = .ok (.bipush 20, 2) := by decide +kernel
theorem dX7_seek_30 : decode cX7_seek 30 = .ok (.goto 4, 3) := by decide +kernel
theorem dX7_seek_33 : decode cX7_seek 33 = .ok (.iconst 0, 1) := by decide +kernel
theorem dX7_seek_34 : decode cX7_seek 34 = .ok (.iastore, 1) := by decide +kernel
theorem dX7_seek_35 : decode cX7_seek 35 = .ok (.aload_n 0, 1) := by decide +kernel
theorem dX7_seek_36 : decode cX7_seek 36 = .ok (.getfield 44, 3) := by decide +kernel
theorem dX7_seek_39 : decode cX7_seek 39 = .ok (.iload_n 2, 1) := by decide +kernel
theorem dX7_seek_40 : decode cX7_seek 40 = .ok (.iconst 0, 1) := by decide +kernel
theorem dX7_seek_41 : decode cX7_seek 41 = .ok (.iastore, 1) := by decide +kernel
theorem dX7_seek_42 : decode cX7_seek 42 = .ok (.iinc 2 1, 3) := by decide +kernel
theorem dX7_seek_45 : decode cX7_seek 45 = .ok (.goto (-31), 3) := by decide +kernel
theorem dX7_seek_48 : decode cX7_seek 48 = .ok (.aload_n 0, 1) := by decide +kernel
theorem dX7_seek_49 : decode cX7_seek 49 = .ok (.invokevirtual 83, 3) := by decide +kernel
theorem dX7_seek_52 : decode cX7_seek 52 = .ok (.iload_n 1, 1) := by decide +kernel
theorem dX7_seek_53 : decode cX7_seek 53 = .ok (.ifCond .le 7, 3) := by decide +kernel
theorem dX7_seek_56 : decode cX7_seek 56 = .ok (.iconst 1, 1) := by decide +kernel
theorem dX7_seek_57 : decode cX7_seek 57 = .ok (.goto 4, 3) := by decide +kernel
theorem dX7_seek_60 : decode cX7_seek 60 = .ok (.iconst 0, 1) := by decide +kernel
theorem dX7_seek_61 : decode cX7_seek 61 = .ok (.istore_n 2, 1) := by decide +kernel
theorem dX7_seek_62 : decode cX7_seek 62 = .ok (.iload_n 2, 1) := by decide +kernel
theorem dX7_seek_63 : decode cX7_seek 63 = .ok (.ifCond .eq 74, 3) := by decide +kernel
theorem dX7_seek_66 : decode cX7_seek 66 = .ok (.aload_n 0, 1) := by decide +kernel
theorem dX7_seek_67 : decode cX7_seek 67 = .ok (.invokevirtual 86, 3) := by decide +kernel
theorem dX7_seek_70 : decode cX7_seek 70 = .ok (.istore_n 3, 1) := by decide +kernel
theorem dX7_seek_71 : decode cX7_seek 71 = .ok (.aload_n 0, 1) := by decide +kernel
theorem dX7_seek_72 : decode cX7_seek 72 = .ok (.getfield 80, 3) := by decide +kernel
theorem dX7_seek_75 : decode cX7_seek 75 = .ok (.iconst (-1), 1) := by decide +kernel
theorem dX7_seek_76 : decode cX7_seek 76 = .ok (.if_icmp .eq 11, 3) := by decide +kernel
theorem dX7_seek_79 : decode cX7_seek 79 = .ok (.iload_n 3, 1) := by decide +kernel
theorem dX7_seek_80 : decode cX7_seek 80 = .ok (.aload_n 0, 1) := by decide +kernel
theorem dX7_seek_81 : decode cX7_seek 81 = .ok (.getfield 80, 3) := by decide +kernel
theorem dX7_seek_84 : decode cX7_seek 84 = .ok (.if_icmp .ge 44, 3) := by decide +kernel
theorem dX7_seek_87 : decode cX7_seek 87 = .ok (.aload_n 0, 1) := by decide +kernel
theorem dX7_seek_88 : decode cX7_seek 88 = .ok (.invokevirtual 89, 3) := by decide +kernel
theorem dX7_seek_91 : decode cX7_seek 91 = .ok (.ifCond .eq 37, 3) := by decide +kernel
theorem dX7_seek_94 : decode cX7_seek 94 = .ok (.aload_n 0, 1) := by decide +kernel
theorem dX7_seek_95 : decode cX7_seek 95 = .ok (.iload_n 3, 1) := by decide +kernel
theorem dX7_seek_96 : decode cX7_seek 96 = .ok (.putfield 80, 3) := by decide +kernel
theorem dX7_seek_99 : decode cX7_seek 99 = .ok (.iconst 0, 1) := by decide +kernel
theorem dX7_seek_100 : decode cX7_seek 100 = .ok (.istore 4, 2) := by decide +kernel
theorem dX7_seek_102 : decode cX7_seek 102 = .ok (.iload 4, 2) := by decide +kernel
theorem dX7_seek_104 : decode cX7_seek 104 = .ok (.iconst 5, 1) := by decide +kernel
theorem dX7_seek_105 : decode cX7_seek 105 = .ok (.if_icmp .ge 23, 3) := by decide +kernel
theorem dX7_seek_108 : decode cX7_seek 108 = .ok (.aload_n 0, 1) := by decide +kernel
theorem dX7_seek_109 : decode cX7_seek 109 = .ok (.getfield 44, 3) := by decide +kernel
theorem dX7_seek_112 : decode cX7_seek 112 = .ok (.iload 4, 2) := by decide +kernel
theorem dX7_seek_114 : decode cX7_seek 114 = .ok (.aload_n 0, 1) := by decide +kernel
theorem dX7_seek_115 : decode cX7_seek 115 = .ok (.getfield 35, 3) := by decide +kernel
theorem dX7_seek_118 : decode cX7_seek 118 = .ok (.iload 4, 2) := by decide +kernel
theorem dX7_seek_120 : decode cX7_seek 120 = .ok (.iaload, 1) := by decide +kernel
theorem dX7_seek_121 : decode cX7_seek 121 = .ok (.iastore, 1) := by decide +kernel
theorem dX7_seek_122 : decode cX7_seek 122 = .ok (.iinc 4 1, 3) := by decide +kernel
theorem dX7_seek_125 : decode cX7_seek 125 = .ok (.goto (-23), 3) := by decide +kernel
theorem dX7_seek_128 : decode cX7_seek 128 = .ok (.aload_n 0, 1) := by decide +kernel
theorem dX7_seek_129 : decode cX7_seek 129 = .ok (.iload_n 1, 1) := by decide +kernel
theorem dX7_seek_130 : decode cX7_seek 130 = .ok (.invokevirtual 93, 3) := by decide +kernel
theorem dX7_seek_133 : decode cX7_seek 133 = .ok (.istore_n 2, 1) := by decide +kernel
theorem dX7_seek_134 : decode cX7_seek 134 = .ok (.goto (-72), 3) := by decide +kernel
theorem dX7_seek_137 : decode cX7_seek 137 = .ok (.return_, 1) := by decide +kernel
theorem dX7_comes_0 : decode cX7_comes 0 = .ok (.iload_n 1, 1) := by decide +kernel
theorem dX7_comes_1 : decode cX7_comes 1 = .ok (.i2l, 1) := by decide +kernel
theorem dX7_comes_2 : decode cX7_comes 2 = .ok (.iconst 0, 1) := by decide +kernel
theorem dX7_comes_3 : decode cX7_comes 3 = .ok (.sipush 999, 3) := by decide +kernel
theorem dX7_comes_6 : decode cX7_comes 6 = .ok (.invokestatic 47, 3) := by decide +kernel
theorem dX7_comes_9 : decode cX7_comes 9 = .ok (.ifCond .eq 50, 3) := by decide +kernel
theorem dX7_comes_12 : decode cX7_comes 12 = .ok (.iload_n 2, 1) := by decide +kernel
theorem dX7_comes_13 : decode cX7_comes 13 = .ok (.i2l, 1) := by decide +kernel
theorem dX7_comes_14 : decode cX7_comes 14 = .ok (.iconst 0, 1) := by decide +kernel
theorem dX7_comes_15 : decode cX7_comes 15 = .ok (.bipush 100, 2) := by decide +kernel
theorem dX7_comes_17 : decode cX7_comes 17 = .ok (.invokestatic 47, 3) := by decide +kernel
theorem dX7_comes_20 : decode cX7_comes 20 = .ok (.ifCond .eq 39, 3) := by decide +kernel
theorem dX7_comes_23 : decode cX7_comes 23 = .ok (.iload_n 3, 1) := by decide +kernel
theorem dX7_comes_24 : decode cX7_comes 24 = .ok (.i2l, 1) := by decide +kernel
theorem dX7_comes_25 : decode cX7_comes 25 = .ok (.iconst 0, 1) := by decide +kernel
theorem dX7_comes_26 : decode cX7_comes 26 = .ok (.bipush 100, 2) := by decide +kernel
theorem dX7_comes_28 : decode cX7_comes 28 = .ok (.invokestatic 47, 3) := by decide +kernel
theorem dX7_comes_31 : decode cX7_comes 31 = .ok (.ifCond .eq 28, 3) := by decide +kernel
theorem dX7_comes_34 : decode cX7_comes 34 = .ok (.iload 4, 2) := by decide +kernel
theorem dX7_comes_36 : decode cX7_comes 36 = .ok (.i2l, 1) := by decide +kernel
theorem dX7_comes_37 : decode cX7_comes 37 = .ok (.iconst 0, 1) := by decide +kernel
theorem dX7_comes_38 : decode cX7_comes 38 = .ok (.bipush 100, 2) := by decide +kernel
theorem dX7_comes_40 : decode cX7_comes 40 = .ok (.invokestatic 47, 3) := by decide +kernel
theorem dX7_comes_43 : decode cX7_comes 43 = .ok (.ifCond .eq 16, 3) := by decide +kernel
theorem dX7_comes_46 : decode cX7_comes 46 = .ok (.iload 5, 2) := by decide +kernel
theorem dX7_comes_48 : decode cX7_comes 48 = .ok (.i2l, 1) := by decide +kernel
theorem dX7_comes_49 : decode cX7_comes 49 = .ok (.iconst 0, 1) := by decide +kernel
theorem dX7_comes_50 : decode cX7_comes 50 = .ok (.sipush 9999, 3) := by decide +kernel
theorem dX7_comes_53 : decode cX7_comes 53 = .ok (.invokestatic 47, 3) := by decide +kernel
theorem dX7_comes_56 : decode cX7_comes 56 = .ok (.ifCond .ne 6, 3) := by decide +kernel
theorem dX7_comes_59 : decode cX7_comes 59 = .ok (.bipush (-2), 2) := by decide +kernel
theorem dX7_comes_61 : decode cX7_comes 61 = .ok (.ireturn, 1) := by decide +kernel
theorem dX7_comes_62 : decode cX7_comes 62 = .ok (.aload_n 0, 1) := by decide +kernel
theorem dX7_comes_63 : decode cX7_comes 63 = .ok (.getfield 7, 3) := by decide +kernel
theorem dX7_comes_66 : decode cX7_comes 66 = .ok (.iconst 5, 1) := by decide +kernel
theorem dX7_comes_67 : decode cX7_comes 67 = .ok (.iaload, 1) := by decide +kernel
theorem dX7_comes_68 : decode cX7_comes 68 = .ok (.istore 6, 2) := by decide +kernel
theorem dX7_comes_70 : decode cX7_comes 70 = .ok (.iload 6, 2) := by decide +kernel
theorem dX7_comes_72 : decode cX7_comes 72 = .ok (.iconst 5, 1) := by decide +kernel
theorem dX7_comes_73 : decode cX7_comes 73 = .ok (.if_icmp .ne 6, 3) := by decide +kernel
theorem dX7_comes_76 : decode cX7_comes 76 = .ok (.bipush (-4), 2) := by decide +kernel
theorem dX7_comes_78 : decode cX7_comes 78 = .ok (.ireturn, 1) := by decide +kernel
theorem dX7_comes_79 : decode cX7_comes 79 = .ok (.iconst 0, 1) := by decide +kernel
theorem dX7_comes_80 : decode cX7_comes 80 = .ok (.istore 7, 2) := by decide +kernel
theorem dX7_comes_82 : decode cX7_comes 82 = .ok (.iload 7, 2) := by decide +kernel
theorem dX7_comes_84 : decode cX7_comes 84 = .ok (.bipush 14, 2) := by decide +kernel
theorem dX7_comes_86 : decode cX7_comes 86 = .ok (.if_icmp .ge 18, 3) := by decide +kernel
theorem dX7_comes_89 : decode cX7_comes 89 = .ok (.aload_n 0, 1) := by decide +kernel
theorem dX7_comes_90 : decode cX7_comes 90 = .ok (.iload 6, 2) := by decide +kernel
theorem dX7_comes_92 : decode cX7_comes 92 = .ok (.iload 7, 2) := by decide +kernel
theorem dX7_comes_94 : decode cX7_comes 94 = .ok (.iconst 0, 1) := by decide +kernel
theorem dX7_comes_95 : decode cX7_comes 95 = .ok (.invokevirtual 97, 3) := by decide +kernel
theorem dX7_comes_98 : decode cX7_comes 98 = .ok (.iinc 7 1, 3) := by decide +kernel
theorem dX7_comes_101 : decode cX7_comes 101 = .ok (.goto (-19), 3) := by decide +kernel
theorem dX7_comes_104 : decode cX7_comes 104 = .ok (.aload_n 0, 1) := by decide +kernel
theorem dX7_comes_105 : decode cX7_comes 105 = .ok (.iload 6, 2) := by decide +kernel
theorem dX7_comes_107 : decode cX7_comes 107 = .ok (.iconst 0, 1) := by decide +kernel
theorem dX7_comes_108 : decode cX7_comes 108 = .ok (.iload_n 1, 1) := by decide +kernel
theorem dX7_comes_109 : decode cX7_comes 109 = .ok (.invokevirtual 97, 3) := by decide +kernel
theorem dX7_comes_112 : decode cX7_comes 112 = .ok (.aload_n 0, 1) := by decide +kernel
theorem dX7_comes_113 : decode cX7_comes 113 = .ok (.iload 6, 2) := by decide +kernel
theorem dX7_comes_115 : decode cX7_comes 115 = .ok (.bipush 8, 2) := by decide +kernel
theorem dX7_comes_117 : decode cX7_comes 117 = .ok (.iload_n 2, 1) := by decide +kernel
theorem dX7_comes_118 : decode cX7_comes 118 = .ok (.invokevirtual 97, 3) := by decide +kernel
theorem dX7_comes_121 : decode cX7_comes 121 = .ok (.aload_n 0, 1) := by decide +kernel
theorem dX7_comes_122 : decode cX7_comes 122 = .ok (.iload 6, 2) := by decide +kernel
theorem dX7_comes_124 : decode cX7_comes 124 = .ok (.bipush 9, 2) := by decide +kernel
theorem dX7_comes_126 : decode cX7_comes 126 = .ok (.iload_n 3, 1) := by decide +kernel
theorem dX7_comes_127 : decode cX7_comes 127 = .ok (.invokevirtual 97, 3) := by decide +kernel
theorem dX7_comes_130 : decode cX7_comes 130 = .ok (.aload_n 0, 1) := by decide +kernel
theorem dX7_comes_131 : decode cX7_comes 131 = .ok (.iload 6, 2) := by decide +kernel
theorem dX7_comes_133 : decode cX7_comes 133 = .ok (.bipush 10, 2) := by decide +kernel
theorem dX7_comes_135 : decode cX7_comes 135 = .ok (.iload 4, 2) := by decide +kernel
theorem dX7_comes_137 : decode cX7_comes 137 = .ok (.invokevirtual 97, 3) := by decide +kernel
theorem dX7_comes_140 : decode cX7_comes 140 = .ok (.aload_n 0, 1) := by decide +kernel
theorem dX7_comes_141 : decode cX7_comes 141 = .ok (.iload 6, 2) := by decide +kernel
theorem dX7_comes_143 : decode cX7_comes 143 = .ok (.bipush 11, 2) := by decide +kernel
theorem dX7_comes_145 : decode cX7_comes 145 = .ok (.iload 5, 2) := by decide +kernel
theorem dX7_comes_147 : decode cX7_comes 147 = .ok (.invokevirtual 97, 3) := by decide +kernel
theorem dX7_comes_150 : decode cX7_comes 150 = .ok (.aload_n 0, 1) := by decide +kernel
theorem dX7_comes_151 : decode cX7_comes 151 = .ok (.getfield 7, 3) := by decide +kernel
theorem dX7_comes_154 : decode cX7_comes 154 = .ok (.iconst 5, 1) := by decide +kernel
theorem dX7_comes_155 : decode cX7_comes 155 = .ok (.dup2, 1) := by decide +kernel
theorem dX7_comes_156 : decode cX7_comes 156 = .ok (.iaload, 1) := by decide +kernel
theorem dX7_comes_157 : decode cX7_comes 157 = .ok (.iconst 1, 1) := by decide +kernel
theorem dX7_comes_158 : decode cX7_comes 158 = .ok (.iadd, 1) := by decide +kernel
theorem dX7_comes_159 : decode cX7_comes 159 = .ok (.iastore, 1) := by decide +kernel
theorem dX7_comes_160 : decode cX7_comes 160 = .ok (.iload 6, 2) := by decide +kernel
theorem dX7_comes_162 : decode cX7_comes 162 = .ok (.ireturn, 1) := by decide +kernel
theorem dX7_gets_0 : decode cX7_gets 0 = .ok (.aload_n 0, 1) := by decide +kernel
theorem dX7_gets_1 : decode cX7_gets 1 = .ok (.iload_n 1, 1) := by decide +kernel
theorem dX7_gets_2 : decode cX7_gets 2 = .ok (.invokevirtual 101, 3) := by decide +kernel
theorem dX7_gets_5 : decode cX7_gets 5 = .ok (.ifCond .ne 5, 3) := by decide +kernel
theorem dX7_gets_8 : decode cX7_gets 8 = .ok (.iconst (-1), 1) := by decide +kernel
theorem dX7_gets_9 : decode cX7_gets 9 = .ok (.ireturn, 1) := by decide +kernel
theorem dX7_gets_10 : decode cX7_gets 10 = .ok (.iload_n 2, 1) := by decide +kernel
theorem dX7_gets_11 : decode cX7_gets 11 = .ok (.i2l, 1) := by decide +kernel
theorem dX7_gets_12 : decode cX7_gets 12 = .ok (.iconst 0, 1) := by decide +kernel
theorem dX7_gets_13 : decode cX7_gets 13 = .ok (.bipush 20, 2) := by decide +kernel
theorem dX7_gets_15 : decode cX7_gets 15 = .ok (.invokestatic 47, 3) := by decide +kernel
theorem dX7_gets_18 : decode cX7_gets 18 = .ok (.ifCond .ne 6, 3) := by decide +kernel
theorem dX7_gets_21 : decode cX7_gets 21 = .ok (.bipush (-2), 2) := by decide +kernel
theorem dX7_gets_23 : decode cX7_gets 23 = .ok (.ireturn, 1) := by decide +kernel
theorem dX7_gets_24 : decode cX7_gets 24 = .ok (.aload_n 0, 1) := by decide +kernel
theorem dX7_gets_25 : decode cX7_gets 25 = .ok (.invokevirtual 73, 3) := by decide +kernel
theorem dX7_gets_28 : decode cX7_gets 28 = .ok (.aload_n 0, 1) := by decide +kernel
theorem dX7_gets_29 : decode cX7_gets 29 = .ok (.iload_n 1, 1) := by decide +kernel
theorem dX7_gets_30 : decode cX7_gets 30 = .ok (.bipush 13, 2) := by decide +kernel
theorem dX7_gets_32 : decode cX7_gets 32 = .ok (.invokevirtual 62, 3) := by decide +kernel
theorem dX7_gets_35 : decode cX7_gets 35 = .ok (.isub, 1) := by decide +kernel
theorem dX7_gets_36 : decode cX7_gets 36 = .ok (.iload_n 2, 1) := by decide +kernel
theorem dX7_gets_37 : decode cX7_gets 37 = .ok (.iadd, 1) := by decide +kernel
theorem dX7_gets_38 : decode cX7_gets 38 = .ok (.istore_n 3, 1) := by decide +kernel
theorem dX7_gets_39 : decode cX7_gets 39 = .ok (.iload_n 3, 1) := by decide +kernel
theorem dX7_gets_40 : decode cX7_gets 40 = .ok (.bipush 20, 2) := by decide +kernel
theorem dX7_gets_42 : decode cX7_gets 42 = .ok (.if_icmp .le 6, 3) := by decide +kernel
theorem dX7_gets_45 : decode cX7_gets 45 = .ok (.bipush (-5), 2) := by decide +kernel
theorem dX7_gets_47 : decode cX7_gets 47 = .ok (.ireturn, 1) := by decide +kernel
theorem dX7_gets_48 : decode cX7_gets 48 = .ok (.aload_n 0, 1) := by decide +kernel
theorem dX7_gets_49 : decode cX7_gets 49 = .ok (.iload_n 1, 1) := by decide +kernel
theorem dX7_gets_50 : decode cX7_gets 50 = .ok (.bipush 13, 2) := by decide +kernel
theorem dX7_gets_52 : decode cX7_gets 52 = .ok (.iload_n 2, 1) := by decide +kernel
theorem dX7_gets_53 : decode cX7_gets 53 = .ok (.invokevirtual 97, 3) := by decide +kernel
theorem dX7_gets_56 : decode cX7_gets 56 = .ok (.iload_n 3, 1) := by decide +kernel
theorem dX7_gets_57 : decode cX7_gets 57 = .ok (.ireturn, 1) := by decide +kernel
theorem dX7_needs_0 : decode cX7_needs 0 = .ok (.iload_n 2, 1) := by decide +kernel
theorem dX7_needs_1 : decode cX7_needs 1 = .ok (.aload_n 0, 1) := by decide +kernel
theorem dX7_needs_2 : decode cX7_needs 2 = .ok (.iload_n 1, 1) := by decide +kernel
theorem dX7_needs_3 : decode cX7_needs 3 = .ok (.bipush 13, 2) := by decide +kernel
theorem dX7_needs_5 : decode cX7_needs 5 = .ok (.invokevirtual 62, 3) := by decide +kernel
theorem dX7_needs_8 : decode cX7_needs 8 = .ok (.imul, 1) := by decide +kernel
theorem dX7_needs_9 : decode cX7_needs 9 = .ok (.bipush 19, 2) := by decide +kernel
theorem dX7_needs_11 : decode cX7_needs 11 = .ok (.iadd, 1) := by decide +kernel
theorem dX7_needs_12 : decode cX7_needs 12 = .ok (.bipush 20, 2) := by decide +kernel
theorem dX7_needs_14 : decode cX7_needs 14 = .ok (.idiv, 1) := by decide +kernel
theorem dX7_needs_15 : decode cX7_needs 15 = .ok (.ireturn, 1) := by decide +kernel
theorem dX7_suffices_0 : decode cX7_suffices 0 = .ok (.iconst 0, 1) := by decide +kernel
theorem dX7_suffices_1 : decode cX7_suffices 1 = .ok (.istore_n 2, 1) := by decide +kernel
theorem dX7_suffices_2 : decode cX7_suffices 2 = .ok (.iload_n 2, 1) := by decide +kernel
theorem dX7_suffices_3 : decode cX7_suffices 3 = .ok (.aload_n 0, 1) := by decide +kernel
theorem dX7_suffices_4 : decode cX7_suffices 4 = .ok (.getfield 7, 3) := by decide +kernel
theorem dX7_suffices_7 : decode cX7_suffices 7 = .ok (.iconst 5, 1) := by decide +kernel
theorem dX7_suffices_8 : decode cX7_suffices 8 = .ok (.iaload, 1) := by decide +kernel
theorem dX7_suffices_9 : decode cX7_suffices 9 = .ok (.if_icmp .ge 27, 3) := by decide +kernel
theorem dX7_suffices_12 : decode cX7_suffices 12 = .ok (.aload_n 0, 1) := by decide +kernel
theorem dX7_suffices_13 : decode cX7_suffices 13 = .ok (.iload_n 2, 1) := by decide +kernel
theorem dX7_suffices_14 : decode cX7_suffices 14 = .ok (.iload_n 1, 1) := by decide +kernel
theorem dX7_suffices_15 : decode cX7_suffices 15 = .ok (.invokevirtual 104, 3) := by decide +kernel
theorem dX7_suffices_18 : decode cX7_suffices 18 = .ok (.aload_n 0, 1) := by decide +kernel
theorem dX7_suffices_19 : decode cX7_suffices 19 = .ok (.iload_n 2, 1) := by decide +kernel
theorem dX7_suffices_20 : decode cX7_suffices 20 = .ok (.bipush 11, 2) := by decide +kernel
theorem dX7_suffices_22 : decode cX7_suffices 22 = .ok (.invokevirtual 62, 3) := by decide +kernel
theorem dX7_suffices_25 : decode cX7_suffices 25 = .ok (.if_icmp .le 5, 3) := by decide +kernel
theorem dX7_suffices_28 : decode cX7_suffices 28 = .ok (.iconst 0, 1) := by decide +kernel
theorem dX7_suffices_29 : decode cX7_suffices 29 = .ok (.ireturn, 1) := by decide +kernel
theorem dX7_suffices_30 : decode cX7_suffices 30 = .ok (.iinc 2 1, 3) := by decide +kernel
theorem dX7_suffices_33 : decode cX7_suffices 33 = .ok (.goto (-31), 3) := by decide +kernel
theorem dX7_suffices_36 : decode cX7_suffices 36 = .ok (.iconst 1, 1) := by decide +kernel
theorem dX7_suffices_37 : decode cX7_suffices 37 = .ok (.ireturn, 1) := by decide +kernel
theorem dX7_mixes_0 : decode cX7_mixes 0 = .ok (.iload_n 1, 1) := by decide +kernel
theorem dX7_mixes_1 : decode cX7_mixes 1 = .ok (.i2l, 1) := by decide +kernel
theorem dX7_mixes_2 : decode cX7_mixes 2 = .ok (.iconst 1, 1) := by decide +kernel
theorem dX7_mixes_3 : decode cX7_mixes 3 = .ok (.sipush 9999, 3) := by decide +kernel
theorem dX7_mixes_6 : decode cX7_mixes 6 = .ok (.invokestatic 47, 3) := by decide +kernel
theorem dX7_mixes_9 : decode cX7_mixes 9 = .ok (.ifCond .ne 6, 3) := by decide +kernel
theorem dX7_mixes_12 : decode cX7_mixes 12 = .ok (.bipush (-2), 2) := by decide +kernel
theorem dX7_mixes_14 : decode cX7_mixes 14 = .ok (.ireturn, 1) := by decide +kernel
theorem dX7_mixes_15 : decode cX7_mixes 15 = .ok (.aload_n 0, 1) := by decide +kernel
theorem dX7_mixes_16 : decode cX7_mixes 16 = .ok (.iconst 0, 1) := by decide +kernel
theorem dX7_mixes_17 : decode cX7_mixes 17 = .ok (.invokevirtual 107, 3) := by decide +kernel
theorem dX7_mixes_20 : decode cX7_mixes 20 = .ok (.ifCond .ne 11, 3) := by decide +kernel
theorem dX7_mixes_23 : decode cX7_mixes 23 = .ok (.aload_n 0, 1) := by decide +kernel
theorem dX7_mixes_24 : decode cX7_mixes 24 = .ok (.iload_n 1, 1) := by decide +kernel
theorem dX7_mixes_25 : decode cX7_mixes 25 = .ok (.invokevirtual 110, 3) := by decide +kernel
theorem dX7_mixes_28 : decode cX7_mixes 28 = .ok (.ifCond .ne 6, 3) := by decide +kernel
theorem dX7_mixes_31 : decode cX7_mixes 31 = .ok (.bipush (-5), 2) := by decide +kernel
theorem dX7_mixes_33 : decode cX7_mixes 33 = .ok (.ireturn, 1) := by decide +kernel
theorem dX7_mixes_34 : decode cX7_mixes 34 = .ok (.aload_n 0, 1) := by decide +kernel
theorem dX7_mixes_35 : decode cX7_mixes 35 = .ok (.invokevirtual 113, 3) := by decide +kernel
theorem dX7_mixes_38 : decode cX7_mixes 38 = .ok (.bipush 20, 2) := by decide +kernel
theorem dX7_mixes_40 : decode cX7_mixes 40 = .ok (.idiv, 1) := by decide +kernel
theorem dX7_mixes_41 : decode cX7_mixes 41 = .ok (.istore_n 2, 1) := by decide +kernel
theorem dX7_mixes_42 : decode cX7_mixes 42 = .ok (.iconst 0, 1) := by decide +kernel
theorem dX7_mixes_43 : decode cX7_mixes 43 = .ok (.istore_n 3, 1) := by decide +kernel
theorem dX7_mixes_44 : decode cX7_mixes 44 = .ok (.iload_n 3, 1) := by decide +kernel
theorem dX7_mixes_45 : decode cX7_mixes 45 = .ok (.aload_n 0, 1) := by decide +kernel
theorem dX7_mixes_46 : decode cX7_mixes 46 = .ok (.getfield 7, 3) := by decide +kernel
theorem dX7_mixes_49 : decode cX7_mixes 49 = .ok (.iconst 5, 1) := by decide +kernel
theorem dX7_mixes_50 : decode cX7_mixes 50 = .ok (.iaload, 1) := by decide +kernel
theorem dX7_mixes_51 : decode cX7_mixes 51 = .ok (.if_icmp .ge 30, 3) := by decide +kernel
theorem dX7_mixes_54 : decode cX7_mixes 54 = .ok (.aload_n 0, 1) := by decide +kernel
theorem dX7_mixes_55 : decode cX7_mixes 55 = .ok (.iload_n 3, 1) := by decide +kernel
theorem dX7_mixes_56 : decode cX7_mixes 56 = .ok (.bipush 11, 2) := by decide +kernel
theorem dX7_mixes_58 : decode cX7_mixes 58 = .ok (.aload_n 0, 1) := by decide +kernel
theorem dX7_mixes_59 : decode cX7_mixes 59 = .ok (.iload_n 3, 1) := by decide +kernel
theorem dX7_mixes_60 : decode cX7_mixes 60 = .ok (.bipush 11, 2) := by decide +kernel
theorem dX7_mixes_62 : decode cX7_mixes 62 = .ok (.invokevirtual 62, 3) := by decide +kernel
theorem dX7_mixes_65 : decode cX7_mixes 65 = .ok (.aload_n 0, 1) := by decide +kernel
theorem dX7_mixes_66 : decode cX7_mixes 66 = .ok (.iload_n 3, 1) := by decide +kernel
theorem dX7_mixes_67 : decode cX7_mixes 67 = .ok (.iload_n 1, 1) := by decide +kernel
theorem dX7_mixes_68 : decode cX7_mixes 68 = .ok (.invokevirtual 104, 3) := by decide +kernel
theorem dX7_mixes_71 : decode cX7_mixes 71 = .ok (.isub, 1) := by decide +kernel
theorem dX7_mixes_72 : decode cX7_mixes 72 = .ok (.invokevirtual 97, 3) := by decide +kernel
theorem dX7_mixes_75 : decode cX7_mixes 75 = .ok (.iinc 3 1, 3) := by decide +kernel
theorem dX7_mixes_78 : decode cX7_mixes 78 = .ok (.goto (-34), 3) := by decide +kernel
theorem dX7_mixes_81 : decode cX7_mixes 81 = .ok (.aload_n 0, 1) := by decide +kernel
theorem dX7_mixes_82 : decode cX7_mixes 82 = .ok (.getfield 7, 3) := by decide +kernel
theorem dX7_mixes_85 : decode cX7_mixes 85 = .ok (.iconst 3, 1) := by decide +kernel
theorem dX7_mixes_86 : decode cX7_mixes 86 = .ok (.dup2, 1) := by decide +kernel
theorem dX7_mixes_87 : decode cX7_mixes 87 = .ok (.iaload, 1) := by decide +kernel
theorem dX7_mixes_88 : decode cX7_mixes 88 = .ok (.iload_n 1, 1) := by decide +kernel
theorem dX7_mixes_89 : decode cX7_mixes 89 = .ok (.iadd, 1) := by decide +kernel
theorem dX7_mixes_90 : decode cX7_mixes 90 = .ok (.iastore, 1) := by decide +kernel
theorem dX7_mixes_91 : decode cX7_mixes 91 = .ok (.aload_n 0, 1) := by decide +kernel
theorem dX7_mixes_92 : decode cX7_mixes 92 = .ok (.getfield 7, 3) := by decide +kernel
theorem dX7_mixes_95 : decode cX7_mixes 95 = .ok (.iconst 4, 1) := by decide +kernel
theorem dX7_mixes_96 : decode cX7_mixes 96 = .ok (.dup2, 1) := by decide +kernel
theorem dX7_mixes_97 : decode cX7_mixes 97 = .ok (.iaload, 1) := by decide +kernel
theorem dX7_mixes_98 : decode cX7_mixes 98 = .ok (.iload_n 1, 1) := by decide +kernel
theorem dX7_mixes_99 : decode cX7_mixes 99 = .ok (.iload_n 2, 1) := by decide +kernel
theorem dX7_mixes_100 : decode cX7_mixes 100 = .ok (.imul, 1) := by decide +kernel
theorem dX7_mixes_101 : decode cX7_mixes 101 = .ok (.bipush 100, 2) := by decide +kernel
theorem dX7_mixes_103 : decode cX7_mixes 103 = .ok (.idiv, 1) := by decide +kernel
theorem dX7_mixes_104 : decode cX7_mixes 104 = .ok (.iadd, 1) := by decide +kernel
theorem dX7_mixes_105 : decode cX7_mixes 105 = .ok (.iastore, 1) := by decide +kernel
theorem dX7_mixes_106 : decode cX7_mixes 106 = .ok (.iload_n 2, 1) := by decide +kernel
theorem dX7_mixes_107 : decode cX7_mixes 107 = .ok (.ireturn, 1) := by decide +kernel
theorem dX7_waits_0 : decode cX7_waits 0 = .ok (.iload_n 1, 1) := by decide +kernel
theorem dX7_waits_1 : decode cX7_waits 1 = .ok (.i2l, 1) := by decide +kernel
theorem dX7_waits_2 : decode cX7_waits 2 = .ok (.iconst 1, 1) := by decide +kernel
theorem dX7_waits_3 : decode cX7_waits 3 = .ok (.bipush 99, 2) := by decide +kernel
theorem dX7_waits_5 : decode cX7_waits 5 = .ok (.invokestatic 47, 3) := by decide +kernel
theorem dX7_waits_8 : decode cX7_waits 8 = .ok (.ifCond .ne 6, 3) := by decide +kernel
theorem dX7_waits_11 : decode cX7_waits 11 = .ok (.bipush (-2), 2) := by decide +kernel
theorem dX7_waits_13 : decode cX7_waits 13 = .ok (.ireturn, 1) := by decide +kernel
theorem dX7_waits_14 : decode cX7_waits 14 = .ok (.aload_n 0, 1) := by decide +kernel
theorem dX7_waits_15 : decode cX7_waits 15 = .ok (.getfield 7, 3) := by decide +kernel
theorem dX7_waits_18 : decode cX7_waits 18 = .ok (.iconst 2, 1) := by decide +kernel
theorem dX7_waits_19 : decode cX7_waits 19 = .ok (.iaload, 1) := by decide +kernel
theorem dX7_waits_20 : decode cX7_waits 20 = .ok (.iload_n 1, 1) := by decide +kernel
theorem dX7_waits_21 : decode cX7_waits 21 = .ok (.iadd, 1) := by decide +kernel
theorem dX7_waits_22 : decode cX7_waits 22 = .ok (.sipush 9999, 3) := by decide +kernel
theorem dX7_waits_25 : decode cX7_waits 25 = .ok (.if_icmp .le 6, 3) := by decide +kernel
theorem dX7_waits_28 : decode cX7_waits 28 = .ok (.bipush (-5), 2) := by decide +kernel
theorem dX7_waits_30 : decode cX7_waits 30 = .ok (.ireturn, 1) := by decide +kernel
theorem dX7_waits_31 : decode cX7_waits 31 = .ok (.aload_n 0, 1) := by decide +kernel
theorem dX7_waits_32 : decode cX7_waits 32 = .ok (.getfield 7, 3) := by decide +kernel
theorem dX7_waits_35 : decode cX7_waits 35 = .ok (.iconst 2, 1) := by decide +kernel
theorem dX7_waits_36 : decode cX7_waits 36 = .ok (.dup2, 1) := by decide +kernel
theorem dX7_waits_37 : decode cX7_waits 37 = .ok (.iaload, 1) := by decide +kernel
theorem dX7_waits_38 : decode cX7_waits 38 = .ok (.iload_n 1, 1) := by decide +kernel
theorem dX7_waits_39 : decode cX7_waits 39 = .ok (.iadd, 1) := by decide +kernel
theorem dX7_waits_40 : decode cX7_waits 40 = .ok (.iastore, 1) := by decide +kernel
theorem dX7_waits_41 : decode cX7_waits 41 = .ok (.iconst 0, 1) := by decide +kernel
theorem dX7_waits_42 : decode cX7_waits 42 = .ok (.istore_n 2, 1) := by decide +kernel
theorem dX7_waits_43 : decode cX7_waits 43 = .ok (.iload_n 2, 1) := by decide +kernel
theorem dX7_waits_44 : decode cX7_waits 44 = .ok (.aload_n 0, 1) := by decide +kernel
theorem dX7_waits_45 : decode cX7_waits 45 = .ok (.getfield 7, 3) := by decide +kernel
theorem dX7_waits_48 : decode cX7_waits 48 = .ok (.iconst 5, 1) := by decide +kernel
theorem dX7_waits_49 : decode cX7_waits 49 = .ok (.iaload, 1) := by decide +kernel
theorem dX7_waits_50 : decode cX7_waits 50 = .ok (.if_icmp .ge 25, 3) := by decide +kernel
theorem dX7_waits_53 : decode cX7_waits 53 = .ok (.aload_n 0, 1) := by decide +kernel
theorem dX7_waits_54 : decode cX7_waits 54 = .ok (.iload_n 2, 1) := by decide +kernel
theorem dX7_waits_55 : decode cX7_waits 55 = .ok (.bipush 12, 2) := by decide +kernel
theorem dX7_waits_57 : decode cX7_waits 57 = .ok (.aload_n 0, 1) := by decide +kernel
theorem dX7_waits_58 : decode cX7_waits 58 = .ok (.iload_n 2, 1) := by decide +kernel
theorem dX7_waits_59 : decode cX7_waits 59 = .ok (.bipush 12, 2) := by decide +kernel
theorem dX7_waits_61 : decode cX7_waits 61 = .ok (.invokevirtual 62, 3) := by decide +kernel
theorem dX7_waits_64 : decode cX7_waits 64 = .ok (.iload_n 1, 1) := by decide +kernel
theorem dX7_waits_65 : decode cX7_waits 65 = .ok (.iadd, 1) := by decide +kernel
theorem dX7_waits_66 : decode cX7_waits 66 = .ok (.invokevirtual 97, 3) := by decide +kernel
theorem dX7_waits_69 : decode cX7_waits 69 = .ok (.iinc 2 1, 3) := by decide +kernel
theorem dX7_waits_72 : decode cX7_waits 72 = .ok (.goto (-29), 3) := by decide +kernel
theorem dX7_waits_75 : decode cX7_waits 75 = .ok (.aload_n 0, 1) := by decide +kernel
theorem dX7_waits_76 : decode cX7_waits 76 = .ok (.getfield 7, 3) := by decide +kernel
theorem dX7_waits_79 : decode cX7_waits 79 = .ok (.iconst 2, 1) := by decide +kernel
theorem dX7_waits_80 : decode cX7_waits 80 = .ok (.iaload, 1) := by decide +kernel
theorem dX7_waits_81 : decode cX7_waits 81 = .ok (.ireturn, 1) := by decide +kernel
theorem dX7_set_0 : decode cX7_set 0 = .ok (.iload_n 1, 1) := by decide +kernel
theorem dX7_set_1 : decode cX7_set 1 = .ok (.ifCond .ne 17, 3) := by decide +kernel
theorem dX7_set_4 : decode cX7_set 4 = .ok (.iload_n 2, 1) := by decide +kernel
theorem dX7_set_5 : decode cX7_set 5 = .ok (.i2l, 1) := by decide +kernel
theorem dX7_set_6 : decode cX7_set 6 = .ok (.iconst 0, 1) := by decide +kernel
theorem dX7_set_7 : decode cX7_set 7 = .ok (.bipush 99, 2) := by decide +kernel
theorem dX7_set_9 : decode cX7_set 9 = .ok (.invokestatic 47, 3) := by decide +kernel
theorem dX7_set_12 : decode cX7_set 12 = .ok (.ifCond .ne 25, 3) := by decide +kernel
theorem dX7_set_15 : decode cX7_set 15 = .ok (.goto 19, 3) := by decide +kernel
theorem dX7_set_18 : decode cX7_set 18 = .ok (.iload_n 1, 1) := by decide +kernel
theorem dX7_set_19 : decode cX7_set 19 = .ok (.iconst 1, 1) := by decide +kernel
theorem dX7_set_20 : decode cX7_set 20 = .ok (.if_icmp .ne 14, 3) := by decide +kernel
theorem dX7_set_23 : decode cX7_set 23 = .ok (.iload_n 2, 1) := by decide +kernel
theorem dX7_set_24 : decode cX7_set 24 = .ok (.i2l, 1) := by decide +kernel
theorem dX7_set_25 : decode cX7_set 25 = .ok (.iconst 1, 1) := by decide +kernel
theorem dX7_set_26 : decode cX7_set 26 = .ok (.bipush 7, 2) := by decide +kernel
theorem dX7_set_28 : decode cX7_set 28 = .ok (.invokestatic 47, 3) := by decide +kernel
theorem dX7_set_31 : decode cX7_set 31 = .ok (.ifCond .ne 6, 3) := by decide +kernel
theorem dX7_set_34 : decode cX7_set 34 = .ok (.bipush (-2), 2) := by decide +kernel
theorem dX7_set_36 : decode cX7_set 36 = .ok (.ireturn, 1) := by decide +kernel
theorem dX7_set_37 : decode cX7_set 37 = .ok (.aload_n 0, 1) := by decide +kernel
theorem dX7_set_38 : decode cX7_set 38 = .ok (.invokevirtual 55, 3) := by decide +kernel
theorem dX7_set_41 : decode cX7_set 41 = .ok (.aload_n 0, 1) := by decide +kernel
theorem dX7_set_42 : decode cX7_set 42 = .ok (.getfield 7, 3) := by decide +kernel
theorem dX7_set_45 : decode cX7_set 45 = .ok (.iload_n 1, 1) := by decide +kernel
theorem dX7_set_46 : decode cX7_set 46 = .ok (.iaload, 1) := by decide +kernel
theorem dX7_set_47 : decode cX7_set 47 = .ok (.istore_n 3, 1) := by decide +kernel
theorem dX7_set_48 : decode cX7_set 48 = .ok (.aload_n 0, 1) := by decide +kernel
theorem dX7_set_49 : decode cX7_set 49 = .ok (.getfield 7, 3) := by decide +kernel
theorem dX7_set_52 : decode cX7_set 52 = .ok (.iload_n 1, 1) := by decide +kernel
theorem dX7_set_53 : decode cX7_set 53 = .ok (.iload_n 2, 1) := by decide +kernel
theorem dX7_set_54 : decode cX7_set 54 = .ok (.iastore, 1) := by decide +kernel
theorem dX7_set_55 : decode cX7_set 55 = .ok (.aload_n 0, 1) := by decide +kernel
theorem dX7_set_56 : decode cX7_set 56 = .ok (.iload_n 3, 1) := by decide +kernel
theorem dX7_set_57 : decode cX7_set 57 = .ok (.invokevirtual 58, 3) := by decide +kernel
theorem dX7_set_60 : decode cX7_set 60 = .ok (.ireturn, 1) := by decide +kernel
theorem dX7_leaf_0 : decode cX7_leaf 0 = .ok (.aload_n 0, 1) := by decide +kernel
theorem dX7_leaf_1 : decode cX7_leaf 1 = .ok (.invokevirtual 55, 3) := by decide +kernel
theorem dX7_leaf_4 : decode cX7_leaf 4 = .ok (.aload_n 0, 1) := by decide +kernel
theorem dX7_leaf_5 : decode cX7_leaf 5 = .ok (.aload_n 0, 1) := by decide +kernel
theorem dX7_leaf_6 : decode cX7_leaf 6 = .ok (.iload_n 1, 1) := by decide +kernel
theorem dX7_leaf_7 : decode cX7_leaf 7 = .ok (.iload_n 2, 1) := by decide +kernel
theorem dX7_leaf_8 : decode cX7_leaf 8 = .ok (.bipush 127, 2) := by decide +kernel
theorem dX7_leaf_10 : decode cX7_leaf 10 = .ok (.iand, 1) := by decide +kernel
theorem dX7_leaf_11 : decode cX7_leaf 11 = .ok (.iload_n 2, 1) := by decide +kernel
theorem dX7_leaf_12 : decode cX7_leaf 12 = .ok (.bipush 7, 2) := by decide +kernel
theorem dX7_leaf_14 : decode cX7_leaf 14 = .ok (.ishr, 1) := by decide +kernel
theorem dX7_leaf_15 : decode cX7_leaf 15 = .ok (.bipush 127, 2) := by decide +kernel
theorem dX7_leaf_17 : decode cX7_leaf 17 = .ok (.iand, 1) := by decide +kernel
theorem dX7_leaf_18 : decode cX7_leaf 18 = .ok (.iload_n 2, 1) := by decide +kernel
theorem dX7_leaf_19 : decode cX7_leaf 19 = .ok (.bipush 14, 2) := by decide +kernel
theorem dX7_leaf_21 : decode cX7_leaf 21 = .ok (.ishr, 1) := by decide +kernel
theorem dX7_leaf_22 : decode cX7_leaf 22 = .ok (.bipush 127, 2) := by decide +kernel
theorem dX7_leaf_24 : decode cX7_leaf 24 = .ok (.iand, 1) := by decide +kernel
theorem dX7_leaf_25 : decode cX7_leaf 25 = .ok (.iload_n 3, 1) := by decide +kernel
theorem dX7_leaf_26 : decode cX7_leaf 26 = .ok (.invokevirtual 116, 3) := by decide +kernel
theorem dX7_leaf_29 : decode cX7_leaf 29 = .ok (.invokevirtual 58, 3) := by decide +kernel
theorem dX7_leaf_32 : decode cX7_leaf 32 = .ok (.ireturn, 1) := by decide +kernel
theorem dX7_row_0 : decode cX7_row 0 = .ok (.aload_n 0, 1) := by decide +kernel
theorem dX7_row_1 : decode cX7_row 1 = .ok (.iload_n 1, 1) := by decide +kernel
theorem dX7_row_2 : decode cX7_row 2 = .ok (.invokevirtual 101, 3) := by decide +kernel
theorem dX7_row_5 : decode cX7_row 5 = .ok (.ifCond .ne 5, 3) := by decide +kernel
theorem dX7_row_8 : decode cX7_row 8 = .ok (.iconst (-1), 1) := by decide +kernel
theorem dX7_row_9 : decode cX7_row 9 = .ok (.ireturn, 1) := by decide +kernel
theorem dX7_row_10 : decode cX7_row 10 = .ok (.iconst 0, 1) := by decide +kernel
theorem dX7_row_11 : decode cX7_row 11 = .ok (.istore 4, 2) := by decide +kernel
theorem dX7_row_13 : decode cX7_row 13 = .ok (.iload 4, 2) := by decide +kernel
theorem dX7_row_15 : decode cX7_row 15 = .ok (.bipush 7, 2) := by decide +kernel
theorem dX7_row_17 : decode cX7_row 17 = .ok (.if_icmp .ge 29, 3) := by decide +kernel
theorem dX7_row_20 : decode cX7_row 20 = .ok (.lload_n 2, 1) := by decide +kernel
theorem dX7_row_21 : decode cX7_row 21 = .ok (.iconst 5, 1) := by decide +kernel
theorem dX7_row_22 : decode cX7_row 22 = .ok (.iload 4, 2) := by decide +kernel
theorem dX7_row_24 : decode cX7_row 24 = .ok (.imul, 1) := by decide +kernel
theorem dX7_row_25 : decode cX7_row 25 = .ok (.lshr, 1) := by decide +kernel
theorem dX7_row_26 : decode cX7_row 26 = .ok (.ldc2_w 120, 3) := by decide +kernel
theorem dX7_row_29 : decode cX7_row 29 = .ok (.land, 1) := by decide +kernel
theorem dX7_row_30 : decode cX7_row 30 = .ok (.ldc2_w 122, 3) := by decide +kernel
theorem dX7_row_33 : decode cX7_row 33 = .ok (.lcmp, 1) := by decide +kernel
theorem dX7_row_34 : decode cX7_row 34 = .ok (.ifCond .le 6, 3) := by decide +kernel
theorem dX7_row_37 : decode cX7_row 37 = .ok (.bipush (-2), 2) := by decide +kernel
theorem dX7_row_39 : decode cX7_row 39 = .ok (.ireturn, 1) := by decide +kernel
theorem dX7_row_40 : decode cX7_row 40 = .ok (.iinc 4 1, 3) := by decide +kernel
theorem dX7_row_43 : decode cX7_row 43 = .ok (.goto (-30), 3) := by decide +kernel
theorem dX7_row_46 : decode cX7_row 46 = .ok (.aload_n 0, 1) := by decide +kernel
theorem dX7_row_47 : decode cX7_row 47 = .ok (.invokevirtual 55, 3) := by decide +kernel
theorem dX7_row_50 : decode cX7_row 50 = .ok (.iconst 0, 1) := by decide +kernel
theorem dX7_row_51 : decode cX7_row 51 = .ok (.istore 4, 2) := by decide +kernel
theorem dX7_row_53 : decode cX7_row 53 = .ok (.iload 4, 2) := by decide +kernel
theorem dX7_row_55 : decode cX7_row 55 = .ok (.bipush 7, 2) := by decide +kernel
theorem dX7_row_57 : decode cX7_row 57 = .ok (.if_icmp .ge 32, 3) := by decide +kernel
theorem dX7_row_60 : decode cX7_row 60 = .ok (.aload_n 0, 1) := by decide +kernel
theorem dX7_row_61 : decode cX7_row 61 = .ok (.iload_n 1, 1) := by decide +kernel
theorem dX7_row_62 : decode cX7_row 62 = .ok (.iconst 1, 1) := by decide +kernel
theorem dX7_row_63 : decode cX7_row 63 = .ok (.iload 4, 2) := by decide +kernel
theorem dX7_row_65 : decode cX7_row 65 = .ok (.iadd, 1) := by decide +kernel
theorem dX7_row_66 : decode cX7_row 66 = .ok (.lload_n 2, 1) := by decide +kernel
theorem dX7_row_67 : decode cX7_row 67 = .ok (.iconst 5, 1) := by decide +kernel
theorem dX7_row_68 : decode cX7_row 68 = .ok (.iload 4, 2) := by decide +kernel
theorem dX7_row_70 : decode cX7_row 70 = .ok (.imul, 1) := by decide +kernel
theorem dX7_row_71 : decode cX7_row 71 = .ok (.lshr, 1) := by decide +kernel
theorem dX7_row_72 : decode cX7_row 72 = .ok (.ldc2_w 120, 3) := by decide +kernel
theorem dX7_row_75 : decode cX7_row 75 = .ok (.land, 1) := by decide +kernel
theorem dX7_row_76 : decode cX7_row 76 = .ok (.l2i, 1) := by decide +kernel
theorem dX7_row_77 : decode cX7_row 77 = .ok (.bipush 9, 2) := by decide +kernel
theorem dX7_row_79 : decode cX7_row 79 = .ok (.isub, 1) := by decide +kernel
theorem dX7_row_80 : decode cX7_row 80 = .ok (.invokevirtual 97, 3) := by decide +kernel
theorem dX7_row_83 : decode cX7_row 83 = .ok (.iinc 4 1, 3) := by decide +kernel
theorem dX7_row_86 : decode cX7_row 86 = .ok (.goto (-33), 3) := by decide +kernel
theorem dX7_row_89 : decode cX7_row 89 = .ok (.aload_n 0, 1) := by decide +kernel
theorem dX7_row_90 : decode cX7_row 90 = .ok (.aload_n 0, 1) := by decide +kernel
theorem dX7_row_91 : decode cX7_row 91 = .ok (.iload_n 1, 1) := by decide +kernel
theorem dX7_row_92 : decode cX7_row 92 = .ok (.invokevirtual 66, 3) := by decide +kernel
theorem dX7_row_95 : decode cX7_row 95 = .ok (.invokevirtual 58, 3) := by decide +kernel
theorem dX7_row_98 : decode cX7_row 98 = .ok (.ireturn, 1) := by decide +kernel
theorem dX7_buy_0 : decode cX7_buy 0 = .ok (.aload_n 0, 1) := by decide +kernel
theorem dX7_buy_1 : decode cX7_buy 1 = .ok (.iload_n 1, 1) := by decide +kernel
theorem dX7_buy_2 : decode cX7_buy 2 = .ok (.invokevirtual 101, 3) := by decide +kernel
theorem dX7_buy_5 : decode cX7_buy 5 = .ok (.ifCond .ne 5, 3) := by decide +kernel
theorem dX7_buy_8 : decode cX7_buy 8 = .ok (.iconst (-1), 1) := by decide +kernel
theorem dX7_buy_9 : decode cX7_buy 9 = .ok (.ireturn, 1) := by decide +kernel
theorem dX7_buy_10 : decode cX7_buy 10 = .ok (.iload_n 2, 1) := by decide +kernel
theorem dX7_buy_11 : decode cX7_buy 11 = .ok (.i2l, 1) := by decide +kernel
theorem dX7_buy_12 : decode cX7_buy 12 = .ok (.iconst 1, 1) := by decide +kernel
theorem dX7_buy_13 : decode cX7_buy 13 = .ok (.sipush 9999, 3) := by decide +kernel
theorem dX7_buy_16 : decode cX7_buy 16 = .ok (.invokestatic 47, 3) := by decide +kernel
theorem dX7_buy_19 : decode cX7_buy 19 = .ok (.ifCond .ne 6, 3) := by decide +kernel
theorem dX7_buy_22 : decode cX7_buy 22 = .ok (.bipush (-2), 2) := by decide +kernel
theorem dX7_buy_24 : decode cX7_buy 24 = .ok (.ireturn, 1) := by decide +kernel
theorem dX7_buy_25 : decode cX7_buy 25 = .ok (.aload_n 0, 1) := by decide +kernel
theorem dX7_buy_26 : decode cX7_buy 26 = .ok (.iload_n 1, 1) := by decide +kernel
theorem dX7_buy_27 : decode cX7_buy 27 = .ok (.bipush 11, 2) := by decide +kernel
theorem dX7_buy_29 : decode cX7_buy 29 = .ok (.invokevirtual 62, 3) := by decide +kernel
theorem dX7_buy_32 : decode cX7_buy 32 = .ok (.iload_n 2, 1) := by decide +kernel
theorem dX7_buy_33 : decode cX7_buy 33 = .ok (.iadd, 1) := by decide +kernel
theorem dX7_buy_34 : decode cX7_buy 34 = .ok (.istore_n 3, 1) := by decide +kernel
theorem dX7_buy_35 : decode cX7_buy 35 = .ok (.iload_n 3, 1) := by decide +kernel
theorem dX7_buy_36 : decode cX7_buy 36 = .ok (.sipush 9999, 3) := by decide +kernel
theorem dX7_buy_39 : decode cX7_buy 39 = .ok (.if_icmp .le 6, 3) := by decide +kernel
theorem dX7_buy_42 : decode cX7_buy 42 = .ok (.bipush (-5), 2) := by decide +kernel
theorem dX7_buy_44 : decode cX7_buy 44 = .ok (.ireturn, 1) := by decide +kernel
theorem dX7_buy_45 : decode cX7_buy 45 = .ok (.aload_n 0, 1) := by decide +kernel
theorem dX7_buy_46 : decode cX7_buy 46 = .ok (.invokevirtual 55, 3) := by decide +kernel
theorem dX7_buy_49 : decode cX7_buy 49 = .ok (.aload_n 0, 1) := by decide +kernel
theorem dX7_buy_50 : decode cX7_buy 50 = .ok (.iload_n 1, 1) := by decide +kernel
theorem dX7_buy_51 : decode cX7_buy 51 = .ok (.bipush 12, 2) := by decide +kernel
theorem dX7_buy_53 : decode cX7_buy 53 = .ok (.aload_n 0, 1) := by decide +kernel
theorem dX7_buy_54 : decode cX7_buy 54 = .ok (.iload_n 1, 1) := by decide +kernel
theorem dX7_buy_55 : decode cX7_buy 55 = .ok (.bipush 11, 2) := by decide +kernel
theorem dX7_buy_57 : decode cX7_buy 57 = .ok (.invokevirtual 62, 3) := by decide +kernel
theorem dX7_buy_60 : decode cX7_buy 60 = .ok (.aload_n 0, 1) := by decide +kernel
theorem dX7_buy_61 : decode cX7_buy 61 = .ok (.iload_n 1, 1) := by decide +kernel
theorem dX7_buy_62 : decode cX7_buy 62 = .ok (.bipush 12, 2) := by decide +kernel
theorem dX7_buy_64 : decode cX7_buy 64 = .ok (.invokevirtual 62, 3) := by decide +kernel
theorem dX7_buy_67 : decode cX7_buy 67 = .ok (.imul, 1) := by decide +kernel
theorem dX7_buy_68 : decode cX7_buy 68 = .ok (.iload_n 3, 1) := by decide +kernel
theorem dX7_buy_69 : decode cX7_buy 69 = .ok (.idiv, 1) := by decide +kernel
theorem dX7_buy_70 : decode cX7_buy 70 = .ok (.invokevirtual 97, 3) := by decide +kernel
theorem dX7_buy_73 : decode cX7_buy 73 = .ok (.aload_n 0, 1) := by decide +kernel
theorem dX7_buy_74 : decode cX7_buy 74 = .ok (.iload_n 1, 1) := by decide +kernel
theorem dX7_buy_75 : decode cX7_buy 75 = .ok (.bipush 11, 2) := by decide +kernel
theorem dX7_buy_77 : decode cX7_buy 77 = .ok (.iload_n 3, 1) := by decide +kernel
theorem dX7_buy_78 : decode cX7_buy 78 = .ok (.invokevirtual 97, 3) := by decide +kernel
theorem dX7_buy_81 : decode cX7_buy 81 = .ok (.aload_n 0, 1) := by decide +kernel
theorem dX7_buy_82 : decode cX7_buy 82 = .ok (.iload_n 3, 1) := by decide +kernel
theorem dX7_buy_83 : decode cX7_buy 83 = .ok (.invokevirtual 58, 3) := by decide +kernel
theorem dX7_buy_86 : decode cX7_buy 86 = .ok (.ireturn, 1) := by decide +kernel
theorem dX7_bound_0 : decode cX7_bound 0 = .ok (.iload_n 1, 1) := by decide +kernel
theorem dX7_bound_1 : decode cX7_bound 1 = .ok (.i2l, 1) := by decide +kernel
theorem dX7_bound_2 : decode cX7_bound 2 = .ok (.iconst 0, 1) := by decide +kernel
theorem dX7_bound_3 : decode cX7_bound 3 = .ok (.iconst 2, 1) := by decide +kernel
theorem dX7_bound_4 : decode cX7_bound 4 = .ok (.invokestatic 47, 3) := by decide +kernel
theorem dX7_bound_7 : decode cX7_bound 7 = .ok (.ifCond .ne 5, 3) := by decide +kernel
theorem dX7_bound_10 : decode cX7_bound 10 = .ok (.iconst (-1), 1) := by decide +kernel
theorem dX7_bound_11 : decode cX7_bound 11 = .ok (.ireturn, 1) := by decide +kernel
theorem dX7_bound_12 : decode cX7_bound 12 = .ok (.iload_n 2, 1) := by decide +kernel
theorem dX7_bound_13 : decode cX7_bound 13 = .ok (.i2l, 1) := by decide +kernel
theorem dX7_bound_14 : decode cX7_bound 14 = .ok (.iconst 0, 1) := by decide +kernel
theorem dX7_bound_15 : decode cX7_bound 15 = .ok (.bipush 100, 2) := by decide +kernel
theorem dX7_bound_17 : decode cX7_bound 17 = .ok (.invokestatic 47, 3) := by decide +kernel
theorem dX7_bound_20 : decode cX7_bound 20 = .ok (.ifCond .eq 14, 3) := by decide +kernel
theorem dX7_bound_23 : decode cX7_bound 23 = .ok (.iload_n 3, 1) := by decide +kernel
theorem dX7_bound_24 : decode cX7_bound 24 = .ok (.i2l, 1) := by decide +kernel
theorem dX7_bound_25 : decode cX7_bound 25 = .ok (.iload_n 2, 1) := by decide +kernel
theorem dX7_bound_26 : decode cX7_bound 26 = .ok (.bipush 100, 2) := by decide +kernel
theorem dX7_bound_28 : decode cX7_bound 28 = .ok (.invokestatic 47, 3) := by decide +kernel
theorem dX7_bound_31 : decode cX7_bound 31 = .ok (.ifCond .ne 6, 3) := by decide +kernel
theorem dX7_bound_34 : decode cX7_bound 34 = .ok (.bipush (-2), 2) := by decide +kernel
theorem dX7_bound_36 : decode cX7_bound 36 = .ok (.ireturn, 1) := by decide +kernel
theorem dX7_bound_37 : decode cX7_bound 37 = .ok (.aload_n 0, 1) := by decide +kernel
theorem dX7_bound_38 : decode cX7_bound 38 = .ok (.invokevirtual 55, 3) := by decide +kernel
theorem dX7_bound_41 : decode cX7_bound 41 = .ok (.bipush 100, 2) := by decide +kernel
theorem dX7_bound_43 : decode cX7_bound 43 = .ok (.aload_n 0, 1) := by decide +kernel
theorem dX7_bound_44 : decode cX7_bound 44 = .ok (.getfield 7, 3) := by decide +kernel
theorem dX7_bound_47 : decode cX7_bound 47 = .ok (.bipush 6, 2) := by decide +kernel
theorem dX7_bound_49 : decode cX7_bound 49 = .ok (.iload_n 1, 1) := by decide +kernel
theorem dX7_bound_50 : decode cX7_bound 50 = .ok (.iadd, 1) := by decide +kernel
theorem dX7_bound_51 : decode cX7_bound 51 = .ok (.iaload, 1) := by decide +kernel
theorem dX7_bound_52 : decode cX7_bound 52 = .ok (.imul, 1) := by decide +kernel
theorem dX7_bound_53 : decode cX7_bound 53 = .ok (.aload_n 0, 1) := by decide +kernel
theorem dX7_bound_54 : decode cX7_bound 54 = .ok (.getfield 7, 3) := by decide +kernel
theorem dX7_bound_57 : decode cX7_bound 57 = .ok (.bipush 9, 2) := by decide +kernel
theorem dX7_bound_59 : decode cX7_bound 59 = .ok (.iload_n 1, 1) := by decide +kernel
theorem dX7_bound_60 : decode cX7_bound 60 = .ok (.iadd, 1) := by decide +kernel
theorem dX7_bound_61 : decode cX7_bound 61 = .ok (.iaload, 1) := by decide +kernel
theorem dX7_bound_62 : decode cX7_bound 62 = .ok (.iadd, 1) := by decide +kernel
theorem dX7_bound_63 : decode cX7_bound 63 = .ok (.istore 4, 2) := by decide +kernel
theorem dX7_bound_65 : decode cX7_bound 65 = .ok (.aload_n 0, 1) := by decide +kernel
theorem dX7_bound_66 : decode cX7_bound 66 = .ok (.getfield 7, 3) := by decide +kernel
theorem dX7_bound_69 : decode cX7_bound 69 = .ok (.bipush 6, 2) := by decide +kernel
theorem dX7_bound_71 : decode cX7_bound 71 = .ok (.iload_n 1, 1) := by decide +kernel
theorem dX7_bound_72 : decode cX7_bound 72 = .ok (.iadd, 1) := by decide +kernel
theorem dX7_bound_73 : decode cX7_bound 73 = .ok (.iload_n 2, 1) := by decide +kernel
theorem dX7_bound_74 : decode cX7_bound 74 = .ok (.iastore, 1) := by decide +kernel
theorem dX7_bound_75 : decode cX7_bound 75 = .ok (.aload_n 0, 1) := by decide +kernel
theorem dX7_bound_76 : decode cX7_bound 76 = .ok (.getfield 7, 3) := by decide +kernel
theorem dX7_bound_79 : decode cX7_bound 79 = .ok (.bipush 9, 2) := by decide +kernel
theorem dX7_bound_81 : decode cX7_bound 81 = .ok (.iload_n 1, 1) := by decide +kernel
theorem dX7_bound_82 : decode cX7_bound 82 = .ok (.iadd, 1) := by decide +kernel
theorem dX7_bound_83 : decode cX7_bound 83 = .ok (.iload_n 3, 1) := by decide +kernel
theorem dX7_bound_84 : decode cX7_bound 84 = .ok (.iastore, 1) := by decide +kernel
theorem dX7_bound_85 : decode cX7_bound 85 = .ok (.aload_n 0, 1) := by decide +kernel
theorem dX7_bound_86 : decode cX7_bound 86 = .ok (.iload 4, 2) := by decide +kernel
theorem dX7_bound_88 : decode cX7_bound 88 = .ok (.invokevirtual 58, 3) := by decide +kernel
theorem dX7_bound_91 : decode cX7_bound 91 = .ok (.ireturn, 1) := by decide +kernel
theorem dX7_share_0 : decode cX7_share 0 = .ok (.aload_n 0, 1) := by decide +kernel
theorem dX7_share_1 : decode cX7_share 1 = .ok (.invokevirtual 55, 3) := by decide +kernel
theorem dX7_share_4 : decode cX7_share 4 = .ok (.aload_n 0, 1) := by decide +kernel
theorem dX7_share_5 : decode cX7_share 5 = .ok (.aload_n 0, 1) := by decide +kernel
theorem dX7_share_6 : decode cX7_share 6 = .ok (.iload_n 1, 1) := by decide +kernel
theorem dX7_share_7 : decode cX7_share 7 = .ok (.iload_n 2, 1) := by decide +kernel
theorem dX7_share_8 : decode cX7_share 8 = .ok (.invokevirtual 124, 3) := by decide +kernel
theorem dX7_share_11 : decode cX7_share 11 = .ok (.invokevirtual 58, 3) := by decide +kernel
theorem dX7_share_14 : decode cX7_share 14 = .ok (.ireturn, 1) := by decide +kernel
theorem dX7_choose_0 : decode cX7_choose 0 = .ok (.aload_n 0, 1) := by decide +kernel
theorem dX7_choose_1 : decode cX7_choose 1 = .ok (.invokevirtual 127, 3) := by decide +kernel
theorem dX7_choose_4 : decode cX7_choose 4 = .ok (.aload_n 0, 1) := by decide +kernel
theorem dX7_choose_5 : decode cX7_choose 5 = .ok (.getfield 80, 3) := by decide +kernel
theorem dX7_choose_8 : decode cX7_choose 8 = .ok (.iconst (-1), 1) := by decide +kernel
theorem dX7_choose_9 : decode cX7_choose 9 = .ok (.if_icmp .ne 6, 3) := by decide +kernel
theorem dX7_choose_12 : decode cX7_choose 12 = .ok (.bipush (-5), 2) := by decide +kernel
theorem dX7_choose_14 : decode cX7_choose 14 = .ok (.ireturn, 1) := by decide +kernel
theorem dX7_choose_15 : decode cX7_choose 15 = .ok (.aload_n 0, 1) := by decide +kernel
theorem dX7_choose_16 : decode cX7_choose 16 = .ok (.invokevirtual 55, 3) := by decide +kernel
theorem dX7_choose_19 : decode cX7_choose 19 = .ok (.iconst 0, 1) := by decide +kernel
theorem dX7_choose_20 : decode cX7_choose 20 = .ok (.istore_n 1, 1) := by decide +kernel
theorem dX7_choose_21 : decode cX7_choose 21 = .ok (.iload_n 1, 1) := by decide +kernel
theorem dX7_choose_22 : decode cX7_choose 22 = .ok (.aload_n 0, 1) := by decide +kernel
theorem dX7_choose_23 : decode cX7_choose 23 = .ok (.getfield 7, 3) := by decide +kernel
theorem dX7_choose_26 : decode cX7_choose 26 = .ok (.iconst 5, 1) := by decide +kernel
theorem dX7_choose_27 : decode cX7_choose 27 = .ok (.iaload, 1) := by decide +kernel
theorem dX7_choose_28 : decode cX7_choose 28 = .ok (.if_icmp .ge 22, 3) := by decide +kernel
theorem dX7_choose_31 : decode cX7_choose 31 = .ok (.aload_n 0, 1) := by decide +kernel
theorem dX7_choose_32 : decode cX7_choose 32 = .ok (.iload_n 1, 1) := by decide +kernel
theorem dX7_choose_33 : decode cX7_choose 33 = .ok (.bipush 13, 2) := by decide +kernel
theorem dX7_choose_35 : decode cX7_choose 35 = .ok (.aload_n 0, 1) := by decide +kernel
theorem dX7_choose_36 : decode cX7_choose 36 = .ok (.getfield 44, 3) := by decide +kernel
theorem dX7_choose_39 : decode cX7_choose 39 = .ok (.iload_n 1, 1) := by decide +kernel
theorem dX7_choose_40 : decode cX7_choose 40 = .ok (.iaload, 1) := by decide +kernel
theorem dX7_choose_41 : decode cX7_choose 41 = .ok (.invokevirtual 97, 3) := by decide +kernel
theorem dX7_choose_44 : decode cX7_choose 44 = .ok (.iinc 1 1, 3) := by decide +kernel
theorem dX7_choose_47 : decode cX7_choose 47 = .ok (.goto (-26), 3) := by decide +kernel
theorem dX7_choose_50 : decode cX7_choose 50 = .ok (.aload_n 0, 1) := by decide +kernel
theorem dX7_choose_51 : decode cX7_choose 51 = .ok (.aload_n 0, 1) := by decide +kernel
theorem dX7_choose_52 : decode cX7_choose 52 = .ok (.getfield 80, 3) := by decide +kernel
theorem dX7_choose_55 : decode cX7_choose 55 = .ok (.bipush 20, 2) := by decide +kernel
theorem dX7_choose_57 : decode cX7_choose 57 = .ok (.idiv, 1) := by decide +kernel
theorem dX7_choose_58 : decode cX7_choose 58 = .ok (.invokevirtual 58, 3) := by decide +kernel
theorem dX7_choose_61 : decode cX7_choose 61 = .ok (.ireturn, 1) := by decide +kernel
theorem dX7_mix_0 : decode cX7_mix 0 = .ok (.aload_n 0, 1) := by decide +kernel
theorem dX7_mix_1 : decode cX7_mix 1 = .ok (.invokevirtual 55, 3) := by decide +kernel
theorem dX7_mix_4 : decode cX7_mix 4 = .ok (.aload_n 0, 1) := by decide +kernel
theorem dX7_mix_5 : decode cX7_mix 5 = .ok (.aload_n 0, 1) := by decide +kernel
theorem dX7_mix_6 : decode cX7_mix 6 = .ok (.iload_n 1, 1) := by decide +kernel
theorem dX7_mix_7 : decode cX7_mix 7 = .ok (.invokevirtual 130, 3) := by decide +kernel
theorem dX7_mix_10 : decode cX7_mix 10 = .ok (.invokevirtual 58, 3) := by decide +kernel
theorem dX7_mix_13 : decode cX7_mix 13 = .ok (.ireturn, 1) := by decide +kernel
theorem dX7_pass_0 : decode cX7_pass 0 = .ok (.aload_n 0, 1) := by decide +kernel
theorem dX7_pass_1 : decode cX7_pass 1 = .ok (.invokevirtual 55, 3) := by decide +kernel
theorem dX7_pass_4 : decode cX7_pass 4 = .ok (.aload_n 0, 1) := by decide +kernel
theorem dX7_pass_5 : decode cX7_pass 5 = .ok (.aload_n 0, 1) := by decide +kernel
theorem dX7_pass_6 : decode cX7_pass 6 = .ok (.iload_n 1, 1) := by decide +kernel
theorem dX7_pass_7 : decode cX7_pass 7 = .ok (.invokevirtual 133, 3) := by decide +kernel
theorem dX7_pass_10 : decode cX7_pass 10 = .ok (.invokevirtual 58, 3) := by decide +kernel
theorem dX7_pass_13 : decode cX7_pass 13 = .ok (.ireturn, 1) := by decide +kernel
theorem dX7_of_0 : decode cX7_of 0 = .ok (.aload_n 0, 1) := by decide +kernel
theorem dX7_of_1 : decode cX7_of 1 = .ok (.iload_n 1, 1) := by decide +kernel
theorem dX7_of_2 : decode cX7_of 2 = .ok (.invokevirtual 101, 3) := by decide +kernel
theorem dX7_of_5 : decode cX7_of 5 = .ok (.ifCond .ne 5, 3) := by decide +kernel
theorem dX7_of_8 : decode cX7_of 8 = .ok (.iconst (-1), 1) := by decide +kernel
theorem dX7_of_9 : decode cX7_of 9 = .ok (.ireturn, 1) := by decide +kernel
theorem dX7_of_10 : decode cX7_of 10 = .ok (.iload_n 2, 1) := by decide +kernel
theorem dX7_of_11 : decode cX7_of 11 = .ok (.tableswitch 81 0 6 #[41, 47, 47, 47, 57, 65, 73], 41) := by decide +kernel
theorem dX7_of_52 : decode cX7_of 52 = .ok (.aload_n 0, 1) := by decide +kernel
theorem dX7_of_53 : decode cX7_of 53 = .ok (.iload_n 1, 1) := by decide +kernel
theorem dX7_of_54 : decode cX7_of 54 = .ok (.invokevirtual 66, 3) := by decide +kernel
theorem dX7_of_57 : decode cX7_of 57 = .ok (.ireturn, 1) := by decide +kernel
theorem dX7_of_58 : decode cX7_of 58 = .ok (.aload_n 0, 1) := by decide +kernel
theorem dX7_of_59 : decode cX7_of 59 = .ok (.iload_n 1, 1) := by decide +kernel
theorem dX7_of_60 : decode cX7_of 60 = .ok (.iload_n 2, 1) := by decide +kernel
theorem dX7_of_61 : decode cX7_of 61 = .ok (.iconst 1, 1) := by decide +kernel
theorem dX7_of_62 : decode cX7_of 62 = .ok (.isub, 1) := by decide +kernel
theorem dX7_of_63 : decode cX7_of 63 = .ok (.iconst 0, 1) := by decide +kernel
theorem dX7_of_64 : decode cX7_of 64 = .ok (.invokevirtual 69, 3) := by decide +kernel
theorem dX7_of_67 : decode cX7_of 67 = .ok (.ireturn, 1) := by decide +kernel
theorem dX7_of_68 : decode cX7_of 68 = .ok (.aload_n 0, 1) := by decide +kernel
theorem dX7_of_69 : decode cX7_of 69 = .ok (.iload_n 1, 1) := by decide +kernel
theorem dX7_of_70 : decode cX7_of 70 = .ok (.bipush 11, 2) := by decide +kernel
theorem dX7_of_72 : decode cX7_of 72 = .ok (.invokevirtual 62, 3) := by decide +kernel
theorem dX7_of_75 : decode cX7_of 75 = .ok (.ireturn, 1) := by decide +kernel
theorem dX7_of_76 : decode cX7_of 76 = .ok (.aload_n 0, 1) := by decide +kernel
theorem dX7_of_77 : decode cX7_of 77 = .ok (.iload_n 1, 1) := by decide +kernel
theorem dX7_of_78 : decode cX7_of 78 = .ok (.bipush 12, 2) := by decide +kernel
theorem dX7_of_80 : decode cX7_of 80 = .ok (.invokevirtual 62, 3) := by decide +kernel
theorem dX7_of_83 : decode cX7_of 83 = .ok (.ireturn, 1) := by decide +kernel
theorem dX7_of_84 : decode cX7_of 84 = .ok (.aload_n 0, 1) := by decide +kernel
theorem dX7_of_85 : decode cX7_of 85 = .ok (.iload_n 1, 1) := by decide +kernel
theorem dX7_of_86 : decode cX7_of 86 = .ok (.bipush 13, 2) := by decide +kernel
theorem dX7_of_88 : decode cX7_of 88 = .ok (.invokevirtual 62, 3) := by decide +kernel
theorem dX7_of_91 : decode cX7_of 91 = .ok (.ireturn, 1) := by decide +kernel
theorem dX7_of_92 : decode cX7_of 92 = .ok (.bipush (-2), 2) := by decide +kernel
theorem dX7_of_94 : decode cX7_of 94 = .ok (.ireturn, 1) := by decide +kernel
theorem dX7_mask_0 : decode cX7_mask 0 = .ok (.iconst 0, 1) := by decide +kernel
theorem dX7_mask_1 : decode cX7_mask 1 = .ok (.istore_n 1, 1) := by decide +kernel
theorem dX7_mask_2 : decode cX7_mask 2 = .ok (.iconst 0, 1) := by decide +kernel
theorem dX7_mask_3 : decode cX7_mask 3 = .ok (.istore_n 2, 1) := by decide +kernel
theorem dX7_mask_4 : decode cX7_mask 4 = .ok (.iload_n 2, 1) := by decide +kernel
theorem dX7_mask_5 : decode cX7_mask 5 = .ok (.aload_n 0, 1) := by decide +kernel
theorem dX7_mask_6 : decode cX7_mask 6 = .ok (.getfield 7, 3) := by decide +kernel
theorem dX7_mask_9 : decode cX7_mask 9 = .ok (.iconst 5, 1) := by decide +kernel
theorem dX7_mask_10 : decode cX7_mask 10 = .ok (.iaload, 1) := by decide +kernel
theorem dX7_mask_11 : decode cX7_mask 11 = .ok (.if_icmp .ge 29, 3) := by decide +kernel
theorem dX7_mask_14 : decode cX7_mask 14 = .ok (.iload_n 1, 1) := by decide +kernel
theorem dX7_mask_15 : decode cX7_mask 15 = .ok (.aload_n 0, 1) := by decide +kernel
theorem dX7_mask_16 : decode cX7_mask 16 = .ok (.iload_n 2, 1) := by decide +kernel
theorem dX7_mask_17 : decode cX7_mask 17 = .ok (.bipush 13, 2) := by decide +kernel
theorem dX7_mask_19 : decode cX7_mask 19 = .ok (.invokevirtual 62, 3) := by decide +kernel
theorem dX7_mask_22 : decode cX7_mask 22 = .ok (.ifCond .le 9, 3) := by decide +kernel
theorem dX7_mask_25 : decode cX7_mask 25 = .ok (.iconst 1, 1) := by decide +kernel
theorem dX7_mask_26 : decode cX7_mask 26 = .ok (.iload_n 2, 1) := by decide +kernel
theorem dX7_mask_27 : decode cX7_mask 27 = .ok (.ishl, 1) := by decide +kernel
theorem dX7_mask_28 : decode cX7_mask 28 = .ok (.goto 4, 3) := by decide +kernel
theorem dX7_mask_31 : decode cX7_mask 31 = .ok (.iconst 0, 1) := by decide +kernel
theorem dX7_mask_32 : decode cX7_mask 32 = .ok (.ior, 1) := by decide +kernel
theorem dX7_mask_33 : decode cX7_mask 33 = .ok (.istore_n 1, 1) := by decide +kernel
theorem dX7_mask_34 : decode cX7_mask 34 = .ok (.iinc 2 1, 3) := by decide +kernel
theorem dX7_mask_37 : decode cX7_mask 37 = .ok (.goto (-33), 3) := by decide +kernel
theorem dX7_mask_40 : decode cX7_mask 40 = .ok (.iload_n 1, 1) := by decide +kernel
theorem dX7_mask_41 : decode cX7_mask 41 = .ok (.ireturn, 1) := by decide +kernel
theorem dX7_blend_0 : decode cX7_blend 0 = .ok (.iload_n 1, 1) := by decide +kernel
theorem dX7_blend_1 : decode cX7_blend 1 = .ok (.tableswitch 69 0 5 #[39, 47, 47, 47, 59, 64], 39) := by decide +kernel
theorem dX7_blend_40 : decode cX7_blend 40 = .ok (.aload_n 0, 1) := by decide +kernel
theorem dX7_blend_41 : decode cX7_blend 41 = .ok (.invokevirtual 113, 3) := by decide +kernel
theorem dX7_blend_44 : decode cX7_blend 44 = .ok (.bipush 20, 2) := by decide +kernel
theorem dX7_blend_46 : decode cX7_blend 46 = .ok (.idiv, 1) := by decide +kernel
theorem dX7_blend_47 : decode cX7_blend 47 = .ok (.ireturn, 1) := by decide +kernel
theorem dX7_blend_48 : decode cX7_blend 48 = .ok (.aload_n 0, 1) := by decide +kernel
theorem dX7_blend_49 : decode cX7_blend 49 = .ok (.iload_n 1, 1) := by decide +kernel
theorem dX7_blend_50 : decode cX7_blend 50 = .ok (.iconst 1, 1) := by decide +kernel
theorem dX7_blend_51 : decode cX7_blend 51 = .ok (.isub, 1) := by decide +kernel
theorem dX7_blend_52 : decode cX7_blend 52 = .ok (.iconst 0, 1) := by decide +kernel
theorem dX7_blend_53 : decode cX7_blend 53 = .ok (.invokevirtual 77, 3) := by decide +kernel
theorem dX7_blend_56 : decode cX7_blend 56 = .ok (.bipush 20, 2) := by decide +kernel
theorem dX7_blend_58 : decode cX7_blend 58 = .ok (.idiv, 1) := by decide +kernel
theorem dX7_blend_59 : decode cX7_blend 59 = .ok (.ireturn, 1) := by decide +kernel
theorem dX7_blend_60 : decode cX7_blend 60 = .ok (.aload_n 0, 1) := by decide +kernel
theorem dX7_blend_61 : decode cX7_blend 61 = .ok (.invokevirtual 73, 3) := by decide +kernel
theorem dX7_blend_64 : decode cX7_blend 64 = .ok (.ireturn, 1) := by decide +kernel
theorem dX7_blend_65 : decode cX7_blend 65 = .ok (.aload_n 0, 1) := by decide +kernel
theorem dX7_blend_66 : decode cX7_blend 66 = .ok (.invokevirtual 136, 3) := by decide +kernel
theorem dX7_blend_69 : decode cX7_blend 69 = .ok (.ireturn, 1) := by decide +kernel
theorem dX7_blend_70 : decode cX7_blend 70 = .ok (.bipush (-2), 2) := by decide +kernel
theorem dX7_blend_72 : decode cX7_blend 72 = .ok (.ireturn, 1) := by decide +kernel
theorem dX7_why_0 : decode cX7_why 0 = .ok (.aload_n 0, 1) := by decide +kernel
theorem dX7_why_1 : decode cX7_why 1 = .ok (.iconst 0, 1) := by decide +kernel
theorem dX7_why_2 : decode cX7_why 2 = .ok (.invokevirtual 107, 3) := by decide +kernel
theorem dX7_why_5 : decode cX7_why 5 = .ok (.ireturn, 1) := by decide +kernel
theorem dX7_count_0 : decode cX7_count 0 = .ok (.iload_n 1, 1) := by decide +kernel
theorem dX7_count_1 : decode cX7_count 1 = .ok (.tableswitch 144 0 13 #[71, 78, 85, 92, 99, 99, 99, 111, 111, 111, 124, 124, 134, 139], 71) := by decide +kernel
theorem dX7_count_72 : decode cX7_count 72 = .ok (.aload_n 0, 1) := by decide +kernel
theorem dX7_count_73 : decode cX7_count 73 = .ok (.getfield 7, 3) := by decide +kernel
theorem dX7_count_76 : decode cX7_count 76 = .ok (.iconst 2, 1) := by decide +kernel
theorem dX7_count_77 : decode cX7_count 77 = .ok (.iaload, 1) := by decide +kernel
theorem dX7_count_78 : decode cX7_count 78 = .ok (.ireturn, 1) := by decide +kernel
theorem dX7_count_79 : decode cX7_count 79 = .ok (.aload_n 0, 1) := by decide +kernel
theorem dX7_count_80 : decode cX7_count 80 = .ok (.getfield 7, 3) := by decide +kernel
theorem dX7_count_83 : decode cX7_count 83 = .ok (.iconst 5, 1) := by decide +kernel
theorem dX7_count_84 : decode cX7_count 84 = .ok (.iaload, 1) := by decide +kernel
theorem dX7_count_85 : decode cX7_count 85 = .ok (.ireturn, 1) := by decide +kernel
theorem dX7_count_86 : decode cX7_count 86 = .ok (.aload_n 0, 1) := by decide +kernel
theorem dX7_count_87 : decode cX7_count 87 = .ok (.getfield 7, 3) := by decide +kernel
theorem dX7_count_90 : decode cX7_count 90 = .ok (.iconst 3, 1) := by decide +kernel
theorem dX7_count_91 : decode cX7_count 91 = .ok (.iaload, 1) := by decide +kernel
theorem dX7_count_92 : decode cX7_count 92 = .ok (.ireturn, 1) := by decide +kernel
theorem dX7_count_93 : decode cX7_count 93 = .ok (.aload_n 0, 1) := by decide +kernel
theorem dX7_count_94 : decode cX7_count 94 = .ok (.getfield 7, 3) := by decide +kernel
theorem dX7_count_97 : decode cX7_count 97 = .ok (.iconst 4, 1) := by decide +kernel
theorem dX7_count_98 : decode cX7_count 98 = .ok (.iaload, 1) := by decide +kernel
theorem dX7_count_99 : decode cX7_count 99 = .ok (.ireturn, 1) := by decide +kernel
theorem dX7_count_100 : decode cX7_count 100 = .ok (.aload_n 0, 1) := by decide +kernel
theorem dX7_count_101 : decode cX7_count 101 = .ok (.getfield 7, 3) := by decide +kernel
theorem dX7_count_104 : decode cX7_count 104 = .ok (.bipush 6, 2) := by decide +kernel
theorem dX7_count_106 : decode cX7_count 106 = .ok (.iload_n 1, 1) := by decide +kernel
theorem dX7_count_107 : decode cX7_count 107 = .ok (.iadd, 1) := by decide +kernel
theorem dX7_count_108 : decode cX7_count 108 = .ok (.iconst 4, 1) := by decide +kernel
theorem dX7_count_109 : decode cX7_count 109 = .ok (.isub, 1) := by decide +kernel
theorem dX7_count_110 : decode cX7_count 110 = .ok (.iaload, 1) := by decide +kernel
theorem dX7_count_111 : decode cX7_count 111 = .ok (.ireturn, 1) := by decide +kernel
theorem dX7_count_112 : decode cX7_count 112 = .ok (.aload_n 0, 1) := by decide +kernel
theorem dX7_count_113 : decode cX7_count 113 = .ok (.getfield 7, 3) := by decide +kernel
theorem dX7_count_116 : decode cX7_count 116 = .ok (.bipush 9, 2) := by decide +kernel
theorem dX7_count_118 : decode cX7_count 118 = .ok (.iload_n 1, 1) := by decide +kernel
theorem dX7_count_119 : decode cX7_count 119 = .ok (.iadd, 1) := by decide +kernel
theorem dX7_count_120 : decode cX7_count 120 = .ok (.bipush 7, 2) := by decide +kernel
theorem dX7_count_122 : decode cX7_count 122 = .ok (.isub, 1) := by decide +kernel
theorem dX7_count_123 : decode cX7_count 123 = .ok (.iaload, 1) := by decide +kernel
theorem dX7_count_124 : decode cX7_count 124 = .ok (.ireturn, 1) := by decide +kernel
theorem dX7_count_125 : decode cX7_count 125 = .ok (.aload_n 0, 1) := by decide +kernel
theorem dX7_count_126 : decode cX7_count 126 = .ok (.getfield 7, 3) := by decide +kernel
theorem dX7_count_129 : decode cX7_count 129 = .ok (.iload_n 1, 1) := by decide +kernel
theorem dX7_count_130 : decode cX7_count 130 = .ok (.bipush 10, 2) := by decide +kernel
theorem dX7_count_132 : decode cX7_count 132 = .ok (.isub, 1) := by decide +kernel
theorem dX7_count_133 : decode cX7_count 133 = .ok (.iaload, 1) := by decide +kernel
theorem dX7_count_134 : decode cX7_count 134 = .ok (.ireturn, 1) := by decide +kernel
theorem dX7_count_135 : decode cX7_count 135 = .ok (.aload_n 0, 1) := by decide +kernel
theorem dX7_count_136 : decode cX7_count 136 = .ok (.getfield 139, 3) := by decide +kernel
theorem dX7_count_139 : decode cX7_count 139 = .ok (.ireturn, 1) := by decide +kernel
theorem dX7_count_140 : decode cX7_count 140 = .ok (.aload_n 0, 1) := by decide +kernel
theorem dX7_count_141 : decode cX7_count 141 = .ok (.getfield 51, 3) := by decide +kernel
theorem dX7_count_144 : decode cX7_count 144 = .ok (.ireturn, 1) := by decide +kernel
theorem dX7_count_145 : decode cX7_count 145 = .ok (.bipush (-2), 2) := by decide +kernel
theorem dX7_count_147 : decode cX7_count 147 = .ok (.ireturn, 1) := by decide +kernel
theorem dX7_taste_0 : decode cX7_taste 0 = .ok (.iload_n 1, 1) := by decide +kernel
theorem dX7_taste_1 : decode cX7_taste 1 = .ok (.i2l, 1) := by decide +kernel
theorem dX7_taste_2 : decode cX7_taste 2 = .ok (.iconst 0, 1) := by decide +kernel
theorem dX7_taste_3 : decode cX7_taste 3 = .ok (.iconst 2, 1) := by decide +kernel
theorem dX7_taste_4 : decode cX7_taste 4 = .ok (.invokestatic 47, 3) := by decide +kernel
theorem dX7_taste_7 : decode cX7_taste 7 = .ok (.ifCond .eq 17, 3) := by decide +kernel
theorem dX7_taste_10 : decode cX7_taste 10 = .ok (.aload_n 0, 1) := by decide +kernel
theorem dX7_taste_11 : decode cX7_taste 11 = .ok (.iload_n 1, 1) := by decide +kernel
theorem dX7_taste_12 : decode cX7_taste 12 = .ok (.iconst 0, 1) := by decide +kernel
theorem dX7_taste_13 : decode cX7_taste 13 = .ok (.invokevirtual 77, 3) := by decide +kernel
theorem dX7_taste_16 : decode cX7_taste 16 = .ok (.i2d, 1) := by decide +kernel
theorem dX7_taste_17 : decode cX7_taste 17 = .ok (.ldc2_w 142, 3) := by decide +kernel
theorem dX7_taste_20 : decode cX7_taste 20 = .ok (.ddiv, 1) := by decide +kernel
theorem dX7_taste_21 : decode cX7_taste 21 = .ok (.goto 4, 3) := by decide +kernel
theorem dX7_taste_24 : decode cX7_taste 24 = .ok (.dconst 0, 1) := by decide +kernel
theorem dX7_taste_25 : decode cX7_taste 25 = .ok (.invokestatic 144, 3) := by decide +kernel
theorem dX7_taste_28 : decode cX7_taste 28 = .ok (.lreturn, 1) := by decide +kernel
theorem dX7_mean_0 : decode cX7_mean 0 = .ok (.aload_n 0, 1) := by decide +kernel
theorem dX7_mean_1 : decode cX7_mean 1 = .ok (.getfield 7, 3) := by decide +kernel
theorem dX7_mean_4 : decode cX7_mean 4 = .ok (.iconst 3, 1) := by decide +kernel
theorem dX7_mean_5 : decode cX7_mean 5 = .ok (.iaload, 1) := by decide +kernel
theorem dX7_mean_6 : decode cX7_mean 6 = .ok (.ifCond .ne 7, 3) := by decide +kernel
theorem dX7_mean_9 : decode cX7_mean 9 = .ok (.fconst 0, 1) := by decide +kernel
theorem dX7_mean_10 : decode cX7_mean 10 = .ok (.goto 18, 3) := by decide +kernel
theorem dX7_mean_13 : decode cX7_mean 13 = .ok (.aload_n 0, 1) := by decide +kernel
theorem dX7_mean_14 : decode cX7_mean 14 = .ok (.getfield 7, 3) := by decide +kernel
theorem dX7_mean_17 : decode cX7_mean 17 = .ok (.iconst 4, 1) := by decide +kernel
theorem dX7_mean_18 : decode cX7_mean 18 = .ok (.iaload, 1) := by decide +kernel
theorem dX7_mean_19 : decode cX7_mean 19 = .ok (.i2f, 1) := by decide +kernel
theorem dX7_mean_20 : decode cX7_mean 20 = .ok (.aload_n 0, 1) := by decide +kernel
theorem dX7_mean_21 : decode cX7_mean 21 = .ok (.getfield 7, 3) := by decide +kernel
theorem dX7_mean_24 : decode cX7_mean 24 = .ok (.iconst 3, 1) := by decide +kernel
theorem dX7_mean_25 : decode cX7_mean 25 = .ok (.iaload, 1) := by decide +kernel
theorem dX7_mean_26 : decode cX7_mean 26 = .ok (.i2f, 1) := by decide +kernel
theorem dX7_mean_27 : decode cX7_mean 27 = .ok (.fdiv, 1) := by decide +kernel
theorem dX7_mean_28 : decode cX7_mean 28 = .ok (.invokestatic 150, 3) := by decide +kernel
theorem dX7_mean_31 : decode cX7_mean 31 = .ok (.ireturn, 1) := by decide +kernel
theorem dX7_cheapest_0 : decode cX7_cheapest 0 = .ok (.iload_n 1, 1) := by decide +kernel
theorem dX7_cheapest_1 : decode cX7_cheapest 1 = .ok (.i2l, 1) := by decide +kernel
theorem dX7_cheapest_2 : decode cX7_cheapest 2 = .ok (.iconst 0, 1) := by decide +kernel
theorem dX7_cheapest_3 : decode cX7_cheapest 3 = .ok (.iconst 5, 1) := by decide +kernel
theorem dX7_cheapest_4 : decode cX7_cheapest 4 = .ok (.invokestatic 47, 3) := by decide +kernel
theorem dX7_cheapest_7 : decode cX7_cheapest 7 = .ok (.ifCond .ne 6, 3) := by decide +kernel
theorem dX7_cheapest_10 : decode cX7_cheapest 10 = .ok (.bipush (-2), 2) := by decide +kernel
theorem dX7_cheapest_12 : decode cX7_cheapest 12 = .ok (.ireturn, 1) := by decide +kernel
theorem dX7_cheapest_13 : decode cX7_cheapest 13 = .ok (.aload_n 0, 1) := by decide +kernel
theorem dX7_cheapest_14 : decode cX7_cheapest 14 = .ok (.invokevirtual 127, 3) := by decide +kernel
theorem dX7_cheapest_17 : decode cX7_cheapest 17 = .ok (.aload_n 0, 1) := by decide +kernel
theorem dX7_cheapest_18 : decode cX7_cheapest 18 = .ok (.getfield 80, 3) := by decide +kernel
theorem dX7_cheapest_21 : decode cX7_cheapest 21 = .ok (.iconst (-1), 1) := by decide +kernel
theorem dX7_cheapest_22 : decode cX7_cheapest 22 = .ok (.if_icmp .ne 8, 3) := by decide +kernel
theorem dX7_cheapest_25 : decode cX7_cheapest 25 = .ok (.bipush (-6), 2) := by decide +kernel
theorem dX7_cheapest_27 : decode cX7_cheapest 27 = .ok (.goto 25, 3) := by decide +kernel
theorem dX7_cheapest_30 : decode cX7_cheapest 30 = .ok (.iload_n 1, 1) := by decide +kernel
theorem dX7_cheapest_31 : decode cX7_cheapest 31 = .ok (.ifCond .ne 13, 3) := by decide +kernel
theorem dX7_cheapest_34 : decode cX7_cheapest 34 = .ok (.aload_n 0, 1) := by decide +kernel
theorem dX7_cheapest_35 : decode cX7_cheapest 35 = .ok (.getfield 80, 3) := by decide +kernel
theorem dX7_cheapest_38 : decode cX7_cheapest 38 = .ok (.bipush 20, 2) := by decide +kernel
theorem dX7_cheapest_40 : decode cX7_cheapest 40 = .ok (.idiv, 1) := by decide +kernel
theorem dX7_cheapest_41 : decode cX7_cheapest 41 = .ok (.goto 11, 3) := by decide +kernel
theorem dX7_cheapest_44 : decode cX7_cheapest 44 = .ok (.aload_n 0, 1) := by decide +kernel
theorem dX7_cheapest_45 : decode cX7_cheapest 45 = .ok (.getfield 44, 3) := by decide +kernel
theorem dX7_cheapest_48 : decode cX7_cheapest 48 = .ok (.iload_n 1, 1) := by decide +kernel
theorem dX7_cheapest_49 : decode cX7_cheapest 49 = .ok (.iconst 1, 1) := by decide +kernel
theorem dX7_cheapest_50 : decode cX7_cheapest 50 = .ok (.isub, 1) := by decide +kernel
theorem dX7_cheapest_51 : decode cX7_cheapest 51 = .ok (.iaload, 1) := by decide +kernel
theorem dX7_cheapest_52 : decode cX7_cheapest 52 = .ok (.ireturn, 1) := by decide +kernel
theorem dX7_swap_0 : decode cX7_swap 0 = .ok (.iload_n 1, 1) := by decide +kernel
theorem dX7_swap_1 : decode cX7_swap 1 = .ok (.i2l, 1) := by decide +kernel
theorem dX7_swap_2 : decode cX7_swap 2 = .ok (.iconst 0, 1) := by decide +kernel
theorem dX7_swap_3 : decode cX7_swap 3 = .ok (.iconst 2, 1) := by decide +kernel
theorem dX7_swap_4 : decode cX7_swap 4 = .ok (.invokestatic 47, 3) := by decide +kernel
theorem dX7_swap_7 : decode cX7_swap 7 = .ok (.ifCond .ne 6, 3) := by decide +kernel
theorem dX7_swap_10 : decode cX7_swap 10 = .ok (.bipush (-2), 2) := by decide +kernel
theorem dX7_swap_12 : decode cX7_swap 12 = .ok (.ireturn, 1) := by decide +kernel
theorem dX7_swap_13 : decode cX7_swap 13 = .ok (.aload_n 0, 1) := by decide +kernel
theorem dX7_swap_14 : decode cX7_swap 14 = .ok (.invokevirtual 73, 3) := by decide +kernel
theorem dX7_swap_17 : decode cX7_swap 17 = .ok (.bipush 20, 2) := by decide +kernel
theorem dX7_swap_19 : decode cX7_swap 19 = .ok (.if_icmp .eq 6, 3) := by decide +kernel
theorem dX7_swap_22 : decode cX7_swap 22 = .ok (.bipush (-6), 2) := by decide +kernel
theorem dX7_swap_24 : decode cX7_swap 24 = .ok (.ireturn, 1) := by decide +kernel
theorem dX7_swap_25 : decode cX7_swap 25 = .ok (.aload_n 0, 1) := by decide +kernel
theorem dX7_swap_26 : decode cX7_swap 26 = .ok (.invokevirtual 83, 3) := by decide +kernel
theorem dX7_swap_29 : decode cX7_swap 29 = .ok (.iconst 0, 1) := by decide +kernel
theorem dX7_swap_30 : decode cX7_swap 30 = .ok (.istore_n 2, 1) := by decide +kernel
theorem dX7_swap_31 : decode cX7_swap 31 = .ok (.bipush (-6), 2) := by decide +kernel
theorem dX7_swap_33 : decode cX7_swap 33 = .ok (.istore_n 3, 1) := by decide +kernel
theorem dX7_swap_34 : decode cX7_swap 34 = .ok (.bipush (-6), 2) := by decide +kernel
theorem dX7_swap_36 : decode cX7_swap 36 = .ok (.istore 4, 2) := by decide +kernel
theorem dX7_swap_38 : decode cX7_swap 38 = .ok (.iconst 0, 1) := by decide +kernel
theorem dX7_swap_39 : decode cX7_swap 39 = .ok (.istore 5, 2) := by decide +kernel
theorem dX7_swap_41 : decode cX7_swap 41 = .ok (.iload 5, 2) := by decide +kernel
theorem dX7_swap_43 : decode cX7_swap 43 = .ok (.bipush 25, 2) := by decide +kernel
theorem dX7_swap_45 : decode cX7_swap 45 = .ok (.if_icmp .ge 173, 3) := by decide +kernel
theorem dX7_swap_48 : decode cX7_swap 48 = .ok (.iload 5, 2) := by decide +kernel
theorem dX7_swap_50 : decode cX7_swap 50 = .ok (.iconst 5, 1) := by decide +kernel
theorem dX7_swap_51 : decode cX7_swap 51 = .ok (.idiv, 1) := by decide +kernel
theorem dX7_swap_52 : decode cX7_swap 52 = .ok (.istore 6, 2) := by decide +kernel
theorem dX7_swap_54 : decode cX7_swap 54 = .ok (.iload 5, 2) := by decide +kernel
theorem dX7_swap_56 : decode cX7_swap 56 = .ok (.iconst 5, 1) := by decide +kernel
theorem dX7_swap_57 : decode cX7_swap 57 = .ok (.irem, 1) := by decide +kernel
theorem dX7_swap_58 : decode cX7_swap 58 = .ok (.istore 7, 2) := by decide +kernel
theorem dX7_swap_60 : decode cX7_swap 60 = .ok (.iload 6, 2) := by decide +kernel
theorem dX7_swap_62 : decode cX7_swap 62 = .ok (.iload 7, 2) := by decide +kernel
theorem dX7_swap_64 : decode cX7_swap 64 = .ok (.if_icmp .eq 148, 3) := by decide +kernel
theorem dX7_swap_67 : decode cX7_swap 67 = .ok (.iload 6, 2) := by decide +kernel
theorem dX7_swap_69 : decode cX7_swap 69 = .ok (.aload_n 0, 1) := by decide +kernel
theorem dX7_swap_70 : decode cX7_swap 70 = .ok (.getfield 7, 3) := by decide +kernel
theorem dX7_swap_73 : decode cX7_swap 73 = .ok (.iconst 5, 1) := by decide +kernel
theorem dX7_swap_74 : decode cX7_swap 74 = .ok (.iaload, 1) := by decide +kernel
theorem dX7_swap_75 : decode cX7_swap 75 = .ok (.if_icmp .ge 137, 3) := by decide +kernel
theorem dX7_swap_78 : decode cX7_swap 78 = .ok (.iload 7, 2) := by decide +kernel
theorem dX7_swap_80 : decode cX7_swap 80 = .ok (.aload_n 0, 1) := by decide +kernel
theorem dX7_swap_81 : decode cX7_swap 81 = .ok (.getfield 7, 3) := by decide +kernel
theorem dX7_swap_84 : decode cX7_swap 84 = .ok (.iconst 5, 1) := by decide +kernel
theorem dX7_swap_85 : decode cX7_swap 85 = .ok (.iaload, 1) := by decide +kernel
theorem dX7_swap_86 : decode cX7_swap 86 = .ok (.if_icmp .ge 126, 3) := by decide +kernel
theorem dX7_swap_89 : decode cX7_swap 89 = .ok (.aload_n 0, 1) := by decide +kernel
theorem dX7_swap_90 : decode cX7_swap 90 = .ok (.iload 6, 2) := by decide +kernel
theorem dX7_swap_92 : decode cX7_swap 92 = .ok (.bipush 13, 2) := by decide +kernel
theorem dX7_swap_94 : decode cX7_swap 94 = .ok (.invokevirtual 62, 3) := by decide +kernel
theorem dX7_swap_97 : decode cX7_swap 97 = .ok (.ifCond .ne 6, 3) := by decide +kernel
theorem dX7_swap_100 : decode cX7_swap 100 = .ok (.goto 112, 3) := by decide +kernel
theorem dX7_swap_103 : decode cX7_swap 103 = .ok (.iconst 0, 1) := by decide +kernel
theorem dX7_swap_104 : decode cX7_swap 104 = .ok (.istore 8, 2) := by decide +kernel
theorem dX7_swap_106 : decode cX7_swap 106 = .ok (.iload 8, 2) := by decide +kernel
theorem dX7_swap_108 : decode cX7_swap 108 = .ok (.iconst 5, 1) := by decide +kernel
theorem dX7_swap_109 : decode cX7_swap 109 = .ok (.if_icmp .ge 63, 3) := by decide +kernel
theorem dX7_swap_112 : decode cX7_swap 112 = .ok (.aload_n 0, 1) := by decide +kernel
theorem dX7_swap_113 : decode cX7_swap 113 = .ok (.getfield 35, 3) := by decide +kernel
theorem dX7_swap_116 : decode cX7_swap 116 = .ok (.iload 8, 2) := by decide +kernel
theorem dX7_swap_118 : decode cX7_swap 118 = .ok (.iload 8, 2) := by decide +kernel
theorem dX7_swap_120 : decode cX7_swap 120 = .ok (.aload_n 0, 1) := by decide +kernel
theorem dX7_swap_121 : decode cX7_swap 121 = .ok (.getfield 7, 3) := by decide +kernel
theorem dX7_swap_124 : decode cX7_swap 124 = .ok (.iconst 5, 1) := by decide +kernel
theorem dX7_swap_125 : decode cX7_swap 125 = .ok (.iaload, 1) := by decide +kernel
theorem dX7_swap_126 : decode cX7_swap 126 = .ok (.if_icmp .ge 38, 3) := by decide +kernel
theorem dX7_swap_129 : decode cX7_swap 129 = .ok (.aload_n 0, 1) := by decide +kernel
theorem dX7_swap_130 : decode cX7_swap 130 = .ok (.iload 8, 2) := by decide +kernel
theorem dX7_swap_132 : decode cX7_swap 132 = .ok (.bipush 13, 2) := by decide +kernel
theorem dX7_swap_134 : decode cX7_swap 134 = .ok (.invokevirtual 62, 3) := by decide +kernel
theorem dX7_swap_137 : decode cX7_swap 137 = .ok (.iload 8, 2) := by decide +kernel
theorem dX7_swap_139 : decode cX7_swap 139 = .ok (.iload 6, 2) := by decide +kernel
theorem dX7_swap_141 : decode cX7_swap 141 = .ok (.if_icmp .ne 7, 3) := by decide +kernel
theorem dX7_swap_144 : decode cX7_swap 144 = .ok (.iconst (-1), 1) := by decide +kernel
theorem dX7_swap_145 : decode cX7_swap 145 = .ok (.goto 15, 3) := by decide +kernel
theorem dX7_swap_148 : decode cX7_swap 148 = .ok (.iload 8, 2) := by decide +kernel
theorem dX7_swap_150 : decode cX7_swap 150 = .ok (.iload 7, 2) := by decide +kernel
theorem dX7_swap_152 : decode cX7_swap 152 = .ok (.if_icmp .ne 7, 3) := by decide +kernel
theorem dX7_swap_155 : decode cX7_swap 155 = .ok (.iconst 1, 1) := by decide +kernel
theorem dX7_swap_156 : decode cX7_swap 156 = .ok (.goto 4, 3) := by decide +kernel
theorem dX7_swap_159 : decode cX7_swap 159 = .ok (.iconst 0, 1) := by decide +kernel
theorem dX7_swap_160 : decode cX7_swap 160 = .ok (.iadd, 1) := by decide +kernel
theorem dX7_swap_161 : decode cX7_swap 161 = .ok (.goto 4, 3) := by decide +kernel
theorem dX7_swap_164 : decode cX7_swap 164 = .ok (.iconst 0, 1) := by decide +kernel
theorem dX7_swap_165 : decode cX7_swap 165 = .ok (.iastore, 1) := by decide +kernel
theorem dX7_swap_166 : decode cX7_swap 166 = .ok (.iinc 8 1, 3) := by decide +kernel
theorem dX7_swap_169 : decode cX7_swap 169 = .ok (.goto (-63), 3) := by decide +kernel
theorem dX7_swap_172 : decode cX7_swap 172 = .ok (.aload_n 0, 1) := by decide +kernel
theorem dX7_swap_173 : decode cX7_swap 173 = .ok (.getfield 38, 3) := by decide +kernel
theorem dX7_swap_176 : decode cX7_swap 176 = .ok (.iload 6, 2) := by decide +kernel
theorem dX7_swap_178 : decode cX7_swap 178 = .ok (.iaload, 1) := by decide +kernel
theorem dX7_swap_179 : decode cX7_swap 179 = .ok (.aload_n 0, 1) := by decide +kernel
theorem dX7_swap_180 : decode cX7_swap 180 = .ok (.getfield 38, 3) := by decide +kernel
theorem dX7_swap_183 : decode cX7_swap 183 = .ok (.iload 7, 2) := by decide +kernel
theorem dX7_swap_185 : decode cX7_swap 185 = .ok (.iaload, 1) := by decide +kernel
theorem dX7_swap_186 : decode cX7_swap 186 = .ok (.isub, 1) := by decide +kernel
theorem dX7_swap_187 : decode cX7_swap 187 = .ok (.istore 8, 2) := by decide +kernel
theorem dX7_swap_189 : decode cX7_swap 189 = .ok (.iload 8, 2) := by decide +kernel
theorem dX7_swap_191 : decode cX7_swap 191 = .ok (.iload_n 2, 1) := by decide +kernel
theorem dX7_swap_192 : decode cX7_swap 192 = .ok (.if_icmp .le 20, 3) := by decide +kernel
theorem dX7_swap_195 : decode cX7_swap 195 = .ok (.aload_n 0, 1) := by decide +kernel
theorem dX7_swap_196 : decode cX7_swap 196 = .ok (.invokevirtual 89, 3) := by decide +kernel
theorem dX7_swap_199 : decode cX7_swap 199 = .ok (.ifCond .eq 13, 3) := by decide +kernel
theorem dX7_swap_202 : decode cX7_swap 202 = .ok (.iload 8, 2) := by decide +kernel
theorem dX7_swap_204 : decode cX7_swap 204 = .ok (.istore_n 2, 1) := by decide +kernel
theorem dX7_swap_205 : decode cX7_swap 205 = .ok (.iload 6, 2) := by decide +kernel
theorem dX7_swap_207 : decode cX7_swap 207 = .ok (.istore_n 3, 1) := by decide +kernel
theorem dX7_swap_208 : decode cX7_swap 208 = .ok (.iload 7, 2) := by decide +kernel
theorem dX7_swap_210 : decode cX7_swap 210 = .ok (.istore 4, 2) := by decide +kernel
theorem dX7_swap_212 : decode cX7_swap 212 = .ok (.iinc 5 1, 3) := by decide +kernel
theorem dX7_swap_215 : decode cX7_swap 215 = .ok (.goto (-174), 3) := by decide +kernel
theorem dX7_swap_218 : decode cX7_swap 218 = .ok (.iload_n 3, 1) := by decide +kernel
theorem dX7_swap_219 : decode cX7_swap 219 = .ok (.bipush (-6), 2) := by decide +kernel
theorem dX7_swap_221 : decode cX7_swap 221 = .ok (.if_icmp .ne 8, 3) := by decide +kernel
theorem dX7_swap_224 : decode cX7_swap 224 = .ok (.bipush (-6), 2) := by decide +kernel
theorem dX7_swap_226 : decode cX7_swap 226 = .ok (.goto 22, 3) := by decide +kernel
theorem dX7_swap_229 : decode cX7_swap 229 = .ok (.iload_n 1, 1) := by decide +kernel
theorem dX7_swap_230 : decode cX7_swap 230 = .ok (.ifCond .ne 7, 3) := by decide +kernel
theorem dX7_swap_233 : decode cX7_swap 233 = .ok (.iload_n 3, 1) := by decide +kernel
theorem dX7_swap_234 : decode cX7_swap 234 = .ok (.goto 14, 3) := by decide +kernel
theorem dX7_swap_237 : decode cX7_swap 237 = .ok (.iload_n 1, 1) := by decide +kernel
theorem dX7_swap_238 : decode cX7_swap 238 = .ok (.iconst 1, 1) := by decide +kernel
theorem dX7_swap_239 : decode cX7_swap 239 = .ok (.if_icmp .ne 8, 3) := by decide +kernel
theorem dX7_swap_242 : decode cX7_swap 242 = .ok (.iload 4, 2) := by decide +kernel
theorem dX7_swap_244 : decode cX7_swap 244 = .ok (.goto 4, 3) := by decide +kernel
theorem dX7_swap_247 : decode cX7_swap 247 = .ok (.iload_n 2, 1) := by decide +kernel
theorem dX7_swap_248 : decode cX7_swap 248 = .ok (.ireturn, 1) := by decide +kernel
theorem dX7_looser_0 : decode cX7_looser 0 = .ok (.iload_n 1, 1) := by decide +kernel
theorem dX7_looser_1 : decode cX7_looser 1 = .ok (.i2l, 1) := by decide +kernel
theorem dX7_looser_2 : decode cX7_looser 2 = .ok (.iconst 0, 1) := by decide +kernel
theorem dX7_looser_3 : decode cX7_looser 3 = .ok (.iconst 5, 1) := by decide +kernel
theorem dX7_looser_4 : decode cX7_looser 4 = .ok (.invokestatic 47, 3) := by decide +kernel
theorem dX7_looser_7 : decode cX7_looser 7 = .ok (.ifCond .ne 6, 3) := by decide +kernel
theorem dX7_looser_10 : decode cX7_looser 10 = .ok (.bipush (-2), 2) := by decide +kernel
theorem dX7_looser_12 : decode cX7_looser 12 = .ok (.ireturn, 1) := by decide +kernel
theorem dX7_looser_13 : decode cX7_looser 13 = .ok (.aload_n 0, 1) := by decide +kernel
theorem dX7_looser_14 : decode cX7_looser 14 = .ok (.invokevirtual 127, 3) := by decide +kernel
theorem dX7_looser_17 : decode cX7_looser 17 = .ok (.aload_n 0, 1) := by decide +kernel
theorem dX7_looser_18 : decode cX7_looser 18 = .ok (.getfield 80, 3) := by decide +kernel
theorem dX7_looser_21 : decode cX7_looser 21 = .ok (.istore_n 2, 1) := by decide +kernel
theorem dX7_looser_22 : decode cX7_looser 22 = .ok (.iload_n 2, 1) := by decide +kernel
theorem dX7_looser_23 : decode cX7_looser 23 = .ok (.iconst (-1), 1) := by decide +kernel
theorem dX7_looser_24 : decode cX7_looser 24 = .ok (.if_icmp .ne 6, 3) := by decide +kernel
theorem dX7_looser_27 : decode cX7_looser 27 = .ok (.bipush (-6), 2) := by decide +kernel
theorem dX7_looser_29 : decode cX7_looser 29 = .ok (.ireturn, 1) := by decide +kernel
theorem dX7_looser_30 : decode cX7_looser 30 = .ok (.bipush 6, 2) := by decide +kernel
theorem dX7_looser_32 : decode cX7_looser 32 = .ok (.iload_n 1, 1) := by decide +kernel
theorem dX7_looser_33 : decode cX7_looser 33 = .ok (.iadd, 1) := by decide +kernel
theorem dX7_looser_34 : decode cX7_looser 34 = .ok (.istore_n 3, 1) := by decide +kernel
theorem dX7_looser_35 : decode cX7_looser 35 = .ok (.aload_n 0, 1) := by decide +kernel
theorem dX7_looser_36 : decode cX7_looser 36 = .ok (.getfield 7, 3) := by decide +kernel
theorem dX7_looser_39 : decode cX7_looser 39 = .ok (.iload_n 3, 1) := by decide +kernel
theorem dX7_looser_40 : decode cX7_looser 40 = .ok (.iaload, 1) := by decide +kernel
theorem dX7_looser_41 : decode cX7_looser 41 = .ok (.istore 4, 2) := by decide +kernel
theorem dX7_looser_43 : decode cX7_looser 43 = .ok (.aload_n 0, 1) := by decide +kernel
theorem dX7_looser_44 : decode cX7_looser 44 = .ok (.getfield 7, 3) := by decide +kernel
theorem dX7_looser_47 : decode cX7_looser 47 = .ok (.iload_n 3, 1) := by decide +kernel
theorem dX7_looser_48 : decode cX7_looser 48 = .ok (.iload_n 1, 1) := by decide +kernel
theorem dX7_looser_49 : decode cX7_looser 49 = .ok (.iconst 3, 1) := by decide +kernel
theorem dX7_looser_50 : decode cX7_looser 50 = .ok (.if_icmp .ge 19, 3) := by decide +kernel
theorem dX7_looser_53 : decode cX7_looser 53 = .ok (.iload 4, 2) := by decide +kernel
theorem dX7_looser_55 : decode cX7_looser 55 = .ok (.ifCond .ne 7, 3) := by decide +kernel
theorem dX7_looser_58 : decode cX7_looser 58 = .ok (.iconst 0, 1) := by decide +kernel
theorem dX7_looser_59 : decode cX7_looser 59 = .ok (.goto 26, 3) := by decide +kernel
theorem dX7_looser_62 : decode cX7_looser 62 = .ok (.iload 4, 2) := by decide +kernel
theorem dX7_looser_64 : decode cX7_looser 64 = .ok (.iconst 1, 1) := by decide +kernel
theorem dX7_looser_65 : decode cX7_looser 65 = .ok (.isub, 1) := by decide +kernel
theorem dX7_looser_66 : decode cX7_looser 66 = .ok (.goto 19, 3) := by decide +kernel
theorem dX7_looser_69 : decode cX7_looser 69 = .ok (.iload 4, 2) := by decide +kernel
theorem dX7_looser_71 : decode cX7_looser 71 = .ok (.bipush 100, 2) := by decide +kernel
theorem dX7_looser_73 : decode cX7_looser 73 = .ok (.if_icmp .ne 8, 3) := by decide +kernel
theorem dX7_looser_76 : decode cX7_looser 76 = .ok (.bipush 100, 2) := by decide +kernel
theorem dX7_looser_78 : decode cX7_looser 78 = .ok (.goto 7, 3) := by decide +kernel
theorem dX7_looser_81 : decode cX7_looser 81 = .ok (.iload 4, 2) := by decide +kernel
theorem dX7_looser_83 : decode cX7_looser 83 = .ok (.iconst 1, 1) := by decide +kernel
theorem dX7_looser_84 : decode cX7_looser 84 = .ok (.iadd, 1) := by decide +kernel
theorem dX7_looser_85 : decode cX7_looser 85 = .ok (.iastore, 1) := by decide +kernel
theorem dX7_looser_86 : decode cX7_looser 86 = .ok (.aload_n 0, 1) := by decide +kernel
theorem dX7_looser_87 : decode cX7_looser 87 = .ok (.invokevirtual 127, 3) := by decide +kernel
theorem dX7_looser_90 : decode cX7_looser 90 = .ok (.aload_n 0, 1) := by decide +kernel
theorem dX7_looser_91 : decode cX7_looser 91 = .ok (.getfield 7, 3) := by decide +kernel
theorem dX7_looser_94 : decode cX7_looser 94 = .ok (.iload_n 3, 1) := by decide +kernel
theorem dX7_looser_95 : decode cX7_looser 95 = .ok (.iload 4, 2) := by decide +kernel
theorem dX7_looser_97 : decode cX7_looser 97 = .ok (.iastore, 1) := by decide +kernel
theorem dX7_looser_98 : decode cX7_looser 98 = .ok (.iload_n 2, 1) := by decide +kernel
theorem dX7_looser_99 : decode cX7_looser 99 = .ok (.aload_n 0, 1) := by decide +kernel
theorem dX7_looser_100 : decode cX7_looser 100 = .ok (.getfield 80, 3) := by decide +kernel
theorem dX7_looser_103 : decode cX7_looser 103 = .ok (.isub, 1) := by decide +kernel
theorem dX7_looser_104 : decode cX7_looser 104 = .ok (.ireturn, 1) := by decide +kernel
theorem dX7_keepsFor_0 : decode cX7_keepsFor 0 = .ok (.aload_n 0, 1) := by decide +kernel
theorem dX7_keepsFor_1 : decode cX7_keepsFor 1 = .ok (.iconst 0, 1) := by decide +kernel
theorem dX7_keepsFor_2 : decode cX7_keepsFor 2 = .ok (.invokevirtual 107, 3) := by decide +kernel
theorem dX7_keepsFor_5 : decode cX7_keepsFor 5 = .ok (.ifCond .eq 5, 3) := by decide +kernel
theorem dX7_keepsFor_8 : decode cX7_keepsFor 8 = .ok (.iconst 0, 1) := by decide +kernel
theorem dX7_keepsFor_9 : decode cX7_keepsFor 9 = .ok (.ireturn, 1) := by decide +kernel
theorem dX7_keepsFor_10 : decode cX7_keepsFor 10 = .ok (.iconst 1, 1) := by decide +kernel
theorem dX7_keepsFor_11 : decode cX7_keepsFor 11 = .ok (.istore_n 1, 1) := by decide +kernel
theorem dX7_keepsFor_12 : decode cX7_keepsFor 12 = .ok (.iload_n 1, 1) := by decide +kernel
theorem dX7_keepsFor_13 : decode cX7_keepsFor 13 = .ok (.sipush 400, 3) := by decide +kernel
theorem dX7_keepsFor_16 : decode cX7_keepsFor 16 = .ok (.if_icmp .gt 19, 3) := by decide +kernel
theorem dX7_keepsFor_19 : decode cX7_keepsFor 19 = .ok (.aload_n 0, 1) := by decide +kernel
theorem dX7_keepsFor_20 : decode cX7_keepsFor 20 = .ok (.iload_n 1, 1) := by decide +kernel
theorem dX7_keepsFor_21 : decode cX7_keepsFor 21 = .ok (.invokevirtual 107, 3) := by decide +kernel
theorem dX7_keepsFor_24 : decode cX7_keepsFor 24 = .ok (.ifCond .eq 5, 3) := by decide +kernel
theorem dX7_keepsFor_27 : decode cX7_keepsFor 27 = .ok (.iload_n 1, 1) := by decide +kernel
theorem dX7_keepsFor_28 : decode cX7_keepsFor 28 = .ok (.ireturn, 1) := by decide +kernel
theorem dX7_keepsFor_29 : decode cX7_keepsFor 29 = .ok (.iinc 1 1, 3) := by decide +kernel
theorem dX7_keepsFor_32 : decode cX7_keepsFor 32 = .ok (.goto (-20), 3) := by decide +kernel
theorem dX7_keepsFor_35 : decode cX7_keepsFor 35 = .ok (.bipush (-6), 2) := by decide +kernel
theorem dX7_keepsFor_37 : decode cX7_keepsFor 37 = .ok (.ireturn, 1) := by decide +kernel
theorem dX7_mostGrams_0 : decode cX7_mostGrams 0 = .ok (.aload_n 0, 1) := by decide +kernel
theorem dX7_mostGrams_1 : decode cX7_mostGrams 1 = .ok (.iconst 0, 1) := by decide +kernel
theorem dX7_mostGrams_2 : decode cX7_mostGrams 2 = .ok (.invokevirtual 107, 3) := by decide +kernel
theorem dX7_mostGrams_5 : decode cX7_mostGrams 5 = .ok (.ifCond .ne 9, 3) := by decide +kernel
theorem dX7_mostGrams_8 : decode cX7_mostGrams 8 = .ok (.sipush 9999, 3) := by decide +kernel
theorem dX7_mostGrams_11 : decode cX7_mostGrams 11 = .ok (.goto 4, 3) := by decide +kernel
theorem dX7_mostGrams_14 : decode cX7_mostGrams 14 = .ok (.iconst 0, 1) := by decide +kernel
theorem dX7_mostGrams_15 : decode cX7_mostGrams 15 = .ok (.istore_n 1, 1) := by decide +kernel
theorem dX7_mostGrams_16 : decode cX7_mostGrams 16 = .ok (.iload_n 1, 1) := by decide +kernel
theorem dX7_mostGrams_17 : decode cX7_mostGrams 17 = .ok (.ifCond .le 17, 3) := by decide +kernel
theorem dX7_mostGrams_20 : decode cX7_mostGrams 20 = .ok (.aload_n 0, 1) := by decide +kernel
theorem dX7_mostGrams_21 : decode cX7_mostGrams 21 = .ok (.iload_n 1, 1) := by decide +kernel
theorem dX7_mostGrams_22 : decode cX7_mostGrams 22 = .ok (.invokevirtual 110, 3) := by decide +kernel
theorem dX7_mostGrams_25 : decode cX7_mostGrams 25 = .ok (.ifCond .ne 9, 3) := by decide +kernel
theorem dX7_mostGrams_28 : decode cX7_mostGrams 28 = .ok (.iinc 1 (-1), 3) := by decide +kernel
theorem dX7_mostGrams_31 : decode cX7_mostGrams 31 = .ok (.goto (-15), 3) := by decide +kernel
theorem dX7_mostGrams_34 : decode cX7_mostGrams 34 = .ok (.iload_n 1, 1) := by decide +kernel
theorem dX7_mostGrams_35 : decode cX7_mostGrams 35 = .ok (.ireturn, 1) := by decide +kernel
theorem dX7_put_0 : decode cX7_put 0 = .ok (.lload_n 1, 1) := by decide +kernel
theorem dX7_put_1 : decode cX7_put 1 = .ok (.lstore_n 3, 1) := by decide +kernel
theorem dX7_put_2 : decode cX7_put 2 = .ok (.iconst 0, 1) := by decide +kernel
theorem dX7_put_3 : decode cX7_put 3 = .ok (.istore 5, 2) := by decide +kernel
theorem dX7_put_5 : decode cX7_put 5 = .ok (.lload_n 3, 1) := by decide +kernel
theorem dX7_put_6 : decode cX7_put 6 = .ok (.lconst 0, 1) := by decide +kernel
theorem dX7_put_7 : decode cX7_put 7 = .ok (.lcmp, 1) := by decide +kernel
theorem dX7_put_8 : decode cX7_put 8 = .ok (.ifCond .eq 55, 3) := by decide +kernel
theorem dX7_put_11 : decode cX7_put 11 = .ok (.iload 5, 2) := by decide +kernel
theorem dX7_put_13 : decode cX7_put 13 = .ok (.bipush 8, 2) := by decide +kernel
theorem dX7_put_15 : decode cX7_put 15 = .ok (.if_icmp .ge 48, 3) := by decide +kernel
theorem dX7_put_18 : decode cX7_put 18 = .ok (.aload_n 0, 1) := by decide +kernel
theorem dX7_put_19 : decode cX7_put 19 = .ok (.getfield 29, 3) := by decide +kernel
theorem dX7_put_22 : decode cX7_put 22 = .ok (.iload 5, 2) := by decide +kernel
theorem dX7_put_24 : decode cX7_put 24 = .ok (.lload_n 3, 1) := by decide +kernel
theorem dX7_put_25 : decode cX7_put 25 = .ok (.ldc2_w 156, 3) := by decide +kernel
theorem dX7_put_28 : decode cX7_put 28 = .ok (.land, 1) := by decide +kernel
theorem dX7_put_29 : decode cX7_put 29 = .ok (.l2i, 1) := by decide +kernel
theorem dX7_put_30 : decode cX7_put 30 = .ok (.iastore, 1) := by decide +kernel
theorem dX7_put_31 : decode cX7_put 31 = .ok (.aload_n 0, 1) := by decide +kernel
theorem dX7_put_32 : decode cX7_put 32 = .ok (.getfield 29, 3) := by decide +kernel
theorem dX7_put_35 : decode cX7_put 35 = .ok (.iload 5, 2) := by decide +kernel
theorem dX7_put_37 : decode cX7_put 37 = .ok (.iaload, 1) := by decide +kernel
theorem dX7_put_38 : decode cX7_put 38 = .ok (.i2l, 1) := by decide +kernel
theorem dX7_put_39 : decode cX7_put 39 = .ok (.bipush 33, 2) := by decide +kernel
theorem dX7_put_41 : decode cX7_put 41 = .ok (.bipush 126, 2) := by decide +kernel
theorem dX7_put_43 : decode cX7_put 43 = .ok (.invokestatic 47, 3) := by decide +kernel
theorem dX7_put_46 : decode cX7_put 46 = .ok (.ifCond .ne 6, 3) := by decide +kernel
theorem dX7_put_49 : decode cX7_put 49 = .ok (.bipush (-2), 2) := by decide +kernel
theorem dX7_put_51 : decode cX7_put 51 = .ok (.ireturn, 1) := by decide +kernel
theorem dX7_put_52 : decode cX7_put 52 = .ok (.lload_n 3, 1) := by decide +kernel
theorem dX7_put_53 : decode cX7_put 53 = .ok (.bipush 8, 2) := by decide +kernel
theorem dX7_put_55 : decode cX7_put 55 = .ok (.lushr, 1) := by decide +kernel
theorem dX7_put_56 : decode cX7_put 56 = .ok (.lstore_n 3, 1) := by decide +kernel
theorem dX7_put_57 : decode cX7_put 57 = .ok (.iinc 5 1, 3) := by decide +kernel
theorem dX7_put_60 : decode cX7_put 60 = .ok (.goto (-55), 3) := by decide +kernel
theorem dX7_put_63 : decode cX7_put 63 = .ok (.iload 5, 2) := by decide +kernel
theorem dX7_put_65 : decode cX7_put 65 = .ok (.ifCond .ne 6, 3) := by decide +kernel
theorem dX7_put_68 : decode cX7_put 68 = .ok (.bipush (-2), 2) := by decide +kernel
theorem dX7_put_70 : decode cX7_put 70 = .ok (.ireturn, 1) := by decide +kernel
theorem dX7_put_71 : decode cX7_put 71 = .ok (.aload_n 0, 1) := by decide +kernel
theorem dX7_put_72 : decode cX7_put 72 = .ok (.getfield 139, 3) := by decide +kernel
theorem dX7_put_75 : decode cX7_put 75 = .ok (.iload 5, 2) := by decide +kernel
theorem dX7_put_77 : decode cX7_put 77 = .ok (.iadd, 1) := by decide +kernel
theorem dX7_put_78 : decode cX7_put 78 = .ok (.bipush 80, 2) := by decide +kernel
theorem dX7_put_80 : decode cX7_put 80 = .ok (.if_icmp .le 6, 3) := by decide +kernel
theorem dX7_put_83 : decode cX7_put 83 = .ok (.bipush (-4), 2) := by decide +kernel
theorem dX7_put_85 : decode cX7_put 85 = .ok (.ireturn, 1) := by decide +kernel
theorem dX7_put_86 : decode cX7_put 86 = .ok (.iload 5, 2) := by decide +kernel
theorem dX7_put_88 : decode cX7_put 88 = .ok (.iconst 1, 1) := by decide +kernel
theorem dX7_put_89 : decode cX7_put 89 = .ok (.isub, 1) := by decide +kernel
theorem dX7_put_90 : decode cX7_put 90 = .ok (.istore 6, 2) := by decide +kernel
theorem dX7_put_92 : decode cX7_put 92 = .ok (.iload 6, 2) := by decide +kernel
theorem dX7_put_94 : decode cX7_put 94 = .ok (.ifCond .lt 35, 3) := by decide +kernel
theorem dX7_put_97 : decode cX7_put 97 = .ok (.aload_n 0, 1) := by decide +kernel
theorem dX7_put_98 : decode cX7_put 98 = .ok (.getfield 26, 3) := by decide +kernel
theorem dX7_put_101 : decode cX7_put 101 = .ok (.aload_n 0, 1) := by decide +kernel
theorem dX7_put_102 : decode cX7_put 102 = .ok (.getfield 139, 3) := by decide +kernel
theorem dX7_put_105 : decode cX7_put 105 = .ok (.aload_n 0, 1) := by decide +kernel
theorem dX7_put_106 : decode cX7_put 106 = .ok (.getfield 29, 3) := by decide +kernel
theorem dX7_put_109 : decode cX7_put 109 = .ok (.iload 6, 2) := by decide +kernel
theorem dX7_put_111 : decode cX7_put 111 = .ok (.iaload, 1) := by decide +kernel
theorem dX7_put_112 : decode cX7_put 112 = .ok (.iastore, 1) := by decide +kernel
theorem dX7_put_113 : decode cX7_put 113 = .ok (.aload_n 0, 1) := by decide +kernel
theorem dX7_put_114 : decode cX7_put 114 = .ok (.dup, 1) := by decide +kernel
theorem dX7_put_115 : decode cX7_put 115 = .ok (.getfield 139, 3) := by decide +kernel
theorem dX7_put_118 : decode cX7_put 118 = .ok (.iconst 1, 1) := by decide +kernel
theorem dX7_put_119 : decode cX7_put 119 = .ok (.iadd, 1) := by decide +kernel
theorem dX7_put_120 : decode cX7_put 120 = .ok (.putfield 139, 3) := by decide +kernel
theorem dX7_put_123 : decode cX7_put 123 = .ok (.iinc 6 (-1), 3) := by decide +kernel
theorem dX7_put_126 : decode cX7_put 126 = .ok (.goto (-34), 3) := by decide +kernel
theorem dX7_put_129 : decode cX7_put 129 = .ok (.aload_n 0, 1) := by decide +kernel
theorem dX7_put_130 : decode cX7_put 130 = .ok (.getfield 139, 3) := by decide +kernel
theorem dX7_put_133 : decode cX7_put 133 = .ok (.ireturn, 1) := by decide +kernel
theorem dX7_wipe_0 : decode cX7_wipe 0 = .ok (.aload_n 0, 1) := by decide +kernel
theorem dX7_wipe_1 : decode cX7_wipe 1 = .ok (.getfield 139, 3) := by decide +kernel
theorem dX7_wipe_4 : decode cX7_wipe 4 = .ok (.istore_n 1, 1) := by decide +kernel
theorem dX7_wipe_5 : decode cX7_wipe 5 = .ok (.aload_n 0, 1) := by decide +kernel
theorem dX7_wipe_6 : decode cX7_wipe 6 = .ok (.iconst 0, 1) := by decide +kernel
theorem dX7_wipe_7 : decode cX7_wipe 7 = .ok (.putfield 139, 3) := by decide +kernel
theorem dX7_wipe_10 : decode cX7_wipe 10 = .ok (.iload_n 1, 1) := by decide +kernel
theorem dX7_wipe_11 : decode cX7_wipe 11 = .ok (.ireturn, 1) := by decide +kernel
theorem dX7_sees_0 : decode cX7_sees 0 = .ok (.aload_n 0, 1) := by decide +kernel
theorem dX7_sees_1 : decode cX7_sees 1 = .ok (.getfield 158, 3) := by decide +kernel
theorem dX7_sees_4 : decode cX7_sees 4 = .ok (.aload_n 0, 1) := by decide +kernel
theorem dX7_sees_5 : decode cX7_sees 5 = .ok (.getfield 139, 3) := by decide +kernel
theorem dX7_sees_8 : decode cX7_sees 8 = .ok (.if_icmp .ge 25, 3) := by decide +kernel
theorem dX7_sees_11 : decode cX7_sees 11 = .ok (.aload_n 0, 1) := by decide +kernel
theorem dX7_sees_12 : decode cX7_sees 12 = .ok (.getfield 26, 3) := by decide +kernel
theorem dX7_sees_15 : decode cX7_sees 15 = .ok (.aload_n 0, 1) := by decide +kernel
theorem dX7_sees_16 : decode cX7_sees 16 = .ok (.getfield 158, 3) := by decide +kernel
theorem dX7_sees_19 : decode cX7_sees 19 = .ok (.iaload, 1) := by decide +kernel
theorem dX7_sees_20 : decode cX7_sees 20 = .ok (.i2l, 1) := by decide +kernel
theorem dX7_sees_21 : decode cX7_sees 21 = .ok (.iload_n 1, 1) := by decide +kernel
theorem dX7_sees_22 : decode cX7_sees 22 = .ok (.iload_n 2, 1) := by decide +kernel
theorem dX7_sees_23 : decode cX7_sees 23 = .ok (.invokestatic 47, 3) := by decide +kernel
theorem dX7_sees_26 : decode cX7_sees 26 = .ok (.ifCond .eq 7, 3) := by decide +kernel
theorem dX7_sees_29 : decode cX7_sees 29 = .ok (.iconst 1, 1) := by decide +kernel
theorem dX7_sees_30 : decode cX7_sees 30 = .ok (.goto 4, 3) := by decide +kernel
theorem dX7_sees_33 : decode cX7_sees 33 = .ok (.iconst 0, 1) := by decide +kernel
theorem dX7_sees_34 : decode cX7_sees 34 = .ok (.ireturn, 1) := by decide +kernel
theorem dX7_sign_0 : decode cX7_sign 0 = .ok (.aload_n 0, 1) := by decide +kernel
theorem dX7_sign_1 : decode cX7_sign 1 = .ok (.iload_n 1, 1) := by decide +kernel
theorem dX7_sign_2 : decode cX7_sign 2 = .ok (.iload_n 1, 1) := by decide +kernel
theorem dX7_sign_3 : decode cX7_sign 3 = .ok (.invokevirtual 161, 3) := by decide +kernel
theorem dX7_sign_6 : decode cX7_sign 6 = .ok (.istore_n 2, 1) := by decide +kernel
theorem dX7_sign_7 : decode cX7_sign 7 = .ok (.aload_n 0, 1) := by decide +kernel
theorem dX7_sign_8 : decode cX7_sign 8 = .ok (.dup, 1) := by decide +kernel
theorem dX7_sign_9 : decode cX7_sign 9 = .ok (.getfield 158, 3) := by decide +kernel
theorem dX7_sign_12 : decode cX7_sign 12 = .ok (.iload_n 2, 1) := by decide +kernel
theorem dX7_sign_13 : decode cX7_sign 13 = .ok (.ifCond .eq 7, 3) := by decide +kernel
theorem dX7_sign_16 : decode cX7_sign 16 = .ok (.iconst 1, 1) := by decide +kernel
theorem dX7_sign_17 : decode cX7_sign 17 = .ok (.goto 4, 3) := by decide +kernel
theorem dX7_sign_20 : decode cX7_sign 20 = .ok (.iconst 0, 1) := by decide +kernel
theorem dX7_sign_21 : decode cX7_sign 21 = .ok (.iadd, 1) := by decide +kernel
theorem dX7_sign_22 : decode cX7_sign 22 = .ok (.putfield 158, 3) := by decide +kernel
theorem dX7_sign_25 : decode cX7_sign 25 = .ok (.iload_n 2, 1) := by decide +kernel
theorem dX7_sign_26 : decode cX7_sign 26 = .ok (.ireturn, 1) := by decide +kernel
theorem dX7_number_0 : decode cX7_number 0 = .ok (.aload_n 0, 1) := by decide +kernel
theorem dX7_number_1 : decode cX7_number 1 = .ok (.bipush 48, 2) := by decide +kernel
theorem dX7_number_3 : decode cX7_number 3 = .ok (.bipush 57, 2) := by decide +kernel
theorem dX7_number_5 : decode cX7_number 5 = .ok (.invokevirtual 161, 3) := by decide +kernel
theorem dX7_number_8 : decode cX7_number 8 = .ok (.ifCond .ne 5, 3) := by decide +kernel
theorem dX7_number_11 : decode cX7_number 11 = .ok (.iconst 0, 1) := by decide +kernel
theorem dX7_number_12 : decode cX7_number 12 = .ok (.ireturn, 1) := by decide +kernel
theorem dX7_number_13 : decode cX7_number 13 = .ok (.aload_n 0, 1) := by decide +kernel
theorem dX7_number_14 : decode cX7_number 14 = .ok (.getfield 26, 3) := by decide +kernel
theorem dX7_number_17 : decode cX7_number 17 = .ok (.aload_n 0, 1) := by decide +kernel
theorem dX7_number_18 : decode cX7_number 18 = .ok (.getfield 158, 3) := by decide +kernel
theorem dX7_number_21 : decode cX7_number 21 = .ok (.iaload, 1) := by decide +kernel
theorem dX7_number_22 : decode cX7_number 22 = .ok (.bipush 48, 2) := by decide +kernel
theorem dX7_number_24 : decode cX7_number 24 = .ok (.isub, 1) := by decide +kernel
theorem dX7_number_25 : decode cX7_number 25 = .ok (.istore_n 2, 1) := by decide +kernel
theorem dX7_number_26 : decode cX7_number 26 = .ok (.aload_n 0, 1) := by decide +kernel
theorem dX7_number_27 : decode cX7_number 27 = .ok (.dup, 1) := by decide +kernel
theorem dX7_number_28 : decode cX7_number 28 = .ok (.getfield 158, 3) := by decide +kernel
theorem dX7_number_31 : decode cX7_number 31 = .ok (.iconst 1, 1) := by decide +kernel
theorem dX7_number_32 : decode cX7_number 32 = .ok (.iadd, 1) := by decide +kernel
theorem dX7_number_33 : decode cX7_number 33 = .ok (.putfield 158, 3) := by decide +kernel
theorem dX7_number_36 : decode cX7_number 36 = .ok (.iload_n 2, 1) := by decide +kernel
theorem dX7_number_37 : decode cX7_number 37 = .ok (.ifCond .le 68, 3) := by decide +kernel
theorem dX7_number_40 : decode cX7_number 40 = .ok (.aload_n 0, 1) := by decide +kernel
theorem dX7_number_41 : decode cX7_number 41 = .ok (.bipush 48, 2) := by decide +kernel
theorem dX7_number_43 : decode cX7_number 43 = .ok (.bipush 57, 2) := by decide +kernel
theorem dX7_number_45 : decode cX7_number 45 = .ok (.invokevirtual 161, 3) := by decide +kernel
theorem dX7_number_48 : decode cX7_number 48 = .ok (.ifCond .eq 57, 3) := by decide +kernel
theorem dX7_number_51 : decode cX7_number 51 = .ok (.bipush 10, 2) := by decide +kernel
theorem dX7_number_53 : decode cX7_number 53 = .ok (.iload_n 2, 1) := by decide +kernel
theorem dX7_number_54 : decode cX7_number 54 = .ok (.imul, 1) := by decide +kernel
theorem dX7_number_55 : decode cX7_number 55 = .ok (.aload_n 0, 1) := by decide +kernel
theorem dX7_number_56 : decode cX7_number 56 = .ok (.getfield 26, 3) := by decide +kernel
theorem dX7_number_59 : decode cX7_number 59 = .ok (.aload_n 0, 1) := by decide +kernel
theorem dX7_number_60 : decode cX7_number 60 = .ok (.getfield 158, 3) := by decide +kernel
theorem dX7_number_63 : decode cX7_number 63 = .ok (.iaload, 1) := by decide +kernel
theorem dX7_number_64 : decode cX7_number 64 = .ok (.iadd, 1) := by decide +kernel
theorem dX7_number_65 : decode cX7_number 65 = .ok (.bipush 48, 2) := by decide +kernel
theorem dX7_number_67 : decode cX7_number 67 = .ok (.isub, 1) := by decide +kernel
theorem dX7_number_68 : decode cX7_number 68 = .ok (.sipush 9999, 3) := by decide +kernel
theorem dX7_number_71 : decode cX7_number 71 = .ok (.if_icmp .gt 34, 3) := by decide +kernel
theorem dX7_number_74 : decode cX7_number 74 = .ok (.bipush 10, 2) := by decide +kernel
theorem dX7_number_76 : decode cX7_number 76 = .ok (.iload_n 2, 1) := by decide +kernel
theorem dX7_number_77 : decode cX7_number 77 = .ok (.imul, 1) := by decide +kernel
theorem dX7_number_78 : decode cX7_number 78 = .ok (.aload_n 0, 1) := by decide +kernel
theorem dX7_number_79 : decode cX7_number 79 = .ok (.getfield 26, 3) := by decide +kernel
theorem dX7_number_82 : decode cX7_number 82 = .ok (.aload_n 0, 1) := by decide +kernel
theorem dX7_number_83 : decode cX7_number 83 = .ok (.getfield 158, 3) := by decide +kernel
theorem dX7_number_86 : decode cX7_number 86 = .ok (.iaload, 1) := by decide +kernel
theorem dX7_number_87 : decode cX7_number 87 = .ok (.iadd, 1) := by decide +kernel
theorem dX7_number_88 : decode cX7_number 88 = .ok (.bipush 48, 2) := by decide +kernel
theorem dX7_number_90 : decode cX7_number 90 = .ok (.isub, 1) := by decide +kernel
theorem dX7_number_91 : decode cX7_number 91 = .ok (.istore_n 2, 1) := by decide +kernel
theorem dX7_number_92 : decode cX7_number 92 = .ok (.aload_n 0, 1) := by decide +kernel
theorem dX7_number_93 : decode cX7_number 93 = .ok (.dup, 1) := by decide +kernel
theorem dX7_number_94 : decode cX7_number 94 = .ok (.getfield 158, 3) := by decide +kernel
theorem dX7_number_97 : decode cX7_number 97 = .ok (.iconst 1, 1) := by decide +kernel
theorem dX7_number_98 : decode cX7_number 98 = .ok (.iadd, 1) := by decide +kernel
theorem dX7_number_99 : decode cX7_number 99 = .ok (.putfield 158, 3) := by decide +kernel
theorem dX7_number_102 : decode cX7_number 102 = .ok (.goto (-66), 3) := by decide +kernel
theorem dX7_number_105 : decode cX7_number 105 = .ok (.aload_n 0, 1) := by decide +kernel
theorem dX7_number_106 : decode cX7_number 106 = .ok (.getfield 32, 3) := by decide +kernel
theorem dX7_number_109 : decode cX7_number 109 = .ok (.iload_n 1, 1) := by decide +kernel
theorem dX7_number_110 : decode cX7_number 110 = .ok (.iload_n 2, 1) := by decide +kernel
theorem dX7_number_111 : decode cX7_number 111 = .ok (.iastore, 1) := by decide +kernel
theorem dX7_number_112 : decode cX7_number 112 = .ok (.iconst 1, 1) := by decide +kernel
theorem dX7_number_113 : decode cX7_number 113 = .ok (.ireturn, 1) := by decide +kernel
theorem dX7_digit_0 : decode cX7_digit 0 = .ok (.aload_n 0, 1) := by decide +kernel
theorem dX7_digit_1 : decode cX7_digit 1 = .ok (.bipush 48, 2) := by decide +kernel
theorem dX7_digit_3 : decode cX7_digit 3 = .ok (.bipush 57, 2) := by decide +kernel
theorem dX7_digit_5 : decode cX7_digit 5 = .ok (.invokevirtual 161, 3) := by decide +kernel
theorem dX7_digit_8 : decode cX7_digit 8 = .ok (.ifCond .ne 5, 3) := by decide +kernel
theorem dX7_digit_11 : decode cX7_digit 11 = .ok (.iconst 0, 1) := by decide +kernel
theorem dX7_digit_12 : decode cX7_digit 12 = .ok (.ireturn, 1) := by decide +kernel
theorem dX7_digit_13 : decode cX7_digit 13 = .ok (.aload_n 0, 1) := by decide +kernel
theorem dX7_digit_14 : decode cX7_digit 14 = .ok (.getfield 32, 3) := by decide +kernel
theorem dX7_digit_17 : decode cX7_digit 17 = .ok (.iconst 0, 1) := by decide +kernel
theorem dX7_digit_18 : decode cX7_digit 18 = .ok (.aload_n 0, 1) := by decide +kernel
theorem dX7_digit_19 : decode cX7_digit 19 = .ok (.getfield 26, 3) := by decide +kernel
theorem dX7_digit_22 : decode cX7_digit 22 = .ok (.aload_n 0, 1) := by decide +kernel
theorem dX7_digit_23 : decode cX7_digit 23 = .ok (.getfield 158, 3) := by decide +kernel
theorem dX7_digit_26 : decode cX7_digit 26 = .ok (.iaload, 1) := by decide +kernel
theorem dX7_digit_27 : decode cX7_digit 27 = .ok (.bipush 48, 2) := by decide +kernel
theorem dX7_digit_29 : decode cX7_digit 29 = .ok (.isub, 1) := by decide +kernel
theorem dX7_digit_30 : decode cX7_digit 30 = .ok (.iastore, 1) := by decide +kernel
theorem dX7_digit_31 : decode cX7_digit 31 = .ok (.aload_n 0, 1) := by decide +kernel
theorem dX7_digit_32 : decode cX7_digit 32 = .ok (.dup, 1) := by decide +kernel
theorem dX7_digit_33 : decode cX7_digit 33 = .ok (.getfield 158, 3) := by decide +kernel
theorem dX7_digit_36 : decode cX7_digit 36 = .ok (.iconst 1, 1) := by decide +kernel
theorem dX7_digit_37 : decode cX7_digit 37 = .ok (.iadd, 1) := by decide +kernel
theorem dX7_digit_38 : decode cX7_digit 38 = .ok (.putfield 158, 3) := by decide +kernel
theorem dX7_digit_41 : decode cX7_digit 41 = .ok (.iconst 1, 1) := by decide +kernel
theorem dX7_digit_42 : decode cX7_digit 42 = .ok (.ireturn, 1) := by decide +kernel
theorem dX7_order_0 : decode cX7_order 0 = .ok (.aload_n 0, 1) := by decide +kernel
theorem dX7_order_1 : decode cX7_order 1 = .ok (.getfield 158, 3) := by decide +kernel
theorem dX7_order_4 : decode cX7_order 4 = .ok (.aload_n 0, 1) := by decide +kernel
theorem dX7_order_5 : decode cX7_order 5 = .ok (.getfield 139, 3) := by decide +kernel
theorem dX7_order_8 : decode cX7_order 8 = .ok (.if_icmp .ge 15, 3) := by decide +kernel
theorem dX7_order_11 : decode cX7_order 11 = .ok (.aload_n 0, 1) := by decide +kernel
theorem dX7_order_12 : decode cX7_order 12 = .ok (.getfield 26, 3) := by decide +kernel
theorem dX7_order_15 : decode cX7_order 15 = .ok (.aload_n 0, 1) := by decide +kernel
theorem dX7_order_16 : decode cX7_order 16 = .ok (.getfield 158, 3) := by decide +kernel
theorem dX7_order_19 : decode cX7_order 19 = .ok (.iaload, 1) := by decide +kernel
theorem dX7_order_20 : decode cX7_order 20 = .ok (.goto 4, 3) := by decide +kernel
theorem dX7_order_23 : decode cX7_order 23 = .ok (.iconst 0, 1) := by decide +kernel
theorem dX7_order_24 : decode cX7_order 24 = .ok (.istore_n 2, 1) := by decide +kernel
theorem dX7_order_25 : decode cX7_order 25 = .ok (.iload_n 2, 1) := by decide +kernel
theorem dX7_order_26 : decode cX7_order 26 = .ok (.bipush 43, 2) := by decide +kernel
theorem dX7_order_28 : decode cX7_order 28 = .ok (.if_icmp .eq 24, 3) := by decide +kernel
theorem dX7_order_31 : decode cX7_order 31 = .ok (.iload_n 2, 1) := by decide +kernel
theorem dX7_order_32 : decode cX7_order 32 = .ok (.bipush 115, 2) := by decide +kernel
theorem dX7_order_34 : decode cX7_order 34 = .ok (.if_icmp .eq 18, 3) := by decide +kernel
theorem dX7_order_37 : decode cX7_order 37 = .ok (.iload_n 2, 1) := by decide +kernel
theorem dX7_order_38 : decode cX7_order 38 = .ok (.bipush 100, 2) := by decide +kernel
theorem dX7_order_40 : decode cX7_order 40 = .ok (.if_icmp .eq 12, 3) := by decide +kernel
theorem dX7_order_43 : decode cX7_order 43 = .ok (.iload_n 2, 1) := by decide +kernel
theorem dX7_order_44 : decode cX7_order 44 = .ok (.bipush 109, 2) := by decide +kernel
theorem dX7_order_46 : decode cX7_order 46 = .ok (.if_icmp .eq 6, 3) := by decide +kernel
theorem dX7_order_49 : decode cX7_order 49 = .ok (.bipush (-3), 2) := by decide +kernel
theorem dX7_order_51 : decode cX7_order 51 = .ok (.ireturn, 1) := by decide +kernel
theorem dX7_order_52 : decode cX7_order 52 = .ok (.aload_n 0, 1) := by decide +kernel
theorem dX7_order_53 : decode cX7_order 53 = .ok (.dup, 1) := by decide +kernel
theorem dX7_order_54 : decode cX7_order 54 = .ok (.getfield 158, 3) := by decide +kernel
theorem dX7_order_57 : decode cX7_order 57 = .ok (.iconst 1, 1) := by decide +kernel
theorem dX7_order_58 : decode cX7_order 58 = .ok (.iadd, 1) := by decide +kernel
theorem dX7_order_59 : decode cX7_order 59 = .ok (.putfield 158, 3) := by decide +kernel
theorem dX7_order_62 : decode cX7_order 62 = .ok (.iload_n 2, 1) := by decide +kernel
theorem dX7_order_63 : decode cX7_order 63 = .ok (.bipush 43, 2) := by decide +kernel
theorem dX7_order_65 : decode cX7_order 65 = .ok (.if_icmp .ne 88, 3) := by decide +kernel
theorem dX7_order_68 : decode cX7_order 68 = .ok (.aload_n 0, 1) := by decide +kernel
theorem dX7_order_69 : decode cX7_order 69 = .ok (.iconst 0, 1) := by decide +kernel
theorem dX7_order_70 : decode cX7_order 70 = .ok (.invokevirtual 165, 3) := by decide +kernel
theorem dX7_order_73 : decode cX7_order 73 = .ok (.ifCond .eq 75, 3) := by decide +kernel
theorem dX7_order_76 : decode cX7_order 76 = .ok (.aload_n 0, 1) := by decide +kernel
theorem dX7_order_77 : decode cX7_order 77 = .ok (.bipush 58, 2) := by decide +kernel
theorem dX7_order_79 : decode cX7_order 79 = .ok (.invokevirtual 168, 3) := by decide +kernel
theorem dX7_order_82 : decode cX7_order 82 = .ok (.ifCond .eq 66, 3) := by decide +kernel
theorem dX7_order_85 : decode cX7_order 85 = .ok (.aload_n 0, 1) := by decide +kernel
theorem dX7_order_86 : decode cX7_order 86 = .ok (.iconst 1, 1) := by decide +kernel
theorem dX7_order_87 : decode cX7_order 87 = .ok (.invokevirtual 165, 3) := by decide +kernel
theorem dX7_order_90 : decode cX7_order 90 = .ok (.ifCond .eq 58, 3) := by decide +kernel
theorem dX7_order_93 : decode cX7_order 93 = .ok (.aload_n 0, 1) := by decide +kernel
theorem dX7_order_94 : decode cX7_order 94 = .ok (.bipush 44, 2) := by decide +kernel
theorem dX7_order_96 : decode cX7_order 96 = .ok (.invokevirtual 168, 3) := by decide +kernel
theorem dX7_order_99 : decode cX7_order 99 = .ok (.ifCond .eq 49, 3) := by decide +kernel
theorem dX7_order_102 : decode cX7_order 102 = .ok (.aload_n 0, 1) := by decide +kernel
theorem dX7_order_103 : decode cX7_order 103 = .ok (.iconst 2, 1) := by decide +kernel
theorem dX7_order_104 : decode cX7_order 104 = .ok (.invokevirtual 165, 3) := by decide +kernel
theorem dX7_order_107 : decode cX7_order 107 = .ok (.ifCond .eq 41, 3) := by decide +kernel
theorem dX7_order_110 : decode cX7_order 110 = .ok (.aload_n 0, 1) := by decide +kernel
theorem dX7_order_111 : decode cX7_order 111 = .ok (.bipush 44, 2) := by decide +kernel
theorem dX7_order_113 : decode cX7_order 113 = .ok (.invokevirtual 168, 3) := by decide +kernel
theorem dX7_order_116 : decode cX7_order 116 = .ok (.ifCond .eq 32, 3) := by decide +kernel
theorem dX7_order_119 : decode cX7_order 119 = .ok (.aload_n 0, 1) := by decide +kernel
theorem dX7_order_120 : decode cX7_order 120 = .ok (.iconst 3, 1) := by decide +kernel
theorem dX7_order_121 : decode cX7_order 121 = .ok (.invokevirtual 165, 3) := by decide +kernel
theorem dX7_order_124 : decode cX7_order 124 = .ok (.ifCond .eq 24, 3) := by decide +kernel
theorem dX7_order_127 : decode cX7_order 127 = .ok (.aload_n 0, 1) := by decide +kernel
theorem dX7_order_128 : decode cX7_order 128 = .ok (.bipush 42, 2) := by decide +kernel
theorem dX7_order_130 : decode cX7_order 130 = .ok (.invokevirtual 168, 3) := by decide +kernel
theorem dX7_order_133 : decode cX7_order 133 = .ok (.ifCond .eq 15, 3) := by decide +kernel
theorem dX7_order_136 : decode cX7_order 136 = .ok (.aload_n 0, 1) := by decide +kernel
theorem dX7_order_137 : decode cX7_order 137 = .ok (.iconst 4, 1) := by decide +kernel
theorem dX7_order_138 : decode cX7_order 138 = .ok (.invokevirtual 165, 3) := by decide +kernel
theorem dX7_order_141 : decode cX7_order 141 = .ok (.ifCond .eq 7, 3) := by decide +kernel
theorem dX7_order_144 : decode cX7_order 144 = .ok (.iconst 1, 1) := by decide +kernel
theorem dX7_order_145 : decode cX7_order 145 = .ok (.goto 4, 3) := by decide +kernel
theorem dX7_order_148 : decode cX7_order 148 = .ok (.iconst 0, 1) := by decide +kernel
theorem dX7_order_149 : decode cX7_order 149 = .ok (.istore_n 3, 1) := by decide +kernel
theorem dX7_order_150 : decode cX7_order 150 = .ok (.goto 48, 3) := by decide +kernel
theorem dX7_order_153 : decode cX7_order 153 = .ok (.iload_n 2, 1) := by decide +kernel
theorem dX7_order_154 : decode cX7_order 154 = .ok (.bipush 115, 2) := by decide +kernel
theorem dX7_order_156 : decode cX7_order 156 = .ok (.if_icmp .ne 36, 3) := by decide +kernel
theorem dX7_order_159 : decode cX7_order 159 = .ok (.aload_n 0, 1) := by decide +kernel
theorem dX7_order_160 : decode cX7_order 160 = .ok (.invokevirtual 171, 3) := by decide +kernel
theorem dX7_order_163 : decode cX7_order 163 = .ok (.ifCond .eq 24, 3) := by decide +kernel
theorem dX7_order_166 : decode cX7_order 166 = .ok (.aload_n 0, 1) := by decide +kernel
theorem dX7_order_167 : decode cX7_order 167 = .ok (.bipush 61, 2) := by decide +kernel
theorem dX7_order_169 : decode cX7_order 169 = .ok (.invokevirtual 168, 3) := by decide +kernel
theorem dX7_order_172 : decode cX7_order 172 = .ok (.ifCond .eq 15, 3) := by decide +kernel
theorem dX7_order_175 : decode cX7_order 175 = .ok (.aload_n 0, 1) := by decide +kernel
theorem dX7_order_176 : decode cX7_order 176 = .ok (.iconst 1, 1) := by decide +kernel
theorem dX7_order_177 : decode cX7_order 177 = .ok (.invokevirtual 165, 3) := by decide +kernel
theorem dX7_order_180 : decode cX7_order 180 = .ok (.ifCond .eq 7, 3) := by decide +kernel
theorem dX7_order_183 : decode cX7_order 183 = .ok (.iconst 1, 1) := by decide +kernel
theorem dX7_order_184 : decode cX7_order 184 = .ok (.goto 4, 3) := by decide +kernel
theorem dX7_order_187 : decode cX7_order 187 = .ok (.iconst 0, 1) := by decide +kernel
theorem dX7_order_188 : decode cX7_order 188 = .ok (.istore_n 3, 1) := by decide +kernel
theorem dX7_order_189 : decode cX7_order 189 = .ok (.goto 9, 3) := by decide +kernel
theorem dX7_order_192 : decode cX7_order 192 = .ok (.aload_n 0, 1) := by decide +kernel
theorem dX7_order_193 : decode cX7_order 193 = .ok (.iconst 0, 1) := by decide +kernel
theorem dX7_order_194 : decode cX7_order 194 = .ok (.invokevirtual 165, 3) := by decide +kernel
theorem dX7_order_197 : decode cX7_order 197 = .ok (.istore_n 3, 1) := by decide +kernel
theorem dX7_order_198 : decode cX7_order 198 = .ok (.iload_n 3, 1) := by decide +kernel
theorem dX7_order_199 : decode cX7_order 199 = .ok (.ifCond .ne 6, 3) := by decide +kernel
theorem dX7_order_202 : decode cX7_order 202 = .ok (.bipush (-3), 2) := by decide +kernel
theorem dX7_order_204 : decode cX7_order 204 = .ok (.ireturn, 1) := by decide +kernel
theorem dX7_order_205 : decode cX7_order 205 = .ok (.iload_n 1, 1) := by decide +kernel
theorem dX7_order_206 : decode cX7_order 206 = .ok (.ifCond .ne 5, 3) := by decide +kernel
theorem dX7_order_209 : decode cX7_order 209 = .ok (.iconst 0, 1) := by decide +kernel
theorem dX7_order_210 : decode cX7_order 210 = .ok (.ireturn, 1) := by decide +kernel
theorem dX7_order_211 : decode cX7_order 211 = .ok (.iload_n 2, 1) := by decide +kernel
theorem dX7_order_212 : decode cX7_order 212 = .ok (.bipush 43, 2) := by decide +kernel
theorem dX7_order_214 : decode cX7_order 214 = .ok (.if_icmp .ne 40, 3) := by decide +kernel
theorem dX7_order_217 : decode cX7_order 217 = .ok (.aload_n 0, 1) := by decide +kernel
theorem dX7_order_218 : decode cX7_order 218 = .ok (.aload_n 0, 1) := by decide +kernel
theorem dX7_order_219 : decode cX7_order 219 = .ok (.getfield 32, 3) := by decide +kernel
theorem dX7_order_222 : decode cX7_order 222 = .ok (.iconst 0, 1) := by decide +kernel
theorem dX7_order_223 : decode cX7_order 223 = .ok (.iaload, 1) := by decide +kernel
theorem dX7_order_224 : decode cX7_order 224 = .ok (.aload_n 0, 1) := by decide +kernel
theorem dX7_order_225 : decode cX7_order 225 = .ok (.getfield 32, 3) := by decide +kernel
theorem dX7_order_228 : decode cX7_order 228 = .ok (.iconst 1, 1) := by decide +kernel
theorem dX7_order_229 : decode cX7_order 229 = .ok (.iaload, 1) := by decide +kernel
theorem dX7_order_230 : decode cX7_order 230 = .ok (.aload_n 0, 1) := by decide +kernel
theorem dX7_order_231 : decode cX7_order 231 = .ok (.getfield 32, 3) := by decide +kernel
theorem dX7_order_234 : decode cX7_order 234 = .ok (.iconst 2, 1) := by decide +kernel
theorem dX7_order_235 : decode cX7_order 235 = .ok (.iaload, 1) := by decide +kernel
theorem dX7_order_236 : decode cX7_order 236 = .ok (.aload_n 0, 1) := by decide +kernel
theorem dX7_order_237 : decode cX7_order 237 = .ok (.getfield 32, 3) := by decide +kernel
theorem dX7_order_240 : decode cX7_order 240 = .ok (.iconst 3, 1) := by decide +kernel
theorem dX7_order_241 : decode cX7_order 241 = .ok (.iaload, 1) := by decide +kernel
theorem dX7_order_242 : decode cX7_order 242 = .ok (.aload_n 0, 1) := by decide +kernel
theorem dX7_order_243 : decode cX7_order 243 = .ok (.getfield 32, 3) := by decide +kernel
theorem dX7_order_246 : decode cX7_order 246 = .ok (.iconst 4, 1) := by decide +kernel
theorem dX7_order_247 : decode cX7_order 247 = .ok (.iaload, 1) := by decide +kernel
theorem dX7_order_248 : decode cX7_order 248 = .ok (.invokevirtual 116, 3) := by decide +kernel
theorem dX7_order_251 : decode cX7_order 251 = .ok (.goto 57, 3) := by decide +kernel
theorem dX7_order_254 : decode cX7_order 254 = .ok (.iload_n 2, 1) := by decide +kernel
theorem dX7_order_255 : decode cX7_order 255 = .ok (.bipush 115, 2) := by decide +kernel
theorem dX7_order_257 : decode cX7_order 257 = .ok (.if_icmp .ne 22, 3) := by decide +kernel
theorem dX7_order_260 : decode cX7_order 260 = .ok (.aload_n 0, 1) := by decide +kernel
theorem dX7_order_261 : decode cX7_order 261 = .ok (.aload_n 0, 1) := by decide +kernel
theorem dX7_order_262 : decode cX7_order 262 = .ok (.getfield 32, 3) := by decide +kernel
theorem dX7_order_265 : decode cX7_order 265 = .ok (.iconst 0, 1) := by decide +kernel
theorem dX7_order_266 : decode cX7_order 266 = .ok (.iaload, 1) := by decide +kernel
theorem dX7_order_267 : decode cX7_order 267 = .ok (.aload_n 0, 1) := by decide +kernel
theorem dX7_order_268 : decode cX7_order 268 = .ok (.getfield 32, 3) := by decide +kernel
theorem dX7_order_271 : decode cX7_order 271 = .ok (.iconst 1, 1) := by decide +kernel
theorem dX7_order_272 : decode cX7_order 272 = .ok (.iaload, 1) := by decide +kernel
theorem dX7_order_273 : decode cX7_order 273 = .ok (.invokevirtual 124, 3) := by decide +kernel
theorem dX7_order_276 : decode cX7_order 276 = .ok (.goto 32, 3) := by decide +kernel
theorem dX7_order_279 : decode cX7_order 279 = .ok (.iload_n 2, 1) := by decide +kernel
theorem dX7_order_280 : decode cX7_order 280 = .ok (.bipush 100, 2) := by decide +kernel
theorem dX7_order_282 : decode cX7_order 282 = .ok (.if_icmp .ne 16, 3) := by decide +kernel
theorem dX7_order_285 : decode cX7_order 285 = .ok (.aload_n 0, 1) := by decide +kernel
theorem dX7_order_286 : decode cX7_order 286 = .ok (.aload_n 0, 1) := by decide +kernel
theorem dX7_order_287 : decode cX7_order 287 = .ok (.getfield 32, 3) := by decide +kernel
theorem dX7_order_290 : decode cX7_order 290 = .ok (.iconst 0, 1) := by decide +kernel
theorem dX7_order_291 : decode cX7_order 291 = .ok (.iaload, 1) := by decide +kernel
theorem dX7_order_292 : decode cX7_order 292 = .ok (.invokevirtual 133, 3) := by decide +kernel
theorem dX7_order_295 : decode cX7_order 295 = .ok (.goto 13, 3) := by decide +kernel
theorem dX7_order_298 : decode cX7_order 298 = .ok (.aload_n 0, 1) := by decide +kernel
theorem dX7_order_299 : decode cX7_order 299 = .ok (.aload_n 0, 1) := by decide +kernel
theorem dX7_order_300 : decode cX7_order 300 = .ok (.getfield 32, 3) := by decide +kernel
theorem dX7_order_303 : decode cX7_order 303 = .ok (.iconst 0, 1) := by decide +kernel
theorem dX7_order_304 : decode cX7_order 304 = .ok (.iaload, 1) := by decide +kernel
theorem dX7_order_305 : decode cX7_order 305 = .ok (.invokevirtual 130, 3) := by decide +kernel
theorem dX7_order_308 : decode cX7_order 308 = .ok (.ireturn, 1) := by decide +kernel
theorem dX7_isWell_0 : decode cX7_isWell 0 = .ok (.aload_n 0, 1) := by decide +kernel
theorem dX7_isWell_1 : decode cX7_isWell 1 = .ok (.iconst 0, 1) := by decide +kernel
theorem dX7_isWell_2 : decode cX7_isWell 2 = .ok (.putfield 158, 3) := by decide +kernel
theorem dX7_isWell_5 : decode cX7_isWell 5 = .ok (.aload_n 0, 1) := by decide +kernel
theorem dX7_isWell_6 : decode cX7_isWell 6 = .ok (.iconst 0, 1) := by decide +kernel
theorem dX7_isWell_7 : decode cX7_isWell 7 = .ok (.invokevirtual 174, 3) := by decide +kernel
theorem dX7_isWell_10 : decode cX7_isWell 10 = .ok (.ifCond .ne 7, 3) := by decide +kernel
theorem dX7_isWell_13 : decode cX7_isWell 13 = .ok (.iconst 1, 1) := by decide +kernel
theorem dX7_isWell_14 : decode cX7_isWell 14 = .ok (.goto 4, 3) := by decide +kernel
theorem dX7_isWell_17 : decode cX7_isWell 17 = .ok (.iconst 0, 1) := by decide +kernel
theorem dX7_isWell_18 : decode cX7_isWell 18 = .ok (.istore_n 1, 1) := by decide +kernel
theorem dX7_isWell_19 : decode cX7_isWell 19 = .ok (.iload_n 1, 1) := by decide +kernel
theorem dX7_isWell_20 : decode cX7_isWell 20 = .ok (.ifCond .eq 40, 3) := by decide +kernel
theorem dX7_isWell_23 : decode cX7_isWell 23 = .ok (.aload_n 0, 1) := by decide +kernel
theorem dX7_isWell_24 : decode cX7_isWell 24 = .ok (.getfield 158, 3) := by decide +kernel
theorem dX7_isWell_27 : decode cX7_isWell 27 = .ok (.aload_n 0, 1) := by decide +kernel
theorem dX7_isWell_28 : decode cX7_isWell 28 = .ok (.getfield 139, 3) := by decide +kernel
theorem dX7_isWell_31 : decode cX7_isWell 31 = .ok (.if_icmp .ge 29, 3) := by decide +kernel
theorem dX7_isWell_34 : decode cX7_isWell 34 = .ok (.aload_n 0, 1) := by decide +kernel
theorem dX7_isWell_35 : decode cX7_isWell 35 = .ok (.bipush 59, 2) := by decide +kernel
theorem dX7_isWell_37 : decode cX7_isWell 37 = .ok (.invokevirtual 168, 3) := by decide +kernel
theorem dX7_isWell_40 : decode cX7_isWell 40 = .ok (.ifCond .eq 15, 3) := by decide +kernel
theorem dX7_isWell_43 : decode cX7_isWell 43 = .ok (.aload_n 0, 1) := by decide +kernel
theorem dX7_isWell_44 : decode cX7_isWell 44 = .ok (.iconst 0, 1) := by decide +kernel
theorem dX7_isWell_45 : decode cX7_isWell 45 = .ok (.invokevirtual 174, 3) := by decide +kernel
theorem dX7_isWell_48 : decode cX7_isWell 48 = .ok (.ifCond .ne 7, 3) := by decide +kernel
theorem dX7_isWell_51 : decode cX7_isWell 51 = .ok (.iconst 1, 1) := by decide +kernel
theorem dX7_isWell_52 : decode cX7_isWell 52 = .ok (.goto 4, 3) := by decide +kernel
theorem dX7_isWell_55 : decode cX7_isWell 55 = .ok (.iconst 0, 1) := by decide +kernel
theorem dX7_isWell_56 : decode cX7_isWell 56 = .ok (.istore_n 1, 1) := by decide +kernel
theorem dX7_isWell_57 : decode cX7_isWell 57 = .ok (.goto (-38), 3) := by decide +kernel
theorem dX7_isWell_60 : decode cX7_isWell 60 = .ok (.iload_n 1, 1) := by decide +kernel
theorem dX7_isWell_61 : decode cX7_isWell 61 = .ok (.ireturn, 1) := by decide +kernel
theorem dX7_fault_0 : decode cX7_fault 0 = .ok (.aload_n 0, 1) := by decide +kernel
theorem dX7_fault_1 : decode cX7_fault 1 = .ok (.invokevirtual 178, 3) := by decide +kernel
theorem dX7_fault_4 : decode cX7_fault 4 = .ok (.ifCond .eq 8, 3) := by decide +kernel
theorem dX7_fault_7 : decode cX7_fault 7 = .ok (.bipush (-6), 2) := by decide +kernel
theorem dX7_fault_9 : decode cX7_fault 9 = .ok (.goto 7, 3) := by decide +kernel
theorem dX7_fault_12 : decode cX7_fault 12 = .ok (.aload_n 0, 1) := by decide +kernel
theorem dX7_fault_13 : decode cX7_fault 13 = .ok (.getfield 158, 3) := by decide +kernel
theorem dX7_fault_16 : decode cX7_fault 16 = .ok (.ireturn, 1) := by decide +kernel
theorem dX7_carryOut_0 : decode cX7_carryOut 0 = .ok (.aload_n 0, 1) := by decide +kernel
theorem dX7_carryOut_1 : decode cX7_carryOut 1 = .ok (.invokevirtual 178, 3) := by decide +kernel
theorem dX7_carryOut_4 : decode cX7_carryOut 4 = .ok (.ifCond .ne 6, 3) := by decide +kernel
theorem dX7_carryOut_7 : decode cX7_carryOut 7 = .ok (.bipush (-3), 2) := by decide +kernel
theorem dX7_carryOut_9 : decode cX7_carryOut 9 = .ok (.ireturn, 1) := by decide +kernel
theorem dX7_carryOut_10 : decode cX7_carryOut 10 = .ok (.aload_n 0, 1) := by decide +kernel
theorem dX7_carryOut_11 : decode cX7_carryOut 11 = .ok (.invokevirtual 55, 3) := by decide +kernel
theorem dX7_carryOut_14 : decode cX7_carryOut 14 = .ok (.aload_n 0, 1) := by decide +kernel
theorem dX7_carryOut_15 : decode cX7_carryOut 15 = .ok (.iconst 0, 1) := by decide +kernel
theorem dX7_carryOut_16 : decode cX7_carryOut 16 = .ok (.putfield 158, 3) := by decide +kernel
theorem dX7_carryOut_19 : decode cX7_carryOut 19 = .ok (.iconst 0, 1) := by decide +kernel
theorem dX7_carryOut_20 : decode cX7_carryOut 20 = .ok (.istore_n 1, 1) := by decide +kernel
theorem dX7_carryOut_21 : decode cX7_carryOut 21 = .ok (.iconst 1, 1) := by decide +kernel
theorem dX7_carryOut_22 : decode cX7_carryOut 22 = .ok (.istore_n 2, 1) := by decide +kernel
theorem dX7_carryOut_23 : decode cX7_carryOut 23 = .ok (.iload_n 2, 1) := by decide +kernel
theorem dX7_carryOut_24 : decode cX7_carryOut 24 = .ok (.ifCond .eq 53, 3) := by decide +kernel
theorem dX7_carryOut_27 : decode cX7_carryOut 27 = .ok (.aload_n 0, 1) := by decide +kernel
theorem dX7_carryOut_28 : decode cX7_carryOut 28 = .ok (.getfield 158, 3) := by decide +kernel
theorem dX7_carryOut_31 : decode cX7_carryOut 31 = .ok (.aload_n 0, 1) := by decide +kernel
theorem dX7_carryOut_32 : decode cX7_carryOut 32 = .ok (.getfield 139, 3) := by decide +kernel
theorem dX7_carryOut_35 : decode cX7_carryOut 35 = .ok (.if_icmp .ge 42, 3) := by decide +kernel
theorem dX7_carryOut_38 : decode cX7_carryOut 38 = .ok (.aload_n 0, 1) := by decide +kernel
theorem dX7_carryOut_39 : decode cX7_carryOut 39 = .ok (.iconst 1, 1) := by decide +kernel
theorem dX7_carryOut_40 : decode cX7_carryOut 40 = .ok (.invokevirtual 174, 3) := by decide +kernel
theorem dX7_carryOut_43 : decode cX7_carryOut 43 = .ok (.ifCond .lt 7, 3) := by decide +kernel
theorem dX7_carryOut_46 : decode cX7_carryOut 46 = .ok (.iconst 1, 1) := by decide +kernel
theorem dX7_carryOut_47 : decode cX7_carryOut 47 = .ok (.goto 4, 3) := by decide +kernel
theorem dX7_carryOut_50 : decode cX7_carryOut 50 = .ok (.iconst 0, 1) := by decide +kernel
theorem dX7_carryOut_51 : decode cX7_carryOut 51 = .ok (.istore_n 2, 1) := by decide +kernel
theorem dX7_carryOut_52 : decode cX7_carryOut 52 = .ok (.iload_n 1, 1) := by decide +kernel
theorem dX7_carryOut_53 : decode cX7_carryOut 53 = .ok (.iload_n 2, 1) := by decide +kernel
theorem dX7_carryOut_54 : decode cX7_carryOut 54 = .ok (.ifCond .eq 7, 3) := by decide +kernel
theorem dX7_carryOut_57 : decode cX7_carryOut 57 = .ok (.iconst 1, 1) := by decide +kernel
theorem dX7_carryOut_58 : decode cX7_carryOut 58 = .ok (.goto 4, 3) := by decide +kernel
theorem dX7_carryOut_61 : decode cX7_carryOut 61 = .ok (.iconst 0, 1) := by decide +kernel
theorem dX7_carryOut_62 : decode cX7_carryOut 62 = .ok (.iadd, 1) := by decide +kernel
theorem dX7_carryOut_63 : decode cX7_carryOut 63 = .ok (.istore_n 1, 1) := by decide +kernel
theorem dX7_carryOut_64 : decode cX7_carryOut 64 = .ok (.aload_n 0, 1) := by decide +kernel
theorem dX7_carryOut_65 : decode cX7_carryOut 65 = .ok (.dup, 1) := by decide +kernel
theorem dX7_carryOut_66 : decode cX7_carryOut 66 = .ok (.getfield 158, 3) := by decide +kernel
theorem dX7_carryOut_69 : decode cX7_carryOut 69 = .ok (.iconst 1, 1) := by decide +kernel
theorem dX7_carryOut_70 : decode cX7_carryOut 70 = .ok (.iadd, 1) := by decide +kernel
theorem dX7_carryOut_71 : decode cX7_carryOut 71 = .ok (.putfield 158, 3) := by decide +kernel
theorem dX7_carryOut_74 : decode cX7_carryOut 74 = .ok (.goto (-51), 3) := by decide +kernel
theorem dX7_carryOut_77 : decode cX7_carryOut 77 = .ok (.aload_n 0, 1) := by decide +kernel
theorem dX7_carryOut_78 : decode cX7_carryOut 78 = .ok (.iconst 0, 1) := by decide +kernel
theorem dX7_carryOut_79 : decode cX7_carryOut 79 = .ok (.putfield 139, 3) := by decide +kernel
theorem dX7_carryOut_82 : decode cX7_carryOut 82 = .ok (.aload_n 0, 1) := by decide +kernel
theorem dX7_carryOut_83 : decode cX7_carryOut 83 = .ok (.iload_n 1, 1) := by decide +kernel
theorem dX7_carryOut_84 : decode cX7_carryOut 84 = .ok (.invokevirtual 58, 3) := by decide +kernel
theorem dX7_carryOut_87 : decode cX7_carryOut 87 = .ok (.ireturn, 1) := by decide +kernel
theorem dJxe99ae_isNaN_b9ae7_0 : decode cJxe99ae_isNaN_b9ae7 0 = .ok (.dload_n 0, 1) := by decide +kernel
theorem dJxe99ae_isNaN_b9ae7_1 : decode cJxe99ae_isNaN_b9ae7 1 = .ok (.dload_n 0, 1) := by decide +kernel
theorem dJxe99ae_isNaN_b9ae7_2 : decode cJxe99ae_isNaN_b9ae7 2 = .ok (.dcmp .l, 1) := by decide +kernel
theorem dJxe99ae_isNaN_b9ae7_3 : decode cJxe99ae_isNaN_b9ae7 3 = .ok (.ifCond .eq 7, 3) := by decide +kernel
theorem dJxe99ae_isNaN_b9ae7_6 : decode cJxe99ae_isNaN_b9ae7 6 = .ok (.iconst 1, 1) := by decide +kernel
theorem dJxe99ae_isNaN_b9ae7_7 : decode cJxe99ae_isNaN_b9ae7 7 = .ok (.goto 4, 3) := by decide +kernel
theorem dJxe99ae_isNaN_b9ae7_10 : decode cJxe99ae_isNaN_b9ae7 10 = .ok (.iconst 0, 1) := by decide +kernel
theorem dJxe99ae_isNaN_b9ae7_11 : decode cJxe99ae_isNaN_b9ae7 11 = .ok (.ireturn, 1) := by decide +kernel
theorem dJxe99ae_doubleToLongBits_ccdee_0 : decode cJxe99ae_doubleToLongBits_ccdee 0 = .ok (.dload_n 0, 1) := by decide +kernel
theorem dJxe99ae_doubleToLongBits_ccdee_1 : decode cJxe99ae_doubleToLongBits_ccdee 1 = .ok (.invokestatic 122, 3) := by decide +kernel
theorem dJxe99ae_doubleToLongBits_ccdee_4 : decode cJxe99ae_doubleToLongBits_ccdee 4 = .ok (.ifCond .ne 8, 3) := by decide +kernel
theorem dJxe99ae_doubleToLongBits_ccdee_7 : decode cJxe99ae_doubleToLongBits_ccdee 7 = .ok (.dload_n 0, 1) := by decide +kernel
theorem dJxe99ae_doubleToLongBits_ccdee_8 : decode cJxe99ae_doubleToLongBits_ccdee 8 = .ok (.invokestatic 134, 3) := by decide +kernel
theorem dJxe99ae_doubleToLongBits_ccdee_11 : decode cJxe99ae_doubleToLongBits_ccdee 11 = .ok (.lreturn, 1) := by decide +kernel
theorem dJxe99ae_doubleToLongBits_ccdee_12 : decode cJxe99ae_doubleToLongBits_ccdee 12 = .ok (.ldc2_w 137, 3) := by decide +kernel
theorem dJxe99ae_doubleToLongBits_ccdee_15 : decode cJxe99ae_doubleToLongBits_ccdee 15 = .ok (.lreturn, 1) := by decide +kernel
theorem dJxf58ca_isNaN_12338_0 : decode cJxf58ca_isNaN_12338 0 = .ok (.fload_n 0, 1) := by decide +kernel
theorem dJxf58ca_isNaN_12338_1 : decode cJxf58ca_isNaN_12338 1 = .ok (.fload_n 0, 1) := by decide +kernel
theorem dJxf58ca_isNaN_12338_2 : decode cJxf58ca_isNaN_12338 2 = .ok (.fcmp .l, 1) := by decide +kernel
theorem dJxf58ca_isNaN_12338_3 : decode cJxf58ca_isNaN_12338 3 = .ok (.ifCond .eq 7, 3) := by decide +kernel
theorem dJxf58ca_isNaN_12338_6 : decode cJxf58ca_isNaN_12338 6 = .ok (.iconst 1, 1) := by decide +kernel
theorem dJxf58ca_isNaN_12338_7 : decode cJxf58ca_isNaN_12338 7 = .ok (.goto 4, 3) := by decide +kernel
theorem dJxf58ca_isNaN_12338_10 : decode cJxf58ca_isNaN_12338 10 = .ok (.iconst 0, 1) := by decide +kernel
theorem dJxf58ca_isNaN_12338_11 : decode cJxf58ca_isNaN_12338 11 = .ok (.ireturn, 1) := by decide +kernel
theorem dJxf58ca_floatToIntBits_5c35a_0 : decode cJxf58ca_floatToIntBits_5c35a 0 = .ok (.fload_n 0, 1) := by decide +kernel
theorem dJxf58ca_floatToIntBits_5c35a_1 : decode cJxf58ca_floatToIntBits_5c35a 1 = .ok (.invokestatic 59, 3) := by decide +kernel
theorem dJxf58ca_floatToIntBits_5c35a_4 : decode cJxf58ca_floatToIntBits_5c35a 4 = .ok (.ifCond .ne 8, 3) := by decide +kernel
theorem dJxf58ca_floatToIntBits_5c35a_7 : decode cJxf58ca_floatToIntBits_5c35a 7 = .ok (.fload_n 0, 1) := by decide +kernel
theorem dJxf58ca_floatToIntBits_5c35a_8 : decode cJxf58ca_floatToIntBits_5c35a 8 = .ok (.invokestatic 74, 3) := by decide +kernel
theorem dJxf58ca_floatToIntBits_5c35a_11 : decode cJxf58ca_floatToIntBits_5c35a 11 = .ok (.ireturn, 1) := by decide +kernel
theorem dJxf58ca_floatToIntBits_5c35a_12 : decode cJxf58ca_floatToIntBits_5c35a 12 = .ok (.ldc 77, 2) := by decide +kernel
theorem dJxf58ca_floatToIntBits_5c35a_14 : decode cJxf58ca_floatToIntBits_5c35a 14 = .ok (.ireturn, 1) := by decide +kernel
theorem dJ9_max_7cf53_0 : decode cJ9_max_7cf53 0 = .ok (.iload_n 0, 1) := by decide +kernel
theorem dJ9_max_7cf53_1 : decode cJ9_max_7cf53 1 = .ok (.iload_n 1, 1) := by decide +kernel
theorem dJ9_max_7cf53_2 : decode cJ9_max_7cf53 2 = .ok (.if_icmp .lt 7, 3) := by decide +kernel
theorem dJ9_max_7cf53_5 : decode cJ9_max_7cf53 5 = .ok (.iload_n 0, 1) := by decide +kernel
theorem dJ9_max_7cf53_6 : decode cJ9_max_7cf53 6 = .ok (.goto 4, 3) := by decide +kernel
theorem dJ9_max_7cf53_9 : decode cJ9_max_7cf53 9 = .ok (.iload_n 1, 1) := by decide +kernel
theorem dJ9_max_7cf53_10 : decode cJ9_max_7cf53 10 = .ok (.ireturn, 1) := by decide +kernel
theorem dJ9_min_7cf53_0 : decode cJ9_min_7cf53 0 = .ok (.iload_n 0, 1) := by decide +kernel
theorem dJ9_min_7cf53_1 : decode cJ9_min_7cf53 1 = .ok (.iload_n 1, 1) := by decide +kernel
theorem dJ9_min_7cf53_2 : decode cJ9_min_7cf53 2 = .ok (.if_icmp .gt 7, 3) := by decide +kernel
theorem dJ9_min_7cf53_5 : decode cJ9_min_7cf53 5 = .ok (.iload_n 0, 1) := by decide +kernel
theorem dJ9_min_7cf53_6 : decode cJ9_min_7cf53 6 = .ok (.goto 4, 3) := by decide +kernel
theorem dJ9_min_7cf53_9 : decode cJ9_min_7cf53 9 = .ok (.iload_n 1, 1) := by decide +kernel
theorem dJ9_min_7cf53_10 : decode cJ9_min_7cf53 10 = .ok (.ireturn, 1) := by decide +kernel
theorem dJ0_length_8abf5_0 : decode cJ0_length_8abf5 0 = .ok (.aload_n 0, 1) := by decide +kernel
theorem dJ0_length_8abf5_1 : decode cJ0_length_8abf5 1 = .ok (.getfield 9, 3) := by decide +kernel
theorem dJ0_length_8abf5_4 : decode cJ0_length_8abf5 4 = .ok (.arraylength, 1) := by decide +kernel
theorem dJ0_length_8abf5_5 : decode cJ0_length_8abf5 5 = .ok (.aload_n 0, 1) := by decide +kernel
theorem dJ0_length_8abf5_6 : decode cJ0_length_8abf5 6 = .ok (.invokevirtual 335, 3) := by decide +kernel
theorem dJ0_length_8abf5_9 : decode cJ0_length_8abf5 9 = .ok (.ishr, 1) := by decide +kernel
theorem dJ0_length_8abf5_10 : decode cJ0_length_8abf5 10 = .ok (.ireturn, 1) := by decide +kernel
theorem dJ0_isEmpty_aae02_0 : decode cJ0_isEmpty_aae02 0 = .ok (.aload_n 0, 1) := by decide +kernel
theorem dJ0_isEmpty_aae02_1 : decode cJ0_isEmpty_aae02 1 = .ok (.getfield 9, 3) := by decide +kernel
theorem dJ0_isEmpty_aae02_4 : decode cJ0_isEmpty_aae02 4 = .ok (.arraylength, 1) := by decide +kernel
theorem dJ0_isEmpty_aae02_5 : decode cJ0_isEmpty_aae02 5 = .ok (.ifCond .ne 7, 3) := by decide +kernel
theorem dJ0_isEmpty_aae02_8 : decode cJ0_isEmpty_aae02 8 = .ok (.iconst 1, 1) := by decide +kernel
theorem dJ0_isEmpty_aae02_9 : decode cJ0_isEmpty_aae02 9 = .ok (.goto 4, 3) := by decide +kernel
theorem dJ0_isEmpty_aae02_12 : decode cJ0_isEmpty_aae02 12 = .ok (.iconst 0, 1) := by decide +kernel
theorem dJ0_isEmpty_aae02_13 : decode cJ0_isEmpty_aae02 13 = .ok (.ireturn, 1) := by decide +kernel
theorem dJ0_charAt_5068e_0 : decode cJ0_charAt_5068e 0 = .ok (.aload_n 0, 1) := by decide +kernel
theorem dJ0_charAt_5068e_1 : decode cJ0_charAt_5068e 1 = .ok (.invokevirtual 492, 3) := by decide +kernel
theorem dJ0_charAt_5068e_4 : decode cJ0_charAt_5068e 4 = .ok (.ifCond .eq 12, 3) := by decide +kernel
theorem dJ0_charAt_5068e_7 : decode cJ0_charAt_5068e 7 = .ok (.aload_n 0, 1) := by decide +kernel
theorem dJ0_charAt_5068e_8 : decode cJ0_charAt_5068e 8 = .ok (.getfield 9, 3) := by decide +kernel
theorem dJ0_charAt_5068e_11 : decode cJ0_charAt_5068e 11 = .ok (.iload_n 1, 1) := by decide +kernel
theorem dJ0_charAt_5068e_12 : decode cJ0_charAt_5068e 12 = .ok (.invokestatic 495, 3) := by decide +kernel
theorem dJ0_charAt_5068e_15 : decode cJ0_charAt_5068e 15 = .ok (.ireturn, 1) := by decide +kernel
theorem dJ0_charAt_5068e_16 : decode cJ0_charAt_5068e 16 = .ok (.aload_n 0, 1) := by decide +kernel
theorem dJ0_charAt_5068e_17 : decode cJ0_charAt_5068e 17 = .ok (.getfield 9, 3) := by decide +kernel
theorem dJ0_charAt_5068e_20 : decode cJ0_charAt_5068e 20 = .ok (.iload_n 1, 1) := by decide +kernel
theorem dJ0_charAt_5068e_21 : decode cJ0_charAt_5068e 21 = .ok (.invokestatic 498, 3) := by decide +kernel
theorem dJ0_charAt_5068e_24 : decode cJ0_charAt_5068e 24 = .ok (.ireturn, 1) := by decide +kernel
theorem dJ0_coder_7d493_0 : decode cJ0_coder_7d493 0 = .ok (.getstatic 38, 3) := by decide +kernel
theorem dJ0_coder_7d493_3 : decode cJ0_coder_7d493 3 = .ok (.ifCond .eq 10, 3) := by decide +kernel
theorem dJ0_coder_7d493_6 : decode cJ0_coder_7d493 6 = .ok (.aload_n 0, 1) := by decide +kernel
theorem dJ0_coder_7d493_7 : decode cJ0_coder_7d493 7 = .ok (.getfield 15, 3) := by decide +kernel
theorem dJ0_coder_7d493_10 : decode cJ0_coder_7d493 10 = .ok (.goto 4, 3) := by decide +kernel
theorem dJ0_coder_7d493_13 : decode cJ0_coder_7d493 13 = .ok (.iconst 1, 1) := by decide +kernel
theorem dJ0_coder_7d493_14 : decode cJ0_coder_7d493 14 = .ok (.ireturn, 1) := by decide +kernel
theorem dJ0_isLatin1_aae02_0 : decode cJ0_isLatin1_aae02 0 = .ok (.getstatic 38, 3) := by decide +kernel
theorem dJ0_isLatin1_aae02_3 : decode cJ0_isLatin1_aae02 3 = .ok (.ifCond .eq 14, 3) := by decide +kernel
theorem dJ0_isLatin1_aae02_6 : decode cJ0_isLatin1_aae02 6 = .ok (.aload_n 0, 1) := by decide +kernel
theorem dJ0_isLatin1_aae02_7 : decode cJ0_isLatin1_aae02 7 = .ok (.getfield 15, 3) := by decide +kernel
theorem dJ0_isLatin1_aae02_10 : decode cJ0_isLatin1_aae02 10 = .ok (.ifCond .ne 7, 3) := by decide +kernel
theorem dJ0_isLatin1_aae02_13 : decode cJ0_isLatin1_aae02 13 = .ok (.iconst 1, 1) := by decide +kernel
theorem dJ0_isLatin1_aae02_14 : decode cJ0_isLatin1_aae02 14 = .ok (.goto 4, 3) := by decide +kernel
theorem dJ0_isLatin1_aae02_17 : decode cJ0_isLatin1_aae02 17 = .ok (.iconst 0, 1) := by decide +kernel
theorem dJ0_isLatin1_aae02_18 : decode cJ0_isLatin1_aae02 18 = .ok (.ireturn, 1) := by decide +kernel
theorem dJ0_checkIndex_df160_0 : decode cJ0_checkIndex_df160 0 = .ok (.iload_n 0, 1) := by decide +kernel
theorem dJ0_checkIndex_df160_1 : decode cJ0_checkIndex_df160 1 = .ok (.iload_n 1, 1) := by decide +kernel
theorem dJ0_checkIndex_df160_2 : decode cJ0_checkIndex_df160 2 = .ok (.getstatic 1053, 3) := by decide +kernel
theorem dJ0_checkIndex_df160_5 : decode cJ0_checkIndex_df160 5 = .ok (.invokestatic 1059, 3) := by decide +kernel
theorem dJ0_checkIndex_df160_8 : decode cJ0_checkIndex_df160 8 = .ok (.pop, 1) := by decide +kernel
theorem dJ0_checkIndex_df160_9 : decode cJ0_checkIndex_df160 9 = .ok (.return_, 1) := by decide +kernel
theorem dJ1_charAt_3b067_0 : decode cJ1_charAt_3b067 0 = .ok (.iload_n 1, 1) := by decide +kernel
theorem dJ1_charAt_3b067_1 : decode cJ1_charAt_3b067 1 = .ok (.aload_n 0, 1) := by decide +kernel
theorem dJ1_charAt_3b067_2 : decode cJ1_charAt_3b067 2 = .ok (.arraylength, 1) := by decide +kernel
theorem dJ1_charAt_3b067_3 : decode cJ1_charAt_3b067 3 = .ok (.invokestatic 9, 3) := by decide +kernel
theorem dJ1_charAt_3b067_6 : decode cJ1_charAt_3b067 6 = .ok (.aload_n 0, 1) := by decide +kernel
theorem dJ1_charAt_3b067_7 : decode cJ1_charAt_3b067 7 = .ok (.iload_n 1, 1) := by decide +kernel
theorem dJ1_charAt_3b067_8 : decode cJ1_charAt_3b067 8 = .ok (.baload, 1) := by decide +kernel
theorem dJ1_charAt_3b067_9 : decode cJ1_charAt_3b067 9 = .ok (.sipush 255, 3) := by decide +kernel
theorem dJ1_charAt_3b067_12 : decode cJ1_charAt_3b067 12 = .ok (.iand, 1) := by decide +kernel
theorem dJ1_charAt_3b067_13 : decode cJ1_charAt_3b067 13 = .ok (.i2c, 1) := by decide +kernel
theorem dJ1_charAt_3b067_14 : decode cJ1_charAt_3b067 14 = .ok (.ireturn, 1) := by decide +kernel
theorem dJ2_getChar_3b067_0 : decode cJ2_getChar_3b067 0 = .ok (.getstatic 44, 3) := by decide +kernel
theorem dJ2_getChar_3b067_3 : decode cJ2_getChar_3b067 3 = .ok (.ifCond .ne 25, 3) := by decide +kernel
theorem dJ2_getChar_3b067_6 : decode cJ2_getChar_3b067 6 = .ok (.iload_n 1, 1) := by decide +kernel
theorem dJ2_getChar_3b067_7 : decode cJ2_getChar_3b067 7 = .ok (.ifCond .lt 11, 3) := by decide +kernel
theorem dJ2_getChar_3b067_10 : decode cJ2_getChar_3b067 10 = .ok (.iload_n 1, 1) := by decide +kernel
theorem dJ2_getChar_3b067_11 : decode cJ2_getChar_3b067 11 = .ok (.aload_n 0, 1) := by decide +kernel
theorem dJ2_getChar_3b067_12 : decode cJ2_getChar_3b067 12 = .ok (.invokestatic 48, 3) := by decide +kernel
theorem dJ2_getChar_3b067_15 : decode cJ2_getChar_3b067 15 = .ok (.if_icmp .lt 13, 3) := by decide +kernel
theorem dJ2_getChar_3b067_18 : decode cJ2_getChar_3b067 18 = .ok (.new 52, 3) := by decide +kernel
theorem dJ2_getChar_3b067_21 : decode cJ2_getChar_3b067 21 = .ok (.dup, 1) := by decide +kernel
theorem dJ2_getChar_3b067_22 : decode cJ2_getChar_3b067 22 = .ok (.ldc 54, 2) := by decide +kernel
theorem dJ2_getChar_3b067_24 : decode cJ2_getChar_3b067 24 = .ok (.invokespecial 56, 3) := by decide +kernel
theorem dJ2_getChar_3b067_27 : decode cJ2_getChar_3b067 27 = .ok (.athrow, 1) := by decide +kernel
theorem dJ2_getChar_3b067_28 : decode cJ2_getChar_3b067 28 = .ok (.iload_n 1, 1) := by decide +kernel
theorem dJ2_getChar_3b067_29 : decode cJ2_getChar_3b067 29 = .ok (.iconst 1, 1) := by decide +kernel
theorem dJ2_getChar_3b067_30 : decode cJ2_getChar_3b067 30 = .ok (.ishl, 1) := by decide +kernel
theorem dJ2_getChar_3b067_31 : decode cJ2_getChar_3b067 31 = .ok (.istore_n 1, 1) := by decide +kernel
theorem dJ2_getChar_3b067_32 : decode cJ2_getChar_3b067 32 = .ok (.aload_n 0, 1) := by decide +kernel
theorem dJ2_getChar_3b067_33 : decode cJ2_getChar_3b067 33 = .ok (.iload_n 1, 1) := by decide +kernel
theorem dJ2_getChar_3b067_34 : decode cJ2_getChar_3b067 34 = .ok (.iinc 1 1, 3) := by decide +kernel
theorem dJ2_getChar_3b067_37 : decode cJ2_getChar_3b067 37 = .ok (.baload, 1) := by decide +kernel
theorem dJ2_getChar_3b067_38 : decode cJ2_getChar_3b067 38 = .ok (.sipush 255, 3) := by decide +kernel
theorem dJ2_getChar_3b067_41 : decode cJ2_getChar_3b067 41 = .ok (.iand, 1) := by decide +kernel
theorem dJ2_getChar_3b067_42 : decode cJ2_getChar_3b067 42 = .ok (.getstatic 59, 3) := by decide +kernel
theorem dJ2_getChar_3b067_45 : decode cJ2_getChar_3b067 45 = .ok (.ishl, 1) := by decide +kernel
theorem dJ2_getChar_3b067_46 : decode cJ2_getChar_3b067 46 = .ok (.aload_n 0, 1) := by decide +kernel
theorem dJ2_getChar_3b067_47 : decode cJ2_getChar_3b067 47 = .ok (.iload_n 1, 1) := by decide +kernel
theorem dJ2_getChar_3b067_48 : decode cJ2_getChar_3b067 48 = .ok (.baload, 1) := by decide +kernel
theorem dJ2_getChar_3b067_49 : decode cJ2_getChar_3b067 49 = .ok (.sipush 255, 3) := by decide +kernel
theorem dJ2_getChar_3b067_52 : decode cJ2_getChar_3b067 52 = .ok (.iand, 1) := by decide +kernel
theorem dJ2_getChar_3b067_53 : decode cJ2_getChar_3b067 53 = .ok (.getstatic 63, 3) := by decide +kernel
theorem dJ2_getChar_3b067_56 : decode cJ2_getChar_3b067 56 = .ok (.ishl, 1) := by decide +kernel
theorem dJ2_getChar_3b067_57 : decode cJ2_getChar_3b067 57 = .ok (.ior, 1) := by decide +kernel
theorem dJ2_getChar_3b067_58 : decode cJ2_getChar_3b067 58 = .ok (.i2c, 1) := by decide +kernel
theorem dJ2_getChar_3b067_59 : decode cJ2_getChar_3b067 59 = .ok (.ireturn, 1) := by decide +kernel
theorem dJ2_length_9d52b_0 : decode cJ2_length_9d52b 0 = .ok (.aload_n 0, 1) := by decide +kernel
theorem dJ2_length_9d52b_1 : decode cJ2_length_9d52b 1 = .ok (.arraylength, 1) := by decide +kernel
theorem dJ2_length_9d52b_2 : decode cJ2_length_9d52b 2 = .ok (.iconst 1, 1) := by decide +kernel
theorem dJ2_length_9d52b_3 : decode cJ2_length_9d52b 3 = .ok (.ishr, 1) := by decide +kernel
theorem dJ2_length_9d52b_4 : decode cJ2_length_9d52b 4 = .ok (.ireturn, 1) := by decide +kernel
theorem dJ2_charAt_3b067_0 : decode cJ2_charAt_3b067 0 = .ok (.iload_n 1, 1) := by decide +kernel
theorem dJ2_charAt_3b067_1 : decode cJ2_charAt_3b067 1 = .ok (.aload_n 0, 1) := by decide +kernel
theorem dJ2_charAt_3b067_2 : decode cJ2_charAt_3b067 2 = .ok (.invokestatic 67, 3) := by decide +kernel
theorem dJ2_charAt_3b067_5 : decode cJ2_charAt_3b067 5 = .ok (.aload_n 0, 1) := by decide +kernel
theorem dJ2_charAt_3b067_6 : decode cJ2_charAt_3b067 6 = .ok (.iload_n 1, 1) := by decide +kernel
theorem dJ2_charAt_3b067_7 : decode cJ2_charAt_3b067 7 = .ok (.invokestatic 71, 3) := by decide +kernel
theorem dJ2_charAt_3b067_10 : decode cJ2_charAt_3b067 10 = .ok (.ireturn, 1) := by decide +kernel
theorem dJ2_checkIndex_2214a_0 : decode cJ2_checkIndex_2214a 0 = .ok (.iload_n 0, 1) := by decide +kernel
theorem dJ2_checkIndex_2214a_1 : decode cJ2_checkIndex_2214a 1 = .ok (.aload_n 1, 1) := by decide +kernel
theorem dJ2_checkIndex_2214a_2 : decode cJ2_checkIndex_2214a 2 = .ok (.invokestatic 48, 3) := by decide +kernel
theorem dJ2_checkIndex_2214a_5 : decode cJ2_checkIndex_2214a 5 = .ok (.invokestatic 414, 3) := by decide +kernel
theorem dJ2_checkIndex_2214a_8 : decode cJ2_checkIndex_2214a 8 = .ok (.return_, 1) := by decide +kernel
theorem dJ7_fill_53178_0 : decode cJ7_fill_53178 0 = .ok (.iconst 0, 1) := by decide +kernel
theorem dJ7_fill_53178_1 : decode cJ7_fill_53178 1 = .ok (.istore_n 2, 1) := by decide +kernel
theorem dJ7_fill_53178_2 : decode cJ7_fill_53178 2 = .ok (.aload_n 0, 1) := by decide +kernel
theorem dJ7_fill_53178_3 : decode cJ7_fill_53178 3 = .ok (.arraylength, 1) := by decide +kernel
theorem dJ7_fill_53178_4 : decode cJ7_fill_53178 4 = .ok (.istore_n 3, 1) := by decide +kernel
theorem dJ7_fill_53178_5 : decode cJ7_fill_53178 5 = .ok (.iload_n 2, 1) := by decide +kernel
theorem dJ7_fill_53178_6 : decode cJ7_fill_53178 6 = .ok (.iload_n 3, 1) := by decide +kernel
theorem dJ7_fill_53178_7 : decode cJ7_fill_53178 7 = .ok (.if_icmp .ge 13, 3) := by decide +kernel
theorem dJ7_fill_53178_10 : decode cJ7_fill_53178 10 = .ok (.aload_n 0, 1) := by decide +kernel
theorem dJ7_fill_53178_11 : decode cJ7_fill_53178 11 = .ok (.iload_n 2, 1) := by decide +kernel
theorem dJ7_fill_53178_12 : decode cJ7_fill_53178 12 = .ok (.iload_n 1, 1) := by decide +kernel
theorem dJ7_fill_53178_13 : decode cJ7_fill_53178 13 = .ok (.iastore, 1) := by decide +kernel
theorem dJ7_fill_53178_14 : decode cJ7_fill_53178 14 = .ok (.iinc 2 1, 3) := by decide +kernel
theorem dJ7_fill_53178_17 : decode cJ7_fill_53178 17 = .ok (.goto (-12), 3) := by decide +kernel
theorem dJ7_fill_53178_20 : decode cJ7_fill_53178 20 = .ok (.return_, 1) := by decide +kernel
theorem dJ3_checkIndex_8e157_0 : decode cJ3_checkIndex_8e157 0 = .ok (.iload_n 0, 1) := by decide +kernel
theorem dJ3_checkIndex_8e157_1 : decode cJ3_checkIndex_8e157 1 = .ok (.ifCond .lt 8, 3) := by decide +kernel
theorem dJ3_checkIndex_8e157_4 : decode cJ3_checkIndex_8e157 4 = .ok (.iload_n 0, 1) := by decide +kernel
theorem dJ3_checkIndex_8e157_5 : decode cJ3_checkIndex_8e157 5 = .ok (.iload_n 1, 1) := by decide +kernel
theorem dJ3_checkIndex_8e157_6 : decode cJ3_checkIndex_8e157 6 = .ok (.if_icmp .lt 10, 3) := by decide +kernel
theorem dJ3_checkIndex_8e157_9 : decode cJ3_checkIndex_8e157 9 = .ok (.aload_n 2, 1) := by decide +kernel
theorem dJ3_checkIndex_8e157_10 : decode cJ3_checkIndex_8e157 10 = .ok (.iload_n 0, 1) := by decide +kernel
theorem dJ3_checkIndex_8e157_11 : decode cJ3_checkIndex_8e157 11 = .ok (.iload_n 1, 1) := by decide +kernel
theorem dJ3_checkIndex_8e157_12 : decode cJ3_checkIndex_8e157 12 = .ok (.invokestatic 95, 3) := by decide +kernel
theorem dJ3_checkIndex_8e157_15 : decode cJ3_checkIndex_8e157 15 = .ok (.athrow, 1) := by decide +kernel
theorem dJ3_checkIndex_8e157_16 : decode cJ3_checkIndex_8e157 16 = .ok (.iload_n 0, 1) := by decide +kernel
theorem dJ3_checkIndex_8e157_17 : decode cJ3_checkIndex_8e157 17 = .ok (.ireturn, 1) := by decide +kernel
theorem dL_law_0 : decode cL_law 0 = .ok (.new 7, 3) := by decide +kernel
theorem dL_law_3 : decode cL_law 3 = .ok (.dup, 1) := by decide +kernel
theorem dL_law_4 : decode cL_law 4 = .ok (.invokespecial 9, 3) := by decide +kernel
theorem dL_law_7 : decode cL_law 7 = .ok (.astore_n 1, 1) := by decide +kernel
theorem dL_law_8 : decode cL_law 8 = .ok (.new 10, 3) := by decide +kernel
theorem dL_law_11 : decode cL_law 11 = .ok (.dup, 1) := by decide +kernel
theorem dL_law_12 : decode cL_law 12 = .ok (.invokespecial 12, 3) := by decide +kernel
theorem dL_law_15 : decode cL_law 15 = .ok (.astore_n 2, 1) := by decide +kernel
theorem dL_law_16 : decode cL_law 16 = .ok (.iconst 0, 1) := by decide +kernel
theorem dL_law_17 : decode cL_law 17 = .ok (.istore_n 3, 1) := by decide +kernel
theorem dL_law_18 : decode cL_law 18 = .ok (.iload_n 3, 1) := by decide +kernel
theorem dL_law_19 : decode cL_law 19 = .ok (.aload_n 0, 1) := by decide +kernel
theorem dL_law_20 : decode cL_law 20 = .ok (.arraylength, 1) := by decide +kernel
theorem dL_law_21 : decode cL_law 21 = .ok (.iconst 4, 1) := by decide +kernel
theorem dL_law_22 : decode cL_law 22 = .ok (.isub, 1) := by decide +kernel
theorem dL_law_23 : decode cL_law 23 = .ok (.if_icmp .gt 821, 3) := by decide +kernel
theorem dL_law_26 : decode cL_law 26 = .ok (.aload_n 0, 1) := by decide +kernel
theorem dL_law_27 : decode cL_law 27 = .ok (.iload_n 3, 1) := by decide +kernel
theorem dL_law_28 : decode cL_law 28 = .ok (.iaload, 1) := by decide +kernel
theorem dL_law_29 : decode cL_law 29 = .ok (.bipush 31, 2) := by decide +kernel
theorem dL_law_31 : decode cL_law 31 = .ok (.iand, 1) := by decide +kernel
theorem dL_law_32 : decode cL_law 32 = .ok (.tableswitch 806 0 26 #[124, 157, 200, 263, 296, 339, 372, 385, 408, 431, 464, 487, 500, 523, 547, 560, 583, 606, 629, 642, 655, 708, 721, 734, 747, 760, 783], 124) := by decide +kernel
theorem dL_law_156 : decode cL_law 156 = .ok (.aload_n 1, 1) := by decide +kernel
theorem dL_law_157 : decode cL_law 157 = .ok (.aload_n 0, 1) := by decide +kernel
theorem dL_law_158 : decode cL_law 158 = .ok (.iload_n 3, 1) := by decide +kernel
theorem dL_law_159 : decode cL_law 159 = .ok (.iconst 1, 1) := by decide +kernel
theorem dL_law_160 : decode cL_law 160 = .ok (.iadd, 1) := by decide +kernel
theorem dL_law_161 : decode cL_law 161 = .ok (.iaload, 1) := by decide +kernel
theorem dL_law_162 : decode cL_law 162 = .ok (.aload_n 0, 1) := by decide +kernel
theorem dL_law_163 : decode cL_law 163 = .ok (.iload_n 3, 1) := by decide +kernel
theorem dL_law_164 : decode cL_law 164 = .ok (.iconst 2, 1) := by decide +kernel
theorem dL_law_165 : decode cL_law 165 = .ok (.iadd, 1) := by decide +kernel
theorem dL_law_166 : decode cL_law 166 = .ok (.iaload, 1) := by decide +kernel
theorem dL_law_167 : decode cL_law 167 = .ok (.invokevirtual 13, 3) := by decide +kernel
theorem dL_law_170 : decode cL_law 170 = .ok (.aload_n 2, 1) := by decide +kernel
theorem dL_law_171 : decode cL_law 171 = .ok (.aload_n 0, 1) := by decide +kernel
theorem dL_law_172 : decode cL_law 172 = .ok (.iload_n 3, 1) := by decide +kernel
theorem dL_law_173 : decode cL_law 173 = .ok (.iconst 1, 1) := by decide +kernel
theorem dL_law_174 : decode cL_law 174 = .ok (.iadd, 1) := by decide +kernel
theorem dL_law_175 : decode cL_law 175 = .ok (.iaload, 1) := by decide +kernel
theorem dL_law_176 : decode cL_law 176 = .ok (.aload_n 0, 1) := by decide +kernel
theorem dL_law_177 : decode cL_law 177 = .ok (.iload_n 3, 1) := by decide +kernel
theorem dL_law_178 : decode cL_law 178 = .ok (.iconst 2, 1) := by decide +kernel
theorem dL_law_179 : decode cL_law 179 = .ok (.iadd, 1) := by decide +kernel
theorem dL_law_180 : decode cL_law 180 = .ok (.iaload, 1) := by decide +kernel
theorem dL_law_181 : decode cL_law 181 = .ok (.invokevirtual 17, 3) := by decide +kernel
theorem dL_law_184 : decode cL_law 184 = .ok (.if_icmp .eq 654, 3) := by decide +kernel
theorem dL_law_187 : decode cL_law 187 = .ok (.iconst 0, 1) := by decide +kernel
theorem dL_law_188 : decode cL_law 188 = .ok (.ireturn, 1) := by decide +kernel
theorem dL_law_189 : decode cL_law 189 = .ok (.aload_n 1, 1) := by decide +kernel
theorem dL_law_190 : decode cL_law 190 = .ok (.aload_n 0, 1) := by decide +kernel
theorem dL_law_191 : decode cL_law 191 = .ok (.iload_n 3, 1) := by decide +kernel
theorem dL_law_192 : decode cL_law 192 = .ok (.iconst 1, 1) := by decide +kernel
theorem dL_law_193 : decode cL_law 193 = .ok (.iadd, 1) := by decide +kernel
theorem dL_law_194 : decode cL_law 194 = .ok (.iaload, 1) := by decide +kernel
theorem dL_law_195 : decode cL_law 195 = .ok (.aload_n 0, 1) := by decide +kernel
theorem dL_law_196 : decode cL_law 196 = .ok (.iload_n 3, 1) := by decide +kernel
theorem dL_law_197 : decode cL_law 197 = .ok (.iconst 2, 1) := by decide +kernel
theorem dL_law_198 : decode cL_law 198 = .ok (.iadd, 1) := by decide +kernel
theorem dL_law_199 : decode cL_law 199 = .ok (.iaload, 1) := by decide +kernel
theorem dL_law_200 : decode cL_law 200 = .ok (.aload_n 0, 1) := by decide +kernel
theorem dL_law_201 : decode cL_law 201 = .ok (.iload_n 3, 1) := by decide +kernel
theorem dL_law_202 : decode cL_law 202 = .ok (.iconst 3, 1) := by decide +kernel
theorem dL_law_203 : decode cL_law 203 = .ok (.iadd, 1) := by decide +kernel
theorem dL_law_204 : decode cL_law 204 = .ok (.iaload, 1) := by decide +kernel
theorem dL_law_205 : decode cL_law 205 = .ok (.invokevirtual 18, 3) := by decide +kernel
theorem dL_law_208 : decode cL_law 208 = .ok (.aload_n 2, 1) := by decide +kernel
theorem dL_law_209 : decode cL_law 209 = .ok (.aload_n 0, 1) := by decide +kernel
theorem dL_law_210 : decode cL_law 210 = .ok (.iload_n 3, 1) := by decide +kernel
theorem dL_law_211 : decode cL_law 211 = .ok (.iconst 1, 1) := by decide +kernel
theorem dL_law_212 : decode cL_law 212 = .ok (.iadd, 1) := by decide +kernel
theorem dL_law_213 : decode cL_law 213 = .ok (.iaload, 1) := by decide +kernel
theorem dL_law_214 : decode cL_law 214 = .ok (.aload_n 0, 1) := by decide +kernel
theorem dL_law_215 : decode cL_law 215 = .ok (.iload_n 3, 1) := by decide +kernel
theorem dL_law_216 : decode cL_law 216 = .ok (.iconst 2, 1) := by decide +kernel
theorem dL_law_217 : decode cL_law 217 = .ok (.iadd, 1) := by decide +kernel
theorem dL_law_218 : decode cL_law 218 = .ok (.iaload, 1) := by decide +kernel
theorem dL_law_219 : decode cL_law 219 = .ok (.aload_n 0, 1) := by decide +kernel
theorem dL_law_220 : decode cL_law 220 = .ok (.iload_n 3, 1) := by decide +kernel
theorem dL_law_221 : decode cL_law 221 = .ok (.iconst 3, 1) := by decide +kernel
theorem dL_law_222 : decode cL_law 222 = .ok (.iadd, 1) := by decide +kernel
theorem dL_law_223 : decode cL_law 223 = .ok (.iaload, 1) := by decide +kernel
theorem dL_law_224 : decode cL_law 224 = .ok (.invokevirtual 22, 3) := by decide +kernel
theorem dL_law_227 : decode cL_law 227 = .ok (.if_icmp .eq 611, 3) := by decide +kernel
theorem dL_law_230 : decode cL_law 230 = .ok (.iconst 0, 1) := by decide +kernel
theorem dL_law_231 : decode cL_law 231 = .ok (.ireturn, 1) := by decide +kernel
theorem dL_law_232 : decode cL_law 232 = .ok (.aload_n 1, 1) := by decide +kernel
theorem dL_law_233 : decode cL_law 233 = .ok (.aload_n 0, 1) := by decide +kernel
theorem dL_law_234 : decode cL_law 234 = .ok (.iload_n 3, 1) := by decide +kernel
theorem dL_law_235 : decode cL_law 235 = .ok (.iconst 1, 1) := by decide +kernel
theorem dL_law_236 : decode cL_law 236 = .ok (.iadd, 1) := by decide +kernel
theorem dL_law_237 : decode cL_law 237 = .ok (.iaload, 1) := by decide +kernel
theorem dL_law_238 : decode cL_law 238 = .ok (.aload_n 0, 1) := by decide +kernel
theorem dL_law_239 : decode cL_law 239 = .ok (.iload_n 3, 1) := by decide +kernel
theorem dL_law_240 : decode cL_law 240 = .ok (.iconst 2, 1) := by decide +kernel
theorem dL_law_241 : decode cL_law 241 = .ok (.iadd, 1) := by decide +kernel
theorem dL_law_242 : decode cL_law 242 = .ok (.iaload, 1) := by decide +kernel
theorem dL_law_243 : decode cL_law 243 = .ok (.i2l, 1) := by decide +kernel
theorem dL_law_244 : decode cL_law 244 = .ok (.bipush 32, 2) := by decide +kernel
theorem dL_law_246 : decode cL_law 246 = .ok (.lshl, 1) := by decide +kernel
theorem dL_law_247 : decode cL_law 247 = .ok (.aload_n 0, 1) := by decide +kernel
theorem dL_law_248 : decode cL_law 248 = .ok (.iload_n 3, 1) := by decide +kernel
theorem dL_law_249 : decode cL_law 249 = .ok (.iconst 3, 1) := by decide +kernel
theorem dL_law_250 : decode cL_law 250 = .ok (.iadd, 1) := by decide +kernel
theorem dL_law_251 : decode cL_law 251 = .ok (.iaload, 1) := by decide +kernel
theorem dL_law_252 : decode cL_law 252 = .ok (.i2l, 1) := by decide +kernel
theorem dL_law_253 : decode cL_law 253 = .ok (.ldc2_w 23, 3) := by decide +kernel
theorem dL_law_256 : decode cL_law 256 = .ok (.land, 1) := by decide +kernel
theorem dL_law_257 : decode cL_law 257 = .ok (.lor, 1) := by decide +kernel
theorem dL_law_258 : decode cL_law 258 = .ok (.invokevirtual 25, 3) := by decide +kernel
theorem dL_law_261 : decode cL_law 261 = .ok (.aload_n 2, 1) := by decide +kernel
theorem dL_law_262 : decode cL_law 262 = .ok (.aload_n 0, 1) := by decide +kernel
theorem dL_law_263 : decode cL_law 263 = .ok (.iload_n 3, 1) := by decide +kernel
theorem dL_law_264 : decode cL_law 264 = .ok (.iconst 1, 1) := by decide +kernel
theorem dL_law_265 : decode cL_law 265 = .ok (.iadd, 1) := by decide +kernel
theorem dL_law_266 : decode cL_law 266 = .ok (.iaload, 1) := by decide +kernel
theorem dL_law_267 : decode cL_law 267 = .ok (.aload_n 0, 1) := by decide +kernel
theorem dL_law_268 : decode cL_law 268 = .ok (.iload_n 3, 1) := by decide +kernel
theorem dL_law_269 : decode cL_law 269 = .ok (.iconst 2, 1) := by decide +kernel
theorem dL_law_270 : decode cL_law 270 = .ok (.iadd, 1) := by decide +kernel
theorem dL_law_271 : decode cL_law 271 = .ok (.iaload, 1) := by decide +kernel
theorem dL_law_272 : decode cL_law 272 = .ok (.i2l, 1) := by decide +kernel
theorem dL_law_273 : decode cL_law 273 = .ok (.bipush 32, 2) := by decide +kernel
theorem dL_law_275 : decode cL_law 275 = .ok (.lshl, 1) := by decide +kernel
theorem dL_law_276 : decode cL_law 276 = .ok (.aload_n 0, 1) := by decide +kernel
theorem dL_law_277 : decode cL_law 277 = .ok (.iload_n 3, 1) := by decide +kernel
theorem dL_law_278 : decode cL_law 278 = .ok (.iconst 3, 1) := by decide +kernel
theorem dL_law_279 : decode cL_law 279 = .ok (.iadd, 1) := by decide +kernel
theorem dL_law_280 : decode cL_law 280 = .ok (.iaload, 1) := by decide +kernel
theorem dL_law_281 : decode cL_law 281 = .ok (.i2l, 1) := by decide +kernel
theorem dL_law_282 : decode cL_law 282 = .ok (.ldc2_w 23, 3) := by decide +kernel
theorem dL_law_285 : decode cL_law 285 = .ok (.land, 1) := by decide +kernel
theorem dL_law_286 : decode cL_law 286 = .ok (.lor, 1) := by decide +kernel
theorem dL_law_287 : decode cL_law 287 = .ok (.invokevirtual 29, 3) := by decide +kernel
theorem dL_law_290 : decode cL_law 290 = .ok (.if_icmp .eq 548, 3) := by decide +kernel
theorem dL_law_293 : decode cL_law 293 = .ok (.iconst 0, 1) := by decide +kernel
theorem dL_law_294 : decode cL_law 294 = .ok (.ireturn, 1) := by decide +kernel
theorem dL_law_295 : decode cL_law 295 = .ok (.aload_n 1, 1) := by decide +kernel
theorem dL_law_296 : decode cL_law 296 = .ok (.aload_n 0, 1) := by decide +kernel
theorem dL_law_297 : decode cL_law 297 = .ok (.iload_n 3, 1) := by decide +kernel
theorem dL_law_298 : decode cL_law 298 = .ok (.iconst 1, 1) := by decide +kernel
theorem dL_law_299 : decode cL_law 299 = .ok (.iadd, 1) := by decide +kernel
theorem dL_law_300 : decode cL_law 300 = .ok (.iaload, 1) := by decide +kernel
theorem dL_law_301 : decode cL_law 301 = .ok (.aload_n 0, 1) := by decide +kernel
theorem dL_law_302 : decode cL_law 302 = .ok (.iload_n 3, 1) := by decide +kernel
theorem dL_law_303 : decode cL_law 303 = .ok (.iconst 2, 1) := by decide +kernel
theorem dL_law_304 : decode cL_law 304 = .ok (.iadd, 1) := by decide +kernel
theorem dL_law_305 : decode cL_law 305 = .ok (.iaload, 1) := by decide +kernel
theorem dL_law_306 : decode cL_law 306 = .ok (.invokevirtual 30, 3) := by decide +kernel
theorem dL_law_309 : decode cL_law 309 = .ok (.aload_n 2, 1) := by decide +kernel
theorem dL_law_310 : decode cL_law 310 = .ok (.aload_n 0, 1) := by decide +kernel
theorem dL_law_311 : decode cL_law 311 = .ok (.iload_n 3, 1) := by decide +kernel
theorem dL_law_312 : decode cL_law 312 = .ok (.iconst 1, 1) := by decide +kernel
theorem dL_law_313 : decode cL_law 313 = .ok (.iadd, 1) := by decide +kernel
theorem dL_law_314 : decode cL_law 314 = .ok (.iaload, 1) := by decide +kernel
theorem dL_law_315 : decode cL_law 315 = .ok (.aload_n 0, 1) := by decide +kernel
theorem dL_law_316 : decode cL_law 316 = .ok (.iload_n 3, 1) := by decide +kernel
theorem dL_law_317 : decode cL_law 317 = .ok (.iconst 2, 1) := by decide +kernel
theorem dL_law_318 : decode cL_law 318 = .ok (.iadd, 1) := by decide +kernel
theorem dL_law_319 : decode cL_law 319 = .ok (.iaload, 1) := by decide +kernel
theorem dL_law_320 : decode cL_law 320 = .ok (.invokevirtual 33, 3) := by decide +kernel
theorem dL_law_323 : decode cL_law 323 = .ok (.if_icmp .eq 515, 3) := by decide +kernel
theorem dL_law_326 : decode cL_law 326 = .ok (.iconst 0, 1) := by decide +kernel
theorem dL_law_327 : decode cL_law 327 = .ok (.ireturn, 1) := by decide +kernel
theorem dL_law_328 : decode cL_law 328 = .ok (.aload_n 1, 1) := by decide +kernel
theorem dL_law_329 : decode cL_law 329 = .ok (.aload_n 0, 1) := by decide +kernel
theorem dL_law_330 : decode cL_law 330 = .ok (.iload_n 3, 1) := by decide +kernel
theorem dL_law_331 : decode cL_law 331 = .ok (.iconst 1, 1) := by decide +kernel
theorem dL_law_332 : decode cL_law 332 = .ok (.iadd, 1) := by decide +kernel
theorem dL_law_333 : decode cL_law 333 = .ok (.iaload, 1) := by decide +kernel
theorem dL_law_334 : decode cL_law 334 = .ok (.aload_n 0, 1) := by decide +kernel
theorem dL_law_335 : decode cL_law 335 = .ok (.iload_n 3, 1) := by decide +kernel
theorem dL_law_336 : decode cL_law 336 = .ok (.iconst 2, 1) := by decide +kernel
theorem dL_law_337 : decode cL_law 337 = .ok (.iadd, 1) := by decide +kernel
theorem dL_law_338 : decode cL_law 338 = .ok (.iaload, 1) := by decide +kernel
theorem dL_law_339 : decode cL_law 339 = .ok (.aload_n 0, 1) := by decide +kernel
theorem dL_law_340 : decode cL_law 340 = .ok (.iload_n 3, 1) := by decide +kernel
theorem dL_law_341 : decode cL_law 341 = .ok (.iconst 3, 1) := by decide +kernel
theorem dL_law_342 : decode cL_law 342 = .ok (.iadd, 1) := by decide +kernel
theorem dL_law_343 : decode cL_law 343 = .ok (.iaload, 1) := by decide +kernel
theorem dL_law_344 : decode cL_law 344 = .ok (.invokevirtual 34, 3) := by decide +kernel
theorem dL_law_347 : decode cL_law 347 = .ok (.aload_n 2, 1) := by decide +kernel
theorem dL_law_348 : decode cL_law 348 = .ok (.aload_n 0, 1) := by decide +kernel
theorem dL_law_349 : decode cL_law 349 = .ok (.iload_n 3, 1) := by decide +kernel
theorem dL_law_350 : decode cL_law 350 = .ok (.iconst 1, 1) := by decide +kernel
theorem dL_law_351 : decode cL_law 351 = .ok (.iadd, 1) := by decide +kernel
theorem dL_law_352 : decode cL_law 352 = .ok (.iaload, 1) := by decide +kernel
theorem dL_law_353 : decode cL_law 353 = .ok (.aload_n 0, 1) := by decide +kernel
theorem dL_law_354 : decode cL_law 354 = .ok (.iload_n 3, 1) := by decide +kernel
theorem dL_law_355 : decode cL_law 355 = .ok (.iconst 2, 1) := by decide +kernel
theorem dL_law_356 : decode cL_law 356 = .ok (.iadd, 1) := by decide +kernel
theorem dL_law_357 : decode cL_law 357 = .ok (.iaload, 1) := by decide +kernel
theorem dL_law_358 : decode cL_law 358 = .ok (.aload_n 0, 1) := by decide +kernel
theorem dL_law_359 : decode cL_law 359 = .ok (.iload_n 3, 1) := by decide +kernel
theorem dL_law_360 : decode cL_law 360 = .ok (.iconst 3, 1) := by decide +kernel
theorem dL_law_361 : decode cL_law 361 = .ok (.iadd, 1) := by decide +kernel
theorem dL_law_362 : decode cL_law 362 = .ok (.iaload, 1) := by decide +kernel
theorem dL_law_363 : decode cL_law 363 = .ok (.invokevirtual 37, 3) := by decide +kernel
theorem dL_law_366 : decode cL_law 366 = .ok (.if_icmp .eq 472, 3) := by decide +kernel
theorem dL_law_369 : decode cL_law 369 = .ok (.iconst 0, 1) := by decide +kernel
theorem dL_law_370 : decode cL_law 370 = .ok (.ireturn, 1) := by decide +kernel
theorem dL_law_371 : decode cL_law 371 = .ok (.aload_n 1, 1) := by decide +kernel
theorem dL_law_372 : decode cL_law 372 = .ok (.aload_n 0, 1) := by decide +kernel
theorem dL_law_373 : decode cL_law 373 = .ok (.iload_n 3, 1) := by decide +kernel
theorem dL_law_374 : decode cL_law 374 = .ok (.iconst 1, 1) := by decide +kernel
theorem dL_law_375 : decode cL_law 375 = .ok (.iadd, 1) := by decide +kernel
theorem dL_law_376 : decode cL_law 376 = .ok (.iaload, 1) := by decide +kernel
theorem dL_law_377 : decode cL_law 377 = .ok (.aload_n 0, 1) := by decide +kernel
theorem dL_law_378 : decode cL_law 378 = .ok (.iload_n 3, 1) := by decide +kernel
theorem dL_law_379 : decode cL_law 379 = .ok (.iconst 2, 1) := by decide +kernel
theorem dL_law_380 : decode cL_law 380 = .ok (.iadd, 1) := by decide +kernel
theorem dL_law_381 : decode cL_law 381 = .ok (.iaload, 1) := by decide +kernel
theorem dL_law_382 : decode cL_law 382 = .ok (.invokevirtual 38, 3) := by decide +kernel
theorem dL_law_385 : decode cL_law 385 = .ok (.aload_n 2, 1) := by decide +kernel
theorem dL_law_386 : decode cL_law 386 = .ok (.aload_n 0, 1) := by decide +kernel
theorem dL_law_387 : decode cL_law 387 = .ok (.iload_n 3, 1) := by decide +kernel
theorem dL_law_388 : decode cL_law 388 = .ok (.iconst 1, 1) := by decide +kernel
theorem dL_law_389 : decode cL_law 389 = .ok (.iadd, 1) := by decide +kernel
theorem dL_law_390 : decode cL_law 390 = .ok (.iaload, 1) := by decide +kernel
theorem dL_law_391 : decode cL_law 391 = .ok (.aload_n 0, 1) := by decide +kernel
theorem dL_law_392 : decode cL_law 392 = .ok (.iload_n 3, 1) := by decide +kernel
theorem dL_law_393 : decode cL_law 393 = .ok (.iconst 2, 1) := by decide +kernel
theorem dL_law_394 : decode cL_law 394 = .ok (.iadd, 1) := by decide +kernel
theorem dL_law_395 : decode cL_law 395 = .ok (.iaload, 1) := by decide +kernel
theorem dL_law_396 : decode cL_law 396 = .ok (.invokevirtual 41, 3) := by decide +kernel
theorem dL_law_399 : decode cL_law 399 = .ok (.if_icmp .eq 439, 3) := by decide +kernel
theorem dL_law_402 : decode cL_law 402 = .ok (.iconst 0, 1) := by decide +kernel
theorem dL_law_403 : decode cL_law 403 = .ok (.ireturn, 1) := by decide +kernel
theorem dL_law_404 : decode cL_law 404 = .ok (.aload_n 1, 1) := by decide +kernel
theorem dL_law_405 : decode cL_law 405 = .ok (.invokevirtual 42, 3) := by decide +kernel
theorem dL_law_408 : decode cL_law 408 = .ok (.aload_n 2, 1) := by decide +kernel
theorem dL_law_409 : decode cL_law 409 = .ok (.invokevirtual 46, 3) := by decide +kernel
theorem dL_law_412 : decode cL_law 412 = .ok (.if_icmp .eq 426, 3) := by decide +kernel
theorem dL_law_415 : decode cL_law 415 = .ok (.iconst 0, 1) := by decide +kernel
theorem dL_law_416 : decode cL_law 416 = .ok (.ireturn, 1) := by decide +kernel
theorem dL_law_417 : decode cL_law 417 = .ok (.aload_n 1, 1) := by decide +kernel
theorem dL_law_418 : decode cL_law 418 = .ok (.aload_n 0, 1) := by decide +kernel
theorem dL_law_419 : decode cL_law 419 = .ok (.iload_n 3, 1) := by decide +kernel
theorem dL_law_420 : decode cL_law 420 = .ok (.iconst 1, 1) := by decide +kernel
theorem dL_law_421 : decode cL_law 421 = .ok (.iadd, 1) := by decide +kernel
theorem dL_law_422 : decode cL_law 422 = .ok (.iaload, 1) := by decide +kernel
theorem dL_law_423 : decode cL_law 423 = .ok (.invokevirtual 47, 3) := by decide +kernel
theorem dL_law_426 : decode cL_law 426 = .ok (.aload_n 2, 1) := by decide +kernel
theorem dL_law_427 : decode cL_law 427 = .ok (.aload_n 0, 1) := by decide +kernel
theorem dL_law_428 : decode cL_law 428 = .ok (.iload_n 3, 1) := by decide +kernel
theorem dL_law_429 : decode cL_law 429 = .ok (.iconst 1, 1) := by decide +kernel
theorem dL_law_430 : decode cL_law 430 = .ok (.iadd, 1) := by decide +kernel
theorem dL_law_431 : decode cL_law 431 = .ok (.iaload, 1) := by decide +kernel
theorem dL_law_432 : decode cL_law 432 = .ok (.invokevirtual 51, 3) := by decide +kernel
theorem dL_law_435 : decode cL_law 435 = .ok (.if_icmp .eq 403, 3) := by decide +kernel
theorem dL_law_438 : decode cL_law 438 = .ok (.iconst 0, 1) := by decide +kernel
theorem dL_law_439 : decode cL_law 439 = .ok (.ireturn, 1) := by decide +kernel
theorem dL_law_440 : decode cL_law 440 = .ok (.aload_n 1, 1) := by decide +kernel
theorem dL_law_441 : decode cL_law 441 = .ok (.aload_n 0, 1) := by decide +kernel
theorem dL_law_442 : decode cL_law 442 = .ok (.iload_n 3, 1) := by decide +kernel
theorem dL_law_443 : decode cL_law 443 = .ok (.iconst 1, 1) := by decide +kernel
theorem dL_law_444 : decode cL_law 444 = .ok (.iadd, 1) := by decide +kernel
theorem dL_law_445 : decode cL_law 445 = .ok (.iaload, 1) := by decide +kernel
theorem dL_law_446 : decode cL_law 446 = .ok (.invokevirtual 52, 3) := by decide +kernel
theorem dL_law_449 : decode cL_law 449 = .ok (.aload_n 2, 1) := by decide +kernel
theorem dL_law_450 : decode cL_law 450 = .ok (.aload_n 0, 1) := by decide +kernel
theorem dL_law_451 : decode cL_law 451 = .ok (.iload_n 3, 1) := by decide +kernel
theorem dL_law_452 : decode cL_law 452 = .ok (.iconst 1, 1) := by decide +kernel
theorem dL_law_453 : decode cL_law 453 = .ok (.iadd, 1) := by decide +kernel
theorem dL_law_454 : decode cL_law 454 = .ok (.iaload, 1) := by decide +kernel
theorem dL_law_455 : decode cL_law 455 = .ok (.invokevirtual 55, 3) := by decide +kernel
theorem dL_law_458 : decode cL_law 458 = .ok (.if_icmp .eq 380, 3) := by decide +kernel
theorem dL_law_461 : decode cL_law 461 = .ok (.iconst 0, 1) := by decide +kernel
theorem dL_law_462 : decode cL_law 462 = .ok (.ireturn, 1) := by decide +kernel
theorem dL_law_463 : decode cL_law 463 = .ok (.aload_n 1, 1) := by decide +kernel
theorem dL_law_464 : decode cL_law 464 = .ok (.aload_n 0, 1) := by decide +kernel
theorem dL_law_465 : decode cL_law 465 = .ok (.iload_n 3, 1) := by decide +kernel
theorem dL_law_466 : decode cL_law 466 = .ok (.iconst 1, 1) := by decide +kernel
theorem dL_law_467 : decode cL_law 467 = .ok (.iadd, 1) := by decide +kernel
theorem dL_law_468 : decode cL_law 468 = .ok (.iaload, 1) := by decide +kernel
theorem dL_law_469 : decode cL_law 469 = .ok (.aload_n 0, 1) := by decide +kernel
theorem dL_law_470 : decode cL_law 470 = .ok (.iload_n 3, 1) := by decide +kernel
theorem dL_law_471 : decode cL_law 471 = .ok (.iconst 2, 1) := by decide +kernel
theorem dL_law_472 : decode cL_law 472 = .ok (.iadd, 1) := by decide +kernel
theorem dL_law_473 : decode cL_law 473 = .ok (.iaload, 1) := by decide +kernel
theorem dL_law_474 : decode cL_law 474 = .ok (.invokevirtual 56, 3) := by decide +kernel
theorem dL_law_477 : decode cL_law 477 = .ok (.aload_n 2, 1) := by decide +kernel
theorem dL_law_478 : decode cL_law 478 = .ok (.aload_n 0, 1) := by decide +kernel
theorem dL_law_479 : decode cL_law 479 = .ok (.iload_n 3, 1) := by decide +kernel
theorem dL_law_480 : decode cL_law 480 = .ok (.iconst 1, 1) := by decide +kernel
theorem dL_law_481 : decode cL_law 481 = .ok (.iadd, 1) := by decide +kernel
theorem dL_law_482 : decode cL_law 482 = .ok (.iaload, 1) := by decide +kernel
theorem dL_law_483 : decode cL_law 483 = .ok (.aload_n 0, 1) := by decide +kernel
theorem dL_law_484 : decode cL_law 484 = .ok (.iload_n 3, 1) := by decide +kernel
theorem dL_law_485 : decode cL_law 485 = .ok (.iconst 2, 1) := by decide +kernel
theorem dL_law_486 : decode cL_law 486 = .ok (.iadd, 1) := by decide +kernel
theorem dL_law_487 : decode cL_law 487 = .ok (.iaload, 1) := by decide +kernel
theorem dL_law_488 : decode cL_law 488 = .ok (.invokevirtual 59, 3) := by decide +kernel
theorem dL_law_491 : decode cL_law 491 = .ok (.if_icmp .eq 347, 3) := by decide +kernel
theorem dL_law_494 : decode cL_law 494 = .ok (.iconst 0, 1) := by decide +kernel
theorem dL_law_495 : decode cL_law 495 = .ok (.ireturn, 1) := by decide +kernel
theorem dL_law_496 : decode cL_law 496 = .ok (.aload_n 1, 1) := by decide +kernel
theorem dL_law_497 : decode cL_law 497 = .ok (.aload_n 0, 1) := by decide +kernel
theorem dL_law_498 : decode cL_law 498 = .ok (.iload_n 3, 1) := by decide +kernel
theorem dL_law_499 : decode cL_law 499 = .ok (.iconst 1, 1) := by decide +kernel
theorem dL_law_500 : decode cL_law 500 = .ok (.iadd, 1) := by decide +kernel
theorem dL_law_501 : decode cL_law 501 = .ok (.iaload, 1) := by decide +kernel
theorem dL_law_502 : decode cL_law 502 = .ok (.invokevirtual 60, 3) := by decide +kernel
theorem dL_law_505 : decode cL_law 505 = .ok (.aload_n 2, 1) := by decide +kernel
theorem dL_law_506 : decode cL_law 506 = .ok (.aload_n 0, 1) := by decide +kernel
theorem dL_law_507 : decode cL_law 507 = .ok (.iload_n 3, 1) := by decide +kernel
theorem dL_law_508 : decode cL_law 508 = .ok (.iconst 1, 1) := by decide +kernel
theorem dL_law_509 : decode cL_law 509 = .ok (.iadd, 1) := by decide +kernel
theorem dL_law_510 : decode cL_law 510 = .ok (.iaload, 1) := by decide +kernel
theorem dL_law_511 : decode cL_law 511 = .ok (.invokevirtual 63, 3) := by decide +kernel
theorem dL_law_514 : decode cL_law 514 = .ok (.if_icmp .eq 324, 3) := by decide +kernel
theorem dL_law_517 : decode cL_law 517 = .ok (.iconst 0, 1) := by decide +kernel
theorem dL_law_518 : decode cL_law 518 = .ok (.ireturn, 1) := by decide +kernel
theorem dL_law_519 : decode cL_law 519 = .ok (.aload_n 1, 1) := by decide +kernel
theorem dL_law_520 : decode cL_law 520 = .ok (.invokevirtual 64, 3) := by decide +kernel
theorem dL_law_523 : decode cL_law 523 = .ok (.aload_n 2, 1) := by decide +kernel
theorem dL_law_524 : decode cL_law 524 = .ok (.invokevirtual 67, 3) := by decide +kernel
theorem dL_law_527 : decode cL_law 527 = .ok (.if_icmp .eq 311, 3) := by decide +kernel
theorem dL_law_530 : decode cL_law 530 = .ok (.iconst 0, 1) := by decide +kernel
theorem dL_law_531 : decode cL_law 531 = .ok (.ireturn, 1) := by decide +kernel
theorem dL_law_532 : decode cL_law 532 = .ok (.aload_n 1, 1) := by decide +kernel
theorem dL_law_533 : decode cL_law 533 = .ok (.aload_n 0, 1) := by decide +kernel
theorem dL_law_534 : decode cL_law 534 = .ok (.iload_n 3, 1) := by decide +kernel
theorem dL_law_535 : decode cL_law 535 = .ok (.iconst 1, 1) := by decide +kernel
theorem dL_law_536 : decode cL_law 536 = .ok (.iadd, 1) := by decide +kernel
theorem dL_law_537 : decode cL_law 537 = .ok (.iaload, 1) := by decide +kernel
theorem dL_law_538 : decode cL_law 538 = .ok (.invokevirtual 68, 3) := by decide +kernel
theorem dL_law_541 : decode cL_law 541 = .ok (.aload_n 2, 1) := by decide +kernel
theorem dL_law_542 : decode cL_law 542 = .ok (.aload_n 0, 1) := by decide +kernel
theorem dL_law_543 : decode cL_law 543 = .ok (.iload_n 3, 1) := by decide +kernel
theorem dL_law_544 : decode cL_law 544 = .ok (.iconst 1, 1) := by decide +kernel
theorem dL_law_545 : decode cL_law 545 = .ok (.iadd, 1) := by decide +kernel
theorem dL_law_546 : decode cL_law 546 = .ok (.iaload, 1) := by decide +kernel
theorem dL_law_547 : decode cL_law 547 = .ok (.invokevirtual 71, 3) := by decide +kernel
theorem dL_law_550 : decode cL_law 550 = .ok (.if_icmp .eq 288, 3) := by decide +kernel
theorem dL_law_553 : decode cL_law 553 = .ok (.iconst 0, 1) := by decide +kernel
theorem dL_law_554 : decode cL_law 554 = .ok (.ireturn, 1) := by decide +kernel
theorem dL_law_555 : decode cL_law 555 = .ok (.aload_n 1, 1) := by decide +kernel
theorem dL_law_556 : decode cL_law 556 = .ok (.aload_n 0, 1) := by decide +kernel
theorem dL_law_557 : decode cL_law 557 = .ok (.iload_n 3, 1) := by decide +kernel
theorem dL_law_558 : decode cL_law 558 = .ok (.iconst 1, 1) := by decide +kernel
theorem dL_law_559 : decode cL_law 559 = .ok (.iadd, 1) := by decide +kernel
theorem dL_law_560 : decode cL_law 560 = .ok (.iaload, 1) := by decide +kernel
theorem dL_law_561 : decode cL_law 561 = .ok (.invokevirtual 72, 3) := by decide +kernel
theorem dL_law_564 : decode cL_law 564 = .ok (.aload_n 2, 1) := by decide +kernel
theorem dL_law_565 : decode cL_law 565 = .ok (.aload_n 0, 1) := by decide +kernel
theorem dL_law_566 : decode cL_law 566 = .ok (.iload_n 3, 1) := by decide +kernel
theorem dL_law_567 : decode cL_law 567 = .ok (.iconst 1, 1) := by decide +kernel
theorem dL_law_568 : decode cL_law 568 = .ok (.iadd, 1) := by decide +kernel
theorem dL_law_569 : decode cL_law 569 = .ok (.iaload, 1) := by decide +kernel
theorem dL_law_570 : decode cL_law 570 = .ok (.invokevirtual 76, 3) := by decide +kernel
theorem dL_law_573 : decode cL_law 573 = .ok (.lcmp, 1) := by decide +kernel
theorem dL_law_574 : decode cL_law 574 = .ok (.ifCond .eq 264, 3) := by decide +kernel
theorem dL_law_577 : decode cL_law 577 = .ok (.iconst 0, 1) := by decide +kernel
theorem dL_law_578 : decode cL_law 578 = .ok (.ireturn, 1) := by decide +kernel
theorem dL_law_579 : decode cL_law 579 = .ok (.aload_n 1, 1) := by decide +kernel
theorem dL_law_580 : decode cL_law 580 = .ok (.invokevirtual 77, 3) := by decide +kernel
theorem dL_law_583 : decode cL_law 583 = .ok (.aload_n 2, 1) := by decide +kernel
theorem dL_law_584 : decode cL_law 584 = .ok (.invokevirtual 80, 3) := by decide +kernel
theorem dL_law_587 : decode cL_law 587 = .ok (.if_icmp .eq 251, 3) := by decide +kernel
theorem dL_law_590 : decode cL_law 590 = .ok (.iconst 0, 1) := by decide +kernel
theorem dL_law_591 : decode cL_law 591 = .ok (.ireturn, 1) := by decide +kernel
theorem dL_law_592 : decode cL_law 592 = .ok (.aload_n 1, 1) := by decide +kernel
theorem dL_law_593 : decode cL_law 593 = .ok (.aload_n 0, 1) := by decide +kernel
theorem dL_law_594 : decode cL_law 594 = .ok (.iload_n 3, 1) := by decide +kernel
theorem dL_law_595 : decode cL_law 595 = .ok (.iconst 1, 1) := by decide +kernel
theorem dL_law_596 : decode cL_law 596 = .ok (.iadd, 1) := by decide +kernel
theorem dL_law_597 : decode cL_law 597 = .ok (.iaload, 1) := by decide +kernel
theorem dL_law_598 : decode cL_law 598 = .ok (.invokevirtual 81, 3) := by decide +kernel
theorem dL_law_601 : decode cL_law 601 = .ok (.aload_n 2, 1) := by decide +kernel
theorem dL_law_602 : decode cL_law 602 = .ok (.aload_n 0, 1) := by decide +kernel
theorem dL_law_603 : decode cL_law 603 = .ok (.iload_n 3, 1) := by decide +kernel
theorem dL_law_604 : decode cL_law 604 = .ok (.iconst 1, 1) := by decide +kernel
theorem dL_law_605 : decode cL_law 605 = .ok (.iadd, 1) := by decide +kernel
theorem dL_law_606 : decode cL_law 606 = .ok (.iaload, 1) := by decide +kernel
theorem dL_law_607 : decode cL_law 607 = .ok (.invokevirtual 84, 3) := by decide +kernel
theorem dL_law_610 : decode cL_law 610 = .ok (.if_icmp .eq 228, 3) := by decide +kernel
theorem dL_law_613 : decode cL_law 613 = .ok (.iconst 0, 1) := by decide +kernel
theorem dL_law_614 : decode cL_law 614 = .ok (.ireturn, 1) := by decide +kernel
theorem dL_law_615 : decode cL_law 615 = .ok (.aload_n 1, 1) := by decide +kernel
theorem dL_law_616 : decode cL_law 616 = .ok (.aload_n 0, 1) := by decide +kernel
theorem dL_law_617 : decode cL_law 617 = .ok (.iload_n 3, 1) := by decide +kernel
theorem dL_law_618 : decode cL_law 618 = .ok (.iconst 1, 1) := by decide +kernel
theorem dL_law_619 : decode cL_law 619 = .ok (.iadd, 1) := by decide +kernel
theorem dL_law_620 : decode cL_law 620 = .ok (.iaload, 1) := by decide +kernel
theorem dL_law_621 : decode cL_law 621 = .ok (.invokevirtual 85, 3) := by decide +kernel
theorem dL_law_624 : decode cL_law 624 = .ok (.aload_n 2, 1) := by decide +kernel
theorem dL_law_625 : decode cL_law 625 = .ok (.aload_n 0, 1) := by decide +kernel
theorem dL_law_626 : decode cL_law 626 = .ok (.iload_n 3, 1) := by decide +kernel
theorem dL_law_627 : decode cL_law 627 = .ok (.iconst 1, 1) := by decide +kernel
theorem dL_law_628 : decode cL_law 628 = .ok (.iadd, 1) := by decide +kernel
theorem dL_law_629 : decode cL_law 629 = .ok (.iaload, 1) := by decide +kernel
theorem dL_law_630 : decode cL_law 630 = .ok (.invokevirtual 88, 3) := by decide +kernel
theorem dL_law_633 : decode cL_law 633 = .ok (.if_icmp .eq 205, 3) := by decide +kernel
theorem dL_law_636 : decode cL_law 636 = .ok (.iconst 0, 1) := by decide +kernel
theorem dL_law_637 : decode cL_law 637 = .ok (.ireturn, 1) := by decide +kernel
theorem dL_law_638 : decode cL_law 638 = .ok (.aload_n 1, 1) := by decide +kernel
theorem dL_law_639 : decode cL_law 639 = .ok (.aload_n 0, 1) := by decide +kernel
theorem dL_law_640 : decode cL_law 640 = .ok (.iload_n 3, 1) := by decide +kernel
theorem dL_law_641 : decode cL_law 641 = .ok (.iconst 1, 1) := by decide +kernel
theorem dL_law_642 : decode cL_law 642 = .ok (.iadd, 1) := by decide +kernel
theorem dL_law_643 : decode cL_law 643 = .ok (.iaload, 1) := by decide +kernel
theorem dL_law_644 : decode cL_law 644 = .ok (.invokevirtual 89, 3) := by decide +kernel
theorem dL_law_647 : decode cL_law 647 = .ok (.aload_n 2, 1) := by decide +kernel
theorem dL_law_648 : decode cL_law 648 = .ok (.aload_n 0, 1) := by decide +kernel
theorem dL_law_649 : decode cL_law 649 = .ok (.iload_n 3, 1) := by decide +kernel
theorem dL_law_650 : decode cL_law 650 = .ok (.iconst 1, 1) := by decide +kernel
theorem dL_law_651 : decode cL_law 651 = .ok (.iadd, 1) := by decide +kernel
theorem dL_law_652 : decode cL_law 652 = .ok (.iaload, 1) := by decide +kernel
theorem dL_law_653 : decode cL_law 653 = .ok (.invokevirtual 92, 3) := by decide +kernel
theorem dL_law_656 : decode cL_law 656 = .ok (.if_icmp .eq 182, 3) := by decide +kernel
theorem dL_law_659 : decode cL_law 659 = .ok (.iconst 0, 1) := by decide +kernel
theorem dL_law_660 : decode cL_law 660 = .ok (.ireturn, 1) := by decide +kernel
theorem dL_law_661 : decode cL_law 661 = .ok (.aload_n 1, 1) := by decide +kernel
theorem dL_law_662 : decode cL_law 662 = .ok (.invokevirtual 93, 3) := by decide +kernel
theorem dL_law_665 : decode cL_law 665 = .ok (.aload_n 2, 1) := by decide +kernel
theorem dL_law_666 : decode cL_law 666 = .ok (.invokevirtual 96, 3) := by decide +kernel
theorem dL_law_669 : decode cL_law 669 = .ok (.if_icmp .eq 169, 3) := by decide +kernel
theorem dL_law_672 : decode cL_law 672 = .ok (.iconst 0, 1) := by decide +kernel
theorem dL_law_673 : decode cL_law 673 = .ok (.ireturn, 1) := by decide +kernel
theorem dL_law_674 : decode cL_law 674 = .ok (.aload_n 1, 1) := by decide +kernel
theorem dL_law_675 : decode cL_law 675 = .ok (.invokevirtual 97, 3) := by decide +kernel
theorem dL_law_678 : decode cL_law 678 = .ok (.aload_n 2, 1) := by decide +kernel
theorem dL_law_679 : decode cL_law 679 = .ok (.invokevirtual 100, 3) := by decide +kernel
theorem dL_law_682 : decode cL_law 682 = .ok (.if_icmp .eq 156, 3) := by decide +kernel
theorem dL_law_685 : decode cL_law 685 = .ok (.iconst 0, 1) := by decide +kernel
theorem dL_law_686 : decode cL_law 686 = .ok (.ireturn, 1) := by decide +kernel
theorem dL_law_687 : decode cL_law 687 = .ok (.aload_n 1, 1) := by decide +kernel
theorem dL_law_688 : decode cL_law 688 = .ok (.aload_n 0, 1) := by decide +kernel
theorem dL_law_689 : decode cL_law 689 = .ok (.iload_n 3, 1) := by decide +kernel
theorem dL_law_690 : decode cL_law 690 = .ok (.iconst 1, 1) := by decide +kernel
theorem dL_law_691 : decode cL_law 691 = .ok (.iadd, 1) := by decide +kernel
theorem dL_law_692 : decode cL_law 692 = .ok (.iaload, 1) := by decide +kernel
theorem dL_law_693 : decode cL_law 693 = .ok (.i2l, 1) := by decide +kernel
theorem dL_law_694 : decode cL_law 694 = .ok (.bipush 32, 2) := by decide +kernel
theorem dL_law_696 : decode cL_law 696 = .ok (.lshl, 1) := by decide +kernel
theorem dL_law_697 : decode cL_law 697 = .ok (.aload_n 0, 1) := by decide +kernel
theorem dL_law_698 : decode cL_law 698 = .ok (.iload_n 3, 1) := by decide +kernel
theorem dL_law_699 : decode cL_law 699 = .ok (.iconst 2, 1) := by decide +kernel
theorem dL_law_700 : decode cL_law 700 = .ok (.iadd, 1) := by decide +kernel
theorem dL_law_701 : decode cL_law 701 = .ok (.iaload, 1) := by decide +kernel
theorem dL_law_702 : decode cL_law 702 = .ok (.i2l, 1) := by decide +kernel
theorem dL_law_703 : decode cL_law 703 = .ok (.ldc2_w 23, 3) := by decide +kernel
theorem dL_law_706 : decode cL_law 706 = .ok (.land, 1) := by decide +kernel
theorem dL_law_707 : decode cL_law 707 = .ok (.lor, 1) := by decide +kernel
theorem dL_law_708 : decode cL_law 708 = .ok (.invokevirtual 101, 3) := by decide +kernel
theorem dL_law_711 : decode cL_law 711 = .ok (.aload_n 2, 1) := by decide +kernel
theorem dL_law_712 : decode cL_law 712 = .ok (.aload_n 0, 1) := by decide +kernel
theorem dL_law_713 : decode cL_law 713 = .ok (.iload_n 3, 1) := by decide +kernel
theorem dL_law_714 : decode cL_law 714 = .ok (.iconst 1, 1) := by decide +kernel
theorem dL_law_715 : decode cL_law 715 = .ok (.iadd, 1) := by decide +kernel
theorem dL_law_716 : decode cL_law 716 = .ok (.iaload, 1) := by decide +kernel
theorem dL_law_717 : decode cL_law 717 = .ok (.i2l, 1) := by decide +kernel
theorem dL_law_718 : decode cL_law 718 = .ok (.bipush 32, 2) := by decide +kernel
theorem dL_law_720 : decode cL_law 720 = .ok (.lshl, 1) := by decide +kernel
theorem dL_law_721 : decode cL_law 721 = .ok (.aload_n 0, 1) := by decide +kernel
theorem dL_law_722 : decode cL_law 722 = .ok (.iload_n 3, 1) := by decide +kernel
theorem dL_law_723 : decode cL_law 723 = .ok (.iconst 2, 1) := by decide +kernel
theorem dL_law_724 : decode cL_law 724 = .ok (.iadd, 1) := by decide +kernel
theorem dL_law_725 : decode cL_law 725 = .ok (.iaload, 1) := by decide +kernel
theorem dL_law_726 : decode cL_law 726 = .ok (.i2l, 1) := by decide +kernel
theorem dL_law_727 : decode cL_law 727 = .ok (.ldc2_w 23, 3) := by decide +kernel
theorem dL_law_730 : decode cL_law 730 = .ok (.land, 1) := by decide +kernel
theorem dL_law_731 : decode cL_law 731 = .ok (.lor, 1) := by decide +kernel
theorem dL_law_732 : decode cL_law 732 = .ok (.invokevirtual 105, 3) := by decide +kernel
theorem dL_law_735 : decode cL_law 735 = .ok (.if_icmp .eq 103, 3) := by decide +kernel
theorem dL_law_738 : decode cL_law 738 = .ok (.iconst 0, 1) := by decide +kernel
theorem dL_law_739 : decode cL_law 739 = .ok (.ireturn, 1) := by decide +kernel
theorem dL_law_740 : decode cL_law 740 = .ok (.aload_n 1, 1) := by decide +kernel
theorem dL_law_741 : decode cL_law 741 = .ok (.invokevirtual 106, 3) := by decide +kernel
theorem dL_law_744 : decode cL_law 744 = .ok (.aload_n 2, 1) := by decide +kernel
theorem dL_law_745 : decode cL_law 745 = .ok (.invokevirtual 109, 3) := by decide +kernel
theorem dL_law_748 : decode cL_law 748 = .ok (.if_icmp .eq 90, 3) := by decide +kernel
theorem dL_law_751 : decode cL_law 751 = .ok (.iconst 0, 1) := by decide +kernel
theorem dL_law_752 : decode cL_law 752 = .ok (.ireturn, 1) := by decide +kernel
theorem dL_law_753 : decode cL_law 753 = .ok (.aload_n 1, 1) := by decide +kernel
theorem dL_law_754 : decode cL_law 754 = .ok (.invokevirtual 110, 3) := by decide +kernel
theorem dL_law_757 : decode cL_law 757 = .ok (.aload_n 2, 1) := by decide +kernel
theorem dL_law_758 : decode cL_law 758 = .ok (.invokevirtual 113, 3) := by decide +kernel
theorem dL_law_761 : decode cL_law 761 = .ok (.if_icmp .eq 77, 3) := by decide +kernel
theorem dL_law_764 : decode cL_law 764 = .ok (.iconst 0, 1) := by decide +kernel
theorem dL_law_765 : decode cL_law 765 = .ok (.ireturn, 1) := by decide +kernel
theorem dL_law_766 : decode cL_law 766 = .ok (.aload_n 1, 1) := by decide +kernel
theorem dL_law_767 : decode cL_law 767 = .ok (.invokevirtual 114, 3) := by decide +kernel
theorem dL_law_770 : decode cL_law 770 = .ok (.aload_n 2, 1) := by decide +kernel
theorem dL_law_771 : decode cL_law 771 = .ok (.invokevirtual 117, 3) := by decide +kernel
theorem dL_law_774 : decode cL_law 774 = .ok (.if_icmp .eq 64, 3) := by decide +kernel
theorem dL_law_777 : decode cL_law 777 = .ok (.iconst 0, 1) := by decide +kernel
theorem dL_law_778 : decode cL_law 778 = .ok (.ireturn, 1) := by decide +kernel
theorem dL_law_779 : decode cL_law 779 = .ok (.aload_n 1, 1) := by decide +kernel
theorem dL_law_780 : decode cL_law 780 = .ok (.invokevirtual 118, 3) := by decide +kernel
theorem dL_law_783 : decode cL_law 783 = .ok (.aload_n 2, 1) := by decide +kernel
theorem dL_law_784 : decode cL_law 784 = .ok (.invokevirtual 121, 3) := by decide +kernel
theorem dL_law_787 : decode cL_law 787 = .ok (.if_icmp .eq 51, 3) := by decide +kernel
theorem dL_law_790 : decode cL_law 790 = .ok (.iconst 0, 1) := by decide +kernel
theorem dL_law_791 : decode cL_law 791 = .ok (.ireturn, 1) := by decide +kernel
theorem dL_law_792 : decode cL_law 792 = .ok (.aload_n 1, 1) := by decide +kernel
theorem dL_law_793 : decode cL_law 793 = .ok (.aload_n 0, 1) := by decide +kernel
theorem dL_law_794 : decode cL_law 794 = .ok (.iload_n 3, 1) := by decide +kernel
theorem dL_law_795 : decode cL_law 795 = .ok (.iconst 1, 1) := by decide +kernel
theorem dL_law_796 : decode cL_law 796 = .ok (.iadd, 1) := by decide +kernel
theorem dL_law_797 : decode cL_law 797 = .ok (.iaload, 1) := by decide +kernel
theorem dL_law_798 : decode cL_law 798 = .ok (.invokevirtual 122, 3) := by decide +kernel
theorem dL_law_801 : decode cL_law 801 = .ok (.aload_n 2, 1) := by decide +kernel
theorem dL_law_802 : decode cL_law 802 = .ok (.aload_n 0, 1) := by decide +kernel
theorem dL_law_803 : decode cL_law 803 = .ok (.iload_n 3, 1) := by decide +kernel
theorem dL_law_804 : decode cL_law 804 = .ok (.iconst 1, 1) := by decide +kernel
theorem dL_law_805 : decode cL_law 805 = .ok (.iadd, 1) := by decide +kernel
theorem dL_law_806 : decode cL_law 806 = .ok (.iaload, 1) := by decide +kernel
theorem dL_law_807 : decode cL_law 807 = .ok (.invokevirtual 125, 3) := by decide +kernel
theorem dL_law_810 : decode cL_law 810 = .ok (.if_icmp .eq 28, 3) := by decide +kernel
theorem dL_law_813 : decode cL_law 813 = .ok (.iconst 0, 1) := by decide +kernel
theorem dL_law_814 : decode cL_law 814 = .ok (.ireturn, 1) := by decide +kernel
theorem dL_law_815 : decode cL_law 815 = .ok (.aload_n 1, 1) := by decide +kernel
theorem dL_law_816 : decode cL_law 816 = .ok (.aload_n 0, 1) := by decide +kernel
theorem dL_law_817 : decode cL_law 817 = .ok (.iload_n 3, 1) := by decide +kernel
theorem dL_law_818 : decode cL_law 818 = .ok (.iconst 1, 1) := by decide +kernel
theorem dL_law_819 : decode cL_law 819 = .ok (.iadd, 1) := by decide +kernel
theorem dL_law_820 : decode cL_law 820 = .ok (.iaload, 1) := by decide +kernel
theorem dL_law_821 : decode cL_law 821 = .ok (.invokevirtual 126, 3) := by decide +kernel
theorem dL_law_824 : decode cL_law 824 = .ok (.aload_n 2, 1) := by decide +kernel
theorem dL_law_825 : decode cL_law 825 = .ok (.aload_n 0, 1) := by decide +kernel
theorem dL_law_826 : decode cL_law 826 = .ok (.iload_n 3, 1) := by decide +kernel
theorem dL_law_827 : decode cL_law 827 = .ok (.iconst 1, 1) := by decide +kernel
theorem dL_law_828 : decode cL_law 828 = .ok (.iadd, 1) := by decide +kernel
theorem dL_law_829 : decode cL_law 829 = .ok (.iaload, 1) := by decide +kernel
theorem dL_law_830 : decode cL_law 830 = .ok (.invokevirtual 129, 3) := by decide +kernel
theorem dL_law_833 : decode cL_law 833 = .ok (.if_icmp .eq 5, 3) := by decide +kernel
theorem dL_law_836 : decode cL_law 836 = .ok (.iconst 0, 1) := by decide +kernel
theorem dL_law_837 : decode cL_law 837 = .ok (.ireturn, 1) := by decide +kernel
theorem dL_law_838 : decode cL_law 838 = .ok (.iinc 3 4, 3) := by decide +kernel
theorem dL_law_841 : decode cL_law 841 = .ok (.goto (-823), 3) := by decide +kernel
theorem dL_law_844 : decode cL_law 844 = .ok (.iconst 1, 1) := by decide +kernel
theorem dL_law_845 : decode cL_law 845 = .ok (.ireturn, 1) := by decide +kernel
abbrev vwCl : List vw_C := [(RX0, TX0, 3), (RX1, TX1, 6), (RX2, TX2, 5), (RX3, TX3, 2), (RX4, TX4, 10), (RX5, TX5, 8), (RX6, TX6, 6), (RX7, TX7, 16)]
end
section
/-! the words that are used, by their places in the tables -/
def lw_good : List Cond := lw_tbl.filter goodWord
theorem lw_goodOk {w : Cond} {k : Nat} (h : lw_tbl[k]? = some w) (g : goodWord w = true) : w ∈ lw_good := List.mem_filter.mpr ⟨List.mem_of_getElem? h, g⟩
theorem lw_goodIn {w : Cond} (h : w ∈ lw_good) : w ∈ lw_good ∧ ((w.onTables && w.keeps) = true ∨ ∃ ty, w = .arrayClass ty) := ⟨h, good_of_word (List.mem_filter.mp h).2⟩
abbrev ws_ (y : MethodName) (b : ByteArray) (n : Nat) (r : Option FieldType) : List Cond := Cond.code y b n r :: lw_good
theorem gV {own : String} {idx : Nat} {C : String} {y : MethodName} {b : ByteArray} {n : Nat} {r : Option FieldType} (h1 : Cond.methodLink own idx y ∈ lw_good) (h2 : Cond.instanceMethod y ∈ lw_good) (h3 : Cond.selects C y y ∈ lw_good) (h4 : Cond.initialized C ∈ lw_good) (h5 : Cond.code y b n r ∈ lw_good) : GoodIn lw_good (wsV own idx C y (ws_ y b n r)) := by
  intro w hw
  refine lw_goodIn ?_
  simp only [wsV, ws_, List.cons_append, List.nil_append, List.mem_cons] at hw
  rcases hw with rfl | rfl | rfl | rfl | rfl | h <;> assumption
theorem gS {own : String} {idx : Nat} {y : MethodName} {b : ByteArray} {n : Nat} {r : Option FieldType} (h1 : Cond.methodLink own idx y ∈ lw_good) (h2 : Cond.static y ∈ lw_good) (h4 : Cond.initialized y.cls ∈ lw_good) (h5 : Cond.code y b n r ∈ lw_good) : GoodIn lw_good (va_wsS own idx y (ws_ y b n r)) := by
  intro w hw
  refine lw_goodIn ?_
  simp only [va_wsS, ws_, List.cons_append, List.nil_append, List.mem_cons] at hw
  rcases hw with rfl | rfl | rfl | rfl | h <;> assumption
theorem gI {y : MethodName} {b : ByteArray} {n : Nat} {r : Option FieldType} (h5 : Cond.code y b n r ∈ lw_good) : GoodIn lw_good (ws_ y b n r) := by
  intro w hw
  refine lw_goodIn ?_
  rcases List.mem_cons.mp hw with rfl | h <;> assumption
theorem mz_L : Cond.initialized RL ∈ lw_good := lw_goodOk (k := 42) (by decide +kernel) (by decide +kernel)
theorem mz_X6 : Cond.initialized RX6 ∈ lw_good := lw_goodOk (k := 43) (by decide +kernel) (by decide +kernel)
theorem mz_X5 : Cond.initialized RX5 ∈ lw_good := lw_goodOk (k := 44) (by decide +kernel) (by decide +kernel)
theorem mz_X1 : Cond.initialized RX1 ∈ lw_good := lw_goodOk (k := 45) (by decide +kernel) (by decide +kernel)
theorem mz_J7 : Cond.initialized RJ7 ∈ lw_good := lw_goodOk (k := 46) (by decide +kernel) (by decide +kernel)
theorem mz_X0 : Cond.initialized RX0 ∈ lw_good := lw_goodOk (k := 47) (by decide +kernel) (by decide +kernel)
theorem mz_X3 : Cond.initialized RX3 ∈ lw_good := lw_goodOk (k := 48) (by decide +kernel) (by decide +kernel)
theorem mz_X2 : Cond.initialized RX2 ∈ lw_good := lw_goodOk (k := 49) (by decide +kernel) (by decide +kernel)
theorem mz_X4 : Cond.initialized RX4 ∈ lw_good := lw_goodOk (k := 50) (by decide +kernel) (by decide +kernel)
theorem mz_X7 : Cond.initialized RX7 ∈ lw_good := lw_goodOk (k := 51) (by decide +kernel) (by decide +kernel)
theorem mz_J10 : Cond.initialized RJ10 ∈ lw_good := lw_goodOk (k := 52) (by decide +kernel) (by decide +kernel)
theorem mz_J9 : Cond.initialized RJ9 ∈ lw_good := lw_goodOk (k := 53) (by decide +kernel) (by decide +kernel)
theorem mz_Jxd2413 : Cond.initialized RJxd2413 ∈ lw_good := lw_goodOk (k := 54) (by decide +kernel) (by decide +kernel)
theorem mz_Jxe99ae : Cond.initialized RJxe99ae ∈ lw_good := lw_goodOk (k := 55) (by decide +kernel) (by decide +kernel)
theorem mz_Jxf58ca : Cond.initialized RJxf58ca ∈ lw_good := lw_goodOk (k := 56) (by decide +kernel) (by decide +kernel)
theorem mz_J0 : Cond.initialized RJ0 ∈ lw_good := lw_goodOk (k := 57) (by decide +kernel) (by decide +kernel)
theorem mz_J1 : Cond.initialized RJ1 ∈ lw_good := lw_goodOk (k := 58) (by decide +kernel) (by decide +kernel)
theorem mz_J3 : Cond.initialized RJ3 ∈ lw_good := lw_goodOk (k := 59) (by decide +kernel) (by decide +kernel)
theorem mz_J2 : Cond.initialized RJ2 ∈ lw_good := lw_goodOk (k := 60) (by decide +kernel) (by decide +kernel)
theorem ml_L_7 : Cond.classLink RL 7 RX6 ∈ lw_good := lw_goodOk (k := 61) (by decide +kernel) (by decide +kernel)
theorem mn_X6 : Cond.instantiable RX6 6 ∈ lw_good := lw_goodOk (k := 62) (by decide +kernel) (by decide +kernel)
theorem mm_L_9 : Cond.methodLink RL 9 yX6_init ∈ lw_good := lw_goodOk (k := 63) (by decide +kernel) (by decide +kernel)
theorem mi_X6_init : Cond.instanceMethod yX6_init ∈ lw_good := lw_goodOk (k := 64) (by decide +kernel) (by decide +kernel)
theorem mc_X6_init : Cond.code yX6_init cX6_init 1 (none : Option Jvm.ClassFile.FieldType) ∈ lw_good := lw_goodOk (k := 65) (by decide +kernel) (by decide +kernel)
theorem mm_X6_1 : Cond.methodLink RX6 1 ⟨"java/lang/Object", "<init>", "()V"⟩ ∈ lw_good := lw_goodOk (k := 66) (by decide +kernel) (by decide +kernel)
theorem mi_Object_init : Cond.instanceMethod ⟨"java/lang/Object", "<init>", "()V"⟩ ∈ lw_good := lw_goodOk (k := 67) (by decide +kernel) (by decide +kernel)
theorem ml_X6_7 : Cond.classLink RX6 7 RX5 ∈ lw_good := lw_goodOk (k := 69) (by decide +kernel) (by decide +kernel)
theorem mn_X5 : Cond.instantiable RX5 8 ∈ lw_good := lw_goodOk (k := 70) (by decide +kernel) (by decide +kernel)
theorem mm_X6_9 : Cond.methodLink RX6 9 yX5_init ∈ lw_good := lw_goodOk (k := 71) (by decide +kernel) (by decide +kernel)
theorem mi_X5_init : Cond.instanceMethod yX5_init ∈ lw_good := lw_goodOk (k := 72) (by decide +kernel) (by decide +kernel)
theorem mc_X5_init : Cond.code yX5_init cX5_init 2 (none : Option Jvm.ClassFile.FieldType) ∈ lw_good := lw_goodOk (k := 73) (by decide +kernel) (by decide +kernel)
theorem mm_X5_3 : Cond.methodLink RX5 3 ⟨"java/lang/Object", "<init>", "()V"⟩ ∈ lw_good := lw_goodOk (k := 74) (by decide +kernel) (by decide +kernel)
theorem ml_X5_9 : Cond.classLink RX5 9 RX1 ∈ lw_good := lw_goodOk (k := 75) (by decide +kernel) (by decide +kernel)
theorem mm_X5_27 : Cond.methodLink RX5 27 ⟨"[I", "clone", "()Ljava/lang/Object;"⟩ ∈ lw_good := lw_goodOk (k := 79) (by decide +kernel) (by decide +kernel)
theorem mi_Object_clone : Cond.instanceMethod ⟨"java/lang/Object", "clone", "()Ljava/lang/Object;"⟩ ∈ lw_good := lw_goodOk (k := 82) (by decide +kernel) (by decide +kernel)
theorem ml_X5_28 : Cond.classLink RX5 28 "[I" ∈ lw_good := lw_goodOk (k := 85) (by decide +kernel) (by decide +kernel)
theorem mn_X1 : Cond.instantiable RX1 6 ∈ lw_good := lw_goodOk (k := 86) (by decide +kernel) (by decide +kernel)
theorem mi_X1_init : Cond.instanceMethod yX1_init ∈ lw_good := lw_goodOk (k := 88) (by decide +kernel) (by decide +kernel)
theorem mc_X1_init : Cond.code yX1_init cX1_init 1 (none : Option Jvm.ClassFile.FieldType) ∈ lw_good := lw_goodOk (k := 89) (by decide +kernel) (by decide +kernel)
theorem mm_X1_3 : Cond.methodLink RX1 3 ⟨"java/lang/Object", "<init>", "()V"⟩ ∈ lw_good := lw_goodOk (k := 90) (by decide +kernel) (by decide +kernel)
theorem mf_X1_18 : Cond.fieldLink RX1 18 "TeaBlends$Leaf" "price" "I" ∈ lw_good := lw_goodOk (k := 91) (by decide +kernel) (by decide +kernel)
theorem mf_X5_124 : Cond.fieldLink RX5 124 "TeaBlends$Leaf" "price" "I" ∈ lw_good := lw_goodOk (k := 92) (by decide +kernel) (by decide +kernel)
theorem mf_X1_22 : Cond.fieldLink RX1 22 "TeaBlends$Leaf" "stock" "I" ∈ lw_good := lw_goodOk (k := 93) (by decide +kernel) (by decide +kernel)
theorem mf_X5_99 : Cond.fieldLink RX5 99 "TeaBlends$Leaf" "stock" "I" ∈ lw_good := lw_goodOk (k := 94) (by decide +kernel) (by decide +kernel)
theorem mf_X6_116 : Cond.fieldLink RX6 116 "TeaBlends$Leaf" "stock" "I" ∈ lw_good := lw_goodOk (k := 95) (by decide +kernel) (by decide +kernel)
theorem mf_X1_25 : Cond.fieldLink RX1 25 "TeaBlends$Leaf" "age" "I" ∈ lw_good := lw_goodOk (k := 96) (by decide +kernel) (by decide +kernel)
theorem mf_X5_102 : Cond.fieldLink RX5 102 "TeaBlends$Leaf" "age" "I" ∈ lw_good := lw_goodOk (k := 97) (by decide +kernel) (by decide +kernel)
theorem mf_X6_121 : Cond.fieldLink RX6 121 "TeaBlends$Leaf" "age" "I" ∈ lw_good := lw_goodOk (k := 98) (by decide +kernel) (by decide +kernel)
theorem mf_X1_28 : Cond.fieldLink RX1 28 "TeaBlends$Leaf" "share" "I" ∈ lw_good := lw_goodOk (k := 99) (by decide +kernel) (by decide +kernel)
theorem mf_X5_109 : Cond.fieldLink RX5 109 "TeaBlends$Leaf" "share" "I" ∈ lw_good := lw_goodOk (k := 100) (by decide +kernel) (by decide +kernel)
theorem mf_X6_124 : Cond.fieldLink RX6 124 "TeaBlends$Leaf" "share" "I" ∈ lw_good := lw_goodOk (k := 101) (by decide +kernel) (by decide +kernel)
theorem mf_X1_9 : Cond.fieldLink RX1 9 "TeaBlends$Leaf" "changes" "[I" ∈ lw_good := lw_goodOk (k := 102) (by decide +kernel) (by decide +kernel)
theorem mf_X5_90 : Cond.fieldLink RX5 90 "TeaBlends$Leaf" "changes" "[I" ∈ lw_good := lw_goodOk (k := 103) (by decide +kernel) (by decide +kernel)
theorem mf_X1_15 : Cond.fieldLink RX1 15 "TeaBlends$Leaf" "fresh" "[I" ∈ lw_good := lw_goodOk (k := 104) (by decide +kernel) (by decide +kernel)
theorem mf_X5_79 : Cond.fieldLink RX5 79 "TeaBlends$Leaf" "fresh" "[I" ∈ lw_good := lw_goodOk (k := 105) (by decide +kernel) (by decide +kernel)
theorem mac_int : Cond.arrayClass .int ∈ lw_good := lw_goodOk (k := 119) (by decide +kernel) (by decide +kernel)
theorem mm_X5_36 : Cond.methodLink RX5 36 yJ7_fill_53178 ∈ lw_good := lw_goodOk (k := 120) (by decide +kernel) (by decide +kernel)
theorem mst_J7_fill_53178 : Cond.static yJ7_fill_53178 ∈ lw_good := lw_goodOk (k := 121) (by decide +kernel) (by decide +kernel)
theorem mc_J7_fill_53178 : Cond.code yJ7_fill_53178 cJ7_fill_53178 4 (none : Option Jvm.ClassFile.FieldType) ∈ lw_good := lw_goodOk (k := 122) (by decide +kernel) (by decide +kernel)
theorem mf_X5_11 : Cond.fieldLink RX5 11 "TeaBlends$Shop" "leaves" "[LTeaBlends$Leaf;" ∈ lw_good := lw_goodOk (k := 123) (by decide +kernel) (by decide +kernel)
theorem mf_X6_112 : Cond.fieldLink RX6 112 "TeaBlends$Shop" "leaves" "[LTeaBlends$Leaf;" ∈ lw_good := lw_goodOk (k := 124) (by decide +kernel) (by decide +kernel)
theorem mf_X5_17 : Cond.fieldLink RX5 17 "TeaBlends$Shop" "low" "[I" ∈ lw_good := lw_goodOk (k := 125) (by decide +kernel) (by decide +kernel)
theorem mf_X4_84 : Cond.fieldLink RX4 84 "TeaBlends$Shop" "low" "[I" ∈ lw_good := lw_goodOk (k := 126) (by decide +kernel) (by decide +kernel)
theorem mf_X6_143 : Cond.fieldLink RX6 143 "TeaBlends$Shop" "low" "[I" ∈ lw_good := lw_goodOk (k := 127) (by decide +kernel) (by decide +kernel)
theorem mf_X5_21 : Cond.fieldLink RX5 21 "TeaBlends$Shop" "high" "[I" ∈ lw_good := lw_goodOk (k := 128) (by decide +kernel) (by decide +kernel)
theorem mf_X4_87 : Cond.fieldLink RX4 87 "TeaBlends$Shop" "high" "[I" ∈ lw_good := lw_goodOk (k := 129) (by decide +kernel) (by decide +kernel)
theorem mf_X6_146 : Cond.fieldLink RX6 146 "TeaBlends$Shop" "high" "[I" ∈ lw_good := lw_goodOk (k := 130) (by decide +kernel) (by decide +kernel)
theorem mf_X5_32 : Cond.fieldLink RX5 32 "TeaBlends$Shop" "settings" "[I" ∈ lw_good := lw_goodOk (k := 131) (by decide +kernel) (by decide +kernel)
theorem mf_X6_161 : Cond.fieldLink RX6 161 "TeaBlends$Shop" "settings" "[I" ∈ lw_good := lw_goodOk (k := 132) (by decide +kernel) (by decide +kernel)
theorem mf_X4_38 : Cond.fieldLink RX4 38 "TeaBlends$Shop" "leafCount" "I" ∈ lw_good := lw_goodOk (k := 133) (by decide +kernel) (by decide +kernel)
theorem mf_X5_52 : Cond.fieldLink RX5 52 "TeaBlends$Shop" "leafCount" "I" ∈ lw_good := lw_goodOk (k := 134) (by decide +kernel) (by decide +kernel)
theorem mf_X6_152 : Cond.fieldLink RX6 152 "TeaBlends$Shop" "leafCount" "I" ∈ lw_good := lw_goodOk (k := 135) (by decide +kernel) (by decide +kernel)
theorem mf_X5_56 : Cond.fieldLink RX5 56 "TeaBlends$Shop" "day" "I" ∈ lw_good := lw_goodOk (k := 136) (by decide +kernel) (by decide +kernel)
theorem mf_X6_149 : Cond.fieldLink RX6 149 "TeaBlends$Shop" "day" "I" ∈ lw_good := lw_goodOk (k := 137) (by decide +kernel) (by decide +kernel)
theorem mf_X5_59 : Cond.fieldLink RX5 59 "TeaBlends$Shop" "mixedGrams" "I" ∈ lw_good := lw_goodOk (k := 138) (by decide +kernel) (by decide +kernel)
theorem mf_X6_155 : Cond.fieldLink RX6 155 "TeaBlends$Shop" "mixedGrams" "I" ∈ lw_good := lw_goodOk (k := 139) (by decide +kernel) (by decide +kernel)
theorem mf_X5_62 : Cond.fieldLink RX5 62 "TeaBlends$Shop" "coins" "I" ∈ lw_good := lw_goodOk (k := 140) (by decide +kernel) (by decide +kernel)
theorem mf_X6_158 : Cond.fieldLink RX6 158 "TeaBlends$Shop" "coins" "I" ∈ lw_good := lw_goodOk (k := 141) (by decide +kernel) (by decide +kernel)
theorem ml_X6_16 : Cond.classLink RX6 16 RX0 ∈ lw_good := lw_goodOk (k := 159) (by decide +kernel) (by decide +kernel)
theorem mn_X0 : Cond.instantiable RX0 3 ∈ lw_good := lw_goodOk (k := 160) (by decide +kernel) (by decide +kernel)
theorem mm_X6_18 : Cond.methodLink RX6 18 yX0_init ∈ lw_good := lw_goodOk (k := 161) (by decide +kernel) (by decide +kernel)
theorem mi_X0_init : Cond.instanceMethod yX0_init ∈ lw_good := lw_goodOk (k := 162) (by decide +kernel) (by decide +kernel)
theorem mc_X0_init : Cond.code yX0_init cX0_init 2 (none : Option Jvm.ClassFile.FieldType) ∈ lw_good := lw_goodOk (k := 163) (by decide +kernel) (by decide +kernel)
theorem mm_X0_3 : Cond.methodLink RX0 3 ⟨"java/lang/Object", "<init>", "()V"⟩ ∈ lw_good := lw_goodOk (k := 164) (by decide +kernel) (by decide +kernel)
theorem ml_X0_11 : Cond.classLink RX0 11 RX5 ∈ lw_good := lw_goodOk (k := 165) (by decide +kernel) (by decide +kernel)
theorem mm_X0_17 : Cond.methodLink RX0 17 yX5_init ∈ lw_good := lw_goodOk (k := 167) (by decide +kernel) (by decide +kernel)
theorem mf_X0_13 : Cond.fieldLink RX0 13 "TeaBlends$History" "states" "[LTeaBlends$Shop;" ∈ lw_good := lw_goodOk (k := 168) (by decide +kernel) (by decide +kernel)
theorem mf_X0_18 : Cond.fieldLink RX0 18 "TeaBlends$History" "next" "I" ∈ lw_good := lw_goodOk (k := 169) (by decide +kernel) (by decide +kernel)
theorem mf_X0_26 : Cond.fieldLink RX0 26 "TeaBlends$History" "kept" "I" ∈ lw_good := lw_goodOk (k := 170) (by decide +kernel) (by decide +kernel)
theorem mf_X6_167 : Cond.fieldLink RX6 167 "TeaBlends$History" "kept" "I" ∈ lw_good := lw_goodOk (k := 171) (by decide +kernel) (by decide +kernel)
theorem ml_X6_27 : Cond.classLink RX6 27 RX3 ∈ lw_good := lw_goodOk (k := 179) (by decide +kernel) (by decide +kernel)
theorem mn_X3 : Cond.instantiable RX3 2 ∈ lw_good := lw_goodOk (k := 180) (by decide +kernel) (by decide +kernel)
theorem mi_X3_init : Cond.instanceMethod yX3_init ∈ lw_good := lw_goodOk (k := 182) (by decide +kernel) (by decide +kernel)
theorem mc_X3_init : Cond.code yX3_init cX3_init 1 (none : Option Jvm.ClassFile.FieldType) ∈ lw_good := lw_goodOk (k := 183) (by decide +kernel) (by decide +kernel)
theorem mm_X3_3 : Cond.methodLink RX3 3 ⟨"java/lang/Object", "<init>", "()V"⟩ ∈ lw_good := lw_goodOk (k := 184) (by decide +kernel) (by decide +kernel)
theorem mf_X3_9 : Cond.fieldLink RX3 9 "TeaBlends$Pad" "text" "[C" ∈ lw_good := lw_goodOk (k := 185) (by decide +kernel) (by decide +kernel)
theorem mf_X2_82 : Cond.fieldLink RX2 82 "TeaBlends$Pad" "text" "[C" ∈ lw_good := lw_goodOk (k := 186) (by decide +kernel) (by decide +kernel)
theorem mf_X3_19 : Cond.fieldLink RX3 19 "TeaBlends$Pad" "length" "I" ∈ lw_good := lw_goodOk (k := 187) (by decide +kernel) (by decide +kernel)
theorem mf_X2_30 : Cond.fieldLink RX2 30 "TeaBlends$Pad" "length" "I" ∈ lw_good := lw_goodOk (k := 188) (by decide +kernel) (by decide +kernel)
theorem mf_X6_164 : Cond.fieldLink RX6 164 "TeaBlends$Pad" "length" "I" ∈ lw_good := lw_goodOk (k := 189) (by decide +kernel) (by decide +kernel)
theorem mac_char : Cond.arrayClass .char ∈ lw_good := lw_goodOk (k := 195) (by decide +kernel) (by decide +kernel)
theorem ml_X6_34 : Cond.classLink RX6 34 RX2 ∈ lw_good := lw_goodOk (k := 196) (by decide +kernel) (by decide +kernel)
theorem mn_X2 : Cond.instantiable RX2 5 ∈ lw_good := lw_goodOk (k := 197) (by decide +kernel) (by decide +kernel)
theorem mm_X6_36 : Cond.methodLink RX6 36 yX2_init ∈ lw_good := lw_goodOk (k := 198) (by decide +kernel) (by decide +kernel)
theorem mi_X2_init : Cond.instanceMethod yX2_init ∈ lw_good := lw_goodOk (k := 199) (by decide +kernel) (by decide +kernel)
theorem mc_X2_init : Cond.code yX2_init cX2_init 2 (none : Option Jvm.ClassFile.FieldType) ∈ lw_good := lw_goodOk (k := 200) (by decide +kernel) (by decide +kernel)
theorem mm_X2_3 : Cond.methodLink RX2 3 ⟨"java/lang/Object", "<init>", "()V"⟩ ∈ lw_good := lw_goodOk (k := 201) (by decide +kernel) (by decide +kernel)
theorem mf_X2_15 : Cond.fieldLink RX2 15 "TeaBlends$OrderReader" "pad" "LTeaBlends$Pad;" ∈ lw_good := lw_goodOk (k := 202) (by decide +kernel) (by decide +kernel)
theorem mf_X2_19 : Cond.fieldLink RX2 19 "TeaBlends$OrderReader" "at" "I" ∈ lw_good := lw_goodOk (k := 203) (by decide +kernel) (by decide +kernel)
theorem mf_X2_55 : Cond.fieldLink RX2 55 "TeaBlends$OrderReader" "numberCount" "I" ∈ lw_good := lw_goodOk (k := 204) (by decide +kernel) (by decide +kernel)
theorem mf_X2_43 : Cond.fieldLink RX2 43 "TeaBlends$OrderReader" "kind" "I" ∈ lw_good := lw_goodOk (k := 205) (by decide +kernel) (by decide +kernel)
theorem mf_X6_215 : Cond.fieldLink RX6 215 "TeaBlends$OrderReader" "kind" "I" ∈ lw_good := lw_goodOk (k := 206) (by decide +kernel) (by decide +kernel)
theorem mf_X2_9 : Cond.fieldLink RX2 9 "TeaBlends$OrderReader" "numbers" "[I" ∈ lw_good := lw_goodOk (k := 207) (by decide +kernel) (by decide +kernel)
theorem mf_X6_212 : Cond.fieldLink RX6 212 "TeaBlends$OrderReader" "numbers" "[I" ∈ lw_good := lw_goodOk (k := 208) (by decide +kernel) (by decide +kernel)
theorem ml_X6_43 : Cond.classLink RX6 43 RX4 ∈ lw_good := lw_goodOk (k := 220) (by decide +kernel) (by decide +kernel)
theorem mn_X4 : Cond.instantiable RX4 10 ∈ lw_good := lw_goodOk (k := 221) (by decide +kernel) (by decide +kernel)
theorem mi_X4_init : Cond.instanceMethod yX4_init ∈ lw_good := lw_goodOk (k := 223) (by decide +kernel) (by decide +kernel)
theorem mc_X4_init : Cond.code yX4_init cX4_init 1 (none : Option Jvm.ClassFile.FieldType) ∈ lw_good := lw_goodOk (k := 224) (by decide +kernel) (by decide +kernel)
theorem mm_X4_3 : Cond.methodLink RX4 3 ⟨"java/lang/Object", "<init>", "()V"⟩ ∈ lw_good := lw_goodOk (k := 225) (by decide +kernel) (by decide +kernel)
theorem ml_X4_24 : Cond.classLink RX4 24 "[[I" ∈ lw_good := lw_goodOk (k := 226) (by decide +kernel) (by decide +kernel)
theorem mf_X4_9 : Cond.fieldLink RX4 9 "TeaBlends$Search" "best" "[I" ∈ lw_good := lw_goodOk (k := 228) (by decide +kernel) (by decide +kernel)
theorem mf_X6_84 : Cond.fieldLink RX6 84 "TeaBlends$Search" "best" "[I" ∈ lw_good := lw_goodOk (k := 229) (by decide +kernel) (by decide +kernel)
theorem mf_X4_54 : Cond.fieldLink RX4 54 "TeaBlends$Search" "bestSum" "I" ∈ lw_good := lw_goodOk (k := 230) (by decide +kernel) (by decide +kernel)
theorem mf_X6_92 : Cond.fieldLink RX6 92 "TeaBlends$Search" "bestSum" "I" ∈ lw_good := lw_goodOk (k := 231) (by decide +kernel) (by decide +kernel)
theorem mf_X4_44 : Cond.fieldLink RX4 44 "TeaBlends$Search" "leafCount" "I" ∈ lw_good := lw_goodOk (k := 232) (by decide +kernel) (by decide +kernel)
theorem mf_X4_15 : Cond.fieldLink RX4 15 "TeaBlends$Search" "tried" "[I" ∈ lw_good := lw_goodOk (k := 233) (by decide +kernel) (by decide +kernel)
theorem mf_X4_18 : Cond.fieldLink RX4 18 "TeaBlends$Search" "lowSums" "[I" ∈ lw_good := lw_goodOk (k := 234) (by decide +kernel) (by decide +kernel)
theorem mf_X4_21 : Cond.fieldLink RX4 21 "TeaBlends$Search" "highSums" "[I" ∈ lw_good := lw_goodOk (k := 235) (by decide +kernel) (by decide +kernel)
theorem mf_X4_26 : Cond.fieldLink RX4 26 "TeaBlends$Search" "values" "[[I" ∈ lw_good := lw_goodOk (k := 236) (by decide +kernel) (by decide +kernel)
theorem mf_X4_29 : Cond.fieldLink RX4 29 "TeaBlends$Search" "leastFrom" "[[I" ∈ lw_good := lw_goodOk (k := 237) (by decide +kernel) (by decide +kernel)
theorem mf_X4_32 : Cond.fieldLink RX4 32 "TeaBlends$Search" "mostFrom" "[[I" ∈ lw_good := lw_goodOk (k := 238) (by decide +kernel) (by decide +kernel)
theorem mf_X4_35 : Cond.fieldLink RX4 35 "TeaBlends$Search" "sumsAhead" "[[I" ∈ lw_good := lw_goodOk (k := 239) (by decide +kernel) (by decide +kernel)
theorem mf_X6_10 : Cond.fieldLink RX6 10 "TeaBlends" "shop" "LTeaBlends$Shop;" ∈ lw_good := lw_goodOk (k := 261) (by decide +kernel) (by decide +kernel)
theorem mf_X6_19 : Cond.fieldLink RX6 19 "TeaBlends" "history" "LTeaBlends$History;" ∈ lw_good := lw_goodOk (k := 262) (by decide +kernel) (by decide +kernel)
theorem mf_X6_23 : Cond.fieldLink RX6 23 "TeaBlends" "slots" "[LTeaBlends$Shop;" ∈ lw_good := lw_goodOk (k := 263) (by decide +kernel) (by decide +kernel)
theorem mf_X6_30 : Cond.fieldLink RX6 30 "TeaBlends" "pad" "LTeaBlends$Pad;" ∈ lw_good := lw_goodOk (k := 264) (by decide +kernel) (by decide +kernel)
theorem mf_X6_39 : Cond.fieldLink RX6 39 "TeaBlends" "orders" "LTeaBlends$OrderReader;" ∈ lw_good := lw_goodOk (k := 265) (by decide +kernel) (by decide +kernel)
theorem mf_X6_46 : Cond.fieldLink RX6 46 "TeaBlends" "search" "LTeaBlends$Search;" ∈ lw_good := lw_goodOk (k := 266) (by decide +kernel) (by decide +kernel)
theorem mm_L_13 : Cond.methodLink RL 13 yX6_set ∈ lw_good := lw_goodOk (k := 280) (by decide +kernel) (by decide +kernel)
theorem mi_X6_set : Cond.instanceMethod yX6_set ∈ lw_good := lw_goodOk (k := 281) (by decide +kernel) (by decide +kernel)
theorem ms_X6_set : Cond.selects RX6 yX6_set yX6_set ∈ lw_good := lw_goodOk (k := 282) (by decide +kernel) (by decide +kernel)
theorem mc_X6_set : Cond.code yX6_set cX6_set 3 (some .int) ∈ lw_good := lw_goodOk (k := 283) (by decide +kernel) (by decide +kernel)
theorem mm_X6_50 : Cond.methodLink RX6 50 yX0_draft ∈ lw_good := lw_goodOk (k := 284) (by decide +kernel) (by decide +kernel)
theorem mi_X0_draft : Cond.instanceMethod yX0_draft ∈ lw_good := lw_goodOk (k := 285) (by decide +kernel) (by decide +kernel)
theorem ms_X0_draft : Cond.selects RX0 yX0_draft yX0_draft ∈ lw_good := lw_goodOk (k := 286) (by decide +kernel) (by decide +kernel)
theorem mc_X0_draft : Cond.code yX0_draft cX0_draft 2 (none : Option Jvm.ClassFile.FieldType) ∈ lw_good := lw_goodOk (k := 287) (by decide +kernel) (by decide +kernel)
theorem mm_X0_22 : Cond.methodLink RX0 22 yX5_copyFrom ∈ lw_good := lw_goodOk (k := 288) (by decide +kernel) (by decide +kernel)
theorem mi_X5_copyFrom : Cond.instanceMethod yX5_copyFrom ∈ lw_good := lw_goodOk (k := 289) (by decide +kernel) (by decide +kernel)
theorem ms_X5_copyFrom : Cond.selects RX5 yX5_copyFrom yX5_copyFrom ∈ lw_good := lw_goodOk (k := 290) (by decide +kernel) (by decide +kernel)
theorem mc_X5_copyFrom : Cond.code yX5_copyFrom cX5_copyFrom 3 (none : Option Jvm.ClassFile.FieldType) ∈ lw_good := lw_goodOk (k := 291) (by decide +kernel) (by decide +kernel)
theorem mm_X5_42 : Cond.methodLink RX5 42 yX1_copyFrom ∈ lw_good := lw_goodOk (k := 292) (by decide +kernel) (by decide +kernel)
theorem mi_X1_copyFrom : Cond.instanceMethod yX1_copyFrom ∈ lw_good := lw_goodOk (k := 293) (by decide +kernel) (by decide +kernel)
theorem ms_X1_copyFrom : Cond.selects RX1 yX1_copyFrom yX1_copyFrom ∈ lw_good := lw_goodOk (k := 294) (by decide +kernel) (by decide +kernel)
theorem mc_X1_copyFrom : Cond.code yX1_copyFrom cX1_copyFrom 2 (none : Option Jvm.ClassFile.FieldType) ∈ lw_good := lw_goodOk (k := 295) (by decide +kernel) (by decide +kernel)
theorem mm_X1_31 : Cond.methodLink RX1 31 ⟨"java/lang/System", "arraycopy", "(Ljava/lang/Object;ILjava/lang/Object;II)V"⟩ ∈ lw_good := lw_goodOk (k := 296) (by decide +kernel) (by decide +kernel)
theorem mst_System_arraycopy : Cond.static ⟨"java/lang/System", "arraycopy", "(Ljava/lang/Object;ILjava/lang/Object;II)V"⟩ ∈ lw_good := lw_goodOk (k := 297) (by decide +kernel) (by decide +kernel)
theorem mm_X5_46 : Cond.methodLink RX5 46 ⟨"java/lang/System", "arraycopy", "(Ljava/lang/Object;ILjava/lang/Object;II)V"⟩ ∈ lw_good := lw_goodOk (k := 299) (by decide +kernel) (by decide +kernel)
theorem mm_X6_54 : Cond.methodLink RX6 54 yX5_changeSetting ∈ lw_good := lw_goodOk (k := 300) (by decide +kernel) (by decide +kernel)
theorem mi_X5_changeSetting : Cond.instanceMethod yX5_changeSetting ∈ lw_good := lw_goodOk (k := 301) (by decide +kernel) (by decide +kernel)
theorem ms_X5_changeSetting : Cond.selects RX5 yX5_changeSetting yX5_changeSetting ∈ lw_good := lw_goodOk (k := 302) (by decide +kernel) (by decide +kernel)
theorem mc_X5_changeSetting : Cond.code yX5_changeSetting cX5_changeSetting 4 (some .int) ∈ lw_good := lw_goodOk (k := 303) (by decide +kernel) (by decide +kernel)
theorem mm_X5_71 : Cond.methodLink RX5 71 yX5_isWithin ∈ lw_good := lw_goodOk (k := 308) (by decide +kernel) (by decide +kernel)
theorem mst_X5_isWithin : Cond.static yX5_isWithin ∈ lw_good := lw_goodOk (k := 309) (by decide +kernel) (by decide +kernel)
theorem mc_X5_isWithin : Cond.code yX5_isWithin cX5_isWithin 3 (some .boolean) ∈ lw_good := lw_goodOk (k := 310) (by decide +kernel) (by decide +kernel)
theorem mm_X6_58 : Cond.methodLink RX6 58 yX0_settle ∈ lw_good := lw_goodOk (k := 311) (by decide +kernel) (by decide +kernel)
theorem mi_X0_settle : Cond.instanceMethod yX0_settle ∈ lw_good := lw_goodOk (k := 312) (by decide +kernel) (by decide +kernel)
theorem ms_X0_settle : Cond.selects RX0 yX0_settle yX0_settle ∈ lw_good := lw_goodOk (k := 313) (by decide +kernel) (by decide +kernel)
theorem mc_X0_settle : Cond.code yX0_settle cX0_settle 2 (some .int) ∈ lw_good := lw_goodOk (k := 314) (by decide +kernel) (by decide +kernel)
theorem mm_X0_29 : Cond.methodLink RX0 29 yJ9_min_7cf53 ∈ lw_good := lw_goodOk (k := 315) (by decide +kernel) (by decide +kernel)
theorem mst_J9_min_7cf53 : Cond.static yJ9_min_7cf53 ∈ lw_good := lw_goodOk (k := 316) (by decide +kernel) (by decide +kernel)
theorem mc_J9_min_7cf53 : Cond.code yJ9_min_7cf53 cJ9_min_7cf53 2 (some .int) ∈ lw_good := lw_goodOk (k := 317) (by decide +kernel) (by decide +kernel)
theorem mm_L_18 : Cond.methodLink RL 18 yX6_leaf ∈ lw_good := lw_goodOk (k := 318) (by decide +kernel) (by decide +kernel)
theorem mi_X6_leaf : Cond.instanceMethod yX6_leaf ∈ lw_good := lw_goodOk (k := 319) (by decide +kernel) (by decide +kernel)
theorem ms_X6_leaf : Cond.selects RX6 yX6_leaf yX6_leaf ∈ lw_good := lw_goodOk (k := 320) (by decide +kernel) (by decide +kernel)
theorem mc_X6_leaf : Cond.code yX6_leaf cX6_leaf 4 (some .int) ∈ lw_good := lw_goodOk (k := 321) (by decide +kernel) (by decide +kernel)
theorem mm_X6_62 : Cond.methodLink RX6 62 yX5_addLeaf ∈ lw_good := lw_goodOk (k := 322) (by decide +kernel) (by decide +kernel)
theorem mi_X5_addLeaf : Cond.instanceMethod yX5_addLeaf ∈ lw_good := lw_goodOk (k := 323) (by decide +kernel) (by decide +kernel)
theorem ms_X5_addLeaf : Cond.selects RX5 yX5_addLeaf yX5_addLeaf ∈ lw_good := lw_goodOk (k := 324) (by decide +kernel) (by decide +kernel)
theorem mc_X5_addLeaf : Cond.code yX5_addLeaf cX5_addLeaf 8 (some .int) ∈ lw_good := lw_goodOk (k := 325) (by decide +kernel) (by decide +kernel)
theorem mm_X5_75 : Cond.methodLink RX5 75 yX1_comeFresh ∈ lw_good := lw_goodOk (k := 326) (by decide +kernel) (by decide +kernel)
theorem mi_X1_comeFresh : Cond.instanceMethod yX1_comeFresh ∈ lw_good := lw_goodOk (k := 327) (by decide +kernel) (by decide +kernel)
theorem ms_X1_comeFresh : Cond.selects RX1 yX1_comeFresh yX1_comeFresh ∈ lw_good := lw_goodOk (k := 328) (by decide +kernel) (by decide +kernel)
theorem mc_X1_comeFresh : Cond.code yX1_comeFresh cX1_comeFresh 3 (none : Option Jvm.ClassFile.FieldType) ∈ lw_good := lw_goodOk (k := 329) (by decide +kernel) (by decide +kernel)
theorem mm_X1_37 : Cond.methodLink RX1 37 yJ7_fill_53178 ∈ lw_good := lw_goodOk (k := 330) (by decide +kernel) (by decide +kernel)
theorem mm_L_25 : Cond.methodLink RL 25 yX6_row ∈ lw_good := lw_goodOk (k := 331) (by decide +kernel) (by decide +kernel)
theorem mi_X6_row : Cond.instanceMethod yX6_row ∈ lw_good := lw_goodOk (k := 332) (by decide +kernel) (by decide +kernel)
theorem ms_X6_row : Cond.selects RX6 yX6_row yX6_row ∈ lw_good := lw_goodOk (k := 333) (by decide +kernel) (by decide +kernel)
theorem mc_X6_row : Cond.code yX6_row cX6_row 4 (some .int) ∈ lw_good := lw_goodOk (k := 334) (by decide +kernel) (by decide +kernel)
theorem mm_X6_66 : Cond.methodLink RX6 66 yX5_changeRow ∈ lw_good := lw_goodOk (k := 335) (by decide +kernel) (by decide +kernel)
theorem mi_X5_changeRow : Cond.instanceMethod yX5_changeRow ∈ lw_good := lw_goodOk (k := 336) (by decide +kernel) (by decide +kernel)
theorem ms_X5_changeRow : Cond.selects RX5 yX5_changeRow yX5_changeRow ∈ lw_good := lw_goodOk (k := 337) (by decide +kernel) (by decide +kernel)
theorem mc_X5_changeRow : Cond.code yX5_changeRow cX5_changeRow 6 (some .int) ∈ lw_good := lw_goodOk (k := 338) (by decide +kernel) (by decide +kernel)
theorem mm_X5_82 : Cond.methodLink RX5 82 yX5_hasLeaf ∈ lw_good := lw_goodOk (k := 339) (by decide +kernel) (by decide +kernel)
theorem mi_X5_hasLeaf : Cond.instanceMethod yX5_hasLeaf ∈ lw_good := lw_goodOk (k := 340) (by decide +kernel) (by decide +kernel)
theorem ms_X5_hasLeaf : Cond.selects RX5 yX5_hasLeaf yX5_hasLeaf ∈ lw_good := lw_goodOk (k := 341) (by decide +kernel) (by decide +kernel)
theorem mc_X5_hasLeaf : Cond.code yX5_hasLeaf cX5_hasLeaf 2 (some .boolean) ∈ lw_good := lw_goodOk (k := 342) (by decide +kernel) (by decide +kernel)
theorem mm_X5_86 : Cond.methodLink RX5 86 yX5_changeIn ∈ lw_good := lw_goodOk (k := 343) (by decide +kernel) (by decide +kernel)
theorem mst_X5_changeIn : Cond.static yX5_changeIn ∈ lw_good := lw_goodOk (k := 344) (by decide +kernel) (by decide +kernel)
theorem mc_X5_changeIn : Cond.code yX5_changeIn cX5_changeIn 3 (some .int) ∈ lw_good := lw_goodOk (k := 345) (by decide +kernel) (by decide +kernel)
theorem mk_X5_97 : Cond.constantLong RX5 97 (31 : Int64) ∈ lw_good := lw_goodOk (k := 346) (by decide +kernel) (by decide +kernel)
theorem mm_X5_93 : Cond.methodLink RX5 93 yX5_priceOf ∈ lw_good := lw_goodOk (k := 347) (by decide +kernel) (by decide +kernel)
theorem mi_X5_priceOf : Cond.instanceMethod yX5_priceOf ∈ lw_good := lw_goodOk (k := 348) (by decide +kernel) (by decide +kernel)
theorem ms_X5_priceOf : Cond.selects RX5 yX5_priceOf yX5_priceOf ∈ lw_good := lw_goodOk (k := 349) (by decide +kernel) (by decide +kernel)
theorem mc_X5_priceOf : Cond.code yX5_priceOf cX5_priceOf 4 (some .int) ∈ lw_good := lw_goodOk (k := 350) (by decide +kernel) (by decide +kernel)
theorem mm_X5_127 : Cond.methodLink RX5 127 yJ9_max_7cf53 ∈ lw_good := lw_goodOk (k := 351) (by decide +kernel) (by decide +kernel)
theorem mst_J9_max_7cf53 : Cond.static yJ9_max_7cf53 ∈ lw_good := lw_goodOk (k := 352) (by decide +kernel) (by decide +kernel)
theorem mc_J9_max_7cf53 : Cond.code yJ9_max_7cf53 cJ9_max_7cf53 2 (some .int) ∈ lw_good := lw_goodOk (k := 353) (by decide +kernel) (by decide +kernel)
theorem mm_L_30 : Cond.methodLink RL 30 yX6_buy ∈ lw_good := lw_goodOk (k := 354) (by decide +kernel) (by decide +kernel)
theorem mi_X6_buy : Cond.instanceMethod yX6_buy ∈ lw_good := lw_goodOk (k := 355) (by decide +kernel) (by decide +kernel)
theorem ms_X6_buy : Cond.selects RX6 yX6_buy yX6_buy ∈ lw_good := lw_goodOk (k := 356) (by decide +kernel) (by decide +kernel)
theorem mc_X6_buy : Cond.code yX6_buy cX6_buy 3 (some .int) ∈ lw_good := lw_goodOk (k := 357) (by decide +kernel) (by decide +kernel)
theorem mm_X6_70 : Cond.methodLink RX6 70 yX5_addGrams ∈ lw_good := lw_goodOk (k := 358) (by decide +kernel) (by decide +kernel)
theorem mi_X5_addGrams : Cond.instanceMethod yX5_addGrams ∈ lw_good := lw_goodOk (k := 359) (by decide +kernel) (by decide +kernel)
theorem ms_X5_addGrams : Cond.selects RX5 yX5_addGrams yX5_addGrams ∈ lw_good := lw_goodOk (k := 360) (by decide +kernel) (by decide +kernel)
theorem mc_X5_addGrams : Cond.code yX5_addGrams cX5_addGrams 5 (some .int) ∈ lw_good := lw_goodOk (k := 361) (by decide +kernel) (by decide +kernel)
theorem mm_L_34 : Cond.methodLink RL 34 yX6_bound ∈ lw_good := lw_goodOk (k := 362) (by decide +kernel) (by decide +kernel)
theorem mi_X6_bound : Cond.instanceMethod yX6_bound ∈ lw_good := lw_goodOk (k := 363) (by decide +kernel) (by decide +kernel)
theorem ms_X6_bound : Cond.selects RX6 yX6_bound yX6_bound ∈ lw_good := lw_goodOk (k := 364) (by decide +kernel) (by decide +kernel)
theorem mc_X6_bound : Cond.code yX6_bound cX6_bound 4 (some .int) ∈ lw_good := lw_goodOk (k := 365) (by decide +kernel) (by decide +kernel)
theorem mm_X6_73 : Cond.methodLink RX6 73 yX5_changeBounds ∈ lw_good := lw_goodOk (k := 366) (by decide +kernel) (by decide +kernel)
theorem mi_X5_changeBounds : Cond.instanceMethod yX5_changeBounds ∈ lw_good := lw_goodOk (k := 367) (by decide +kernel) (by decide +kernel)
theorem ms_X5_changeBounds : Cond.selects RX5 yX5_changeBounds yX5_changeBounds ∈ lw_good := lw_goodOk (k := 368) (by decide +kernel) (by decide +kernel)
theorem mc_X5_changeBounds : Cond.code yX5_changeBounds cX5_changeBounds 5 (some .int) ∈ lw_good := lw_goodOk (k := 369) (by decide +kernel) (by decide +kernel)
theorem mm_L_38 : Cond.methodLink RL 38 yX6_share ∈ lw_good := lw_goodOk (k := 370) (by decide +kernel) (by decide +kernel)
theorem mi_X6_share : Cond.instanceMethod yX6_share ∈ lw_good := lw_goodOk (k := 371) (by decide +kernel) (by decide +kernel)
theorem ms_X6_share : Cond.selects RX6 yX6_share yX6_share ∈ lw_good := lw_goodOk (k := 372) (by decide +kernel) (by decide +kernel)
theorem mc_X6_share : Cond.code yX6_share cX6_share 3 (some .int) ∈ lw_good := lw_goodOk (k := 373) (by decide +kernel) (by decide +kernel)
theorem mm_X6_77 : Cond.methodLink RX6 77 yX5_changeShare ∈ lw_good := lw_goodOk (k := 374) (by decide +kernel) (by decide +kernel)
theorem mi_X5_changeShare : Cond.instanceMethod yX5_changeShare ∈ lw_good := lw_goodOk (k := 375) (by decide +kernel) (by decide +kernel)
theorem ms_X5_changeShare : Cond.selects RX5 yX5_changeShare yX5_changeShare ∈ lw_good := lw_goodOk (k := 376) (by decide +kernel) (by decide +kernel)
theorem mc_X5_changeShare : Cond.code yX5_changeShare cX5_changeShare 4 (some .int) ∈ lw_good := lw_goodOk (k := 377) (by decide +kernel) (by decide +kernel)
theorem mm_X5_105 : Cond.methodLink RX5 105 yX5_allShares ∈ lw_good := lw_goodOk (k := 378) (by decide +kernel) (by decide +kernel)
theorem mi_X5_allShares : Cond.instanceMethod yX5_allShares ∈ lw_good := lw_goodOk (k := 379) (by decide +kernel) (by decide +kernel)
theorem ms_X5_allShares : Cond.selects RX5 yX5_allShares yX5_allShares ∈ lw_good := lw_goodOk (k := 380) (by decide +kernel) (by decide +kernel)
theorem mc_X5_allShares : Cond.code yX5_allShares cX5_allShares 3 (some .int) ∈ lw_good := lw_goodOk (k := 381) (by decide +kernel) (by decide +kernel)
theorem mm_L_42 : Cond.methodLink RL 42 yX6_choose ∈ lw_good := lw_goodOk (k := 382) (by decide +kernel) (by decide +kernel)
theorem mi_X6_choose : Cond.instanceMethod yX6_choose ∈ lw_good := lw_goodOk (k := 383) (by decide +kernel) (by decide +kernel)
theorem ms_X6_choose : Cond.selects RX6 yX6_choose yX6_choose ∈ lw_good := lw_goodOk (k := 384) (by decide +kernel) (by decide +kernel)
theorem mc_X6_choose : Cond.code yX6_choose cX6_choose 1 (some .int) ∈ lw_good := lw_goodOk (k := 385) (by decide +kernel) (by decide +kernel)
theorem mm_X6_80 : Cond.methodLink RX6 80 yX4_find ∈ lw_good := lw_goodOk (k := 386) (by decide +kernel) (by decide +kernel)
theorem mi_X4_find : Cond.instanceMethod yX4_find ∈ lw_good := lw_goodOk (k := 387) (by decide +kernel) (by decide +kernel)
theorem ms_X4_find : Cond.selects RX4 yX4_find yX4_find ∈ lw_good := lw_goodOk (k := 388) (by decide +kernel) (by decide +kernel)
theorem mc_X4_find : Cond.code yX4_find cX4_find 3 (some .boolean) ∈ lw_good := lw_goodOk (k := 389) (by decide +kernel) (by decide +kernel)
theorem mm_X4_45 : Cond.methodLink RX4 45 yX4_readValues ∈ lw_good := lw_goodOk (k := 390) (by decide +kernel) (by decide +kernel)
theorem mi_X4_readValues : Cond.instanceMethod yX4_readValues ∈ lw_good := lw_goodOk (k := 392) (by decide +kernel) (by decide +kernel)
theorem mc_X4_readValues : Cond.code yX4_readValues cX4_readValues 6 (none : Option Jvm.ClassFile.FieldType) ∈ lw_good := lw_goodOk (k := 393) (by decide +kernel) (by decide +kernel)
theorem mm_X4_67 : Cond.methodLink RX4 67 yX5_tasteOf ∈ lw_good := lw_goodOk (k := 394) (by decide +kernel) (by decide +kernel)
theorem mi_X5_tasteOf : Cond.instanceMethod yX5_tasteOf ∈ lw_good := lw_goodOk (k := 395) (by decide +kernel) (by decide +kernel)
theorem ms_X5_tasteOf : Cond.selects RX5 yX5_tasteOf yX5_tasteOf ∈ lw_good := lw_goodOk (k := 396) (by decide +kernel) (by decide +kernel)
theorem mc_X5_tasteOf : Cond.code yX5_tasteOf cX5_tasteOf 5 (some .int) ∈ lw_good := lw_goodOk (k := 397) (by decide +kernel) (by decide +kernel)
theorem mm_X4_71 : Cond.methodLink RX4 71 yX5_priceOf ∈ lw_good := lw_goodOk (k := 398) (by decide +kernel) (by decide +kernel)
theorem mm_X4_75 : Cond.methodLink RX4 75 yJ9_min_7cf53 ∈ lw_good := lw_goodOk (k := 399) (by decide +kernel) (by decide +kernel)
theorem mm_X4_81 : Cond.methodLink RX4 81 yJ9_max_7cf53 ∈ lw_good := lw_goodOk (k := 400) (by decide +kernel) (by decide +kernel)
theorem mm_X4_49 : Cond.methodLink RX4 49 yX4_readBounds ∈ lw_good := lw_goodOk (k := 401) (by decide +kernel) (by decide +kernel)
theorem mi_X4_readBounds : Cond.instanceMethod yX4_readBounds ∈ lw_good := lw_goodOk (k := 403) (by decide +kernel) (by decide +kernel)
theorem mc_X4_readBounds : Cond.code yX4_readBounds cX4_readBounds 6 (none : Option Jvm.ClassFile.FieldType) ∈ lw_good := lw_goodOk (k := 404) (by decide +kernel) (by decide +kernel)
theorem mk_X4_53 : Cond.constant RX4 53 (1000000 : Int32) ∈ lw_good := lw_goodOk (k := 405) (by decide +kernel) (by decide +kernel)
theorem mm_X4_57 : Cond.methodLink RX4 57 yJ7_fill_53178 ∈ lw_good := lw_goodOk (k := 406) (by decide +kernel) (by decide +kernel)
theorem mm_X4_63 : Cond.methodLink RX4 63 yX4_tryShares ∈ lw_good := lw_goodOk (k := 407) (by decide +kernel) (by decide +kernel)
theorem mst_X4_tryShares : Cond.static yX4_tryShares ∈ lw_good := lw_goodOk (k := 408) (by decide +kernel) (by decide +kernel)
theorem mc_X4_tryShares : Cond.code yX4_tryShares cX4_tryShares 4 (none : Option Jvm.ClassFile.FieldType) ∈ lw_good := lw_goodOk (k := 409) (by decide +kernel) (by decide +kernel)
theorem mm_X4_90 : Cond.methodLink RX4 90 yX4_mayImprove ∈ lw_good := lw_goodOk (k := 410) (by decide +kernel) (by decide +kernel)
theorem mi_X4_mayImprove : Cond.instanceMethod yX4_mayImprove ∈ lw_good := lw_goodOk (k := 412) (by decide +kernel) (by decide +kernel)
theorem mc_X4_mayImprove : Cond.code yX4_mayImprove cX4_mayImprove 5 (some .boolean) ∈ lw_good := lw_goodOk (k := 413) (by decide +kernel) (by decide +kernel)
theorem mm_X4_94 : Cond.methodLink RX4 94 yX4_keepBest ∈ lw_good := lw_goodOk (k := 414) (by decide +kernel) (by decide +kernel)
theorem mi_X4_keepBest : Cond.instanceMethod yX4_keepBest ∈ lw_good := lw_goodOk (k := 416) (by decide +kernel) (by decide +kernel)
theorem mc_X4_keepBest : Cond.code yX4_keepBest cX4_keepBest 3 (none : Option Jvm.ClassFile.FieldType) ∈ lw_good := lw_goodOk (k := 417) (by decide +kernel) (by decide +kernel)
theorem mm_X4_101 : Cond.methodLink RX4 101 ⟨"java/lang/System", "arraycopy", "(Ljava/lang/Object;ILjava/lang/Object;II)V"⟩ ∈ lw_good := lw_goodOk (k := 418) (by decide +kernel) (by decide +kernel)
theorem mm_X4_98 : Cond.methodLink RX4 98 yX4_giveTo ∈ lw_good := lw_goodOk (k := 419) (by decide +kernel) (by decide +kernel)
theorem mi_X4_giveTo : Cond.instanceMethod yX4_giveTo ∈ lw_good := lw_goodOk (k := 421) (by decide +kernel) (by decide +kernel)
theorem mc_X4_giveTo : Cond.code yX4_giveTo cX4_giveTo 4 (none : Option Jvm.ClassFile.FieldType) ∈ lw_good := lw_goodOk (k := 422) (by decide +kernel) (by decide +kernel)
theorem mm_X6_88 : Cond.methodLink RX6 88 yX5_takeShares ∈ lw_good := lw_goodOk (k := 423) (by decide +kernel) (by decide +kernel)
theorem mi_X5_takeShares : Cond.instanceMethod yX5_takeShares ∈ lw_good := lw_goodOk (k := 424) (by decide +kernel) (by decide +kernel)
theorem ms_X5_takeShares : Cond.selects RX5 yX5_takeShares yX5_takeShares ∈ lw_good := lw_goodOk (k := 425) (by decide +kernel) (by decide +kernel)
theorem mc_X5_takeShares : Cond.code yX5_takeShares cX5_takeShares 3 (none : Option Jvm.ClassFile.FieldType) ∈ lw_good := lw_goodOk (k := 426) (by decide +kernel) (by decide +kernel)
theorem mm_L_47 : Cond.methodLink RL 47 yX6_mix ∈ lw_good := lw_goodOk (k := 427) (by decide +kernel) (by decide +kernel)
theorem mi_X6_mix : Cond.instanceMethod yX6_mix ∈ lw_good := lw_goodOk (k := 428) (by decide +kernel) (by decide +kernel)
theorem ms_X6_mix : Cond.selects RX6 yX6_mix yX6_mix ∈ lw_good := lw_goodOk (k := 429) (by decide +kernel) (by decide +kernel)
theorem mc_X6_mix : Cond.code yX6_mix cX6_mix 2 (some .int) ∈ lw_good := lw_goodOk (k := 430) (by decide +kernel) (by decide +kernel)
theorem mm_X6_96 : Cond.methodLink RX6 96 yX5_mixGrams ∈ lw_good := lw_goodOk (k := 431) (by decide +kernel) (by decide +kernel)
theorem mi_X5_mixGrams : Cond.instanceMethod yX5_mixGrams ∈ lw_good := lw_goodOk (k := 432) (by decide +kernel) (by decide +kernel)
theorem ms_X5_mixGrams : Cond.selects RX5 yX5_mixGrams yX5_mixGrams ∈ lw_good := lw_goodOk (k := 433) (by decide +kernel) (by decide +kernel)
theorem mc_X5_mixGrams : Cond.code yX5_mixGrams cX5_mixGrams 3 (some .int) ∈ lw_good := lw_goodOk (k := 434) (by decide +kernel) (by decide +kernel)
theorem mm_X5_112 : Cond.methodLink RX5 112 yX5_whyBroken ∈ lw_good := lw_goodOk (k := 435) (by decide +kernel) (by decide +kernel)
theorem mi_X5_whyBroken : Cond.instanceMethod yX5_whyBroken ∈ lw_good := lw_goodOk (k := 436) (by decide +kernel) (by decide +kernel)
theorem ms_X5_whyBroken : Cond.selects RX5 yX5_whyBroken yX5_whyBroken ∈ lw_good := lw_goodOk (k := 437) (by decide +kernel) (by decide +kernel)
theorem mc_X5_whyBroken : Cond.code yX5_whyBroken cX5_whyBroken 5 (some .int) ∈ lw_good := lw_goodOk (k := 438) (by decide +kernel) (by decide +kernel)
theorem mm_X5_137 : Cond.methodLink RX5 137 yX5_tasteSum ∈ lw_good := lw_goodOk (k := 439) (by decide +kernel) (by decide +kernel)
theorem mi_X5_tasteSum : Cond.instanceMethod yX5_tasteSum ∈ lw_good := lw_goodOk (k := 440) (by decide +kernel) (by decide +kernel)
theorem ms_X5_tasteSum : Cond.selects RX5 yX5_tasteSum yX5_tasteSum ∈ lw_good := lw_goodOk (k := 441) (by decide +kernel) (by decide +kernel)
theorem mc_X5_tasteSum : Cond.code yX5_tasteSum cX5_tasteSum 5 (some .int) ∈ lw_good := lw_goodOk (k := 442) (by decide +kernel) (by decide +kernel)
theorem mm_X5_133 : Cond.methodLink RX5 133 yX5_tasteOf ∈ lw_good := lw_goodOk (k := 443) (by decide +kernel) (by decide +kernel)
theorem mm_X5_115 : Cond.methodLink RX5 115 yX5_stocksSuffice ∈ lw_good := lw_goodOk (k := 444) (by decide +kernel) (by decide +kernel)
theorem mi_X5_stocksSuffice : Cond.instanceMethod yX5_stocksSuffice ∈ lw_good := lw_goodOk (k := 446) (by decide +kernel) (by decide +kernel)
theorem mc_X5_stocksSuffice : Cond.code yX5_stocksSuffice cX5_stocksSuffice 3 (some .boolean) ∈ lw_good := lw_goodOk (k := 447) (by decide +kernel) (by decide +kernel)
theorem mm_X5_118 : Cond.methodLink RX5 118 yX1_gramsFor ∈ lw_good := lw_goodOk (k := 448) (by decide +kernel) (by decide +kernel)
theorem mi_X1_gramsFor : Cond.instanceMethod yX1_gramsFor ∈ lw_good := lw_goodOk (k := 449) (by decide +kernel) (by decide +kernel)
theorem ms_X1_gramsFor : Cond.selects RX1 yX1_gramsFor yX1_gramsFor ∈ lw_good := lw_goodOk (k := 450) (by decide +kernel) (by decide +kernel)
theorem mc_X1_gramsFor : Cond.code yX1_gramsFor cX1_gramsFor 2 (some .int) ∈ lw_good := lw_goodOk (k := 451) (by decide +kernel) (by decide +kernel)
theorem mm_X5_121 : Cond.methodLink RX5 121 yX5_blendPrice ∈ lw_good := lw_goodOk (k := 452) (by decide +kernel) (by decide +kernel)
theorem mi_X5_blendPrice : Cond.instanceMethod yX5_blendPrice ∈ lw_good := lw_goodOk (k := 453) (by decide +kernel) (by decide +kernel)
theorem ms_X5_blendPrice : Cond.selects RX5 yX5_blendPrice yX5_blendPrice ∈ lw_good := lw_goodOk (k := 454) (by decide +kernel) (by decide +kernel)
theorem mc_X5_blendPrice : Cond.code yX5_blendPrice cX5_blendPrice 3 (some .int) ∈ lw_good := lw_goodOk (k := 455) (by decide +kernel) (by decide +kernel)
theorem mm_L_52 : Cond.methodLink RL 52 yX6_pass ∈ lw_good := lw_goodOk (k := 456) (by decide +kernel) (by decide +kernel)
theorem mi_X6_pass : Cond.instanceMethod yX6_pass ∈ lw_good := lw_goodOk (k := 457) (by decide +kernel) (by decide +kernel)
theorem ms_X6_pass : Cond.selects RX6 yX6_pass yX6_pass ∈ lw_good := lw_goodOk (k := 458) (by decide +kernel) (by decide +kernel)
theorem mc_X6_pass : Cond.code yX6_pass cX6_pass 2 (some .int) ∈ lw_good := lw_goodOk (k := 459) (by decide +kernel) (by decide +kernel)
theorem mm_X6_99 : Cond.methodLink RX6 99 yX5_passDays ∈ lw_good := lw_goodOk (k := 460) (by decide +kernel) (by decide +kernel)
theorem mi_X5_passDays : Cond.instanceMethod yX5_passDays ∈ lw_good := lw_goodOk (k := 461) (by decide +kernel) (by decide +kernel)
theorem ms_X5_passDays : Cond.selects RX5 yX5_passDays yX5_passDays ∈ lw_good := lw_goodOk (k := 462) (by decide +kernel) (by decide +kernel)
theorem mc_X5_passDays : Cond.code yX5_passDays cX5_passDays 3 (some .int) ∈ lw_good := lw_goodOk (k := 463) (by decide +kernel) (by decide +kernel)
theorem mm_L_56 : Cond.methodLink RL 56 yX6_of ∈ lw_good := lw_goodOk (k := 464) (by decide +kernel) (by decide +kernel)
theorem mi_X6_of : Cond.instanceMethod yX6_of ∈ lw_good := lw_goodOk (k := 465) (by decide +kernel) (by decide +kernel)
theorem ms_X6_of : Cond.selects RX6 yX6_of yX6_of ∈ lw_good := lw_goodOk (k := 466) (by decide +kernel) (by decide +kernel)
theorem mc_X6_of : Cond.code yX6_of cX6_of 3 (some .int) ∈ lw_good := lw_goodOk (k := 467) (by decide +kernel) (by decide +kernel)
theorem mm_X6_102 : Cond.methodLink RX6 102 yX5_hasLeaf ∈ lw_good := lw_goodOk (k := 468) (by decide +kernel) (by decide +kernel)
theorem mm_X6_106 : Cond.methodLink RX6 106 yX5_priceOf ∈ lw_good := lw_goodOk (k := 469) (by decide +kernel) (by decide +kernel)
theorem mm_X6_109 : Cond.methodLink RX6 109 yX5_tasteOf ∈ lw_good := lw_goodOk (k := 470) (by decide +kernel) (by decide +kernel)
theorem mm_L_60 : Cond.methodLink RL 60 yX6_blend ∈ lw_good := lw_goodOk (k := 471) (by decide +kernel) (by decide +kernel)
theorem mi_X6_blend : Cond.instanceMethod yX6_blend ∈ lw_good := lw_goodOk (k := 472) (by decide +kernel) (by decide +kernel)
theorem ms_X6_blend : Cond.selects RX6 yX6_blend yX6_blend ∈ lw_good := lw_goodOk (k := 473) (by decide +kernel) (by decide +kernel)
theorem mc_X6_blend : Cond.code yX6_blend cX6_blend 2 (some .int) ∈ lw_good := lw_goodOk (k := 474) (by decide +kernel) (by decide +kernel)
theorem mm_X6_127 : Cond.methodLink RX6 127 yX5_blendPrice ∈ lw_good := lw_goodOk (k := 475) (by decide +kernel) (by decide +kernel)
theorem mm_X6_131 : Cond.methodLink RX6 131 yX5_tasteSum ∈ lw_good := lw_goodOk (k := 476) (by decide +kernel) (by decide +kernel)
theorem mm_X6_134 : Cond.methodLink RX6 134 yX5_allShares ∈ lw_good := lw_goodOk (k := 477) (by decide +kernel) (by decide +kernel)
theorem mm_X6_137 : Cond.methodLink RX6 137 yX5_leavesInBlend ∈ lw_good := lw_goodOk (k := 478) (by decide +kernel) (by decide +kernel)
theorem mi_X5_leavesInBlend : Cond.instanceMethod yX5_leavesInBlend ∈ lw_good := lw_goodOk (k := 479) (by decide +kernel) (by decide +kernel)
theorem ms_X5_leavesInBlend : Cond.selects RX5 yX5_leavesInBlend yX5_leavesInBlend ∈ lw_good := lw_goodOk (k := 480) (by decide +kernel) (by decide +kernel)
theorem mc_X5_leavesInBlend : Cond.code yX5_leavesInBlend cX5_leavesInBlend 3 (some .int) ∈ lw_good := lw_goodOk (k := 481) (by decide +kernel) (by decide +kernel)
theorem mm_L_64 : Cond.methodLink RL 64 yX6_why ∈ lw_good := lw_goodOk (k := 482) (by decide +kernel) (by decide +kernel)
theorem mi_X6_why : Cond.instanceMethod yX6_why ∈ lw_good := lw_goodOk (k := 483) (by decide +kernel) (by decide +kernel)
theorem ms_X6_why : Cond.selects RX6 yX6_why yX6_why ∈ lw_good := lw_goodOk (k := 484) (by decide +kernel) (by decide +kernel)
theorem mc_X6_why : Cond.code yX6_why cX6_why 1 (some .int) ∈ lw_good := lw_goodOk (k := 485) (by decide +kernel) (by decide +kernel)
theorem mm_X6_140 : Cond.methodLink RX6 140 yX5_whyBroken ∈ lw_good := lw_goodOk (k := 486) (by decide +kernel) (by decide +kernel)
theorem mm_L_68 : Cond.methodLink RL 68 yX6_count ∈ lw_good := lw_goodOk (k := 487) (by decide +kernel) (by decide +kernel)
theorem mi_X6_count : Cond.instanceMethod yX6_count ∈ lw_good := lw_goodOk (k := 488) (by decide +kernel) (by decide +kernel)
theorem ms_X6_count : Cond.selects RX6 yX6_count yX6_count ∈ lw_good := lw_goodOk (k := 489) (by decide +kernel) (by decide +kernel)
theorem mc_X6_count : Cond.code yX6_count cX6_count 2 (some .int) ∈ lw_good := lw_goodOk (k := 490) (by decide +kernel) (by decide +kernel)
theorem mm_L_72 : Cond.methodLink RL 72 yX6_taste ∈ lw_good := lw_goodOk (k := 491) (by decide +kernel) (by decide +kernel)
theorem mi_X6_taste : Cond.instanceMethod yX6_taste ∈ lw_good := lw_goodOk (k := 492) (by decide +kernel) (by decide +kernel)
theorem ms_X6_taste : Cond.selects RX6 yX6_taste yX6_taste ∈ lw_good := lw_goodOk (k := 493) (by decide +kernel) (by decide +kernel)
theorem mc_X6_taste : Cond.code yX6_taste cX6_taste 2 (some .long) ∈ lw_good := lw_goodOk (k := 494) (by decide +kernel) (by decide +kernel)
theorem mk_X6_170 : Cond.constantDouble RX6 170 (4626322717216342016 : UInt64) ∈ lw_good := lw_goodOk (k := 495) (by decide +kernel) (by decide +kernel)
theorem mm_X6_172 : Cond.methodLink RX6 172 yX6_bitsOf ∈ lw_good := lw_goodOk (k := 496) (by decide +kernel) (by decide +kernel)
theorem mst_X6_bitsOf : Cond.static yX6_bitsOf ∈ lw_good := lw_goodOk (k := 497) (by decide +kernel) (by decide +kernel)
theorem mc_X6_bitsOf : Cond.code yX6_bitsOf cX6_bitsOf 9 (some .long) ∈ lw_good := lw_goodOk (k := 498) (by decide +kernel) (by decide +kernel)
theorem mk_X6_218 : Cond.constantDouble RX6 218 (4611686018427387904 : UInt64) ∈ lw_good := lw_goodOk (k := 499) (by decide +kernel) (by decide +kernel)
theorem mm_L_77 : Cond.methodLink RL 77 yX6_mean ∈ lw_good := lw_goodOk (k := 500) (by decide +kernel) (by decide +kernel)
theorem mi_X6_mean : Cond.instanceMethod yX6_mean ∈ lw_good := lw_goodOk (k := 501) (by decide +kernel) (by decide +kernel)
theorem ms_X6_mean : Cond.selects RX6 yX6_mean yX6_mean ∈ lw_good := lw_goodOk (k := 502) (by decide +kernel) (by decide +kernel)
theorem mc_X6_mean : Cond.code yX6_mean cX6_mean 2 (some .int) ∈ lw_good := lw_goodOk (k := 503) (by decide +kernel) (by decide +kernel)
theorem mm_L_81 : Cond.methodLink RL 81 yX6_cheapest ∈ lw_good := lw_goodOk (k := 504) (by decide +kernel) (by decide +kernel)
theorem mi_X6_cheapest : Cond.instanceMethod yX6_cheapest ∈ lw_good := lw_goodOk (k := 505) (by decide +kernel) (by decide +kernel)
theorem ms_X6_cheapest : Cond.selects RX6 yX6_cheapest yX6_cheapest ∈ lw_good := lw_goodOk (k := 506) (by decide +kernel) (by decide +kernel)
theorem mc_X6_cheapest : Cond.code yX6_cheapest cX6_cheapest 2 (some .int) ∈ lw_good := lw_goodOk (k := 507) (by decide +kernel) (by decide +kernel)
theorem mm_L_85 : Cond.methodLink RL 85 yX6_swap ∈ lw_good := lw_goodOk (k := 508) (by decide +kernel) (by decide +kernel)
theorem mi_X6_swap : Cond.instanceMethod yX6_swap ∈ lw_good := lw_goodOk (k := 509) (by decide +kernel) (by decide +kernel)
theorem ms_X6_swap : Cond.selects RX6 yX6_swap yX6_swap ∈ lw_good := lw_goodOk (k := 510) (by decide +kernel) (by decide +kernel)
theorem mc_X6_swap : Cond.code yX6_swap cX6_swap 5 (some .int) ∈ lw_good := lw_goodOk (k := 511) (by decide +kernel) (by decide +kernel)
theorem mm_X6_176 : Cond.methodLink RX6 176 yX5_bestSwap ∈ lw_good := lw_goodOk (k := 512) (by decide +kernel) (by decide +kernel)
theorem mi_X5_bestSwap : Cond.instanceMethod yX5_bestSwap ∈ lw_good := lw_goodOk (k := 513) (by decide +kernel) (by decide +kernel)
theorem ms_X5_bestSwap : Cond.selects RX5 yX5_bestSwap yX5_bestSwap ∈ lw_good := lw_goodOk (k := 514) (by decide +kernel) (by decide +kernel)
theorem mc_X5_bestSwap : Cond.code yX5_bestSwap cX5_bestSwap 6 (some .int) ∈ lw_good := lw_goodOk (k := 515) (by decide +kernel) (by decide +kernel)
theorem mm_X5_143 : Cond.methodLink RX5 143 yX5_keepsAfterSwap ∈ lw_good := lw_goodOk (k := 516) (by decide +kernel) (by decide +kernel)
theorem mi_X5_keepsAfterSwap : Cond.instanceMethod yX5_keepsAfterSwap ∈ lw_good := lw_goodOk (k := 518) (by decide +kernel) (by decide +kernel)
theorem mc_X5_keepsAfterSwap : Cond.code yX5_keepsAfterSwap cX5_keepsAfterSwap 5 (some .boolean) ∈ lw_good := lw_goodOk (k := 519) (by decide +kernel) (by decide +kernel)
theorem mm_L_89 : Cond.methodLink RL 89 yX6_looser ∈ lw_good := lw_goodOk (k := 520) (by decide +kernel) (by decide +kernel)
theorem mi_X6_looser : Cond.instanceMethod yX6_looser ∈ lw_good := lw_goodOk (k := 521) (by decide +kernel) (by decide +kernel)
theorem ms_X6_looser : Cond.selects RX6 yX6_looser yX6_looser ∈ lw_good := lw_goodOk (k := 522) (by decide +kernel) (by decide +kernel)
theorem mc_X6_looser : Cond.code yX6_looser cX6_looser 3 (some .int) ∈ lw_good := lw_goodOk (k := 523) (by decide +kernel) (by decide +kernel)
theorem mm_X6_179 : Cond.methodLink RX6 179 yX5_canBeLooser ∈ lw_good := lw_goodOk (k := 524) (by decide +kernel) (by decide +kernel)
theorem mi_X5_canBeLooser : Cond.instanceMethod yX5_canBeLooser ∈ lw_good := lw_goodOk (k := 525) (by decide +kernel) (by decide +kernel)
theorem ms_X5_canBeLooser : Cond.selects RX5 yX5_canBeLooser yX5_canBeLooser ∈ lw_good := lw_goodOk (k := 526) (by decide +kernel) (by decide +kernel)
theorem mc_X5_canBeLooser : Cond.code yX5_canBeLooser cX5_canBeLooser 2 (some .boolean) ∈ lw_good := lw_goodOk (k := 527) (by decide +kernel) (by decide +kernel)
theorem mm_L_93 : Cond.methodLink RL 93 yX6_keepsFor ∈ lw_good := lw_goodOk (k := 528) (by decide +kernel) (by decide +kernel)
theorem mi_X6_keepsFor : Cond.instanceMethod yX6_keepsFor ∈ lw_good := lw_goodOk (k := 529) (by decide +kernel) (by decide +kernel)
theorem ms_X6_keepsFor : Cond.selects RX6 yX6_keepsFor yX6_keepsFor ∈ lw_good := lw_goodOk (k := 530) (by decide +kernel) (by decide +kernel)
theorem mc_X6_keepsFor : Cond.code yX6_keepsFor cX6_keepsFor 2 (some .int) ∈ lw_good := lw_goodOk (k := 531) (by decide +kernel) (by decide +kernel)
theorem mm_L_97 : Cond.methodLink RL 97 yX6_mostGrams ∈ lw_good := lw_goodOk (k := 532) (by decide +kernel) (by decide +kernel)
theorem mi_X6_mostGrams : Cond.instanceMethod yX6_mostGrams ∈ lw_good := lw_goodOk (k := 533) (by decide +kernel) (by decide +kernel)
theorem ms_X6_mostGrams : Cond.selects RX6 yX6_mostGrams yX6_mostGrams ∈ lw_good := lw_goodOk (k := 534) (by decide +kernel) (by decide +kernel)
theorem mc_X6_mostGrams : Cond.code yX6_mostGrams cX6_mostGrams 1 (some .int) ∈ lw_good := lw_goodOk (k := 535) (by decide +kernel) (by decide +kernel)
theorem mm_X6_182 : Cond.methodLink RX6 182 yX5_gramsByStocks ∈ lw_good := lw_goodOk (k := 536) (by decide +kernel) (by decide +kernel)
theorem mi_X5_gramsByStocks : Cond.instanceMethod yX5_gramsByStocks ∈ lw_good := lw_goodOk (k := 537) (by decide +kernel) (by decide +kernel)
theorem ms_X5_gramsByStocks : Cond.selects RX5 yX5_gramsByStocks yX5_gramsByStocks ∈ lw_good := lw_goodOk (k := 538) (by decide +kernel) (by decide +kernel)
theorem mc_X5_gramsByStocks : Cond.code yX5_gramsByStocks cX5_gramsByStocks 3 (some .int) ∈ lw_good := lw_goodOk (k := 539) (by decide +kernel) (by decide +kernel)
theorem mm_X5_140 : Cond.methodLink RX5 140 yJ9_min_7cf53 ∈ lw_good := lw_goodOk (k := 540) (by decide +kernel) (by decide +kernel)
theorem mm_L_101 : Cond.methodLink RL 101 yX6_put ∈ lw_good := lw_goodOk (k := 541) (by decide +kernel) (by decide +kernel)
theorem mi_X6_put : Cond.instanceMethod yX6_put ∈ lw_good := lw_goodOk (k := 542) (by decide +kernel) (by decide +kernel)
theorem ms_X6_put : Cond.selects RX6 yX6_put yX6_put ∈ lw_good := lw_goodOk (k := 543) (by decide +kernel) (by decide +kernel)
theorem mc_X6_put : Cond.code yX6_put cX6_put 3 (some .int) ∈ lw_good := lw_goodOk (k := 544) (by decide +kernel) (by decide +kernel)
theorem mm_X6_185 : Cond.methodLink RX6 185 yX3_append ∈ lw_good := lw_goodOk (k := 545) (by decide +kernel) (by decide +kernel)
theorem mi_X3_append : Cond.instanceMethod yX3_append ∈ lw_good := lw_goodOk (k := 546) (by decide +kernel) (by decide +kernel)
theorem ms_X3_append : Cond.selects RX3 yX3_append yX3_append ∈ lw_good := lw_goodOk (k := 547) (by decide +kernel) (by decide +kernel)
theorem mc_X3_append : Cond.code yX3_append cX3_append 5 (some .int) ∈ lw_good := lw_goodOk (k := 548) (by decide +kernel) (by decide +kernel)
theorem mm_X3_15 : Cond.methodLink RX3 15 yX3_lengthOf ∈ lw_good := lw_goodOk (k := 549) (by decide +kernel) (by decide +kernel)
theorem mst_X3_lengthOf : Cond.static yX3_lengthOf ∈ lw_good := lw_goodOk (k := 550) (by decide +kernel) (by decide +kernel)
theorem mc_X3_lengthOf : Cond.code yX3_lengthOf cX3_lengthOf 4 (some .int) ∈ lw_good := lw_goodOk (k := 551) (by decide +kernel) (by decide +kernel)
theorem mm_X3_23 : Cond.methodLink RX3 23 yX3_codeIn ∈ lw_good := lw_goodOk (k := 552) (by decide +kernel) (by decide +kernel)
theorem mst_X3_codeIn : Cond.static yX3_codeIn ∈ lw_good := lw_goodOk (k := 553) (by decide +kernel) (by decide +kernel)
theorem mc_X3_codeIn : Cond.code yX3_codeIn cX3_codeIn 3 (some .int) ∈ lw_good := lw_goodOk (k := 554) (by decide +kernel) (by decide +kernel)
theorem mk_X3_27 : Cond.constantLong RX3 27 (255 : Int64) ∈ lw_good := lw_goodOk (k := 555) (by decide +kernel) (by decide +kernel)
theorem mm_L_106 : Cond.methodLink RL 106 yX6_wipe ∈ lw_good := lw_goodOk (k := 556) (by decide +kernel) (by decide +kernel)
theorem mi_X6_wipe : Cond.instanceMethod yX6_wipe ∈ lw_good := lw_goodOk (k := 557) (by decide +kernel) (by decide +kernel)
theorem ms_X6_wipe : Cond.selects RX6 yX6_wipe yX6_wipe ∈ lw_good := lw_goodOk (k := 558) (by decide +kernel) (by decide +kernel)
theorem mc_X6_wipe : Cond.code yX6_wipe cX6_wipe 1 (some .int) ∈ lw_good := lw_goodOk (k := 559) (by decide +kernel) (by decide +kernel)
theorem mm_X6_189 : Cond.methodLink RX6 189 yX3_empty ∈ lw_good := lw_goodOk (k := 560) (by decide +kernel) (by decide +kernel)
theorem mi_X3_empty : Cond.instanceMethod yX3_empty ∈ lw_good := lw_goodOk (k := 561) (by decide +kernel) (by decide +kernel)
theorem ms_X3_empty : Cond.selects RX3 yX3_empty yX3_empty ∈ lw_good := lw_goodOk (k := 562) (by decide +kernel) (by decide +kernel)
theorem mc_X3_empty : Cond.code yX3_empty cX3_empty 2 (some .int) ∈ lw_good := lw_goodOk (k := 563) (by decide +kernel) (by decide +kernel)
theorem mm_L_110 : Cond.methodLink RL 110 yX6_fault ∈ lw_good := lw_goodOk (k := 564) (by decide +kernel) (by decide +kernel)
theorem mi_X6_fault : Cond.instanceMethod yX6_fault ∈ lw_good := lw_goodOk (k := 565) (by decide +kernel) (by decide +kernel)
theorem ms_X6_fault : Cond.selects RX6 yX6_fault yX6_fault ∈ lw_good := lw_goodOk (k := 566) (by decide +kernel) (by decide +kernel)
theorem mc_X6_fault : Cond.code yX6_fault cX6_fault 1 (some .int) ∈ lw_good := lw_goodOk (k := 567) (by decide +kernel) (by decide +kernel)
theorem mm_X6_192 : Cond.methodLink RX6 192 yX2_findFault ∈ lw_good := lw_goodOk (k := 568) (by decide +kernel) (by decide +kernel)
theorem mi_X2_findFault : Cond.instanceMethod yX2_findFault ∈ lw_good := lw_goodOk (k := 569) (by decide +kernel) (by decide +kernel)
theorem ms_X2_findFault : Cond.selects RX2 yX2_findFault yX2_findFault ∈ lw_good := lw_goodOk (k := 570) (by decide +kernel) (by decide +kernel)
theorem mc_X2_findFault : Cond.code yX2_findFault cX2_findFault 2 (some .int) ∈ lw_good := lw_goodOk (k := 571) (by decide +kernel) (by decide +kernel)
theorem mm_X2_23 : Cond.methodLink RX2 23 yX2_start ∈ lw_good := lw_goodOk (k := 572) (by decide +kernel) (by decide +kernel)
theorem mi_X2_start : Cond.instanceMethod yX2_start ∈ lw_good := lw_goodOk (k := 573) (by decide +kernel) (by decide +kernel)
theorem ms_X2_start : Cond.selects RX2 yX2_start yX2_start ∈ lw_good := lw_goodOk (k := 574) (by decide +kernel) (by decide +kernel)
theorem mc_X2_start : Cond.code yX2_start cX2_start 1 (none : Option Jvm.ClassFile.FieldType) ∈ lw_good := lw_goodOk (k := 575) (by decide +kernel) (by decide +kernel)
theorem mm_X2_26 : Cond.methodLink RX2 26 yX2_readOrder ∈ lw_good := lw_goodOk (k := 576) (by decide +kernel) (by decide +kernel)
theorem mi_X2_readOrder : Cond.instanceMethod yX2_readOrder ∈ lw_good := lw_goodOk (k := 577) (by decide +kernel) (by decide +kernel)
theorem ms_X2_readOrder : Cond.selects RX2 yX2_readOrder yX2_readOrder ∈ lw_good := lw_goodOk (k := 578) (by decide +kernel) (by decide +kernel)
theorem mc_X2_readOrder : Cond.code yX2_readOrder cX2_readOrder 3 (some .boolean) ∈ lw_good := lw_goodOk (k := 579) (by decide +kernel) (by decide +kernel)
theorem mm_X2_35 : Cond.methodLink RX2 35 yX2_readSign ∈ lw_good := lw_goodOk (k := 580) (by decide +kernel) (by decide +kernel)
theorem mi_X2_readSign : Cond.instanceMethod yX2_readSign ∈ lw_good := lw_goodOk (k := 582) (by decide +kernel) (by decide +kernel)
theorem mc_X2_readSign : Cond.code yX2_readSign cX2_readSign 2 (some .boolean) ∈ lw_good := lw_goodOk (k := 583) (by decide +kernel) (by decide +kernel)
theorem mm_X2_39 : Cond.methodLink RX2 39 yX2_sign ∈ lw_good := lw_goodOk (k := 584) (by decide +kernel) (by decide +kernel)
theorem mi_X2_sign : Cond.instanceMethod yX2_sign ∈ lw_good := lw_goodOk (k := 586) (by decide +kernel) (by decide +kernel)
theorem mc_X2_sign : Cond.code yX2_sign cX2_sign 1 (some .int) ∈ lw_good := lw_goodOk (k := 587) (by decide +kernel) (by decide +kernel)
theorem mm_X2_46 : Cond.methodLink RX2 46 yX2_formOf ∈ lw_good := lw_goodOk (k := 588) (by decide +kernel) (by decide +kernel)
theorem mst_X2_formOf : Cond.static yX2_formOf ∈ lw_good := lw_goodOk (k := 589) (by decide +kernel) (by decide +kernel)
theorem mc_X2_formOf : Cond.code yX2_formOf cX2_formOf 1 (some (.object "java/lang/String")) ∈ lw_good := lw_goodOk (k := 590) (by decide +kernel) (by decide +kernel)
theorem mm_X2_50 : Cond.methodLink RX2 50 yJ0_isEmpty_aae02 ∈ lw_good := lw_goodOk (k := 595) (by decide +kernel) (by decide +kernel)
theorem mi_J0_isEmpty_aae02 : Cond.instanceMethod yJ0_isEmpty_aae02 ∈ lw_good := lw_goodOk (k := 596) (by decide +kernel) (by decide +kernel)
theorem ms_J0_isEmpty_aae02 : Cond.selects RJ0 yJ0_isEmpty_aae02 yJ0_isEmpty_aae02 ∈ lw_good := lw_goodOk (k := 597) (by decide +kernel) (by decide +kernel)
theorem mc_J0_isEmpty_aae02 : Cond.code yJ0_isEmpty_aae02 cJ0_isEmpty_aae02 1 (some .boolean) ∈ lw_good := lw_goodOk (k := 598) (by decide +kernel) (by decide +kernel)
theorem mm_X2_58 : Cond.methodLink RX2 58 yJ0_length_8abf5 ∈ lw_good := lw_goodOk (k := 599) (by decide +kernel) (by decide +kernel)
theorem mi_J0_length_8abf5 : Cond.instanceMethod yJ0_length_8abf5 ∈ lw_good := lw_goodOk (k := 600) (by decide +kernel) (by decide +kernel)
theorem ms_J0_length_8abf5 : Cond.selects RJ0 yJ0_length_8abf5 yJ0_length_8abf5 ∈ lw_good := lw_goodOk (k := 601) (by decide +kernel) (by decide +kernel)
theorem mc_J0_length_8abf5 : Cond.code yJ0_length_8abf5 cJ0_length_8abf5 1 (some .int) ∈ lw_good := lw_goodOk (k := 602) (by decide +kernel) (by decide +kernel)
theorem mm_J0_335 : Cond.methodLink RJ0 335 yJ0_coder_7d493 ∈ lw_good := lw_goodOk (k := 603) (by decide +kernel) (by decide +kernel)
theorem mi_J0_coder_7d493 : Cond.instanceMethod yJ0_coder_7d493 ∈ lw_good := lw_goodOk (k := 604) (by decide +kernel) (by decide +kernel)
theorem ms_J0_coder_7d493 : Cond.selects RJ0 yJ0_coder_7d493 yJ0_coder_7d493 ∈ lw_good := lw_goodOk (k := 605) (by decide +kernel) (by decide +kernel)
theorem mc_J0_coder_7d493 : Cond.code yJ0_coder_7d493 cJ0_coder_7d493 1 (some .byte) ∈ lw_good := lw_goodOk (k := 606) (by decide +kernel) (by decide +kernel)
theorem mf_J0_38 : Cond.fieldLink RJ0 38 "java/lang/String" "COMPACT_STRINGS" "Z" ∈ lw_good := lw_goodOk (k := 607) (by decide +kernel) (by decide +kernel)
theorem mm_X2_60 : Cond.methodLink RX2 60 yJ0_charAt_5068e ∈ lw_good := lw_goodOk (k := 609) (by decide +kernel) (by decide +kernel)
theorem mi_J0_charAt_5068e : Cond.instanceMethod yJ0_charAt_5068e ∈ lw_good := lw_goodOk (k := 610) (by decide +kernel) (by decide +kernel)
theorem ms_J0_charAt_5068e : Cond.selects RJ0 yJ0_charAt_5068e yJ0_charAt_5068e ∈ lw_good := lw_goodOk (k := 611) (by decide +kernel) (by decide +kernel)
theorem mc_J0_charAt_5068e : Cond.code yJ0_charAt_5068e cJ0_charAt_5068e 2 (some .char) ∈ lw_good := lw_goodOk (k := 612) (by decide +kernel) (by decide +kernel)
theorem mm_J0_492 : Cond.methodLink RJ0 492 yJ0_isLatin1_aae02 ∈ lw_good := lw_goodOk (k := 613) (by decide +kernel) (by decide +kernel)
theorem mi_J0_isLatin1_aae02 : Cond.instanceMethod yJ0_isLatin1_aae02 ∈ lw_good := lw_goodOk (k := 614) (by decide +kernel) (by decide +kernel)
theorem ms_J0_isLatin1_aae02 : Cond.selects RJ0 yJ0_isLatin1_aae02 yJ0_isLatin1_aae02 ∈ lw_good := lw_goodOk (k := 615) (by decide +kernel) (by decide +kernel)
theorem mc_J0_isLatin1_aae02 : Cond.code yJ0_isLatin1_aae02 cJ0_isLatin1_aae02 1 (some .boolean) ∈ lw_good := lw_goodOk (k := 616) (by decide +kernel) (by decide +kernel)
theorem mm_J0_495 : Cond.methodLink RJ0 495 yJ1_charAt_3b067 ∈ lw_good := lw_goodOk (k := 617) (by decide +kernel) (by decide +kernel)
theorem mst_J1_charAt_3b067 : Cond.static yJ1_charAt_3b067 ∈ lw_good := lw_goodOk (k := 618) (by decide +kernel) (by decide +kernel)
theorem mc_J1_charAt_3b067 : Cond.code yJ1_charAt_3b067 cJ1_charAt_3b067 2 (some .char) ∈ lw_good := lw_goodOk (k := 619) (by decide +kernel) (by decide +kernel)
theorem mm_J1_9 : Cond.methodLink RJ1 9 yJ0_checkIndex_df160 ∈ lw_good := lw_goodOk (k := 620) (by decide +kernel) (by decide +kernel)
theorem mst_J0_checkIndex_df160 : Cond.static yJ0_checkIndex_df160 ∈ lw_good := lw_goodOk (k := 621) (by decide +kernel) (by decide +kernel)
theorem mc_J0_checkIndex_df160 : Cond.code yJ0_checkIndex_df160 cJ0_checkIndex_df160 2 (none : Option Jvm.ClassFile.FieldType) ∈ lw_good := lw_goodOk (k := 622) (by decide +kernel) (by decide +kernel)
theorem mf_J0_1053 : Cond.fieldLink RJ0 1053 "jdk/internal/util/Preconditions" "SIOOBE_FORMATTER" "Ljava/util/function/BiFunction;" ∈ lw_good := lw_goodOk (k := 623) (by decide +kernel) (by decide +kernel)
theorem mm_J0_1059 : Cond.methodLink RJ0 1059 yJ3_checkIndex_8e157 ∈ lw_good := lw_goodOk (k := 625) (by decide +kernel) (by decide +kernel)
theorem mst_J3_checkIndex_8e157 : Cond.static yJ3_checkIndex_8e157 ∈ lw_good := lw_goodOk (k := 626) (by decide +kernel) (by decide +kernel)
theorem mc_J3_checkIndex_8e157 : Cond.code yJ3_checkIndex_8e157 cJ3_checkIndex_8e157 3 (some .int) ∈ lw_good := lw_goodOk (k := 627) (by decide +kernel) (by decide +kernel)
theorem mm_J0_498 : Cond.methodLink RJ0 498 yJ2_charAt_3b067 ∈ lw_good := lw_goodOk (k := 628) (by decide +kernel) (by decide +kernel)
theorem mst_J2_charAt_3b067 : Cond.static yJ2_charAt_3b067 ∈ lw_good := lw_goodOk (k := 629) (by decide +kernel) (by decide +kernel)
theorem mc_J2_charAt_3b067 : Cond.code yJ2_charAt_3b067 cJ2_charAt_3b067 2 (some .char) ∈ lw_good := lw_goodOk (k := 630) (by decide +kernel) (by decide +kernel)
theorem mm_J2_67 : Cond.methodLink RJ2 67 yJ2_checkIndex_2214a ∈ lw_good := lw_goodOk (k := 631) (by decide +kernel) (by decide +kernel)
theorem mst_J2_checkIndex_2214a : Cond.static yJ2_checkIndex_2214a ∈ lw_good := lw_goodOk (k := 632) (by decide +kernel) (by decide +kernel)
theorem mc_J2_checkIndex_2214a : Cond.code yJ2_checkIndex_2214a cJ2_checkIndex_2214a 2 (none : Option Jvm.ClassFile.FieldType) ∈ lw_good := lw_goodOk (k := 633) (by decide +kernel) (by decide +kernel)
theorem mm_J2_48 : Cond.methodLink RJ2 48 yJ2_length_9d52b ∈ lw_good := lw_goodOk (k := 634) (by decide +kernel) (by decide +kernel)
theorem mst_J2_length_9d52b : Cond.static yJ2_length_9d52b ∈ lw_good := lw_goodOk (k := 635) (by decide +kernel) (by decide +kernel)
theorem mc_J2_length_9d52b : Cond.code yJ2_length_9d52b cJ2_length_9d52b 1 (some .int) ∈ lw_good := lw_goodOk (k := 636) (by decide +kernel) (by decide +kernel)
theorem mm_J2_414 : Cond.methodLink RJ2 414 yJ0_checkIndex_df160 ∈ lw_good := lw_goodOk (k := 637) (by decide +kernel) (by decide +kernel)
theorem mm_J2_71 : Cond.methodLink RJ2 71 yJ2_getChar_3b067 ∈ lw_good := lw_goodOk (k := 638) (by decide +kernel) (by decide +kernel)
theorem mst_J2_getChar_3b067 : Cond.static yJ2_getChar_3b067 ∈ lw_good := lw_goodOk (k := 639) (by decide +kernel) (by decide +kernel)
theorem mc_J2_getChar_3b067 : Cond.code yJ2_getChar_3b067 cJ2_getChar_3b067 2 (some .char) ∈ lw_good := lw_goodOk (k := 640) (by decide +kernel) (by decide +kernel)
theorem mf_J2_44 : Cond.fieldLink RJ2 44 "java/lang/StringUTF16" "$assertionsDisabled" "Z" ∈ lw_good := lw_goodOk (k := 641) (by decide +kernel) (by decide +kernel)
theorem mf_J2_59 : Cond.fieldLink RJ2 59 "java/lang/StringUTF16" "HI_BYTE_SHIFT" "I" ∈ lw_good := lw_goodOk (k := 643) (by decide +kernel) (by decide +kernel)
theorem mf_J2_63 : Cond.fieldLink RJ2 63 "java/lang/StringUTF16" "LO_BYTE_SHIFT" "I" ∈ lw_good := lw_goodOk (k := 645) (by decide +kernel) (by decide +kernel)
theorem mm_X2_64 : Cond.methodLink RX2 64 yX2_readPart ∈ lw_good := lw_goodOk (k := 647) (by decide +kernel) (by decide +kernel)
theorem mi_X2_readPart : Cond.instanceMethod yX2_readPart ∈ lw_good := lw_goodOk (k := 649) (by decide +kernel) (by decide +kernel)
theorem mc_X2_readPart : Cond.code yX2_readPart cX2_readPart 2 (some .boolean) ∈ lw_good := lw_goodOk (k := 650) (by decide +kernel) (by decide +kernel)
theorem mm_X2_76 : Cond.methodLink RX2 76 yX2_readNumber ∈ lw_good := lw_goodOk (k := 651) (by decide +kernel) (by decide +kernel)
theorem mi_X2_readNumber : Cond.instanceMethod yX2_readNumber ∈ lw_good := lw_goodOk (k := 653) (by decide +kernel) (by decide +kernel)
theorem mc_X2_readNumber : Cond.code yX2_readNumber cX2_readNumber 4 (some .boolean) ∈ lw_good := lw_goodOk (k := 654) (by decide +kernel) (by decide +kernel)
theorem mm_X2_79 : Cond.methodLink RX2 79 yX2_isAtDigit ∈ lw_good := lw_goodOk (k := 655) (by decide +kernel) (by decide +kernel)
theorem mi_X2_isAtDigit : Cond.instanceMethod yX2_isAtDigit ∈ lw_good := lw_goodOk (k := 657) (by decide +kernel) (by decide +kernel)
theorem mc_X2_isAtDigit : Cond.code yX2_isAtDigit cX2_isAtDigit 1 (some .boolean) ∈ lw_good := lw_goodOk (k := 658) (by decide +kernel) (by decide +kernel)
theorem mac_byte : Cond.arrayClass .byte ∈ lw_good := lw_goodOk (k := 659) (by decide +kernel) (by decide +kernel)
theorem mm_L_114 : Cond.methodLink RL 114 yX6_carryOut ∈ lw_good := lw_goodOk (k := 660) (by decide +kernel) (by decide +kernel)
theorem mi_X6_carryOut : Cond.instanceMethod yX6_carryOut ∈ lw_good := lw_goodOk (k := 661) (by decide +kernel) (by decide +kernel)
theorem ms_X6_carryOut : Cond.selects RX6 yX6_carryOut yX6_carryOut ∈ lw_good := lw_goodOk (k := 662) (by decide +kernel) (by decide +kernel)
theorem mc_X6_carryOut : Cond.code yX6_carryOut cX6_carryOut 2 (some .int) ∈ lw_good := lw_goodOk (k := 663) (by decide +kernel) (by decide +kernel)
theorem mm_X6_195 : Cond.methodLink RX6 195 yX2_start ∈ lw_good := lw_goodOk (k := 664) (by decide +kernel) (by decide +kernel)
theorem mm_X6_198 : Cond.methodLink RX6 198 yX2_readOrder ∈ lw_good := lw_goodOk (k := 665) (by decide +kernel) (by decide +kernel)
theorem mm_X6_202 : Cond.methodLink RX6 202 yX6_carryOutOne ∈ lw_good := lw_goodOk (k := 666) (by decide +kernel) (by decide +kernel)
theorem mi_X6_carryOutOne : Cond.instanceMethod yX6_carryOutOne ∈ lw_good := lw_goodOk (k := 668) (by decide +kernel) (by decide +kernel)
theorem mc_X6_carryOutOne : Cond.code yX6_carryOutOne cX6_carryOutOne 2 (some .int) ∈ lw_good := lw_goodOk (k := 669) (by decide +kernel) (by decide +kernel)
theorem mm_L_118 : Cond.methodLink RL 118 yX6_undo ∈ lw_good := lw_goodOk (k := 670) (by decide +kernel) (by decide +kernel)
theorem mi_X6_undo : Cond.instanceMethod yX6_undo ∈ lw_good := lw_goodOk (k := 671) (by decide +kernel) (by decide +kernel)
theorem ms_X6_undo : Cond.selects RX6 yX6_undo yX6_undo ∈ lw_good := lw_goodOk (k := 672) (by decide +kernel) (by decide +kernel)
theorem mc_X6_undo : Cond.code yX6_undo cX6_undo 1 (some .int) ∈ lw_good := lw_goodOk (k := 673) (by decide +kernel) (by decide +kernel)
theorem mm_X6_205 : Cond.methodLink RX6 205 yX0_takeBack ∈ lw_good := lw_goodOk (k := 674) (by decide +kernel) (by decide +kernel)
theorem mi_X0_takeBack : Cond.instanceMethod yX0_takeBack ∈ lw_good := lw_goodOk (k := 675) (by decide +kernel) (by decide +kernel)
theorem ms_X0_takeBack : Cond.selects RX0 yX0_takeBack yX0_takeBack ∈ lw_good := lw_goodOk (k := 676) (by decide +kernel) (by decide +kernel)
theorem mc_X0_takeBack : Cond.code yX0_takeBack cX0_takeBack 2 (some .boolean) ∈ lw_good := lw_goodOk (k := 677) (by decide +kernel) (by decide +kernel)
theorem mm_L_122 : Cond.methodLink RL 122 yX6_save ∈ lw_good := lw_goodOk (k := 678) (by decide +kernel) (by decide +kernel)
theorem mi_X6_save : Cond.instanceMethod yX6_save ∈ lw_good := lw_goodOk (k := 679) (by decide +kernel) (by decide +kernel)
theorem ms_X6_save : Cond.selects RX6 yX6_save yX6_save ∈ lw_good := lw_goodOk (k := 680) (by decide +kernel) (by decide +kernel)
theorem mc_X6_save : Cond.code yX6_save cX6_save 2 (some .int) ∈ lw_good := lw_goodOk (k := 681) (by decide +kernel) (by decide +kernel)
theorem mm_X6_209 : Cond.methodLink RX6 209 yX5_copyFrom ∈ lw_good := lw_goodOk (k := 682) (by decide +kernel) (by decide +kernel)
theorem mm_L_126 : Cond.methodLink RL 126 yX6_restore ∈ lw_good := lw_goodOk (k := 683) (by decide +kernel) (by decide +kernel)
theorem mi_X6_restore : Cond.instanceMethod yX6_restore ∈ lw_good := lw_goodOk (k := 684) (by decide +kernel) (by decide +kernel)
theorem ms_X6_restore : Cond.selects RX6 yX6_restore yX6_restore ∈ lw_good := lw_goodOk (k := 685) (by decide +kernel) (by decide +kernel)
theorem mc_X6_restore : Cond.code yX6_restore cX6_restore 2 (some .int) ∈ lw_good := lw_goodOk (k := 686) (by decide +kernel) (by decide +kernel)
theorem ml_L_10 : Cond.classLink RL 10 RX7 ∈ lw_good := lw_goodOk (k := 687) (by decide +kernel) (by decide +kernel)
theorem mn_X7 : Cond.instantiable RX7 16 ∈ lw_good := lw_goodOk (k := 688) (by decide +kernel) (by decide +kernel)
theorem mm_L_12 : Cond.methodLink RL 12 yX7_init ∈ lw_good := lw_goodOk (k := 689) (by decide +kernel) (by decide +kernel)
theorem mi_X7_init : Cond.instanceMethod yX7_init ∈ lw_good := lw_goodOk (k := 690) (by decide +kernel) (by decide +kernel)
theorem mc_X7_init : Cond.code yX7_init cX7_init 2 (none : Option Jvm.ClassFile.FieldType) ∈ lw_good := lw_goodOk (k := 691) (by decide +kernel) (by decide +kernel)
theorem mm_X7_1 : Cond.methodLink RX7 1 ⟨"java/lang/Object", "<init>", "()V"⟩ ∈ lw_good := lw_goodOk (k := 692) (by decide +kernel) (by decide +kernel)
theorem mf_X7_7 : Cond.fieldLink RX7 7 "TeaBlendsModel" "row" "[I" ∈ lw_good := lw_goodOk (k := 693) (by decide +kernel) (by decide +kernel)
theorem mf_X7_13 : Cond.fieldLink RX7 13 "TeaBlendsModel" "past" "[I" ∈ lw_good := lw_goodOk (k := 694) (by decide +kernel) (by decide +kernel)
theorem mf_X7_16 : Cond.fieldLink RX7 16 "TeaBlendsModel" "before" "[I" ∈ lw_good := lw_goodOk (k := 695) (by decide +kernel) (by decide +kernel)
theorem mf_X7_19 : Cond.fieldLink RX7 19 "TeaBlendsModel" "slots" "[I" ∈ lw_good := lw_goodOk (k := 696) (by decide +kernel) (by decide +kernel)
theorem mf_X7_22 : Cond.fieldLink RX7 22 "TeaBlendsModel" "isSaved" "[Z" ∈ lw_good := lw_goodOk (k := 697) (by decide +kernel) (by decide +kernel)
theorem mf_X7_51 : Cond.fieldLink RX7 51 "TeaBlendsModel" "states" "I" ∈ lw_good := lw_goodOk (k := 698) (by decide +kernel) (by decide +kernel)
theorem mf_X7_26 : Cond.fieldLink RX7 26 "TeaBlendsModel" "pad" "[I" ∈ lw_good := lw_goodOk (k := 699) (by decide +kernel) (by decide +kernel)
theorem mf_X7_139 : Cond.fieldLink RX7 139 "TeaBlendsModel" "length" "I" ∈ lw_good := lw_goodOk (k := 700) (by decide +kernel) (by decide +kernel)
theorem mf_X7_158 : Cond.fieldLink RX7 158 "TeaBlendsModel" "at" "I" ∈ lw_good := lw_goodOk (k := 701) (by decide +kernel) (by decide +kernel)
theorem mf_X7_29 : Cond.fieldLink RX7 29 "TeaBlendsModel" "codes" "[I" ∈ lw_good := lw_goodOk (k := 702) (by decide +kernel) (by decide +kernel)
theorem mf_X7_32 : Cond.fieldLink RX7 32 "TeaBlendsModel" "numbers" "[I" ∈ lw_good := lw_goodOk (k := 703) (by decide +kernel) (by decide +kernel)
theorem mf_X7_35 : Cond.fieldLink RX7 35 "TeaBlendsModel" "tried" "[I" ∈ lw_good := lw_goodOk (k := 704) (by decide +kernel) (by decide +kernel)
theorem mf_X7_38 : Cond.fieldLink RX7 38 "TeaBlendsModel" "prices" "[I" ∈ lw_good := lw_goodOk (k := 705) (by decide +kernel) (by decide +kernel)
theorem mf_X7_41 : Cond.fieldLink RX7 41 "TeaBlendsModel" "tastes" "[I" ∈ lw_good := lw_goodOk (k := 706) (by decide +kernel) (by decide +kernel)
theorem mf_X7_44 : Cond.fieldLink RX7 44 "TeaBlendsModel" "found" "[I" ∈ lw_good := lw_goodOk (k := 707) (by decide +kernel) (by decide +kernel)
theorem mf_X7_80 : Cond.fieldLink RX7 80 "TeaBlendsModel" "least" "I" ∈ lw_good := lw_goodOk (k := 708) (by decide +kernel) (by decide +kernel)
theorem mac_boolean : Cond.arrayClass .boolean ∈ lw_good := lw_goodOk (k := 742) (by decide +kernel) (by decide +kernel)
theorem mm_L_121 : Cond.methodLink RL 121 yX7_undo ∈ lw_good := lw_goodOk (k := 743) (by decide +kernel) (by decide +kernel)
theorem mi_X7_undo : Cond.instanceMethod yX7_undo ∈ lw_good := lw_goodOk (k := 744) (by decide +kernel) (by decide +kernel)
theorem ms_X7_undo : Cond.selects RX7 yX7_undo yX7_undo ∈ lw_good := lw_goodOk (k := 745) (by decide +kernel) (by decide +kernel)
theorem mc_X7_undo : Cond.code yX7_undo cX7_undo 2 (some .int) ∈ lw_good := lw_goodOk (k := 746) (by decide +kernel) (by decide +kernel)
theorem mm_L_125 : Cond.methodLink RL 125 yX7_save ∈ lw_good := lw_goodOk (k := 747) (by decide +kernel) (by decide +kernel)
theorem mi_X7_save : Cond.instanceMethod yX7_save ∈ lw_good := lw_goodOk (k := 748) (by decide +kernel) (by decide +kernel)
theorem ms_X7_save : Cond.selects RX7 yX7_save yX7_save ∈ lw_good := lw_goodOk (k := 749) (by decide +kernel) (by decide +kernel)
theorem mc_X7_save : Cond.code yX7_save cX7_save 3 (some .int) ∈ lw_good := lw_goodOk (k := 750) (by decide +kernel) (by decide +kernel)
theorem mm_X7_47 : Cond.methodLink RX7 47 yX7_in ∈ lw_good := lw_goodOk (k := 751) (by decide +kernel) (by decide +kernel)
theorem mst_X7_in : Cond.static yX7_in ∈ lw_good := lw_goodOk (k := 752) (by decide +kernel) (by decide +kernel)
theorem mc_X7_in : Cond.code yX7_in cX7_in 4 (some .boolean) ∈ lw_good := lw_goodOk (k := 753) (by decide +kernel) (by decide +kernel)
theorem mm_L_129 : Cond.methodLink RL 129 yX7_restore ∈ lw_good := lw_goodOk (k := 754) (by decide +kernel) (by decide +kernel)
theorem mi_X7_restore : Cond.instanceMethod yX7_restore ∈ lw_good := lw_goodOk (k := 755) (by decide +kernel) (by decide +kernel)
theorem ms_X7_restore : Cond.selects RX7 yX7_restore yX7_restore ∈ lw_good := lw_goodOk (k := 756) (by decide +kernel) (by decide +kernel)
theorem mc_X7_restore : Cond.code yX7_restore cX7_restore 3 (some .int) ∈ lw_good := lw_goodOk (k := 757) (by decide +kernel) (by decide +kernel)
theorem mm_X7_55 : Cond.methodLink RX7 55 yX7_remember ∈ lw_good := lw_goodOk (k := 758) (by decide +kernel) (by decide +kernel)
theorem mi_X7_remember : Cond.instanceMethod yX7_remember ∈ lw_good := lw_goodOk (k := 760) (by decide +kernel) (by decide +kernel)
theorem mc_X7_remember : Cond.code yX7_remember cX7_remember 2 (none : Option Jvm.ClassFile.FieldType) ∈ lw_good := lw_goodOk (k := 761) (by decide +kernel) (by decide +kernel)
theorem mm_X7_58 : Cond.methodLink RX7 58 yX7_record ∈ lw_good := lw_goodOk (k := 762) (by decide +kernel) (by decide +kernel)
theorem mi_X7_record : Cond.instanceMethod yX7_record ∈ lw_good := lw_goodOk (k := 764) (by decide +kernel) (by decide +kernel)
theorem mc_X7_record : Cond.code yX7_record cX7_record 3 (some .int) ∈ lw_good := lw_goodOk (k := 765) (by decide +kernel) (by decide +kernel)
theorem mm_L_17 : Cond.methodLink RL 17 yX7_set ∈ lw_good := lw_goodOk (k := 766) (by decide +kernel) (by decide +kernel)
theorem mi_X7_set : Cond.instanceMethod yX7_set ∈ lw_good := lw_goodOk (k := 767) (by decide +kernel) (by decide +kernel)
theorem ms_X7_set : Cond.selects RX7 yX7_set yX7_set ∈ lw_good := lw_goodOk (k := 768) (by decide +kernel) (by decide +kernel)
theorem mc_X7_set : Cond.code yX7_set cX7_set 4 (some .int) ∈ lw_good := lw_goodOk (k := 769) (by decide +kernel) (by decide +kernel)
theorem mm_L_22 : Cond.methodLink RL 22 yX7_leaf ∈ lw_good := lw_goodOk (k := 770) (by decide +kernel) (by decide +kernel)
theorem mi_X7_leaf : Cond.instanceMethod yX7_leaf ∈ lw_good := lw_goodOk (k := 771) (by decide +kernel) (by decide +kernel)
theorem ms_X7_leaf : Cond.selects RX7 yX7_leaf yX7_leaf ∈ lw_good := lw_goodOk (k := 772) (by decide +kernel) (by decide +kernel)
theorem mc_X7_leaf : Cond.code yX7_leaf cX7_leaf 4 (some .int) ∈ lw_good := lw_goodOk (k := 773) (by decide +kernel) (by decide +kernel)
theorem mm_X7_116 : Cond.methodLink RX7 116 yX7_comes ∈ lw_good := lw_goodOk (k := 774) (by decide +kernel) (by decide +kernel)
theorem mi_X7_comes : Cond.instanceMethod yX7_comes ∈ lw_good := lw_goodOk (k := 776) (by decide +kernel) (by decide +kernel)
theorem mc_X7_comes : Cond.code yX7_comes cX7_comes 8 (some .int) ∈ lw_good := lw_goodOk (k := 777) (by decide +kernel) (by decide +kernel)
theorem mm_X7_97 : Cond.methodLink RX7 97 yX7_lay ∈ lw_good := lw_goodOk (k := 778) (by decide +kernel) (by decide +kernel)
theorem mi_X7_lay : Cond.instanceMethod yX7_lay ∈ lw_good := lw_goodOk (k := 780) (by decide +kernel) (by decide +kernel)
theorem mc_X7_lay : Cond.code yX7_lay cX7_lay 4 (none : Option Jvm.ClassFile.FieldType) ∈ lw_good := lw_goodOk (k := 781) (by decide +kernel) (by decide +kernel)
theorem mm_L_29 : Cond.methodLink RL 29 yX7_row ∈ lw_good := lw_goodOk (k := 782) (by decide +kernel) (by decide +kernel)
theorem mi_X7_row : Cond.instanceMethod yX7_row ∈ lw_good := lw_goodOk (k := 783) (by decide +kernel) (by decide +kernel)
theorem ms_X7_row : Cond.selects RX7 yX7_row yX7_row ∈ lw_good := lw_goodOk (k := 784) (by decide +kernel) (by decide +kernel)
theorem mc_X7_row : Cond.code yX7_row cX7_row 5 (some .int) ∈ lw_good := lw_goodOk (k := 785) (by decide +kernel) (by decide +kernel)
theorem mm_X7_101 : Cond.methodLink RX7 101 yX7_isLeaf ∈ lw_good := lw_goodOk (k := 786) (by decide +kernel) (by decide +kernel)
theorem mi_X7_isLeaf : Cond.instanceMethod yX7_isLeaf ∈ lw_good := lw_goodOk (k := 788) (by decide +kernel) (by decide +kernel)
theorem mc_X7_isLeaf : Cond.code yX7_isLeaf cX7_isLeaf 2 (some .boolean) ∈ lw_good := lw_goodOk (k := 789) (by decide +kernel) (by decide +kernel)
theorem mk_X7_120 : Cond.constantLong RX7 120 (31 : Int64) ∈ lw_good := lw_goodOk (k := 790) (by decide +kernel) (by decide +kernel)
theorem mk_X7_122 : Cond.constantLong RX7 122 (18 : Int64) ∈ lw_good := lw_goodOk (k := 791) (by decide +kernel) (by decide +kernel)
theorem mm_X7_66 : Cond.methodLink RX7 66 yX7_priceOf ∈ lw_good := lw_goodOk (k := 792) (by decide +kernel) (by decide +kernel)
theorem mi_X7_priceOf : Cond.instanceMethod yX7_priceOf ∈ lw_good := lw_goodOk (k := 794) (by decide +kernel) (by decide +kernel)
theorem mc_X7_priceOf : Cond.code yX7_priceOf cX7_priceOf 3 (some .int) ∈ lw_good := lw_goodOk (k := 795) (by decide +kernel) (by decide +kernel)
theorem mm_X7_62 : Cond.methodLink RX7 62 yX7_its ∈ lw_good := lw_goodOk (k := 796) (by decide +kernel) (by decide +kernel)
theorem mi_X7_its : Cond.instanceMethod yX7_its ∈ lw_good := lw_goodOk (k := 798) (by decide +kernel) (by decide +kernel)
theorem mc_X7_its : Cond.code yX7_its cX7_its 3 (some .int) ∈ lw_good := lw_goodOk (k := 799) (by decide +kernel) (by decide +kernel)
theorem mm_L_33 : Cond.methodLink RL 33 yX7_buy ∈ lw_good := lw_goodOk (k := 800) (by decide +kernel) (by decide +kernel)
theorem mi_X7_buy : Cond.instanceMethod yX7_buy ∈ lw_good := lw_goodOk (k := 801) (by decide +kernel) (by decide +kernel)
theorem ms_X7_buy : Cond.selects RX7 yX7_buy yX7_buy ∈ lw_good := lw_goodOk (k := 802) (by decide +kernel) (by decide +kernel)
theorem mc_X7_buy : Cond.code yX7_buy cX7_buy 4 (some .int) ∈ lw_good := lw_goodOk (k := 803) (by decide +kernel) (by decide +kernel)
theorem mm_L_37 : Cond.methodLink RL 37 yX7_bound ∈ lw_good := lw_goodOk (k := 804) (by decide +kernel) (by decide +kernel)
theorem mi_X7_bound : Cond.instanceMethod yX7_bound ∈ lw_good := lw_goodOk (k := 805) (by decide +kernel) (by decide +kernel)
theorem ms_X7_bound : Cond.selects RX7 yX7_bound yX7_bound ∈ lw_good := lw_goodOk (k := 806) (by decide +kernel) (by decide +kernel)
theorem mc_X7_bound : Cond.code yX7_bound cX7_bound 5 (some .int) ∈ lw_good := lw_goodOk (k := 807) (by decide +kernel) (by decide +kernel)
theorem mm_L_41 : Cond.methodLink RL 41 yX7_share ∈ lw_good := lw_goodOk (k := 808) (by decide +kernel) (by decide +kernel)
theorem mi_X7_share : Cond.instanceMethod yX7_share ∈ lw_good := lw_goodOk (k := 809) (by decide +kernel) (by decide +kernel)
theorem ms_X7_share : Cond.selects RX7 yX7_share yX7_share ∈ lw_good := lw_goodOk (k := 810) (by decide +kernel) (by decide +kernel)
theorem mc_X7_share : Cond.code yX7_share cX7_share 3 (some .int) ∈ lw_good := lw_goodOk (k := 811) (by decide +kernel) (by decide +kernel)
theorem mm_X7_124 : Cond.methodLink RX7 124 yX7_gets ∈ lw_good := lw_goodOk (k := 812) (by decide +kernel) (by decide +kernel)
theorem mi_X7_gets : Cond.instanceMethod yX7_gets ∈ lw_good := lw_goodOk (k := 814) (by decide +kernel) (by decide +kernel)
theorem mc_X7_gets : Cond.code yX7_gets cX7_gets 4 (some .int) ∈ lw_good := lw_goodOk (k := 815) (by decide +kernel) (by decide +kernel)
theorem mm_X7_73 : Cond.methodLink RX7 73 yX7_shares ∈ lw_good := lw_goodOk (k := 816) (by decide +kernel) (by decide +kernel)
theorem mi_X7_shares : Cond.instanceMethod yX7_shares ∈ lw_good := lw_goodOk (k := 818) (by decide +kernel) (by decide +kernel)
theorem mc_X7_shares : Cond.code yX7_shares cX7_shares 3 (some .int) ∈ lw_good := lw_goodOk (k := 819) (by decide +kernel) (by decide +kernel)
theorem mm_L_46 : Cond.methodLink RL 46 yX7_choose ∈ lw_good := lw_goodOk (k := 820) (by decide +kernel) (by decide +kernel)
theorem mi_X7_choose : Cond.instanceMethod yX7_choose ∈ lw_good := lw_goodOk (k := 821) (by decide +kernel) (by decide +kernel)
theorem ms_X7_choose : Cond.selects RX7 yX7_choose yX7_choose ∈ lw_good := lw_goodOk (k := 822) (by decide +kernel) (by decide +kernel)
theorem mc_X7_choose : Cond.code yX7_choose cX7_choose 2 (some .int) ∈ lw_good := lw_goodOk (k := 823) (by decide +kernel) (by decide +kernel)
theorem mm_X7_127 : Cond.methodLink RX7 127 yX7_seek ∈ lw_good := lw_goodOk (k := 824) (by decide +kernel) (by decide +kernel)
theorem mi_X7_seek : Cond.instanceMethod yX7_seek ∈ lw_good := lw_goodOk (k := 826) (by decide +kernel) (by decide +kernel)
theorem mc_X7_seek : Cond.code yX7_seek cX7_seek 5 (none : Option Jvm.ClassFile.FieldType) ∈ lw_good := lw_goodOk (k := 827) (by decide +kernel) (by decide +kernel)
theorem mm_X7_83 : Cond.methodLink RX7 83 yX7_layDay ∈ lw_good := lw_goodOk (k := 828) (by decide +kernel) (by decide +kernel)
theorem mi_X7_layDay : Cond.instanceMethod yX7_layDay ∈ lw_good := lw_goodOk (k := 830) (by decide +kernel) (by decide +kernel)
theorem mc_X7_layDay : Cond.code yX7_layDay cX7_layDay 4 (none : Option Jvm.ClassFile.FieldType) ∈ lw_good := lw_goodOk (k := 831) (by decide +kernel) (by decide +kernel)
theorem mm_X7_69 : Cond.methodLink RX7 69 yX7_tasteOf ∈ lw_good := lw_goodOk (k := 832) (by decide +kernel) (by decide +kernel)
theorem mi_X7_tasteOf : Cond.instanceMethod yX7_tasteOf ∈ lw_good := lw_goodOk (k := 834) (by decide +kernel) (by decide +kernel)
theorem mc_X7_tasteOf : Cond.code yX7_tasteOf cX7_tasteOf 5 (some .int) ∈ lw_good := lw_goodOk (k := 835) (by decide +kernel) (by decide +kernel)
theorem mm_X7_86 : Cond.methodLink RX7 86 yX7_triedPrice ∈ lw_good := lw_goodOk (k := 836) (by decide +kernel) (by decide +kernel)
theorem mi_X7_triedPrice : Cond.instanceMethod yX7_triedPrice ∈ lw_good := lw_goodOk (k := 838) (by decide +kernel) (by decide +kernel)
theorem mc_X7_triedPrice : Cond.code yX7_triedPrice cX7_triedPrice 3 (some .int) ∈ lw_good := lw_goodOk (k := 839) (by decide +kernel) (by decide +kernel)
theorem mm_X7_89 : Cond.methodLink RX7 89 yX7_keeps ∈ lw_good := lw_goodOk (k := 840) (by decide +kernel) (by decide +kernel)
theorem mi_X7_keeps : Cond.instanceMethod yX7_keeps ∈ lw_good := lw_goodOk (k := 842) (by decide +kernel) (by decide +kernel)
theorem mc_X7_keeps : Cond.code yX7_keeps cX7_keeps 4 (some .boolean) ∈ lw_good := lw_goodOk (k := 843) (by decide +kernel) (by decide +kernel)
theorem mm_X7_93 : Cond.methodLink RX7 93 yX7_nextTried ∈ lw_good := lw_goodOk (k := 844) (by decide +kernel) (by decide +kernel)
theorem mi_X7_nextTried : Cond.instanceMethod yX7_nextTried ∈ lw_good := lw_goodOk (k := 846) (by decide +kernel) (by decide +kernel)
theorem mc_X7_nextTried : Cond.code yX7_nextTried cX7_nextTried 4 (some .boolean) ∈ lw_good := lw_goodOk (k := 847) (by decide +kernel) (by decide +kernel)
theorem mm_L_51 : Cond.methodLink RL 51 yX7_mix ∈ lw_good := lw_goodOk (k := 848) (by decide +kernel) (by decide +kernel)
theorem mi_X7_mix : Cond.instanceMethod yX7_mix ∈ lw_good := lw_goodOk (k := 849) (by decide +kernel) (by decide +kernel)
theorem ms_X7_mix : Cond.selects RX7 yX7_mix yX7_mix ∈ lw_good := lw_goodOk (k := 850) (by decide +kernel) (by decide +kernel)
theorem mc_X7_mix : Cond.code yX7_mix cX7_mix 2 (some .int) ∈ lw_good := lw_goodOk (k := 851) (by decide +kernel) (by decide +kernel)
theorem mm_X7_130 : Cond.methodLink RX7 130 yX7_mixes ∈ lw_good := lw_goodOk (k := 852) (by decide +kernel) (by decide +kernel)
theorem mi_X7_mixes : Cond.instanceMethod yX7_mixes ∈ lw_good := lw_goodOk (k := 854) (by decide +kernel) (by decide +kernel)
theorem mc_X7_mixes : Cond.code yX7_mixes cX7_mixes 4 (some .int) ∈ lw_good := lw_goodOk (k := 855) (by decide +kernel) (by decide +kernel)
theorem mm_X7_107 : Cond.methodLink RX7 107 yX7_reason ∈ lw_good := lw_goodOk (k := 856) (by decide +kernel) (by decide +kernel)
theorem mi_X7_reason : Cond.instanceMethod yX7_reason ∈ lw_good := lw_goodOk (k := 858) (by decide +kernel) (by decide +kernel)
theorem mc_X7_reason : Cond.code yX7_reason cX7_reason 4 (some .int) ∈ lw_good := lw_goodOk (k := 859) (by decide +kernel) (by decide +kernel)
theorem mm_X7_77 : Cond.methodLink RX7 77 yX7_sumOfTastes ∈ lw_good := lw_goodOk (k := 860) (by decide +kernel) (by decide +kernel)
theorem mi_X7_sumOfTastes : Cond.instanceMethod yX7_sumOfTastes ∈ lw_good := lw_goodOk (k := 862) (by decide +kernel) (by decide +kernel)
theorem mc_X7_sumOfTastes : Cond.code yX7_sumOfTastes cX7_sumOfTastes 5 (some .int) ∈ lw_good := lw_goodOk (k := 863) (by decide +kernel) (by decide +kernel)
theorem mm_X7_110 : Cond.methodLink RX7 110 yX7_suffices ∈ lw_good := lw_goodOk (k := 864) (by decide +kernel) (by decide +kernel)
theorem mi_X7_suffices : Cond.instanceMethod yX7_suffices ∈ lw_good := lw_goodOk (k := 866) (by decide +kernel) (by decide +kernel)
theorem mc_X7_suffices : Cond.code yX7_suffices cX7_suffices 3 (some .boolean) ∈ lw_good := lw_goodOk (k := 867) (by decide +kernel) (by decide +kernel)
theorem mm_X7_104 : Cond.methodLink RX7 104 yX7_needs ∈ lw_good := lw_goodOk (k := 868) (by decide +kernel) (by decide +kernel)
theorem mi_X7_needs : Cond.instanceMethod yX7_needs ∈ lw_good := lw_goodOk (k := 870) (by decide +kernel) (by decide +kernel)
theorem mc_X7_needs : Cond.code yX7_needs cX7_needs 3 (some .int) ∈ lw_good := lw_goodOk (k := 871) (by decide +kernel) (by decide +kernel)
theorem mm_X7_113 : Cond.methodLink RX7 113 yX7_sumOfPrices ∈ lw_good := lw_goodOk (k := 872) (by decide +kernel) (by decide +kernel)
theorem mi_X7_sumOfPrices : Cond.instanceMethod yX7_sumOfPrices ∈ lw_good := lw_goodOk (k := 874) (by decide +kernel) (by decide +kernel)
theorem mc_X7_sumOfPrices : Cond.code yX7_sumOfPrices cX7_sumOfPrices 3 (some .int) ∈ lw_good := lw_goodOk (k := 875) (by decide +kernel) (by decide +kernel)
theorem mm_L_55 : Cond.methodLink RL 55 yX7_pass ∈ lw_good := lw_goodOk (k := 876) (by decide +kernel) (by decide +kernel)
theorem mi_X7_pass : Cond.instanceMethod yX7_pass ∈ lw_good := lw_goodOk (k := 877) (by decide +kernel) (by decide +kernel)
theorem ms_X7_pass : Cond.selects RX7 yX7_pass yX7_pass ∈ lw_good := lw_goodOk (k := 878) (by decide +kernel) (by decide +kernel)
theorem mc_X7_pass : Cond.code yX7_pass cX7_pass 2 (some .int) ∈ lw_good := lw_goodOk (k := 879) (by decide +kernel) (by decide +kernel)
theorem mm_X7_133 : Cond.methodLink RX7 133 yX7_waits ∈ lw_good := lw_goodOk (k := 880) (by decide +kernel) (by decide +kernel)
theorem mi_X7_waits : Cond.instanceMethod yX7_waits ∈ lw_good := lw_goodOk (k := 882) (by decide +kernel) (by decide +kernel)
theorem mc_X7_waits : Cond.code yX7_waits cX7_waits 3 (some .int) ∈ lw_good := lw_goodOk (k := 883) (by decide +kernel) (by decide +kernel)
theorem mm_L_59 : Cond.methodLink RL 59 yX7_of ∈ lw_good := lw_goodOk (k := 884) (by decide +kernel) (by decide +kernel)
theorem mi_X7_of : Cond.instanceMethod yX7_of ∈ lw_good := lw_goodOk (k := 885) (by decide +kernel) (by decide +kernel)
theorem ms_X7_of : Cond.selects RX7 yX7_of yX7_of ∈ lw_good := lw_goodOk (k := 886) (by decide +kernel) (by decide +kernel)
theorem mc_X7_of : Cond.code yX7_of cX7_of 3 (some .int) ∈ lw_good := lw_goodOk (k := 887) (by decide +kernel) (by decide +kernel)
theorem mm_L_63 : Cond.methodLink RL 63 yX7_blend ∈ lw_good := lw_goodOk (k := 888) (by decide +kernel) (by decide +kernel)
theorem mi_X7_blend : Cond.instanceMethod yX7_blend ∈ lw_good := lw_goodOk (k := 889) (by decide +kernel) (by decide +kernel)
theorem ms_X7_blend : Cond.selects RX7 yX7_blend yX7_blend ∈ lw_good := lw_goodOk (k := 890) (by decide +kernel) (by decide +kernel)
theorem mc_X7_blend : Cond.code yX7_blend cX7_blend 2 (some .int) ∈ lw_good := lw_goodOk (k := 891) (by decide +kernel) (by decide +kernel)
theorem mm_X7_136 : Cond.methodLink RX7 136 yX7_mask ∈ lw_good := lw_goodOk (k := 892) (by decide +kernel) (by decide +kernel)
theorem mi_X7_mask : Cond.instanceMethod yX7_mask ∈ lw_good := lw_goodOk (k := 894) (by decide +kernel) (by decide +kernel)
theorem mc_X7_mask : Cond.code yX7_mask cX7_mask 3 (some .int) ∈ lw_good := lw_goodOk (k := 895) (by decide +kernel) (by decide +kernel)
theorem mm_L_67 : Cond.methodLink RL 67 yX7_why ∈ lw_good := lw_goodOk (k := 896) (by decide +kernel) (by decide +kernel)
theorem mi_X7_why : Cond.instanceMethod yX7_why ∈ lw_good := lw_goodOk (k := 897) (by decide +kernel) (by decide +kernel)
theorem ms_X7_why : Cond.selects RX7 yX7_why yX7_why ∈ lw_good := lw_goodOk (k := 898) (by decide +kernel) (by decide +kernel)
theorem mc_X7_why : Cond.code yX7_why cX7_why 1 (some .int) ∈ lw_good := lw_goodOk (k := 899) (by decide +kernel) (by decide +kernel)
theorem mm_L_71 : Cond.methodLink RL 71 yX7_count ∈ lw_good := lw_goodOk (k := 900) (by decide +kernel) (by decide +kernel)
theorem mi_X7_count : Cond.instanceMethod yX7_count ∈ lw_good := lw_goodOk (k := 901) (by decide +kernel) (by decide +kernel)
theorem ms_X7_count : Cond.selects RX7 yX7_count yX7_count ∈ lw_good := lw_goodOk (k := 902) (by decide +kernel) (by decide +kernel)
theorem mc_X7_count : Cond.code yX7_count cX7_count 2 (some .int) ∈ lw_good := lw_goodOk (k := 903) (by decide +kernel) (by decide +kernel)
theorem mm_L_76 : Cond.methodLink RL 76 yX7_taste ∈ lw_good := lw_goodOk (k := 904) (by decide +kernel) (by decide +kernel)
theorem mi_X7_taste : Cond.instanceMethod yX7_taste ∈ lw_good := lw_goodOk (k := 905) (by decide +kernel) (by decide +kernel)
theorem ms_X7_taste : Cond.selects RX7 yX7_taste yX7_taste ∈ lw_good := lw_goodOk (k := 906) (by decide +kernel) (by decide +kernel)
theorem mc_X7_taste : Cond.code yX7_taste cX7_taste 2 (some .long) ∈ lw_good := lw_goodOk (k := 907) (by decide +kernel) (by decide +kernel)
theorem mk_X7_142 : Cond.constantDouble RX7 142 (4626322717216342016 : UInt64) ∈ lw_good := lw_goodOk (k := 908) (by decide +kernel) (by decide +kernel)
theorem mm_X7_144 : Cond.methodLink RX7 144 yJxe99ae_doubleToLongBits_ccdee ∈ lw_good := lw_goodOk (k := 909) (by decide +kernel) (by decide +kernel)
theorem mst_Jxe99ae_doubleToLongBits_ccdee : Cond.static yJxe99ae_doubleToLongBits_ccdee ∈ lw_good := lw_goodOk (k := 910) (by decide +kernel) (by decide +kernel)
theorem mc_Jxe99ae_doubleToLongBits_ccdee : Cond.code yJxe99ae_doubleToLongBits_ccdee cJxe99ae_doubleToLongBits_ccdee 2 (some .long) ∈ lw_good := lw_goodOk (k := 911) (by decide +kernel) (by decide +kernel)
theorem mm_Jxe99ae_122 : Cond.methodLink RJxe99ae 122 yJxe99ae_isNaN_b9ae7 ∈ lw_good := lw_goodOk (k := 912) (by decide +kernel) (by decide +kernel)
theorem mst_Jxe99ae_isNaN_b9ae7 : Cond.static yJxe99ae_isNaN_b9ae7 ∈ lw_good := lw_goodOk (k := 913) (by decide +kernel) (by decide +kernel)
theorem mc_Jxe99ae_isNaN_b9ae7 : Cond.code yJxe99ae_isNaN_b9ae7 cJxe99ae_isNaN_b9ae7 2 (some .boolean) ∈ lw_good := lw_goodOk (k := 914) (by decide +kernel) (by decide +kernel)
theorem mm_Jxe99ae_134 : Cond.methodLink RJxe99ae 134 ⟨"java/lang/Double", "doubleToRawLongBits", "(D)J"⟩ ∈ lw_good := lw_goodOk (k := 915) (by decide +kernel) (by decide +kernel)
theorem mst_Double_doubleToRawLongBits : Cond.static ⟨"java/lang/Double", "doubleToRawLongBits", "(D)J"⟩ ∈ lw_good := lw_goodOk (k := 916) (by decide +kernel) (by decide +kernel)
theorem mk_Jxe99ae_137 : Cond.constantLong RJxe99ae 137 (9221120237041090560 : Int64) ∈ lw_good := lw_goodOk (k := 918) (by decide +kernel) (by decide +kernel)
theorem mm_L_80 : Cond.methodLink RL 80 yX7_mean ∈ lw_good := lw_goodOk (k := 919) (by decide +kernel) (by decide +kernel)
theorem mi_X7_mean : Cond.instanceMethod yX7_mean ∈ lw_good := lw_goodOk (k := 920) (by decide +kernel) (by decide +kernel)
theorem ms_X7_mean : Cond.selects RX7 yX7_mean yX7_mean ∈ lw_good := lw_goodOk (k := 921) (by decide +kernel) (by decide +kernel)
theorem mc_X7_mean : Cond.code yX7_mean cX7_mean 1 (some .int) ∈ lw_good := lw_goodOk (k := 922) (by decide +kernel) (by decide +kernel)
theorem mm_X7_150 : Cond.methodLink RX7 150 yJxf58ca_floatToIntBits_5c35a ∈ lw_good := lw_goodOk (k := 923) (by decide +kernel) (by decide +kernel)
theorem mst_Jxf58ca_floatToIntBits_5c35a : Cond.static yJxf58ca_floatToIntBits_5c35a ∈ lw_good := lw_goodOk (k := 924) (by decide +kernel) (by decide +kernel)
theorem mc_Jxf58ca_floatToIntBits_5c35a : Cond.code yJxf58ca_floatToIntBits_5c35a cJxf58ca_floatToIntBits_5c35a 1 (some .int) ∈ lw_good := lw_goodOk (k := 925) (by decide +kernel) (by decide +kernel)
theorem mm_Jxf58ca_59 : Cond.methodLink RJxf58ca 59 yJxf58ca_isNaN_12338 ∈ lw_good := lw_goodOk (k := 926) (by decide +kernel) (by decide +kernel)
theorem mst_Jxf58ca_isNaN_12338 : Cond.static yJxf58ca_isNaN_12338 ∈ lw_good := lw_goodOk (k := 927) (by decide +kernel) (by decide +kernel)
theorem mc_Jxf58ca_isNaN_12338 : Cond.code yJxf58ca_isNaN_12338 cJxf58ca_isNaN_12338 1 (some .boolean) ∈ lw_good := lw_goodOk (k := 928) (by decide +kernel) (by decide +kernel)
theorem mm_Jxf58ca_74 : Cond.methodLink RJxf58ca 74 ⟨"java/lang/Float", "floatToRawIntBits", "(F)I"⟩ ∈ lw_good := lw_goodOk (k := 929) (by decide +kernel) (by decide +kernel)
theorem mst_Float_floatToRawIntBits : Cond.static ⟨"java/lang/Float", "floatToRawIntBits", "(F)I"⟩ ∈ lw_good := lw_goodOk (k := 930) (by decide +kernel) (by decide +kernel)
theorem mk_Jxf58ca_77 : Cond.constant RJxf58ca 77 (2143289344 : Int32) ∈ lw_good := lw_goodOk (k := 932) (by decide +kernel) (by decide +kernel)
theorem mm_L_84 : Cond.methodLink RL 84 yX7_cheapest ∈ lw_good := lw_goodOk (k := 933) (by decide +kernel) (by decide +kernel)
theorem mi_X7_cheapest : Cond.instanceMethod yX7_cheapest ∈ lw_good := lw_goodOk (k := 934) (by decide +kernel) (by decide +kernel)
theorem ms_X7_cheapest : Cond.selects RX7 yX7_cheapest yX7_cheapest ∈ lw_good := lw_goodOk (k := 935) (by decide +kernel) (by decide +kernel)
theorem mc_X7_cheapest : Cond.code yX7_cheapest cX7_cheapest 2 (some .int) ∈ lw_good := lw_goodOk (k := 936) (by decide +kernel) (by decide +kernel)
theorem mm_L_88 : Cond.methodLink RL 88 yX7_swap ∈ lw_good := lw_goodOk (k := 937) (by decide +kernel) (by decide +kernel)
theorem mi_X7_swap : Cond.instanceMethod yX7_swap ∈ lw_good := lw_goodOk (k := 938) (by decide +kernel) (by decide +kernel)
theorem ms_X7_swap : Cond.selects RX7 yX7_swap yX7_swap ∈ lw_good := lw_goodOk (k := 939) (by decide +kernel) (by decide +kernel)
theorem mc_X7_swap : Cond.code yX7_swap cX7_swap 9 (some .int) ∈ lw_good := lw_goodOk (k := 940) (by decide +kernel) (by decide +kernel)
theorem mm_L_92 : Cond.methodLink RL 92 yX7_looser ∈ lw_good := lw_goodOk (k := 941) (by decide +kernel) (by decide +kernel)
theorem mi_X7_looser : Cond.instanceMethod yX7_looser ∈ lw_good := lw_goodOk (k := 942) (by decide +kernel) (by decide +kernel)
theorem ms_X7_looser : Cond.selects RX7 yX7_looser yX7_looser ∈ lw_good := lw_goodOk (k := 943) (by decide +kernel) (by decide +kernel)
theorem mc_X7_looser : Cond.code yX7_looser cX7_looser 5 (some .int) ∈ lw_good := lw_goodOk (k := 944) (by decide +kernel) (by decide +kernel)
theorem mm_L_96 : Cond.methodLink RL 96 yX7_keepsFor ∈ lw_good := lw_goodOk (k := 945) (by decide +kernel) (by decide +kernel)
theorem mi_X7_keepsFor : Cond.instanceMethod yX7_keepsFor ∈ lw_good := lw_goodOk (k := 946) (by decide +kernel) (by decide +kernel)
theorem ms_X7_keepsFor : Cond.selects RX7 yX7_keepsFor yX7_keepsFor ∈ lw_good := lw_goodOk (k := 947) (by decide +kernel) (by decide +kernel)
theorem mc_X7_keepsFor : Cond.code yX7_keepsFor cX7_keepsFor 2 (some .int) ∈ lw_good := lw_goodOk (k := 948) (by decide +kernel) (by decide +kernel)
theorem mm_L_100 : Cond.methodLink RL 100 yX7_mostGrams ∈ lw_good := lw_goodOk (k := 949) (by decide +kernel) (by decide +kernel)
theorem mi_X7_mostGrams : Cond.instanceMethod yX7_mostGrams ∈ lw_good := lw_goodOk (k := 950) (by decide +kernel) (by decide +kernel)
theorem ms_X7_mostGrams : Cond.selects RX7 yX7_mostGrams yX7_mostGrams ∈ lw_good := lw_goodOk (k := 951) (by decide +kernel) (by decide +kernel)
theorem mc_X7_mostGrams : Cond.code yX7_mostGrams cX7_mostGrams 2 (some .int) ∈ lw_good := lw_goodOk (k := 952) (by decide +kernel) (by decide +kernel)
theorem mm_L_105 : Cond.methodLink RL 105 yX7_put ∈ lw_good := lw_goodOk (k := 953) (by decide +kernel) (by decide +kernel)
theorem mi_X7_put : Cond.instanceMethod yX7_put ∈ lw_good := lw_goodOk (k := 954) (by decide +kernel) (by decide +kernel)
theorem ms_X7_put : Cond.selects RX7 yX7_put yX7_put ∈ lw_good := lw_goodOk (k := 955) (by decide +kernel) (by decide +kernel)
theorem mc_X7_put : Cond.code yX7_put cX7_put 7 (some .int) ∈ lw_good := lw_goodOk (k := 956) (by decide +kernel) (by decide +kernel)
theorem mk_X7_156 : Cond.constantLong RX7 156 (255 : Int64) ∈ lw_good := lw_goodOk (k := 957) (by decide +kernel) (by decide +kernel)
theorem mm_L_109 : Cond.methodLink RL 109 yX7_wipe ∈ lw_good := lw_goodOk (k := 958) (by decide +kernel) (by decide +kernel)
theorem mi_X7_wipe : Cond.instanceMethod yX7_wipe ∈ lw_good := lw_goodOk (k := 959) (by decide +kernel) (by decide +kernel)
theorem ms_X7_wipe : Cond.selects RX7 yX7_wipe yX7_wipe ∈ lw_good := lw_goodOk (k := 960) (by decide +kernel) (by decide +kernel)
theorem mc_X7_wipe : Cond.code yX7_wipe cX7_wipe 2 (some .int) ∈ lw_good := lw_goodOk (k := 961) (by decide +kernel) (by decide +kernel)
theorem mm_L_113 : Cond.methodLink RL 113 yX7_fault ∈ lw_good := lw_goodOk (k := 962) (by decide +kernel) (by decide +kernel)
theorem mi_X7_fault : Cond.instanceMethod yX7_fault ∈ lw_good := lw_goodOk (k := 963) (by decide +kernel) (by decide +kernel)
theorem ms_X7_fault : Cond.selects RX7 yX7_fault yX7_fault ∈ lw_good := lw_goodOk (k := 964) (by decide +kernel) (by decide +kernel)
theorem mc_X7_fault : Cond.code yX7_fault cX7_fault 1 (some .int) ∈ lw_good := lw_goodOk (k := 965) (by decide +kernel) (by decide +kernel)
theorem mm_X7_178 : Cond.methodLink RX7 178 yX7_isWell ∈ lw_good := lw_goodOk (k := 966) (by decide +kernel) (by decide +kernel)
theorem mi_X7_isWell : Cond.instanceMethod yX7_isWell ∈ lw_good := lw_goodOk (k := 968) (by decide +kernel) (by decide +kernel)
theorem mc_X7_isWell : Cond.code yX7_isWell cX7_isWell 2 (some .boolean) ∈ lw_good := lw_goodOk (k := 969) (by decide +kernel) (by decide +kernel)
theorem mm_X7_174 : Cond.methodLink RX7 174 yX7_order ∈ lw_good := lw_goodOk (k := 970) (by decide +kernel) (by decide +kernel)
theorem mi_X7_order : Cond.instanceMethod yX7_order ∈ lw_good := lw_goodOk (k := 972) (by decide +kernel) (by decide +kernel)
theorem mc_X7_order : Cond.code yX7_order cX7_order 4 (some .int) ∈ lw_good := lw_goodOk (k := 973) (by decide +kernel) (by decide +kernel)
theorem mm_X7_165 : Cond.methodLink RX7 165 yX7_number ∈ lw_good := lw_goodOk (k := 974) (by decide +kernel) (by decide +kernel)
theorem mi_X7_number : Cond.instanceMethod yX7_number ∈ lw_good := lw_goodOk (k := 976) (by decide +kernel) (by decide +kernel)
theorem mc_X7_number : Cond.code yX7_number cX7_number 3 (some .boolean) ∈ lw_good := lw_goodOk (k := 977) (by decide +kernel) (by decide +kernel)
theorem mm_X7_161 : Cond.methodLink RX7 161 yX7_sees ∈ lw_good := lw_goodOk (k := 978) (by decide +kernel) (by decide +kernel)
theorem mi_X7_sees : Cond.instanceMethod yX7_sees ∈ lw_good := lw_goodOk (k := 980) (by decide +kernel) (by decide +kernel)
theorem mc_X7_sees : Cond.code yX7_sees cX7_sees 3 (some .boolean) ∈ lw_good := lw_goodOk (k := 981) (by decide +kernel) (by decide +kernel)
theorem mm_X7_168 : Cond.methodLink RX7 168 yX7_sign ∈ lw_good := lw_goodOk (k := 982) (by decide +kernel) (by decide +kernel)
theorem mi_X7_sign : Cond.instanceMethod yX7_sign ∈ lw_good := lw_goodOk (k := 984) (by decide +kernel) (by decide +kernel)
theorem mc_X7_sign : Cond.code yX7_sign cX7_sign 3 (some .boolean) ∈ lw_good := lw_goodOk (k := 985) (by decide +kernel) (by decide +kernel)
theorem mm_X7_171 : Cond.methodLink RX7 171 yX7_digit ∈ lw_good := lw_goodOk (k := 986) (by decide +kernel) (by decide +kernel)
theorem mi_X7_digit : Cond.instanceMethod yX7_digit ∈ lw_good := lw_goodOk (k := 988) (by decide +kernel) (by decide +kernel)
theorem mc_X7_digit : Cond.code yX7_digit cX7_digit 1 (some .boolean) ∈ lw_good := lw_goodOk (k := 989) (by decide +kernel) (by decide +kernel)
theorem mm_L_117 : Cond.methodLink RL 117 yX7_carryOut ∈ lw_good := lw_goodOk (k := 990) (by decide +kernel) (by decide +kernel)
theorem mi_X7_carryOut : Cond.instanceMethod yX7_carryOut ∈ lw_good := lw_goodOk (k := 991) (by decide +kernel) (by decide +kernel)
theorem ms_X7_carryOut : Cond.selects RX7 yX7_carryOut yX7_carryOut ∈ lw_good := lw_goodOk (k := 992) (by decide +kernel) (by decide +kernel)
theorem mc_X7_carryOut : Cond.code yX7_carryOut cX7_carryOut 3 (some .int) ∈ lw_good := lw_goodOk (k := 993) (by decide +kernel) (by decide +kernel)
theorem mk_L_23 : Cond.constantLong RL 23 (4294967295 : Int64) ∈ lw_good := lw_goodOk (k := 994) (by decide +kernel) (by decide +kernel)
theorem mf_J0_9 : Cond.fieldLink RJ0 9 "java/lang/String" "value" "[B" ∈ lw_good := lw_goodOk (k := 995) (by decide +kernel) (by decide +kernel)
theorem mf_J0_15 : Cond.fieldLink RJ0 15 "java/lang/String" "coder" "B" ∈ lw_good := lw_goodOk (k := 996) (by decide +kernel) (by decide +kernel)
theorem ms_X4_readValues : Cond.selects RX4 yX4_readValues yX4_readValues ∈ lw_good := lw_goodOk (k := 0) (by decide +kernel) (by decide +kernel)
theorem ms_X4_readBounds : Cond.selects RX4 yX4_readBounds yX4_readBounds ∈ lw_good := lw_goodOk (k := 1) (by decide +kernel) (by decide +kernel)
theorem ms_X4_mayImprove : Cond.selects RX4 yX4_mayImprove yX4_mayImprove ∈ lw_good := lw_goodOk (k := 2) (by decide +kernel) (by decide +kernel)
theorem ms_X4_keepBest : Cond.selects RX4 yX4_keepBest yX4_keepBest ∈ lw_good := lw_goodOk (k := 3) (by decide +kernel) (by decide +kernel)
theorem ms_X4_giveTo : Cond.selects RX4 yX4_giveTo yX4_giveTo ∈ lw_good := lw_goodOk (k := 4) (by decide +kernel) (by decide +kernel)
theorem ms_X5_stocksSuffice : Cond.selects RX5 yX5_stocksSuffice yX5_stocksSuffice ∈ lw_good := lw_goodOk (k := 5) (by decide +kernel) (by decide +kernel)
theorem ms_X5_keepsAfterSwap : Cond.selects RX5 yX5_keepsAfterSwap yX5_keepsAfterSwap ∈ lw_good := lw_goodOk (k := 6) (by decide +kernel) (by decide +kernel)
theorem ms_X2_readSign : Cond.selects RX2 yX2_readSign yX2_readSign ∈ lw_good := lw_goodOk (k := 7) (by decide +kernel) (by decide +kernel)
theorem ms_X2_sign : Cond.selects RX2 yX2_sign yX2_sign ∈ lw_good := lw_goodOk (k := 8) (by decide +kernel) (by decide +kernel)
theorem ms_X2_readPart : Cond.selects RX2 yX2_readPart yX2_readPart ∈ lw_good := lw_goodOk (k := 9) (by decide +kernel) (by decide +kernel)
theorem ms_X2_readNumber : Cond.selects RX2 yX2_readNumber yX2_readNumber ∈ lw_good := lw_goodOk (k := 10) (by decide +kernel) (by decide +kernel)
theorem ms_X2_isAtDigit : Cond.selects RX2 yX2_isAtDigit yX2_isAtDigit ∈ lw_good := lw_goodOk (k := 11) (by decide +kernel) (by decide +kernel)
theorem ms_X6_carryOutOne : Cond.selects RX6 yX6_carryOutOne yX6_carryOutOne ∈ lw_good := lw_goodOk (k := 12) (by decide +kernel) (by decide +kernel)
theorem ms_X7_remember : Cond.selects RX7 yX7_remember yX7_remember ∈ lw_good := lw_goodOk (k := 13) (by decide +kernel) (by decide +kernel)
theorem ms_X7_record : Cond.selects RX7 yX7_record yX7_record ∈ lw_good := lw_goodOk (k := 14) (by decide +kernel) (by decide +kernel)
theorem ms_X7_comes : Cond.selects RX7 yX7_comes yX7_comes ∈ lw_good := lw_goodOk (k := 15) (by decide +kernel) (by decide +kernel)
theorem ms_X7_lay : Cond.selects RX7 yX7_lay yX7_lay ∈ lw_good := lw_goodOk (k := 16) (by decide +kernel) (by decide +kernel)
theorem ms_X7_isLeaf : Cond.selects RX7 yX7_isLeaf yX7_isLeaf ∈ lw_good := lw_goodOk (k := 17) (by decide +kernel) (by decide +kernel)
theorem ms_X7_priceOf : Cond.selects RX7 yX7_priceOf yX7_priceOf ∈ lw_good := lw_goodOk (k := 18) (by decide +kernel) (by decide +kernel)
theorem ms_X7_its : Cond.selects RX7 yX7_its yX7_its ∈ lw_good := lw_goodOk (k := 19) (by decide +kernel) (by decide +kernel)
theorem ms_X7_gets : Cond.selects RX7 yX7_gets yX7_gets ∈ lw_good := lw_goodOk (k := 20) (by decide +kernel) (by decide +kernel)
theorem ms_X7_shares : Cond.selects RX7 yX7_shares yX7_shares ∈ lw_good := lw_goodOk (k := 21) (by decide +kernel) (by decide +kernel)
theorem ms_X7_seek : Cond.selects RX7 yX7_seek yX7_seek ∈ lw_good := lw_goodOk (k := 22) (by decide +kernel) (by decide +kernel)
theorem ms_X7_layDay : Cond.selects RX7 yX7_layDay yX7_layDay ∈ lw_good := lw_goodOk (k := 23) (by decide +kernel) (by decide +kernel)
theorem ms_X7_tasteOf : Cond.selects RX7 yX7_tasteOf yX7_tasteOf ∈ lw_good := lw_goodOk (k := 24) (by decide +kernel) (by decide +kernel)
theorem ms_X7_triedPrice : Cond.selects RX7 yX7_triedPrice yX7_triedPrice ∈ lw_good := lw_goodOk (k := 25) (by decide +kernel) (by decide +kernel)
theorem ms_X7_keeps : Cond.selects RX7 yX7_keeps yX7_keeps ∈ lw_good := lw_goodOk (k := 26) (by decide +kernel) (by decide +kernel)
theorem ms_X7_nextTried : Cond.selects RX7 yX7_nextTried yX7_nextTried ∈ lw_good := lw_goodOk (k := 27) (by decide +kernel) (by decide +kernel)
theorem ms_X7_mixes : Cond.selects RX7 yX7_mixes yX7_mixes ∈ lw_good := lw_goodOk (k := 28) (by decide +kernel) (by decide +kernel)
theorem ms_X7_reason : Cond.selects RX7 yX7_reason yX7_reason ∈ lw_good := lw_goodOk (k := 29) (by decide +kernel) (by decide +kernel)
theorem ms_X7_sumOfTastes : Cond.selects RX7 yX7_sumOfTastes yX7_sumOfTastes ∈ lw_good := lw_goodOk (k := 30) (by decide +kernel) (by decide +kernel)
theorem ms_X7_suffices : Cond.selects RX7 yX7_suffices yX7_suffices ∈ lw_good := lw_goodOk (k := 31) (by decide +kernel) (by decide +kernel)
theorem ms_X7_needs : Cond.selects RX7 yX7_needs yX7_needs ∈ lw_good := lw_goodOk (k := 32) (by decide +kernel) (by decide +kernel)
theorem ms_X7_sumOfPrices : Cond.selects RX7 yX7_sumOfPrices yX7_sumOfPrices ∈ lw_good := lw_goodOk (k := 33) (by decide +kernel) (by decide +kernel)
theorem ms_X7_waits : Cond.selects RX7 yX7_waits yX7_waits ∈ lw_good := lw_goodOk (k := 34) (by decide +kernel) (by decide +kernel)
theorem ms_X7_mask : Cond.selects RX7 yX7_mask yX7_mask ∈ lw_good := lw_goodOk (k := 35) (by decide +kernel) (by decide +kernel)
theorem ms_X7_isWell : Cond.selects RX7 yX7_isWell yX7_isWell ∈ lw_good := lw_goodOk (k := 36) (by decide +kernel) (by decide +kernel)
theorem ms_X7_order : Cond.selects RX7 yX7_order yX7_order ∈ lw_good := lw_goodOk (k := 37) (by decide +kernel) (by decide +kernel)
theorem ms_X7_number : Cond.selects RX7 yX7_number yX7_number ∈ lw_good := lw_goodOk (k := 38) (by decide +kernel) (by decide +kernel)
theorem ms_X7_sees : Cond.selects RX7 yX7_sees yX7_sees ∈ lw_good := lw_goodOk (k := 39) (by decide +kernel) (by decide +kernel)
theorem ms_X7_sign : Cond.selects RX7 yX7_sign yX7_sign ∈ lw_good := lw_goodOk (k := 40) (by decide +kernel) (by decide +kernel)
theorem ms_X7_digit : Cond.selects RX7 yX7_digit yX7_digit ∈ lw_good := lw_goodOk (k := 41) (by decide +kernel) (by decide +kernel)
end
section
theorem inX0 : ∀ w ∈ wsX00, w ∈ lw_good := by decide +kernel
theorem inX1 : ∀ w ∈ wsX10, w ∈ lw_good := by decide +kernel
theorem inX2 : ∀ w ∈ wsX20, w ∈ lw_good := by decide +kernel
theorem inX3 : ∀ w ∈ wsX30, w ∈ lw_good := by decide +kernel
theorem inX4 : ∀ w ∈ wsX40, w ∈ lw_good := by decide +kernel
theorem inX5 : ∀ w ∈ wsX50, w ∈ lw_good := by decide +kernel
theorem inX6 : ∀ w ∈ wsX60, w ∈ lw_good := by decide +kernel
theorem inX7 : ∀ w ∈ wsX70, w ∈ lw_good := by decide +kernel
theorem cw_L_9 {R : Room} {s : State} {args : Array Value} {rm : Room} (ht : ∀ w ∈ lw_good, w.before args s = true) (hR : rm.frames + 1 ≤ R.frames ∧ 8 + (1 + 11) + rm.locals ≤ R.locals) : CallB R s args RL 9 yX6_init cX6_init 1 none (ws_ yX6_init cX6_init 1 none) rm rm.cells rm.slots 0 ∧ yX6_init.name = "<init>" ∧ (Cond.instanceMethod yX6_init).before args s = true := cwI 0 ht (gI mc_X6_init) rfl rfl rfl (ht _ mz_X6) (ht _ mm_L_9) (ht _ mi_X6_init) rfl (by decide +kernel) hR
theorem cw_X6_9 {R : Room} {s : State} {args : Array Value} {rm : Room} (ht : ∀ w ∈ lw_good, w.before args s = true) (hR : rm.frames + 1 ≤ R.frames ∧ 8 + (2 + 11) + rm.locals ≤ R.locals) : CallB R s args RX6 9 yX5_init cX5_init 2 none (ws_ yX5_init cX5_init 2 none) rm rm.cells rm.slots 0 ∧ yX5_init.name = "<init>" ∧ (Cond.instanceMethod yX5_init).before args s = true := cwI 0 ht (gI mc_X5_init) rfl rfl rfl (ht _ mz_X5) (ht _ mm_X6_9) (ht _ mi_X5_init) rfl (by decide +kernel) hR
theorem cw_X5_36 {R : Room} {s : State} {args : Array Value} {rm : Room} (ht : ∀ w ∈ lw_good, w.before args s = true) (hR : rm.frames + 1 ≤ R.frames ∧ 8 + (4 + 11) + rm.locals ≤ R.locals) : CallB R s args RX5 36 yJ7_fill_53178 cJ7_fill_53178 4 ((none : Option Jvm.ClassFile.FieldType)) (ws_ yJ7_fill_53178 cJ7_fill_53178 4 ((none : Option Jvm.ClassFile.FieldType))) rm rm.cells rm.slots 2 ∧ (Cond.static yJ7_fill_53178).before args s = true := va_cwS 2 ht (gS mm_X5_36 mst_J7_fill_53178 mz_J7 mc_J7_fill_53178) rfl rfl rfl (by decide +kernel) hR
theorem cw_X6_18 {R : Room} {s : State} {args : Array Value} {rm : Room} (ht : ∀ w ∈ lw_good, w.before args s = true) (hR : rm.frames + 1 ≤ R.frames ∧ 8 + (2 + 11) + rm.locals ≤ R.locals) : CallB R s args RX6 18 yX0_init cX0_init 2 none (ws_ yX0_init cX0_init 2 none) rm rm.cells rm.slots 0 ∧ yX0_init.name = "<init>" ∧ (Cond.instanceMethod yX0_init).before args s = true := cwI 0 ht (gI mc_X0_init) rfl rfl rfl (ht _ mz_X0) (ht _ mm_X6_18) (ht _ mi_X0_init) rfl (by decide +kernel) hR
theorem cw_X0_17 {R : Room} {s : State} {args : Array Value} {rm : Room} (ht : ∀ w ∈ lw_good, w.before args s = true) (hR : rm.frames + 1 ≤ R.frames ∧ 8 + (2 + 11) + rm.locals ≤ R.locals) : CallB R s args RX0 17 yX5_init cX5_init 2 none (ws_ yX5_init cX5_init 2 none) rm rm.cells rm.slots 0 ∧ yX5_init.name = "<init>" ∧ (Cond.instanceMethod yX5_init).before args s = true := cwI 0 ht (gI mc_X5_init) rfl rfl rfl (ht _ mz_X5) (ht _ mm_X0_17) (ht _ mi_X5_init) rfl (by decide +kernel) hR
theorem cw_X6_36 {R : Room} {s : State} {args : Array Value} {rm : Room} (ht : ∀ w ∈ lw_good, w.before args s = true) (hR : rm.frames + 1 ≤ R.frames ∧ 8 + (2 + 11) + rm.locals ≤ R.locals) : CallB R s args RX6 36 yX2_init cX2_init 2 none (ws_ yX2_init cX2_init 2 none) rm rm.cells rm.slots 1 ∧ yX2_init.name = "<init>" ∧ (Cond.instanceMethod yX2_init).before args s = true := cwI 1 ht (gI mc_X2_init) rfl rfl rfl (ht _ mz_X2) (ht _ mm_X6_36) (ht _ mi_X2_init) rfl (by decide +kernel) hR
theorem cw_L_13 {R : Room} {s : State} {args : Array Value} {rm : Room} (ht : ∀ w ∈ lw_good, w.before args s = true) (hR : rm.frames + 1 ≤ R.frames ∧ 8 + (3 + 11) + rm.locals ≤ R.locals) : CallW R s args RL RX6 13 yX6_set cX6_set 3 ((some .int)) (ws_ yX6_set cX6_set 3 ((some .int))) rm rm.cells rm.slots 2 := cwV 2 ht (gV mm_L_13 mi_X6_set ms_X6_set mz_X6 mc_X6_set) rfl rfl rfl (by decide +kernel) hR
theorem cw_X6_50 {R : Room} {s : State} {args : Array Value} {rm : Room} (ht : ∀ w ∈ lw_good, w.before args s = true) (hR : rm.frames + 1 ≤ R.frames ∧ 8 + (2 + 11) + rm.locals ≤ R.locals) : CallW R s args RX6 RX0 50 yX0_draft cX0_draft 2 ((none : Option Jvm.ClassFile.FieldType)) (ws_ yX0_draft cX0_draft 2 ((none : Option Jvm.ClassFile.FieldType))) rm rm.cells rm.slots 1 := cwV 1 ht (gV mm_X6_50 mi_X0_draft ms_X0_draft mz_X0 mc_X0_draft) rfl rfl rfl (by decide +kernel) hR
theorem cw_X0_22 {R : Room} {s : State} {args : Array Value} {rm : Room} (ht : ∀ w ∈ lw_good, w.before args s = true) (hR : rm.frames + 1 ≤ R.frames ∧ 8 + (3 + 11) + rm.locals ≤ R.locals) : CallW R s args RX0 RX5 22 yX5_copyFrom cX5_copyFrom 3 ((none : Option Jvm.ClassFile.FieldType)) (ws_ yX5_copyFrom cX5_copyFrom 3 ((none : Option Jvm.ClassFile.FieldType))) rm rm.cells rm.slots 1 := cwV 1 ht (gV mm_X0_22 mi_X5_copyFrom ms_X5_copyFrom mz_X5 mc_X5_copyFrom) rfl rfl rfl (by decide +kernel) hR
theorem cw_X5_42 {R : Room} {s : State} {args : Array Value} {rm : Room} (ht : ∀ w ∈ lw_good, w.before args s = true) (hR : rm.frames + 1 ≤ R.frames ∧ 8 + (2 + 11) + rm.locals ≤ R.locals) : CallW R s args RX5 RX1 42 yX1_copyFrom cX1_copyFrom 2 ((none : Option Jvm.ClassFile.FieldType)) (ws_ yX1_copyFrom cX1_copyFrom 2 ((none : Option Jvm.ClassFile.FieldType))) rm rm.cells rm.slots 1 := cwV 1 ht (gV mm_X5_42 mi_X1_copyFrom ms_X1_copyFrom mz_X1 mc_X1_copyFrom) rfl rfl rfl (by decide +kernel) hR
theorem cw_X6_54 {R : Room} {s : State} {args : Array Value} {rm : Room} (ht : ∀ w ∈ lw_good, w.before args s = true) (hR : rm.frames + 1 ≤ R.frames ∧ 8 + (4 + 11) + rm.locals ≤ R.locals) : CallW R s args RX6 RX5 54 yX5_changeSetting cX5_changeSetting 4 ((some .int)) (ws_ yX5_changeSetting cX5_changeSetting 4 ((some .int))) rm rm.cells rm.slots 2 := cwV 2 ht (gV mm_X6_54 mi_X5_changeSetting ms_X5_changeSetting mz_X5 mc_X5_changeSetting) rfl rfl rfl (by decide +kernel) hR
theorem cw_X5_71 {R : Room} {s : State} {args : Array Value} {rm : Room} (ht : ∀ w ∈ lw_good, w.before args s = true) (hR : rm.frames + 1 ≤ R.frames ∧ 8 + (3 + 11) + rm.locals ≤ R.locals) : CallB R s args RX5 71 yX5_isWithin cX5_isWithin 3 ((some .boolean)) (ws_ yX5_isWithin cX5_isWithin 3 ((some .boolean))) rm rm.cells rm.slots 3 ∧ (Cond.static yX5_isWithin).before args s = true := va_cwS 3 ht (gS mm_X5_71 mst_X5_isWithin mz_X5 mc_X5_isWithin) rfl rfl rfl (by decide +kernel) hR
theorem cw_X6_58 {R : Room} {s : State} {args : Array Value} {rm : Room} (ht : ∀ w ∈ lw_good, w.before args s = true) (hR : rm.frames + 1 ≤ R.frames ∧ 8 + (2 + 11) + rm.locals ≤ R.locals) : CallW R s args RX6 RX0 58 yX0_settle cX0_settle 2 ((some .int)) (ws_ yX0_settle cX0_settle 2 ((some .int))) rm rm.cells rm.slots 1 := cwV 1 ht (gV mm_X6_58 mi_X0_settle ms_X0_settle mz_X0 mc_X0_settle) rfl rfl rfl (by decide +kernel) hR
theorem cw_X0_29 {R : Room} {s : State} {args : Array Value} {rm : Room} (ht : ∀ w ∈ lw_good, w.before args s = true) (hR : rm.frames + 1 ≤ R.frames ∧ 8 + (2 + 11) + rm.locals ≤ R.locals) : CallB R s args RX0 29 yJ9_min_7cf53 cJ9_min_7cf53 2 ((some .int)) (ws_ yJ9_min_7cf53 cJ9_min_7cf53 2 ((some .int))) rm rm.cells rm.slots 2 ∧ (Cond.static yJ9_min_7cf53).before args s = true := va_cwS 2 ht (gS mm_X0_29 mst_J9_min_7cf53 mz_J9 mc_J9_min_7cf53) rfl rfl rfl (by decide +kernel) hR
theorem cw_L_18 {R : Room} {s : State} {args : Array Value} {rm : Room} (ht : ∀ w ∈ lw_good, w.before args s = true) (hR : rm.frames + 1 ≤ R.frames ∧ 8 + (4 + 11) + rm.locals ≤ R.locals) : CallW R s args RL RX6 18 yX6_leaf cX6_leaf 4 ((some .int)) (ws_ yX6_leaf cX6_leaf 4 ((some .int))) rm rm.cells rm.slots 3 := cwV 3 ht (gV mm_L_18 mi_X6_leaf ms_X6_leaf mz_X6 mc_X6_leaf) rfl rfl rfl (by decide +kernel) hR
theorem cw_X6_62 {R : Room} {s : State} {args : Array Value} {rm : Room} (ht : ∀ w ∈ lw_good, w.before args s = true) (hR : rm.frames + 1 ≤ R.frames ∧ 8 + (8 + 11) + rm.locals ≤ R.locals) : CallW R s args RX6 RX5 62 yX5_addLeaf cX5_addLeaf 8 ((some .int)) (ws_ yX5_addLeaf cX5_addLeaf 8 ((some .int))) rm rm.cells rm.slots 5 := cwV 5 ht (gV mm_X6_62 mi_X5_addLeaf ms_X5_addLeaf mz_X5 mc_X5_addLeaf) rfl rfl rfl (by decide +kernel) hR
theorem cw_X5_75 {R : Room} {s : State} {args : Array Value} {rm : Room} (ht : ∀ w ∈ lw_good, w.before args s = true) (hR : rm.frames + 1 ≤ R.frames ∧ 8 + (3 + 11) + rm.locals ≤ R.locals) : CallW R s args RX5 RX1 75 yX1_comeFresh cX1_comeFresh 3 ((none : Option Jvm.ClassFile.FieldType)) (ws_ yX1_comeFresh cX1_comeFresh 3 ((none : Option Jvm.ClassFile.FieldType))) rm rm.cells rm.slots 2 := cwV 2 ht (gV mm_X5_75 mi_X1_comeFresh ms_X1_comeFresh mz_X1 mc_X1_comeFresh) rfl rfl rfl (by decide +kernel) hR
theorem cw_X1_37 {R : Room} {s : State} {args : Array Value} {rm : Room} (ht : ∀ w ∈ lw_good, w.before args s = true) (hR : rm.frames + 1 ≤ R.frames ∧ 8 + (4 + 11) + rm.locals ≤ R.locals) : CallB R s args RX1 37 yJ7_fill_53178 cJ7_fill_53178 4 ((none : Option Jvm.ClassFile.FieldType)) (ws_ yJ7_fill_53178 cJ7_fill_53178 4 ((none : Option Jvm.ClassFile.FieldType))) rm rm.cells rm.slots 2 ∧ (Cond.static yJ7_fill_53178).before args s = true := va_cwS 2 ht (gS mm_X1_37 mst_J7_fill_53178 mz_J7 mc_J7_fill_53178) rfl rfl rfl (by decide +kernel) hR
theorem cw_L_25 {R : Room} {s : State} {args : Array Value} {rm : Room} (ht : ∀ w ∈ lw_good, w.before args s = true) (hR : rm.frames + 1 ≤ R.frames ∧ 8 + (4 + 11) + rm.locals ≤ R.locals) : CallW R s args RL RX6 25 yX6_row cX6_row 4 ((some .int)) (ws_ yX6_row cX6_row 4 ((some .int))) rm rm.cells rm.slots 2 := cwV 2 ht (gV mm_L_25 mi_X6_row ms_X6_row mz_X6 mc_X6_row) rfl rfl rfl (by decide +kernel) hR
theorem cw_X6_66 {R : Room} {s : State} {args : Array Value} {rm : Room} (ht : ∀ w ∈ lw_good, w.before args s = true) (hR : rm.frames + 1 ≤ R.frames ∧ 8 + (6 + 11) + rm.locals ≤ R.locals) : CallW R s args RX6 RX5 66 yX5_changeRow cX5_changeRow 6 ((some .int)) (ws_ yX5_changeRow cX5_changeRow 6 ((some .int))) rm rm.cells rm.slots 2 := cwV 2 ht (gV mm_X6_66 mi_X5_changeRow ms_X5_changeRow mz_X5 mc_X5_changeRow) rfl rfl rfl (by decide +kernel) hR
theorem cw_X5_82 {R : Room} {s : State} {args : Array Value} {rm : Room} (ht : ∀ w ∈ lw_good, w.before args s = true) (hR : rm.frames + 1 ≤ R.frames ∧ 8 + (2 + 11) + rm.locals ≤ R.locals) : CallW R s args RX5 RX5 82 yX5_hasLeaf cX5_hasLeaf 2 ((some .boolean)) (ws_ yX5_hasLeaf cX5_hasLeaf 2 ((some .boolean))) rm rm.cells rm.slots 1 := cwV 1 ht (gV mm_X5_82 mi_X5_hasLeaf ms_X5_hasLeaf mz_X5 mc_X5_hasLeaf) rfl rfl rfl (by decide +kernel) hR
theorem cw_X5_86 {R : Room} {s : State} {args : Array Value} {rm : Room} (ht : ∀ w ∈ lw_good, w.before args s = true) (hR : rm.frames + 1 ≤ R.frames ∧ 8 + (3 + 11) + rm.locals ≤ R.locals) : CallB R s args RX5 86 yX5_changeIn cX5_changeIn 3 ((some .int)) (ws_ yX5_changeIn cX5_changeIn 3 ((some .int))) rm rm.cells rm.slots 2 ∧ (Cond.static yX5_changeIn).before args s = true := va_cwS 2 ht (gS mm_X5_86 mst_X5_changeIn mz_X5 mc_X5_changeIn) rfl rfl rfl (by decide +kernel) hR
theorem cw_X5_93 {R : Room} {s : State} {args : Array Value} {rm : Room} (ht : ∀ w ∈ lw_good, w.before args s = true) (hR : rm.frames + 1 ≤ R.frames ∧ 8 + (4 + 11) + rm.locals ≤ R.locals) : CallW R s args RX5 RX5 93 yX5_priceOf cX5_priceOf 4 ((some .int)) (ws_ yX5_priceOf cX5_priceOf 4 ((some .int))) rm rm.cells rm.slots 1 := cwV 1 ht (gV mm_X5_93 mi_X5_priceOf ms_X5_priceOf mz_X5 mc_X5_priceOf) rfl rfl rfl (by decide +kernel) hR
theorem cw_X5_127 {R : Room} {s : State} {args : Array Value} {rm : Room} (ht : ∀ w ∈ lw_good, w.before args s = true) (hR : rm.frames + 1 ≤ R.frames ∧ 8 + (2 + 11) + rm.locals ≤ R.locals) : CallB R s args RX5 127 yJ9_max_7cf53 cJ9_max_7cf53 2 ((some .int)) (ws_ yJ9_max_7cf53 cJ9_max_7cf53 2 ((some .int))) rm rm.cells rm.slots 2 ∧ (Cond.static yJ9_max_7cf53).before args s = true := va_cwS 2 ht (gS mm_X5_127 mst_J9_max_7cf53 mz_J9 mc_J9_max_7cf53) rfl rfl rfl (by decide +kernel) hR
theorem cw_L_30 {R : Room} {s : State} {args : Array Value} {rm : Room} (ht : ∀ w ∈ lw_good, w.before args s = true) (hR : rm.frames + 1 ≤ R.frames ∧ 8 + (3 + 11) + rm.locals ≤ R.locals) : CallW R s args RL RX6 30 yX6_buy cX6_buy 3 ((some .int)) (ws_ yX6_buy cX6_buy 3 ((some .int))) rm rm.cells rm.slots 2 := cwV 2 ht (gV mm_L_30 mi_X6_buy ms_X6_buy mz_X6 mc_X6_buy) rfl rfl rfl (by decide +kernel) hR
theorem cw_X6_70 {R : Room} {s : State} {args : Array Value} {rm : Room} (ht : ∀ w ∈ lw_good, w.before args s = true) (hR : rm.frames + 1 ≤ R.frames ∧ 8 + (5 + 11) + rm.locals ≤ R.locals) : CallW R s args RX6 RX5 70 yX5_addGrams cX5_addGrams 5 ((some .int)) (ws_ yX5_addGrams cX5_addGrams 5 ((some .int))) rm rm.cells rm.slots 2 := cwV 2 ht (gV mm_X6_70 mi_X5_addGrams ms_X5_addGrams mz_X5 mc_X5_addGrams) rfl rfl rfl (by decide +kernel) hR
theorem cw_L_34 {R : Room} {s : State} {args : Array Value} {rm : Room} (ht : ∀ w ∈ lw_good, w.before args s = true) (hR : rm.frames + 1 ≤ R.frames ∧ 8 + (4 + 11) + rm.locals ≤ R.locals) : CallW R s args RL RX6 34 yX6_bound cX6_bound 4 ((some .int)) (ws_ yX6_bound cX6_bound 4 ((some .int))) rm rm.cells rm.slots 3 := cwV 3 ht (gV mm_L_34 mi_X6_bound ms_X6_bound mz_X6 mc_X6_bound) rfl rfl rfl (by decide +kernel) hR
theorem cw_X6_73 {R : Room} {s : State} {args : Array Value} {rm : Room} (ht : ∀ w ∈ lw_good, w.before args s = true) (hR : rm.frames + 1 ≤ R.frames ∧ 8 + (5 + 11) + rm.locals ≤ R.locals) : CallW R s args RX6 RX5 73 yX5_changeBounds cX5_changeBounds 5 ((some .int)) (ws_ yX5_changeBounds cX5_changeBounds 5 ((some .int))) rm rm.cells rm.slots 3 := cwV 3 ht (gV mm_X6_73 mi_X5_changeBounds ms_X5_changeBounds mz_X5 mc_X5_changeBounds) rfl rfl rfl (by decide +kernel) hR
theorem cw_L_38 {R : Room} {s : State} {args : Array Value} {rm : Room} (ht : ∀ w ∈ lw_good, w.before args s = true) (hR : rm.frames + 1 ≤ R.frames ∧ 8 + (3 + 11) + rm.locals ≤ R.locals) : CallW R s args RL RX6 38 yX6_share cX6_share 3 ((some .int)) (ws_ yX6_share cX6_share 3 ((some .int))) rm rm.cells rm.slots 2 := cwV 2 ht (gV mm_L_38 mi_X6_share ms_X6_share mz_X6 mc_X6_share) rfl rfl rfl (by decide +kernel) hR
theorem cw_X6_77 {R : Room} {s : State} {args : Array Value} {rm : Room} (ht : ∀ w ∈ lw_good, w.before args s = true) (hR : rm.frames + 1 ≤ R.frames ∧ 8 + (4 + 11) + rm.locals ≤ R.locals) : CallW R s args RX6 RX5 77 yX5_changeShare cX5_changeShare 4 ((some .int)) (ws_ yX5_changeShare cX5_changeShare 4 ((some .int))) rm rm.cells rm.slots 2 := cwV 2 ht (gV mm_X6_77 mi_X5_changeShare ms_X5_changeShare mz_X5 mc_X5_changeShare) rfl rfl rfl (by decide +kernel) hR
theorem cw_X5_105 {R : Room} {s : State} {args : Array Value} {rm : Room} (ht : ∀ w ∈ lw_good, w.before args s = true) (hR : rm.frames + 1 ≤ R.frames ∧ 8 + (3 + 11) + rm.locals ≤ R.locals) : CallW R s args RX5 RX5 105 yX5_allShares cX5_allShares 3 ((some .int)) (ws_ yX5_allShares cX5_allShares 3 ((some .int))) rm rm.cells rm.slots 0 := cwV 0 ht (gV mm_X5_105 mi_X5_allShares ms_X5_allShares mz_X5 mc_X5_allShares) rfl rfl rfl (by decide +kernel) hR
theorem cw_L_42 {R : Room} {s : State} {args : Array Value} {rm : Room} (ht : ∀ w ∈ lw_good, w.before args s = true) (hR : rm.frames + 1 ≤ R.frames ∧ 8 + (1 + 11) + rm.locals ≤ R.locals) : CallW R s args RL RX6 42 yX6_choose cX6_choose 1 ((some .int)) (ws_ yX6_choose cX6_choose 1 ((some .int))) rm rm.cells rm.slots 0 := cwV 0 ht (gV mm_L_42 mi_X6_choose ms_X6_choose mz_X6 mc_X6_choose) rfl rfl rfl (by decide +kernel) hR
theorem cw_X6_80 {R : Room} {s : State} {args : Array Value} {rm : Room} (ht : ∀ w ∈ lw_good, w.before args s = true) (hR : rm.frames + 1 ≤ R.frames ∧ 8 + (3 + 11) + rm.locals ≤ R.locals) : CallW R s args RX6 RX4 80 yX4_find cX4_find 3 ((some .boolean)) (ws_ yX4_find cX4_find 3 ((some .boolean))) rm rm.cells rm.slots 2 := cwV 2 ht (gV mm_X6_80 mi_X4_find ms_X4_find mz_X4 mc_X4_find) rfl rfl rfl (by decide +kernel) hR
theorem cw_X4_45 {R : Room} {s : State} {args : Array Value} {rm : Room} (ht : ∀ w ∈ lw_good, w.before args s = true) (hR : rm.frames + 1 ≤ R.frames ∧ 8 + (6 + 11) + rm.locals ≤ R.locals) : CallW R s args RX4 RX4 45 yX4_readValues cX4_readValues 6 ((none : Option Jvm.ClassFile.FieldType)) (ws_ yX4_readValues cX4_readValues 6 ((none : Option Jvm.ClassFile.FieldType))) rm rm.cells rm.slots 1 := cwV 1 ht (gV mm_X4_45 mi_X4_readValues ms_X4_readValues mz_X4 mc_X4_readValues) rfl rfl rfl (by decide +kernel) hR
theorem cw_X4_67 {R : Room} {s : State} {args : Array Value} {rm : Room} (ht : ∀ w ∈ lw_good, w.before args s = true) (hR : rm.frames + 1 ≤ R.frames ∧ 8 + (5 + 11) + rm.locals ≤ R.locals) : CallW R s args RX4 RX5 67 yX5_tasteOf cX5_tasteOf 5 ((some .int)) (ws_ yX5_tasteOf cX5_tasteOf 5 ((some .int))) rm rm.cells rm.slots 3 := cwV 3 ht (gV mm_X4_67 mi_X5_tasteOf ms_X5_tasteOf mz_X5 mc_X5_tasteOf) rfl rfl rfl (by decide +kernel) hR
theorem cw_X4_71 {R : Room} {s : State} {args : Array Value} {rm : Room} (ht : ∀ w ∈ lw_good, w.before args s = true) (hR : rm.frames + 1 ≤ R.frames ∧ 8 + (4 + 11) + rm.locals ≤ R.locals) : CallW R s args RX4 RX5 71 yX5_priceOf cX5_priceOf 4 ((some .int)) (ws_ yX5_priceOf cX5_priceOf 4 ((some .int))) rm rm.cells rm.slots 1 := cwV 1 ht (gV mm_X4_71 mi_X5_priceOf ms_X5_priceOf mz_X5 mc_X5_priceOf) rfl rfl rfl (by decide +kernel) hR
theorem cw_X4_75 {R : Room} {s : State} {args : Array Value} {rm : Room} (ht : ∀ w ∈ lw_good, w.before args s = true) (hR : rm.frames + 1 ≤ R.frames ∧ 8 + (2 + 11) + rm.locals ≤ R.locals) : CallB R s args RX4 75 yJ9_min_7cf53 cJ9_min_7cf53 2 ((some .int)) (ws_ yJ9_min_7cf53 cJ9_min_7cf53 2 ((some .int))) rm rm.cells rm.slots 2 ∧ (Cond.static yJ9_min_7cf53).before args s = true := va_cwS 2 ht (gS mm_X4_75 mst_J9_min_7cf53 mz_J9 mc_J9_min_7cf53) rfl rfl rfl (by decide +kernel) hR
theorem cw_X4_81 {R : Room} {s : State} {args : Array Value} {rm : Room} (ht : ∀ w ∈ lw_good, w.before args s = true) (hR : rm.frames + 1 ≤ R.frames ∧ 8 + (2 + 11) + rm.locals ≤ R.locals) : CallB R s args RX4 81 yJ9_max_7cf53 cJ9_max_7cf53 2 ((some .int)) (ws_ yJ9_max_7cf53 cJ9_max_7cf53 2 ((some .int))) rm rm.cells rm.slots 2 ∧ (Cond.static yJ9_max_7cf53).before args s = true := va_cwS 2 ht (gS mm_X4_81 mst_J9_max_7cf53 mz_J9 mc_J9_max_7cf53) rfl rfl rfl (by decide +kernel) hR
theorem cw_X4_49 {R : Room} {s : State} {args : Array Value} {rm : Room} (ht : ∀ w ∈ lw_good, w.before args s = true) (hR : rm.frames + 1 ≤ R.frames ∧ 8 + (6 + 11) + rm.locals ≤ R.locals) : CallW R s args RX4 RX4 49 yX4_readBounds cX4_readBounds 6 ((none : Option Jvm.ClassFile.FieldType)) (ws_ yX4_readBounds cX4_readBounds 6 ((none : Option Jvm.ClassFile.FieldType))) rm rm.cells rm.slots 2 := cwV 2 ht (gV mm_X4_49 mi_X4_readBounds ms_X4_readBounds mz_X4 mc_X4_readBounds) rfl rfl rfl (by decide +kernel) hR
theorem cw_X4_57 {R : Room} {s : State} {args : Array Value} {rm : Room} (ht : ∀ w ∈ lw_good, w.before args s = true) (hR : rm.frames + 1 ≤ R.frames ∧ 8 + (4 + 11) + rm.locals ≤ R.locals) : CallB R s args RX4 57 yJ7_fill_53178 cJ7_fill_53178 4 ((none : Option Jvm.ClassFile.FieldType)) (ws_ yJ7_fill_53178 cJ7_fill_53178 4 ((none : Option Jvm.ClassFile.FieldType))) rm rm.cells rm.slots 2 ∧ (Cond.static yJ7_fill_53178).before args s = true := va_cwS 2 ht (gS mm_X4_57 mst_J7_fill_53178 mz_J7 mc_J7_fill_53178) rfl rfl rfl (by decide +kernel) hR
theorem cw_X4_63 {R : Room} {s : State} {args : Array Value} {rm : Room} (ht : ∀ w ∈ lw_good, w.before args s = true) (hR : rm.frames + 1 ≤ R.frames ∧ 8 + (4 + 11) + rm.locals ≤ R.locals) : CallB R s args RX4 63 yX4_tryShares cX4_tryShares 4 ((none : Option Jvm.ClassFile.FieldType)) (ws_ yX4_tryShares cX4_tryShares 4 ((none : Option Jvm.ClassFile.FieldType))) rm rm.cells rm.slots 3 ∧ (Cond.static yX4_tryShares).before args s = true := va_cwS 3 ht (gS mm_X4_63 mst_X4_tryShares mz_X4 mc_X4_tryShares) rfl rfl rfl (by decide +kernel) hR
theorem cw_X4_90 {R : Room} {s : State} {args : Array Value} {rm : Room} (ht : ∀ w ∈ lw_good, w.before args s = true) (hR : rm.frames + 1 ≤ R.frames ∧ 8 + (5 + 11) + rm.locals ≤ R.locals) : CallW R s args RX4 RX4 90 yX4_mayImprove cX4_mayImprove 5 ((some .boolean)) (ws_ yX4_mayImprove cX4_mayImprove 5 ((some .boolean))) rm rm.cells rm.slots 2 := cwV 2 ht (gV mm_X4_90 mi_X4_mayImprove ms_X4_mayImprove mz_X4 mc_X4_mayImprove) rfl rfl rfl (by decide +kernel) hR
theorem cw_X4_94 {R : Room} {s : State} {args : Array Value} {rm : Room} (ht : ∀ w ∈ lw_good, w.before args s = true) (hR : rm.frames + 1 ≤ R.frames ∧ 8 + (3 + 11) + rm.locals ≤ R.locals) : CallW R s args RX4 RX4 94 yX4_keepBest cX4_keepBest 3 ((none : Option Jvm.ClassFile.FieldType)) (ws_ yX4_keepBest cX4_keepBest 3 ((none : Option Jvm.ClassFile.FieldType))) rm rm.cells rm.slots 2 := cwV 2 ht (gV mm_X4_94 mi_X4_keepBest ms_X4_keepBest mz_X4 mc_X4_keepBest) rfl rfl rfl (by decide +kernel) hR
theorem cw_X4_98 {R : Room} {s : State} {args : Array Value} {rm : Room} (ht : ∀ w ∈ lw_good, w.before args s = true) (hR : rm.frames + 1 ≤ R.frames ∧ 8 + (4 + 11) + rm.locals ≤ R.locals) : CallW R s args RX4 RX4 98 yX4_giveTo cX4_giveTo 4 ((none : Option Jvm.ClassFile.FieldType)) (ws_ yX4_giveTo cX4_giveTo 4 ((none : Option Jvm.ClassFile.FieldType))) rm rm.cells rm.slots 2 := cwV 2 ht (gV mm_X4_98 mi_X4_giveTo ms_X4_giveTo mz_X4 mc_X4_giveTo) rfl rfl rfl (by decide +kernel) hR
theorem cw_X6_88 {R : Room} {s : State} {args : Array Value} {rm : Room} (ht : ∀ w ∈ lw_good, w.before args s = true) (hR : rm.frames + 1 ≤ R.frames ∧ 8 + (3 + 11) + rm.locals ≤ R.locals) : CallW R s args RX6 RX5 88 yX5_takeShares cX5_takeShares 3 ((none : Option Jvm.ClassFile.FieldType)) (ws_ yX5_takeShares cX5_takeShares 3 ((none : Option Jvm.ClassFile.FieldType))) rm rm.cells rm.slots 1 := cwV 1 ht (gV mm_X6_88 mi_X5_takeShares ms_X5_takeShares mz_X5 mc_X5_takeShares) rfl rfl rfl (by decide +kernel) hR
theorem cw_L_47 {R : Room} {s : State} {args : Array Value} {rm : Room} (ht : ∀ w ∈ lw_good, w.before args s = true) (hR : rm.frames + 1 ≤ R.frames ∧ 8 + (2 + 11) + rm.locals ≤ R.locals) : CallW R s args RL RX6 47 yX6_mix cX6_mix 2 ((some .int)) (ws_ yX6_mix cX6_mix 2 ((some .int))) rm rm.cells rm.slots 1 := cwV 1 ht (gV mm_L_47 mi_X6_mix ms_X6_mix mz_X6 mc_X6_mix) rfl rfl rfl (by decide +kernel) hR
theorem cw_X6_96 {R : Room} {s : State} {args : Array Value} {rm : Room} (ht : ∀ w ∈ lw_good, w.before args s = true) (hR : rm.frames + 1 ≤ R.frames ∧ 8 + (3 + 11) + rm.locals ≤ R.locals) : CallW R s args RX6 RX5 96 yX5_mixGrams cX5_mixGrams 3 ((some .int)) (ws_ yX5_mixGrams cX5_mixGrams 3 ((some .int))) rm rm.cells rm.slots 1 := cwV 1 ht (gV mm_X6_96 mi_X5_mixGrams ms_X5_mixGrams mz_X5 mc_X5_mixGrams) rfl rfl rfl (by decide +kernel) hR
theorem cw_X5_112 {R : Room} {s : State} {args : Array Value} {rm : Room} (ht : ∀ w ∈ lw_good, w.before args s = true) (hR : rm.frames + 1 ≤ R.frames ∧ 8 + (5 + 11) + rm.locals ≤ R.locals) : CallW R s args RX5 RX5 112 yX5_whyBroken cX5_whyBroken 5 ((some .int)) (ws_ yX5_whyBroken cX5_whyBroken 5 ((some .int))) rm rm.cells rm.slots 1 := cwV 1 ht (gV mm_X5_112 mi_X5_whyBroken ms_X5_whyBroken mz_X5 mc_X5_whyBroken) rfl rfl rfl (by decide +kernel) hR
theorem cw_X5_137 {R : Room} {s : State} {args : Array Value} {rm : Room} (ht : ∀ w ∈ lw_good, w.before args s = true) (hR : rm.frames + 1 ≤ R.frames ∧ 8 + (5 + 11) + rm.locals ≤ R.locals) : CallW R s args RX5 RX5 137 yX5_tasteSum cX5_tasteSum 5 ((some .int)) (ws_ yX5_tasteSum cX5_tasteSum 5 ((some .int))) rm rm.cells rm.slots 2 := cwV 2 ht (gV mm_X5_137 mi_X5_tasteSum ms_X5_tasteSum mz_X5 mc_X5_tasteSum) rfl rfl rfl (by decide +kernel) hR
theorem cw_X5_133 {R : Room} {s : State} {args : Array Value} {rm : Room} (ht : ∀ w ∈ lw_good, w.before args s = true) (hR : rm.frames + 1 ≤ R.frames ∧ 8 + (5 + 11) + rm.locals ≤ R.locals) : CallW R s args RX5 RX5 133 yX5_tasteOf cX5_tasteOf 5 ((some .int)) (ws_ yX5_tasteOf cX5_tasteOf 5 ((some .int))) rm rm.cells rm.slots 3 := cwV 3 ht (gV mm_X5_133 mi_X5_tasteOf ms_X5_tasteOf mz_X5 mc_X5_tasteOf) rfl rfl rfl (by decide +kernel) hR
theorem cw_X5_115 {R : Room} {s : State} {args : Array Value} {rm : Room} (ht : ∀ w ∈ lw_good, w.before args s = true) (hR : rm.frames + 1 ≤ R.frames ∧ 8 + (3 + 11) + rm.locals ≤ R.locals) : CallW R s args RX5 RX5 115 yX5_stocksSuffice cX5_stocksSuffice 3 ((some .boolean)) (ws_ yX5_stocksSuffice cX5_stocksSuffice 3 ((some .boolean))) rm rm.cells rm.slots 1 := cwV 1 ht (gV mm_X5_115 mi_X5_stocksSuffice ms_X5_stocksSuffice mz_X5 mc_X5_stocksSuffice) rfl rfl rfl (by decide +kernel) hR
theorem cw_X5_118 {R : Room} {s : State} {args : Array Value} {rm : Room} (ht : ∀ w ∈ lw_good, w.before args s = true) (hR : rm.frames + 1 ≤ R.frames ∧ 8 + (2 + 11) + rm.locals ≤ R.locals) : CallW R s args RX5 RX1 118 yX1_gramsFor cX1_gramsFor 2 ((some .int)) (ws_ yX1_gramsFor cX1_gramsFor 2 ((some .int))) rm rm.cells rm.slots 1 := cwV 1 ht (gV mm_X5_118 mi_X1_gramsFor ms_X1_gramsFor mz_X1 mc_X1_gramsFor) rfl rfl rfl (by decide +kernel) hR
theorem cw_X5_121 {R : Room} {s : State} {args : Array Value} {rm : Room} (ht : ∀ w ∈ lw_good, w.before args s = true) (hR : rm.frames + 1 ≤ R.frames ∧ 8 + (3 + 11) + rm.locals ≤ R.locals) : CallW R s args RX5 RX5 121 yX5_blendPrice cX5_blendPrice 3 ((some .int)) (ws_ yX5_blendPrice cX5_blendPrice 3 ((some .int))) rm rm.cells rm.slots 0 := cwV 0 ht (gV mm_X5_121 mi_X5_blendPrice ms_X5_blendPrice mz_X5 mc_X5_blendPrice) rfl rfl rfl (by decide +kernel) hR
theorem cw_L_52 {R : Room} {s : State} {args : Array Value} {rm : Room} (ht : ∀ w ∈ lw_good, w.before args s = true) (hR : rm.frames + 1 ≤ R.frames ∧ 8 + (2 + 11) + rm.locals ≤ R.locals) : CallW R s args RL RX6 52 yX6_pass cX6_pass 2 ((some .int)) (ws_ yX6_pass cX6_pass 2 ((some .int))) rm rm.cells rm.slots 1 := cwV 1 ht (gV mm_L_52 mi_X6_pass ms_X6_pass mz_X6 mc_X6_pass) rfl rfl rfl (by decide +kernel) hR
theorem cw_X6_99 {R : Room} {s : State} {args : Array Value} {rm : Room} (ht : ∀ w ∈ lw_good, w.before args s = true) (hR : rm.frames + 1 ≤ R.frames ∧ 8 + (3 + 11) + rm.locals ≤ R.locals) : CallW R s args RX6 RX5 99 yX5_passDays cX5_passDays 3 ((some .int)) (ws_ yX5_passDays cX5_passDays 3 ((some .int))) rm rm.cells rm.slots 1 := cwV 1 ht (gV mm_X6_99 mi_X5_passDays ms_X5_passDays mz_X5 mc_X5_passDays) rfl rfl rfl (by decide +kernel) hR
theorem cw_L_56 {R : Room} {s : State} {args : Array Value} {rm : Room} (ht : ∀ w ∈ lw_good, w.before args s = true) (hR : rm.frames + 1 ≤ R.frames ∧ 8 + (3 + 11) + rm.locals ≤ R.locals) : CallW R s args RL RX6 56 yX6_of cX6_of 3 ((some .int)) (ws_ yX6_of cX6_of 3 ((some .int))) rm rm.cells rm.slots 2 := cwV 2 ht (gV mm_L_56 mi_X6_of ms_X6_of mz_X6 mc_X6_of) rfl rfl rfl (by decide +kernel) hR
theorem cw_X6_102 {R : Room} {s : State} {args : Array Value} {rm : Room} (ht : ∀ w ∈ lw_good, w.before args s = true) (hR : rm.frames + 1 ≤ R.frames ∧ 8 + (2 + 11) + rm.locals ≤ R.locals) : CallW R s args RX6 RX5 102 yX5_hasLeaf cX5_hasLeaf 2 ((some .boolean)) (ws_ yX5_hasLeaf cX5_hasLeaf 2 ((some .boolean))) rm rm.cells rm.slots 1 := cwV 1 ht (gV mm_X6_102 mi_X5_hasLeaf ms_X5_hasLeaf mz_X5 mc_X5_hasLeaf) rfl rfl rfl (by decide +kernel) hR
theorem cw_X6_106 {R : Room} {s : State} {args : Array Value} {rm : Room} (ht : ∀ w ∈ lw_good, w.before args s = true) (hR : rm.frames + 1 ≤ R.frames ∧ 8 + (4 + 11) + rm.locals ≤ R.locals) : CallW R s args RX6 RX5 106 yX5_priceOf cX5_priceOf 4 ((some .int)) (ws_ yX5_priceOf cX5_priceOf 4 ((some .int))) rm rm.cells rm.slots 1 := cwV 1 ht (gV mm_X6_106 mi_X5_priceOf ms_X5_priceOf mz_X5 mc_X5_priceOf) rfl rfl rfl (by decide +kernel) hR
theorem cw_X6_109 {R : Room} {s : State} {args : Array Value} {rm : Room} (ht : ∀ w ∈ lw_good, w.before args s = true) (hR : rm.frames + 1 ≤ R.frames ∧ 8 + (5 + 11) + rm.locals ≤ R.locals) : CallW R s args RX6 RX5 109 yX5_tasteOf cX5_tasteOf 5 ((some .int)) (ws_ yX5_tasteOf cX5_tasteOf 5 ((some .int))) rm rm.cells rm.slots 3 := cwV 3 ht (gV mm_X6_109 mi_X5_tasteOf ms_X5_tasteOf mz_X5 mc_X5_tasteOf) rfl rfl rfl (by decide +kernel) hR
theorem cw_L_60 {R : Room} {s : State} {args : Array Value} {rm : Room} (ht : ∀ w ∈ lw_good, w.before args s = true) (hR : rm.frames + 1 ≤ R.frames ∧ 8 + (2 + 11) + rm.locals ≤ R.locals) : CallW R s args RL RX6 60 yX6_blend cX6_blend 2 ((some .int)) (ws_ yX6_blend cX6_blend 2 ((some .int))) rm rm.cells rm.slots 1 := cwV 1 ht (gV mm_L_60 mi_X6_blend ms_X6_blend mz_X6 mc_X6_blend) rfl rfl rfl (by decide +kernel) hR
theorem cw_X6_127 {R : Room} {s : State} {args : Array Value} {rm : Room} (ht : ∀ w ∈ lw_good, w.before args s = true) (hR : rm.frames + 1 ≤ R.frames ∧ 8 + (3 + 11) + rm.locals ≤ R.locals) : CallW R s args RX6 RX5 127 yX5_blendPrice cX5_blendPrice 3 ((some .int)) (ws_ yX5_blendPrice cX5_blendPrice 3 ((some .int))) rm rm.cells rm.slots 0 := cwV 0 ht (gV mm_X6_127 mi_X5_blendPrice ms_X5_blendPrice mz_X5 mc_X5_blendPrice) rfl rfl rfl (by decide +kernel) hR
theorem cw_X6_131 {R : Room} {s : State} {args : Array Value} {rm : Room} (ht : ∀ w ∈ lw_good, w.before args s = true) (hR : rm.frames + 1 ≤ R.frames ∧ 8 + (5 + 11) + rm.locals ≤ R.locals) : CallW R s args RX6 RX5 131 yX5_tasteSum cX5_tasteSum 5 ((some .int)) (ws_ yX5_tasteSum cX5_tasteSum 5 ((some .int))) rm rm.cells rm.slots 2 := cwV 2 ht (gV mm_X6_131 mi_X5_tasteSum ms_X5_tasteSum mz_X5 mc_X5_tasteSum) rfl rfl rfl (by decide +kernel) hR
theorem cw_X6_134 {R : Room} {s : State} {args : Array Value} {rm : Room} (ht : ∀ w ∈ lw_good, w.before args s = true) (hR : rm.frames + 1 ≤ R.frames ∧ 8 + (3 + 11) + rm.locals ≤ R.locals) : CallW R s args RX6 RX5 134 yX5_allShares cX5_allShares 3 ((some .int)) (ws_ yX5_allShares cX5_allShares 3 ((some .int))) rm rm.cells rm.slots 0 := cwV 0 ht (gV mm_X6_134 mi_X5_allShares ms_X5_allShares mz_X5 mc_X5_allShares) rfl rfl rfl (by decide +kernel) hR
theorem cw_X6_137 {R : Room} {s : State} {args : Array Value} {rm : Room} (ht : ∀ w ∈ lw_good, w.before args s = true) (hR : rm.frames + 1 ≤ R.frames ∧ 8 + (3 + 11) + rm.locals ≤ R.locals) : CallW R s args RX6 RX5 137 yX5_leavesInBlend cX5_leavesInBlend 3 ((some .int)) (ws_ yX5_leavesInBlend cX5_leavesInBlend 3 ((some .int))) rm rm.cells rm.slots 0 := cwV 0 ht (gV mm_X6_137 mi_X5_leavesInBlend ms_X5_leavesInBlend mz_X5 mc_X5_leavesInBlend) rfl rfl rfl (by decide +kernel) hR
theorem cw_L_64 {R : Room} {s : State} {args : Array Value} {rm : Room} (ht : ∀ w ∈ lw_good, w.before args s = true) (hR : rm.frames + 1 ≤ R.frames ∧ 8 + (1 + 11) + rm.locals ≤ R.locals) : CallW R s args RL RX6 64 yX6_why cX6_why 1 ((some .int)) (ws_ yX6_why cX6_why 1 ((some .int))) rm rm.cells rm.slots 0 := cwV 0 ht (gV mm_L_64 mi_X6_why ms_X6_why mz_X6 mc_X6_why) rfl rfl rfl (by decide +kernel) hR
theorem cw_X6_140 {R : Room} {s : State} {args : Array Value} {rm : Room} (ht : ∀ w ∈ lw_good, w.before args s = true) (hR : rm.frames + 1 ≤ R.frames ∧ 8 + (5 + 11) + rm.locals ≤ R.locals) : CallW R s args RX6 RX5 140 yX5_whyBroken cX5_whyBroken 5 ((some .int)) (ws_ yX5_whyBroken cX5_whyBroken 5 ((some .int))) rm rm.cells rm.slots 1 := cwV 1 ht (gV mm_X6_140 mi_X5_whyBroken ms_X5_whyBroken mz_X5 mc_X5_whyBroken) rfl rfl rfl (by decide +kernel) hR
theorem cw_L_68 {R : Room} {s : State} {args : Array Value} {rm : Room} (ht : ∀ w ∈ lw_good, w.before args s = true) (hR : rm.frames + 1 ≤ R.frames ∧ 8 + (2 + 11) + rm.locals ≤ R.locals) : CallW R s args RL RX6 68 yX6_count cX6_count 2 ((some .int)) (ws_ yX6_count cX6_count 2 ((some .int))) rm rm.cells rm.slots 1 := cwV 1 ht (gV mm_L_68 mi_X6_count ms_X6_count mz_X6 mc_X6_count) rfl rfl rfl (by decide +kernel) hR
theorem cw_L_72 {R : Room} {s : State} {args : Array Value} {rm : Room} (ht : ∀ w ∈ lw_good, w.before args s = true) (hR : rm.frames + 1 ≤ R.frames ∧ 8 + (2 + 11) + rm.locals ≤ R.locals) : CallW R s args RL RX6 72 yX6_taste cX6_taste 2 ((some .long)) (ws_ yX6_taste cX6_taste 2 ((some .long))) rm rm.cells rm.slots 1 := cwV 1 ht (gV mm_L_72 mi_X6_taste ms_X6_taste mz_X6 mc_X6_taste) rfl rfl rfl (by decide +kernel) hR
theorem cw_X6_172 {R : Room} {s : State} {args : Array Value} {rm : Room} (ht : ∀ w ∈ lw_good, w.before args s = true) (hR : rm.frames + 1 ≤ R.frames ∧ 8 + (9 + 11) + rm.locals ≤ R.locals) : CallB R s args RX6 172 yX6_bitsOf cX6_bitsOf 9 ((some .long)) (ws_ yX6_bitsOf cX6_bitsOf 9 ((some .long))) rm rm.cells rm.slots 3 ∧ (Cond.static yX6_bitsOf).before args s = true := va_cwS 3 ht (gS mm_X6_172 mst_X6_bitsOf mz_X6 mc_X6_bitsOf) rfl rfl rfl (by decide +kernel) hR
theorem cw_L_77 {R : Room} {s : State} {args : Array Value} {rm : Room} (ht : ∀ w ∈ lw_good, w.before args s = true) (hR : rm.frames + 1 ≤ R.frames ∧ 8 + (2 + 11) + rm.locals ≤ R.locals) : CallW R s args RL RX6 77 yX6_mean cX6_mean 2 ((some .int)) (ws_ yX6_mean cX6_mean 2 ((some .int))) rm rm.cells rm.slots 0 := cwV 0 ht (gV mm_L_77 mi_X6_mean ms_X6_mean mz_X6 mc_X6_mean) rfl rfl rfl (by decide +kernel) hR
theorem cw_L_81 {R : Room} {s : State} {args : Array Value} {rm : Room} (ht : ∀ w ∈ lw_good, w.before args s = true) (hR : rm.frames + 1 ≤ R.frames ∧ 8 + (2 + 11) + rm.locals ≤ R.locals) : CallW R s args RL RX6 81 yX6_cheapest cX6_cheapest 2 ((some .int)) (ws_ yX6_cheapest cX6_cheapest 2 ((some .int))) rm rm.cells rm.slots 1 := cwV 1 ht (gV mm_L_81 mi_X6_cheapest ms_X6_cheapest mz_X6 mc_X6_cheapest) rfl rfl rfl (by decide +kernel) hR
theorem cw_L_85 {R : Room} {s : State} {args : Array Value} {rm : Room} (ht : ∀ w ∈ lw_good, w.before args s = true) (hR : rm.frames + 1 ≤ R.frames ∧ 8 + (5 + 11) + rm.locals ≤ R.locals) : CallW R s args RL RX6 85 yX6_swap cX6_swap 5 ((some .int)) (ws_ yX6_swap cX6_swap 5 ((some .int))) rm rm.cells rm.slots 1 := cwV 1 ht (gV mm_L_85 mi_X6_swap ms_X6_swap mz_X6 mc_X6_swap) rfl rfl rfl (by decide +kernel) hR
theorem cw_X6_176 {R : Room} {s : State} {args : Array Value} {rm : Room} (ht : ∀ w ∈ lw_good, w.before args s = true) (hR : rm.frames + 1 ≤ R.frames ∧ 8 + (6 + 11) + rm.locals ≤ R.locals) : CallW R s args RX6 RX5 176 yX5_bestSwap cX5_bestSwap 6 ((some .int)) (ws_ yX5_bestSwap cX5_bestSwap 6 ((some .int))) rm rm.cells rm.slots 0 := cwV 0 ht (gV mm_X6_176 mi_X5_bestSwap ms_X5_bestSwap mz_X5 mc_X5_bestSwap) rfl rfl rfl (by decide +kernel) hR
theorem cw_X5_143 {R : Room} {s : State} {args : Array Value} {rm : Room} (ht : ∀ w ∈ lw_good, w.before args s = true) (hR : rm.frames + 1 ≤ R.frames ∧ 8 + (5 + 11) + rm.locals ≤ R.locals) : CallW R s args RX5 RX5 143 yX5_keepsAfterSwap cX5_keepsAfterSwap 5 ((some .boolean)) (ws_ yX5_keepsAfterSwap cX5_keepsAfterSwap 5 ((some .boolean))) rm rm.cells rm.slots 2 := cwV 2 ht (gV mm_X5_143 mi_X5_keepsAfterSwap ms_X5_keepsAfterSwap mz_X5 mc_X5_keepsAfterSwap) rfl rfl rfl (by decide +kernel) hR
theorem cw_L_89 {R : Room} {s : State} {args : Array Value} {rm : Room} (ht : ∀ w ∈ lw_good, w.before args s = true) (hR : rm.frames + 1 ≤ R.frames ∧ 8 + (3 + 11) + rm.locals ≤ R.locals) : CallW R s args RL RX6 89 yX6_looser cX6_looser 3 ((some .int)) (ws_ yX6_looser cX6_looser 3 ((some .int))) rm rm.cells rm.slots 1 := cwV 1 ht (gV mm_L_89 mi_X6_looser ms_X6_looser mz_X6 mc_X6_looser) rfl rfl rfl (by decide +kernel) hR
theorem cw_X6_179 {R : Room} {s : State} {args : Array Value} {rm : Room} (ht : ∀ w ∈ lw_good, w.before args s = true) (hR : rm.frames + 1 ≤ R.frames ∧ 8 + (2 + 11) + rm.locals ≤ R.locals) : CallW R s args RX6 RX5 179 yX5_canBeLooser cX5_canBeLooser 2 ((some .boolean)) (ws_ yX5_canBeLooser cX5_canBeLooser 2 ((some .boolean))) rm rm.cells rm.slots 1 := cwV 1 ht (gV mm_X6_179 mi_X5_canBeLooser ms_X5_canBeLooser mz_X5 mc_X5_canBeLooser) rfl rfl rfl (by decide +kernel) hR
theorem cw_L_93 {R : Room} {s : State} {args : Array Value} {rm : Room} (ht : ∀ w ∈ lw_good, w.before args s = true) (hR : rm.frames + 1 ≤ R.frames ∧ 8 + (2 + 11) + rm.locals ≤ R.locals) : CallW R s args RL RX6 93 yX6_keepsFor cX6_keepsFor 2 ((some .int)) (ws_ yX6_keepsFor cX6_keepsFor 2 ((some .int))) rm rm.cells rm.slots 0 := cwV 0 ht (gV mm_L_93 mi_X6_keepsFor ms_X6_keepsFor mz_X6 mc_X6_keepsFor) rfl rfl rfl (by decide +kernel) hR
theorem cw_L_97 {R : Room} {s : State} {args : Array Value} {rm : Room} (ht : ∀ w ∈ lw_good, w.before args s = true) (hR : rm.frames + 1 ≤ R.frames ∧ 8 + (1 + 11) + rm.locals ≤ R.locals) : CallW R s args RL RX6 97 yX6_mostGrams cX6_mostGrams 1 ((some .int)) (ws_ yX6_mostGrams cX6_mostGrams 1 ((some .int))) rm rm.cells rm.slots 0 := cwV 0 ht (gV mm_L_97 mi_X6_mostGrams ms_X6_mostGrams mz_X6 mc_X6_mostGrams) rfl rfl rfl (by decide +kernel) hR
theorem cw_X6_182 {R : Room} {s : State} {args : Array Value} {rm : Room} (ht : ∀ w ∈ lw_good, w.before args s = true) (hR : rm.frames + 1 ≤ R.frames ∧ 8 + (3 + 11) + rm.locals ≤ R.locals) : CallW R s args RX6 RX5 182 yX5_gramsByStocks cX5_gramsByStocks 3 ((some .int)) (ws_ yX5_gramsByStocks cX5_gramsByStocks 3 ((some .int))) rm rm.cells rm.slots 0 := cwV 0 ht (gV mm_X6_182 mi_X5_gramsByStocks ms_X5_gramsByStocks mz_X5 mc_X5_gramsByStocks) rfl rfl rfl (by decide +kernel) hR
theorem cw_X5_140 {R : Room} {s : State} {args : Array Value} {rm : Room} (ht : ∀ w ∈ lw_good, w.before args s = true) (hR : rm.frames + 1 ≤ R.frames ∧ 8 + (2 + 11) + rm.locals ≤ R.locals) : CallB R s args RX5 140 yJ9_min_7cf53 cJ9_min_7cf53 2 ((some .int)) (ws_ yJ9_min_7cf53 cJ9_min_7cf53 2 ((some .int))) rm rm.cells rm.slots 2 ∧ (Cond.static yJ9_min_7cf53).before args s = true := va_cwS 2 ht (gS mm_X5_140 mst_J9_min_7cf53 mz_J9 mc_J9_min_7cf53) rfl rfl rfl (by decide +kernel) hR
theorem cw_L_101 {R : Room} {s : State} {args : Array Value} {rm : Room} (ht : ∀ w ∈ lw_good, w.before args s = true) (hR : rm.frames + 1 ≤ R.frames ∧ 8 + (3 + 11) + rm.locals ≤ R.locals) : CallW R s args RL RX6 101 yX6_put cX6_put 3 ((some .int)) (ws_ yX6_put cX6_put 3 ((some .int))) rm rm.cells rm.slots 1 := cwV 1 ht (gV mm_L_101 mi_X6_put ms_X6_put mz_X6 mc_X6_put) rfl rfl rfl (by decide +kernel) hR
theorem cw_X6_185 {R : Room} {s : State} {args : Array Value} {rm : Room} (ht : ∀ w ∈ lw_good, w.before args s = true) (hR : rm.frames + 1 ≤ R.frames ∧ 8 + (5 + 11) + rm.locals ≤ R.locals) : CallW R s args RX6 RX3 185 yX3_append cX3_append 5 ((some .int)) (ws_ yX3_append cX3_append 5 ((some .int))) rm rm.cells rm.slots 1 := cwV 1 ht (gV mm_X6_185 mi_X3_append ms_X3_append mz_X3 mc_X3_append) rfl rfl rfl (by decide +kernel) hR
theorem cw_X3_15 {R : Room} {s : State} {args : Array Value} {rm : Room} (ht : ∀ w ∈ lw_good, w.before args s = true) (hR : rm.frames + 1 ≤ R.frames ∧ 8 + (4 + 11) + rm.locals ≤ R.locals) : CallB R s args RX3 15 yX3_lengthOf cX3_lengthOf 4 ((some .int)) (ws_ yX3_lengthOf cX3_lengthOf 4 ((some .int))) rm rm.cells rm.slots 1 ∧ (Cond.static yX3_lengthOf).before args s = true := va_cwS 1 ht (gS mm_X3_15 mst_X3_lengthOf mz_X3 mc_X3_lengthOf) rfl rfl rfl (by decide +kernel) hR
theorem cw_X3_23 {R : Room} {s : State} {args : Array Value} {rm : Room} (ht : ∀ w ∈ lw_good, w.before args s = true) (hR : rm.frames + 1 ≤ R.frames ∧ 8 + (3 + 11) + rm.locals ≤ R.locals) : CallB R s args RX3 23 yX3_codeIn cX3_codeIn 3 ((some .int)) (ws_ yX3_codeIn cX3_codeIn 3 ((some .int))) rm rm.cells rm.slots 2 ∧ (Cond.static yX3_codeIn).before args s = true := va_cwS 2 ht (gS mm_X3_23 mst_X3_codeIn mz_X3 mc_X3_codeIn) rfl rfl rfl (by decide +kernel) hR
theorem cw_L_106 {R : Room} {s : State} {args : Array Value} {rm : Room} (ht : ∀ w ∈ lw_good, w.before args s = true) (hR : rm.frames + 1 ≤ R.frames ∧ 8 + (1 + 11) + rm.locals ≤ R.locals) : CallW R s args RL RX6 106 yX6_wipe cX6_wipe 1 ((some .int)) (ws_ yX6_wipe cX6_wipe 1 ((some .int))) rm rm.cells rm.slots 0 := cwV 0 ht (gV mm_L_106 mi_X6_wipe ms_X6_wipe mz_X6 mc_X6_wipe) rfl rfl rfl (by decide +kernel) hR
theorem cw_X6_189 {R : Room} {s : State} {args : Array Value} {rm : Room} (ht : ∀ w ∈ lw_good, w.before args s = true) (hR : rm.frames + 1 ≤ R.frames ∧ 8 + (2 + 11) + rm.locals ≤ R.locals) : CallW R s args RX6 RX3 189 yX3_empty cX3_empty 2 ((some .int)) (ws_ yX3_empty cX3_empty 2 ((some .int))) rm rm.cells rm.slots 0 := cwV 0 ht (gV mm_X6_189 mi_X3_empty ms_X3_empty mz_X3 mc_X3_empty) rfl rfl rfl (by decide +kernel) hR
theorem cw_L_110 {R : Room} {s : State} {args : Array Value} {rm : Room} (ht : ∀ w ∈ lw_good, w.before args s = true) (hR : rm.frames + 1 ≤ R.frames ∧ 8 + (1 + 11) + rm.locals ≤ R.locals) : CallW R s args RL RX6 110 yX6_fault cX6_fault 1 ((some .int)) (ws_ yX6_fault cX6_fault 1 ((some .int))) rm rm.cells rm.slots 0 := cwV 0 ht (gV mm_L_110 mi_X6_fault ms_X6_fault mz_X6 mc_X6_fault) rfl rfl rfl (by decide +kernel) hR
theorem cw_X6_192 {R : Room} {s : State} {args : Array Value} {rm : Room} (ht : ∀ w ∈ lw_good, w.before args s = true) (hR : rm.frames + 1 ≤ R.frames ∧ 8 + (2 + 11) + rm.locals ≤ R.locals) : CallW R s args RX6 RX2 192 yX2_findFault cX2_findFault 2 ((some .int)) (ws_ yX2_findFault cX2_findFault 2 ((some .int))) rm rm.cells rm.slots 0 := cwV 0 ht (gV mm_X6_192 mi_X2_findFault ms_X2_findFault mz_X2 mc_X2_findFault) rfl rfl rfl (by decide +kernel) hR
theorem cw_X2_23 {R : Room} {s : State} {args : Array Value} {rm : Room} (ht : ∀ w ∈ lw_good, w.before args s = true) (hR : rm.frames + 1 ≤ R.frames ∧ 8 + (1 + 11) + rm.locals ≤ R.locals) : CallW R s args RX2 RX2 23 yX2_start cX2_start 1 ((none : Option Jvm.ClassFile.FieldType)) (ws_ yX2_start cX2_start 1 ((none : Option Jvm.ClassFile.FieldType))) rm rm.cells rm.slots 0 := cwV 0 ht (gV mm_X2_23 mi_X2_start ms_X2_start mz_X2 mc_X2_start) rfl rfl rfl (by decide +kernel) hR
theorem cw_X2_26 {R : Room} {s : State} {args : Array Value} {rm : Room} (ht : ∀ w ∈ lw_good, w.before args s = true) (hR : rm.frames + 1 ≤ R.frames ∧ 8 + (3 + 11) + rm.locals ≤ R.locals) : CallW R s args RX2 RX2 26 yX2_readOrder cX2_readOrder 3 ((some .boolean)) (ws_ yX2_readOrder cX2_readOrder 3 ((some .boolean))) rm rm.cells rm.slots 0 := cwV 0 ht (gV mm_X2_26 mi_X2_readOrder ms_X2_readOrder mz_X2 mc_X2_readOrder) rfl rfl rfl (by decide +kernel) hR
theorem cw_X2_35 {R : Room} {s : State} {args : Array Value} {rm : Room} (ht : ∀ w ∈ lw_good, w.before args s = true) (hR : rm.frames + 1 ≤ R.frames ∧ 8 + (2 + 11) + rm.locals ≤ R.locals) : CallW R s args RX2 RX2 35 yX2_readSign cX2_readSign 2 ((some .boolean)) (ws_ yX2_readSign cX2_readSign 2 ((some .boolean))) rm rm.cells rm.slots 1 := cwV 1 ht (gV mm_X2_35 mi_X2_readSign ms_X2_readSign mz_X2 mc_X2_readSign) rfl rfl rfl (by decide +kernel) hR
theorem cw_X2_39 {R : Room} {s : State} {args : Array Value} {rm : Room} (ht : ∀ w ∈ lw_good, w.before args s = true) (hR : rm.frames + 1 ≤ R.frames ∧ 8 + (1 + 11) + rm.locals ≤ R.locals) : CallW R s args RX2 RX2 39 yX2_sign cX2_sign 1 ((some .int)) (ws_ yX2_sign cX2_sign 1 ((some .int))) rm rm.cells rm.slots 0 := cwV 0 ht (gV mm_X2_39 mi_X2_sign ms_X2_sign mz_X2 mc_X2_sign) rfl rfl rfl (by decide +kernel) hR
theorem cw_X2_46 {R : Room} {s : State} {args : Array Value} {rm : Room} (ht : ∀ w ∈ lw_good, w.before args s = true) (hR : rm.frames + 1 ≤ R.frames ∧ 8 + (1 + 11) + rm.locals ≤ R.locals) : CallB R s args RX2 46 yX2_formOf cX2_formOf 1 ((some (.object "java/lang/String"))) (ws_ yX2_formOf cX2_formOf 1 ((some (.object "java/lang/String")))) rm rm.cells rm.slots 1 ∧ (Cond.static yX2_formOf).before args s = true := va_cwS 1 ht (gS mm_X2_46 mst_X2_formOf mz_X2 mc_X2_formOf) rfl rfl rfl (by decide +kernel) hR
theorem cw_X2_50 {R : Room} {s : State} {args : Array Value} {rm : Room} (ht : ∀ w ∈ lw_good, w.before args s = true) (hR : rm.frames + 1 ≤ R.frames ∧ 8 + (1 + 11) + rm.locals ≤ R.locals) : CallW R s args RX2 RJ0 50 yJ0_isEmpty_aae02 cJ0_isEmpty_aae02 1 ((some .boolean)) (ws_ yJ0_isEmpty_aae02 cJ0_isEmpty_aae02 1 ((some .boolean))) rm rm.cells rm.slots 0 := cwV 0 ht (gV mm_X2_50 mi_J0_isEmpty_aae02 ms_J0_isEmpty_aae02 mz_J0 mc_J0_isEmpty_aae02) rfl rfl rfl (by decide +kernel) hR
theorem cw_X2_58 {R : Room} {s : State} {args : Array Value} {rm : Room} (ht : ∀ w ∈ lw_good, w.before args s = true) (hR : rm.frames + 1 ≤ R.frames ∧ 8 + (1 + 11) + rm.locals ≤ R.locals) : CallW R s args RX2 RJ0 58 yJ0_length_8abf5 cJ0_length_8abf5 1 ((some .int)) (ws_ yJ0_length_8abf5 cJ0_length_8abf5 1 ((some .int))) rm rm.cells rm.slots 0 := cwV 0 ht (gV mm_X2_58 mi_J0_length_8abf5 ms_J0_length_8abf5 mz_J0 mc_J0_length_8abf5) rfl rfl rfl (by decide +kernel) hR
theorem cw_J0_335 {R : Room} {s : State} {args : Array Value} {rm : Room} (ht : ∀ w ∈ lw_good, w.before args s = true) (hR : rm.frames + 1 ≤ R.frames ∧ 8 + (1 + 11) + rm.locals ≤ R.locals) : CallW R s args RJ0 RJ0 335 yJ0_coder_7d493 cJ0_coder_7d493 1 ((some .byte)) (ws_ yJ0_coder_7d493 cJ0_coder_7d493 1 ((some .byte))) rm rm.cells rm.slots 0 := cwV 0 ht (gV mm_J0_335 mi_J0_coder_7d493 ms_J0_coder_7d493 mz_J0 mc_J0_coder_7d493) rfl rfl rfl (by decide +kernel) hR
theorem cw_X2_60 {R : Room} {s : State} {args : Array Value} {rm : Room} (ht : ∀ w ∈ lw_good, w.before args s = true) (hR : rm.frames + 1 ≤ R.frames ∧ 8 + (2 + 11) + rm.locals ≤ R.locals) : CallW R s args RX2 RJ0 60 yJ0_charAt_5068e cJ0_charAt_5068e 2 ((some .char)) (ws_ yJ0_charAt_5068e cJ0_charAt_5068e 2 ((some .char))) rm rm.cells rm.slots 1 := cwV 1 ht (gV mm_X2_60 mi_J0_charAt_5068e ms_J0_charAt_5068e mz_J0 mc_J0_charAt_5068e) rfl rfl rfl (by decide +kernel) hR
theorem cw_J0_492 {R : Room} {s : State} {args : Array Value} {rm : Room} (ht : ∀ w ∈ lw_good, w.before args s = true) (hR : rm.frames + 1 ≤ R.frames ∧ 8 + (1 + 11) + rm.locals ≤ R.locals) : CallW R s args RJ0 RJ0 492 yJ0_isLatin1_aae02 cJ0_isLatin1_aae02 1 ((some .boolean)) (ws_ yJ0_isLatin1_aae02 cJ0_isLatin1_aae02 1 ((some .boolean))) rm rm.cells rm.slots 0 := cwV 0 ht (gV mm_J0_492 mi_J0_isLatin1_aae02 ms_J0_isLatin1_aae02 mz_J0 mc_J0_isLatin1_aae02) rfl rfl rfl (by decide +kernel) hR
theorem cw_J0_495 {R : Room} {s : State} {args : Array Value} {rm : Room} (ht : ∀ w ∈ lw_good, w.before args s = true) (hR : rm.frames + 1 ≤ R.frames ∧ 8 + (2 + 11) + rm.locals ≤ R.locals) : CallB R s args RJ0 495 yJ1_charAt_3b067 cJ1_charAt_3b067 2 ((some .char)) (ws_ yJ1_charAt_3b067 cJ1_charAt_3b067 2 ((some .char))) rm rm.cells rm.slots 2 ∧ (Cond.static yJ1_charAt_3b067).before args s = true := va_cwS 2 ht (gS mm_J0_495 mst_J1_charAt_3b067 mz_J1 mc_J1_charAt_3b067) rfl rfl rfl (by decide +kernel) hR
theorem cw_J1_9 {R : Room} {s : State} {args : Array Value} {rm : Room} (ht : ∀ w ∈ lw_good, w.before args s = true) (hR : rm.frames + 1 ≤ R.frames ∧ 8 + (2 + 11) + rm.locals ≤ R.locals) : CallB R s args RJ1 9 yJ0_checkIndex_df160 cJ0_checkIndex_df160 2 ((none : Option Jvm.ClassFile.FieldType)) (ws_ yJ0_checkIndex_df160 cJ0_checkIndex_df160 2 ((none : Option Jvm.ClassFile.FieldType))) rm rm.cells rm.slots 2 ∧ (Cond.static yJ0_checkIndex_df160).before args s = true := va_cwS 2 ht (gS mm_J1_9 mst_J0_checkIndex_df160 mz_J0 mc_J0_checkIndex_df160) rfl rfl rfl (by decide +kernel) hR
theorem cw_J0_1059 {R : Room} {s : State} {args : Array Value} {rm : Room} (ht : ∀ w ∈ lw_good, w.before args s = true) (hR : rm.frames + 1 ≤ R.frames ∧ 8 + (3 + 11) + rm.locals ≤ R.locals) : CallB R s args RJ0 1059 yJ3_checkIndex_8e157 cJ3_checkIndex_8e157 3 ((some .int)) (ws_ yJ3_checkIndex_8e157 cJ3_checkIndex_8e157 3 ((some .int))) rm rm.cells rm.slots 3 ∧ (Cond.static yJ3_checkIndex_8e157).before args s = true := va_cwS 3 ht (gS mm_J0_1059 mst_J3_checkIndex_8e157 mz_J3 mc_J3_checkIndex_8e157) rfl rfl rfl (by decide +kernel) hR
theorem cw_J0_498 {R : Room} {s : State} {args : Array Value} {rm : Room} (ht : ∀ w ∈ lw_good, w.before args s = true) (hR : rm.frames + 1 ≤ R.frames ∧ 8 + (2 + 11) + rm.locals ≤ R.locals) : CallB R s args RJ0 498 yJ2_charAt_3b067 cJ2_charAt_3b067 2 ((some .char)) (ws_ yJ2_charAt_3b067 cJ2_charAt_3b067 2 ((some .char))) rm rm.cells rm.slots 2 ∧ (Cond.static yJ2_charAt_3b067).before args s = true := va_cwS 2 ht (gS mm_J0_498 mst_J2_charAt_3b067 mz_J2 mc_J2_charAt_3b067) rfl rfl rfl (by decide +kernel) hR
theorem cw_J2_67 {R : Room} {s : State} {args : Array Value} {rm : Room} (ht : ∀ w ∈ lw_good, w.before args s = true) (hR : rm.frames + 1 ≤ R.frames ∧ 8 + (2 + 11) + rm.locals ≤ R.locals) : CallB R s args RJ2 67 yJ2_checkIndex_2214a cJ2_checkIndex_2214a 2 ((none : Option Jvm.ClassFile.FieldType)) (ws_ yJ2_checkIndex_2214a cJ2_checkIndex_2214a 2 ((none : Option Jvm.ClassFile.FieldType))) rm rm.cells rm.slots 2 ∧ (Cond.static yJ2_checkIndex_2214a).before args s = true := va_cwS 2 ht (gS mm_J2_67 mst_J2_checkIndex_2214a mz_J2 mc_J2_checkIndex_2214a) rfl rfl rfl (by decide +kernel) hR
theorem cw_J2_48 {R : Room} {s : State} {args : Array Value} {rm : Room} (ht : ∀ w ∈ lw_good, w.before args s = true) (hR : rm.frames + 1 ≤ R.frames ∧ 8 + (1 + 11) + rm.locals ≤ R.locals) : CallB R s args RJ2 48 yJ2_length_9d52b cJ2_length_9d52b 1 ((some .int)) (ws_ yJ2_length_9d52b cJ2_length_9d52b 1 ((some .int))) rm rm.cells rm.slots 1 ∧ (Cond.static yJ2_length_9d52b).before args s = true := va_cwS 1 ht (gS mm_J2_48 mst_J2_length_9d52b mz_J2 mc_J2_length_9d52b) rfl rfl rfl (by decide +kernel) hR
theorem cw_J2_414 {R : Room} {s : State} {args : Array Value} {rm : Room} (ht : ∀ w ∈ lw_good, w.before args s = true) (hR : rm.frames + 1 ≤ R.frames ∧ 8 + (2 + 11) + rm.locals ≤ R.locals) : CallB R s args RJ2 414 yJ0_checkIndex_df160 cJ0_checkIndex_df160 2 ((none : Option Jvm.ClassFile.FieldType)) (ws_ yJ0_checkIndex_df160 cJ0_checkIndex_df160 2 ((none : Option Jvm.ClassFile.FieldType))) rm rm.cells rm.slots 2 ∧ (Cond.static yJ0_checkIndex_df160).before args s = true := va_cwS 2 ht (gS mm_J2_414 mst_J0_checkIndex_df160 mz_J0 mc_J0_checkIndex_df160) rfl rfl rfl (by decide +kernel) hR
theorem cw_J2_71 {R : Room} {s : State} {args : Array Value} {rm : Room} (ht : ∀ w ∈ lw_good, w.before args s = true) (hR : rm.frames + 1 ≤ R.frames ∧ 8 + (2 + 11) + rm.locals ≤ R.locals) : CallB R s args RJ2 71 yJ2_getChar_3b067 cJ2_getChar_3b067 2 ((some .char)) (ws_ yJ2_getChar_3b067 cJ2_getChar_3b067 2 ((some .char))) rm rm.cells rm.slots 2 ∧ (Cond.static yJ2_getChar_3b067).before args s = true := va_cwS 2 ht (gS mm_J2_71 mst_J2_getChar_3b067 mz_J2 mc_J2_getChar_3b067) rfl rfl rfl (by decide +kernel) hR
theorem cw_X2_64 {R : Room} {s : State} {args : Array Value} {rm : Room} (ht : ∀ w ∈ lw_good, w.before args s = true) (hR : rm.frames + 1 ≤ R.frames ∧ 8 + (2 + 11) + rm.locals ≤ R.locals) : CallW R s args RX2 RX2 64 yX2_readPart cX2_readPart 2 ((some .boolean)) (ws_ yX2_readPart cX2_readPart 2 ((some .boolean))) rm rm.cells rm.slots 1 := cwV 1 ht (gV mm_X2_64 mi_X2_readPart ms_X2_readPart mz_X2 mc_X2_readPart) rfl rfl rfl (by decide +kernel) hR
theorem cw_X2_76 {R : Room} {s : State} {args : Array Value} {rm : Room} (ht : ∀ w ∈ lw_good, w.before args s = true) (hR : rm.frames + 1 ≤ R.frames ∧ 8 + (4 + 11) + rm.locals ≤ R.locals) : CallW R s args RX2 RX2 76 yX2_readNumber cX2_readNumber 4 ((some .boolean)) (ws_ yX2_readNumber cX2_readNumber 4 ((some .boolean))) rm rm.cells rm.slots 1 := cwV 1 ht (gV mm_X2_76 mi_X2_readNumber ms_X2_readNumber mz_X2 mc_X2_readNumber) rfl rfl rfl (by decide +kernel) hR
theorem cw_X2_79 {R : Room} {s : State} {args : Array Value} {rm : Room} (ht : ∀ w ∈ lw_good, w.before args s = true) (hR : rm.frames + 1 ≤ R.frames ∧ 8 + (1 + 11) + rm.locals ≤ R.locals) : CallW R s args RX2 RX2 79 yX2_isAtDigit cX2_isAtDigit 1 ((some .boolean)) (ws_ yX2_isAtDigit cX2_isAtDigit 1 ((some .boolean))) rm rm.cells rm.slots 0 := cwV 0 ht (gV mm_X2_79 mi_X2_isAtDigit ms_X2_isAtDigit mz_X2 mc_X2_isAtDigit) rfl rfl rfl (by decide +kernel) hR
theorem cw_L_114 {R : Room} {s : State} {args : Array Value} {rm : Room} (ht : ∀ w ∈ lw_good, w.before args s = true) (hR : rm.frames + 1 ≤ R.frames ∧ 8 + (2 + 11) + rm.locals ≤ R.locals) : CallW R s args RL RX6 114 yX6_carryOut cX6_carryOut 2 ((some .int)) (ws_ yX6_carryOut cX6_carryOut 2 ((some .int))) rm rm.cells rm.slots 0 := cwV 0 ht (gV mm_L_114 mi_X6_carryOut ms_X6_carryOut mz_X6 mc_X6_carryOut) rfl rfl rfl (by decide +kernel) hR
theorem cw_X6_195 {R : Room} {s : State} {args : Array Value} {rm : Room} (ht : ∀ w ∈ lw_good, w.before args s = true) (hR : rm.frames + 1 ≤ R.frames ∧ 8 + (1 + 11) + rm.locals ≤ R.locals) : CallW R s args RX6 RX2 195 yX2_start cX2_start 1 ((none : Option Jvm.ClassFile.FieldType)) (ws_ yX2_start cX2_start 1 ((none : Option Jvm.ClassFile.FieldType))) rm rm.cells rm.slots 0 := cwV 0 ht (gV mm_X6_195 mi_X2_start ms_X2_start mz_X2 mc_X2_start) rfl rfl rfl (by decide +kernel) hR
theorem cw_X6_198 {R : Room} {s : State} {args : Array Value} {rm : Room} (ht : ∀ w ∈ lw_good, w.before args s = true) (hR : rm.frames + 1 ≤ R.frames ∧ 8 + (3 + 11) + rm.locals ≤ R.locals) : CallW R s args RX6 RX2 198 yX2_readOrder cX2_readOrder 3 ((some .boolean)) (ws_ yX2_readOrder cX2_readOrder 3 ((some .boolean))) rm rm.cells rm.slots 0 := cwV 0 ht (gV mm_X6_198 mi_X2_readOrder ms_X2_readOrder mz_X2 mc_X2_readOrder) rfl rfl rfl (by decide +kernel) hR
theorem cw_X6_202 {R : Room} {s : State} {args : Array Value} {rm : Room} (ht : ∀ w ∈ lw_good, w.before args s = true) (hR : rm.frames + 1 ≤ R.frames ∧ 8 + (2 + 11) + rm.locals ≤ R.locals) : CallW R s args RX6 RX6 202 yX6_carryOutOne cX6_carryOutOne 2 ((some .int)) (ws_ yX6_carryOutOne cX6_carryOutOne 2 ((some .int))) rm rm.cells rm.slots 0 := cwV 0 ht (gV mm_X6_202 mi_X6_carryOutOne ms_X6_carryOutOne mz_X6 mc_X6_carryOutOne) rfl rfl rfl (by decide +kernel) hR
theorem cw_L_118 {R : Room} {s : State} {args : Array Value} {rm : Room} (ht : ∀ w ∈ lw_good, w.before args s = true) (hR : rm.frames + 1 ≤ R.frames ∧ 8 + (1 + 11) + rm.locals ≤ R.locals) : CallW R s args RL RX6 118 yX6_undo cX6_undo 1 ((some .int)) (ws_ yX6_undo cX6_undo 1 ((some .int))) rm rm.cells rm.slots 0 := cwV 0 ht (gV mm_L_118 mi_X6_undo ms_X6_undo mz_X6 mc_X6_undo) rfl rfl rfl (by decide +kernel) hR
theorem cw_X6_205 {R : Room} {s : State} {args : Array Value} {rm : Room} (ht : ∀ w ∈ lw_good, w.before args s = true) (hR : rm.frames + 1 ≤ R.frames ∧ 8 + (2 + 11) + rm.locals ≤ R.locals) : CallW R s args RX6 RX0 205 yX0_takeBack cX0_takeBack 2 ((some .boolean)) (ws_ yX0_takeBack cX0_takeBack 2 ((some .boolean))) rm rm.cells rm.slots 1 := cwV 1 ht (gV mm_X6_205 mi_X0_takeBack ms_X0_takeBack mz_X0 mc_X0_takeBack) rfl rfl rfl (by decide +kernel) hR
theorem cw_L_122 {R : Room} {s : State} {args : Array Value} {rm : Room} (ht : ∀ w ∈ lw_good, w.before args s = true) (hR : rm.frames + 1 ≤ R.frames ∧ 8 + (2 + 11) + rm.locals ≤ R.locals) : CallW R s args RL RX6 122 yX6_save cX6_save 2 ((some .int)) (ws_ yX6_save cX6_save 2 ((some .int))) rm rm.cells rm.slots 1 := cwV 1 ht (gV mm_L_122 mi_X6_save ms_X6_save mz_X6 mc_X6_save) rfl rfl rfl (by decide +kernel) hR
theorem cw_X6_209 {R : Room} {s : State} {args : Array Value} {rm : Room} (ht : ∀ w ∈ lw_good, w.before args s = true) (hR : rm.frames + 1 ≤ R.frames ∧ 8 + (3 + 11) + rm.locals ≤ R.locals) : CallW R s args RX6 RX5 209 yX5_copyFrom cX5_copyFrom 3 ((none : Option Jvm.ClassFile.FieldType)) (ws_ yX5_copyFrom cX5_copyFrom 3 ((none : Option Jvm.ClassFile.FieldType))) rm rm.cells rm.slots 1 := cwV 1 ht (gV mm_X6_209 mi_X5_copyFrom ms_X5_copyFrom mz_X5 mc_X5_copyFrom) rfl rfl rfl (by decide +kernel) hR
theorem cw_L_126 {R : Room} {s : State} {args : Array Value} {rm : Room} (ht : ∀ w ∈ lw_good, w.before args s = true) (hR : rm.frames + 1 ≤ R.frames ∧ 8 + (2 + 11) + rm.locals ≤ R.locals) : CallW R s args RL RX6 126 yX6_restore cX6_restore 2 ((some .int)) (ws_ yX6_restore cX6_restore 2 ((some .int))) rm rm.cells rm.slots 1 := cwV 1 ht (gV mm_L_126 mi_X6_restore ms_X6_restore mz_X6 mc_X6_restore) rfl rfl rfl (by decide +kernel) hR
theorem cw_L_12 {R : Room} {s : State} {args : Array Value} {rm : Room} (ht : ∀ w ∈ lw_good, w.before args s = true) (hR : rm.frames + 1 ≤ R.frames ∧ 8 + (2 + 11) + rm.locals ≤ R.locals) : CallB R s args RL 12 yX7_init cX7_init 2 none (ws_ yX7_init cX7_init 2 none) rm rm.cells rm.slots 0 ∧ yX7_init.name = "<init>" ∧ (Cond.instanceMethod yX7_init).before args s = true := cwI 0 ht (gI mc_X7_init) rfl rfl rfl (ht _ mz_X7) (ht _ mm_L_12) (ht _ mi_X7_init) rfl (by decide +kernel) hR
theorem cw_L_121 {R : Room} {s : State} {args : Array Value} {rm : Room} (ht : ∀ w ∈ lw_good, w.before args s = true) (hR : rm.frames + 1 ≤ R.frames ∧ 8 + (2 + 11) + rm.locals ≤ R.locals) : CallW R s args RL RX7 121 yX7_undo cX7_undo 2 ((some .int)) (ws_ yX7_undo cX7_undo 2 ((some .int))) rm rm.cells rm.slots 0 := cwV 0 ht (gV mm_L_121 mi_X7_undo ms_X7_undo mz_X7 mc_X7_undo) rfl rfl rfl (by decide +kernel) hR
theorem cw_L_125 {R : Room} {s : State} {args : Array Value} {rm : Room} (ht : ∀ w ∈ lw_good, w.before args s = true) (hR : rm.frames + 1 ≤ R.frames ∧ 8 + (3 + 11) + rm.locals ≤ R.locals) : CallW R s args RL RX7 125 yX7_save cX7_save 3 ((some .int)) (ws_ yX7_save cX7_save 3 ((some .int))) rm rm.cells rm.slots 1 := cwV 1 ht (gV mm_L_125 mi_X7_save ms_X7_save mz_X7 mc_X7_save) rfl rfl rfl (by decide +kernel) hR
theorem cw_X7_47 {R : Room} {s : State} {args : Array Value} {rm : Room} (ht : ∀ w ∈ lw_good, w.before args s = true) (hR : rm.frames + 1 ≤ R.frames ∧ 8 + (4 + 11) + rm.locals ≤ R.locals) : CallB R s args RX7 47 yX7_in cX7_in 4 ((some .boolean)) (ws_ yX7_in cX7_in 4 ((some .boolean))) rm rm.cells rm.slots 3 ∧ (Cond.static yX7_in).before args s = true := va_cwS 3 ht (gS mm_X7_47 mst_X7_in mz_X7 mc_X7_in) rfl rfl rfl (by decide +kernel) hR
theorem cw_L_129 {R : Room} {s : State} {args : Array Value} {rm : Room} (ht : ∀ w ∈ lw_good, w.before args s = true) (hR : rm.frames + 1 ≤ R.frames ∧ 8 + (3 + 11) + rm.locals ≤ R.locals) : CallW R s args RL RX7 129 yX7_restore cX7_restore 3 ((some .int)) (ws_ yX7_restore cX7_restore 3 ((some .int))) rm rm.cells rm.slots 1 := cwV 1 ht (gV mm_L_129 mi_X7_restore ms_X7_restore mz_X7 mc_X7_restore) rfl rfl rfl (by decide +kernel) hR
theorem cw_X7_55 {R : Room} {s : State} {args : Array Value} {rm : Room} (ht : ∀ w ∈ lw_good, w.before args s = true) (hR : rm.frames + 1 ≤ R.frames ∧ 8 + (2 + 11) + rm.locals ≤ R.locals) : CallW R s args RX7 RX7 55 yX7_remember cX7_remember 2 ((none : Option Jvm.ClassFile.FieldType)) (ws_ yX7_remember cX7_remember 2 ((none : Option Jvm.ClassFile.FieldType))) rm rm.cells rm.slots 0 := cwV 0 ht (gV mm_X7_55 mi_X7_remember ms_X7_remember mz_X7 mc_X7_remember) rfl rfl rfl (by decide +kernel) hR
theorem cw_X7_58 {R : Room} {s : State} {args : Array Value} {rm : Room} (ht : ∀ w ∈ lw_good, w.before args s = true) (hR : rm.frames + 1 ≤ R.frames ∧ 8 + (3 + 11) + rm.locals ≤ R.locals) : CallW R s args RX7 RX7 58 yX7_record cX7_record 3 ((some .int)) (ws_ yX7_record cX7_record 3 ((some .int))) rm rm.cells rm.slots 1 := cwV 1 ht (gV mm_X7_58 mi_X7_record ms_X7_record mz_X7 mc_X7_record) rfl rfl rfl (by decide +kernel) hR
theorem cw_L_17 {R : Room} {s : State} {args : Array Value} {rm : Room} (ht : ∀ w ∈ lw_good, w.before args s = true) (hR : rm.frames + 1 ≤ R.frames ∧ 8 + (4 + 11) + rm.locals ≤ R.locals) : CallW R s args RL RX7 17 yX7_set cX7_set 4 ((some .int)) (ws_ yX7_set cX7_set 4 ((some .int))) rm rm.cells rm.slots 2 := cwV 2 ht (gV mm_L_17 mi_X7_set ms_X7_set mz_X7 mc_X7_set) rfl rfl rfl (by decide +kernel) hR
theorem cw_L_22 {R : Room} {s : State} {args : Array Value} {rm : Room} (ht : ∀ w ∈ lw_good, w.before args s = true) (hR : rm.frames + 1 ≤ R.frames ∧ 8 + (4 + 11) + rm.locals ≤ R.locals) : CallW R s args RL RX7 22 yX7_leaf cX7_leaf 4 ((some .int)) (ws_ yX7_leaf cX7_leaf 4 ((some .int))) rm rm.cells rm.slots 3 := cwV 3 ht (gV mm_L_22 mi_X7_leaf ms_X7_leaf mz_X7 mc_X7_leaf) rfl rfl rfl (by decide +kernel) hR
theorem cw_X7_116 {R : Room} {s : State} {args : Array Value} {rm : Room} (ht : ∀ w ∈ lw_good, w.before args s = true) (hR : rm.frames + 1 ≤ R.frames ∧ 8 + (8 + 11) + rm.locals ≤ R.locals) : CallW R s args RX7 RX7 116 yX7_comes cX7_comes 8 ((some .int)) (ws_ yX7_comes cX7_comes 8 ((some .int))) rm rm.cells rm.slots 5 := cwV 5 ht (gV mm_X7_116 mi_X7_comes ms_X7_comes mz_X7 mc_X7_comes) rfl rfl rfl (by decide +kernel) hR
theorem cw_X7_97 {R : Room} {s : State} {args : Array Value} {rm : Room} (ht : ∀ w ∈ lw_good, w.before args s = true) (hR : rm.frames + 1 ≤ R.frames ∧ 8 + (4 + 11) + rm.locals ≤ R.locals) : CallW R s args RX7 RX7 97 yX7_lay cX7_lay 4 ((none : Option Jvm.ClassFile.FieldType)) (ws_ yX7_lay cX7_lay 4 ((none : Option Jvm.ClassFile.FieldType))) rm rm.cells rm.slots 3 := cwV 3 ht (gV mm_X7_97 mi_X7_lay ms_X7_lay mz_X7 mc_X7_lay) rfl rfl rfl (by decide +kernel) hR
theorem cw_L_29 {R : Room} {s : State} {args : Array Value} {rm : Room} (ht : ∀ w ∈ lw_good, w.before args s = true) (hR : rm.frames + 1 ≤ R.frames ∧ 8 + (5 + 11) + rm.locals ≤ R.locals) : CallW R s args RL RX7 29 yX7_row cX7_row 5 ((some .int)) (ws_ yX7_row cX7_row 5 ((some .int))) rm rm.cells rm.slots 2 := cwV 2 ht (gV mm_L_29 mi_X7_row ms_X7_row mz_X7 mc_X7_row) rfl rfl rfl (by decide +kernel) hR
theorem cw_X7_101 {R : Room} {s : State} {args : Array Value} {rm : Room} (ht : ∀ w ∈ lw_good, w.before args s = true) (hR : rm.frames + 1 ≤ R.frames ∧ 8 + (2 + 11) + rm.locals ≤ R.locals) : CallW R s args RX7 RX7 101 yX7_isLeaf cX7_isLeaf 2 ((some .boolean)) (ws_ yX7_isLeaf cX7_isLeaf 2 ((some .boolean))) rm rm.cells rm.slots 1 := cwV 1 ht (gV mm_X7_101 mi_X7_isLeaf ms_X7_isLeaf mz_X7 mc_X7_isLeaf) rfl rfl rfl (by decide +kernel) hR
theorem cw_X7_66 {R : Room} {s : State} {args : Array Value} {rm : Room} (ht : ∀ w ∈ lw_good, w.before args s = true) (hR : rm.frames + 1 ≤ R.frames ∧ 8 + (3 + 11) + rm.locals ≤ R.locals) : CallW R s args RX7 RX7 66 yX7_priceOf cX7_priceOf 3 ((some .int)) (ws_ yX7_priceOf cX7_priceOf 3 ((some .int))) rm rm.cells rm.slots 1 := cwV 1 ht (gV mm_X7_66 mi_X7_priceOf ms_X7_priceOf mz_X7 mc_X7_priceOf) rfl rfl rfl (by decide +kernel) hR
theorem cw_X7_62 {R : Room} {s : State} {args : Array Value} {rm : Room} (ht : ∀ w ∈ lw_good, w.before args s = true) (hR : rm.frames + 1 ≤ R.frames ∧ 8 + (3 + 11) + rm.locals ≤ R.locals) : CallW R s args RX7 RX7 62 yX7_its cX7_its 3 ((some .int)) (ws_ yX7_its cX7_its 3 ((some .int))) rm rm.cells rm.slots 2 := cwV 2 ht (gV mm_X7_62 mi_X7_its ms_X7_its mz_X7 mc_X7_its) rfl rfl rfl (by decide +kernel) hR
theorem cw_L_33 {R : Room} {s : State} {args : Array Value} {rm : Room} (ht : ∀ w ∈ lw_good, w.before args s = true) (hR : rm.frames + 1 ≤ R.frames ∧ 8 + (4 + 11) + rm.locals ≤ R.locals) : CallW R s args RL RX7 33 yX7_buy cX7_buy 4 ((some .int)) (ws_ yX7_buy cX7_buy 4 ((some .int))) rm rm.cells rm.slots 2 := cwV 2 ht (gV mm_L_33 mi_X7_buy ms_X7_buy mz_X7 mc_X7_buy) rfl rfl rfl (by decide +kernel) hR
theorem cw_L_37 {R : Room} {s : State} {args : Array Value} {rm : Room} (ht : ∀ w ∈ lw_good, w.before args s = true) (hR : rm.frames + 1 ≤ R.frames ∧ 8 + (5 + 11) + rm.locals ≤ R.locals) : CallW R s args RL RX7 37 yX7_bound cX7_bound 5 ((some .int)) (ws_ yX7_bound cX7_bound 5 ((some .int))) rm rm.cells rm.slots 3 := cwV 3 ht (gV mm_L_37 mi_X7_bound ms_X7_bound mz_X7 mc_X7_bound) rfl rfl rfl (by decide +kernel) hR
theorem cw_L_41 {R : Room} {s : State} {args : Array Value} {rm : Room} (ht : ∀ w ∈ lw_good, w.before args s = true) (hR : rm.frames + 1 ≤ R.frames ∧ 8 + (3 + 11) + rm.locals ≤ R.locals) : CallW R s args RL RX7 41 yX7_share cX7_share 3 ((some .int)) (ws_ yX7_share cX7_share 3 ((some .int))) rm rm.cells rm.slots 2 := cwV 2 ht (gV mm_L_41 mi_X7_share ms_X7_share mz_X7 mc_X7_share) rfl rfl rfl (by decide +kernel) hR
theorem cw_X7_124 {R : Room} {s : State} {args : Array Value} {rm : Room} (ht : ∀ w ∈ lw_good, w.before args s = true) (hR : rm.frames + 1 ≤ R.frames ∧ 8 + (4 + 11) + rm.locals ≤ R.locals) : CallW R s args RX7 RX7 124 yX7_gets cX7_gets 4 ((some .int)) (ws_ yX7_gets cX7_gets 4 ((some .int))) rm rm.cells rm.slots 2 := cwV 2 ht (gV mm_X7_124 mi_X7_gets ms_X7_gets mz_X7 mc_X7_gets) rfl rfl rfl (by decide +kernel) hR
theorem cw_X7_73 {R : Room} {s : State} {args : Array Value} {rm : Room} (ht : ∀ w ∈ lw_good, w.before args s = true) (hR : rm.frames + 1 ≤ R.frames ∧ 8 + (3 + 11) + rm.locals ≤ R.locals) : CallW R s args RX7 RX7 73 yX7_shares cX7_shares 3 ((some .int)) (ws_ yX7_shares cX7_shares 3 ((some .int))) rm rm.cells rm.slots 0 := cwV 0 ht (gV mm_X7_73 mi_X7_shares ms_X7_shares mz_X7 mc_X7_shares) rfl rfl rfl (by decide +kernel) hR
theorem cw_L_46 {R : Room} {s : State} {args : Array Value} {rm : Room} (ht : ∀ w ∈ lw_good, w.before args s = true) (hR : rm.frames + 1 ≤ R.frames ∧ 8 + (2 + 11) + rm.locals ≤ R.locals) : CallW R s args RL RX7 46 yX7_choose cX7_choose 2 ((some .int)) (ws_ yX7_choose cX7_choose 2 ((some .int))) rm rm.cells rm.slots 0 := cwV 0 ht (gV mm_L_46 mi_X7_choose ms_X7_choose mz_X7 mc_X7_choose) rfl rfl rfl (by decide +kernel) hR
theorem cw_X7_127 {R : Room} {s : State} {args : Array Value} {rm : Room} (ht : ∀ w ∈ lw_good, w.before args s = true) (hR : rm.frames + 1 ≤ R.frames ∧ 8 + (5 + 11) + rm.locals ≤ R.locals) : CallW R s args RX7 RX7 127 yX7_seek cX7_seek 5 ((none : Option Jvm.ClassFile.FieldType)) (ws_ yX7_seek cX7_seek 5 ((none : Option Jvm.ClassFile.FieldType))) rm rm.cells rm.slots 0 := cwV 0 ht (gV mm_X7_127 mi_X7_seek ms_X7_seek mz_X7 mc_X7_seek) rfl rfl rfl (by decide +kernel) hR
theorem cw_X7_83 {R : Room} {s : State} {args : Array Value} {rm : Room} (ht : ∀ w ∈ lw_good, w.before args s = true) (hR : rm.frames + 1 ≤ R.frames ∧ 8 + (4 + 11) + rm.locals ≤ R.locals) : CallW R s args RX7 RX7 83 yX7_layDay cX7_layDay 4 ((none : Option Jvm.ClassFile.FieldType)) (ws_ yX7_layDay cX7_layDay 4 ((none : Option Jvm.ClassFile.FieldType))) rm rm.cells rm.slots 0 := cwV 0 ht (gV mm_X7_83 mi_X7_layDay ms_X7_layDay mz_X7 mc_X7_layDay) rfl rfl rfl (by decide +kernel) hR
theorem cw_X7_69 {R : Room} {s : State} {args : Array Value} {rm : Room} (ht : ∀ w ∈ lw_good, w.before args s = true) (hR : rm.frames + 1 ≤ R.frames ∧ 8 + (5 + 11) + rm.locals ≤ R.locals) : CallW R s args RX7 RX7 69 yX7_tasteOf cX7_tasteOf 5 ((some .int)) (ws_ yX7_tasteOf cX7_tasteOf 5 ((some .int))) rm rm.cells rm.slots 3 := cwV 3 ht (gV mm_X7_69 mi_X7_tasteOf ms_X7_tasteOf mz_X7 mc_X7_tasteOf) rfl rfl rfl (by decide +kernel) hR
theorem cw_X7_86 {R : Room} {s : State} {args : Array Value} {rm : Room} (ht : ∀ w ∈ lw_good, w.before args s = true) (hR : rm.frames + 1 ≤ R.frames ∧ 8 + (3 + 11) + rm.locals ≤ R.locals) : CallW R s args RX7 RX7 86 yX7_triedPrice cX7_triedPrice 3 ((some .int)) (ws_ yX7_triedPrice cX7_triedPrice 3 ((some .int))) rm rm.cells rm.slots 0 := cwV 0 ht (gV mm_X7_86 mi_X7_triedPrice ms_X7_triedPrice mz_X7 mc_X7_triedPrice) rfl rfl rfl (by decide +kernel) hR
theorem cw_X7_89 {R : Room} {s : State} {args : Array Value} {rm : Room} (ht : ∀ w ∈ lw_good, w.before args s = true) (hR : rm.frames + 1 ≤ R.frames ∧ 8 + (4 + 11) + rm.locals ≤ R.locals) : CallW R s args RX7 RX7 89 yX7_keeps cX7_keeps 4 ((some .boolean)) (ws_ yX7_keeps cX7_keeps 4 ((some .boolean))) rm rm.cells rm.slots 0 := cwV 0 ht (gV mm_X7_89 mi_X7_keeps ms_X7_keeps mz_X7 mc_X7_keeps) rfl rfl rfl (by decide +kernel) hR
theorem cw_X7_93 {R : Room} {s : State} {args : Array Value} {rm : Room} (ht : ∀ w ∈ lw_good, w.before args s = true) (hR : rm.frames + 1 ≤ R.frames ∧ 8 + (4 + 11) + rm.locals ≤ R.locals) : CallW R s args RX7 RX7 93 yX7_nextTried cX7_nextTried 4 ((some .boolean)) (ws_ yX7_nextTried cX7_nextTried 4 ((some .boolean))) rm rm.cells rm.slots 1 := cwV 1 ht (gV mm_X7_93 mi_X7_nextTried ms_X7_nextTried mz_X7 mc_X7_nextTried) rfl rfl rfl (by decide +kernel) hR
theorem cw_L_51 {R : Room} {s : State} {args : Array Value} {rm : Room} (ht : ∀ w ∈ lw_good, w.before args s = true) (hR : rm.frames + 1 ≤ R.frames ∧ 8 + (2 + 11) + rm.locals ≤ R.locals) : CallW R s args RL RX7 51 yX7_mix cX7_mix 2 ((some .int)) (ws_ yX7_mix cX7_mix 2 ((some .int))) rm rm.cells rm.slots 1 := cwV 1 ht (gV mm_L_51 mi_X7_mix ms_X7_mix mz_X7 mc_X7_mix) rfl rfl rfl (by decide +kernel) hR
theorem cw_X7_130 {R : Room} {s : State} {args : Array Value} {rm : Room} (ht : ∀ w ∈ lw_good, w.before args s = true) (hR : rm.frames + 1 ≤ R.frames ∧ 8 + (4 + 11) + rm.locals ≤ R.locals) : CallW R s args RX7 RX7 130 yX7_mixes cX7_mixes 4 ((some .int)) (ws_ yX7_mixes cX7_mixes 4 ((some .int))) rm rm.cells rm.slots 1 := cwV 1 ht (gV mm_X7_130 mi_X7_mixes ms_X7_mixes mz_X7 mc_X7_mixes) rfl rfl rfl (by decide +kernel) hR
theorem cw_X7_107 {R : Room} {s : State} {args : Array Value} {rm : Room} (ht : ∀ w ∈ lw_good, w.before args s = true) (hR : rm.frames + 1 ≤ R.frames ∧ 8 + (4 + 11) + rm.locals ≤ R.locals) : CallW R s args RX7 RX7 107 yX7_reason cX7_reason 4 ((some .int)) (ws_ yX7_reason cX7_reason 4 ((some .int))) rm rm.cells rm.slots 1 := cwV 1 ht (gV mm_X7_107 mi_X7_reason ms_X7_reason mz_X7 mc_X7_reason) rfl rfl rfl (by decide +kernel) hR
theorem cw_X7_77 {R : Room} {s : State} {args : Array Value} {rm : Room} (ht : ∀ w ∈ lw_good, w.before args s = true) (hR : rm.frames + 1 ≤ R.frames ∧ 8 + (5 + 11) + rm.locals ≤ R.locals) : CallW R s args RX7 RX7 77 yX7_sumOfTastes cX7_sumOfTastes 5 ((some .int)) (ws_ yX7_sumOfTastes cX7_sumOfTastes 5 ((some .int))) rm rm.cells rm.slots 2 := cwV 2 ht (gV mm_X7_77 mi_X7_sumOfTastes ms_X7_sumOfTastes mz_X7 mc_X7_sumOfTastes) rfl rfl rfl (by decide +kernel) hR
theorem cw_X7_110 {R : Room} {s : State} {args : Array Value} {rm : Room} (ht : ∀ w ∈ lw_good, w.before args s = true) (hR : rm.frames + 1 ≤ R.frames ∧ 8 + (3 + 11) + rm.locals ≤ R.locals) : CallW R s args RX7 RX7 110 yX7_suffices cX7_suffices 3 ((some .boolean)) (ws_ yX7_suffices cX7_suffices 3 ((some .boolean))) rm rm.cells rm.slots 1 := cwV 1 ht (gV mm_X7_110 mi_X7_suffices ms_X7_suffices mz_X7 mc_X7_suffices) rfl rfl rfl (by decide +kernel) hR
theorem cw_X7_104 {R : Room} {s : State} {args : Array Value} {rm : Room} (ht : ∀ w ∈ lw_good, w.before args s = true) (hR : rm.frames + 1 ≤ R.frames ∧ 8 + (3 + 11) + rm.locals ≤ R.locals) : CallW R s args RX7 RX7 104 yX7_needs cX7_needs 3 ((some .int)) (ws_ yX7_needs cX7_needs 3 ((some .int))) rm rm.cells rm.slots 2 := cwV 2 ht (gV mm_X7_104 mi_X7_needs ms_X7_needs mz_X7 mc_X7_needs) rfl rfl rfl (by decide +kernel) hR
theorem cw_X7_113 {R : Room} {s : State} {args : Array Value} {rm : Room} (ht : ∀ w ∈ lw_good, w.before args s = true) (hR : rm.frames + 1 ≤ R.frames ∧ 8 + (3 + 11) + rm.locals ≤ R.locals) : CallW R s args RX7 RX7 113 yX7_sumOfPrices cX7_sumOfPrices 3 ((some .int)) (ws_ yX7_sumOfPrices cX7_sumOfPrices 3 ((some .int))) rm rm.cells rm.slots 0 := cwV 0 ht (gV mm_X7_113 mi_X7_sumOfPrices ms_X7_sumOfPrices mz_X7 mc_X7_sumOfPrices) rfl rfl rfl (by decide +kernel) hR
theorem cw_L_55 {R : Room} {s : State} {args : Array Value} {rm : Room} (ht : ∀ w ∈ lw_good, w.before args s = true) (hR : rm.frames + 1 ≤ R.frames ∧ 8 + (2 + 11) + rm.locals ≤ R.locals) : CallW R s args RL RX7 55 yX7_pass cX7_pass 2 ((some .int)) (ws_ yX7_pass cX7_pass 2 ((some .int))) rm rm.cells rm.slots 1 := cwV 1 ht (gV mm_L_55 mi_X7_pass ms_X7_pass mz_X7 mc_X7_pass) rfl rfl rfl (by decide +kernel) hR
theorem cw_X7_133 {R : Room} {s : State} {args : Array Value} {rm : Room} (ht : ∀ w ∈ lw_good, w.before args s = true) (hR : rm.frames + 1 ≤ R.frames ∧ 8 + (3 + 11) + rm.locals ≤ R.locals) : CallW R s args RX7 RX7 133 yX7_waits cX7_waits 3 ((some .int)) (ws_ yX7_waits cX7_waits 3 ((some .int))) rm rm.cells rm.slots 1 := cwV 1 ht (gV mm_X7_133 mi_X7_waits ms_X7_waits mz_X7 mc_X7_waits) rfl rfl rfl (by decide +kernel) hR
theorem cw_L_59 {R : Room} {s : State} {args : Array Value} {rm : Room} (ht : ∀ w ∈ lw_good, w.before args s = true) (hR : rm.frames + 1 ≤ R.frames ∧ 8 + (3 + 11) + rm.locals ≤ R.locals) : CallW R s args RL RX7 59 yX7_of cX7_of 3 ((some .int)) (ws_ yX7_of cX7_of 3 ((some .int))) rm rm.cells rm.slots 2 := cwV 2 ht (gV mm_L_59 mi_X7_of ms_X7_of mz_X7 mc_X7_of) rfl rfl rfl (by decide +kernel) hR
theorem cw_L_63 {R : Room} {s : State} {args : Array Value} {rm : Room} (ht : ∀ w ∈ lw_good, w.before args s = true) (hR : rm.frames + 1 ≤ R.frames ∧ 8 + (2 + 11) + rm.locals ≤ R.locals) : CallW R s args RL RX7 63 yX7_blend cX7_blend 2 ((some .int)) (ws_ yX7_blend cX7_blend 2 ((some .int))) rm rm.cells rm.slots 1 := cwV 1 ht (gV mm_L_63 mi_X7_blend ms_X7_blend mz_X7 mc_X7_blend) rfl rfl rfl (by decide +kernel) hR
theorem cw_X7_136 {R : Room} {s : State} {args : Array Value} {rm : Room} (ht : ∀ w ∈ lw_good, w.before args s = true) (hR : rm.frames + 1 ≤ R.frames ∧ 8 + (3 + 11) + rm.locals ≤ R.locals) : CallW R s args RX7 RX7 136 yX7_mask cX7_mask 3 ((some .int)) (ws_ yX7_mask cX7_mask 3 ((some .int))) rm rm.cells rm.slots 0 := cwV 0 ht (gV mm_X7_136 mi_X7_mask ms_X7_mask mz_X7 mc_X7_mask) rfl rfl rfl (by decide +kernel) hR
theorem cw_L_67 {R : Room} {s : State} {args : Array Value} {rm : Room} (ht : ∀ w ∈ lw_good, w.before args s = true) (hR : rm.frames + 1 ≤ R.frames ∧ 8 + (1 + 11) + rm.locals ≤ R.locals) : CallW R s args RL RX7 67 yX7_why cX7_why 1 ((some .int)) (ws_ yX7_why cX7_why 1 ((some .int))) rm rm.cells rm.slots 0 := cwV 0 ht (gV mm_L_67 mi_X7_why ms_X7_why mz_X7 mc_X7_why) rfl rfl rfl (by decide +kernel) hR
theorem cw_L_71 {R : Room} {s : State} {args : Array Value} {rm : Room} (ht : ∀ w ∈ lw_good, w.before args s = true) (hR : rm.frames + 1 ≤ R.frames ∧ 8 + (2 + 11) + rm.locals ≤ R.locals) : CallW R s args RL RX7 71 yX7_count cX7_count 2 ((some .int)) (ws_ yX7_count cX7_count 2 ((some .int))) rm rm.cells rm.slots 1 := cwV 1 ht (gV mm_L_71 mi_X7_count ms_X7_count mz_X7 mc_X7_count) rfl rfl rfl (by decide +kernel) hR
theorem cw_L_76 {R : Room} {s : State} {args : Array Value} {rm : Room} (ht : ∀ w ∈ lw_good, w.before args s = true) (hR : rm.frames + 1 ≤ R.frames ∧ 8 + (2 + 11) + rm.locals ≤ R.locals) : CallW R s args RL RX7 76 yX7_taste cX7_taste 2 ((some .long)) (ws_ yX7_taste cX7_taste 2 ((some .long))) rm rm.cells rm.slots 1 := cwV 1 ht (gV mm_L_76 mi_X7_taste ms_X7_taste mz_X7 mc_X7_taste) rfl rfl rfl (by decide +kernel) hR
theorem cw_X7_144 {R : Room} {s : State} {args : Array Value} {rm : Room} (ht : ∀ w ∈ lw_good, w.before args s = true) (hR : rm.frames + 1 ≤ R.frames ∧ 8 + (2 + 11) + rm.locals ≤ R.locals) : CallB R s args RX7 144 yJxe99ae_doubleToLongBits_ccdee cJxe99ae_doubleToLongBits_ccdee 2 ((some .long)) (ws_ yJxe99ae_doubleToLongBits_ccdee cJxe99ae_doubleToLongBits_ccdee 2 ((some .long))) rm rm.cells rm.slots 1 ∧ (Cond.static yJxe99ae_doubleToLongBits_ccdee).before args s = true := va_cwS 1 ht (gS mm_X7_144 mst_Jxe99ae_doubleToLongBits_ccdee mz_Jxe99ae mc_Jxe99ae_doubleToLongBits_ccdee) rfl rfl rfl (by decide +kernel) hR
theorem cw_Jxe99ae_122 {R : Room} {s : State} {args : Array Value} {rm : Room} (ht : ∀ w ∈ lw_good, w.before args s = true) (hR : rm.frames + 1 ≤ R.frames ∧ 8 + (2 + 11) + rm.locals ≤ R.locals) : CallB R s args RJxe99ae 122 yJxe99ae_isNaN_b9ae7 cJxe99ae_isNaN_b9ae7 2 ((some .boolean)) (ws_ yJxe99ae_isNaN_b9ae7 cJxe99ae_isNaN_b9ae7 2 ((some .boolean))) rm rm.cells rm.slots 1 ∧ (Cond.static yJxe99ae_isNaN_b9ae7).before args s = true := va_cwS 1 ht (gS mm_Jxe99ae_122 mst_Jxe99ae_isNaN_b9ae7 mz_Jxe99ae mc_Jxe99ae_isNaN_b9ae7) rfl rfl rfl (by decide +kernel) hR
theorem cw_L_80 {R : Room} {s : State} {args : Array Value} {rm : Room} (ht : ∀ w ∈ lw_good, w.before args s = true) (hR : rm.frames + 1 ≤ R.frames ∧ 8 + (1 + 11) + rm.locals ≤ R.locals) : CallW R s args RL RX7 80 yX7_mean cX7_mean 1 ((some .int)) (ws_ yX7_mean cX7_mean 1 ((some .int))) rm rm.cells rm.slots 0 := cwV 0 ht (gV mm_L_80 mi_X7_mean ms_X7_mean mz_X7 mc_X7_mean) rfl rfl rfl (by decide +kernel) hR
theorem cw_X7_150 {R : Room} {s : State} {args : Array Value} {rm : Room} (ht : ∀ w ∈ lw_good, w.before args s = true) (hR : rm.frames + 1 ≤ R.frames ∧ 8 + (1 + 11) + rm.locals ≤ R.locals) : CallB R s args RX7 150 yJxf58ca_floatToIntBits_5c35a cJxf58ca_floatToIntBits_5c35a 1 ((some .int)) (ws_ yJxf58ca_floatToIntBits_5c35a cJxf58ca_floatToIntBits_5c35a 1 ((some .int))) rm rm.cells rm.slots 1 ∧ (Cond.static yJxf58ca_floatToIntBits_5c35a).before args s = true := va_cwS 1 ht (gS mm_X7_150 mst_Jxf58ca_floatToIntBits_5c35a mz_Jxf58ca mc_Jxf58ca_floatToIntBits_5c35a) rfl rfl rfl (by decide +kernel) hR
theorem cw_Jxf58ca_59 {R : Room} {s : State} {args : Array Value} {rm : Room} (ht : ∀ w ∈ lw_good, w.before args s = true) (hR : rm.frames + 1 ≤ R.frames ∧ 8 + (1 + 11) + rm.locals ≤ R.locals) : CallB R s args RJxf58ca 59 yJxf58ca_isNaN_12338 cJxf58ca_isNaN_12338 1 ((some .boolean)) (ws_ yJxf58ca_isNaN_12338 cJxf58ca_isNaN_12338 1 ((some .boolean))) rm rm.cells rm.slots 1 ∧ (Cond.static yJxf58ca_isNaN_12338).before args s = true := va_cwS 1 ht (gS mm_Jxf58ca_59 mst_Jxf58ca_isNaN_12338 mz_Jxf58ca mc_Jxf58ca_isNaN_12338) rfl rfl rfl (by decide +kernel) hR
theorem cw_L_84 {R : Room} {s : State} {args : Array Value} {rm : Room} (ht : ∀ w ∈ lw_good, w.before args s = true) (hR : rm.frames + 1 ≤ R.frames ∧ 8 + (2 + 11) + rm.locals ≤ R.locals) : CallW R s args RL RX7 84 yX7_cheapest cX7_cheapest 2 ((some .int)) (ws_ yX7_cheapest cX7_cheapest 2 ((some .int))) rm rm.cells rm.slots 1 := cwV 1 ht (gV mm_L_84 mi_X7_cheapest ms_X7_cheapest mz_X7 mc_X7_cheapest) rfl rfl rfl (by decide +kernel) hR
theorem cw_L_88 {R : Room} {s : State} {args : Array Value} {rm : Room} (ht : ∀ w ∈ lw_good, w.before args s = true) (hR : rm.frames + 1 ≤ R.frames ∧ 8 + (9 + 11) + rm.locals ≤ R.locals) : CallW R s args RL RX7 88 yX7_swap cX7_swap 9 ((some .int)) (ws_ yX7_swap cX7_swap 9 ((some .int))) rm rm.cells rm.slots 1 := cwV 1 ht (gV mm_L_88 mi_X7_swap ms_X7_swap mz_X7 mc_X7_swap) rfl rfl rfl (by decide +kernel) hR
theorem cw_L_92 {R : Room} {s : State} {args : Array Value} {rm : Room} (ht : ∀ w ∈ lw_good, w.before args s = true) (hR : rm.frames + 1 ≤ R.frames ∧ 8 + (5 + 11) + rm.locals ≤ R.locals) : CallW R s args RL RX7 92 yX7_looser cX7_looser 5 ((some .int)) (ws_ yX7_looser cX7_looser 5 ((some .int))) rm rm.cells rm.slots 1 := cwV 1 ht (gV mm_L_92 mi_X7_looser ms_X7_looser mz_X7 mc_X7_looser) rfl rfl rfl (by decide +kernel) hR
theorem cw_L_96 {R : Room} {s : State} {args : Array Value} {rm : Room} (ht : ∀ w ∈ lw_good, w.before args s = true) (hR : rm.frames + 1 ≤ R.frames ∧ 8 + (2 + 11) + rm.locals ≤ R.locals) : CallW R s args RL RX7 96 yX7_keepsFor cX7_keepsFor 2 ((some .int)) (ws_ yX7_keepsFor cX7_keepsFor 2 ((some .int))) rm rm.cells rm.slots 0 := cwV 0 ht (gV mm_L_96 mi_X7_keepsFor ms_X7_keepsFor mz_X7 mc_X7_keepsFor) rfl rfl rfl (by decide +kernel) hR
theorem cw_L_100 {R : Room} {s : State} {args : Array Value} {rm : Room} (ht : ∀ w ∈ lw_good, w.before args s = true) (hR : rm.frames + 1 ≤ R.frames ∧ 8 + (2 + 11) + rm.locals ≤ R.locals) : CallW R s args RL RX7 100 yX7_mostGrams cX7_mostGrams 2 ((some .int)) (ws_ yX7_mostGrams cX7_mostGrams 2 ((some .int))) rm rm.cells rm.slots 0 := cwV 0 ht (gV mm_L_100 mi_X7_mostGrams ms_X7_mostGrams mz_X7 mc_X7_mostGrams) rfl rfl rfl (by decide +kernel) hR
theorem cw_L_105 {R : Room} {s : State} {args : Array Value} {rm : Room} (ht : ∀ w ∈ lw_good, w.before args s = true) (hR : rm.frames + 1 ≤ R.frames ∧ 8 + (7 + 11) + rm.locals ≤ R.locals) : CallW R s args RL RX7 105 yX7_put cX7_put 7 ((some .int)) (ws_ yX7_put cX7_put 7 ((some .int))) rm rm.cells rm.slots 1 := cwV 1 ht (gV mm_L_105 mi_X7_put ms_X7_put mz_X7 mc_X7_put) rfl rfl rfl (by decide +kernel) hR
theorem cw_L_109 {R : Room} {s : State} {args : Array Value} {rm : Room} (ht : ∀ w ∈ lw_good, w.before args s = true) (hR : rm.frames + 1 ≤ R.frames ∧ 8 + (2 + 11) + rm.locals ≤ R.locals) : CallW R s args RL RX7 109 yX7_wipe cX7_wipe 2 ((some .int)) (ws_ yX7_wipe cX7_wipe 2 ((some .int))) rm rm.cells rm.slots 0 := cwV 0 ht (gV mm_L_109 mi_X7_wipe ms_X7_wipe mz_X7 mc_X7_wipe) rfl rfl rfl (by decide +kernel) hR
theorem cw_L_113 {R : Room} {s : State} {args : Array Value} {rm : Room} (ht : ∀ w ∈ lw_good, w.before args s = true) (hR : rm.frames + 1 ≤ R.frames ∧ 8 + (1 + 11) + rm.locals ≤ R.locals) : CallW R s args RL RX7 113 yX7_fault cX7_fault 1 ((some .int)) (ws_ yX7_fault cX7_fault 1 ((some .int))) rm rm.cells rm.slots 0 := cwV 0 ht (gV mm_L_113 mi_X7_fault ms_X7_fault mz_X7 mc_X7_fault) rfl rfl rfl (by decide +kernel) hR
theorem cw_X7_178 {R : Room} {s : State} {args : Array Value} {rm : Room} (ht : ∀ w ∈ lw_good, w.before args s = true) (hR : rm.frames + 1 ≤ R.frames ∧ 8 + (2 + 11) + rm.locals ≤ R.locals) : CallW R s args RX7 RX7 178 yX7_isWell cX7_isWell 2 ((some .boolean)) (ws_ yX7_isWell cX7_isWell 2 ((some .boolean))) rm rm.cells rm.slots 0 := cwV 0 ht (gV mm_X7_178 mi_X7_isWell ms_X7_isWell mz_X7 mc_X7_isWell) rfl rfl rfl (by decide +kernel) hR
theorem cw_X7_174 {R : Room} {s : State} {args : Array Value} {rm : Room} (ht : ∀ w ∈ lw_good, w.before args s = true) (hR : rm.frames + 1 ≤ R.frames ∧ 8 + (4 + 11) + rm.locals ≤ R.locals) : CallW R s args RX7 RX7 174 yX7_order cX7_order 4 ((some .int)) (ws_ yX7_order cX7_order 4 ((some .int))) rm rm.cells rm.slots 1 := cwV 1 ht (gV mm_X7_174 mi_X7_order ms_X7_order mz_X7 mc_X7_order) rfl rfl rfl (by decide +kernel) hR
theorem cw_X7_165 {R : Room} {s : State} {args : Array Value} {rm : Room} (ht : ∀ w ∈ lw_good, w.before args s = true) (hR : rm.frames + 1 ≤ R.frames ∧ 8 + (3 + 11) + rm.locals ≤ R.locals) : CallW R s args RX7 RX7 165 yX7_number cX7_number 3 ((some .boolean)) (ws_ yX7_number cX7_number 3 ((some .boolean))) rm rm.cells rm.slots 1 := cwV 1 ht (gV mm_X7_165 mi_X7_number ms_X7_number mz_X7 mc_X7_number) rfl rfl rfl (by decide +kernel) hR
theorem cw_X7_161 {R : Room} {s : State} {args : Array Value} {rm : Room} (ht : ∀ w ∈ lw_good, w.before args s = true) (hR : rm.frames + 1 ≤ R.frames ∧ 8 + (3 + 11) + rm.locals ≤ R.locals) : CallW R s args RX7 RX7 161 yX7_sees cX7_sees 3 ((some .boolean)) (ws_ yX7_sees cX7_sees 3 ((some .boolean))) rm rm.cells rm.slots 2 := cwV 2 ht (gV mm_X7_161 mi_X7_sees ms_X7_sees mz_X7 mc_X7_sees) rfl rfl rfl (by decide +kernel) hR
theorem cw_X7_168 {R : Room} {s : State} {args : Array Value} {rm : Room} (ht : ∀ w ∈ lw_good, w.before args s = true) (hR : rm.frames + 1 ≤ R.frames ∧ 8 + (3 + 11) + rm.locals ≤ R.locals) : CallW R s args RX7 RX7 168 yX7_sign cX7_sign 3 ((some .boolean)) (ws_ yX7_sign cX7_sign 3 ((some .boolean))) rm rm.cells rm.slots 1 := cwV 1 ht (gV mm_X7_168 mi_X7_sign ms_X7_sign mz_X7 mc_X7_sign) rfl rfl rfl (by decide +kernel) hR
theorem cw_X7_171 {R : Room} {s : State} {args : Array Value} {rm : Room} (ht : ∀ w ∈ lw_good, w.before args s = true) (hR : rm.frames + 1 ≤ R.frames ∧ 8 + (1 + 11) + rm.locals ≤ R.locals) : CallW R s args RX7 RX7 171 yX7_digit cX7_digit 1 ((some .boolean)) (ws_ yX7_digit cX7_digit 1 ((some .boolean))) rm rm.cells rm.slots 0 := cwV 0 ht (gV mm_X7_171 mi_X7_digit ms_X7_digit mz_X7 mc_X7_digit) rfl rfl rfl (by decide +kernel) hR
theorem cw_L_117 {R : Room} {s : State} {args : Array Value} {rm : Room} (ht : ∀ w ∈ lw_good, w.before args s = true) (hR : rm.frames + 1 ≤ R.frames ∧ 8 + (3 + 11) + rm.locals ≤ R.locals) : CallW R s args RL RX7 117 yX7_carryOut cX7_carryOut 3 ((some .int)) (ws_ yX7_carryOut cX7_carryOut 3 ((some .int))) rm rm.cells rm.slots 0 := cwV 0 ht (gV mm_L_117 mi_X7_carryOut ms_X7_carryOut mz_X7 mc_X7_carryOut) rfl rfl rfl (by decide +kernel) hR
end
section
/-! MY LAYER: pictures said of single cells, rows that read and write them, calls -/
abbrev GG : Type := va_G × (Nat → ClassId)
def tysG (G : GG) : List (ClassId × FieldType) := [(G.2 0, .int), (G.2 1, .char), (G.2 2, .boolean), (G.2 3, .object RX1), (G.2 4, .object RX5), (G.2 5, .array .int)]
def Kn (G : GG) (U : State) : Prop := va_K G.1 vwCl (tysG G) U
theorem Kn.moved {G : GG} {u U : State} (h : u.vm.Alike U.vm) (k : Kn G u) : Kn G U := va_K.moved h k
/-- an object of class ci at a with the fields fs -/
def ob (G : GG) (ci a : Nat) (fs : List Value) (H : Heap) : Prop := va_at G.1 vwCl (a, .inr (ci, fs)) H
/-- an array of kind k at a -/
def ar (G : GG) (k a : Nat) (x : vp_A) (H : Heap) : Prop := H[a]? = some (vp_cell (G.2 k) x)
abbrev iA (n : Nat) (f : Nat → Int32) : vp_A := (n, .inl f)
abbrev qA (n : Nat) (f : Nat → Option Nat) : vp_A := (n, .inr (.inr (.inr (.inr f))))
/-- only the cell a is another one -/
def Oq (a : Nat) (H H1 : Heap) : Prop := H1.size = H.size ∧ ∀ q : Nat, q ≠ a → H1[q]? = H[q]?
theorem ob.kept {G : GG} {ci a : Nat} {fs : List Value} {H H1 : Heap} (h : ob G ci a fs H) (e : H1[a]? = H[a]?) : ob G ci a fs H1 := va_at.kept h e
theorem ob.lt {G : GG} {ci a : Nat} {fs : List Value} {H : Heap} (h : ob G ci a fs H) : a < H.size := va_at.lt h
theorem ar.kept {G : GG} {k a : Nat} {x : vp_A} {H H1 : Heap} (h : ar G k a x H) (e : H1[a]? = H[a]?) : ar G k a x H1 := e.trans h
theorem ar.lt {G : GG} {k a : Nat} {x : vp_A} {H : Heap} (h : ar G k a x H) : a < H.size := (Array.getElem?_eq_some_iff.mp h).1
theorem ob.one {G : GG} {ci a : Nat} {fs : List Value} {H : Heap} (h : ob G ci a fs H) : va_P G.1 vwCl [(a, .inr (ci, fs))] H := by
  intro k q hq
  have hk : k < 1 := (List.getElem?_eq_some_iff.mp hq).1
  rw [show k = 0 by omega] at hq
  cases hq
  exact h
theorem ar.one {G : GG} {k a : Nat} {x : vp_A} {H : Heap} (h : ar G k a x H) : va_P G.1 vwCl [(a, .inl (G.2 k, x))] H := by
  intro k q hq
  have hk : k < 1 := (List.getElem?_eq_some_iff.mp hq).1
  rw [show k = 0 by omega] at hq
  cases hq
  exact h
/-- an array is the same where its contents are -/
theorem iA_ext {G : GG} {k a n : Nat} {f g : Nat → Int32} {H : Heap} (h : ar G k a (iA n f) H) (e : ∀ j, j < n → f j = g j) : ar G k a (iA n g) H := by
  refine h.trans ?_
  rw [vp_cell_i, vp_cell_i]
  have q : ∀ i : Fin n, Value.int (f i.val) = Value.int (g i.val) := fun i => by rw [e i.val i.isLt]
  unfold arrV
  rw [funext q]
theorem qA_ext {G : GG} {k a n : Nat} {f g : Nat → Option Nat} {H : Heap} (h : ar G k a (qA n f) H) (e : ∀ j, j < n → f j = g j) : ar G k a (qA n g) H := by
  refine h.trans ?_
  rw [vp_cell_q, vp_cell_q]
  have q : ∀ i : Fin n, va_rf (f i.val) = va_rf (g i.val) := fun i => by rw [e i.val i.isLt]
  unfold arrV
  rw [funext q]
section MYR
variable {p : Program} {l : Launch} {e : Env} {R : Room} {s : State} {m : MethodId} {args : Array Value} {below : List Frame} {meth : Method} {c : Code} {H : Heap} {locs : List Loc} {cells slots : Nat} {Q : State → Prop}
variable {cc : ByteArray} {pc : Nat} {ls : Array Slot} {rest : List Value} {a : Nat} {G : GG} {A : Nat → Prop} {H0 : Heap}
theorem rg {own C : String} {T : u_T} {N ci index : Nat} {fs : List Value} {v : Value} (hx : p.tables.exec = Jvm.exec) (hb : c.code = cc) (hT : ∀ w ∈ lw_good, w.before args s = true) (hin : ∀ w ∈ u_ws C T N, w ∈ lw_good) (hown : s.vm.findClass own = some m.cls) (hK : Kn G s)
    (h : ob G ci a fs H) (hc : vwCl[ci]? = some (C, T, N)) (k : Nat) (hk : k < N) (hl : Cond.fieldLink own index (T k).1 (T k).2.1 (T k).2.2.1 ∈ lw_good) (hv : fs[k]? = some v) (hdg : decode cc pc = .ok (.getfield index, 3))
    (kk : W p l e R s m args below meth c H locs cells slots Q (F0 m (pc + 3) ls (v :: rest))) : W p l e R s m args below meth c H locs cells slots Q (F0 m pc ls (.ref a :: rest)) :=
  va_get (D := G.1) (ci := ci) (v := v) (C := C) (T := T) (N := N) hx hb hT hin hown hK h.one 0 rfl hc k hk (hT _ hl) (fun _ q => q) hv hdg kk
theorem rp {own C : String} {T : u_T} {N ci index : Nat} {fs : List Value} {v : Value} {ty : FieldType} (hx : p.tables.exec = Jvm.exec) (hb : c.code = cc) (hT : ∀ w ∈ lw_good, w.before args s = true) (hin : ∀ w ∈ u_ws C T N, w ∈ lw_good) (ty0 : Nat → FieldType) (hty : ∀ k, k < N → parseFieldDescriptor (T k).2.2.1 = some (ty0 k)) (hnm : ∀ a, a < N → ∀ b, b < N → a ≠ b → (T a).2.1 ≠ (T b).2.1) (hown : s.vm.findClass own = some m.cls) (hK : Kn G s)
    (h : ob G ci a fs H) (hc : vwCl[ci]? = some (C, T, N)) (k : Nat) (hk : k < N) (hl : Cond.fieldLink own index (T k).1 (T k).2.1 (T k).2.2.1 ∈ lw_good) (hfin : (T k).2.2.2 = false) (hd : parseFieldDescriptor (T k).2.2.1 = some ty) (hn : narrow ty v = v) (hfit : fits ty v = true) (hlen : k < fs.length) (hS0 : va_S A H0 H locs) (hA : A a) (hdg : decode cc pc = .ok (.putfield index, 3))
    (kk : ∀ (H1 : Heap) (locs1 : List Loc), ob G ci a (fs.set k v) H1 → Oq a H H1 → va_S A H0 H1 locs1 → W p l e R s m args below meth c H1 locs1 cells slots Q (F0 m (pc + 3) ls rest)) : W p l e R s m args below meth c H locs cells slots Q (F0 m pc ls (v :: .ref a :: rest)) := by
  have hap := va_apart (own := own) hT hin ty0 hty hnm hK hc
  obtain ⟨r, h1, cell, q1, q2, q3, q4⟩ := h
  have hr : r = (C, T, N) := Option.some.inj (h1.symm.trans hc)
  subst hr
  obtain ⟨hS, hfc, kC, hkC, hkind⟩ := hK.1 ci _ hc
  obtain ⟨cf, kf, fi, f, hi, hsl⟩ := hS k hk
  have hlay := hT _ (hin _ (u_in_lay hk))
  unfold u_lay at hlay
  rw [if_neg (by rw [hfin]; decide)] at hlay
  have hst := (u_facts hfc hkC (u_lays hT hin hk) hi).1
  have h6 := u_store hfc hkC hkind hlay hi hd hn hfit
  refine W.putK hx hb (f := f) ⟨hown, hT _ hl, ⟨_, _, _, hi⟩, hst⟩ (by rw [q2]; exact h6) q1 q3 (by rw [hsl]; exact k2_hasslot (q4 k hk)) rfl rfl hdg fun H' e1 e2 e3 => ?_
  rw [hsl] at e1 ⊢
  exact kk H' _ ⟨_, hc, t_OB.to (V := updV (vp_V fs) k v) ⟨_, e1, q2, q3, t_set q4 hap hk v⟩ (fun j _ => vp_updV_set hlen v j)⟩ ⟨e2, e3⟩ (hS0.put e2 e3 hA)
theorem rpF {own C : String} {T : u_T} {N ci index : Nat} {fs : List Value} {v : Value} {ty : FieldType} (hx : p.tables.exec = Jvm.exec) (hb : c.code = cc) (hT : ∀ w ∈ lw_good, w.before args s = true) (hin : ∀ w ∈ u_ws C T N, w ∈ lw_good) (ty0 : Nat → FieldType) (hty : ∀ k, k < N → parseFieldDescriptor (T k).2.2.1 = some (ty0 k)) (hnm : ∀ a, a < N → ∀ b, b < N → a ≠ b → (T a).2.1 ≠ (T b).2.1) (hown : s.vm.findClass own = some m.cls) (hK : Kn G s)
    (h : ob G ci a fs H) (hc : vwCl[ci]? = some (C, T, N)) (k : Nat) (hk : k < N) (hl : Cond.fieldLink own index (T k).1 (T k).2.1 (T k).2.2.1 ∈ lw_good) (hfin : (T k).2.2.2 = true) (hin2 : meth.name = "<init>") (hdecl : (T k).1 = own) (hd : parseFieldDescriptor (T k).2.2.1 = some ty) (hn : narrow ty v = v) (hfit : fits ty v = true) (hlen : k < fs.length) (hS0 : va_S A H0 H locs) (hA : A a) (hdg : decode cc pc = .ok (.putfield index, 3))
    (kk : ∀ (H1 : Heap) (locs1 : List Loc), ob G ci a (fs.set k v) H1 → Oq a H H1 → va_S A H0 H1 locs1 → W p l e R s m args below meth c H1 locs1 cells slots Q (F0 m (pc + 3) ls rest)) : W p l e R s m args below meth c H locs cells slots Q (F0 m pc ls (v :: .ref a :: rest)) := by
  have hap := va_apart (own := own) hT hin ty0 hty hnm hK hc
  obtain ⟨r, h1, cell, q1, q2, q3, q4⟩ := h
  have hr : r = (C, T, N) := Option.some.inj (h1.symm.trans hc)
  subst hr
  obtain ⟨hS, hfc, kC, hkC, hkind⟩ := hK.1 ci _ hc
  obtain ⟨cf, kf, fi, f, hi, hsl⟩ := hS k hk
  have hlay := hT _ (hin _ (u_in_lay hk))
  unfold u_lay at hlay
  rw [if_pos hfin] at hlay
  have hst := (u_facts hfc hkC (u_lays hT hin hk) hi).1
  have hcf : m.cls = cf := by
    obtain ⟨_, _, c', _, _, _, -, -, hf', -, -, -, hown2, -⟩ := Cond.laysFinal_spec hlay
    have e1 : c' = cf := by have := hi.symm.trans hf'; simp at this; exact this.1.symm
    rw [hdecl] at hown2
    rw [← e1]; exact Option.some.inj (hown.symm.trans hown2)
  have h6 := u_fits hfc hkC hkind (Or.inr hlay) hi hd hn hfit
  refine W.putFinK hx hb hown (hT _ hl) hi hst hcf hin2 (by rw [q2]; exact h6) q1 q3 (by rw [hsl]; exact k2_hasslot (q4 k hk)) rfl rfl hdg fun H' e1 e2 e3 => ?_
  rw [hsl] at e1 ⊢
  exact kk H' _ ⟨_, hc, t_OB.to (V := updV (vp_V fs) k v) ⟨_, e1, q2, q3, t_set q4 hap hk v⟩ (fun j _ => vp_updV_set hlen v j)⟩ ⟨e2, e3⟩ (hS0.put e2 e3 hA)
theorem r_iald {n : Nat} {f : Nat → Int32} (hx : p.tables.exec = Jvm.exec) (hb : c.code = cc) (hK : Kn G s) (h : ar G 0 a (iA n f) H) {x : Int32} (i : Nat) (he : x = nI i) (hi : i < n) (hn : n < 2 ^ 31) (hdg : decode cc pc = .ok (.iaload, 1))
    (kk : W p l e R s m args below meth c H locs cells slots Q (F0 m (pc + 1) ls (.int (f i) :: rest))) : W p l e R s m args below meth c H locs cells slots Q (F0 m pc ls (.int x :: .ref a :: rest)) := by
  subst he
  refine va_iald (D := G.1) (tys := tysG G) hx hb hK h.one 0 0 rfl rfl (vp_in_nI hi hn) hdg ?_
  rw [nI_clamp (by omega)]
  exact kk
theorem r_cald {n : Nat} {f : Nat → Int32} (hx : p.tables.exec = Jvm.exec) (hb : c.code = cc) (hK : Kn G s) (h : ar G 1 a (iA n f) H) {x : Int32} (i : Nat) (he : x = nI i) (hi : i < n) (hn : n < 2 ^ 31) (hdg : decode cc pc = .ok (.caload, 1))
    (kk : W p l e R s m args below meth c H locs cells slots Q (F0 m (pc + 1) ls (.int (f i) :: rest))) : W p l e R s m args below meth c H locs cells slots Q (F0 m pc ls (.int x :: .ref a :: rest)) := by
  subst he
  refine va_cald (D := G.1) (tys := tysG G) hx hb hK h.one 0 1 rfl rfl (vp_in_nI hi hn) hdg ?_
  rw [nI_clamp (by omega)]
  exact kk
theorem r_zald {n : Nat} {f : Nat → Int32} (hx : p.tables.exec = Jvm.exec) (hb : c.code = cc) (hK : Kn G s) (h : ar G 2 a (iA n f) H) {x : Int32} (i : Nat) (he : x = nI i) (hi : i < n) (hn : n < 2 ^ 31) (hdg : decode cc pc = .ok (.baload, 1))
    (kk : W p l e R s m args below meth c H locs cells slots Q (F0 m (pc + 1) ls (.int (f i) :: rest))) : W p l e R s m args below meth c H locs cells slots Q (F0 m pc ls (.int x :: .ref a :: rest)) := by
  subst he
  refine va_zald (D := G.1) (tys := tysG G) hx hb hK h.one 0 2 rfl rfl (vp_in_nI hi hn) hdg ?_
  rw [nI_clamp (by omega)]
  exact kk
theorem r_aald {n k : Nat} {f : Nat → Option Nat} {ty : FieldType} (hx : p.tables.exec = Jvm.exec) (hb : c.code = cc) (hK : Kn G s) (h : ar G k a (qA n f) H) (ht : (tysG G)[k]? = some (G.2 k, ty)) (hty : ty.isReference = true) {x : Int32} (i : Nat) (he : x = nI i) (hi : i < n) (hn : n < 2 ^ 31) (hdg : decode cc pc = .ok (.aaload, 1))
    (kk : W p l e R s m args below meth c H locs cells slots Q (F0 m (pc + 1) ls (va_rf (f i) :: rest))) : W p l e R s m args below meth c H locs cells slots Q (F0 m pc ls (.int x :: .ref a :: rest)) := by
  subst he
  have hin := vp_in_nI hi hn
  have hcl : (nI i).toNatClampNeg = i := nI_clamp (by omega)
  exact W.aald (v := va_rf (f i)) (ty := ty) hx hb h ((hK.2 k _ ht).1 n (fun j => va_rf (f j))) hty (fun q => by cases q) (by show ¬ (nI i < 0 ∨ (arrV _ _ _).slots.size ≤ _); rw [arrV_size]; exact hin) (by show (arrV _ _ _).slots[_]? = _; rw [hcl, arrV_read _ _ hi]) rfl rfl hdg kk
theorem r_alen {k : Nat} {x : vp_A} {ty : FieldType} (hx : p.tables.exec = Jvm.exec) (hb : c.code = cc) (hK : Kn G s) (h : ar G k a x H) (ht : (tysG G)[k]? = some (G.2 k, ty)) {v : Int32} (hv : nI x.1 = v) (hdg : decode cc pc = .ok (.arraylength, 1))
    (kk : W p l e R s m args below meth c H locs cells slots Q (F0 m (pc + 1) ls (.int v :: rest))) : W p l e R s m args below meth c H locs cells slots Q (F0 m pc ls (.ref a :: rest)) :=
  va_alen (D := G.1) (tys := tysG G) hx hb hK h.one 0 k rfl ht hv hdg kk
theorem iarr_set {cI : ClassId} {n i : Nat} {f : Nat → Int32} {y : Int32} : (vp_cell cI (iA n f)).setSlot i (.int y) = vp_cell cI (iA n (upd f i y)) := by
  rw [vp_cell_i, vp_cell_i, arrV_store]
  congr 1
  funext q
  by_cases hq : q = i
  · subst hq
    simp [updV, upd]
  · simp [updV, upd, hq]
theorem r_iast {n : Nat} {f : Nat → Int32} (hx : p.tables.exec = Jvm.exec) (hb : c.code = cc) (hK : Kn G s) (h : ar G 0 a (iA n f) H) {x y : Int32} (i : Nat) (he : x = nI i) (hi : i < n) (hn : n < 2 ^ 31) (hS0 : va_S A H0 H locs) (hA : A a) (hdg : decode cc pc = .ok (.iastore, 1))
    (kk : ∀ (H1 : Heap) (locs1 : List Loc), ar G 0 a (iA n (upd f i y)) H1 → Oq a H H1 → va_S A H0 H1 locs1 → W p l e R s m args below meth c H1 locs1 cells slots Q (F0 m (pc + 1) ls rest)) : W p l e R s m args below meth c H locs cells slots Q (F0 m pc ls (.int y :: .int x :: .ref a :: rest)) := by
  subst he
  have hin := vp_in_nI hi hn
  have hcl : (nI i).toNatClampNeg = i := nI_clamp (by omega)
  refine W.iast hx hb h ((hK.2 0 _ rfl).1 n (fun j => .int (f j))) (fun q => by cases q) (by show ¬ (nI i < 0 ∨ (arrV _ _ _).slots.size ≤ _); rw [arrV_size]; exact hin) rfl rfl hdg fun H1 e1 e2 e3 => ?_
  rw [hcl] at e1 ⊢
  exact kk H1 _ (e1.trans (by rw [iarr_set])) ⟨e2, e3⟩ (hS0.put e2 e3 hA)
theorem r_cast {n : Nat} {f : Nat → Int32} (hx : p.tables.exec = Jvm.exec) (hb : c.code = cc) (hK : Kn G s) (h : ar G 1 a (iA n f) H) {x y : Int32} (i : Nat) (he : x = nI i) (hi : i < n) (hn : n < 2 ^ 31) (hy : vp_nar .char y = y) (hS0 : va_S A H0 H locs) (hA : A a) (hdg : decode cc pc = .ok (.castore, 1))
    (kk : ∀ (H1 : Heap) (locs1 : List Loc), ar G 1 a (iA n (upd f i y)) H1 → Oq a H H1 → va_S A H0 H1 locs1 → W p l e R s m args below meth c H1 locs1 cells slots Q (F0 m (pc + 1) ls rest)) : W p l e R s m args below meth c H locs cells slots Q (F0 m pc ls (.int y :: .int x :: .ref a :: rest)) := by
  subst he
  have hin := vp_in_nI hi hn
  have hcl : (nI i).toNatClampNeg = i := nI_clamp (by omega)
  refine W.cast hx hb h ((hK.2 1 _ rfl).1 n (fun j => .int (f j))) (fun q => by cases q) (by show ¬ (nI i < 0 ∨ (arrV _ _ _).slots.size ≤ _); rw [arrV_size]; exact hin) rfl rfl hdg fun H1 e1 e2 e3 => ?_
  rw [hcl] at e1 ⊢
  have hy2 : narrow .char (.int y) = .int y := by
    have h9 := hy
    unfold vp_nar at h9
    simp only [narrow] at h9 ⊢
    rw [h9]
  rw [hy2] at e1
  exact kk H1 _ (e1.trans (by rw [iarr_set])) ⟨e2, e3⟩ (hS0.put e2 e3 hA)
theorem r_zast {n : Nat} {f : Nat → Int32} (hx : p.tables.exec = Jvm.exec) (hb : c.code = cc) (hK : Kn G s) (h : ar G 2 a (iA n f) H) {x y : Int32} (i : Nat) (he : x = nI i) (hi : i < n) (hn : n < 2 ^ 31) (hy : vp_nar .boolean y = y) (hS0 : va_S A H0 H locs) (hA : A a) (hdg : decode cc pc = .ok (.bastore, 1))
    (kk : ∀ (H1 : Heap) (locs1 : List Loc), ar G 2 a (iA n (upd f i y)) H1 → Oq a H H1 → va_S A H0 H1 locs1 → W p l e R s m args below meth c H1 locs1 cells slots Q (F0 m (pc + 1) ls rest)) : W p l e R s m args below meth c H locs cells slots Q (F0 m pc ls (.int y :: .int x :: .ref a :: rest)) := by
  subst he
  have hin := vp_in_nI hi hn
  have hcl : (nI i).toNatClampNeg = i := nI_clamp (by omega)
  refine W.zast hx hb h ((hK.2 2 _ rfl).1 n (fun j => .int (f j))) (fun q => by cases q) (by show ¬ (nI i < 0 ∨ (arrV _ _ _).slots.size ≤ _); rw [arrV_size]; exact hin) rfl rfl hdg fun H1 e1 e2 e3 => ?_
  rw [hcl] at e1 ⊢
  have hy2 : narrow .boolean (.int y) = .int y := by
    have h9 := hy
    unfold vp_nar at h9
    simp only [narrow] at h9 ⊢
    rw [h9]
  rw [hy2] at e1
  exact kk H1 _ (e1.trans (by rw [iarr_set])) ⟨e2, e3⟩ (hS0.put e2 e3 hA)
theorem qarr_set {cI : ClassId} {n i v : Nat} {f : Nat → Option Nat} : (vp_cell cI (qA n f)).setSlot i (.ref v) = vp_cell cI (qA n (va_up f i (some v))) := by
  rw [vp_cell_q, vp_cell_q, arrV_store]
  congr 1
  funext q
  by_cases hq : q = i
  · subst hq
    simp [updV, va_up, va_rf]
  · simp [updV, va_up, hq]
/-- an object of class ci into an array of its class's references -/
theorem r_aast {n k ci v : Nat} {f : Nat → Option Nat} {fs : List Value} {C : String} {T : u_T} {N : Nat} (hx : p.tables.exec = Jvm.exec) (hb : c.code = cc) (hK : Kn G s) (h : ar G k a (qA n f) H) (ht : (tysG G)[k]? = some (G.2 k, .object C)) (hv : ob G ci v fs H) (hc : vwCl[ci]? = some (C, T, N)) {x : Int32} (i : Nat) (he : x = nI i) (hi : i < n) (hn : n < 2 ^ 31) (hS0 : va_S A H0 H locs) (hA : A a) (hdg : decode cc pc = .ok (.aastore, 1))
    (kk : ∀ (H1 : Heap) (locs1 : List Loc), ar G k a (qA n (va_up f i (some v))) H1 → Oq a H H1 → va_S A H0 H1 locs1 → W p l e R s m args below meth c H1 locs1 cells slots Q (F0 m (pc + 1) ls rest)) : W p l e R s m args below meth c H locs cells slots Q (F0 m pc ls (.ref v :: .int x :: .ref a :: rest)) := by
  subst he
  have hin := vp_in_nI hi hn
  have hcl : (nI i).toNatClampNeg = i := nI_clamp (by omega)
  have h0 : ¬ nI i < 0 := fun q => hin (Or.inl q)
  obtain ⟨r', hr', cellV, g1, g2, g3, -⟩ := hv
  have hcls := (hK.1 ci _ hc).2
  obtain ⟨kA, comp, k1, k2, k3, -⟩ := (hK.2 k _ ht).2
  have hcomp : comp = G.1.1 ci := Option.some.inj (k3.symm.trans hcls.1)
  subst hcomp
  obtain ⟨kC, hkC, -⟩ := hcls.2
  refine W.aast hx hb h (fun q h => by cases h) (fun h => by cases h) k1 k2 rfl hkC ⟨h0, by show _ < (arrV _ _ _).slots.size; rw [arrV_size, hcl]; exact hi⟩ g1 (fun q h => by rw [g3] at h; cases h) (by rw [g2]; exact hkC) (by rw [g2]; exact va_assign hcls) rfl rfl hdg fun H1 e1 e2 e3 => ?_
  rw [hcl] at e1 ⊢
  exact kk H1 _ (e1.trans (by rw [qarr_set])) ⟨e2, e3⟩ (hS0.put e2 e3 hA)
end MYR
/-! contracts' starts and ends -/
def PC (G : GG) (av : List Value) (P : Heap → Prop) : Array Value → State → Prop := fun v U => v = av.toArray ∧ P U.heap ∧ Kn G U
theorem PC.blind {G : GG} {av : List Value} {P : Heap → Prop} : FrameBlind (PC G av P) := fun a U g mk h => ⟨h.1, h.2.1, h.2.2.moved (u := U) (U := U.calling g mk a) (Vm.Alike.refl U.vm)⟩
def QI (P : Int32 → Heap → Prop) (A : Nat → Prop) : Array Value → State → Outcome → State → Prop := va_Qi (S := Int32) (fun r u => r = u) (fun u t => P u t.heap) A
def QV (P : Heap → Prop) (A : Nat → Prop) : Array Value → State → Outcome → State → Prop := va_Qv (S := Unit) (fun _ => True) (fun _ t => P t.heap) A
abbrev NoA : Nat → Prop := fun _ => False
abbrev rm_ (d : Nat) : Room := { frames := d, cells := 0, slots := 0, locals := 40 * d }
abbrev rmM (d mc ms : Nat) : Room := { frames := d, cells := mc, slots := ms, locals := 40 * d }
theorem va_S.refl' {A : Nat → Prop} {H : Heap} : va_S A H H [] := va_S.rf
/-- the start of a method -/
theorem met_of {l : Launch} {y : MethodName} {cc : ByteArray} {maxL : Nat} {ret : Option FieldType} {rm : Room} {G : GG} {av : List Value} {P : Heap → Prop} {Qc : Array Value → State → Outcome → State → Prop} {mc ms : Nat} {free : Nat → Prop} (hy : plainName y.cls = true) (hlen : (lg_sl av).length ≤ maxL)
    (body : ∀ (p : Program) (e : Env) (s : State) (m : MethodId) (args : Array Value) (below : List Frame) (meth : Method) (c : Code), p.tables.exec = Jvm.exec → c.code = cc → meth.sig.returnType = ret → (∀ w ∈ lw_good, w.before args s = true) → s.vm.findClass y.cls = some m.cls → c.maxLocals = maxL → meth.locks = false → meth.name = y.name → Kn G s → P s.heap → ∀ ls : Array Slot, lv_has ls maxL (lv_args 0 av) →
      W p l e rm s m args below meth c s.heap [] 0 0 (MQ below Qc args s mc ms free) (F0 m 0 ls [])) : Met l y (ws_ y cc maxL ret) rm (PC G av P) Qc mc ms free := by
  refine Met.ofW (cc := cc) (maxL := maxL) (ret := ret) hy rfl ?_
  intro p e s m args below meth c s₁ B hml hv
  obtain ⟨rfl, hP, hK⟩ := hv
  have hts := atoms_spec (ws := ws_ y cc maxL ret) B.pre
  rw [lg_entry_eq]
  exact body p e s m _ below meth c B.exec B.bytes B.returns (fun w h => hts w (List.mem_cons_of_mem _ h)) (findClass_of_methodNamed B.named) hml B.notSynchronized (name_of_methodNamed B.named B.method).1 hK hP _ (lv_entry av hlen)
section MYC
variable {p : Program} {l : Launch} {e : Env} {R : Room} {s : State} {m : MethodId} {args : Array Value} {below : List Frame} {meth : Method} {c : Code} {H : Heap} {locs : List Loc} {cells slots : Nat} {Q : State → Prop}
variable {cc : ByteArray} {pc : Nat} {ls : Array Slot} {rest : List Value} {b : Nat} {G : GG} {A : Nat → Prop} {H0 : Heap}
variable {y : MethodName} {bytes : ByteArray} {maxL nL n index : Nat} {ret : Option FieldType} {rm : Room} {own C : String} {As st0 : List Value} {ci : Nat} {fs : List Value} {T : u_T} {N : Nat} {P : Heap → Prop} {Qc : Array Value → State → Outcome → State → Prop} {mc ms : Nat} {free : Nat → Prop} {ws : List Cond}
theorem pre_i (hK : Kn G s) (hr : ob G ci b fs H) (hc : vwCl[ci]? = some (C, T, N)) (hP : P H) : PreV s H C b (PC G (.ref b :: As) P) As :=
  ⟨PC.blind, va_recv (tys := tysG G) hK hr.one (ci := ci) (q0 := 0) hc rfl, fun U hU hW => ⟨rfl, by rw [hU]; exact hP, hK.moved hW.alike⟩⟩
theorem pre_s (hK : Kn G s) (hP : P H) : PreS s H (PC G As P) As := ⟨PC.blind, fun U hU hW => ⟨rfl, by rw [hU]; exact hP, hK.moved hW.alike⟩⟩
theorem run_i (hx : p.tables.exec = Jvm.exec) (hb : c.code = cc) (hml : c.maxLocals = nL) (hown : s.vm.findClass own = some m.cls) (hT : ∀ w ∈ lw_good, w.before args s = true) (hK : Kn G s) (hls : ls.size = nL) (hM : Met l y ws rm (PC G (.ref b :: As) P) Qc mc ms free) (cw : CallW R s args own C index y bytes maxL ret ws rm mc ms n) (hr : ob G ci b fs H) (hc : vwCl[ci]? = some (C, T, N)) (hP : P H) (hn : As.length = n) (hst : st0 = As.reverse ++ .ref b :: rest) (hW : (rest.map fun v => v.category).sum ≤ 8) (hdg : decode cc pc = .ok (.invokevirtual index, 3)) (hf : cells + mc ≤ R.cells ∧ slots + ms ≤ R.slots) : va_Run p l e R s m args below meth c H locs cells slots mc ms (F0 m pc ls st0) rest (Qc (Value.ref b :: As).toArray) free :=
  va_runV (Ts := lw_good) ⟨hx, hb, hml, hown, hT⟩ hM cw (pre_i hK hr hc hP) rfl hn hls hst (by show 2 * 0 + _ ≤ 8; omega) hdg hf
theorem run_s (hx : p.tables.exec = Jvm.exec) (hb : c.code = cc) (hml : c.maxLocals = nL) (hown : s.vm.findClass own = some m.cls) (hT : ∀ w ∈ lw_good, w.before args s = true) (hK : Kn G s) (hls : ls.size = nL) (hM : Met l y ws rm (PC G As P) Qc mc ms free) (cw : CallB R s args own index y bytes maxL ret ws rm mc ms n ∧ (Cond.static y).before args s = true) (hP : P H) (hn : As.length = n) (hst : st0 = As.reverse ++ rest) (hW : (rest.map fun v => v.category).sum ≤ 8) (hdg : decode cc pc = .ok (.invokestatic index, 3)) (hf : cells + mc ≤ R.cells ∧ slots + ms ≤ R.slots) : va_Run p l e R s m args below meth c H locs cells slots mc ms (F0 m pc ls st0) rest (Qc As.toArray) free :=
  va_runS (Ts := lw_good) ⟨hx, hb, hml, hown, hT⟩ hM cw (pre_s hK hP) rfl hn hls hst (by show 2 * 0 + _ ≤ 8; omega) hdg hf
theorem run_c (hx : p.tables.exec = Jvm.exec) (hb : c.code = cc) (hml : c.maxLocals = nL) (hown : s.vm.findClass own = some m.cls) (hT : ∀ w ∈ lw_good, w.before args s = true) (hK : Kn G s) (hls : ls.size = nL) (hM : Met l y ws rm (PC G (.ref b :: As) P) Qc mc ms free) (cw : CallB R s args own index y bytes maxL none ws rm mc ms n ∧ y.name = "<init>" ∧ (Cond.instanceMethod y).before args s = true) (hP : P H) (hn : As.length = n) (hst : st0 = As.reverse ++ .ref b :: rest) (hW : (rest.map fun v => v.category).sum ≤ 8) (hdg : decode cc pc = .ok (.invokespecial index, 3)) (hf : cells + mc ≤ R.cells ∧ slots + ms ≤ R.slots) : va_Run p l e R s m args below meth c H locs cells slots mc ms (F0 m pc ls st0) rest (Qc (Value.ref b :: As).toArray) free :=
  va_runI (Ts := lw_good) ⟨hx, hb, hml, hown, hT⟩ hM cw (pre_s hK hP) rfl hn hls hst (by show 2 * 0 + _ ≤ 8; omega) hdg hf
/-- behind a call that only reads -/
theorem got_i {post : Int32 → Prop} {a : Array Value} (hr : va_Run p l e R s m args below meth c H locs cells slots 0 0 (F0 m pc ls st0) rest (vp_Si post a) NoA)
    (kk : ∀ r : Int32, post r → W p l e R s m args below meth c H locs cells slots Q (F0 m (pc + 3) ls (.int r :: rest))) : W p l e R s m args below meth c H locs cells slots Q (F0 m pc ls st0) := by
  intro T hT X
  obtain ⟨v, st₀, t, T', L, h0, X', hL, e1, e2, ⟨r, hv, hp, hh⟩, st⟩ := hr T hT X
  cases hv
  obtain ⟨t2, a1, b1⟩ := kk r hp T' (by rw [e1, hh, h0]) (Stand.forget X' (fun q h => (hL q h).elim))
  exact ⟨t2, st t2 a1, b1⟩
theorem got_l {post : Int64 → Prop} {a : Array Value} (hr : va_Run p l e R s m args below meth c H locs cells slots 0 0 (F0 m pc ls st0) rest (vp_Sl post a) NoA)
    (kk : ∀ r : Int64, post r → W p l e R s m args below meth c H locs cells slots Q (F0 m (pc + 3) ls (.long r :: rest))) : W p l e R s m args below meth c H locs cells slots Q (F0 m pc ls st0) := by
  intro T hT X
  obtain ⟨v, st₀, t, T', L, h0, X', hL, e1, e2, ⟨r, hv, hp, hh⟩, st⟩ := hr T hT X
  cases hv
  obtain ⟨t2, a1, b1⟩ := kk r hp T' (by rw [e1, hh, h0]) (Stand.forget X' (fun q h => (hL q h).elim))
  exact ⟨t2, st t2 a1, b1⟩
/-- behind a call that writes -/
theorem got_I {A1 : Nat → Prop} {P1 : Int32 → Heap → Prop} {a : Array Value} (hr : va_Run p l e R s m args below meth c H locs cells slots mc ms (F0 m pc ls st0) rest (QI P1 A1 a) free) (hS : va_S A H0 H locs) (hA : ∀ q, A1 q → A q) (hf : ∀ q, free q → A q)
    (kk : ∀ (r : Int32) (H1 : Heap) (locs1 : List Loc), P1 r H1 → H.size ≤ H1.size → (∀ q : Nat, q < H.size → ¬ A1 q → H1[q]? = H[q]?) → va_S A H0 H1 locs1 → W p l e R s m args below meth c H1 locs1 (cells + mc) (slots + ms) Q (F0 m (pc + 3) ls (.int r :: rest))) : W p l e R s m args below meth c H locs cells slots Q (F0 m pc ls st0) :=
  va_calli hr hS (fun q _ h => hA q h) hf (fun r u t H1 locs1 ht _ hru hB hz hk hS1 => by
    subst hru
    subst ht
    exact kk r _ locs1 hB hz hk hS1)
theorem got_V {A1 : Nat → Prop} {P1 : Heap → Prop} {a : Array Value} (hr : va_Run p l e R s m args below meth c H locs cells slots mc ms (F0 m pc ls st0) rest (QV P1 A1 a) free) (hS : va_S A H0 H locs) (hA : ∀ q, A1 q → A q) (hf : ∀ q, free q → A q)
    (kk : ∀ (H1 : Heap) (locs1 : List Loc), P1 H1 → H.size ≤ H1.size → (∀ q : Nat, q < H.size → ¬ A1 q → H1[q]? = H[q]?) → va_S A H0 H1 locs1 → W p l e R s m args below meth c H1 locs1 (cells + mc) (slots + ms) Q (F0 m (pc + 3) ls rest)) : W p l e R s m args below meth c H locs cells slots Q (F0 m pc ls st0) :=
  va_callv hr hS (fun q _ h => hA q h) hf (fun u t H1 locs1 ht _ _ hB hz hk hS1 => by
    subst ht
    exact kk _ locs1 hB hz hk hS1)
/-- the ends -/
theorem end_i {post : Int32 → Prop} {v : Int32} (hx : p.tables.exec = Jvm.exec) (hb : c.code = cc) (hr : meth.sig.returnType = some .int) (hlocks : meth.locks = false) (hp : post v) (hdg : decode cc pc = .ok (.ireturn, 1)) : W p l e R s m args below meth c s.heap [] 0 0 (MQ below (vp_Si post) args s 0 0 free) (F0 m pc ls [.int v]) :=
  W.iret hx hb hr (fun t ht hW => ⟨v, rfl, hp, ht⟩) (fun q h => by cases h) hdg
theorem end_z {post : Int32 → Prop} {v : Int32} {ty : FieldType} (hx : p.tables.exec = Jvm.exec) (hb : c.code = cc) (hr : meth.sig.returnType = some ty) (hn : narrow ty (.int v) = .int v) (hlocks : meth.locks = false) (hp : post v) (hdg : decode cc pc = .ok (.ireturn, 1)) : W p l e R s m args below meth c s.heap [] 0 0 (MQ below (vp_Si post) args s 0 0 free) (F0 m pc ls [.int v]) :=
  W.zret hx hb hr hn (fun t ht hW => ⟨v, rfl, hp, ht⟩) (fun q h => by cases h) hdg
theorem end_l {post : Int64 → Prop} {v : Int64} (hx : p.tables.exec = Jvm.exec) (hb : c.code = cc) (hr : meth.sig.returnType = some .long) (hlocks : meth.locks = false) (hp : post v) (hdg : decode cc pc = .ok (.lreturn, 1)) : W p l e R s m args below meth c s.heap [] 0 0 (MQ below (vp_Sl post) args s 0 0 free) (F0 m pc ls [.long v]) :=
  W.lret hx hb hr (fun t ht hW => ⟨v, rfl, hp, ht⟩) (fun q h => by cases h) hdg
theorem end_I {P1 : Int32 → Heap → Prop} {v : Int32} (hx : p.tables.exec = Jvm.exec) (hb : c.code = cc) (hr : meth.sig.returnType = some .int) (hlocks : meth.locks = false) (hp : P1 v H) (hS : va_S A s.heap H locs) (hdg : decode cc pc = .ok (.ireturn, 1)) : W p l e R s m args below meth c H locs cells slots (MQ below (QI P1 A) args s cells slots A) (F0 m pc ls [.int v]) :=
  W.iret hx hb hr (fun t ht hW => ⟨⟨v, v, rfl, rfl, by show P1 v t.heap; rw [ht]; exact hp⟩, hS.F ht⟩) hS.2.2 hdg
theorem end_Z {P1 : Int32 → Heap → Prop} {v : Int32} {ty : FieldType} (hx : p.tables.exec = Jvm.exec) (hb : c.code = cc) (hr : meth.sig.returnType = some ty) (hn : narrow ty (.int v) = .int v) (hlocks : meth.locks = false) (hp : P1 v H) (hS : va_S A s.heap H locs) (hdg : decode cc pc = .ok (.ireturn, 1)) : W p l e R s m args below meth c H locs cells slots (MQ below (QI P1 A) args s cells slots A) (F0 m pc ls [.int v]) :=
  W.zret hx hb hr hn (fun t ht hW => ⟨⟨v, v, rfl, rfl, by show P1 v t.heap; rw [ht]; exact hp⟩, hS.F ht⟩) hS.2.2 hdg
theorem end_V {P1 : Heap → Prop} (hx : p.tables.exec = Jvm.exec) (hb : c.code = cc) (hr : meth.sig.returnType = none) (hlocks : meth.locks = false) (hp : P1 H) (hS : va_S A s.heap H locs) (hdg : decode cc pc = .ok (.return_, 1)) : W p l e R s m args below meth c H locs cells slots (MQ below (QV P1 A) args s cells slots A) (F0 m pc ls []) :=
  W.vret hx hb hr (fun t ht hW => ⟨⟨(), rfl, trivial, by show P1 t.heap; rw [ht]; exact hp⟩, hS.F ht⟩) hS.2.2 hdg
end MYC
end
section
/-! PICTURES of the class's objects, in words of a row r of 82 numbers: 0 fade, 1 week, 2 day, 3 grams, 4 coins, 5 leaves, 6-8 low, 9-11 high, 12 + 14 i the leaf i (0 price, 1-7 changes, 8-10 tastes, 11 stock, 12 age, 13 share) -/
section MYD
variable {p : Program} {l : Launch} {e : Env} {R : Room} {s : State} {m : MethodId} {args : Array Value} {below : List Frame} {meth : Method} {c : Code} {H : Heap} {locs : List Loc} {cells slots : Nat} {Q : State → Prop}
variable {cc : ByteArray} {pc : Nat} {ls : Array Slot} {rest : List Value} {a : Nat} {G : GG} {A : Nat → Prop} {H0 : Heap}
theorem r_aaldS {n k y : Nat} {f : Nat → Option Nat} {ty : FieldType} (hx : p.tables.exec = Jvm.exec) (hb : c.code = cc) (hK : Kn G s) (h : ar G k a (qA n f) H) (ht : (tysG G)[k]? = some (G.2 k, ty)) (hty : ty.isReference = true) {x : Int32} (i : Nat) (he : x = nI i) (hi : i < n) (hn : n < 2 ^ 31) (hy : f i = some y) (hdg : decode cc pc = .ok (.aaload, 1))
    (kk : W p l e R s m args below meth c H locs cells slots Q (F0 m (pc + 1) ls (.ref y :: rest))) : W p l e R s m args below meth c H locs cells slots Q (F0 m pc ls (.int x :: .ref a :: rest)) := by
  refine r_aald hx hb hK h ht hty i he hi hn hdg ?_
  rw [hy]
  exact kk
end MYD
/-! the ends, the goal's end by name -/
section MYE
variable {p : Program} {l : Launch} {e : Env} {R : Room} {s : State} {m : MethodId} {args : Array Value} {below : List Frame} {meth : Method} {c : Code} {H : Heap} {locs : List Loc} {cells slots : Nat} {Q : State → Prop}
variable {cc : ByteArray} {pc : Nat} {ls : Array Slot} {A free : Nat → Prop}
theorem nd_i {post : Int32 → Prop} {v : Int32} (hQ : Q = MQ below (vp_Si post) args s 0 0 free) (hx : p.tables.exec = Jvm.exec) (hb : c.code = cc) (hr : meth.sig.returnType = some .int) (hlocks : meth.locks = false) (hdg : decode cc pc = .ok (.ireturn, 1)) (hp : post v) : W p l e R s m args below meth c s.heap [] 0 0 Q (F0 m pc ls [.int v]) := by
  subst hQ
  exact end_i hx hb hr hlocks hp hdg
theorem nd_z {post : Int32 → Prop} {v : Int32} (hQ : Q = MQ below (vp_Si post) args s 0 0 free) (hx : p.tables.exec = Jvm.exec) (hb : c.code = cc) (hr : meth.sig.returnType = some .boolean) (hlocks : meth.locks = false) (hdg : decode cc pc = .ok (.ireturn, 1)) (hn : v = 0 ∨ v = 1) (hp : post v) : W p l e R s m args below meth c s.heap [] 0 0 Q (F0 m pc ls [.int v]) := by
  subst hQ
  exact end_z hx hb hr (by rcases hn with rfl | rfl <;> decide) hlocks hp hdg
theorem nd_l {post : Int64 → Prop} {v : Int64} (hQ : Q = MQ below (vp_Sl post) args s 0 0 free) (hx : p.tables.exec = Jvm.exec) (hb : c.code = cc) (hr : meth.sig.returnType = some .long) (hlocks : meth.locks = false) (hdg : decode cc pc = .ok (.lreturn, 1)) (hp : post v) : W p l e R s m args below meth c s.heap [] 0 0 Q (F0 m pc ls [.long v]) := by
  subst hQ
  exact end_l hx hb hr hlocks hp hdg
theorem nd_I {P1 : Int32 → Heap → Prop} {v : Int32} (hQ : Q = MQ below (QI P1 A) args s cells slots A) (hx : p.tables.exec = Jvm.exec) (hb : c.code = cc) (hr : meth.sig.returnType = some .int) (hlocks : meth.locks = false) (hdg : decode cc pc = .ok (.ireturn, 1)) (hS : va_S A s.heap H locs) (hp : P1 v H) : W p l e R s m args below meth c H locs cells slots Q (F0 m pc ls [.int v]) := by
  subst hQ
  exact end_I hx hb hr hlocks hp hS hdg
theorem nd_Z {P1 : Int32 → Heap → Prop} {v : Int32} (hQ : Q = MQ below (QI P1 A) args s cells slots A) (hx : p.tables.exec = Jvm.exec) (hb : c.code = cc) (hr : meth.sig.returnType = some .boolean) (hlocks : meth.locks = false) (hdg : decode cc pc = .ok (.ireturn, 1)) (hS : va_S A s.heap H locs) (hn : v = 0 ∨ v = 1) (hp : P1 v H) : W p l e R s m args below meth c H locs cells slots Q (F0 m pc ls [.int v]) := by
  subst hQ
  exact end_Z hx hb hr (by rcases hn with rfl | rfl <;> decide) hlocks hp hS hdg
theorem nd_V {P1 : Heap → Prop} (hQ : Q = MQ below (QV P1 A) args s cells slots A) (hx : p.tables.exec = Jvm.exec) (hb : c.code = cc) (hr : meth.sig.returnType = none) (hlocks : meth.locks = false) (hdg : decode cc pc = .ok (.return_, 1)) (hS : va_S A s.heap H locs) (hp : P1 H) : W p l e R s m args below meth c H locs cells slots Q (F0 m pc ls []) := by
  subst hQ
  exact end_V hx hb hr hlocks hp hS hdg
end MYE
/-- the start of a method, the goal's end by name -/
theorem met_q {l : Launch} {y : MethodName} {cc : ByteArray} {maxL : Nat} {ret : Option FieldType} {rm : Room} {G : GG} {av : List Value} {P : Heap → Prop} {Qc : Array Value → State → Outcome → State → Prop} {mc ms : Nat} {free : Nat → Prop} (hy : plainName y.cls = true) (hlen : (lg_sl av).length ≤ maxL)
    (body : ∀ (p : Program) (e : Env) (s : State) (m : MethodId) (args : Array Value) (below : List Frame) (meth : Method) (c : Code) (Q : State → Prop), Q = MQ below Qc args s mc ms free → p.tables.exec = Jvm.exec → c.code = cc → meth.sig.returnType = ret → (∀ w ∈ lw_good, w.before args s = true) → s.vm.findClass y.cls = some m.cls → c.maxLocals = maxL → meth.locks = false → meth.name = y.name → Kn G s → P s.heap → ∀ ls : Array Slot, lv_has ls maxL (lv_args 0 av) →
      W p l e rm s m args below meth c s.heap [] 0 0 Q (F0 m 0 ls [])) : Met l y (ws_ y cc maxL ret) rm (PC G av P) Qc mc ms free :=
  met_of hy hlen (fun p e s m args below meth c => body p e s m args below meth c _ rfl)
/-! numbers -/
def irm (x y : Int32) : Int32 := x - x / y * y
theorem nI_of_toInt {x : Int32} (h : 0 ≤ x.toInt) : x = nI x.toInt.toNat := by
  apply Int32.toInt_inj.mp
  rw [nI_toInt]
  · omega
  · have := Int32.toInt_lt x; omega
theorem i32_lt_iff {x y : Int32} : x < y ↔ x.toInt < y.toInt := Int32.lt_iff_toInt_lt
theorem i32_le_iff {x y : Int32} : x ≤ y ↔ x.toInt ≤ y.toInt := Int32.le_iff_toInt_le
/-! the row -/
def nlv (r : Nat → Int32) : Nat := (r 5).toInt.toNat
def plv (r : Nat → Int32) : Nat := (irm (r 2) (r 1)).toInt.toNat
def WF (r : Nat → Int32) : Prop := (0 ≤ (r 5).toInt ∧ (r 5).toInt ≤ 5) ∧ (1 ≤ (r 1).toInt ∧ (r 1).toInt ≤ 7) ∧ 0 ≤ (r 2).toInt
theorem WF.nl {r : Nat → Int32} (h : WF r) : r 5 = nI (nlv r) := nI_of_toInt h.1.1
theorem WF.nl5 {r : Nat → Int32} (h : WF r) : nlv r ≤ 5 := by
  have := h.1
  unfold nlv
  omega
theorem WF.pl {r : Nat → Int32} (h : WF r) : irm (r 2) (r 1) = nI (plv r) ∧ plv r < 7 := by
  obtain ⟨-, h1, h2⟩ := h
  have e2 := nI_of_toInt h2
  have e1 := nI_of_toInt (x := r 1) (by omega)
  have hb := Int32.toInt_lt (r 2)
  have key : irm (r 2) (r 1) = nI ((r 2).toInt.toNat % (r 1).toInt.toNat) := by
    unfold irm
    conv => lhs; rw [e2, e1]
    exact pk_rem (by omega) (by omega) (by omega)
  have hlt : (r 2).toInt.toNat % (r 1).toInt.toNat < 7 := Nat.lt_of_lt_of_le (Nat.mod_lt _ (by omega)) (by omega)
  have e3 : plv r = (r 2).toInt.toNat % (r 1).toInt.toNat := by
    unfold plv
    rw [key, nI_toInt (by omega)]
    omega
  rw [e3]
  exact ⟨key, hlt⟩
theorem WF.wk {r : Nat → Int32} (h : WF r) : ¬ r 1 = 0 := by
  intro h0
  have := h.2.1.1
  rw [h0] at this
  exact absurd this (by decide)
/-! one leaf -/
def LeafAt (G : GG) (a : Nat) (f : Nat → Int32) (H : Heap) : Prop :=
  ob G 1 a [.int (f 0), .int (f 11), .int (f 12), .int (f 13), .ref (a + 1), .ref (a + 2)] H ∧ ar G 0 (a + 1) (iA 7 (fun j => f (1 + j))) H ∧ ar G 0 (a + 2) (iA 3 (fun j => f (8 + j))) H
theorem LeafAt.ext {G : GG} {a : Nat} {f g : Nat → Int32} {H : Heap} (h : LeafAt G a f H) (e : ∀ k, k < 14 → f k = g k) : LeafAt G a g H := by
  refine ⟨?_, iA_ext h.2.1 (fun j hj => e _ (by omega)), iA_ext h.2.2 (fun j hj => e _ (by omega))⟩
  rw [← e 0 (by omega), ← e 11 (by omega), ← e 12 (by omega), ← e 13 (by omega)]
  exact h.1
theorem LeafAt.kept {G : GG} {a : Nat} {f : Nat → Int32} {H H1 : Heap} (h : LeafAt G a f H) (e : ∀ q, a ≤ q → q < a + 3 → H1[q]? = H[q]?) : LeafAt G a f H1 :=
  ⟨h.1.kept (e _ (by omega) (by omega)), h.2.1.kept (e _ (by omega) (by omega)), h.2.2.kept (e _ (by omega) (by omega))⟩
theorem LeafAt.p0 {G : GG} {a : Nat} {f : Nat → Int32} {H H1 : Heap} {v : Int32} (h : LeafAt G a f H) (h1 : ob G 1 a [.int v, .int (f 11), .int (f 12), .int (f 13), .ref (a + 1), .ref (a + 2)] H1) (o : Oq a H H1) : LeafAt G a (upd f 0 v) H1 :=
  ⟨h1, iA_ext (h.2.1.kept (o.2 _ (by omega))) (fun j hj => by simp only [upd]; rw [if_neg (by omega)]), iA_ext (h.2.2.kept (o.2 _ (by omega))) (fun j hj => by simp only [upd]; rw [if_neg (by omega)])⟩
theorem LeafAt.p1 {G : GG} {a : Nat} {f : Nat → Int32} {H H1 : Heap} {v : Int32} (h : LeafAt G a f H) (h1 : ob G 1 a [.int (f 0), .int v, .int (f 12), .int (f 13), .ref (a + 1), .ref (a + 2)] H1) (o : Oq a H H1) : LeafAt G a (upd f 11 v) H1 :=
  ⟨h1, iA_ext (h.2.1.kept (o.2 _ (by omega))) (fun j hj => by simp only [upd]; rw [if_neg (by omega)]), iA_ext (h.2.2.kept (o.2 _ (by omega))) (fun j hj => by simp only [upd]; rw [if_neg (by omega)])⟩
theorem LeafAt.p2 {G : GG} {a : Nat} {f : Nat → Int32} {H H1 : Heap} {v : Int32} (h : LeafAt G a f H) (h1 : ob G 1 a [.int (f 0), .int (f 11), .int v, .int (f 13), .ref (a + 1), .ref (a + 2)] H1) (o : Oq a H H1) : LeafAt G a (upd f 12 v) H1 :=
  ⟨h1, iA_ext (h.2.1.kept (o.2 _ (by omega))) (fun j hj => by simp only [upd]; rw [if_neg (by omega)]), iA_ext (h.2.2.kept (o.2 _ (by omega))) (fun j hj => by simp only [upd]; rw [if_neg (by omega)])⟩
theorem LeafAt.p3 {G : GG} {a : Nat} {f : Nat → Int32} {H H1 : Heap} {v : Int32} (h : LeafAt G a f H) (h1 : ob G 1 a [.int (f 0), .int (f 11), .int (f 12), .int v, .ref (a + 1), .ref (a + 2)] H1) (o : Oq a H H1) : LeafAt G a (upd f 13 v) H1 :=
  ⟨h1, iA_ext (h.2.1.kept (o.2 _ (by omega))) (fun j hj => by simp only [upd]; rw [if_neg (by omega)]), iA_ext (h.2.2.kept (o.2 _ (by omega))) (fun j hj => by simp only [upd]; rw [if_neg (by omega)])⟩
theorem LeafAt.pc {G : GG} {a k : Nat} {f : Nat → Int32} {H H1 : Heap} {v : Int32} (h : LeafAt G a f H) (hk : k < 7) (h1 : ar G 0 (a + 1) (iA 7 (upd (fun j => f (1 + j)) k v)) H1) (o : Oq (a + 1) H H1) : LeafAt G a (upd f (1 + k) v) H1 := by
  refine ⟨?_, iA_ext h1 (fun j hj => ?_), iA_ext (h.2.2.kept (o.2 _ (by omega))) (fun j hj => by simp only [upd]; rw [if_neg (by omega)])⟩
  · simp only [upd]
    rw [if_neg (by omega), if_neg (by omega), if_neg (by omega), if_neg (by omega)]
    exact h.1.kept (o.2 _ (by omega))
  · simp only [upd]
    by_cases q : j = k
    · rw [if_pos q, if_pos (by omega)]
    · rw [if_neg q, if_neg (by omega)]
theorem LeafAt.pf {G : GG} {a k : Nat} {f : Nat → Int32} {H H1 : Heap} {v : Int32} (h : LeafAt G a f H) (hk : k < 3) (h1 : ar G 0 (a + 2) (iA 3 (upd (fun j => f (8 + j)) k v)) H1) (o : Oq (a + 2) H H1) : LeafAt G a (upd f (8 + k) v) H1 := by
  refine ⟨?_, iA_ext (h.2.1.kept (o.2 _ (by omega))) (fun j hj => by simp only [upd]; rw [if_neg (by omega)]), iA_ext h1 (fun j hj => ?_)⟩
  · simp only [upd]
    rw [if_neg (by omega), if_neg (by omega), if_neg (by omega), if_neg (by omega)]
    exact h.1.kept (o.2 _ (by omega))
  · simp only [upd]
    by_cases q : j = k
    · rw [if_pos q, if_pos (by omega)]
    · rw [if_neg q, if_neg (by omega)]
/-! a shop: 20 cells from b on -/
def ShopAt (G : GG) (b : Nat) (r : Nat → Int32) (H : Heap) : Prop :=
  ob G 5 b [.ref (b + 1), .ref (b + 2), .ref (b + 3), .ref (b + 4), .int (r 5), .int (r 2), .int (r 3), .int (r 4)] H ∧ ar G 3 (b + 1) (qA 5 (fun i => some (b + 5 + 3 * i))) H ∧ ar G 0 (b + 2) (iA 3 (fun j => r (6 + j))) H ∧ ar G 0 (b + 3) (iA 3 (fun j => r (9 + j))) H ∧ ar G 0 (b + 4) (iA 2 (fun j => r j)) H ∧ ∀ i, i < 5 → LeafAt G (b + 5 + 3 * i) (fun k => r (12 + 14 * i + k)) H
def In (b n : Nat) : Nat → Prop := fun q => b ≤ q ∧ q < b + n
theorem ShopAt.ext {G : GG} {b : Nat} {r r' : Nat → Int32} {H : Heap} (h : ShopAt G b r H) (e : ∀ k, k < 82 → r k = r' k) : ShopAt G b r' H := by
  obtain ⟨h1, h2, h3, h4, h5, h6⟩ := h
  refine ⟨?_, h2, iA_ext h3 (fun j hj => e _ (by omega)), iA_ext h4 (fun j hj => e _ (by omega)), iA_ext h5 (fun j hj => e _ (by omega)), fun i hi => (h6 i hi).ext (fun k hk => e _ (by omega))⟩
  rw [← e 5 (by omega), ← e 2 (by omega), ← e 3 (by omega), ← e 4 (by omega)]
  exact h1
theorem ShopAt.kept {G : GG} {b : Nat} {r : Nat → Int32} {H H1 : Heap} (h : ShopAt G b r H) (e : ∀ q, b ≤ q → q < b + 20 → H1[q]? = H[q]?) : ShopAt G b r H1 := by
  obtain ⟨h1, h2, h3, h4, h5, h6⟩ := h
  exact ⟨h1.kept (e _ (by omega) (by omega)), h2.kept (e _ (by omega) (by omega)), h3.kept (e _ (by omega) (by omega)), h4.kept (e _ (by omega) (by omega)), h5.kept (e _ (by omega) (by omega)), fun i hi => (h6 i hi).kept (fun q h1 h2 => e q (by omega) (by omega))⟩
theorem ShopAt.leaf {G : GG} {b i : Nat} {r : Nat → Int32} {H : Heap} (h : ShopAt G b r H) (hi : i < 5) : LeafAt G (b + 5 + 3 * i) (fun k => r (12 + 14 * i + k)) H := h.2.2.2.2.2 i hi
/-- a leaf is another one: the rest of the shop is as it was -/
theorem ShopAt.putLeaf {G : GG} {b i : Nat} {r r' : Nat → Int32} {H H1 : Heap} (h : ShopAt G b r H) (hi : i < 5) (hl : LeafAt G (b + 5 + 3 * i) (fun k => r' (12 + 14 * i + k)) H1) (o : ∀ q, (q < b + 5 + 3 * i ∨ b + 8 + 3 * i ≤ q) → q < H.size → H1[q]? = H[q]?) (e : ∀ k, k < 82 → (k < 12 + 14 * i ∨ 26 + 14 * i ≤ k) → r' k = r k) : ShopAt G b r' H1 := by
  have hlt : ∀ q, b ≤ q → q < b + 20 → q < H.size := by
    intro q h1 h2
    have hz : b + 19 < H.size := (h.leaf (i := 4) (by omega)).2.2.lt
    omega
  obtain ⟨h1, h2, h3, h4, h5, h6⟩ := h
  have w : ∀ q, b ≤ q → q < b + 5 → H1[q]? = H[q]? := fun q a1 a2 => o q (by omega) (hlt q (by omega) (by omega))
  refine ⟨?_, h2.kept (w _ (by omega) (by omega)), iA_ext (h3.kept (w _ (by omega) (by omega))) (fun j hj => (e _ (by omega) (by omega)).symm), iA_ext (h4.kept (w _ (by omega) (by omega))) (fun j hj => (e _ (by omega) (by omega)).symm), iA_ext (h5.kept (w _ (by omega) (by omega))) (fun j hj => (e _ (by omega) (by omega)).symm), fun i' hi' => ?_⟩
  · rw [e 5 (by omega) (by omega), e 2 (by omega) (by omega), e 3 (by omega) (by omega), e 4 (by omega) (by omega)]
    exact h1.kept (w _ (by omega) (by omega))
  · by_cases q : i' = i
    · subst q; exact hl
    · refine ((h6 i' hi').kept (fun q' a1 a2 => o q' (by omega) (hlt q' (by omega) (by omega)))).ext (fun k hk => (e _ (by omega) (by omega)).symm)
theorem ShopAt.lf {G : GG} {b i k : Nat} {r : Nat → Int32} {H H1 : Heap} {v : Int32} {a : Nat} (h : ShopAt G b r H) (hi : i < 5) (hk : k < 14) (hl : LeafAt G (b + 5 + 3 * i) (upd (fun k => r (12 + 14 * i + k)) k v) H1) (ha : b + 5 + 3 * i ≤ a ∧ a < b + 8 + 3 * i) (o : Oq a H H1) : ShopAt G b (upd r (12 + 14 * i + k) v) H1 := by
  refine h.putLeaf hi (hl.ext (fun j hj => ?_)) (fun q hq _ => o.2 q (by omega)) (fun j _ hj => by simp only [upd]; rw [if_neg (by omega)])
  simp only [upd]
  by_cases q : j = k
  · rw [if_pos q, if_pos (by omega)]
  · rw [if_neg q, if_neg (by omega)]
theorem ShopAt.pStock {G : GG} {b i : Nat} {r : Nat → Int32} {H H1 : Heap} {v : Int32} (h : ShopAt G b r H) (hi : i < 5) (h1 : ob G 1 (b + 5 + 3 * i) [.int (r (12 + 14 * i + 0)), .int v, .int (r (12 + 14 * i + 12)), .int (r (12 + 14 * i + 13)), .ref (b + 5 + 3 * i + 1), .ref (b + 5 + 3 * i + 2)] H1) (o : Oq (b + 5 + 3 * i) H H1) : ShopAt G b (upd r (12 + 14 * i + 11) v) H1 :=
  h.lf hi (by omega) ((h.leaf hi).p1 h1 o) (by omega) o
theorem ShopAt.pAge {G : GG} {b i : Nat} {r : Nat → Int32} {H H1 : Heap} {v : Int32} (h : ShopAt G b r H) (hi : i < 5) (h1 : ob G 1 (b + 5 + 3 * i) [.int (r (12 + 14 * i + 0)), .int (r (12 + 14 * i + 11)), .int v, .int (r (12 + 14 * i + 13)), .ref (b + 5 + 3 * i + 1), .ref (b + 5 + 3 * i + 2)] H1) (o : Oq (b + 5 + 3 * i) H H1) : ShopAt G b (upd r (12 + 14 * i + 12) v) H1 :=
  h.lf hi (by omega) ((h.leaf hi).p2 h1 o) (by omega) o
theorem ShopAt.pShare {G : GG} {b i : Nat} {r : Nat → Int32} {H H1 : Heap} {v : Int32} (h : ShopAt G b r H) (hi : i < 5) (h1 : ob G 1 (b + 5 + 3 * i) [.int (r (12 + 14 * i + 0)), .int (r (12 + 14 * i + 11)), .int (r (12 + 14 * i + 12)), .int v, .ref (b + 5 + 3 * i + 1), .ref (b + 5 + 3 * i + 2)] H1) (o : Oq (b + 5 + 3 * i) H H1) : ShopAt G b (upd r (12 + 14 * i + 13) v) H1 :=
  h.lf hi (by omega) ((h.leaf hi).p3 h1 o) (by omega) o
theorem ShopAt.pChange {G : GG} {b i k : Nat} {r : Nat → Int32} {H H1 : Heap} {v : Int32} (h : ShopAt G b r H) (hi : i < 5) (hk : k < 7) (h1 : ar G 0 (b + 5 + 3 * i + 1) (iA 7 (upd (fun j => r (12 + 14 * i + (1 + j))) k v)) H1) (o : Oq (b + 5 + 3 * i + 1) H H1) : ShopAt G b (upd r (12 + 14 * i + (1 + k)) v) H1 :=
  h.lf hi (by omega) ((h.leaf hi).pc hk h1 o) (by omega) o
theorem ShopAt.pFresh {G : GG} {b i k : Nat} {r : Nat → Int32} {H H1 : Heap} {v : Int32} (h : ShopAt G b r H) (hi : i < 5) (hk : k < 3) (h1 : ar G 0 (b + 5 + 3 * i + 2) (iA 3 (upd (fun j => r (12 + 14 * i + (8 + j))) k v)) H1) (o : Oq (b + 5 + 3 * i + 2) H H1) : ShopAt G b (upd r (12 + 14 * i + (8 + k)) v) H1 :=
  h.lf hi (by omega) ((h.leaf hi).pf hk h1 o) (by omega) o
theorem upd_ne {f : Nat → Int32} {k j : Nat} {v : Int32} (h : j ≠ k) : upd f k v j = f j := if_neg h
theorem upd_eq {f : Nat → Int32} {k : Nat} {v : Int32} : upd f k v k = v := if_pos rfl
theorem upd_add {f : Nat → Int32} {c j k : Nat} {v : Int32} : upd (fun j => f (c + j)) k v j = upd f (c + k) v (c + j) := by
  simp only [upd]
  by_cases q : j = k
  · rw [if_pos q, if_pos (by omega)]
  · rw [if_neg q, if_neg (by omega)]
theorem ShopAt.pObj {G : GG} {b : Nat} {r r' : Nat → Int32} {H H1 : Heap} (h : ShopAt G b r H) (h1 : ob G 5 b [.ref (b + 1), .ref (b + 2), .ref (b + 3), .ref (b + 4), .int (r' 5), .int (r' 2), .int (r' 3), .int (r' 4)] H1) (o : Oq b H H1) (e : ∀ k, k < 82 → k ≠ 2 → k ≠ 3 → k ≠ 4 → k ≠ 5 → r' k = r k) : ShopAt G b r' H1 := by
  obtain ⟨-, h2, h3, h4, h5, h6⟩ := h
  exact ⟨h1, h2.kept (o.2 _ (by omega)), iA_ext (h3.kept (o.2 _ (by omega))) (fun j hj => (e _ (by omega) (by omega) (by omega) (by omega) (by omega)).symm), iA_ext (h4.kept (o.2 _ (by omega))) (fun j hj => (e _ (by omega) (by omega) (by omega) (by omega) (by omega)).symm), iA_ext (h5.kept (o.2 _ (by omega))) (fun j hj => (e _ (by omega) (by omega) (by omega) (by omega) (by omega)).symm), fun i hi => ((h6 i hi).kept (fun q _ _ => o.2 q (by omega))).ext (fun k hk => (e _ (by omega) (by omega) (by omega) (by omega) (by omega)).symm)⟩
theorem ShopAt.pLeaves {G : GG} {b : Nat} {r : Nat → Int32} {H H1 : Heap} {v : Int32} (h : ShopAt G b r H) (h1 : ob G 5 b [.ref (b + 1), .ref (b + 2), .ref (b + 3), .ref (b + 4), .int v, .int (r 2), .int (r 3), .int (r 4)] H1) (o : Oq b H H1) : ShopAt G b (upd r 5 v) H1 := h.pObj h1 o (fun k _ _ _ _ h5 => upd_ne h5)
theorem ShopAt.pDay {G : GG} {b : Nat} {r : Nat → Int32} {H H1 : Heap} {v : Int32} (h : ShopAt G b r H) (h1 : ob G 5 b [.ref (b + 1), .ref (b + 2), .ref (b + 3), .ref (b + 4), .int (r 5), .int v, .int (r 3), .int (r 4)] H1) (o : Oq b H H1) : ShopAt G b (upd r 2 v) H1 := h.pObj h1 o (fun k _ h2 _ _ _ => upd_ne h2)
theorem ShopAt.pGrams {G : GG} {b : Nat} {r : Nat → Int32} {H H1 : Heap} {v : Int32} (h : ShopAt G b r H) (h1 : ob G 5 b [.ref (b + 1), .ref (b + 2), .ref (b + 3), .ref (b + 4), .int (r 5), .int (r 2), .int v, .int (r 4)] H1) (o : Oq b H H1) : ShopAt G b (upd r 3 v) H1 := h.pObj h1 o (fun k _ _ h3 _ _ => upd_ne h3)
theorem ShopAt.pCoins {G : GG} {b : Nat} {r : Nat → Int32} {H H1 : Heap} {v : Int32} (h : ShopAt G b r H) (h1 : ob G 5 b [.ref (b + 1), .ref (b + 2), .ref (b + 3), .ref (b + 4), .int (r 5), .int (r 2), .int (r 3), .int v] H1) (o : Oq b H H1) : ShopAt G b (upd r 4 v) H1 := h.pObj h1 o (fun k _ _ _ h4 _ => upd_ne h4)
/-- the small arrays -/
theorem ShopAt.pArr {G : GG} {b a : Nat} {r r' : Nat → Int32} {H H1 : Heap} (h : ShopAt G b r H) (ha : a = b + 2 ∨ a = b + 3 ∨ a = b + 4) (o : Oq a H H1) (h3 : a = b + 2 → ar G 0 (b + 2) (iA 3 (fun j => r' (6 + j))) H1) (h4 : a = b + 3 → ar G 0 (b + 3) (iA 3 (fun j => r' (9 + j))) H1) (h5 : a = b + 4 → ar G 0 (b + 4) (iA 2 (fun j => r' j)) H1)
    (e : ∀ k, k < 82 → (a = b + 2 → ¬ (6 ≤ k ∧ k < 9)) → (a = b + 3 → ¬ (9 ≤ k ∧ k < 12)) → (a = b + 4 → ¬ (k < 2)) → r' k = r k) : ShopAt G b r' H1 := by
  obtain ⟨h1, h2, g3, g4, g5, h6⟩ := h
  refine ⟨?_, h2.kept (o.2 _ (by omega)), ?_, ?_, ?_, fun i hi => ((h6 i hi).kept (fun q _ _ => o.2 q (by omega))).ext (fun k hk => (e _ (by omega) (by omega) (by omega) (by omega)).symm)⟩
  · rw [e 5 (by omega) (by omega) (by omega) (by omega), e 2 (by omega) (by omega) (by omega) (by omega), e 3 (by omega) (by omega) (by omega) (by omega), e 4 (by omega) (by omega) (by omega) (by omega)]
    exact h1.kept (o.2 _ (by omega))
  · by_cases q : a = b + 2
    · exact h3 q
    · exact iA_ext (g3.kept (o.2 _ (by omega))) (fun j hj => (e _ (by omega) (by omega) (by omega) (by omega)).symm)
  · by_cases q : a = b + 3
    · exact h4 q
    · exact iA_ext (g4.kept (o.2 _ (by omega))) (fun j hj => (e _ (by omega) (by omega) (by omega) (by omega)).symm)
  · by_cases q : a = b + 4
    · exact h5 q
    · exact iA_ext (g5.kept (o.2 _ (by omega))) (fun j hj => (e _ (by omega) (by omega) (by omega) (by omega)).symm)
theorem ShopAt.pLow {G : GG} {b k : Nat} {r : Nat → Int32} {H H1 : Heap} {v : Int32} (h : ShopAt G b r H) (hk : k < 3) (h1 : ar G 0 (b + 2) (iA 3 (upd (fun j => r (6 + j)) k v)) H1) (o : Oq (b + 2) H H1) : ShopAt G b (upd r (6 + k) v) H1 :=
  h.pArr (Or.inl rfl) o (fun _ => iA_ext h1 (fun j hj => upd_add)) (fun q => by omega) (fun q => by omega) (fun j _ h2 _ _ => upd_ne (by have := h2 rfl; omega))
theorem ShopAt.pHigh {G : GG} {b k : Nat} {r : Nat → Int32} {H H1 : Heap} {v : Int32} (h : ShopAt G b r H) (hk : k < 3) (h1 : ar G 0 (b + 3) (iA 3 (upd (fun j => r (9 + j)) k v)) H1) (o : Oq (b + 3) H H1) : ShopAt G b (upd r (9 + k) v) H1 :=
  h.pArr (Or.inr (Or.inl rfl)) o (fun q => by omega) (fun _ => iA_ext h1 (fun j hj => upd_add)) (fun q => by omega) (fun j _ _ h2 _ => upd_ne (by have := h2 rfl; omega))
theorem ShopAt.pSet {G : GG} {b k : Nat} {r : Nat → Int32} {H H1 : Heap} {v : Int32} (h : ShopAt G b r H) (hk : k < 2) (h1 : ar G 0 (b + 4) (iA 2 (upd (fun j => r j) k v)) H1) (o : Oq (b + 4) H H1) : ShopAt G b (upd r k v) H1 :=
  h.pArr (Or.inr (Or.inr rfl)) o (fun q => by omega) (fun q => by omega) (fun _ => iA_ext h1 (fun j hj => rfl)) (fun j _ _ _ h2 => upd_ne (by have := h2 rfl; omega))
end
section
/-! what a shop tells, in numbers -/
def bi (P : Prop) [Decidable P] : Int32 := if P then 1 else 0
theorem bi01 {P : Prop} [Decidable P] : bi P = 0 ∨ bi P = 1 := by
  unfold bi
  split
  · exact Or.inr rfl
  · exact Or.inl rfl
theorem bi_t {P : Prop} [Decidable P] (h : P) : 1 = bi P := (if_pos h).symm
theorem bi_f {P : Prop} [Decidable P] (h : ¬ P) : 0 = bi P := (if_neg h).symm
theorem bi_e0 {P : Prop} [Decidable P] (h : bi P = 0) : ¬ P := fun q => by
  rw [← bi_t q] at h
  exact absurd h (by decide)
theorem bi_n0 {P : Prop} [Decidable P] (h : ¬ bi P = 0) : P := Decidable.byContradiction fun q => h (bi_f q).symm
def mxI (x y : Int32) : Int32 := if x < y then y else x
def mnI (x y : Int32) : Int32 := if y < x then y else x
def sm (f : Nat → Int32) : Nat → Int32
  | 0 => 0
  | n + 1 => sm f n + f n
theorem sm_ext {f g : Nat → Int32} : ∀ n : Nat, (∀ i, i < n → f i = g i) → sm f n = sm g n
  | 0, _ => rfl
  | n + 1, h => by
    show sm f n + f n = sm g n + g n
    rw [sm_ext n (fun i hi => h i (by omega)), h n (by omega)]
def prF (r : Nat → Int32) (i : Nat) : Int32 := mxI 0 (r (12 + 14 * i + 0) + r (12 + 14 * i + (1 + plv r)))
def tsF (r : Nat → Int32) (i t : Nat) (d : Int32) : Int32 := r (12 + 14 * i + (8 + t)) * mxI 0 (1000 - r 0 * (r (12 + 14 * i + 12) + d)) / 1000
def shF (r : Nat → Int32) (i : Nat) : Int32 := r (12 + 14 * i + 13)
def prS (r : Nat → Int32) : Int32 := sm (fun i => shF r i * prF r i) (nlv r)
def tsS (r : Nat → Int32) (t : Nat) (d : Int32) : Int32 := sm (fun i => shF r i * tsF r i t d) (nlv r)
def shS (r : Nat → Int32) : Int32 := sm (shF r) (nlv r)

set_option maxHeartbeats 4000000 in
set_option maxRecDepth 100000 in
theorem k_X5_isWithin (l : Launch) (G : GG) (v lo hi : Int32)  : Met l yX5_isWithin (ws_ yX5_isWithin cX5_isWithin 3 (some .boolean)) (rm_ 0) (PC G [.int v, .int lo, .int hi] (fun _ => True)) (vp_Si (fun z => z = bi (lo ≤ v ∧ v ≤ hi))) 0 0 NoA := by
  refine met_q (by decide +kernel) (Nat.le_of_ble_eq_true rfl) ?_
  intro p e s m args below meth c Q hQ hx hb hr hT hown hml hlocks hnm hK _ ls hl
  have hl : lv_has ls 3 [(0, .int v), (1, .int lo), (2, .int hi)] := hl
  refine lv_iload_n hx hb dX5_isWithin_0 rfl (lv_at hl 0 rfl) ?_
  refine lv_iload_n hx hb dX5_isWithin_1 rfl (lv_at hl 1 rfl) ?_
  refine lv_icmp_lt (tgt := 14) hx hb dX5_isWithin_2 (by decide) (fun c1 => ?_) (fun c1 => ?_)
  · refine lv_iconst (v := 0) hx hb dX5_isWithin_14 (by decide) ?_
    exact nd_z hQ hx hb hr hlocks dX5_isWithin_15 (by first | exact Or.inl rfl | exact Or.inr rfl | exact bi01) (bi_f (fun q => by rw [i32_le_iff] at q; rw [i32_lt_iff] at c1; omega))
  · refine lv_iload_n hx hb dX5_isWithin_5 rfl (lv_at hl 0 rfl) ?_
    refine lv_iload_n hx hb dX5_isWithin_6 rfl (lv_at hl 2 rfl) ?_
    refine lv_icmp_gt (tgt := 14) hx hb dX5_isWithin_7 (by decide) (fun c2 => ?_) (fun c2 => ?_)
    · refine lv_iconst (v := 0) hx hb dX5_isWithin_14 (by decide) ?_
      exact nd_z hQ hx hb hr hlocks dX5_isWithin_15 (by first | exact Or.inl rfl | exact Or.inr rfl | exact bi01) (bi_f (fun q => by rw [i32_le_iff, i32_le_iff] at q; rw [i32_lt_iff] at c2; omega))
    · refine lv_iconst (v := 1) hx hb dX5_isWithin_10 (by decide) ?_
      refine lv_goto (tgt := 15) hx hb dX5_isWithin_11 (by decide) ?_
      exact nd_z hQ hx hb hr hlocks dX5_isWithin_15 (by first | exact Or.inl rfl | exact Or.inr rfl | exact bi01) (bi_t ⟨by rw [i32_le_iff]; rw [i32_lt_iff] at c1; omega, by rw [i32_le_iff]; rw [i32_lt_iff] at c2; omega⟩)

set_option maxHeartbeats 4000000 in
set_option maxRecDepth 100000 in
theorem k_X5_hasLeaf (l : Launch) (G : GG) (b : Nat) (r : Nat → Int32) (x : Int32)  : Met l yX5_hasLeaf (ws_ yX5_hasLeaf cX5_hasLeaf 2 (some .boolean)) (rm_ 0) (PC G [.ref b, .int x] (ShopAt G b r)) (vp_Si (fun z => z = bi (0 ≤ x ∧ x < r 5))) 0 0 NoA := by
  refine met_q (by decide +kernel) (Nat.le_of_ble_eq_true rfl) ?_
  intro p e s m args below meth c Q hQ hx hb hr hT hown hml hlocks hnm hK hSh ls hl
  have hl : lv_has ls 2 [(0, .ref b), (1, .int x)] := hl
  refine lv_iload_n hx hb dX5_hasLeaf_0 rfl (lv_at hl 1 rfl) ?_
  refine lv_if_lt (tgt := 16) hx hb dX5_hasLeaf_1 (by decide) (fun c1 => ?_) (fun c1 => ?_)
  · refine lv_iconst (v := 0) hx hb dX5_hasLeaf_16 (by decide) ?_
    exact nd_z hQ hx hb hr hlocks dX5_hasLeaf_17 (by first | exact Or.inl rfl | exact Or.inr rfl | exact bi01) (bi_f (fun q => by rw [i32_le_iff] at q; rw [i32_lt_iff] at c1; have := q.1; have h0 : (0 : Int32).toInt = 0 := rfl; omega))
  · refine lv_iload_n hx hb dX5_hasLeaf_4 rfl (lv_at hl 1 rfl) ?_
    refine lv_aload_n hx hb dX5_hasLeaf_5 rfl (lv_at hl 0 rfl) ?_
    refine rg (C := RX5) (T := TX5) (N := 8) (v := .int (r 5)) hx hb hT inX5 hown hK hSh.1 rfl 4 (by decide) mf_X5_52 rfl dX5_hasLeaf_6 ?_
    refine lv_icmp_ge (tgt := 16) hx hb dX5_hasLeaf_9 (by decide) (fun c2 => ?_) (fun c2 => ?_)
    · refine lv_iconst (v := 0) hx hb dX5_hasLeaf_16 (by decide) ?_
      exact nd_z hQ hx hb hr hlocks dX5_hasLeaf_17 (by first | exact Or.inl rfl | exact Or.inr rfl | exact bi01) (bi_f (fun q => by rw [i32_lt_iff] at q; rw [i32_le_iff] at c2; have := q.2; omega))
    · refine lv_iconst (v := 1) hx hb dX5_hasLeaf_12 (by decide) ?_
      refine lv_goto (tgt := 17) hx hb dX5_hasLeaf_13 (by decide) ?_
      exact nd_z hQ hx hb hr hlocks dX5_hasLeaf_17 (by first | exact Or.inl rfl | exact Or.inr rfl | exact bi01) (bi_t ⟨by rw [i32_le_iff]; rw [i32_lt_iff] at c1; omega, by rw [i32_lt_iff]; rw [i32_le_iff] at c2; omega⟩)

set_option maxHeartbeats 4000000 in
set_option maxRecDepth 100000 in
theorem k_X5_priceOf (l : Launch) (G : GG) (b : Nat) (r : Nat → Int32) (i : Nat) (hw : WF r) (hi : i < 5) : Met l yX5_priceOf (ws_ yX5_priceOf cX5_priceOf 4 (some .int)) (rm_ 1) (PC G [.ref b, .int (nI i)] (ShopAt G b r)) (vp_Si (fun z => z = prF r i)) 0 0 NoA := by
  refine met_q (by decide +kernel) (Nat.le_of_ble_eq_true rfl) ?_
  intro p e s m args below meth c Q hQ hx hb hr hT hown hml hlocks hnm hK hSh ls hl
  have hl : lv_has ls 4 [(0, .ref b), (1, .int (nI i))] := hl
  have hpl := hw.pl
  have hpl7 := hpl.2
  refine lv_aload_n hx hb dX5_priceOf_0 rfl (lv_at hl 0 rfl) ?_
  refine rg (C := RX5) (T := TX5) (N := 8) (v := .ref (b + 4)) hx hb hT inX5 hown hK hSh.1 rfl 3 (by decide) mf_X5_32 rfl dX5_priceOf_1 ?_
  refine lv_iconst (v := 1) hx hb dX5_priceOf_4 (by decide) ?_
  refine r_iald hx hb hK hSh.2.2.2.2.1 1 (by decide) (by omega) (Nat.le_of_ble_eq_true rfl) dX5_priceOf_5 ?_
  refine lv_istore_n (lv' := [(2, .int (r 1)), (0, .ref b), (1, .int (nI i))]) hx hb dX5_priceOf_6 rfl hl (by decide) rfl (fun ls hl => ?_)
  refine lv_iload_n hx hb dX5_priceOf_7 rfl (lv_at hl 0 rfl) ?_
  refine lv_if_le (tgt := 20) hx hb dX5_priceOf_8 (by decide) (fun c1 => ?_) (fun c1 => ?_)
  · exact absurd c1 (by have := hw.2.1.1; rw [i32_le_iff]; have h0 : (0 : Int32).toInt = 0 := rfl; omega)
  · refine lv_aload_n hx hb dX5_priceOf_11 rfl (lv_at hl 1 rfl) ?_
    refine rg (C := RX5) (T := TX5) (N := 8) (v := .int (r 2)) hx hb hT inX5 hown hK hSh.1 rfl 5 (by decide) mf_X5_56 rfl dX5_priceOf_12 ?_
    refine lv_iload_n hx hb dX5_priceOf_15 rfl (lv_at hl 0 rfl) ?_
    refine lv_irem hx hb dX5_priceOf_16 (hw.wk) ?_
    refine lv_goto (tgt := 21) hx hb dX5_priceOf_17 (by decide) ?_
    refine lv_istore_n (lv' := [(3, .int ((r 2) - (r 2) / (r 1) * (r 1))), (2, .int (r 1)), (0, .ref b), (1, .int (nI i))]) hx hb dX5_priceOf_21 rfl hl (by decide) rfl (fun ls hl => ?_)
    refine lv_iconst (v := 0) hx hb dX5_priceOf_22 (by decide) ?_
    refine lv_aload_n hx hb dX5_priceOf_23 rfl (lv_at hl 2 rfl) ?_
    refine rg (C := RX5) (T := TX5) (N := 8) (v := .ref (b + 1)) hx hb hT inX5 hown hK hSh.1 rfl 0 (by decide) mf_X5_11 rfl dX5_priceOf_24 ?_
    refine lv_iload_n hx hb dX5_priceOf_27 rfl (lv_at hl 3 rfl) ?_
    refine r_aaldS (y := b + 5 + 3 * i) hx hb hK hSh.2.1 rfl rfl i (rfl) (by omega) (Nat.le_of_ble_eq_true rfl) rfl dX5_priceOf_28 ?_
    refine rg (C := RX1) (T := TX1) (N := 6) (v := .int (r (12 + 14 * i + 0))) hx hb hT inX1 hown hK (hSh.leaf (i := i) (by omega)).1 rfl 0 (by decide) mf_X5_124 rfl dX5_priceOf_29 ?_
    refine lv_aload_n hx hb dX5_priceOf_32 rfl (lv_at hl 2 rfl) ?_
    refine rg (C := RX5) (T := TX5) (N := 8) (v := .ref (b + 1)) hx hb hT inX5 hown hK hSh.1 rfl 0 (by decide) mf_X5_11 rfl dX5_priceOf_33 ?_
    refine lv_iload_n hx hb dX5_priceOf_36 rfl (lv_at hl 3 rfl) ?_
    refine r_aaldS (y := b + 5 + 3 * i) hx hb hK hSh.2.1 rfl rfl i (rfl) (by omega) (Nat.le_of_ble_eq_true rfl) rfl dX5_priceOf_37 ?_
    refine rg (C := RX1) (T := TX1) (N := 6) (v := .ref (b + 5 + 3 * i + 1)) hx hb hT inX1 hown hK (hSh.leaf (i := i) (by omega)).1 rfl 4 (by decide) mf_X5_90 rfl dX5_priceOf_38 ?_
    refine lv_iload_n hx hb dX5_priceOf_41 rfl (lv_at hl 0 rfl) ?_
    refine r_iald hx hb hK (hSh.leaf (i := i) (by omega)).2.1 (plv r) (hpl.1) (by omega) (Nat.le_of_ble_eq_true rfl) dX5_priceOf_42 ?_
    refine lv_iadd hx hb dX5_priceOf_43 ?_
    refine va_mmax hx hb (hml.trans hl.1.symm) hown (hT _ mm_X5_127) (hT _ mst_J9_max_7cf53) (hT _ mz_J9) (hT _ mc_J9_max_7cf53) (Nat.le_of_ble_eq_true rfl) (Nat.le_of_ble_eq_true rfl) (Nat.zero_le _) (Nat.zero_le _) dX5_priceOf_44 ?_
    exact nd_i hQ hx hb hr hlocks dX5_priceOf_47 (rfl)

set_option maxHeartbeats 4000000 in
set_option maxRecDepth 100000 in
theorem k_X5_tasteOf (l : Launch) (G : GG) (b : Nat) (r : Nat → Int32) (i t : Nat) (d : Int32) (hi : i < 5) (ht : t < 3) : Met l yX5_tasteOf (ws_ yX5_tasteOf cX5_tasteOf 5 (some .int)) (rm_ 1) (PC G [.ref b, .int (nI i), .int (nI t), .int d] (ShopAt G b r)) (vp_Si (fun z => z = tsF r i t d)) 0 0 NoA := by
  refine met_q (by decide +kernel) (Nat.le_of_ble_eq_true rfl) ?_
  intro p e s m args below meth c Q hQ hx hb hr hT hown hml hlocks hnm hK hSh ls hl
  have hl : lv_has ls 5 [(0, .ref b), (1, .int (nI i)), (2, .int (nI t)), (3, .int d)] := hl
  refine lv_iconst (v := 0) hx hb dX5_tasteOf_0 (by decide) ?_
  refine lv_sipush (v := 1000) hx hb dX5_tasteOf_1 (by decide) ?_
  refine lv_aload_n hx hb dX5_tasteOf_4 rfl (lv_at hl 0 rfl) ?_
  refine rg (C := RX5) (T := TX5) (N := 8) (v := .ref (b + 4)) hx hb hT inX5 hown hK hSh.1 rfl 3 (by decide) mf_X5_32 rfl dX5_tasteOf_5 ?_
  refine lv_iconst (v := 0) hx hb dX5_tasteOf_8 (by decide) ?_
  refine r_iald hx hb hK hSh.2.2.2.2.1 0 (by decide) (by omega) (Nat.le_of_ble_eq_true rfl) dX5_tasteOf_9 ?_
  refine lv_aload_n hx hb dX5_tasteOf_10 rfl (lv_at hl 0 rfl) ?_
  refine rg (C := RX5) (T := TX5) (N := 8) (v := .ref (b + 1)) hx hb hT inX5 hown hK hSh.1 rfl 0 (by decide) mf_X5_11 rfl dX5_tasteOf_11 ?_
  refine lv_iload_n hx hb dX5_tasteOf_14 rfl (lv_at hl 1 rfl) ?_
  refine r_aaldS (y := b + 5 + 3 * i) hx hb hK hSh.2.1 rfl rfl i (rfl) (by omega) (Nat.le_of_ble_eq_true rfl) rfl dX5_tasteOf_15 ?_
  refine rg (C := RX1) (T := TX1) (N := 6) (v := .int (r (12 + 14 * i + 12))) hx hb hT inX1 hown hK (hSh.leaf (i := i) (by omega)).1 rfl 2 (by decide) mf_X5_102 rfl dX5_tasteOf_16 ?_
  refine lv_iload_n hx hb dX5_tasteOf_19 rfl (lv_at hl 3 rfl) ?_
  refine lv_iadd hx hb dX5_tasteOf_20 ?_
  refine lv_imul hx hb dX5_tasteOf_21 ?_
  refine lv_isub hx hb dX5_tasteOf_22 ?_
  refine va_mmax hx hb (hml.trans hl.1.symm) hown (hT _ mm_X5_127) (hT _ mst_J9_max_7cf53) (hT _ mz_J9) (hT _ mc_J9_max_7cf53) (Nat.le_of_ble_eq_true rfl) (Nat.le_of_ble_eq_true rfl) (Nat.zero_le _) (Nat.zero_le _) dX5_tasteOf_23 ?_
  refine lv_istore (lv' := [(4, .int (if 0 < (1000 - ((r 0) * ((r (12 + 14 * i + 12)) + d))) then (1000 - ((r 0) * ((r (12 + 14 * i + 12)) + d))) else 0)), (0, .ref b), (1, .int (nI i)), (2, .int (nI t)), (3, .int d)]) hx hb dX5_tasteOf_26 hl (by decide) rfl (fun ls hl => ?_)
  refine lv_aload_n hx hb dX5_tasteOf_28 rfl (lv_at hl 1 rfl) ?_
  refine rg (C := RX5) (T := TX5) (N := 8) (v := .ref (b + 1)) hx hb hT inX5 hown hK hSh.1 rfl 0 (by decide) mf_X5_11 rfl dX5_tasteOf_29 ?_
  refine lv_iload_n hx hb dX5_tasteOf_32 rfl (lv_at hl 2 rfl) ?_
  refine r_aaldS (y := b + 5 + 3 * i) hx hb hK hSh.2.1 rfl rfl i (rfl) (by omega) (Nat.le_of_ble_eq_true rfl) rfl dX5_tasteOf_33 ?_
  refine rg (C := RX1) (T := TX1) (N := 6) (v := .ref (b + 5 + 3 * i + 2)) hx hb hT inX1 hown hK (hSh.leaf (i := i) (by omega)).1 rfl 5 (by decide) mf_X5_79 rfl dX5_tasteOf_34 ?_
  refine lv_iload_n hx hb dX5_tasteOf_37 rfl (lv_at hl 3 rfl) ?_
  refine r_iald hx hb hK (hSh.leaf (i := i) (by omega)).2.2 t (rfl) (by omega) (Nat.le_of_ble_eq_true rfl) dX5_tasteOf_38 ?_
  refine lv_iload hx hb dX5_tasteOf_39 (lv_at hl 0 rfl) ?_
  refine lv_imul hx hb dX5_tasteOf_41 ?_
  refine lv_sipush (v := 1000) hx hb dX5_tasteOf_42 (by decide) ?_
  refine lv_idiv hx hb dX5_tasteOf_45 (by decide) ?_
  exact nd_i hQ hx hb hr hlocks dX5_tasteOf_46 (rfl)

set_option maxHeartbeats 4000000 in
set_option maxRecDepth 100000 in
theorem k_X5_allShares (l : Launch) (G : GG) (b : Nat) (r : Nat → Int32)  (hw : WF r) : Met l yX5_allShares (ws_ yX5_allShares cX5_allShares 3 (some .int)) (rm_ 0) (PC G [.ref b] (ShopAt G b r)) (vp_Si (fun z => z = shS r)) 0 0 NoA := by
  refine met_q (by decide +kernel) (Nat.le_of_ble_eq_true rfl) ?_
  intro p e s m args below meth c Q hQ hx hb hr hT hown hml hlocks hnm hK hSh ls hl
  have hl : lv_has ls 3 [(0, .ref b)] := hl
  have hn5 := hw.nl5
  have hnl := hw.nl
  refine lv_iconst (v := 0) hx hb dX5_allShares_0 (by decide) ?_
  refine lv_istore_n (lv' := [(1, .int 0), (0, .ref b)]) hx hb dX5_allShares_1 rfl hl (by decide) rfl (fun ls hl => ?_)
  refine lv_iconst (v := 0) hx hb dX5_allShares_2 (by decide) ?_
  refine lv_istore_n (lv' := [(2, .int 0), (1, .int 0), (0, .ref b)]) hx hb dX5_allShares_3 rfl hl (by decide) rfl (fun ls hl => ?_)
  have loop : ∀ (k : Nat) (i : Nat), i ≤ nlv r → nlv r - i < k → ∀ ls : Array Slot, lv_has ls 3 [(0, .ref b), (2, .int (nI i)), (1, .int (sm (shF r) i))] → W p l e (rm_ 0) s m args below meth c s.heap [] 0 0 Q (F0 m 4 ls []) := by
    intro k
    induction k with
    | zero => intro i hi hm; exact absurd hm (Nat.not_lt_zero _)
    | succ k ih =>
      intro i hi hm ls hl
      refine lv_iload_n hx hb dX5_allShares_4 rfl (lv_at hl 1 rfl) ?_
      refine lv_aload_n hx hb dX5_allShares_5 rfl (lv_at hl 0 rfl) ?_
      refine rg (C := RX5) (T := TX5) (N := 8) (v := .int (r 5)) hx hb hT inX5 hown hK hSh.1 rfl 4 (by decide) mf_X5_52 rfl dX5_allShares_6 ?_
      refine lv_icmp_ge (tgt := 30) hx hb dX5_allShares_9 (by decide) (fun cd => ?_) (fun cd => ?_)
      · have hge : nlv r ≤ i := by
          rw [hnl, nI_leI (by omega) (by omega)] at cd
          exact cd
        have he : i = nlv r := by omega
        subst he
        refine lv_iload_n hx hb dX5_allShares_30 rfl (lv_at hl 2 rfl) ?_
        exact nd_i hQ hx hb hr hlocks dX5_allShares_31 (rfl)
      · have hlt : i < nlv r := by
          rw [hnl, nI_leI (by omega) (by omega)] at cd
          omega
        refine lv_iload_n hx hb dX5_allShares_12 rfl (lv_at hl 2 rfl) ?_
        refine lv_aload_n hx hb dX5_allShares_13 rfl (lv_at hl 0 rfl) ?_
        refine rg (C := RX5) (T := TX5) (N := 8) (v := .ref (b + 1)) hx hb hT inX5 hown hK hSh.1 rfl 0 (by decide) mf_X5_11 rfl dX5_allShares_14 ?_
        refine lv_iload_n hx hb dX5_allShares_17 rfl (lv_at hl 1 rfl) ?_
        refine r_aaldS (y := b + 5 + 3 * i) hx hb hK hSh.2.1 rfl rfl i (rfl) (by omega) (Nat.le_of_ble_eq_true rfl) rfl dX5_allShares_18 ?_
        refine rg (C := RX1) (T := TX1) (N := 6) (v := .int (r (12 + 14 * i + 13))) hx hb hT inX1 hown hK (hSh.leaf (i := i) (by omega)).1 rfl 3 (by decide) mf_X5_109 rfl dX5_allShares_19 ?_
        refine lv_iadd hx hb dX5_allShares_22 ?_
        refine lv_istore_n (lv' := [(1, .int ((sm (shF r) i) + (r (12 + 14 * i + 13)))), (0, .ref b), (2, .int (nI i))]) hx hb dX5_allShares_23 rfl hl (by decide) rfl (fun ls hl => ?_)
        refine lv_iinc (v := nI (i + 1)) (lv' := [(2, .int (nI (i + 1))), (1, .int ((sm (shF r) i) + (r (12 + 14 * i + 13)))), (0, .ref b)]) hx hb dX5_allShares_24 hl (k := 2) rfl (nI_1 i) (by decide) rfl (fun ls hl => ?_)
        refine lv_goto (tgt := 4) hx hb dX5_allShares_27 (by decide) ?_
        exact ih (i + 1) (by omega) (by omega) ls (lv_sub hl [2, 0, 1] rfl)
  exact loop (nlv r + 1) 0 (Nat.zero_le _) (by omega) ls (lv_sub hl [2, 0, 1] rfl)

set_option maxHeartbeats 4000000 in
set_option maxRecDepth 100000 in
theorem k_X5_blendPrice (l : Launch) (G : GG) (b : Nat) (r : Nat → Int32)  (hw : WF r) : Met l yX5_blendPrice (ws_ yX5_blendPrice cX5_blendPrice 3 (some .int)) (rm_ 2) (PC G [.ref b] (ShopAt G b r)) (vp_Si (fun z => z = prS r / 20)) 0 0 NoA := by
  refine met_q (by decide +kernel) (Nat.le_of_ble_eq_true rfl) ?_
  intro p e s m args below meth c Q hQ hx hb hr hT hown hml hlocks hnm hK hSh ls hl
  have hl : lv_has ls 3 [(0, .ref b)] := hl
  have hn5 := hw.nl5
  have hnl := hw.nl
  refine lv_iconst (v := 0) hx hb dX5_blendPrice_0 (by decide) ?_
  refine lv_istore_n (lv' := [(1, .int 0), (0, .ref b)]) hx hb dX5_blendPrice_1 rfl hl (by decide) rfl (fun ls hl => ?_)
  refine lv_iconst (v := 0) hx hb dX5_blendPrice_2 (by decide) ?_
  refine lv_istore_n (lv' := [(2, .int 0), (1, .int 0), (0, .ref b)]) hx hb dX5_blendPrice_3 rfl hl (by decide) rfl (fun ls hl => ?_)
  have loop : ∀ (k : Nat) (i : Nat), i ≤ nlv r → nlv r - i < k → ∀ ls : Array Slot, lv_has ls 3 [(0, .ref b), (2, .int (nI i)), (1, .int (sm (fun i => shF r i * prF r i) i))] → W p l e (rm_ 2) s m args below meth c s.heap [] 0 0 Q (F0 m 4 ls []) := by
    intro k
    induction k with
    | zero => intro i hi hm; exact absurd hm (Nat.not_lt_zero _)
    | succ k ih =>
      intro i hi hm ls hl
      refine lv_iload_n hx hb dX5_blendPrice_4 rfl (lv_at hl 1 rfl) ?_
      refine lv_aload_n hx hb dX5_blendPrice_5 rfl (lv_at hl 0 rfl) ?_
      refine rg (C := RX5) (T := TX5) (N := 8) (v := .int (r 5)) hx hb hT inX5 hown hK hSh.1 rfl 4 (by decide) mf_X5_52 rfl dX5_blendPrice_6 ?_
      refine lv_icmp_ge (tgt := 36) hx hb dX5_blendPrice_9 (by decide) (fun cd => ?_) (fun cd => ?_)
      · have hge : nlv r ≤ i := by
          rw [hnl, nI_leI (by omega) (by omega)] at cd
          exact cd
        have he : i = nlv r := by omega
        subst he
        refine lv_iload_n hx hb dX5_blendPrice_36 rfl (lv_at hl 2 rfl) ?_
        refine lv_bipush (v := 20) hx hb dX5_blendPrice_37 (by decide) ?_
        refine lv_idiv hx hb dX5_blendPrice_39 (by decide) ?_
        exact nd_i hQ hx hb hr hlocks dX5_blendPrice_40 (rfl)
      · have hlt : i < nlv r := by
          rw [hnl, nI_leI (by omega) (by omega)] at cd
          omega
        refine lv_iload_n hx hb dX5_blendPrice_12 rfl (lv_at hl 2 rfl) ?_
        refine lv_aload_n hx hb dX5_blendPrice_13 rfl (lv_at hl 0 rfl) ?_
        refine rg (C := RX5) (T := TX5) (N := 8) (v := .ref (b + 1)) hx hb hT inX5 hown hK hSh.1 rfl 0 (by decide) mf_X5_11 rfl dX5_blendPrice_14 ?_
        refine lv_iload_n hx hb dX5_blendPrice_17 rfl (lv_at hl 1 rfl) ?_
        refine r_aaldS (y := b + 5 + 3 * i) hx hb hK hSh.2.1 rfl rfl i (rfl) (by omega) (Nat.le_of_ble_eq_true rfl) rfl dX5_blendPrice_18 ?_
        refine rg (C := RX1) (T := TX1) (N := 6) (v := .int (r (12 + 14 * i + 13))) hx hb hT inX1 hown hK (hSh.leaf (i := i) (by omega)).1 rfl 3 (by decide) mf_X5_109 rfl dX5_blendPrice_19 ?_
        refine lv_aload_n hx hb dX5_blendPrice_22 rfl (lv_at hl 0 rfl) ?_
        refine lv_iload_n hx hb dX5_blendPrice_23 rfl (lv_at hl 1 rfl) ?_
        refine got_i (run_i hx hb hml hown hT hK hl.1 (k_X5_priceOf l G b r i hw (by omega)) (cw_X5_93 hT ⟨Nat.le_of_ble_eq_true rfl, Nat.le_of_ble_eq_true rfl⟩) hSh.1 rfl hSh rfl rfl (Nat.le_of_ble_eq_true rfl) dX5_blendPrice_24 ⟨Nat.zero_le _, Nat.zero_le _⟩) (fun v_1 hv_1 => ?_)
        subst hv_1
        refine lv_imul hx hb dX5_blendPrice_27 ?_
        refine lv_iadd hx hb dX5_blendPrice_28 ?_
        refine lv_istore_n (lv' := [(1, .int ((sm (fun i => shF r i * prF r i) i) + ((r (12 + 14 * i + 13)) * (prF r i)))), (0, .ref b), (2, .int (nI i))]) hx hb dX5_blendPrice_29 rfl hl (by decide) rfl (fun ls hl => ?_)
        refine lv_iinc (v := nI (i + 1)) (lv' := [(2, .int (nI (i + 1))), (1, .int ((sm (fun i => shF r i * prF r i) i) + ((r (12 + 14 * i + 13)) * (prF r i)))), (0, .ref b)]) hx hb dX5_blendPrice_30 hl (k := 2) rfl (nI_1 i) (by decide) rfl (fun ls hl => ?_)
        refine lv_goto (tgt := 4) hx hb dX5_blendPrice_33 (by decide) ?_
        exact ih (i + 1) (by omega) (by omega) ls (lv_sub hl [2, 0, 1] rfl)
  exact loop (nlv r + 1) 0 (Nat.zero_le _) (by omega) ls (lv_sub hl [2, 0, 1] rfl)

set_option maxHeartbeats 4000000 in
set_option maxRecDepth 100000 in
theorem k_X5_tasteSum (l : Launch) (G : GG) (b : Nat) (r : Nat → Int32) (t : Nat) (d : Int32) (hw : WF r) (ht : t < 3) : Met l yX5_tasteSum (ws_ yX5_tasteSum cX5_tasteSum 5 (some .int)) (rm_ 2) (PC G [.ref b, .int (nI t), .int d] (ShopAt G b r)) (vp_Si (fun z => z = tsS r t d)) 0 0 NoA := by
  refine met_q (by decide +kernel) (Nat.le_of_ble_eq_true rfl) ?_
  intro p e s m args below meth c Q hQ hx hb hr hT hown hml hlocks hnm hK hSh ls hl
  have hl : lv_has ls 5 [(0, .ref b), (1, .int (nI t)), (2, .int d)] := hl
  have hn5 := hw.nl5
  have hnl := hw.nl
  refine lv_iconst (v := 0) hx hb dX5_tasteSum_0 (by decide) ?_
  refine lv_istore_n (lv' := [(3, .int 0), (0, .ref b), (1, .int (nI t)), (2, .int d)]) hx hb dX5_tasteSum_1 rfl hl (by decide) rfl (fun ls hl => ?_)
  refine lv_iconst (v := 0) hx hb dX5_tasteSum_2 (by decide) ?_
  refine lv_istore (lv' := [(4, .int 0), (3, .int 0), (0, .ref b), (1, .int (nI t)), (2, .int d)]) hx hb dX5_tasteSum_3 hl (by decide) rfl (fun ls hl => ?_)
  have loop : ∀ (k : Nat) (i : Nat), i ≤ nlv r → nlv r - i < k → ∀ ls : Array Slot, lv_has ls 5 [(0, .ref b), (1, .int (nI t)), (2, .int d), (4, .int (nI i)), (3, .int (sm (fun i => shF r i * tsF r i t d) i))] → W p l e (rm_ 2) s m args below meth c s.heap [] 0 0 Q (F0 m 5 ls []) := by
    intro k
    induction k with
    | zero => intro i hi hm; exact absurd hm (Nat.not_lt_zero _)
    | succ k ih =>
      intro i hi hm ls hl
      refine lv_iload hx hb dX5_tasteSum_5 (lv_at hl 3 rfl) ?_
      refine lv_aload_n hx hb dX5_tasteSum_7 rfl (lv_at hl 0 rfl) ?_
      refine rg (C := RX5) (T := TX5) (N := 8) (v := .int (r 5)) hx hb hT inX5 hown hK hSh.1 rfl 4 (by decide) mf_X5_52 rfl dX5_tasteSum_8 ?_
      refine lv_icmp_ge (tgt := 42) hx hb dX5_tasteSum_11 (by decide) (fun cd => ?_) (fun cd => ?_)
      · have hge : nlv r ≤ i := by
          rw [hnl, nI_leI (by omega) (by omega)] at cd
          exact cd
        have he : i = nlv r := by omega
        subst he
        refine lv_iload_n hx hb dX5_tasteSum_42 rfl (lv_at hl 4 rfl) ?_
        exact nd_i hQ hx hb hr hlocks dX5_tasteSum_43 (rfl)
      · have hlt : i < nlv r := by
          rw [hnl, nI_leI (by omega) (by omega)] at cd
          omega
        refine lv_iload_n hx hb dX5_tasteSum_14 rfl (lv_at hl 4 rfl) ?_
        refine lv_aload_n hx hb dX5_tasteSum_15 rfl (lv_at hl 0 rfl) ?_
        refine rg (C := RX5) (T := TX5) (N := 8) (v := .ref (b + 1)) hx hb hT inX5 hown hK hSh.1 rfl 0 (by decide) mf_X5_11 rfl dX5_tasteSum_16 ?_
        refine lv_iload hx hb dX5_tasteSum_19 (lv_at hl 3 rfl) ?_
        refine r_aaldS (y := b + 5 + 3 * i) hx hb hK hSh.2.1 rfl rfl i (rfl) (by omega) (Nat.le_of_ble_eq_true rfl) rfl dX5_tasteSum_21 ?_
        refine rg (C := RX1) (T := TX1) (N := 6) (v := .int (r (12 + 14 * i + 13))) hx hb hT inX1 hown hK (hSh.leaf (i := i) (by omega)).1 rfl 3 (by decide) mf_X5_109 rfl dX5_tasteSum_22 ?_
        refine lv_aload_n hx hb dX5_tasteSum_25 rfl (lv_at hl 0 rfl) ?_
        refine lv_iload hx hb dX5_tasteSum_26 (lv_at hl 3 rfl) ?_
        refine lv_iload_n hx hb dX5_tasteSum_28 rfl (lv_at hl 1 rfl) ?_
        refine lv_iload_n hx hb dX5_tasteSum_29 rfl (lv_at hl 2 rfl) ?_
        refine got_i (run_i hx hb hml hown hT hK hl.1 (k_X5_tasteOf l G b r i t d (by omega) ht) (cw_X5_133 hT ⟨Nat.le_of_ble_eq_true rfl, Nat.le_of_ble_eq_true rfl⟩) hSh.1 rfl hSh rfl rfl (Nat.le_of_ble_eq_true rfl) dX5_tasteSum_30 ⟨Nat.zero_le _, Nat.zero_le _⟩) (fun v_1 hv_1 => ?_)
        subst hv_1
        refine lv_imul hx hb dX5_tasteSum_33 ?_
        refine lv_iadd hx hb dX5_tasteSum_34 ?_
        refine lv_istore_n (lv' := [(3, .int ((sm (fun i => shF r i * tsF r i t d) i) + ((r (12 + 14 * i + 13)) * (tsF r i t d)))), (0, .ref b), (1, .int (nI t)), (2, .int d), (4, .int (nI i))]) hx hb dX5_tasteSum_35 rfl hl (by decide) rfl (fun ls hl => ?_)
        refine lv_iinc (v := nI (i + 1)) (lv' := [(4, .int (nI (i + 1))), (3, .int ((sm (fun i => shF r i * tsF r i t d) i) + ((r (12 + 14 * i + 13)) * (tsF r i t d)))), (0, .ref b), (1, .int (nI t)), (2, .int d)]) hx hb dX5_tasteSum_36 hl (k := 4) rfl (nI_1 i) (by decide) rfl (fun ls hl => ?_)
        refine lv_goto (tgt := 5) hx hb dX5_tasteSum_39 (by decide) ?_
        exact ih (i + 1) (by omega) (by omega) ls (lv_sub hl [2, 3, 4, 0, 1] rfl)
  exact loop (nlv r + 1) 0 (Nat.zero_le _) (by omega) ls (lv_sub hl [2, 3, 4, 0, 1] rfl)
end
section
/-! what a shop tells, further -/
def stF (r : Nat → Int32) (i : Nat) : Int32 := r (12 + 14 * i + 11)
def ndF (r : Nat → Int32) (i : Nat) (g : Int32) : Int32 := (g * shF r i + 20 - 1) / 20
def abF (r : Nat → Int32) (d : Int32) : Nat → Int32
  | 0 => 0
  | t + 1 => if r (9 + t) < tsS r t d / 20 ∧ abF r d t = 0 then 5 + nI t else abF r d t
def wyB (c a0 a1 a2 b0 b1 b2 : Bool) : Int32 :=
  match c, a0, a1, a2, b0, b1, b2 with
  | false, _, _, _, _, _, _ => 1
  | true, true, _, _, _, _, _ => 2
  | true, false, true, _, _, _, _ => 3
  | true, false, false, true, _, _, _ => 4
  | true, false, false, false, true, _, _ => 5
  | true, false, false, false, false, true, _ => 6
  | true, false, false, false, false, false, true => 7
  | true, false, false, false, false, false, false => 0
theorem wyB_1 {c a0 a1 a2 b0 b1 b2 : Bool} (h : c = false) : 1 = wyB c a0 a1 a2 b0 b1 b2 := by subst h; rfl
theorem wyB_2 {c a0 a1 a2 b0 b1 b2 : Bool} (h : c = true) (h0 : a0 = true) : 2 = wyB c a0 a1 a2 b0 b1 b2 := by subst h h0; rfl
theorem wyB_3 {c a0 a1 a2 b0 b1 b2 : Bool} (h : c = true) (h0 : a0 = false) (h1 : a1 = true) : 3 = wyB c a0 a1 a2 b0 b1 b2 := by subst h h0 h1; rfl
theorem wyB_4 {c a0 a1 a2 b0 b1 b2 : Bool} (h : c = true) (h0 : a0 = false) (h1 : a1 = false) (h2 : a2 = true) : 4 = wyB c a0 a1 a2 b0 b1 b2 := by subst h h0 h1 h2; rfl
theorem wyB_5 {c a0 a1 a2 b0 b1 b2 : Bool} (h : c = true) (h0 : a0 = false) (h1 : a1 = false) (h2 : a2 = false) (g0 : b0 = true) : 5 = wyB c a0 a1 a2 b0 b1 b2 := by subst h h0 h1 h2 g0; rfl
theorem wyB_6 {c a0 a1 a2 b0 b1 b2 : Bool} (h : c = true) (h0 : a0 = false) (h1 : a1 = false) (h2 : a2 = false) (g0 : b0 = false) (g1 : b1 = true) : 6 = wyB c a0 a1 a2 b0 b1 b2 := by subst h h0 h1 h2 g0 g1; rfl
theorem wyB_7 {c a0 a1 a2 b0 b1 b2 : Bool} (h : c = true) (h0 : a0 = false) (h1 : a1 = false) (h2 : a2 = false) (g0 : b0 = false) (g1 : b1 = false) (g2 : b2 = true) : 7 = wyB c a0 a1 a2 b0 b1 b2 := by subst h h0 h1 h2 g0 g1 g2; rfl
theorem wyB_0 {c a0 a1 a2 b0 b1 b2 : Bool} (h : c = true) (h0 : a0 = false) (h1 : a1 = false) (h2 : a2 = false) (g0 : b0 = false) (g1 : b1 = false) (g2 : b2 = false) : 0 = wyB c a0 a1 a2 b0 b1 b2 := by subst h h0 h1 h2 g0 g1 g2; rfl
def whyF (r : Nat → Int32) (d : Int32) : Int32 := wyB (decide (shS r = 20)) (decide (tsS r 0 d / 20 < r 6)) (decide (tsS r 1 d / 20 < r 7)) (decide (tsS r 2 d / 20 < r 8)) (decide (r 9 < tsS r 0 d / 20)) (decide (r 10 < tsS r 1 d / 20)) (decide (r 11 < tsS r 2 d / 20))
theorem whyF_no {r : Nat → Int32} {d : Int32} (h : ¬ shS r = 20) : 1 = whyF r d := wyB_1 (decide_eq_false h)
theorem whyF_low {r : Nat → Int32} {d : Int32} (h : shS r = 20) {t : Nat} (ht : t < 3) (hb : ∀ j, j < t → ¬ tsS r j d / 20 < r (6 + j)) (hl : tsS r t d / 20 < r (6 + t)) : 2 + nI t = whyF r d := by
  have h3 : t = 0 ∨ t = 1 ∨ t = 2 := by omega
  rcases h3 with q | q | q <;> subst q
  · exact (show (2 : Int32) + nI 0 = 2 by decide).trans (wyB_2 (decide_eq_true h) (decide_eq_true hl))
  · exact (show (2 : Int32) + nI 1 = 3 by decide).trans (wyB_3 (decide_eq_true h) (decide_eq_false (hb 0 (by omega))) (decide_eq_true hl))
  · exact (show (2 : Int32) + nI 2 = 4 by decide).trans (wyB_4 (decide_eq_true h) (decide_eq_false (hb 0 (by omega))) (decide_eq_false (hb 1 (by omega))) (decide_eq_true hl))
theorem abF_y {r : Nat → Int32} {d : Int32} {t : Nat} (h : r (9 + t) < tsS r t d / 20) (z : abF r d t = 0) : abF r d (t + 1) = 5 + nI t := if_pos ⟨h, z⟩
theorem abF_n {r : Nat → Int32} {d : Int32} {t : Nat} (h : ¬ r (9 + t) < tsS r t d / 20) : abF r d (t + 1) = abF r d t := if_neg (fun q => h q.1)
theorem abF_m {r : Nat → Int32} {d : Int32} {t : Nat} (z : ¬ abF r d t = 0) : abF r d (t + 1) = abF r d t := if_neg (fun q => z q.2)
theorem whyF_high {r : Nat → Int32} {d : Int32} (h : shS r = 20) (hb : ∀ j, j < 3 → ¬ tsS r j d / 20 < r (6 + j)) : abF r d 3 = whyF r d := by
  have d0 := decide_eq_false (hb 0 (by omega))
  have d1 := decide_eq_false (hb 1 (by omega))
  have d2 := decide_eq_false (hb 2 (by omega))
  have dh := decide_eq_true h
  by_cases h0 : r 9 < tsS r 0 d / 20
  · have e1 : abF r d 1 = 5 := (abF_y (t := 0) h0 rfl).trans (by decide)
    have e2 : abF r d 2 = 5 := (abF_m (t := 1) (by rw [e1]; decide)).trans e1
    exact ((abF_m (t := 2) (by rw [e2]; decide)).trans e2).trans (wyB_5 dh d0 d1 d2 (decide_eq_true h0))
  · have e1 : abF r d 1 = 0 := abF_n (t := 0) h0
    by_cases h1 : r 10 < tsS r 1 d / 20
    · have e2 : abF r d 2 = 6 := (abF_y (t := 1) h1 e1).trans (by decide)
      exact ((abF_m (t := 2) (by rw [e2]; decide)).trans e2).trans (wyB_6 dh d0 d1 d2 (decide_eq_false h0) (decide_eq_true h1))
    · have e2 : abF r d 2 = 0 := (abF_n (t := 1) h1).trans e1
      by_cases h2 : r 11 < tsS r 2 d / 20
      · have e3 : abF r d 3 = 7 := (abF_y (t := 2) h2 e2).trans (by decide)
        exact e3.trans (wyB_7 dh d0 d1 d2 (decide_eq_false h0) (decide_eq_false h1) (decide_eq_true h2))
      · have e3 : abF r d 3 = 0 := (abF_n (t := 2) h2).trans e2
        exact e3.trans (wyB_0 dh d0 d1 d2 (decide_eq_false h0) (decide_eq_false h1) (decide_eq_false h2))
def mkF (r : Nat → Int32) : Nat → Int32
  | 0 => 0
  | n + 1 => if 0 < shF r n then mkF r n ||| (1 <<< (nI n &&& 31)) else mkF r n
def gbF (r : Nat → Int32) : Nat → Int32
  | 0 => 9999
  | n + 1 => if 0 < shF r n then mnI (gbF r n) (stF r n * 20 / shF r n) else gbF r n
def sfP (r : Nat → Int32) (g : Int32) : Prop := ∀ i, i < nlv r → ndF r i g ≤ stF r i
def ksF (r : Nat → Int32) (f t k : Nat) : Int32 := (tsS r k 0 - tsF r f k 0 + tsF r t k 0) / 20
def ksP (r : Nat → Int32) (f t : Nat) : Prop := (¬ shF r f = 0 ∧ shS r = 20) ∧ ∀ k, k < 3 → r (6 + k) ≤ ksF r f t k ∧ ksF r f t k ≤ r (9 + k)
noncomputable def swI (r : Nat → Int32) (f : Nat) (a : Int32 × Int32) : Nat → Int32 × Int32
  | 0 => a
  | n + 1 => @ite _ ((swI r f a n).2 < prF r f - prF r n ∧ ksP r f n) (Classical.propDecidable _) (5 * nI f + nI n, prF r f - prF r n) (swI r f a n)
noncomputable def swO (r : Nat → Int32) : Nat → Int32 × Int32
  | 0 => (-6, 0)
  | n + 1 => swI r n (swO r n) (nlv r)
noncomputable def bc (P : Prop) : Int32 := @bi P (Classical.propDecidable P)
theorem bc_t {P : Prop} (h : P) : 1 = bc P := @bi_t P (Classical.propDecidable P) h
theorem bc_f {P : Prop} (h : ¬ P) : 0 = bc P := @bi_f P (Classical.propDecidable P) h
theorem bc_e0 {P : Prop} (h : bc P = 0) : ¬ P := @bi_e0 P (Classical.propDecidable P) h
theorem bc_n0 {P : Prop} (h : ¬ bc P = 0) : P := @bi_n0 P (Classical.propDecidable P) h
def chF (x : Int64) (k : Nat) : Int32 := (x >>> ((5 * nI k).toInt64 &&& 63) &&& 31).toInt32 - 9

set_option maxHeartbeats 4000000 in
set_option maxRecDepth 100000 in
theorem k_X1_gramsFor (l : Launch) (G : GG) (a : Nat) (f : Nat → Int32) (g : Int32)  : Met l yX1_gramsFor (ws_ yX1_gramsFor cX1_gramsFor 2 (some .int)) (rm_ 0) (PC G [.ref a, .int g] (LeafAt G a f)) (vp_Si (fun z => z = (g * f 13 + 20 - 1) / 20)) 0 0 NoA := by
  refine met_q (by decide +kernel) (Nat.le_of_ble_eq_true rfl) ?_
  intro p e s m args below meth c Q hQ hx hb hr hT hown hml hlocks hnm hK hL ls hl
  have hl : lv_has ls 2 [(0, .ref a), (1, .int g)] := hl
  refine lv_iload_n hx hb dX1_gramsFor_0 rfl (lv_at hl 1 rfl) ?_
  refine lv_aload_n hx hb dX1_gramsFor_1 rfl (lv_at hl 0 rfl) ?_
  refine rg (C := RX1) (T := TX1) (N := 6) (v := .int (f 13)) hx hb hT inX1 hown hK hL.1 rfl 3 (by decide) mf_X1_28 rfl dX1_gramsFor_2 ?_
  refine lv_imul hx hb dX1_gramsFor_5 ?_
  refine lv_bipush (v := 20) hx hb dX1_gramsFor_6 (by decide) ?_
  refine lv_iadd hx hb dX1_gramsFor_8 ?_
  refine lv_iconst (v := 1) hx hb dX1_gramsFor_9 (by decide) ?_
  refine lv_isub hx hb dX1_gramsFor_10 ?_
  refine lv_bipush (v := 20) hx hb dX1_gramsFor_11 (by decide) ?_
  refine lv_idiv hx hb dX1_gramsFor_13 (by decide) ?_
  exact nd_i hQ hx hb hr hlocks dX1_gramsFor_14 (rfl)

set_option maxHeartbeats 4000000 in
set_option maxRecDepth 100000 in
theorem k_X5_leavesInBlend (l : Launch) (G : GG) (b : Nat) (r : Nat → Int32)  (hw : WF r) : Met l yX5_leavesInBlend (ws_ yX5_leavesInBlend cX5_leavesInBlend 3 (some .int)) (rm_ 0) (PC G [.ref b] (ShopAt G b r)) (vp_Si (fun z => z = mkF r (nlv r))) 0 0 NoA := by
  refine met_q (by decide +kernel) (Nat.le_of_ble_eq_true rfl) ?_
  intro p e s m args below meth c Q hQ hx hb hr hT hown hml hlocks hnm hK hSh ls hl
  have hl : lv_has ls 3 [(0, .ref b)] := hl
  have hn5 := hw.nl5
  have hnl := hw.nl
  refine lv_iconst (v := 0) hx hb dX5_leavesInBlend_0 (by decide) ?_
  refine lv_istore_n (lv' := [(1, .int 0), (0, .ref b)]) hx hb dX5_leavesInBlend_1 rfl hl (by decide) rfl (fun ls hl => ?_)
  refine lv_iconst (v := 0) hx hb dX5_leavesInBlend_2 (by decide) ?_
  refine lv_istore_n (lv' := [(2, .int 0), (1, .int 0), (0, .ref b)]) hx hb dX5_leavesInBlend_3 rfl hl (by decide) rfl (fun ls hl => ?_)
  have loop : ∀ (k : Nat) (i : Nat), i ≤ nlv r → nlv r - i < k → ∀ ls : Array Slot, lv_has ls 3 [(2, .int (nI i)), (1, .int (mkF r i)), (0, .ref b)] → W p l e (rm_ 0) s m args below meth c s.heap [] 0 0 Q (F0 m 4 ls []) := by
    intro k
    induction k with
    | zero => intro i hi hm; exact absurd hm (Nat.not_lt_zero _)
    | succ k ih =>
      intro i hi hm ls hl
      refine lv_iload_n hx hb dX5_leavesInBlend_4 rfl (lv_at hl 0 rfl) ?_
      refine lv_aload_n hx hb dX5_leavesInBlend_5 rfl (lv_at hl 2 rfl) ?_
      refine rg (C := RX5) (T := TX5) (N := 8) (v := .int (r 5)) hx hb hT inX5 hown hK hSh.1 rfl 4 (by decide) mf_X5_52 rfl dX5_leavesInBlend_6 ?_
      refine lv_icmp_ge (tgt := 36) hx hb dX5_leavesInBlend_9 (by decide) (fun cd => ?_) (fun cd => ?_)
      · have hge : nlv r ≤ i := by
          rw [hnl, nI_leI (by omega) (by omega)] at cd
          exact cd
        have he : i = nlv r := by omega
        subst he
        refine lv_iload_n hx hb dX5_leavesInBlend_36 rfl (lv_at hl 1 rfl) ?_
        exact nd_i hQ hx hb hr hlocks dX5_leavesInBlend_37 (rfl)
      · have hlt : i < nlv r := by
          rw [hnl, nI_leI (by omega) (by omega)] at cd
          omega
        refine lv_aload_n hx hb dX5_leavesInBlend_12 rfl (lv_at hl 2 rfl) ?_
        refine rg (C := RX5) (T := TX5) (N := 8) (v := .ref (b + 1)) hx hb hT inX5 hown hK hSh.1 rfl 0 (by decide) mf_X5_11 rfl dX5_leavesInBlend_13 ?_
        refine lv_iload_n hx hb dX5_leavesInBlend_16 rfl (lv_at hl 0 rfl) ?_
        refine r_aaldS (y := b + 5 + 3 * i) hx hb hK hSh.2.1 rfl rfl i (rfl) (by omega) (Nat.le_of_ble_eq_true rfl) rfl dX5_leavesInBlend_17 ?_
        refine rg (C := RX1) (T := TX1) (N := 6) (v := .int (r (12 + 14 * i + 13))) hx hb hT inX1 hown hK (hSh.leaf (i := i) (by omega)).1 rfl 3 (by decide) mf_X5_109 rfl dX5_leavesInBlend_18 ?_
        refine lv_if_le (tgt := 30) hx hb dX5_leavesInBlend_21 (by decide) (fun cs => ?_) (fun cs => ?_)
        · have es : mkF r (i + 1) = mkF r i := if_neg (by unfold shF; rw [i32_lt_iff]; rw [i32_le_iff] at cs; omega)
          refine lv_iinc (v := nI (i + 1)) (lv' := [(2, .int (nI (i + 1))), (1, .int (mkF r i)), (0, .ref b)]) hx hb dX5_leavesInBlend_30 hl (k := 0) rfl (nI_1 i) (by decide) rfl (fun ls hl => ?_)
          refine lv_goto (tgt := 4) hx hb dX5_leavesInBlend_33 (by decide) ?_
          rw [← es] at hl
          exact ih (i + 1) (by omega) (by omega) ls (lv_sub hl [0, 1, 2] rfl)
        · have es : mkF r (i + 1) = mkF r i ||| (1 <<< (nI i &&& 31)) := if_pos (by unfold shF; rw [i32_lt_iff]; rw [i32_le_iff] at cs; omega)
          refine lv_iload_n hx hb dX5_leavesInBlend_24 rfl (lv_at hl 1 rfl) ?_
          refine lv_iconst (v := 1) hx hb dX5_leavesInBlend_25 (by decide) ?_
          refine lv_iload_n hx hb dX5_leavesInBlend_26 rfl (lv_at hl 0 rfl) ?_
          refine lv_ishl hx hb dX5_leavesInBlend_27 ?_
          refine lv_ior hx hb dX5_leavesInBlend_28 ?_
          refine lv_istore_n (lv' := [(1, .int ((mkF r i) ||| (1 <<< ((nI i) &&& 31)))), (2, .int (nI i)), (0, .ref b)]) hx hb dX5_leavesInBlend_29 rfl hl (by decide) rfl (fun ls hl => ?_)
          refine lv_iinc (v := nI (i + 1)) (lv' := [(2, .int (nI (i + 1))), (1, .int ((mkF r i) ||| (1 <<< ((nI i) &&& 31)))), (0, .ref b)]) hx hb dX5_leavesInBlend_30 hl (k := 1) rfl (nI_1 i) (by decide) rfl (fun ls hl => ?_)
          refine lv_goto (tgt := 4) hx hb dX5_leavesInBlend_33 (by decide) ?_
          rw [← es] at hl
          exact ih (i + 1) (by omega) (by omega) ls (lv_sub hl [0, 1, 2] rfl)
  exact loop (nlv r + 1) 0 (Nat.zero_le _) (by omega) ls hl

set_option maxHeartbeats 4000000 in
set_option maxRecDepth 100000 in
theorem k_X5_gramsByStocks (l : Launch) (G : GG) (b : Nat) (r : Nat → Int32)  (hw : WF r) : Met l yX5_gramsByStocks (ws_ yX5_gramsByStocks cX5_gramsByStocks 3 (some .int)) (rm_ 1) (PC G [.ref b] (ShopAt G b r)) (vp_Si (fun z => z = gbF r (nlv r))) 0 0 NoA := by
  refine met_q (by decide +kernel) (Nat.le_of_ble_eq_true rfl) ?_
  intro p e s m args below meth c Q hQ hx hb hr hT hown hml hlocks hnm hK hSh ls hl
  have hl : lv_has ls 3 [(0, .ref b)] := hl
  have hn5 := hw.nl5
  have hnl := hw.nl
  refine lv_sipush (v := 9999) hx hb dX5_gramsByStocks_0 (by decide) ?_
  refine lv_istore_n (lv' := [(1, .int 9999), (0, .ref b)]) hx hb dX5_gramsByStocks_3 rfl hl (by decide) rfl (fun ls hl => ?_)
  refine lv_iconst (v := 0) hx hb dX5_gramsByStocks_4 (by decide) ?_
  refine lv_istore_n (lv' := [(2, .int 0), (1, .int 9999), (0, .ref b)]) hx hb dX5_gramsByStocks_5 rfl hl (by decide) rfl (fun ls hl => ?_)
  have loop : ∀ (k : Nat) (i : Nat), i ≤ nlv r → nlv r - i < k → ∀ ls : Array Slot, lv_has ls 3 [(2, .int (nI i)), (1, .int (gbF r i)), (0, .ref b)] → W p l e (rm_ 1) s m args below meth c s.heap [] 0 0 Q (F0 m 6 ls []) := by
    intro k
    induction k with
    | zero => intro i hi hm; exact absurd hm (Nat.not_lt_zero _)
    | succ k ih =>
      intro i hi hm ls hl
      refine lv_iload_n hx hb dX5_gramsByStocks_6 rfl (lv_at hl 0 rfl) ?_
      refine lv_aload_n hx hb dX5_gramsByStocks_7 rfl (lv_at hl 2 rfl) ?_
      refine rg (C := RX5) (T := TX5) (N := 8) (v := .int (r 5)) hx hb hT inX5 hown hK hSh.1 rfl 4 (by decide) mf_X5_52 rfl dX5_gramsByStocks_8 ?_
      refine lv_icmp_ge (tgt := 59) hx hb dX5_gramsByStocks_11 (by decide) (fun cd => ?_) (fun cd => ?_)
      · have hge : nlv r ≤ i := by
          rw [hnl, nI_leI (by omega) (by omega)] at cd
          exact cd
        have he : i = nlv r := by omega
        subst he
        refine lv_iload_n hx hb dX5_gramsByStocks_59 rfl (lv_at hl 1 rfl) ?_
        exact nd_i hQ hx hb hr hlocks dX5_gramsByStocks_60 (rfl)
      · have hlt : i < nlv r := by
          rw [hnl, nI_leI (by omega) (by omega)] at cd
          omega
        refine lv_aload_n hx hb dX5_gramsByStocks_14 rfl (lv_at hl 2 rfl) ?_
        refine rg (C := RX5) (T := TX5) (N := 8) (v := .ref (b + 1)) hx hb hT inX5 hown hK hSh.1 rfl 0 (by decide) mf_X5_11 rfl dX5_gramsByStocks_15 ?_
        refine lv_iload_n hx hb dX5_gramsByStocks_18 rfl (lv_at hl 0 rfl) ?_
        refine r_aaldS (y := b + 5 + 3 * i) hx hb hK hSh.2.1 rfl rfl i (rfl) (by omega) (Nat.le_of_ble_eq_true rfl) rfl dX5_gramsByStocks_19 ?_
        refine rg (C := RX1) (T := TX1) (N := 6) (v := .int (r (12 + 14 * i + 13))) hx hb hT inX1 hown hK (hSh.leaf (i := i) (by omega)).1 rfl 3 (by decide) mf_X5_109 rfl dX5_gramsByStocks_20 ?_
        refine lv_if_le (tgt := 53) hx hb dX5_gramsByStocks_23 (by decide) (fun cs => ?_) (fun cs => ?_)
        · have es : gbF r (i + 1) = gbF r i := if_neg (by unfold shF; rw [i32_lt_iff]; rw [i32_le_iff] at cs; omega)
          refine lv_iinc (v := nI (i + 1)) (lv' := [(2, .int (nI (i + 1))), (1, .int (gbF r i)), (0, .ref b)]) hx hb dX5_gramsByStocks_53 hl (k := 0) rfl (nI_1 i) (by decide) rfl (fun ls hl => ?_)
          refine lv_goto (tgt := 6) hx hb dX5_gramsByStocks_56 (by decide) ?_
          rw [← es] at hl
          exact ih (i + 1) (by omega) (by omega) ls (lv_sub hl [0, 1, 2] rfl)
        · have hs0 : 0 < shF r i := by unfold shF; rw [i32_lt_iff]; rw [i32_le_iff] at cs; omega
          have es : gbF r (i + 1) = mnI (gbF r i) (stF r i * 20 / shF r i) := if_pos hs0
          refine lv_iload_n hx hb dX5_gramsByStocks_26 rfl (lv_at hl 1 rfl) ?_
          refine lv_aload_n hx hb dX5_gramsByStocks_27 rfl (lv_at hl 2 rfl) ?_
          refine rg (C := RX5) (T := TX5) (N := 8) (v := .ref (b + 1)) hx hb hT inX5 hown hK hSh.1 rfl 0 (by decide) mf_X5_11 rfl dX5_gramsByStocks_28 ?_
          refine lv_iload_n hx hb dX5_gramsByStocks_31 rfl (lv_at hl 0 rfl) ?_
          refine r_aaldS (y := b + 5 + 3 * i) hx hb hK hSh.2.1 rfl rfl i (rfl) (by omega) (Nat.le_of_ble_eq_true rfl) rfl dX5_gramsByStocks_32 ?_
          refine rg (C := RX1) (T := TX1) (N := 6) (v := .int (r (12 + 14 * i + 11))) hx hb hT inX1 hown hK (hSh.leaf (i := i) (by omega)).1 rfl 1 (by decide) mf_X5_99 rfl dX5_gramsByStocks_33 ?_
          refine lv_bipush (v := 20) hx hb dX5_gramsByStocks_36 (by decide) ?_
          refine lv_imul hx hb dX5_gramsByStocks_38 ?_
          refine lv_aload_n hx hb dX5_gramsByStocks_39 rfl (lv_at hl 2 rfl) ?_
          refine rg (C := RX5) (T := TX5) (N := 8) (v := .ref (b + 1)) hx hb hT inX5 hown hK hSh.1 rfl 0 (by decide) mf_X5_11 rfl dX5_gramsByStocks_40 ?_
          refine lv_iload_n hx hb dX5_gramsByStocks_43 rfl (lv_at hl 0 rfl) ?_
          refine r_aaldS (y := b + 5 + 3 * i) hx hb hK hSh.2.1 rfl rfl i (rfl) (by omega) (Nat.le_of_ble_eq_true rfl) rfl dX5_gramsByStocks_44 ?_
          refine rg (C := RX1) (T := TX1) (N := 6) (v := .int (r (12 + 14 * i + 13))) hx hb hT inX1 hown hK (hSh.leaf (i := i) (by omega)).1 rfl 3 (by decide) mf_X5_109 rfl dX5_gramsByStocks_45 ?_
          refine lv_idiv hx hb dX5_gramsByStocks_48 (fun q => by unfold shF at hs0; rw [q] at hs0; exact absurd hs0 (by decide)) ?_
          refine va_mmin hx hb (hml.trans hl.1.symm) hown (hT _ mm_X5_140) (hT _ mst_J9_min_7cf53) (hT _ mz_J9) (hT _ mc_J9_min_7cf53) (Nat.le_of_ble_eq_true rfl) (Nat.le_of_ble_eq_true rfl) (Nat.zero_le _) (Nat.zero_le _) dX5_gramsByStocks_49 ?_
          refine lv_istore_n (lv' := [(1, .int (if (((r (12 + 14 * i + 11)) * 20) / (r (12 + 14 * i + 13))) < (gbF r i) then (((r (12 + 14 * i + 11)) * 20) / (r (12 + 14 * i + 13))) else (gbF r i))), (2, .int (nI i)), (0, .ref b)]) hx hb dX5_gramsByStocks_52 rfl hl (by decide) rfl (fun ls hl => ?_)
          refine lv_iinc (v := nI (i + 1)) (lv' := [(2, .int (nI (i + 1))), (1, .int (if (((r (12 + 14 * i + 11)) * 20) / (r (12 + 14 * i + 13))) < (gbF r i) then (((r (12 + 14 * i + 11)) * 20) / (r (12 + 14 * i + 13))) else (gbF r i))), (0, .ref b)]) hx hb dX5_gramsByStocks_53 hl (k := 1) rfl (nI_1 i) (by decide) rfl (fun ls hl => ?_)
          refine lv_goto (tgt := 6) hx hb dX5_gramsByStocks_56 (by decide) ?_
          have hl : lv_has ls 3 [(2, .int (nI (i + 1))), (1, .int (gbF r (i + 1))), (0, .ref b)] := by rw [es]; exact hl
          exact ih (i + 1) (by omega) (by omega) ls (lv_sub hl [0, 1, 2] rfl)
  exact loop (nlv r + 1) 0 (Nat.zero_le _) (by omega) ls hl

set_option maxHeartbeats 4000000 in
set_option maxRecDepth 100000 in
theorem k_X5_stocksSuffice (l : Launch) (G : GG) (b : Nat) (r : Nat → Int32) (g : Int32) (hw : WF r) : Met l yX5_stocksSuffice (ws_ yX5_stocksSuffice cX5_stocksSuffice 3 (some .boolean)) (rm_ 1) (PC G [.ref b, .int g] (ShopAt G b r)) (vp_Si (fun z => z = bc (sfP r g))) 0 0 NoA := by
  refine met_q (by decide +kernel) (Nat.le_of_ble_eq_true rfl) ?_
  intro p e s m args below meth c Q hQ hx hb hr hT hown hml hlocks hnm hK hSh ls hl
  have hl : lv_has ls 3 [(0, .ref b), (1, .int g)] := hl
  have hn5 := hw.nl5
  have hnl := hw.nl
  refine lv_iconst (v := 0) hx hb dX5_stocksSuffice_0 (by decide) ?_
  refine lv_istore_n (lv' := [(2, .int 0), (0, .ref b), (1, .int g)]) hx hb dX5_stocksSuffice_1 rfl hl (by decide) rfl (fun ls hl => ?_)
  have loop : ∀ (k : Nat) (i : Nat), i ≤ nlv r → (∀ j, j < i → ndF r j g ≤ stF r j) → nlv r - i < k → ∀ ls : Array Slot, lv_has ls 3 [(2, .int (nI i)), (0, .ref b), (1, .int g)] → W p l e (rm_ 1) s m args below meth c s.heap [] 0 0 Q (F0 m 2 ls []) := by
    intro k
    induction k with
    | zero => intro i hi hb4 hm; exact absurd hm (Nat.not_lt_zero _)
    | succ k ih =>
      intro i hi hb4 hm ls hl
      refine lv_iload_n hx hb dX5_stocksSuffice_2 rfl (lv_at hl 0 rfl) ?_
      refine lv_aload_n hx hb dX5_stocksSuffice_3 rfl (lv_at hl 1 rfl) ?_
      refine rg (C := RX5) (T := TX5) (N := 8) (v := .int (r 5)) hx hb hT inX5 hown hK hSh.1 rfl 4 (by decide) mf_X5_52 rfl dX5_stocksSuffice_4 ?_
      refine lv_icmp_ge (tgt := 40) hx hb dX5_stocksSuffice_7 (by decide) (fun cd => ?_) (fun cd => ?_)
      · have hge : nlv r ≤ i := by
          rw [hnl, nI_leI (by omega) (by omega)] at cd
          exact cd
        have he : i = nlv r := by omega
        subst he
        refine lv_iconst (v := 1) hx hb dX5_stocksSuffice_40 (by decide) ?_
        exact nd_z hQ hx hb hr hlocks dX5_stocksSuffice_41 (by first | exact Or.inl rfl | exact Or.inr rfl) (bc_t hb4)
      · have hlt : i < nlv r := by
          rw [hnl, nI_leI (by omega) (by omega)] at cd
          omega
        refine lv_aload_n hx hb dX5_stocksSuffice_10 rfl (lv_at hl 1 rfl) ?_
        refine rg (C := RX5) (T := TX5) (N := 8) (v := .ref (b + 1)) hx hb hT inX5 hown hK hSh.1 rfl 0 (by decide) mf_X5_11 rfl dX5_stocksSuffice_11 ?_
        refine lv_iload_n hx hb dX5_stocksSuffice_14 rfl (lv_at hl 0 rfl) ?_
        refine r_aaldS (y := b + 5 + 3 * i) hx hb hK hSh.2.1 rfl rfl i (rfl) (by omega) (Nat.le_of_ble_eq_true rfl) rfl dX5_stocksSuffice_15 ?_
        refine lv_iload_n hx hb dX5_stocksSuffice_16 rfl (lv_at hl 2 rfl) ?_
        refine got_i (run_i hx hb hml hown hT hK hl.1 (k_X1_gramsFor l G (b + 5 + 3 * i) (fun k => r (12 + 14 * i + k)) g) (cw_X5_118 hT ⟨Nat.le_of_ble_eq_true rfl, Nat.le_of_ble_eq_true rfl⟩) (hSh.leaf (i := i) (by omega)).1 rfl (hSh.leaf (i := i) (by omega)) rfl rfl (Nat.le_of_ble_eq_true rfl) dX5_stocksSuffice_17 ⟨Nat.zero_le _, Nat.zero_le _⟩) (fun v_1 hv_1 => ?_)
        subst hv_1
        refine lv_aload_n hx hb dX5_stocksSuffice_20 rfl (lv_at hl 1 rfl) ?_
        refine rg (C := RX5) (T := TX5) (N := 8) (v := .ref (b + 1)) hx hb hT inX5 hown hK hSh.1 rfl 0 (by decide) mf_X5_11 rfl dX5_stocksSuffice_21 ?_
        refine lv_iload_n hx hb dX5_stocksSuffice_24 rfl (lv_at hl 0 rfl) ?_
        refine r_aaldS (y := b + 5 + 3 * i) hx hb hK hSh.2.1 rfl rfl i (rfl) (by omega) (Nat.le_of_ble_eq_true rfl) rfl dX5_stocksSuffice_25 ?_
        refine rg (C := RX1) (T := TX1) (N := 6) (v := .int (r (12 + 14 * i + 11))) hx hb hT inX1 hown hK (hSh.leaf (i := i) (by omega)).1 rfl 1 (by decide) mf_X5_99 rfl dX5_stocksSuffice_26 ?_
        refine lv_icmp_le (tgt := 34) hx hb dX5_stocksSuffice_29 (by decide) (fun cs => ?_) (fun cs => ?_)
        · refine lv_iinc (v := nI (i + 1)) (lv' := [(2, .int (nI (i + 1))), (0, .ref b), (1, .int g)]) hx hb dX5_stocksSuffice_34 hl (k := 0) rfl (nI_1 i) (by decide) rfl (fun ls hl => ?_)
          refine lv_goto (tgt := 2) hx hb dX5_stocksSuffice_37 (by decide) ?_
          exact ih (i + 1) (by omega) (lt_s hb4 cs) (by omega) ls (lv_sub hl [0, 1, 2] rfl)
        · refine lv_iconst (v := 0) hx hb dX5_stocksSuffice_32 (by decide) ?_
          exact nd_z hQ hx hb hr hlocks dX5_stocksSuffice_33 (by first | exact Or.inl rfl | exact Or.inr rfl) (bc_f (fun q => cs (q i hlt)))
  exact loop (nlv r + 1) 0 (Nat.zero_le _) (fun j hj => absurd hj (Nat.not_lt_zero _)) (by omega) ls hl

set_option maxHeartbeats 4000000 in
set_option maxRecDepth 100000 in
theorem k_X5_keepsAfterSwap (l : Launch) (G : GG) (b : Nat) (r : Nat → Int32) (f t : Nat) (hw : WF r) (hf : f < 5) (ht : t < 5) : Met l yX5_keepsAfterSwap (ws_ yX5_keepsAfterSwap cX5_keepsAfterSwap 5 (some .boolean)) (rm_ 3) (PC G [.ref b, .int (nI f), .int (nI t)] (ShopAt G b r)) (vp_Si (fun z => z = bc (ksP r f t))) 0 0 NoA := by
  refine met_q (by decide +kernel) (Nat.le_of_ble_eq_true rfl) ?_
  intro p e s m args below meth c Q hQ hx hb hr hT hown hml hlocks hnm hK hSh ls hl
  have hl : lv_has ls 5 [(0, .ref b), (1, .int (nI f)), (2, .int (nI t))] := hl
  refine lv_aload_n hx hb dX5_keepsAfterSwap_0 rfl (lv_at hl 0 rfl) ?_
  refine rg (C := RX5) (T := TX5) (N := 8) (v := .ref (b + 1)) hx hb hT inX5 hown hK hSh.1 rfl 0 (by decide) mf_X5_11 rfl dX5_keepsAfterSwap_1 ?_
  refine lv_iload_n hx hb dX5_keepsAfterSwap_4 rfl (lv_at hl 1 rfl) ?_
  refine r_aaldS (y := b + 5 + 3 * f) hx hb hK hSh.2.1 rfl rfl f (rfl) (by omega) (Nat.le_of_ble_eq_true rfl) rfl dX5_keepsAfterSwap_5 ?_
  refine rg (C := RX1) (T := TX1) (N := 6) (v := .int (r (12 + 14 * f + 13))) hx hb hT inX1 hown hK (hSh.leaf (i := f) (by omega)).1 rfl 3 (by decide) mf_X5_109 rfl dX5_keepsAfterSwap_6 ?_
  refine lv_if_eq (tgt := 21) hx hb dX5_keepsAfterSwap_9 (by decide) (fun c1 => ?_) (fun c1 => ?_)
  · refine lv_iconst (v := 0) hx hb dX5_keepsAfterSwap_21 (by decide) ?_
    exact nd_z hQ hx hb hr hlocks dX5_keepsAfterSwap_22 (by first | exact Or.inl rfl | exact Or.inr rfl) (bc_f (fun q => q.1.1 c1))
  · refine lv_aload_n hx hb dX5_keepsAfterSwap_12 rfl (lv_at hl 0 rfl) ?_
    refine got_i (run_i hx hb hml hown hT hK hl.1 (k_X5_allShares l G b r hw) (cw_X5_105 hT ⟨Nat.le_of_ble_eq_true rfl, Nat.le_of_ble_eq_true rfl⟩) hSh.1 rfl hSh rfl rfl (Nat.le_of_ble_eq_true rfl) dX5_keepsAfterSwap_13 ⟨Nat.zero_le _, Nat.zero_le _⟩) (fun v_1 hv_1 => ?_)
    subst hv_1
    refine lv_bipush (v := 20) hx hb dX5_keepsAfterSwap_16 (by decide) ?_
    refine lv_icmp_eq (tgt := 23) hx hb dX5_keepsAfterSwap_18 (by decide) (fun c2 => ?_) (fun c2 => ?_)
    · refine lv_iconst (v := 0) hx hb dX5_keepsAfterSwap_23 (by decide) ?_
      refine lv_istore_n (lv' := [(3, .int 0), (0, .ref b), (1, .int (nI f)), (2, .int (nI t))]) hx hb dX5_keepsAfterSwap_24 rfl hl (by decide) rfl (fun ls hl => ?_)
      have loop : ∀ (k : Nat) (k0 : Nat), k0 ≤ 3 → (∀ j, j < k0 → r (6 + j) ≤ ksF r f t j ∧ ksF r f t j ≤ r (9 + j)) → 3 - k0 < k → ∀ ls : Array Slot, lv_has ls 5 [(3, .int (nI k0)), (0, .ref b), (1, .int (nI f)), (2, .int (nI t))] → W p l e (rm_ 3) s m args below meth c s.heap [] 0 0 Q (F0 m 25 ls []) := by
        intro k
        induction k with
        | zero => intro k0 hk hb4 hm; exact absurd hm (Nat.not_lt_zero _)
        | succ k ih =>
          intro k0 hk hb4 hm ls hl
          refine lv_iload_n hx hb dX5_keepsAfterSwap_25 rfl (lv_at hl 0 rfl) ?_
          refine lv_iconst (v := 3) hx hb dX5_keepsAfterSwap_26 (by decide) ?_
          refine lv_icmp_ge (tgt := 85) hx hb dX5_keepsAfterSwap_27 (by decide) (fun cd => ?_) (fun cd => ?_)
          · have e3 : k0 = 3 := by
              have h9 : nI 3 ≤ nI k0 := cd
              rw [nI_leI (by omega) (by omega)] at h9
              omega
            subst e3
            refine lv_iconst (v := 1) hx hb dX5_keepsAfterSwap_85 (by decide) ?_
            exact nd_z hQ hx hb hr hlocks dX5_keepsAfterSwap_86 (by first | exact Or.inl rfl | exact Or.inr rfl) (bc_t ⟨⟨c1, c2⟩, hb4⟩)
          · have h3 : k0 < 3 := by
              have h9 : ¬ nI 3 ≤ nI k0 := cd
              rw [nI_leI (by omega) (by omega)] at h9
              omega
            refine lv_aload_n hx hb dX5_keepsAfterSwap_30 rfl (lv_at hl 1 rfl) ?_
            refine lv_iload_n hx hb dX5_keepsAfterSwap_31 rfl (lv_at hl 0 rfl) ?_
            refine lv_iconst (v := 0) hx hb dX5_keepsAfterSwap_32 (by decide) ?_
            refine got_i (run_i hx hb hml hown hT hK hl.1 (k_X5_tasteSum l G b r k0 0 hw h3) (cw_X5_137 hT ⟨Nat.le_of_ble_eq_true rfl, Nat.le_of_ble_eq_true rfl⟩) hSh.1 rfl hSh rfl rfl (Nat.le_of_ble_eq_true rfl) dX5_keepsAfterSwap_33 ⟨Nat.zero_le _, Nat.zero_le _⟩) (fun v_2 hv_2 => ?_)
            subst hv_2
            refine lv_aload_n hx hb dX5_keepsAfterSwap_36 rfl (lv_at hl 1 rfl) ?_
            refine lv_iload_n hx hb dX5_keepsAfterSwap_37 rfl (lv_at hl 2 rfl) ?_
            refine lv_iload_n hx hb dX5_keepsAfterSwap_38 rfl (lv_at hl 0 rfl) ?_
            refine lv_iconst (v := 0) hx hb dX5_keepsAfterSwap_39 (by decide) ?_
            refine got_i (run_i hx hb hml hown hT hK hl.1 (k_X5_tasteOf l G b r f k0 0 hf h3) (cw_X5_133 hT ⟨Nat.le_of_ble_eq_true rfl, Nat.le_of_ble_eq_true rfl⟩) hSh.1 rfl hSh rfl rfl (Nat.le_of_ble_eq_true rfl) dX5_keepsAfterSwap_40 ⟨Nat.zero_le _, Nat.zero_le _⟩) (fun v_3 hv_3 => ?_)
            subst hv_3
            refine lv_isub hx hb dX5_keepsAfterSwap_43 ?_
            refine lv_aload_n hx hb dX5_keepsAfterSwap_44 rfl (lv_at hl 1 rfl) ?_
            refine lv_iload_n hx hb dX5_keepsAfterSwap_45 rfl (lv_at hl 3 rfl) ?_
            refine lv_iload_n hx hb dX5_keepsAfterSwap_46 rfl (lv_at hl 0 rfl) ?_
            refine lv_iconst (v := 0) hx hb dX5_keepsAfterSwap_47 (by decide) ?_
            refine got_i (run_i hx hb hml hown hT hK hl.1 (k_X5_tasteOf l G b r t k0 0 ht h3) (cw_X5_133 hT ⟨Nat.le_of_ble_eq_true rfl, Nat.le_of_ble_eq_true rfl⟩) hSh.1 rfl hSh rfl rfl (Nat.le_of_ble_eq_true rfl) dX5_keepsAfterSwap_48 ⟨Nat.zero_le _, Nat.zero_le _⟩) (fun v_4 hv_4 => ?_)
            subst hv_4
            refine lv_iadd hx hb dX5_keepsAfterSwap_51 ?_
            refine lv_istore (lv' := [(4, .int (((tsS r k0 0) - (tsF r f k0 0)) + (tsF r t k0 0))), (3, .int (nI k0)), (0, .ref b), (1, .int (nI f)), (2, .int (nI t))]) hx hb dX5_keepsAfterSwap_52 hl (by decide) rfl (fun ls hl => ?_)
            refine lv_iload hx hb dX5_keepsAfterSwap_54 (lv_at hl 0 rfl) ?_
            refine lv_bipush (v := 20) hx hb dX5_keepsAfterSwap_56 (by decide) ?_
            refine lv_idiv hx hb dX5_keepsAfterSwap_58 (by decide) ?_
            refine lv_aload_n hx hb dX5_keepsAfterSwap_59 rfl (lv_at hl 2 rfl) ?_
            refine rg (C := RX5) (T := TX5) (N := 8) (v := .ref (b + 2)) hx hb hT inX5 hown hK hSh.1 rfl 1 (by decide) mf_X5_17 rfl dX5_keepsAfterSwap_60 ?_
            refine lv_iload_n hx hb dX5_keepsAfterSwap_63 rfl (lv_at hl 1 rfl) ?_
            refine r_iald hx hb hK hSh.2.2.1 k0 (rfl) (by omega) (Nat.le_of_ble_eq_true rfl) dX5_keepsAfterSwap_64 ?_
            refine lv_aload_n hx hb dX5_keepsAfterSwap_65 rfl (lv_at hl 2 rfl) ?_
            refine rg (C := RX5) (T := TX5) (N := 8) (v := .ref (b + 3)) hx hb hT inX5 hown hK hSh.1 rfl 2 (by decide) mf_X5_21 rfl dX5_keepsAfterSwap_66 ?_
            refine lv_iload_n hx hb dX5_keepsAfterSwap_69 rfl (lv_at hl 1 rfl) ?_
            refine r_iald hx hb hK hSh.2.2.2.1 k0 (rfl) (by omega) (Nat.le_of_ble_eq_true rfl) dX5_keepsAfterSwap_70 ?_
            refine got_i (run_s hx hb hml hown hT hK hl.1 (k_X5_isWithin l G (ksF r f t k0) (r (6 + k0)) (r (9 + k0))) (cw_X5_71 hT ⟨Nat.le_of_ble_eq_true rfl, Nat.le_of_ble_eq_true rfl⟩) trivial rfl rfl (Nat.le_of_ble_eq_true rfl) dX5_keepsAfterSwap_71 ⟨Nat.zero_le _, Nat.zero_le _⟩) (fun v_5 hv_5 => ?_)
            subst hv_5
            refine lv_if_ne (tgt := 79) hx hb dX5_keepsAfterSwap_74 (by decide) (fun cw => ?_) (fun cw => ?_)
            · refine lv_iinc (v := nI (k0 + 1)) (lv' := [(3, .int (nI (k0 + 1))), (4, .int (((tsS r k0 0) - (tsF r f k0 0)) + (tsF r t k0 0))), (0, .ref b), (1, .int (nI f)), (2, .int (nI t))]) hx hb dX5_keepsAfterSwap_79 hl (k := 1) rfl (nI_1 k0) (by decide) rfl (fun ls hl => ?_)
              refine lv_goto (tgt := 25) hx hb dX5_keepsAfterSwap_82 (by decide) ?_
              exact ih (k0 + 1) (by omega) (lt_s hb4 (bi_n0 cw)) (by omega) ls (lv_sub hl [0, 2, 3, 4] rfl)
            · refine lv_iconst (v := 0) hx hb dX5_keepsAfterSwap_77 (by decide) ?_
              exact nd_z hQ hx hb hr hlocks dX5_keepsAfterSwap_78 (by first | exact Or.inl rfl | exact Or.inr rfl) (bc_f (fun q => bi_e0 cw (q.2 k0 h3)))
      exact loop 4 0 (by omega) (fun j hj => absurd hj (Nat.not_lt_zero _)) (by omega) ls (lv_sub hl [0, 1, 2, 3] rfl)
    · refine lv_iconst (v := 0) hx hb dX5_keepsAfterSwap_21 (by decide) ?_
      exact nd_z hQ hx hb hr hlocks dX5_keepsAfterSwap_22 (by first | exact Or.inl rfl | exact Or.inr rfl) (bc_f (fun q => c2 q.1.2))

set_option maxHeartbeats 4000000 in
set_option maxRecDepth 100000 in
theorem k_X5_canBeLooser (l : Launch) (G : GG) (b : Nat) (r : Nat → Int32) (k : Nat) (hk : k < 6) : Met l yX5_canBeLooser (ws_ yX5_canBeLooser cX5_canBeLooser 2 (some .boolean)) (rm_ 0) (PC G [.ref b, .int (nI k)] (ShopAt G b r)) (vp_Si (fun z => z = if k < 3 then bi (0 < r (6 + k)) else bi (r (9 + (k - 3)) < 100))) 0 0 NoA := by
  refine met_q (by decide +kernel) (Nat.le_of_ble_eq_true rfl) ?_
  intro p e s m args below meth c Q hQ hx hb hr hT hown hml hlocks hnm hK hSh ls hl
  have hl : lv_has ls 2 [(0, .ref b), (1, .int (nI k))] := hl
  refine lv_iload_n hx hb dX5_canBeLooser_0 rfl (lv_at hl 1 rfl) ?_
  refine lv_iconst (v := 3) hx hb dX5_canBeLooser_1 (by decide) ?_
  refine lv_icmp_ge (tgt := 22) hx hb dX5_canBeLooser_2 (by decide) (fun c1 => ?_) (fun c1 => ?_)
  · have h3 : 3 ≤ k := by
      have h9 : nI 3 ≤ nI k := c1
      rw [nI_leI (by omega) (by omega)] at h9
      exact h9
    refine lv_aload_n hx hb dX5_canBeLooser_22 rfl (lv_at hl 0 rfl) ?_
    refine rg (C := RX5) (T := TX5) (N := 8) (v := .ref (b + 3)) hx hb hT inX5 hown hK hSh.1 rfl 2 (by decide) mf_X5_21 rfl dX5_canBeLooser_23 ?_
    refine lv_iload_n hx hb dX5_canBeLooser_26 rfl (lv_at hl 1 rfl) ?_
    refine lv_iconst (v := 3) hx hb dX5_canBeLooser_27 (by decide) ?_
    refine lv_isub hx hb dX5_canBeLooser_28 ?_
    refine r_iald hx hb hK hSh.2.2.2.1 (k - 3) (pk_sub (a := k) (b := 3) h3) (by omega) (Nat.le_of_ble_eq_true rfl) dX5_canBeLooser_29 ?_
    refine lv_bipush (v := 100) hx hb dX5_canBeLooser_30 (by decide) ?_
    refine lv_icmp_ge (tgt := 39) hx hb dX5_canBeLooser_32 (by decide) (fun c2 => ?_) (fun c2 => ?_)
    · refine lv_iconst (v := 0) hx hb dX5_canBeLooser_39 (by decide) ?_
      exact nd_z hQ hx hb hr hlocks dX5_canBeLooser_40 (by first | exact Or.inl rfl | exact Or.inr rfl | exact bi01) (by rw [if_neg (by omega)]; exact bi_f (fun q => by rw [i32_lt_iff] at q; rw [i32_le_iff] at c2; omega))
    · refine lv_iconst (v := 1) hx hb dX5_canBeLooser_35 (by decide) ?_
      refine lv_goto (tgt := 40) hx hb dX5_canBeLooser_36 (by decide) ?_
      exact nd_z hQ hx hb hr hlocks dX5_canBeLooser_40 (by first | exact Or.inl rfl | exact Or.inr rfl | exact bi01) (by rw [if_neg (by omega)]; exact bi_t (by rw [i32_lt_iff]; rw [i32_le_iff] at c2; omega))
  · have h3 : k < 3 := by
      have h9 : ¬ nI 3 ≤ nI k := c1
      rw [nI_leI (by omega) (by omega)] at h9
      omega
    refine lv_aload_n hx hb dX5_canBeLooser_5 rfl (lv_at hl 0 rfl) ?_
    refine rg (C := RX5) (T := TX5) (N := 8) (v := .ref (b + 2)) hx hb hT inX5 hown hK hSh.1 rfl 1 (by decide) mf_X5_17 rfl dX5_canBeLooser_6 ?_
    refine lv_iload_n hx hb dX5_canBeLooser_9 rfl (lv_at hl 1 rfl) ?_
    refine r_iald hx hb hK hSh.2.2.1 k (rfl) (by omega) (Nat.le_of_ble_eq_true rfl) dX5_canBeLooser_10 ?_
    refine lv_if_le (tgt := 18) hx hb dX5_canBeLooser_11 (by decide) (fun c2 => ?_) (fun c2 => ?_)
    · refine lv_iconst (v := 0) hx hb dX5_canBeLooser_18 (by decide) ?_
      refine lv_goto (tgt := 40) hx hb dX5_canBeLooser_19 (by decide) ?_
      exact nd_z hQ hx hb hr hlocks dX5_canBeLooser_40 (by first | exact Or.inl rfl | exact Or.inr rfl | exact bi01) (by rw [if_pos h3]; exact bi_f (fun q => by rw [i32_lt_iff] at q; rw [i32_le_iff] at c2; omega))
    · refine lv_iconst (v := 1) hx hb dX5_canBeLooser_14 (by decide) ?_
      refine lv_goto (tgt := 40) hx hb dX5_canBeLooser_15 (by decide) ?_
      exact nd_z hQ hx hb hr hlocks dX5_canBeLooser_40 (by first | exact Or.inl rfl | exact Or.inr rfl | exact bi01) (by rw [if_pos h3]; exact bi_t (by rw [i32_lt_iff]; rw [i32_le_iff] at c2; omega))

set_option maxHeartbeats 4000000 in
set_option maxRecDepth 100000 in
theorem k_X5_changeIn (l : Launch) (G : GG) (x : Int64) (k : Nat)  : Met l yX5_changeIn (ws_ yX5_changeIn cX5_changeIn 3 (some .int)) (rm_ 0) (PC G [.long x, .int (nI k)] (fun _ => True)) (vp_Si (fun z => z = chF x k)) 0 0 NoA := by
  refine met_q (by decide +kernel) (Nat.le_of_ble_eq_true rfl) ?_
  intro p e s m args below meth c Q hQ hx hb hr hT hown hml hlocks hnm hK _ ls hl
  have hl : lv_has ls 3 [(0, .long x), (2, .int (nI k))] := hl
  refine lv_lload_n hx hb dX5_changeIn_0 rfl (lv_at hl 0 rfl) ?_
  refine lv_iconst (v := 5) hx hb dX5_changeIn_1 (by decide) ?_
  refine lv_iload_n hx hb dX5_changeIn_2 rfl (lv_at hl 1 rfl) ?_
  refine lv_imul hx hb dX5_changeIn_3 ?_
  refine lv_lshr hx hb dX5_changeIn_4 rfl ?_
  refine lv_ldc2 hx hb hown (hT _ mk_X5_97) dX5_changeIn_5 ?_
  refine lv_land hx hb dX5_changeIn_8 ?_
  refine lv_l2i hx hb dX5_changeIn_9 rfl ?_
  refine lv_bipush (v := 9) hx hb dX5_changeIn_10 (by decide) ?_
  refine lv_isub hx hb dX5_changeIn_12 ?_
  exact nd_i hQ hx hb hr hlocks dX5_changeIn_13 (rfl)

set_option maxHeartbeats 4000000 in
set_option maxRecDepth 100000 in
theorem k_X5_whyBroken (l : Launch) (G : GG) (b : Nat) (r : Nat → Int32) (d : Int32) (hw : WF r) : Met l yX5_whyBroken (ws_ yX5_whyBroken cX5_whyBroken 5 (some .int)) (rm_ 3) (PC G [.ref b, .int d] (ShopAt G b r)) (vp_Si (fun z => z = whyF r d)) 0 0 NoA := by
  refine met_q (by decide +kernel) (Nat.le_of_ble_eq_true rfl) ?_
  intro p e s m args below meth c Q hQ hx hb hr hT hown hml hlocks hnm hK hSh ls hl
  have hl : lv_has ls 5 [(0, .ref b), (1, .int d)] := hl
  refine lv_aload_n hx hb dX5_whyBroken_0 rfl (lv_at hl 0 rfl) ?_
  refine got_i (run_i hx hb hml hown hT hK hl.1 (k_X5_allShares l G b r hw) (cw_X5_105 hT ⟨Nat.le_of_ble_eq_true rfl, Nat.le_of_ble_eq_true rfl⟩) hSh.1 rfl hSh rfl rfl (Nat.le_of_ble_eq_true rfl) dX5_whyBroken_1 ⟨Nat.zero_le _, Nat.zero_le _⟩) (fun v_1 hv_1 => ?_)
  subst hv_1
  refine lv_bipush (v := 20) hx hb dX5_whyBroken_4 (by decide) ?_
  refine lv_icmp_eq (tgt := 11) hx hb dX5_whyBroken_6 (by decide) (fun c2 => ?_) (fun c2 => ?_)
  · refine lv_iconst (v := 0) hx hb dX5_whyBroken_11 (by decide) ?_
    refine lv_istore_n (lv' := [(2, .int 0), (0, .ref b), (1, .int d)]) hx hb dX5_whyBroken_12 rfl hl (by decide) rfl (fun ls hl => ?_)
    refine lv_iconst (v := 0) hx hb dX5_whyBroken_13 (by decide) ?_
    refine lv_istore_n (lv' := [(3, .int 0), (2, .int 0), (0, .ref b), (1, .int d)]) hx hb dX5_whyBroken_14 rfl hl (by decide) rfl (fun ls hl => ?_)
    have loop : ∀ (k : Nat) (t : Nat), t ≤ 3 → (∀ j, j < t → ¬ tsS r j d / 20 < r (6 + j)) → 3 - t < k → ∀ ls : Array Slot, lv_has ls 5 [(3, .int (nI t)), (2, .int (abF r d t)), (0, .ref b), (1, .int d)] → W p l e (rm_ 3) s m args below meth c s.heap [] 0 0 Q (F0 m 15 ls []) := by
      intro k
      induction k with
      | zero => intro t ht hb4 hm; exact absurd hm (Nat.not_lt_zero _)
      | succ k ih =>
        intro t ht hb4 hm ls hl
        refine lv_iload_n hx hb dX5_whyBroken_15 rfl (lv_at hl 0 rfl) ?_
        refine lv_iconst (v := 3) hx hb dX5_whyBroken_16 (by decide) ?_
        refine lv_icmp_ge (tgt := 71) hx hb dX5_whyBroken_17 (by decide) (fun cd => ?_) (fun cd => ?_)
        · have e3 : t = 3 := by
            have h9 : nI 3 ≤ nI t := cd
            rw [nI_leI (by omega) (by omega)] at h9
            omega
          subst e3
          refine lv_iload_n hx hb dX5_whyBroken_71 rfl (lv_at hl 1 rfl) ?_
          exact nd_i hQ hx hb hr hlocks dX5_whyBroken_72 (whyF_high c2 hb4)
        · have h3 : t < 3 := by
            have h9 : ¬ nI 3 ≤ nI t := cd
            rw [nI_leI (by omega) (by omega)] at h9
            omega
          refine lv_aload_n hx hb dX5_whyBroken_20 rfl (lv_at hl 2 rfl) ?_
          refine lv_iload_n hx hb dX5_whyBroken_21 rfl (lv_at hl 0 rfl) ?_
          refine lv_iload_n hx hb dX5_whyBroken_22 rfl (lv_at hl 3 rfl) ?_
          refine got_i (run_i hx hb hml hown hT hK hl.1 (k_X5_tasteSum l G b r t d hw h3) (cw_X5_137 hT ⟨Nat.le_of_ble_eq_true rfl, Nat.le_of_ble_eq_true rfl⟩) hSh.1 rfl hSh rfl rfl (Nat.le_of_ble_eq_true rfl) dX5_whyBroken_23 ⟨Nat.zero_le _, Nat.zero_le _⟩) (fun v_2 hv_2 => ?_)
          subst hv_2
          refine lv_bipush (v := 20) hx hb dX5_whyBroken_26 (by decide) ?_
          refine lv_idiv hx hb dX5_whyBroken_28 (by decide) ?_
          refine lv_istore (lv' := [(4, .int ((tsS r t d) / 20)), (3, .int (nI t)), (2, .int (abF r d t)), (0, .ref b), (1, .int d)]) hx hb dX5_whyBroken_29 hl (by decide) rfl (fun ls hl => ?_)
          refine lv_iload hx hb dX5_whyBroken_31 (lv_at hl 0 rfl) ?_
          refine lv_aload_n hx hb dX5_whyBroken_33 rfl (lv_at hl 3 rfl) ?_
          refine rg (C := RX5) (T := TX5) (N := 8) (v := .ref (b + 2)) hx hb hT inX5 hown hK hSh.1 rfl 1 (by decide) mf_X5_17 rfl dX5_whyBroken_34 ?_
          refine lv_iload_n hx hb dX5_whyBroken_37 rfl (lv_at hl 1 rfl) ?_
          refine r_iald hx hb hK hSh.2.2.1 t (rfl) (by omega) (Nat.le_of_ble_eq_true rfl) dX5_whyBroken_38 ?_
          refine lv_icmp_ge (tgt := 46) hx hb dX5_whyBroken_39 (by decide) (fun cl => ?_) (fun cl => ?_)
          · have cl2 : ¬ tsS r t d / 20 < r (6 + t) := by rw [i32_lt_iff]; rw [i32_le_iff] at cl; omega
            refine lv_iload hx hb dX5_whyBroken_46 (lv_at hl 0 rfl) ?_
            refine lv_aload_n hx hb dX5_whyBroken_48 rfl (lv_at hl 3 rfl) ?_
            refine rg (C := RX5) (T := TX5) (N := 8) (v := .ref (b + 3)) hx hb hT inX5 hown hK hSh.1 rfl 2 (by decide) mf_X5_21 rfl dX5_whyBroken_49 ?_
            refine lv_iload_n hx hb dX5_whyBroken_52 rfl (lv_at hl 1 rfl) ?_
            refine r_iald hx hb hK hSh.2.2.2.1 t (rfl) (by omega) (Nat.le_of_ble_eq_true rfl) dX5_whyBroken_53 ?_
            refine lv_icmp_le (tgt := 65) hx hb dX5_whyBroken_54 (by decide) (fun ch => ?_) (fun ch => ?_)
            · have ea : abF r d (t + 1) = abF r d t := if_neg (fun q => by have := q.1; rw [i32_lt_iff] at this; rw [i32_le_iff] at ch; omega)
              refine lv_iinc (v := nI (t + 1)) (lv' := [(3, .int (nI (t + 1))), (4, .int ((tsS r t d) / 20)), (2, .int (abF r d t)), (0, .ref b), (1, .int d)]) hx hb dX5_whyBroken_65 hl (k := 1) rfl (nI_1 t) (by decide) rfl (fun ls hl => ?_)
              refine lv_goto (tgt := 15) hx hb dX5_whyBroken_68 (by decide) ?_
              have hl : lv_has ls 5 [(3, .int (nI (t + 1))), (4, .int ((tsS r t d) / 20)), (2, .int (abF r d (t + 1))), (0, .ref b), (1, .int d)] := by rw [ea]; exact hl
              exact ih (t + 1) (by omega) (lt_s hb4 cl2) (by omega) ls (lv_sub hl [0, 2, 3, 4] rfl)
            · refine lv_iload_n hx hb dX5_whyBroken_57 rfl (lv_at hl 2 rfl) ?_
              refine lv_if_ne (tgt := 65) hx hb dX5_whyBroken_58 (by decide) (fun cz => ?_) (fun cz => ?_)
              · have ea : abF r d (t + 1) = abF r d t := if_neg (fun q => cz q.2)
                refine lv_iinc (v := nI (t + 1)) (lv' := [(3, .int (nI (t + 1))), (4, .int ((tsS r t d) / 20)), (2, .int (abF r d t)), (0, .ref b), (1, .int d)]) hx hb dX5_whyBroken_65 hl (k := 1) rfl (nI_1 t) (by decide) rfl (fun ls hl => ?_)
                refine lv_goto (tgt := 15) hx hb dX5_whyBroken_68 (by decide) ?_
                have hl : lv_has ls 5 [(3, .int (nI (t + 1))), (4, .int ((tsS r t d) / 20)), (2, .int (abF r d (t + 1))), (0, .ref b), (1, .int d)] := by rw [ea]; exact hl
                exact ih (t + 1) (by omega) (lt_s hb4 cl2) (by omega) ls (lv_sub hl [0, 2, 3, 4] rfl)
              · have ea : abF r d (t + 1) = 5 + nI t := if_pos ⟨by rw [i32_lt_iff]; rw [i32_le_iff] at ch; omega, cz⟩
                refine lv_iconst (v := 5) hx hb dX5_whyBroken_61 (by decide) ?_
                refine lv_iload_n hx hb dX5_whyBroken_62 rfl (lv_at hl 1 rfl) ?_
                refine lv_iadd hx hb dX5_whyBroken_63 ?_
                refine lv_istore_n (lv' := [(2, .int (5 + (nI t))), (4, .int ((tsS r t d) / 20)), (3, .int (nI t)), (0, .ref b), (1, .int d)]) hx hb dX5_whyBroken_64 rfl hl (by decide) rfl (fun ls hl => ?_)
                refine lv_iinc (v := nI (t + 1)) (lv' := [(3, .int (nI (t + 1))), (2, .int (5 + (nI t))), (4, .int ((tsS r t d) / 20)), (0, .ref b), (1, .int d)]) hx hb dX5_whyBroken_65 hl (k := 2) rfl (nI_1 t) (by decide) rfl (fun ls hl => ?_)
                refine lv_goto (tgt := 15) hx hb dX5_whyBroken_68 (by decide) ?_
                have hl : lv_has ls 5 [(3, .int (nI (t + 1))), (2, .int (abF r d (t + 1))), (4, .int ((tsS r t d) / 20)), (0, .ref b), (1, .int d)] := by rw [ea]; exact hl
                exact ih (t + 1) (by omega) (lt_s hb4 cl2) (by omega) ls (lv_sub hl [0, 1, 3, 4] rfl)
          · have cl2 : tsS r t d / 20 < r (6 + t) := by rw [i32_lt_iff]; rw [i32_le_iff] at cl; omega
            refine lv_iconst (v := 2) hx hb dX5_whyBroken_42 (by decide) ?_
            refine lv_iload_n hx hb dX5_whyBroken_43 rfl (lv_at hl 1 rfl) ?_
            refine lv_iadd hx hb dX5_whyBroken_44 ?_
            exact nd_i hQ hx hb hr hlocks dX5_whyBroken_45 (whyF_low c2 h3 hb4 cl2)
    exact loop 4 0 (by omega) (fun j hj => absurd hj (Nat.not_lt_zero _)) (by omega) ls (lv_sub hl [0, 1, 2, 3] rfl)
  · refine lv_iconst (v := 1) hx hb dX5_whyBroken_9 (by decide) ?_
    exact nd_i hQ hx hb hr hlocks dX5_whyBroken_10 (whyF_no c2)

set_option maxHeartbeats 4000000 in
set_option maxRecDepth 100000 in
theorem k_X5_bestSwap (l : Launch) (G : GG) (b : Nat) (r : Nat → Int32)  (hw : WF r) : Met l yX5_bestSwap (ws_ yX5_bestSwap cX5_bestSwap 6 (some .int)) (rm_ 4) (PC G [.ref b] (ShopAt G b r)) (vp_Si (fun z => z = (swO r (nlv r)).1)) 0 0 NoA := by
  refine met_q (by decide +kernel) (Nat.le_of_ble_eq_true rfl) ?_
  intro p e s m args below meth c Q hQ hx hb hr hT hown hml hlocks hnm hK hSh ls hl
  have hl : lv_has ls 6 [(0, .ref b)] := hl
  have hn5 := hw.nl5
  have hnl := hw.nl
  refine lv_bipush (v := (-6)) hx hb dX5_bestSwap_0 (by decide) ?_
  refine lv_istore_n (lv' := [(1, .int (-6)), (0, .ref b)]) hx hb dX5_bestSwap_2 rfl hl (by decide) rfl (fun ls hl => ?_)
  refine lv_iconst (v := 0) hx hb dX5_bestSwap_3 (by decide) ?_
  refine lv_istore_n (lv' := [(2, .int 0), (1, .int (-6)), (0, .ref b)]) hx hb dX5_bestSwap_4 rfl hl (by decide) rfl (fun ls hl => ?_)
  refine lv_iconst (v := 0) hx hb dX5_bestSwap_5 (by decide) ?_
  refine lv_istore_n (lv' := [(3, .int 0), (2, .int 0), (1, .int (-6)), (0, .ref b)]) hx hb dX5_bestSwap_6 rfl hl (by decide) rfl (fun ls hl => ?_)
  have loop : ∀ (k : Nat) (f : Nat), f ≤ nlv r → nlv r - f < k → ∀ ls : Array Slot, lv_has ls 6 [(3, .int (nI f)), (2, .int ((swO r f).2)), (1, .int ((swO r f).1)), (0, .ref b)] → W p l e (rm_ 4) s m args below meth c s.heap [] 0 0 Q (F0 m 7 ls []) := by
    intro k
    induction k with
    | zero => intro f hf hm; exact absurd hm (Nat.not_lt_zero _)
    | succ k ih =>
      intro f hf hm ls hl
      refine lv_iload_n hx hb dX5_bestSwap_7 rfl (lv_at hl 0 rfl) ?_
      refine lv_aload_n hx hb dX5_bestSwap_8 rfl (lv_at hl 3 rfl) ?_
      refine rg (C := RX5) (T := TX5) (N := 8) (v := .int (r 5)) hx hb hT inX5 hown hK hSh.1 rfl 4 (by decide) mf_X5_52 rfl dX5_bestSwap_9 ?_
      refine lv_icmp_ge (tgt := 79) hx hb dX5_bestSwap_12 (by decide) (fun cd => ?_) (fun cd => ?_)
      · have hge : nlv r ≤ f := by
          rw [hnl, nI_leI (by omega) (by omega)] at cd
          exact cd
        have he : f = nlv r := by omega
        subst he
        refine lv_iload_n hx hb dX5_bestSwap_79 rfl (lv_at hl 2 rfl) ?_
        exact nd_i hQ hx hb hr hlocks dX5_bestSwap_80 (rfl)
      · have hlt : f < nlv r := by
          rw [hnl, nI_leI (by omega) (by omega)] at cd
          omega
        refine lv_iconst (v := 0) hx hb dX5_bestSwap_15 (by decide) ?_
        refine lv_istore (lv' := [(4, .int 0), (3, .int (nI f)), (2, .int ((swO r f).2)), (1, .int ((swO r f).1)), (0, .ref b)]) hx hb dX5_bestSwap_16 hl (by decide) rfl (fun ls hl => ?_)
        have loop2 : ∀ (k : Nat) (t : Nat), t ≤ nlv r → nlv r - t < k → ∀ ls : Array Slot, lv_has ls 6 [(4, .int (nI t)), (3, .int (nI f)), (2, .int ((swI r f (swO r f) t).2)), (1, .int ((swI r f (swO r f) t).1)), (0, .ref b)] → W p l e (rm_ 4) s m args below meth c s.heap [] 0 0 Q (F0 m 18 ls []) := by
          intro k2
          induction k2 with
          | zero => intro t ht2 hm2; exact absurd hm2 (Nat.not_lt_zero _)
          | succ k2 ih2 =>
            intro t ht2 hm2 ls hl
            refine lv_iload hx hb dX5_bestSwap_18 (lv_at hl 0 rfl) ?_
            refine lv_aload_n hx hb dX5_bestSwap_20 rfl (lv_at hl 4 rfl) ?_
            refine rg (C := RX5) (T := TX5) (N := 8) (v := .int (r 5)) hx hb hT inX5 hown hK hSh.1 rfl 4 (by decide) mf_X5_52 rfl dX5_bestSwap_21 ?_
            refine lv_icmp_ge (tgt := 73) hx hb dX5_bestSwap_24 (by decide) (fun cd2 => ?_) (fun cd2 => ?_)
            · have hge : nlv r ≤ t := by
                rw [hnl, nI_leI (by omega) (by omega)] at cd2
                exact cd2
              have he : t = nlv r := by omega
              subst he
              refine lv_iinc (v := nI (f + 1)) (lv' := [(3, .int (nI (f + 1))), (4, .int (nI (nlv r))), (2, .int ((swI r f (swO r f) (nlv r)).2)), (1, .int ((swI r f (swO r f) (nlv r)).1)), (0, .ref b)]) hx hb dX5_bestSwap_73 hl (k := 1) rfl (nI_1 f) (by decide) rfl (fun ls hl => ?_)
              refine lv_goto (tgt := 7) hx hb dX5_bestSwap_76 (by decide) ?_
              exact ih (f + 1) (by omega) (by omega) ls (lv_sub hl [0, 2, 3, 4] rfl)
            · have hlt2 : t < nlv r := by
                rw [hnl, nI_leI (by omega) (by omega)] at cd2
                omega
              refine lv_aload_n hx hb dX5_bestSwap_27 rfl (lv_at hl 4 rfl) ?_
              refine lv_iload_n hx hb dX5_bestSwap_28 rfl (lv_at hl 1 rfl) ?_
              refine got_i (run_i hx hb hml hown hT hK hl.1 (k_X5_priceOf l G b r f hw (by omega)) (cw_X5_93 hT ⟨Nat.le_of_ble_eq_true rfl, Nat.le_of_ble_eq_true rfl⟩) hSh.1 rfl hSh rfl rfl (Nat.le_of_ble_eq_true rfl) dX5_bestSwap_29 ⟨Nat.zero_le _, Nat.zero_le _⟩) (fun v_2 hv_2 => ?_)
              subst hv_2
              refine lv_aload_n hx hb dX5_bestSwap_32 rfl (lv_at hl 4 rfl) ?_
              refine lv_iload hx hb dX5_bestSwap_33 (lv_at hl 0 rfl) ?_
              refine got_i (run_i hx hb hml hown hT hK hl.1 (k_X5_priceOf l G b r t hw (by omega)) (cw_X5_93 hT ⟨Nat.le_of_ble_eq_true rfl, Nat.le_of_ble_eq_true rfl⟩) hSh.1 rfl hSh rfl rfl (Nat.le_of_ble_eq_true rfl) dX5_bestSwap_35 ⟨Nat.zero_le _, Nat.zero_le _⟩) (fun v_3 hv_3 => ?_)
              subst hv_3
              refine lv_isub hx hb dX5_bestSwap_38 ?_
              refine lv_istore (lv' := [(5, .int ((prF r f) - (prF r t))), (4, .int (nI t)), (3, .int (nI f)), (2, .int ((swI r f (swO r f) t).2)), (1, .int ((swI r f (swO r f) t).1)), (0, .ref b)]) hx hb dX5_bestSwap_39 hl (by decide) rfl (fun ls hl => ?_)
              refine lv_iload hx hb dX5_bestSwap_41 (lv_at hl 0 rfl) ?_
              refine lv_iload_n hx hb dX5_bestSwap_43 rfl (lv_at hl 3 rfl) ?_
              refine lv_icmp_le (tgt := 67) hx hb dX5_bestSwap_44 (by decide) (fun cs => ?_) (fun cs => ?_)
              · have ea : swI r f (swO r f) (t + 1) = swI r f (swO r f) t := if_neg (fun q => by have := q.1; rw [i32_lt_iff] at this; rw [i32_le_iff] at cs; omega)
                refine lv_iinc (v := nI (t + 1)) (lv' := [(4, .int (nI (t + 1))), (5, .int ((prF r f) - (prF r t))), (3, .int (nI f)), (2, .int ((swI r f (swO r f) t).2)), (1, .int ((swI r f (swO r f) t).1)), (0, .ref b)]) hx hb dX5_bestSwap_67 hl (k := 1) rfl (nI_1 t) (by decide) rfl (fun ls hl => ?_)
                refine lv_goto (tgt := 18) hx hb dX5_bestSwap_70 (by decide) ?_
                have hl : lv_has ls 6 [(4, .int (nI (t + 1))), (5, .int ((prF r f) - (prF r t))), (3, .int (nI f)), (2, .int ((swI r f (swO r f) (t + 1)).2)), (1, .int ((swI r f (swO r f) (t + 1)).1)), (0, .ref b)] := by rw [ea]; exact hl
                exact ih2 (t + 1) (by omega) (by omega) ls (lv_sub hl [0, 2, 3, 4, 5] rfl)
              · refine lv_aload_n hx hb dX5_bestSwap_47 rfl (lv_at hl 5 rfl) ?_
                refine lv_iload_n hx hb dX5_bestSwap_48 rfl (lv_at hl 2 rfl) ?_
                refine lv_iload hx hb dX5_bestSwap_49 (lv_at hl 1 rfl) ?_
                refine got_i (run_i hx hb hml hown hT hK hl.1 (k_X5_keepsAfterSwap l G b r f t hw (by omega) (by omega)) (cw_X5_143 hT ⟨Nat.le_of_ble_eq_true rfl, Nat.le_of_ble_eq_true rfl⟩) hSh.1 rfl hSh rfl rfl (Nat.le_of_ble_eq_true rfl) dX5_bestSwap_51 ⟨Nat.zero_le _, Nat.zero_le _⟩) (fun v_4 hv_4 => ?_)
                subst hv_4
                refine lv_if_eq (tgt := 67) hx hb dX5_bestSwap_54 (by decide) (fun ck => ?_) (fun ck => ?_)
                · have ea : swI r f (swO r f) (t + 1) = swI r f (swO r f) t := if_neg (fun q => bc_e0 ck q.2)
                  refine lv_iinc (v := nI (t + 1)) (lv' := [(4, .int (nI (t + 1))), (5, .int ((prF r f) - (prF r t))), (3, .int (nI f)), (2, .int ((swI r f (swO r f) t).2)), (1, .int ((swI r f (swO r f) t).1)), (0, .ref b)]) hx hb dX5_bestSwap_67 hl (k := 1) rfl (nI_1 t) (by decide) rfl (fun ls hl => ?_)
                  refine lv_goto (tgt := 18) hx hb dX5_bestSwap_70 (by decide) ?_
                  have hl : lv_has ls 6 [(4, .int (nI (t + 1))), (5, .int ((prF r f) - (prF r t))), (3, .int (nI f)), (2, .int ((swI r f (swO r f) (t + 1)).2)), (1, .int ((swI r f (swO r f) (t + 1)).1)), (0, .ref b)] := by rw [ea]; exact hl
                  exact ih2 (t + 1) (by omega) (by omega) ls (lv_sub hl [0, 2, 3, 4, 5] rfl)
                · have ea : swI r f (swO r f) (t + 1) = (5 * nI f + nI t, prF r f - prF r t) := if_pos ⟨by rw [i32_lt_iff]; rw [i32_le_iff] at cs; omega, bc_n0 ck⟩
                  refine lv_iload hx hb dX5_bestSwap_57 (lv_at hl 0 rfl) ?_
                  refine lv_istore_n (lv' := [(2, .int ((prF r f) - (prF r t))), (5, .int ((prF r f) - (prF r t))), (4, .int (nI t)), (3, .int (nI f)), (1, .int ((swI r f (swO r f) t).1)), (0, .ref b)]) hx hb dX5_bestSwap_59 rfl hl (by decide) rfl (fun ls hl => ?_)
                  refine lv_iconst (v := 5) hx hb dX5_bestSwap_60 (by decide) ?_
                  refine lv_iload_n hx hb dX5_bestSwap_61 rfl (lv_at hl 3 rfl) ?_
                  refine lv_imul hx hb dX5_bestSwap_62 ?_
                  refine lv_iload hx hb dX5_bestSwap_63 (lv_at hl 2 rfl) ?_
                  refine lv_iadd hx hb dX5_bestSwap_65 ?_
                  refine lv_istore_n (lv' := [(1, .int ((5 * (nI f)) + (nI t))), (2, .int ((prF r f) - (prF r t))), (5, .int ((prF r f) - (prF r t))), (4, .int (nI t)), (3, .int (nI f)), (0, .ref b)]) hx hb dX5_bestSwap_66 rfl hl (by decide) rfl (fun ls hl => ?_)
                  refine lv_iinc (v := nI (t + 1)) (lv' := [(4, .int (nI (t + 1))), (1, .int ((5 * (nI f)) + (nI t))), (2, .int ((prF r f) - (prF r t))), (5, .int ((prF r f) - (prF r t))), (3, .int (nI f)), (0, .ref b)]) hx hb dX5_bestSwap_67 hl (k := 3) rfl (nI_1 t) (by decide) rfl (fun ls hl => ?_)
                  refine lv_goto (tgt := 18) hx hb dX5_bestSwap_70 (by decide) ?_
                  have hl : lv_has ls 6 [(4, .int (nI (t + 1))), (1, .int ((swI r f (swO r f) (t + 1)).1)), (2, .int ((swI r f (swO r f) (t + 1)).2)), (5, .int ((prF r f) - (prF r t))), (3, .int (nI f)), (0, .ref b)] := by rw [ea]; exact hl
                  exact ih2 (t + 1) (by omega) (by omega) ls (lv_sub hl [0, 4, 2, 1, 5] rfl)
        exact loop2 (nlv r + 1) 0 (Nat.zero_le _) (by omega) ls (lv_sub hl [0, 1, 2, 3, 4] rfl)
  exact loop (nlv r + 1) 0 (Nat.zero_le _) (by omega) ls (lv_sub hl [0, 1, 2, 3] rfl)
end
section
/-! arraycopy, fill; the leaf's writers -/
theorem mnat_copy : Cond.native arraycopyName ∈ lw_good := List.mem_filter.mpr ⟨by decide +kernel, by decide +kernel⟩
section MYX
variable {p : Program} {l : Launch} {e : Env} {R : Room} {s : State} {m : MethodId} {args : Array Value} {below : List Frame} {meth : Method} {c : Code} {H : Heap} {locs : List Loc} {cells slots : Nat} {Q : State → Prop}
variable {cc : ByteArray} {pc : Nat} {ls : Array Slot} {rest : List Value} {a : Nat} {G : GG} {A : Nat → Prop} {H0 : Heap}
theorem r_copy (hx : p.tables.exec = Jvm.exec) (hb : c.code = cc) (hml : c.maxLocals = ls.size) {own : String} {index : Nat} (hown : s.vm.findClass own = some m.cls) (hT : ∀ w ∈ lw_good, w.before args s = true) (hlink : Cond.methodLink own index arraycopyName ∈ lw_good) (hK : Kn G s)
    {a0 n0 n1 : Nat} {f g : Nat → Int32} (ha0 : ar G 0 a0 (iA n0 f) H) (ha1 : ar G 0 a (iA n1 g) H) {sp dp n : Int32} (s0 d0 k : Nat) (es : sp = nI s0) (ed : dp = nI d0) (en : n = nI k) (h4 : s0 + k ≤ n0) (h5 : d0 + k ≤ n1) (hn0 : n0 < 2 ^ 31) (hn1 : n1 < 2 ^ 31) (hS : va_S A H0 H locs) (hA : A a)
    (hframes : 1 ≤ R.frames) (hlocals : (rest.map fun v => v.category).sum + (nativeFrameWords "java/lang/System" "arraycopy" 5 + 11) ≤ R.locals) (hdg : decode cc pc = .ok (.invokestatic index, 3))
    (kk : ∀ (H1 : Heap) (locs1 : List Loc), ar G 0 a (iA n1 (va_cpy f g s0 d0 k)) H1 → Oq a H H1 → va_S A H0 H1 locs1 → W p l e R s m args below meth c H1 locs1 cells slots Q (F0 m (pc + 3) ls rest)) : W p l e R s m args below meth c H locs cells slots Q (F0 m pc ls (.int n :: .int dp :: .ref a :: .int sp :: .ref a0 :: rest)) := by
  subst es
  subst ed
  subst en
  have c1 : (nI s0).toNatClampNeg = s0 := nI_clamp (by omega)
  have c2 : (nI d0).toNatClampNeg = d0 := nI_clamp (by omega)
  have c3 : (nI k).toNatClampNeg = k := nI_clamp (by omega)
  have t1 : (nI s0).toInt = (s0 : Int) := nI_toInt (by omega)
  have t2 : (nI d0).toInt = (d0 : Int) := nI_toInt (by omega)
  have t3 : (nI k).toInt = (k : Int) := nI_toInt (by omega)
  intro T hTh X
  have hc0 : H[a0]? = some (vp_cell (G.2 0) (n0, .inl f)) := ha0
  have hc1 : H[a]? = some (vp_cell (G.2 0) (n1, .inl g)) := ha1
  obtain ⟨-, k0, hk0, cm0, hkk0⟩ := (hK.2 0 _ rfl).1 n0 (fun j => .int (f j))
  obtain ⟨-, k1, hk1, cm1, hkk1⟩ := (hK.2 0 _ rfl).1 n1 (fun j => .int (g j))
  obtain ⟨vm', X', step⟩ := X.arraycopy hx hown (hT _ hlink) (hT _ mnat_copy) (hT _ mst_System_arraycopy) (hT _ mz_J10) (src := a0) (dst := a) (cs := vp_cell (G.2 0) (n0, .inl f)) (cd := vp_cell (G.2 0) (n1, .inl g)) (srcPos := nI s0) (destPos := nI d0) (n := nI k) (by rw [hTh]; exact hc0) (by rw [hTh]; exact hc1)
    (fun _ h => by cases h) (fun _ h => by cases h) (fun h => by cases h) (fun h => by cases h) hk0 hk1 hkk0 hkk1 rfl (nI_pos (by omega)) (nI_pos (by omega)) (nI_pos (by omega))
    (by rw [t1, t3]; show ¬ _ > ((arrV _ n0 (fun j => .int (f j))).slots.size : Int); rw [arrV_size]; omega)
    (by rw [t2, t3]; show ¬ _ > ((arrV _ n1 (fun j => .int (g j))).slots.size : Int); rw [arrV_size]; omega)
    (fun vm₁ _ i hi => by
      rw [c3] at hi
      have e : (vp_cell (G.2 0) (n0, .inl f)).slots.getD ((nI s0).toNatClampNeg + i) .null = .int (f ((nI s0).toNatClampNeg + i)) := by
        show (arrV _ n0 (fun j => .int (f j))).slots.getD _ _ = _
        rw [Array.getD_eq_getD_getElem?, arrV_read _ _ (by omega)]
        rfl
      refine ⟨?_, ?_⟩
      · rw [e]
        rfl
      · rw [e]
        exact trivial)
    (g := F0 m pc ls (.int (nI k) :: .int (nI d0) :: .ref a :: .int (nI s0) :: .ref a0 :: rest)) rfl (by rw [hml]) (rest := rest) rfl (by rw [hb]; exact hdg) hframes (by show 2 * 0 + _ + _ ≤ _; omega)
  have e1 : copied (vp_cell (G.2 0) (n0, .inl f)) (vp_cell (G.2 0) (n1, .inl g)) (nI s0) (nI d0) (nI k) = vp_cell (G.2 0) (n1, .inl (va_cpy f g s0 d0 k)) := by
    have := va_copied (fun z : Int32 => Value.int z) (G.2 0) (G.2 0) (n0 := n0) (n1 := n1) (sp := (nI s0).toNatClampNeg) (dp := (nI d0).toNatClampNeg) (n := (nI k).toNatClampNeg) f g (by rw [c1, c3]; exact h4)
    refine Eq.trans this ?_
    rw [c1, c2, c3]
    rfl
  rw [e1] at X' step
  have hl : a < H.size := (Array.getElem?_eq_some_iff.mp hc1).1
  have hheap : ((T.setVm vm').setCell a (vp_cell (G.2 0) (n1, .inl (va_cpy f g s0 d0 k)))).heap = H.setIfInBounds a (vp_cell (G.2 0) (n1, .inl (va_cpy f g s0 d0 k))) := by rw [← hTh]; rfl
  have oq : ∀ q : Nat, q ≠ a → (H.setIfInBounds a (vp_cell (G.2 0) (n1, .inl (va_cpy f g s0 d0 k))))[q]? = H[q]? := fun q hq => by simp [Array.getElem?_setIfInBounds, Ne.symm hq]
  obtain ⟨t, a1, b1⟩ := kk _ _ (show (H.setIfInBounds a _)[a]? = some _ by simp [Array.getElem?_setIfInBounds, hl]) ⟨by simp, oq⟩ ⟨by simp; exact hS.1, fun q g1 g2 => by
      rw [oq q (fun e => g2 (by rw [e]; exact hA))]
      exact hS.2.1 q g1 g2, fun q hq => by
      rcases List.mem_append.mp hq with h | h
      · exact hS.2.2 q h
      · obtain ⟨z, -, hz⟩ := List.mem_map.mp h
        rw [← hz]
        exact hA⟩ _ hheap X'
  exact ⟨t, step t a1, b1⟩
end MYX
theorem cpy00 {f g : Nat → Int32} {k j : Nat} (h : j < k) : va_cpy f g 0 0 k j = f j := by
  unfold va_cpy
  rw [if_pos ⟨Nat.zero_le _, by omega⟩]
  congr 1
  omega

set_option maxHeartbeats 4000000 in
set_option maxRecDepth 100000 in
theorem k_J7_fill_53178 (l : Launch) (G : GG) (a n : Nat) (f : Nat → Int32) (v : Int32) (hn : n < 2 ^ 31) : Met l yJ7_fill_53178 (ws_ yJ7_fill_53178 cJ7_fill_53178 4 (none : Option Jvm.ClassFile.FieldType)) (rm_ 0) (PC G [.ref a, .int v] (ar G 0 a (iA n f))) (QV (ar G 0 a (iA n (fun _ => v))) (fun q => q = a)) 0 0 (fun q => q = a) := by
  refine met_q (by decide +kernel) (Nat.le_of_ble_eq_true rfl) ?_
  intro p e s m args below meth c Q hQ hx hb hr hT hown hml hlocks hnm hK hA0 ls hl
  have hl : lv_has ls 4 [(0, .ref a), (1, .int v)] := hl
  have hS : va_S (fun q => q = a) s.heap s.heap [] := va_S.rf
  refine lv_iconst (v := 0) hx hb dJ7_fill_53178_0 (by decide) ?_
  refine lv_istore_n (lv' := [(2, .int 0), (0, .ref a), (1, .int v)]) hx hb dJ7_fill_53178_1 rfl hl (by decide) rfl (fun ls hl => ?_)
  refine lv_aload_n hx hb dJ7_fill_53178_2 rfl (lv_at hl 1 rfl) ?_
  refine r_alen hx hb hK hA0 rfl (v := (nI n)) rfl dJ7_fill_53178_3 ?_
  refine lv_istore_n (lv' := [(3, .int (nI n)), (2, .int 0), (0, .ref a), (1, .int v)]) hx hb dJ7_fill_53178_4 rfl hl (by decide) rfl (fun ls hl => ?_)
  have loop : ∀ (k : Nat) (i : Nat) (H : Heap) (locs : List Loc), va_S (fun q => q = a) s.heap H locs → i ≤ n → ar G 0 a (iA n (fun j => if j < i then v else f j)) H → n - i < k → ∀ ls : Array Slot, lv_has ls 4 [(3, .int (nI n)), (2, .int (nI i)), (0, .ref a), (1, .int v)] → W p l e (rm_ 0) s m args below meth c H locs 0 0 Q (F0 m 5 ls []) := by
    intro k
    induction k with
    | zero => intro i H locs hS hi hA0 hm; exact absurd hm (Nat.not_lt_zero _)
    | succ k ih =>
      intro i H locs hS hi hA0 hm ls hl
      refine lv_iload_n hx hb dJ7_fill_53178_5 rfl (lv_at hl 1 rfl) ?_
      refine lv_iload_n hx hb dJ7_fill_53178_6 rfl (lv_at hl 0 rfl) ?_
      refine lv_icmp_ge (tgt := 20) hx hb dJ7_fill_53178_7 (by decide) (fun cd => ?_) (fun cd => ?_)
      · have hge : n ≤ i := by rw [nI_leI (by omega) (by omega)] at cd; exact cd
        exact nd_V hQ hx hb hr hlocks dJ7_fill_53178_20 hS (iA_ext hA0 (fun j hj => if_pos (by omega)))
      · have hlt : i < n := by rw [nI_leI (by omega) (by omega)] at cd; omega
        refine lv_aload_n hx hb dJ7_fill_53178_10 rfl (lv_at hl 2 rfl) ?_
        refine lv_iload_n hx hb dJ7_fill_53178_11 rfl (lv_at hl 1 rfl) ?_
        refine lv_iload_n hx hb dJ7_fill_53178_12 rfl (lv_at hl 3 rfl) ?_
        have hn9 := hn
        refine r_iast hx hb hK hA0 i rfl hlt hn hS rfl dJ7_fill_53178_13 (fun H locs h1 o hS => ?_)
        have hA0 : ar G 0 a (iA n (fun j => if j < i + 1 then v else f j)) H := iA_ext h1 (fun j hj => by
          simp only [upd]
          by_cases q : j = i
          · rw [if_pos q, if_pos (by omega)]
          · rw [if_neg q]
            by_cases q2 : j < i
            · rw [if_pos q2, if_pos (by omega)]
            · rw [if_neg q2, if_neg (by omega)])
        refine lv_iinc (v := nI (i + 1)) (lv' := [(2, .int (nI (i + 1))), (3, .int (nI n)), (0, .ref a), (1, .int v)]) hx hb dJ7_fill_53178_14 hl (k := 1) rfl (nI_1 i) (by decide) rfl (fun ls hl => ?_)
        refine lv_goto (tgt := 5) hx hb dJ7_fill_53178_17 (by decide) ?_
        exact ih (i + 1) _ _ hS (by omega) hA0 (by omega) ls (lv_sub hl [1, 0, 2, 3] rfl)
  exact loop (n + 1) 0 _ _ hS (Nat.zero_le _) (iA_ext hA0 (fun j hj => (if_neg (Nat.not_lt_zero _)).symm)) (by omega) ls (lv_sub hl [0, 1, 2, 3] rfl)

def cfF (f : Nat → Int32) (p st : Int32) : Nat → Int32 := fun k => if k = 0 then p else if k = 11 then st else if k < 8 then 0 else if 12 ≤ k then 0 else f k

set_option maxHeartbeats 4000000 in
set_option maxRecDepth 100000 in
theorem k_X1_comeFresh (l : Launch) (G : GG) (a : Nat) (f : Nat → Int32) (x y : Int32)  : Met l yX1_comeFresh (ws_ yX1_comeFresh cX1_comeFresh 3 (none : Option Jvm.ClassFile.FieldType)) (rm_ 1) (PC G [.ref a, .int x, .int y] (LeafAt G a f)) (QV (LeafAt G a (cfF f x y)) (In a 3)) 0 0 (In a 3) := by
  refine met_q (by decide +kernel) (Nat.le_of_ble_eq_true rfl) ?_
  intro p e s m args below meth c Q hQ hx hb hr hT hown hml hlocks hnm hK hL ls hl
  have hl : lv_has ls 3 [(0, .ref a), (1, .int x), (2, .int y)] := hl
  have hS : va_S (In a 3) s.heap s.heap [] := va_S.rf
  refine lv_aload_n hx hb dX1_comeFresh_0 rfl (lv_at hl 0 rfl) ?_
  refine lv_iload_n hx hb dX1_comeFresh_1 rfl (lv_at hl 1 rfl) ?_
  refine rp (C := RX1) (T := TX1) (N := 6) (v := .int x) (ty := .int) hx hb hT inX1 tyX1 tyX1_ok nmX1 hown hK hL.1 rfl 0 (by decide) mf_X1_18 rfl (by decide +kernel) rfl rfl (Nat.le_of_ble_eq_true rfl) hS (show _ ∧ _ from ⟨by omega, by omega⟩) dX1_comeFresh_2 (fun H locs h1 o hS => ?_)
  have hL := hL.p0 h1 o
  refine lv_aload_n hx hb dX1_comeFresh_5 rfl (lv_at hl 0 rfl) ?_
  refine lv_iload_n hx hb dX1_comeFresh_6 rfl (lv_at hl 2 rfl) ?_
  refine rp (C := RX1) (T := TX1) (N := 6) (v := .int y) (ty := .int) hx hb hT inX1 tyX1 tyX1_ok nmX1 hown hK hL.1 rfl 1 (by decide) mf_X1_22 rfl (by decide +kernel) rfl rfl (Nat.le_of_ble_eq_true rfl) hS (show _ ∧ _ from ⟨by omega, by omega⟩) dX1_comeFresh_7 (fun H locs h1 o hS => ?_)
  have hL := hL.p1 h1 o
  refine lv_aload_n hx hb dX1_comeFresh_10 rfl (lv_at hl 0 rfl) ?_
  refine lv_iconst (v := 0) hx hb dX1_comeFresh_11 (by decide) ?_
  refine rp (C := RX1) (T := TX1) (N := 6) (v := .int 0) (ty := .int) hx hb hT inX1 tyX1 tyX1_ok nmX1 hown hK hL.1 rfl 2 (by decide) mf_X1_25 rfl (by decide +kernel) rfl rfl (Nat.le_of_ble_eq_true rfl) hS (show _ ∧ _ from ⟨by omega, by omega⟩) dX1_comeFresh_12 (fun H locs h1 o hS => ?_)
  have hL := hL.p2 h1 o
  refine lv_aload_n hx hb dX1_comeFresh_15 rfl (lv_at hl 0 rfl) ?_
  refine lv_iconst (v := 0) hx hb dX1_comeFresh_16 (by decide) ?_
  refine rp (C := RX1) (T := TX1) (N := 6) (v := .int 0) (ty := .int) hx hb hT inX1 tyX1 tyX1_ok nmX1 hown hK hL.1 rfl 3 (by decide) mf_X1_28 rfl (by decide +kernel) rfl rfl (Nat.le_of_ble_eq_true rfl) hS (show _ ∧ _ from ⟨by omega, by omega⟩) dX1_comeFresh_17 (fun H locs h1 o hS => ?_)
  have hL := hL.p3 h1 o
  refine lv_aload_n hx hb dX1_comeFresh_20 rfl (lv_at hl 0 rfl) ?_
  refine rg (C := RX1) (T := TX1) (N := 6) (v := .ref (a + 1)) hx hb hT inX1 hown hK hL.1 rfl 4 (by decide) mf_X1_9 rfl dX1_comeFresh_21 ?_
  refine lv_iconst (v := 0) hx hb dX1_comeFresh_24 (by decide) ?_
  refine got_V (run_s hx hb hml hown hT hK hl.1 (k_J7_fill_53178 l G (a + 1) 7 _ 0 (Nat.le_of_ble_eq_true rfl)) (cw_X1_37 hT ⟨Nat.le_of_ble_eq_true rfl, Nat.le_of_ble_eq_true rfl⟩) hL.2.1 rfl rfl (Nat.le_of_ble_eq_true rfl) dX1_comeFresh_25 ⟨Nat.zero_le _, Nat.zero_le _⟩) hS (fun q (hq : q = a + 1) => show _ ∧ _ from ⟨by omega, by omega⟩) (fun q (hq : q = a + 1) => show _ ∧ _ from ⟨by omega, by omega⟩) (fun  H locs h1 hz hk hS => ?_)
  have hlt := hL.2.2.lt
  exact nd_V hQ hx hb hr hlocks dX1_comeFresh_28 hS (⟨hL.1.kept (hk _ (by omega) (by omega)), h1, iA_ext (hL.2.2.kept (hk _ (by omega) (by omega))) (fun j hj => by
      simp only [upd, cfF]
      rw [if_neg (show ¬ 8 + j = 13 by omega), if_neg (show ¬ 8 + j = 12 by omega), if_neg (show ¬ 8 + j = 11 by omega), if_neg (show ¬ 8 + j = 0 by omega), if_neg (show ¬ 8 + j = 0 by omega), if_neg (show ¬ 8 + j = 11 by omega), if_neg (show ¬ 8 + j < 8 by omega), if_neg (show ¬ 12 ≤ 8 + j by omega)])⟩)

set_option maxHeartbeats 4000000 in
set_option maxRecDepth 100000 in
theorem k_X1_copyFrom (l : Launch) (G : GG) (a a2 : Nat) (f f2 : Nat → Int32) (hne : a + 3 ≤ a2 ∨ a2 + 3 ≤ a) : Met l yX1_copyFrom (ws_ yX1_copyFrom cX1_copyFrom 2 (none : Option Jvm.ClassFile.FieldType)) (rm_ 1) (PC G [.ref a, .ref a2] (fun H => LeafAt G a f H ∧ LeafAt G a2 f2 H)) (QV (LeafAt G a f2) (In a 3)) 0 0 (In a 3) := by
  refine met_q (by decide +kernel) (Nat.le_of_ble_eq_true rfl) ?_
  intro p e s m args below meth c Q hQ hx hb hr hT hown hml hlocks hnm hK ⟨hL, hL2⟩ ls hl
  have hl : lv_has ls 2 [(0, .ref a), (1, .ref a2)] := hl
  have hS : va_S (In a 3) s.heap s.heap [] := va_S.rf
  refine lv_aload_n hx hb dX1_copyFrom_0 rfl (lv_at hl 0 rfl) ?_
  refine lv_aload_n hx hb dX1_copyFrom_1 rfl (lv_at hl 1 rfl) ?_
  refine rg (C := RX1) (T := TX1) (N := 6) (v := .int (f2 0)) hx hb hT inX1 hown hK hL2.1 rfl 0 (by decide) mf_X1_18 rfl dX1_copyFrom_2 ?_
  refine rp (C := RX1) (T := TX1) (N := 6) (v := .int (f2 0)) (ty := .int) hx hb hT inX1 tyX1 tyX1_ok nmX1 hown hK hL.1 rfl 0 (by decide) mf_X1_18 rfl (by decide +kernel) rfl rfl (Nat.le_of_ble_eq_true rfl) hS (show _ ∧ _ from ⟨by omega, by omega⟩) dX1_copyFrom_5 (fun H locs h1 o hS => ?_)
  have hL := hL.p0 h1 o
  have hL2 := hL2.kept (fun q _ _ => o.2 q (by omega))
  refine lv_aload_n hx hb dX1_copyFrom_8 rfl (lv_at hl 0 rfl) ?_
  refine lv_aload_n hx hb dX1_copyFrom_9 rfl (lv_at hl 1 rfl) ?_
  refine rg (C := RX1) (T := TX1) (N := 6) (v := .int (f2 11)) hx hb hT inX1 hown hK hL2.1 rfl 1 (by decide) mf_X1_22 rfl dX1_copyFrom_10 ?_
  refine rp (C := RX1) (T := TX1) (N := 6) (v := .int (f2 11)) (ty := .int) hx hb hT inX1 tyX1 tyX1_ok nmX1 hown hK hL.1 rfl 1 (by decide) mf_X1_22 rfl (by decide +kernel) rfl rfl (Nat.le_of_ble_eq_true rfl) hS (show _ ∧ _ from ⟨by omega, by omega⟩) dX1_copyFrom_13 (fun H locs h1 o hS => ?_)
  have hL := hL.p1 h1 o
  have hL2 := hL2.kept (fun q _ _ => o.2 q (by omega))
  refine lv_aload_n hx hb dX1_copyFrom_16 rfl (lv_at hl 0 rfl) ?_
  refine lv_aload_n hx hb dX1_copyFrom_17 rfl (lv_at hl 1 rfl) ?_
  refine rg (C := RX1) (T := TX1) (N := 6) (v := .int (f2 12)) hx hb hT inX1 hown hK hL2.1 rfl 2 (by decide) mf_X1_25 rfl dX1_copyFrom_18 ?_
  refine rp (C := RX1) (T := TX1) (N := 6) (v := .int (f2 12)) (ty := .int) hx hb hT inX1 tyX1 tyX1_ok nmX1 hown hK hL.1 rfl 2 (by decide) mf_X1_25 rfl (by decide +kernel) rfl rfl (Nat.le_of_ble_eq_true rfl) hS (show _ ∧ _ from ⟨by omega, by omega⟩) dX1_copyFrom_21 (fun H locs h1 o hS => ?_)
  have hL := hL.p2 h1 o
  have hL2 := hL2.kept (fun q _ _ => o.2 q (by omega))
  refine lv_aload_n hx hb dX1_copyFrom_24 rfl (lv_at hl 0 rfl) ?_
  refine lv_aload_n hx hb dX1_copyFrom_25 rfl (lv_at hl 1 rfl) ?_
  refine rg (C := RX1) (T := TX1) (N := 6) (v := .int (f2 13)) hx hb hT inX1 hown hK hL2.1 rfl 3 (by decide) mf_X1_28 rfl dX1_copyFrom_26 ?_
  refine rp (C := RX1) (T := TX1) (N := 6) (v := .int (f2 13)) (ty := .int) hx hb hT inX1 tyX1 tyX1_ok nmX1 hown hK hL.1 rfl 3 (by decide) mf_X1_28 rfl (by decide +kernel) rfl rfl (Nat.le_of_ble_eq_true rfl) hS (show _ ∧ _ from ⟨by omega, by omega⟩) dX1_copyFrom_29 (fun H locs h1 o hS => ?_)
  have hL := hL.p3 h1 o
  have hL2 := hL2.kept (fun q _ _ => o.2 q (by omega))
  refine lv_aload_n hx hb dX1_copyFrom_32 rfl (lv_at hl 1 rfl) ?_
  refine rg (C := RX1) (T := TX1) (N := 6) (v := .ref (a2 + 1)) hx hb hT inX1 hown hK hL2.1 rfl 4 (by decide) mf_X1_9 rfl dX1_copyFrom_33 ?_
  refine lv_iconst (v := 0) hx hb dX1_copyFrom_36 (by decide) ?_
  refine lv_aload_n hx hb dX1_copyFrom_37 rfl (lv_at hl 0 rfl) ?_
  refine rg (C := RX1) (T := TX1) (N := 6) (v := .ref (a + 1)) hx hb hT inX1 hown hK hL.1 rfl 4 (by decide) mf_X1_9 rfl dX1_copyFrom_38 ?_
  refine lv_iconst (v := 0) hx hb dX1_copyFrom_41 (by decide) ?_
  refine lv_bipush (v := 7) hx hb dX1_copyFrom_42 (by decide) ?_
  refine r_copy hx hb (hml.trans hl.1.symm) hown hT mm_X1_31 hK hL2.2.1 hL.2.1 0 0 7 (by decide) (by decide) (by decide) (by omega) (by omega) (Nat.le_of_ble_eq_true rfl) (Nat.le_of_ble_eq_true rfl) hS (show _ ∧ _ from ⟨by omega, by omega⟩) (Nat.le_of_ble_eq_true rfl) (Nat.le_of_ble_eq_true rfl) dX1_copyFrom_44 (fun H locs h1 o hS => ?_)
  have hL2 := hL2.kept (fun q _ _ => o.2 q (by omega))
  have hc : ar G 0 (a + 1) (iA 7 (fun j => f2 (1 + j))) H := iA_ext h1 (fun j hj => cpy00 hj)
  have hO := hL.1.kept (o.2 _ (by omega))
  have hF := hL.2.2.kept (o.2 _ (by omega))
  refine lv_aload_n hx hb dX1_copyFrom_47 rfl (lv_at hl 1 rfl) ?_
  refine rg (C := RX1) (T := TX1) (N := 6) (v := .ref (a2 + 2)) hx hb hT inX1 hown hK hL2.1 rfl 5 (by decide) mf_X1_15 rfl dX1_copyFrom_48 ?_
  refine lv_iconst (v := 0) hx hb dX1_copyFrom_51 (by decide) ?_
  refine lv_aload_n hx hb dX1_copyFrom_52 rfl (lv_at hl 0 rfl) ?_
  refine rg (C := RX1) (T := TX1) (N := 6) (v := .ref (a + 2)) hx hb hT inX1 hown hK hO rfl 5 (by decide) mf_X1_15 rfl dX1_copyFrom_53 ?_
  refine lv_iconst (v := 0) hx hb dX1_copyFrom_56 (by decide) ?_
  refine lv_iconst (v := 3) hx hb dX1_copyFrom_57 (by decide) ?_
  refine r_copy hx hb (hml.trans hl.1.symm) hown hT mm_X1_31 hK hL2.2.2 hF 0 0 3 (by decide) (by decide) (by decide) (by omega) (by omega) (Nat.le_of_ble_eq_true rfl) (Nat.le_of_ble_eq_true rfl) hS (show _ ∧ _ from ⟨by omega, by omega⟩) (Nat.le_of_ble_eq_true rfl) (Nat.le_of_ble_eq_true rfl) dX1_copyFrom_58 (fun H locs h1 o hS => ?_)
  exact nd_V hQ hx hb hr hlocks dX1_copyFrom_61 hS (⟨hO.kept (o.2 _ (by omega)), hc.kept (o.2 _ (by omega)), iA_ext h1 (fun j hj => cpy00 hj)⟩)
end
section
/-! what changes a shop: as functions of the row -/
theorem nIt {t : Nat} (h : t < 2 ^ 31) : (nI t).toInt.toNat = t := by rw [nI_toInt h]; omega
theorem ix_of {x : Int32} {n : Nat} (h0 : 0 ≤ x) (h : x < nI n) (hn : n < 2 ^ 31) : ∃ t, t < n ∧ x = nI t := by
  rw [i32_le_iff] at h0
  have h0 : 0 ≤ x.toInt := h0
  rw [i32_lt_iff, nI_toInt hn] at h
  exact ⟨x.toInt.toNat, by omega, nI_of_toInt h0⟩
theorem i32_nlt {x y : Int32} (h : ¬ x < y) : y ≤ x := by rw [i32_le_iff]; rw [i32_lt_iff] at h; omega
theorem i32_nle {x y : Int32} (h : ¬ x ≤ y) : y < x := by rw [i32_lt_iff]; rw [i32_le_iff] at h; omega
theorem i32_lt_nle {x y : Int32} (h : x < y) : ¬ y ≤ x := by rw [i32_le_iff]; rw [i32_lt_iff] at h; omega
theorem i32_le_nlt {x y : Int32} (h : x ≤ y) : ¬ y < x := by rw [i32_lt_iff]; rw [i32_le_iff] at h; omega
abbrev Op : Type := Int32 × (Nat → Int32)
abbrev lfP (r : Nat → Int32) (x : Int32) : Prop := 0 ≤ x ∧ x < r 5
def bnO (r : Nat → Int32) (x lo hi : Int32) : Op :=
  if ¬ (0 ≤ x ∧ x < 3) then (-1, r) else if ¬ ((0 ≤ lo ∧ lo ≤ 100) ∧ (lo ≤ hi ∧ hi ≤ 100)) then (-2, r) else (100 * r (6 + x.toInt.toNat) + r (9 + x.toInt.toNat), upd (upd r (6 + x.toInt.toNat) lo) (9 + x.toInt.toNat) hi)
theorem bnO_1 {r : Nat → Int32} {x lo hi : Int32} (h : ¬ (0 ≤ x ∧ x < 3)) : bnO r x lo hi = (-1, r) := if_pos h
theorem bnO_2 {r : Nat → Int32} {x lo hi : Int32} (h : 0 ≤ x ∧ x < 3) (h2 : ¬ ((0 ≤ lo ∧ lo ≤ 100) ∧ (lo ≤ hi ∧ hi ≤ 100))) : bnO r x lo hi = (-2, r) := (if_neg (fun q => q h)).trans (if_pos h2)
theorem bnO_3 {r : Nat → Int32} {t : Nat} {lo hi : Int32} (ht : t < 3) (h : 0 ≤ nI t ∧ nI t < 3) (h2 : (0 ≤ lo ∧ lo ≤ 100) ∧ (lo ≤ hi ∧ hi ≤ 100)) : bnO r (nI t) lo hi = (100 * r (6 + t) + r (9 + t), upd (upd r (6 + t) lo) (9 + t) hi) := by
  refine ((if_neg (fun q => q h)).trans (if_neg (fun q => q h2))).trans ?_
  rw [nIt (by omega)]
def bgO (r : Nat → Int32) (x g : Int32) : Op :=
  if ¬ lfP r x then (-1, r) else if ¬ (1 ≤ g ∧ g ≤ 9999) then (-2, r) else if 9999 < r (12 + 14 * x.toInt.toNat + 11) + g then (-5, r) else
    (r (12 + 14 * x.toInt.toNat + 11) + g, upd (upd r (12 + 14 * x.toInt.toNat + 12) (if 0 < r (12 + 14 * x.toInt.toNat + 11) + g then r (12 + 14 * x.toInt.toNat + 11) * r (12 + 14 * x.toInt.toNat + 12) / (r (12 + 14 * x.toInt.toNat + 11) + g) else 0)) (12 + 14 * x.toInt.toNat + 11) (r (12 + 14 * x.toInt.toNat + 11) + g))
def shO (r : Nat → Int32) (x v : Int32) : Op :=
  if ¬ lfP r x then (-1, r) else if ¬ (0 ≤ v ∧ v ≤ 20) then (-2, r) else if 20 < shS r - r (12 + 14 * x.toInt.toNat + 13) + v then (-5, r) else
    (shS r - r (12 + 14 * x.toInt.toNat + 13) + v, upd r (12 + 14 * x.toInt.toNat + 13) v)
def agF (r : Nat → Int32) (d : Int32) (n : Nat) : Nat → Int32 := fun k => if 24 ≤ k ∧ (k - 24) % 14 = 0 ∧ (k - 24) / 14 < n then r k + d else r k
def pdO (r : Nat → Int32) (d : Int32) : Op :=
  if ¬ (1 ≤ d ∧ d ≤ 99) then (-2, r) else if 9999 < r 2 + d then (-5, r) else (r 2 + d, upd (agF r d (nlv r)) 2 (r 2 + d))
def shR (r s : Nat → Int32) (n : Nat) : Nat → Int32 := fun k => if 25 ≤ k ∧ (k - 25) % 14 = 0 ∧ (k - 25) / 14 < n then s ((k - 25) / 14) else r k
def mgR (r : Nat → Int32) (g : Int32) (n : Nat) : Nat → Int32 := fun k => if 23 ≤ k ∧ (k - 23) % 14 = 0 ∧ (k - 23) / 14 < n then r k - ndF r ((k - 23) / 14) g else r k
noncomputable def mxO (r : Nat → Int32) (g : Int32) : Op :=
  if ¬ (1 ≤ g ∧ g ≤ 9999) then (-2, r) else @ite _ (¬ (whyF r 0 = 0 ∧ sfP r g)) (Classical.propDecidable _) (-5, r)
    (prS r / 20, upd (upd (mgR r g (nlv r)) 3 (r 3 + g)) 4 (r 4 + g * (prS r / 20) / 100))
def chR (r : Nat → Int32) (i : Nat) (x : Int64) (n : Nat) : Nat → Int32 := fun k => if 12 + 14 * i + 1 ≤ k ∧ k < 12 + 14 * i + 1 + n then chF x (k - (12 + 14 * i + 1)) else r k
def chP (x : Int64) : Prop := ∀ k, k < 7 → -9 ≤ chF x k ∧ chF x k ≤ 9
noncomputable def rwO (r : Nat → Int32) (x : Int32) (y : Int64) : Op :=
  @ite _ (¬ lfP r x) (Classical.propDecidable _) (-1, r) (@ite _ (¬ chP y) (Classical.propDecidable _) (-2, r) (prF (chR r x.toInt.toNat y 7) x.toInt.toNat, chR r x.toInt.toNat y 7))
def lfN (p a b c st : Int32) : Nat → Int32 := fun j => if j = 0 then p else if j = 8 then a else if j = 9 then b else if j = 10 then c else if j = 11 then st else 0
def adR (r : Nat → Int32) (n : Nat) (p a b c st : Int32) : Nat → Int32 := fun k => if k = 5 then nI (n + 1) else if 12 + 14 * n ≤ k ∧ k < 26 + 14 * n then lfN p a b c st (k - (12 + 14 * n)) else r k
def lfOk (p a b c st : Int32) : Prop := ((0 ≤ a ∧ a ≤ 100) ∧ (0 ≤ b ∧ b ≤ 100) ∧ (0 ≤ c ∧ c ≤ 100)) ∧ (0 ≤ p ∧ p ≤ 999) ∧ (0 ≤ st ∧ st ≤ 9999)
noncomputable def adO (r : Nat → Int32) (p a b c st : Int32) : Op :=
  @ite _ (¬ lfOk p a b c st) (Classical.propDecidable _) (-2, r) (if 5 ≤ nlv r then (-4, r) else (nI (nlv r), adR r (nlv r) p a b c st))

set_option maxHeartbeats 4000000 in
set_option maxRecDepth 100000 in
theorem k_X5_changeBounds (l : Launch) (G : GG) (b : Nat) (r : Nat → Int32) (x lo hi : Int32)  : Met l yX5_changeBounds (ws_ yX5_changeBounds cX5_changeBounds 5 (some .int)) (rm_ 1) (PC G [.ref b, .int x, .int lo, .int hi] (ShopAt G b r)) (QI (fun v H => v = (bnO r x lo hi).1 ∧ ShopAt G b (bnO r x lo hi).2 H) (In b 20)) 0 0 (In b 20) := by
  refine met_q (by decide +kernel) (Nat.le_of_ble_eq_true rfl) ?_
  intro p e s m args below meth c Q hQ hx hb hr hT hown hml hlocks hnm hK hSh ls hl
  have hl : lv_has ls 5 [(0, .ref b), (1, .int x), (2, .int lo), (3, .int hi)] := hl
  have hS : va_S (In b 20) s.heap s.heap [] := va_S.rf
  refine lv_iload_n hx hb dX5_changeBounds_0 rfl (lv_at hl 1 rfl) ?_
  refine lv_if_lt (tgt := 9) hx hb dX5_changeBounds_1 (by decide) (fun c1 => ?_) (fun c1 => ?_)
  · refine lv_iconst (v := (-1)) hx hb dX5_changeBounds_9 (by decide) ?_
    exact nd_I hQ hx hb hr hlocks dX5_changeBounds_10 hS (by rw [bnO_1 (fun q => i32_le_nlt q.1 c1)]; exact ⟨rfl, hSh⟩)
  · refine lv_iload_n hx hb dX5_changeBounds_4 rfl (lv_at hl 1 rfl) ?_
    refine lv_iconst (v := 3) hx hb dX5_changeBounds_5 (by decide) ?_
    refine lv_icmp_lt (tgt := 11) hx hb dX5_changeBounds_6 (by decide) (fun c2 => ?_) (fun c2 => ?_)
    · have hx3 : 0 ≤ x ∧ x < 3 := ⟨i32_nlt c1, c2⟩
      refine lv_iload_n hx hb dX5_changeBounds_11 rfl (lv_at hl 2 rfl) ?_
      refine lv_iconst (v := 0) hx hb dX5_changeBounds_12 (by decide) ?_
      refine lv_bipush (v := 100) hx hb dX5_changeBounds_13 (by decide) ?_
      refine got_i (run_s hx hb hml hown hT hK hl.1 (k_X5_isWithin l G lo 0 100) (cw_X5_71 hT ⟨Nat.le_of_ble_eq_true rfl, Nat.le_of_ble_eq_true rfl⟩) trivial rfl rfl (Nat.le_of_ble_eq_true rfl) dX5_changeBounds_15 ⟨Nat.zero_le _, Nat.zero_le _⟩) (fun v_1 hv_1 => ?_)
      subst hv_1
      refine lv_if_eq (tgt := 31) hx hb dX5_changeBounds_18 (by decide) (fun c3 => ?_) (fun c3 => ?_)
      · refine lv_bipush (v := (-2)) hx hb dX5_changeBounds_31 (by decide) ?_
        exact nd_I hQ hx hb hr hlocks dX5_changeBounds_33 hS (by rw [bnO_2 hx3 (fun q => bi_e0 c3 q.1)]; exact ⟨rfl, hSh⟩)
      · refine lv_iload_n hx hb dX5_changeBounds_21 rfl (lv_at hl 3 rfl) ?_
        refine lv_iload_n hx hb dX5_changeBounds_22 rfl (lv_at hl 2 rfl) ?_
        refine lv_bipush (v := 100) hx hb dX5_changeBounds_23 (by decide) ?_
        refine got_i (run_s hx hb hml hown hT hK hl.1 (k_X5_isWithin l G hi lo 100) (cw_X5_71 hT ⟨Nat.le_of_ble_eq_true rfl, Nat.le_of_ble_eq_true rfl⟩) trivial rfl rfl (Nat.le_of_ble_eq_true rfl) dX5_changeBounds_25 ⟨Nat.zero_le _, Nat.zero_le _⟩) (fun v_2 hv_2 => ?_)
        subst hv_2
        refine lv_if_ne (tgt := 34) hx hb dX5_changeBounds_28 (by decide) (fun c4 => ?_) (fun c4 => ?_)
        · have hr2 : (0 ≤ lo ∧ lo ≤ 100) ∧ (lo ≤ hi ∧ hi ≤ 100) := ⟨bi_n0 c3, bi_n0 c4⟩
          obtain ⟨t, ht, rfl⟩ := ix_of hx3.1 (n := 3) hx3.2 (by omega)
          refine lv_bipush (v := 100) hx hb dX5_changeBounds_34 (by decide) ?_
          refine lv_aload_n hx hb dX5_changeBounds_36 rfl (lv_at hl 0 rfl) ?_
          refine rg (C := RX5) (T := TX5) (N := 8) (v := .ref (b + 2)) hx hb hT inX5 hown hK hSh.1 rfl 1 (by decide) mf_X5_17 rfl dX5_changeBounds_37 ?_
          refine lv_iload_n hx hb dX5_changeBounds_40 rfl (lv_at hl 1 rfl) ?_
          refine r_iald hx hb hK hSh.2.2.1 t (rfl) (by omega) (Nat.le_of_ble_eq_true rfl) dX5_changeBounds_41 ?_
          refine lv_imul hx hb dX5_changeBounds_42 ?_
          refine lv_aload_n hx hb dX5_changeBounds_43 rfl (lv_at hl 0 rfl) ?_
          refine rg (C := RX5) (T := TX5) (N := 8) (v := .ref (b + 3)) hx hb hT inX5 hown hK hSh.1 rfl 2 (by decide) mf_X5_21 rfl dX5_changeBounds_44 ?_
          refine lv_iload_n hx hb dX5_changeBounds_47 rfl (lv_at hl 1 rfl) ?_
          refine r_iald hx hb hK hSh.2.2.2.1 t (rfl) (by omega) (Nat.le_of_ble_eq_true rfl) dX5_changeBounds_48 ?_
          refine lv_iadd hx hb dX5_changeBounds_49 ?_
          refine lv_istore (lv' := [(4, .int ((100 * (r (6 + t))) + (r (9 + t)))), (0, .ref b), (1, .int (nI t)), (2, .int lo), (3, .int hi)]) hx hb dX5_changeBounds_50 hl (by decide) rfl (fun ls hl => ?_)
          refine lv_aload_n hx hb dX5_changeBounds_52 rfl (lv_at hl 1 rfl) ?_
          refine rg (C := RX5) (T := TX5) (N := 8) (v := .ref (b + 2)) hx hb hT inX5 hown hK hSh.1 rfl 1 (by decide) mf_X5_17 rfl dX5_changeBounds_53 ?_
          refine lv_iload_n hx hb dX5_changeBounds_56 rfl (lv_at hl 2 rfl) ?_
          refine lv_iload_n hx hb dX5_changeBounds_57 rfl (lv_at hl 3 rfl) ?_
          refine r_iast hx hb hK hSh.2.2.1 t (rfl) (by omega) (Nat.le_of_ble_eq_true rfl) hS (show _ ∧ _ from ⟨by omega, by omega⟩) dX5_changeBounds_58 (fun H locs h1 o hS => ?_)
          have hSh := hSh.pLow ht h1 o
          refine lv_aload_n hx hb dX5_changeBounds_59 rfl (lv_at hl 1 rfl) ?_
          refine rg (C := RX5) (T := TX5) (N := 8) (v := .ref (b + 3)) hx hb hT inX5 hown hK hSh.1 rfl 2 (by decide) mf_X5_21 rfl dX5_changeBounds_60 ?_
          refine lv_iload_n hx hb dX5_changeBounds_63 rfl (lv_at hl 2 rfl) ?_
          refine lv_iload_n hx hb dX5_changeBounds_64 rfl (lv_at hl 4 rfl) ?_
          refine r_iast hx hb hK hSh.2.2.2.1 t (rfl) (by omega) (Nat.le_of_ble_eq_true rfl) hS (show _ ∧ _ from ⟨by omega, by omega⟩) dX5_changeBounds_65 (fun H locs h1 o hS => ?_)
          have hSh := hSh.pHigh ht h1 o
          refine lv_iload hx hb dX5_changeBounds_66 (lv_at hl 0 rfl) ?_
          exact nd_I hQ hx hb hr hlocks dX5_changeBounds_68 hS (by rw [bnO_3 ht hx3 hr2]; exact ⟨rfl, hSh⟩)
        · refine lv_bipush (v := (-2)) hx hb dX5_changeBounds_31 (by decide) ?_
          exact nd_I hQ hx hb hr hlocks dX5_changeBounds_33 hS (by rw [bnO_2 hx3 (fun q => bi_e0 c4 q.2)]; exact ⟨rfl, hSh⟩)
    · refine lv_iconst (v := (-1)) hx hb dX5_changeBounds_9 (by decide) ?_
      exact nd_I hQ hx hb hr hlocks dX5_changeBounds_10 hS (by rw [bnO_1 (fun q => c2 q.2)]; exact ⟨rfl, hSh⟩)


theorem bgO_1 {r : Nat → Int32} {x g : Int32} (h : ¬ lfP r x) : bgO r x g = (-1, r) := if_pos h
theorem bgO_2 {r : Nat → Int32} {x g : Int32} (h : lfP r x) (h2 : ¬ (1 ≤ g ∧ g ≤ 9999)) : bgO r x g = (-2, r) := (if_neg (fun q => q h)).trans (if_pos h2)
theorem bgO_3 {r : Nat → Int32} {i : Nat} {g : Int32} (hi : i < 5) (h : lfP r (nI i)) (h2 : 1 ≤ g ∧ g ≤ 9999) (h3 : 9999 < r (12 + 14 * i + 11) + g) : bgO r (nI i) g = (-5, r) := by
  refine ((if_neg (fun q => q h)).trans (if_neg (fun q => q h2))).trans (if_pos ?_)
  rw [nIt (by omega)]
  exact h3
theorem bgO_4 {r : Nat → Int32} {i : Nat} {g : Int32} (hi : i < 5) (h : lfP r (nI i)) (h2 : 1 ≤ g ∧ g ≤ 9999) (h3 : ¬ 9999 < r (12 + 14 * i + 11) + g) : bgO r (nI i) g = (r (12 + 14 * i + 11) + g, upd (upd r (12 + 14 * i + 12) (if 0 < r (12 + 14 * i + 11) + g then r (12 + 14 * i + 11) * r (12 + 14 * i + 12) / (r (12 + 14 * i + 11) + g) else 0)) (12 + 14 * i + 11) (r (12 + 14 * i + 11) + g)) := by
  refine ((if_neg (fun q => q h)).trans (if_neg (fun q => q h2))).trans ((if_neg ?_).trans ?_)
  · rw [nIt (by omega)]
    exact h3
  · rw [nIt (by omega)]
theorem lf_ix {r : Nat → Int32} {x : Int32} (hw : WF r) (h : lfP r x) : ∃ i, i < nlv r ∧ x = nI i := ix_of h.1 (by rw [← hw.nl]; exact h.2) (by have := hw.nl5; omega)

set_option maxHeartbeats 4000000 in
set_option maxRecDepth 100000 in
theorem k_X5_addGrams (l : Launch) (G : GG) (b : Nat) (r : Nat → Int32) (x g : Int32) (hw : WF r) : Met l yX5_addGrams (ws_ yX5_addGrams cX5_addGrams 5 (some .int)) (rm_ 1) (PC G [.ref b, .int x, .int g] (ShopAt G b r)) (QI (fun v H => v = (bgO r x g).1 ∧ ShopAt G b (bgO r x g).2 H) (In b 20)) 0 0 (In b 20) := by
  refine met_q (by decide +kernel) (Nat.le_of_ble_eq_true rfl) ?_
  intro p e s m args below meth c Q hQ hx hb hr hT hown hml hlocks hnm hK hSh ls hl
  have hl : lv_has ls 5 [(0, .ref b), (1, .int x), (2, .int g)] := hl
  have hS : va_S (In b 20) s.heap s.heap [] := va_S.rf
  have hn5 := hw.nl5
  refine lv_aload_n hx hb dX5_addGrams_0 rfl (lv_at hl 0 rfl) ?_
  refine lv_iload_n hx hb dX5_addGrams_1 rfl (lv_at hl 1 rfl) ?_
  refine got_i (run_i hx hb hml hown hT hK hl.1 (k_X5_hasLeaf l G b r x) (cw_X5_82 hT ⟨Nat.le_of_ble_eq_true rfl, Nat.le_of_ble_eq_true rfl⟩) hSh.1 rfl hSh rfl rfl (Nat.le_of_ble_eq_true rfl) dX5_addGrams_2 ⟨Nat.zero_le _, Nat.zero_le _⟩) (fun v_1 hv_1 => ?_)
  subst hv_1
  refine lv_if_ne (tgt := 10) hx hb dX5_addGrams_5 (by decide) (fun c1 => ?_) (fun c1 => ?_)
  · have hl1 : lfP r x := bi_n0 c1
    refine lv_iload_n hx hb dX5_addGrams_10 rfl (lv_at hl 2 rfl) ?_
    refine lv_iconst (v := 1) hx hb dX5_addGrams_11 (by decide) ?_
    refine lv_sipush (v := 9999) hx hb dX5_addGrams_12 (by decide) ?_
    refine got_i (run_s hx hb hml hown hT hK hl.1 (k_X5_isWithin l G g 1 9999) (cw_X5_71 hT ⟨Nat.le_of_ble_eq_true rfl, Nat.le_of_ble_eq_true rfl⟩) trivial rfl rfl (Nat.le_of_ble_eq_true rfl) dX5_addGrams_15 ⟨Nat.zero_le _, Nat.zero_le _⟩) (fun v_2 hv_2 => ?_)
    subst hv_2
    refine lv_if_ne (tgt := 24) hx hb dX5_addGrams_18 (by decide) (fun c2 => ?_) (fun c2 => ?_)
    · have hg := bi_n0 c2
      obtain ⟨i, hi, rfl⟩ := lf_ix hw hl1
      refine lv_aload_n hx hb dX5_addGrams_24 rfl (lv_at hl 0 rfl) ?_
      refine rg (C := RX5) (T := TX5) (N := 8) (v := .ref (b + 1)) hx hb hT inX5 hown hK hSh.1 rfl 0 (by decide) mf_X5_11 rfl dX5_addGrams_25 ?_
      refine lv_iload_n hx hb dX5_addGrams_28 rfl (lv_at hl 1 rfl) ?_
      refine r_aaldS (y := b + 5 + 3 * i) hx hb hK hSh.2.1 rfl rfl i (rfl) (by omega) (Nat.le_of_ble_eq_true rfl) rfl dX5_addGrams_29 ?_
      refine lv_astore_n (lv' := [(3, .ref (b + 5 + 3 * i)), (0, .ref b), (1, .int (nI i)), (2, .int g)]) hx hb dX5_addGrams_30 rfl hl (by decide) rfl (fun ls hl => ?_)
      refine lv_aload_n hx hb dX5_addGrams_31 rfl (lv_at hl 0 rfl) ?_
      refine rg (C := RX1) (T := TX1) (N := 6) (v := .int (r (12 + 14 * i + 11))) hx hb hT inX1 hown hK (hSh.leaf (i := i) (by omega)).1 rfl 1 (by decide) mf_X5_99 rfl dX5_addGrams_32 ?_
      refine lv_iload_n hx hb dX5_addGrams_35 rfl (lv_at hl 3 rfl) ?_
      refine lv_iadd hx hb dX5_addGrams_36 ?_
      refine lv_istore (lv' := [(4, .int ((r (12 + 14 * i + 11)) + g)), (3, .ref (b + 5 + 3 * i)), (0, .ref b), (1, .int (nI i)), (2, .int g)]) hx hb dX5_addGrams_37 hl (by decide) rfl (fun ls hl => ?_)
      refine lv_iload hx hb dX5_addGrams_39 (lv_at hl 0 rfl) ?_
      refine lv_sipush (v := 9999) hx hb dX5_addGrams_41 (by decide) ?_
      refine lv_icmp_le (tgt := 50) hx hb dX5_addGrams_44 (by decide) (fun c3 => ?_) (fun c3 => ?_)
      · refine lv_aload_n hx hb dX5_addGrams_50 rfl (lv_at hl 1 rfl) ?_
        refine lv_iload hx hb dX5_addGrams_51 (lv_at hl 0 rfl) ?_
        refine lv_if_le (tgt := 71) hx hb dX5_addGrams_53 (by decide) (fun cq => ?_) (fun cq => ?_)
        · refine lv_iconst (v := 0) hx hb dX5_addGrams_71 (by decide) ?_
          refine rp (C := RX1) (T := TX1) (N := 6) (v := .int 0) (ty := .int) hx hb hT inX1 tyX1 tyX1_ok nmX1 hown hK (hSh.leaf (i := i) (by omega)).1 rfl 2 (by decide) mf_X5_102 rfl (by decide +kernel) rfl rfl (Nat.le_of_ble_eq_true rfl) hS (show _ ∧ _ from ⟨by omega, by omega⟩) dX5_addGrams_72 (fun H locs h1 o hS => ?_)
          have hSh := hSh.pAge (by omega) h1 o
          refine lv_aload_n hx hb dX5_addGrams_75 rfl (lv_at hl 1 rfl) ?_
          refine lv_iload hx hb dX5_addGrams_76 (lv_at hl 0 rfl) ?_
          refine rp (C := RX1) (T := TX1) (N := 6) (v := .int ((r (12 + 14 * i + 11)) + g)) (ty := .int) hx hb hT inX1 tyX1 tyX1_ok nmX1 hown hK (hSh.leaf (i := i) (by omega)).1 rfl 1 (by decide) mf_X5_99 rfl (by decide +kernel) rfl rfl (Nat.le_of_ble_eq_true rfl) hS (show _ ∧ _ from ⟨by omega, by omega⟩) dX5_addGrams_78 (fun H locs h1 o hS => ?_)
          have hSh := hSh.pStock (by omega) h1 o
          refine lv_iload hx hb dX5_addGrams_81 (lv_at hl 0 rfl) ?_
          exact nd_I hQ hx hb hr hlocks dX5_addGrams_83 hS (by rw [bgO_4 (by omega) hl1 hg (i32_le_nlt c3), if_neg (i32_le_nlt cq)]; exact ⟨rfl, hSh⟩)
        · have cq := i32_nle cq
          refine lv_aload_n hx hb dX5_addGrams_56 rfl (lv_at hl 1 rfl) ?_
          refine rg (C := RX1) (T := TX1) (N := 6) (v := .int (r (12 + 14 * i + 11))) hx hb hT inX1 hown hK (hSh.leaf (i := i) (by omega)).1 rfl 1 (by decide) mf_X5_99 rfl dX5_addGrams_57 ?_
          refine lv_aload_n hx hb dX5_addGrams_60 rfl (lv_at hl 1 rfl) ?_
          refine rg (C := RX1) (T := TX1) (N := 6) (v := .int (r (12 + 14 * i + 12))) hx hb hT inX1 hown hK (hSh.leaf (i := i) (by omega)).1 rfl 2 (by decide) mf_X5_102 rfl dX5_addGrams_61 ?_
          refine lv_imul hx hb dX5_addGrams_64 ?_
          refine lv_iload hx hb dX5_addGrams_65 (lv_at hl 0 rfl) ?_
          refine lv_idiv hx hb dX5_addGrams_67 (fun q => i32_le_nlt (i32_le_iff.mpr (by rw [q]; decide)) cq) ?_
          refine lv_goto (tgt := 72) hx hb dX5_addGrams_68 (by decide) ?_
          refine rp (C := RX1) (T := TX1) (N := 6) (v := .int (((r (12 + 14 * i + 11)) * (r (12 + 14 * i + 12))) / ((r (12 + 14 * i + 11)) + g))) (ty := .int) hx hb hT inX1 tyX1 tyX1_ok nmX1 hown hK (hSh.leaf (i := i) (by omega)).1 rfl 2 (by decide) mf_X5_102 rfl (by decide +kernel) rfl rfl (Nat.le_of_ble_eq_true rfl) hS (show _ ∧ _ from ⟨by omega, by omega⟩) dX5_addGrams_72 (fun H locs h1 o hS => ?_)
          have hSh := hSh.pAge (by omega) h1 o
          refine lv_aload_n hx hb dX5_addGrams_75 rfl (lv_at hl 1 rfl) ?_
          refine lv_iload hx hb dX5_addGrams_76 (lv_at hl 0 rfl) ?_
          refine rp (C := RX1) (T := TX1) (N := 6) (v := .int ((r (12 + 14 * i + 11)) + g)) (ty := .int) hx hb hT inX1 tyX1 tyX1_ok nmX1 hown hK (hSh.leaf (i := i) (by omega)).1 rfl 1 (by decide) mf_X5_99 rfl (by decide +kernel) rfl rfl (Nat.le_of_ble_eq_true rfl) hS (show _ ∧ _ from ⟨by omega, by omega⟩) dX5_addGrams_78 (fun H locs h1 o hS => ?_)
          have hSh := hSh.pStock (by omega) h1 o
          refine lv_iload hx hb dX5_addGrams_81 (lv_at hl 0 rfl) ?_
          exact nd_I hQ hx hb hr hlocks dX5_addGrams_83 hS (by rw [bgO_4 (by omega) hl1 hg (i32_le_nlt c3), if_pos cq]; exact ⟨rfl, hSh⟩)
      · refine lv_bipush (v := (-5)) hx hb dX5_addGrams_47 (by decide) ?_
        exact nd_I hQ hx hb hr hlocks dX5_addGrams_49 hS (by rw [bgO_3 (by omega) hl1 hg (i32_nle c3)]; exact ⟨rfl, hSh⟩)
    · refine lv_bipush (v := (-2)) hx hb dX5_addGrams_21 (by decide) ?_
      exact nd_I hQ hx hb hr hlocks dX5_addGrams_23 hS (by rw [bgO_2 hl1 (bi_e0 c2)]; exact ⟨rfl, hSh⟩)
  · refine lv_iconst (v := (-1)) hx hb dX5_addGrams_8 (by decide) ?_
    exact nd_I hQ hx hb hr hlocks dX5_addGrams_9 hS (by rw [bgO_1 (bi_e0 c1)]; exact ⟨rfl, hSh⟩)


theorem shO_1 {r : Nat → Int32} {x g : Int32} (h : ¬ lfP r x) : shO r x g = (-1, r) := if_pos h
theorem shO_2 {r : Nat → Int32} {x g : Int32} (h : lfP r x) (h2 : ¬ (0 ≤ g ∧ g ≤ 20)) : shO r x g = (-2, r) := (if_neg (fun q => q h)).trans (if_pos h2)
theorem shO_3 {r : Nat → Int32} {i : Nat} {g : Int32} (hi : i < 5) (h : lfP r (nI i)) (h2 : 0 ≤ g ∧ g ≤ 20) (h3 : 20 < shS r - r (12 + 14 * i + 13) + g) : shO r (nI i) g = (-5, r) := by
  refine ((if_neg (fun q => q h)).trans (if_neg (fun q => q h2))).trans (if_pos ?_)
  rw [nIt (by omega)]
  exact h3
theorem shO_4 {r : Nat → Int32} {i : Nat} {g : Int32} (hi : i < 5) (h : lfP r (nI i)) (h2 : 0 ≤ g ∧ g ≤ 20) (h3 : ¬ 20 < shS r - r (12 + 14 * i + 13) + g) : shO r (nI i) g = (shS r - r (12 + 14 * i + 13) + g, upd r (12 + 14 * i + 13) g) := by
  refine ((if_neg (fun q => q h)).trans (if_neg (fun q => q h2))).trans ((if_neg ?_).trans ?_)
  · rw [nIt (by omega)]
    exact h3
  · rw [nIt (by omega)]

set_option maxHeartbeats 4000000 in
set_option maxRecDepth 100000 in
theorem k_X5_changeShare (l : Launch) (G : GG) (b : Nat) (r : Nat → Int32) (x g : Int32) (hw : WF r) : Met l yX5_changeShare (ws_ yX5_changeShare cX5_changeShare 4 (some .int)) (rm_ 1) (PC G [.ref b, .int x, .int g] (ShopAt G b r)) (QI (fun v H => v = (shO r x g).1 ∧ ShopAt G b (shO r x g).2 H) (In b 20)) 0 0 (In b 20) := by
  refine met_q (by decide +kernel) (Nat.le_of_ble_eq_true rfl) ?_
  intro p e s m args below meth c Q hQ hx hb hr hT hown hml hlocks hnm hK hSh ls hl
  have hl : lv_has ls 4 [(0, .ref b), (1, .int x), (2, .int g)] := hl
  have hS : va_S (In b 20) s.heap s.heap [] := va_S.rf
  have hn5 := hw.nl5
  refine lv_aload_n hx hb dX5_changeShare_0 rfl (lv_at hl 0 rfl) ?_
  refine lv_iload_n hx hb dX5_changeShare_1 rfl (lv_at hl 1 rfl) ?_
  refine got_i (run_i hx hb hml hown hT hK hl.1 (k_X5_hasLeaf l G b r x) (cw_X5_82 hT ⟨Nat.le_of_ble_eq_true rfl, Nat.le_of_ble_eq_true rfl⟩) hSh.1 rfl hSh rfl rfl (Nat.le_of_ble_eq_true rfl) dX5_changeShare_2 ⟨Nat.zero_le _, Nat.zero_le _⟩) (fun v_1 hv_1 => ?_)
  subst hv_1
  refine lv_if_ne (tgt := 10) hx hb dX5_changeShare_5 (by decide) (fun c1 => ?_) (fun c1 => ?_)
  · have hl1 : lfP r x := bi_n0 c1
    refine lv_iload_n hx hb dX5_changeShare_10 rfl (lv_at hl 2 rfl) ?_
    refine lv_iconst (v := 0) hx hb dX5_changeShare_11 (by decide) ?_
    refine lv_bipush (v := 20) hx hb dX5_changeShare_12 (by decide) ?_
    refine got_i (run_s hx hb hml hown hT hK hl.1 (k_X5_isWithin l G g 0 20) (cw_X5_71 hT ⟨Nat.le_of_ble_eq_true rfl, Nat.le_of_ble_eq_true rfl⟩) trivial rfl rfl (Nat.le_of_ble_eq_true rfl) dX5_changeShare_14 ⟨Nat.zero_le _, Nat.zero_le _⟩) (fun v_2 hv_2 => ?_)
    subst hv_2
    refine lv_if_ne (tgt := 23) hx hb dX5_changeShare_17 (by decide) (fun c2 => ?_) (fun c2 => ?_)
    · have hg := bi_n0 c2
      obtain ⟨i, hi, rfl⟩ := lf_ix hw hl1
      refine lv_aload_n hx hb dX5_changeShare_23 rfl (lv_at hl 0 rfl) ?_
      refine got_i (run_i hx hb hml hown hT hK hl.1 (k_X5_allShares l G b r hw) (cw_X5_105 hT ⟨Nat.le_of_ble_eq_true rfl, Nat.le_of_ble_eq_true rfl⟩) hSh.1 rfl hSh rfl rfl (Nat.le_of_ble_eq_true rfl) dX5_changeShare_24 ⟨Nat.zero_le _, Nat.zero_le _⟩) (fun v_3 hv_3 => ?_)
      subst hv_3
      refine lv_aload_n hx hb dX5_changeShare_27 rfl (lv_at hl 0 rfl) ?_
      refine rg (C := RX5) (T := TX5) (N := 8) (v := .ref (b + 1)) hx hb hT inX5 hown hK hSh.1 rfl 0 (by decide) mf_X5_11 rfl dX5_changeShare_28 ?_
      refine lv_iload_n hx hb dX5_changeShare_31 rfl (lv_at hl 1 rfl) ?_
      refine r_aaldS (y := b + 5 + 3 * i) hx hb hK hSh.2.1 rfl rfl i (rfl) (by omega) (Nat.le_of_ble_eq_true rfl) rfl dX5_changeShare_32 ?_
      refine rg (C := RX1) (T := TX1) (N := 6) (v := .int (r (12 + 14 * i + 13))) hx hb hT inX1 hown hK (hSh.leaf (i := i) (by omega)).1 rfl 3 (by decide) mf_X5_109 rfl dX5_changeShare_33 ?_
      refine lv_isub hx hb dX5_changeShare_36 ?_
      refine lv_iload_n hx hb dX5_changeShare_37 rfl (lv_at hl 2 rfl) ?_
      refine lv_iadd hx hb dX5_changeShare_38 ?_
      refine lv_istore_n (lv' := [(3, .int (((shS r) - (r (12 + 14 * i + 13))) + g)), (0, .ref b), (1, .int (nI i)), (2, .int g)]) hx hb dX5_changeShare_39 rfl hl (by decide) rfl (fun ls hl => ?_)
      refine lv_iload_n hx hb dX5_changeShare_40 rfl (lv_at hl 0 rfl) ?_
      refine lv_bipush (v := 20) hx hb dX5_changeShare_41 (by decide) ?_
      refine lv_icmp_le (tgt := 49) hx hb dX5_changeShare_43 (by decide) (fun c3 => ?_) (fun c3 => ?_)
      · refine lv_aload_n hx hb dX5_changeShare_49 rfl (lv_at hl 1 rfl) ?_
        refine rg (C := RX5) (T := TX5) (N := 8) (v := .ref (b + 1)) hx hb hT inX5 hown hK hSh.1 rfl 0 (by decide) mf_X5_11 rfl dX5_changeShare_50 ?_
        refine lv_iload_n hx hb dX5_changeShare_53 rfl (lv_at hl 2 rfl) ?_
        refine r_aaldS (y := b + 5 + 3 * i) hx hb hK hSh.2.1 rfl rfl i (rfl) (by omega) (Nat.le_of_ble_eq_true rfl) rfl dX5_changeShare_54 ?_
        refine lv_iload_n hx hb dX5_changeShare_55 rfl (lv_at hl 3 rfl) ?_
        refine rp (C := RX1) (T := TX1) (N := 6) (v := .int g) (ty := .int) hx hb hT inX1 tyX1 tyX1_ok nmX1 hown hK (hSh.leaf (i := i) (by omega)).1 rfl 3 (by decide) mf_X5_109 rfl (by decide +kernel) rfl rfl (Nat.le_of_ble_eq_true rfl) hS (show _ ∧ _ from ⟨by omega, by omega⟩) dX5_changeShare_56 (fun H locs h1 o hS => ?_)
        have hSh := hSh.pShare (by omega) h1 o
        refine lv_iload_n hx hb dX5_changeShare_59 rfl (lv_at hl 0 rfl) ?_
        exact nd_I hQ hx hb hr hlocks dX5_changeShare_60 hS (by rw [shO_4 (by omega) hl1 hg (i32_le_nlt c3)]; exact ⟨rfl, hSh⟩)
      · refine lv_bipush (v := (-5)) hx hb dX5_changeShare_46 (by decide) ?_
        exact nd_I hQ hx hb hr hlocks dX5_changeShare_48 hS (by rw [shO_3 (by omega) hl1 hg (i32_nle c3)]; exact ⟨rfl, hSh⟩)
    · refine lv_bipush (v := (-2)) hx hb dX5_changeShare_20 (by decide) ?_
      exact nd_I hQ hx hb hr hlocks dX5_changeShare_22 hS (by rw [shO_2 hl1 (bi_e0 c2)]; exact ⟨rfl, hSh⟩)
  · refine lv_iconst (v := (-1)) hx hb dX5_changeShare_8 (by decide) ?_
    exact nd_I hQ hx hb hr hlocks dX5_changeShare_9 hS (by rw [shO_1 (bi_e0 c1)]; exact ⟨rfl, hSh⟩)


theorem agF_5 {r : Nat → Int32} {d : Int32} {n : Nat} : agF r d n 5 = r 5 := if_neg (by omega)
theorem agF_2 {r : Nat → Int32} {d : Int32} {n : Nat} : agF r d n 2 = r 2 := if_neg (by omega)
theorem agF_0 {r : Nat → Int32} {d : Int32} : agF r d 0 = r := funext fun k => if_neg (by omega)
theorem agF_s {r : Nat → Int32} {d : Int32} {n : Nat} : upd (agF r d n) (12 + 14 * n + 12) (agF r d n (12 + 14 * n + 12) + d) = agF r d (n + 1) := by
  funext k
  simp only [upd]
  by_cases q : k = 12 + 14 * n + 12
  · rw [if_pos q]
    subst q
    unfold agF
    rw [if_neg (by omega), if_pos (by omega)]
  · rw [if_neg q]
    unfold agF
    by_cases h : 24 ≤ k ∧ (k - 24) % 14 = 0 ∧ (k - 24) / 14 < n
    · rw [if_pos h, if_pos (by omega)]
    · rw [if_neg h, if_neg (by omega)]
theorem pdO_1 {r : Nat → Int32} {d : Int32} (h : ¬ (1 ≤ d ∧ d ≤ 99)) : pdO r d = (-2, r) := if_pos h
theorem pdO_2 {r : Nat → Int32} {d : Int32} (h : 1 ≤ d ∧ d ≤ 99) (h2 : 9999 < r 2 + d) : pdO r d = (-5, r) := (if_neg (fun q => q h)).trans (if_pos h2)
theorem pdO_3 {r : Nat → Int32} {d : Int32} (h : 1 ≤ d ∧ d ≤ 99) (h2 : ¬ 9999 < r 2 + d) : pdO r d = (r 2 + d, upd (agF r d (nlv r)) 2 (r 2 + d)) := (if_neg (fun q => q h)).trans (if_neg h2)

set_option maxHeartbeats 4000000 in
set_option maxRecDepth 100000 in
theorem k_X5_passDays (l : Launch) (G : GG) (b : Nat) (r : Nat → Int32) (d : Int32) (hw : WF r) : Met l yX5_passDays (ws_ yX5_passDays cX5_passDays 3 (some .int)) (rm_ 1) (PC G [.ref b, .int d] (ShopAt G b r)) (QI (fun v H => v = (pdO r d).1 ∧ ShopAt G b (pdO r d).2 H) (In b 20)) 0 0 (In b 20) := by
  refine met_q (by decide +kernel) (Nat.le_of_ble_eq_true rfl) ?_
  intro p e s m args below meth c Q hQ hx hb hr hT hown hml hlocks hnm hK hSh ls hl
  have hl : lv_has ls 3 [(0, .ref b), (1, .int d)] := hl
  have hS : va_S (In b 20) s.heap s.heap [] := va_S.rf
  have hn5 := hw.nl5
  have hnl := hw.nl
  refine lv_iload_n hx hb dX5_passDays_0 rfl (lv_at hl 1 rfl) ?_
  refine lv_iconst (v := 1) hx hb dX5_passDays_1 (by decide) ?_
  refine lv_bipush (v := 99) hx hb dX5_passDays_2 (by decide) ?_
  refine got_i (run_s hx hb hml hown hT hK hl.1 (k_X5_isWithin l G d 1 99) (cw_X5_71 hT ⟨Nat.le_of_ble_eq_true rfl, Nat.le_of_ble_eq_true rfl⟩) trivial rfl rfl (Nat.le_of_ble_eq_true rfl) dX5_passDays_4 ⟨Nat.zero_le _, Nat.zero_le _⟩) (fun v_1 hv_1 => ?_)
  subst hv_1
  refine lv_if_ne (tgt := 13) hx hb dX5_passDays_7 (by decide) (fun c2 => ?_) (fun c2 => ?_)
  · have hg := bi_n0 c2
    refine lv_aload_n hx hb dX5_passDays_13 rfl (lv_at hl 0 rfl) ?_
    refine rg (C := RX5) (T := TX5) (N := 8) (v := .int (r 2)) hx hb hT inX5 hown hK hSh.1 rfl 5 (by decide) mf_X5_56 rfl dX5_passDays_14 ?_
    refine lv_iload_n hx hb dX5_passDays_17 rfl (lv_at hl 1 rfl) ?_
    refine lv_iadd hx hb dX5_passDays_18 ?_
    refine lv_sipush (v := 9999) hx hb dX5_passDays_19 (by decide) ?_
    refine lv_icmp_le (tgt := 28) hx hb dX5_passDays_22 (by decide) (fun c3 => ?_) (fun c3 => ?_)
    · refine lv_iconst (v := 0) hx hb dX5_passDays_28 (by decide) ?_
      refine lv_istore_n (lv' := [(2, .int 0), (0, .ref b), (1, .int d)]) hx hb dX5_passDays_29 rfl hl (by decide) rfl (fun ls hl => ?_)
      have loop : ∀ (k : Nat) (i : Nat) (H : Heap) (locs : List Loc), va_S (In b 20) s.heap H locs → i ≤ nlv r → ShopAt G b (agF r d i) H → nlv r - i < k → ∀ ls : Array Slot, lv_has ls 3 [(2, .int (nI i)), (0, .ref b), (1, .int d)] → W p l e (rm_ 1) s m args below meth c H locs 0 0 Q (F0 m 30 ls []) := by
        intro k
        induction k with
        | zero => intro i H locs hS hi hSh hm; exact absurd hm (Nat.not_lt_zero _)
        | succ k ih =>
          intro i H locs hS hi hSh hm ls hl
          refine lv_iload_n hx hb dX5_passDays_30 rfl (lv_at hl 0 rfl) ?_
          refine lv_aload_n hx hb dX5_passDays_31 rfl (lv_at hl 1 rfl) ?_
          refine rg (C := RX5) (T := TX5) (N := 8) (v := .int ((agF r d i) 5)) hx hb hT inX5 hown hK hSh.1 rfl 4 (by decide) mf_X5_52 rfl dX5_passDays_32 ?_
          refine lv_icmp_ge (tgt := 59) hx hb dX5_passDays_35 (by decide) (fun cd => ?_) (fun cd => ?_)
          · have hge : nlv r ≤ i := by
              rw [agF_5, hnl, nI_leI (by omega) (by omega)] at cd
              exact cd
            have he : i = nlv r := by omega
            subst he
            refine lv_aload_n hx hb dX5_passDays_59 rfl (lv_at hl 1 rfl) ?_
            refine lv_dup hx hb dX5_passDays_60 rfl ?_
            refine rg (C := RX5) (T := TX5) (N := 8) (v := .int ((agF r d (nlv r)) 2)) hx hb hT inX5 hown hK hSh.1 rfl 5 (by decide) mf_X5_56 rfl dX5_passDays_61 ?_
            refine lv_iload_n hx hb dX5_passDays_64 rfl (lv_at hl 2 rfl) ?_
            refine lv_iadd hx hb dX5_passDays_65 ?_
            refine rp (C := RX5) (T := TX5) (N := 8) (v := .int (((agF r d (nlv r)) 2) + d)) (ty := .int) hx hb hT inX5 tyX5 tyX5_ok nmX5 hown hK hSh.1 rfl 5 (by decide) mf_X5_56 rfl (by decide +kernel) rfl rfl (Nat.le_of_ble_eq_true rfl) hS (show _ ∧ _ from ⟨by omega, by omega⟩) dX5_passDays_66 (fun H locs h1 o hS => ?_)
            have hSh := hSh.pDay h1 o
            refine lv_aload_n hx hb dX5_passDays_69 rfl (lv_at hl 1 rfl) ?_
            refine rg (C := RX5) (T := TX5) (N := 8) (v := .int ((upd (agF r d (nlv r)) 2 (agF r d (nlv r) 2 + d)) 2)) hx hb hT inX5 hown hK hSh.1 rfl 5 (by decide) mf_X5_56 rfl dX5_passDays_70 ?_
            exact nd_I hQ hx hb hr hlocks dX5_passDays_73 hS (by rw [pdO_3 hg (i32_le_nlt c3)]; rw [agF_2] at hSh ⊢; exact ⟨upd_eq, hSh⟩)
          · have hlt : i < nlv r := by
              rw [agF_5, hnl, nI_leI (by omega) (by omega)] at cd
              omega
            refine lv_aload_n hx hb dX5_passDays_38 rfl (lv_at hl 1 rfl) ?_
            refine rg (C := RX5) (T := TX5) (N := 8) (v := .ref (b + 1)) hx hb hT inX5 hown hK hSh.1 rfl 0 (by decide) mf_X5_11 rfl dX5_passDays_39 ?_
            refine lv_iload_n hx hb dX5_passDays_42 rfl (lv_at hl 0 rfl) ?_
            refine r_aaldS (y := b + 5 + 3 * i) hx hb hK hSh.2.1 rfl rfl i (rfl) (by omega) (Nat.le_of_ble_eq_true rfl) rfl dX5_passDays_43 ?_
            refine lv_dup hx hb dX5_passDays_44 rfl ?_
            refine rg (C := RX1) (T := TX1) (N := 6) (v := .int ((agF r d i) (12 + 14 * i + 12))) hx hb hT inX1 hown hK (hSh.leaf (i := i) (by omega)).1 rfl 2 (by decide) mf_X5_102 rfl dX5_passDays_45 ?_
            refine lv_iload_n hx hb dX5_passDays_48 rfl (lv_at hl 2 rfl) ?_
            refine lv_iadd hx hb dX5_passDays_49 ?_
            refine rp (C := RX1) (T := TX1) (N := 6) (v := .int (((agF r d i) (12 + 14 * i + 12)) + d)) (ty := .int) hx hb hT inX1 tyX1 tyX1_ok nmX1 hown hK (hSh.leaf (i := i) (by omega)).1 rfl 2 (by decide) mf_X5_102 rfl (by decide +kernel) rfl rfl (Nat.le_of_ble_eq_true rfl) hS (show _ ∧ _ from ⟨by omega, by omega⟩) dX5_passDays_50 (fun H locs h1 o hS => ?_)
            have hSh := hSh.pAge (by omega) h1 o
            rw [agF_s] at hSh
            refine lv_iinc (v := nI (i + 1)) (lv' := [(2, .int (nI (i + 1))), (0, .ref b), (1, .int d)]) hx hb dX5_passDays_53 hl (k := 0) rfl (nI_1 i) (by decide) rfl (fun ls hl => ?_)
            refine lv_goto (tgt := 30) hx hb dX5_passDays_56 (by decide) ?_
            exact ih (i + 1) _ _ hS (by omega) hSh (by omega) ls (lv_sub hl [0, 1, 2] rfl)
      exact loop (nlv r + 1) 0 _ _ hS (Nat.zero_le _) (by rw [agF_0]; exact hSh) (by omega) ls (lv_sub hl [0, 1, 2] rfl)
    · refine lv_bipush (v := (-5)) hx hb dX5_passDays_25 (by decide) ?_
      exact nd_I hQ hx hb hr hlocks dX5_passDays_27 hS (by rw [pdO_2 hg (i32_nle c3)]; exact ⟨rfl, hSh⟩)
  · refine lv_bipush (v := (-2)) hx hb dX5_passDays_10 (by decide) ?_
    exact nd_I hQ hx hb hr hlocks dX5_passDays_12 hS (by rw [pdO_1 (bi_e0 c2)]; exact ⟨rfl, hSh⟩)


theorem shR_5 {r s : Nat → Int32} {n : Nat} : shR r s n 5 = r 5 := if_neg (by omega)
theorem shR_0 {r s : Nat → Int32} : shR r s 0 = r := funext fun k => if_neg (by omega)
theorem shR_s {r s : Nat → Int32} {n : Nat} : upd (shR r s n) (12 + 14 * n + 13) (s n) = shR r s (n + 1) := by
  funext k
  simp only [upd]
  by_cases q : k = 12 + 14 * n + 13
  · rw [if_pos q]
    subst q
    unfold shR
    rw [if_pos (by omega)]
    congr 1
    omega
  · rw [if_neg q]
    unfold shR
    by_cases h : 25 ≤ k ∧ (k - 25) % 14 = 0 ∧ (k - 25) / 14 < n
    · rw [if_pos h, if_pos (by omega)]
    · rw [if_neg h, if_neg (by omega)]

set_option maxHeartbeats 4000000 in
set_option maxRecDepth 100000 in
theorem k_X5_takeShares (l : Launch) (G : GG) (b a : Nat) (r f : Nat → Int32) (hw : WF r) (hne : a < b ∨ b + 20 ≤ a) : Met l yX5_takeShares (ws_ yX5_takeShares cX5_takeShares 3 (none : Option Jvm.ClassFile.FieldType)) (rm_ 0) (PC G [.ref b, .ref a] (fun H => ShopAt G b r H ∧ ar G 0 a (iA 5 f) H)) (QV (ShopAt G b (shR r f (nlv r))) (In b 20)) 0 0 (In b 20) := by
  refine met_q (by decide +kernel) (Nat.le_of_ble_eq_true rfl) ?_
  intro p e s m args below meth c Q hQ hx hb hr hT hown hml hlocks hnm hK ⟨hSh, hB⟩ ls hl
  have hl : lv_has ls 3 [(0, .ref b), (1, .ref a)] := hl
  have hS : va_S (In b 20) s.heap s.heap [] := va_S.rf
  have hn5 := hw.nl5
  have hnl := hw.nl
  refine lv_iconst (v := 0) hx hb dX5_takeShares_0 (by decide) ?_
  refine lv_istore_n (lv' := [(2, .int 0), (0, .ref b), (1, .ref a)]) hx hb dX5_takeShares_1 rfl hl (by decide) rfl (fun ls hl => ?_)
  have loop : ∀ (k : Nat) (i : Nat) (H : Heap) (locs : List Loc), va_S (In b 20) s.heap H locs → i ≤ nlv r → ShopAt G b (shR r f i) H → ar G 0 a (iA 5 f) H → nlv r - i < k → ∀ ls : Array Slot, lv_has ls 3 [(2, .int (nI i)), (0, .ref b), (1, .ref a)] → W p l e (rm_ 0) s m args below meth c H locs 0 0 Q (F0 m 2 ls []) := by
    intro k
    induction k with
    | zero => intro i H locs hS hi hSh hB hm; exact absurd hm (Nat.not_lt_zero _)
    | succ k ih =>
      intro i H locs hS hi hSh hB hm ls hl
      refine lv_iload_n hx hb dX5_takeShares_2 rfl (lv_at hl 0 rfl) ?_
      refine lv_aload_n hx hb dX5_takeShares_3 rfl (lv_at hl 1 rfl) ?_
      refine rg (C := RX5) (T := TX5) (N := 8) (v := .int ((shR r f i) 5)) hx hb hT inX5 hown hK hSh.1 rfl 4 (by decide) mf_X5_52 rfl dX5_takeShares_4 ?_
      refine lv_icmp_ge (tgt := 34) hx hb dX5_takeShares_7 (by decide) (fun cd => ?_) (fun cd => ?_)
      · have hge : nlv r ≤ i := by
          rw [shR_5, hnl, nI_leI (by omega) (by omega)] at cd
          exact cd
        have he : i = nlv r := by omega
        subst he
        exact nd_V hQ hx hb hr hlocks dX5_takeShares_34 hS (hSh)
      · have hlt : i < nlv r := by
          rw [shR_5, hnl, nI_leI (by omega) (by omega)] at cd
          omega
        refine lv_iload_n hx hb dX5_takeShares_10 rfl (lv_at hl 0 rfl) ?_
        refine lv_aload_n hx hb dX5_takeShares_11 rfl (lv_at hl 2 rfl) ?_
        refine r_alen hx hb hK hB rfl (v := 5) rfl dX5_takeShares_12 ?_
        refine lv_icmp_ge (tgt := 34) hx hb dX5_takeShares_13 (by decide) (fun ce => ?_) (fun ce => ?_)
        · exact absurd (show nI 5 ≤ nI i from ce) (by rw [nI_leI (by omega) (by omega)]; omega)
        · refine lv_aload_n hx hb dX5_takeShares_16 rfl (lv_at hl 1 rfl) ?_
          refine rg (C := RX5) (T := TX5) (N := 8) (v := .ref (b + 1)) hx hb hT inX5 hown hK hSh.1 rfl 0 (by decide) mf_X5_11 rfl dX5_takeShares_17 ?_
          refine lv_iload_n hx hb dX5_takeShares_20 rfl (lv_at hl 0 rfl) ?_
          refine r_aaldS (y := b + 5 + 3 * i) hx hb hK hSh.2.1 rfl rfl i (rfl) (by omega) (Nat.le_of_ble_eq_true rfl) rfl dX5_takeShares_21 ?_
          refine lv_aload_n hx hb dX5_takeShares_22 rfl (lv_at hl 2 rfl) ?_
          refine lv_iload_n hx hb dX5_takeShares_23 rfl (lv_at hl 0 rfl) ?_
          refine r_iald hx hb hK hB i (rfl) (by omega) (Nat.le_of_ble_eq_true rfl) dX5_takeShares_24 ?_
          refine rp (C := RX1) (T := TX1) (N := 6) (v := .int (f i)) (ty := .int) hx hb hT inX1 tyX1 tyX1_ok nmX1 hown hK (hSh.leaf (i := i) (by omega)).1 rfl 3 (by decide) mf_X5_109 rfl (by decide +kernel) rfl rfl (Nat.le_of_ble_eq_true rfl) hS (show _ ∧ _ from ⟨by omega, by omega⟩) dX5_takeShares_25 (fun H locs h1 o hS => ?_)
          have hSh := hSh.pShare (by omega) h1 o
          rw [shR_s] at hSh
          have hB := hB.kept (o.2 _ (by omega))
          refine lv_iinc (v := nI (i + 1)) (lv' := [(2, .int (nI (i + 1))), (0, .ref b), (1, .ref a)]) hx hb dX5_takeShares_28 hl (k := 0) rfl (nI_1 i) (by decide) rfl (fun ls hl => ?_)
          refine lv_goto (tgt := 2) hx hb dX5_takeShares_31 (by decide) ?_
          exact ih (i + 1) _ _ hS (by omega) hSh hB (by omega) ls (lv_sub hl [0, 1, 2] rfl)
  exact loop (nlv r + 1) 0 _ _ hS (Nat.zero_le _) (by rw [shR_0]; exact hSh) hB (by omega) ls (lv_sub hl [0, 1, 2] rfl)
end
section
/-! mixing, rows of prices, a new leaf, a copy -/
theorem mgR_5 {r : Nat → Int32} {g : Int32} {n : Nat} : mgR r g n 5 = r 5 := if_neg (by omega)
theorem mgR_0 {r : Nat → Int32} {g : Int32} : mgR r g 0 = r := funext fun k => if_neg (by omega)
theorem mgR_k {r : Nat → Int32} {g : Int32} {n k : Nat} (h : ¬ (23 ≤ k ∧ (k - 23) % 14 = 0)) : mgR r g n k = r k := if_neg (fun q => h ⟨q.1, q.2.1⟩)
theorem mgR_st {r : Nat → Int32} {g : Int32} {n : Nat} : mgR r g n (12 + 14 * n + 11) = r (12 + 14 * n + 11) := if_neg (by omega)
theorem mgR_s {r : Nat → Int32} {g : Int32} {n : Nat} : upd (mgR r g n) (12 + 14 * n + 11) (r (12 + 14 * n + 11) - ndF r n g) = mgR r g (n + 1) := by
  funext k
  simp only [upd]
  by_cases q : k = 12 + 14 * n + 11
  · rw [if_pos q]
    subst q
    unfold mgR
    rw [if_pos (by omega), show (12 + 14 * n + 11 - 23) / 14 = n by omega]
  · rw [if_neg q]
    unfold mgR
    by_cases h : 23 ≤ k ∧ (k - 23) % 14 = 0 ∧ (k - 23) / 14 < n
    · rw [if_pos h, if_pos (by omega)]
    · rw [if_neg h, if_neg (by omega)]
theorem mgR_pr {r : Nat → Int32} {g : Int32} {n : Nat} (hp7 : plv r < 7) : prS (mgR r g n) = prS r := by
  unfold prS
  have e5 : nlv (mgR r g n) = nlv r := by unfold nlv; rw [mgR_5]
  have ep : plv (mgR r g n) = plv r := by unfold plv; rw [mgR_k (by omega), mgR_k (by omega)]
  rw [e5]
  refine sm_ext _ (fun i _ => ?_)
  unfold shF prF
  rw [ep, mgR_k (by omega), mgR_k (k := 12 + 14 * i + 0) (by omega), mgR_k (k := 12 + 14 * i + (1 + plv r)) (by omega)]
theorem mgR_wf {r : Nat → Int32} {g : Int32} {n : Nat} (h : WF r) : WF (mgR r g n) := by
  unfold WF
  rw [mgR_5, mgR_k (by omega), mgR_k (by omega)]
  exact h
theorem mxO_1 {r : Nat → Int32} {g : Int32} (h : ¬ (1 ≤ g ∧ g ≤ 9999)) : mxO r g = (-2, r) := if_pos h
theorem mxO_2 {r : Nat → Int32} {g : Int32} (h : 1 ≤ g ∧ g ≤ 9999) (h2 : ¬ (whyF r 0 = 0 ∧ sfP r g)) : mxO r g = (-5, r) := (if_neg (fun q => q h)).trans (if_pos h2)
theorem mxO_3 {r : Nat → Int32} {g : Int32} (h : 1 ≤ g ∧ g ≤ 9999) (h2 : whyF r 0 = 0 ∧ sfP r g) : mxO r g = (prS r / 20, upd (upd (mgR r g (nlv r)) 3 (r 3 + g)) 4 (r 4 + g * (prS r / 20) / 100)) := (if_neg (fun q => q h)).trans (if_neg (fun q => q h2))

set_option maxHeartbeats 4000000 in
set_option maxRecDepth 100000 in
theorem k_X5_mixGrams (l : Launch) (G : GG) (b : Nat) (r : Nat → Int32) (g : Int32) (hw : WF r) : Met l yX5_mixGrams (ws_ yX5_mixGrams cX5_mixGrams 3 (some .int)) (rm_ 4) (PC G [.ref b, .int g] (ShopAt G b r)) (QI (fun v H => v = (mxO r g).1 ∧ ShopAt G b (mxO r g).2 H) (In b 20)) 0 0 (In b 20) := by
  refine met_q (by decide +kernel) (Nat.le_of_ble_eq_true rfl) ?_
  intro p e s m args below meth c Q hQ hx hb hr hT hown hml hlocks hnm hK hSh ls hl
  have hl : lv_has ls 3 [(0, .ref b), (1, .int g)] := hl
  have hS : va_S (In b 20) s.heap s.heap [] := va_S.rf
  have hn5 := hw.nl5
  have hnl := hw.nl
  have hp7 := hw.pl.2
  refine lv_iload_n hx hb dX5_mixGrams_0 rfl (lv_at hl 1 rfl) ?_
  refine lv_iconst (v := 1) hx hb dX5_mixGrams_1 (by decide) ?_
  refine lv_sipush (v := 9999) hx hb dX5_mixGrams_2 (by decide) ?_
  refine got_i (run_s hx hb hml hown hT hK hl.1 (k_X5_isWithin l G g 1 9999) (cw_X5_71 hT ⟨Nat.le_of_ble_eq_true rfl, Nat.le_of_ble_eq_true rfl⟩) trivial rfl rfl (Nat.le_of_ble_eq_true rfl) dX5_mixGrams_5 ⟨Nat.zero_le _, Nat.zero_le _⟩) (fun v_1 hv_1 => ?_)
  subst hv_1
  refine lv_if_ne (tgt := 14) hx hb dX5_mixGrams_8 (by decide) (fun c2 => ?_) (fun c2 => ?_)
  · have hg := bi_n0 c2
    refine lv_aload_n hx hb dX5_mixGrams_14 rfl (lv_at hl 0 rfl) ?_
    refine lv_iconst (v := 0) hx hb dX5_mixGrams_15 (by decide) ?_
    refine got_i (run_i hx hb hml hown hT hK hl.1 (k_X5_whyBroken l G b r 0 hw) (cw_X5_112 hT ⟨Nat.le_of_ble_eq_true rfl, Nat.le_of_ble_eq_true rfl⟩) hSh.1 rfl hSh rfl rfl (Nat.le_of_ble_eq_true rfl) dX5_mixGrams_16 ⟨Nat.zero_le _, Nat.zero_le _⟩) (fun v_2 hv_2 => ?_)
    subst hv_2
    refine lv_if_ne (tgt := 30) hx hb dX5_mixGrams_19 (by decide) (fun c3 => ?_) (fun c3 => ?_)
    · refine lv_bipush (v := (-5)) hx hb dX5_mixGrams_30 (by decide) ?_
      exact nd_I hQ hx hb hr hlocks dX5_mixGrams_32 hS (by rw [mxO_2 hg (fun q => c3 q.1)]; exact ⟨rfl, hSh⟩)
    · refine lv_aload_n hx hb dX5_mixGrams_22 rfl (lv_at hl 0 rfl) ?_
      refine lv_iload_n hx hb dX5_mixGrams_23 rfl (lv_at hl 1 rfl) ?_
      refine got_i (run_i hx hb hml hown hT hK hl.1 (k_X5_stocksSuffice l G b r g hw) (cw_X5_115 hT ⟨Nat.le_of_ble_eq_true rfl, Nat.le_of_ble_eq_true rfl⟩) hSh.1 rfl hSh rfl rfl (Nat.le_of_ble_eq_true rfl) dX5_mixGrams_24 ⟨Nat.zero_le _, Nat.zero_le _⟩) (fun v_3 hv_3 => ?_)
      subst hv_3
      refine lv_if_ne (tgt := 33) hx hb dX5_mixGrams_27 (by decide) (fun c4 => ?_) (fun c4 => ?_)
      · have h2 : whyF r 0 = 0 ∧ sfP r g := ⟨c3, bc_n0 c4⟩
        refine lv_iconst (v := 0) hx hb dX5_mixGrams_33 (by decide) ?_
        refine lv_istore_n (lv' := [(2, .int 0), (0, .ref b), (1, .int g)]) hx hb dX5_mixGrams_34 rfl hl (by decide) rfl (fun ls hl => ?_)
        have loop : ∀ (k : Nat) (i : Nat) (H : Heap) (locs : List Loc), va_S (In b 20) s.heap H locs → i ≤ nlv r → ShopAt G b (mgR r g i) H → nlv r - i < k → ∀ ls : Array Slot, lv_has ls 3 [(2, .int (nI i)), (0, .ref b), (1, .int g)] → W p l e (rm_ 4) s m args below meth c H locs 0 0 Q (F0 m 35 ls []) := by
          intro k
          induction k with
          | zero => intro i H locs hS hi hSh hm; exact absurd hm (Nat.not_lt_zero _)
          | succ k ih =>
            intro i H locs hS hi hSh hm ls hl
            refine lv_iload_n hx hb dX5_mixGrams_35 rfl (lv_at hl 0 rfl) ?_
            refine lv_aload_n hx hb dX5_mixGrams_36 rfl (lv_at hl 1 rfl) ?_
            refine rg (C := RX5) (T := TX5) (N := 8) (v := .int ((mgR r g i) 5)) hx hb hT inX5 hown hK hSh.1 rfl 4 (by decide) mf_X5_52 rfl dX5_mixGrams_37 ?_
            refine lv_icmp_ge (tgt := 73) hx hb dX5_mixGrams_40 (by decide) (fun cd => ?_) (fun cd => ?_)
            · have hge : nlv r ≤ i := by
                rw [mgR_5, hnl, nI_leI (by omega) (by omega)] at cd
                exact cd
              have he : i = nlv r := by omega
              subst he
              refine lv_aload_n hx hb dX5_mixGrams_73 rfl (lv_at hl 1 rfl) ?_
              refine got_i (run_i hx hb hml hown hT hK hl.1 (k_X5_blendPrice l G b (mgR r g (nlv r)) (mgR_wf hw)) (cw_X5_121 hT ⟨Nat.le_of_ble_eq_true rfl, Nat.le_of_ble_eq_true rfl⟩) hSh.1 rfl hSh rfl rfl (Nat.le_of_ble_eq_true rfl) dX5_mixGrams_74 ⟨Nat.zero_le _, Nat.zero_le _⟩) (fun v_4 hv_4 => ?_)
              subst hv_4
              refine lv_istore_n (lv' := [(2, .int (prS (mgR r g (nlv r)) / 20)), (0, .ref b), (1, .int g)]) hx hb dX5_mixGrams_77 rfl hl (by decide) rfl (fun ls hl => ?_)
              refine lv_aload_n hx hb dX5_mixGrams_78 rfl (lv_at hl 1 rfl) ?_
              refine lv_dup hx hb dX5_mixGrams_79 rfl ?_
              refine rg (C := RX5) (T := TX5) (N := 8) (v := .int ((mgR r g (nlv r)) 3)) hx hb hT inX5 hown hK hSh.1 rfl 6 (by decide) mf_X5_59 rfl dX5_mixGrams_80 ?_
              refine lv_iload_n hx hb dX5_mixGrams_83 rfl (lv_at hl 2 rfl) ?_
              refine lv_iadd hx hb dX5_mixGrams_84 ?_
              refine rp (C := RX5) (T := TX5) (N := 8) (v := .int (((mgR r g (nlv r)) 3) + g)) (ty := .int) hx hb hT inX5 tyX5 tyX5_ok nmX5 hown hK hSh.1 rfl 6 (by decide) mf_X5_59 rfl (by decide +kernel) rfl rfl (Nat.le_of_ble_eq_true rfl) hS (show _ ∧ _ from ⟨by omega, by omega⟩) dX5_mixGrams_85 (fun H locs h1 o hS => ?_)
              have hSh := hSh.pGrams h1 o
              have e3 : mgR r g (nlv r) 3 = r 3 := mgR_k (by omega)
              rw [e3] at hSh
              refine lv_aload_n hx hb dX5_mixGrams_88 rfl (lv_at hl 1 rfl) ?_
              refine lv_dup hx hb dX5_mixGrams_89 rfl ?_
              refine rg (C := RX5) (T := TX5) (N := 8) (v := .int ((upd (mgR r g (nlv r)) 3 (r 3 + g)) 4)) hx hb hT inX5 hown hK hSh.1 rfl 7 (by decide) mf_X5_62 rfl dX5_mixGrams_90 ?_
              refine lv_iload_n hx hb dX5_mixGrams_93 rfl (lv_at hl 2 rfl) ?_
              refine lv_iload_n hx hb dX5_mixGrams_94 rfl (lv_at hl 0 rfl) ?_
              refine lv_imul hx hb dX5_mixGrams_95 ?_
              refine lv_bipush (v := 100) hx hb dX5_mixGrams_96 (by decide) ?_
              refine lv_idiv hx hb dX5_mixGrams_98 (by decide) ?_
              refine lv_iadd hx hb dX5_mixGrams_99 ?_
              refine rp (C := RX5) (T := TX5) (N := 8) (v := .int (((upd (mgR r g (nlv r)) 3 (r 3 + g)) 4) + ((g * (prS (mgR r g (nlv r)) / 20)) / 100))) (ty := .int) hx hb hT inX5 tyX5 tyX5_ok nmX5 hown hK hSh.1 rfl 7 (by decide) mf_X5_62 rfl (by decide +kernel) rfl rfl (Nat.le_of_ble_eq_true rfl) hS (show _ ∧ _ from ⟨by omega, by omega⟩) dX5_mixGrams_100 (fun H locs h1 o hS => ?_)
              have hSh := hSh.pCoins h1 o
              have e4 : upd (mgR r g (nlv r)) 3 (r 3 + g) 4 = r 4 := (upd_ne (by omega)).trans (mgR_k (by omega))
              rw [e4, mgR_pr hp7] at hSh
              refine lv_iload_n hx hb dX5_mixGrams_103 rfl (lv_at hl 0 rfl) ?_
              exact nd_I hQ hx hb hr hlocks dX5_mixGrams_104 hS (by rw [mxO_3 hg h2, mgR_pr hp7]; exact ⟨rfl, hSh⟩)
            · have hlt : i < nlv r := by
                rw [mgR_5, hnl, nI_leI (by omega) (by omega)] at cd
                omega
              refine lv_aload_n hx hb dX5_mixGrams_43 rfl (lv_at hl 1 rfl) ?_
              refine rg (C := RX5) (T := TX5) (N := 8) (v := .ref (b + 1)) hx hb hT inX5 hown hK hSh.1 rfl 0 (by decide) mf_X5_11 rfl dX5_mixGrams_44 ?_
              refine lv_iload_n hx hb dX5_mixGrams_47 rfl (lv_at hl 0 rfl) ?_
              refine r_aaldS (y := b + 5 + 3 * i) hx hb hK hSh.2.1 rfl rfl i (rfl) (by omega) (Nat.le_of_ble_eq_true rfl) rfl dX5_mixGrams_48 ?_
              refine lv_dup hx hb dX5_mixGrams_49 rfl ?_
              refine rg (C := RX1) (T := TX1) (N := 6) (v := .int ((mgR r g i) (12 + 14 * i + 11))) hx hb hT inX1 hown hK (hSh.leaf (i := i) (by omega)).1 rfl 1 (by decide) mf_X5_99 rfl dX5_mixGrams_50 ?_
              refine lv_aload_n hx hb dX5_mixGrams_53 rfl (lv_at hl 1 rfl) ?_
              refine rg (C := RX5) (T := TX5) (N := 8) (v := .ref (b + 1)) hx hb hT inX5 hown hK hSh.1 rfl 0 (by decide) mf_X5_11 rfl dX5_mixGrams_54 ?_
              refine lv_iload_n hx hb dX5_mixGrams_57 rfl (lv_at hl 0 rfl) ?_
              refine r_aaldS (y := b + 5 + 3 * i) hx hb hK hSh.2.1 rfl rfl i (rfl) (by omega) (Nat.le_of_ble_eq_true rfl) rfl dX5_mixGrams_58 ?_
              refine lv_iload_n hx hb dX5_mixGrams_59 rfl (lv_at hl 2 rfl) ?_
              refine got_i (run_i hx hb hml hown hT hK hl.1 (k_X1_gramsFor l G (b + 5 + 3 * i) (fun k => mgR r g i (12 + 14 * i + k)) g) (cw_X5_118 hT ⟨Nat.le_of_ble_eq_true rfl, Nat.le_of_ble_eq_true rfl⟩) (hSh.leaf (i := i) (by omega)).1 rfl (hSh.leaf (i := i) (by omega)) rfl rfl (Nat.le_of_ble_eq_true rfl) dX5_mixGrams_60 ⟨Nat.zero_le _, Nat.zero_le _⟩) (fun v_5 hv_5 => ?_)
              subst hv_5
              refine lv_isub hx hb dX5_mixGrams_63 ?_
              refine rp (C := RX1) (T := TX1) (N := 6) (v := .int (((mgR r g i) (12 + 14 * i + 11)) - ((g * mgR r g i (12 + 14 * i + 13) + 20 - 1) / 20))) (ty := .int) hx hb hT inX1 tyX1 tyX1_ok nmX1 hown hK (hSh.leaf (i := i) (by omega)).1 rfl 1 (by decide) mf_X5_99 rfl (by decide +kernel) rfl rfl (Nat.le_of_ble_eq_true rfl) hS (show _ ∧ _ from ⟨by omega, by omega⟩) dX5_mixGrams_64 (fun H locs h1 o hS => ?_)
              have hSh := hSh.pStock (by omega) h1 o
              have es : mgR r g i (12 + 14 * i + 13) = shF r i := mgR_k (by omega)
              rw [mgR_st, es] at hSh
              have hSh : ShopAt G b (upd (mgR r g i) (12 + 14 * i + 11) (r (12 + 14 * i + 11) - ndF r i g)) H := hSh
              rw [mgR_s] at hSh
              refine lv_iinc (v := nI (i + 1)) (lv' := [(2, .int (nI (i + 1))), (0, .ref b), (1, .int g)]) hx hb dX5_mixGrams_67 hl (k := 0) rfl (nI_1 i) (by decide) rfl (fun ls hl => ?_)
              refine lv_goto (tgt := 35) hx hb dX5_mixGrams_70 (by decide) ?_
              exact ih (i + 1) _ _ hS (by omega) hSh (by omega) ls (lv_sub hl [0, 1, 2] rfl)
        exact loop (nlv r + 1) 0 _ _ hS (Nat.zero_le _) (by rw [mgR_0]; exact hSh) (by omega) ls (lv_sub hl [0, 1, 2] rfl)
      · refine lv_bipush (v := (-5)) hx hb dX5_mixGrams_30 (by decide) ?_
        exact nd_I hQ hx hb hr hlocks dX5_mixGrams_32 hS (by rw [mxO_2 hg (fun q => bc_e0 c4 q.2)]; exact ⟨rfl, hSh⟩)
  · refine lv_bipush (v := (-2)) hx hb dX5_mixGrams_11 (by decide) ?_
    exact nd_I hQ hx hb hr hlocks dX5_mixGrams_13 hS (by rw [mxO_1 (bi_e0 c2)]; exact ⟨rfl, hSh⟩)


theorem chR_0 {r : Nat → Int32} {i : Nat} {x : Int64} : chR r i x 0 = r := funext fun k => if_neg (by omega)
theorem chR_k {r : Nat → Int32} {i n k : Nat} {x : Int64} (h : ¬ (12 + 14 * i + 1 ≤ k ∧ k < 12 + 14 * i + 1 + n)) : chR r i x n k = r k := if_neg h
theorem chR_s {r : Nat → Int32} {i n : Nat} {x : Int64} : upd (chR r i x n) (12 + 14 * i + (1 + n)) (chF x n) = chR r i x (n + 1) := by
  funext k
  simp only [upd]
  by_cases q : k = 12 + 14 * i + (1 + n)
  · rw [if_pos q]
    subst q
    unfold chR
    rw [if_pos (by omega)]
    congr 1
    omega
  · rw [if_neg q]
    unfold chR
    by_cases h : 12 + 14 * i + 1 ≤ k ∧ k < 12 + 14 * i + 1 + n
    · rw [if_pos h, if_pos (by omega)]
    · rw [if_neg h, if_neg (by omega)]
theorem chR_wf {r : Nat → Int32} {i n : Nat} {x : Int64} (h : WF r) : WF (chR r i x n) := by
  unfold WF
  rw [chR_k (by omega), chR_k (by omega), chR_k (by omega)]
  exact h
theorem rwO_1 {r : Nat → Int32} {x : Int32} {y : Int64} (h : ¬ lfP r x) : rwO r x y = (-1, r) := if_pos h
theorem rwO_2 {r : Nat → Int32} {x : Int32} {y : Int64} (h : lfP r x) (h2 : ¬ chP y) : rwO r x y = (-2, r) := (if_neg (fun q => q h)).trans (if_pos h2)
theorem rwO_3 {r : Nat → Int32} {i : Nat} {y : Int64} (hi : i < 5) (h : lfP r (nI i)) (h2 : chP y) : rwO r (nI i) y = (prF (chR r i y 7) i, chR r i y 7) := by
  refine ((if_neg (fun q => q h)).trans (if_neg (fun q => q h2))).trans ?_
  rw [nIt (by omega)]

set_option maxHeartbeats 4000000 in
set_option maxRecDepth 100000 in
theorem k_X5_changeRow (l : Launch) (G : GG) (b : Nat) (r : Nat → Int32) (x : Int32) (y : Int64) (hw : WF r) : Met l yX5_changeRow (ws_ yX5_changeRow cX5_changeRow 6 (some .int)) (rm_ 2) (PC G [.ref b, .int x, .long y] (ShopAt G b r)) (QI (fun v H => v = (rwO r x y).1 ∧ ShopAt G b (rwO r x y).2 H) (In b 20)) 0 0 (In b 20) := by
  refine met_q (by decide +kernel) (Nat.le_of_ble_eq_true rfl) ?_
  intro p e s m args below meth c Q hQ hx hb hr hT hown hml hlocks hnm hK hSh ls hl
  have hl : lv_has ls 6 [(0, .ref b), (1, .int x), (2, .long y)] := hl
  have hS : va_S (In b 20) s.heap s.heap [] := va_S.rf
  have hn5 := hw.nl5
  refine lv_aload_n hx hb dX5_changeRow_0 rfl (lv_at hl 0 rfl) ?_
  refine lv_iload_n hx hb dX5_changeRow_1 rfl (lv_at hl 1 rfl) ?_
  refine got_i (run_i hx hb hml hown hT hK hl.1 (k_X5_hasLeaf l G b r x) (cw_X5_82 hT ⟨Nat.le_of_ble_eq_true rfl, Nat.le_of_ble_eq_true rfl⟩) hSh.1 rfl hSh rfl rfl (Nat.le_of_ble_eq_true rfl) dX5_changeRow_2 ⟨Nat.zero_le _, Nat.zero_le _⟩) (fun v_1 hv_1 => ?_)
  subst hv_1
  refine lv_if_ne (tgt := 10) hx hb dX5_changeRow_5 (by decide) (fun c1 => ?_) (fun c1 => ?_)
  · have hl1 : lfP r x := bi_n0 c1
    obtain ⟨i, hi, rfl⟩ := lf_ix hw hl1
    refine lv_iconst (v := 0) hx hb dX5_changeRow_10 (by decide) ?_
    refine lv_istore (lv' := [(4, .int 0), (0, .ref b), (1, .int (nI i)), (2, .long y)]) hx hb dX5_changeRow_11 hl (by decide) rfl (fun ls hl => ?_)
    have loop : ∀ (k : Nat) (t : Nat), t ≤ 7 → (∀ j, j < t → -9 ≤ chF y j ∧ chF y j ≤ 9) → 7 - t < k → ∀ ls : Array Slot, lv_has ls 6 [(4, .int (nI t)), (0, .ref b), (1, .int (nI i)), (2, .long y)] → W p l e (rm_ 2) s m args below meth c s.heap [] 0 0 Q (F0 m 13 ls []) := by
      intro k
      induction k with
      | zero => intro t ht hb4 hm; exact absurd hm (Nat.not_lt_zero _)
      | succ k ih =>
        intro t ht hb4 hm ls hl
        refine lv_iload hx hb dX5_changeRow_13 (lv_at hl 0 rfl) ?_
        refine lv_bipush (v := 7) hx hb dX5_changeRow_15 (by decide) ?_
        refine lv_icmp_ge (tgt := 45) hx hb dX5_changeRow_17 (by decide) (fun cd => ?_) (fun cd => ?_)
        · have e7 : t = 7 := by
            have h9 : nI 7 ≤ nI t := cd
            rw [nI_leI (by omega) (by omega)] at h9
            omega
          subst e7
          refine lv_aload_n hx hb dX5_changeRow_45 rfl (lv_at hl 1 rfl) ?_
          refine rg (C := RX5) (T := TX5) (N := 8) (v := .ref (b + 1)) hx hb hT inX5 hown hK hSh.1 rfl 0 (by decide) mf_X5_11 rfl dX5_changeRow_46 ?_
          refine lv_iload_n hx hb dX5_changeRow_49 rfl (lv_at hl 2 rfl) ?_
          refine r_aaldS (y := b + 5 + 3 * i) hx hb hK hSh.2.1 rfl rfl i (rfl) (by omega) (Nat.le_of_ble_eq_true rfl) rfl dX5_changeRow_50 ?_
          refine rg (C := RX1) (T := TX1) (N := 6) (v := .ref (b + 5 + 3 * i + 1)) hx hb hT inX1 hown hK (hSh.leaf (i := i) (by omega)).1 rfl 4 (by decide) mf_X5_90 rfl dX5_changeRow_51 ?_
          refine lv_astore (lv' := [(4, .ref (b + 5 + 3 * i + 1)), (0, .ref b), (1, .int (nI i)), (2, .long y)]) hx hb dX5_changeRow_54 hl (by decide) rfl (fun ls hl => ?_)
          refine lv_iconst (v := 0) hx hb dX5_changeRow_56 (by decide) ?_
          refine lv_istore (lv' := [(5, .int 0), (4, .ref (b + 5 + 3 * i + 1)), (0, .ref b), (1, .int (nI i)), (2, .long y)]) hx hb dX5_changeRow_57 hl (by decide) rfl (fun ls hl => ?_)
          have loop2 : ∀ (k : Nat) (u : Nat) (H : Heap) (locs : List Loc), va_S (In b 20) s.heap H locs → u ≤ 7 → ShopAt G b (chR r i y u) H → 7 - u < k → ∀ ls : Array Slot, lv_has ls 6 [(5, .int (nI u)), (4, .ref (b + 5 + 3 * i + 1)), (0, .ref b), (1, .int (nI i)), (2, .long y)] → W p l e (rm_ 2) s m args below meth c H locs 0 0 Q (F0 m 59 ls []) := by
            intro k
            induction k with
            | zero => intro u H locs hS hu hSh hm; exact absurd hm (Nat.not_lt_zero _)
            | succ k ih =>
              intro u H locs hS hu hSh hm ls hl
              refine lv_iload hx hb dX5_changeRow_59 (lv_at hl 0 rfl) ?_
              refine lv_bipush (v := 7) hx hb dX5_changeRow_61 (by decide) ?_
              refine lv_icmp_ge (tgt := 83) hx hb dX5_changeRow_63 (by decide) (fun cu => ?_) (fun cu => ?_)
              · have e7 : u = 7 := by
                  have h9 : nI 7 ≤ nI u := cu
                  rw [nI_leI (by omega) (by omega)] at h9
                  omega
                subst e7
                refine lv_aload_n hx hb dX5_changeRow_83 rfl (lv_at hl 2 rfl) ?_
                refine lv_iload_n hx hb dX5_changeRow_84 rfl (lv_at hl 3 rfl) ?_
                refine got_i (run_i hx hb hml hown hT hK hl.1 (k_X5_priceOf l G b (chR r i y 7) i (chR_wf hw) (by omega)) (cw_X5_93 hT ⟨Nat.le_of_ble_eq_true rfl, Nat.le_of_ble_eq_true rfl⟩) hSh.1 rfl hSh rfl rfl (Nat.le_of_ble_eq_true rfl) dX5_changeRow_85 ⟨Nat.zero_le _, Nat.zero_le _⟩) (fun v_2 hv_2 => ?_)
                subst hv_2
                exact nd_I hQ hx hb hr hlocks dX5_changeRow_88 hS (by rw [rwO_3 (by omega) hl1 hb4]; exact ⟨rfl, hSh⟩)
              · have h7 : u < 7 := by
                  have h9 : ¬ nI 7 ≤ nI u := cu
                  rw [nI_leI (by omega) (by omega)] at h9
                  omega
                refine lv_aload hx hb dX5_changeRow_66 (lv_at hl 1 rfl) ?_
                refine lv_iload hx hb dX5_changeRow_68 (lv_at hl 0 rfl) ?_
                refine lv_lload_n hx hb dX5_changeRow_70 rfl (lv_at hl 4 rfl) ?_
                refine lv_iload hx hb dX5_changeRow_71 (lv_at hl 0 rfl) ?_
                refine got_i (run_s hx hb hml hown hT hK hl.1 (k_X5_changeIn l G y u) (cw_X5_86 hT ⟨Nat.le_of_ble_eq_true rfl, Nat.le_of_ble_eq_true rfl⟩) trivial rfl rfl (Nat.le_of_ble_eq_true rfl) dX5_changeRow_73 ⟨Nat.zero_le _, Nat.zero_le _⟩) (fun v_3 hv_3 => ?_)
                subst hv_3
                refine r_iast hx hb hK (hSh.leaf (i := i) (by omega)).2.1 u (rfl) (h7) (Nat.le_of_ble_eq_true rfl) hS (show _ ∧ _ from ⟨by omega, by omega⟩) dX5_changeRow_76 (fun H locs h1 o hS => ?_)
                have hSh := hSh.pChange (by omega) h7 h1 o
                rw [chR_s] at hSh
                refine lv_iinc (v := nI (u + 1)) (lv' := [(5, .int (nI (u + 1))), (4, .ref (b + 5 + 3 * i + 1)), (0, .ref b), (1, .int (nI i)), (2, .long y)]) hx hb dX5_changeRow_77 hl (k := 0) rfl (nI_1 u) (by decide) rfl (fun ls hl => ?_)
                refine lv_goto (tgt := 59) hx hb dX5_changeRow_80 (by decide) ?_
                exact ih (u + 1) _ _ hS (by omega) hSh (by omega) ls (lv_sub hl [0, 1, 2, 3, 4] rfl)
          exact loop2 8 0 _ _ hS (by omega) (by rw [chR_0]; exact hSh) (by omega) ls (lv_sub hl [0, 1, 2, 3, 4] rfl)
        · have h7 : t < 7 := by
            have h9 : ¬ nI 7 ≤ nI t := cd
            rw [nI_leI (by omega) (by omega)] at h9
            omega
          refine lv_lload_n hx hb dX5_changeRow_20 rfl (lv_at hl 3 rfl) ?_
          refine lv_iload hx hb dX5_changeRow_21 (lv_at hl 0 rfl) ?_
          refine got_i (run_s hx hb hml hown hT hK hl.1 (k_X5_changeIn l G y t) (cw_X5_86 hT ⟨Nat.le_of_ble_eq_true rfl, Nat.le_of_ble_eq_true rfl⟩) trivial rfl rfl (Nat.le_of_ble_eq_true rfl) dX5_changeRow_23 ⟨Nat.zero_le _, Nat.zero_le _⟩) (fun v_4 hv_4 => ?_)
          subst hv_4
          refine lv_bipush (v := (-9)) hx hb dX5_changeRow_26 (by decide) ?_
          refine lv_bipush (v := 9) hx hb dX5_changeRow_28 (by decide) ?_
          refine got_i (run_s hx hb hml hown hT hK hl.1 (k_X5_isWithin l G (chF y t) (-9) 9) (cw_X5_71 hT ⟨Nat.le_of_ble_eq_true rfl, Nat.le_of_ble_eq_true rfl⟩) trivial rfl rfl (Nat.le_of_ble_eq_true rfl) dX5_changeRow_30 ⟨Nat.zero_le _, Nat.zero_le _⟩) (fun v_5 hv_5 => ?_)
          subst hv_5
          refine lv_if_ne (tgt := 39) hx hb dX5_changeRow_33 (by decide) (fun cw => ?_) (fun cw => ?_)
          · refine lv_iinc (v := nI (t + 1)) (lv' := [(4, .int (nI (t + 1))), (0, .ref b), (1, .int (nI i)), (2, .long y)]) hx hb dX5_changeRow_39 hl (k := 0) rfl (nI_1 t) (by decide) rfl (fun ls hl => ?_)
            refine lv_goto (tgt := 13) hx hb dX5_changeRow_42 (by decide) ?_
            exact ih (t + 1) (by omega) (lt_s hb4 (bi_n0 cw)) (by omega) ls (lv_sub hl [0, 1, 2, 3] rfl)
          · refine lv_bipush (v := (-2)) hx hb dX5_changeRow_36 (by decide) ?_
            exact nd_I hQ hx hb hr hlocks dX5_changeRow_38 hS (by rw [rwO_2 hl1 (fun q => bi_e0 cw (q t h7))]; exact ⟨rfl, hSh⟩)
    exact loop 8 0 (by omega) (fun j hj => absurd hj (Nat.not_lt_zero _)) (by omega) ls (lv_sub hl [0, 1, 2, 3] rfl)
  · refine lv_iconst (v := (-1)) hx hb dX5_changeRow_8 (by decide) ?_
    exact nd_I hQ hx hb hr hlocks dX5_changeRow_9 hS (by rw [rwO_1 (bi_e0 c1)]; exact ⟨rfl, hSh⟩)


theorem adO_1 {r : Nat → Int32} {p a b c st : Int32} (h : ¬ lfOk p a b c st) : adO r p a b c st = (-2, r) := if_pos h
theorem adO_2 {r : Nat → Int32} {p a b c st : Int32} (h : lfOk p a b c st) (h2 : 5 ≤ nlv r) : adO r p a b c st = (-4, r) := (if_neg (fun q => q h)).trans (if_pos h2)
theorem adO_3 {r : Nat → Int32} {p a b c st : Int32} (h : lfOk p a b c st) (h2 : ¬ 5 ≤ nlv r) : adO r p a b c st = (nI (nlv r), adR r (nlv r) p a b c st) := (if_neg (fun q => q h)).trans (if_neg h2)

set_option maxHeartbeats 4000000 in
set_option maxRecDepth 100000 in
theorem k_X5_addLeaf (l : Launch) (G : GG) (b : Nat) (r : Nat → Int32) (x t0 t1 t2 st : Int32) (hw : WF r) : Met l yX5_addLeaf (ws_ yX5_addLeaf cX5_addLeaf 8 (some .int)) (rm_ 2) (PC G [.ref b, .int x, .int t0, .int t1, .int t2, .int st] (ShopAt G b r)) (QI (fun v H => v = (adO r x t0 t1 t2 st).1 ∧ ShopAt G b (adO r x t0 t1 t2 st).2 H) (In b 20)) 0 0 (In b 20) := by
  refine met_q (by decide +kernel) (Nat.le_of_ble_eq_true rfl) ?_
  intro p e s m args below meth c Q hQ hx hb hr hT hown hml hlocks hnm hK hSh ls hl
  have hl : lv_has ls 8 [(0, .ref b), (1, .int x), (2, .int t0), (3, .int t1), (4, .int t2), (5, .int st)] := hl
  have hS : va_S (In b 20) s.heap s.heap [] := va_S.rf
  have hn5 := hw.nl5
  have hnl := hw.nl
  refine lv_iload_n hx hb dX5_addLeaf_0 rfl (lv_at hl 2 rfl) ?_
  refine lv_iconst (v := 0) hx hb dX5_addLeaf_1 (by decide) ?_
  refine lv_bipush (v := 100) hx hb dX5_addLeaf_2 (by decide) ?_
  refine got_i (run_s hx hb hml hown hT hK hl.1 (k_X5_isWithin l G t0 0 100) (cw_X5_71 hT ⟨Nat.le_of_ble_eq_true rfl, Nat.le_of_ble_eq_true rfl⟩) trivial rfl rfl (Nat.le_of_ble_eq_true rfl) dX5_addLeaf_4 ⟨Nat.zero_le _, Nat.zero_le _⟩) (fun v_1 hv_1 => ?_)
  subst hv_1
  refine lv_if_eq (tgt := 35) hx hb dX5_addLeaf_7 (by decide) (fun d1 => ?_) (fun d1 => ?_)
  · refine lv_iconst (v := 0) hx hb dX5_addLeaf_35 (by decide) ?_
    refine lv_istore (lv' := [(6, .int 0), (0, .ref b), (1, .int x), (2, .int t0), (3, .int t1), (4, .int t2), (5, .int st)]) hx hb dX5_addLeaf_36 hl (by decide) rfl (fun ls hl => ?_)
    refine lv_iload hx hb dX5_addLeaf_38 (lv_at hl 0 rfl) ?_
    refine lv_if_eq (tgt := 66) hx hb dX5_addLeaf_40 (by decide) (fun cz => ?_) (fun cz => ?_)
    · refine lv_bipush (v := (-2)) hx hb dX5_addLeaf_66 (by decide) ?_
      exact nd_I hQ hx hb hr hlocks dX5_addLeaf_68 hS (by rw [adO_1 (fun q => bi_e0 d1 q.1.1)]; exact ⟨rfl, hSh⟩)
    · exact absurd rfl cz
  · refine lv_iload_n hx hb dX5_addLeaf_10 rfl (lv_at hl 3 rfl) ?_
    refine lv_iconst (v := 0) hx hb dX5_addLeaf_11 (by decide) ?_
    refine lv_bipush (v := 100) hx hb dX5_addLeaf_12 (by decide) ?_
    refine got_i (run_s hx hb hml hown hT hK hl.1 (k_X5_isWithin l G t1 0 100) (cw_X5_71 hT ⟨Nat.le_of_ble_eq_true rfl, Nat.le_of_ble_eq_true rfl⟩) trivial rfl rfl (Nat.le_of_ble_eq_true rfl) dX5_addLeaf_14 ⟨Nat.zero_le _, Nat.zero_le _⟩) (fun v_2 hv_2 => ?_)
    subst hv_2
    refine lv_if_eq (tgt := 35) hx hb dX5_addLeaf_17 (by decide) (fun d2 => ?_) (fun d2 => ?_)
    · refine lv_iconst (v := 0) hx hb dX5_addLeaf_35 (by decide) ?_
      refine lv_istore (lv' := [(6, .int 0), (0, .ref b), (1, .int x), (2, .int t0), (3, .int t1), (4, .int t2), (5, .int st)]) hx hb dX5_addLeaf_36 hl (by decide) rfl (fun ls hl => ?_)
      refine lv_iload hx hb dX5_addLeaf_38 (lv_at hl 0 rfl) ?_
      refine lv_if_eq (tgt := 66) hx hb dX5_addLeaf_40 (by decide) (fun cz => ?_) (fun cz => ?_)
      · refine lv_bipush (v := (-2)) hx hb dX5_addLeaf_66 (by decide) ?_
        exact nd_I hQ hx hb hr hlocks dX5_addLeaf_68 hS (by rw [adO_1 (fun q => bi_e0 d2 q.1.2.1)]; exact ⟨rfl, hSh⟩)
      · exact absurd rfl cz
    · refine lv_iload hx hb dX5_addLeaf_20 (lv_at hl 4 rfl) ?_
      refine lv_iconst (v := 0) hx hb dX5_addLeaf_22 (by decide) ?_
      refine lv_bipush (v := 100) hx hb dX5_addLeaf_23 (by decide) ?_
      refine got_i (run_s hx hb hml hown hT hK hl.1 (k_X5_isWithin l G t2 0 100) (cw_X5_71 hT ⟨Nat.le_of_ble_eq_true rfl, Nat.le_of_ble_eq_true rfl⟩) trivial rfl rfl (Nat.le_of_ble_eq_true rfl) dX5_addLeaf_25 ⟨Nat.zero_le _, Nat.zero_le _⟩) (fun v_3 hv_3 => ?_)
      subst hv_3
      refine lv_if_eq (tgt := 35) hx hb dX5_addLeaf_28 (by decide) (fun d3 => ?_) (fun d3 => ?_)
      · refine lv_iconst (v := 0) hx hb dX5_addLeaf_35 (by decide) ?_
        refine lv_istore (lv' := [(6, .int 0), (0, .ref b), (1, .int x), (2, .int t0), (3, .int t1), (4, .int t2), (5, .int st)]) hx hb dX5_addLeaf_36 hl (by decide) rfl (fun ls hl => ?_)
        refine lv_iload hx hb dX5_addLeaf_38 (lv_at hl 0 rfl) ?_
        refine lv_if_eq (tgt := 66) hx hb dX5_addLeaf_40 (by decide) (fun cz => ?_) (fun cz => ?_)
        · refine lv_bipush (v := (-2)) hx hb dX5_addLeaf_66 (by decide) ?_
          exact nd_I hQ hx hb hr hlocks dX5_addLeaf_68 hS (by rw [adO_1 (fun q => bi_e0 d3 q.1.2.2)]; exact ⟨rfl, hSh⟩)
        · exact absurd rfl cz
      · refine lv_iconst (v := 1) hx hb dX5_addLeaf_31 (by decide) ?_
        refine lv_goto (tgt := 36) hx hb dX5_addLeaf_32 (by decide) ?_
        refine lv_istore (lv' := [(6, .int 1), (0, .ref b), (1, .int x), (2, .int t0), (3, .int t1), (4, .int t2), (5, .int st)]) hx hb dX5_addLeaf_36 hl (by decide) rfl (fun ls hl => ?_)
        refine lv_iload hx hb dX5_addLeaf_38 (lv_at hl 0 rfl) ?_
        refine lv_if_eq (tgt := 66) hx hb dX5_addLeaf_40 (by decide) (fun cz => ?_) (fun cz => ?_)
        · exact absurd cz (by decide)
        · refine lv_iload_n hx hb dX5_addLeaf_43 rfl (lv_at hl 2 rfl) ?_
          refine lv_iconst (v := 0) hx hb dX5_addLeaf_44 (by decide) ?_
          refine lv_sipush (v := 999) hx hb dX5_addLeaf_45 (by decide) ?_
          refine got_i (run_s hx hb hml hown hT hK hl.1 (k_X5_isWithin l G x 0 999) (cw_X5_71 hT ⟨Nat.le_of_ble_eq_true rfl, Nat.le_of_ble_eq_true rfl⟩) trivial rfl rfl (Nat.le_of_ble_eq_true rfl) dX5_addLeaf_48 ⟨Nat.zero_le _, Nat.zero_le _⟩) (fun v_4 hv_4 => ?_)
          subst hv_4
          refine lv_if_eq (tgt := 66) hx hb dX5_addLeaf_51 (by decide) (fun d4 => ?_) (fun d4 => ?_)
          · refine lv_bipush (v := (-2)) hx hb dX5_addLeaf_66 (by decide) ?_
            exact nd_I hQ hx hb hr hlocks dX5_addLeaf_68 hS (by rw [adO_1 (fun q => bi_e0 d4 q.2.1)]; exact ⟨rfl, hSh⟩)
          · refine lv_iload hx hb dX5_addLeaf_54 (lv_at hl 6 rfl) ?_
            refine lv_iconst (v := 0) hx hb dX5_addLeaf_56 (by decide) ?_
            refine lv_sipush (v := 9999) hx hb dX5_addLeaf_57 (by decide) ?_
            refine got_i (run_s hx hb hml hown hT hK hl.1 (k_X5_isWithin l G st 0 9999) (cw_X5_71 hT ⟨Nat.le_of_ble_eq_true rfl, Nat.le_of_ble_eq_true rfl⟩) trivial rfl rfl (Nat.le_of_ble_eq_true rfl) dX5_addLeaf_60 ⟨Nat.zero_le _, Nat.zero_le _⟩) (fun v_5 hv_5 => ?_)
            subst hv_5
            refine lv_if_ne (tgt := 69) hx hb dX5_addLeaf_63 (by decide) (fun d5 => ?_) (fun d5 => ?_)
            · have hok : lfOk x t0 t1 t2 st := ⟨⟨bi_n0 d1, bi_n0 d2, bi_n0 d3⟩, bi_n0 d4, bi_n0 d5⟩
              refine lv_aload_n hx hb dX5_addLeaf_69 rfl (lv_at hl 1 rfl) ?_
              refine rg (C := RX5) (T := TX5) (N := 8) (v := .int (r 5)) hx hb hT inX5 hown hK hSh.1 rfl 4 (by decide) mf_X5_52 rfl dX5_addLeaf_70 ?_
              refine lv_iconst (v := 5) hx hb dX5_addLeaf_73 (by decide) ?_
              refine lv_icmp_lt (tgt := 80) hx hb dX5_addLeaf_74 (by decide) (fun d6 => ?_) (fun d6 => ?_)
              · have h5 : nlv r < 5 := by
                  have h9 : r 5 < nI 5 := d6
                  rw [hnl, nI_ltI (by omega) (by omega)] at h9
                  exact h9
                obtain ⟨n, hn⟩ : ∃ n, n = nlv r := ⟨_, rfl⟩
                rw [← hn] at hn5 h5 hnl
                refine lv_aload_n hx hb dX5_addLeaf_80 rfl (lv_at hl 1 rfl) ?_
                refine rg (C := RX5) (T := TX5) (N := 8) (v := .ref (b + 1)) hx hb hT inX5 hown hK hSh.1 rfl 0 (by decide) mf_X5_11 rfl dX5_addLeaf_81 ?_
                refine lv_aload_n hx hb dX5_addLeaf_84 rfl (lv_at hl 1 rfl) ?_
                refine rg (C := RX5) (T := TX5) (N := 8) (v := .int (r 5)) hx hb hT inX5 hown hK hSh.1 rfl 4 (by decide) mf_X5_52 rfl dX5_addLeaf_85 ?_
                refine r_aaldS (y := b + 5 + 3 * n) hx hb hK hSh.2.1 rfl rfl n (hnl) (h5) (Nat.le_of_ble_eq_true rfl) rfl dX5_addLeaf_88 ?_
                refine lv_astore (lv' := [(7, .ref (b + 5 + 3 * n)), (6, .int 1), (0, .ref b), (1, .int x), (2, .int t0), (3, .int t1), (4, .int t2), (5, .int st)]) hx hb dX5_addLeaf_89 hl (by decide) rfl (fun ls hl => ?_)
                refine lv_aload hx hb dX5_addLeaf_91 (lv_at hl 0 rfl) ?_
                refine lv_iload_n hx hb dX5_addLeaf_93 rfl (lv_at hl 3 rfl) ?_
                refine lv_iload hx hb dX5_addLeaf_94 (lv_at hl 7 rfl) ?_
                refine got_V (run_i hx hb hml hown hT hK hl.1 (k_X1_comeFresh l G (b + 5 + 3 * n) (fun k => r (12 + 14 * n + k)) x st) (cw_X5_75 hT ⟨Nat.le_of_ble_eq_true rfl, Nat.le_of_ble_eq_true rfl⟩) (hSh.leaf (i := n) h5).1 rfl (hSh.leaf (i := n) h5) rfl rfl (Nat.le_of_ble_eq_true rfl) dX5_addLeaf_96 ⟨Nat.zero_le _, Nat.zero_le _⟩) hS (fun q (hq : _ ∧ _) => show _ ∧ _ from ⟨by omega, by omega⟩) (fun q (hq : _ ∧ _) => show _ ∧ _ from ⟨by omega, by omega⟩) (fun  H locs h1 hz hk hS => ?_)
                obtain ⟨r1, er1⟩ : ∃ r1, r1 = (fun k => if 12 + 14 * n ≤ k ∧ k < 26 + 14 * n then cfF (fun k => r (12 + 14 * n + k)) x st (k - (12 + 14 * n)) else r k) := ⟨_, rfl⟩
                have hSh : ShopAt G b r1 H := by
                  rw [er1]
                  refine hSh.putLeaf h5 (h1.ext (fun k hk => ?_)) (fun q hq hlt => hk q hlt (fun w => by have w : b + 5 + 3 * n ≤ q ∧ q < b + 5 + 3 * n + 3 := w; omega)) (fun k _ hk => if_neg (by omega))
                  rw [if_pos (by omega)]
                  congr 1
                  omega
                have e15 : r1 5 = nI n := by rw [er1, ← hnl]; exact if_neg (by omega)
                refine lv_aload hx hb dX5_addLeaf_99 (lv_at hl 0 rfl) ?_
                refine rg (C := RX1) (T := TX1) (N := 6) (v := .ref (b + 5 + 3 * n + 2)) hx hb hT inX1 hown hK (hSh.leaf (i := n) (by omega)).1 rfl 5 (by decide) mf_X5_79 rfl dX5_addLeaf_101 ?_
                refine lv_iconst (v := 0) hx hb dX5_addLeaf_104 (by decide) ?_
                refine lv_iload_n hx hb dX5_addLeaf_105 rfl (lv_at hl 4 rfl) ?_
                refine r_iast hx hb hK (hSh.leaf (i := n) (by omega)).2.2 0 (by decide) (by omega) (Nat.le_of_ble_eq_true rfl) hS (show _ ∧ _ from ⟨by omega, by omega⟩) dX5_addLeaf_106 (fun H locs h1 o hS => ?_)
                have hSh := hSh.pFresh h5 (k := 0) (by omega) h1 o
                refine lv_aload hx hb dX5_addLeaf_107 (lv_at hl 0 rfl) ?_
                refine rg (C := RX1) (T := TX1) (N := 6) (v := .ref (b + 5 + 3 * n + 2)) hx hb hT inX1 hown hK (hSh.leaf (i := n) (by omega)).1 rfl 5 (by decide) mf_X5_79 rfl dX5_addLeaf_109 ?_
                refine lv_iconst (v := 1) hx hb dX5_addLeaf_112 (by decide) ?_
                refine lv_iload_n hx hb dX5_addLeaf_113 rfl (lv_at hl 5 rfl) ?_
                refine r_iast hx hb hK (hSh.leaf (i := n) (by omega)).2.2 1 (by decide) (by omega) (Nat.le_of_ble_eq_true rfl) hS (show _ ∧ _ from ⟨by omega, by omega⟩) dX5_addLeaf_114 (fun H locs h1 o hS => ?_)
                have hSh := hSh.pFresh h5 (k := 1) (by omega) h1 o
                refine lv_aload hx hb dX5_addLeaf_115 (lv_at hl 0 rfl) ?_
                refine rg (C := RX1) (T := TX1) (N := 6) (v := .ref (b + 5 + 3 * n + 2)) hx hb hT inX1 hown hK (hSh.leaf (i := n) (by omega)).1 rfl 5 (by decide) mf_X5_79 rfl dX5_addLeaf_117 ?_
                refine lv_iconst (v := 2) hx hb dX5_addLeaf_120 (by decide) ?_
                refine lv_iload hx hb dX5_addLeaf_121 (lv_at hl 6 rfl) ?_
                refine r_iast hx hb hK (hSh.leaf (i := n) (by omega)).2.2 2 (by decide) (by omega) (Nat.le_of_ble_eq_true rfl) hS (show _ ∧ _ from ⟨by omega, by omega⟩) dX5_addLeaf_123 (fun H locs h1 o hS => ?_)
                have hSh := hSh.pFresh h5 (k := 2) (by omega) h1 o
                obtain ⟨r2, er2⟩ : ∃ r2, r2 = upd (upd (upd r1 (12 + 14 * n + (8 + 0)) t0) (12 + 14 * n + (8 + 1)) t1) (12 + 14 * n + (8 + 2)) t2 := ⟨_, rfl⟩
                rw [← er2] at hSh
                have e25 : r2 5 = nI n := by rw [er2, upd_ne (by omega), upd_ne (by omega), upd_ne (by omega)]; exact e15
                refine lv_aload_n hx hb dX5_addLeaf_124 rfl (lv_at hl 2 rfl) ?_
                refine lv_dup hx hb dX5_addLeaf_125 rfl ?_
                refine rg (C := RX5) (T := TX5) (N := 8) (v := .int (r2 5)) hx hb hT inX5 hown hK hSh.1 rfl 4 (by decide) mf_X5_52 rfl dX5_addLeaf_126 ?_
                refine lv_iconst (v := 1) hx hb dX5_addLeaf_129 (by decide) ?_
                refine lv_iadd hx hb dX5_addLeaf_130 ?_
                refine rp (C := RX5) (T := TX5) (N := 8) (v := .int ((r2 5) + 1)) (ty := .int) hx hb hT inX5 tyX5 tyX5_ok nmX5 hown hK hSh.1 rfl 4 (by decide) mf_X5_52 rfl (by decide +kernel) rfl rfl (Nat.le_of_ble_eq_true rfl) hS (show _ ∧ _ from ⟨by omega, by omega⟩) dX5_addLeaf_131 (fun H locs h1 o hS => ?_)
                have hSh := hSh.pLeaves h1 o
                refine lv_aload_n hx hb dX5_addLeaf_134 rfl (lv_at hl 2 rfl) ?_
                refine rg (C := RX5) (T := TX5) (N := 8) (v := .int ((upd r2 5 (r2 5 + 1)) 5)) hx hb hT inX5 hown hK hSh.1 rfl 4 (by decide) mf_X5_52 rfl dX5_addLeaf_135 ?_
                refine lv_iconst (v := 1) hx hb dX5_addLeaf_138 (by decide) ?_
                refine lv_isub hx hb dX5_addLeaf_139 ?_
                have ev : upd r2 5 (r2 5 + 1) 5 - 1 = nI n := by
                  rw [upd_eq, e25, nI_1]
                  exact nI_pred n
                exact nd_I hQ hx hb hr hlocks dX5_addLeaf_140 hS (by
        rw [adO_3 hok (by omega), ← hn]
        refine ⟨ev, hSh.ext (fun k hk => ?_)⟩
        show upd r2 5 (r2 5 + 1) k = adR r n x t0 t1 t2 st k
        unfold adR
        by_cases q5 : k = 5
        · rw [if_pos q5, q5, upd_eq, e25, nI_1]
        · rw [if_neg q5, upd_ne q5, er2]
          by_cases q : 12 + 14 * n ≤ k ∧ k < 26 + 14 * n
          · rw [if_pos q]
            obtain ⟨j, hj⟩ : ∃ j, j = k - (12 + 14 * n) := ⟨_, rfl⟩
            have ek : k = 12 + 14 * n + j := by omega
            rw [← hj]
            subst ek
            unfold lfN
            simp only [upd, er1]
            rw [if_pos q, ← hj]
            unfold cfF
            have hj14 : j < 14 := by omega
            have hcases : j = 0 ∨ j = 8 ∨ j = 9 ∨ j = 10 ∨ j = 11 ∨ (j ≠ 0 ∧ j < 8) ∨ 12 ≤ j := by omega
            rcases hcases with z | z | z | z | z | z | z
            all_goals (first | (subst z; simp <;> omega) | (simp only [show ¬ j = 0 by omega, show ¬ j = 8 by omega, show ¬ j = 9 by omega, show ¬ j = 10 by omega, show ¬ j = 11 by omega, if_false, if_true, show ¬ 12 + 14 * n + j = 12 + 14 * n + (8 + 0) by omega, show ¬ 12 + 14 * n + j = 12 + 14 * n + (8 + 1) by omega, show ¬ 12 + 14 * n + j = 12 + 14 * n + (8 + 2) by omega]; first | rw [if_pos z.2] | rw [if_neg (by omega), if_pos z]))
          · rw [if_neg q, upd_ne (by omega), upd_ne (by omega), upd_ne (by omega), er1]
            exact if_neg q)
              · refine lv_bipush (v := (-4)) hx hb dX5_addLeaf_77 (by decide) ?_
                have h5 : 5 ≤ nlv r := by
                  have h9 : ¬ r 5 < nI 5 := d6
                  rw [hnl, nI_ltI (by omega) (by omega)] at h9
                  omega
                exact nd_I hQ hx hb hr hlocks dX5_addLeaf_79 hS (by rw [adO_2 hok h5]; exact ⟨rfl, hSh⟩)
            · refine lv_bipush (v := (-2)) hx hb dX5_addLeaf_66 (by decide) ?_
              exact nd_I hQ hx hb hr hlocks dX5_addLeaf_68 hS (by rw [adO_1 (fun q => bi_e0 d5 q.2.2)]; exact ⟨rfl, hSh⟩)
end
section
/-! a copy of a shop; the history -/
def updA (r : Nat → Int32) (lo n : Nat) (g : Nat → Int32) : Nat → Int32 := fun k => if lo ≤ k ∧ k < lo + n then g (k - lo) else r k
theorem ShopAt.pLowA {G : GG} {b : Nat} {r g : Nat → Int32} {H H1 : Heap} (h : ShopAt G b r H) (h1 : ar G 0 (b + 2) (iA 3 g) H1) (o : Oq (b + 2) H H1) : ShopAt G b (updA r 6 3 g) H1 :=
  h.pArr (Or.inl rfl) o (fun _ => iA_ext h1 (fun j hj => by unfold updA; rw [if_pos (by omega)]; congr 1; omega)) (fun q => by omega) (fun q => by omega) (fun j _ h2 _ _ => if_neg (by have := h2 rfl; omega))
theorem ShopAt.pHighA {G : GG} {b : Nat} {r g : Nat → Int32} {H H1 : Heap} (h : ShopAt G b r H) (h1 : ar G 0 (b + 3) (iA 3 g) H1) (o : Oq (b + 3) H H1) : ShopAt G b (updA r 9 3 g) H1 :=
  h.pArr (Or.inr (Or.inl rfl)) o (fun q => by omega) (fun _ => iA_ext h1 (fun j hj => by unfold updA; rw [if_pos (by omega)]; congr 1; omega)) (fun q => by omega) (fun j _ _ h2 _ => if_neg (by have := h2 rfl; omega))
theorem ShopAt.pSetA {G : GG} {b : Nat} {r g : Nat → Int32} {H H1 : Heap} (h : ShopAt G b r H) (h1 : ar G 0 (b + 4) (iA 2 g) H1) (o : Oq (b + 4) H H1) : ShopAt G b (updA r 0 2 g) H1 :=
  h.pArr (Or.inr (Or.inr rfl)) o (fun q => by omega) (fun q => by omega) (fun _ => iA_ext h1 (fun j hj => by unfold updA; rw [if_pos (by omega)]; congr 1)) (fun j _ _ _ h2 => if_neg (by have := h2 rfl; omega))
def cpR (r r2 : Nat → Int32) (n : Nat) : Nat → Int32 := fun k => if 12 ≤ k ∧ k < 12 + 14 * n then r2 k else r k
theorem cpR_0 {r r2 : Nat → Int32} : cpR r r2 0 = r := funext fun k => if_neg (by omega)
/-! History: the object, the array, seven shops from h + 2 on -/
def HistAt (G : GG) (h : Nat) (T : Nat → Nat → Int32) (nx kp : Nat) (H : Heap) : Prop :=
  ob G 0 h [.ref (h + 1), .int (nI nx), .int (nI kp)] H ∧ ar G 4 (h + 1) (qA 7 (fun i => some (h + 2 + 20 * i))) H ∧ ∀ i, i < 7 → ShopAt G (h + 2 + 20 * i) (T i) H
def updT (T : Nat → Nat → Int32) (i : Nat) (r : Nat → Int32) : Nat → Nat → Int32 := fun j => if j = i then r else T j
theorem HistAt.kept {G : GG} {h nx kp : Nat} {T : Nat → Nat → Int32} {H H1 : Heap} (x : HistAt G h T nx kp H) (e : ∀ q, h ≤ q → q < h + 142 → H1[q]? = H[q]?) : HistAt G h T nx kp H1 :=
  ⟨x.1.kept (e _ (by omega) (by omega)), x.2.1.kept (e _ (by omega) (by omega)), fun i hi => (x.2.2 i hi).kept (fun q _ _ => e q (by omega) (by omega))⟩
theorem HistAt.pObj {G : GG} {h nx kp nx' kp' : Nat} {T : Nat → Nat → Int32} {H H1 : Heap} (x : HistAt G h T nx kp H) (h1 : ob G 0 h [.ref (h + 1), .int (nI nx'), .int (nI kp')] H1) (o : Oq h H H1) : HistAt G h T nx' kp' H1 :=
  ⟨h1, x.2.1.kept (o.2 _ (by omega)), fun i hi => (x.2.2 i hi).kept (fun q _ _ => o.2 q (by omega))⟩
theorem HistAt.pShop {G : GG} {h nx kp i : Nat} {T : Nat → Nat → Int32} {r : Nat → Int32} {H H1 : Heap} (x : HistAt G h T nx kp H) (hi : i < 7) (h1 : ShopAt G (h + 2 + 20 * i) r H1) (o : ∀ q, q < H.size → ¬ In (h + 2 + 20 * i) 20 q → H1[q]? = H[q]?) : HistAt G h (updT T i r) nx kp H1 := by
  have w : ∀ q, q < H.size → (q < h + 2 + 20 * i ∨ h + 22 + 20 * i ≤ q) → H1[q]? = H[q]? := fun q hq hz => o q hq (fun (z : _ ∧ _) => by omega)
  have hz := (x.2.2 6 (by omega)).leaf (i := 4) (by omega)
  have hlt := hz.2.2.lt
  refine ⟨x.1.kept (w _ (by omega) (by omega)), x.2.1.kept (w _ (by omega) (by omega)), fun j hj => ?_⟩
  by_cases q : j = i
  · subst q
    unfold updT
    rw [if_pos rfl]
    exact h1
  · unfold updT
    rw [if_neg q]
    exact (x.2.2 j hj).kept (fun q' _ _ => w q' (by omega) (by omega))

set_option maxHeartbeats 4000000 in
set_option maxRecDepth 100000 in
theorem k_X5_copyFrom (l : Launch) (G : GG) (b b2 : Nat) (r r2 : Nat → Int32) (hne : b + 20 ≤ b2 ∨ b2 + 20 ≤ b) : Met l yX5_copyFrom (ws_ yX5_copyFrom cX5_copyFrom 3 (none : Option Jvm.ClassFile.FieldType)) (rm_ 2) (PC G [.ref b, .ref b2] (fun H => ShopAt G b r H ∧ ShopAt G b2 r2 H)) (QV (ShopAt G b r2) (In b 20)) 0 0 (In b 20) := by
  refine met_q (by decide +kernel) (Nat.le_of_ble_eq_true rfl) ?_
  intro p e s m args below meth c Q hQ hx hb hr hT hown hml hlocks hnm hK ⟨hSh, hS2⟩ ls hl
  have hl : lv_has ls 3 [(0, .ref b), (1, .ref b2)] := hl
  have hS : va_S (In b 20) s.heap s.heap [] := va_S.rf
  refine lv_iconst (v := 0) hx hb dX5_copyFrom_0 (by decide) ?_
  refine lv_istore_n (lv' := [(2, .int 0), (0, .ref b), (1, .ref b2)]) hx hb dX5_copyFrom_1 rfl hl (by decide) rfl (fun ls hl => ?_)
  have loop : ∀ (k : Nat) (i : Nat) (H : Heap) (locs : List Loc), va_S (In b 20) s.heap H locs → i ≤ 5 → ShopAt G b (cpR r r2 i) H → ShopAt G b2 r2 H → 5 - i < k → ∀ ls : Array Slot, lv_has ls 3 [(2, .int (nI i)), (0, .ref b), (1, .ref b2)] → W p l e (rm_ 2) s m args below meth c H locs 0 0 Q (F0 m 2 ls []) := by
    intro k
    induction k with
    | zero => intro i H locs hS hi hSh hS2 hm; exact absurd hm (Nat.not_lt_zero _)
    | succ k ih =>
      intro i H locs hS hi hSh hS2 hm ls hl
      refine lv_iload_n hx hb dX5_copyFrom_2 rfl (lv_at hl 0 rfl) ?_
      refine lv_iconst (v := 5) hx hb dX5_copyFrom_3 (by decide) ?_
      refine lv_icmp_ge (tgt := 28) hx hb dX5_copyFrom_4 (by decide) (fun cd => ?_) (fun cd => ?_)
      · have e5 : i = 5 := by
          have h9 : nI 5 ≤ nI i := cd
          rw [nI_leI (by omega) (by omega)] at h9
          omega
        subst e5
        refine lv_aload_n hx hb dX5_copyFrom_28 rfl (lv_at hl 2 rfl) ?_
        refine rg (C := RX5) (T := TX5) (N := 8) (v := .ref (b2 + 2)) hx hb hT inX5 hown hK hS2.1 rfl 1 (by decide) mf_X5_17 rfl dX5_copyFrom_29 ?_
        refine lv_iconst (v := 0) hx hb dX5_copyFrom_32 (by decide) ?_
        refine lv_aload_n hx hb dX5_copyFrom_33 rfl (lv_at hl 1 rfl) ?_
        refine rg (C := RX5) (T := TX5) (N := 8) (v := .ref (b + 2)) hx hb hT inX5 hown hK hSh.1 rfl 1 (by decide) mf_X5_17 rfl dX5_copyFrom_34 ?_
        refine lv_iconst (v := 0) hx hb dX5_copyFrom_37 (by decide) ?_
        refine lv_iconst (v := 3) hx hb dX5_copyFrom_38 (by decide) ?_
        refine r_copy hx hb (hml.trans hl.1.symm) hown hT mm_X5_46 hK hS2.2.2.1 hSh.2.2.1 0 0 3 (by decide) (by decide) (by decide) (by omega) (by omega) (Nat.le_of_ble_eq_true rfl) (Nat.le_of_ble_eq_true rfl) hS (show _ ∧ _ from ⟨by omega, by omega⟩) (Nat.le_of_ble_eq_true rfl) (Nat.le_of_ble_eq_true rfl) dX5_copyFrom_39 (fun H locs h1 o hS => ?_)
        have hSh := hSh.pLowA h1 o
        have hS2 := hS2.kept (fun q _ _ => o.2 q (by omega))
        obtain ⟨r3, er3⟩ : ∃ z, z = updA (cpR r r2 5) 6 3 (va_cpy (fun j => r2 (6 + j)) (fun j => cpR r r2 5 (6 + j)) 0 0 3) := ⟨_, rfl⟩
        rw [← er3] at hSh
        refine lv_aload_n hx hb dX5_copyFrom_42 rfl (lv_at hl 2 rfl) ?_
        refine rg (C := RX5) (T := TX5) (N := 8) (v := .ref (b2 + 3)) hx hb hT inX5 hown hK hS2.1 rfl 2 (by decide) mf_X5_21 rfl dX5_copyFrom_43 ?_
        refine lv_iconst (v := 0) hx hb dX5_copyFrom_46 (by decide) ?_
        refine lv_aload_n hx hb dX5_copyFrom_47 rfl (lv_at hl 1 rfl) ?_
        refine rg (C := RX5) (T := TX5) (N := 8) (v := .ref (b + 3)) hx hb hT inX5 hown hK hSh.1 rfl 2 (by decide) mf_X5_21 rfl dX5_copyFrom_48 ?_
        refine lv_iconst (v := 0) hx hb dX5_copyFrom_51 (by decide) ?_
        refine lv_iconst (v := 3) hx hb dX5_copyFrom_52 (by decide) ?_
        refine r_copy hx hb (hml.trans hl.1.symm) hown hT mm_X5_46 hK hS2.2.2.2.1 hSh.2.2.2.1 0 0 3 (by decide) (by decide) (by decide) (by omega) (by omega) (Nat.le_of_ble_eq_true rfl) (Nat.le_of_ble_eq_true rfl) hS (show _ ∧ _ from ⟨by omega, by omega⟩) (Nat.le_of_ble_eq_true rfl) (Nat.le_of_ble_eq_true rfl) dX5_copyFrom_53 (fun H locs h1 o hS => ?_)
        have hSh := hSh.pHighA h1 o
        have hS2 := hS2.kept (fun q _ _ => o.2 q (by omega))
        obtain ⟨r4, er4⟩ : ∃ z, z = updA r3 9 3 (va_cpy (fun j => r2 (9 + j)) (fun j => r3 (9 + j)) 0 0 3) := ⟨_, rfl⟩
        rw [← er4] at hSh
        refine lv_aload_n hx hb dX5_copyFrom_56 rfl (lv_at hl 2 rfl) ?_
        refine rg (C := RX5) (T := TX5) (N := 8) (v := .ref (b2 + 4)) hx hb hT inX5 hown hK hS2.1 rfl 3 (by decide) mf_X5_32 rfl dX5_copyFrom_57 ?_
        refine lv_iconst (v := 0) hx hb dX5_copyFrom_60 (by decide) ?_
        refine lv_aload_n hx hb dX5_copyFrom_61 rfl (lv_at hl 1 rfl) ?_
        refine rg (C := RX5) (T := TX5) (N := 8) (v := .ref (b + 4)) hx hb hT inX5 hown hK hSh.1 rfl 3 (by decide) mf_X5_32 rfl dX5_copyFrom_62 ?_
        refine lv_iconst (v := 0) hx hb dX5_copyFrom_65 (by decide) ?_
        refine lv_aload_n hx hb dX5_copyFrom_66 rfl (lv_at hl 1 rfl) ?_
        refine rg (C := RX5) (T := TX5) (N := 8) (v := .ref (b + 4)) hx hb hT inX5 hown hK hSh.1 rfl 3 (by decide) mf_X5_32 rfl dX5_copyFrom_67 ?_
        refine r_alen hx hb hK hSh.2.2.2.2.1 rfl (v := 2) rfl dX5_copyFrom_70 ?_
        refine r_copy hx hb (hml.trans hl.1.symm) hown hT mm_X5_46 hK hS2.2.2.2.2.1 hSh.2.2.2.2.1 0 0 2 (by decide) (by decide) (by decide) (by omega) (by omega) (Nat.le_of_ble_eq_true rfl) (Nat.le_of_ble_eq_true rfl) hS (show _ ∧ _ from ⟨by omega, by omega⟩) (Nat.le_of_ble_eq_true rfl) (Nat.le_of_ble_eq_true rfl) dX5_copyFrom_71 (fun H locs h1 o hS => ?_)
        have hSh := hSh.pSetA h1 o
        have hS2 := hS2.kept (fun q _ _ => o.2 q (by omega))
        obtain ⟨r5, er5⟩ : ∃ z, z = updA r4 0 2 (va_cpy (fun j => r2 j) (fun j => r4 j) 0 0 2) := ⟨_, rfl⟩
        rw [← er5] at hSh
        refine lv_aload_n hx hb dX5_copyFrom_74 rfl (lv_at hl 1 rfl) ?_
        refine lv_aload_n hx hb dX5_copyFrom_75 rfl (lv_at hl 2 rfl) ?_
        refine rg (C := RX5) (T := TX5) (N := 8) (v := .int (r2 5)) hx hb hT inX5 hown hK hS2.1 rfl 4 (by decide) mf_X5_52 rfl dX5_copyFrom_76 ?_
        refine rp (C := RX5) (T := TX5) (N := 8) (v := .int (r2 5)) (ty := .int) hx hb hT inX5 tyX5 tyX5_ok nmX5 hown hK hSh.1 rfl 4 (by decide) mf_X5_52 rfl (by decide +kernel) rfl rfl (Nat.le_of_ble_eq_true rfl) hS (show _ ∧ _ from ⟨by omega, by omega⟩) dX5_copyFrom_79 (fun H locs h1 o hS => ?_)
        have hSh := hSh.pLeaves h1 o
        have hS2 := hS2.kept (fun q _ _ => o.2 q (by omega))
        refine lv_aload_n hx hb dX5_copyFrom_82 rfl (lv_at hl 1 rfl) ?_
        refine lv_aload_n hx hb dX5_copyFrom_83 rfl (lv_at hl 2 rfl) ?_
        refine rg (C := RX5) (T := TX5) (N := 8) (v := .int (r2 2)) hx hb hT inX5 hown hK hS2.1 rfl 5 (by decide) mf_X5_56 rfl dX5_copyFrom_84 ?_
        refine rp (C := RX5) (T := TX5) (N := 8) (v := .int (r2 2)) (ty := .int) hx hb hT inX5 tyX5 tyX5_ok nmX5 hown hK hSh.1 rfl 5 (by decide) mf_X5_56 rfl (by decide +kernel) rfl rfl (Nat.le_of_ble_eq_true rfl) hS (show _ ∧ _ from ⟨by omega, by omega⟩) dX5_copyFrom_87 (fun H locs h1 o hS => ?_)
        have hSh := hSh.pDay h1 o
        have hS2 := hS2.kept (fun q _ _ => o.2 q (by omega))
        refine lv_aload_n hx hb dX5_copyFrom_90 rfl (lv_at hl 1 rfl) ?_
        refine lv_aload_n hx hb dX5_copyFrom_91 rfl (lv_at hl 2 rfl) ?_
        refine rg (C := RX5) (T := TX5) (N := 8) (v := .int (r2 3)) hx hb hT inX5 hown hK hS2.1 rfl 6 (by decide) mf_X5_59 rfl dX5_copyFrom_92 ?_
        refine rp (C := RX5) (T := TX5) (N := 8) (v := .int (r2 3)) (ty := .int) hx hb hT inX5 tyX5 tyX5_ok nmX5 hown hK hSh.1 rfl 6 (by decide) mf_X5_59 rfl (by decide +kernel) rfl rfl (Nat.le_of_ble_eq_true rfl) hS (show _ ∧ _ from ⟨by omega, by omega⟩) dX5_copyFrom_95 (fun H locs h1 o hS => ?_)
        have hSh := hSh.pGrams h1 o
        have hS2 := hS2.kept (fun q _ _ => o.2 q (by omega))
        refine lv_aload_n hx hb dX5_copyFrom_98 rfl (lv_at hl 1 rfl) ?_
        refine lv_aload_n hx hb dX5_copyFrom_99 rfl (lv_at hl 2 rfl) ?_
        refine rg (C := RX5) (T := TX5) (N := 8) (v := .int (r2 4)) hx hb hT inX5 hown hK hS2.1 rfl 7 (by decide) mf_X5_62 rfl dX5_copyFrom_100 ?_
        refine rp (C := RX5) (T := TX5) (N := 8) (v := .int (r2 4)) (ty := .int) hx hb hT inX5 tyX5 tyX5_ok nmX5 hown hK hSh.1 rfl 7 (by decide) mf_X5_62 rfl (by decide +kernel) rfl rfl (Nat.le_of_ble_eq_true rfl) hS (show _ ∧ _ from ⟨by omega, by omega⟩) dX5_copyFrom_103 (fun H locs h1 o hS => ?_)
        have hSh := hSh.pCoins h1 o
        have hS2 := hS2.kept (fun q _ _ => o.2 q (by omega))
        exact nd_V hQ hx hb hr hlocks dX5_copyFrom_106 hS (hSh.ext (fun k hk => by
        simp only [upd]
        by_cases q4 : k = 4
        · rw [if_pos q4, q4]
        rw [if_neg q4]
        by_cases q3 : k = 3
        · rw [if_pos q3, q3]
        rw [if_neg q3]
        by_cases q2 : k = 2
        · rw [if_pos q2, q2]
        rw [if_neg q2]
        by_cases q5 : k = 5
        · rw [if_pos q5, q5]
        rw [if_neg q5, er5]
        unfold updA
        by_cases q1 : k < 2
        · rw [if_pos (by omega), cpy00 (by omega)]
          congr 1
        rw [if_neg (by omega), er4]
        unfold updA
        by_cases q9 : 9 ≤ k ∧ k < 9 + 3
        · rw [if_pos q9, cpy00 (by omega)]
          congr 1
          omega
        rw [if_neg q9, er3]
        unfold updA
        by_cases q6 : 6 ≤ k ∧ k < 6 + 3
        · rw [if_pos q6, cpy00 (by omega)]
          congr 1
          omega
        rw [if_neg q6]
        exact if_pos (by omega)))
      · have h5 : i < 5 := by
          have h9 : ¬ nI 5 ≤ nI i := cd
          rw [nI_leI (by omega) (by omega)] at h9
          omega
        refine lv_aload_n hx hb dX5_copyFrom_7 rfl (lv_at hl 1 rfl) ?_
        refine rg (C := RX5) (T := TX5) (N := 8) (v := .ref (b + 1)) hx hb hT inX5 hown hK hSh.1 rfl 0 (by decide) mf_X5_11 rfl dX5_copyFrom_8 ?_
        refine lv_iload_n hx hb dX5_copyFrom_11 rfl (lv_at hl 0 rfl) ?_
        refine r_aaldS (y := b + 5 + 3 * i) hx hb hK hSh.2.1 rfl rfl i (rfl) (by omega) (Nat.le_of_ble_eq_true rfl) rfl dX5_copyFrom_12 ?_
        refine lv_aload_n hx hb dX5_copyFrom_13 rfl (lv_at hl 2 rfl) ?_
        refine rg (C := RX5) (T := TX5) (N := 8) (v := .ref (b2 + 1)) hx hb hT inX5 hown hK hS2.1 rfl 0 (by decide) mf_X5_11 rfl dX5_copyFrom_14 ?_
        refine lv_iload_n hx hb dX5_copyFrom_17 rfl (lv_at hl 0 rfl) ?_
        refine r_aaldS (y := b2 + 5 + 3 * i) hx hb hK hS2.2.1 rfl rfl i (rfl) (by omega) (Nat.le_of_ble_eq_true rfl) rfl dX5_copyFrom_18 ?_
        refine got_V (run_i hx hb hml hown hT hK hl.1 (k_X1_copyFrom l G (b + 5 + 3 * i) (b2 + 5 + 3 * i) (fun k => cpR r r2 i (12 + 14 * i + k)) (fun k => r2 (12 + 14 * i + k)) (by omega)) (cw_X5_42 hT ⟨Nat.le_of_ble_eq_true rfl, Nat.le_of_ble_eq_true rfl⟩) (hSh.leaf (i := i) (by omega)).1 rfl ⟨hSh.leaf (i := i) (by omega), hS2.leaf (i := i) (by omega)⟩ rfl rfl (Nat.le_of_ble_eq_true rfl) dX5_copyFrom_19 ⟨Nat.zero_le _, Nat.zero_le _⟩) hS (fun q (hq : _ ∧ _) => show _ ∧ _ from ⟨by omega, by omega⟩) (fun q (hq : _ ∧ _) => show _ ∧ _ from ⟨by omega, by omega⟩) (fun  H locs h1 hz hk hS => ?_)
        have w : ∀ q, q < _ → (q < b + 5 + 3 * i ∨ b + 8 + 3 * i ≤ q) → H[q]? = _ := fun q hq hz => hk q hq (fun (z : _ ∧ _) => by omega)
        have hlt2 := (hS2.leaf (i := 4) (by omega)).2.2.lt
        have hS2 := hS2.kept (fun q _ _ => w q (by omega) (by omega))
        have hSh := hSh.putLeaf (r' := cpR r r2 (i + 1)) (by omega) (h1.ext (fun k hk => by unfold cpR; rw [if_pos (by omega)])) (fun q hq hlt => w q hlt hq) (fun k _ hk => by
          unfold cpR
          by_cases q : 12 ≤ k ∧ k < 12 + 14 * i
          · rw [if_pos q, if_pos (by omega)]
          · rw [if_neg q, if_neg (by omega)])
        refine lv_iinc (v := nI (i + 1)) (lv' := [(2, .int (nI (i + 1))), (0, .ref b), (1, .ref b2)]) hx hb dX5_copyFrom_22 hl (k := 0) rfl (nI_1 i) (by decide) rfl (fun ls hl => ?_)
        refine lv_goto (tgt := 2) hx hb dX5_copyFrom_25 (by decide) ?_
        exact ih (i + 1) _ _ hS (by omega) hSh hS2 (by omega) ls (lv_sub hl [0, 1, 2] rfl)
  exact loop 6 0 _ _ hS (by omega) (by rw [cpR_0]; exact hSh) hS2 (by omega) ls (lv_sub hl [0, 1, 2] rfl)

set_option maxHeartbeats 4000000 in
set_option maxRecDepth 100000 in
theorem k_X0_draft (l : Launch) (G : GG) (h b nx kp : Nat) (T : Nat → Nat → Int32) (r : Nat → Int32) (hnx : nx < 7) (hne : b + 20 ≤ h ∨ h + 142 ≤ b) : Met l yX0_draft (ws_ yX0_draft cX0_draft 2 (none : Option Jvm.ClassFile.FieldType)) (rm_ 3) (PC G [.ref h, .ref b] (fun H => HistAt G h T nx kp H ∧ ShopAt G b r H)) (QV (HistAt G h (updT T nx r) nx kp) (In h 142)) 0 0 (In h 142) := by
  refine met_q (by decide +kernel) (Nat.le_of_ble_eq_true rfl) ?_
  intro p e s m args below meth c Q hQ hx hb hr hT hown hml hlocks hnm hK ⟨hHi, hSh⟩ ls hl
  have hl : lv_has ls 2 [(0, .ref h), (1, .ref b)] := hl
  have hS : va_S (In h 142) s.heap s.heap [] := va_S.rf
  refine lv_aload_n hx hb dX0_draft_0 rfl (lv_at hl 0 rfl) ?_
  refine rg (C := RX0) (T := TX0) (N := 3) (v := .ref (h + 1)) hx hb hT inX0 hown hK hHi.1 rfl 0 (by decide) mf_X0_13 rfl dX0_draft_1 ?_
  refine lv_aload_n hx hb dX0_draft_4 rfl (lv_at hl 0 rfl) ?_
  refine rg (C := RX0) (T := TX0) (N := 3) (v := .int (nI nx)) hx hb hT inX0 hown hK hHi.1 rfl 1 (by decide) mf_X0_18 rfl dX0_draft_5 ?_
  refine r_aaldS (y := h + 2 + 20 * nx) hx hb hK hHi.2.1 rfl rfl nx (rfl) (by omega) (Nat.le_of_ble_eq_true rfl) rfl dX0_draft_8 ?_
  refine lv_aload_n hx hb dX0_draft_9 rfl (lv_at hl 1 rfl) ?_
  refine got_V (run_i hx hb hml hown hT hK hl.1 (k_X5_copyFrom l G (h + 2 + 20 * nx) b (T nx) r (by omega)) (cw_X0_22 hT ⟨Nat.le_of_ble_eq_true rfl, Nat.le_of_ble_eq_true rfl⟩) (hHi.2.2 nx hnx).1 rfl ⟨hHi.2.2 nx hnx, hSh⟩ rfl rfl (Nat.le_of_ble_eq_true rfl) dX0_draft_10 ⟨Nat.zero_le _, Nat.zero_le _⟩) hS (fun q (hq : _ ∧ _) => show _ ∧ _ from ⟨by omega, by omega⟩) (fun q (hq : _ ∧ _) => show _ ∧ _ from ⟨by omega, by omega⟩) (fun  H locs h1 hz hk hS => ?_)
  exact nd_V hQ hx hb hr hlocks dX0_draft_13 hS (hHi.pShop hnx h1 hk)

set_option maxHeartbeats 4000000 in
set_option maxRecDepth 100000 in
theorem k_X0_settle (l : Launch) (G : GG) (h nx kp : Nat) (T : Nat → Nat → Int32) (x : Int32) (hnx : nx < 7) (hkp : kp ≤ 6) : Met l yX0_settle (ws_ yX0_settle cX0_settle 2 (some .int)) (rm_ 1) (PC G [.ref h, .int x] (HistAt G h T nx kp)) (QI (fun v H => v = x ∧ HistAt G h T (if 0 ≤ x then (nx + 1) % 7 else nx) (if 0 ≤ x then min (kp + 1) 6 else kp) H) (In h 142)) 0 0 (In h 142) := by
  refine met_q (by decide +kernel) (Nat.le_of_ble_eq_true rfl) ?_
  intro p e s m args below meth c Q hQ hx hb hr hT hown hml hlocks hnm hK hHi ls hl
  have hl : lv_has ls 2 [(0, .ref h), (1, .int x)] := hl
  have hS : va_S (In h 142) s.heap s.heap [] := va_S.rf
  refine lv_iload_n hx hb dX0_settle_0 rfl (lv_at hl 1 rfl) ?_
  refine lv_if_lt (tgt := 32) hx hb dX0_settle_1 (by decide) (fun c1 => ?_) (fun c1 => ?_)
  · refine lv_iload_n hx hb dX0_settle_32 rfl (lv_at hl 1 rfl) ?_
    exact nd_I hQ hx hb hr hlocks dX0_settle_33 hS (⟨rfl, by rw [if_neg (i32_lt_nle c1), if_neg (i32_lt_nle c1)]; exact hHi⟩)
  · have c1 := i32_nlt c1
    refine lv_aload_n hx hb dX0_settle_4 rfl (lv_at hl 0 rfl) ?_
    refine lv_aload_n hx hb dX0_settle_5 rfl (lv_at hl 0 rfl) ?_
    refine rg (C := RX0) (T := TX0) (N := 3) (v := .int (nI nx)) hx hb hT inX0 hown hK hHi.1 rfl 1 (by decide) mf_X0_18 rfl dX0_settle_6 ?_
    refine lv_iconst (v := 1) hx hb dX0_settle_9 (by decide) ?_
    refine lv_iadd hx hb dX0_settle_10 ?_
    refine lv_bipush (v := 7) hx hb dX0_settle_11 (by decide) ?_
    refine lv_irem hx hb dX0_settle_13 (by decide) ?_
    have en : (nI nx + 1) - (nI nx + 1) / 7 * 7 = nI ((nx + 1) % 7) := by rw [nI_1]; exact pk_rem (d := 7) (by omega) (by omega) (by omega)
    rw [en]
    refine rp (C := RX0) (T := TX0) (N := 3) (v := .int (nI ((nx + 1) % 7))) (ty := .int) hx hb hT inX0 tyX0 tyX0_ok nmX0 hown hK hHi.1 rfl 1 (by decide) mf_X0_18 rfl (by decide +kernel) rfl rfl (Nat.le_of_ble_eq_true rfl) hS (show _ ∧ _ from ⟨by omega, by omega⟩) dX0_settle_14 (fun H locs h1 o hS => ?_)
    have hHi := hHi.pObj h1 o
    refine lv_aload_n hx hb dX0_settle_17 rfl (lv_at hl 0 rfl) ?_
    refine lv_aload_n hx hb dX0_settle_18 rfl (lv_at hl 0 rfl) ?_
    refine rg (C := RX0) (T := TX0) (N := 3) (v := .int (nI kp)) hx hb hT inX0 hown hK hHi.1 rfl 2 (by decide) mf_X0_26 rfl dX0_settle_19 ?_
    refine lv_iconst (v := 1) hx hb dX0_settle_22 (by decide) ?_
    refine lv_iadd hx hb dX0_settle_23 ?_
    refine lv_bipush (v := 6) hx hb dX0_settle_24 (by decide) ?_
    rw [nI_1]
    refine va_mmin hx hb (hml.trans hl.1.symm) hown (hT _ mm_X0_29) (hT _ mst_J9_min_7cf53) (hT _ mz_J9) (hT _ mc_J9_min_7cf53) (Nat.le_of_ble_eq_true rfl) (Nat.le_of_ble_eq_true rfl) (Nat.zero_le _) (Nat.zero_le _) dX0_settle_26 ?_
    have em : (if (6 : Int32) < nI (kp + 1) then (6 : Int32) else nI (kp + 1)) = nI (min (kp + 1) 6) := by
      by_cases q : (6 : Int32) < nI (kp + 1)
      · rw [if_pos q]
        have h9 : nI 6 < nI (kp + 1) := q
        rw [nI_ltI (by omega) (by omega)] at h9
        rw [show min (kp + 1) 6 = 6 by omega]
        rfl
      · rw [if_neg q]
        have h9 : ¬ nI 6 < nI (kp + 1) := q
        rw [nI_ltI (by omega) (by omega)] at h9
        rw [show min (kp + 1) 6 = kp + 1 by omega]
    rw [em]
    refine rp (C := RX0) (T := TX0) (N := 3) (v := .int (nI (min (kp + 1) 6))) (ty := .int) hx hb hT inX0 tyX0 tyX0_ok nmX0 hown hK hHi.1 rfl 2 (by decide) mf_X0_26 rfl (by decide +kernel) rfl rfl (Nat.le_of_ble_eq_true rfl) hS (show _ ∧ _ from ⟨by omega, by omega⟩) dX0_settle_29 (fun H locs h1 o hS => ?_)
    have hHi := hHi.pObj h1 o
    refine lv_iload_n hx hb dX0_settle_32 rfl (lv_at hl 1 rfl) ?_
    exact nd_I hQ hx hb hr hlocks dX0_settle_33 hS (⟨rfl, by rw [if_pos c1, if_pos c1]; exact hHi⟩)

set_option maxHeartbeats 4000000 in
set_option maxRecDepth 100000 in
theorem k_X0_takeBack (l : Launch) (G : GG) (h b nx kp : Nat) (T : Nat → Nat → Int32) (r : Nat → Int32) (hnx : nx < 7) (hkp : kp ≤ 6) (hne : b + 20 ≤ h ∨ h + 142 ≤ b) : Met l yX0_takeBack (ws_ yX0_takeBack cX0_takeBack 2 (some .boolean)) (rm_ 3) (PC G [.ref h, .ref b] (fun H => HistAt G h T nx kp H ∧ ShopAt G b r H)) (QI (fun v H => (kp = 0 ∧ v = 0 ∧ HistAt G h T nx kp H ∧ ShopAt G b r H) ∨ (0 < kp ∧ v = 1 ∧ HistAt G h T ((nx + 6) % 7) (kp - 1) H ∧ ShopAt G b (T ((nx + 6) % 7)) H)) (fun q => In h 142 q ∨ In b 20 q)) 0 0 (fun q => In h 142 q ∨ In b 20 q) := by
  refine met_q (by decide +kernel) (Nat.le_of_ble_eq_true rfl) ?_
  intro p e s m args below meth c Q hQ hx hb hr hT hown hml hlocks hnm hK ⟨hHi, hSh⟩ ls hl
  have hl : lv_has ls 2 [(0, .ref h), (1, .ref b)] := hl
  have hS : va_S (fun q => In h 142 q ∨ In b 20 q) s.heap s.heap [] := va_S.rf
  refine lv_aload_n hx hb dX0_takeBack_0 rfl (lv_at hl 0 rfl) ?_
  refine rg (C := RX0) (T := TX0) (N := 3) (v := .int (nI kp)) hx hb hT inX0 hown hK hHi.1 rfl 2 (by decide) mf_X0_26 rfl dX0_takeBack_1 ?_
  refine lv_if_ne (tgt := 9) hx hb dX0_takeBack_4 (by decide) (fun c1 => ?_) (fun c1 => ?_)
  · have hpos : 0 < kp := Nat.pos_of_ne_zero (fun q => c1 (by rw [q]; rfl))
    refine lv_aload_n hx hb dX0_takeBack_9 rfl (lv_at hl 0 rfl) ?_
    refine lv_dup hx hb dX0_takeBack_10 rfl ?_
    refine rg (C := RX0) (T := TX0) (N := 3) (v := .int (nI kp)) hx hb hT inX0 hown hK hHi.1 rfl 2 (by decide) mf_X0_26 rfl dX0_takeBack_11 ?_
    refine lv_iconst (v := 1) hx hb dX0_takeBack_14 (by decide) ?_
    refine lv_isub hx hb dX0_takeBack_15 ?_
    rw [show nI kp - 1 = nI (kp - 1) from pk_sub (b := 1) hpos]
    refine rp (C := RX0) (T := TX0) (N := 3) (v := .int (nI (kp - 1))) (ty := .int) hx hb hT inX0 tyX0 tyX0_ok nmX0 hown hK hHi.1 rfl 2 (by decide) mf_X0_26 rfl (by decide +kernel) rfl rfl (Nat.le_of_ble_eq_true rfl) hS (Or.inl (show _ ∧ _ from ⟨by omega, by omega⟩)) dX0_takeBack_16 (fun H locs h1 o hS => ?_)
    have hHi := hHi.pObj h1 o
    have hSh := hSh.kept (fun q _ _ => o.2 q (by omega))
    refine lv_aload_n hx hb dX0_takeBack_19 rfl (lv_at hl 0 rfl) ?_
    refine lv_aload_n hx hb dX0_takeBack_20 rfl (lv_at hl 0 rfl) ?_
    refine rg (C := RX0) (T := TX0) (N := 3) (v := .int (nI nx)) hx hb hT inX0 hown hK hHi.1 rfl 1 (by decide) mf_X0_18 rfl dX0_takeBack_21 ?_
    refine lv_bipush (v := 7) hx hb dX0_takeBack_24 (by decide) ?_
    refine lv_iadd hx hb dX0_takeBack_26 ?_
    refine lv_iconst (v := 1) hx hb dX0_takeBack_27 (by decide) ?_
    refine lv_isub hx hb dX0_takeBack_28 ?_
    refine lv_bipush (v := 7) hx hb dX0_takeBack_29 (by decide) ?_
    refine lv_irem hx hb dX0_takeBack_31 (by decide) ?_
    have en : (nI nx + 7 - 1) - (nI nx + 7 - 1) / 7 * 7 = nI ((nx + 6) % 7) := by
      rw [show nI nx + 7 - 1 = nI (nx + 6) by rw [show (7 : Int32) = nI 7 from rfl, nI_add]; exact pk_sub (a := nx + 7) (b := 1) (by omega)]
      exact pk_rem (d := 7) (by omega) (by omega) (by omega)
    rw [en]
    refine rp (C := RX0) (T := TX0) (N := 3) (v := .int (nI ((nx + 6) % 7))) (ty := .int) hx hb hT inX0 tyX0 tyX0_ok nmX0 hown hK hHi.1 rfl 1 (by decide) mf_X0_18 rfl (by decide +kernel) rfl rfl (Nat.le_of_ble_eq_true rfl) hS (Or.inl (show _ ∧ _ from ⟨by omega, by omega⟩)) dX0_takeBack_32 (fun H locs h1 o hS => ?_)
    have hHi := hHi.pObj h1 o
    have hSh := hSh.kept (fun q _ _ => o.2 q (by omega))
    obtain ⟨n6, hn6⟩ : ∃ z, z = (nx + 6) % 7 := ⟨_, rfl⟩
    rw [← hn6] at hHi
    have hn7 : n6 < 7 := by omega
    refine lv_aload_n hx hb dX0_takeBack_35 rfl (lv_at hl 1 rfl) ?_
    refine lv_aload_n hx hb dX0_takeBack_36 rfl (lv_at hl 0 rfl) ?_
    refine rg (C := RX0) (T := TX0) (N := 3) (v := .ref (h + 1)) hx hb hT inX0 hown hK hHi.1 rfl 0 (by decide) mf_X0_13 rfl dX0_takeBack_37 ?_
    refine lv_aload_n hx hb dX0_takeBack_40 rfl (lv_at hl 0 rfl) ?_
    refine rg (C := RX0) (T := TX0) (N := 3) (v := .int (nI n6)) hx hb hT inX0 hown hK hHi.1 rfl 1 (by decide) mf_X0_18 rfl dX0_takeBack_41 ?_
    refine r_aaldS (y := h + 2 + 20 * n6) hx hb hK hHi.2.1 rfl rfl n6 (rfl) (by omega) (Nat.le_of_ble_eq_true rfl) rfl dX0_takeBack_44 ?_
    refine got_V (run_i hx hb hml hown hT hK hl.1 (k_X5_copyFrom l G b (h + 2 + 20 * n6) r (T n6) (by omega)) (cw_X0_22 hT ⟨Nat.le_of_ble_eq_true rfl, Nat.le_of_ble_eq_true rfl⟩) hSh.1 rfl ⟨hSh, hHi.2.2 n6 hn7⟩ rfl rfl (Nat.le_of_ble_eq_true rfl) dX0_takeBack_45 ⟨Nat.zero_le _, Nat.zero_le _⟩) hS (fun q hq => Or.inr hq) (fun q hq => Or.inr hq) (fun  H locs h1 hz hk hS => ?_)
    have hlt := ((hHi.2.2 6 (by omega)).leaf (i := 4) (by omega)).2.2.lt
    have hHi := hHi.kept (fun q _ _ => hk q (by omega) (fun (z : _ ∧ _) => by omega))
    refine lv_iconst (v := 1) hx hb dX0_takeBack_48 (by decide) ?_
    exact nd_Z hQ hx hb hr hlocks dX0_takeBack_49 hS (by first | exact Or.inl rfl | exact Or.inr rfl | exact bi01) (Or.inr ⟨hpos, rfl, by rw [← hn6]; exact hHi, by rw [← hn6]; exact h1⟩)
  · have hz : kp = 0 := by
      have h9 : nI kp = nI 0 := c1
      rw [nI_eq (by omega) (by omega)] at h9
      exact h9
    refine lv_iconst (v := 0) hx hb dX0_takeBack_7 (by decide) ?_
    exact nd_Z hQ hx hb hr hlocks dX0_takeBack_8 hS (by first | exact Or.inl rfl | exact Or.inr rfl | exact bi01) (Or.inl ⟨hz, rfl, hHi, hSh⟩)
end
