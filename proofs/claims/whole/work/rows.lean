section
-- ===== PART A: goes FIRST, ahead of the names: the tables' words, and 'selects' of the private methods out of them =====
/-- a private method of a class that the tables say can be made, by its rows of tables_1 -/
def lw_okq (q : MethodName × Nat) : Prop := (q.1.cls ≠ "java/lang/invoke/MethodHandle" ∧ q.1.cls ≠ "java/lang/invoke/VarHandle") ∧ Cond.instantiable q.1.cls q.2 ∈ tables_1 ∧ Cond.privateMethod q.1 ∈ tables_1 ∧ Cond.instanceMethod q.1 ∈ tables_1
theorem lw_p0 : lw_okq (⟨"WardCourt$Laws", "add", "(IIIIII)V"⟩, 3) := ⟨⟨by decide +kernel, by decide +kernel⟩, List.mem_of_getElem? (i := 19) (by decide +kernel), List.mem_of_getElem? (i := 188) (by decide +kernel), List.mem_of_getElem? (i := 189) (by decide +kernel)⟩
theorem lw_p1 : lw_okq (⟨"WardCourt$Laws", "inForce", "(II)I"⟩, 3) := ⟨⟨by decide +kernel, by decide +kernel⟩, List.mem_of_getElem? (i := 19) (by decide +kernel), List.mem_of_getElem? (i := 196) (by decide +kernel), List.mem_of_getElem? (i := 197) (by decide +kernel)⟩
theorem lw_p2 : lw_okq (⟨"WardCourt$Wards", "add", "(I)V"⟩, 6) := ⟨⟨by decide +kernel, by decide +kernel⟩, List.mem_of_getElem? (i := 39) (by decide +kernel), List.mem_of_getElem? (i := 207) (by decide +kernel), List.mem_of_getElem? (i := 208) (by decide +kernel)⟩
theorem lw_p3 : lw_okq (⟨"WardCourt$Wards", "has", "(I)Z"⟩, 6) := ⟨⟨by decide +kernel, by decide +kernel⟩, List.mem_of_getElem? (i := 39) (by decide +kernel), List.mem_of_getElem? (i := 215) (by decide +kernel), List.mem_of_getElem? (i := 216) (by decide +kernel)⟩
theorem lw_p4 : lw_okq (⟨"WardCourt$Wards", "birthOf", "(I)I"⟩, 6) := ⟨⟨by decide +kernel, by decide +kernel⟩, List.mem_of_getElem? (i := 39) (by decide +kernel), List.mem_of_getElem? (i := 219) (by decide +kernel), List.mem_of_getElem? (i := 220) (by decide +kernel)⟩
theorem lw_p5 : lw_okq (⟨"WardCourt$Wards", "deathOf", "(I)I"⟩, 6) := ⟨⟨by decide +kernel, by decide +kernel⟩, List.mem_of_getElem? (i := 39) (by decide +kernel), List.mem_of_getElem? (i := 224) (by decide +kernel), List.mem_of_getElem? (i := 225) (by decide +kernel)⟩
theorem lw_p6 : lw_okq (⟨"WardCourt$Wards", "setDeath", "(II)V"⟩, 6) := ⟨⟨by decide +kernel, by decide +kernel⟩, List.mem_of_getElem? (i := 39) (by decide +kernel), List.mem_of_getElem? (i := 228) (by decide +kernel), List.mem_of_getElem? (i := 229) (by decide +kernel)⟩
theorem lw_p7 : lw_okq (⟨"WardCourt", "settle", "()V"⟩, 7) := ⟨⟨by decide +kernel, by decide +kernel⟩, List.mem_of_getElem? (i := 11) (by decide +kernel), List.mem_of_getElem? (i := 237) (by decide +kernel), List.mem_of_getElem? (i := 238) (by decide +kernel)⟩
theorem lw_p8 : lw_okq (⟨"WardCourt$Wards", "settleDays", "(LWardCourt$Laws;)V"⟩, 6) := ⟨⟨by decide +kernel, by decide +kernel⟩, List.mem_of_getElem? (i := 39) (by decide +kernel), List.mem_of_getElem? (i := 241) (by decide +kernel), List.mem_of_getElem? (i := 242) (by decide +kernel)⟩
theorem lw_p9 : lw_okq (⟨"WardCourt$Laws", "fullAgeDay", "(I)I"⟩, 3) := ⟨⟨by decide +kernel, by decide +kernel⟩, List.mem_of_getElem? (i := 19) (by decide +kernel), List.mem_of_getElem? (i := 245) (by decide +kernel), List.mem_of_getElem? (i := 246) (by decide +kernel)⟩
theorem lw_p10 : lw_okq (⟨"WardCourt$Laws", "sooner", "(III)I"⟩, 3) := ⟨⟨by decide +kernel, by decide +kernel⟩, List.mem_of_getElem? (i := 19) (by decide +kernel), List.mem_of_getElem? (i := 249) (by decide +kernel), List.mem_of_getElem? (i := 250) (by decide +kernel)⟩
theorem lw_p11 : lw_okq (⟨"WardCourt$Wards", "isAlive", "(II)Z"⟩, 6) := ⟨⟨by decide +kernel, by decide +kernel⟩, List.mem_of_getElem? (i := 39) (by decide +kernel), List.mem_of_getElem? (i := 254) (by decide +kernel), List.mem_of_getElem? (i := 255) (by decide +kernel)⟩
theorem lw_p12 : lw_okq (⟨"WardCourt$Items", "settleAllowed", "(LWardCourt$Laws;LWardCourt$Leaves;)V"⟩, 8) := ⟨⟨by decide +kernel, by decide +kernel⟩, List.mem_of_getElem? (i := 82) (by decide +kernel), List.mem_of_getElem? (i := 258) (by decide +kernel), List.mem_of_getElem? (i := 259) (by decide +kernel)⟩
theorem lw_p13 : lw_okq (⟨"WardCourt$Items", "barsOf", "(ILWardCourt$Laws;LWardCourt$Leaves;)I"⟩, 8) := ⟨⟨by decide +kernel, by decide +kernel⟩, List.mem_of_getElem? (i := 82) (by decide +kernel), List.mem_of_getElem? (i := 262) (by decide +kernel), List.mem_of_getElem? (i := 263) (by decide +kernel)⟩
theorem lw_p14 : lw_okq (⟨"WardCourt$Items", "has", "(I)Z"⟩, 8) := ⟨⟨by decide +kernel, by decide +kernel⟩, List.mem_of_getElem? (i := 82) (by decide +kernel), List.mem_of_getElem? (i := 266) (by decide +kernel), List.mem_of_getElem? (i := 267) (by decide +kernel)⟩
theorem lw_p15 : lw_okq (⟨"WardCourt$Leaves", "barsOn", "(III)I"⟩, 3) := ⟨⟨by decide +kernel, by decide +kernel⟩, List.mem_of_getElem? (i := 65) (by decide +kernel), List.mem_of_getElem? (i := 271) (by decide +kernel), List.mem_of_getElem? (i := 272) (by decide +kernel)⟩
def lw_privs_1 : List (MethodName × Nat) := [(⟨"WardCourt$Laws", "add", "(IIIIII)V"⟩, 3), (⟨"WardCourt$Laws", "inForce", "(II)I"⟩, 3), (⟨"WardCourt$Wards", "add", "(I)V"⟩, 6), (⟨"WardCourt$Wards", "has", "(I)Z"⟩, 6), (⟨"WardCourt$Wards", "birthOf", "(I)I"⟩, 6), (⟨"WardCourt$Wards", "deathOf", "(I)I"⟩, 6), (⟨"WardCourt$Wards", "setDeath", "(II)V"⟩, 6), (⟨"WardCourt", "settle", "()V"⟩, 7), (⟨"WardCourt$Wards", "settleDays", "(LWardCourt$Laws;)V"⟩, 6), (⟨"WardCourt$Laws", "fullAgeDay", "(I)I"⟩, 3), (⟨"WardCourt$Laws", "sooner", "(III)I"⟩, 3), (⟨"WardCourt$Wards", "isAlive", "(II)Z"⟩, 6), (⟨"WardCourt$Items", "settleAllowed", "(LWardCourt$Laws;LWardCourt$Leaves;)V"⟩, 8), (⟨"WardCourt$Items", "barsOf", "(ILWardCourt$Laws;LWardCourt$Leaves;)I"⟩, 8), (⟨"WardCourt$Items", "has", "(I)Z"⟩, 8), (⟨"WardCourt$Leaves", "barsOn", "(III)I"⟩, 3)]
theorem lw_r1 : ∀ q ∈ lw_privs_1, lw_okq q := List.forall_mem_cons.mpr ⟨lw_p0, List.forall_mem_cons.mpr ⟨lw_p1, List.forall_mem_cons.mpr ⟨lw_p2, List.forall_mem_cons.mpr ⟨lw_p3, List.forall_mem_cons.mpr ⟨lw_p4, List.forall_mem_cons.mpr ⟨lw_p5, List.forall_mem_cons.mpr ⟨lw_p6, List.forall_mem_cons.mpr ⟨lw_p7, List.forall_mem_cons.mpr ⟨lw_p8, List.forall_mem_cons.mpr ⟨lw_p9, List.forall_mem_cons.mpr ⟨lw_p10, List.forall_mem_cons.mpr ⟨lw_p11, List.forall_mem_cons.mpr ⟨lw_p12, List.forall_mem_cons.mpr ⟨lw_p13, List.forall_mem_cons.mpr ⟨lw_p14, List.forall_mem_cons.mpr ⟨lw_p15, fun _ h => absurd h List.not_mem_nil⟩⟩⟩⟩⟩⟩⟩⟩⟩⟩⟩⟩⟩⟩⟩⟩
theorem lw_p16 : lw_okq (⟨"WardCourt$Leaves", "limitOf", "(I)I"⟩, 3) := ⟨⟨by decide +kernel, by decide +kernel⟩, List.mem_of_getElem? (i := 65) (by decide +kernel), List.mem_of_getElem? (i := 275) (by decide +kernel), List.mem_of_getElem? (i := 276) (by decide +kernel)⟩
theorem lw_p17 : lw_okq (⟨"WardCourt$Leaves", "has", "(I)Z"⟩, 3) := ⟨⟨by decide +kernel, by decide +kernel⟩, List.mem_of_getElem? (i := 65) (by decide +kernel), List.mem_of_getElem? (i := 279) (by decide +kernel), List.mem_of_getElem? (i := 280) (by decide +kernel)⟩
theorem lw_p18 : lw_okq (⟨"WardCourt$Books", "reckon", "(LWardCourt$Laws;LWardCourt$Wards;LWardCourt$Items;)V"⟩, 3) := ⟨⟨by decide +kernel, by decide +kernel⟩, List.mem_of_getElem? (i := 138) (by decide +kernel), List.mem_of_getElem? (i := 283) (by decide +kernel), List.mem_of_getElem? (i := 284) (by decide +kernel)⟩
theorem lw_p19 : lw_okq (⟨"WardCourt$Books", "reckonYear", "(IILWardCourt$Laws;LWardCourt$Wards;LWardCourt$Items;)I"⟩, 3) := ⟨⟨by decide +kernel, by decide +kernel⟩, List.mem_of_getElem? (i := 138) (by decide +kernel), List.mem_of_getElem? (i := 287) (by decide +kernel), List.mem_of_getElem? (i := 288) (by decide +kernel)⟩
theorem lw_p20 : lw_okq (⟨"WardCourt$Items", "receivedBetween", "(II)I"⟩, 8) := ⟨⟨by decide +kernel, by decide +kernel⟩, List.mem_of_getElem? (i := 82) (by decide +kernel), List.mem_of_getElem? (i := 291) (by decide +kernel), List.mem_of_getElem? (i := 292) (by decide +kernel)⟩
theorem lw_p21 : lw_okq (⟨"WardCourt$Items", "sumBetween", "(ZII)I"⟩, 8) := ⟨⟨by decide +kernel, by decide +kernel⟩, List.mem_of_getElem? (i := 82) (by decide +kernel), List.mem_of_getElem? (i := 295) (by decide +kernel), List.mem_of_getElem? (i := 296) (by decide +kernel)⟩
theorem lw_p22 : lw_okq (⟨"WardCourt$Items", "paidBetween", "(II)I"⟩, 8) := ⟨⟨by decide +kernel, by decide +kernel⟩, List.mem_of_getElem? (i := 82) (by decide +kernel), List.mem_of_getElem? (i := 300) (by decide +kernel), List.mem_of_getElem? (i := 301) (by decide +kernel)⟩
theorem lw_p23 : lw_okq (⟨"WardCourt$Wards", "giveShares", "(II)I"⟩, 6) := ⟨⟨by decide +kernel, by decide +kernel⟩, List.mem_of_getElem? (i := 39) (by decide +kernel), List.mem_of_getElem? (i := 304) (by decide +kernel), List.mem_of_getElem? (i := 305) (by decide +kernel)⟩
theorem lw_p24 : lw_okq (⟨"WardCourt$Wards", "headsOn", "(I)I"⟩, 6) := ⟨⟨by decide +kernel, by decide +kernel⟩, List.mem_of_getElem? (i := 39) (by decide +kernel), List.mem_of_getElem? (i := 308) (by decide +kernel), List.mem_of_getElem? (i := 309) (by decide +kernel)⟩
theorem lw_p25 : lw_okq (⟨"WardCourt$Laws", "turnAfter", "(II)I"⟩, 3) := ⟨⟨by decide +kernel, by decide +kernel⟩, List.mem_of_getElem? (i := 19) (by decide +kernel), List.mem_of_getElem? (i := 315) (by decide +kernel), List.mem_of_getElem? (i := 316) (by decide +kernel)⟩
theorem lw_p26 : lw_okq (⟨"WardCourt$Wards", "turnAfter", "(II)I"⟩, 6) := ⟨⟨by decide +kernel, by decide +kernel⟩, List.mem_of_getElem? (i := 39) (by decide +kernel), List.mem_of_getElem? (i := 322) (by decide +kernel), List.mem_of_getElem? (i := 323) (by decide +kernel)⟩
theorem lw_p27 : lw_okq (⟨"WardCourt$Items", "turnAfter", "(II)I"⟩, 8) := ⟨⟨by decide +kernel, by decide +kernel⟩, List.mem_of_getElem? (i := 82) (by decide +kernel), List.mem_of_getElem? (i := 327) (by decide +kernel), List.mem_of_getElem? (i := 328) (by decide +kernel)⟩
theorem lw_p28 : lw_okq (⟨"WardCourt$Wards", "fullAgeOf", "(I)I"⟩, 6) := ⟨⟨by decide +kernel, by decide +kernel⟩, List.mem_of_getElem? (i := 39) (by decide +kernel), List.mem_of_getElem? (i := 340) (by decide +kernel), List.mem_of_getElem? (i := 341) (by decide +kernel)⟩
theorem lw_p29 : lw_okq (⟨"WardCourt$Wards", "givenOverOf", "(I)I"⟩, 6) := ⟨⟨by decide +kernel, by decide +kernel⟩, List.mem_of_getElem? (i := 39) (by decide +kernel), List.mem_of_getElem? (i := 344) (by decide +kernel), List.mem_of_getElem? (i := 345) (by decide +kernel)⟩
theorem lw_p30 : lw_okq (⟨"WardCourt$Wards", "shareOf", "(I)I"⟩, 6) := ⟨⟨by decide +kernel, by decide +kernel⟩, List.mem_of_getElem? (i := 39) (by decide +kernel), List.mem_of_getElem? (i := 348) (by decide +kernel), List.mem_of_getElem? (i := 349) (by decide +kernel)⟩
theorem lw_p31 : lw_okq (⟨"WardCourt$Leaves", "add", "(I)V"⟩, 3) := ⟨⟨by decide +kernel, by decide +kernel⟩, List.mem_of_getElem? (i := 65) (by decide +kernel), List.mem_of_getElem? (i := 365) (by decide +kernel), List.mem_of_getElem? (i := 366) (by decide +kernel)⟩
def lw_privs_2 : List (MethodName × Nat) := [(⟨"WardCourt$Leaves", "limitOf", "(I)I"⟩, 3), (⟨"WardCourt$Leaves", "has", "(I)Z"⟩, 3), (⟨"WardCourt$Books", "reckon", "(LWardCourt$Laws;LWardCourt$Wards;LWardCourt$Items;)V"⟩, 3), (⟨"WardCourt$Books", "reckonYear", "(IILWardCourt$Laws;LWardCourt$Wards;LWardCourt$Items;)I"⟩, 3), (⟨"WardCourt$Items", "receivedBetween", "(II)I"⟩, 8), (⟨"WardCourt$Items", "sumBetween", "(ZII)I"⟩, 8), (⟨"WardCourt$Items", "paidBetween", "(II)I"⟩, 8), (⟨"WardCourt$Wards", "giveShares", "(II)I"⟩, 6), (⟨"WardCourt$Wards", "headsOn", "(I)I"⟩, 6), (⟨"WardCourt$Laws", "turnAfter", "(II)I"⟩, 3), (⟨"WardCourt$Wards", "turnAfter", "(II)I"⟩, 6), (⟨"WardCourt$Items", "turnAfter", "(II)I"⟩, 8), (⟨"WardCourt$Wards", "fullAgeOf", "(I)I"⟩, 6), (⟨"WardCourt$Wards", "givenOverOf", "(I)I"⟩, 6), (⟨"WardCourt$Wards", "shareOf", "(I)I"⟩, 6), (⟨"WardCourt$Leaves", "add", "(I)V"⟩, 3)]
theorem lw_r2 : ∀ q ∈ lw_privs_2, lw_okq q := List.forall_mem_cons.mpr ⟨lw_p16, List.forall_mem_cons.mpr ⟨lw_p17, List.forall_mem_cons.mpr ⟨lw_p18, List.forall_mem_cons.mpr ⟨lw_p19, List.forall_mem_cons.mpr ⟨lw_p20, List.forall_mem_cons.mpr ⟨lw_p21, List.forall_mem_cons.mpr ⟨lw_p22, List.forall_mem_cons.mpr ⟨lw_p23, List.forall_mem_cons.mpr ⟨lw_p24, List.forall_mem_cons.mpr ⟨lw_p25, List.forall_mem_cons.mpr ⟨lw_p26, List.forall_mem_cons.mpr ⟨lw_p27, List.forall_mem_cons.mpr ⟨lw_p28, List.forall_mem_cons.mpr ⟨lw_p29, List.forall_mem_cons.mpr ⟨lw_p30, List.forall_mem_cons.mpr ⟨lw_p31, fun _ h => absurd h List.not_mem_nil⟩⟩⟩⟩⟩⟩⟩⟩⟩⟩⟩⟩⟩⟩⟩⟩
theorem lw_p32 : lw_okq (⟨"WardCourt$Leaves", "useOf", "(I)I"⟩, 3) := ⟨⟨by decide +kernel, by decide +kernel⟩, List.mem_of_getElem? (i := 65) (by decide +kernel), List.mem_of_getElem? (i := 375) (by decide +kernel), List.mem_of_getElem? (i := 376) (by decide +kernel)⟩
theorem lw_p33 : lw_okq (⟨"WardCourt$Leases", "has", "(I)Z"⟩, 5) := ⟨⟨by decide +kernel, by decide +kernel⟩, List.mem_of_getElem? (i := 115) (by decide +kernel), List.mem_of_getElem? (i := 383) (by decide +kernel), List.mem_of_getElem? (i := 384) (by decide +kernel)⟩
theorem lw_p34 : lw_okq (⟨"WardCourt$Items", "add", "(IIZI)V"⟩, 8) := ⟨⟨by decide +kernel, by decide +kernel⟩, List.mem_of_getElem? (i := 82) (by decide +kernel), List.mem_of_getElem? (i := 387) (by decide +kernel), List.mem_of_getElem? (i := 388) (by decide +kernel)⟩
theorem lw_p35 : lw_okq (⟨"WardCourt$Leaves", "wasUsed", "(I)Z"⟩, 3) := ⟨⟨by decide +kernel, by decide +kernel⟩, List.mem_of_getElem? (i := 65) (by decide +kernel), List.mem_of_getElem? (i := 395) (by decide +kernel), List.mem_of_getElem? (i := 396) (by decide +kernel)⟩
theorem lw_p36 : lw_okq (⟨"WardCourt$Leaves", "use", "(II)V"⟩, 3) := ⟨⟨by decide +kernel, by decide +kernel⟩, List.mem_of_getElem? (i := 65) (by decide +kernel), List.mem_of_getElem? (i := 400) (by decide +kernel), List.mem_of_getElem? (i := 401) (by decide +kernel)⟩
theorem lw_p37 : lw_okq (⟨"WardCourt$Items", "isReceipt", "(I)Z"⟩, 8) := ⟨⟨by decide +kernel, by decide +kernel⟩, List.mem_of_getElem? (i := 82) (by decide +kernel), List.mem_of_getElem? (i := 409) (by decide +kernel), List.mem_of_getElem? (i := 410) (by decide +kernel)⟩
theorem lw_p38 : lw_okq (⟨"WardCourt$Items", "setVoucher", "(IZ)Z"⟩, 8) := ⟨⟨by decide +kernel, by decide +kernel⟩, List.mem_of_getElem? (i := 82) (by decide +kernel), List.mem_of_getElem? (i := 413) (by decide +kernel), List.mem_of_getElem? (i := 414) (by decide +kernel)⟩
theorem lw_p39 : lw_okq (⟨"WardCourt$Items", "setChallenge", "(IZ)Z"⟩, 8) := ⟨⟨by decide +kernel, by decide +kernel⟩, List.mem_of_getElem? (i := 82) (by decide +kernel), List.mem_of_getElem? (i := 421) (by decide +kernel), List.mem_of_getElem? (i := 422) (by decide +kernel)⟩
theorem lw_p40 : lw_okq (⟨"WardCourt$Leases", "add", "(IIII)V"⟩, 5) := ⟨⟨by decide +kernel, by decide +kernel⟩, List.mem_of_getElem? (i := 115) (by decide +kernel), List.mem_of_getElem? (i := 434) (by decide +kernel), List.mem_of_getElem? (i := 435) (by decide +kernel)⟩
theorem lw_p41 : lw_okq (⟨"WardCourt$Leases", "flawsOf", "(ILWardCourt$Laws;LWardCourt$Leaves;)I"⟩, 5) := ⟨⟨by decide +kernel, by decide +kernel⟩, List.mem_of_getElem? (i := 115) (by decide +kernel), List.mem_of_getElem? (i := 442) (by decide +kernel), List.mem_of_getElem? (i := 443) (by decide +kernel)⟩
theorem lw_p42 : lw_okq (⟨"WardCourt$Leases", "dueBy", "(II)I"⟩, 5) := ⟨⟨by decide +kernel, by decide +kernel⟩, List.mem_of_getElem? (i := 115) (by decide +kernel), List.mem_of_getElem? (i := 453) (by decide +kernel), List.mem_of_getElem? (i := 454) (by decide +kernel)⟩
theorem lw_p43 : lw_okq (⟨"WardCourt$Items", "hadOf", "(II)I"⟩, 8) := ⟨⟨by decide +kernel, by decide +kernel⟩, List.mem_of_getElem? (i := 82) (by decide +kernel), List.mem_of_getElem? (i := 460) (by decide +kernel), List.mem_of_getElem? (i := 461) (by decide +kernel)⟩
theorem lw_p44 : lw_okq (⟨"WardCourt$Books", "potAfter", "(ILWardCourt$Wards;LWardCourt$Items;)I"⟩, 3) := ⟨⟨by decide +kernel, by decide +kernel⟩, List.mem_of_getElem? (i := 138) (by decide +kernel), List.mem_of_getElem? (i := 468) (by decide +kernel), List.mem_of_getElem? (i := 469) (by decide +kernel)⟩
theorem lw_p45 : lw_okq (⟨"WardCourt$Books", "entry", "(II)I"⟩, 3) := ⟨⟨by decide +kernel, by decide +kernel⟩, List.mem_of_getElem? (i := 138) (by decide +kernel), List.mem_of_getElem? (i := 472) (by decide +kernel), List.mem_of_getElem? (i := 473) (by decide +kernel)⟩
theorem lw_p46 : lw_okq (⟨"WardCourt$Wards", "givenBetween", "(II)I"⟩, 6) := ⟨⟨by decide +kernel, by decide +kernel⟩, List.mem_of_getElem? (i := 39) (by decide +kernel), List.mem_of_getElem? (i := 477) (by decide +kernel), List.mem_of_getElem? (i := 478) (by decide +kernel)⟩
theorem lw_p47 : lw_okq (⟨"WardCourt$Books", "keep", "(I)V"⟩, 3) := ⟨⟨by decide +kernel, by decide +kernel⟩, List.mem_of_getElem? (i := 138) (by decide +kernel), List.mem_of_getElem? (i := 492) (by decide +kernel), List.mem_of_getElem? (i := 493) (by decide +kernel)⟩
def lw_privs_3 : List (MethodName × Nat) := [(⟨"WardCourt$Leaves", "useOf", "(I)I"⟩, 3), (⟨"WardCourt$Leases", "has", "(I)Z"⟩, 5), (⟨"WardCourt$Items", "add", "(IIZI)V"⟩, 8), (⟨"WardCourt$Leaves", "wasUsed", "(I)Z"⟩, 3), (⟨"WardCourt$Leaves", "use", "(II)V"⟩, 3), (⟨"WardCourt$Items", "isReceipt", "(I)Z"⟩, 8), (⟨"WardCourt$Items", "setVoucher", "(IZ)Z"⟩, 8), (⟨"WardCourt$Items", "setChallenge", "(IZ)Z"⟩, 8), (⟨"WardCourt$Leases", "add", "(IIII)V"⟩, 5), (⟨"WardCourt$Leases", "flawsOf", "(ILWardCourt$Laws;LWardCourt$Leaves;)I"⟩, 5), (⟨"WardCourt$Leases", "dueBy", "(II)I"⟩, 5), (⟨"WardCourt$Items", "hadOf", "(II)I"⟩, 8), (⟨"WardCourt$Books", "potAfter", "(ILWardCourt$Wards;LWardCourt$Items;)I"⟩, 3), (⟨"WardCourt$Books", "entry", "(II)I"⟩, 3), (⟨"WardCourt$Wards", "givenBetween", "(II)I"⟩, 6), (⟨"WardCourt$Books", "keep", "(I)V"⟩, 3)]
theorem lw_r3 : ∀ q ∈ lw_privs_3, lw_okq q := List.forall_mem_cons.mpr ⟨lw_p32, List.forall_mem_cons.mpr ⟨lw_p33, List.forall_mem_cons.mpr ⟨lw_p34, List.forall_mem_cons.mpr ⟨lw_p35, List.forall_mem_cons.mpr ⟨lw_p36, List.forall_mem_cons.mpr ⟨lw_p37, List.forall_mem_cons.mpr ⟨lw_p38, List.forall_mem_cons.mpr ⟨lw_p39, List.forall_mem_cons.mpr ⟨lw_p40, List.forall_mem_cons.mpr ⟨lw_p41, List.forall_mem_cons.mpr ⟨lw_p42, List.forall_mem_cons.mpr ⟨lw_p43, List.forall_mem_cons.mpr ⟨lw_p44, List.forall_mem_cons.mpr ⟨lw_p45, List.forall_mem_cons.mpr ⟨lw_p46, List.forall_mem_cons.mpr ⟨lw_p47, fun _ h => absurd h List.not_mem_nil⟩⟩⟩⟩⟩⟩⟩⟩⟩⟩⟩⟩⟩⟩⟩⟩
theorem lw_p48 : lw_okq (⟨"WardCourt$Books", "wasKept", "(I)Z"⟩, 3) := ⟨⟨by decide +kernel, by decide +kernel⟩, List.mem_of_getElem? (i := 138) (by decide +kernel), List.mem_of_getElem? (i := 500) (by decide +kernel), List.mem_of_getElem? (i := 501) (by decide +kernel)⟩
theorem lw_p49 : lw_okq (⟨"WardCourt$Books", "keptEntry", "(II)I"⟩, 3) := ⟨⟨by decide +kernel, by decide +kernel⟩, List.mem_of_getElem? (i := 138) (by decide +kernel), List.mem_of_getElem? (i := 505) (by decide +kernel), List.mem_of_getElem? (i := 506) (by decide +kernel)⟩
theorem lw_p50 : lw_okq (⟨"WardCourt$Books", "changedYears", "()I"⟩, 3) := ⟨⟨by decide +kernel, by decide +kernel⟩, List.mem_of_getElem? (i := 138) (by decide +kernel), List.mem_of_getElem? (i := 513) (by decide +kernel), List.mem_of_getElem? (i := 514) (by decide +kernel)⟩
theorem lw_p51 : lw_okq (⟨"WardCourt$Books", "hasChanged", "(I)Z"⟩, 3) := ⟨⟨by decide +kernel, by decide +kernel⟩, List.mem_of_getElem? (i := 138) (by decide +kernel), List.mem_of_getElem? (i := 518) (by decide +kernel), List.mem_of_getElem? (i := 519) (by decide +kernel)⟩
theorem lw_p52 : lw_okq (⟨"WardCourtModel", "inForce", "(II)I"⟩, 29) := ⟨⟨by decide +kernel, by decide +kernel⟩, List.mem_of_getElem? (i := 527) (by decide +kernel), List.mem_of_getElem? (i := 635) (by decide +kernel), List.mem_of_getElem? (i := 636) (by decide +kernel)⟩
theorem lw_p53 : lw_okq (⟨"WardCourtModel", "lawOn", "(I)I"⟩, 29) := ⟨⟨by decide +kernel, by decide +kernel⟩, List.mem_of_getElem? (i := 527) (by decide +kernel), List.mem_of_getElem? (i := 639) (by decide +kernel), List.mem_of_getElem? (i := 640) (by decide +kernel)⟩
theorem lw_p54 : lw_okq (⟨"WardCourtModel", "isWard", "(I)Z"⟩, 29) := ⟨⟨by decide +kernel, by decide +kernel⟩, List.mem_of_getElem? (i := 527) (by decide +kernel), List.mem_of_getElem? (i := 651) (by decide +kernel), List.mem_of_getElem? (i := 652) (by decide +kernel)⟩
theorem lw_p55 : lw_okq (⟨"WardCourtModel", "lay", "()V"⟩, 29) := ⟨⟨by decide +kernel, by decide +kernel⟩, List.mem_of_getElem? (i := 527) (by decide +kernel), List.mem_of_getElem? (i := 660) (by decide +kernel), List.mem_of_getElem? (i := 661) (by decide +kernel)⟩
theorem lw_p56 : lw_okq (⟨"WardCourtModel", "layFullDays", "()V"⟩, 29) := ⟨⟨by decide +kernel, by decide +kernel⟩, List.mem_of_getElem? (i := 527) (by decide +kernel), List.mem_of_getElem? (i := 664) (by decide +kernel), List.mem_of_getElem? (i := 665) (by decide +kernel)⟩
theorem lw_p57 : lw_okq (⟨"WardCourtModel", "barredFor", "(I)I"⟩, 29) := ⟨⟨by decide +kernel, by decide +kernel⟩, List.mem_of_getElem? (i := 527) (by decide +kernel), List.mem_of_getElem? (i := 668) (by decide +kernel), List.mem_of_getElem? (i := 669) (by decide +kernel)⟩
theorem lw_p58 : lw_okq (⟨"WardCourtModel", "lives", "(II)Z"⟩, 29) := ⟨⟨by decide +kernel, by decide +kernel⟩, List.mem_of_getElem? (i := 527) (by decide +kernel), List.mem_of_getElem? (i := 672) (by decide +kernel), List.mem_of_getElem? (i := 673) (by decide +kernel)⟩
theorem lw_p59 : lw_okq (⟨"WardCourtModel", "headsOn", "(IZ)I"⟩, 29) := ⟨⟨by decide +kernel, by decide +kernel⟩, List.mem_of_getElem? (i := 527) (by decide +kernel), List.mem_of_getElem? (i := 676) (by decide +kernel), List.mem_of_getElem? (i := 677) (by decide +kernel)⟩
theorem lw_p60 : lw_okq (⟨"WardCourtModel", "isLeave", "(I)Z"⟩, 29) := ⟨⟨by decide +kernel, by decide +kernel⟩, List.mem_of_getElem? (i := 527) (by decide +kernel), List.mem_of_getElem? (i := 694) (by decide +kernel), List.mem_of_getElem? (i := 695) (by decide +kernel)⟩
theorem lw_p61 : lw_okq (⟨"WardCourtModel", "isLease", "(I)Z"⟩, 29) := ⟨⟨by decide +kernel, by decide +kernel⟩, List.mem_of_getElem? (i := 527) (by decide +kernel), List.mem_of_getElem? (i := 702) (by decide +kernel), List.mem_of_getElem? (i := 703) (by decide +kernel)⟩
theorem lw_p62 : lw_okq (⟨"WardCourtModel", "item", "(ZIII)I"⟩, 29) := ⟨⟨by decide +kernel, by decide +kernel⟩, List.mem_of_getElem? (i := 527) (by decide +kernel), List.mem_of_getElem? (i := 706) (by decide +kernel), List.mem_of_getElem? (i := 707) (by decide +kernel)⟩
theorem lw_p63 : lw_okq (⟨"WardCourtModel", "isItem", "(I)Z"⟩, 29) := ⟨⟨by decide +kernel, by decide +kernel⟩, List.mem_of_getElem? (i := 527) (by decide +kernel), List.mem_of_getElem? (i := 718) (by decide +kernel), List.mem_of_getElem? (i := 719) (by decide +kernel)⟩
def lw_privs_4 : List (MethodName × Nat) := [(⟨"WardCourt$Books", "wasKept", "(I)Z"⟩, 3), (⟨"WardCourt$Books", "keptEntry", "(II)I"⟩, 3), (⟨"WardCourt$Books", "changedYears", "()I"⟩, 3), (⟨"WardCourt$Books", "hasChanged", "(I)Z"⟩, 3), (⟨"WardCourtModel", "inForce", "(II)I"⟩, 29), (⟨"WardCourtModel", "lawOn", "(I)I"⟩, 29), (⟨"WardCourtModel", "isWard", "(I)Z"⟩, 29), (⟨"WardCourtModel", "lay", "()V"⟩, 29), (⟨"WardCourtModel", "layFullDays", "()V"⟩, 29), (⟨"WardCourtModel", "barredFor", "(I)I"⟩, 29), (⟨"WardCourtModel", "lives", "(II)Z"⟩, 29), (⟨"WardCourtModel", "headsOn", "(IZ)I"⟩, 29), (⟨"WardCourtModel", "isLeave", "(I)Z"⟩, 29), (⟨"WardCourtModel", "isLease", "(I)Z"⟩, 29), (⟨"WardCourtModel", "item", "(ZIII)I"⟩, 29), (⟨"WardCourtModel", "isItem", "(I)Z"⟩, 29)]
theorem lw_r4 : ∀ q ∈ lw_privs_4, lw_okq q := List.forall_mem_cons.mpr ⟨lw_p48, List.forall_mem_cons.mpr ⟨lw_p49, List.forall_mem_cons.mpr ⟨lw_p50, List.forall_mem_cons.mpr ⟨lw_p51, List.forall_mem_cons.mpr ⟨lw_p52, List.forall_mem_cons.mpr ⟨lw_p53, List.forall_mem_cons.mpr ⟨lw_p54, List.forall_mem_cons.mpr ⟨lw_p55, List.forall_mem_cons.mpr ⟨lw_p56, List.forall_mem_cons.mpr ⟨lw_p57, List.forall_mem_cons.mpr ⟨lw_p58, List.forall_mem_cons.mpr ⟨lw_p59, List.forall_mem_cons.mpr ⟨lw_p60, List.forall_mem_cons.mpr ⟨lw_p61, List.forall_mem_cons.mpr ⟨lw_p62, List.forall_mem_cons.mpr ⟨lw_p63, fun _ h => absurd h List.not_mem_nil⟩⟩⟩⟩⟩⟩⟩⟩⟩⟩⟩⟩⟩⟩⟩⟩
theorem lw_p64 : lw_okq (⟨"WardCourtModel", "voidFor", "(I)I"⟩, 29) := ⟨⟨by decide +kernel, by decide +kernel⟩, List.mem_of_getElem? (i := 527) (by decide +kernel), List.mem_of_getElem? (i := 738) (by decide +kernel), List.mem_of_getElem? (i := 739) (by decide +kernel)⟩
def lw_privs_5 : List (MethodName × Nat) := [(⟨"WardCourtModel", "voidFor", "(I)I"⟩, 29)]
theorem lw_r5 : ∀ q ∈ lw_privs_5, lw_okq q := List.forall_mem_cons.mpr ⟨lw_p64, fun _ h => absurd h List.not_mem_nil⟩
def lw_privs : List (MethodName × Nat) := lw_privs_1 ++ (lw_privs_2 ++ (lw_privs_3 ++ (lw_privs_4 ++ (lw_privs_5))))
def lw_tbl : List Cond := k2_sels lw_privs ++ tables_1
theorem lw_privs_ok : ∀ q ∈ lw_privs, lw_okq q := by
  show ∀ q ∈ lw_privs_1 ++ (lw_privs_2 ++ (lw_privs_3 ++ (lw_privs_4 ++ (lw_privs_5)))), lw_okq q
  exact List.forall_mem_append.mpr ⟨lw_r1, List.forall_mem_append.mpr ⟨lw_r2, List.forall_mem_append.mpr ⟨lw_r3, List.forall_mem_append.mpr ⟨lw_r4, lw_r5⟩⟩⟩⟩

/-! ===== BEGIN words of one list among another's, by their places ===== -/
theorem goodIn_r {big : List Cond} (ws : List Cond) (ps : List Nat) (hp : ws = ps.filterMap (fun i => big[i]?)) (h : ws.all goodWord = true) : GoodIn big ws := by
  intro w hw
  have h1 := List.all_eq_true.mp h w hw
  rw [hp] at hw
  obtain ⟨i, -, hi⟩ := List.mem_filterMap.mp hw
  have hm : w ∈ big := by first | exact List.mem_of_getElem? hi | exact List.getElem?_mem hi
  exact ⟨hm, good_of_word h1⟩
theorem goodIn_app {big a b : List Cond} (ha : GoodIn big a) (hb : GoodIn big b) : GoodIn big (a ++ b) := fun w h => (List.mem_append.mp h).elim (ha w) (hb w)
theorem goodIn_ca {big a b : List Cond} {c : Cond} (ha : GoodIn big (c :: a)) (hb : GoodIn big b) : GoodIn big (c :: (a ++ b)) := fun w h => (List.mem_cons.mp h).elim (fun e => ha w (List.mem_cons.mpr (Or.inl e))) (fun h => (List.mem_append.mp h).elim (fun h => ha w (List.mem_cons.mpr (Or.inr h))) (hb w))
theorem goodIn_sub {big ws : List Cond} (hm : ∀ w ∈ ws, w ∈ big) (h : ws.all goodWord = true) : GoodIn big ws := fun w hw => ⟨hm w hw, good_of_word (List.all_eq_true.mp h w hw)⟩
/-! ===== END ===== -/

/-! ===== BEGIN new T[n][m]: the outer array a place, the inner ones among the pooled ===== -/
/-- f, but v at every address of l -/
def vr_up {α : Type} (f : Nat → α) (l : List Nat) (v : α) : Nat → α := fun a => if a ∈ l then v else f a
theorem vr_up_in {α : Type} {f : Nat → α} {l : List Nat} {v : α} {a : Nat} (h : a ∈ l) : vr_up f l v a = v := if_pos h
theorem vr_up_ne {α : Type} {f : Nat → α} {l : List Nat} {v : α} {a : Nat} (h : a ∉ l) : vr_up f l v a = f a := if_neg h
theorem vr_rows {L l : List Nat} {f : Nat → va_E} {e : va_E} (h : ∀ a, a ∈ l → a ∉ L) : va_pl L f ++ l.map (fun a => (a, e)) = va_pl (L ++ l) (vr_up f l e) := by
  unfold va_pl
  rw [List.map_append]
  congr 1
  · apply List.map_congr_left
    intro a ha
    rw [vr_up_ne (fun q => h a q ha)]
  · apply List.map_congr_left
    intro a ha
    rw [vr_up_in ha]
theorem vr_lay {X rows : va_W} {x : Nat × va_E} {pl : va_W} {D : va_G} {cl : List vw_C} {H : Heap} (hP : va_P D cl (((X ++ pl) ++ [x]) ++ rows) H) : va_P D cl ((X ++ [x]) ++ (pl ++ rows)) H := by
  rw [List.append_assoc (X ++ pl)] at hP
  have h := va_P.swap hP
  rw [← List.append_assoc X] at h
  have h2 := va_P.swap h
  rw [List.append_assoc (X ++ [x])] at h2
  exact h2
theorem vr_layD {X rows : va_W} {x : Nat × va_E} {pl : va_W} {A : Nat → Prop} (hD : va_D A (((X ++ pl) ++ [x]) ++ rows)) : va_D A ((X ++ [x]) ++ (pl ++ rows)) := by
  rw [List.append_assoc (X ++ pl)] at hD
  have h := va_D.swap hD
  rw [← List.append_assoc X] at h
  have h2 := va_D.swap h
  rw [List.append_assoc (X ++ [x])] at h2
  exact h2
theorem vr_outer (c : ClassId) (N h0 : Nat) : ∀ i : Nat, Jvm.Free.Multi.outerC c N h0 i = arrV c N (fun j => va_rf (if j < i then some (h0 + 1 + j) else none))
  | 0 => by
    show ({ cls := c, slots := Array.replicate N .null, vm := .none } : Cell) = _
    rw [arrV_new]
    refine congrArg (arrV c N) (funext fun j => ?_)
    simp [va_rf]
  | i + 1 => by
    show (Jvm.Free.Multi.outerC c N h0 i).setSlot i (.ref (h0 + 1 + i)) = _
    rw [vr_outer c N h0 i, arrV_store]
    refine congrArg (arrV c N) (funext fun j => ?_)
    by_cases e : j = i
    · subst e
      simp [updV, va_rf]
    · by_cases h : j < i
      · simp [updV, e, h, Nat.lt_succ_of_lt h]
      · simp [updV, e, h, show ¬ j < i + 1 by omega]
/-! ===== END ===== -/

/-! ===== BEGIN printed: names, fields, word lists, decode rows ===== -/
def RX0 : String := "WardCourt$Books"
def TX0 : u_T := fun k => match k with
  | 0 => ("WardCourt$Books", "now", "[[I", true)
  | 1 => ("WardCourt$Books", "kept", "[[I", true)
  | _ => ("WardCourt$Books", "keptYears", "I", false)
def tyX0 : Nat → FieldType := fun k => match k with
  | 0 => .array (.array .int)
  | 1 => .array (.array .int)
  | _ => .int
abbrev wsX00 : List Cond := u_ws RX0 TX0 3
theorem nmX0 : ∀ a, a < 3 → ∀ b, b < 3 → a ≠ b → (TX0 a).2.1 ≠ (TX0 b).2.1 := by decide +kernel
theorem tyX0_ok : ∀ k, k < 3 → parseFieldDescriptor (TX0 k).2.2.1 = some (tyX0 k) := by decide +kernel
abbrev cX0_init : ByteArray := prog_2_method_1_code
def yX0_init : MethodName := ⟨RX0, "<init>", "()V"⟩
abbrev cX0_reckon : ByteArray := prog_2_method_2_code
def yX0_reckon : MethodName := ⟨RX0, "reckon", "(LWardCourt$Laws;LWardCourt$Wards;LWardCourt$Items;)V"⟩
abbrev cX0_reckonYear : ByteArray := prog_2_method_3_code
def yX0_reckonYear : MethodName := ⟨RX0, "reckonYear", "(IILWardCourt$Laws;LWardCourt$Wards;LWardCourt$Items;)I"⟩
abbrev cX0_turnAfter : ByteArray := prog_2_method_4_code
def yX0_turnAfter : MethodName := ⟨RX0, "turnAfter", "(IILWardCourt$Laws;LWardCourt$Wards;LWardCourt$Items;)I"⟩
abbrev cX0_countedADay : ByteArray := prog_2_method_5_code
def yX0_countedADay : MethodName := ⟨RX0, "countedADay", "(IILWardCourt$Laws;)J"⟩
abbrev cX0_potAfter : ByteArray := prog_2_method_6_code
def yX0_potAfter : MethodName := ⟨RX0, "potAfter", "(ILWardCourt$Wards;LWardCourt$Items;)I"⟩
abbrev cX0_entry : ByteArray := prog_2_method_7_code
def yX0_entry : MethodName := ⟨RX0, "entry", "(II)I"⟩
abbrev cX0_keptEntry : ByteArray := prog_2_method_8_code
def yX0_keptEntry : MethodName := ⟨RX0, "keptEntry", "(II)I"⟩
abbrev cX0_keep : ByteArray := prog_2_method_9_code
def yX0_keep : MethodName := ⟨RX0, "keep", "(I)V"⟩
abbrev cX0_wasKept : ByteArray := prog_2_method_10_code
def yX0_wasKept : MethodName := ⟨RX0, "wasKept", "(I)Z"⟩
abbrev cX0_changedYears : ByteArray := prog_2_method_11_code
def yX0_changedYears : MethodName := ⟨RX0, "changedYears", "()I"⟩
abbrev cX0_hasChanged : ByteArray := prog_2_method_12_code
def yX0_hasChanged : MethodName := ⟨RX0, "hasChanged", "(I)Z"⟩
def RX1 : String := "WardCourt$Items"
def TX1 : u_T := fun k => match k with
  | 0 => ("WardCourt$Items", "day", "[I", true)
  | 1 => ("WardCourt$Items", "coins", "[I", true)
  | 2 => ("WardCourt$Items", "receipt", "[Z", true)
  | 3 => ("WardCourt$Items", "link", "[I", true)
  | 4 => ("WardCourt$Items", "voucher", "[Z", true)
  | 5 => ("WardCourt$Items", "challenged", "[Z", true)
  | 6 => ("WardCourt$Items", "allowed", "[Z", true)
  | _ => ("WardCourt$Items", "count", "I", false)
def tyX1 : Nat → FieldType := fun k => match k with
  | 0 => .array .int
  | 1 => .array .int
  | 2 => .array .boolean
  | 3 => .array .int
  | 4 => .array .boolean
  | 5 => .array .boolean
  | 6 => .array .boolean
  | _ => .int
abbrev wsX10 : List Cond := u_ws RX1 TX1 8
theorem nmX1 : ∀ a, a < 8 → ∀ b, b < 8 → a ≠ b → (TX1 a).2.1 ≠ (TX1 b).2.1 := by decide +kernel
theorem tyX1_ok : ∀ k, k < 8 → parseFieldDescriptor (TX1 k).2.2.1 = some (tyX1 k) := by decide +kernel
abbrev cX1_init : ByteArray := prog_3_method_1_code
def yX1_init : MethodName := ⟨RX1, "<init>", "()V"⟩
abbrev cX1_has : ByteArray := prog_3_method_2_code
def yX1_has : MethodName := ⟨RX1, "has", "(I)Z"⟩
abbrev cX1_add : ByteArray := prog_3_method_3_code
def yX1_add : MethodName := ⟨RX1, "add", "(IIZI)V"⟩
abbrev cX1_isReceipt : ByteArray := prog_3_method_4_code
def yX1_isReceipt : MethodName := ⟨RX1, "isReceipt", "(I)Z"⟩
abbrev cX1_setVoucher : ByteArray := prog_3_method_5_code
def yX1_setVoucher : MethodName := ⟨RX1, "setVoucher", "(IZ)Z"⟩
abbrev cX1_setChallenge : ByteArray := prog_3_method_6_code
def yX1_setChallenge : MethodName := ⟨RX1, "setChallenge", "(IZ)Z"⟩
abbrev cX1_barsOf : ByteArray := prog_3_method_7_code
def yX1_barsOf : MethodName := ⟨RX1, "barsOf", "(ILWardCourt$Laws;LWardCourt$Leaves;)I"⟩
abbrev cX1_settleAllowed : ByteArray := prog_3_method_8_code
def yX1_settleAllowed : MethodName := ⟨RX1, "settleAllowed", "(LWardCourt$Laws;LWardCourt$Leaves;)V"⟩
abbrev cX1_receivedBetween : ByteArray := prog_3_method_9_code
def yX1_receivedBetween : MethodName := ⟨RX1, "receivedBetween", "(II)I"⟩
abbrev cX1_paidBetween : ByteArray := prog_3_method_10_code
def yX1_paidBetween : MethodName := ⟨RX1, "paidBetween", "(II)I"⟩
abbrev cX1_sumBetween : ByteArray := prog_3_method_11_code
def yX1_sumBetween : MethodName := ⟨RX1, "sumBetween", "(ZII)I"⟩
abbrev cX1_hadOf : ByteArray := prog_3_method_12_code
def yX1_hadOf : MethodName := ⟨RX1, "hadOf", "(II)I"⟩
abbrev cX1_turnAfter : ByteArray := prog_3_method_13_code
def yX1_turnAfter : MethodName := ⟨RX1, "turnAfter", "(II)I"⟩
def RX2 : String := "WardCourt$Laws"
def TX2 : u_T := fun k => match k with
  | 0 => ("WardCourt$Laws", "from", "[I", true)
  | 1 => ("WardCourt$Laws", "parts", "[[I", true)
  | _ => ("WardCourt$Laws", "count", "I", false)
def tyX2 : Nat → FieldType := fun k => match k with
  | 0 => .array .int
  | 1 => .array (.array .int)
  | _ => .int
abbrev wsX20 : List Cond := u_ws RX2 TX2 3
theorem nmX2 : ∀ a, a < 3 → ∀ b, b < 3 → a ≠ b → (TX2 a).2.1 ≠ (TX2 b).2.1 := by decide +kernel
theorem tyX2_ok : ∀ k, k < 3 → parseFieldDescriptor (TX2 k).2.2.1 = some (tyX2 k) := by decide +kernel
abbrev cX2_init : ByteArray := prog_4_method_1_code
def yX2_init : MethodName := ⟨RX2, "<init>", "()V"⟩
abbrev cX2_add : ByteArray := prog_4_method_2_code
def yX2_add : MethodName := ⟨RX2, "add", "(IIIIII)V"⟩
abbrev cX2_inForce : ByteArray := prog_4_method_3_code
def yX2_inForce : MethodName := ⟨RX2, "inForce", "(II)I"⟩
abbrev cX2_fullAgeDay : ByteArray := prog_4_method_4_code
def yX2_fullAgeDay : MethodName := ⟨RX2, "fullAgeDay", "(I)I"⟩
abbrev cX2_sooner : ByteArray := prog_4_method_5_code
def yX2_sooner : MethodName := ⟨RX2, "sooner", "(III)I"⟩
abbrev cX2_turnAfter : ByteArray := prog_4_method_6_code
def yX2_turnAfter : MethodName := ⟨RX2, "turnAfter", "(II)I"⟩
def RX3 : String := "WardCourt$Leases"
def TX3 : u_T := fun k => match k with
  | 0 => ("WardCourt$Leases", "from", "[I", true)
  | 1 => ("WardCourt$Leases", "years", "[I", true)
  | 2 => ("WardCourt$Leases", "rent", "[I", true)
  | 3 => ("WardCourt$Leases", "leaveOf", "[I", true)
  | _ => ("WardCourt$Leases", "count", "I", false)
def tyX3 : Nat → FieldType := fun k => match k with
  | 0 => .array .int
  | 1 => .array .int
  | 2 => .array .int
  | 3 => .array .int
  | _ => .int
abbrev wsX30 : List Cond := u_ws RX3 TX3 5
theorem nmX3 : ∀ a, a < 5 → ∀ b, b < 5 → a ≠ b → (TX3 a).2.1 ≠ (TX3 b).2.1 := by decide +kernel
theorem tyX3_ok : ∀ k, k < 5 → parseFieldDescriptor (TX3 k).2.2.1 = some (tyX3 k) := by decide +kernel
abbrev cX3_init : ByteArray := prog_5_method_1_code
def yX3_init : MethodName := ⟨RX3, "<init>", "()V"⟩
abbrev cX3_has : ByteArray := prog_5_method_2_code
def yX3_has : MethodName := ⟨RX3, "has", "(I)Z"⟩
abbrev cX3_add : ByteArray := prog_5_method_3_code
def yX3_add : MethodName := ⟨RX3, "add", "(IIII)V"⟩
abbrev cX3_flawsOf : ByteArray := prog_5_method_4_code
def yX3_flawsOf : MethodName := ⟨RX3, "flawsOf", "(ILWardCourt$Laws;LWardCourt$Leaves;)I"⟩
abbrev cX3_dueBy : ByteArray := prog_5_method_5_code
def yX3_dueBy : MethodName := ⟨RX3, "dueBy", "(II)I"⟩
def RX4 : String := "WardCourt$Leaves"
def TX4 : u_T := fun k => match k with
  | 0 => ("WardCourt$Leaves", "limit", "[I", true)
  | 1 => ("WardCourt$Leaves", "used", "[I", true)
  | _ => ("WardCourt$Leaves", "count", "I", false)
def tyX4 : Nat → FieldType := fun k => match k with
  | 0 => .array .int
  | 1 => .array .int
  | _ => .int
abbrev wsX40 : List Cond := u_ws RX4 TX4 3
theorem nmX4 : ∀ a, a < 3 → ∀ b, b < 3 → a ≠ b → (TX4 a).2.1 ≠ (TX4 b).2.1 := by decide +kernel
theorem tyX4_ok : ∀ k, k < 3 → parseFieldDescriptor (TX4 k).2.2.1 = some (tyX4 k) := by decide +kernel
abbrev cX4_init : ByteArray := prog_6_method_1_code
def yX4_init : MethodName := ⟨RX4, "<init>", "()V"⟩
abbrev cX4_has : ByteArray := prog_6_method_2_code
def yX4_has : MethodName := ⟨RX4, "has", "(I)Z"⟩
abbrev cX4_add : ByteArray := prog_6_method_3_code
def yX4_add : MethodName := ⟨RX4, "add", "(I)V"⟩
abbrev cX4_limitOf : ByteArray := prog_6_method_4_code
def yX4_limitOf : MethodName := ⟨RX4, "limitOf", "(I)I"⟩
abbrev cX4_useOf : ByteArray := prog_6_method_5_code
def yX4_useOf : MethodName := ⟨RX4, "useOf", "(I)I"⟩
abbrev cX4_wasUsed : ByteArray := prog_6_method_6_code
def yX4_wasUsed : MethodName := ⟨RX4, "wasUsed", "(I)Z"⟩
abbrev cX4_use : ByteArray := prog_6_method_7_code
def yX4_use : MethodName := ⟨RX4, "use", "(II)V"⟩
abbrev cX4_barsOn : ByteArray := prog_6_method_8_code
def yX4_barsOn : MethodName := ⟨RX4, "barsOn", "(III)I"⟩
def RX5 : String := "WardCourt$Wards"
def TX5 : u_T := fun k => match k with
  | 0 => ("WardCourt$Wards", "born", "[I", true)
  | 1 => ("WardCourt$Wards", "died", "[I", true)
  | 2 => ("WardCourt$Wards", "fullAge", "[I", true)
  | 3 => ("WardCourt$Wards", "givenOver", "[I", true)
  | 4 => ("WardCourt$Wards", "share", "[I", true)
  | _ => ("WardCourt$Wards", "count", "I", false)
def tyX5 : Nat → FieldType := fun k => match k with
  | 0 => .array .int
  | 1 => .array .int
  | 2 => .array .int
  | 3 => .array .int
  | 4 => .array .int
  | _ => .int
abbrev wsX50 : List Cond := u_ws RX5 TX5 6
theorem nmX5 : ∀ a, a < 6 → ∀ b, b < 6 → a ≠ b → (TX5 a).2.1 ≠ (TX5 b).2.1 := by decide +kernel
theorem tyX5_ok : ∀ k, k < 6 → parseFieldDescriptor (TX5 k).2.2.1 = some (tyX5 k) := by decide +kernel
abbrev cX5_init : ByteArray := prog_7_method_1_code
def yX5_init : MethodName := ⟨RX5, "<init>", "()V"⟩
abbrev cX5_has : ByteArray := prog_7_method_2_code
def yX5_has : MethodName := ⟨RX5, "has", "(I)Z"⟩
abbrev cX5_add : ByteArray := prog_7_method_3_code
def yX5_add : MethodName := ⟨RX5, "add", "(I)V"⟩
abbrev cX5_birthOf : ByteArray := prog_7_method_4_code
def yX5_birthOf : MethodName := ⟨RX5, "birthOf", "(I)I"⟩
abbrev cX5_deathOf : ByteArray := prog_7_method_5_code
def yX5_deathOf : MethodName := ⟨RX5, "deathOf", "(I)I"⟩
abbrev cX5_setDeath : ByteArray := prog_7_method_6_code
def yX5_setDeath : MethodName := ⟨RX5, "setDeath", "(II)V"⟩
abbrev cX5_fullAgeOf : ByteArray := prog_7_method_7_code
def yX5_fullAgeOf : MethodName := ⟨RX5, "fullAgeOf", "(I)I"⟩
abbrev cX5_givenOverOf : ByteArray := prog_7_method_8_code
def yX5_givenOverOf : MethodName := ⟨RX5, "givenOverOf", "(I)I"⟩
abbrev cX5_shareOf : ByteArray := prog_7_method_9_code
def yX5_shareOf : MethodName := ⟨RX5, "shareOf", "(I)I"⟩
abbrev cX5_settleDays : ByteArray := prog_7_method_10_code
def yX5_settleDays : MethodName := ⟨RX5, "settleDays", "(LWardCourt$Laws;)V"⟩
abbrev cX5_isAlive : ByteArray := prog_7_method_11_code
def yX5_isAlive : MethodName := ⟨RX5, "isAlive", "(II)Z"⟩
abbrev cX5_headsOn : ByteArray := prog_7_method_12_code
def yX5_headsOn : MethodName := ⟨RX5, "headsOn", "(I)I"⟩
abbrev cX5_giveShares : ByteArray := prog_7_method_13_code
def yX5_giveShares : MethodName := ⟨RX5, "giveShares", "(II)I"⟩
abbrev cX5_givenBetween : ByteArray := prog_7_method_14_code
def yX5_givenBetween : MethodName := ⟨RX5, "givenBetween", "(II)I"⟩
abbrev cX5_turnAfter : ByteArray := prog_7_method_15_code
def yX5_turnAfter : MethodName := ⟨RX5, "turnAfter", "(II)I"⟩
def RX6 : String := "WardCourt"
def TX6 : u_T := fun k => match k with
  | 0 => ("WardCourt", "laws", "LWardCourt$Laws;", true)
  | 1 => ("WardCourt", "wards", "LWardCourt$Wards;", true)
  | 2 => ("WardCourt", "leaves", "LWardCourt$Leaves;", true)
  | 3 => ("WardCourt", "items", "LWardCourt$Items;", true)
  | 4 => ("WardCourt", "leases", "LWardCourt$Leases;", true)
  | 5 => ("WardCourt", "books", "LWardCourt$Books;", true)
  | _ => ("WardCourt", "stale", "Z", false)
def tyX6 : Nat → FieldType := fun k => match k with
  | 0 => .object "WardCourt$Laws"
  | 1 => .object "WardCourt$Wards"
  | 2 => .object "WardCourt$Leaves"
  | 3 => .object "WardCourt$Items"
  | 4 => .object "WardCourt$Leases"
  | 5 => .object "WardCourt$Books"
  | _ => .boolean
abbrev wsX60 : List Cond := u_ws RX6 TX6 7
theorem nmX6 : ∀ a, a < 7 → ∀ b, b < 7 → a ≠ b → (TX6 a).2.1 ≠ (TX6 b).2.1 := by decide +kernel
theorem tyX6_ok : ∀ k, k < 7 → parseFieldDescriptor (TX6 k).2.2.1 = some (tyX6 k) := by decide +kernel
abbrev cX6_init : ByteArray := prog_1_method_1_code
def yX6_init : MethodName := ⟨RX6, "<init>", "()V"⟩
abbrev cX6_law : ByteArray := prog_1_method_2_code
def yX6_law : MethodName := ⟨RX6, "law", "(IIIIII)I"⟩
abbrev cX6_force : ByteArray := prog_1_method_3_code
def yX6_force : MethodName := ⟨RX6, "force", "(II)I"⟩
abbrev cX6_ward : ByteArray := prog_1_method_4_code
def yX6_ward : MethodName := ⟨RX6, "ward", "(I)I"⟩
abbrev cX6_dies : ByteArray := prog_1_method_5_code
def yX6_dies : MethodName := ⟨RX6, "dies", "(II)I"⟩
abbrev cX6_about : ByteArray := prog_1_method_6_code
def yX6_about : MethodName := ⟨RX6, "about", "(II)I"⟩
abbrev cX6_heads : ByteArray := prog_1_method_7_code
def yX6_heads : MethodName := ⟨RX6, "heads", "(I)I"⟩
abbrev cX6_leave : ByteArray := prog_1_method_8_code
def yX6_leave : MethodName := ⟨RX6, "leave", "(I)I"⟩
abbrev cX6_ofLeave : ByteArray := prog_1_method_9_code
def yX6_ofLeave : MethodName := ⟨RX6, "ofLeave", "(II)I"⟩
abbrev cX6_receive : ByteArray := prog_1_method_10_code
def yX6_receive : MethodName := ⟨RX6, "receive", "(III)I"⟩
abbrev cX6_pay : ByteArray := prog_1_method_11_code
def yX6_pay : MethodName := ⟨RX6, "pay", "(III)I"⟩
abbrev cX6_vouch : ByteArray := prog_1_method_12_code
def yX6_vouch : MethodName := ⟨RX6, "vouch", "(IZ)I"⟩
abbrev cX6_challenge : ByteArray := prog_1_method_13_code
def yX6_challenge : MethodName := ⟨RX6, "challenge", "(IZ)I"⟩
abbrev cX6_barred : ByteArray := prog_1_method_14_code
def yX6_barred : MethodName := ⟨RX6, "barred", "(I)I"⟩
abbrev cX6_let : ByteArray := prog_1_method_15_code
def yX6_let : MethodName := ⟨RX6, "let", "(IIII)I"⟩
abbrev cX6_isVoid : ByteArray := prog_1_method_16_code
def yX6_isVoid : MethodName := ⟨RX6, "isVoid", "(I)I"⟩
abbrev cX6_arrears : ByteArray := prog_1_method_17_code
def yX6_arrears : MethodName := ⟨RX6, "arrears", "(II)I"⟩
abbrev cX6_pot : ByteArray := prog_1_method_18_code
def yX6_pot : MethodName := ⟨RX6, "pot", "(I)I"⟩
abbrev cX6_account : ByteArray := prog_1_method_19_code
def yX6_account : MethodName := ⟨RX6, "account", "(II)I"⟩
abbrev cX6_pass : ByteArray := prog_1_method_20_code
def yX6_pass : MethodName := ⟨RX6, "pass", "(I)I"⟩
abbrev cX6_passed : ByteArray := prog_1_method_21_code
def yX6_passed : MethodName := ⟨RX6, "passed", "(II)I"⟩
abbrev cX6_open : ByteArray := prog_1_method_22_code
def yX6_open : MethodName := ⟨RX6, "open", "()I"⟩
abbrev cX6_told : ByteArray := prog_1_method_23_code
def yX6_told : MethodName := ⟨RX6, "told", "(I)I"⟩
abbrev cX6_settle : ByteArray := prog_1_method_24_code
def yX6_settle : MethodName := ⟨RX6, "settle", "()V"⟩
abbrev cX6_within : ByteArray := prog_1_method_25_code
def yX6_within : MethodName := ⟨RX6, "within", "(III)Z"⟩
abbrev cX6_isDay : ByteArray := prog_1_method_26_code
def yX6_isDay : MethodName := ⟨RX6, "isDay", "(I)Z"⟩
abbrev cX6_isYear : ByteArray := prog_1_method_27_code
def yX6_isYear : MethodName := ⟨RX6, "isYear", "(I)Z"⟩
abbrev cX6_isCoins : ByteArray := prog_1_method_28_code
def yX6_isCoins : MethodName := ⟨RX6, "isCoins", "(I)Z"⟩
abbrev cX6_nextOf : ByteArray := prog_1_method_29_code
def yX6_nextOf : MethodName := ⟨RX6, "nextOf", "([IIII)I"⟩
def RX7 : String := "WardCourtModel"
def TX7 : u_T := fun k => match k with
  | 0 => ("WardCourtModel", "laws", "I", false)
  | 1 => ("WardCourtModel", "lawDay", "[I", true)
  | 2 => ("WardCourtModel", "lawWhat", "[I", true)
  | 3 => ("WardCourtModel", "wards", "I", false)
  | 4 => ("WardCourtModel", "born", "[I", true)
  | 5 => ("WardCourtModel", "dead", "[I", true)
  | 6 => ("WardCourtModel", "leaves", "I", false)
  | 7 => ("WardCourtModel", "upTo", "[I", true)
  | 8 => ("WardCourtModel", "usedFor", "[I", true)
  | 9 => ("WardCourtModel", "items", "I", false)
  | 10 => ("WardCourtModel", "isPayment", "[Z", true)
  | 11 => ("WardCourtModel", "itemDay", "[I", true)
  | 12 => ("WardCourtModel", "coins", "[I", true)
  | 13 => ("WardCourtModel", "of", "[I", true)
  | 14 => ("WardCourtModel", "isVouched", "[Z", true)
  | 15 => ("WardCourtModel", "isChallenged", "[Z", true)
  | 16 => ("WardCourtModel", "leases", "I", false)
  | 17 => ("WardCourtModel", "leaseDay", "[I", true)
  | 18 => ("WardCourtModel", "years", "[I", true)
  | 19 => ("WardCourtModel", "rent", "[I", true)
  | 20 => ("WardCourtModel", "leaseLeave", "[I", true)
  | 21 => ("WardCourtModel", "kept", "[I", true)
  | 22 => ("WardCourtModel", "passedYears", "I", false)
  | 23 => ("WardCourtModel", "isLaid", "Z", false)
  | 24 => ("WardCourtModel", "potAt", "[I", true)
  | 25 => ("WardCourtModel", "account", "[I", true)
  | 26 => ("WardCourtModel", "fullDay", "[I", true)
  | 27 => ("WardCourtModel", "givenDay", "[I", true)
  | _ => ("WardCourtModel", "given", "[I", true)
def tyX7 : Nat → FieldType := fun k => match k with
  | 0 => .int
  | 1 => .array .int
  | 2 => .array .int
  | 3 => .int
  | 4 => .array .int
  | 5 => .array .int
  | 6 => .int
  | 7 => .array .int
  | 8 => .array .int
  | 9 => .int
  | 10 => .array .boolean
  | 11 => .array .int
  | 12 => .array .int
  | 13 => .array .int
  | 14 => .array .boolean
  | 15 => .array .boolean
  | 16 => .int
  | 17 => .array .int
  | 18 => .array .int
  | 19 => .array .int
  | 20 => .array .int
  | 21 => .array .int
  | 22 => .int
  | 23 => .boolean
  | 24 => .array .int
  | 25 => .array .int
  | 26 => .array .int
  | 27 => .array .int
  | _ => .array .int
abbrev wsX70 : List Cond := u_ws RX7 TX7 29
theorem nmX7 : ∀ a, a < 29 → ∀ b, b < 29 → a ≠ b → (TX7 a).2.1 ≠ (TX7 b).2.1 := by decide +kernel
theorem tyX7_ok : ∀ k, k < 29 → parseFieldDescriptor (TX7 k).2.2.1 = some (tyX7 k) := by decide +kernel
abbrev cX7_init : ByteArray := prog_9_method_1_code
def yX7_init : MethodName := ⟨RX7, "<init>", "()V"⟩
abbrev cX7_in : ByteArray := prog_9_method_2_code
def yX7_in : MethodName := ⟨RX7, "in", "(III)Z"⟩
abbrev cX7_isDay : ByteArray := prog_9_method_3_code
def yX7_isDay : MethodName := ⟨RX7, "isDay", "(I)Z"⟩
abbrev cX7_law : ByteArray := prog_9_method_4_code
def yX7_law : MethodName := ⟨RX7, "law", "(IIIIII)I"⟩
abbrev cX7_lawOn : ByteArray := prog_9_method_5_code
def yX7_lawOn : MethodName := ⟨RX7, "lawOn", "(I)I"⟩
abbrev cX7_inForce : ByteArray := prog_9_method_6_code
def yX7_inForce : MethodName := ⟨RX7, "inForce", "(II)I"⟩
abbrev cX7_force : ByteArray := prog_9_method_7_code
def yX7_force : MethodName := ⟨RX7, "force", "(II)I"⟩
abbrev cX7_ward : ByteArray := prog_9_method_8_code
def yX7_ward : MethodName := ⟨RX7, "ward", "(I)I"⟩
abbrev cX7_isWard : ByteArray := prog_9_method_9_code
def yX7_isWard : MethodName := ⟨RX7, "isWard", "(I)Z"⟩
abbrev cX7_dies : ByteArray := prog_9_method_10_code
def yX7_dies : MethodName := ⟨RX7, "dies", "(II)I"⟩
abbrev cX7_lives : ByteArray := prog_9_method_11_code
def yX7_lives : MethodName := ⟨RX7, "lives", "(II)Z"⟩
abbrev cX7_headsOn : ByteArray := prog_9_method_12_code
def yX7_headsOn : MethodName := ⟨RX7, "headsOn", "(IZ)I"⟩
abbrev cX7_about : ByteArray := prog_9_method_13_code
def yX7_about : MethodName := ⟨RX7, "about", "(II)I"⟩
abbrev cX7_heads : ByteArray := prog_9_method_14_code
def yX7_heads : MethodName := ⟨RX7, "heads", "(I)I"⟩
abbrev cX7_leave : ByteArray := prog_9_method_15_code
def yX7_leave : MethodName := ⟨RX7, "leave", "(I)I"⟩
abbrev cX7_isLeave : ByteArray := prog_9_method_16_code
def yX7_isLeave : MethodName := ⟨RX7, "isLeave", "(I)Z"⟩
abbrev cX7_ofLeave : ByteArray := prog_9_method_17_code
def yX7_ofLeave : MethodName := ⟨RX7, "ofLeave", "(II)I"⟩
abbrev cX7_isLease : ByteArray := prog_9_method_18_code
def yX7_isLease : MethodName := ⟨RX7, "isLease", "(I)Z"⟩
abbrev cX7_isItem : ByteArray := prog_9_method_19_code
def yX7_isItem : MethodName := ⟨RX7, "isItem", "(I)Z"⟩
abbrev cX7_item : ByteArray := prog_9_method_20_code
def yX7_item : MethodName := ⟨RX7, "item", "(ZIII)I"⟩
abbrev cX7_receive : ByteArray := prog_9_method_21_code
def yX7_receive : MethodName := ⟨RX7, "receive", "(III)I"⟩
abbrev cX7_pay : ByteArray := prog_9_method_22_code
def yX7_pay : MethodName := ⟨RX7, "pay", "(III)I"⟩
abbrev cX7_vouch : ByteArray := prog_9_method_23_code
def yX7_vouch : MethodName := ⟨RX7, "vouch", "(IZ)I"⟩
abbrev cX7_challenge : ByteArray := prog_9_method_24_code
def yX7_challenge : MethodName := ⟨RX7, "challenge", "(IZ)I"⟩
abbrev cX7_barredFor : ByteArray := prog_9_method_25_code
def yX7_barredFor : MethodName := ⟨RX7, "barredFor", "(I)I"⟩
abbrev cX7_barred : ByteArray := prog_9_method_26_code
def yX7_barred : MethodName := ⟨RX7, "barred", "(I)I"⟩
abbrev cX7_let : ByteArray := prog_9_method_27_code
def yX7_let : MethodName := ⟨RX7, "let", "(IIII)I"⟩
abbrev cX7_voidFor : ByteArray := prog_9_method_28_code
def yX7_voidFor : MethodName := ⟨RX7, "voidFor", "(I)I"⟩
abbrev cX7_isVoid : ByteArray := prog_9_method_29_code
def yX7_isVoid : MethodName := ⟨RX7, "isVoid", "(I)I"⟩
abbrev cX7_arrears : ByteArray := prog_9_method_30_code
def yX7_arrears : MethodName := ⟨RX7, "arrears", "(II)I"⟩
abbrev cX7_layFullDays : ByteArray := prog_9_method_31_code
def yX7_layFullDays : MethodName := ⟨RX7, "layFullDays", "()V"⟩
abbrev cX7_lay : ByteArray := prog_9_method_32_code
def yX7_lay : MethodName := ⟨RX7, "lay", "()V"⟩
abbrev cX7_pot : ByteArray := prog_9_method_33_code
def yX7_pot : MethodName := ⟨RX7, "pot", "(I)I"⟩
abbrev cX7_isYear : ByteArray := prog_9_method_34_code
def yX7_isYear : MethodName := ⟨RX7, "isYear", "(I)Z"⟩
abbrev cX7_account : ByteArray := prog_9_method_35_code
def yX7_account : MethodName := ⟨RX7, "account", "(II)I"⟩
abbrev cX7_pass : ByteArray := prog_9_method_36_code
def yX7_pass : MethodName := ⟨RX7, "pass", "(I)I"⟩
abbrev cX7_passed : ByteArray := prog_9_method_37_code
def yX7_passed : MethodName := ⟨RX7, "passed", "(II)I"⟩
abbrev cX7_open : ByteArray := prog_9_method_38_code
def yX7_open : MethodName := ⟨RX7, "open", "()I"⟩
abbrev cX7_told : ByteArray := prog_9_method_39_code
def yX7_told : MethodName := ⟨RX7, "told", "(I)I"⟩
def RJ9 : String := "java/lang/Math"
def TJ9 : u_T := fun k => match k with
  | _ => ("", "", "", false)
def tyJ9 : Nat → FieldType := fun k => match k with
  | _ => .int
abbrev wsJ90 : List Cond := u_ws RJ9 TJ9 0
theorem nmJ9 : ∀ a, a < 0 → ∀ b, b < 0 → a ≠ b → (TJ9 a).2.1 ≠ (TJ9 b).2.1 := by decide +kernel
theorem tyJ9_ok : ∀ k, k < 0 → parseFieldDescriptor (TJ9 k).2.2.1 = some (tyJ9 k) := by decide +kernel
abbrev cJ9_min_7cf53 : ByteArray := prog_10_method_69_code
def yJ9_min_7cf53 : MethodName := ⟨RJ9, "min", "(II)I"⟩
def RL : String := "WardCourtLaw"
abbrev cL_law : ByteArray := code
def yL_law : MethodName := ⟨RL, "law", "([I)Z"⟩
theorem inJ9 : ∀ w ∈ wsJ90, w ∈ lw_tbl := by decide +kernel
theorem dX0_init_0 : decode cX0_init 0 = .ok (.aload_n 0, 1) := by decide +kernel
theorem dX0_init_1 : decode cX0_init 1 = .ok (.invokespecial 3, 3) := by decide +kernel
theorem dX0_init_4 : decode cX0_init 4 = .ok (.aload_n 0, 1) := by decide +kernel
theorem dX0_init_5 : decode cX0_init 5 = .ok (.bipush 10, 2) := by decide +kernel
theorem dX0_init_7 : decode cX0_init 7 = .ok (.bipush 6, 2) := by decide +kernel
theorem dX0_init_9 : decode cX0_init 9 = .ok (.multianewarray 9 2, 4) := by decide +kernel
theorem dX0_init_13 : decode cX0_init 13 = .ok (.putfield 11, 3) := by decide +kernel
theorem dX0_init_16 : decode cX0_init 16 = .ok (.aload_n 0, 1) := by decide +kernel
theorem dX0_init_17 : decode cX0_init 17 = .ok (.bipush 10, 2) := by decide +kernel
theorem dX0_init_19 : decode cX0_init 19 = .ok (.bipush 6, 2) := by decide +kernel
theorem dX0_init_21 : decode cX0_init 21 = .ok (.multianewarray 9 2, 4) := by decide +kernel
theorem dX0_init_25 : decode cX0_init 25 = .ok (.putfield 16, 3) := by decide +kernel
theorem dX0_init_28 : decode cX0_init 28 = .ok (.return_, 1) := by decide +kernel
theorem dX0_reckon_0 : decode cX0_reckon 0 = .ok (.iconst 0, 1) := by decide +kernel
theorem dX0_reckon_1 : decode cX0_reckon 1 = .ok (.istore 4, 2) := by decide +kernel
theorem dX0_reckon_3 : decode cX0_reckon 3 = .ok (.iconst 0, 1) := by decide +kernel
theorem dX0_reckon_4 : decode cX0_reckon 4 = .ok (.istore 5, 2) := by decide +kernel
theorem dX0_reckon_6 : decode cX0_reckon 6 = .ok (.iload 5, 2) := by decide +kernel
theorem dX0_reckon_8 : decode cX0_reckon 8 = .ok (.bipush 10, 2) := by decide +kernel
theorem dX0_reckon_10 : decode cX0_reckon 10 = .ok (.if_icmp .ge 22, 3) := by decide +kernel
theorem dX0_reckon_13 : decode cX0_reckon 13 = .ok (.aload_n 0, 1) := by decide +kernel
theorem dX0_reckon_14 : decode cX0_reckon 14 = .ok (.iload 5, 2) := by decide +kernel
theorem dX0_reckon_16 : decode cX0_reckon 16 = .ok (.iload 4, 2) := by decide +kernel
theorem dX0_reckon_18 : decode cX0_reckon 18 = .ok (.aload_n 1, 1) := by decide +kernel
theorem dX0_reckon_19 : decode cX0_reckon 19 = .ok (.aload_n 2, 1) := by decide +kernel
theorem dX0_reckon_20 : decode cX0_reckon 20 = .ok (.aload_n 3, 1) := by decide +kernel
theorem dX0_reckon_21 : decode cX0_reckon 21 = .ok (.invokevirtual 19, 3) := by decide +kernel
theorem dX0_reckon_24 : decode cX0_reckon 24 = .ok (.istore 4, 2) := by decide +kernel
theorem dX0_reckon_26 : decode cX0_reckon 26 = .ok (.iinc 5 1, 3) := by decide +kernel
theorem dX0_reckon_29 : decode cX0_reckon 29 = .ok (.goto (-23), 3) := by decide +kernel
theorem dX0_reckon_32 : decode cX0_reckon 32 = .ok (.return_, 1) := by decide +kernel
theorem dX0_reckonYear_0 : decode cX0_reckonYear 0 = .ok (.iload_n 1, 1) := by decide +kernel
theorem dX0_reckonYear_1 : decode cX0_reckonYear 1 = .ok (.sipush 360, 3) := by decide +kernel
theorem dX0_reckonYear_4 : decode cX0_reckonYear 4 = .ok (.imul, 1) := by decide +kernel
theorem dX0_reckonYear_5 : decode cX0_reckonYear 5 = .ok (.istore 6, 2) := by decide +kernel
theorem dX0_reckonYear_7 : decode cX0_reckonYear 7 = .ok (.iload 6, 2) := by decide +kernel
theorem dX0_reckonYear_9 : decode cX0_reckonYear 9 = .ok (.sipush 360, 3) := by decide +kernel
theorem dX0_reckonYear_12 : decode cX0_reckonYear 12 = .ok (.iadd, 1) := by decide +kernel
theorem dX0_reckonYear_13 : decode cX0_reckonYear 13 = .ok (.istore 7, 2) := by decide +kernel
theorem dX0_reckonYear_15 : decode cX0_reckonYear 15 = .ok (.iload_n 2, 1) := by decide +kernel
theorem dX0_reckonYear_16 : decode cX0_reckonYear 16 = .ok (.istore 8, 2) := by decide +kernel
theorem dX0_reckonYear_18 : decode cX0_reckonYear 18 = .ok (.iconst 0, 1) := by decide +kernel
theorem dX0_reckonYear_19 : decode cX0_reckonYear 19 = .ok (.istore 9, 2) := by decide +kernel
theorem dX0_reckonYear_21 : decode cX0_reckonYear 21 = .ok (.lconst 0, 1) := by decide +kernel
theorem dX0_reckonYear_22 : decode cX0_reckonYear 22 = .ok (.lstore 10, 2) := by decide +kernel
theorem dX0_reckonYear_24 : decode cX0_reckonYear 24 = .ok (.iload 6, 2) := by decide +kernel
theorem dX0_reckonYear_26 : decode cX0_reckonYear 26 = .ok (.istore 12, 2) := by decide +kernel
theorem dX0_reckonYear_28 : decode cX0_reckonYear 28 = .ok (.iconst 0, 1) := by decide +kernel
theorem dX0_reckonYear_29 : decode cX0_reckonYear 29 = .ok (.istore 13, 2) := by decide +kernel
theorem dX0_reckonYear_31 : decode cX0_reckonYear 31 = .ok (.iload 13, 2) := by decide +kernel
theorem dX0_reckonYear_33 : decode cX0_reckonYear 33 = .ok (.sipush 360, 3) := by decide +kernel
theorem dX0_reckonYear_36 : decode cX0_reckonYear 36 = .ok (.if_icmp .ge 103, 3) := by decide +kernel
theorem dX0_reckonYear_39 : decode cX0_reckonYear 39 = .ok (.iload 12, 2) := by decide +kernel
theorem dX0_reckonYear_41 : decode cX0_reckonYear 41 = .ok (.iload 7, 2) := by decide +kernel
theorem dX0_reckonYear_43 : decode cX0_reckonYear 43 = .ok (.if_icmp .ge 96, 3) := by decide +kernel
theorem dX0_reckonYear_46 : decode cX0_reckonYear 46 = .ok (.iload 8, 2) := by decide +kernel
theorem dX0_reckonYear_48 : decode cX0_reckonYear 48 = .ok (.aload 5, 2) := by decide +kernel
theorem dX0_reckonYear_50 : decode cX0_reckonYear 50 = .ok (.iload 12, 2) := by decide +kernel
theorem dX0_reckonYear_52 : decode cX0_reckonYear 52 = .ok (.iload 12, 2) := by decide +kernel
theorem dX0_reckonYear_54 : decode cX0_reckonYear 54 = .ok (.invokevirtual 23, 3) := by decide +kernel
theorem dX0_reckonYear_57 : decode cX0_reckonYear 57 = .ok (.aload 5, 2) := by decide +kernel
theorem dX0_reckonYear_59 : decode cX0_reckonYear 59 = .ok (.iload 12, 2) := by decide +kernel
theorem dX0_reckonYear_61 : decode cX0_reckonYear 61 = .ok (.iload 12, 2) := by decide +kernel
theorem dX0_reckonYear_63 : decode cX0_reckonYear 63 = .ok (.invokevirtual 29, 3) := by decide +kernel
theorem dX0_reckonYear_66 : decode cX0_reckonYear 66 = .ok (.isub, 1) := by decide +kernel
theorem dX0_reckonYear_67 : decode cX0_reckonYear 67 = .ok (.iadd, 1) := by decide +kernel
theorem dX0_reckonYear_68 : decode cX0_reckonYear 68 = .ok (.istore 8, 2) := by decide +kernel
theorem dX0_reckonYear_70 : decode cX0_reckonYear 70 = .ok (.aload 4, 2) := by decide +kernel
theorem dX0_reckonYear_72 : decode cX0_reckonYear 72 = .ok (.iload 12, 2) := by decide +kernel
theorem dX0_reckonYear_74 : decode cX0_reckonYear 74 = .ok (.iload 8, 2) := by decide +kernel
theorem dX0_reckonYear_76 : decode cX0_reckonYear 76 = .ok (.invokevirtual 32, 3) := by decide +kernel
theorem dX0_reckonYear_79 : decode cX0_reckonYear 79 = .ok (.istore 14, 2) := by decide +kernel
theorem dX0_reckonYear_81 : decode cX0_reckonYear 81 = .ok (.iload 8, 2) := by decide +kernel
theorem dX0_reckonYear_83 : decode cX0_reckonYear 83 = .ok (.iload 14, 2) := by decide +kernel
theorem dX0_reckonYear_85 : decode cX0_reckonYear 85 = .ok (.isub, 1) := by decide +kernel
theorem dX0_reckonYear_86 : decode cX0_reckonYear 86 = .ok (.istore 8, 2) := by decide +kernel
theorem dX0_reckonYear_88 : decode cX0_reckonYear 88 = .ok (.iload 9, 2) := by decide +kernel
theorem dX0_reckonYear_90 : decode cX0_reckonYear 90 = .ok (.iload 14, 2) := by decide +kernel
theorem dX0_reckonYear_92 : decode cX0_reckonYear 92 = .ok (.iadd, 1) := by decide +kernel
theorem dX0_reckonYear_93 : decode cX0_reckonYear 93 = .ok (.istore 9, 2) := by decide +kernel
theorem dX0_reckonYear_95 : decode cX0_reckonYear 95 = .ok (.iload 12, 2) := by decide +kernel
theorem dX0_reckonYear_97 : decode cX0_reckonYear 97 = .ok (.iload 7, 2) := by decide +kernel
theorem dX0_reckonYear_99 : decode cX0_reckonYear 99 = .ok (.aload_n 3, 1) := by decide +kernel
theorem dX0_reckonYear_100 : decode cX0_reckonYear 100 = .ok (.aload 4, 2) := by decide +kernel
theorem dX0_reckonYear_102 : decode cX0_reckonYear 102 = .ok (.aload 5, 2) := by decide +kernel
theorem dX0_reckonYear_104 : decode cX0_reckonYear 104 = .ok (.invokestatic 37, 3) := by decide +kernel
theorem dX0_reckonYear_107 : decode cX0_reckonYear 107 = .ok (.istore 15, 2) := by decide +kernel
theorem dX0_reckonYear_109 : decode cX0_reckonYear 109 = .ok (.lload 10, 2) := by decide +kernel
theorem dX0_reckonYear_111 : decode cX0_reckonYear 111 = .ok (.iload 8, 2) := by decide +kernel
theorem dX0_reckonYear_113 : decode cX0_reckonYear 113 = .ok (.iload 12, 2) := by decide +kernel
theorem dX0_reckonYear_115 : decode cX0_reckonYear 115 = .ok (.aload_n 3, 1) := by decide +kernel
theorem dX0_reckonYear_116 : decode cX0_reckonYear 116 = .ok (.invokestatic 40, 3) := by decide +kernel
theorem dX0_reckonYear_119 : decode cX0_reckonYear 119 = .ok (.iload 15, 2) := by decide +kernel
theorem dX0_reckonYear_121 : decode cX0_reckonYear 121 = .ok (.iload 12, 2) := by decide +kernel
theorem dX0_reckonYear_123 : decode cX0_reckonYear 123 = .ok (.isub, 1) := by decide +kernel
theorem dX0_reckonYear_124 : decode cX0_reckonYear 124 = .ok (.i2l, 1) := by decide +kernel
theorem dX0_reckonYear_125 : decode cX0_reckonYear 125 = .ok (.lmul, 1) := by decide +kernel
theorem dX0_reckonYear_126 : decode cX0_reckonYear 126 = .ok (.ladd, 1) := by decide +kernel
theorem dX0_reckonYear_127 : decode cX0_reckonYear 127 = .ok (.lstore 10, 2) := by decide +kernel
theorem dX0_reckonYear_129 : decode cX0_reckonYear 129 = .ok (.iload 15, 2) := by decide +kernel
theorem dX0_reckonYear_131 : decode cX0_reckonYear 131 = .ok (.istore 12, 2) := by decide +kernel
theorem dX0_reckonYear_133 : decode cX0_reckonYear 133 = .ok (.iinc 13 1, 3) := by decide +kernel
theorem dX0_reckonYear_136 : decode cX0_reckonYear 136 = .ok (.goto (-105), 3) := by decide +kernel
theorem dX0_reckonYear_139 : decode cX0_reckonYear 139 = .ok (.lload 10, 2) := by decide +kernel
theorem dX0_reckonYear_141 : decode cX0_reckonYear 141 = .ok (.ldc2_w 44, 3) := by decide +kernel
theorem dX0_reckonYear_144 : decode cX0_reckonYear 144 = .ok (.ldiv, 1) := by decide +kernel
theorem dX0_reckonYear_145 : decode cX0_reckonYear 145 = .ok (.l2i, 1) := by decide +kernel
theorem dX0_reckonYear_146 : decode cX0_reckonYear 146 = .ok (.istore 13, 2) := by decide +kernel
theorem dX0_reckonYear_148 : decode cX0_reckonYear 148 = .ok (.iload 8, 2) := by decide +kernel
theorem dX0_reckonYear_150 : decode cX0_reckonYear 150 = .ok (.iload 13, 2) := by decide +kernel
theorem dX0_reckonYear_152 : decode cX0_reckonYear 152 = .ok (.iadd, 1) := by decide +kernel
theorem dX0_reckonYear_153 : decode cX0_reckonYear 153 = .ok (.istore 8, 2) := by decide +kernel
theorem dX0_reckonYear_155 : decode cX0_reckonYear 155 = .ok (.iload_n 1, 1) := by decide +kernel
theorem dX0_reckonYear_156 : decode cX0_reckonYear 156 = .ok (.invokestatic 46, 3) := by decide +kernel
theorem dX0_reckonYear_159 : decode cX0_reckonYear 159 = .ok (.ifCond .eq 80, 3) := by decide +kernel
theorem dX0_reckonYear_162 : decode cX0_reckonYear 162 = .ok (.aload_n 0, 1) := by decide +kernel
theorem dX0_reckonYear_163 : decode cX0_reckonYear 163 = .ok (.getfield 11, 3) := by decide +kernel
theorem dX0_reckonYear_166 : decode cX0_reckonYear 166 = .ok (.iload_n 1, 1) := by decide +kernel
theorem dX0_reckonYear_167 : decode cX0_reckonYear 167 = .ok (.aaload, 1) := by decide +kernel
theorem dX0_reckonYear_168 : decode cX0_reckonYear 168 = .ok (.iconst 0, 1) := by decide +kernel
theorem dX0_reckonYear_169 : decode cX0_reckonYear 169 = .ok (.iload_n 2, 1) := by decide +kernel
theorem dX0_reckonYear_170 : decode cX0_reckonYear 170 = .ok (.iastore, 1) := by decide +kernel
theorem dX0_reckonYear_171 : decode cX0_reckonYear 171 = .ok (.aload_n 0, 1) := by decide +kernel
theorem dX0_reckonYear_172 : decode cX0_reckonYear 172 = .ok (.getfield 11, 3) := by decide +kernel
theorem dX0_reckonYear_175 : decode cX0_reckonYear 175 = .ok (.iload_n 1, 1) := by decide +kernel
theorem dX0_reckonYear_176 : decode cX0_reckonYear 176 = .ok (.aaload, 1) := by decide +kernel
theorem dX0_reckonYear_177 : decode cX0_reckonYear 177 = .ok (.iconst 1, 1) := by decide +kernel
theorem dX0_reckonYear_178 : decode cX0_reckonYear 178 = .ok (.aload 5, 2) := by decide +kernel
theorem dX0_reckonYear_180 : decode cX0_reckonYear 180 = .ok (.iload 6, 2) := by decide +kernel
theorem dX0_reckonYear_182 : decode cX0_reckonYear 182 = .ok (.iload 7, 2) := by decide +kernel
theorem dX0_reckonYear_184 : decode cX0_reckonYear 184 = .ok (.iconst 1, 1) := by decide +kernel
theorem dX0_reckonYear_185 : decode cX0_reckonYear 185 = .ok (.isub, 1) := by decide +kernel
theorem dX0_reckonYear_186 : decode cX0_reckonYear 186 = .ok (.invokevirtual 23, 3) := by decide +kernel
theorem dX0_reckonYear_189 : decode cX0_reckonYear 189 = .ok (.iastore, 1) := by decide +kernel
theorem dX0_reckonYear_190 : decode cX0_reckonYear 190 = .ok (.aload_n 0, 1) := by decide +kernel
theorem dX0_reckonYear_191 : decode cX0_reckonYear 191 = .ok (.getfield 11, 3) := by decide +kernel
theorem dX0_reckonYear_194 : decode cX0_reckonYear 194 = .ok (.iload_n 1, 1) := by decide +kernel
theorem dX0_reckonYear_195 : decode cX0_reckonYear 195 = .ok (.aaload, 1) := by decide +kernel
theorem dX0_reckonYear_196 : decode cX0_reckonYear 196 = .ok (.iconst 2, 1) := by decide +kernel
theorem dX0_reckonYear_197 : decode cX0_reckonYear 197 = .ok (.aload 5, 2) := by decide +kernel
theorem dX0_reckonYear_199 : decode cX0_reckonYear 199 = .ok (.iload 6, 2) := by decide +kernel
theorem dX0_reckonYear_201 : decode cX0_reckonYear 201 = .ok (.iload 7, 2) := by decide +kernel
theorem dX0_reckonYear_203 : decode cX0_reckonYear 203 = .ok (.iconst 1, 1) := by decide +kernel
theorem dX0_reckonYear_204 : decode cX0_reckonYear 204 = .ok (.isub, 1) := by decide +kernel
theorem dX0_reckonYear_205 : decode cX0_reckonYear 205 = .ok (.invokevirtual 29, 3) := by decide +kernel
theorem dX0_reckonYear_208 : decode cX0_reckonYear 208 = .ok (.iastore, 1) := by decide +kernel
theorem dX0_reckonYear_209 : decode cX0_reckonYear 209 = .ok (.aload_n 0, 1) := by decide +kernel
theorem dX0_reckonYear_210 : decode cX0_reckonYear 210 = .ok (.getfield 11, 3) := by decide +kernel
theorem dX0_reckonYear_213 : decode cX0_reckonYear 213 = .ok (.iload_n 1, 1) := by decide +kernel
theorem dX0_reckonYear_214 : decode cX0_reckonYear 214 = .ok (.aaload, 1) := by decide +kernel
theorem dX0_reckonYear_215 : decode cX0_reckonYear 215 = .ok (.iconst 3, 1) := by decide +kernel
theorem dX0_reckonYear_216 : decode cX0_reckonYear 216 = .ok (.iload 9, 2) := by decide +kernel
theorem dX0_reckonYear_218 : decode cX0_reckonYear 218 = .ok (.iastore, 1) := by decide +kernel
theorem dX0_reckonYear_219 : decode cX0_reckonYear 219 = .ok (.aload_n 0, 1) := by decide +kernel
theorem dX0_reckonYear_220 : decode cX0_reckonYear 220 = .ok (.getfield 11, 3) := by decide +kernel
theorem dX0_reckonYear_223 : decode cX0_reckonYear 223 = .ok (.iload_n 1, 1) := by decide +kernel
theorem dX0_reckonYear_224 : decode cX0_reckonYear 224 = .ok (.aaload, 1) := by decide +kernel
theorem dX0_reckonYear_225 : decode cX0_reckonYear 225 = .ok (.iconst 4, 1) := by decide +kernel
theorem dX0_reckonYear_226 : decode cX0_reckonYear 226 = .ok (.iload 13, 2) := by decide +kernel
theorem dX0_reckonYear_228 : decode cX0_reckonYear 228 = .ok (.iastore, 1) := by decide +kernel
theorem dX0_reckonYear_229 : decode cX0_reckonYear 229 = .ok (.aload_n 0, 1) := by decide +kernel
theorem dX0_reckonYear_230 : decode cX0_reckonYear 230 = .ok (.getfield 11, 3) := by decide +kernel
theorem dX0_reckonYear_233 : decode cX0_reckonYear 233 = .ok (.iload_n 1, 1) := by decide +kernel
theorem dX0_reckonYear_234 : decode cX0_reckonYear 234 = .ok (.aaload, 1) := by decide +kernel
theorem dX0_reckonYear_235 : decode cX0_reckonYear 235 = .ok (.iconst 5, 1) := by decide +kernel
theorem dX0_reckonYear_236 : decode cX0_reckonYear 236 = .ok (.iload 8, 2) := by decide +kernel
theorem dX0_reckonYear_238 : decode cX0_reckonYear 238 = .ok (.iastore, 1) := by decide +kernel
theorem dX0_reckonYear_239 : decode cX0_reckonYear 239 = .ok (.iload 8, 2) := by decide +kernel
theorem dX0_reckonYear_241 : decode cX0_reckonYear 241 = .ok (.ireturn, 1) := by decide +kernel
theorem dX0_turnAfter_0 : decode cX0_turnAfter 0 = .ok (.aload_n 2, 1) := by decide +kernel
theorem dX0_turnAfter_1 : decode cX0_turnAfter 1 = .ok (.iload_n 0, 1) := by decide +kernel
theorem dX0_turnAfter_2 : decode cX0_turnAfter 2 = .ok (.iload_n 1, 1) := by decide +kernel
theorem dX0_turnAfter_3 : decode cX0_turnAfter 3 = .ok (.invokevirtual 50, 3) := by decide +kernel
theorem dX0_turnAfter_6 : decode cX0_turnAfter 6 = .ok (.istore 5, 2) := by decide +kernel
theorem dX0_turnAfter_8 : decode cX0_turnAfter 8 = .ok (.aload_n 3, 1) := by decide +kernel
theorem dX0_turnAfter_9 : decode cX0_turnAfter 9 = .ok (.iload_n 0, 1) := by decide +kernel
theorem dX0_turnAfter_10 : decode cX0_turnAfter 10 = .ok (.iload 5, 2) := by decide +kernel
theorem dX0_turnAfter_12 : decode cX0_turnAfter 12 = .ok (.invokevirtual 54, 3) := by decide +kernel
theorem dX0_turnAfter_15 : decode cX0_turnAfter 15 = .ok (.istore 5, 2) := by decide +kernel
theorem dX0_turnAfter_17 : decode cX0_turnAfter 17 = .ok (.aload 4, 2) := by decide +kernel
theorem dX0_turnAfter_19 : decode cX0_turnAfter 19 = .ok (.iload_n 0, 1) := by decide +kernel
theorem dX0_turnAfter_20 : decode cX0_turnAfter 20 = .ok (.iload 5, 2) := by decide +kernel
theorem dX0_turnAfter_22 : decode cX0_turnAfter 22 = .ok (.invokevirtual 55, 3) := by decide +kernel
theorem dX0_turnAfter_25 : decode cX0_turnAfter 25 = .ok (.ireturn, 1) := by decide +kernel
theorem dX0_countedADay_0 : decode cX0_countedADay 0 = .ok (.iload_n 0, 1) := by decide +kernel
theorem dX0_countedADay_1 : decode cX0_countedADay 1 = .ok (.aload_n 2, 1) := by decide +kernel
theorem dX0_countedADay_2 : decode cX0_countedADay 2 = .ok (.iload_n 1, 1) := by decide +kernel
theorem dX0_countedADay_3 : decode cX0_countedADay 3 = .ok (.iconst 1, 1) := by decide +kernel
theorem dX0_countedADay_4 : decode cX0_countedADay 4 = .ok (.invokevirtual 56, 3) := by decide +kernel
theorem dX0_countedADay_7 : decode cX0_countedADay 7 = .ok (.isub, 1) := by decide +kernel
theorem dX0_countedADay_8 : decode cX0_countedADay 8 = .ok (.istore_n 3, 1) := by decide +kernel
theorem dX0_countedADay_9 : decode cX0_countedADay 9 = .ok (.iload_n 3, 1) := by decide +kernel
theorem dX0_countedADay_10 : decode cX0_countedADay 10 = .ok (.ifCond .le 16, 3) := by decide +kernel
theorem dX0_countedADay_13 : decode cX0_countedADay 13 = .ok (.iload_n 3, 1) := by decide +kernel
theorem dX0_countedADay_14 : decode cX0_countedADay 14 = .ok (.i2l, 1) := by decide +kernel
theorem dX0_countedADay_15 : decode cX0_countedADay 15 = .ok (.aload_n 2, 1) := by decide +kernel
theorem dX0_countedADay_16 : decode cX0_countedADay 16 = .ok (.iload_n 1, 1) := by decide +kernel
theorem dX0_countedADay_17 : decode cX0_countedADay 17 = .ok (.iconst 2, 1) := by decide +kernel
theorem dX0_countedADay_18 : decode cX0_countedADay 18 = .ok (.invokevirtual 56, 3) := by decide +kernel
theorem dX0_countedADay_21 : decode cX0_countedADay 21 = .ok (.i2l, 1) := by decide +kernel
theorem dX0_countedADay_22 : decode cX0_countedADay 22 = .ok (.lmul, 1) := by decide +kernel
theorem dX0_countedADay_23 : decode cX0_countedADay 23 = .ok (.goto 4, 3) := by decide +kernel
theorem dX0_countedADay_26 : decode cX0_countedADay 26 = .ok (.lconst 0, 1) := by decide +kernel
theorem dX0_countedADay_27 : decode cX0_countedADay 27 = .ok (.lreturn, 1) := by decide +kernel
theorem dX0_potAfter_0 : decode cX0_potAfter 0 = .ok (.iload_n 1, 1) := by decide +kernel
theorem dX0_potAfter_1 : decode cX0_potAfter 1 = .ok (.sipush 360, 3) := by decide +kernel
theorem dX0_potAfter_4 : decode cX0_potAfter 4 = .ok (.idiv, 1) := by decide +kernel
theorem dX0_potAfter_5 : decode cX0_potAfter 5 = .ok (.istore 4, 2) := by decide +kernel
theorem dX0_potAfter_7 : decode cX0_potAfter 7 = .ok (.iload 4, 2) := by decide +kernel
theorem dX0_potAfter_9 : decode cX0_potAfter 9 = .ok (.sipush 360, 3) := by decide +kernel
theorem dX0_potAfter_12 : decode cX0_potAfter 12 = .ok (.imul, 1) := by decide +kernel
theorem dX0_potAfter_13 : decode cX0_potAfter 13 = .ok (.istore 5, 2) := by decide +kernel
theorem dX0_potAfter_15 : decode cX0_potAfter 15 = .ok (.aload_n 3, 1) := by decide +kernel
theorem dX0_potAfter_16 : decode cX0_potAfter 16 = .ok (.iload 5, 2) := by decide +kernel
theorem dX0_potAfter_18 : decode cX0_potAfter 18 = .ok (.iload_n 1, 1) := by decide +kernel
theorem dX0_potAfter_19 : decode cX0_potAfter 19 = .ok (.invokevirtual 23, 3) := by decide +kernel
theorem dX0_potAfter_22 : decode cX0_potAfter 22 = .ok (.aload_n 3, 1) := by decide +kernel
theorem dX0_potAfter_23 : decode cX0_potAfter 23 = .ok (.iload 5, 2) := by decide +kernel
theorem dX0_potAfter_25 : decode cX0_potAfter 25 = .ok (.iload_n 1, 1) := by decide +kernel
theorem dX0_potAfter_26 : decode cX0_potAfter 26 = .ok (.invokevirtual 29, 3) := by decide +kernel
theorem dX0_potAfter_29 : decode cX0_potAfter 29 = .ok (.isub, 1) := by decide +kernel
theorem dX0_potAfter_30 : decode cX0_potAfter 30 = .ok (.istore 6, 2) := by decide +kernel
theorem dX0_potAfter_32 : decode cX0_potAfter 32 = .ok (.aload_n 0, 1) := by decide +kernel
theorem dX0_potAfter_33 : decode cX0_potAfter 33 = .ok (.iload 4, 2) := by decide +kernel
theorem dX0_potAfter_35 : decode cX0_potAfter 35 = .ok (.iconst 0, 1) := by decide +kernel
theorem dX0_potAfter_36 : decode cX0_potAfter 36 = .ok (.invokevirtual 59, 3) := by decide +kernel
theorem dX0_potAfter_39 : decode cX0_potAfter 39 = .ok (.iload 6, 2) := by decide +kernel
theorem dX0_potAfter_41 : decode cX0_potAfter 41 = .ok (.iadd, 1) := by decide +kernel
theorem dX0_potAfter_42 : decode cX0_potAfter 42 = .ok (.aload_n 2, 1) := by decide +kernel
theorem dX0_potAfter_43 : decode cX0_potAfter 43 = .ok (.iload 5, 2) := by decide +kernel
theorem dX0_potAfter_45 : decode cX0_potAfter 45 = .ok (.iload_n 1, 1) := by decide +kernel
theorem dX0_potAfter_46 : decode cX0_potAfter 46 = .ok (.invokevirtual 62, 3) := by decide +kernel
theorem dX0_potAfter_49 : decode cX0_potAfter 49 = .ok (.isub, 1) := by decide +kernel
theorem dX0_potAfter_50 : decode cX0_potAfter 50 = .ok (.istore 7, 2) := by decide +kernel
theorem dX0_potAfter_52 : decode cX0_potAfter 52 = .ok (.iload_n 1, 1) := by decide +kernel
theorem dX0_potAfter_53 : decode cX0_potAfter 53 = .ok (.iload 5, 2) := by decide +kernel
theorem dX0_potAfter_55 : decode cX0_potAfter 55 = .ok (.sipush 360, 3) := by decide +kernel
theorem dX0_potAfter_58 : decode cX0_potAfter 58 = .ok (.iadd, 1) := by decide +kernel
theorem dX0_potAfter_59 : decode cX0_potAfter 59 = .ok (.iconst 1, 1) := by decide +kernel
theorem dX0_potAfter_60 : decode cX0_potAfter 60 = .ok (.isub, 1) := by decide +kernel
theorem dX0_potAfter_61 : decode cX0_potAfter 61 = .ok (.if_icmp .ne 7, 3) := by decide +kernel
theorem dX0_potAfter_64 : decode cX0_potAfter 64 = .ok (.iconst 1, 1) := by decide +kernel
theorem dX0_potAfter_65 : decode cX0_potAfter 65 = .ok (.goto 4, 3) := by decide +kernel
theorem dX0_potAfter_68 : decode cX0_potAfter 68 = .ok (.iconst 0, 1) := by decide +kernel
theorem dX0_potAfter_69 : decode cX0_potAfter 69 = .ok (.istore 8, 2) := by decide +kernel
theorem dX0_potAfter_71 : decode cX0_potAfter 71 = .ok (.iload 8, 2) := by decide +kernel
theorem dX0_potAfter_73 : decode cX0_potAfter 73 = .ok (.ifCond .eq 16, 3) := by decide +kernel
theorem dX0_potAfter_76 : decode cX0_potAfter 76 = .ok (.iload 7, 2) := by decide +kernel
theorem dX0_potAfter_78 : decode cX0_potAfter 78 = .ok (.aload_n 0, 1) := by decide +kernel
theorem dX0_potAfter_79 : decode cX0_potAfter 79 = .ok (.iload 4, 2) := by decide +kernel
theorem dX0_potAfter_81 : decode cX0_potAfter 81 = .ok (.iconst 4, 1) := by decide +kernel
theorem dX0_potAfter_82 : decode cX0_potAfter 82 = .ok (.invokevirtual 59, 3) := by decide +kernel
theorem dX0_potAfter_85 : decode cX0_potAfter 85 = .ok (.iadd, 1) := by decide +kernel
theorem dX0_potAfter_86 : decode cX0_potAfter 86 = .ok (.goto 5, 3) := by decide +kernel
theorem dX0_potAfter_89 : decode cX0_potAfter 89 = .ok (.iload 7, 2) := by decide +kernel
theorem dX0_potAfter_91 : decode cX0_potAfter 91 = .ok (.ireturn, 1) := by decide +kernel
theorem dX0_entry_0 : decode cX0_entry 0 = .ok (.iload_n 1, 1) := by decide +kernel
theorem dX0_entry_1 : decode cX0_entry 1 = .ok (.invokestatic 46, 3) := by decide +kernel
theorem dX0_entry_4 : decode cX0_entry 4 = .ok (.ifCond .eq 23, 3) := by decide +kernel
theorem dX0_entry_7 : decode cX0_entry 7 = .ok (.iload_n 2, 1) := by decide +kernel
theorem dX0_entry_8 : decode cX0_entry 8 = .ok (.iconst 0, 1) := by decide +kernel
theorem dX0_entry_9 : decode cX0_entry 9 = .ok (.iconst 5, 1) := by decide +kernel
theorem dX0_entry_10 : decode cX0_entry 10 = .ok (.invokestatic 65, 3) := by decide +kernel
theorem dX0_entry_13 : decode cX0_entry 13 = .ok (.ifCond .eq 14, 3) := by decide +kernel
theorem dX0_entry_16 : decode cX0_entry 16 = .ok (.aload_n 0, 1) := by decide +kernel
theorem dX0_entry_17 : decode cX0_entry 17 = .ok (.getfield 11, 3) := by decide +kernel
theorem dX0_entry_20 : decode cX0_entry 20 = .ok (.iload_n 1, 1) := by decide +kernel
theorem dX0_entry_21 : decode cX0_entry 21 = .ok (.aaload, 1) := by decide +kernel
theorem dX0_entry_22 : decode cX0_entry 22 = .ok (.iload_n 2, 1) := by decide +kernel
theorem dX0_entry_23 : decode cX0_entry 23 = .ok (.iaload, 1) := by decide +kernel
theorem dX0_entry_24 : decode cX0_entry 24 = .ok (.goto 4, 3) := by decide +kernel
theorem dX0_entry_27 : decode cX0_entry 27 = .ok (.iconst 0, 1) := by decide +kernel
theorem dX0_entry_28 : decode cX0_entry 28 = .ok (.ireturn, 1) := by decide +kernel
theorem dX0_keptEntry_0 : decode cX0_keptEntry 0 = .ok (.iload_n 1, 1) := by decide +kernel
theorem dX0_keptEntry_1 : decode cX0_keptEntry 1 = .ok (.invokestatic 46, 3) := by decide +kernel
theorem dX0_keptEntry_4 : decode cX0_keptEntry 4 = .ok (.ifCond .eq 23, 3) := by decide +kernel
theorem dX0_keptEntry_7 : decode cX0_keptEntry 7 = .ok (.iload_n 2, 1) := by decide +kernel
theorem dX0_keptEntry_8 : decode cX0_keptEntry 8 = .ok (.iconst 0, 1) := by decide +kernel
theorem dX0_keptEntry_9 : decode cX0_keptEntry 9 = .ok (.iconst 5, 1) := by decide +kernel
theorem dX0_keptEntry_10 : decode cX0_keptEntry 10 = .ok (.invokestatic 65, 3) := by decide +kernel
theorem dX0_keptEntry_13 : decode cX0_keptEntry 13 = .ok (.ifCond .eq 14, 3) := by decide +kernel
theorem dX0_keptEntry_16 : decode cX0_keptEntry 16 = .ok (.aload_n 0, 1) := by decide +kernel
theorem dX0_keptEntry_17 : decode cX0_keptEntry 17 = .ok (.getfield 16, 3) := by decide +kernel
theorem dX0_keptEntry_20 : decode cX0_keptEntry 20 = .ok (.iload_n 1, 1) := by decide +kernel
theorem dX0_keptEntry_21 : decode cX0_keptEntry 21 = .ok (.aaload, 1) := by decide +kernel
theorem dX0_keptEntry_22 : decode cX0_keptEntry 22 = .ok (.iload_n 2, 1) := by decide +kernel
theorem dX0_keptEntry_23 : decode cX0_keptEntry 23 = .ok (.iaload, 1) := by decide +kernel
theorem dX0_keptEntry_24 : decode cX0_keptEntry 24 = .ok (.goto 4, 3) := by decide +kernel
theorem dX0_keptEntry_27 : decode cX0_keptEntry 27 = .ok (.iconst 0, 1) := by decide +kernel
theorem dX0_keptEntry_28 : decode cX0_keptEntry 28 = .ok (.ireturn, 1) := by decide +kernel
theorem dX0_keep_0 : decode cX0_keep 0 = .ok (.iload_n 1, 1) := by decide +kernel
theorem dX0_keep_1 : decode cX0_keep 1 = .ok (.invokestatic 46, 3) := by decide +kernel
theorem dX0_keep_4 : decode cX0_keep 4 = .ok (.ifCond .ne 4, 3) := by decide +kernel
theorem dX0_keep_7 : decode cX0_keep 7 = .ok (.return_, 1) := by decide +kernel
theorem dX0_keep_8 : decode cX0_keep 8 = .ok (.iconst 0, 1) := by decide +kernel
theorem dX0_keep_9 : decode cX0_keep 9 = .ok (.istore_n 2, 1) := by decide +kernel
theorem dX0_keep_10 : decode cX0_keep 10 = .ok (.iload_n 2, 1) := by decide +kernel
theorem dX0_keep_11 : decode cX0_keep 11 = .ok (.bipush 6, 2) := by decide +kernel
theorem dX0_keep_13 : decode cX0_keep 13 = .ok (.if_icmp .ge 25, 3) := by decide +kernel
theorem dX0_keep_16 : decode cX0_keep 16 = .ok (.aload_n 0, 1) := by decide +kernel
theorem dX0_keep_17 : decode cX0_keep 17 = .ok (.getfield 16, 3) := by decide +kernel
theorem dX0_keep_20 : decode cX0_keep 20 = .ok (.iload_n 1, 1) := by decide +kernel
theorem dX0_keep_21 : decode cX0_keep 21 = .ok (.aaload, 1) := by decide +kernel
theorem dX0_keep_22 : decode cX0_keep 22 = .ok (.iload_n 2, 1) := by decide +kernel
theorem dX0_keep_23 : decode cX0_keep 23 = .ok (.aload_n 0, 1) := by decide +kernel
theorem dX0_keep_24 : decode cX0_keep 24 = .ok (.getfield 11, 3) := by decide +kernel
theorem dX0_keep_27 : decode cX0_keep 27 = .ok (.iload_n 1, 1) := by decide +kernel
theorem dX0_keep_28 : decode cX0_keep 28 = .ok (.aaload, 1) := by decide +kernel
theorem dX0_keep_29 : decode cX0_keep 29 = .ok (.iload_n 2, 1) := by decide +kernel
theorem dX0_keep_30 : decode cX0_keep 30 = .ok (.iaload, 1) := by decide +kernel
theorem dX0_keep_31 : decode cX0_keep 31 = .ok (.iastore, 1) := by decide +kernel
theorem dX0_keep_32 : decode cX0_keep 32 = .ok (.iinc 2 1, 3) := by decide +kernel
theorem dX0_keep_35 : decode cX0_keep 35 = .ok (.goto (-25), 3) := by decide +kernel
theorem dX0_keep_38 : decode cX0_keep 38 = .ok (.aload_n 0, 1) := by decide +kernel
theorem dX0_keep_39 : decode cX0_keep 39 = .ok (.dup, 1) := by decide +kernel
theorem dX0_keep_40 : decode cX0_keep 40 = .ok (.getfield 69, 3) := by decide +kernel
theorem dX0_keep_43 : decode cX0_keep 43 = .ok (.iconst 1, 1) := by decide +kernel
theorem dX0_keep_44 : decode cX0_keep 44 = .ok (.iload_n 1, 1) := by decide +kernel
theorem dX0_keep_45 : decode cX0_keep 45 = .ok (.ishl, 1) := by decide +kernel
theorem dX0_keep_46 : decode cX0_keep 46 = .ok (.ior, 1) := by decide +kernel
theorem dX0_keep_47 : decode cX0_keep 47 = .ok (.putfield 69, 3) := by decide +kernel
theorem dX0_keep_50 : decode cX0_keep 50 = .ok (.return_, 1) := by decide +kernel
theorem dX0_wasKept_0 : decode cX0_wasKept 0 = .ok (.iload_n 1, 1) := by decide +kernel
theorem dX0_wasKept_1 : decode cX0_wasKept 1 = .ok (.invokestatic 46, 3) := by decide +kernel
theorem dX0_wasKept_4 : decode cX0_wasKept 4 = .ok (.ifCond .eq 18, 3) := by decide +kernel
theorem dX0_wasKept_7 : decode cX0_wasKept 7 = .ok (.aload_n 0, 1) := by decide +kernel
theorem dX0_wasKept_8 : decode cX0_wasKept 8 = .ok (.getfield 69, 3) := by decide +kernel
theorem dX0_wasKept_11 : decode cX0_wasKept 11 = .ok (.iload_n 1, 1) := by decide +kernel
theorem dX0_wasKept_12 : decode cX0_wasKept 12 = .ok (.ishr, 1) := by decide +kernel
theorem dX0_wasKept_13 : decode cX0_wasKept 13 = .ok (.iconst 1, 1) := by decide +kernel
theorem dX0_wasKept_14 : decode cX0_wasKept 14 = .ok (.iand, 1) := by decide +kernel
theorem dX0_wasKept_15 : decode cX0_wasKept 15 = .ok (.ifCond .eq 7, 3) := by decide +kernel
theorem dX0_wasKept_18 : decode cX0_wasKept 18 = .ok (.iconst 1, 1) := by decide +kernel
theorem dX0_wasKept_19 : decode cX0_wasKept 19 = .ok (.goto 4, 3) := by decide +kernel
theorem dX0_wasKept_22 : decode cX0_wasKept 22 = .ok (.iconst 0, 1) := by decide +kernel
theorem dX0_wasKept_23 : decode cX0_wasKept 23 = .ok (.ireturn, 1) := by decide +kernel
theorem dX0_changedYears_0 : decode cX0_changedYears 0 = .ok (.iconst 0, 1) := by decide +kernel
theorem dX0_changedYears_1 : decode cX0_changedYears 1 = .ok (.istore_n 1, 1) := by decide +kernel
theorem dX0_changedYears_2 : decode cX0_changedYears 2 = .ok (.iconst 0, 1) := by decide +kernel
theorem dX0_changedYears_3 : decode cX0_changedYears 3 = .ok (.istore_n 2, 1) := by decide +kernel
theorem dX0_changedYears_4 : decode cX0_changedYears 4 = .ok (.iload_n 2, 1) := by decide +kernel
theorem dX0_changedYears_5 : decode cX0_changedYears 5 = .ok (.bipush 10, 2) := by decide +kernel
theorem dX0_changedYears_7 : decode cX0_changedYears 7 = .ok (.if_icmp .ge 31, 3) := by decide +kernel
theorem dX0_changedYears_10 : decode cX0_changedYears 10 = .ok (.aload_n 0, 1) := by decide +kernel
theorem dX0_changedYears_11 : decode cX0_changedYears 11 = .ok (.iload_n 2, 1) := by decide +kernel
theorem dX0_changedYears_12 : decode cX0_changedYears 12 = .ok (.invokevirtual 73, 3) := by decide +kernel
theorem dX0_changedYears_15 : decode cX0_changedYears 15 = .ok (.ifCond .eq 17, 3) := by decide +kernel
theorem dX0_changedYears_18 : decode cX0_changedYears 18 = .ok (.aload_n 0, 1) := by decide +kernel
theorem dX0_changedYears_19 : decode cX0_changedYears 19 = .ok (.iload_n 2, 1) := by decide +kernel
theorem dX0_changedYears_20 : decode cX0_changedYears 20 = .ok (.invokevirtual 76, 3) := by decide +kernel
theorem dX0_changedYears_23 : decode cX0_changedYears 23 = .ok (.ifCond .eq 9, 3) := by decide +kernel
theorem dX0_changedYears_26 : decode cX0_changedYears 26 = .ok (.iload_n 1, 1) := by decide +kernel
theorem dX0_changedYears_27 : decode cX0_changedYears 27 = .ok (.iconst 1, 1) := by decide +kernel
theorem dX0_changedYears_28 : decode cX0_changedYears 28 = .ok (.iload_n 2, 1) := by decide +kernel
theorem dX0_changedYears_29 : decode cX0_changedYears 29 = .ok (.ishl, 1) := by decide +kernel
theorem dX0_changedYears_30 : decode cX0_changedYears 30 = .ok (.ior, 1) := by decide +kernel
theorem dX0_changedYears_31 : decode cX0_changedYears 31 = .ok (.istore_n 1, 1) := by decide +kernel
theorem dX0_changedYears_32 : decode cX0_changedYears 32 = .ok (.iinc 2 1, 3) := by decide +kernel
theorem dX0_changedYears_35 : decode cX0_changedYears 35 = .ok (.goto (-31), 3) := by decide +kernel
theorem dX0_changedYears_38 : decode cX0_changedYears 38 = .ok (.iload_n 1, 1) := by decide +kernel
theorem dX0_changedYears_39 : decode cX0_changedYears 39 = .ok (.ireturn, 1) := by decide +kernel
theorem dX0_hasChanged_0 : decode cX0_hasChanged 0 = .ok (.iconst 1, 1) := by decide +kernel
theorem dX0_hasChanged_1 : decode cX0_hasChanged 1 = .ok (.istore_n 2, 1) := by decide +kernel
theorem dX0_hasChanged_2 : decode cX0_hasChanged 2 = .ok (.iload_n 2, 1) := by decide +kernel
theorem dX0_hasChanged_3 : decode cX0_hasChanged 3 = .ok (.iconst 4, 1) := by decide +kernel
theorem dX0_hasChanged_4 : decode cX0_hasChanged 4 = .ok (.if_icmp .gt 26, 3) := by decide +kernel
theorem dX0_hasChanged_7 : decode cX0_hasChanged 7 = .ok (.aload_n 0, 1) := by decide +kernel
theorem dX0_hasChanged_8 : decode cX0_hasChanged 8 = .ok (.iload_n 1, 1) := by decide +kernel
theorem dX0_hasChanged_9 : decode cX0_hasChanged 9 = .ok (.iload_n 2, 1) := by decide +kernel
theorem dX0_hasChanged_10 : decode cX0_hasChanged 10 = .ok (.invokevirtual 59, 3) := by decide +kernel
theorem dX0_hasChanged_13 : decode cX0_hasChanged 13 = .ok (.aload_n 0, 1) := by decide +kernel
theorem dX0_hasChanged_14 : decode cX0_hasChanged 14 = .ok (.iload_n 1, 1) := by decide +kernel
theorem dX0_hasChanged_15 : decode cX0_hasChanged 15 = .ok (.iload_n 2, 1) := by decide +kernel
theorem dX0_hasChanged_16 : decode cX0_hasChanged 16 = .ok (.invokevirtual 79, 3) := by decide +kernel
theorem dX0_hasChanged_19 : decode cX0_hasChanged 19 = .ok (.if_icmp .eq 5, 3) := by decide +kernel
theorem dX0_hasChanged_22 : decode cX0_hasChanged 22 = .ok (.iconst 1, 1) := by decide +kernel
theorem dX0_hasChanged_23 : decode cX0_hasChanged 23 = .ok (.ireturn, 1) := by decide +kernel
theorem dX0_hasChanged_24 : decode cX0_hasChanged 24 = .ok (.iinc 2 1, 3) := by decide +kernel
theorem dX0_hasChanged_27 : decode cX0_hasChanged 27 = .ok (.goto (-25), 3) := by decide +kernel
theorem dX0_hasChanged_30 : decode cX0_hasChanged 30 = .ok (.iconst 0, 1) := by decide +kernel
theorem dX0_hasChanged_31 : decode cX0_hasChanged 31 = .ok (.ireturn, 1) := by decide +kernel
theorem dX1_init_0 : decode cX1_init 0 = .ok (.aload_n 0, 1) := by decide +kernel
theorem dX1_init_1 : decode cX1_init 1 = .ok (.invokespecial 3, 3) := by decide +kernel
theorem dX1_init_4 : decode cX1_init 4 = .ok (.aload_n 0, 1) := by decide +kernel
theorem dX1_init_5 : decode cX1_init 5 = .ok (.bipush 60, 2) := by decide +kernel
theorem dX1_init_7 : decode cX1_init 7 = .ok (.newarray .int, 2) := by decide +kernel
theorem dX1_init_9 : decode cX1_init 9 = .ok (.putfield 9, 3) := by decide +kernel
theorem dX1_init_12 : decode cX1_init 12 = .ok (.aload_n 0, 1) := by decide +kernel
theorem dX1_init_13 : decode cX1_init 13 = .ok (.bipush 60, 2) := by decide +kernel
theorem dX1_init_15 : decode cX1_init 15 = .ok (.newarray .int, 2) := by decide +kernel
theorem dX1_init_17 : decode cX1_init 17 = .ok (.putfield 15, 3) := by decide +kernel
theorem dX1_init_20 : decode cX1_init 20 = .ok (.aload_n 0, 1) := by decide +kernel
theorem dX1_init_21 : decode cX1_init 21 = .ok (.bipush 60, 2) := by decide +kernel
theorem dX1_init_23 : decode cX1_init 23 = .ok (.newarray .boolean, 2) := by decide +kernel
theorem dX1_init_25 : decode cX1_init 25 = .ok (.putfield 18, 3) := by decide +kernel
theorem dX1_init_28 : decode cX1_init 28 = .ok (.aload_n 0, 1) := by decide +kernel
theorem dX1_init_29 : decode cX1_init 29 = .ok (.bipush 60, 2) := by decide +kernel
theorem dX1_init_31 : decode cX1_init 31 = .ok (.newarray .int, 2) := by decide +kernel
theorem dX1_init_33 : decode cX1_init 33 = .ok (.putfield 22, 3) := by decide +kernel
theorem dX1_init_36 : decode cX1_init 36 = .ok (.aload_n 0, 1) := by decide +kernel
theorem dX1_init_37 : decode cX1_init 37 = .ok (.bipush 60, 2) := by decide +kernel
theorem dX1_init_39 : decode cX1_init 39 = .ok (.newarray .boolean, 2) := by decide +kernel
theorem dX1_init_41 : decode cX1_init 41 = .ok (.putfield 25, 3) := by decide +kernel
theorem dX1_init_44 : decode cX1_init 44 = .ok (.aload_n 0, 1) := by decide +kernel
theorem dX1_init_45 : decode cX1_init 45 = .ok (.bipush 60, 2) := by decide +kernel
theorem dX1_init_47 : decode cX1_init 47 = .ok (.newarray .boolean, 2) := by decide +kernel
theorem dX1_init_49 : decode cX1_init 49 = .ok (.putfield 28, 3) := by decide +kernel
theorem dX1_init_52 : decode cX1_init 52 = .ok (.aload_n 0, 1) := by decide +kernel
theorem dX1_init_53 : decode cX1_init 53 = .ok (.bipush 60, 2) := by decide +kernel
theorem dX1_init_55 : decode cX1_init 55 = .ok (.newarray .boolean, 2) := by decide +kernel
theorem dX1_init_57 : decode cX1_init 57 = .ok (.putfield 31, 3) := by decide +kernel
theorem dX1_init_60 : decode cX1_init 60 = .ok (.return_, 1) := by decide +kernel
theorem dX1_has_0 : decode cX1_has 0 = .ok (.iload_n 1, 1) := by decide +kernel
theorem dX1_has_1 : decode cX1_has 1 = .ok (.ifCond .lt 21, 3) := by decide +kernel
theorem dX1_has_4 : decode cX1_has 4 = .ok (.iload_n 1, 1) := by decide +kernel
theorem dX1_has_5 : decode cX1_has 5 = .ok (.aload_n 0, 1) := by decide +kernel
theorem dX1_has_6 : decode cX1_has 6 = .ok (.getfield 34, 3) := by decide +kernel
theorem dX1_has_9 : decode cX1_has 9 = .ok (.if_icmp .ge 13, 3) := by decide +kernel
theorem dX1_has_12 : decode cX1_has 12 = .ok (.iload_n 1, 1) := by decide +kernel
theorem dX1_has_13 : decode cX1_has 13 = .ok (.bipush 60, 2) := by decide +kernel
theorem dX1_has_15 : decode cX1_has 15 = .ok (.if_icmp .ge 7, 3) := by decide +kernel
theorem dX1_has_18 : decode cX1_has 18 = .ok (.iconst 1, 1) := by decide +kernel
theorem dX1_has_19 : decode cX1_has 19 = .ok (.goto 4, 3) := by decide +kernel
theorem dX1_has_22 : decode cX1_has 22 = .ok (.iconst 0, 1) := by decide +kernel
theorem dX1_has_23 : decode cX1_has 23 = .ok (.ireturn, 1) := by decide +kernel
theorem dX1_add_0 : decode cX1_add 0 = .ok (.aload_n 0, 1) := by decide +kernel
theorem dX1_add_1 : decode cX1_add 1 = .ok (.getfield 34, 3) := by decide +kernel
theorem dX1_add_4 : decode cX1_add 4 = .ok (.bipush 60, 2) := by decide +kernel
theorem dX1_add_6 : decode cX1_add 6 = .ok (.if_icmp .lt 4, 3) := by decide +kernel
theorem dX1_add_9 : decode cX1_add 9 = .ok (.return_, 1) := by decide +kernel
theorem dX1_add_10 : decode cX1_add 10 = .ok (.aload_n 0, 1) := by decide +kernel
theorem dX1_add_11 : decode cX1_add 11 = .ok (.getfield 9, 3) := by decide +kernel
theorem dX1_add_14 : decode cX1_add 14 = .ok (.aload_n 0, 1) := by decide +kernel
theorem dX1_add_15 : decode cX1_add 15 = .ok (.getfield 34, 3) := by decide +kernel
theorem dX1_add_18 : decode cX1_add 18 = .ok (.iload_n 1, 1) := by decide +kernel
theorem dX1_add_19 : decode cX1_add 19 = .ok (.iastore, 1) := by decide +kernel
theorem dX1_add_20 : decode cX1_add 20 = .ok (.aload_n 0, 1) := by decide +kernel
theorem dX1_add_21 : decode cX1_add 21 = .ok (.getfield 15, 3) := by decide +kernel
theorem dX1_add_24 : decode cX1_add 24 = .ok (.aload_n 0, 1) := by decide +kernel
theorem dX1_add_25 : decode cX1_add 25 = .ok (.getfield 34, 3) := by decide +kernel
theorem dX1_add_28 : decode cX1_add 28 = .ok (.iload_n 2, 1) := by decide +kernel
theorem dX1_add_29 : decode cX1_add 29 = .ok (.iastore, 1) := by decide +kernel
theorem dX1_add_30 : decode cX1_add 30 = .ok (.aload_n 0, 1) := by decide +kernel
theorem dX1_add_31 : decode cX1_add 31 = .ok (.getfield 18, 3) := by decide +kernel
theorem dX1_add_34 : decode cX1_add 34 = .ok (.aload_n 0, 1) := by decide +kernel
theorem dX1_add_35 : decode cX1_add 35 = .ok (.getfield 34, 3) := by decide +kernel
theorem dX1_add_38 : decode cX1_add 38 = .ok (.iload_n 3, 1) := by decide +kernel
theorem dX1_add_39 : decode cX1_add 39 = .ok (.bastore, 1) := by decide +kernel
theorem dX1_add_40 : decode cX1_add 40 = .ok (.aload_n 0, 1) := by decide +kernel
theorem dX1_add_41 : decode cX1_add 41 = .ok (.getfield 22, 3) := by decide +kernel
theorem dX1_add_44 : decode cX1_add 44 = .ok (.aload_n 0, 1) := by decide +kernel
theorem dX1_add_45 : decode cX1_add 45 = .ok (.getfield 34, 3) := by decide +kernel
theorem dX1_add_48 : decode cX1_add 48 = .ok (.iload 4, 2) := by decide +kernel
theorem dX1_add_50 : decode cX1_add 50 = .ok (.iastore, 1) := by decide +kernel
theorem dX1_add_51 : decode cX1_add 51 = .ok (.aload_n 0, 1) := by decide +kernel
theorem dX1_add_52 : decode cX1_add 52 = .ok (.dup, 1) := by decide +kernel
theorem dX1_add_53 : decode cX1_add 53 = .ok (.getfield 34, 3) := by decide +kernel
theorem dX1_add_56 : decode cX1_add 56 = .ok (.iconst 1, 1) := by decide +kernel
theorem dX1_add_57 : decode cX1_add 57 = .ok (.iadd, 1) := by decide +kernel
theorem dX1_add_58 : decode cX1_add 58 = .ok (.putfield 34, 3) := by decide +kernel
theorem dX1_add_61 : decode cX1_add 61 = .ok (.return_, 1) := by decide +kernel
theorem dX1_isReceipt_0 : decode cX1_isReceipt 0 = .ok (.aload_n 0, 1) := by decide +kernel
theorem dX1_isReceipt_1 : decode cX1_isReceipt 1 = .ok (.iload_n 1, 1) := by decide +kernel
theorem dX1_isReceipt_2 : decode cX1_isReceipt 2 = .ok (.invokevirtual 38, 3) := by decide +kernel
theorem dX1_isReceipt_5 : decode cX1_isReceipt 5 = .ok (.ifCond .eq 16, 3) := by decide +kernel
theorem dX1_isReceipt_8 : decode cX1_isReceipt 8 = .ok (.aload_n 0, 1) := by decide +kernel
theorem dX1_isReceipt_9 : decode cX1_isReceipt 9 = .ok (.getfield 18, 3) := by decide +kernel
theorem dX1_isReceipt_12 : decode cX1_isReceipt 12 = .ok (.iload_n 1, 1) := by decide +kernel
theorem dX1_isReceipt_13 : decode cX1_isReceipt 13 = .ok (.baload, 1) := by decide +kernel
theorem dX1_isReceipt_14 : decode cX1_isReceipt 14 = .ok (.ifCond .eq 7, 3) := by decide +kernel
theorem dX1_isReceipt_17 : decode cX1_isReceipt 17 = .ok (.iconst 1, 1) := by decide +kernel
theorem dX1_isReceipt_18 : decode cX1_isReceipt 18 = .ok (.goto 4, 3) := by decide +kernel
theorem dX1_isReceipt_21 : decode cX1_isReceipt 21 = .ok (.iconst 0, 1) := by decide +kernel
theorem dX1_isReceipt_22 : decode cX1_isReceipt 22 = .ok (.ireturn, 1) := by decide +kernel
theorem dX1_setVoucher_0 : decode cX1_setVoucher 0 = .ok (.aload_n 0, 1) := by decide +kernel
theorem dX1_setVoucher_1 : decode cX1_setVoucher 1 = .ok (.iload_n 1, 1) := by decide +kernel
theorem dX1_setVoucher_2 : decode cX1_setVoucher 2 = .ok (.invokevirtual 38, 3) := by decide +kernel
theorem dX1_setVoucher_5 : decode cX1_setVoucher 5 = .ok (.ifCond .ne 5, 3) := by decide +kernel
theorem dX1_setVoucher_8 : decode cX1_setVoucher 8 = .ok (.iconst 0, 1) := by decide +kernel
theorem dX1_setVoucher_9 : decode cX1_setVoucher 9 = .ok (.ireturn, 1) := by decide +kernel
theorem dX1_setVoucher_10 : decode cX1_setVoucher 10 = .ok (.aload_n 0, 1) := by decide +kernel
theorem dX1_setVoucher_11 : decode cX1_setVoucher 11 = .ok (.getfield 25, 3) := by decide +kernel
theorem dX1_setVoucher_14 : decode cX1_setVoucher 14 = .ok (.iload_n 1, 1) := by decide +kernel
theorem dX1_setVoucher_15 : decode cX1_setVoucher 15 = .ok (.baload, 1) := by decide +kernel
theorem dX1_setVoucher_16 : decode cX1_setVoucher 16 = .ok (.istore_n 3, 1) := by decide +kernel
theorem dX1_setVoucher_17 : decode cX1_setVoucher 17 = .ok (.aload_n 0, 1) := by decide +kernel
theorem dX1_setVoucher_18 : decode cX1_setVoucher 18 = .ok (.getfield 25, 3) := by decide +kernel
theorem dX1_setVoucher_21 : decode cX1_setVoucher 21 = .ok (.iload_n 1, 1) := by decide +kernel
theorem dX1_setVoucher_22 : decode cX1_setVoucher 22 = .ok (.iload_n 2, 1) := by decide +kernel
theorem dX1_setVoucher_23 : decode cX1_setVoucher 23 = .ok (.bastore, 1) := by decide +kernel
theorem dX1_setVoucher_24 : decode cX1_setVoucher 24 = .ok (.iload_n 3, 1) := by decide +kernel
theorem dX1_setVoucher_25 : decode cX1_setVoucher 25 = .ok (.ireturn, 1) := by decide +kernel
theorem dX1_setChallenge_0 : decode cX1_setChallenge 0 = .ok (.aload_n 0, 1) := by decide +kernel
theorem dX1_setChallenge_1 : decode cX1_setChallenge 1 = .ok (.iload_n 1, 1) := by decide +kernel
theorem dX1_setChallenge_2 : decode cX1_setChallenge 2 = .ok (.invokevirtual 38, 3) := by decide +kernel
theorem dX1_setChallenge_5 : decode cX1_setChallenge 5 = .ok (.ifCond .ne 5, 3) := by decide +kernel
theorem dX1_setChallenge_8 : decode cX1_setChallenge 8 = .ok (.iconst 0, 1) := by decide +kernel
theorem dX1_setChallenge_9 : decode cX1_setChallenge 9 = .ok (.ireturn, 1) := by decide +kernel
theorem dX1_setChallenge_10 : decode cX1_setChallenge 10 = .ok (.aload_n 0, 1) := by decide +kernel
theorem dX1_setChallenge_11 : decode cX1_setChallenge 11 = .ok (.getfield 28, 3) := by decide +kernel
theorem dX1_setChallenge_14 : decode cX1_setChallenge 14 = .ok (.iload_n 1, 1) := by decide +kernel
theorem dX1_setChallenge_15 : decode cX1_setChallenge 15 = .ok (.baload, 1) := by decide +kernel
theorem dX1_setChallenge_16 : decode cX1_setChallenge 16 = .ok (.istore_n 3, 1) := by decide +kernel
theorem dX1_setChallenge_17 : decode cX1_setChallenge 17 = .ok (.aload_n 0, 1) := by decide +kernel
theorem dX1_setChallenge_18 : decode cX1_setChallenge 18 = .ok (.getfield 28, 3) := by decide +kernel
theorem dX1_setChallenge_21 : decode cX1_setChallenge 21 = .ok (.iload_n 1, 1) := by decide +kernel
theorem dX1_setChallenge_22 : decode cX1_setChallenge 22 = .ok (.iload_n 2, 1) := by decide +kernel
theorem dX1_setChallenge_23 : decode cX1_setChallenge 23 = .ok (.bastore, 1) := by decide +kernel
theorem dX1_setChallenge_24 : decode cX1_setChallenge 24 = .ok (.iload_n 3, 1) := by decide +kernel
theorem dX1_setChallenge_25 : decode cX1_setChallenge 25 = .ok (.ireturn, 1) := by decide +kernel
theorem dX1_barsOf_0 : decode cX1_barsOf 0 = .ok (.aload_n 0, 1) := by decide +kernel
theorem dX1_barsOf_1 : decode cX1_barsOf 1 = .ok (.iload_n 1, 1) := by decide +kernel
theorem dX1_barsOf_2 : decode cX1_barsOf 2 = .ok (.invokevirtual 38, 3) := by decide +kernel
theorem dX1_barsOf_5 : decode cX1_barsOf 5 = .ok (.ifCond .eq 12, 3) := by decide +kernel
theorem dX1_barsOf_8 : decode cX1_barsOf 8 = .ok (.aload_n 0, 1) := by decide +kernel
theorem dX1_barsOf_9 : decode cX1_barsOf 9 = .ok (.getfield 18, 3) := by decide +kernel
theorem dX1_barsOf_12 : decode cX1_barsOf 12 = .ok (.iload_n 1, 1) := by decide +kernel
theorem dX1_barsOf_13 : decode cX1_barsOf 13 = .ok (.baload, 1) := by decide +kernel
theorem dX1_barsOf_14 : decode cX1_barsOf 14 = .ok (.ifCond .eq 5, 3) := by decide +kernel
theorem dX1_barsOf_17 : decode cX1_barsOf 17 = .ok (.iconst 0, 1) := by decide +kernel
theorem dX1_barsOf_18 : decode cX1_barsOf 18 = .ok (.ireturn, 1) := by decide +kernel
theorem dX1_barsOf_19 : decode cX1_barsOf 19 = .ok (.aload_n 2, 1) := by decide +kernel
theorem dX1_barsOf_20 : decode cX1_barsOf 20 = .ok (.aload_n 0, 1) := by decide +kernel
theorem dX1_barsOf_21 : decode cX1_barsOf 21 = .ok (.getfield 9, 3) := by decide +kernel
theorem dX1_barsOf_24 : decode cX1_barsOf 24 = .ok (.iload_n 1, 1) := by decide +kernel
theorem dX1_barsOf_25 : decode cX1_barsOf 25 = .ok (.iaload, 1) := by decide +kernel
theorem dX1_barsOf_26 : decode cX1_barsOf 26 = .ok (.iconst 3, 1) := by decide +kernel
theorem dX1_barsOf_27 : decode cX1_barsOf 27 = .ok (.invokevirtual 42, 3) := by decide +kernel
theorem dX1_barsOf_30 : decode cX1_barsOf 30 = .ok (.istore 4, 2) := by decide +kernel
theorem dX1_barsOf_32 : decode cX1_barsOf 32 = .ok (.aload_n 3, 1) := by decide +kernel
theorem dX1_barsOf_33 : decode cX1_barsOf 33 = .ok (.aload_n 0, 1) := by decide +kernel
theorem dX1_barsOf_34 : decode cX1_barsOf 34 = .ok (.getfield 22, 3) := by decide +kernel
theorem dX1_barsOf_37 : decode cX1_barsOf 37 = .ok (.iload_n 1, 1) := by decide +kernel
theorem dX1_barsOf_38 : decode cX1_barsOf 38 = .ok (.iaload, 1) := by decide +kernel
theorem dX1_barsOf_39 : decode cX1_barsOf 39 = .ok (.aload_n 0, 1) := by decide +kernel
theorem dX1_barsOf_40 : decode cX1_barsOf 40 = .ok (.getfield 15, 3) := by decide +kernel
theorem dX1_barsOf_43 : decode cX1_barsOf 43 = .ok (.iload_n 1, 1) := by decide +kernel
theorem dX1_barsOf_44 : decode cX1_barsOf 44 = .ok (.iaload, 1) := by decide +kernel
theorem dX1_barsOf_45 : decode cX1_barsOf 45 = .ok (.iload 4, 2) := by decide +kernel
theorem dX1_barsOf_47 : decode cX1_barsOf 47 = .ok (.invokevirtual 48, 3) := by decide +kernel
theorem dX1_barsOf_50 : decode cX1_barsOf 50 = .ok (.istore 5, 2) := by decide +kernel
theorem dX1_barsOf_52 : decode cX1_barsOf 52 = .ok (.aload_n 0, 1) := by decide +kernel
theorem dX1_barsOf_53 : decode cX1_barsOf 53 = .ok (.getfield 28, 3) := by decide +kernel
theorem dX1_barsOf_56 : decode cX1_barsOf 56 = .ok (.iload_n 1, 1) := by decide +kernel
theorem dX1_barsOf_57 : decode cX1_barsOf 57 = .ok (.baload, 1) := by decide +kernel
theorem dX1_barsOf_58 : decode cX1_barsOf 58 = .ok (.ifCond .eq 19, 3) := by decide +kernel
theorem dX1_barsOf_61 : decode cX1_barsOf 61 = .ok (.aload_n 0, 1) := by decide +kernel
theorem dX1_barsOf_62 : decode cX1_barsOf 62 = .ok (.getfield 25, 3) := by decide +kernel
theorem dX1_barsOf_65 : decode cX1_barsOf 65 = .ok (.iload_n 1, 1) := by decide +kernel
theorem dX1_barsOf_66 : decode cX1_barsOf 66 = .ok (.baload, 1) := by decide +kernel
theorem dX1_barsOf_67 : decode cX1_barsOf 67 = .ok (.ifCond .ne 10, 3) := by decide +kernel
theorem dX1_barsOf_70 : decode cX1_barsOf 70 = .ok (.iload 5, 2) := by decide +kernel
theorem dX1_barsOf_72 : decode cX1_barsOf 72 = .ok (.iconst 2, 1) := by decide +kernel
theorem dX1_barsOf_73 : decode cX1_barsOf 73 = .ok (.iadd, 1) := by decide +kernel
theorem dX1_barsOf_74 : decode cX1_barsOf 74 = .ok (.goto 5, 3) := by decide +kernel
theorem dX1_barsOf_77 : decode cX1_barsOf 77 = .ok (.iload 5, 2) := by decide +kernel
theorem dX1_barsOf_79 : decode cX1_barsOf 79 = .ok (.ireturn, 1) := by decide +kernel
theorem dX1_settleAllowed_0 : decode cX1_settleAllowed 0 = .ok (.iconst 0, 1) := by decide +kernel
theorem dX1_settleAllowed_1 : decode cX1_settleAllowed 1 = .ok (.istore_n 3, 1) := by decide +kernel
theorem dX1_settleAllowed_2 : decode cX1_settleAllowed 2 = .ok (.iload_n 3, 1) := by decide +kernel
theorem dX1_settleAllowed_3 : decode cX1_settleAllowed 3 = .ok (.aload_n 0, 1) := by decide +kernel
theorem dX1_settleAllowed_4 : decode cX1_settleAllowed 4 = .ok (.getfield 34, 3) := by decide +kernel
theorem dX1_settleAllowed_7 : decode cX1_settleAllowed 7 = .ok (.if_icmp .ge 36, 3) := by decide +kernel
theorem dX1_settleAllowed_10 : decode cX1_settleAllowed 10 = .ok (.iload_n 3, 1) := by decide +kernel
theorem dX1_settleAllowed_11 : decode cX1_settleAllowed 11 = .ok (.bipush 60, 2) := by decide +kernel
theorem dX1_settleAllowed_13 : decode cX1_settleAllowed 13 = .ok (.if_icmp .ge 30, 3) := by decide +kernel
theorem dX1_settleAllowed_16 : decode cX1_settleAllowed 16 = .ok (.aload_n 0, 1) := by decide +kernel
theorem dX1_settleAllowed_17 : decode cX1_settleAllowed 17 = .ok (.getfield 31, 3) := by decide +kernel
theorem dX1_settleAllowed_20 : decode cX1_settleAllowed 20 = .ok (.iload_n 3, 1) := by decide +kernel
theorem dX1_settleAllowed_21 : decode cX1_settleAllowed 21 = .ok (.aload_n 0, 1) := by decide +kernel
theorem dX1_settleAllowed_22 : decode cX1_settleAllowed 22 = .ok (.iload_n 3, 1) := by decide +kernel
theorem dX1_settleAllowed_23 : decode cX1_settleAllowed 23 = .ok (.aload_n 1, 1) := by decide +kernel
theorem dX1_settleAllowed_24 : decode cX1_settleAllowed 24 = .ok (.aload_n 2, 1) := by decide +kernel
theorem dX1_settleAllowed_25 : decode cX1_settleAllowed 25 = .ok (.invokevirtual 54, 3) := by decide +kernel
theorem dX1_settleAllowed_28 : decode cX1_settleAllowed 28 = .ok (.ifCond .ne 7, 3) := by decide +kernel
theorem dX1_settleAllowed_31 : decode cX1_settleAllowed 31 = .ok (.iconst 1, 1) := by decide +kernel
theorem dX1_settleAllowed_32 : decode cX1_settleAllowed 32 = .ok (.goto 4, 3) := by decide +kernel
theorem dX1_settleAllowed_35 : decode cX1_settleAllowed 35 = .ok (.iconst 0, 1) := by decide +kernel
theorem dX1_settleAllowed_36 : decode cX1_settleAllowed 36 = .ok (.bastore, 1) := by decide +kernel
theorem dX1_settleAllowed_37 : decode cX1_settleAllowed 37 = .ok (.iinc 3 1, 3) := by decide +kernel
theorem dX1_settleAllowed_40 : decode cX1_settleAllowed 40 = .ok (.goto (-38), 3) := by decide +kernel
theorem dX1_settleAllowed_43 : decode cX1_settleAllowed 43 = .ok (.return_, 1) := by decide +kernel
theorem dX1_receivedBetween_0 : decode cX1_receivedBetween 0 = .ok (.aload_n 0, 1) := by decide +kernel
theorem dX1_receivedBetween_1 : decode cX1_receivedBetween 1 = .ok (.iconst 1, 1) := by decide +kernel
theorem dX1_receivedBetween_2 : decode cX1_receivedBetween 2 = .ok (.iload_n 1, 1) := by decide +kernel
theorem dX1_receivedBetween_3 : decode cX1_receivedBetween 3 = .ok (.iload_n 2, 1) := by decide +kernel
theorem dX1_receivedBetween_4 : decode cX1_receivedBetween 4 = .ok (.invokevirtual 58, 3) := by decide +kernel
theorem dX1_receivedBetween_7 : decode cX1_receivedBetween 7 = .ok (.ireturn, 1) := by decide +kernel
theorem dX1_paidBetween_0 : decode cX1_paidBetween 0 = .ok (.aload_n 0, 1) := by decide +kernel
theorem dX1_paidBetween_1 : decode cX1_paidBetween 1 = .ok (.iconst 0, 1) := by decide +kernel
theorem dX1_paidBetween_2 : decode cX1_paidBetween 2 = .ok (.iload_n 1, 1) := by decide +kernel
theorem dX1_paidBetween_3 : decode cX1_paidBetween 3 = .ok (.iload_n 2, 1) := by decide +kernel
theorem dX1_paidBetween_4 : decode cX1_paidBetween 4 = .ok (.invokevirtual 58, 3) := by decide +kernel
theorem dX1_paidBetween_7 : decode cX1_paidBetween 7 = .ok (.ireturn, 1) := by decide +kernel
theorem dX1_sumBetween_0 : decode cX1_sumBetween 0 = .ok (.iconst 0, 1) := by decide +kernel
theorem dX1_sumBetween_1 : decode cX1_sumBetween 1 = .ok (.istore 4, 2) := by decide +kernel
theorem dX1_sumBetween_3 : decode cX1_sumBetween 3 = .ok (.iconst 0, 1) := by decide +kernel
theorem dX1_sumBetween_4 : decode cX1_sumBetween 4 = .ok (.istore 5, 2) := by decide +kernel
theorem dX1_sumBetween_6 : decode cX1_sumBetween 6 = .ok (.iload 5, 2) := by decide +kernel
theorem dX1_sumBetween_8 : decode cX1_sumBetween 8 = .ok (.aload_n 0, 1) := by decide +kernel
theorem dX1_sumBetween_9 : decode cX1_sumBetween 9 = .ok (.getfield 34, 3) := by decide +kernel
theorem dX1_sumBetween_12 : decode cX1_sumBetween 12 = .ok (.if_icmp .ge 64, 3) := by decide +kernel
theorem dX1_sumBetween_15 : decode cX1_sumBetween 15 = .ok (.iload 5, 2) := by decide +kernel
theorem dX1_sumBetween_17 : decode cX1_sumBetween 17 = .ok (.bipush 60, 2) := by decide +kernel
theorem dX1_sumBetween_19 : decode cX1_sumBetween 19 = .ok (.if_icmp .ge 57, 3) := by decide +kernel
theorem dX1_sumBetween_22 : decode cX1_sumBetween 22 = .ok (.aload_n 0, 1) := by decide +kernel
theorem dX1_sumBetween_23 : decode cX1_sumBetween 23 = .ok (.getfield 18, 3) := by decide +kernel
theorem dX1_sumBetween_26 : decode cX1_sumBetween 26 = .ok (.iload 5, 2) := by decide +kernel
theorem dX1_sumBetween_28 : decode cX1_sumBetween 28 = .ok (.baload, 1) := by decide +kernel
theorem dX1_sumBetween_29 : decode cX1_sumBetween 29 = .ok (.iload_n 1, 1) := by decide +kernel
theorem dX1_sumBetween_30 : decode cX1_sumBetween 30 = .ok (.if_icmp .ne 40, 3) := by decide +kernel
theorem dX1_sumBetween_33 : decode cX1_sumBetween 33 = .ok (.aload_n 0, 1) := by decide +kernel
theorem dX1_sumBetween_34 : decode cX1_sumBetween 34 = .ok (.getfield 31, 3) := by decide +kernel
theorem dX1_sumBetween_37 : decode cX1_sumBetween 37 = .ok (.iload 5, 2) := by decide +kernel
theorem dX1_sumBetween_39 : decode cX1_sumBetween 39 = .ok (.baload, 1) := by decide +kernel
theorem dX1_sumBetween_40 : decode cX1_sumBetween 40 = .ok (.ifCond .eq 30, 3) := by decide +kernel
theorem dX1_sumBetween_43 : decode cX1_sumBetween 43 = .ok (.aload_n 0, 1) := by decide +kernel
theorem dX1_sumBetween_44 : decode cX1_sumBetween 44 = .ok (.getfield 9, 3) := by decide +kernel
theorem dX1_sumBetween_47 : decode cX1_sumBetween 47 = .ok (.iload 5, 2) := by decide +kernel
theorem dX1_sumBetween_49 : decode cX1_sumBetween 49 = .ok (.iaload, 1) := by decide +kernel
theorem dX1_sumBetween_50 : decode cX1_sumBetween 50 = .ok (.iload_n 2, 1) := by decide +kernel
theorem dX1_sumBetween_51 : decode cX1_sumBetween 51 = .ok (.iload_n 3, 1) := by decide +kernel
theorem dX1_sumBetween_52 : decode cX1_sumBetween 52 = .ok (.invokestatic 62, 3) := by decide +kernel
theorem dX1_sumBetween_55 : decode cX1_sumBetween 55 = .ok (.ifCond .eq 15, 3) := by decide +kernel
theorem dX1_sumBetween_58 : decode cX1_sumBetween 58 = .ok (.iload 4, 2) := by decide +kernel
theorem dX1_sumBetween_60 : decode cX1_sumBetween 60 = .ok (.aload_n 0, 1) := by decide +kernel
theorem dX1_sumBetween_61 : decode cX1_sumBetween 61 = .ok (.getfield 15, 3) := by decide +kernel
theorem dX1_sumBetween_64 : decode cX1_sumBetween 64 = .ok (.iload 5, 2) := by decide +kernel
theorem dX1_sumBetween_66 : decode cX1_sumBetween 66 = .ok (.iaload, 1) := by decide +kernel
theorem dX1_sumBetween_67 : decode cX1_sumBetween 67 = .ok (.iadd, 1) := by decide +kernel
theorem dX1_sumBetween_68 : decode cX1_sumBetween 68 = .ok (.istore 4, 2) := by decide +kernel
theorem dX1_sumBetween_70 : decode cX1_sumBetween 70 = .ok (.iinc 5 1, 3) := by decide +kernel
theorem dX1_sumBetween_73 : decode cX1_sumBetween 73 = .ok (.goto (-67), 3) := by decide +kernel
theorem dX1_sumBetween_76 : decode cX1_sumBetween 76 = .ok (.iload 4, 2) := by decide +kernel
theorem dX1_sumBetween_78 : decode cX1_sumBetween 78 = .ok (.ireturn, 1) := by decide +kernel
theorem dX1_hadOf_0 : decode cX1_hadOf 0 = .ok (.iconst 0, 1) := by decide +kernel
theorem dX1_hadOf_1 : decode cX1_hadOf 1 = .ok (.istore_n 3, 1) := by decide +kernel
theorem dX1_hadOf_2 : decode cX1_hadOf 2 = .ok (.iconst 0, 1) := by decide +kernel
theorem dX1_hadOf_3 : decode cX1_hadOf 3 = .ok (.istore 4, 2) := by decide +kernel
theorem dX1_hadOf_5 : decode cX1_hadOf 5 = .ok (.iload 4, 2) := by decide +kernel
theorem dX1_hadOf_7 : decode cX1_hadOf 7 = .ok (.aload_n 0, 1) := by decide +kernel
theorem dX1_hadOf_8 : decode cX1_hadOf 8 = .ok (.getfield 34, 3) := by decide +kernel
theorem dX1_hadOf_11 : decode cX1_hadOf 11 = .ok (.if_icmp .ge 58, 3) := by decide +kernel
theorem dX1_hadOf_14 : decode cX1_hadOf 14 = .ok (.iload 4, 2) := by decide +kernel
theorem dX1_hadOf_16 : decode cX1_hadOf 16 = .ok (.bipush 60, 2) := by decide +kernel
theorem dX1_hadOf_18 : decode cX1_hadOf 18 = .ok (.if_icmp .ge 51, 3) := by decide +kernel
theorem dX1_hadOf_21 : decode cX1_hadOf 21 = .ok (.aload_n 0, 1) := by decide +kernel
theorem dX1_hadOf_22 : decode cX1_hadOf 22 = .ok (.getfield 18, 3) := by decide +kernel
theorem dX1_hadOf_25 : decode cX1_hadOf 25 = .ok (.iload 4, 2) := by decide +kernel
theorem dX1_hadOf_27 : decode cX1_hadOf 27 = .ok (.baload, 1) := by decide +kernel
theorem dX1_hadOf_28 : decode cX1_hadOf 28 = .ok (.ifCond .eq 35, 3) := by decide +kernel
theorem dX1_hadOf_31 : decode cX1_hadOf 31 = .ok (.aload_n 0, 1) := by decide +kernel
theorem dX1_hadOf_32 : decode cX1_hadOf 32 = .ok (.getfield 22, 3) := by decide +kernel
theorem dX1_hadOf_35 : decode cX1_hadOf 35 = .ok (.iload 4, 2) := by decide +kernel
theorem dX1_hadOf_37 : decode cX1_hadOf 37 = .ok (.iaload, 1) := by decide +kernel
theorem dX1_hadOf_38 : decode cX1_hadOf 38 = .ok (.iload_n 1, 1) := by decide +kernel
theorem dX1_hadOf_39 : decode cX1_hadOf 39 = .ok (.if_icmp .ne 24, 3) := by decide +kernel
theorem dX1_hadOf_42 : decode cX1_hadOf 42 = .ok (.aload_n 0, 1) := by decide +kernel
theorem dX1_hadOf_43 : decode cX1_hadOf 43 = .ok (.getfield 9, 3) := by decide +kernel
theorem dX1_hadOf_46 : decode cX1_hadOf 46 = .ok (.iload 4, 2) := by decide +kernel
theorem dX1_hadOf_48 : decode cX1_hadOf 48 = .ok (.iaload, 1) := by decide +kernel
theorem dX1_hadOf_49 : decode cX1_hadOf 49 = .ok (.iload_n 2, 1) := by decide +kernel
theorem dX1_hadOf_50 : decode cX1_hadOf 50 = .ok (.if_icmp .gt 13, 3) := by decide +kernel
theorem dX1_hadOf_53 : decode cX1_hadOf 53 = .ok (.iload_n 3, 1) := by decide +kernel
theorem dX1_hadOf_54 : decode cX1_hadOf 54 = .ok (.aload_n 0, 1) := by decide +kernel
theorem dX1_hadOf_55 : decode cX1_hadOf 55 = .ok (.getfield 15, 3) := by decide +kernel
theorem dX1_hadOf_58 : decode cX1_hadOf 58 = .ok (.iload 4, 2) := by decide +kernel
theorem dX1_hadOf_60 : decode cX1_hadOf 60 = .ok (.iaload, 1) := by decide +kernel
theorem dX1_hadOf_61 : decode cX1_hadOf 61 = .ok (.iadd, 1) := by decide +kernel
theorem dX1_hadOf_62 : decode cX1_hadOf 62 = .ok (.istore_n 3, 1) := by decide +kernel
theorem dX1_hadOf_63 : decode cX1_hadOf 63 = .ok (.iinc 4 1, 3) := by decide +kernel
theorem dX1_hadOf_66 : decode cX1_hadOf 66 = .ok (.goto (-61), 3) := by decide +kernel
theorem dX1_hadOf_69 : decode cX1_hadOf 69 = .ok (.iload_n 3, 1) := by decide +kernel
theorem dX1_hadOf_70 : decode cX1_hadOf 70 = .ok (.ireturn, 1) := by decide +kernel
theorem dX1_turnAfter_0 : decode cX1_turnAfter 0 = .ok (.aload_n 0, 1) := by decide +kernel
theorem dX1_turnAfter_1 : decode cX1_turnAfter 1 = .ok (.getfield 9, 3) := by decide +kernel
theorem dX1_turnAfter_4 : decode cX1_turnAfter 4 = .ok (.aload_n 0, 1) := by decide +kernel
theorem dX1_turnAfter_5 : decode cX1_turnAfter 5 = .ok (.getfield 34, 3) := by decide +kernel
theorem dX1_turnAfter_8 : decode cX1_turnAfter 8 = .ok (.iload_n 1, 1) := by decide +kernel
theorem dX1_turnAfter_9 : decode cX1_turnAfter 9 = .ok (.iload_n 2, 1) := by decide +kernel
theorem dX1_turnAfter_10 : decode cX1_turnAfter 10 = .ok (.invokestatic 66, 3) := by decide +kernel
theorem dX1_turnAfter_13 : decode cX1_turnAfter 13 = .ok (.ireturn, 1) := by decide +kernel
theorem dX2_init_0 : decode cX2_init 0 = .ok (.aload_n 0, 1) := by decide +kernel
theorem dX2_init_1 : decode cX2_init 1 = .ok (.invokespecial 3, 3) := by decide +kernel
theorem dX2_init_4 : decode cX2_init 4 = .ok (.aload_n 0, 1) := by decide +kernel
theorem dX2_init_5 : decode cX2_init 5 = .ok (.bipush 8, 2) := by decide +kernel
theorem dX2_init_7 : decode cX2_init 7 = .ok (.newarray .int, 2) := by decide +kernel
theorem dX2_init_9 : decode cX2_init 9 = .ok (.putfield 9, 3) := by decide +kernel
theorem dX2_init_12 : decode cX2_init 12 = .ok (.aload_n 0, 1) := by decide +kernel
theorem dX2_init_13 : decode cX2_init 13 = .ok (.bipush 8, 2) := by decide +kernel
theorem dX2_init_15 : decode cX2_init 15 = .ok (.iconst 5, 1) := by decide +kernel
theorem dX2_init_16 : decode cX2_init 16 = .ok (.multianewarray 15 2, 4) := by decide +kernel
theorem dX2_init_20 : decode cX2_init 20 = .ok (.putfield 17, 3) := by decide +kernel
theorem dX2_init_23 : decode cX2_init 23 = .ok (.return_, 1) := by decide +kernel
theorem dX2_add_0 : decode cX2_add 0 = .ok (.aload_n 0, 1) := by decide +kernel
theorem dX2_add_1 : decode cX2_add 1 = .ok (.getfield 20, 3) := by decide +kernel
theorem dX2_add_4 : decode cX2_add 4 = .ok (.bipush 8, 2) := by decide +kernel
theorem dX2_add_6 : decode cX2_add 6 = .ok (.if_icmp .lt 4, 3) := by decide +kernel
theorem dX2_add_9 : decode cX2_add 9 = .ok (.return_, 1) := by decide +kernel
theorem dX2_add_10 : decode cX2_add 10 = .ok (.aload_n 0, 1) := by decide +kernel
theorem dX2_add_11 : decode cX2_add 11 = .ok (.getfield 9, 3) := by decide +kernel
theorem dX2_add_14 : decode cX2_add 14 = .ok (.aload_n 0, 1) := by decide +kernel
theorem dX2_add_15 : decode cX2_add 15 = .ok (.getfield 20, 3) := by decide +kernel
theorem dX2_add_18 : decode cX2_add 18 = .ok (.iload_n 1, 1) := by decide +kernel
theorem dX2_add_19 : decode cX2_add 19 = .ok (.iastore, 1) := by decide +kernel
theorem dX2_add_20 : decode cX2_add 20 = .ok (.aload_n 0, 1) := by decide +kernel
theorem dX2_add_21 : decode cX2_add 21 = .ok (.getfield 17, 3) := by decide +kernel
theorem dX2_add_24 : decode cX2_add 24 = .ok (.aload_n 0, 1) := by decide +kernel
theorem dX2_add_25 : decode cX2_add 25 = .ok (.getfield 20, 3) := by decide +kernel
theorem dX2_add_28 : decode cX2_add 28 = .ok (.aaload, 1) := by decide +kernel
theorem dX2_add_29 : decode cX2_add 29 = .ok (.iconst 0, 1) := by decide +kernel
theorem dX2_add_30 : decode cX2_add 30 = .ok (.iload_n 2, 1) := by decide +kernel
theorem dX2_add_31 : decode cX2_add 31 = .ok (.iastore, 1) := by decide +kernel
theorem dX2_add_32 : decode cX2_add 32 = .ok (.aload_n 0, 1) := by decide +kernel
theorem dX2_add_33 : decode cX2_add 33 = .ok (.getfield 17, 3) := by decide +kernel
theorem dX2_add_36 : decode cX2_add 36 = .ok (.aload_n 0, 1) := by decide +kernel
theorem dX2_add_37 : decode cX2_add 37 = .ok (.getfield 20, 3) := by decide +kernel
theorem dX2_add_40 : decode cX2_add 40 = .ok (.aaload, 1) := by decide +kernel
theorem dX2_add_41 : decode cX2_add 41 = .ok (.iconst 1, 1) := by decide +kernel
theorem dX2_add_42 : decode cX2_add 42 = .ok (.iload_n 3, 1) := by decide +kernel
theorem dX2_add_43 : decode cX2_add 43 = .ok (.iastore, 1) := by decide +kernel
theorem dX2_add_44 : decode cX2_add 44 = .ok (.aload_n 0, 1) := by decide +kernel
theorem dX2_add_45 : decode cX2_add 45 = .ok (.getfield 17, 3) := by decide +kernel
theorem dX2_add_48 : decode cX2_add 48 = .ok (.aload_n 0, 1) := by decide +kernel
theorem dX2_add_49 : decode cX2_add 49 = .ok (.getfield 20, 3) := by decide +kernel
theorem dX2_add_52 : decode cX2_add 52 = .ok (.aaload, 1) := by decide +kernel
theorem dX2_add_53 : decode cX2_add 53 = .ok (.iconst 2, 1) := by decide +kernel
theorem dX2_add_54 : decode cX2_add 54 = .ok (.iload 4, 2) := by decide +kernel
theorem dX2_add_56 : decode cX2_add 56 = .ok (.iastore, 1) := by decide +kernel
theorem dX2_add_57 : decode cX2_add 57 = .ok (.aload_n 0, 1) := by decide +kernel
theorem dX2_add_58 : decode cX2_add 58 = .ok (.getfield 17, 3) := by decide +kernel
theorem dX2_add_61 : decode cX2_add 61 = .ok (.aload_n 0, 1) := by decide +kernel
theorem dX2_add_62 : decode cX2_add 62 = .ok (.getfield 20, 3) := by decide +kernel
theorem dX2_add_65 : decode cX2_add 65 = .ok (.aaload, 1) := by decide +kernel
theorem dX2_add_66 : decode cX2_add 66 = .ok (.iconst 3, 1) := by decide +kernel
theorem dX2_add_67 : decode cX2_add 67 = .ok (.iload 5, 2) := by decide +kernel
theorem dX2_add_69 : decode cX2_add 69 = .ok (.iastore, 1) := by decide +kernel
theorem dX2_add_70 : decode cX2_add 70 = .ok (.aload_n 0, 1) := by decide +kernel
theorem dX2_add_71 : decode cX2_add 71 = .ok (.getfield 17, 3) := by decide +kernel
theorem dX2_add_74 : decode cX2_add 74 = .ok (.aload_n 0, 1) := by decide +kernel
theorem dX2_add_75 : decode cX2_add 75 = .ok (.getfield 20, 3) := by decide +kernel
theorem dX2_add_78 : decode cX2_add 78 = .ok (.aaload, 1) := by decide +kernel
theorem dX2_add_79 : decode cX2_add 79 = .ok (.iconst 4, 1) := by decide +kernel
theorem dX2_add_80 : decode cX2_add 80 = .ok (.iload 6, 2) := by decide +kernel
theorem dX2_add_82 : decode cX2_add 82 = .ok (.iastore, 1) := by decide +kernel
theorem dX2_add_83 : decode cX2_add 83 = .ok (.aload_n 0, 1) := by decide +kernel
theorem dX2_add_84 : decode cX2_add 84 = .ok (.dup, 1) := by decide +kernel
theorem dX2_add_85 : decode cX2_add 85 = .ok (.getfield 20, 3) := by decide +kernel
theorem dX2_add_88 : decode cX2_add 88 = .ok (.iconst 1, 1) := by decide +kernel
theorem dX2_add_89 : decode cX2_add 89 = .ok (.iadd, 1) := by decide +kernel
theorem dX2_add_90 : decode cX2_add 90 = .ok (.putfield 20, 3) := by decide +kernel
theorem dX2_add_93 : decode cX2_add 93 = .ok (.return_, 1) := by decide +kernel
theorem dX2_inForce_0 : decode cX2_inForce 0 = .ok (.iload_n 2, 1) := by decide +kernel
theorem dX2_inForce_1 : decode cX2_inForce 1 = .ok (.iconst 0, 1) := by decide +kernel
theorem dX2_inForce_2 : decode cX2_inForce 2 = .ok (.iconst 4, 1) := by decide +kernel
theorem dX2_inForce_3 : decode cX2_inForce 3 = .ok (.invokestatic 24, 3) := by decide +kernel
theorem dX2_inForce_6 : decode cX2_inForce 6 = .ok (.ifCond .ne 5, 3) := by decide +kernel
theorem dX2_inForce_9 : decode cX2_inForce 9 = .ok (.iconst 0, 1) := by decide +kernel
theorem dX2_inForce_10 : decode cX2_inForce 10 = .ok (.ireturn, 1) := by decide +kernel
theorem dX2_inForce_11 : decode cX2_inForce 11 = .ok (.iconst (-1), 1) := by decide +kernel
theorem dX2_inForce_12 : decode cX2_inForce 12 = .ok (.istore_n 3, 1) := by decide +kernel
theorem dX2_inForce_13 : decode cX2_inForce 13 = .ok (.iconst 0, 1) := by decide +kernel
theorem dX2_inForce_14 : decode cX2_inForce 14 = .ok (.istore 4, 2) := by decide +kernel
theorem dX2_inForce_16 : decode cX2_inForce 16 = .ok (.iload 4, 2) := by decide +kernel
theorem dX2_inForce_18 : decode cX2_inForce 18 = .ok (.aload_n 0, 1) := by decide +kernel
theorem dX2_inForce_19 : decode cX2_inForce 19 = .ok (.getfield 20, 3) := by decide +kernel
theorem dX2_inForce_22 : decode cX2_inForce 22 = .ok (.if_icmp .ge 50, 3) := by decide +kernel
theorem dX2_inForce_25 : decode cX2_inForce 25 = .ok (.iload 4, 2) := by decide +kernel
theorem dX2_inForce_27 : decode cX2_inForce 27 = .ok (.bipush 8, 2) := by decide +kernel
theorem dX2_inForce_29 : decode cX2_inForce 29 = .ok (.if_icmp .ge 43, 3) := by decide +kernel
theorem dX2_inForce_32 : decode cX2_inForce 32 = .ok (.aload_n 0, 1) := by decide +kernel
theorem dX2_inForce_33 : decode cX2_inForce 33 = .ok (.getfield 9, 3) := by decide +kernel
theorem dX2_inForce_36 : decode cX2_inForce 36 = .ok (.iload 4, 2) := by decide +kernel
theorem dX2_inForce_38 : decode cX2_inForce 38 = .ok (.iaload, 1) := by decide +kernel
theorem dX2_inForce_39 : decode cX2_inForce 39 = .ok (.iload_n 1, 1) := by decide +kernel
theorem dX2_inForce_40 : decode cX2_inForce 40 = .ok (.if_icmp .gt 26, 3) := by decide +kernel
theorem dX2_inForce_43 : decode cX2_inForce 43 = .ok (.iload_n 3, 1) := by decide +kernel
theorem dX2_inForce_44 : decode cX2_inForce 44 = .ok (.ifCond .lt 19, 3) := by decide +kernel
theorem dX2_inForce_47 : decode cX2_inForce 47 = .ok (.aload_n 0, 1) := by decide +kernel
theorem dX2_inForce_48 : decode cX2_inForce 48 = .ok (.getfield 9, 3) := by decide +kernel
theorem dX2_inForce_51 : decode cX2_inForce 51 = .ok (.iload 4, 2) := by decide +kernel
theorem dX2_inForce_53 : decode cX2_inForce 53 = .ok (.iaload, 1) := by decide +kernel
theorem dX2_inForce_54 : decode cX2_inForce 54 = .ok (.aload_n 0, 1) := by decide +kernel
theorem dX2_inForce_55 : decode cX2_inForce 55 = .ok (.getfield 9, 3) := by decide +kernel
theorem dX2_inForce_58 : decode cX2_inForce 58 = .ok (.iload_n 3, 1) := by decide +kernel
theorem dX2_inForce_59 : decode cX2_inForce 59 = .ok (.iaload, 1) := by decide +kernel
theorem dX2_inForce_60 : decode cX2_inForce 60 = .ok (.if_icmp .lt 6, 3) := by decide +kernel
theorem dX2_inForce_63 : decode cX2_inForce 63 = .ok (.iload 4, 2) := by decide +kernel
theorem dX2_inForce_65 : decode cX2_inForce 65 = .ok (.istore_n 3, 1) := by decide +kernel
theorem dX2_inForce_66 : decode cX2_inForce 66 = .ok (.iinc 4 1, 3) := by decide +kernel
theorem dX2_inForce_69 : decode cX2_inForce 69 = .ok (.goto (-53), 3) := by decide +kernel
theorem dX2_inForce_72 : decode cX2_inForce 72 = .ok (.iload_n 3, 1) := by decide +kernel
theorem dX2_inForce_73 : decode cX2_inForce 73 = .ok (.ifCond .ge 11, 3) := by decide +kernel
theorem dX2_inForce_76 : decode cX2_inForce 76 = .ok (.getstatic 28, 3) := by decide +kernel
theorem dX2_inForce_79 : decode cX2_inForce 79 = .ok (.iload_n 2, 1) := by decide +kernel
theorem dX2_inForce_80 : decode cX2_inForce 80 = .ok (.iaload, 1) := by decide +kernel
theorem dX2_inForce_81 : decode cX2_inForce 81 = .ok (.goto 11, 3) := by decide +kernel
theorem dX2_inForce_84 : decode cX2_inForce 84 = .ok (.aload_n 0, 1) := by decide +kernel
theorem dX2_inForce_85 : decode cX2_inForce 85 = .ok (.getfield 17, 3) := by decide +kernel
theorem dX2_inForce_88 : decode cX2_inForce 88 = .ok (.iload_n 3, 1) := by decide +kernel
theorem dX2_inForce_89 : decode cX2_inForce 89 = .ok (.aaload, 1) := by decide +kernel
theorem dX2_inForce_90 : decode cX2_inForce 90 = .ok (.iload_n 2, 1) := by decide +kernel
theorem dX2_inForce_91 : decode cX2_inForce 91 = .ok (.iaload, 1) := by decide +kernel
theorem dX2_inForce_92 : decode cX2_inForce 92 = .ok (.ireturn, 1) := by decide +kernel
theorem dX2_fullAgeDay_0 : decode cX2_fullAgeDay 0 = .ok (.aload_n 0, 1) := by decide +kernel
theorem dX2_fullAgeDay_1 : decode cX2_fullAgeDay 1 = .ok (.iload_n 1, 1) := by decide +kernel
theorem dX2_fullAgeDay_2 : decode cX2_fullAgeDay 2 = .ok (.iconst 0, 1) := by decide +kernel
theorem dX2_fullAgeDay_3 : decode cX2_fullAgeDay 3 = .ok (.sipush 3600, 3) := by decide +kernel
theorem dX2_fullAgeDay_6 : decode cX2_fullAgeDay 6 = .ok (.invokevirtual 31, 3) := by decide +kernel
theorem dX2_fullAgeDay_9 : decode cX2_fullAgeDay 9 = .ok (.istore_n 2, 1) := by decide +kernel
theorem dX2_fullAgeDay_10 : decode cX2_fullAgeDay 10 = .ok (.aload_n 0, 1) := by decide +kernel
theorem dX2_fullAgeDay_11 : decode cX2_fullAgeDay 11 = .ok (.iload_n 1, 1) := by decide +kernel
theorem dX2_fullAgeDay_12 : decode cX2_fullAgeDay 12 = .ok (.iload_n 1, 1) := by decide +kernel
theorem dX2_fullAgeDay_13 : decode cX2_fullAgeDay 13 = .ok (.getstatic 28, 3) := by decide +kernel
theorem dX2_fullAgeDay_16 : decode cX2_fullAgeDay 16 = .ok (.iconst 0, 1) := by decide +kernel
theorem dX2_fullAgeDay_17 : decode cX2_fullAgeDay 17 = .ok (.iaload, 1) := by decide +kernel
theorem dX2_fullAgeDay_18 : decode cX2_fullAgeDay 18 = .ok (.sipush 360, 3) := by decide +kernel
theorem dX2_fullAgeDay_21 : decode cX2_fullAgeDay 21 = .ok (.imul, 1) := by decide +kernel
theorem dX2_fullAgeDay_22 : decode cX2_fullAgeDay 22 = .ok (.iadd, 1) := by decide +kernel
theorem dX2_fullAgeDay_23 : decode cX2_fullAgeDay 23 = .ok (.iload_n 2, 1) := by decide +kernel
theorem dX2_fullAgeDay_24 : decode cX2_fullAgeDay 24 = .ok (.invokevirtual 31, 3) := by decide +kernel
theorem dX2_fullAgeDay_27 : decode cX2_fullAgeDay 27 = .ok (.istore_n 2, 1) := by decide +kernel
theorem dX2_fullAgeDay_28 : decode cX2_fullAgeDay 28 = .ok (.iconst 0, 1) := by decide +kernel
theorem dX2_fullAgeDay_29 : decode cX2_fullAgeDay 29 = .ok (.istore_n 3, 1) := by decide +kernel
theorem dX2_fullAgeDay_30 : decode cX2_fullAgeDay 30 = .ok (.iload_n 3, 1) := by decide +kernel
theorem dX2_fullAgeDay_31 : decode cX2_fullAgeDay 31 = .ok (.aload_n 0, 1) := by decide +kernel
theorem dX2_fullAgeDay_32 : decode cX2_fullAgeDay 32 = .ok (.getfield 20, 3) := by decide +kernel
theorem dX2_fullAgeDay_35 : decode cX2_fullAgeDay 35 = .ok (.if_icmp .ge 49, 3) := by decide +kernel
theorem dX2_fullAgeDay_38 : decode cX2_fullAgeDay 38 = .ok (.iload_n 3, 1) := by decide +kernel
theorem dX2_fullAgeDay_39 : decode cX2_fullAgeDay 39 = .ok (.bipush 8, 2) := by decide +kernel
theorem dX2_fullAgeDay_41 : decode cX2_fullAgeDay 41 = .ok (.if_icmp .ge 43, 3) := by decide +kernel
theorem dX2_fullAgeDay_44 : decode cX2_fullAgeDay 44 = .ok (.aload_n 0, 1) := by decide +kernel
theorem dX2_fullAgeDay_45 : decode cX2_fullAgeDay 45 = .ok (.iload_n 1, 1) := by decide +kernel
theorem dX2_fullAgeDay_46 : decode cX2_fullAgeDay 46 = .ok (.aload_n 0, 1) := by decide +kernel
theorem dX2_fullAgeDay_47 : decode cX2_fullAgeDay 47 = .ok (.getfield 9, 3) := by decide +kernel
theorem dX2_fullAgeDay_50 : decode cX2_fullAgeDay 50 = .ok (.iload_n 3, 1) := by decide +kernel
theorem dX2_fullAgeDay_51 : decode cX2_fullAgeDay 51 = .ok (.iaload, 1) := by decide +kernel
theorem dX2_fullAgeDay_52 : decode cX2_fullAgeDay 52 = .ok (.iload_n 2, 1) := by decide +kernel
theorem dX2_fullAgeDay_53 : decode cX2_fullAgeDay 53 = .ok (.invokevirtual 31, 3) := by decide +kernel
theorem dX2_fullAgeDay_56 : decode cX2_fullAgeDay 56 = .ok (.istore_n 2, 1) := by decide +kernel
theorem dX2_fullAgeDay_57 : decode cX2_fullAgeDay 57 = .ok (.aload_n 0, 1) := by decide +kernel
theorem dX2_fullAgeDay_58 : decode cX2_fullAgeDay 58 = .ok (.iload_n 1, 1) := by decide +kernel
theorem dX2_fullAgeDay_59 : decode cX2_fullAgeDay 59 = .ok (.iload_n 1, 1) := by decide +kernel
theorem dX2_fullAgeDay_60 : decode cX2_fullAgeDay 60 = .ok (.aload_n 0, 1) := by decide +kernel
theorem dX2_fullAgeDay_61 : decode cX2_fullAgeDay 61 = .ok (.getfield 17, 3) := by decide +kernel
theorem dX2_fullAgeDay_64 : decode cX2_fullAgeDay 64 = .ok (.iload_n 3, 1) := by decide +kernel
theorem dX2_fullAgeDay_65 : decode cX2_fullAgeDay 65 = .ok (.aaload, 1) := by decide +kernel
theorem dX2_fullAgeDay_66 : decode cX2_fullAgeDay 66 = .ok (.iconst 0, 1) := by decide +kernel
theorem dX2_fullAgeDay_67 : decode cX2_fullAgeDay 67 = .ok (.iaload, 1) := by decide +kernel
theorem dX2_fullAgeDay_68 : decode cX2_fullAgeDay 68 = .ok (.sipush 360, 3) := by decide +kernel
theorem dX2_fullAgeDay_71 : decode cX2_fullAgeDay 71 = .ok (.imul, 1) := by decide +kernel
theorem dX2_fullAgeDay_72 : decode cX2_fullAgeDay 72 = .ok (.iadd, 1) := by decide +kernel
theorem dX2_fullAgeDay_73 : decode cX2_fullAgeDay 73 = .ok (.iload_n 2, 1) := by decide +kernel
theorem dX2_fullAgeDay_74 : decode cX2_fullAgeDay 74 = .ok (.invokevirtual 31, 3) := by decide +kernel
theorem dX2_fullAgeDay_77 : decode cX2_fullAgeDay 77 = .ok (.istore_n 2, 1) := by decide +kernel
theorem dX2_fullAgeDay_78 : decode cX2_fullAgeDay 78 = .ok (.iinc 3 1, 3) := by decide +kernel
theorem dX2_fullAgeDay_81 : decode cX2_fullAgeDay 81 = .ok (.goto (-51), 3) := by decide +kernel
theorem dX2_fullAgeDay_84 : decode cX2_fullAgeDay 84 = .ok (.iload_n 2, 1) := by decide +kernel
theorem dX2_fullAgeDay_85 : decode cX2_fullAgeDay 85 = .ok (.sipush 3600, 3) := by decide +kernel
theorem dX2_fullAgeDay_88 : decode cX2_fullAgeDay 88 = .ok (.if_icmp .ge 7, 3) := by decide +kernel
theorem dX2_fullAgeDay_91 : decode cX2_fullAgeDay 91 = .ok (.iload_n 2, 1) := by decide +kernel
theorem dX2_fullAgeDay_92 : decode cX2_fullAgeDay 92 = .ok (.goto 5, 3) := by decide +kernel
theorem dX2_fullAgeDay_95 : decode cX2_fullAgeDay 95 = .ok (.bipush (-6), 2) := by decide +kernel
theorem dX2_fullAgeDay_97 : decode cX2_fullAgeDay 97 = .ok (.ireturn, 1) := by decide +kernel
theorem dX2_sooner_0 : decode cX2_sooner 0 = .ok (.iload_n 2, 1) := by decide +kernel
theorem dX2_sooner_1 : decode cX2_sooner 1 = .ok (.ifCond .lt 8, 3) := by decide +kernel
theorem dX2_sooner_4 : decode cX2_sooner 4 = .ok (.iload_n 2, 1) := by decide +kernel
theorem dX2_sooner_5 : decode cX2_sooner 5 = .ok (.iload_n 3, 1) := by decide +kernel
theorem dX2_sooner_6 : decode cX2_sooner 6 = .ok (.if_icmp .lt 5, 3) := by decide +kernel
theorem dX2_sooner_9 : decode cX2_sooner 9 = .ok (.iload_n 3, 1) := by decide +kernel
theorem dX2_sooner_10 : decode cX2_sooner 10 = .ok (.ireturn, 1) := by decide +kernel
theorem dX2_sooner_11 : decode cX2_sooner 11 = .ok (.iload_n 2, 1) := by decide +kernel
theorem dX2_sooner_12 : decode cX2_sooner 12 = .ok (.iload_n 1, 1) := by decide +kernel
theorem dX2_sooner_13 : decode cX2_sooner 13 = .ok (.isub, 1) := by decide +kernel
theorem dX2_sooner_14 : decode cX2_sooner 14 = .ok (.aload_n 0, 1) := by decide +kernel
theorem dX2_sooner_15 : decode cX2_sooner 15 = .ok (.iload_n 2, 1) := by decide +kernel
theorem dX2_sooner_16 : decode cX2_sooner 16 = .ok (.iconst 0, 1) := by decide +kernel
theorem dX2_sooner_17 : decode cX2_sooner 17 = .ok (.invokevirtual 35, 3) := by decide +kernel
theorem dX2_sooner_20 : decode cX2_sooner 20 = .ok (.sipush 360, 3) := by decide +kernel
theorem dX2_sooner_23 : decode cX2_sooner 23 = .ok (.imul, 1) := by decide +kernel
theorem dX2_sooner_24 : decode cX2_sooner 24 = .ok (.if_icmp .lt 7, 3) := by decide +kernel
theorem dX2_sooner_27 : decode cX2_sooner 27 = .ok (.iload_n 2, 1) := by decide +kernel
theorem dX2_sooner_28 : decode cX2_sooner 28 = .ok (.goto 4, 3) := by decide +kernel
theorem dX2_sooner_31 : decode cX2_sooner 31 = .ok (.iload_n 3, 1) := by decide +kernel
theorem dX2_sooner_32 : decode cX2_sooner 32 = .ok (.ireturn, 1) := by decide +kernel
theorem dX2_turnAfter_0 : decode cX2_turnAfter 0 = .ok (.aload_n 0, 1) := by decide +kernel
theorem dX2_turnAfter_1 : decode cX2_turnAfter 1 = .ok (.getfield 9, 3) := by decide +kernel
theorem dX2_turnAfter_4 : decode cX2_turnAfter 4 = .ok (.aload_n 0, 1) := by decide +kernel
theorem dX2_turnAfter_5 : decode cX2_turnAfter 5 = .ok (.getfield 20, 3) := by decide +kernel
theorem dX2_turnAfter_8 : decode cX2_turnAfter 8 = .ok (.iload_n 1, 1) := by decide +kernel
theorem dX2_turnAfter_9 : decode cX2_turnAfter 9 = .ok (.iload_n 2, 1) := by decide +kernel
theorem dX2_turnAfter_10 : decode cX2_turnAfter 10 = .ok (.invokestatic 39, 3) := by decide +kernel
theorem dX2_turnAfter_13 : decode cX2_turnAfter 13 = .ok (.ireturn, 1) := by decide +kernel
theorem dX3_init_0 : decode cX3_init 0 = .ok (.aload_n 0, 1) := by decide +kernel
theorem dX3_init_1 : decode cX3_init 1 = .ok (.invokespecial 3, 3) := by decide +kernel
theorem dX3_init_4 : decode cX3_init 4 = .ok (.aload_n 0, 1) := by decide +kernel
theorem dX3_init_5 : decode cX3_init 5 = .ok (.bipush 10, 2) := by decide +kernel
theorem dX3_init_7 : decode cX3_init 7 = .ok (.newarray .int, 2) := by decide +kernel
theorem dX3_init_9 : decode cX3_init 9 = .ok (.putfield 9, 3) := by decide +kernel
theorem dX3_init_12 : decode cX3_init 12 = .ok (.aload_n 0, 1) := by decide +kernel
theorem dX3_init_13 : decode cX3_init 13 = .ok (.bipush 10, 2) := by decide +kernel
theorem dX3_init_15 : decode cX3_init 15 = .ok (.newarray .int, 2) := by decide +kernel
theorem dX3_init_17 : decode cX3_init 17 = .ok (.putfield 15, 3) := by decide +kernel
theorem dX3_init_20 : decode cX3_init 20 = .ok (.aload_n 0, 1) := by decide +kernel
theorem dX3_init_21 : decode cX3_init 21 = .ok (.bipush 10, 2) := by decide +kernel
theorem dX3_init_23 : decode cX3_init 23 = .ok (.newarray .int, 2) := by decide +kernel
theorem dX3_init_25 : decode cX3_init 25 = .ok (.putfield 18, 3) := by decide +kernel
theorem dX3_init_28 : decode cX3_init 28 = .ok (.aload_n 0, 1) := by decide +kernel
theorem dX3_init_29 : decode cX3_init 29 = .ok (.bipush 10, 2) := by decide +kernel
theorem dX3_init_31 : decode cX3_init 31 = .ok (.newarray .int, 2) := by decide +kernel
theorem dX3_init_33 : decode cX3_init 33 = .ok (.putfield 21, 3) := by decide +kernel
theorem dX3_init_36 : decode cX3_init 36 = .ok (.return_, 1) := by decide +kernel
theorem dX3_has_0 : decode cX3_has 0 = .ok (.iload_n 1, 1) := by decide +kernel
theorem dX3_has_1 : decode cX3_has 1 = .ok (.ifCond .lt 21, 3) := by decide +kernel
theorem dX3_has_4 : decode cX3_has 4 = .ok (.iload_n 1, 1) := by decide +kernel
theorem dX3_has_5 : decode cX3_has 5 = .ok (.aload_n 0, 1) := by decide +kernel
theorem dX3_has_6 : decode cX3_has 6 = .ok (.getfield 24, 3) := by decide +kernel
theorem dX3_has_9 : decode cX3_has 9 = .ok (.if_icmp .ge 13, 3) := by decide +kernel
theorem dX3_has_12 : decode cX3_has 12 = .ok (.iload_n 1, 1) := by decide +kernel
theorem dX3_has_13 : decode cX3_has 13 = .ok (.bipush 10, 2) := by decide +kernel
theorem dX3_has_15 : decode cX3_has 15 = .ok (.if_icmp .ge 7, 3) := by decide +kernel
theorem dX3_has_18 : decode cX3_has 18 = .ok (.iconst 1, 1) := by decide +kernel
theorem dX3_has_19 : decode cX3_has 19 = .ok (.goto 4, 3) := by decide +kernel
theorem dX3_has_22 : decode cX3_has 22 = .ok (.iconst 0, 1) := by decide +kernel
theorem dX3_has_23 : decode cX3_has 23 = .ok (.ireturn, 1) := by decide +kernel
theorem dX3_add_0 : decode cX3_add 0 = .ok (.aload_n 0, 1) := by decide +kernel
theorem dX3_add_1 : decode cX3_add 1 = .ok (.getfield 24, 3) := by decide +kernel
theorem dX3_add_4 : decode cX3_add 4 = .ok (.bipush 10, 2) := by decide +kernel
theorem dX3_add_6 : decode cX3_add 6 = .ok (.if_icmp .lt 4, 3) := by decide +kernel
theorem dX3_add_9 : decode cX3_add 9 = .ok (.return_, 1) := by decide +kernel
theorem dX3_add_10 : decode cX3_add 10 = .ok (.aload_n 0, 1) := by decide +kernel
theorem dX3_add_11 : decode cX3_add 11 = .ok (.getfield 9, 3) := by decide +kernel
theorem dX3_add_14 : decode cX3_add 14 = .ok (.aload_n 0, 1) := by decide +kernel
theorem dX3_add_15 : decode cX3_add 15 = .ok (.getfield 24, 3) := by decide +kernel
theorem dX3_add_18 : decode cX3_add 18 = .ok (.iload_n 1, 1) := by decide +kernel
theorem dX3_add_19 : decode cX3_add 19 = .ok (.iastore, 1) := by decide +kernel
theorem dX3_add_20 : decode cX3_add 20 = .ok (.aload_n 0, 1) := by decide +kernel
theorem dX3_add_21 : decode cX3_add 21 = .ok (.getfield 15, 3) := by decide +kernel
theorem dX3_add_24 : decode cX3_add 24 = .ok (.aload_n 0, 1) := by decide +kernel
theorem dX3_add_25 : decode cX3_add 25 = .ok (.getfield 24, 3) := by decide +kernel
theorem dX3_add_28 : decode cX3_add 28 = .ok (.iload_n 2, 1) := by decide +kernel
theorem dX3_add_29 : decode cX3_add 29 = .ok (.iastore, 1) := by decide +kernel
theorem dX3_add_30 : decode cX3_add 30 = .ok (.aload_n 0, 1) := by decide +kernel
theorem dX3_add_31 : decode cX3_add 31 = .ok (.getfield 18, 3) := by decide +kernel
theorem dX3_add_34 : decode cX3_add 34 = .ok (.aload_n 0, 1) := by decide +kernel
theorem dX3_add_35 : decode cX3_add 35 = .ok (.getfield 24, 3) := by decide +kernel
theorem dX3_add_38 : decode cX3_add 38 = .ok (.iload_n 3, 1) := by decide +kernel
theorem dX3_add_39 : decode cX3_add 39 = .ok (.iastore, 1) := by decide +kernel
theorem dX3_add_40 : decode cX3_add 40 = .ok (.aload_n 0, 1) := by decide +kernel
theorem dX3_add_41 : decode cX3_add 41 = .ok (.getfield 21, 3) := by decide +kernel
theorem dX3_add_44 : decode cX3_add 44 = .ok (.aload_n 0, 1) := by decide +kernel
theorem dX3_add_45 : decode cX3_add 45 = .ok (.getfield 24, 3) := by decide +kernel
theorem dX3_add_48 : decode cX3_add 48 = .ok (.iload 4, 2) := by decide +kernel
theorem dX3_add_50 : decode cX3_add 50 = .ok (.iastore, 1) := by decide +kernel
theorem dX3_add_51 : decode cX3_add 51 = .ok (.aload_n 0, 1) := by decide +kernel
theorem dX3_add_52 : decode cX3_add 52 = .ok (.dup, 1) := by decide +kernel
theorem dX3_add_53 : decode cX3_add 53 = .ok (.getfield 24, 3) := by decide +kernel
theorem dX3_add_56 : decode cX3_add 56 = .ok (.iconst 1, 1) := by decide +kernel
theorem dX3_add_57 : decode cX3_add 57 = .ok (.iadd, 1) := by decide +kernel
theorem dX3_add_58 : decode cX3_add 58 = .ok (.putfield 24, 3) := by decide +kernel
theorem dX3_add_61 : decode cX3_add 61 = .ok (.return_, 1) := by decide +kernel
theorem dX3_flawsOf_0 : decode cX3_flawsOf 0 = .ok (.aload_n 0, 1) := by decide +kernel
theorem dX3_flawsOf_1 : decode cX3_flawsOf 1 = .ok (.iload_n 1, 1) := by decide +kernel
theorem dX3_flawsOf_2 : decode cX3_flawsOf 2 = .ok (.invokevirtual 28, 3) := by decide +kernel
theorem dX3_flawsOf_5 : decode cX3_flawsOf 5 = .ok (.ifCond .ne 5, 3) := by decide +kernel
theorem dX3_flawsOf_8 : decode cX3_flawsOf 8 = .ok (.iconst 0, 1) := by decide +kernel
theorem dX3_flawsOf_9 : decode cX3_flawsOf 9 = .ok (.ireturn, 1) := by decide +kernel
theorem dX3_flawsOf_10 : decode cX3_flawsOf 10 = .ok (.aload_n 2, 1) := by decide +kernel
theorem dX3_flawsOf_11 : decode cX3_flawsOf 11 = .ok (.aload_n 0, 1) := by decide +kernel
theorem dX3_flawsOf_12 : decode cX3_flawsOf 12 = .ok (.getfield 9, 3) := by decide +kernel
theorem dX3_flawsOf_15 : decode cX3_flawsOf 15 = .ok (.iload_n 1, 1) := by decide +kernel
theorem dX3_flawsOf_16 : decode cX3_flawsOf 16 = .ok (.iaload, 1) := by decide +kernel
theorem dX3_flawsOf_17 : decode cX3_flawsOf 17 = .ok (.iconst 4, 1) := by decide +kernel
theorem dX3_flawsOf_18 : decode cX3_flawsOf 18 = .ok (.invokevirtual 32, 3) := by decide +kernel
theorem dX3_flawsOf_21 : decode cX3_flawsOf 21 = .ok (.istore 4, 2) := by decide +kernel
theorem dX3_flawsOf_23 : decode cX3_flawsOf 23 = .ok (.aload_n 3, 1) := by decide +kernel
theorem dX3_flawsOf_24 : decode cX3_flawsOf 24 = .ok (.aload_n 0, 1) := by decide +kernel
theorem dX3_flawsOf_25 : decode cX3_flawsOf 25 = .ok (.getfield 21, 3) := by decide +kernel
theorem dX3_flawsOf_28 : decode cX3_flawsOf 28 = .ok (.iload_n 1, 1) := by decide +kernel
theorem dX3_flawsOf_29 : decode cX3_flawsOf 29 = .ok (.iaload, 1) := by decide +kernel
theorem dX3_flawsOf_30 : decode cX3_flawsOf 30 = .ok (.aload_n 0, 1) := by decide +kernel
theorem dX3_flawsOf_31 : decode cX3_flawsOf 31 = .ok (.getfield 15, 3) := by decide +kernel
theorem dX3_flawsOf_34 : decode cX3_flawsOf 34 = .ok (.iload_n 1, 1) := by decide +kernel
theorem dX3_flawsOf_35 : decode cX3_flawsOf 35 = .ok (.iaload, 1) := by decide +kernel
theorem dX3_flawsOf_36 : decode cX3_flawsOf 36 = .ok (.iload 4, 2) := by decide +kernel
theorem dX3_flawsOf_38 : decode cX3_flawsOf 38 = .ok (.invokevirtual 38, 3) := by decide +kernel
theorem dX3_flawsOf_41 : decode cX3_flawsOf 41 = .ok (.ireturn, 1) := by decide +kernel
theorem dX3_dueBy_0 : decode cX3_dueBy 0 = .ok (.aload_n 0, 1) := by decide +kernel
theorem dX3_dueBy_1 : decode cX3_dueBy 1 = .ok (.iload_n 1, 1) := by decide +kernel
theorem dX3_dueBy_2 : decode cX3_dueBy 2 = .ok (.invokevirtual 28, 3) := by decide +kernel
theorem dX3_dueBy_5 : decode cX3_dueBy 5 = .ok (.ifCond .eq 13, 3) := by decide +kernel
theorem dX3_dueBy_8 : decode cX3_dueBy 8 = .ok (.iload_n 2, 1) := by decide +kernel
theorem dX3_dueBy_9 : decode cX3_dueBy 9 = .ok (.aload_n 0, 1) := by decide +kernel
theorem dX3_dueBy_10 : decode cX3_dueBy 10 = .ok (.getfield 9, 3) := by decide +kernel
theorem dX3_dueBy_13 : decode cX3_dueBy 13 = .ok (.iload_n 1, 1) := by decide +kernel
theorem dX3_dueBy_14 : decode cX3_dueBy 14 = .ok (.iaload, 1) := by decide +kernel
theorem dX3_dueBy_15 : decode cX3_dueBy 15 = .ok (.if_icmp .ge 5, 3) := by decide +kernel
theorem dX3_dueBy_18 : decode cX3_dueBy 18 = .ok (.iconst 0, 1) := by decide +kernel
theorem dX3_dueBy_19 : decode cX3_dueBy 19 = .ok (.ireturn, 1) := by decide +kernel
theorem dX3_dueBy_20 : decode cX3_dueBy 20 = .ok (.iload_n 2, 1) := by decide +kernel
theorem dX3_dueBy_21 : decode cX3_dueBy 21 = .ok (.aload_n 0, 1) := by decide +kernel
theorem dX3_dueBy_22 : decode cX3_dueBy 22 = .ok (.getfield 9, 3) := by decide +kernel
theorem dX3_dueBy_25 : decode cX3_dueBy 25 = .ok (.iload_n 1, 1) := by decide +kernel
theorem dX3_dueBy_26 : decode cX3_dueBy 26 = .ok (.iaload, 1) := by decide +kernel
theorem dX3_dueBy_27 : decode cX3_dueBy 27 = .ok (.isub, 1) := by decide +kernel
theorem dX3_dueBy_28 : decode cX3_dueBy 28 = .ok (.sipush 360, 3) := by decide +kernel
theorem dX3_dueBy_31 : decode cX3_dueBy 31 = .ok (.idiv, 1) := by decide +kernel
theorem dX3_dueBy_32 : decode cX3_dueBy 32 = .ok (.iconst 1, 1) := by decide +kernel
theorem dX3_dueBy_33 : decode cX3_dueBy 33 = .ok (.iadd, 1) := by decide +kernel
theorem dX3_dueBy_34 : decode cX3_dueBy 34 = .ok (.istore_n 3, 1) := by decide +kernel
theorem dX3_dueBy_35 : decode cX3_dueBy 35 = .ok (.aload_n 0, 1) := by decide +kernel
theorem dX3_dueBy_36 : decode cX3_dueBy 36 = .ok (.getfield 18, 3) := by decide +kernel
theorem dX3_dueBy_39 : decode cX3_dueBy 39 = .ok (.iload_n 1, 1) := by decide +kernel
theorem dX3_dueBy_40 : decode cX3_dueBy 40 = .ok (.iaload, 1) := by decide +kernel
theorem dX3_dueBy_41 : decode cX3_dueBy 41 = .ok (.iload_n 3, 1) := by decide +kernel
theorem dX3_dueBy_42 : decode cX3_dueBy 42 = .ok (.aload_n 0, 1) := by decide +kernel
theorem dX3_dueBy_43 : decode cX3_dueBy 43 = .ok (.getfield 15, 3) := by decide +kernel
theorem dX3_dueBy_46 : decode cX3_dueBy 46 = .ok (.iload_n 1, 1) := by decide +kernel
theorem dX3_dueBy_47 : decode cX3_dueBy 47 = .ok (.iaload, 1) := by decide +kernel
theorem dX3_dueBy_48 : decode cX3_dueBy 48 = .ok (.invokestatic 44, 3) := by decide +kernel
theorem dX3_dueBy_51 : decode cX3_dueBy 51 = .ok (.imul, 1) := by decide +kernel
theorem dX3_dueBy_52 : decode cX3_dueBy 52 = .ok (.ireturn, 1) := by decide +kernel
theorem dX4_init_0 : decode cX4_init 0 = .ok (.aload_n 0, 1) := by decide +kernel
theorem dX4_init_1 : decode cX4_init 1 = .ok (.invokespecial 3, 3) := by decide +kernel
theorem dX4_init_4 : decode cX4_init 4 = .ok (.aload_n 0, 1) := by decide +kernel
theorem dX4_init_5 : decode cX4_init 5 = .ok (.bipush 10, 2) := by decide +kernel
theorem dX4_init_7 : decode cX4_init 7 = .ok (.newarray .int, 2) := by decide +kernel
theorem dX4_init_9 : decode cX4_init 9 = .ok (.putfield 9, 3) := by decide +kernel
theorem dX4_init_12 : decode cX4_init 12 = .ok (.aload_n 0, 1) := by decide +kernel
theorem dX4_init_13 : decode cX4_init 13 = .ok (.bipush 10, 2) := by decide +kernel
theorem dX4_init_15 : decode cX4_init 15 = .ok (.newarray .int, 2) := by decide +kernel
theorem dX4_init_17 : decode cX4_init 17 = .ok (.putfield 15, 3) := by decide +kernel
theorem dX4_init_20 : decode cX4_init 20 = .ok (.return_, 1) := by decide +kernel
theorem dX4_has_0 : decode cX4_has 0 = .ok (.iload_n 1, 1) := by decide +kernel
theorem dX4_has_1 : decode cX4_has 1 = .ok (.ifCond .lt 21, 3) := by decide +kernel
theorem dX4_has_4 : decode cX4_has 4 = .ok (.iload_n 1, 1) := by decide +kernel
theorem dX4_has_5 : decode cX4_has 5 = .ok (.aload_n 0, 1) := by decide +kernel
theorem dX4_has_6 : decode cX4_has 6 = .ok (.getfield 18, 3) := by decide +kernel
theorem dX4_has_9 : decode cX4_has 9 = .ok (.if_icmp .ge 13, 3) := by decide +kernel
theorem dX4_has_12 : decode cX4_has 12 = .ok (.iload_n 1, 1) := by decide +kernel
theorem dX4_has_13 : decode cX4_has 13 = .ok (.bipush 10, 2) := by decide +kernel
theorem dX4_has_15 : decode cX4_has 15 = .ok (.if_icmp .ge 7, 3) := by decide +kernel
theorem dX4_has_18 : decode cX4_has 18 = .ok (.iconst 1, 1) := by decide +kernel
theorem dX4_has_19 : decode cX4_has 19 = .ok (.goto 4, 3) := by decide +kernel
theorem dX4_has_22 : decode cX4_has 22 = .ok (.iconst 0, 1) := by decide +kernel
theorem dX4_has_23 : decode cX4_has 23 = .ok (.ireturn, 1) := by decide +kernel
theorem dX4_add_0 : decode cX4_add 0 = .ok (.aload_n 0, 1) := by decide +kernel
theorem dX4_add_1 : decode cX4_add 1 = .ok (.getfield 18, 3) := by decide +kernel
theorem dX4_add_4 : decode cX4_add 4 = .ok (.bipush 10, 2) := by decide +kernel
theorem dX4_add_6 : decode cX4_add 6 = .ok (.if_icmp .lt 4, 3) := by decide +kernel
theorem dX4_add_9 : decode cX4_add 9 = .ok (.return_, 1) := by decide +kernel
theorem dX4_add_10 : decode cX4_add 10 = .ok (.aload_n 0, 1) := by decide +kernel
theorem dX4_add_11 : decode cX4_add 11 = .ok (.getfield 9, 3) := by decide +kernel
theorem dX4_add_14 : decode cX4_add 14 = .ok (.aload_n 0, 1) := by decide +kernel
theorem dX4_add_15 : decode cX4_add 15 = .ok (.getfield 18, 3) := by decide +kernel
theorem dX4_add_18 : decode cX4_add 18 = .ok (.iload_n 1, 1) := by decide +kernel
theorem dX4_add_19 : decode cX4_add 19 = .ok (.iastore, 1) := by decide +kernel
theorem dX4_add_20 : decode cX4_add 20 = .ok (.aload_n 0, 1) := by decide +kernel
theorem dX4_add_21 : decode cX4_add 21 = .ok (.getfield 15, 3) := by decide +kernel
theorem dX4_add_24 : decode cX4_add 24 = .ok (.aload_n 0, 1) := by decide +kernel
theorem dX4_add_25 : decode cX4_add 25 = .ok (.getfield 18, 3) := by decide +kernel
theorem dX4_add_28 : decode cX4_add 28 = .ok (.bipush (-6), 2) := by decide +kernel
theorem dX4_add_30 : decode cX4_add 30 = .ok (.iastore, 1) := by decide +kernel
theorem dX4_add_31 : decode cX4_add 31 = .ok (.aload_n 0, 1) := by decide +kernel
theorem dX4_add_32 : decode cX4_add 32 = .ok (.dup, 1) := by decide +kernel
theorem dX4_add_33 : decode cX4_add 33 = .ok (.getfield 18, 3) := by decide +kernel
theorem dX4_add_36 : decode cX4_add 36 = .ok (.iconst 1, 1) := by decide +kernel
theorem dX4_add_37 : decode cX4_add 37 = .ok (.iadd, 1) := by decide +kernel
theorem dX4_add_38 : decode cX4_add 38 = .ok (.putfield 18, 3) := by decide +kernel
theorem dX4_add_41 : decode cX4_add 41 = .ok (.return_, 1) := by decide +kernel
theorem dX4_limitOf_0 : decode cX4_limitOf 0 = .ok (.aload_n 0, 1) := by decide +kernel
theorem dX4_limitOf_1 : decode cX4_limitOf 1 = .ok (.iload_n 1, 1) := by decide +kernel
theorem dX4_limitOf_2 : decode cX4_limitOf 2 = .ok (.invokevirtual 22, 3) := by decide +kernel
theorem dX4_limitOf_5 : decode cX4_limitOf 5 = .ok (.ifCond .eq 12, 3) := by decide +kernel
theorem dX4_limitOf_8 : decode cX4_limitOf 8 = .ok (.aload_n 0, 1) := by decide +kernel
theorem dX4_limitOf_9 : decode cX4_limitOf 9 = .ok (.getfield 9, 3) := by decide +kernel
theorem dX4_limitOf_12 : decode cX4_limitOf 12 = .ok (.iload_n 1, 1) := by decide +kernel
theorem dX4_limitOf_13 : decode cX4_limitOf 13 = .ok (.iaload, 1) := by decide +kernel
theorem dX4_limitOf_14 : decode cX4_limitOf 14 = .ok (.goto 4, 3) := by decide +kernel
theorem dX4_limitOf_17 : decode cX4_limitOf 17 = .ok (.iconst 0, 1) := by decide +kernel
theorem dX4_limitOf_18 : decode cX4_limitOf 18 = .ok (.ireturn, 1) := by decide +kernel
theorem dX4_useOf_0 : decode cX4_useOf 0 = .ok (.aload_n 0, 1) := by decide +kernel
theorem dX4_useOf_1 : decode cX4_useOf 1 = .ok (.iload_n 1, 1) := by decide +kernel
theorem dX4_useOf_2 : decode cX4_useOf 2 = .ok (.invokevirtual 22, 3) := by decide +kernel
theorem dX4_useOf_5 : decode cX4_useOf 5 = .ok (.ifCond .eq 12, 3) := by decide +kernel
theorem dX4_useOf_8 : decode cX4_useOf 8 = .ok (.aload_n 0, 1) := by decide +kernel
theorem dX4_useOf_9 : decode cX4_useOf 9 = .ok (.getfield 15, 3) := by decide +kernel
theorem dX4_useOf_12 : decode cX4_useOf 12 = .ok (.iload_n 1, 1) := by decide +kernel
theorem dX4_useOf_13 : decode cX4_useOf 13 = .ok (.iaload, 1) := by decide +kernel
theorem dX4_useOf_14 : decode cX4_useOf 14 = .ok (.goto 5, 3) := by decide +kernel
theorem dX4_useOf_17 : decode cX4_useOf 17 = .ok (.bipush (-6), 2) := by decide +kernel
theorem dX4_useOf_19 : decode cX4_useOf 19 = .ok (.ireturn, 1) := by decide +kernel
theorem dX4_wasUsed_0 : decode cX4_wasUsed 0 = .ok (.aload_n 0, 1) := by decide +kernel
theorem dX4_wasUsed_1 : decode cX4_wasUsed 1 = .ok (.iload_n 1, 1) := by decide +kernel
theorem dX4_wasUsed_2 : decode cX4_wasUsed 2 = .ok (.invokevirtual 26, 3) := by decide +kernel
theorem dX4_wasUsed_5 : decode cX4_wasUsed 5 = .ok (.bipush (-6), 2) := by decide +kernel
theorem dX4_wasUsed_7 : decode cX4_wasUsed 7 = .ok (.if_icmp .eq 7, 3) := by decide +kernel
theorem dX4_wasUsed_10 : decode cX4_wasUsed 10 = .ok (.iconst 1, 1) := by decide +kernel
theorem dX4_wasUsed_11 : decode cX4_wasUsed 11 = .ok (.goto 4, 3) := by decide +kernel
theorem dX4_wasUsed_14 : decode cX4_wasUsed 14 = .ok (.iconst 0, 1) := by decide +kernel
theorem dX4_wasUsed_15 : decode cX4_wasUsed 15 = .ok (.ireturn, 1) := by decide +kernel
theorem dX4_use_0 : decode cX4_use 0 = .ok (.aload_n 0, 1) := by decide +kernel
theorem dX4_use_1 : decode cX4_use 1 = .ok (.iload_n 1, 1) := by decide +kernel
theorem dX4_use_2 : decode cX4_use 2 = .ok (.invokevirtual 22, 3) := by decide +kernel
theorem dX4_use_5 : decode cX4_use 5 = .ok (.ifCond .eq 10, 3) := by decide +kernel
theorem dX4_use_8 : decode cX4_use 8 = .ok (.aload_n 0, 1) := by decide +kernel
theorem dX4_use_9 : decode cX4_use 9 = .ok (.getfield 15, 3) := by decide +kernel
theorem dX4_use_12 : decode cX4_use 12 = .ok (.iload_n 1, 1) := by decide +kernel
theorem dX4_use_13 : decode cX4_use 13 = .ok (.iload_n 2, 1) := by decide +kernel
theorem dX4_use_14 : decode cX4_use 14 = .ok (.iastore, 1) := by decide +kernel
theorem dX4_use_15 : decode cX4_use 15 = .ok (.return_, 1) := by decide +kernel
theorem dX4_barsOn_0 : decode cX4_barsOn 0 = .ok (.iload_n 1, 1) := by decide +kernel
theorem dX4_barsOn_1 : decode cX4_barsOn 1 = .ok (.iconst (-1), 1) := by decide +kernel
theorem dX4_barsOn_2 : decode cX4_barsOn 2 = .ok (.if_icmp .ne 14, 3) := by decide +kernel
theorem dX4_barsOn_5 : decode cX4_barsOn 5 = .ok (.iload_n 2, 1) := by decide +kernel
theorem dX4_barsOn_6 : decode cX4_barsOn 6 = .ok (.iload_n 3, 1) := by decide +kernel
theorem dX4_barsOn_7 : decode cX4_barsOn 7 = .ok (.if_icmp .le 7, 3) := by decide +kernel
theorem dX4_barsOn_10 : decode cX4_barsOn 10 = .ok (.iconst 1, 1) := by decide +kernel
theorem dX4_barsOn_11 : decode cX4_barsOn 11 = .ok (.goto 4, 3) := by decide +kernel
theorem dX4_barsOn_14 : decode cX4_barsOn 14 = .ok (.iconst 0, 1) := by decide +kernel
theorem dX4_barsOn_15 : decode cX4_barsOn 15 = .ok (.ireturn, 1) := by decide +kernel
theorem dX4_barsOn_16 : decode cX4_barsOn 16 = .ok (.iload_n 2, 1) := by decide +kernel
theorem dX4_barsOn_17 : decode cX4_barsOn 17 = .ok (.aload_n 0, 1) := by decide +kernel
theorem dX4_barsOn_18 : decode cX4_barsOn 18 = .ok (.iload_n 1, 1) := by decide +kernel
theorem dX4_barsOn_19 : decode cX4_barsOn 19 = .ok (.invokevirtual 30, 3) := by decide +kernel
theorem dX4_barsOn_22 : decode cX4_barsOn 22 = .ok (.if_icmp .le 7, 3) := by decide +kernel
theorem dX4_barsOn_25 : decode cX4_barsOn 25 = .ok (.iconst 4, 1) := by decide +kernel
theorem dX4_barsOn_26 : decode cX4_barsOn 26 = .ok (.goto 4, 3) := by decide +kernel
theorem dX4_barsOn_29 : decode cX4_barsOn 29 = .ok (.iconst 0, 1) := by decide +kernel
theorem dX4_barsOn_30 : decode cX4_barsOn 30 = .ok (.ireturn, 1) := by decide +kernel
theorem dX5_init_0 : decode cX5_init 0 = .ok (.aload_n 0, 1) := by decide +kernel
theorem dX5_init_1 : decode cX5_init 1 = .ok (.invokespecial 3, 3) := by decide +kernel
theorem dX5_init_4 : decode cX5_init 4 = .ok (.aload_n 0, 1) := by decide +kernel
theorem dX5_init_5 : decode cX5_init 5 = .ok (.bipush 6, 2) := by decide +kernel
theorem dX5_init_7 : decode cX5_init 7 = .ok (.newarray .int, 2) := by decide +kernel
theorem dX5_init_9 : decode cX5_init 9 = .ok (.putfield 9, 3) := by decide +kernel
theorem dX5_init_12 : decode cX5_init 12 = .ok (.aload_n 0, 1) := by decide +kernel
theorem dX5_init_13 : decode cX5_init 13 = .ok (.bipush 6, 2) := by decide +kernel
theorem dX5_init_15 : decode cX5_init 15 = .ok (.newarray .int, 2) := by decide +kernel
theorem dX5_init_17 : decode cX5_init 17 = .ok (.putfield 15, 3) := by decide +kernel
theorem dX5_init_20 : decode cX5_init 20 = .ok (.aload_n 0, 1) := by decide +kernel
theorem dX5_init_21 : decode cX5_init 21 = .ok (.bipush 6, 2) := by decide +kernel
theorem dX5_init_23 : decode cX5_init 23 = .ok (.newarray .int, 2) := by decide +kernel
theorem dX5_init_25 : decode cX5_init 25 = .ok (.putfield 18, 3) := by decide +kernel
theorem dX5_init_28 : decode cX5_init 28 = .ok (.aload_n 0, 1) := by decide +kernel
theorem dX5_init_29 : decode cX5_init 29 = .ok (.bipush 6, 2) := by decide +kernel
theorem dX5_init_31 : decode cX5_init 31 = .ok (.newarray .int, 2) := by decide +kernel
theorem dX5_init_33 : decode cX5_init 33 = .ok (.putfield 21, 3) := by decide +kernel
theorem dX5_init_36 : decode cX5_init 36 = .ok (.aload_n 0, 1) := by decide +kernel
theorem dX5_init_37 : decode cX5_init 37 = .ok (.bipush 6, 2) := by decide +kernel
theorem dX5_init_39 : decode cX5_init 39 = .ok (.newarray .int, 2) := by decide +kernel
theorem dX5_init_41 : decode cX5_init 41 = .ok (.putfield 24, 3) := by decide +kernel
theorem dX5_init_44 : decode cX5_init 44 = .ok (.return_, 1) := by decide +kernel
theorem dX5_has_0 : decode cX5_has 0 = .ok (.iload_n 1, 1) := by decide +kernel
theorem dX5_has_1 : decode cX5_has 1 = .ok (.ifCond .lt 21, 3) := by decide +kernel
theorem dX5_has_4 : decode cX5_has 4 = .ok (.iload_n 1, 1) := by decide +kernel
theorem dX5_has_5 : decode cX5_has 5 = .ok (.aload_n 0, 1) := by decide +kernel
theorem dX5_has_6 : decode cX5_has 6 = .ok (.getfield 27, 3) := by decide +kernel
theorem dX5_has_9 : decode cX5_has 9 = .ok (.if_icmp .ge 13, 3) := by decide +kernel
theorem dX5_has_12 : decode cX5_has 12 = .ok (.iload_n 1, 1) := by decide +kernel
theorem dX5_has_13 : decode cX5_has 13 = .ok (.bipush 6, 2) := by decide +kernel
theorem dX5_has_15 : decode cX5_has 15 = .ok (.if_icmp .ge 7, 3) := by decide +kernel
theorem dX5_has_18 : decode cX5_has 18 = .ok (.iconst 1, 1) := by decide +kernel
theorem dX5_has_19 : decode cX5_has 19 = .ok (.goto 4, 3) := by decide +kernel
theorem dX5_has_22 : decode cX5_has 22 = .ok (.iconst 0, 1) := by decide +kernel
theorem dX5_has_23 : decode cX5_has 23 = .ok (.ireturn, 1) := by decide +kernel
theorem dX5_add_0 : decode cX5_add 0 = .ok (.aload_n 0, 1) := by decide +kernel
theorem dX5_add_1 : decode cX5_add 1 = .ok (.getfield 27, 3) := by decide +kernel
theorem dX5_add_4 : decode cX5_add 4 = .ok (.bipush 6, 2) := by decide +kernel
theorem dX5_add_6 : decode cX5_add 6 = .ok (.if_icmp .lt 4, 3) := by decide +kernel
theorem dX5_add_9 : decode cX5_add 9 = .ok (.return_, 1) := by decide +kernel
theorem dX5_add_10 : decode cX5_add 10 = .ok (.aload_n 0, 1) := by decide +kernel
theorem dX5_add_11 : decode cX5_add 11 = .ok (.getfield 9, 3) := by decide +kernel
theorem dX5_add_14 : decode cX5_add 14 = .ok (.aload_n 0, 1) := by decide +kernel
theorem dX5_add_15 : decode cX5_add 15 = .ok (.getfield 27, 3) := by decide +kernel
theorem dX5_add_18 : decode cX5_add 18 = .ok (.iload_n 1, 1) := by decide +kernel
theorem dX5_add_19 : decode cX5_add 19 = .ok (.iastore, 1) := by decide +kernel
theorem dX5_add_20 : decode cX5_add 20 = .ok (.aload_n 0, 1) := by decide +kernel
theorem dX5_add_21 : decode cX5_add 21 = .ok (.getfield 15, 3) := by decide +kernel
theorem dX5_add_24 : decode cX5_add 24 = .ok (.aload_n 0, 1) := by decide +kernel
theorem dX5_add_25 : decode cX5_add 25 = .ok (.getfield 27, 3) := by decide +kernel
theorem dX5_add_28 : decode cX5_add 28 = .ok (.bipush (-6), 2) := by decide +kernel
theorem dX5_add_30 : decode cX5_add 30 = .ok (.iastore, 1) := by decide +kernel
theorem dX5_add_31 : decode cX5_add 31 = .ok (.aload_n 0, 1) := by decide +kernel
theorem dX5_add_32 : decode cX5_add 32 = .ok (.getfield 18, 3) := by decide +kernel
theorem dX5_add_35 : decode cX5_add 35 = .ok (.aload_n 0, 1) := by decide +kernel
theorem dX5_add_36 : decode cX5_add 36 = .ok (.getfield 27, 3) := by decide +kernel
theorem dX5_add_39 : decode cX5_add 39 = .ok (.bipush (-6), 2) := by decide +kernel
theorem dX5_add_41 : decode cX5_add 41 = .ok (.iastore, 1) := by decide +kernel
theorem dX5_add_42 : decode cX5_add 42 = .ok (.aload_n 0, 1) := by decide +kernel
theorem dX5_add_43 : decode cX5_add 43 = .ok (.getfield 21, 3) := by decide +kernel
theorem dX5_add_46 : decode cX5_add 46 = .ok (.aload_n 0, 1) := by decide +kernel
theorem dX5_add_47 : decode cX5_add 47 = .ok (.getfield 27, 3) := by decide +kernel
theorem dX5_add_50 : decode cX5_add 50 = .ok (.bipush (-6), 2) := by decide +kernel
theorem dX5_add_52 : decode cX5_add 52 = .ok (.iastore, 1) := by decide +kernel
theorem dX5_add_53 : decode cX5_add 53 = .ok (.aload_n 0, 1) := by decide +kernel
theorem dX5_add_54 : decode cX5_add 54 = .ok (.dup, 1) := by decide +kernel
theorem dX5_add_55 : decode cX5_add 55 = .ok (.getfield 27, 3) := by decide +kernel
theorem dX5_add_58 : decode cX5_add 58 = .ok (.iconst 1, 1) := by decide +kernel
theorem dX5_add_59 : decode cX5_add 59 = .ok (.iadd, 1) := by decide +kernel
theorem dX5_add_60 : decode cX5_add 60 = .ok (.putfield 27, 3) := by decide +kernel
theorem dX5_add_63 : decode cX5_add 63 = .ok (.return_, 1) := by decide +kernel
theorem dX5_birthOf_0 : decode cX5_birthOf 0 = .ok (.aload_n 0, 1) := by decide +kernel
theorem dX5_birthOf_1 : decode cX5_birthOf 1 = .ok (.iload_n 1, 1) := by decide +kernel
theorem dX5_birthOf_2 : decode cX5_birthOf 2 = .ok (.invokevirtual 31, 3) := by decide +kernel
theorem dX5_birthOf_5 : decode cX5_birthOf 5 = .ok (.ifCond .eq 12, 3) := by decide +kernel
theorem dX5_birthOf_8 : decode cX5_birthOf 8 = .ok (.aload_n 0, 1) := by decide +kernel
theorem dX5_birthOf_9 : decode cX5_birthOf 9 = .ok (.getfield 9, 3) := by decide +kernel
theorem dX5_birthOf_12 : decode cX5_birthOf 12 = .ok (.iload_n 1, 1) := by decide +kernel
theorem dX5_birthOf_13 : decode cX5_birthOf 13 = .ok (.iaload, 1) := by decide +kernel
theorem dX5_birthOf_14 : decode cX5_birthOf 14 = .ok (.goto 5, 3) := by decide +kernel
theorem dX5_birthOf_17 : decode cX5_birthOf 17 = .ok (.bipush (-6), 2) := by decide +kernel
theorem dX5_birthOf_19 : decode cX5_birthOf 19 = .ok (.ireturn, 1) := by decide +kernel
theorem dX5_deathOf_0 : decode cX5_deathOf 0 = .ok (.aload_n 0, 1) := by decide +kernel
theorem dX5_deathOf_1 : decode cX5_deathOf 1 = .ok (.iload_n 1, 1) := by decide +kernel
theorem dX5_deathOf_2 : decode cX5_deathOf 2 = .ok (.invokevirtual 31, 3) := by decide +kernel
theorem dX5_deathOf_5 : decode cX5_deathOf 5 = .ok (.ifCond .eq 12, 3) := by decide +kernel
theorem dX5_deathOf_8 : decode cX5_deathOf 8 = .ok (.aload_n 0, 1) := by decide +kernel
theorem dX5_deathOf_9 : decode cX5_deathOf 9 = .ok (.getfield 15, 3) := by decide +kernel
theorem dX5_deathOf_12 : decode cX5_deathOf 12 = .ok (.iload_n 1, 1) := by decide +kernel
theorem dX5_deathOf_13 : decode cX5_deathOf 13 = .ok (.iaload, 1) := by decide +kernel
theorem dX5_deathOf_14 : decode cX5_deathOf 14 = .ok (.goto 5, 3) := by decide +kernel
theorem dX5_deathOf_17 : decode cX5_deathOf 17 = .ok (.bipush (-6), 2) := by decide +kernel
theorem dX5_deathOf_19 : decode cX5_deathOf 19 = .ok (.ireturn, 1) := by decide +kernel
theorem dX5_setDeath_0 : decode cX5_setDeath 0 = .ok (.aload_n 0, 1) := by decide +kernel
theorem dX5_setDeath_1 : decode cX5_setDeath 1 = .ok (.iload_n 1, 1) := by decide +kernel
theorem dX5_setDeath_2 : decode cX5_setDeath 2 = .ok (.invokevirtual 31, 3) := by decide +kernel
theorem dX5_setDeath_5 : decode cX5_setDeath 5 = .ok (.ifCond .eq 10, 3) := by decide +kernel
theorem dX5_setDeath_8 : decode cX5_setDeath 8 = .ok (.aload_n 0, 1) := by decide +kernel
theorem dX5_setDeath_9 : decode cX5_setDeath 9 = .ok (.getfield 15, 3) := by decide +kernel
theorem dX5_setDeath_12 : decode cX5_setDeath 12 = .ok (.iload_n 1, 1) := by decide +kernel
theorem dX5_setDeath_13 : decode cX5_setDeath 13 = .ok (.iload_n 2, 1) := by decide +kernel
theorem dX5_setDeath_14 : decode cX5_setDeath 14 = .ok (.iastore, 1) := by decide +kernel
theorem dX5_setDeath_15 : decode cX5_setDeath 15 = .ok (.return_, 1) := by decide +kernel
theorem dX5_fullAgeOf_0 : decode cX5_fullAgeOf 0 = .ok (.aload_n 0, 1) := by decide +kernel
theorem dX5_fullAgeOf_1 : decode cX5_fullAgeOf 1 = .ok (.iload_n 1, 1) := by decide +kernel
theorem dX5_fullAgeOf_2 : decode cX5_fullAgeOf 2 = .ok (.invokevirtual 31, 3) := by decide +kernel
theorem dX5_fullAgeOf_5 : decode cX5_fullAgeOf 5 = .ok (.ifCond .eq 12, 3) := by decide +kernel
theorem dX5_fullAgeOf_8 : decode cX5_fullAgeOf 8 = .ok (.aload_n 0, 1) := by decide +kernel
theorem dX5_fullAgeOf_9 : decode cX5_fullAgeOf 9 = .ok (.getfield 18, 3) := by decide +kernel
theorem dX5_fullAgeOf_12 : decode cX5_fullAgeOf 12 = .ok (.iload_n 1, 1) := by decide +kernel
theorem dX5_fullAgeOf_13 : decode cX5_fullAgeOf 13 = .ok (.iaload, 1) := by decide +kernel
theorem dX5_fullAgeOf_14 : decode cX5_fullAgeOf 14 = .ok (.goto 5, 3) := by decide +kernel
theorem dX5_fullAgeOf_17 : decode cX5_fullAgeOf 17 = .ok (.bipush (-6), 2) := by decide +kernel
theorem dX5_fullAgeOf_19 : decode cX5_fullAgeOf 19 = .ok (.ireturn, 1) := by decide +kernel
theorem dX5_givenOverOf_0 : decode cX5_givenOverOf 0 = .ok (.aload_n 0, 1) := by decide +kernel
theorem dX5_givenOverOf_1 : decode cX5_givenOverOf 1 = .ok (.iload_n 1, 1) := by decide +kernel
theorem dX5_givenOverOf_2 : decode cX5_givenOverOf 2 = .ok (.invokevirtual 31, 3) := by decide +kernel
theorem dX5_givenOverOf_5 : decode cX5_givenOverOf 5 = .ok (.ifCond .eq 12, 3) := by decide +kernel
theorem dX5_givenOverOf_8 : decode cX5_givenOverOf 8 = .ok (.aload_n 0, 1) := by decide +kernel
theorem dX5_givenOverOf_9 : decode cX5_givenOverOf 9 = .ok (.getfield 21, 3) := by decide +kernel
theorem dX5_givenOverOf_12 : decode cX5_givenOverOf 12 = .ok (.iload_n 1, 1) := by decide +kernel
theorem dX5_givenOverOf_13 : decode cX5_givenOverOf 13 = .ok (.iaload, 1) := by decide +kernel
theorem dX5_givenOverOf_14 : decode cX5_givenOverOf 14 = .ok (.goto 5, 3) := by decide +kernel
theorem dX5_givenOverOf_17 : decode cX5_givenOverOf 17 = .ok (.bipush (-6), 2) := by decide +kernel
theorem dX5_givenOverOf_19 : decode cX5_givenOverOf 19 = .ok (.ireturn, 1) := by decide +kernel
theorem dX5_shareOf_0 : decode cX5_shareOf 0 = .ok (.aload_n 0, 1) := by decide +kernel
theorem dX5_shareOf_1 : decode cX5_shareOf 1 = .ok (.iload_n 1, 1) := by decide +kernel
theorem dX5_shareOf_2 : decode cX5_shareOf 2 = .ok (.invokevirtual 31, 3) := by decide +kernel
theorem dX5_shareOf_5 : decode cX5_shareOf 5 = .ok (.ifCond .eq 12, 3) := by decide +kernel
theorem dX5_shareOf_8 : decode cX5_shareOf 8 = .ok (.aload_n 0, 1) := by decide +kernel
theorem dX5_shareOf_9 : decode cX5_shareOf 9 = .ok (.getfield 24, 3) := by decide +kernel
theorem dX5_shareOf_12 : decode cX5_shareOf 12 = .ok (.iload_n 1, 1) := by decide +kernel
theorem dX5_shareOf_13 : decode cX5_shareOf 13 = .ok (.iaload, 1) := by decide +kernel
theorem dX5_shareOf_14 : decode cX5_shareOf 14 = .ok (.goto 4, 3) := by decide +kernel
theorem dX5_shareOf_17 : decode cX5_shareOf 17 = .ok (.iconst 0, 1) := by decide +kernel
theorem dX5_shareOf_18 : decode cX5_shareOf 18 = .ok (.ireturn, 1) := by decide +kernel
theorem dX5_settleDays_0 : decode cX5_settleDays 0 = .ok (.iconst 0, 1) := by decide +kernel
theorem dX5_settleDays_1 : decode cX5_settleDays 1 = .ok (.istore_n 2, 1) := by decide +kernel
theorem dX5_settleDays_2 : decode cX5_settleDays 2 = .ok (.iload_n 2, 1) := by decide +kernel
theorem dX5_settleDays_3 : decode cX5_settleDays 3 = .ok (.aload_n 0, 1) := by decide +kernel
theorem dX5_settleDays_4 : decode cX5_settleDays 4 = .ok (.getfield 27, 3) := by decide +kernel
theorem dX5_settleDays_7 : decode cX5_settleDays 7 = .ok (.if_icmp .ge 67, 3) := by decide +kernel
theorem dX5_settleDays_10 : decode cX5_settleDays 10 = .ok (.iload_n 2, 1) := by decide +kernel
theorem dX5_settleDays_11 : decode cX5_settleDays 11 = .ok (.bipush 6, 2) := by decide +kernel
theorem dX5_settleDays_13 : decode cX5_settleDays 13 = .ok (.if_icmp .ge 61, 3) := by decide +kernel
theorem dX5_settleDays_16 : decode cX5_settleDays 16 = .ok (.aload_n 1, 1) := by decide +kernel
theorem dX5_settleDays_17 : decode cX5_settleDays 17 = .ok (.aload_n 0, 1) := by decide +kernel
theorem dX5_settleDays_18 : decode cX5_settleDays 18 = .ok (.getfield 9, 3) := by decide +kernel
theorem dX5_settleDays_21 : decode cX5_settleDays 21 = .ok (.iload_n 2, 1) := by decide +kernel
theorem dX5_settleDays_22 : decode cX5_settleDays 22 = .ok (.iaload, 1) := by decide +kernel
theorem dX5_settleDays_23 : decode cX5_settleDays 23 = .ok (.invokevirtual 35, 3) := by decide +kernel
theorem dX5_settleDays_26 : decode cX5_settleDays 26 = .ok (.istore_n 3, 1) := by decide +kernel
theorem dX5_settleDays_27 : decode cX5_settleDays 27 = .ok (.aload_n 0, 1) := by decide +kernel
theorem dX5_settleDays_28 : decode cX5_settleDays 28 = .ok (.getfield 18, 3) := by decide +kernel
theorem dX5_settleDays_31 : decode cX5_settleDays 31 = .ok (.iload_n 2, 1) := by decide +kernel
theorem dX5_settleDays_32 : decode cX5_settleDays 32 = .ok (.iload_n 3, 1) := by decide +kernel
theorem dX5_settleDays_33 : decode cX5_settleDays 33 = .ok (.iastore, 1) := by decide +kernel
theorem dX5_settleDays_34 : decode cX5_settleDays 34 = .ok (.aload_n 0, 1) := by decide +kernel
theorem dX5_settleDays_35 : decode cX5_settleDays 35 = .ok (.getfield 21, 3) := by decide +kernel
theorem dX5_settleDays_38 : decode cX5_settleDays 38 = .ok (.iload_n 2, 1) := by decide +kernel
theorem dX5_settleDays_39 : decode cX5_settleDays 39 = .ok (.iload_n 3, 1) := by decide +kernel
theorem dX5_settleDays_40 : decode cX5_settleDays 40 = .ok (.bipush (-6), 2) := by decide +kernel
theorem dX5_settleDays_42 : decode cX5_settleDays 42 = .ok (.if_icmp .eq 16, 3) := by decide +kernel
theorem dX5_settleDays_45 : decode cX5_settleDays 45 = .ok (.aload_n 0, 1) := by decide +kernel
theorem dX5_settleDays_46 : decode cX5_settleDays 46 = .ok (.iload_n 2, 1) := by decide +kernel
theorem dX5_settleDays_47 : decode cX5_settleDays 47 = .ok (.iload_n 3, 1) := by decide +kernel
theorem dX5_settleDays_48 : decode cX5_settleDays 48 = .ok (.invokevirtual 41, 3) := by decide +kernel
theorem dX5_settleDays_51 : decode cX5_settleDays 51 = .ok (.ifCond .eq 7, 3) := by decide +kernel
theorem dX5_settleDays_54 : decode cX5_settleDays 54 = .ok (.iload_n 3, 1) := by decide +kernel
theorem dX5_settleDays_55 : decode cX5_settleDays 55 = .ok (.goto 5, 3) := by decide +kernel
theorem dX5_settleDays_58 : decode cX5_settleDays 58 = .ok (.bipush (-6), 2) := by decide +kernel
theorem dX5_settleDays_60 : decode cX5_settleDays 60 = .ok (.iastore, 1) := by decide +kernel
theorem dX5_settleDays_61 : decode cX5_settleDays 61 = .ok (.aload_n 0, 1) := by decide +kernel
theorem dX5_settleDays_62 : decode cX5_settleDays 62 = .ok (.getfield 24, 3) := by decide +kernel
theorem dX5_settleDays_65 : decode cX5_settleDays 65 = .ok (.iload_n 2, 1) := by decide +kernel
theorem dX5_settleDays_66 : decode cX5_settleDays 66 = .ok (.iconst 0, 1) := by decide +kernel
theorem dX5_settleDays_67 : decode cX5_settleDays 67 = .ok (.iastore, 1) := by decide +kernel
theorem dX5_settleDays_68 : decode cX5_settleDays 68 = .ok (.iinc 2 1, 3) := by decide +kernel
theorem dX5_settleDays_71 : decode cX5_settleDays 71 = .ok (.goto (-69), 3) := by decide +kernel
theorem dX5_settleDays_74 : decode cX5_settleDays 74 = .ok (.return_, 1) := by decide +kernel
theorem dX5_isAlive_0 : decode cX5_isAlive 0 = .ok (.aload_n 0, 1) := by decide +kernel
theorem dX5_isAlive_1 : decode cX5_isAlive 1 = .ok (.iload_n 1, 1) := by decide +kernel
theorem dX5_isAlive_2 : decode cX5_isAlive 2 = .ok (.invokevirtual 31, 3) := by decide +kernel
theorem dX5_isAlive_5 : decode cX5_isAlive 5 = .ok (.ifCond .eq 38, 3) := by decide +kernel
theorem dX5_isAlive_8 : decode cX5_isAlive 8 = .ok (.aload_n 0, 1) := by decide +kernel
theorem dX5_isAlive_9 : decode cX5_isAlive 9 = .ok (.getfield 9, 3) := by decide +kernel
theorem dX5_isAlive_12 : decode cX5_isAlive 12 = .ok (.iload_n 1, 1) := by decide +kernel
theorem dX5_isAlive_13 : decode cX5_isAlive 13 = .ok (.iaload, 1) := by decide +kernel
theorem dX5_isAlive_14 : decode cX5_isAlive 14 = .ok (.iload_n 2, 1) := by decide +kernel
theorem dX5_isAlive_15 : decode cX5_isAlive 15 = .ok (.if_icmp .gt 28, 3) := by decide +kernel
theorem dX5_isAlive_18 : decode cX5_isAlive 18 = .ok (.aload_n 0, 1) := by decide +kernel
theorem dX5_isAlive_19 : decode cX5_isAlive 19 = .ok (.getfield 15, 3) := by decide +kernel
theorem dX5_isAlive_22 : decode cX5_isAlive 22 = .ok (.iload_n 1, 1) := by decide +kernel
theorem dX5_isAlive_23 : decode cX5_isAlive 23 = .ok (.iaload, 1) := by decide +kernel
theorem dX5_isAlive_24 : decode cX5_isAlive 24 = .ok (.bipush (-6), 2) := by decide +kernel
theorem dX5_isAlive_26 : decode cX5_isAlive 26 = .ok (.if_icmp .eq 13, 3) := by decide +kernel
theorem dX5_isAlive_29 : decode cX5_isAlive 29 = .ok (.aload_n 0, 1) := by decide +kernel
theorem dX5_isAlive_30 : decode cX5_isAlive 30 = .ok (.getfield 15, 3) := by decide +kernel
theorem dX5_isAlive_33 : decode cX5_isAlive 33 = .ok (.iload_n 1, 1) := by decide +kernel
theorem dX5_isAlive_34 : decode cX5_isAlive 34 = .ok (.iaload, 1) := by decide +kernel
theorem dX5_isAlive_35 : decode cX5_isAlive 35 = .ok (.iload_n 2, 1) := by decide +kernel
theorem dX5_isAlive_36 : decode cX5_isAlive 36 = .ok (.if_icmp .le 7, 3) := by decide +kernel
theorem dX5_isAlive_39 : decode cX5_isAlive 39 = .ok (.iconst 1, 1) := by decide +kernel
theorem dX5_isAlive_40 : decode cX5_isAlive 40 = .ok (.goto 4, 3) := by decide +kernel
theorem dX5_isAlive_43 : decode cX5_isAlive 43 = .ok (.iconst 0, 1) := by decide +kernel
theorem dX5_isAlive_44 : decode cX5_isAlive 44 = .ok (.ireturn, 1) := by decide +kernel
theorem dX5_headsOn_0 : decode cX5_headsOn 0 = .ok (.iconst 0, 1) := by decide +kernel
theorem dX5_headsOn_1 : decode cX5_headsOn 1 = .ok (.istore_n 2, 1) := by decide +kernel
theorem dX5_headsOn_2 : decode cX5_headsOn 2 = .ok (.iconst 0, 1) := by decide +kernel
theorem dX5_headsOn_3 : decode cX5_headsOn 3 = .ok (.istore_n 3, 1) := by decide +kernel
theorem dX5_headsOn_4 : decode cX5_headsOn 4 = .ok (.iload_n 3, 1) := by decide +kernel
theorem dX5_headsOn_5 : decode cX5_headsOn 5 = .ok (.aload_n 0, 1) := by decide +kernel
theorem dX5_headsOn_6 : decode cX5_headsOn 6 = .ok (.getfield 27, 3) := by decide +kernel
theorem dX5_headsOn_9 : decode cX5_headsOn 9 = .ok (.if_icmp .ge 60, 3) := by decide +kernel
theorem dX5_headsOn_12 : decode cX5_headsOn 12 = .ok (.iload_n 3, 1) := by decide +kernel
theorem dX5_headsOn_13 : decode cX5_headsOn 13 = .ok (.bipush 6, 2) := by decide +kernel
theorem dX5_headsOn_15 : decode cX5_headsOn 15 = .ok (.if_icmp .ge 54, 3) := by decide +kernel
theorem dX5_headsOn_18 : decode cX5_headsOn 18 = .ok (.aload_n 0, 1) := by decide +kernel
theorem dX5_headsOn_19 : decode cX5_headsOn 19 = .ok (.getfield 21, 3) := by decide +kernel
theorem dX5_headsOn_22 : decode cX5_headsOn 22 = .ok (.iload_n 3, 1) := by decide +kernel
theorem dX5_headsOn_23 : decode cX5_headsOn 23 = .ok (.iaload, 1) := by decide +kernel
theorem dX5_headsOn_24 : decode cX5_headsOn 24 = .ok (.bipush (-6), 2) := by decide +kernel
theorem dX5_headsOn_26 : decode cX5_headsOn 26 = .ok (.if_icmp .eq 17, 3) := by decide +kernel
theorem dX5_headsOn_29 : decode cX5_headsOn 29 = .ok (.aload_n 0, 1) := by decide +kernel
theorem dX5_headsOn_30 : decode cX5_headsOn 30 = .ok (.getfield 21, 3) := by decide +kernel
theorem dX5_headsOn_33 : decode cX5_headsOn 33 = .ok (.iload_n 3, 1) := by decide +kernel
theorem dX5_headsOn_34 : decode cX5_headsOn 34 = .ok (.iaload, 1) := by decide +kernel
theorem dX5_headsOn_35 : decode cX5_headsOn 35 = .ok (.iload_n 1, 1) := by decide +kernel
theorem dX5_headsOn_36 : decode cX5_headsOn 36 = .ok (.if_icmp .ge 7, 3) := by decide +kernel
theorem dX5_headsOn_39 : decode cX5_headsOn 39 = .ok (.iconst 1, 1) := by decide +kernel
theorem dX5_headsOn_40 : decode cX5_headsOn 40 = .ok (.goto 4, 3) := by decide +kernel
theorem dX5_headsOn_43 : decode cX5_headsOn 43 = .ok (.iconst 0, 1) := by decide +kernel
theorem dX5_headsOn_44 : decode cX5_headsOn 44 = .ok (.istore 4, 2) := by decide +kernel
theorem dX5_headsOn_46 : decode cX5_headsOn 46 = .ok (.iload 4, 2) := by decide +kernel
theorem dX5_headsOn_48 : decode cX5_headsOn 48 = .ok (.ifCond .ne 15, 3) := by decide +kernel
theorem dX5_headsOn_51 : decode cX5_headsOn 51 = .ok (.aload_n 0, 1) := by decide +kernel
theorem dX5_headsOn_52 : decode cX5_headsOn 52 = .ok (.iload_n 3, 1) := by decide +kernel
theorem dX5_headsOn_53 : decode cX5_headsOn 53 = .ok (.iload_n 1, 1) := by decide +kernel
theorem dX5_headsOn_54 : decode cX5_headsOn 54 = .ok (.invokevirtual 41, 3) := by decide +kernel
theorem dX5_headsOn_57 : decode cX5_headsOn 57 = .ok (.ifCond .eq 6, 3) := by decide +kernel
theorem dX5_headsOn_60 : decode cX5_headsOn 60 = .ok (.iinc 2 1, 3) := by decide +kernel
theorem dX5_headsOn_63 : decode cX5_headsOn 63 = .ok (.iinc 3 1, 3) := by decide +kernel
theorem dX5_headsOn_66 : decode cX5_headsOn 66 = .ok (.goto (-62), 3) := by decide +kernel
theorem dX5_headsOn_69 : decode cX5_headsOn 69 = .ok (.iload_n 2, 1) := by decide +kernel
theorem dX5_headsOn_70 : decode cX5_headsOn 70 = .ok (.ireturn, 1) := by decide +kernel
theorem dX5_giveShares_0 : decode cX5_giveShares 0 = .ok (.aload_n 0, 1) := by decide +kernel
theorem dX5_giveShares_1 : decode cX5_giveShares 1 = .ok (.iload_n 1, 1) := by decide +kernel
theorem dX5_giveShares_2 : decode cX5_giveShares 2 = .ok (.invokevirtual 45, 3) := by decide +kernel
theorem dX5_giveShares_5 : decode cX5_giveShares 5 = .ok (.istore_n 3, 1) := by decide +kernel
theorem dX5_giveShares_6 : decode cX5_giveShares 6 = .ok (.iconst 0, 1) := by decide +kernel
theorem dX5_giveShares_7 : decode cX5_giveShares 7 = .ok (.istore 4, 2) := by decide +kernel
theorem dX5_giveShares_9 : decode cX5_giveShares 9 = .ok (.iconst 0, 1) := by decide +kernel
theorem dX5_giveShares_10 : decode cX5_giveShares 10 = .ok (.istore 5, 2) := by decide +kernel
theorem dX5_giveShares_12 : decode cX5_giveShares 12 = .ok (.iload 5, 2) := by decide +kernel
theorem dX5_giveShares_14 : decode cX5_giveShares 14 = .ok (.aload_n 0, 1) := by decide +kernel
theorem dX5_giveShares_15 : decode cX5_giveShares 15 = .ok (.getfield 27, 3) := by decide +kernel
theorem dX5_giveShares_18 : decode cX5_giveShares 18 = .ok (.if_icmp .ge 72, 3) := by decide +kernel
theorem dX5_giveShares_21 : decode cX5_giveShares 21 = .ok (.iload 5, 2) := by decide +kernel
theorem dX5_giveShares_23 : decode cX5_giveShares 23 = .ok (.bipush 6, 2) := by decide +kernel
theorem dX5_giveShares_25 : decode cX5_giveShares 25 = .ok (.if_icmp .ge 65, 3) := by decide +kernel
theorem dX5_giveShares_28 : decode cX5_giveShares 28 = .ok (.aload_n 0, 1) := by decide +kernel
theorem dX5_giveShares_29 : decode cX5_giveShares 29 = .ok (.getfield 21, 3) := by decide +kernel
theorem dX5_giveShares_32 : decode cX5_giveShares 32 = .ok (.iload 5, 2) := by decide +kernel
theorem dX5_giveShares_34 : decode cX5_giveShares 34 = .ok (.iaload, 1) := by decide +kernel
theorem dX5_giveShares_35 : decode cX5_giveShares 35 = .ok (.iload_n 1, 1) := by decide +kernel
theorem dX5_giveShares_36 : decode cX5_giveShares 36 = .ok (.if_icmp .ne 48, 3) := by decide +kernel
theorem dX5_giveShares_39 : decode cX5_giveShares 39 = .ok (.iload_n 2, 1) := by decide +kernel
theorem dX5_giveShares_40 : decode cX5_giveShares 40 = .ok (.iload 4, 2) := by decide +kernel
theorem dX5_giveShares_42 : decode cX5_giveShares 42 = .ok (.isub, 1) := by decide +kernel
theorem dX5_giveShares_43 : decode cX5_giveShares 43 = .ok (.istore 6, 2) := by decide +kernel
theorem dX5_giveShares_45 : decode cX5_giveShares 45 = .ok (.aload_n 0, 1) := by decide +kernel
theorem dX5_giveShares_46 : decode cX5_giveShares 46 = .ok (.getfield 24, 3) := by decide +kernel
theorem dX5_giveShares_49 : decode cX5_giveShares 49 = .ok (.iload 5, 2) := by decide +kernel
theorem dX5_giveShares_51 : decode cX5_giveShares 51 = .ok (.iload 6, 2) := by decide +kernel
theorem dX5_giveShares_53 : decode cX5_giveShares 53 = .ok (.ifCond .le 14, 3) := by decide +kernel
theorem dX5_giveShares_56 : decode cX5_giveShares 56 = .ok (.iload_n 3, 1) := by decide +kernel
theorem dX5_giveShares_57 : decode cX5_giveShares 57 = .ok (.ifCond .le 10, 3) := by decide +kernel
theorem dX5_giveShares_60 : decode cX5_giveShares 60 = .ok (.iload 6, 2) := by decide +kernel
theorem dX5_giveShares_62 : decode cX5_giveShares 62 = .ok (.iload_n 3, 1) := by decide +kernel
theorem dX5_giveShares_63 : decode cX5_giveShares 63 = .ok (.idiv, 1) := by decide +kernel
theorem dX5_giveShares_64 : decode cX5_giveShares 64 = .ok (.goto 4, 3) := by decide +kernel
theorem dX5_giveShares_67 : decode cX5_giveShares 67 = .ok (.iconst 0, 1) := by decide +kernel
theorem dX5_giveShares_68 : decode cX5_giveShares 68 = .ok (.iastore, 1) := by decide +kernel
theorem dX5_giveShares_69 : decode cX5_giveShares 69 = .ok (.iload 4, 2) := by decide +kernel
theorem dX5_giveShares_71 : decode cX5_giveShares 71 = .ok (.aload_n 0, 1) := by decide +kernel
theorem dX5_giveShares_72 : decode cX5_giveShares 72 = .ok (.getfield 24, 3) := by decide +kernel
theorem dX5_giveShares_75 : decode cX5_giveShares 75 = .ok (.iload 5, 2) := by decide +kernel
theorem dX5_giveShares_77 : decode cX5_giveShares 77 = .ok (.iaload, 1) := by decide +kernel
theorem dX5_giveShares_78 : decode cX5_giveShares 78 = .ok (.iadd, 1) := by decide +kernel
theorem dX5_giveShares_79 : decode cX5_giveShares 79 = .ok (.istore 4, 2) := by decide +kernel
theorem dX5_giveShares_81 : decode cX5_giveShares 81 = .ok (.iinc 3 (-1), 3) := by decide +kernel
theorem dX5_giveShares_84 : decode cX5_giveShares 84 = .ok (.iinc 5 1, 3) := by decide +kernel
theorem dX5_giveShares_87 : decode cX5_giveShares 87 = .ok (.goto (-75), 3) := by decide +kernel
theorem dX5_giveShares_90 : decode cX5_giveShares 90 = .ok (.iload 4, 2) := by decide +kernel
theorem dX5_giveShares_92 : decode cX5_giveShares 92 = .ok (.ireturn, 1) := by decide +kernel
theorem dX5_givenBetween_0 : decode cX5_givenBetween 0 = .ok (.iconst 0, 1) := by decide +kernel
theorem dX5_givenBetween_1 : decode cX5_givenBetween 1 = .ok (.istore_n 3, 1) := by decide +kernel
theorem dX5_givenBetween_2 : decode cX5_givenBetween 2 = .ok (.iconst 0, 1) := by decide +kernel
theorem dX5_givenBetween_3 : decode cX5_givenBetween 3 = .ok (.istore 4, 2) := by decide +kernel
theorem dX5_givenBetween_5 : decode cX5_givenBetween 5 = .ok (.iload 4, 2) := by decide +kernel
theorem dX5_givenBetween_7 : decode cX5_givenBetween 7 = .ok (.aload_n 0, 1) := by decide +kernel
theorem dX5_givenBetween_8 : decode cX5_givenBetween 8 = .ok (.getfield 27, 3) := by decide +kernel
theorem dX5_givenBetween_11 : decode cX5_givenBetween 11 = .ok (.if_icmp .ge 41, 3) := by decide +kernel
theorem dX5_givenBetween_14 : decode cX5_givenBetween 14 = .ok (.iload 4, 2) := by decide +kernel
theorem dX5_givenBetween_16 : decode cX5_givenBetween 16 = .ok (.bipush 6, 2) := by decide +kernel
theorem dX5_givenBetween_18 : decode cX5_givenBetween 18 = .ok (.if_icmp .ge 34, 3) := by decide +kernel
theorem dX5_givenBetween_21 : decode cX5_givenBetween 21 = .ok (.aload_n 0, 1) := by decide +kernel
theorem dX5_givenBetween_22 : decode cX5_givenBetween 22 = .ok (.getfield 21, 3) := by decide +kernel
theorem dX5_givenBetween_25 : decode cX5_givenBetween 25 = .ok (.iload 4, 2) := by decide +kernel
theorem dX5_givenBetween_27 : decode cX5_givenBetween 27 = .ok (.iaload, 1) := by decide +kernel
theorem dX5_givenBetween_28 : decode cX5_givenBetween 28 = .ok (.iload_n 1, 1) := by decide +kernel
theorem dX5_givenBetween_29 : decode cX5_givenBetween 29 = .ok (.iload_n 2, 1) := by decide +kernel
theorem dX5_givenBetween_30 : decode cX5_givenBetween 30 = .ok (.invokestatic 48, 3) := by decide +kernel
theorem dX5_givenBetween_33 : decode cX5_givenBetween 33 = .ok (.ifCond .eq 13, 3) := by decide +kernel
theorem dX5_givenBetween_36 : decode cX5_givenBetween 36 = .ok (.iload_n 3, 1) := by decide +kernel
theorem dX5_givenBetween_37 : decode cX5_givenBetween 37 = .ok (.aload_n 0, 1) := by decide +kernel
theorem dX5_givenBetween_38 : decode cX5_givenBetween 38 = .ok (.getfield 24, 3) := by decide +kernel
theorem dX5_givenBetween_41 : decode cX5_givenBetween 41 = .ok (.iload 4, 2) := by decide +kernel
theorem dX5_givenBetween_43 : decode cX5_givenBetween 43 = .ok (.iaload, 1) := by decide +kernel
theorem dX5_givenBetween_44 : decode cX5_givenBetween 44 = .ok (.iadd, 1) := by decide +kernel
theorem dX5_givenBetween_45 : decode cX5_givenBetween 45 = .ok (.istore_n 3, 1) := by decide +kernel
theorem dX5_givenBetween_46 : decode cX5_givenBetween 46 = .ok (.iinc 4 1, 3) := by decide +kernel
theorem dX5_givenBetween_49 : decode cX5_givenBetween 49 = .ok (.goto (-44), 3) := by decide +kernel
theorem dX5_givenBetween_52 : decode cX5_givenBetween 52 = .ok (.iload_n 3, 1) := by decide +kernel
theorem dX5_givenBetween_53 : decode cX5_givenBetween 53 = .ok (.ireturn, 1) := by decide +kernel
theorem dX5_turnAfter_0 : decode cX5_turnAfter 0 = .ok (.aload_n 0, 1) := by decide +kernel
theorem dX5_turnAfter_1 : decode cX5_turnAfter 1 = .ok (.getfield 21, 3) := by decide +kernel
theorem dX5_turnAfter_4 : decode cX5_turnAfter 4 = .ok (.aload_n 0, 1) := by decide +kernel
theorem dX5_turnAfter_5 : decode cX5_turnAfter 5 = .ok (.getfield 27, 3) := by decide +kernel
theorem dX5_turnAfter_8 : decode cX5_turnAfter 8 = .ok (.iload_n 1, 1) := by decide +kernel
theorem dX5_turnAfter_9 : decode cX5_turnAfter 9 = .ok (.iload_n 2, 1) := by decide +kernel
theorem dX5_turnAfter_10 : decode cX5_turnAfter 10 = .ok (.invokestatic 52, 3) := by decide +kernel
theorem dX5_turnAfter_13 : decode cX5_turnAfter 13 = .ok (.ireturn, 1) := by decide +kernel
theorem dX6_init_0 : decode cX6_init 0 = .ok (.aload_n 0, 1) := by decide +kernel
theorem dX6_init_1 : decode cX6_init 1 = .ok (.invokespecial 1, 3) := by decide +kernel
theorem dX6_init_4 : decode cX6_init 4 = .ok (.aload_n 0, 1) := by decide +kernel
theorem dX6_init_5 : decode cX6_init 5 = .ok (.new 7, 3) := by decide +kernel
theorem dX6_init_8 : decode cX6_init 8 = .ok (.dup, 1) := by decide +kernel
theorem dX6_init_9 : decode cX6_init 9 = .ok (.invokespecial 9, 3) := by decide +kernel
theorem dX6_init_12 : decode cX6_init 12 = .ok (.putfield 10, 3) := by decide +kernel
theorem dX6_init_15 : decode cX6_init 15 = .ok (.aload_n 0, 1) := by decide +kernel
theorem dX6_init_16 : decode cX6_init 16 = .ok (.new 16, 3) := by decide +kernel
theorem dX6_init_19 : decode cX6_init 19 = .ok (.dup, 1) := by decide +kernel
theorem dX6_init_20 : decode cX6_init 20 = .ok (.invokespecial 18, 3) := by decide +kernel
theorem dX6_init_23 : decode cX6_init 23 = .ok (.putfield 19, 3) := by decide +kernel
theorem dX6_init_26 : decode cX6_init 26 = .ok (.aload_n 0, 1) := by decide +kernel
theorem dX6_init_27 : decode cX6_init 27 = .ok (.new 23, 3) := by decide +kernel
theorem dX6_init_30 : decode cX6_init 30 = .ok (.dup, 1) := by decide +kernel
theorem dX6_init_31 : decode cX6_init 31 = .ok (.invokespecial 25, 3) := by decide +kernel
theorem dX6_init_34 : decode cX6_init 34 = .ok (.putfield 26, 3) := by decide +kernel
theorem dX6_init_37 : decode cX6_init 37 = .ok (.aload_n 0, 1) := by decide +kernel
theorem dX6_init_38 : decode cX6_init 38 = .ok (.new 30, 3) := by decide +kernel
theorem dX6_init_41 : decode cX6_init 41 = .ok (.dup, 1) := by decide +kernel
theorem dX6_init_42 : decode cX6_init 42 = .ok (.invokespecial 32, 3) := by decide +kernel
theorem dX6_init_45 : decode cX6_init 45 = .ok (.putfield 33, 3) := by decide +kernel
theorem dX6_init_48 : decode cX6_init 48 = .ok (.aload_n 0, 1) := by decide +kernel
theorem dX6_init_49 : decode cX6_init 49 = .ok (.new 37, 3) := by decide +kernel
theorem dX6_init_52 : decode cX6_init 52 = .ok (.dup, 1) := by decide +kernel
theorem dX6_init_53 : decode cX6_init 53 = .ok (.invokespecial 39, 3) := by decide +kernel
theorem dX6_init_56 : decode cX6_init 56 = .ok (.putfield 40, 3) := by decide +kernel
theorem dX6_init_59 : decode cX6_init 59 = .ok (.aload_n 0, 1) := by decide +kernel
theorem dX6_init_60 : decode cX6_init 60 = .ok (.new 44, 3) := by decide +kernel
theorem dX6_init_63 : decode cX6_init 63 = .ok (.dup, 1) := by decide +kernel
theorem dX6_init_64 : decode cX6_init 64 = .ok (.invokespecial 46, 3) := by decide +kernel
theorem dX6_init_67 : decode cX6_init 67 = .ok (.putfield 47, 3) := by decide +kernel
theorem dX6_init_70 : decode cX6_init 70 = .ok (.return_, 1) := by decide +kernel
theorem dX6_law_0 : decode cX6_law 0 = .ok (.iload_n 1, 1) := by decide +kernel
theorem dX6_law_1 : decode cX6_law 1 = .ok (.invokestatic 51, 3) := by decide +kernel
theorem dX6_law_4 : decode cX6_law 4 = .ok (.ifCond .eq 59, 3) := by decide +kernel
theorem dX6_law_7 : decode cX6_law 7 = .ok (.iload_n 2, 1) := by decide +kernel
theorem dX6_law_8 : decode cX6_law 8 = .ok (.bipush 10, 2) := by decide +kernel
theorem dX6_law_10 : decode cX6_law 10 = .ok (.bipush 30, 2) := by decide +kernel
theorem dX6_law_12 : decode cX6_law 12 = .ok (.invokestatic 55, 3) := by decide +kernel
theorem dX6_law_15 : decode cX6_law 15 = .ok (.ifCond .eq 48, 3) := by decide +kernel
theorem dX6_law_18 : decode cX6_law 18 = .ok (.iload_n 3, 1) := by decide +kernel
theorem dX6_law_19 : decode cX6_law 19 = .ok (.iconst 0, 1) := by decide +kernel
theorem dX6_law_20 : decode cX6_law 20 = .ok (.sipush 10000, 3) := by decide +kernel
theorem dX6_law_23 : decode cX6_law 23 = .ok (.invokestatic 55, 3) := by decide +kernel
theorem dX6_law_26 : decode cX6_law 26 = .ok (.ifCond .eq 37, 3) := by decide +kernel
theorem dX6_law_29 : decode cX6_law 29 = .ok (.iload 4, 2) := by decide +kernel
theorem dX6_law_31 : decode cX6_law 31 = .ok (.iconst 0, 1) := by decide +kernel
theorem dX6_law_32 : decode cX6_law 32 = .ok (.bipush 100, 2) := by decide +kernel
theorem dX6_law_34 : decode cX6_law 34 = .ok (.invokestatic 55, 3) := by decide +kernel
theorem dX6_law_37 : decode cX6_law 37 = .ok (.ifCond .eq 26, 3) := by decide +kernel
theorem dX6_law_40 : decode cX6_law 40 = .ok (.iload 5, 2) := by decide +kernel
theorem dX6_law_42 : decode cX6_law 42 = .ok (.iconst 0, 1) := by decide +kernel
theorem dX6_law_43 : decode cX6_law 43 = .ok (.sipush 10000, 3) := by decide +kernel
theorem dX6_law_46 : decode cX6_law 46 = .ok (.invokestatic 55, 3) := by decide +kernel
theorem dX6_law_49 : decode cX6_law 49 = .ok (.ifCond .eq 14, 3) := by decide +kernel
theorem dX6_law_52 : decode cX6_law 52 = .ok (.iload 6, 2) := by decide +kernel
theorem dX6_law_54 : decode cX6_law 54 = .ok (.iconst 0, 1) := by decide +kernel
theorem dX6_law_55 : decode cX6_law 55 = .ok (.bipush 10, 2) := by decide +kernel
theorem dX6_law_57 : decode cX6_law 57 = .ok (.invokestatic 55, 3) := by decide +kernel
theorem dX6_law_60 : decode cX6_law 60 = .ok (.ifCond .ne 6, 3) := by decide +kernel
theorem dX6_law_63 : decode cX6_law 63 = .ok (.bipush (-2), 2) := by decide +kernel
theorem dX6_law_65 : decode cX6_law 65 = .ok (.ireturn, 1) := by decide +kernel
theorem dX6_law_66 : decode cX6_law 66 = .ok (.aload_n 0, 1) := by decide +kernel
theorem dX6_law_67 : decode cX6_law 67 = .ok (.getfield 10, 3) := by decide +kernel
theorem dX6_law_70 : decode cX6_law 70 = .ok (.getfield 59, 3) := by decide +kernel
theorem dX6_law_73 : decode cX6_law 73 = .ok (.bipush 8, 2) := by decide +kernel
theorem dX6_law_75 : decode cX6_law 75 = .ok (.if_icmp .lt 6, 3) := by decide +kernel
theorem dX6_law_78 : decode cX6_law 78 = .ok (.bipush (-4), 2) := by decide +kernel
theorem dX6_law_80 : decode cX6_law 80 = .ok (.ireturn, 1) := by decide +kernel
theorem dX6_law_81 : decode cX6_law 81 = .ok (.aload_n 0, 1) := by decide +kernel
theorem dX6_law_82 : decode cX6_law 82 = .ok (.getfield 10, 3) := by decide +kernel
theorem dX6_law_85 : decode cX6_law 85 = .ok (.iload_n 1, 1) := by decide +kernel
theorem dX6_law_86 : decode cX6_law 86 = .ok (.iload_n 2, 1) := by decide +kernel
theorem dX6_law_87 : decode cX6_law 87 = .ok (.iload_n 3, 1) := by decide +kernel
theorem dX6_law_88 : decode cX6_law 88 = .ok (.iload 4, 2) := by decide +kernel
theorem dX6_law_90 : decode cX6_law 90 = .ok (.iload 5, 2) := by decide +kernel
theorem dX6_law_92 : decode cX6_law 92 = .ok (.iload 6, 2) := by decide +kernel
theorem dX6_law_94 : decode cX6_law 94 = .ok (.invokevirtual 63, 3) := by decide +kernel
theorem dX6_law_97 : decode cX6_law 97 = .ok (.aload_n 0, 1) := by decide +kernel
theorem dX6_law_98 : decode cX6_law 98 = .ok (.iconst 1, 1) := by decide +kernel
theorem dX6_law_99 : decode cX6_law 99 = .ok (.putfield 67, 3) := by decide +kernel
theorem dX6_law_102 : decode cX6_law 102 = .ok (.aload_n 0, 1) := by decide +kernel
theorem dX6_law_103 : decode cX6_law 103 = .ok (.getfield 10, 3) := by decide +kernel
theorem dX6_law_106 : decode cX6_law 106 = .ok (.getfield 59, 3) := by decide +kernel
theorem dX6_law_109 : decode cX6_law 109 = .ok (.ireturn, 1) := by decide +kernel
theorem dX6_force_0 : decode cX6_force 0 = .ok (.iload_n 1, 1) := by decide +kernel
theorem dX6_force_1 : decode cX6_force 1 = .ok (.invokestatic 51, 3) := by decide +kernel
theorem dX6_force_4 : decode cX6_force 4 = .ok (.ifCond .eq 12, 3) := by decide +kernel
theorem dX6_force_7 : decode cX6_force 7 = .ok (.iload_n 2, 1) := by decide +kernel
theorem dX6_force_8 : decode cX6_force 8 = .ok (.iconst 0, 1) := by decide +kernel
theorem dX6_force_9 : decode cX6_force 9 = .ok (.iconst 4, 1) := by decide +kernel
theorem dX6_force_10 : decode cX6_force 10 = .ok (.invokestatic 55, 3) := by decide +kernel
theorem dX6_force_13 : decode cX6_force 13 = .ok (.ifCond .ne 6, 3) := by decide +kernel
theorem dX6_force_16 : decode cX6_force 16 = .ok (.bipush (-2), 2) := by decide +kernel
theorem dX6_force_18 : decode cX6_force 18 = .ok (.ireturn, 1) := by decide +kernel
theorem dX6_force_19 : decode cX6_force 19 = .ok (.aload_n 0, 1) := by decide +kernel
theorem dX6_force_20 : decode cX6_force 20 = .ok (.getfield 10, 3) := by decide +kernel
theorem dX6_force_23 : decode cX6_force 23 = .ok (.iload_n 1, 1) := by decide +kernel
theorem dX6_force_24 : decode cX6_force 24 = .ok (.iload_n 2, 1) := by decide +kernel
theorem dX6_force_25 : decode cX6_force 25 = .ok (.invokevirtual 71, 3) := by decide +kernel
theorem dX6_force_28 : decode cX6_force 28 = .ok (.ireturn, 1) := by decide +kernel
theorem dX6_ward_0 : decode cX6_ward 0 = .ok (.iload_n 1, 1) := by decide +kernel
theorem dX6_ward_1 : decode cX6_ward 1 = .ok (.sipush (-10800), 3) := by decide +kernel
theorem dX6_ward_4 : decode cX6_ward 4 = .ok (.sipush 3599, 3) := by decide +kernel
theorem dX6_ward_7 : decode cX6_ward 7 = .ok (.invokestatic 55, 3) := by decide +kernel
theorem dX6_ward_10 : decode cX6_ward 10 = .ok (.ifCond .ne 6, 3) := by decide +kernel
theorem dX6_ward_13 : decode cX6_ward 13 = .ok (.bipush (-2), 2) := by decide +kernel
theorem dX6_ward_15 : decode cX6_ward 15 = .ok (.ireturn, 1) := by decide +kernel
theorem dX6_ward_16 : decode cX6_ward 16 = .ok (.aload_n 0, 1) := by decide +kernel
theorem dX6_ward_17 : decode cX6_ward 17 = .ok (.getfield 19, 3) := by decide +kernel
theorem dX6_ward_20 : decode cX6_ward 20 = .ok (.getfield 75, 3) := by decide +kernel
theorem dX6_ward_23 : decode cX6_ward 23 = .ok (.bipush 6, 2) := by decide +kernel
theorem dX6_ward_25 : decode cX6_ward 25 = .ok (.if_icmp .lt 6, 3) := by decide +kernel
theorem dX6_ward_28 : decode cX6_ward 28 = .ok (.bipush (-4), 2) := by decide +kernel
theorem dX6_ward_30 : decode cX6_ward 30 = .ok (.ireturn, 1) := by decide +kernel
theorem dX6_ward_31 : decode cX6_ward 31 = .ok (.aload_n 0, 1) := by decide +kernel
theorem dX6_ward_32 : decode cX6_ward 32 = .ok (.getfield 19, 3) := by decide +kernel
theorem dX6_ward_35 : decode cX6_ward 35 = .ok (.iload_n 1, 1) := by decide +kernel
theorem dX6_ward_36 : decode cX6_ward 36 = .ok (.invokevirtual 76, 3) := by decide +kernel
theorem dX6_ward_39 : decode cX6_ward 39 = .ok (.aload_n 0, 1) := by decide +kernel
theorem dX6_ward_40 : decode cX6_ward 40 = .ok (.iconst 1, 1) := by decide +kernel
theorem dX6_ward_41 : decode cX6_ward 41 = .ok (.putfield 67, 3) := by decide +kernel
theorem dX6_ward_44 : decode cX6_ward 44 = .ok (.aload_n 0, 1) := by decide +kernel
theorem dX6_ward_45 : decode cX6_ward 45 = .ok (.getfield 19, 3) := by decide +kernel
theorem dX6_ward_48 : decode cX6_ward 48 = .ok (.getfield 75, 3) := by decide +kernel
theorem dX6_ward_51 : decode cX6_ward 51 = .ok (.iconst 1, 1) := by decide +kernel
theorem dX6_ward_52 : decode cX6_ward 52 = .ok (.isub, 1) := by decide +kernel
theorem dX6_ward_53 : decode cX6_ward 53 = .ok (.ireturn, 1) := by decide +kernel
theorem dX6_dies_0 : decode cX6_dies 0 = .ok (.aload_n 0, 1) := by decide +kernel
theorem dX6_dies_1 : decode cX6_dies 1 = .ok (.getfield 19, 3) := by decide +kernel
theorem dX6_dies_4 : decode cX6_dies 4 = .ok (.iload_n 1, 1) := by decide +kernel
theorem dX6_dies_5 : decode cX6_dies 5 = .ok (.invokevirtual 79, 3) := by decide +kernel
theorem dX6_dies_8 : decode cX6_dies 8 = .ok (.ifCond .ne 5, 3) := by decide +kernel
theorem dX6_dies_11 : decode cX6_dies 11 = .ok (.iconst (-1), 1) := by decide +kernel
theorem dX6_dies_12 : decode cX6_dies 12 = .ok (.ireturn, 1) := by decide +kernel
theorem dX6_dies_13 : decode cX6_dies 13 = .ok (.iload_n 2, 1) := by decide +kernel
theorem dX6_dies_14 : decode cX6_dies 14 = .ok (.iconst (-1), 1) := by decide +kernel
theorem dX6_dies_15 : decode cX6_dies 15 = .ok (.if_icmp .eq 25, 3) := by decide +kernel
theorem dX6_dies_18 : decode cX6_dies 18 = .ok (.iload_n 2, 1) := by decide +kernel
theorem dX6_dies_19 : decode cX6_dies 19 = .ok (.invokestatic 51, 3) := by decide +kernel
theorem dX6_dies_22 : decode cX6_dies 22 = .ok (.ifCond .eq 15, 3) := by decide +kernel
theorem dX6_dies_25 : decode cX6_dies 25 = .ok (.iload_n 2, 1) := by decide +kernel
theorem dX6_dies_26 : decode cX6_dies 26 = .ok (.aload_n 0, 1) := by decide +kernel
theorem dX6_dies_27 : decode cX6_dies 27 = .ok (.getfield 19, 3) := by decide +kernel
theorem dX6_dies_30 : decode cX6_dies 30 = .ok (.iload_n 1, 1) := by decide +kernel
theorem dX6_dies_31 : decode cX6_dies 31 = .ok (.invokevirtual 82, 3) := by decide +kernel
theorem dX6_dies_34 : decode cX6_dies 34 = .ok (.if_icmp .ge 6, 3) := by decide +kernel
theorem dX6_dies_37 : decode cX6_dies 37 = .ok (.bipush (-2), 2) := by decide +kernel
theorem dX6_dies_39 : decode cX6_dies 39 = .ok (.ireturn, 1) := by decide +kernel
theorem dX6_dies_40 : decode cX6_dies 40 = .ok (.aload_n 0, 1) := by decide +kernel
theorem dX6_dies_41 : decode cX6_dies 41 = .ok (.getfield 19, 3) := by decide +kernel
theorem dX6_dies_44 : decode cX6_dies 44 = .ok (.iload_n 1, 1) := by decide +kernel
theorem dX6_dies_45 : decode cX6_dies 45 = .ok (.invokevirtual 86, 3) := by decide +kernel
theorem dX6_dies_48 : decode cX6_dies 48 = .ok (.istore_n 3, 1) := by decide +kernel
theorem dX6_dies_49 : decode cX6_dies 49 = .ok (.aload_n 0, 1) := by decide +kernel
theorem dX6_dies_50 : decode cX6_dies 50 = .ok (.getfield 19, 3) := by decide +kernel
theorem dX6_dies_53 : decode cX6_dies 53 = .ok (.iload_n 1, 1) := by decide +kernel
theorem dX6_dies_54 : decode cX6_dies 54 = .ok (.iload_n 2, 1) := by decide +kernel
theorem dX6_dies_55 : decode cX6_dies 55 = .ok (.iconst (-1), 1) := by decide +kernel
theorem dX6_dies_56 : decode cX6_dies 56 = .ok (.if_icmp .ne 8, 3) := by decide +kernel
theorem dX6_dies_59 : decode cX6_dies 59 = .ok (.bipush (-6), 2) := by decide +kernel
theorem dX6_dies_61 : decode cX6_dies 61 = .ok (.goto 4, 3) := by decide +kernel
theorem dX6_dies_64 : decode cX6_dies 64 = .ok (.iload_n 2, 1) := by decide +kernel
theorem dX6_dies_65 : decode cX6_dies 65 = .ok (.invokevirtual 89, 3) := by decide +kernel
theorem dX6_dies_68 : decode cX6_dies 68 = .ok (.aload_n 0, 1) := by decide +kernel
theorem dX6_dies_69 : decode cX6_dies 69 = .ok (.iconst 1, 1) := by decide +kernel
theorem dX6_dies_70 : decode cX6_dies 70 = .ok (.putfield 67, 3) := by decide +kernel
theorem dX6_dies_73 : decode cX6_dies 73 = .ok (.iload_n 3, 1) := by decide +kernel
theorem dX6_dies_74 : decode cX6_dies 74 = .ok (.ireturn, 1) := by decide +kernel
theorem dX6_about_0 : decode cX6_about 0 = .ok (.aload_n 0, 1) := by decide +kernel
theorem dX6_about_1 : decode cX6_about 1 = .ok (.getfield 19, 3) := by decide +kernel
theorem dX6_about_4 : decode cX6_about 4 = .ok (.iload_n 1, 1) := by decide +kernel
theorem dX6_about_5 : decode cX6_about 5 = .ok (.invokevirtual 79, 3) := by decide +kernel
theorem dX6_about_8 : decode cX6_about 8 = .ok (.ifCond .ne 6, 3) := by decide +kernel
theorem dX6_about_11 : decode cX6_about 11 = .ok (.ldc 93, 2) := by decide +kernel
theorem dX6_about_13 : decode cX6_about 13 = .ok (.ireturn, 1) := by decide +kernel
theorem dX6_about_14 : decode cX6_about 14 = .ok (.aload_n 0, 1) := by decide +kernel
theorem dX6_about_15 : decode cX6_about 15 = .ok (.invokevirtual 94, 3) := by decide +kernel
theorem dX6_about_18 : decode cX6_about 18 = .ok (.iload_n 2, 1) := by decide +kernel
theorem dX6_about_19 : decode cX6_about 19 = .ok (.tableswitch 78 0 4 #[33, 42, 51, 60, 69], 33) := by decide +kernel
theorem dX6_about_52 : decode cX6_about 52 = .ok (.aload_n 0, 1) := by decide +kernel
theorem dX6_about_53 : decode cX6_about 53 = .ok (.getfield 19, 3) := by decide +kernel
theorem dX6_about_56 : decode cX6_about 56 = .ok (.iload_n 1, 1) := by decide +kernel
theorem dX6_about_57 : decode cX6_about 57 = .ok (.invokevirtual 82, 3) := by decide +kernel
theorem dX6_about_60 : decode cX6_about 60 = .ok (.ireturn, 1) := by decide +kernel
theorem dX6_about_61 : decode cX6_about 61 = .ok (.aload_n 0, 1) := by decide +kernel
theorem dX6_about_62 : decode cX6_about 62 = .ok (.getfield 19, 3) := by decide +kernel
theorem dX6_about_65 : decode cX6_about 65 = .ok (.iload_n 1, 1) := by decide +kernel
theorem dX6_about_66 : decode cX6_about 66 = .ok (.invokevirtual 86, 3) := by decide +kernel
theorem dX6_about_69 : decode cX6_about 69 = .ok (.ireturn, 1) := by decide +kernel
theorem dX6_about_70 : decode cX6_about 70 = .ok (.aload_n 0, 1) := by decide +kernel
theorem dX6_about_71 : decode cX6_about 71 = .ok (.getfield 19, 3) := by decide +kernel
theorem dX6_about_74 : decode cX6_about 74 = .ok (.iload_n 1, 1) := by decide +kernel
theorem dX6_about_75 : decode cX6_about 75 = .ok (.invokevirtual 97, 3) := by decide +kernel
theorem dX6_about_78 : decode cX6_about 78 = .ok (.ireturn, 1) := by decide +kernel
theorem dX6_about_79 : decode cX6_about 79 = .ok (.aload_n 0, 1) := by decide +kernel
theorem dX6_about_80 : decode cX6_about 80 = .ok (.getfield 19, 3) := by decide +kernel
theorem dX6_about_83 : decode cX6_about 83 = .ok (.iload_n 1, 1) := by decide +kernel
theorem dX6_about_84 : decode cX6_about 84 = .ok (.invokevirtual 100, 3) := by decide +kernel
theorem dX6_about_87 : decode cX6_about 87 = .ok (.ireturn, 1) := by decide +kernel
theorem dX6_about_88 : decode cX6_about 88 = .ok (.aload_n 0, 1) := by decide +kernel
theorem dX6_about_89 : decode cX6_about 89 = .ok (.getfield 19, 3) := by decide +kernel
theorem dX6_about_92 : decode cX6_about 92 = .ok (.iload_n 1, 1) := by decide +kernel
theorem dX6_about_93 : decode cX6_about 93 = .ok (.invokevirtual 103, 3) := by decide +kernel
theorem dX6_about_96 : decode cX6_about 96 = .ok (.ireturn, 1) := by decide +kernel
theorem dX6_about_97 : decode cX6_about 97 = .ok (.ldc 106, 2) := by decide +kernel
theorem dX6_about_99 : decode cX6_about 99 = .ok (.ireturn, 1) := by decide +kernel
theorem dX6_heads_0 : decode cX6_heads 0 = .ok (.iload_n 1, 1) := by decide +kernel
theorem dX6_heads_1 : decode cX6_heads 1 = .ok (.invokestatic 51, 3) := by decide +kernel
theorem dX6_heads_4 : decode cX6_heads 4 = .ok (.ifCond .ne 6, 3) := by decide +kernel
theorem dX6_heads_7 : decode cX6_heads 7 = .ok (.bipush (-2), 2) := by decide +kernel
theorem dX6_heads_9 : decode cX6_heads 9 = .ok (.ireturn, 1) := by decide +kernel
theorem dX6_heads_10 : decode cX6_heads 10 = .ok (.aload_n 0, 1) := by decide +kernel
theorem dX6_heads_11 : decode cX6_heads 11 = .ok (.invokevirtual 94, 3) := by decide +kernel
theorem dX6_heads_14 : decode cX6_heads 14 = .ok (.aload_n 0, 1) := by decide +kernel
theorem dX6_heads_15 : decode cX6_heads 15 = .ok (.getfield 19, 3) := by decide +kernel
theorem dX6_heads_18 : decode cX6_heads 18 = .ok (.iload_n 1, 1) := by decide +kernel
theorem dX6_heads_19 : decode cX6_heads 19 = .ok (.invokevirtual 107, 3) := by decide +kernel
theorem dX6_heads_22 : decode cX6_heads 22 = .ok (.ireturn, 1) := by decide +kernel
theorem dX6_leave_0 : decode cX6_leave 0 = .ok (.iload_n 1, 1) := by decide +kernel
theorem dX6_leave_1 : decode cX6_leave 1 = .ok (.invokestatic 110, 3) := by decide +kernel
theorem dX6_leave_4 : decode cX6_leave 4 = .ok (.ifCond .ne 6, 3) := by decide +kernel
theorem dX6_leave_7 : decode cX6_leave 7 = .ok (.bipush (-2), 2) := by decide +kernel
theorem dX6_leave_9 : decode cX6_leave 9 = .ok (.ireturn, 1) := by decide +kernel
theorem dX6_leave_10 : decode cX6_leave 10 = .ok (.aload_n 0, 1) := by decide +kernel
theorem dX6_leave_11 : decode cX6_leave 11 = .ok (.getfield 26, 3) := by decide +kernel
theorem dX6_leave_14 : decode cX6_leave 14 = .ok (.getfield 113, 3) := by decide +kernel
theorem dX6_leave_17 : decode cX6_leave 17 = .ok (.bipush 10, 2) := by decide +kernel
theorem dX6_leave_19 : decode cX6_leave 19 = .ok (.if_icmp .lt 6, 3) := by decide +kernel
theorem dX6_leave_22 : decode cX6_leave 22 = .ok (.bipush (-4), 2) := by decide +kernel
theorem dX6_leave_24 : decode cX6_leave 24 = .ok (.ireturn, 1) := by decide +kernel
theorem dX6_leave_25 : decode cX6_leave 25 = .ok (.aload_n 0, 1) := by decide +kernel
theorem dX6_leave_26 : decode cX6_leave 26 = .ok (.getfield 26, 3) := by decide +kernel
theorem dX6_leave_29 : decode cX6_leave 29 = .ok (.iload_n 1, 1) := by decide +kernel
theorem dX6_leave_30 : decode cX6_leave 30 = .ok (.invokevirtual 114, 3) := by decide +kernel
theorem dX6_leave_33 : decode cX6_leave 33 = .ok (.aload_n 0, 1) := by decide +kernel
theorem dX6_leave_34 : decode cX6_leave 34 = .ok (.getfield 26, 3) := by decide +kernel
theorem dX6_leave_37 : decode cX6_leave 37 = .ok (.getfield 113, 3) := by decide +kernel
theorem dX6_leave_40 : decode cX6_leave 40 = .ok (.iconst 1, 1) := by decide +kernel
theorem dX6_leave_41 : decode cX6_leave 41 = .ok (.isub, 1) := by decide +kernel
theorem dX6_leave_42 : decode cX6_leave 42 = .ok (.ireturn, 1) := by decide +kernel
theorem dX6_ofLeave_0 : decode cX6_ofLeave 0 = .ok (.aload_n 0, 1) := by decide +kernel
theorem dX6_ofLeave_1 : decode cX6_ofLeave 1 = .ok (.getfield 26, 3) := by decide +kernel
theorem dX6_ofLeave_4 : decode cX6_ofLeave 4 = .ok (.iload_n 1, 1) := by decide +kernel
theorem dX6_ofLeave_5 : decode cX6_ofLeave 5 = .ok (.invokevirtual 115, 3) := by decide +kernel
theorem dX6_ofLeave_8 : decode cX6_ofLeave 8 = .ok (.ifCond .ne 5, 3) := by decide +kernel
theorem dX6_ofLeave_11 : decode cX6_ofLeave 11 = .ok (.iconst (-1), 1) := by decide +kernel
theorem dX6_ofLeave_12 : decode cX6_ofLeave 12 = .ok (.ireturn, 1) := by decide +kernel
theorem dX6_ofLeave_13 : decode cX6_ofLeave 13 = .ok (.iload_n 2, 1) := by decide +kernel
theorem dX6_ofLeave_14 : decode cX6_ofLeave 14 = .ok (.lookupswitch 44 #[(0, 26), (1, 35)], 26) := by decide +kernel
theorem dX6_ofLeave_40 : decode cX6_ofLeave 40 = .ok (.aload_n 0, 1) := by decide +kernel
theorem dX6_ofLeave_41 : decode cX6_ofLeave 41 = .ok (.getfield 26, 3) := by decide +kernel
theorem dX6_ofLeave_44 : decode cX6_ofLeave 44 = .ok (.iload_n 1, 1) := by decide +kernel
theorem dX6_ofLeave_45 : decode cX6_ofLeave 45 = .ok (.invokevirtual 116, 3) := by decide +kernel
theorem dX6_ofLeave_48 : decode cX6_ofLeave 48 = .ok (.ireturn, 1) := by decide +kernel
theorem dX6_ofLeave_49 : decode cX6_ofLeave 49 = .ok (.aload_n 0, 1) := by decide +kernel
theorem dX6_ofLeave_50 : decode cX6_ofLeave 50 = .ok (.getfield 26, 3) := by decide +kernel
theorem dX6_ofLeave_53 : decode cX6_ofLeave 53 = .ok (.iload_n 1, 1) := by decide +kernel
theorem dX6_ofLeave_54 : decode cX6_ofLeave 54 = .ok (.invokevirtual 119, 3) := by decide +kernel
theorem dX6_ofLeave_57 : decode cX6_ofLeave 57 = .ok (.ireturn, 1) := by decide +kernel
theorem dX6_ofLeave_58 : decode cX6_ofLeave 58 = .ok (.bipush (-2), 2) := by decide +kernel
theorem dX6_ofLeave_60 : decode cX6_ofLeave 60 = .ok (.ireturn, 1) := by decide +kernel
theorem dX6_receive_0 : decode cX6_receive 0 = .ok (.iload_n 3, 1) := by decide +kernel
theorem dX6_receive_1 : decode cX6_receive 1 = .ok (.iconst (-1), 1) := by decide +kernel
theorem dX6_receive_2 : decode cX6_receive 2 = .ok (.if_icmp .eq 16, 3) := by decide +kernel
theorem dX6_receive_5 : decode cX6_receive 5 = .ok (.aload_n 0, 1) := by decide +kernel
theorem dX6_receive_6 : decode cX6_receive 6 = .ok (.getfield 40, 3) := by decide +kernel
theorem dX6_receive_9 : decode cX6_receive 9 = .ok (.iload_n 3, 1) := by decide +kernel
theorem dX6_receive_10 : decode cX6_receive 10 = .ok (.invokevirtual 122, 3) := by decide +kernel
theorem dX6_receive_13 : decode cX6_receive 13 = .ok (.ifCond .ne 5, 3) := by decide +kernel
theorem dX6_receive_16 : decode cX6_receive 16 = .ok (.iconst (-1), 1) := by decide +kernel
theorem dX6_receive_17 : decode cX6_receive 17 = .ok (.ireturn, 1) := by decide +kernel
theorem dX6_receive_18 : decode cX6_receive 18 = .ok (.iload_n 1, 1) := by decide +kernel
theorem dX6_receive_19 : decode cX6_receive 19 = .ok (.invokestatic 51, 3) := by decide +kernel
theorem dX6_receive_22 : decode cX6_receive 22 = .ok (.ifCond .eq 10, 3) := by decide +kernel
theorem dX6_receive_25 : decode cX6_receive 25 = .ok (.iload_n 2, 1) := by decide +kernel
theorem dX6_receive_26 : decode cX6_receive 26 = .ok (.invokestatic 110, 3) := by decide +kernel
theorem dX6_receive_29 : decode cX6_receive 29 = .ok (.ifCond .ne 6, 3) := by decide +kernel
theorem dX6_receive_32 : decode cX6_receive 32 = .ok (.bipush (-2), 2) := by decide +kernel
theorem dX6_receive_34 : decode cX6_receive 34 = .ok (.ireturn, 1) := by decide +kernel
theorem dX6_receive_35 : decode cX6_receive 35 = .ok (.aload_n 0, 1) := by decide +kernel
theorem dX6_receive_36 : decode cX6_receive 36 = .ok (.getfield 33, 3) := by decide +kernel
theorem dX6_receive_39 : decode cX6_receive 39 = .ok (.getfield 123, 3) := by decide +kernel
theorem dX6_receive_42 : decode cX6_receive 42 = .ok (.bipush 60, 2) := by decide +kernel
theorem dX6_receive_44 : decode cX6_receive 44 = .ok (.if_icmp .lt 6, 3) := by decide +kernel
theorem dX6_receive_47 : decode cX6_receive 47 = .ok (.bipush (-4), 2) := by decide +kernel
theorem dX6_receive_49 : decode cX6_receive 49 = .ok (.ireturn, 1) := by decide +kernel
theorem dX6_receive_50 : decode cX6_receive 50 = .ok (.aload_n 0, 1) := by decide +kernel
theorem dX6_receive_51 : decode cX6_receive 51 = .ok (.getfield 33, 3) := by decide +kernel
theorem dX6_receive_54 : decode cX6_receive 54 = .ok (.iload_n 1, 1) := by decide +kernel
theorem dX6_receive_55 : decode cX6_receive 55 = .ok (.iload_n 2, 1) := by decide +kernel
theorem dX6_receive_56 : decode cX6_receive 56 = .ok (.iconst 1, 1) := by decide +kernel
theorem dX6_receive_57 : decode cX6_receive 57 = .ok (.iload_n 3, 1) := by decide +kernel
theorem dX6_receive_58 : decode cX6_receive 58 = .ok (.invokevirtual 124, 3) := by decide +kernel
theorem dX6_receive_61 : decode cX6_receive 61 = .ok (.aload_n 0, 1) := by decide +kernel
theorem dX6_receive_62 : decode cX6_receive 62 = .ok (.iconst 1, 1) := by decide +kernel
theorem dX6_receive_63 : decode cX6_receive 63 = .ok (.putfield 67, 3) := by decide +kernel
theorem dX6_receive_66 : decode cX6_receive 66 = .ok (.aload_n 0, 1) := by decide +kernel
theorem dX6_receive_67 : decode cX6_receive 67 = .ok (.getfield 33, 3) := by decide +kernel
theorem dX6_receive_70 : decode cX6_receive 70 = .ok (.getfield 123, 3) := by decide +kernel
theorem dX6_receive_73 : decode cX6_receive 73 = .ok (.iconst 1, 1) := by decide +kernel
theorem dX6_receive_74 : decode cX6_receive 74 = .ok (.isub, 1) := by decide +kernel
theorem dX6_receive_75 : decode cX6_receive 75 = .ok (.ireturn, 1) := by decide +kernel
theorem dX6_pay_0 : decode cX6_pay 0 = .ok (.iload_n 3, 1) := by decide +kernel
theorem dX6_pay_1 : decode cX6_pay 1 = .ok (.iconst (-1), 1) := by decide +kernel
theorem dX6_pay_2 : decode cX6_pay 2 = .ok (.if_icmp .eq 16, 3) := by decide +kernel
theorem dX6_pay_5 : decode cX6_pay 5 = .ok (.aload_n 0, 1) := by decide +kernel
theorem dX6_pay_6 : decode cX6_pay 6 = .ok (.getfield 26, 3) := by decide +kernel
theorem dX6_pay_9 : decode cX6_pay 9 = .ok (.iload_n 3, 1) := by decide +kernel
theorem dX6_pay_10 : decode cX6_pay 10 = .ok (.invokevirtual 115, 3) := by decide +kernel
theorem dX6_pay_13 : decode cX6_pay 13 = .ok (.ifCond .ne 5, 3) := by decide +kernel
theorem dX6_pay_16 : decode cX6_pay 16 = .ok (.iconst (-1), 1) := by decide +kernel
theorem dX6_pay_17 : decode cX6_pay 17 = .ok (.ireturn, 1) := by decide +kernel
theorem dX6_pay_18 : decode cX6_pay 18 = .ok (.iload_n 1, 1) := by decide +kernel
theorem dX6_pay_19 : decode cX6_pay 19 = .ok (.invokestatic 51, 3) := by decide +kernel
theorem dX6_pay_22 : decode cX6_pay 22 = .ok (.ifCond .eq 10, 3) := by decide +kernel
theorem dX6_pay_25 : decode cX6_pay 25 = .ok (.iload_n 2, 1) := by decide +kernel
theorem dX6_pay_26 : decode cX6_pay 26 = .ok (.invokestatic 110, 3) := by decide +kernel
theorem dX6_pay_29 : decode cX6_pay 29 = .ok (.ifCond .ne 6, 3) := by decide +kernel
theorem dX6_pay_32 : decode cX6_pay 32 = .ok (.bipush (-2), 2) := by decide +kernel
theorem dX6_pay_34 : decode cX6_pay 34 = .ok (.ireturn, 1) := by decide +kernel
theorem dX6_pay_35 : decode cX6_pay 35 = .ok (.aload_n 0, 1) := by decide +kernel
theorem dX6_pay_36 : decode cX6_pay 36 = .ok (.getfield 33, 3) := by decide +kernel
theorem dX6_pay_39 : decode cX6_pay 39 = .ok (.getfield 123, 3) := by decide +kernel
theorem dX6_pay_42 : decode cX6_pay 42 = .ok (.bipush 60, 2) := by decide +kernel
theorem dX6_pay_44 : decode cX6_pay 44 = .ok (.if_icmp .lt 6, 3) := by decide +kernel
theorem dX6_pay_47 : decode cX6_pay 47 = .ok (.bipush (-4), 2) := by decide +kernel
theorem dX6_pay_49 : decode cX6_pay 49 = .ok (.ireturn, 1) := by decide +kernel
theorem dX6_pay_50 : decode cX6_pay 50 = .ok (.aload_n 0, 1) := by decide +kernel
theorem dX6_pay_51 : decode cX6_pay 51 = .ok (.getfield 26, 3) := by decide +kernel
theorem dX6_pay_54 : decode cX6_pay 54 = .ok (.iload_n 3, 1) := by decide +kernel
theorem dX6_pay_55 : decode cX6_pay 55 = .ok (.invokevirtual 127, 3) := by decide +kernel
theorem dX6_pay_58 : decode cX6_pay 58 = .ok (.ifCond .eq 6, 3) := by decide +kernel
theorem dX6_pay_61 : decode cX6_pay 61 = .ok (.bipush (-5), 2) := by decide +kernel
theorem dX6_pay_63 : decode cX6_pay 63 = .ok (.ireturn, 1) := by decide +kernel
theorem dX6_pay_64 : decode cX6_pay 64 = .ok (.aload_n 0, 1) := by decide +kernel
theorem dX6_pay_65 : decode cX6_pay 65 = .ok (.getfield 33, 3) := by decide +kernel
theorem dX6_pay_68 : decode cX6_pay 68 = .ok (.getfield 123, 3) := by decide +kernel
theorem dX6_pay_71 : decode cX6_pay 71 = .ok (.istore 4, 2) := by decide +kernel
theorem dX6_pay_73 : decode cX6_pay 73 = .ok (.aload_n 0, 1) := by decide +kernel
theorem dX6_pay_74 : decode cX6_pay 74 = .ok (.getfield 33, 3) := by decide +kernel
theorem dX6_pay_77 : decode cX6_pay 77 = .ok (.iload_n 1, 1) := by decide +kernel
theorem dX6_pay_78 : decode cX6_pay 78 = .ok (.iload_n 2, 1) := by decide +kernel
theorem dX6_pay_79 : decode cX6_pay 79 = .ok (.iconst 0, 1) := by decide +kernel
theorem dX6_pay_80 : decode cX6_pay 80 = .ok (.iload_n 3, 1) := by decide +kernel
theorem dX6_pay_81 : decode cX6_pay 81 = .ok (.invokevirtual 124, 3) := by decide +kernel
theorem dX6_pay_84 : decode cX6_pay 84 = .ok (.aload_n 0, 1) := by decide +kernel
theorem dX6_pay_85 : decode cX6_pay 85 = .ok (.getfield 26, 3) := by decide +kernel
theorem dX6_pay_88 : decode cX6_pay 88 = .ok (.iload_n 3, 1) := by decide +kernel
theorem dX6_pay_89 : decode cX6_pay 89 = .ok (.iload 4, 2) := by decide +kernel
theorem dX6_pay_91 : decode cX6_pay 91 = .ok (.invokevirtual 130, 3) := by decide +kernel
theorem dX6_pay_94 : decode cX6_pay 94 = .ok (.aload_n 0, 1) := by decide +kernel
theorem dX6_pay_95 : decode cX6_pay 95 = .ok (.iconst 1, 1) := by decide +kernel
theorem dX6_pay_96 : decode cX6_pay 96 = .ok (.putfield 67, 3) := by decide +kernel
theorem dX6_pay_99 : decode cX6_pay 99 = .ok (.iload 4, 2) := by decide +kernel
theorem dX6_pay_101 : decode cX6_pay 101 = .ok (.ireturn, 1) := by decide +kernel
theorem dX6_vouch_0 : decode cX6_vouch 0 = .ok (.aload_n 0, 1) := by decide +kernel
theorem dX6_vouch_1 : decode cX6_vouch 1 = .ok (.getfield 33, 3) := by decide +kernel
theorem dX6_vouch_4 : decode cX6_vouch 4 = .ok (.iload_n 1, 1) := by decide +kernel
theorem dX6_vouch_5 : decode cX6_vouch 5 = .ok (.invokevirtual 133, 3) := by decide +kernel
theorem dX6_vouch_8 : decode cX6_vouch 8 = .ok (.ifCond .ne 5, 3) := by decide +kernel
theorem dX6_vouch_11 : decode cX6_vouch 11 = .ok (.iconst (-1), 1) := by decide +kernel
theorem dX6_vouch_12 : decode cX6_vouch 12 = .ok (.ireturn, 1) := by decide +kernel
theorem dX6_vouch_13 : decode cX6_vouch 13 = .ok (.aload_n 0, 1) := by decide +kernel
theorem dX6_vouch_14 : decode cX6_vouch 14 = .ok (.getfield 33, 3) := by decide +kernel
theorem dX6_vouch_17 : decode cX6_vouch 17 = .ok (.iload_n 1, 1) := by decide +kernel
theorem dX6_vouch_18 : decode cX6_vouch 18 = .ok (.invokevirtual 134, 3) := by decide +kernel
theorem dX6_vouch_21 : decode cX6_vouch 21 = .ok (.ifCond .eq 6, 3) := by decide +kernel
theorem dX6_vouch_24 : decode cX6_vouch 24 = .ok (.bipush (-3), 2) := by decide +kernel
theorem dX6_vouch_26 : decode cX6_vouch 26 = .ok (.ireturn, 1) := by decide +kernel
theorem dX6_vouch_27 : decode cX6_vouch 27 = .ok (.aload_n 0, 1) := by decide +kernel
theorem dX6_vouch_28 : decode cX6_vouch 28 = .ok (.getfield 33, 3) := by decide +kernel
theorem dX6_vouch_31 : decode cX6_vouch 31 = .ok (.iload_n 1, 1) := by decide +kernel
theorem dX6_vouch_32 : decode cX6_vouch 32 = .ok (.iload_n 2, 1) := by decide +kernel
theorem dX6_vouch_33 : decode cX6_vouch 33 = .ok (.invokevirtual 137, 3) := by decide +kernel
theorem dX6_vouch_36 : decode cX6_vouch 36 = .ok (.istore_n 3, 1) := by decide +kernel
theorem dX6_vouch_37 : decode cX6_vouch 37 = .ok (.aload_n 0, 1) := by decide +kernel
theorem dX6_vouch_38 : decode cX6_vouch 38 = .ok (.iconst 1, 1) := by decide +kernel
theorem dX6_vouch_39 : decode cX6_vouch 39 = .ok (.putfield 67, 3) := by decide +kernel
theorem dX6_vouch_42 : decode cX6_vouch 42 = .ok (.iload_n 3, 1) := by decide +kernel
theorem dX6_vouch_43 : decode cX6_vouch 43 = .ok (.ifCond .eq 7, 3) := by decide +kernel
theorem dX6_vouch_46 : decode cX6_vouch 46 = .ok (.iconst 1, 1) := by decide +kernel
theorem dX6_vouch_47 : decode cX6_vouch 47 = .ok (.goto 4, 3) := by decide +kernel
theorem dX6_vouch_50 : decode cX6_vouch 50 = .ok (.iconst 0, 1) := by decide +kernel
theorem dX6_vouch_51 : decode cX6_vouch 51 = .ok (.ireturn, 1) := by decide +kernel
theorem dX6_challenge_0 : decode cX6_challenge 0 = .ok (.aload_n 0, 1) := by decide +kernel
theorem dX6_challenge_1 : decode cX6_challenge 1 = .ok (.getfield 33, 3) := by decide +kernel
theorem dX6_challenge_4 : decode cX6_challenge 4 = .ok (.iload_n 1, 1) := by decide +kernel
theorem dX6_challenge_5 : decode cX6_challenge 5 = .ok (.invokevirtual 133, 3) := by decide +kernel
theorem dX6_challenge_8 : decode cX6_challenge 8 = .ok (.ifCond .ne 5, 3) := by decide +kernel
theorem dX6_challenge_11 : decode cX6_challenge 11 = .ok (.iconst (-1), 1) := by decide +kernel
theorem dX6_challenge_12 : decode cX6_challenge 12 = .ok (.ireturn, 1) := by decide +kernel
theorem dX6_challenge_13 : decode cX6_challenge 13 = .ok (.aload_n 0, 1) := by decide +kernel
theorem dX6_challenge_14 : decode cX6_challenge 14 = .ok (.getfield 33, 3) := by decide +kernel
theorem dX6_challenge_17 : decode cX6_challenge 17 = .ok (.iload_n 1, 1) := by decide +kernel
theorem dX6_challenge_18 : decode cX6_challenge 18 = .ok (.invokevirtual 134, 3) := by decide +kernel
theorem dX6_challenge_21 : decode cX6_challenge 21 = .ok (.ifCond .eq 6, 3) := by decide +kernel
theorem dX6_challenge_24 : decode cX6_challenge 24 = .ok (.bipush (-3), 2) := by decide +kernel
theorem dX6_challenge_26 : decode cX6_challenge 26 = .ok (.ireturn, 1) := by decide +kernel
theorem dX6_challenge_27 : decode cX6_challenge 27 = .ok (.aload_n 0, 1) := by decide +kernel
theorem dX6_challenge_28 : decode cX6_challenge 28 = .ok (.getfield 33, 3) := by decide +kernel
theorem dX6_challenge_31 : decode cX6_challenge 31 = .ok (.iload_n 1, 1) := by decide +kernel
theorem dX6_challenge_32 : decode cX6_challenge 32 = .ok (.iload_n 2, 1) := by decide +kernel
theorem dX6_challenge_33 : decode cX6_challenge 33 = .ok (.invokevirtual 141, 3) := by decide +kernel
theorem dX6_challenge_36 : decode cX6_challenge 36 = .ok (.istore_n 3, 1) := by decide +kernel
theorem dX6_challenge_37 : decode cX6_challenge 37 = .ok (.aload_n 0, 1) := by decide +kernel
theorem dX6_challenge_38 : decode cX6_challenge 38 = .ok (.iconst 1, 1) := by decide +kernel
theorem dX6_challenge_39 : decode cX6_challenge 39 = .ok (.putfield 67, 3) := by decide +kernel
theorem dX6_challenge_42 : decode cX6_challenge 42 = .ok (.iload_n 3, 1) := by decide +kernel
theorem dX6_challenge_43 : decode cX6_challenge 43 = .ok (.ifCond .eq 7, 3) := by decide +kernel
theorem dX6_challenge_46 : decode cX6_challenge 46 = .ok (.iconst 1, 1) := by decide +kernel
theorem dX6_challenge_47 : decode cX6_challenge 47 = .ok (.goto 4, 3) := by decide +kernel
theorem dX6_challenge_50 : decode cX6_challenge 50 = .ok (.iconst 0, 1) := by decide +kernel
theorem dX6_challenge_51 : decode cX6_challenge 51 = .ok (.ireturn, 1) := by decide +kernel
theorem dX6_barred_0 : decode cX6_barred 0 = .ok (.aload_n 0, 1) := by decide +kernel
theorem dX6_barred_1 : decode cX6_barred 1 = .ok (.getfield 33, 3) := by decide +kernel
theorem dX6_barred_4 : decode cX6_barred 4 = .ok (.iload_n 1, 1) := by decide +kernel
theorem dX6_barred_5 : decode cX6_barred 5 = .ok (.invokevirtual 133, 3) := by decide +kernel
theorem dX6_barred_8 : decode cX6_barred 8 = .ok (.ifCond .ne 5, 3) := by decide +kernel
theorem dX6_barred_11 : decode cX6_barred 11 = .ok (.iconst (-1), 1) := by decide +kernel
theorem dX6_barred_12 : decode cX6_barred 12 = .ok (.ireturn, 1) := by decide +kernel
theorem dX6_barred_13 : decode cX6_barred 13 = .ok (.aload_n 0, 1) := by decide +kernel
theorem dX6_barred_14 : decode cX6_barred 14 = .ok (.getfield 33, 3) := by decide +kernel
theorem dX6_barred_17 : decode cX6_barred 17 = .ok (.iload_n 1, 1) := by decide +kernel
theorem dX6_barred_18 : decode cX6_barred 18 = .ok (.aload_n 0, 1) := by decide +kernel
theorem dX6_barred_19 : decode cX6_barred 19 = .ok (.getfield 10, 3) := by decide +kernel
theorem dX6_barred_22 : decode cX6_barred 22 = .ok (.aload_n 0, 1) := by decide +kernel
theorem dX6_barred_23 : decode cX6_barred 23 = .ok (.getfield 26, 3) := by decide +kernel
theorem dX6_barred_26 : decode cX6_barred 26 = .ok (.invokevirtual 144, 3) := by decide +kernel
theorem dX6_barred_29 : decode cX6_barred 29 = .ok (.ireturn, 1) := by decide +kernel
theorem dX6_let_0 : decode cX6_let 0 = .ok (.iload 4, 2) := by decide +kernel
theorem dX6_let_2 : decode cX6_let 2 = .ok (.iconst (-1), 1) := by decide +kernel
theorem dX6_let_3 : decode cX6_let 3 = .ok (.if_icmp .eq 17, 3) := by decide +kernel
theorem dX6_let_6 : decode cX6_let 6 = .ok (.aload_n 0, 1) := by decide +kernel
theorem dX6_let_7 : decode cX6_let 7 = .ok (.getfield 26, 3) := by decide +kernel
theorem dX6_let_10 : decode cX6_let 10 = .ok (.iload 4, 2) := by decide +kernel
theorem dX6_let_12 : decode cX6_let 12 = .ok (.invokevirtual 115, 3) := by decide +kernel
theorem dX6_let_15 : decode cX6_let 15 = .ok (.ifCond .ne 5, 3) := by decide +kernel
theorem dX6_let_18 : decode cX6_let 18 = .ok (.iconst (-1), 1) := by decide +kernel
theorem dX6_let_19 : decode cX6_let 19 = .ok (.ireturn, 1) := by decide +kernel
theorem dX6_let_20 : decode cX6_let 20 = .ok (.iload_n 1, 1) := by decide +kernel
theorem dX6_let_21 : decode cX6_let 21 = .ok (.invokestatic 51, 3) := by decide +kernel
theorem dX6_let_24 : decode cX6_let 24 = .ok (.ifCond .eq 24, 3) := by decide +kernel
theorem dX6_let_27 : decode cX6_let 27 = .ok (.iload_n 2, 1) := by decide +kernel
theorem dX6_let_28 : decode cX6_let 28 = .ok (.iconst 1, 1) := by decide +kernel
theorem dX6_let_29 : decode cX6_let 29 = .ok (.bipush 30, 2) := by decide +kernel
theorem dX6_let_31 : decode cX6_let 31 = .ok (.invokestatic 55, 3) := by decide +kernel
theorem dX6_let_34 : decode cX6_let 34 = .ok (.ifCond .eq 14, 3) := by decide +kernel
theorem dX6_let_37 : decode cX6_let 37 = .ok (.iload_n 3, 1) := by decide +kernel
theorem dX6_let_38 : decode cX6_let 38 = .ok (.iconst 1, 1) := by decide +kernel
theorem dX6_let_39 : decode cX6_let 39 = .ok (.sipush 1000, 3) := by decide +kernel
theorem dX6_let_42 : decode cX6_let 42 = .ok (.invokestatic 55, 3) := by decide +kernel
theorem dX6_let_45 : decode cX6_let 45 = .ok (.ifCond .ne 6, 3) := by decide +kernel
theorem dX6_let_48 : decode cX6_let 48 = .ok (.bipush (-2), 2) := by decide +kernel
theorem dX6_let_50 : decode cX6_let 50 = .ok (.ireturn, 1) := by decide +kernel
theorem dX6_let_51 : decode cX6_let 51 = .ok (.aload_n 0, 1) := by decide +kernel
theorem dX6_let_52 : decode cX6_let 52 = .ok (.getfield 40, 3) := by decide +kernel
theorem dX6_let_55 : decode cX6_let 55 = .ok (.getfield 148, 3) := by decide +kernel
theorem dX6_let_58 : decode cX6_let 58 = .ok (.bipush 10, 2) := by decide +kernel
theorem dX6_let_60 : decode cX6_let 60 = .ok (.if_icmp .lt 6, 3) := by decide +kernel
theorem dX6_let_63 : decode cX6_let 63 = .ok (.bipush (-4), 2) := by decide +kernel
theorem dX6_let_65 : decode cX6_let 65 = .ok (.ireturn, 1) := by decide +kernel
theorem dX6_let_66 : decode cX6_let 66 = .ok (.aload_n 0, 1) := by decide +kernel
theorem dX6_let_67 : decode cX6_let 67 = .ok (.getfield 26, 3) := by decide +kernel
theorem dX6_let_70 : decode cX6_let 70 = .ok (.iload 4, 2) := by decide +kernel
theorem dX6_let_72 : decode cX6_let 72 = .ok (.invokevirtual 127, 3) := by decide +kernel
theorem dX6_let_75 : decode cX6_let 75 = .ok (.ifCond .eq 6, 3) := by decide +kernel
theorem dX6_let_78 : decode cX6_let 78 = .ok (.bipush (-5), 2) := by decide +kernel
theorem dX6_let_80 : decode cX6_let 80 = .ok (.ireturn, 1) := by decide +kernel
theorem dX6_let_81 : decode cX6_let 81 = .ok (.aload_n 0, 1) := by decide +kernel
theorem dX6_let_82 : decode cX6_let 82 = .ok (.getfield 40, 3) := by decide +kernel
theorem dX6_let_85 : decode cX6_let 85 = .ok (.getfield 148, 3) := by decide +kernel
theorem dX6_let_88 : decode cX6_let 88 = .ok (.istore 5, 2) := by decide +kernel
theorem dX6_let_90 : decode cX6_let 90 = .ok (.aload_n 0, 1) := by decide +kernel
theorem dX6_let_91 : decode cX6_let 91 = .ok (.getfield 40, 3) := by decide +kernel
theorem dX6_let_94 : decode cX6_let 94 = .ok (.iload_n 1, 1) := by decide +kernel
theorem dX6_let_95 : decode cX6_let 95 = .ok (.iload_n 2, 1) := by decide +kernel
theorem dX6_let_96 : decode cX6_let 96 = .ok (.iload_n 3, 1) := by decide +kernel
theorem dX6_let_97 : decode cX6_let 97 = .ok (.iload 4, 2) := by decide +kernel
theorem dX6_let_99 : decode cX6_let 99 = .ok (.invokevirtual 149, 3) := by decide +kernel
theorem dX6_let_102 : decode cX6_let 102 = .ok (.aload_n 0, 1) := by decide +kernel
theorem dX6_let_103 : decode cX6_let 103 = .ok (.getfield 26, 3) := by decide +kernel
theorem dX6_let_106 : decode cX6_let 106 = .ok (.iload 4, 2) := by decide +kernel
theorem dX6_let_108 : decode cX6_let 108 = .ok (.bipush 100, 2) := by decide +kernel
theorem dX6_let_110 : decode cX6_let 110 = .ok (.iload 5, 2) := by decide +kernel
theorem dX6_let_112 : decode cX6_let 112 = .ok (.iadd, 1) := by decide +kernel
theorem dX6_let_113 : decode cX6_let 113 = .ok (.invokevirtual 130, 3) := by decide +kernel
theorem dX6_let_116 : decode cX6_let 116 = .ok (.iload 5, 2) := by decide +kernel
theorem dX6_let_118 : decode cX6_let 118 = .ok (.ireturn, 1) := by decide +kernel
theorem dX6_isVoid_0 : decode cX6_isVoid 0 = .ok (.aload_n 0, 1) := by decide +kernel
theorem dX6_isVoid_1 : decode cX6_isVoid 1 = .ok (.getfield 40, 3) := by decide +kernel
theorem dX6_isVoid_4 : decode cX6_isVoid 4 = .ok (.iload_n 1, 1) := by decide +kernel
theorem dX6_isVoid_5 : decode cX6_isVoid 5 = .ok (.invokevirtual 122, 3) := by decide +kernel
theorem dX6_isVoid_8 : decode cX6_isVoid 8 = .ok (.ifCond .ne 5, 3) := by decide +kernel
theorem dX6_isVoid_11 : decode cX6_isVoid 11 = .ok (.iconst (-1), 1) := by decide +kernel
theorem dX6_isVoid_12 : decode cX6_isVoid 12 = .ok (.ireturn, 1) := by decide +kernel
theorem dX6_isVoid_13 : decode cX6_isVoid 13 = .ok (.aload_n 0, 1) := by decide +kernel
theorem dX6_isVoid_14 : decode cX6_isVoid 14 = .ok (.getfield 40, 3) := by decide +kernel
theorem dX6_isVoid_17 : decode cX6_isVoid 17 = .ok (.iload_n 1, 1) := by decide +kernel
theorem dX6_isVoid_18 : decode cX6_isVoid 18 = .ok (.aload_n 0, 1) := by decide +kernel
theorem dX6_isVoid_19 : decode cX6_isVoid 19 = .ok (.getfield 10, 3) := by decide +kernel
theorem dX6_isVoid_22 : decode cX6_isVoid 22 = .ok (.aload_n 0, 1) := by decide +kernel
theorem dX6_isVoid_23 : decode cX6_isVoid 23 = .ok (.getfield 26, 3) := by decide +kernel
theorem dX6_isVoid_26 : decode cX6_isVoid 26 = .ok (.invokevirtual 152, 3) := by decide +kernel
theorem dX6_isVoid_29 : decode cX6_isVoid 29 = .ok (.ireturn, 1) := by decide +kernel
theorem dX6_arrears_0 : decode cX6_arrears 0 = .ok (.aload_n 0, 1) := by decide +kernel
theorem dX6_arrears_1 : decode cX6_arrears 1 = .ok (.getfield 40, 3) := by decide +kernel
theorem dX6_arrears_4 : decode cX6_arrears 4 = .ok (.iload_n 1, 1) := by decide +kernel
theorem dX6_arrears_5 : decode cX6_arrears 5 = .ok (.invokevirtual 122, 3) := by decide +kernel
theorem dX6_arrears_8 : decode cX6_arrears 8 = .ok (.ifCond .ne 6, 3) := by decide +kernel
theorem dX6_arrears_11 : decode cX6_arrears 11 = .ok (.ldc 93, 2) := by decide +kernel
theorem dX6_arrears_13 : decode cX6_arrears 13 = .ok (.ireturn, 1) := by decide +kernel
theorem dX6_arrears_14 : decode cX6_arrears 14 = .ok (.iload_n 2, 1) := by decide +kernel
theorem dX6_arrears_15 : decode cX6_arrears 15 = .ok (.invokestatic 51, 3) := by decide +kernel
theorem dX6_arrears_18 : decode cX6_arrears 18 = .ok (.ifCond .ne 6, 3) := by decide +kernel
theorem dX6_arrears_21 : decode cX6_arrears 21 = .ok (.ldc 106, 2) := by decide +kernel
theorem dX6_arrears_23 : decode cX6_arrears 23 = .ok (.ireturn, 1) := by decide +kernel
theorem dX6_arrears_24 : decode cX6_arrears 24 = .ok (.aload_n 0, 1) := by decide +kernel
theorem dX6_arrears_25 : decode cX6_arrears 25 = .ok (.getfield 40, 3) := by decide +kernel
theorem dX6_arrears_28 : decode cX6_arrears 28 = .ok (.iload_n 1, 1) := by decide +kernel
theorem dX6_arrears_29 : decode cX6_arrears 29 = .ok (.aload_n 0, 1) := by decide +kernel
theorem dX6_arrears_30 : decode cX6_arrears 30 = .ok (.getfield 10, 3) := by decide +kernel
theorem dX6_arrears_33 : decode cX6_arrears 33 = .ok (.aload_n 0, 1) := by decide +kernel
theorem dX6_arrears_34 : decode cX6_arrears 34 = .ok (.getfield 26, 3) := by decide +kernel
theorem dX6_arrears_37 : decode cX6_arrears 37 = .ok (.invokevirtual 152, 3) := by decide +kernel
theorem dX6_arrears_40 : decode cX6_arrears 40 = .ok (.ifCond .ne 7, 3) := by decide +kernel
theorem dX6_arrears_43 : decode cX6_arrears 43 = .ok (.iconst 1, 1) := by decide +kernel
theorem dX6_arrears_44 : decode cX6_arrears 44 = .ok (.goto 4, 3) := by decide +kernel
theorem dX6_arrears_47 : decode cX6_arrears 47 = .ok (.iconst 0, 1) := by decide +kernel
theorem dX6_arrears_48 : decode cX6_arrears 48 = .ok (.istore_n 3, 1) := by decide +kernel
theorem dX6_arrears_49 : decode cX6_arrears 49 = .ok (.iload_n 3, 1) := by decide +kernel
theorem dX6_arrears_50 : decode cX6_arrears 50 = .ok (.ifCond .eq 15, 3) := by decide +kernel
theorem dX6_arrears_53 : decode cX6_arrears 53 = .ok (.aload_n 0, 1) := by decide +kernel
theorem dX6_arrears_54 : decode cX6_arrears 54 = .ok (.getfield 40, 3) := by decide +kernel
theorem dX6_arrears_57 : decode cX6_arrears 57 = .ok (.iload_n 1, 1) := by decide +kernel
theorem dX6_arrears_58 : decode cX6_arrears 58 = .ok (.iload_n 2, 1) := by decide +kernel
theorem dX6_arrears_59 : decode cX6_arrears 59 = .ok (.invokevirtual 155, 3) := by decide +kernel
theorem dX6_arrears_62 : decode cX6_arrears 62 = .ok (.goto 4, 3) := by decide +kernel
theorem dX6_arrears_65 : decode cX6_arrears 65 = .ok (.iconst 0, 1) := by decide +kernel
theorem dX6_arrears_66 : decode cX6_arrears 66 = .ok (.istore 4, 2) := by decide +kernel
theorem dX6_arrears_68 : decode cX6_arrears 68 = .ok (.iload 4, 2) := by decide +kernel
theorem dX6_arrears_70 : decode cX6_arrears 70 = .ok (.aload_n 0, 1) := by decide +kernel
theorem dX6_arrears_71 : decode cX6_arrears 71 = .ok (.getfield 33, 3) := by decide +kernel
theorem dX6_arrears_74 : decode cX6_arrears 74 = .ok (.iload_n 1, 1) := by decide +kernel
theorem dX6_arrears_75 : decode cX6_arrears 75 = .ok (.iload_n 2, 1) := by decide +kernel
theorem dX6_arrears_76 : decode cX6_arrears 76 = .ok (.invokevirtual 158, 3) := by decide +kernel
theorem dX6_arrears_79 : decode cX6_arrears 79 = .ok (.isub, 1) := by decide +kernel
theorem dX6_arrears_80 : decode cX6_arrears 80 = .ok (.ireturn, 1) := by decide +kernel
theorem dX6_pot_0 : decode cX6_pot 0 = .ok (.iload_n 1, 1) := by decide +kernel
theorem dX6_pot_1 : decode cX6_pot 1 = .ok (.invokestatic 51, 3) := by decide +kernel
theorem dX6_pot_4 : decode cX6_pot 4 = .ok (.ifCond .ne 6, 3) := by decide +kernel
theorem dX6_pot_7 : decode cX6_pot 7 = .ok (.ldc 106, 2) := by decide +kernel
theorem dX6_pot_9 : decode cX6_pot 9 = .ok (.ireturn, 1) := by decide +kernel
theorem dX6_pot_10 : decode cX6_pot 10 = .ok (.aload_n 0, 1) := by decide +kernel
theorem dX6_pot_11 : decode cX6_pot 11 = .ok (.invokevirtual 94, 3) := by decide +kernel
theorem dX6_pot_14 : decode cX6_pot 14 = .ok (.aload_n 0, 1) := by decide +kernel
theorem dX6_pot_15 : decode cX6_pot 15 = .ok (.getfield 47, 3) := by decide +kernel
theorem dX6_pot_18 : decode cX6_pot 18 = .ok (.iload_n 1, 1) := by decide +kernel
theorem dX6_pot_19 : decode cX6_pot 19 = .ok (.aload_n 0, 1) := by decide +kernel
theorem dX6_pot_20 : decode cX6_pot 20 = .ok (.getfield 19, 3) := by decide +kernel
theorem dX6_pot_23 : decode cX6_pot 23 = .ok (.aload_n 0, 1) := by decide +kernel
theorem dX6_pot_24 : decode cX6_pot 24 = .ok (.getfield 33, 3) := by decide +kernel
theorem dX6_pot_27 : decode cX6_pot 27 = .ok (.invokevirtual 161, 3) := by decide +kernel
theorem dX6_pot_30 : decode cX6_pot 30 = .ok (.ireturn, 1) := by decide +kernel
theorem dX6_account_0 : decode cX6_account 0 = .ok (.iload_n 1, 1) := by decide +kernel
theorem dX6_account_1 : decode cX6_account 1 = .ok (.invokestatic 165, 3) := by decide +kernel
theorem dX6_account_4 : decode cX6_account 4 = .ok (.ifCond .ne 6, 3) := by decide +kernel
theorem dX6_account_7 : decode cX6_account 7 = .ok (.ldc 93, 2) := by decide +kernel
theorem dX6_account_9 : decode cX6_account 9 = .ok (.ireturn, 1) := by decide +kernel
theorem dX6_account_10 : decode cX6_account 10 = .ok (.iload_n 2, 1) := by decide +kernel
theorem dX6_account_11 : decode cX6_account 11 = .ok (.iconst 0, 1) := by decide +kernel
theorem dX6_account_12 : decode cX6_account 12 = .ok (.iconst 5, 1) := by decide +kernel
theorem dX6_account_13 : decode cX6_account 13 = .ok (.invokestatic 55, 3) := by decide +kernel
theorem dX6_account_16 : decode cX6_account 16 = .ok (.ifCond .ne 6, 3) := by decide +kernel
theorem dX6_account_19 : decode cX6_account 19 = .ok (.ldc 106, 2) := by decide +kernel
theorem dX6_account_21 : decode cX6_account 21 = .ok (.ireturn, 1) := by decide +kernel
theorem dX6_account_22 : decode cX6_account 22 = .ok (.aload_n 0, 1) := by decide +kernel
theorem dX6_account_23 : decode cX6_account 23 = .ok (.invokevirtual 94, 3) := by decide +kernel
theorem dX6_account_26 : decode cX6_account 26 = .ok (.aload_n 0, 1) := by decide +kernel
theorem dX6_account_27 : decode cX6_account 27 = .ok (.getfield 47, 3) := by decide +kernel
theorem dX6_account_30 : decode cX6_account 30 = .ok (.iload_n 1, 1) := by decide +kernel
theorem dX6_account_31 : decode cX6_account 31 = .ok (.iload_n 2, 1) := by decide +kernel
theorem dX6_account_32 : decode cX6_account 32 = .ok (.invokevirtual 168, 3) := by decide +kernel
theorem dX6_account_35 : decode cX6_account 35 = .ok (.ireturn, 1) := by decide +kernel
theorem dX6_pass_0 : decode cX6_pass 0 = .ok (.iload_n 1, 1) := by decide +kernel
theorem dX6_pass_1 : decode cX6_pass 1 = .ok (.invokestatic 165, 3) := by decide +kernel
theorem dX6_pass_4 : decode cX6_pass 4 = .ok (.ifCond .ne 6, 3) := by decide +kernel
theorem dX6_pass_7 : decode cX6_pass 7 = .ok (.ldc 93, 2) := by decide +kernel
theorem dX6_pass_9 : decode cX6_pass 9 = .ok (.ireturn, 1) := by decide +kernel
theorem dX6_pass_10 : decode cX6_pass 10 = .ok (.aload_n 0, 1) := by decide +kernel
theorem dX6_pass_11 : decode cX6_pass 11 = .ok (.invokevirtual 94, 3) := by decide +kernel
theorem dX6_pass_14 : decode cX6_pass 14 = .ok (.aload_n 0, 1) := by decide +kernel
theorem dX6_pass_15 : decode cX6_pass 15 = .ok (.getfield 47, 3) := by decide +kernel
theorem dX6_pass_18 : decode cX6_pass 18 = .ok (.iload_n 1, 1) := by decide +kernel
theorem dX6_pass_19 : decode cX6_pass 19 = .ok (.invokevirtual 171, 3) := by decide +kernel
theorem dX6_pass_22 : decode cX6_pass 22 = .ok (.aload_n 0, 1) := by decide +kernel
theorem dX6_pass_23 : decode cX6_pass 23 = .ok (.getfield 47, 3) := by decide +kernel
theorem dX6_pass_26 : decode cX6_pass 26 = .ok (.iload_n 1, 1) := by decide +kernel
theorem dX6_pass_27 : decode cX6_pass 27 = .ok (.iconst 5, 1) := by decide +kernel
theorem dX6_pass_28 : decode cX6_pass 28 = .ok (.invokevirtual 168, 3) := by decide +kernel
theorem dX6_pass_31 : decode cX6_pass 31 = .ok (.ireturn, 1) := by decide +kernel
theorem dX6_passed_0 : decode cX6_passed 0 = .ok (.iload_n 1, 1) := by decide +kernel
theorem dX6_passed_1 : decode cX6_passed 1 = .ok (.invokestatic 165, 3) := by decide +kernel
theorem dX6_passed_4 : decode cX6_passed 4 = .ok (.ifCond .ne 6, 3) := by decide +kernel
theorem dX6_passed_7 : decode cX6_passed 7 = .ok (.ldc 93, 2) := by decide +kernel
theorem dX6_passed_9 : decode cX6_passed 9 = .ok (.ireturn, 1) := by decide +kernel
theorem dX6_passed_10 : decode cX6_passed 10 = .ok (.iload_n 2, 1) := by decide +kernel
theorem dX6_passed_11 : decode cX6_passed 11 = .ok (.iconst 0, 1) := by decide +kernel
theorem dX6_passed_12 : decode cX6_passed 12 = .ok (.iconst 5, 1) := by decide +kernel
theorem dX6_passed_13 : decode cX6_passed 13 = .ok (.invokestatic 55, 3) := by decide +kernel
theorem dX6_passed_16 : decode cX6_passed 16 = .ok (.ifCond .ne 6, 3) := by decide +kernel
theorem dX6_passed_19 : decode cX6_passed 19 = .ok (.ldc 106, 2) := by decide +kernel
theorem dX6_passed_21 : decode cX6_passed 21 = .ok (.ireturn, 1) := by decide +kernel
theorem dX6_passed_22 : decode cX6_passed 22 = .ok (.aload_n 0, 1) := by decide +kernel
theorem dX6_passed_23 : decode cX6_passed 23 = .ok (.getfield 47, 3) := by decide +kernel
theorem dX6_passed_26 : decode cX6_passed 26 = .ok (.iload_n 1, 1) := by decide +kernel
theorem dX6_passed_27 : decode cX6_passed 27 = .ok (.invokevirtual 174, 3) := by decide +kernel
theorem dX6_passed_30 : decode cX6_passed 30 = .ok (.ifCond .ne 6, 3) := by decide +kernel
theorem dX6_passed_33 : decode cX6_passed 33 = .ok (.ldc 177, 2) := by decide +kernel
theorem dX6_passed_35 : decode cX6_passed 35 = .ok (.ireturn, 1) := by decide +kernel
theorem dX6_passed_36 : decode cX6_passed 36 = .ok (.aload_n 0, 1) := by decide +kernel
theorem dX6_passed_37 : decode cX6_passed 37 = .ok (.getfield 47, 3) := by decide +kernel
theorem dX6_passed_40 : decode cX6_passed 40 = .ok (.iload_n 1, 1) := by decide +kernel
theorem dX6_passed_41 : decode cX6_passed 41 = .ok (.iload_n 2, 1) := by decide +kernel
theorem dX6_passed_42 : decode cX6_passed 42 = .ok (.invokevirtual 178, 3) := by decide +kernel
theorem dX6_passed_45 : decode cX6_passed 45 = .ok (.ireturn, 1) := by decide +kernel
theorem dX6_open_0 : decode cX6_open 0 = .ok (.aload_n 0, 1) := by decide +kernel
theorem dX6_open_1 : decode cX6_open 1 = .ok (.invokevirtual 94, 3) := by decide +kernel
theorem dX6_open_4 : decode cX6_open 4 = .ok (.aload_n 0, 1) := by decide +kernel
theorem dX6_open_5 : decode cX6_open 5 = .ok (.getfield 47, 3) := by decide +kernel
theorem dX6_open_8 : decode cX6_open 8 = .ok (.invokevirtual 181, 3) := by decide +kernel
theorem dX6_open_11 : decode cX6_open 11 = .ok (.ireturn, 1) := by decide +kernel
theorem dX6_told_0 : decode cX6_told 0 = .ok (.iload_n 1, 1) := by decide +kernel
theorem dX6_told_1 : decode cX6_told 1 = .ok (.tableswitch 87 0 5 #[39, 47, 55, 63, 71, 79], 39) := by decide +kernel
theorem dX6_told_40 : decode cX6_told 40 = .ok (.aload_n 0, 1) := by decide +kernel
theorem dX6_told_41 : decode cX6_told 41 = .ok (.getfield 10, 3) := by decide +kernel
theorem dX6_told_44 : decode cX6_told 44 = .ok (.getfield 59, 3) := by decide +kernel
theorem dX6_told_47 : decode cX6_told 47 = .ok (.ireturn, 1) := by decide +kernel
theorem dX6_told_48 : decode cX6_told 48 = .ok (.aload_n 0, 1) := by decide +kernel
theorem dX6_told_49 : decode cX6_told 49 = .ok (.getfield 19, 3) := by decide +kernel
theorem dX6_told_52 : decode cX6_told 52 = .ok (.getfield 75, 3) := by decide +kernel
theorem dX6_told_55 : decode cX6_told 55 = .ok (.ireturn, 1) := by decide +kernel
theorem dX6_told_56 : decode cX6_told 56 = .ok (.aload_n 0, 1) := by decide +kernel
theorem dX6_told_57 : decode cX6_told 57 = .ok (.getfield 26, 3) := by decide +kernel
theorem dX6_told_60 : decode cX6_told 60 = .ok (.getfield 113, 3) := by decide +kernel
theorem dX6_told_63 : decode cX6_told 63 = .ok (.ireturn, 1) := by decide +kernel
theorem dX6_told_64 : decode cX6_told 64 = .ok (.aload_n 0, 1) := by decide +kernel
theorem dX6_told_65 : decode cX6_told 65 = .ok (.getfield 33, 3) := by decide +kernel
theorem dX6_told_68 : decode cX6_told 68 = .ok (.getfield 123, 3) := by decide +kernel
theorem dX6_told_71 : decode cX6_told 71 = .ok (.ireturn, 1) := by decide +kernel
theorem dX6_told_72 : decode cX6_told 72 = .ok (.aload_n 0, 1) := by decide +kernel
theorem dX6_told_73 : decode cX6_told 73 = .ok (.getfield 40, 3) := by decide +kernel
theorem dX6_told_76 : decode cX6_told 76 = .ok (.getfield 148, 3) := by decide +kernel
theorem dX6_told_79 : decode cX6_told 79 = .ok (.ireturn, 1) := by decide +kernel
theorem dX6_told_80 : decode cX6_told 80 = .ok (.aload_n 0, 1) := by decide +kernel
theorem dX6_told_81 : decode cX6_told 81 = .ok (.getfield 47, 3) := by decide +kernel
theorem dX6_told_84 : decode cX6_told 84 = .ok (.getfield 185, 3) := by decide +kernel
theorem dX6_told_87 : decode cX6_told 87 = .ok (.ireturn, 1) := by decide +kernel
theorem dX6_told_88 : decode cX6_told 88 = .ok (.bipush (-2), 2) := by decide +kernel
theorem dX6_told_90 : decode cX6_told 90 = .ok (.ireturn, 1) := by decide +kernel
theorem dX6_settle_0 : decode cX6_settle 0 = .ok (.aload_n 0, 1) := by decide +kernel
theorem dX6_settle_1 : decode cX6_settle 1 = .ok (.getfield 67, 3) := by decide +kernel
theorem dX6_settle_4 : decode cX6_settle 4 = .ok (.ifCond .ne 4, 3) := by decide +kernel
theorem dX6_settle_7 : decode cX6_settle 7 = .ok (.return_, 1) := by decide +kernel
theorem dX6_settle_8 : decode cX6_settle 8 = .ok (.aload_n 0, 1) := by decide +kernel
theorem dX6_settle_9 : decode cX6_settle 9 = .ok (.getfield 19, 3) := by decide +kernel
theorem dX6_settle_12 : decode cX6_settle 12 = .ok (.aload_n 0, 1) := by decide +kernel
theorem dX6_settle_13 : decode cX6_settle 13 = .ok (.getfield 10, 3) := by decide +kernel
theorem dX6_settle_16 : decode cX6_settle 16 = .ok (.invokevirtual 188, 3) := by decide +kernel
theorem dX6_settle_19 : decode cX6_settle 19 = .ok (.aload_n 0, 1) := by decide +kernel
theorem dX6_settle_20 : decode cX6_settle 20 = .ok (.getfield 33, 3) := by decide +kernel
theorem dX6_settle_23 : decode cX6_settle 23 = .ok (.aload_n 0, 1) := by decide +kernel
theorem dX6_settle_24 : decode cX6_settle 24 = .ok (.getfield 10, 3) := by decide +kernel
theorem dX6_settle_27 : decode cX6_settle 27 = .ok (.aload_n 0, 1) := by decide +kernel
theorem dX6_settle_28 : decode cX6_settle 28 = .ok (.getfield 26, 3) := by decide +kernel
theorem dX6_settle_31 : decode cX6_settle 31 = .ok (.invokevirtual 192, 3) := by decide +kernel
theorem dX6_settle_34 : decode cX6_settle 34 = .ok (.aload_n 0, 1) := by decide +kernel
theorem dX6_settle_35 : decode cX6_settle 35 = .ok (.getfield 47, 3) := by decide +kernel
theorem dX6_settle_38 : decode cX6_settle 38 = .ok (.aload_n 0, 1) := by decide +kernel
theorem dX6_settle_39 : decode cX6_settle 39 = .ok (.getfield 10, 3) := by decide +kernel
theorem dX6_settle_42 : decode cX6_settle 42 = .ok (.aload_n 0, 1) := by decide +kernel
theorem dX6_settle_43 : decode cX6_settle 43 = .ok (.getfield 19, 3) := by decide +kernel
theorem dX6_settle_46 : decode cX6_settle 46 = .ok (.aload_n 0, 1) := by decide +kernel
theorem dX6_settle_47 : decode cX6_settle 47 = .ok (.getfield 33, 3) := by decide +kernel
theorem dX6_settle_50 : decode cX6_settle 50 = .ok (.invokevirtual 196, 3) := by decide +kernel
theorem dX6_settle_53 : decode cX6_settle 53 = .ok (.aload_n 0, 1) := by decide +kernel
theorem dX6_settle_54 : decode cX6_settle 54 = .ok (.iconst 0, 1) := by decide +kernel
theorem dX6_settle_55 : decode cX6_settle 55 = .ok (.putfield 67, 3) := by decide +kernel
theorem dX6_settle_58 : decode cX6_settle 58 = .ok (.return_, 1) := by decide +kernel
theorem dX6_within_0 : decode cX6_within 0 = .ok (.iload_n 0, 1) := by decide +kernel
theorem dX6_within_1 : decode cX6_within 1 = .ok (.iload_n 1, 1) := by decide +kernel
theorem dX6_within_2 : decode cX6_within 2 = .ok (.if_icmp .lt 12, 3) := by decide +kernel
theorem dX6_within_5 : decode cX6_within 5 = .ok (.iload_n 0, 1) := by decide +kernel
theorem dX6_within_6 : decode cX6_within 6 = .ok (.iload_n 2, 1) := by decide +kernel
theorem dX6_within_7 : decode cX6_within 7 = .ok (.if_icmp .gt 7, 3) := by decide +kernel
theorem dX6_within_10 : decode cX6_within 10 = .ok (.iconst 1, 1) := by decide +kernel
theorem dX6_within_11 : decode cX6_within 11 = .ok (.goto 4, 3) := by decide +kernel
theorem dX6_within_14 : decode cX6_within 14 = .ok (.iconst 0, 1) := by decide +kernel
theorem dX6_within_15 : decode cX6_within 15 = .ok (.ireturn, 1) := by decide +kernel
theorem dX6_isDay_0 : decode cX6_isDay 0 = .ok (.iload_n 0, 1) := by decide +kernel
theorem dX6_isDay_1 : decode cX6_isDay 1 = .ok (.iconst 0, 1) := by decide +kernel
theorem dX6_isDay_2 : decode cX6_isDay 2 = .ok (.sipush 3599, 3) := by decide +kernel
theorem dX6_isDay_5 : decode cX6_isDay 5 = .ok (.invokestatic 55, 3) := by decide +kernel
theorem dX6_isDay_8 : decode cX6_isDay 8 = .ok (.ireturn, 1) := by decide +kernel
theorem dX6_isYear_0 : decode cX6_isYear 0 = .ok (.iload_n 0, 1) := by decide +kernel
theorem dX6_isYear_1 : decode cX6_isYear 1 = .ok (.iconst 0, 1) := by decide +kernel
theorem dX6_isYear_2 : decode cX6_isYear 2 = .ok (.bipush 9, 2) := by decide +kernel
theorem dX6_isYear_4 : decode cX6_isYear 4 = .ok (.invokestatic 55, 3) := by decide +kernel
theorem dX6_isYear_7 : decode cX6_isYear 7 = .ok (.ireturn, 1) := by decide +kernel
theorem dX6_isCoins_0 : decode cX6_isCoins 0 = .ok (.iload_n 0, 1) := by decide +kernel
theorem dX6_isCoins_1 : decode cX6_isCoins 1 = .ok (.iconst 1, 1) := by decide +kernel
theorem dX6_isCoins_2 : decode cX6_isCoins 2 = .ok (.sipush 10000, 3) := by decide +kernel
theorem dX6_isCoins_5 : decode cX6_isCoins 5 = .ok (.invokestatic 55, 3) := by decide +kernel
theorem dX6_isCoins_8 : decode cX6_isCoins 8 = .ok (.ireturn, 1) := by decide +kernel
theorem dX6_nextOf_0 : decode cX6_nextOf 0 = .ok (.iload_n 3, 1) := by decide +kernel
theorem dX6_nextOf_1 : decode cX6_nextOf 1 = .ok (.istore 4, 2) := by decide +kernel
theorem dX6_nextOf_3 : decode cX6_nextOf 3 = .ok (.iconst 0, 1) := by decide +kernel
theorem dX6_nextOf_4 : decode cX6_nextOf 4 = .ok (.istore 5, 2) := by decide +kernel
theorem dX6_nextOf_6 : decode cX6_nextOf 6 = .ok (.iload 5, 2) := by decide +kernel
theorem dX6_nextOf_8 : decode cX6_nextOf 8 = .ok (.iload_n 1, 1) := by decide +kernel
theorem dX6_nextOf_9 : decode cX6_nextOf 9 = .ok (.if_icmp .ge 39, 3) := by decide +kernel
theorem dX6_nextOf_12 : decode cX6_nextOf 12 = .ok (.iload 5, 2) := by decide +kernel
theorem dX6_nextOf_14 : decode cX6_nextOf 14 = .ok (.aload_n 0, 1) := by decide +kernel
theorem dX6_nextOf_15 : decode cX6_nextOf 15 = .ok (.arraylength, 1) := by decide +kernel
theorem dX6_nextOf_16 : decode cX6_nextOf 16 = .ok (.if_icmp .ge 32, 3) := by decide +kernel
theorem dX6_nextOf_19 : decode cX6_nextOf 19 = .ok (.aload_n 0, 1) := by decide +kernel
theorem dX6_nextOf_20 : decode cX6_nextOf 20 = .ok (.iload 5, 2) := by decide +kernel
theorem dX6_nextOf_22 : decode cX6_nextOf 22 = .ok (.iaload, 1) := by decide +kernel
theorem dX6_nextOf_23 : decode cX6_nextOf 23 = .ok (.iload_n 2, 1) := by decide +kernel
theorem dX6_nextOf_24 : decode cX6_nextOf 24 = .ok (.if_icmp .le 18, 3) := by decide +kernel
theorem dX6_nextOf_27 : decode cX6_nextOf 27 = .ok (.aload_n 0, 1) := by decide +kernel
theorem dX6_nextOf_28 : decode cX6_nextOf 28 = .ok (.iload 5, 2) := by decide +kernel
theorem dX6_nextOf_30 : decode cX6_nextOf 30 = .ok (.iaload, 1) := by decide +kernel
theorem dX6_nextOf_31 : decode cX6_nextOf 31 = .ok (.iload 4, 2) := by decide +kernel
theorem dX6_nextOf_33 : decode cX6_nextOf 33 = .ok (.if_icmp .ge 9, 3) := by decide +kernel
theorem dX6_nextOf_36 : decode cX6_nextOf 36 = .ok (.aload_n 0, 1) := by decide +kernel
theorem dX6_nextOf_37 : decode cX6_nextOf 37 = .ok (.iload 5, 2) := by decide +kernel
theorem dX6_nextOf_39 : decode cX6_nextOf 39 = .ok (.iaload, 1) := by decide +kernel
theorem dX6_nextOf_40 : decode cX6_nextOf 40 = .ok (.istore 4, 2) := by decide +kernel
theorem dX6_nextOf_42 : decode cX6_nextOf 42 = .ok (.iinc 5 1, 3) := by decide +kernel
theorem dX6_nextOf_45 : decode cX6_nextOf 45 = .ok (.goto (-39), 3) := by decide +kernel
theorem dX6_nextOf_48 : decode cX6_nextOf 48 = .ok (.iload 4, 2) := by decide +kernel
theorem dX6_nextOf_50 : decode cX6_nextOf 50 = .ok (.ireturn, 1) := by decide +kernel
theorem dX7_init_0 : decode cX7_init 0 = .ok (.aload_n 0, 1) := by decide +kernel
theorem dX7_init_1 : decode cX7_init 1 = .ok (.invokespecial 1, 3) := by decide +kernel
theorem dX7_init_4 : decode cX7_init 4 = .ok (.aload_n 0, 1) := by decide +kernel
theorem dX7_init_5 : decode cX7_init 5 = .ok (.bipush 8, 2) := by decide +kernel
theorem dX7_init_7 : decode cX7_init 7 = .ok (.newarray .int, 2) := by decide +kernel
theorem dX7_init_9 : decode cX7_init 9 = .ok (.putfield 7, 3) := by decide +kernel
theorem dX7_init_12 : decode cX7_init 12 = .ok (.aload_n 0, 1) := by decide +kernel
theorem dX7_init_13 : decode cX7_init 13 = .ok (.bipush 40, 2) := by decide +kernel
theorem dX7_init_15 : decode cX7_init 15 = .ok (.newarray .int, 2) := by decide +kernel
theorem dX7_init_17 : decode cX7_init 17 = .ok (.putfield 13, 3) := by decide +kernel
theorem dX7_init_20 : decode cX7_init 20 = .ok (.aload_n 0, 1) := by decide +kernel
theorem dX7_init_21 : decode cX7_init 21 = .ok (.bipush 6, 2) := by decide +kernel
theorem dX7_init_23 : decode cX7_init 23 = .ok (.newarray .int, 2) := by decide +kernel
theorem dX7_init_25 : decode cX7_init 25 = .ok (.putfield 16, 3) := by decide +kernel
theorem dX7_init_28 : decode cX7_init 28 = .ok (.aload_n 0, 1) := by decide +kernel
theorem dX7_init_29 : decode cX7_init 29 = .ok (.bipush 6, 2) := by decide +kernel
theorem dX7_init_31 : decode cX7_init 31 = .ok (.newarray .int, 2) := by decide +kernel
theorem dX7_init_33 : decode cX7_init 33 = .ok (.putfield 19, 3) := by decide +kernel
theorem dX7_init_36 : decode cX7_init 36 = .ok (.aload_n 0, 1) := by decide +kernel
theorem dX7_init_37 : decode cX7_init 37 = .ok (.bipush 10, 2) := by decide +kernel
theorem dX7_init_39 : decode cX7_init 39 = .ok (.newarray .int, 2) := by decide +kernel
theorem dX7_init_41 : decode cX7_init 41 = .ok (.putfield 22, 3) := by decide +kernel
theorem dX7_init_44 : decode cX7_init 44 = .ok (.aload_n 0, 1) := by decide +kernel
theorem dX7_init_45 : decode cX7_init 45 = .ok (.bipush 10, 2) := by decide +kernel
theorem dX7_init_47 : decode cX7_init 47 = .ok (.newarray .int, 2) := by decide +kernel
theorem dX7_init_49 : decode cX7_init 49 = .ok (.putfield 25, 3) := by decide +kernel
theorem dX7_init_52 : decode cX7_init 52 = .ok (.aload_n 0, 1) := by decide +kernel
theorem dX7_init_53 : decode cX7_init 53 = .ok (.bipush 60, 2) := by decide +kernel
theorem dX7_init_55 : decode cX7_init 55 = .ok (.newarray .boolean, 2) := by decide +kernel
theorem dX7_init_57 : decode cX7_init 57 = .ok (.putfield 28, 3) := by decide +kernel
theorem dX7_init_60 : decode cX7_init 60 = .ok (.aload_n 0, 1) := by decide +kernel
theorem dX7_init_61 : decode cX7_init 61 = .ok (.bipush 60, 2) := by decide +kernel
theorem dX7_init_63 : decode cX7_init 63 = .ok (.newarray .int, 2) := by decide +kernel
theorem dX7_init_65 : decode cX7_init 65 = .ok (.putfield 32, 3) := by decide +kernel
theorem dX7_init_68 : decode cX7_init 68 = .ok (.aload_n 0, 1) := by decide +kernel
theorem dX7_init_69 : decode cX7_init 69 = .ok (.bipush 60, 2) := by decide +kernel
theorem dX7_init_71 : decode cX7_init 71 = .ok (.newarray .int, 2) := by decide +kernel
theorem dX7_init_73 : decode cX7_init 73 = .ok (.putfield 35, 3) := by decide +kernel
theorem dX7_init_76 : decode cX7_init 76 = .ok (.aload_n 0, 1) := by decide +kernel
theorem dX7_init_77 : decode cX7_init 77 = .ok (.bipush 60, 2) := by decide +kernel
theorem dX7_init_79 : decode cX7_init 79 = .ok (.newarray .int, 2) := by decide +kernel
theorem dX7_init_81 : decode cX7_init 81 = .ok (.putfield 38, 3) := by decide +kernel
theorem dX7_init_84 : decode cX7_init 84 = .ok (.aload_n 0, 1) := by decide +kernel
theorem dX7_init_85 : decode cX7_init 85 = .ok (.bipush 60, 2) := by decide +kernel
theorem dX7_init_87 : decode cX7_init 87 = .ok (.newarray .boolean, 2) := by decide +kernel
theorem dX7_init_89 : decode cX7_init 89 = .ok (.putfield 41, 3) := by decide +kernel
theorem dX7_init_92 : decode cX7_init 92 = .ok (.aload_n 0, 1) := by decide +kernel
theorem dX7_init_93 : decode cX7_init 93 = .ok (.bipush 60, 2) := by decide +kernel
theorem dX7_init_95 : decode cX7_init 95 = .ok (.newarray .boolean, 2) := by decide +kernel
theorem dX7_init_97 : decode cX7_init 97 = .ok (.putfield 44, 3) := by decide +kernel
theorem dX7_init_100 : decode cX7_init 100 = .ok (.aload_n 0, 1) := by decide +kernel
theorem dX7_init_101 : decode cX7_init 101 = .ok (.bipush 10, 2) := by decide +kernel
theorem dX7_init_103 : decode cX7_init 103 = .ok (.newarray .int, 2) := by decide +kernel
theorem dX7_init_105 : decode cX7_init 105 = .ok (.putfield 47, 3) := by decide +kernel
theorem dX7_init_108 : decode cX7_init 108 = .ok (.aload_n 0, 1) := by decide +kernel
theorem dX7_init_109 : decode cX7_init 109 = .ok (.bipush 10, 2) := by decide +kernel
theorem dX7_init_111 : decode cX7_init 111 = .ok (.newarray .int, 2) := by decide +kernel
theorem dX7_init_113 : decode cX7_init 113 = .ok (.putfield 50, 3) := by decide +kernel
theorem dX7_init_116 : decode cX7_init 116 = .ok (.aload_n 0, 1) := by decide +kernel
theorem dX7_init_117 : decode cX7_init 117 = .ok (.bipush 10, 2) := by decide +kernel
theorem dX7_init_119 : decode cX7_init 119 = .ok (.newarray .int, 2) := by decide +kernel
theorem dX7_init_121 : decode cX7_init 121 = .ok (.putfield 53, 3) := by decide +kernel
theorem dX7_init_124 : decode cX7_init 124 = .ok (.aload_n 0, 1) := by decide +kernel
theorem dX7_init_125 : decode cX7_init 125 = .ok (.bipush 10, 2) := by decide +kernel
theorem dX7_init_127 : decode cX7_init 127 = .ok (.newarray .int, 2) := by decide +kernel
theorem dX7_init_129 : decode cX7_init 129 = .ok (.putfield 56, 3) := by decide +kernel
theorem dX7_init_132 : decode cX7_init 132 = .ok (.aload_n 0, 1) := by decide +kernel
theorem dX7_init_133 : decode cX7_init 133 = .ok (.bipush 60, 2) := by decide +kernel
theorem dX7_init_135 : decode cX7_init 135 = .ok (.newarray .int, 2) := by decide +kernel
theorem dX7_init_137 : decode cX7_init 137 = .ok (.putfield 59, 3) := by decide +kernel
theorem dX7_init_140 : decode cX7_init 140 = .ok (.aload_n 0, 1) := by decide +kernel
theorem dX7_init_141 : decode cX7_init 141 = .ok (.sipush 3600, 3) := by decide +kernel
theorem dX7_init_144 : decode cX7_init 144 = .ok (.newarray .int, 2) := by decide +kernel
theorem dX7_init_146 : decode cX7_init 146 = .ok (.putfield 62, 3) := by decide +kernel
theorem dX7_init_149 : decode cX7_init 149 = .ok (.aload_n 0, 1) := by decide +kernel
theorem dX7_init_150 : decode cX7_init 150 = .ok (.bipush 60, 2) := by decide +kernel
theorem dX7_init_152 : decode cX7_init 152 = .ok (.newarray .int, 2) := by decide +kernel
theorem dX7_init_154 : decode cX7_init 154 = .ok (.putfield 65, 3) := by decide +kernel
theorem dX7_init_157 : decode cX7_init 157 = .ok (.aload_n 0, 1) := by decide +kernel
theorem dX7_init_158 : decode cX7_init 158 = .ok (.bipush 6, 2) := by decide +kernel
theorem dX7_init_160 : decode cX7_init 160 = .ok (.newarray .int, 2) := by decide +kernel
theorem dX7_init_162 : decode cX7_init 162 = .ok (.putfield 68, 3) := by decide +kernel
theorem dX7_init_165 : decode cX7_init 165 = .ok (.aload_n 0, 1) := by decide +kernel
theorem dX7_init_166 : decode cX7_init 166 = .ok (.bipush 6, 2) := by decide +kernel
theorem dX7_init_168 : decode cX7_init 168 = .ok (.newarray .int, 2) := by decide +kernel
theorem dX7_init_170 : decode cX7_init 170 = .ok (.putfield 71, 3) := by decide +kernel
theorem dX7_init_173 : decode cX7_init 173 = .ok (.aload_n 0, 1) := by decide +kernel
theorem dX7_init_174 : decode cX7_init 174 = .ok (.bipush 6, 2) := by decide +kernel
theorem dX7_init_176 : decode cX7_init 176 = .ok (.newarray .int, 2) := by decide +kernel
theorem dX7_init_178 : decode cX7_init 178 = .ok (.putfield 74, 3) := by decide +kernel
theorem dX7_init_181 : decode cX7_init 181 = .ok (.return_, 1) := by decide +kernel
theorem dX7_in_0 : decode cX7_in 0 = .ok (.iload_n 0, 1) := by decide +kernel
theorem dX7_in_1 : decode cX7_in 1 = .ok (.iload_n 1, 1) := by decide +kernel
theorem dX7_in_2 : decode cX7_in 2 = .ok (.if_icmp .lt 12, 3) := by decide +kernel
theorem dX7_in_5 : decode cX7_in 5 = .ok (.iload_n 0, 1) := by decide +kernel
theorem dX7_in_6 : decode cX7_in 6 = .ok (.iload_n 2, 1) := by decide +kernel
theorem dX7_in_7 : decode cX7_in 7 = .ok (.if_icmp .gt 7, 3) := by decide +kernel
theorem dX7_in_10 : decode cX7_in 10 = .ok (.iconst 1, 1) := by decide +kernel
theorem dX7_in_11 : decode cX7_in 11 = .ok (.goto 4, 3) := by decide +kernel
theorem dX7_in_14 : decode cX7_in 14 = .ok (.iconst 0, 1) := by decide +kernel
theorem dX7_in_15 : decode cX7_in 15 = .ok (.ireturn, 1) := by decide +kernel
theorem dX7_isDay_0 : decode cX7_isDay 0 = .ok (.iload_n 0, 1) := by decide +kernel
theorem dX7_isDay_1 : decode cX7_isDay 1 = .ok (.iconst 0, 1) := by decide +kernel
theorem dX7_isDay_2 : decode cX7_isDay 2 = .ok (.sipush 3599, 3) := by decide +kernel
theorem dX7_isDay_5 : decode cX7_isDay 5 = .ok (.invokestatic 77, 3) := by decide +kernel
theorem dX7_isDay_8 : decode cX7_isDay 8 = .ok (.ireturn, 1) := by decide +kernel
theorem dX7_law_0 : decode cX7_law 0 = .ok (.iload_n 1, 1) := by decide +kernel
theorem dX7_law_1 : decode cX7_law 1 = .ok (.invokestatic 81, 3) := by decide +kernel
theorem dX7_law_4 : decode cX7_law 4 = .ok (.ifCond .eq 63, 3) := by decide +kernel
theorem dX7_law_7 : decode cX7_law 7 = .ok (.iload_n 2, 1) := by decide +kernel
theorem dX7_law_8 : decode cX7_law 8 = .ok (.bipush 10, 2) := by decide +kernel
theorem dX7_law_10 : decode cX7_law 10 = .ok (.bipush 30, 2) := by decide +kernel
theorem dX7_law_12 : decode cX7_law 12 = .ok (.invokestatic 77, 3) := by decide +kernel
theorem dX7_law_15 : decode cX7_law 15 = .ok (.ifCond .eq 52, 3) := by decide +kernel
theorem dX7_law_18 : decode cX7_law 18 = .ok (.iload_n 3, 1) := by decide +kernel
theorem dX7_law_19 : decode cX7_law 19 = .ok (.iconst 0, 1) := by decide +kernel
theorem dX7_law_20 : decode cX7_law 20 = .ok (.sipush 10000, 3) := by decide +kernel
theorem dX7_law_23 : decode cX7_law 23 = .ok (.invokestatic 77, 3) := by decide +kernel
theorem dX7_law_26 : decode cX7_law 26 = .ok (.ifCond .eq 41, 3) := by decide +kernel
theorem dX7_law_29 : decode cX7_law 29 = .ok (.iload 4, 2) := by decide +kernel
theorem dX7_law_31 : decode cX7_law 31 = .ok (.iconst 0, 1) := by decide +kernel
theorem dX7_law_32 : decode cX7_law 32 = .ok (.bipush 100, 2) := by decide +kernel
theorem dX7_law_34 : decode cX7_law 34 = .ok (.invokestatic 77, 3) := by decide +kernel
theorem dX7_law_37 : decode cX7_law 37 = .ok (.ifCond .eq 30, 3) := by decide +kernel
theorem dX7_law_40 : decode cX7_law 40 = .ok (.iload 5, 2) := by decide +kernel
theorem dX7_law_42 : decode cX7_law 42 = .ok (.iconst 0, 1) := by decide +kernel
theorem dX7_law_43 : decode cX7_law 43 = .ok (.sipush 10000, 3) := by decide +kernel
theorem dX7_law_46 : decode cX7_law 46 = .ok (.invokestatic 77, 3) := by decide +kernel
theorem dX7_law_49 : decode cX7_law 49 = .ok (.ifCond .eq 18, 3) := by decide +kernel
theorem dX7_law_52 : decode cX7_law 52 = .ok (.iload 6, 2) := by decide +kernel
theorem dX7_law_54 : decode cX7_law 54 = .ok (.iconst 0, 1) := by decide +kernel
theorem dX7_law_55 : decode cX7_law 55 = .ok (.bipush 10, 2) := by decide +kernel
theorem dX7_law_57 : decode cX7_law 57 = .ok (.invokestatic 77, 3) := by decide +kernel
theorem dX7_law_60 : decode cX7_law 60 = .ok (.ifCond .eq 7, 3) := by decide +kernel
theorem dX7_law_63 : decode cX7_law 63 = .ok (.iconst 1, 1) := by decide +kernel
theorem dX7_law_64 : decode cX7_law 64 = .ok (.goto 4, 3) := by decide +kernel
theorem dX7_law_67 : decode cX7_law 67 = .ok (.iconst 0, 1) := by decide +kernel
theorem dX7_law_68 : decode cX7_law 68 = .ok (.istore 7, 2) := by decide +kernel
theorem dX7_law_70 : decode cX7_law 70 = .ok (.iload 7, 2) := by decide +kernel
theorem dX7_law_72 : decode cX7_law 72 = .ok (.ifCond .ne 6, 3) := by decide +kernel
theorem dX7_law_75 : decode cX7_law 75 = .ok (.bipush (-2), 2) := by decide +kernel
theorem dX7_law_77 : decode cX7_law 77 = .ok (.ireturn, 1) := by decide +kernel
theorem dX7_law_78 : decode cX7_law 78 = .ok (.aload_n 0, 1) := by decide +kernel
theorem dX7_law_79 : decode cX7_law 79 = .ok (.getfield 85, 3) := by decide +kernel
theorem dX7_law_82 : decode cX7_law 82 = .ok (.bipush 8, 2) := by decide +kernel
theorem dX7_law_84 : decode cX7_law 84 = .ok (.if_icmp .ne 6, 3) := by decide +kernel
theorem dX7_law_87 : decode cX7_law 87 = .ok (.bipush (-4), 2) := by decide +kernel
theorem dX7_law_89 : decode cX7_law 89 = .ok (.ireturn, 1) := by decide +kernel
theorem dX7_law_90 : decode cX7_law 90 = .ok (.aload_n 0, 1) := by decide +kernel
theorem dX7_law_91 : decode cX7_law 91 = .ok (.getfield 7, 3) := by decide +kernel
theorem dX7_law_94 : decode cX7_law 94 = .ok (.aload_n 0, 1) := by decide +kernel
theorem dX7_law_95 : decode cX7_law 95 = .ok (.getfield 85, 3) := by decide +kernel
theorem dX7_law_98 : decode cX7_law 98 = .ok (.iload_n 1, 1) := by decide +kernel
theorem dX7_law_99 : decode cX7_law 99 = .ok (.iastore, 1) := by decide +kernel
theorem dX7_law_100 : decode cX7_law 100 = .ok (.aload_n 0, 1) := by decide +kernel
theorem dX7_law_101 : decode cX7_law 101 = .ok (.getfield 13, 3) := by decide +kernel
theorem dX7_law_104 : decode cX7_law 104 = .ok (.iconst 5, 1) := by decide +kernel
theorem dX7_law_105 : decode cX7_law 105 = .ok (.aload_n 0, 1) := by decide +kernel
theorem dX7_law_106 : decode cX7_law 106 = .ok (.getfield 85, 3) := by decide +kernel
theorem dX7_law_109 : decode cX7_law 109 = .ok (.imul, 1) := by decide +kernel
theorem dX7_law_110 : decode cX7_law 110 = .ok (.iload_n 2, 1) := by decide +kernel
theorem dX7_law_111 : decode cX7_law 111 = .ok (.iastore, 1) := by decide +kernel
theorem dX7_law_112 : decode cX7_law 112 = .ok (.aload_n 0, 1) := by decide +kernel
theorem dX7_law_113 : decode cX7_law 113 = .ok (.getfield 13, 3) := by decide +kernel
theorem dX7_law_116 : decode cX7_law 116 = .ok (.iconst 5, 1) := by decide +kernel
theorem dX7_law_117 : decode cX7_law 117 = .ok (.aload_n 0, 1) := by decide +kernel
theorem dX7_law_118 : decode cX7_law 118 = .ok (.getfield 85, 3) := by decide +kernel
theorem dX7_law_121 : decode cX7_law 121 = .ok (.imul, 1) := by decide +kernel
theorem dX7_law_122 : decode cX7_law 122 = .ok (.iconst 1, 1) := by decide +kernel
theorem dX7_law_123 : decode cX7_law 123 = .ok (.iadd, 1) := by decide +kernel
theorem dX7_law_124 : decode cX7_law 124 = .ok (.iload_n 3, 1) := by decide +kernel
theorem dX7_law_125 : decode cX7_law 125 = .ok (.iastore, 1) := by decide +kernel
theorem dX7_law_126 : decode cX7_law 126 = .ok (.aload_n 0, 1) := by decide +kernel
theorem dX7_law_127 : decode cX7_law 127 = .ok (.getfield 13, 3) := by decide +kernel
theorem dX7_law_130 : decode cX7_law 130 = .ok (.iconst 5, 1) := by decide +kernel
theorem dX7_law_131 : decode cX7_law 131 = .ok (.aload_n 0, 1) := by decide +kernel
theorem dX7_law_132 : decode cX7_law 132 = .ok (.getfield 85, 3) := by decide +kernel
theorem dX7_law_135 : decode cX7_law 135 = .ok (.imul, 1) := by decide +kernel
theorem dX7_law_136 : decode cX7_law 136 = .ok (.iconst 2, 1) := by decide +kernel
theorem dX7_law_137 : decode cX7_law 137 = .ok (.iadd, 1) := by decide +kernel
theorem dX7_law_138 : decode cX7_law 138 = .ok (.iload 4, 2) := by decide +kernel
theorem dX7_law_140 : decode cX7_law 140 = .ok (.iastore, 1) := by decide +kernel
theorem dX7_law_141 : decode cX7_law 141 = .ok (.aload_n 0, 1) := by decide +kernel
theorem dX7_law_142 : decode cX7_law 142 = .ok (.getfield 13, 3) := by decide +kernel
theorem dX7_law_145 : decode cX7_law 145 = .ok (.iconst 5, 1) := by decide +kernel
theorem dX7_law_146 : decode cX7_law 146 = .ok (.aload_n 0, 1) := by decide +kernel
theorem dX7_law_147 : decode cX7_law 147 = .ok (.getfield 85, 3) := by decide +kernel
theorem dX7_law_150 : decode cX7_law 150 = .ok (.imul, 1) := by decide +kernel
theorem dX7_law_151 : decode cX7_law 151 = .ok (.iconst 3, 1) := by decide +kernel
theorem dX7_law_152 : decode cX7_law 152 = .ok (.iadd, 1) := by decide +kernel
theorem dX7_law_153 : decode cX7_law 153 = .ok (.iload 5, 2) := by decide +kernel
theorem dX7_law_155 : decode cX7_law 155 = .ok (.iastore, 1) := by decide +kernel
theorem dX7_law_156 : decode cX7_law 156 = .ok (.aload_n 0, 1) := by decide +kernel
theorem dX7_law_157 : decode cX7_law 157 = .ok (.getfield 13, 3) := by decide +kernel
theorem dX7_law_160 : decode cX7_law 160 = .ok (.iconst 5, 1) := by decide +kernel
theorem dX7_law_161 : decode cX7_law 161 = .ok (.aload_n 0, 1) := by decide +kernel
theorem dX7_law_162 : decode cX7_law 162 = .ok (.getfield 85, 3) := by decide +kernel
theorem dX7_law_165 : decode cX7_law 165 = .ok (.imul, 1) := by decide +kernel
theorem dX7_law_166 : decode cX7_law 166 = .ok (.iconst 4, 1) := by decide +kernel
theorem dX7_law_167 : decode cX7_law 167 = .ok (.iadd, 1) := by decide +kernel
theorem dX7_law_168 : decode cX7_law 168 = .ok (.iload 6, 2) := by decide +kernel
theorem dX7_law_170 : decode cX7_law 170 = .ok (.iastore, 1) := by decide +kernel
theorem dX7_law_171 : decode cX7_law 171 = .ok (.aload_n 0, 1) := by decide +kernel
theorem dX7_law_172 : decode cX7_law 172 = .ok (.dup, 1) := by decide +kernel
theorem dX7_law_173 : decode cX7_law 173 = .ok (.getfield 85, 3) := by decide +kernel
theorem dX7_law_176 : decode cX7_law 176 = .ok (.iconst 1, 1) := by decide +kernel
theorem dX7_law_177 : decode cX7_law 177 = .ok (.iadd, 1) := by decide +kernel
theorem dX7_law_178 : decode cX7_law 178 = .ok (.putfield 85, 3) := by decide +kernel
theorem dX7_law_181 : decode cX7_law 181 = .ok (.aload_n 0, 1) := by decide +kernel
theorem dX7_law_182 : decode cX7_law 182 = .ok (.iconst 0, 1) := by decide +kernel
theorem dX7_law_183 : decode cX7_law 183 = .ok (.putfield 89, 3) := by decide +kernel
theorem dX7_law_186 : decode cX7_law 186 = .ok (.aload_n 0, 1) := by decide +kernel
theorem dX7_law_187 : decode cX7_law 187 = .ok (.getfield 85, 3) := by decide +kernel
theorem dX7_law_190 : decode cX7_law 190 = .ok (.ireturn, 1) := by decide +kernel
theorem dX7_lawOn_0 : decode cX7_lawOn 0 = .ok (.bipush (-6), 2) := by decide +kernel
theorem dX7_lawOn_2 : decode cX7_lawOn 2 = .ok (.istore_n 2, 1) := by decide +kernel
theorem dX7_lawOn_3 : decode cX7_lawOn 3 = .ok (.iconst 0, 1) := by decide +kernel
theorem dX7_lawOn_4 : decode cX7_lawOn 4 = .ok (.istore_n 3, 1) := by decide +kernel
theorem dX7_lawOn_5 : decode cX7_lawOn 5 = .ok (.iload_n 3, 1) := by decide +kernel
theorem dX7_lawOn_6 : decode cX7_lawOn 6 = .ok (.aload_n 0, 1) := by decide +kernel
theorem dX7_lawOn_7 : decode cX7_lawOn 7 = .ok (.getfield 85, 3) := by decide +kernel
theorem dX7_lawOn_10 : decode cX7_lawOn 10 = .ok (.if_icmp .ge 44, 3) := by decide +kernel
theorem dX7_lawOn_13 : decode cX7_lawOn 13 = .ok (.aload_n 0, 1) := by decide +kernel
theorem dX7_lawOn_14 : decode cX7_lawOn 14 = .ok (.getfield 7, 3) := by decide +kernel
theorem dX7_lawOn_17 : decode cX7_lawOn 17 = .ok (.iload_n 3, 1) := by decide +kernel
theorem dX7_lawOn_18 : decode cX7_lawOn 18 = .ok (.iaload, 1) := by decide +kernel
theorem dX7_lawOn_19 : decode cX7_lawOn 19 = .ok (.iload_n 1, 1) := by decide +kernel
theorem dX7_lawOn_20 : decode cX7_lawOn 20 = .ok (.if_icmp .gt 26, 3) := by decide +kernel
theorem dX7_lawOn_23 : decode cX7_lawOn 23 = .ok (.iload_n 2, 1) := by decide +kernel
theorem dX7_lawOn_24 : decode cX7_lawOn 24 = .ok (.ifCond .lt 18, 3) := by decide +kernel
theorem dX7_lawOn_27 : decode cX7_lawOn 27 = .ok (.aload_n 0, 1) := by decide +kernel
theorem dX7_lawOn_28 : decode cX7_lawOn 28 = .ok (.getfield 7, 3) := by decide +kernel
theorem dX7_lawOn_31 : decode cX7_lawOn 31 = .ok (.iload_n 3, 1) := by decide +kernel
theorem dX7_lawOn_32 : decode cX7_lawOn 32 = .ok (.iaload, 1) := by decide +kernel
theorem dX7_lawOn_33 : decode cX7_lawOn 33 = .ok (.aload_n 0, 1) := by decide +kernel
theorem dX7_lawOn_34 : decode cX7_lawOn 34 = .ok (.getfield 7, 3) := by decide +kernel
theorem dX7_lawOn_37 : decode cX7_lawOn 37 = .ok (.iload_n 2, 1) := by decide +kernel
theorem dX7_lawOn_38 : decode cX7_lawOn 38 = .ok (.iaload, 1) := by decide +kernel
theorem dX7_lawOn_39 : decode cX7_lawOn 39 = .ok (.if_icmp .lt 7, 3) := by decide +kernel
theorem dX7_lawOn_42 : decode cX7_lawOn 42 = .ok (.iload_n 3, 1) := by decide +kernel
theorem dX7_lawOn_43 : decode cX7_lawOn 43 = .ok (.goto 4, 3) := by decide +kernel
theorem dX7_lawOn_46 : decode cX7_lawOn 46 = .ok (.iload_n 2, 1) := by decide +kernel
theorem dX7_lawOn_47 : decode cX7_lawOn 47 = .ok (.istore_n 2, 1) := by decide +kernel
theorem dX7_lawOn_48 : decode cX7_lawOn 48 = .ok (.iinc 3 1, 3) := by decide +kernel
theorem dX7_lawOn_51 : decode cX7_lawOn 51 = .ok (.goto (-46), 3) := by decide +kernel
theorem dX7_lawOn_54 : decode cX7_lawOn 54 = .ok (.iload_n 2, 1) := by decide +kernel
theorem dX7_lawOn_55 : decode cX7_lawOn 55 = .ok (.ireturn, 1) := by decide +kernel
theorem dX7_inForce_0 : decode cX7_inForce 0 = .ok (.aload_n 0, 1) := by decide +kernel
theorem dX7_inForce_1 : decode cX7_inForce 1 = .ok (.iload_n 1, 1) := by decide +kernel
theorem dX7_inForce_2 : decode cX7_inForce 2 = .ok (.invokevirtual 93, 3) := by decide +kernel
theorem dX7_inForce_5 : decode cX7_inForce 5 = .ok (.istore_n 3, 1) := by decide +kernel
theorem dX7_inForce_6 : decode cX7_inForce 6 = .ok (.iload_n 3, 1) := by decide +kernel
theorem dX7_inForce_7 : decode cX7_inForce 7 = .ok (.ifCond .lt 14, 3) := by decide +kernel
theorem dX7_inForce_10 : decode cX7_inForce 10 = .ok (.aload_n 0, 1) := by decide +kernel
theorem dX7_inForce_11 : decode cX7_inForce 11 = .ok (.getfield 13, 3) := by decide +kernel
theorem dX7_inForce_14 : decode cX7_inForce 14 = .ok (.iconst 5, 1) := by decide +kernel
theorem dX7_inForce_15 : decode cX7_inForce 15 = .ok (.iload_n 3, 1) := by decide +kernel
theorem dX7_inForce_16 : decode cX7_inForce 16 = .ok (.imul, 1) := by decide +kernel
theorem dX7_inForce_17 : decode cX7_inForce 17 = .ok (.iload_n 2, 1) := by decide +kernel
theorem dX7_inForce_18 : decode cX7_inForce 18 = .ok (.iadd, 1) := by decide +kernel
theorem dX7_inForce_19 : decode cX7_inForce 19 = .ok (.iaload, 1) := by decide +kernel
theorem dX7_inForce_20 : decode cX7_inForce 20 = .ok (.ireturn, 1) := by decide +kernel
theorem dX7_inForce_21 : decode cX7_inForce 21 = .ok (.iload_n 2, 1) := by decide +kernel
theorem dX7_inForce_22 : decode cX7_inForce 22 = .ok (.ifCond .ne 8, 3) := by decide +kernel
theorem dX7_inForce_25 : decode cX7_inForce 25 = .ok (.bipush 21, 2) := by decide +kernel
theorem dX7_inForce_27 : decode cX7_inForce 27 = .ok (.goto 33, 3) := by decide +kernel
theorem dX7_inForce_30 : decode cX7_inForce 30 = .ok (.iload_n 2, 1) := by decide +kernel
theorem dX7_inForce_31 : decode cX7_inForce 31 = .ok (.iconst 1, 1) := by decide +kernel
theorem dX7_inForce_32 : decode cX7_inForce 32 = .ok (.if_icmp .ne 8, 3) := by decide +kernel
theorem dX7_inForce_35 : decode cX7_inForce 35 = .ok (.bipush 100, 2) := by decide +kernel
theorem dX7_inForce_37 : decode cX7_inForce 37 = .ok (.goto 23, 3) := by decide +kernel
theorem dX7_inForce_40 : decode cX7_inForce 40 = .ok (.iload_n 2, 1) := by decide +kernel
theorem dX7_inForce_41 : decode cX7_inForce 41 = .ok (.iconst 2, 1) := by decide +kernel
theorem dX7_inForce_42 : decode cX7_inForce 42 = .ok (.if_icmp .ne 7, 3) := by decide +kernel
theorem dX7_inForce_45 : decode cX7_inForce 45 = .ok (.iconst 5, 1) := by decide +kernel
theorem dX7_inForce_46 : decode cX7_inForce 46 = .ok (.goto 14, 3) := by decide +kernel
theorem dX7_inForce_49 : decode cX7_inForce 49 = .ok (.iload_n 2, 1) := by decide +kernel
theorem dX7_inForce_50 : decode cX7_inForce 50 = .ok (.iconst 3, 1) := by decide +kernel
theorem dX7_inForce_51 : decode cX7_inForce 51 = .ok (.if_icmp .ne 8, 3) := by decide +kernel
theorem dX7_inForce_54 : decode cX7_inForce 54 = .ok (.bipush 50, 2) := by decide +kernel
theorem dX7_inForce_56 : decode cX7_inForce 56 = .ok (.goto 4, 3) := by decide +kernel
theorem dX7_inForce_59 : decode cX7_inForce 59 = .ok (.iconst 3, 1) := by decide +kernel
theorem dX7_inForce_60 : decode cX7_inForce 60 = .ok (.ireturn, 1) := by decide +kernel
theorem dX7_force_0 : decode cX7_force 0 = .ok (.iload_n 1, 1) := by decide +kernel
theorem dX7_force_1 : decode cX7_force 1 = .ok (.invokestatic 81, 3) := by decide +kernel
theorem dX7_force_4 : decode cX7_force 4 = .ok (.ifCond .eq 21, 3) := by decide +kernel
theorem dX7_force_7 : decode cX7_force 7 = .ok (.iload_n 2, 1) := by decide +kernel
theorem dX7_force_8 : decode cX7_force 8 = .ok (.iconst 0, 1) := by decide +kernel
theorem dX7_force_9 : decode cX7_force 9 = .ok (.iconst 4, 1) := by decide +kernel
theorem dX7_force_10 : decode cX7_force 10 = .ok (.invokestatic 77, 3) := by decide +kernel
theorem dX7_force_13 : decode cX7_force 13 = .ok (.ifCond .eq 12, 3) := by decide +kernel
theorem dX7_force_16 : decode cX7_force 16 = .ok (.aload_n 0, 1) := by decide +kernel
theorem dX7_force_17 : decode cX7_force 17 = .ok (.iload_n 1, 1) := by decide +kernel
theorem dX7_force_18 : decode cX7_force 18 = .ok (.iload_n 2, 1) := by decide +kernel
theorem dX7_force_19 : decode cX7_force 19 = .ok (.invokevirtual 97, 3) := by decide +kernel
theorem dX7_force_22 : decode cX7_force 22 = .ok (.goto 5, 3) := by decide +kernel
theorem dX7_force_25 : decode cX7_force 25 = .ok (.bipush (-2), 2) := by decide +kernel
theorem dX7_force_27 : decode cX7_force 27 = .ok (.ireturn, 1) := by decide +kernel
theorem dX7_ward_0 : decode cX7_ward 0 = .ok (.iload_n 1, 1) := by decide +kernel
theorem dX7_ward_1 : decode cX7_ward 1 = .ok (.sipush (-10800), 3) := by decide +kernel
theorem dX7_ward_4 : decode cX7_ward 4 = .ok (.sipush 3599, 3) := by decide +kernel
theorem dX7_ward_7 : decode cX7_ward 7 = .ok (.invokestatic 77, 3) := by decide +kernel
theorem dX7_ward_10 : decode cX7_ward 10 = .ok (.ifCond .ne 6, 3) := by decide +kernel
theorem dX7_ward_13 : decode cX7_ward 13 = .ok (.bipush (-2), 2) := by decide +kernel
theorem dX7_ward_15 : decode cX7_ward 15 = .ok (.ireturn, 1) := by decide +kernel
theorem dX7_ward_16 : decode cX7_ward 16 = .ok (.aload_n 0, 1) := by decide +kernel
theorem dX7_ward_17 : decode cX7_ward 17 = .ok (.getfield 101, 3) := by decide +kernel
theorem dX7_ward_20 : decode cX7_ward 20 = .ok (.bipush 6, 2) := by decide +kernel
theorem dX7_ward_22 : decode cX7_ward 22 = .ok (.if_icmp .ne 6, 3) := by decide +kernel
theorem dX7_ward_25 : decode cX7_ward 25 = .ok (.bipush (-4), 2) := by decide +kernel
theorem dX7_ward_27 : decode cX7_ward 27 = .ok (.ireturn, 1) := by decide +kernel
theorem dX7_ward_28 : decode cX7_ward 28 = .ok (.aload_n 0, 1) := by decide +kernel
theorem dX7_ward_29 : decode cX7_ward 29 = .ok (.getfield 16, 3) := by decide +kernel
theorem dX7_ward_32 : decode cX7_ward 32 = .ok (.aload_n 0, 1) := by decide +kernel
theorem dX7_ward_33 : decode cX7_ward 33 = .ok (.getfield 101, 3) := by decide +kernel
theorem dX7_ward_36 : decode cX7_ward 36 = .ok (.iload_n 1, 1) := by decide +kernel
theorem dX7_ward_37 : decode cX7_ward 37 = .ok (.iastore, 1) := by decide +kernel
theorem dX7_ward_38 : decode cX7_ward 38 = .ok (.aload_n 0, 1) := by decide +kernel
theorem dX7_ward_39 : decode cX7_ward 39 = .ok (.getfield 19, 3) := by decide +kernel
theorem dX7_ward_42 : decode cX7_ward 42 = .ok (.aload_n 0, 1) := by decide +kernel
theorem dX7_ward_43 : decode cX7_ward 43 = .ok (.getfield 101, 3) := by decide +kernel
theorem dX7_ward_46 : decode cX7_ward 46 = .ok (.bipush (-6), 2) := by decide +kernel
theorem dX7_ward_48 : decode cX7_ward 48 = .ok (.iastore, 1) := by decide +kernel
theorem dX7_ward_49 : decode cX7_ward 49 = .ok (.aload_n 0, 1) := by decide +kernel
theorem dX7_ward_50 : decode cX7_ward 50 = .ok (.dup, 1) := by decide +kernel
theorem dX7_ward_51 : decode cX7_ward 51 = .ok (.getfield 101, 3) := by decide +kernel
theorem dX7_ward_54 : decode cX7_ward 54 = .ok (.iconst 1, 1) := by decide +kernel
theorem dX7_ward_55 : decode cX7_ward 55 = .ok (.iadd, 1) := by decide +kernel
theorem dX7_ward_56 : decode cX7_ward 56 = .ok (.putfield 101, 3) := by decide +kernel
theorem dX7_ward_59 : decode cX7_ward 59 = .ok (.aload_n 0, 1) := by decide +kernel
theorem dX7_ward_60 : decode cX7_ward 60 = .ok (.iconst 0, 1) := by decide +kernel
theorem dX7_ward_61 : decode cX7_ward 61 = .ok (.putfield 89, 3) := by decide +kernel
theorem dX7_ward_64 : decode cX7_ward 64 = .ok (.aload_n 0, 1) := by decide +kernel
theorem dX7_ward_65 : decode cX7_ward 65 = .ok (.getfield 101, 3) := by decide +kernel
theorem dX7_ward_68 : decode cX7_ward 68 = .ok (.iconst 1, 1) := by decide +kernel
theorem dX7_ward_69 : decode cX7_ward 69 = .ok (.isub, 1) := by decide +kernel
theorem dX7_ward_70 : decode cX7_ward 70 = .ok (.ireturn, 1) := by decide +kernel
theorem dX7_isWard_0 : decode cX7_isWard 0 = .ok (.iload_n 1, 1) := by decide +kernel
theorem dX7_isWard_1 : decode cX7_isWard 1 = .ok (.iconst 0, 1) := by decide +kernel
theorem dX7_isWard_2 : decode cX7_isWard 2 = .ok (.aload_n 0, 1) := by decide +kernel
theorem dX7_isWard_3 : decode cX7_isWard 3 = .ok (.getfield 101, 3) := by decide +kernel
theorem dX7_isWard_6 : decode cX7_isWard 6 = .ok (.iconst 1, 1) := by decide +kernel
theorem dX7_isWard_7 : decode cX7_isWard 7 = .ok (.isub, 1) := by decide +kernel
theorem dX7_isWard_8 : decode cX7_isWard 8 = .ok (.invokestatic 77, 3) := by decide +kernel
theorem dX7_isWard_11 : decode cX7_isWard 11 = .ok (.ireturn, 1) := by decide +kernel
theorem dX7_dies_0 : decode cX7_dies 0 = .ok (.aload_n 0, 1) := by decide +kernel
theorem dX7_dies_1 : decode cX7_dies 1 = .ok (.iload_n 1, 1) := by decide +kernel
theorem dX7_dies_2 : decode cX7_dies 2 = .ok (.invokevirtual 104, 3) := by decide +kernel
theorem dX7_dies_5 : decode cX7_dies 5 = .ok (.ifCond .ne 5, 3) := by decide +kernel
theorem dX7_dies_8 : decode cX7_dies 8 = .ok (.iconst (-1), 1) := by decide +kernel
theorem dX7_dies_9 : decode cX7_dies 9 = .ok (.ireturn, 1) := by decide +kernel
theorem dX7_dies_10 : decode cX7_dies 10 = .ok (.iload_n 2, 1) := by decide +kernel
theorem dX7_dies_11 : decode cX7_dies 11 = .ok (.iconst (-1), 1) := by decide +kernel
theorem dX7_dies_12 : decode cX7_dies 12 = .ok (.if_icmp .eq 23, 3) := by decide +kernel
theorem dX7_dies_15 : decode cX7_dies 15 = .ok (.iload_n 2, 1) := by decide +kernel
theorem dX7_dies_16 : decode cX7_dies 16 = .ok (.invokestatic 81, 3) := by decide +kernel
theorem dX7_dies_19 : decode cX7_dies 19 = .ok (.ifCond .eq 13, 3) := by decide +kernel
theorem dX7_dies_22 : decode cX7_dies 22 = .ok (.iload_n 2, 1) := by decide +kernel
theorem dX7_dies_23 : decode cX7_dies 23 = .ok (.aload_n 0, 1) := by decide +kernel
theorem dX7_dies_24 : decode cX7_dies 24 = .ok (.getfield 16, 3) := by decide +kernel
theorem dX7_dies_27 : decode cX7_dies 27 = .ok (.iload_n 1, 1) := by decide +kernel
theorem dX7_dies_28 : decode cX7_dies 28 = .ok (.iaload, 1) := by decide +kernel
theorem dX7_dies_29 : decode cX7_dies 29 = .ok (.if_icmp .ge 6, 3) := by decide +kernel
theorem dX7_dies_32 : decode cX7_dies 32 = .ok (.bipush (-2), 2) := by decide +kernel
theorem dX7_dies_34 : decode cX7_dies 34 = .ok (.ireturn, 1) := by decide +kernel
theorem dX7_dies_35 : decode cX7_dies 35 = .ok (.aload_n 0, 1) := by decide +kernel
theorem dX7_dies_36 : decode cX7_dies 36 = .ok (.getfield 19, 3) := by decide +kernel
theorem dX7_dies_39 : decode cX7_dies 39 = .ok (.iload_n 1, 1) := by decide +kernel
theorem dX7_dies_40 : decode cX7_dies 40 = .ok (.iaload, 1) := by decide +kernel
theorem dX7_dies_41 : decode cX7_dies 41 = .ok (.istore_n 3, 1) := by decide +kernel
theorem dX7_dies_42 : decode cX7_dies 42 = .ok (.aload_n 0, 1) := by decide +kernel
theorem dX7_dies_43 : decode cX7_dies 43 = .ok (.getfield 19, 3) := by decide +kernel
theorem dX7_dies_46 : decode cX7_dies 46 = .ok (.iload_n 1, 1) := by decide +kernel
theorem dX7_dies_47 : decode cX7_dies 47 = .ok (.iload_n 2, 1) := by decide +kernel
theorem dX7_dies_48 : decode cX7_dies 48 = .ok (.iconst (-1), 1) := by decide +kernel
theorem dX7_dies_49 : decode cX7_dies 49 = .ok (.if_icmp .ne 8, 3) := by decide +kernel
theorem dX7_dies_52 : decode cX7_dies 52 = .ok (.bipush (-6), 2) := by decide +kernel
theorem dX7_dies_54 : decode cX7_dies 54 = .ok (.goto 4, 3) := by decide +kernel
theorem dX7_dies_57 : decode cX7_dies 57 = .ok (.iload_n 2, 1) := by decide +kernel
theorem dX7_dies_58 : decode cX7_dies 58 = .ok (.iastore, 1) := by decide +kernel
theorem dX7_dies_59 : decode cX7_dies 59 = .ok (.aload_n 0, 1) := by decide +kernel
theorem dX7_dies_60 : decode cX7_dies 60 = .ok (.iconst 0, 1) := by decide +kernel
theorem dX7_dies_61 : decode cX7_dies 61 = .ok (.putfield 89, 3) := by decide +kernel
theorem dX7_dies_64 : decode cX7_dies 64 = .ok (.iload_n 3, 1) := by decide +kernel
theorem dX7_dies_65 : decode cX7_dies 65 = .ok (.ireturn, 1) := by decide +kernel
theorem dX7_lives_0 : decode cX7_lives 0 = .ok (.aload_n 0, 1) := by decide +kernel
theorem dX7_lives_1 : decode cX7_lives 1 = .ok (.getfield 16, 3) := by decide +kernel
theorem dX7_lives_4 : decode cX7_lives 4 = .ok (.iload_n 1, 1) := by decide +kernel
theorem dX7_lives_5 : decode cX7_lives 5 = .ok (.iaload, 1) := by decide +kernel
theorem dX7_lives_6 : decode cX7_lives 6 = .ok (.iload_n 2, 1) := by decide +kernel
theorem dX7_lives_7 : decode cX7_lives 7 = .ok (.if_icmp .gt 28, 3) := by decide +kernel
theorem dX7_lives_10 : decode cX7_lives 10 = .ok (.aload_n 0, 1) := by decide +kernel
theorem dX7_lives_11 : decode cX7_lives 11 = .ok (.getfield 19, 3) := by decide +kernel
theorem dX7_lives_14 : decode cX7_lives 14 = .ok (.iload_n 1, 1) := by decide +kernel
theorem dX7_lives_15 : decode cX7_lives 15 = .ok (.iaload, 1) := by decide +kernel
theorem dX7_lives_16 : decode cX7_lives 16 = .ok (.bipush (-6), 2) := by decide +kernel
theorem dX7_lives_18 : decode cX7_lives 18 = .ok (.if_icmp .eq 13, 3) := by decide +kernel
theorem dX7_lives_21 : decode cX7_lives 21 = .ok (.aload_n 0, 1) := by decide +kernel
theorem dX7_lives_22 : decode cX7_lives 22 = .ok (.getfield 19, 3) := by decide +kernel
theorem dX7_lives_25 : decode cX7_lives 25 = .ok (.iload_n 1, 1) := by decide +kernel
theorem dX7_lives_26 : decode cX7_lives 26 = .ok (.iaload, 1) := by decide +kernel
theorem dX7_lives_27 : decode cX7_lives 27 = .ok (.iload_n 2, 1) := by decide +kernel
theorem dX7_lives_28 : decode cX7_lives 28 = .ok (.if_icmp .le 7, 3) := by decide +kernel
theorem dX7_lives_31 : decode cX7_lives 31 = .ok (.iconst 1, 1) := by decide +kernel
theorem dX7_lives_32 : decode cX7_lives 32 = .ok (.goto 4, 3) := by decide +kernel
theorem dX7_lives_35 : decode cX7_lives 35 = .ok (.iconst 0, 1) := by decide +kernel
theorem dX7_lives_36 : decode cX7_lives 36 = .ok (.ireturn, 1) := by decide +kernel
theorem dX7_headsOn_0 : decode cX7_headsOn 0 = .ok (.iconst 0, 1) := by decide +kernel
theorem dX7_headsOn_1 : decode cX7_headsOn 1 = .ok (.istore_n 3, 1) := by decide +kernel
theorem dX7_headsOn_2 : decode cX7_headsOn 2 = .ok (.iconst 0, 1) := by decide +kernel
theorem dX7_headsOn_3 : decode cX7_headsOn 3 = .ok (.istore 4, 2) := by decide +kernel
theorem dX7_headsOn_5 : decode cX7_headsOn 5 = .ok (.iload 4, 2) := by decide +kernel
theorem dX7_headsOn_7 : decode cX7_headsOn 7 = .ok (.aload_n 0, 1) := by decide +kernel
theorem dX7_headsOn_8 : decode cX7_headsOn 8 = .ok (.getfield 101, 3) := by decide +kernel
theorem dX7_headsOn_11 : decode cX7_headsOn 11 = .ok (.if_icmp .ge 66, 3) := by decide +kernel
theorem dX7_headsOn_14 : decode cX7_headsOn 14 = .ok (.aload_n 0, 1) := by decide +kernel
theorem dX7_headsOn_15 : decode cX7_headsOn 15 = .ok (.getfield 71, 3) := by decide +kernel
theorem dX7_headsOn_18 : decode cX7_headsOn 18 = .ok (.iload 4, 2) := by decide +kernel
theorem dX7_headsOn_20 : decode cX7_headsOn 20 = .ok (.iaload, 1) := by decide +kernel
theorem dX7_headsOn_21 : decode cX7_headsOn 21 = .ok (.bipush (-6), 2) := by decide +kernel
theorem dX7_headsOn_23 : decode cX7_headsOn 23 = .ok (.if_icmp .eq 22, 3) := by decide +kernel
theorem dX7_headsOn_26 : decode cX7_headsOn 26 = .ok (.iload_n 2, 1) := by decide +kernel
theorem dX7_headsOn_27 : decode cX7_headsOn 27 = .ok (.ifCond .eq 14, 3) := by decide +kernel
theorem dX7_headsOn_30 : decode cX7_headsOn 30 = .ok (.aload_n 0, 1) := by decide +kernel
theorem dX7_headsOn_31 : decode cX7_headsOn 31 = .ok (.getfield 71, 3) := by decide +kernel
theorem dX7_headsOn_34 : decode cX7_headsOn 34 = .ok (.iload 4, 2) := by decide +kernel
theorem dX7_headsOn_36 : decode cX7_headsOn 36 = .ok (.iaload, 1) := by decide +kernel
theorem dX7_headsOn_37 : decode cX7_headsOn 37 = .ok (.iload_n 1, 1) := by decide +kernel
theorem dX7_headsOn_38 : decode cX7_headsOn 38 = .ok (.if_icmp .ge 7, 3) := by decide +kernel
theorem dX7_headsOn_41 : decode cX7_headsOn 41 = .ok (.iconst 1, 1) := by decide +kernel
theorem dX7_headsOn_42 : decode cX7_headsOn 42 = .ok (.goto 4, 3) := by decide +kernel
theorem dX7_headsOn_45 : decode cX7_headsOn 45 = .ok (.iconst 0, 1) := by decide +kernel
theorem dX7_headsOn_46 : decode cX7_headsOn 46 = .ok (.istore 5, 2) := by decide +kernel
theorem dX7_headsOn_48 : decode cX7_headsOn 48 = .ok (.iload_n 3, 1) := by decide +kernel
theorem dX7_headsOn_49 : decode cX7_headsOn 49 = .ok (.aload_n 0, 1) := by decide +kernel
theorem dX7_headsOn_50 : decode cX7_headsOn 50 = .ok (.iload 4, 2) := by decide +kernel
theorem dX7_headsOn_52 : decode cX7_headsOn 52 = .ok (.iload_n 1, 1) := by decide +kernel
theorem dX7_headsOn_53 : decode cX7_headsOn 53 = .ok (.invokevirtual 107, 3) := by decide +kernel
theorem dX7_headsOn_56 : decode cX7_headsOn 56 = .ok (.ifCond .eq 12, 3) := by decide +kernel
theorem dX7_headsOn_59 : decode cX7_headsOn 59 = .ok (.iload 5, 2) := by decide +kernel
theorem dX7_headsOn_61 : decode cX7_headsOn 61 = .ok (.ifCond .ne 7, 3) := by decide +kernel
theorem dX7_headsOn_64 : decode cX7_headsOn 64 = .ok (.iconst 1, 1) := by decide +kernel
theorem dX7_headsOn_65 : decode cX7_headsOn 65 = .ok (.goto 4, 3) := by decide +kernel
theorem dX7_headsOn_68 : decode cX7_headsOn 68 = .ok (.iconst 0, 1) := by decide +kernel
theorem dX7_headsOn_69 : decode cX7_headsOn 69 = .ok (.iadd, 1) := by decide +kernel
theorem dX7_headsOn_70 : decode cX7_headsOn 70 = .ok (.istore_n 3, 1) := by decide +kernel
theorem dX7_headsOn_71 : decode cX7_headsOn 71 = .ok (.iinc 4 1, 3) := by decide +kernel
theorem dX7_headsOn_74 : decode cX7_headsOn 74 = .ok (.goto (-69), 3) := by decide +kernel
theorem dX7_headsOn_77 : decode cX7_headsOn 77 = .ok (.iload_n 3, 1) := by decide +kernel
theorem dX7_headsOn_78 : decode cX7_headsOn 78 = .ok (.ireturn, 1) := by decide +kernel
theorem dX7_about_0 : decode cX7_about 0 = .ok (.aload_n 0, 1) := by decide +kernel
theorem dX7_about_1 : decode cX7_about 1 = .ok (.iload_n 1, 1) := by decide +kernel
theorem dX7_about_2 : decode cX7_about 2 = .ok (.invokevirtual 104, 3) := by decide +kernel
theorem dX7_about_5 : decode cX7_about 5 = .ok (.ifCond .ne 6, 3) := by decide +kernel
theorem dX7_about_8 : decode cX7_about 8 = .ok (.ldc 111, 2) := by decide +kernel
theorem dX7_about_10 : decode cX7_about 10 = .ok (.ireturn, 1) := by decide +kernel
theorem dX7_about_11 : decode cX7_about 11 = .ok (.aload_n 0, 1) := by decide +kernel
theorem dX7_about_12 : decode cX7_about 12 = .ok (.invokevirtual 112, 3) := by decide +kernel
theorem dX7_about_15 : decode cX7_about 15 = .ok (.iload_n 2, 1) := by decide +kernel
theorem dX7_about_16 : decode cX7_about 16 = .ok (.tableswitch 71 0 4 #[36, 43, 50, 57, 64], 36) := by decide +kernel
theorem dX7_about_52 : decode cX7_about 52 = .ok (.aload_n 0, 1) := by decide +kernel
theorem dX7_about_53 : decode cX7_about 53 = .ok (.getfield 16, 3) := by decide +kernel
theorem dX7_about_56 : decode cX7_about 56 = .ok (.iload_n 1, 1) := by decide +kernel
theorem dX7_about_57 : decode cX7_about 57 = .ok (.iaload, 1) := by decide +kernel
theorem dX7_about_58 : decode cX7_about 58 = .ok (.ireturn, 1) := by decide +kernel
theorem dX7_about_59 : decode cX7_about 59 = .ok (.aload_n 0, 1) := by decide +kernel
theorem dX7_about_60 : decode cX7_about 60 = .ok (.getfield 19, 3) := by decide +kernel
theorem dX7_about_63 : decode cX7_about 63 = .ok (.iload_n 1, 1) := by decide +kernel
theorem dX7_about_64 : decode cX7_about 64 = .ok (.iaload, 1) := by decide +kernel
theorem dX7_about_65 : decode cX7_about 65 = .ok (.ireturn, 1) := by decide +kernel
theorem dX7_about_66 : decode cX7_about 66 = .ok (.aload_n 0, 1) := by decide +kernel
theorem dX7_about_67 : decode cX7_about 67 = .ok (.getfield 68, 3) := by decide +kernel
theorem dX7_about_70 : decode cX7_about 70 = .ok (.iload_n 1, 1) := by decide +kernel
theorem dX7_about_71 : decode cX7_about 71 = .ok (.iaload, 1) := by decide +kernel
theorem dX7_about_72 : decode cX7_about 72 = .ok (.ireturn, 1) := by decide +kernel
theorem dX7_about_73 : decode cX7_about 73 = .ok (.aload_n 0, 1) := by decide +kernel
theorem dX7_about_74 : decode cX7_about 74 = .ok (.getfield 71, 3) := by decide +kernel
theorem dX7_about_77 : decode cX7_about 77 = .ok (.iload_n 1, 1) := by decide +kernel
theorem dX7_about_78 : decode cX7_about 78 = .ok (.iaload, 1) := by decide +kernel
theorem dX7_about_79 : decode cX7_about 79 = .ok (.ireturn, 1) := by decide +kernel
theorem dX7_about_80 : decode cX7_about 80 = .ok (.aload_n 0, 1) := by decide +kernel
theorem dX7_about_81 : decode cX7_about 81 = .ok (.getfield 74, 3) := by decide +kernel
theorem dX7_about_84 : decode cX7_about 84 = .ok (.iload_n 1, 1) := by decide +kernel
theorem dX7_about_85 : decode cX7_about 85 = .ok (.iaload, 1) := by decide +kernel
theorem dX7_about_86 : decode cX7_about 86 = .ok (.ireturn, 1) := by decide +kernel
theorem dX7_about_87 : decode cX7_about 87 = .ok (.ldc 115, 2) := by decide +kernel
theorem dX7_about_89 : decode cX7_about 89 = .ok (.ireturn, 1) := by decide +kernel
theorem dX7_heads_0 : decode cX7_heads 0 = .ok (.iload_n 1, 1) := by decide +kernel
theorem dX7_heads_1 : decode cX7_heads 1 = .ok (.invokestatic 81, 3) := by decide +kernel
theorem dX7_heads_4 : decode cX7_heads 4 = .ok (.ifCond .ne 6, 3) := by decide +kernel
theorem dX7_heads_7 : decode cX7_heads 7 = .ok (.bipush (-2), 2) := by decide +kernel
theorem dX7_heads_9 : decode cX7_heads 9 = .ok (.ireturn, 1) := by decide +kernel
theorem dX7_heads_10 : decode cX7_heads 10 = .ok (.aload_n 0, 1) := by decide +kernel
theorem dX7_heads_11 : decode cX7_heads 11 = .ok (.invokevirtual 112, 3) := by decide +kernel
theorem dX7_heads_14 : decode cX7_heads 14 = .ok (.aload_n 0, 1) := by decide +kernel
theorem dX7_heads_15 : decode cX7_heads 15 = .ok (.iload_n 1, 1) := by decide +kernel
theorem dX7_heads_16 : decode cX7_heads 16 = .ok (.iconst 1, 1) := by decide +kernel
theorem dX7_heads_17 : decode cX7_heads 17 = .ok (.invokevirtual 116, 3) := by decide +kernel
theorem dX7_heads_20 : decode cX7_heads 20 = .ok (.ireturn, 1) := by decide +kernel
theorem dX7_leave_0 : decode cX7_leave 0 = .ok (.iload_n 1, 1) := by decide +kernel
theorem dX7_leave_1 : decode cX7_leave 1 = .ok (.iconst 1, 1) := by decide +kernel
theorem dX7_leave_2 : decode cX7_leave 2 = .ok (.sipush 10000, 3) := by decide +kernel
theorem dX7_leave_5 : decode cX7_leave 5 = .ok (.invokestatic 77, 3) := by decide +kernel
theorem dX7_leave_8 : decode cX7_leave 8 = .ok (.ifCond .ne 6, 3) := by decide +kernel
theorem dX7_leave_11 : decode cX7_leave 11 = .ok (.bipush (-2), 2) := by decide +kernel
theorem dX7_leave_13 : decode cX7_leave 13 = .ok (.ireturn, 1) := by decide +kernel
theorem dX7_leave_14 : decode cX7_leave 14 = .ok (.aload_n 0, 1) := by decide +kernel
theorem dX7_leave_15 : decode cX7_leave 15 = .ok (.getfield 120, 3) := by decide +kernel
theorem dX7_leave_18 : decode cX7_leave 18 = .ok (.bipush 10, 2) := by decide +kernel
theorem dX7_leave_20 : decode cX7_leave 20 = .ok (.if_icmp .ne 6, 3) := by decide +kernel
theorem dX7_leave_23 : decode cX7_leave 23 = .ok (.bipush (-4), 2) := by decide +kernel
theorem dX7_leave_25 : decode cX7_leave 25 = .ok (.ireturn, 1) := by decide +kernel
theorem dX7_leave_26 : decode cX7_leave 26 = .ok (.aload_n 0, 1) := by decide +kernel
theorem dX7_leave_27 : decode cX7_leave 27 = .ok (.getfield 22, 3) := by decide +kernel
theorem dX7_leave_30 : decode cX7_leave 30 = .ok (.aload_n 0, 1) := by decide +kernel
theorem dX7_leave_31 : decode cX7_leave 31 = .ok (.getfield 120, 3) := by decide +kernel
theorem dX7_leave_34 : decode cX7_leave 34 = .ok (.iload_n 1, 1) := by decide +kernel
theorem dX7_leave_35 : decode cX7_leave 35 = .ok (.iastore, 1) := by decide +kernel
theorem dX7_leave_36 : decode cX7_leave 36 = .ok (.aload_n 0, 1) := by decide +kernel
theorem dX7_leave_37 : decode cX7_leave 37 = .ok (.getfield 25, 3) := by decide +kernel
theorem dX7_leave_40 : decode cX7_leave 40 = .ok (.aload_n 0, 1) := by decide +kernel
theorem dX7_leave_41 : decode cX7_leave 41 = .ok (.getfield 120, 3) := by decide +kernel
theorem dX7_leave_44 : decode cX7_leave 44 = .ok (.bipush (-6), 2) := by decide +kernel
theorem dX7_leave_46 : decode cX7_leave 46 = .ok (.iastore, 1) := by decide +kernel
theorem dX7_leave_47 : decode cX7_leave 47 = .ok (.aload_n 0, 1) := by decide +kernel
theorem dX7_leave_48 : decode cX7_leave 48 = .ok (.dup, 1) := by decide +kernel
theorem dX7_leave_49 : decode cX7_leave 49 = .ok (.getfield 120, 3) := by decide +kernel
theorem dX7_leave_52 : decode cX7_leave 52 = .ok (.iconst 1, 1) := by decide +kernel
theorem dX7_leave_53 : decode cX7_leave 53 = .ok (.iadd, 1) := by decide +kernel
theorem dX7_leave_54 : decode cX7_leave 54 = .ok (.putfield 120, 3) := by decide +kernel
theorem dX7_leave_57 : decode cX7_leave 57 = .ok (.aload_n 0, 1) := by decide +kernel
theorem dX7_leave_58 : decode cX7_leave 58 = .ok (.getfield 120, 3) := by decide +kernel
theorem dX7_leave_61 : decode cX7_leave 61 = .ok (.iconst 1, 1) := by decide +kernel
theorem dX7_leave_62 : decode cX7_leave 62 = .ok (.isub, 1) := by decide +kernel
theorem dX7_leave_63 : decode cX7_leave 63 = .ok (.ireturn, 1) := by decide +kernel
theorem dX7_isLeave_0 : decode cX7_isLeave 0 = .ok (.iload_n 1, 1) := by decide +kernel
theorem dX7_isLeave_1 : decode cX7_isLeave 1 = .ok (.iconst 0, 1) := by decide +kernel
theorem dX7_isLeave_2 : decode cX7_isLeave 2 = .ok (.aload_n 0, 1) := by decide +kernel
theorem dX7_isLeave_3 : decode cX7_isLeave 3 = .ok (.getfield 120, 3) := by decide +kernel
theorem dX7_isLeave_6 : decode cX7_isLeave 6 = .ok (.iconst 1, 1) := by decide +kernel
theorem dX7_isLeave_7 : decode cX7_isLeave 7 = .ok (.isub, 1) := by decide +kernel
theorem dX7_isLeave_8 : decode cX7_isLeave 8 = .ok (.invokestatic 77, 3) := by decide +kernel
theorem dX7_isLeave_11 : decode cX7_isLeave 11 = .ok (.ireturn, 1) := by decide +kernel
theorem dX7_ofLeave_0 : decode cX7_ofLeave 0 = .ok (.aload_n 0, 1) := by decide +kernel
theorem dX7_ofLeave_1 : decode cX7_ofLeave 1 = .ok (.iload_n 1, 1) := by decide +kernel
theorem dX7_ofLeave_2 : decode cX7_ofLeave 2 = .ok (.invokevirtual 123, 3) := by decide +kernel
theorem dX7_ofLeave_5 : decode cX7_ofLeave 5 = .ok (.ifCond .ne 5, 3) := by decide +kernel
theorem dX7_ofLeave_8 : decode cX7_ofLeave 8 = .ok (.iconst (-1), 1) := by decide +kernel
theorem dX7_ofLeave_9 : decode cX7_ofLeave 9 = .ok (.ireturn, 1) := by decide +kernel
theorem dX7_ofLeave_10 : decode cX7_ofLeave 10 = .ok (.iload_n 2, 1) := by decide +kernel
theorem dX7_ofLeave_11 : decode cX7_ofLeave 11 = .ok (.ifCond .ne 12, 3) := by decide +kernel
theorem dX7_ofLeave_14 : decode cX7_ofLeave 14 = .ok (.aload_n 0, 1) := by decide +kernel
theorem dX7_ofLeave_15 : decode cX7_ofLeave 15 = .ok (.getfield 22, 3) := by decide +kernel
theorem dX7_ofLeave_18 : decode cX7_ofLeave 18 = .ok (.iload_n 1, 1) := by decide +kernel
theorem dX7_ofLeave_19 : decode cX7_ofLeave 19 = .ok (.iaload, 1) := by decide +kernel
theorem dX7_ofLeave_20 : decode cX7_ofLeave 20 = .ok (.goto 19, 3) := by decide +kernel
theorem dX7_ofLeave_23 : decode cX7_ofLeave 23 = .ok (.iload_n 2, 1) := by decide +kernel
theorem dX7_ofLeave_24 : decode cX7_ofLeave 24 = .ok (.iconst 1, 1) := by decide +kernel
theorem dX7_ofLeave_25 : decode cX7_ofLeave 25 = .ok (.if_icmp .ne 12, 3) := by decide +kernel
theorem dX7_ofLeave_28 : decode cX7_ofLeave 28 = .ok (.aload_n 0, 1) := by decide +kernel
theorem dX7_ofLeave_29 : decode cX7_ofLeave 29 = .ok (.getfield 25, 3) := by decide +kernel
theorem dX7_ofLeave_32 : decode cX7_ofLeave 32 = .ok (.iload_n 1, 1) := by decide +kernel
theorem dX7_ofLeave_33 : decode cX7_ofLeave 33 = .ok (.iaload, 1) := by decide +kernel
theorem dX7_ofLeave_34 : decode cX7_ofLeave 34 = .ok (.goto 5, 3) := by decide +kernel
theorem dX7_ofLeave_37 : decode cX7_ofLeave 37 = .ok (.bipush (-2), 2) := by decide +kernel
theorem dX7_ofLeave_39 : decode cX7_ofLeave 39 = .ok (.ireturn, 1) := by decide +kernel
theorem dX7_isLease_0 : decode cX7_isLease 0 = .ok (.iload_n 1, 1) := by decide +kernel
theorem dX7_isLease_1 : decode cX7_isLease 1 = .ok (.iconst 0, 1) := by decide +kernel
theorem dX7_isLease_2 : decode cX7_isLease 2 = .ok (.aload_n 0, 1) := by decide +kernel
theorem dX7_isLease_3 : decode cX7_isLease 3 = .ok (.getfield 126, 3) := by decide +kernel
theorem dX7_isLease_6 : decode cX7_isLease 6 = .ok (.iconst 1, 1) := by decide +kernel
theorem dX7_isLease_7 : decode cX7_isLease 7 = .ok (.isub, 1) := by decide +kernel
theorem dX7_isLease_8 : decode cX7_isLease 8 = .ok (.invokestatic 77, 3) := by decide +kernel
theorem dX7_isLease_11 : decode cX7_isLease 11 = .ok (.ireturn, 1) := by decide +kernel
theorem dX7_isItem_0 : decode cX7_isItem 0 = .ok (.iload_n 1, 1) := by decide +kernel
theorem dX7_isItem_1 : decode cX7_isItem 1 = .ok (.iconst 0, 1) := by decide +kernel
theorem dX7_isItem_2 : decode cX7_isItem 2 = .ok (.aload_n 0, 1) := by decide +kernel
theorem dX7_isItem_3 : decode cX7_isItem 3 = .ok (.getfield 129, 3) := by decide +kernel
theorem dX7_isItem_6 : decode cX7_isItem 6 = .ok (.iconst 1, 1) := by decide +kernel
theorem dX7_isItem_7 : decode cX7_isItem 7 = .ok (.isub, 1) := by decide +kernel
theorem dX7_isItem_8 : decode cX7_isItem 8 = .ok (.invokestatic 77, 3) := by decide +kernel
theorem dX7_isItem_11 : decode cX7_isItem 11 = .ok (.ireturn, 1) := by decide +kernel
theorem dX7_item_0 : decode cX7_item 0 = .ok (.aload_n 0, 1) := by decide +kernel
theorem dX7_item_1 : decode cX7_item 1 = .ok (.getfield 28, 3) := by decide +kernel
theorem dX7_item_4 : decode cX7_item 4 = .ok (.aload_n 0, 1) := by decide +kernel
theorem dX7_item_5 : decode cX7_item 5 = .ok (.getfield 129, 3) := by decide +kernel
theorem dX7_item_8 : decode cX7_item 8 = .ok (.iload_n 1, 1) := by decide +kernel
theorem dX7_item_9 : decode cX7_item 9 = .ok (.bastore, 1) := by decide +kernel
theorem dX7_item_10 : decode cX7_item 10 = .ok (.aload_n 0, 1) := by decide +kernel
theorem dX7_item_11 : decode cX7_item 11 = .ok (.getfield 32, 3) := by decide +kernel
theorem dX7_item_14 : decode cX7_item 14 = .ok (.aload_n 0, 1) := by decide +kernel
theorem dX7_item_15 : decode cX7_item 15 = .ok (.getfield 129, 3) := by decide +kernel
theorem dX7_item_18 : decode cX7_item 18 = .ok (.iload_n 2, 1) := by decide +kernel
theorem dX7_item_19 : decode cX7_item 19 = .ok (.iastore, 1) := by decide +kernel
theorem dX7_item_20 : decode cX7_item 20 = .ok (.aload_n 0, 1) := by decide +kernel
theorem dX7_item_21 : decode cX7_item 21 = .ok (.getfield 35, 3) := by decide +kernel
theorem dX7_item_24 : decode cX7_item 24 = .ok (.aload_n 0, 1) := by decide +kernel
theorem dX7_item_25 : decode cX7_item 25 = .ok (.getfield 129, 3) := by decide +kernel
theorem dX7_item_28 : decode cX7_item 28 = .ok (.iload_n 3, 1) := by decide +kernel
theorem dX7_item_29 : decode cX7_item 29 = .ok (.iastore, 1) := by decide +kernel
theorem dX7_item_30 : decode cX7_item 30 = .ok (.aload_n 0, 1) := by decide +kernel
theorem dX7_item_31 : decode cX7_item 31 = .ok (.getfield 38, 3) := by decide +kernel
theorem dX7_item_34 : decode cX7_item 34 = .ok (.aload_n 0, 1) := by decide +kernel
theorem dX7_item_35 : decode cX7_item 35 = .ok (.getfield 129, 3) := by decide +kernel
theorem dX7_item_38 : decode cX7_item 38 = .ok (.iload 4, 2) := by decide +kernel
theorem dX7_item_40 : decode cX7_item 40 = .ok (.iastore, 1) := by decide +kernel
theorem dX7_item_41 : decode cX7_item 41 = .ok (.aload_n 0, 1) := by decide +kernel
theorem dX7_item_42 : decode cX7_item 42 = .ok (.getfield 41, 3) := by decide +kernel
theorem dX7_item_45 : decode cX7_item 45 = .ok (.aload_n 0, 1) := by decide +kernel
theorem dX7_item_46 : decode cX7_item 46 = .ok (.getfield 129, 3) := by decide +kernel
theorem dX7_item_49 : decode cX7_item 49 = .ok (.iconst 0, 1) := by decide +kernel
theorem dX7_item_50 : decode cX7_item 50 = .ok (.bastore, 1) := by decide +kernel
theorem dX7_item_51 : decode cX7_item 51 = .ok (.aload_n 0, 1) := by decide +kernel
theorem dX7_item_52 : decode cX7_item 52 = .ok (.getfield 44, 3) := by decide +kernel
theorem dX7_item_55 : decode cX7_item 55 = .ok (.aload_n 0, 1) := by decide +kernel
theorem dX7_item_56 : decode cX7_item 56 = .ok (.getfield 129, 3) := by decide +kernel
theorem dX7_item_59 : decode cX7_item 59 = .ok (.iconst 0, 1) := by decide +kernel
theorem dX7_item_60 : decode cX7_item 60 = .ok (.bastore, 1) := by decide +kernel
theorem dX7_item_61 : decode cX7_item 61 = .ok (.aload_n 0, 1) := by decide +kernel
theorem dX7_item_62 : decode cX7_item 62 = .ok (.dup, 1) := by decide +kernel
theorem dX7_item_63 : decode cX7_item 63 = .ok (.getfield 129, 3) := by decide +kernel
theorem dX7_item_66 : decode cX7_item 66 = .ok (.iconst 1, 1) := by decide +kernel
theorem dX7_item_67 : decode cX7_item 67 = .ok (.iadd, 1) := by decide +kernel
theorem dX7_item_68 : decode cX7_item 68 = .ok (.putfield 129, 3) := by decide +kernel
theorem dX7_item_71 : decode cX7_item 71 = .ok (.aload_n 0, 1) := by decide +kernel
theorem dX7_item_72 : decode cX7_item 72 = .ok (.iconst 0, 1) := by decide +kernel
theorem dX7_item_73 : decode cX7_item 73 = .ok (.putfield 89, 3) := by decide +kernel
theorem dX7_item_76 : decode cX7_item 76 = .ok (.aload_n 0, 1) := by decide +kernel
theorem dX7_item_77 : decode cX7_item 77 = .ok (.getfield 129, 3) := by decide +kernel
theorem dX7_item_80 : decode cX7_item 80 = .ok (.iconst 1, 1) := by decide +kernel
theorem dX7_item_81 : decode cX7_item 81 = .ok (.isub, 1) := by decide +kernel
theorem dX7_item_82 : decode cX7_item 82 = .ok (.ireturn, 1) := by decide +kernel
theorem dX7_receive_0 : decode cX7_receive 0 = .ok (.iload_n 3, 1) := by decide +kernel
theorem dX7_receive_1 : decode cX7_receive 1 = .ok (.iconst (-1), 1) := by decide +kernel
theorem dX7_receive_2 : decode cX7_receive 2 = .ok (.if_icmp .eq 13, 3) := by decide +kernel
theorem dX7_receive_5 : decode cX7_receive 5 = .ok (.aload_n 0, 1) := by decide +kernel
theorem dX7_receive_6 : decode cX7_receive 6 = .ok (.iload_n 3, 1) := by decide +kernel
theorem dX7_receive_7 : decode cX7_receive 7 = .ok (.invokevirtual 132, 3) := by decide +kernel
theorem dX7_receive_10 : decode cX7_receive 10 = .ok (.ifCond .ne 5, 3) := by decide +kernel
theorem dX7_receive_13 : decode cX7_receive 13 = .ok (.iconst (-1), 1) := by decide +kernel
theorem dX7_receive_14 : decode cX7_receive 14 = .ok (.ireturn, 1) := by decide +kernel
theorem dX7_receive_15 : decode cX7_receive 15 = .ok (.iload_n 1, 1) := by decide +kernel
theorem dX7_receive_16 : decode cX7_receive 16 = .ok (.invokestatic 81, 3) := by decide +kernel
theorem dX7_receive_19 : decode cX7_receive 19 = .ok (.ifCond .eq 14, 3) := by decide +kernel
theorem dX7_receive_22 : decode cX7_receive 22 = .ok (.iload_n 2, 1) := by decide +kernel
theorem dX7_receive_23 : decode cX7_receive 23 = .ok (.iconst 1, 1) := by decide +kernel
theorem dX7_receive_24 : decode cX7_receive 24 = .ok (.sipush 10000, 3) := by decide +kernel
theorem dX7_receive_27 : decode cX7_receive 27 = .ok (.invokestatic 77, 3) := by decide +kernel
theorem dX7_receive_30 : decode cX7_receive 30 = .ok (.ifCond .ne 6, 3) := by decide +kernel
theorem dX7_receive_33 : decode cX7_receive 33 = .ok (.bipush (-2), 2) := by decide +kernel
theorem dX7_receive_35 : decode cX7_receive 35 = .ok (.ireturn, 1) := by decide +kernel
theorem dX7_receive_36 : decode cX7_receive 36 = .ok (.aload_n 0, 1) := by decide +kernel
theorem dX7_receive_37 : decode cX7_receive 37 = .ok (.getfield 129, 3) := by decide +kernel
theorem dX7_receive_40 : decode cX7_receive 40 = .ok (.bipush 60, 2) := by decide +kernel
theorem dX7_receive_42 : decode cX7_receive 42 = .ok (.if_icmp .ne 8, 3) := by decide +kernel
theorem dX7_receive_45 : decode cX7_receive 45 = .ok (.bipush (-4), 2) := by decide +kernel
theorem dX7_receive_47 : decode cX7_receive 47 = .ok (.goto 11, 3) := by decide +kernel
theorem dX7_receive_50 : decode cX7_receive 50 = .ok (.aload_n 0, 1) := by decide +kernel
theorem dX7_receive_51 : decode cX7_receive 51 = .ok (.iconst 0, 1) := by decide +kernel
theorem dX7_receive_52 : decode cX7_receive 52 = .ok (.iload_n 1, 1) := by decide +kernel
theorem dX7_receive_53 : decode cX7_receive 53 = .ok (.iload_n 2, 1) := by decide +kernel
theorem dX7_receive_54 : decode cX7_receive 54 = .ok (.iload_n 3, 1) := by decide +kernel
theorem dX7_receive_55 : decode cX7_receive 55 = .ok (.invokevirtual 135, 3) := by decide +kernel
theorem dX7_receive_58 : decode cX7_receive 58 = .ok (.ireturn, 1) := by decide +kernel
theorem dX7_pay_0 : decode cX7_pay 0 = .ok (.iload_n 3, 1) := by decide +kernel
theorem dX7_pay_1 : decode cX7_pay 1 = .ok (.iconst (-1), 1) := by decide +kernel
theorem dX7_pay_2 : decode cX7_pay 2 = .ok (.if_icmp .eq 13, 3) := by decide +kernel
theorem dX7_pay_5 : decode cX7_pay 5 = .ok (.aload_n 0, 1) := by decide +kernel
theorem dX7_pay_6 : decode cX7_pay 6 = .ok (.iload_n 3, 1) := by decide +kernel
theorem dX7_pay_7 : decode cX7_pay 7 = .ok (.invokevirtual 123, 3) := by decide +kernel
theorem dX7_pay_10 : decode cX7_pay 10 = .ok (.ifCond .ne 5, 3) := by decide +kernel
theorem dX7_pay_13 : decode cX7_pay 13 = .ok (.iconst (-1), 1) := by decide +kernel
theorem dX7_pay_14 : decode cX7_pay 14 = .ok (.ireturn, 1) := by decide +kernel
theorem dX7_pay_15 : decode cX7_pay 15 = .ok (.iload_n 1, 1) := by decide +kernel
theorem dX7_pay_16 : decode cX7_pay 16 = .ok (.invokestatic 81, 3) := by decide +kernel
theorem dX7_pay_19 : decode cX7_pay 19 = .ok (.ifCond .eq 14, 3) := by decide +kernel
theorem dX7_pay_22 : decode cX7_pay 22 = .ok (.iload_n 2, 1) := by decide +kernel
theorem dX7_pay_23 : decode cX7_pay 23 = .ok (.iconst 1, 1) := by decide +kernel
theorem dX7_pay_24 : decode cX7_pay 24 = .ok (.sipush 10000, 3) := by decide +kernel
theorem dX7_pay_27 : decode cX7_pay 27 = .ok (.invokestatic 77, 3) := by decide +kernel
theorem dX7_pay_30 : decode cX7_pay 30 = .ok (.ifCond .ne 6, 3) := by decide +kernel
theorem dX7_pay_33 : decode cX7_pay 33 = .ok (.bipush (-2), 2) := by decide +kernel
theorem dX7_pay_35 : decode cX7_pay 35 = .ok (.ireturn, 1) := by decide +kernel
theorem dX7_pay_36 : decode cX7_pay 36 = .ok (.aload_n 0, 1) := by decide +kernel
theorem dX7_pay_37 : decode cX7_pay 37 = .ok (.getfield 129, 3) := by decide +kernel
theorem dX7_pay_40 : decode cX7_pay 40 = .ok (.bipush 60, 2) := by decide +kernel
theorem dX7_pay_42 : decode cX7_pay 42 = .ok (.if_icmp .ne 6, 3) := by decide +kernel
theorem dX7_pay_45 : decode cX7_pay 45 = .ok (.bipush (-4), 2) := by decide +kernel
theorem dX7_pay_47 : decode cX7_pay 47 = .ok (.ireturn, 1) := by decide +kernel
theorem dX7_pay_48 : decode cX7_pay 48 = .ok (.iload_n 3, 1) := by decide +kernel
theorem dX7_pay_49 : decode cX7_pay 49 = .ok (.ifCond .lt 17, 3) := by decide +kernel
theorem dX7_pay_52 : decode cX7_pay 52 = .ok (.aload_n 0, 1) := by decide +kernel
theorem dX7_pay_53 : decode cX7_pay 53 = .ok (.getfield 25, 3) := by decide +kernel
theorem dX7_pay_56 : decode cX7_pay 56 = .ok (.iload_n 3, 1) := by decide +kernel
theorem dX7_pay_57 : decode cX7_pay 57 = .ok (.iaload, 1) := by decide +kernel
theorem dX7_pay_58 : decode cX7_pay 58 = .ok (.bipush (-6), 2) := by decide +kernel
theorem dX7_pay_60 : decode cX7_pay 60 = .ok (.if_icmp .eq 6, 3) := by decide +kernel
theorem dX7_pay_63 : decode cX7_pay 63 = .ok (.bipush (-5), 2) := by decide +kernel
theorem dX7_pay_65 : decode cX7_pay 65 = .ok (.ireturn, 1) := by decide +kernel
theorem dX7_pay_66 : decode cX7_pay 66 = .ok (.iload_n 3, 1) := by decide +kernel
theorem dX7_pay_67 : decode cX7_pay 67 = .ok (.ifCond .lt 13, 3) := by decide +kernel
theorem dX7_pay_70 : decode cX7_pay 70 = .ok (.aload_n 0, 1) := by decide +kernel
theorem dX7_pay_71 : decode cX7_pay 71 = .ok (.getfield 25, 3) := by decide +kernel
theorem dX7_pay_74 : decode cX7_pay 74 = .ok (.iload_n 3, 1) := by decide +kernel
theorem dX7_pay_75 : decode cX7_pay 75 = .ok (.aload_n 0, 1) := by decide +kernel
theorem dX7_pay_76 : decode cX7_pay 76 = .ok (.getfield 129, 3) := by decide +kernel
theorem dX7_pay_79 : decode cX7_pay 79 = .ok (.iastore, 1) := by decide +kernel
theorem dX7_pay_80 : decode cX7_pay 80 = .ok (.aload_n 0, 1) := by decide +kernel
theorem dX7_pay_81 : decode cX7_pay 81 = .ok (.iconst 1, 1) := by decide +kernel
theorem dX7_pay_82 : decode cX7_pay 82 = .ok (.iload_n 1, 1) := by decide +kernel
theorem dX7_pay_83 : decode cX7_pay 83 = .ok (.iload_n 2, 1) := by decide +kernel
theorem dX7_pay_84 : decode cX7_pay 84 = .ok (.iload_n 3, 1) := by decide +kernel
theorem dX7_pay_85 : decode cX7_pay 85 = .ok (.invokevirtual 135, 3) := by decide +kernel
theorem dX7_pay_88 : decode cX7_pay 88 = .ok (.ireturn, 1) := by decide +kernel
theorem dX7_vouch_0 : decode cX7_vouch 0 = .ok (.aload_n 0, 1) := by decide +kernel
theorem dX7_vouch_1 : decode cX7_vouch 1 = .ok (.iload_n 1, 1) := by decide +kernel
theorem dX7_vouch_2 : decode cX7_vouch 2 = .ok (.invokevirtual 139, 3) := by decide +kernel
theorem dX7_vouch_5 : decode cX7_vouch 5 = .ok (.ifCond .ne 5, 3) := by decide +kernel
theorem dX7_vouch_8 : decode cX7_vouch 8 = .ok (.iconst (-1), 1) := by decide +kernel
theorem dX7_vouch_9 : decode cX7_vouch 9 = .ok (.ireturn, 1) := by decide +kernel
theorem dX7_vouch_10 : decode cX7_vouch 10 = .ok (.aload_n 0, 1) := by decide +kernel
theorem dX7_vouch_11 : decode cX7_vouch 11 = .ok (.getfield 28, 3) := by decide +kernel
theorem dX7_vouch_14 : decode cX7_vouch 14 = .ok (.iload_n 1, 1) := by decide +kernel
theorem dX7_vouch_15 : decode cX7_vouch 15 = .ok (.baload, 1) := by decide +kernel
theorem dX7_vouch_16 : decode cX7_vouch 16 = .ok (.ifCond .ne 6, 3) := by decide +kernel
theorem dX7_vouch_19 : decode cX7_vouch 19 = .ok (.bipush (-3), 2) := by decide +kernel
theorem dX7_vouch_21 : decode cX7_vouch 21 = .ok (.ireturn, 1) := by decide +kernel
theorem dX7_vouch_22 : decode cX7_vouch 22 = .ok (.aload_n 0, 1) := by decide +kernel
theorem dX7_vouch_23 : decode cX7_vouch 23 = .ok (.getfield 41, 3) := by decide +kernel
theorem dX7_vouch_26 : decode cX7_vouch 26 = .ok (.iload_n 1, 1) := by decide +kernel
theorem dX7_vouch_27 : decode cX7_vouch 27 = .ok (.baload, 1) := by decide +kernel
theorem dX7_vouch_28 : decode cX7_vouch 28 = .ok (.ifCond .eq 7, 3) := by decide +kernel
theorem dX7_vouch_31 : decode cX7_vouch 31 = .ok (.iconst 1, 1) := by decide +kernel
theorem dX7_vouch_32 : decode cX7_vouch 32 = .ok (.goto 4, 3) := by decide +kernel
theorem dX7_vouch_35 : decode cX7_vouch 35 = .ok (.iconst 0, 1) := by decide +kernel
theorem dX7_vouch_36 : decode cX7_vouch 36 = .ok (.istore_n 3, 1) := by decide +kernel
theorem dX7_vouch_37 : decode cX7_vouch 37 = .ok (.aload_n 0, 1) := by decide +kernel
theorem dX7_vouch_38 : decode cX7_vouch 38 = .ok (.getfield 41, 3) := by decide +kernel
theorem dX7_vouch_41 : decode cX7_vouch 41 = .ok (.iload_n 1, 1) := by decide +kernel
theorem dX7_vouch_42 : decode cX7_vouch 42 = .ok (.iload_n 2, 1) := by decide +kernel
theorem dX7_vouch_43 : decode cX7_vouch 43 = .ok (.bastore, 1) := by decide +kernel
theorem dX7_vouch_44 : decode cX7_vouch 44 = .ok (.aload_n 0, 1) := by decide +kernel
theorem dX7_vouch_45 : decode cX7_vouch 45 = .ok (.iconst 0, 1) := by decide +kernel
theorem dX7_vouch_46 : decode cX7_vouch 46 = .ok (.putfield 89, 3) := by decide +kernel
theorem dX7_vouch_49 : decode cX7_vouch 49 = .ok (.iload_n 3, 1) := by decide +kernel
theorem dX7_vouch_50 : decode cX7_vouch 50 = .ok (.ireturn, 1) := by decide +kernel
theorem dX7_challenge_0 : decode cX7_challenge 0 = .ok (.aload_n 0, 1) := by decide +kernel
theorem dX7_challenge_1 : decode cX7_challenge 1 = .ok (.iload_n 1, 1) := by decide +kernel
theorem dX7_challenge_2 : decode cX7_challenge 2 = .ok (.invokevirtual 139, 3) := by decide +kernel
theorem dX7_challenge_5 : decode cX7_challenge 5 = .ok (.ifCond .ne 5, 3) := by decide +kernel
theorem dX7_challenge_8 : decode cX7_challenge 8 = .ok (.iconst (-1), 1) := by decide +kernel
theorem dX7_challenge_9 : decode cX7_challenge 9 = .ok (.ireturn, 1) := by decide +kernel
theorem dX7_challenge_10 : decode cX7_challenge 10 = .ok (.aload_n 0, 1) := by decide +kernel
theorem dX7_challenge_11 : decode cX7_challenge 11 = .ok (.getfield 28, 3) := by decide +kernel
theorem dX7_challenge_14 : decode cX7_challenge 14 = .ok (.iload_n 1, 1) := by decide +kernel
theorem dX7_challenge_15 : decode cX7_challenge 15 = .ok (.baload, 1) := by decide +kernel
theorem dX7_challenge_16 : decode cX7_challenge 16 = .ok (.ifCond .ne 6, 3) := by decide +kernel
theorem dX7_challenge_19 : decode cX7_challenge 19 = .ok (.bipush (-3), 2) := by decide +kernel
theorem dX7_challenge_21 : decode cX7_challenge 21 = .ok (.ireturn, 1) := by decide +kernel
theorem dX7_challenge_22 : decode cX7_challenge 22 = .ok (.aload_n 0, 1) := by decide +kernel
theorem dX7_challenge_23 : decode cX7_challenge 23 = .ok (.getfield 44, 3) := by decide +kernel
theorem dX7_challenge_26 : decode cX7_challenge 26 = .ok (.iload_n 1, 1) := by decide +kernel
theorem dX7_challenge_27 : decode cX7_challenge 27 = .ok (.baload, 1) := by decide +kernel
theorem dX7_challenge_28 : decode cX7_challenge 28 = .ok (.ifCond .eq 7, 3) := by decide +kernel
theorem dX7_challenge_31 : decode cX7_challenge 31 = .ok (.iconst 1, 1) := by decide +kernel
theorem dX7_challenge_32 : decode cX7_challenge 32 = .ok (.goto 4, 3) := by decide +kernel
theorem dX7_challenge_35 : decode cX7_challenge 35 = .ok (.iconst 0, 1) := by decide +kernel
theorem dX7_challenge_36 : decode cX7_challenge 36 = .ok (.istore_n 3, 1) := by decide +kernel
theorem dX7_challenge_37 : decode cX7_challenge 37 = .ok (.aload_n 0, 1) := by decide +kernel
theorem dX7_challenge_38 : decode cX7_challenge 38 = .ok (.getfield 44, 3) := by decide +kernel
theorem dX7_challenge_41 : decode cX7_challenge 41 = .ok (.iload_n 1, 1) := by decide +kernel
theorem dX7_challenge_42 : decode cX7_challenge 42 = .ok (.iload_n 2, 1) := by decide +kernel
theorem dX7_challenge_43 : decode cX7_challenge 43 = .ok (.bastore, 1) := by decide +kernel
theorem dX7_challenge_44 : decode cX7_challenge 44 = .ok (.aload_n 0, 1) := by decide +kernel
theorem dX7_challenge_45 : decode cX7_challenge 45 = .ok (.iconst 0, 1) := by decide +kernel
theorem dX7_challenge_46 : decode cX7_challenge 46 = .ok (.putfield 89, 3) := by decide +kernel
theorem dX7_challenge_49 : decode cX7_challenge 49 = .ok (.iload_n 3, 1) := by decide +kernel
theorem dX7_challenge_50 : decode cX7_challenge 50 = .ok (.ireturn, 1) := by decide +kernel
theorem dX7_barredFor_0 : decode cX7_barredFor 0 = .ok (.aload_n 0, 1) := by decide +kernel
theorem dX7_barredFor_1 : decode cX7_barredFor 1 = .ok (.getfield 28, 3) := by decide +kernel
theorem dX7_barredFor_4 : decode cX7_barredFor 4 = .ok (.iload_n 1, 1) := by decide +kernel
theorem dX7_barredFor_5 : decode cX7_barredFor 5 = .ok (.baload, 1) := by decide +kernel
theorem dX7_barredFor_6 : decode cX7_barredFor 6 = .ok (.ifCond .ne 5, 3) := by decide +kernel
theorem dX7_barredFor_9 : decode cX7_barredFor 9 = .ok (.iconst 0, 1) := by decide +kernel
theorem dX7_barredFor_10 : decode cX7_barredFor 10 = .ok (.ireturn, 1) := by decide +kernel
theorem dX7_barredFor_11 : decode cX7_barredFor 11 = .ok (.aload_n 0, 1) := by decide +kernel
theorem dX7_barredFor_12 : decode cX7_barredFor 12 = .ok (.getfield 38, 3) := by decide +kernel
theorem dX7_barredFor_15 : decode cX7_barredFor 15 = .ok (.iload_n 1, 1) := by decide +kernel
theorem dX7_barredFor_16 : decode cX7_barredFor 16 = .ok (.iaload, 1) := by decide +kernel
theorem dX7_barredFor_17 : decode cX7_barredFor 17 = .ok (.ifCond .ge 27, 3) := by decide +kernel
theorem dX7_barredFor_20 : decode cX7_barredFor 20 = .ok (.aload_n 0, 1) := by decide +kernel
theorem dX7_barredFor_21 : decode cX7_barredFor 21 = .ok (.getfield 35, 3) := by decide +kernel
theorem dX7_barredFor_24 : decode cX7_barredFor 24 = .ok (.iload_n 1, 1) := by decide +kernel
theorem dX7_barredFor_25 : decode cX7_barredFor 25 = .ok (.iaload, 1) := by decide +kernel
theorem dX7_barredFor_26 : decode cX7_barredFor 26 = .ok (.aload_n 0, 1) := by decide +kernel
theorem dX7_barredFor_27 : decode cX7_barredFor 27 = .ok (.aload_n 0, 1) := by decide +kernel
theorem dX7_barredFor_28 : decode cX7_barredFor 28 = .ok (.getfield 32, 3) := by decide +kernel
theorem dX7_barredFor_31 : decode cX7_barredFor 31 = .ok (.iload_n 1, 1) := by decide +kernel
theorem dX7_barredFor_32 : decode cX7_barredFor 32 = .ok (.iaload, 1) := by decide +kernel
theorem dX7_barredFor_33 : decode cX7_barredFor 33 = .ok (.iconst 3, 1) := by decide +kernel
theorem dX7_barredFor_34 : decode cX7_barredFor 34 = .ok (.invokevirtual 97, 3) := by decide +kernel
theorem dX7_barredFor_37 : decode cX7_barredFor 37 = .ok (.if_icmp .le 7, 3) := by decide +kernel
theorem dX7_barredFor_40 : decode cX7_barredFor 40 = .ok (.iconst 1, 1) := by decide +kernel
theorem dX7_barredFor_41 : decode cX7_barredFor 41 = .ok (.goto 4, 3) := by decide +kernel
theorem dX7_barredFor_44 : decode cX7_barredFor 44 = .ok (.iconst 0, 1) := by decide +kernel
theorem dX7_barredFor_45 : decode cX7_barredFor 45 = .ok (.istore_n 2, 1) := by decide +kernel
theorem dX7_barredFor_46 : decode cX7_barredFor 46 = .ok (.aload_n 0, 1) := by decide +kernel
theorem dX7_barredFor_47 : decode cX7_barredFor 47 = .ok (.getfield 44, 3) := by decide +kernel
theorem dX7_barredFor_50 : decode cX7_barredFor 50 = .ok (.iload_n 1, 1) := by decide +kernel
theorem dX7_barredFor_51 : decode cX7_barredFor 51 = .ok (.baload, 1) := by decide +kernel
theorem dX7_barredFor_52 : decode cX7_barredFor 52 = .ok (.ifCond .eq 16, 3) := by decide +kernel
theorem dX7_barredFor_55 : decode cX7_barredFor 55 = .ok (.aload_n 0, 1) := by decide +kernel
theorem dX7_barredFor_56 : decode cX7_barredFor 56 = .ok (.getfield 41, 3) := by decide +kernel
theorem dX7_barredFor_59 : decode cX7_barredFor 59 = .ok (.iload_n 1, 1) := by decide +kernel
theorem dX7_barredFor_60 : decode cX7_barredFor 60 = .ok (.baload, 1) := by decide +kernel
theorem dX7_barredFor_61 : decode cX7_barredFor 61 = .ok (.ifCond .ne 7, 3) := by decide +kernel
theorem dX7_barredFor_64 : decode cX7_barredFor 64 = .ok (.iconst 2, 1) := by decide +kernel
theorem dX7_barredFor_65 : decode cX7_barredFor 65 = .ok (.goto 4, 3) := by decide +kernel
theorem dX7_barredFor_68 : decode cX7_barredFor 68 = .ok (.iconst 0, 1) := by decide +kernel
theorem dX7_barredFor_69 : decode cX7_barredFor 69 = .ok (.istore_n 3, 1) := by decide +kernel
theorem dX7_barredFor_70 : decode cX7_barredFor 70 = .ok (.iload_n 2, 1) := by decide +kernel
theorem dX7_barredFor_71 : decode cX7_barredFor 71 = .ok (.iload_n 3, 1) := by decide +kernel
theorem dX7_barredFor_72 : decode cX7_barredFor 72 = .ok (.iadd, 1) := by decide +kernel
theorem dX7_barredFor_73 : decode cX7_barredFor 73 = .ok (.aload_n 0, 1) := by decide +kernel
theorem dX7_barredFor_74 : decode cX7_barredFor 74 = .ok (.getfield 38, 3) := by decide +kernel
theorem dX7_barredFor_77 : decode cX7_barredFor 77 = .ok (.iload_n 1, 1) := by decide +kernel
theorem dX7_barredFor_78 : decode cX7_barredFor 78 = .ok (.iaload, 1) := by decide +kernel
theorem dX7_barredFor_79 : decode cX7_barredFor 79 = .ok (.ifCond .lt 27, 3) := by decide +kernel
theorem dX7_barredFor_82 : decode cX7_barredFor 82 = .ok (.aload_n 0, 1) := by decide +kernel
theorem dX7_barredFor_83 : decode cX7_barredFor 83 = .ok (.getfield 35, 3) := by decide +kernel
theorem dX7_barredFor_86 : decode cX7_barredFor 86 = .ok (.iload_n 1, 1) := by decide +kernel
theorem dX7_barredFor_87 : decode cX7_barredFor 87 = .ok (.iaload, 1) := by decide +kernel
theorem dX7_barredFor_88 : decode cX7_barredFor 88 = .ok (.aload_n 0, 1) := by decide +kernel
theorem dX7_barredFor_89 : decode cX7_barredFor 89 = .ok (.getfield 22, 3) := by decide +kernel
theorem dX7_barredFor_92 : decode cX7_barredFor 92 = .ok (.aload_n 0, 1) := by decide +kernel
theorem dX7_barredFor_93 : decode cX7_barredFor 93 = .ok (.getfield 38, 3) := by decide +kernel
theorem dX7_barredFor_96 : decode cX7_barredFor 96 = .ok (.iload_n 1, 1) := by decide +kernel
theorem dX7_barredFor_97 : decode cX7_barredFor 97 = .ok (.iaload, 1) := by decide +kernel
theorem dX7_barredFor_98 : decode cX7_barredFor 98 = .ok (.iaload, 1) := by decide +kernel
theorem dX7_barredFor_99 : decode cX7_barredFor 99 = .ok (.if_icmp .le 7, 3) := by decide +kernel
theorem dX7_barredFor_102 : decode cX7_barredFor 102 = .ok (.iconst 4, 1) := by decide +kernel
theorem dX7_barredFor_103 : decode cX7_barredFor 103 = .ok (.goto 4, 3) := by decide +kernel
theorem dX7_barredFor_106 : decode cX7_barredFor 106 = .ok (.iconst 0, 1) := by decide +kernel
theorem dX7_barredFor_107 : decode cX7_barredFor 107 = .ok (.iadd, 1) := by decide +kernel
theorem dX7_barredFor_108 : decode cX7_barredFor 108 = .ok (.ireturn, 1) := by decide +kernel
theorem dX7_barred_0 : decode cX7_barred 0 = .ok (.aload_n 0, 1) := by decide +kernel
theorem dX7_barred_1 : decode cX7_barred 1 = .ok (.iload_n 1, 1) := by decide +kernel
theorem dX7_barred_2 : decode cX7_barred 2 = .ok (.invokevirtual 139, 3) := by decide +kernel
theorem dX7_barred_5 : decode cX7_barred 5 = .ok (.ifCond .eq 11, 3) := by decide +kernel
theorem dX7_barred_8 : decode cX7_barred 8 = .ok (.aload_n 0, 1) := by decide +kernel
theorem dX7_barred_9 : decode cX7_barred 9 = .ok (.iload_n 1, 1) := by decide +kernel
theorem dX7_barred_10 : decode cX7_barred 10 = .ok (.invokevirtual 142, 3) := by decide +kernel
theorem dX7_barred_13 : decode cX7_barred 13 = .ok (.goto 4, 3) := by decide +kernel
theorem dX7_barred_16 : decode cX7_barred 16 = .ok (.iconst (-1), 1) := by decide +kernel
theorem dX7_barred_17 : decode cX7_barred 17 = .ok (.ireturn, 1) := by decide +kernel
theorem dX7_let_0 : decode cX7_let 0 = .ok (.iload 4, 2) := by decide +kernel
theorem dX7_let_2 : decode cX7_let 2 = .ok (.iconst (-1), 1) := by decide +kernel
theorem dX7_let_3 : decode cX7_let 3 = .ok (.if_icmp .eq 14, 3) := by decide +kernel
theorem dX7_let_6 : decode cX7_let 6 = .ok (.aload_n 0, 1) := by decide +kernel
theorem dX7_let_7 : decode cX7_let 7 = .ok (.iload 4, 2) := by decide +kernel
theorem dX7_let_9 : decode cX7_let 9 = .ok (.invokevirtual 123, 3) := by decide +kernel
theorem dX7_let_12 : decode cX7_let 12 = .ok (.ifCond .ne 5, 3) := by decide +kernel
theorem dX7_let_15 : decode cX7_let 15 = .ok (.iconst (-1), 1) := by decide +kernel
theorem dX7_let_16 : decode cX7_let 16 = .ok (.ireturn, 1) := by decide +kernel
theorem dX7_let_17 : decode cX7_let 17 = .ok (.iload_n 1, 1) := by decide +kernel
theorem dX7_let_18 : decode cX7_let 18 = .ok (.invokestatic 81, 3) := by decide +kernel
theorem dX7_let_21 : decode cX7_let 21 = .ok (.ifCond .eq 24, 3) := by decide +kernel
theorem dX7_let_24 : decode cX7_let 24 = .ok (.iload_n 2, 1) := by decide +kernel
theorem dX7_let_25 : decode cX7_let 25 = .ok (.iconst 1, 1) := by decide +kernel
theorem dX7_let_26 : decode cX7_let 26 = .ok (.bipush 30, 2) := by decide +kernel
theorem dX7_let_28 : decode cX7_let 28 = .ok (.invokestatic 77, 3) := by decide +kernel
theorem dX7_let_31 : decode cX7_let 31 = .ok (.ifCond .eq 14, 3) := by decide +kernel
theorem dX7_let_34 : decode cX7_let 34 = .ok (.iload_n 3, 1) := by decide +kernel
theorem dX7_let_35 : decode cX7_let 35 = .ok (.iconst 1, 1) := by decide +kernel
theorem dX7_let_36 : decode cX7_let 36 = .ok (.sipush 1000, 3) := by decide +kernel
theorem dX7_let_39 : decode cX7_let 39 = .ok (.invokestatic 77, 3) := by decide +kernel
theorem dX7_let_42 : decode cX7_let 42 = .ok (.ifCond .ne 6, 3) := by decide +kernel
theorem dX7_let_45 : decode cX7_let 45 = .ok (.bipush (-2), 2) := by decide +kernel
theorem dX7_let_47 : decode cX7_let 47 = .ok (.ireturn, 1) := by decide +kernel
theorem dX7_let_48 : decode cX7_let 48 = .ok (.aload_n 0, 1) := by decide +kernel
theorem dX7_let_49 : decode cX7_let 49 = .ok (.getfield 126, 3) := by decide +kernel
theorem dX7_let_52 : decode cX7_let 52 = .ok (.bipush 10, 2) := by decide +kernel
theorem dX7_let_54 : decode cX7_let 54 = .ok (.if_icmp .ne 6, 3) := by decide +kernel
theorem dX7_let_57 : decode cX7_let 57 = .ok (.bipush (-4), 2) := by decide +kernel
theorem dX7_let_59 : decode cX7_let 59 = .ok (.ireturn, 1) := by decide +kernel
theorem dX7_let_60 : decode cX7_let 60 = .ok (.iload 4, 2) := by decide +kernel
theorem dX7_let_62 : decode cX7_let 62 = .ok (.ifCond .lt 18, 3) := by decide +kernel
theorem dX7_let_65 : decode cX7_let 65 = .ok (.aload_n 0, 1) := by decide +kernel
theorem dX7_let_66 : decode cX7_let 66 = .ok (.getfield 25, 3) := by decide +kernel
theorem dX7_let_69 : decode cX7_let 69 = .ok (.iload 4, 2) := by decide +kernel
theorem dX7_let_71 : decode cX7_let 71 = .ok (.iaload, 1) := by decide +kernel
theorem dX7_let_72 : decode cX7_let 72 = .ok (.bipush (-6), 2) := by decide +kernel
theorem dX7_let_74 : decode cX7_let 74 = .ok (.if_icmp .eq 6, 3) := by decide +kernel
theorem dX7_let_77 : decode cX7_let 77 = .ok (.bipush (-5), 2) := by decide +kernel
theorem dX7_let_79 : decode cX7_let 79 = .ok (.ireturn, 1) := by decide +kernel
theorem dX7_let_80 : decode cX7_let 80 = .ok (.iload 4, 2) := by decide +kernel
theorem dX7_let_82 : decode cX7_let 82 = .ok (.ifCond .lt 17, 3) := by decide +kernel
theorem dX7_let_85 : decode cX7_let 85 = .ok (.aload_n 0, 1) := by decide +kernel
theorem dX7_let_86 : decode cX7_let 86 = .ok (.getfield 25, 3) := by decide +kernel
theorem dX7_let_89 : decode cX7_let 89 = .ok (.iload 4, 2) := by decide +kernel
theorem dX7_let_91 : decode cX7_let 91 = .ok (.bipush 100, 2) := by decide +kernel
theorem dX7_let_93 : decode cX7_let 93 = .ok (.aload_n 0, 1) := by decide +kernel
theorem dX7_let_94 : decode cX7_let 94 = .ok (.getfield 126, 3) := by decide +kernel
theorem dX7_let_97 : decode cX7_let 97 = .ok (.iadd, 1) := by decide +kernel
theorem dX7_let_98 : decode cX7_let 98 = .ok (.iastore, 1) := by decide +kernel
theorem dX7_let_99 : decode cX7_let 99 = .ok (.aload_n 0, 1) := by decide +kernel
theorem dX7_let_100 : decode cX7_let 100 = .ok (.getfield 47, 3) := by decide +kernel
theorem dX7_let_103 : decode cX7_let 103 = .ok (.aload_n 0, 1) := by decide +kernel
theorem dX7_let_104 : decode cX7_let 104 = .ok (.getfield 126, 3) := by decide +kernel
theorem dX7_let_107 : decode cX7_let 107 = .ok (.iload_n 1, 1) := by decide +kernel
theorem dX7_let_108 : decode cX7_let 108 = .ok (.iastore, 1) := by decide +kernel
theorem dX7_let_109 : decode cX7_let 109 = .ok (.aload_n 0, 1) := by decide +kernel
theorem dX7_let_110 : decode cX7_let 110 = .ok (.getfield 50, 3) := by decide +kernel
theorem dX7_let_113 : decode cX7_let 113 = .ok (.aload_n 0, 1) := by decide +kernel
theorem dX7_let_114 : decode cX7_let 114 = .ok (.getfield 126, 3) := by decide +kernel
theorem dX7_let_117 : decode cX7_let 117 = .ok (.iload_n 2, 1) := by decide +kernel
theorem dX7_let_118 : decode cX7_let 118 = .ok (.iastore, 1) := by decide +kernel
theorem dX7_let_119 : decode cX7_let 119 = .ok (.aload_n 0, 1) := by decide +kernel
theorem dX7_let_120 : decode cX7_let 120 = .ok (.getfield 53, 3) := by decide +kernel
theorem dX7_let_123 : decode cX7_let 123 = .ok (.aload_n 0, 1) := by decide +kernel
theorem dX7_let_124 : decode cX7_let 124 = .ok (.getfield 126, 3) := by decide +kernel
theorem dX7_let_127 : decode cX7_let 127 = .ok (.iload_n 3, 1) := by decide +kernel
theorem dX7_let_128 : decode cX7_let 128 = .ok (.iastore, 1) := by decide +kernel
theorem dX7_let_129 : decode cX7_let 129 = .ok (.aload_n 0, 1) := by decide +kernel
theorem dX7_let_130 : decode cX7_let 130 = .ok (.getfield 56, 3) := by decide +kernel
theorem dX7_let_133 : decode cX7_let 133 = .ok (.aload_n 0, 1) := by decide +kernel
theorem dX7_let_134 : decode cX7_let 134 = .ok (.getfield 126, 3) := by decide +kernel
theorem dX7_let_137 : decode cX7_let 137 = .ok (.iload 4, 2) := by decide +kernel
theorem dX7_let_139 : decode cX7_let 139 = .ok (.iastore, 1) := by decide +kernel
theorem dX7_let_140 : decode cX7_let 140 = .ok (.aload_n 0, 1) := by decide +kernel
theorem dX7_let_141 : decode cX7_let 141 = .ok (.dup, 1) := by decide +kernel
theorem dX7_let_142 : decode cX7_let 142 = .ok (.getfield 126, 3) := by decide +kernel
theorem dX7_let_145 : decode cX7_let 145 = .ok (.iconst 1, 1) := by decide +kernel
theorem dX7_let_146 : decode cX7_let 146 = .ok (.iadd, 1) := by decide +kernel
theorem dX7_let_147 : decode cX7_let 147 = .ok (.putfield 126, 3) := by decide +kernel
theorem dX7_let_150 : decode cX7_let 150 = .ok (.aload_n 0, 1) := by decide +kernel
theorem dX7_let_151 : decode cX7_let 151 = .ok (.getfield 126, 3) := by decide +kernel
theorem dX7_let_154 : decode cX7_let 154 = .ok (.iconst 1, 1) := by decide +kernel
theorem dX7_let_155 : decode cX7_let 155 = .ok (.isub, 1) := by decide +kernel
theorem dX7_let_156 : decode cX7_let 156 = .ok (.ireturn, 1) := by decide +kernel
theorem dX7_voidFor_0 : decode cX7_voidFor 0 = .ok (.aload_n 0, 1) := by decide +kernel
theorem dX7_voidFor_1 : decode cX7_voidFor 1 = .ok (.getfield 56, 3) := by decide +kernel
theorem dX7_voidFor_4 : decode cX7_voidFor 4 = .ok (.iload_n 1, 1) := by decide +kernel
theorem dX7_voidFor_5 : decode cX7_voidFor 5 = .ok (.iaload, 1) := by decide +kernel
theorem dX7_voidFor_6 : decode cX7_voidFor 6 = .ok (.istore_n 2, 1) := by decide +kernel
theorem dX7_voidFor_7 : decode cX7_voidFor 7 = .ok (.iload_n 2, 1) := by decide +kernel
theorem dX7_voidFor_8 : decode cX7_voidFor 8 = .ok (.ifCond .ge 31, 3) := by decide +kernel
theorem dX7_voidFor_11 : decode cX7_voidFor 11 = .ok (.aload_n 0, 1) := by decide +kernel
theorem dX7_voidFor_12 : decode cX7_voidFor 12 = .ok (.getfield 50, 3) := by decide +kernel
theorem dX7_voidFor_15 : decode cX7_voidFor 15 = .ok (.iload_n 1, 1) := by decide +kernel
theorem dX7_voidFor_16 : decode cX7_voidFor 16 = .ok (.iaload, 1) := by decide +kernel
theorem dX7_voidFor_17 : decode cX7_voidFor 17 = .ok (.aload_n 0, 1) := by decide +kernel
theorem dX7_voidFor_18 : decode cX7_voidFor 18 = .ok (.aload_n 0, 1) := by decide +kernel
theorem dX7_voidFor_19 : decode cX7_voidFor 19 = .ok (.getfield 47, 3) := by decide +kernel
theorem dX7_voidFor_22 : decode cX7_voidFor 22 = .ok (.iload_n 1, 1) := by decide +kernel
theorem dX7_voidFor_23 : decode cX7_voidFor 23 = .ok (.iaload, 1) := by decide +kernel
theorem dX7_voidFor_24 : decode cX7_voidFor 24 = .ok (.iconst 4, 1) := by decide +kernel
theorem dX7_voidFor_25 : decode cX7_voidFor 25 = .ok (.invokevirtual 97, 3) := by decide +kernel
theorem dX7_voidFor_28 : decode cX7_voidFor 28 = .ok (.if_icmp .le 7, 3) := by decide +kernel
theorem dX7_voidFor_31 : decode cX7_voidFor 31 = .ok (.iconst 1, 1) := by decide +kernel
theorem dX7_voidFor_32 : decode cX7_voidFor 32 = .ok (.goto 27, 3) := by decide +kernel
theorem dX7_voidFor_35 : decode cX7_voidFor 35 = .ok (.iconst 0, 1) := by decide +kernel
theorem dX7_voidFor_36 : decode cX7_voidFor 36 = .ok (.goto 23, 3) := by decide +kernel
theorem dX7_voidFor_39 : decode cX7_voidFor 39 = .ok (.aload_n 0, 1) := by decide +kernel
theorem dX7_voidFor_40 : decode cX7_voidFor 40 = .ok (.getfield 50, 3) := by decide +kernel
theorem dX7_voidFor_43 : decode cX7_voidFor 43 = .ok (.iload_n 1, 1) := by decide +kernel
theorem dX7_voidFor_44 : decode cX7_voidFor 44 = .ok (.iaload, 1) := by decide +kernel
theorem dX7_voidFor_45 : decode cX7_voidFor 45 = .ok (.aload_n 0, 1) := by decide +kernel
theorem dX7_voidFor_46 : decode cX7_voidFor 46 = .ok (.getfield 22, 3) := by decide +kernel
theorem dX7_voidFor_49 : decode cX7_voidFor 49 = .ok (.iload_n 2, 1) := by decide +kernel
theorem dX7_voidFor_50 : decode cX7_voidFor 50 = .ok (.iaload, 1) := by decide +kernel
theorem dX7_voidFor_51 : decode cX7_voidFor 51 = .ok (.if_icmp .le 7, 3) := by decide +kernel
theorem dX7_voidFor_54 : decode cX7_voidFor 54 = .ok (.iconst 4, 1) := by decide +kernel
theorem dX7_voidFor_55 : decode cX7_voidFor 55 = .ok (.goto 4, 3) := by decide +kernel
theorem dX7_voidFor_58 : decode cX7_voidFor 58 = .ok (.iconst 0, 1) := by decide +kernel
theorem dX7_voidFor_59 : decode cX7_voidFor 59 = .ok (.ireturn, 1) := by decide +kernel
theorem dX7_isVoid_0 : decode cX7_isVoid 0 = .ok (.aload_n 0, 1) := by decide +kernel
theorem dX7_isVoid_1 : decode cX7_isVoid 1 = .ok (.iload_n 1, 1) := by decide +kernel
theorem dX7_isVoid_2 : decode cX7_isVoid 2 = .ok (.invokevirtual 132, 3) := by decide +kernel
theorem dX7_isVoid_5 : decode cX7_isVoid 5 = .ok (.ifCond .eq 11, 3) := by decide +kernel
theorem dX7_isVoid_8 : decode cX7_isVoid 8 = .ok (.aload_n 0, 1) := by decide +kernel
theorem dX7_isVoid_9 : decode cX7_isVoid 9 = .ok (.iload_n 1, 1) := by decide +kernel
theorem dX7_isVoid_10 : decode cX7_isVoid 10 = .ok (.invokevirtual 145, 3) := by decide +kernel
theorem dX7_isVoid_13 : decode cX7_isVoid 13 = .ok (.goto 4, 3) := by decide +kernel
theorem dX7_isVoid_16 : decode cX7_isVoid 16 = .ok (.iconst (-1), 1) := by decide +kernel
theorem dX7_isVoid_17 : decode cX7_isVoid 17 = .ok (.ireturn, 1) := by decide +kernel
theorem dX7_arrears_0 : decode cX7_arrears 0 = .ok (.aload_n 0, 1) := by decide +kernel
theorem dX7_arrears_1 : decode cX7_arrears 1 = .ok (.iload_n 1, 1) := by decide +kernel
theorem dX7_arrears_2 : decode cX7_arrears 2 = .ok (.invokevirtual 132, 3) := by decide +kernel
theorem dX7_arrears_5 : decode cX7_arrears 5 = .ok (.ifCond .ne 6, 3) := by decide +kernel
theorem dX7_arrears_8 : decode cX7_arrears 8 = .ok (.ldc 111, 2) := by decide +kernel
theorem dX7_arrears_10 : decode cX7_arrears 10 = .ok (.ireturn, 1) := by decide +kernel
theorem dX7_arrears_11 : decode cX7_arrears 11 = .ok (.iload_n 2, 1) := by decide +kernel
theorem dX7_arrears_12 : decode cX7_arrears 12 = .ok (.invokestatic 81, 3) := by decide +kernel
theorem dX7_arrears_15 : decode cX7_arrears 15 = .ok (.ifCond .ne 6, 3) := by decide +kernel
theorem dX7_arrears_18 : decode cX7_arrears 18 = .ok (.ldc 115, 2) := by decide +kernel
theorem dX7_arrears_20 : decode cX7_arrears 20 = .ok (.ireturn, 1) := by decide +kernel
theorem dX7_arrears_21 : decode cX7_arrears 21 = .ok (.iconst 0, 1) := by decide +kernel
theorem dX7_arrears_22 : decode cX7_arrears 22 = .ok (.istore_n 3, 1) := by decide +kernel
theorem dX7_arrears_23 : decode cX7_arrears 23 = .ok (.iconst 0, 1) := by decide +kernel
theorem dX7_arrears_24 : decode cX7_arrears 24 = .ok (.istore 4, 2) := by decide +kernel
theorem dX7_arrears_26 : decode cX7_arrears 26 = .ok (.iload 4, 2) := by decide +kernel
theorem dX7_arrears_28 : decode cX7_arrears 28 = .ok (.aload_n 0, 1) := by decide +kernel
theorem dX7_arrears_29 : decode cX7_arrears 29 = .ok (.getfield 50, 3) := by decide +kernel
theorem dX7_arrears_32 : decode cX7_arrears 32 = .ok (.iload_n 1, 1) := by decide +kernel
theorem dX7_arrears_33 : decode cX7_arrears 33 = .ok (.iaload, 1) := by decide +kernel
theorem dX7_arrears_34 : decode cX7_arrears 34 = .ok (.if_icmp .ge 47, 3) := by decide +kernel
theorem dX7_arrears_37 : decode cX7_arrears 37 = .ok (.aload_n 0, 1) := by decide +kernel
theorem dX7_arrears_38 : decode cX7_arrears 38 = .ok (.iload_n 1, 1) := by decide +kernel
theorem dX7_arrears_39 : decode cX7_arrears 39 = .ok (.invokevirtual 145, 3) := by decide +kernel
theorem dX7_arrears_42 : decode cX7_arrears 42 = .ok (.ifCond .ne 39, 3) := by decide +kernel
theorem dX7_arrears_45 : decode cX7_arrears 45 = .ok (.iload_n 3, 1) := by decide +kernel
theorem dX7_arrears_46 : decode cX7_arrears 46 = .ok (.aload_n 0, 1) := by decide +kernel
theorem dX7_arrears_47 : decode cX7_arrears 47 = .ok (.getfield 47, 3) := by decide +kernel
theorem dX7_arrears_50 : decode cX7_arrears 50 = .ok (.iload_n 1, 1) := by decide +kernel
theorem dX7_arrears_51 : decode cX7_arrears 51 = .ok (.iaload, 1) := by decide +kernel
theorem dX7_arrears_52 : decode cX7_arrears 52 = .ok (.sipush 360, 3) := by decide +kernel
theorem dX7_arrears_55 : decode cX7_arrears 55 = .ok (.iload 4, 2) := by decide +kernel
theorem dX7_arrears_57 : decode cX7_arrears 57 = .ok (.imul, 1) := by decide +kernel
theorem dX7_arrears_58 : decode cX7_arrears 58 = .ok (.iadd, 1) := by decide +kernel
theorem dX7_arrears_59 : decode cX7_arrears 59 = .ok (.iload_n 2, 1) := by decide +kernel
theorem dX7_arrears_60 : decode cX7_arrears 60 = .ok (.if_icmp .gt 12, 3) := by decide +kernel
theorem dX7_arrears_63 : decode cX7_arrears 63 = .ok (.aload_n 0, 1) := by decide +kernel
theorem dX7_arrears_64 : decode cX7_arrears 64 = .ok (.getfield 53, 3) := by decide +kernel
theorem dX7_arrears_67 : decode cX7_arrears 67 = .ok (.iload_n 1, 1) := by decide +kernel
theorem dX7_arrears_68 : decode cX7_arrears 68 = .ok (.iaload, 1) := by decide +kernel
theorem dX7_arrears_69 : decode cX7_arrears 69 = .ok (.goto 4, 3) := by decide +kernel
theorem dX7_arrears_72 : decode cX7_arrears 72 = .ok (.iconst 0, 1) := by decide +kernel
theorem dX7_arrears_73 : decode cX7_arrears 73 = .ok (.iadd, 1) := by decide +kernel
theorem dX7_arrears_74 : decode cX7_arrears 74 = .ok (.istore_n 3, 1) := by decide +kernel
theorem dX7_arrears_75 : decode cX7_arrears 75 = .ok (.iinc 4 1, 3) := by decide +kernel
theorem dX7_arrears_78 : decode cX7_arrears 78 = .ok (.goto (-52), 3) := by decide +kernel
theorem dX7_arrears_81 : decode cX7_arrears 81 = .ok (.iconst 0, 1) := by decide +kernel
theorem dX7_arrears_82 : decode cX7_arrears 82 = .ok (.istore 4, 2) := by decide +kernel
theorem dX7_arrears_84 : decode cX7_arrears 84 = .ok (.iload 4, 2) := by decide +kernel
theorem dX7_arrears_86 : decode cX7_arrears 86 = .ok (.aload_n 0, 1) := by decide +kernel
theorem dX7_arrears_87 : decode cX7_arrears 87 = .ok (.getfield 129, 3) := by decide +kernel
theorem dX7_arrears_90 : decode cX7_arrears 90 = .ok (.if_icmp .ge 55, 3) := by decide +kernel
theorem dX7_arrears_93 : decode cX7_arrears 93 = .ok (.iload_n 3, 1) := by decide +kernel
theorem dX7_arrears_94 : decode cX7_arrears 94 = .ok (.aload_n 0, 1) := by decide +kernel
theorem dX7_arrears_95 : decode cX7_arrears 95 = .ok (.getfield 28, 3) := by decide +kernel
theorem dX7_arrears_98 : decode cX7_arrears 98 = .ok (.iload 4, 2) := by decide +kernel
theorem dX7_arrears_100 : decode cX7_arrears 100 = .ok (.baload, 1) := by decide +kernel
theorem dX7_arrears_101 : decode cX7_arrears 101 = .ok (.ifCond .ne 35, 3) := by decide +kernel
theorem dX7_arrears_104 : decode cX7_arrears 104 = .ok (.aload_n 0, 1) := by decide +kernel
theorem dX7_arrears_105 : decode cX7_arrears 105 = .ok (.getfield 38, 3) := by decide +kernel
theorem dX7_arrears_108 : decode cX7_arrears 108 = .ok (.iload 4, 2) := by decide +kernel
theorem dX7_arrears_110 : decode cX7_arrears 110 = .ok (.iaload, 1) := by decide +kernel
theorem dX7_arrears_111 : decode cX7_arrears 111 = .ok (.iload_n 1, 1) := by decide +kernel
theorem dX7_arrears_112 : decode cX7_arrears 112 = .ok (.if_icmp .ne 24, 3) := by decide +kernel
theorem dX7_arrears_115 : decode cX7_arrears 115 = .ok (.aload_n 0, 1) := by decide +kernel
theorem dX7_arrears_116 : decode cX7_arrears 116 = .ok (.getfield 32, 3) := by decide +kernel
theorem dX7_arrears_119 : decode cX7_arrears 119 = .ok (.iload 4, 2) := by decide +kernel
theorem dX7_arrears_121 : decode cX7_arrears 121 = .ok (.iaload, 1) := by decide +kernel
theorem dX7_arrears_122 : decode cX7_arrears 122 = .ok (.iload_n 2, 1) := by decide +kernel
theorem dX7_arrears_123 : decode cX7_arrears 123 = .ok (.if_icmp .gt 13, 3) := by decide +kernel
theorem dX7_arrears_126 : decode cX7_arrears 126 = .ok (.aload_n 0, 1) := by decide +kernel
theorem dX7_arrears_127 : decode cX7_arrears 127 = .ok (.getfield 35, 3) := by decide +kernel
theorem dX7_arrears_130 : decode cX7_arrears 130 = .ok (.iload 4, 2) := by decide +kernel
theorem dX7_arrears_132 : decode cX7_arrears 132 = .ok (.iaload, 1) := by decide +kernel
theorem dX7_arrears_133 : decode cX7_arrears 133 = .ok (.goto 4, 3) := by decide +kernel
theorem dX7_arrears_136 : decode cX7_arrears 136 = .ok (.iconst 0, 1) := by decide +kernel
theorem dX7_arrears_137 : decode cX7_arrears 137 = .ok (.isub, 1) := by decide +kernel
theorem dX7_arrears_138 : decode cX7_arrears 138 = .ok (.istore_n 3, 1) := by decide +kernel
theorem dX7_arrears_139 : decode cX7_arrears 139 = .ok (.iinc 4 1, 3) := by decide +kernel
theorem dX7_arrears_142 : decode cX7_arrears 142 = .ok (.goto (-58), 3) := by decide +kernel
theorem dX7_arrears_145 : decode cX7_arrears 145 = .ok (.iload_n 3, 1) := by decide +kernel
theorem dX7_arrears_146 : decode cX7_arrears 146 = .ok (.ireturn, 1) := by decide +kernel
theorem dX7_layFullDays_0 : decode cX7_layFullDays 0 = .ok (.iconst 0, 1) := by decide +kernel
theorem dX7_layFullDays_1 : decode cX7_layFullDays 1 = .ok (.istore_n 1, 1) := by decide +kernel
theorem dX7_layFullDays_2 : decode cX7_layFullDays 2 = .ok (.iload_n 1, 1) := by decide +kernel
theorem dX7_layFullDays_3 : decode cX7_layFullDays 3 = .ok (.aload_n 0, 1) := by decide +kernel
theorem dX7_layFullDays_4 : decode cX7_layFullDays 4 = .ok (.getfield 101, 3) := by decide +kernel
theorem dX7_layFullDays_7 : decode cX7_layFullDays 7 = .ok (.if_icmp .ge 91, 3) := by decide +kernel
theorem dX7_layFullDays_10 : decode cX7_layFullDays 10 = .ok (.aload_n 0, 1) := by decide +kernel
theorem dX7_layFullDays_11 : decode cX7_layFullDays 11 = .ok (.getfield 68, 3) := by decide +kernel
theorem dX7_layFullDays_14 : decode cX7_layFullDays 14 = .ok (.iload_n 1, 1) := by decide +kernel
theorem dX7_layFullDays_15 : decode cX7_layFullDays 15 = .ok (.bipush (-6), 2) := by decide +kernel
theorem dX7_layFullDays_17 : decode cX7_layFullDays 17 = .ok (.iastore, 1) := by decide +kernel
theorem dX7_layFullDays_18 : decode cX7_layFullDays 18 = .ok (.aload_n 0, 1) := by decide +kernel
theorem dX7_layFullDays_19 : decode cX7_layFullDays 19 = .ok (.getfield 71, 3) := by decide +kernel
theorem dX7_layFullDays_22 : decode cX7_layFullDays 22 = .ok (.iload_n 1, 1) := by decide +kernel
theorem dX7_layFullDays_23 : decode cX7_layFullDays 23 = .ok (.bipush (-6), 2) := by decide +kernel
theorem dX7_layFullDays_25 : decode cX7_layFullDays 25 = .ok (.iastore, 1) := by decide +kernel
theorem dX7_layFullDays_26 : decode cX7_layFullDays 26 = .ok (.aload_n 0, 1) := by decide +kernel
theorem dX7_layFullDays_27 : decode cX7_layFullDays 27 = .ok (.getfield 74, 3) := by decide +kernel
theorem dX7_layFullDays_30 : decode cX7_layFullDays 30 = .ok (.iload_n 1, 1) := by decide +kernel
theorem dX7_layFullDays_31 : decode cX7_layFullDays 31 = .ok (.iconst 0, 1) := by decide +kernel
theorem dX7_layFullDays_32 : decode cX7_layFullDays 32 = .ok (.iastore, 1) := by decide +kernel
theorem dX7_layFullDays_33 : decode cX7_layFullDays 33 = .ok (.iconst 0, 1) := by decide +kernel
theorem dX7_layFullDays_34 : decode cX7_layFullDays 34 = .ok (.istore_n 2, 1) := by decide +kernel
theorem dX7_layFullDays_35 : decode cX7_layFullDays 35 = .ok (.iload_n 2, 1) := by decide +kernel
theorem dX7_layFullDays_36 : decode cX7_layFullDays 36 = .ok (.sipush 3600, 3) := by decide +kernel
theorem dX7_layFullDays_39 : decode cX7_layFullDays 39 = .ok (.if_icmp .ge 53, 3) := by decide +kernel
theorem dX7_layFullDays_42 : decode cX7_layFullDays 42 = .ok (.aload_n 0, 1) := by decide +kernel
theorem dX7_layFullDays_43 : decode cX7_layFullDays 43 = .ok (.getfield 68, 3) := by decide +kernel
theorem dX7_layFullDays_46 : decode cX7_layFullDays 46 = .ok (.iload_n 1, 1) := by decide +kernel
theorem dX7_layFullDays_47 : decode cX7_layFullDays 47 = .ok (.iaload, 1) := by decide +kernel
theorem dX7_layFullDays_48 : decode cX7_layFullDays 48 = .ok (.bipush (-6), 2) := by decide +kernel
theorem dX7_layFullDays_50 : decode cX7_layFullDays 50 = .ok (.if_icmp .ne 42, 3) := by decide +kernel
theorem dX7_layFullDays_53 : decode cX7_layFullDays 53 = .ok (.aload_n 0, 1) := by decide +kernel
theorem dX7_layFullDays_54 : decode cX7_layFullDays 54 = .ok (.getfield 68, 3) := by decide +kernel
theorem dX7_layFullDays_57 : decode cX7_layFullDays 57 = .ok (.iload_n 1, 1) := by decide +kernel
theorem dX7_layFullDays_58 : decode cX7_layFullDays 58 = .ok (.iload_n 2, 1) := by decide +kernel
theorem dX7_layFullDays_59 : decode cX7_layFullDays 59 = .ok (.aload_n 0, 1) := by decide +kernel
theorem dX7_layFullDays_60 : decode cX7_layFullDays 60 = .ok (.getfield 16, 3) := by decide +kernel
theorem dX7_layFullDays_63 : decode cX7_layFullDays 63 = .ok (.iload_n 1, 1) := by decide +kernel
theorem dX7_layFullDays_64 : decode cX7_layFullDays 64 = .ok (.iaload, 1) := by decide +kernel
theorem dX7_layFullDays_65 : decode cX7_layFullDays 65 = .ok (.isub, 1) := by decide +kernel
theorem dX7_layFullDays_66 : decode cX7_layFullDays 66 = .ok (.sipush 360, 3) := by decide +kernel
theorem dX7_layFullDays_69 : decode cX7_layFullDays 69 = .ok (.aload_n 0, 1) := by decide +kernel
theorem dX7_layFullDays_70 : decode cX7_layFullDays 70 = .ok (.iload_n 2, 1) := by decide +kernel
theorem dX7_layFullDays_71 : decode cX7_layFullDays 71 = .ok (.iconst 0, 1) := by decide +kernel
theorem dX7_layFullDays_72 : decode cX7_layFullDays 72 = .ok (.invokevirtual 97, 3) := by decide +kernel
theorem dX7_layFullDays_75 : decode cX7_layFullDays 75 = .ok (.imul, 1) := by decide +kernel
theorem dX7_layFullDays_76 : decode cX7_layFullDays 76 = .ok (.if_icmp .lt 7, 3) := by decide +kernel
theorem dX7_layFullDays_79 : decode cX7_layFullDays 79 = .ok (.iload_n 2, 1) := by decide +kernel
theorem dX7_layFullDays_80 : decode cX7_layFullDays 80 = .ok (.goto 5, 3) := by decide +kernel
theorem dX7_layFullDays_83 : decode cX7_layFullDays 83 = .ok (.bipush (-6), 2) := by decide +kernel
theorem dX7_layFullDays_85 : decode cX7_layFullDays 85 = .ok (.iastore, 1) := by decide +kernel
theorem dX7_layFullDays_86 : decode cX7_layFullDays 86 = .ok (.iinc 2 1, 3) := by decide +kernel
theorem dX7_layFullDays_89 : decode cX7_layFullDays 89 = .ok (.goto (-54), 3) := by decide +kernel
theorem dX7_layFullDays_92 : decode cX7_layFullDays 92 = .ok (.iinc 1 1, 3) := by decide +kernel
theorem dX7_layFullDays_95 : decode cX7_layFullDays 95 = .ok (.goto (-93), 3) := by decide +kernel
theorem dX7_layFullDays_98 : decode cX7_layFullDays 98 = .ok (.return_, 1) := by decide +kernel
theorem dX7_lay_0 : decode cX7_lay 0 = .ok (.aload_n 0, 1) := by decide +kernel
theorem dX7_lay_1 : decode cX7_lay 1 = .ok (.getfield 89, 3) := by decide +kernel
theorem dX7_lay_4 : decode cX7_lay 4 = .ok (.ifCond .eq 4, 3) := by decide +kernel
theorem dX7_lay_7 : decode cX7_lay 7 = .ok (.return_, 1) := by decide +kernel
theorem dX7_lay_8 : decode cX7_lay 8 = .ok (.aload_n 0, 1) := by decide +kernel
theorem dX7_lay_9 : decode cX7_lay 9 = .ok (.iconst 1, 1) := by decide +kernel
theorem dX7_lay_10 : decode cX7_lay 10 = .ok (.putfield 89, 3) := by decide +kernel
theorem dX7_lay_13 : decode cX7_lay 13 = .ok (.aload_n 0, 1) := by decide +kernel
theorem dX7_lay_14 : decode cX7_lay 14 = .ok (.invokevirtual 148, 3) := by decide +kernel
theorem dX7_lay_17 : decode cX7_lay 17 = .ok (.iconst 0, 1) := by decide +kernel
theorem dX7_lay_18 : decode cX7_lay 18 = .ok (.istore_n 1, 1) := by decide +kernel
theorem dX7_lay_19 : decode cX7_lay 19 = .ok (.lconst 0, 1) := by decide +kernel
theorem dX7_lay_20 : decode cX7_lay 20 = .ok (.lstore_n 2, 1) := by decide +kernel
theorem dX7_lay_21 : decode cX7_lay 21 = .ok (.iconst 0, 1) := by decide +kernel
theorem dX7_lay_22 : decode cX7_lay 22 = .ok (.istore 4, 2) := by decide +kernel
theorem dX7_lay_24 : decode cX7_lay 24 = .ok (.iload 4, 2) := by decide +kernel
theorem dX7_lay_26 : decode cX7_lay 26 = .ok (.sipush 3600, 3) := by decide +kernel
theorem dX7_lay_29 : decode cX7_lay 29 = .ok (.if_icmp .ge 401, 3) := by decide +kernel
theorem dX7_lay_32 : decode cX7_lay 32 = .ok (.bipush 6, 2) := by decide +kernel
theorem dX7_lay_34 : decode cX7_lay 34 = .ok (.iload 4, 2) := by decide +kernel
theorem dX7_lay_36 : decode cX7_lay 36 = .ok (.sipush 360, 3) := by decide +kernel
theorem dX7_lay_39 : decode cX7_lay 39 = .ok (.idiv, 1) := by decide +kernel
theorem dX7_lay_40 : decode cX7_lay 40 = .ok (.imul, 1) := by decide +kernel
theorem dX7_lay_41 : decode cX7_lay 41 = .ok (.istore 5, 2) := by decide +kernel
theorem dX7_lay_43 : decode cX7_lay 43 = .ok (.iload 4, 2) := by decide +kernel
theorem dX7_lay_45 : decode cX7_lay 45 = .ok (.sipush 360, 3) := by decide +kernel
theorem dX7_lay_48 : decode cX7_lay 48 = .ok (.irem, 1) := by decide +kernel
theorem dX7_lay_49 : decode cX7_lay 49 = .ok (.ifCond .ne 41, 3) := by decide +kernel
theorem dX7_lay_52 : decode cX7_lay 52 = .ok (.lconst 0, 1) := by decide +kernel
theorem dX7_lay_53 : decode cX7_lay 53 = .ok (.lstore_n 2, 1) := by decide +kernel
theorem dX7_lay_54 : decode cX7_lay 54 = .ok (.iconst 0, 1) := by decide +kernel
theorem dX7_lay_55 : decode cX7_lay 55 = .ok (.istore 6, 2) := by decide +kernel
theorem dX7_lay_57 : decode cX7_lay 57 = .ok (.iload 6, 2) := by decide +kernel
theorem dX7_lay_59 : decode cX7_lay 59 = .ok (.bipush 6, 2) := by decide +kernel
theorem dX7_lay_61 : decode cX7_lay 61 = .ok (.if_icmp .ge 29, 3) := by decide +kernel
theorem dX7_lay_64 : decode cX7_lay 64 = .ok (.aload_n 0, 1) := by decide +kernel
theorem dX7_lay_65 : decode cX7_lay 65 = .ok (.getfield 65, 3) := by decide +kernel
theorem dX7_lay_68 : decode cX7_lay 68 = .ok (.iload 5, 2) := by decide +kernel
theorem dX7_lay_70 : decode cX7_lay 70 = .ok (.iload 6, 2) := by decide +kernel
theorem dX7_lay_72 : decode cX7_lay 72 = .ok (.iadd, 1) := by decide +kernel
theorem dX7_lay_73 : decode cX7_lay 73 = .ok (.iload 6, 2) := by decide +kernel
theorem dX7_lay_75 : decode cX7_lay 75 = .ok (.ifCond .ne 7, 3) := by decide +kernel
theorem dX7_lay_78 : decode cX7_lay 78 = .ok (.iload_n 1, 1) := by decide +kernel
theorem dX7_lay_79 : decode cX7_lay 79 = .ok (.goto 4, 3) := by decide +kernel
theorem dX7_lay_82 : decode cX7_lay 82 = .ok (.iconst 0, 1) := by decide +kernel
theorem dX7_lay_83 : decode cX7_lay 83 = .ok (.iastore, 1) := by decide +kernel
theorem dX7_lay_84 : decode cX7_lay 84 = .ok (.iinc 6 1, 3) := by decide +kernel
theorem dX7_lay_87 : decode cX7_lay 87 = .ok (.goto (-30), 3) := by decide +kernel
theorem dX7_lay_90 : decode cX7_lay 90 = .ok (.iconst 0, 1) := by decide +kernel
theorem dX7_lay_91 : decode cX7_lay 91 = .ok (.istore 6, 2) := by decide +kernel
theorem dX7_lay_93 : decode cX7_lay 93 = .ok (.iload 6, 2) := by decide +kernel
theorem dX7_lay_95 : decode cX7_lay 95 = .ok (.aload_n 0, 1) := by decide +kernel
theorem dX7_lay_96 : decode cX7_lay 96 = .ok (.getfield 129, 3) := by decide +kernel
theorem dX7_lay_99 : decode cX7_lay 99 = .ok (.if_icmp .ge 97, 3) := by decide +kernel
theorem dX7_lay_102 : decode cX7_lay 102 = .ok (.aload_n 0, 1) := by decide +kernel
theorem dX7_lay_103 : decode cX7_lay 103 = .ok (.getfield 32, 3) := by decide +kernel
theorem dX7_lay_106 : decode cX7_lay 106 = .ok (.iload 6, 2) := by decide +kernel
theorem dX7_lay_108 : decode cX7_lay 108 = .ok (.iaload, 1) := by decide +kernel
theorem dX7_lay_109 : decode cX7_lay 109 = .ok (.iload 4, 2) := by decide +kernel
theorem dX7_lay_111 : decode cX7_lay 111 = .ok (.if_icmp .ne 79, 3) := by decide +kernel
theorem dX7_lay_114 : decode cX7_lay 114 = .ok (.aload_n 0, 1) := by decide +kernel
theorem dX7_lay_115 : decode cX7_lay 115 = .ok (.iload 6, 2) := by decide +kernel
theorem dX7_lay_117 : decode cX7_lay 117 = .ok (.invokevirtual 142, 3) := by decide +kernel
theorem dX7_lay_120 : decode cX7_lay 120 = .ok (.ifCond .ne 70, 3) := by decide +kernel
theorem dX7_lay_123 : decode cX7_lay 123 = .ok (.iload_n 1, 1) := by decide +kernel
theorem dX7_lay_124 : decode cX7_lay 124 = .ok (.aload_n 0, 1) := by decide +kernel
theorem dX7_lay_125 : decode cX7_lay 125 = .ok (.getfield 28, 3) := by decide +kernel
theorem dX7_lay_128 : decode cX7_lay 128 = .ok (.iload 6, 2) := by decide +kernel
theorem dX7_lay_130 : decode cX7_lay 130 = .ok (.baload, 1) := by decide +kernel
theorem dX7_lay_131 : decode cX7_lay 131 = .ok (.ifCond .eq 14, 3) := by decide +kernel
theorem dX7_lay_134 : decode cX7_lay 134 = .ok (.aload_n 0, 1) := by decide +kernel
theorem dX7_lay_135 : decode cX7_lay 135 = .ok (.getfield 35, 3) := by decide +kernel
theorem dX7_lay_138 : decode cX7_lay 138 = .ok (.iload 6, 2) := by decide +kernel
theorem dX7_lay_140 : decode cX7_lay 140 = .ok (.iaload, 1) := by decide +kernel
theorem dX7_lay_141 : decode cX7_lay 141 = .ok (.ineg, 1) := by decide +kernel
theorem dX7_lay_142 : decode cX7_lay 142 = .ok (.goto 10, 3) := by decide +kernel
theorem dX7_lay_145 : decode cX7_lay 145 = .ok (.aload_n 0, 1) := by decide +kernel
theorem dX7_lay_146 : decode cX7_lay 146 = .ok (.getfield 35, 3) := by decide +kernel
theorem dX7_lay_149 : decode cX7_lay 149 = .ok (.iload 6, 2) := by decide +kernel
theorem dX7_lay_151 : decode cX7_lay 151 = .ok (.iaload, 1) := by decide +kernel
theorem dX7_lay_152 : decode cX7_lay 152 = .ok (.iadd, 1) := by decide +kernel
theorem dX7_lay_153 : decode cX7_lay 153 = .ok (.istore_n 1, 1) := by decide +kernel
theorem dX7_lay_154 : decode cX7_lay 154 = .ok (.aload_n 0, 1) := by decide +kernel
theorem dX7_lay_155 : decode cX7_lay 155 = .ok (.getfield 65, 3) := by decide +kernel
theorem dX7_lay_158 : decode cX7_lay 158 = .ok (.aload_n 0, 1) := by decide +kernel
theorem dX7_lay_159 : decode cX7_lay 159 = .ok (.getfield 28, 3) := by decide +kernel
theorem dX7_lay_162 : decode cX7_lay 162 = .ok (.iload 6, 2) := by decide +kernel
theorem dX7_lay_164 : decode cX7_lay 164 = .ok (.baload, 1) := by decide +kernel
theorem dX7_lay_165 : decode cX7_lay 165 = .ok (.ifCond .eq 10, 3) := by decide +kernel
theorem dX7_lay_168 : decode cX7_lay 168 = .ok (.iload 5, 2) := by decide +kernel
theorem dX7_lay_170 : decode cX7_lay 170 = .ok (.iconst 2, 1) := by decide +kernel
theorem dX7_lay_171 : decode cX7_lay 171 = .ok (.iadd, 1) := by decide +kernel
theorem dX7_lay_172 : decode cX7_lay 172 = .ok (.goto 7, 3) := by decide +kernel
theorem dX7_lay_175 : decode cX7_lay 175 = .ok (.iload 5, 2) := by decide +kernel
theorem dX7_lay_177 : decode cX7_lay 177 = .ok (.iconst 1, 1) := by decide +kernel
theorem dX7_lay_178 : decode cX7_lay 178 = .ok (.iadd, 1) := by decide +kernel
theorem dX7_lay_179 : decode cX7_lay 179 = .ok (.dup2, 1) := by decide +kernel
theorem dX7_lay_180 : decode cX7_lay 180 = .ok (.iaload, 1) := by decide +kernel
theorem dX7_lay_181 : decode cX7_lay 181 = .ok (.aload_n 0, 1) := by decide +kernel
theorem dX7_lay_182 : decode cX7_lay 182 = .ok (.getfield 35, 3) := by decide +kernel
theorem dX7_lay_185 : decode cX7_lay 185 = .ok (.iload 6, 2) := by decide +kernel
theorem dX7_lay_187 : decode cX7_lay 187 = .ok (.iaload, 1) := by decide +kernel
theorem dX7_lay_188 : decode cX7_lay 188 = .ok (.iadd, 1) := by decide +kernel
theorem dX7_lay_189 : decode cX7_lay 189 = .ok (.iastore, 1) := by decide +kernel
theorem dX7_lay_190 : decode cX7_lay 190 = .ok (.iinc 6 1, 3) := by decide +kernel
theorem dX7_lay_193 : decode cX7_lay 193 = .ok (.goto (-100), 3) := by decide +kernel
theorem dX7_lay_196 : decode cX7_lay 196 = .ok (.iconst 0, 1) := by decide +kernel
theorem dX7_lay_197 : decode cX7_lay 197 = .ok (.istore 6, 2) := by decide +kernel
theorem dX7_lay_199 : decode cX7_lay 199 = .ok (.iload 6, 2) := by decide +kernel
theorem dX7_lay_201 : decode cX7_lay 201 = .ok (.aload_n 0, 1) := by decide +kernel
theorem dX7_lay_202 : decode cX7_lay 202 = .ok (.getfield 101, 3) := by decide +kernel
theorem dX7_lay_205 : decode cX7_lay 205 = .ok (.if_icmp .ge 130, 3) := by decide +kernel
theorem dX7_lay_208 : decode cX7_lay 208 = .ok (.aload_n 0, 1) := by decide +kernel
theorem dX7_lay_209 : decode cX7_lay 209 = .ok (.getfield 68, 3) := by decide +kernel
theorem dX7_lay_212 : decode cX7_lay 212 = .ok (.iload 6, 2) := by decide +kernel
theorem dX7_lay_214 : decode cX7_lay 214 = .ok (.iaload, 1) := by decide +kernel
theorem dX7_lay_215 : decode cX7_lay 215 = .ok (.bipush (-6), 2) := by decide +kernel
theorem dX7_lay_217 : decode cX7_lay 217 = .ok (.if_icmp .eq 19, 3) := by decide +kernel
theorem dX7_lay_220 : decode cX7_lay 220 = .ok (.aload_n 0, 1) := by decide +kernel
theorem dX7_lay_221 : decode cX7_lay 221 = .ok (.getfield 68, 3) := by decide +kernel
theorem dX7_lay_224 : decode cX7_lay 224 = .ok (.iload 6, 2) := by decide +kernel
theorem dX7_lay_226 : decode cX7_lay 226 = .ok (.iaload, 1) := by decide +kernel
theorem dX7_lay_227 : decode cX7_lay 227 = .ok (.iload 4, 2) := by decide +kernel
theorem dX7_lay_229 : decode cX7_lay 229 = .ok (.if_icmp .gt 7, 3) := by decide +kernel
theorem dX7_lay_232 : decode cX7_lay 232 = .ok (.iconst 1, 1) := by decide +kernel
theorem dX7_lay_233 : decode cX7_lay 233 = .ok (.goto 4, 3) := by decide +kernel
theorem dX7_lay_236 : decode cX7_lay 236 = .ok (.iconst 0, 1) := by decide +kernel
theorem dX7_lay_237 : decode cX7_lay 237 = .ok (.istore 7, 2) := by decide +kernel
theorem dX7_lay_239 : decode cX7_lay 239 = .ok (.iload 7, 2) := by decide +kernel
theorem dX7_lay_241 : decode cX7_lay 241 = .ok (.ifCond .eq 88, 3) := by decide +kernel
theorem dX7_lay_244 : decode cX7_lay 244 = .ok (.aload_n 0, 1) := by decide +kernel
theorem dX7_lay_245 : decode cX7_lay 245 = .ok (.getfield 71, 3) := by decide +kernel
theorem dX7_lay_248 : decode cX7_lay 248 = .ok (.iload 6, 2) := by decide +kernel
theorem dX7_lay_250 : decode cX7_lay 250 = .ok (.iaload, 1) := by decide +kernel
theorem dX7_lay_251 : decode cX7_lay 251 = .ok (.bipush (-6), 2) := by decide +kernel
theorem dX7_lay_253 : decode cX7_lay 253 = .ok (.if_icmp .ne 76, 3) := by decide +kernel
theorem dX7_lay_256 : decode cX7_lay 256 = .ok (.aload_n 0, 1) := by decide +kernel
theorem dX7_lay_257 : decode cX7_lay 257 = .ok (.iload 6, 2) := by decide +kernel
theorem dX7_lay_259 : decode cX7_lay 259 = .ok (.iload 4, 2) := by decide +kernel
theorem dX7_lay_261 : decode cX7_lay 261 = .ok (.invokevirtual 107, 3) := by decide +kernel
theorem dX7_lay_264 : decode cX7_lay 264 = .ok (.ifCond .eq 65, 3) := by decide +kernel
theorem dX7_lay_267 : decode cX7_lay 267 = .ok (.aload_n 0, 1) := by decide +kernel
theorem dX7_lay_268 : decode cX7_lay 268 = .ok (.getfield 74, 3) := by decide +kernel
theorem dX7_lay_271 : decode cX7_lay 271 = .ok (.iload 6, 2) := by decide +kernel
theorem dX7_lay_273 : decode cX7_lay 273 = .ok (.iload_n 1, 1) := by decide +kernel
theorem dX7_lay_274 : decode cX7_lay 274 = .ok (.ifCond .le 15, 3) := by decide +kernel
theorem dX7_lay_277 : decode cX7_lay 277 = .ok (.iload_n 1, 1) := by decide +kernel
theorem dX7_lay_278 : decode cX7_lay 278 = .ok (.aload_n 0, 1) := by decide +kernel
theorem dX7_lay_279 : decode cX7_lay 279 = .ok (.iload 4, 2) := by decide +kernel
theorem dX7_lay_281 : decode cX7_lay 281 = .ok (.iconst 0, 1) := by decide +kernel
theorem dX7_lay_282 : decode cX7_lay 282 = .ok (.invokevirtual 116, 3) := by decide +kernel
theorem dX7_lay_285 : decode cX7_lay 285 = .ok (.idiv, 1) := by decide +kernel
theorem dX7_lay_286 : decode cX7_lay 286 = .ok (.goto 4, 3) := by decide +kernel
theorem dX7_lay_289 : decode cX7_lay 289 = .ok (.iconst 0, 1) := by decide +kernel
theorem dX7_lay_290 : decode cX7_lay 290 = .ok (.iastore, 1) := by decide +kernel
theorem dX7_lay_291 : decode cX7_lay 291 = .ok (.aload_n 0, 1) := by decide +kernel
theorem dX7_lay_292 : decode cX7_lay 292 = .ok (.getfield 71, 3) := by decide +kernel
theorem dX7_lay_295 : decode cX7_lay 295 = .ok (.iload 6, 2) := by decide +kernel
theorem dX7_lay_297 : decode cX7_lay 297 = .ok (.iload 4, 2) := by decide +kernel
theorem dX7_lay_299 : decode cX7_lay 299 = .ok (.iastore, 1) := by decide +kernel
theorem dX7_lay_300 : decode cX7_lay 300 = .ok (.iload_n 1, 1) := by decide +kernel
theorem dX7_lay_301 : decode cX7_lay 301 = .ok (.aload_n 0, 1) := by decide +kernel
theorem dX7_lay_302 : decode cX7_lay 302 = .ok (.getfield 74, 3) := by decide +kernel
theorem dX7_lay_305 : decode cX7_lay 305 = .ok (.iload 6, 2) := by decide +kernel
theorem dX7_lay_307 : decode cX7_lay 307 = .ok (.iaload, 1) := by decide +kernel
theorem dX7_lay_308 : decode cX7_lay 308 = .ok (.isub, 1) := by decide +kernel
theorem dX7_lay_309 : decode cX7_lay 309 = .ok (.istore_n 1, 1) := by decide +kernel
theorem dX7_lay_310 : decode cX7_lay 310 = .ok (.aload_n 0, 1) := by decide +kernel
theorem dX7_lay_311 : decode cX7_lay 311 = .ok (.getfield 65, 3) := by decide +kernel
theorem dX7_lay_314 : decode cX7_lay 314 = .ok (.iload 5, 2) := by decide +kernel
theorem dX7_lay_316 : decode cX7_lay 316 = .ok (.iconst 3, 1) := by decide +kernel
theorem dX7_lay_317 : decode cX7_lay 317 = .ok (.iadd, 1) := by decide +kernel
theorem dX7_lay_318 : decode cX7_lay 318 = .ok (.dup2, 1) := by decide +kernel
theorem dX7_lay_319 : decode cX7_lay 319 = .ok (.iaload, 1) := by decide +kernel
theorem dX7_lay_320 : decode cX7_lay 320 = .ok (.aload_n 0, 1) := by decide +kernel
theorem dX7_lay_321 : decode cX7_lay 321 = .ok (.getfield 74, 3) := by decide +kernel
theorem dX7_lay_324 : decode cX7_lay 324 = .ok (.iload 6, 2) := by decide +kernel
theorem dX7_lay_326 : decode cX7_lay 326 = .ok (.iaload, 1) := by decide +kernel
theorem dX7_lay_327 : decode cX7_lay 327 = .ok (.iadd, 1) := by decide +kernel
theorem dX7_lay_328 : decode cX7_lay 328 = .ok (.iastore, 1) := by decide +kernel
theorem dX7_lay_329 : decode cX7_lay 329 = .ok (.iinc 6 1, 3) := by decide +kernel
theorem dX7_lay_332 : decode cX7_lay 332 = .ok (.goto (-133), 3) := by decide +kernel
theorem dX7_lay_335 : decode cX7_lay 335 = .ok (.iload_n 1, 1) := by decide +kernel
theorem dX7_lay_336 : decode cX7_lay 336 = .ok (.aload_n 0, 1) := by decide +kernel
theorem dX7_lay_337 : decode cX7_lay 337 = .ok (.iload 4, 2) := by decide +kernel
theorem dX7_lay_339 : decode cX7_lay 339 = .ok (.iconst 1, 1) := by decide +kernel
theorem dX7_lay_340 : decode cX7_lay 340 = .ok (.invokevirtual 97, 3) := by decide +kernel
theorem dX7_lay_343 : decode cX7_lay 343 = .ok (.isub, 1) := by decide +kernel
theorem dX7_lay_344 : decode cX7_lay 344 = .ok (.istore 6, 2) := by decide +kernel
theorem dX7_lay_346 : decode cX7_lay 346 = .ok (.lload_n 2, 1) := by decide +kernel
theorem dX7_lay_347 : decode cX7_lay 347 = .ok (.iload 6, 2) := by decide +kernel
theorem dX7_lay_349 : decode cX7_lay 349 = .ok (.ifCond .le 18, 3) := by decide +kernel
theorem dX7_lay_352 : decode cX7_lay 352 = .ok (.iload 6, 2) := by decide +kernel
theorem dX7_lay_354 : decode cX7_lay 354 = .ok (.i2l, 1) := by decide +kernel
theorem dX7_lay_355 : decode cX7_lay 355 = .ok (.aload_n 0, 1) := by decide +kernel
theorem dX7_lay_356 : decode cX7_lay 356 = .ok (.iload 4, 2) := by decide +kernel
theorem dX7_lay_358 : decode cX7_lay 358 = .ok (.iconst 2, 1) := by decide +kernel
theorem dX7_lay_359 : decode cX7_lay 359 = .ok (.invokevirtual 97, 3) := by decide +kernel
theorem dX7_lay_362 : decode cX7_lay 362 = .ok (.i2l, 1) := by decide +kernel
theorem dX7_lay_363 : decode cX7_lay 363 = .ok (.lmul, 1) := by decide +kernel
theorem dX7_lay_364 : decode cX7_lay 364 = .ok (.goto 4, 3) := by decide +kernel
theorem dX7_lay_367 : decode cX7_lay 367 = .ok (.lconst 0, 1) := by decide +kernel
theorem dX7_lay_368 : decode cX7_lay 368 = .ok (.ladd, 1) := by decide +kernel
theorem dX7_lay_369 : decode cX7_lay 369 = .ok (.lstore_n 2, 1) := by decide +kernel
theorem dX7_lay_370 : decode cX7_lay 370 = .ok (.iload 4, 2) := by decide +kernel
theorem dX7_lay_372 : decode cX7_lay 372 = .ok (.sipush 360, 3) := by decide +kernel
theorem dX7_lay_375 : decode cX7_lay 375 = .ok (.irem, 1) := by decide +kernel
theorem dX7_lay_376 : decode cX7_lay 376 = .ok (.sipush 359, 3) := by decide +kernel
theorem dX7_lay_379 : decode cX7_lay 379 = .ok (.if_icmp .ne 37, 3) := by decide +kernel
theorem dX7_lay_382 : decode cX7_lay 382 = .ok (.lload_n 2, 1) := by decide +kernel
theorem dX7_lay_383 : decode cX7_lay 383 = .ok (.ldc2_w 151, 3) := by decide +kernel
theorem dX7_lay_386 : decode cX7_lay 386 = .ok (.ldiv, 1) := by decide +kernel
theorem dX7_lay_387 : decode cX7_lay 387 = .ok (.l2i, 1) := by decide +kernel
theorem dX7_lay_388 : decode cX7_lay 388 = .ok (.istore 7, 2) := by decide +kernel
theorem dX7_lay_390 : decode cX7_lay 390 = .ok (.iload_n 1, 1) := by decide +kernel
theorem dX7_lay_391 : decode cX7_lay 391 = .ok (.iload 7, 2) := by decide +kernel
theorem dX7_lay_393 : decode cX7_lay 393 = .ok (.iadd, 1) := by decide +kernel
theorem dX7_lay_394 : decode cX7_lay 394 = .ok (.istore_n 1, 1) := by decide +kernel
theorem dX7_lay_395 : decode cX7_lay 395 = .ok (.aload_n 0, 1) := by decide +kernel
theorem dX7_lay_396 : decode cX7_lay 396 = .ok (.getfield 65, 3) := by decide +kernel
theorem dX7_lay_399 : decode cX7_lay 399 = .ok (.iload 5, 2) := by decide +kernel
theorem dX7_lay_401 : decode cX7_lay 401 = .ok (.iconst 4, 1) := by decide +kernel
theorem dX7_lay_402 : decode cX7_lay 402 = .ok (.iadd, 1) := by decide +kernel
theorem dX7_lay_403 : decode cX7_lay 403 = .ok (.iload 7, 2) := by decide +kernel
theorem dX7_lay_405 : decode cX7_lay 405 = .ok (.iastore, 1) := by decide +kernel
theorem dX7_lay_406 : decode cX7_lay 406 = .ok (.aload_n 0, 1) := by decide +kernel
theorem dX7_lay_407 : decode cX7_lay 407 = .ok (.getfield 65, 3) := by decide +kernel
theorem dX7_lay_410 : decode cX7_lay 410 = .ok (.iload 5, 2) := by decide +kernel
theorem dX7_lay_412 : decode cX7_lay 412 = .ok (.iconst 5, 1) := by decide +kernel
theorem dX7_lay_413 : decode cX7_lay 413 = .ok (.iadd, 1) := by decide +kernel
theorem dX7_lay_414 : decode cX7_lay 414 = .ok (.iload_n 1, 1) := by decide +kernel
theorem dX7_lay_415 : decode cX7_lay 415 = .ok (.iastore, 1) := by decide +kernel
theorem dX7_lay_416 : decode cX7_lay 416 = .ok (.aload_n 0, 1) := by decide +kernel
theorem dX7_lay_417 : decode cX7_lay 417 = .ok (.getfield 62, 3) := by decide +kernel
theorem dX7_lay_420 : decode cX7_lay 420 = .ok (.iload 4, 2) := by decide +kernel
theorem dX7_lay_422 : decode cX7_lay 422 = .ok (.iload_n 1, 1) := by decide +kernel
theorem dX7_lay_423 : decode cX7_lay 423 = .ok (.iastore, 1) := by decide +kernel
theorem dX7_lay_424 : decode cX7_lay 424 = .ok (.iinc 4 1, 3) := by decide +kernel
theorem dX7_lay_427 : decode cX7_lay 427 = .ok (.goto (-403), 3) := by decide +kernel
theorem dX7_lay_430 : decode cX7_lay 430 = .ok (.return_, 1) := by decide +kernel
theorem dX7_pot_0 : decode cX7_pot 0 = .ok (.iload_n 1, 1) := by decide +kernel
theorem dX7_pot_1 : decode cX7_pot 1 = .ok (.invokestatic 81, 3) := by decide +kernel
theorem dX7_pot_4 : decode cX7_pot 4 = .ok (.ifCond .ne 6, 3) := by decide +kernel
theorem dX7_pot_7 : decode cX7_pot 7 = .ok (.ldc 115, 2) := by decide +kernel
theorem dX7_pot_9 : decode cX7_pot 9 = .ok (.ireturn, 1) := by decide +kernel
theorem dX7_pot_10 : decode cX7_pot 10 = .ok (.aload_n 0, 1) := by decide +kernel
theorem dX7_pot_11 : decode cX7_pot 11 = .ok (.invokevirtual 112, 3) := by decide +kernel
theorem dX7_pot_14 : decode cX7_pot 14 = .ok (.aload_n 0, 1) := by decide +kernel
theorem dX7_pot_15 : decode cX7_pot 15 = .ok (.getfield 62, 3) := by decide +kernel
theorem dX7_pot_18 : decode cX7_pot 18 = .ok (.iload_n 1, 1) := by decide +kernel
theorem dX7_pot_19 : decode cX7_pot 19 = .ok (.iaload, 1) := by decide +kernel
theorem dX7_pot_20 : decode cX7_pot 20 = .ok (.ireturn, 1) := by decide +kernel
theorem dX7_isYear_0 : decode cX7_isYear 0 = .ok (.iload_n 0, 1) := by decide +kernel
theorem dX7_isYear_1 : decode cX7_isYear 1 = .ok (.iconst 0, 1) := by decide +kernel
theorem dX7_isYear_2 : decode cX7_isYear 2 = .ok (.bipush 9, 2) := by decide +kernel
theorem dX7_isYear_4 : decode cX7_isYear 4 = .ok (.invokestatic 77, 3) := by decide +kernel
theorem dX7_isYear_7 : decode cX7_isYear 7 = .ok (.ireturn, 1) := by decide +kernel
theorem dX7_account_0 : decode cX7_account 0 = .ok (.iload_n 1, 1) := by decide +kernel
theorem dX7_account_1 : decode cX7_account 1 = .ok (.invokestatic 153, 3) := by decide +kernel
theorem dX7_account_4 : decode cX7_account 4 = .ok (.ifCond .ne 6, 3) := by decide +kernel
theorem dX7_account_7 : decode cX7_account 7 = .ok (.ldc 111, 2) := by decide +kernel
theorem dX7_account_9 : decode cX7_account 9 = .ok (.ireturn, 1) := by decide +kernel
theorem dX7_account_10 : decode cX7_account 10 = .ok (.iload_n 2, 1) := by decide +kernel
theorem dX7_account_11 : decode cX7_account 11 = .ok (.iconst 0, 1) := by decide +kernel
theorem dX7_account_12 : decode cX7_account 12 = .ok (.iconst 5, 1) := by decide +kernel
theorem dX7_account_13 : decode cX7_account 13 = .ok (.invokestatic 77, 3) := by decide +kernel
theorem dX7_account_16 : decode cX7_account 16 = .ok (.ifCond .ne 6, 3) := by decide +kernel
theorem dX7_account_19 : decode cX7_account 19 = .ok (.ldc 115, 2) := by decide +kernel
theorem dX7_account_21 : decode cX7_account 21 = .ok (.ireturn, 1) := by decide +kernel
theorem dX7_account_22 : decode cX7_account 22 = .ok (.aload_n 0, 1) := by decide +kernel
theorem dX7_account_23 : decode cX7_account 23 = .ok (.invokevirtual 112, 3) := by decide +kernel
theorem dX7_account_26 : decode cX7_account 26 = .ok (.aload_n 0, 1) := by decide +kernel
theorem dX7_account_27 : decode cX7_account 27 = .ok (.getfield 65, 3) := by decide +kernel
theorem dX7_account_30 : decode cX7_account 30 = .ok (.bipush 6, 2) := by decide +kernel
theorem dX7_account_32 : decode cX7_account 32 = .ok (.iload_n 1, 1) := by decide +kernel
theorem dX7_account_33 : decode cX7_account 33 = .ok (.imul, 1) := by decide +kernel
theorem dX7_account_34 : decode cX7_account 34 = .ok (.iload_n 2, 1) := by decide +kernel
theorem dX7_account_35 : decode cX7_account 35 = .ok (.iadd, 1) := by decide +kernel
theorem dX7_account_36 : decode cX7_account 36 = .ok (.iaload, 1) := by decide +kernel
theorem dX7_account_37 : decode cX7_account 37 = .ok (.ireturn, 1) := by decide +kernel
theorem dX7_pass_0 : decode cX7_pass 0 = .ok (.iload_n 1, 1) := by decide +kernel
theorem dX7_pass_1 : decode cX7_pass 1 = .ok (.invokestatic 153, 3) := by decide +kernel
theorem dX7_pass_4 : decode cX7_pass 4 = .ok (.ifCond .ne 6, 3) := by decide +kernel
theorem dX7_pass_7 : decode cX7_pass 7 = .ok (.ldc 111, 2) := by decide +kernel
theorem dX7_pass_9 : decode cX7_pass 9 = .ok (.ireturn, 1) := by decide +kernel
theorem dX7_pass_10 : decode cX7_pass 10 = .ok (.aload_n 0, 1) := by decide +kernel
theorem dX7_pass_11 : decode cX7_pass 11 = .ok (.invokevirtual 112, 3) := by decide +kernel
theorem dX7_pass_14 : decode cX7_pass 14 = .ok (.iconst 0, 1) := by decide +kernel
theorem dX7_pass_15 : decode cX7_pass 15 = .ok (.istore_n 2, 1) := by decide +kernel
theorem dX7_pass_16 : decode cX7_pass 16 = .ok (.iload_n 2, 1) := by decide +kernel
theorem dX7_pass_17 : decode cX7_pass 17 = .ok (.bipush 6, 2) := by decide +kernel
theorem dX7_pass_19 : decode cX7_pass 19 = .ok (.if_icmp .ge 31, 3) := by decide +kernel
theorem dX7_pass_22 : decode cX7_pass 22 = .ok (.aload_n 0, 1) := by decide +kernel
theorem dX7_pass_23 : decode cX7_pass 23 = .ok (.getfield 59, 3) := by decide +kernel
theorem dX7_pass_26 : decode cX7_pass 26 = .ok (.bipush 6, 2) := by decide +kernel
theorem dX7_pass_28 : decode cX7_pass 28 = .ok (.iload_n 1, 1) := by decide +kernel
theorem dX7_pass_29 : decode cX7_pass 29 = .ok (.imul, 1) := by decide +kernel
theorem dX7_pass_30 : decode cX7_pass 30 = .ok (.iload_n 2, 1) := by decide +kernel
theorem dX7_pass_31 : decode cX7_pass 31 = .ok (.iadd, 1) := by decide +kernel
theorem dX7_pass_32 : decode cX7_pass 32 = .ok (.aload_n 0, 1) := by decide +kernel
theorem dX7_pass_33 : decode cX7_pass 33 = .ok (.getfield 65, 3) := by decide +kernel
theorem dX7_pass_36 : decode cX7_pass 36 = .ok (.bipush 6, 2) := by decide +kernel
theorem dX7_pass_38 : decode cX7_pass 38 = .ok (.iload_n 1, 1) := by decide +kernel
theorem dX7_pass_39 : decode cX7_pass 39 = .ok (.imul, 1) := by decide +kernel
theorem dX7_pass_40 : decode cX7_pass 40 = .ok (.iload_n 2, 1) := by decide +kernel
theorem dX7_pass_41 : decode cX7_pass 41 = .ok (.iadd, 1) := by decide +kernel
theorem dX7_pass_42 : decode cX7_pass 42 = .ok (.iaload, 1) := by decide +kernel
theorem dX7_pass_43 : decode cX7_pass 43 = .ok (.iastore, 1) := by decide +kernel
theorem dX7_pass_44 : decode cX7_pass 44 = .ok (.iinc 2 1, 3) := by decide +kernel
theorem dX7_pass_47 : decode cX7_pass 47 = .ok (.goto (-31), 3) := by decide +kernel
theorem dX7_pass_50 : decode cX7_pass 50 = .ok (.aload_n 0, 1) := by decide +kernel
theorem dX7_pass_51 : decode cX7_pass 51 = .ok (.dup, 1) := by decide +kernel
theorem dX7_pass_52 : decode cX7_pass 52 = .ok (.getfield 156, 3) := by decide +kernel
theorem dX7_pass_55 : decode cX7_pass 55 = .ok (.iconst 1, 1) := by decide +kernel
theorem dX7_pass_56 : decode cX7_pass 56 = .ok (.iload_n 1, 1) := by decide +kernel
theorem dX7_pass_57 : decode cX7_pass 57 = .ok (.ishl, 1) := by decide +kernel
theorem dX7_pass_58 : decode cX7_pass 58 = .ok (.ior, 1) := by decide +kernel
theorem dX7_pass_59 : decode cX7_pass 59 = .ok (.putfield 156, 3) := by decide +kernel
theorem dX7_pass_62 : decode cX7_pass 62 = .ok (.aload_n 0, 1) := by decide +kernel
theorem dX7_pass_63 : decode cX7_pass 63 = .ok (.getfield 65, 3) := by decide +kernel
theorem dX7_pass_66 : decode cX7_pass 66 = .ok (.bipush 6, 2) := by decide +kernel
theorem dX7_pass_68 : decode cX7_pass 68 = .ok (.iload_n 1, 1) := by decide +kernel
theorem dX7_pass_69 : decode cX7_pass 69 = .ok (.imul, 1) := by decide +kernel
theorem dX7_pass_70 : decode cX7_pass 70 = .ok (.iconst 5, 1) := by decide +kernel
theorem dX7_pass_71 : decode cX7_pass 71 = .ok (.iadd, 1) := by decide +kernel
theorem dX7_pass_72 : decode cX7_pass 72 = .ok (.iaload, 1) := by decide +kernel
theorem dX7_pass_73 : decode cX7_pass 73 = .ok (.ireturn, 1) := by decide +kernel
theorem dX7_passed_0 : decode cX7_passed 0 = .ok (.iload_n 1, 1) := by decide +kernel
theorem dX7_passed_1 : decode cX7_passed 1 = .ok (.invokestatic 153, 3) := by decide +kernel
theorem dX7_passed_4 : decode cX7_passed 4 = .ok (.ifCond .ne 6, 3) := by decide +kernel
theorem dX7_passed_7 : decode cX7_passed 7 = .ok (.ldc 111, 2) := by decide +kernel
theorem dX7_passed_9 : decode cX7_passed 9 = .ok (.ireturn, 1) := by decide +kernel
theorem dX7_passed_10 : decode cX7_passed 10 = .ok (.iload_n 2, 1) := by decide +kernel
theorem dX7_passed_11 : decode cX7_passed 11 = .ok (.iconst 0, 1) := by decide +kernel
theorem dX7_passed_12 : decode cX7_passed 12 = .ok (.iconst 5, 1) := by decide +kernel
theorem dX7_passed_13 : decode cX7_passed 13 = .ok (.invokestatic 77, 3) := by decide +kernel
theorem dX7_passed_16 : decode cX7_passed 16 = .ok (.ifCond .ne 6, 3) := by decide +kernel
theorem dX7_passed_19 : decode cX7_passed 19 = .ok (.ldc 115, 2) := by decide +kernel
theorem dX7_passed_21 : decode cX7_passed 21 = .ok (.ireturn, 1) := by decide +kernel
theorem dX7_passed_22 : decode cX7_passed 22 = .ok (.aload_n 0, 1) := by decide +kernel
theorem dX7_passed_23 : decode cX7_passed 23 = .ok (.getfield 156, 3) := by decide +kernel
theorem dX7_passed_26 : decode cX7_passed 26 = .ok (.iload_n 1, 1) := by decide +kernel
theorem dX7_passed_27 : decode cX7_passed 27 = .ok (.ishr, 1) := by decide +kernel
theorem dX7_passed_28 : decode cX7_passed 28 = .ok (.iconst 1, 1) := by decide +kernel
theorem dX7_passed_29 : decode cX7_passed 29 = .ok (.iand, 1) := by decide +kernel
theorem dX7_passed_30 : decode cX7_passed 30 = .ok (.iconst 1, 1) := by decide +kernel
theorem dX7_passed_31 : decode cX7_passed 31 = .ok (.if_icmp .ne 17, 3) := by decide +kernel
theorem dX7_passed_34 : decode cX7_passed 34 = .ok (.aload_n 0, 1) := by decide +kernel
theorem dX7_passed_35 : decode cX7_passed 35 = .ok (.getfield 59, 3) := by decide +kernel
theorem dX7_passed_38 : decode cX7_passed 38 = .ok (.bipush 6, 2) := by decide +kernel
theorem dX7_passed_40 : decode cX7_passed 40 = .ok (.iload_n 1, 1) := by decide +kernel
theorem dX7_passed_41 : decode cX7_passed 41 = .ok (.imul, 1) := by decide +kernel
theorem dX7_passed_42 : decode cX7_passed 42 = .ok (.iload_n 2, 1) := by decide +kernel
theorem dX7_passed_43 : decode cX7_passed 43 = .ok (.iadd, 1) := by decide +kernel
theorem dX7_passed_44 : decode cX7_passed 44 = .ok (.iaload, 1) := by decide +kernel
theorem dX7_passed_45 : decode cX7_passed 45 = .ok (.goto 5, 3) := by decide +kernel
theorem dX7_passed_48 : decode cX7_passed 48 = .ok (.ldc 159, 2) := by decide +kernel
theorem dX7_passed_50 : decode cX7_passed 50 = .ok (.ireturn, 1) := by decide +kernel
theorem dX7_open_0 : decode cX7_open 0 = .ok (.aload_n 0, 1) := by decide +kernel
theorem dX7_open_1 : decode cX7_open 1 = .ok (.invokevirtual 112, 3) := by decide +kernel
theorem dX7_open_4 : decode cX7_open 4 = .ok (.iconst 0, 1) := by decide +kernel
theorem dX7_open_5 : decode cX7_open 5 = .ok (.istore_n 1, 1) := by decide +kernel
theorem dX7_open_6 : decode cX7_open 6 = .ok (.iconst 0, 1) := by decide +kernel
theorem dX7_open_7 : decode cX7_open 7 = .ok (.istore_n 2, 1) := by decide +kernel
theorem dX7_open_8 : decode cX7_open 8 = .ok (.iload_n 2, 1) := by decide +kernel
theorem dX7_open_9 : decode cX7_open 9 = .ok (.bipush 10, 2) := by decide +kernel
theorem dX7_open_11 : decode cX7_open 11 = .ok (.if_icmp .ge 89, 3) := by decide +kernel
theorem dX7_open_14 : decode cX7_open 14 = .ok (.iconst 0, 1) := by decide +kernel
theorem dX7_open_15 : decode cX7_open 15 = .ok (.istore_n 3, 1) := by decide +kernel
theorem dX7_open_16 : decode cX7_open 16 = .ok (.iconst 1, 1) := by decide +kernel
theorem dX7_open_17 : decode cX7_open 17 = .ok (.istore 4, 2) := by decide +kernel
theorem dX7_open_19 : decode cX7_open 19 = .ok (.iload 4, 2) := by decide +kernel
theorem dX7_open_21 : decode cX7_open 21 = .ok (.iconst 5, 1) := by decide +kernel
theorem dX7_open_22 : decode cX7_open 22 = .ok (.if_icmp .ge 46, 3) := by decide +kernel
theorem dX7_open_25 : decode cX7_open 25 = .ok (.iload_n 3, 1) := by decide +kernel
theorem dX7_open_26 : decode cX7_open 26 = .ok (.ifCond .ne 30, 3) := by decide +kernel
theorem dX7_open_29 : decode cX7_open 29 = .ok (.aload_n 0, 1) := by decide +kernel
theorem dX7_open_30 : decode cX7_open 30 = .ok (.getfield 59, 3) := by decide +kernel
theorem dX7_open_33 : decode cX7_open 33 = .ok (.bipush 6, 2) := by decide +kernel
theorem dX7_open_35 : decode cX7_open 35 = .ok (.iload_n 2, 1) := by decide +kernel
theorem dX7_open_36 : decode cX7_open 36 = .ok (.imul, 1) := by decide +kernel
theorem dX7_open_37 : decode cX7_open 37 = .ok (.iload 4, 2) := by decide +kernel
theorem dX7_open_39 : decode cX7_open 39 = .ok (.iadd, 1) := by decide +kernel
theorem dX7_open_40 : decode cX7_open 40 = .ok (.iaload, 1) := by decide +kernel
theorem dX7_open_41 : decode cX7_open 41 = .ok (.aload_n 0, 1) := by decide +kernel
theorem dX7_open_42 : decode cX7_open 42 = .ok (.getfield 65, 3) := by decide +kernel
theorem dX7_open_45 : decode cX7_open 45 = .ok (.bipush 6, 2) := by decide +kernel
theorem dX7_open_47 : decode cX7_open 47 = .ok (.iload_n 2, 1) := by decide +kernel
theorem dX7_open_48 : decode cX7_open 48 = .ok (.imul, 1) := by decide +kernel
theorem dX7_open_49 : decode cX7_open 49 = .ok (.iload 4, 2) := by decide +kernel
theorem dX7_open_51 : decode cX7_open 51 = .ok (.iadd, 1) := by decide +kernel
theorem dX7_open_52 : decode cX7_open 52 = .ok (.iaload, 1) := by decide +kernel
theorem dX7_open_53 : decode cX7_open 53 = .ok (.if_icmp .eq 7, 3) := by decide +kernel
theorem dX7_open_56 : decode cX7_open 56 = .ok (.iconst 1, 1) := by decide +kernel
theorem dX7_open_57 : decode cX7_open 57 = .ok (.goto 4, 3) := by decide +kernel
theorem dX7_open_60 : decode cX7_open 60 = .ok (.iconst 0, 1) := by decide +kernel
theorem dX7_open_61 : decode cX7_open 61 = .ok (.istore_n 3, 1) := by decide +kernel
theorem dX7_open_62 : decode cX7_open 62 = .ok (.iinc 4 1, 3) := by decide +kernel
theorem dX7_open_65 : decode cX7_open 65 = .ok (.goto (-46), 3) := by decide +kernel
theorem dX7_open_68 : decode cX7_open 68 = .ok (.iload_n 1, 1) := by decide +kernel
theorem dX7_open_69 : decode cX7_open 69 = .ok (.iload_n 3, 1) := by decide +kernel
theorem dX7_open_70 : decode cX7_open 70 = .ok (.ifCond .eq 21, 3) := by decide +kernel
theorem dX7_open_73 : decode cX7_open 73 = .ok (.aload_n 0, 1) := by decide +kernel
theorem dX7_open_74 : decode cX7_open 74 = .ok (.getfield 156, 3) := by decide +kernel
theorem dX7_open_77 : decode cX7_open 77 = .ok (.iload_n 2, 1) := by decide +kernel
theorem dX7_open_78 : decode cX7_open 78 = .ok (.ishr, 1) := by decide +kernel
theorem dX7_open_79 : decode cX7_open 79 = .ok (.iconst 1, 1) := by decide +kernel
theorem dX7_open_80 : decode cX7_open 80 = .ok (.iand, 1) := by decide +kernel
theorem dX7_open_81 : decode cX7_open 81 = .ok (.iconst 1, 1) := by decide +kernel
theorem dX7_open_82 : decode cX7_open 82 = .ok (.if_icmp .ne 9, 3) := by decide +kernel
theorem dX7_open_85 : decode cX7_open 85 = .ok (.iconst 1, 1) := by decide +kernel
theorem dX7_open_86 : decode cX7_open 86 = .ok (.iload_n 2, 1) := by decide +kernel
theorem dX7_open_87 : decode cX7_open 87 = .ok (.ishl, 1) := by decide +kernel
theorem dX7_open_88 : decode cX7_open 88 = .ok (.goto 4, 3) := by decide +kernel
theorem dX7_open_91 : decode cX7_open 91 = .ok (.iconst 0, 1) := by decide +kernel
theorem dX7_open_92 : decode cX7_open 92 = .ok (.ior, 1) := by decide +kernel
theorem dX7_open_93 : decode cX7_open 93 = .ok (.istore_n 1, 1) := by decide +kernel
theorem dX7_open_94 : decode cX7_open 94 = .ok (.iinc 2 1, 3) := by decide +kernel
theorem dX7_open_97 : decode cX7_open 97 = .ok (.goto (-89), 3) := by decide +kernel
theorem dX7_open_100 : decode cX7_open 100 = .ok (.iload_n 1, 1) := by decide +kernel
theorem dX7_open_101 : decode cX7_open 101 = .ok (.ireturn, 1) := by decide +kernel
theorem dX7_told_0 : decode cX7_told 0 = .ok (.iload_n 1, 1) := by decide +kernel
theorem dX7_told_1 : decode cX7_told 1 = .ok (.tableswitch 69 0 5 #[39, 44, 49, 54, 59, 64], 39) := by decide +kernel
theorem dX7_told_40 : decode cX7_told 40 = .ok (.aload_n 0, 1) := by decide +kernel
theorem dX7_told_41 : decode cX7_told 41 = .ok (.getfield 85, 3) := by decide +kernel
theorem dX7_told_44 : decode cX7_told 44 = .ok (.ireturn, 1) := by decide +kernel
theorem dX7_told_45 : decode cX7_told 45 = .ok (.aload_n 0, 1) := by decide +kernel
theorem dX7_told_46 : decode cX7_told 46 = .ok (.getfield 101, 3) := by decide +kernel
theorem dX7_told_49 : decode cX7_told 49 = .ok (.ireturn, 1) := by decide +kernel
theorem dX7_told_50 : decode cX7_told 50 = .ok (.aload_n 0, 1) := by decide +kernel
theorem dX7_told_51 : decode cX7_told 51 = .ok (.getfield 120, 3) := by decide +kernel
theorem dX7_told_54 : decode cX7_told 54 = .ok (.ireturn, 1) := by decide +kernel
theorem dX7_told_55 : decode cX7_told 55 = .ok (.aload_n 0, 1) := by decide +kernel
theorem dX7_told_56 : decode cX7_told 56 = .ok (.getfield 129, 3) := by decide +kernel
theorem dX7_told_59 : decode cX7_told 59 = .ok (.ireturn, 1) := by decide +kernel
theorem dX7_told_60 : decode cX7_told 60 = .ok (.aload_n 0, 1) := by decide +kernel
theorem dX7_told_61 : decode cX7_told 61 = .ok (.getfield 126, 3) := by decide +kernel
theorem dX7_told_64 : decode cX7_told 64 = .ok (.ireturn, 1) := by decide +kernel
theorem dX7_told_65 : decode cX7_told 65 = .ok (.aload_n 0, 1) := by decide +kernel
theorem dX7_told_66 : decode cX7_told 66 = .ok (.getfield 156, 3) := by decide +kernel
theorem dX7_told_69 : decode cX7_told 69 = .ok (.ireturn, 1) := by decide +kernel
theorem dX7_told_70 : decode cX7_told 70 = .ok (.bipush (-2), 2) := by decide +kernel
theorem dX7_told_72 : decode cX7_told 72 = .ok (.ireturn, 1) := by decide +kernel
theorem dJ9_min_7cf53_0 : decode cJ9_min_7cf53 0 = .ok (.iload_n 0, 1) := by decide +kernel
theorem dJ9_min_7cf53_1 : decode cJ9_min_7cf53 1 = .ok (.iload_n 1, 1) := by decide +kernel
theorem dJ9_min_7cf53_2 : decode cJ9_min_7cf53 2 = .ok (.if_icmp .gt 7, 3) := by decide +kernel
theorem dJ9_min_7cf53_5 : decode cJ9_min_7cf53 5 = .ok (.iload_n 0, 1) := by decide +kernel
theorem dJ9_min_7cf53_6 : decode cJ9_min_7cf53 6 = .ok (.goto 4, 3) := by decide +kernel
theorem dJ9_min_7cf53_9 : decode cJ9_min_7cf53 9 = .ok (.iload_n 1, 1) := by decide +kernel
theorem dJ9_min_7cf53_10 : decode cJ9_min_7cf53 10 = .ok (.ireturn, 1) := by decide +kernel
abbrev vwCl : List vw_C := [(RX0, TX0, 3), (RX1, TX1, 8), (RX2, TX2, 3), (RX3, TX3, 5), (RX4, TX4, 3), (RX5, TX5, 6), (RX6, TX6, 7), (RX7, TX7, 29)]
theorem iwX0 : ∀ w ∈ wsX00, w ∈ lw_tbl := by decide +kernel
theorem iwX1 : ∀ w ∈ wsX10, w ∈ lw_tbl := by decide +kernel
theorem iwX2 : ∀ w ∈ wsX20, w ∈ lw_tbl := by decide +kernel
theorem iwX3 : ∀ w ∈ wsX30, w ∈ lw_tbl := by decide +kernel
theorem iwX4 : ∀ w ∈ wsX40, w ∈ lw_tbl := by decide +kernel
theorem iwX5 : ∀ w ∈ wsX50, w ∈ lw_tbl := by decide +kernel
theorem iwX6 : ∀ w ∈ wsX60, w ∈ lw_tbl := by decide +kernel
theorem iwX7 : ∀ w ∈ wsX70, w ∈ lw_tbl := by decide +kernel
end
section
/-! the decode rows of the law's entry -/
theorem dL_law_0 : decode cL_law 0 = .ok (.new 7, 3) := by decide +kernel
theorem dL_law_3 : decode cL_law 3 = .ok (.dup, 1) := by decide +kernel
theorem dL_law_4 : decode cL_law 4 = .ok (.invokespecial 9, 3) := by decide +kernel
theorem dL_law_7 : decode cL_law 7 = .ok (.astore_n 1, 1) := by decide +kernel
theorem dL_law_8 : decode cL_law 8 = .ok (.new 10, 3) := by decide +kernel
theorem dL_law_11 : decode cL_law 11 = .ok (.dup, 1) := by decide +kernel
theorem dL_law_12 : decode cL_law 12 = .ok (.invokespecial 12, 3) := by decide +kernel
theorem dL_law_15 : decode cL_law 15 = .ok (.astore_n 2, 1) := by decide +kernel
theorem dL_law_16 : decode cL_law 16 = .ok (.iconst 0, 1) := by decide +kernel
theorem dL_law_17 : decode cL_law 17 = .ok (.istore_n 3, 1) := by decide +kernel
theorem dL_law_18 : decode cL_law 18 = .ok (.iload_n 3, 1) := by decide +kernel
theorem dL_law_19 : decode cL_law 19 = .ok (.aload_n 0, 1) := by decide +kernel
theorem dL_law_20 : decode cL_law 20 = .ok (.arraylength, 1) := by decide +kernel
theorem dL_law_21 : decode cL_law 21 = .ok (.bipush 7, 2) := by decide +kernel
theorem dL_law_23 : decode cL_law 23 = .ok (.isub, 1) := by decide +kernel
theorem dL_law_24 : decode cL_law 24 = .ok (.if_icmp .gt 858, 3) := by decide +kernel
theorem dL_law_27 : decode cL_law 27 = .ok (.aload_n 0, 1) := by decide +kernel
theorem dL_law_28 : decode cL_law 28 = .ok (.iload_n 3, 1) := by decide +kernel
theorem dL_law_29 : decode cL_law 29 = .ok (.iaload, 1) := by decide +kernel
theorem dL_law_30 : decode cL_law 30 = .ok (.bipush 31, 2) := by decide +kernel
theorem dL_law_32 : decode cL_law 32 = .ok (.iand, 1) := by decide +kernel
theorem dL_law_33 : decode cL_law 33 = .ok (.tableswitch 843 0 21 #[103, 178, 211, 234, 267, 300, 323, 346, 379, 422, 465, 514, 563, 586, 639, 662, 695, 718, 751, 774, 807, 820], 103) := by decide +kernel
theorem dL_law_136 : decode cL_law 136 = .ok (.aload_n 1, 1) := by decide +kernel
theorem dL_law_137 : decode cL_law 137 = .ok (.aload_n 0, 1) := by decide +kernel
theorem dL_law_138 : decode cL_law 138 = .ok (.iload_n 3, 1) := by decide +kernel
theorem dL_law_139 : decode cL_law 139 = .ok (.iconst 1, 1) := by decide +kernel
theorem dL_law_140 : decode cL_law 140 = .ok (.iadd, 1) := by decide +kernel
theorem dL_law_141 : decode cL_law 141 = .ok (.iaload, 1) := by decide +kernel
theorem dL_law_142 : decode cL_law 142 = .ok (.aload_n 0, 1) := by decide +kernel
theorem dL_law_143 : decode cL_law 143 = .ok (.iload_n 3, 1) := by decide +kernel
theorem dL_law_144 : decode cL_law 144 = .ok (.iconst 2, 1) := by decide +kernel
theorem dL_law_145 : decode cL_law 145 = .ok (.iadd, 1) := by decide +kernel
theorem dL_law_146 : decode cL_law 146 = .ok (.iaload, 1) := by decide +kernel
theorem dL_law_147 : decode cL_law 147 = .ok (.aload_n 0, 1) := by decide +kernel
theorem dL_law_148 : decode cL_law 148 = .ok (.iload_n 3, 1) := by decide +kernel
theorem dL_law_149 : decode cL_law 149 = .ok (.iconst 3, 1) := by decide +kernel
theorem dL_law_150 : decode cL_law 150 = .ok (.iadd, 1) := by decide +kernel
theorem dL_law_151 : decode cL_law 151 = .ok (.iaload, 1) := by decide +kernel
theorem dL_law_152 : decode cL_law 152 = .ok (.aload_n 0, 1) := by decide +kernel
theorem dL_law_153 : decode cL_law 153 = .ok (.iload_n 3, 1) := by decide +kernel
theorem dL_law_154 : decode cL_law 154 = .ok (.iconst 4, 1) := by decide +kernel
theorem dL_law_155 : decode cL_law 155 = .ok (.iadd, 1) := by decide +kernel
theorem dL_law_156 : decode cL_law 156 = .ok (.iaload, 1) := by decide +kernel
theorem dL_law_157 : decode cL_law 157 = .ok (.aload_n 0, 1) := by decide +kernel
theorem dL_law_158 : decode cL_law 158 = .ok (.iload_n 3, 1) := by decide +kernel
theorem dL_law_159 : decode cL_law 159 = .ok (.iconst 5, 1) := by decide +kernel
theorem dL_law_160 : decode cL_law 160 = .ok (.iadd, 1) := by decide +kernel
theorem dL_law_161 : decode cL_law 161 = .ok (.iaload, 1) := by decide +kernel
theorem dL_law_162 : decode cL_law 162 = .ok (.aload_n 0, 1) := by decide +kernel
theorem dL_law_163 : decode cL_law 163 = .ok (.iload_n 3, 1) := by decide +kernel
theorem dL_law_164 : decode cL_law 164 = .ok (.bipush 6, 2) := by decide +kernel
theorem dL_law_166 : decode cL_law 166 = .ok (.iadd, 1) := by decide +kernel
theorem dL_law_167 : decode cL_law 167 = .ok (.iaload, 1) := by decide +kernel
theorem dL_law_168 : decode cL_law 168 = .ok (.invokevirtual 13, 3) := by decide +kernel
theorem dL_law_171 : decode cL_law 171 = .ok (.aload_n 2, 1) := by decide +kernel
theorem dL_law_172 : decode cL_law 172 = .ok (.aload_n 0, 1) := by decide +kernel
theorem dL_law_173 : decode cL_law 173 = .ok (.iload_n 3, 1) := by decide +kernel
theorem dL_law_174 : decode cL_law 174 = .ok (.iconst 1, 1) := by decide +kernel
theorem dL_law_175 : decode cL_law 175 = .ok (.iadd, 1) := by decide +kernel
theorem dL_law_176 : decode cL_law 176 = .ok (.iaload, 1) := by decide +kernel
theorem dL_law_177 : decode cL_law 177 = .ok (.aload_n 0, 1) := by decide +kernel
theorem dL_law_178 : decode cL_law 178 = .ok (.iload_n 3, 1) := by decide +kernel
theorem dL_law_179 : decode cL_law 179 = .ok (.iconst 2, 1) := by decide +kernel
theorem dL_law_180 : decode cL_law 180 = .ok (.iadd, 1) := by decide +kernel
theorem dL_law_181 : decode cL_law 181 = .ok (.iaload, 1) := by decide +kernel
theorem dL_law_182 : decode cL_law 182 = .ok (.aload_n 0, 1) := by decide +kernel
theorem dL_law_183 : decode cL_law 183 = .ok (.iload_n 3, 1) := by decide +kernel
theorem dL_law_184 : decode cL_law 184 = .ok (.iconst 3, 1) := by decide +kernel
theorem dL_law_185 : decode cL_law 185 = .ok (.iadd, 1) := by decide +kernel
theorem dL_law_186 : decode cL_law 186 = .ok (.iaload, 1) := by decide +kernel
theorem dL_law_187 : decode cL_law 187 = .ok (.aload_n 0, 1) := by decide +kernel
theorem dL_law_188 : decode cL_law 188 = .ok (.iload_n 3, 1) := by decide +kernel
theorem dL_law_189 : decode cL_law 189 = .ok (.iconst 4, 1) := by decide +kernel
theorem dL_law_190 : decode cL_law 190 = .ok (.iadd, 1) := by decide +kernel
theorem dL_law_191 : decode cL_law 191 = .ok (.iaload, 1) := by decide +kernel
theorem dL_law_192 : decode cL_law 192 = .ok (.aload_n 0, 1) := by decide +kernel
theorem dL_law_193 : decode cL_law 193 = .ok (.iload_n 3, 1) := by decide +kernel
theorem dL_law_194 : decode cL_law 194 = .ok (.iconst 5, 1) := by decide +kernel
theorem dL_law_195 : decode cL_law 195 = .ok (.iadd, 1) := by decide +kernel
theorem dL_law_196 : decode cL_law 196 = .ok (.iaload, 1) := by decide +kernel
theorem dL_law_197 : decode cL_law 197 = .ok (.aload_n 0, 1) := by decide +kernel
theorem dL_law_198 : decode cL_law 198 = .ok (.iload_n 3, 1) := by decide +kernel
theorem dL_law_199 : decode cL_law 199 = .ok (.bipush 6, 2) := by decide +kernel
theorem dL_law_201 : decode cL_law 201 = .ok (.iadd, 1) := by decide +kernel
theorem dL_law_202 : decode cL_law 202 = .ok (.iaload, 1) := by decide +kernel
theorem dL_law_203 : decode cL_law 203 = .ok (.invokevirtual 17, 3) := by decide +kernel
theorem dL_law_206 : decode cL_law 206 = .ok (.if_icmp .eq 670, 3) := by decide +kernel
theorem dL_law_209 : decode cL_law 209 = .ok (.iconst 0, 1) := by decide +kernel
theorem dL_law_210 : decode cL_law 210 = .ok (.ireturn, 1) := by decide +kernel
theorem dL_law_211 : decode cL_law 211 = .ok (.aload_n 1, 1) := by decide +kernel
theorem dL_law_212 : decode cL_law 212 = .ok (.aload_n 0, 1) := by decide +kernel
theorem dL_law_213 : decode cL_law 213 = .ok (.iload_n 3, 1) := by decide +kernel
theorem dL_law_214 : decode cL_law 214 = .ok (.iconst 1, 1) := by decide +kernel
theorem dL_law_215 : decode cL_law 215 = .ok (.iadd, 1) := by decide +kernel
theorem dL_law_216 : decode cL_law 216 = .ok (.iaload, 1) := by decide +kernel
theorem dL_law_217 : decode cL_law 217 = .ok (.aload_n 0, 1) := by decide +kernel
theorem dL_law_218 : decode cL_law 218 = .ok (.iload_n 3, 1) := by decide +kernel
theorem dL_law_219 : decode cL_law 219 = .ok (.iconst 2, 1) := by decide +kernel
theorem dL_law_220 : decode cL_law 220 = .ok (.iadd, 1) := by decide +kernel
theorem dL_law_221 : decode cL_law 221 = .ok (.iaload, 1) := by decide +kernel
theorem dL_law_222 : decode cL_law 222 = .ok (.invokevirtual 18, 3) := by decide +kernel
theorem dL_law_225 : decode cL_law 225 = .ok (.aload_n 2, 1) := by decide +kernel
theorem dL_law_226 : decode cL_law 226 = .ok (.aload_n 0, 1) := by decide +kernel
theorem dL_law_227 : decode cL_law 227 = .ok (.iload_n 3, 1) := by decide +kernel
theorem dL_law_228 : decode cL_law 228 = .ok (.iconst 1, 1) := by decide +kernel
theorem dL_law_229 : decode cL_law 229 = .ok (.iadd, 1) := by decide +kernel
theorem dL_law_230 : decode cL_law 230 = .ok (.iaload, 1) := by decide +kernel
theorem dL_law_231 : decode cL_law 231 = .ok (.aload_n 0, 1) := by decide +kernel
theorem dL_law_232 : decode cL_law 232 = .ok (.iload_n 3, 1) := by decide +kernel
theorem dL_law_233 : decode cL_law 233 = .ok (.iconst 2, 1) := by decide +kernel
theorem dL_law_234 : decode cL_law 234 = .ok (.iadd, 1) := by decide +kernel
theorem dL_law_235 : decode cL_law 235 = .ok (.iaload, 1) := by decide +kernel
theorem dL_law_236 : decode cL_law 236 = .ok (.invokevirtual 22, 3) := by decide +kernel
theorem dL_law_239 : decode cL_law 239 = .ok (.if_icmp .eq 637, 3) := by decide +kernel
theorem dL_law_242 : decode cL_law 242 = .ok (.iconst 0, 1) := by decide +kernel
theorem dL_law_243 : decode cL_law 243 = .ok (.ireturn, 1) := by decide +kernel
theorem dL_law_244 : decode cL_law 244 = .ok (.aload_n 1, 1) := by decide +kernel
theorem dL_law_245 : decode cL_law 245 = .ok (.aload_n 0, 1) := by decide +kernel
theorem dL_law_246 : decode cL_law 246 = .ok (.iload_n 3, 1) := by decide +kernel
theorem dL_law_247 : decode cL_law 247 = .ok (.iconst 1, 1) := by decide +kernel
theorem dL_law_248 : decode cL_law 248 = .ok (.iadd, 1) := by decide +kernel
theorem dL_law_249 : decode cL_law 249 = .ok (.iaload, 1) := by decide +kernel
theorem dL_law_250 : decode cL_law 250 = .ok (.invokevirtual 23, 3) := by decide +kernel
theorem dL_law_253 : decode cL_law 253 = .ok (.aload_n 2, 1) := by decide +kernel
theorem dL_law_254 : decode cL_law 254 = .ok (.aload_n 0, 1) := by decide +kernel
theorem dL_law_255 : decode cL_law 255 = .ok (.iload_n 3, 1) := by decide +kernel
theorem dL_law_256 : decode cL_law 256 = .ok (.iconst 1, 1) := by decide +kernel
theorem dL_law_257 : decode cL_law 257 = .ok (.iadd, 1) := by decide +kernel
theorem dL_law_258 : decode cL_law 258 = .ok (.iaload, 1) := by decide +kernel
theorem dL_law_259 : decode cL_law 259 = .ok (.invokevirtual 27, 3) := by decide +kernel
theorem dL_law_262 : decode cL_law 262 = .ok (.if_icmp .eq 614, 3) := by decide +kernel
theorem dL_law_265 : decode cL_law 265 = .ok (.iconst 0, 1) := by decide +kernel
theorem dL_law_266 : decode cL_law 266 = .ok (.ireturn, 1) := by decide +kernel
theorem dL_law_267 : decode cL_law 267 = .ok (.aload_n 1, 1) := by decide +kernel
theorem dL_law_268 : decode cL_law 268 = .ok (.aload_n 0, 1) := by decide +kernel
theorem dL_law_269 : decode cL_law 269 = .ok (.iload_n 3, 1) := by decide +kernel
theorem dL_law_270 : decode cL_law 270 = .ok (.iconst 1, 1) := by decide +kernel
theorem dL_law_271 : decode cL_law 271 = .ok (.iadd, 1) := by decide +kernel
theorem dL_law_272 : decode cL_law 272 = .ok (.iaload, 1) := by decide +kernel
theorem dL_law_273 : decode cL_law 273 = .ok (.aload_n 0, 1) := by decide +kernel
theorem dL_law_274 : decode cL_law 274 = .ok (.iload_n 3, 1) := by decide +kernel
theorem dL_law_275 : decode cL_law 275 = .ok (.iconst 2, 1) := by decide +kernel
theorem dL_law_276 : decode cL_law 276 = .ok (.iadd, 1) := by decide +kernel
theorem dL_law_277 : decode cL_law 277 = .ok (.iaload, 1) := by decide +kernel
theorem dL_law_278 : decode cL_law 278 = .ok (.invokevirtual 28, 3) := by decide +kernel
theorem dL_law_281 : decode cL_law 281 = .ok (.aload_n 2, 1) := by decide +kernel
theorem dL_law_282 : decode cL_law 282 = .ok (.aload_n 0, 1) := by decide +kernel
theorem dL_law_283 : decode cL_law 283 = .ok (.iload_n 3, 1) := by decide +kernel
theorem dL_law_284 : decode cL_law 284 = .ok (.iconst 1, 1) := by decide +kernel
theorem dL_law_285 : decode cL_law 285 = .ok (.iadd, 1) := by decide +kernel
theorem dL_law_286 : decode cL_law 286 = .ok (.iaload, 1) := by decide +kernel
theorem dL_law_287 : decode cL_law 287 = .ok (.aload_n 0, 1) := by decide +kernel
theorem dL_law_288 : decode cL_law 288 = .ok (.iload_n 3, 1) := by decide +kernel
theorem dL_law_289 : decode cL_law 289 = .ok (.iconst 2, 1) := by decide +kernel
theorem dL_law_290 : decode cL_law 290 = .ok (.iadd, 1) := by decide +kernel
theorem dL_law_291 : decode cL_law 291 = .ok (.iaload, 1) := by decide +kernel
theorem dL_law_292 : decode cL_law 292 = .ok (.invokevirtual 31, 3) := by decide +kernel
theorem dL_law_295 : decode cL_law 295 = .ok (.if_icmp .eq 581, 3) := by decide +kernel
theorem dL_law_298 : decode cL_law 298 = .ok (.iconst 0, 1) := by decide +kernel
theorem dL_law_299 : decode cL_law 299 = .ok (.ireturn, 1) := by decide +kernel
theorem dL_law_300 : decode cL_law 300 = .ok (.aload_n 1, 1) := by decide +kernel
theorem dL_law_301 : decode cL_law 301 = .ok (.aload_n 0, 1) := by decide +kernel
theorem dL_law_302 : decode cL_law 302 = .ok (.iload_n 3, 1) := by decide +kernel
theorem dL_law_303 : decode cL_law 303 = .ok (.iconst 1, 1) := by decide +kernel
theorem dL_law_304 : decode cL_law 304 = .ok (.iadd, 1) := by decide +kernel
theorem dL_law_305 : decode cL_law 305 = .ok (.iaload, 1) := by decide +kernel
theorem dL_law_306 : decode cL_law 306 = .ok (.aload_n 0, 1) := by decide +kernel
theorem dL_law_307 : decode cL_law 307 = .ok (.iload_n 3, 1) := by decide +kernel
theorem dL_law_308 : decode cL_law 308 = .ok (.iconst 2, 1) := by decide +kernel
theorem dL_law_309 : decode cL_law 309 = .ok (.iadd, 1) := by decide +kernel
theorem dL_law_310 : decode cL_law 310 = .ok (.iaload, 1) := by decide +kernel
theorem dL_law_311 : decode cL_law 311 = .ok (.invokevirtual 32, 3) := by decide +kernel
theorem dL_law_314 : decode cL_law 314 = .ok (.aload_n 2, 1) := by decide +kernel
theorem dL_law_315 : decode cL_law 315 = .ok (.aload_n 0, 1) := by decide +kernel
theorem dL_law_316 : decode cL_law 316 = .ok (.iload_n 3, 1) := by decide +kernel
theorem dL_law_317 : decode cL_law 317 = .ok (.iconst 1, 1) := by decide +kernel
theorem dL_law_318 : decode cL_law 318 = .ok (.iadd, 1) := by decide +kernel
theorem dL_law_319 : decode cL_law 319 = .ok (.iaload, 1) := by decide +kernel
theorem dL_law_320 : decode cL_law 320 = .ok (.aload_n 0, 1) := by decide +kernel
theorem dL_law_321 : decode cL_law 321 = .ok (.iload_n 3, 1) := by decide +kernel
theorem dL_law_322 : decode cL_law 322 = .ok (.iconst 2, 1) := by decide +kernel
theorem dL_law_323 : decode cL_law 323 = .ok (.iadd, 1) := by decide +kernel
theorem dL_law_324 : decode cL_law 324 = .ok (.iaload, 1) := by decide +kernel
theorem dL_law_325 : decode cL_law 325 = .ok (.invokevirtual 35, 3) := by decide +kernel
theorem dL_law_328 : decode cL_law 328 = .ok (.if_icmp .eq 548, 3) := by decide +kernel
theorem dL_law_331 : decode cL_law 331 = .ok (.iconst 0, 1) := by decide +kernel
theorem dL_law_332 : decode cL_law 332 = .ok (.ireturn, 1) := by decide +kernel
theorem dL_law_333 : decode cL_law 333 = .ok (.aload_n 1, 1) := by decide +kernel
theorem dL_law_334 : decode cL_law 334 = .ok (.aload_n 0, 1) := by decide +kernel
theorem dL_law_335 : decode cL_law 335 = .ok (.iload_n 3, 1) := by decide +kernel
theorem dL_law_336 : decode cL_law 336 = .ok (.iconst 1, 1) := by decide +kernel
theorem dL_law_337 : decode cL_law 337 = .ok (.iadd, 1) := by decide +kernel
theorem dL_law_338 : decode cL_law 338 = .ok (.iaload, 1) := by decide +kernel
theorem dL_law_339 : decode cL_law 339 = .ok (.invokevirtual 36, 3) := by decide +kernel
theorem dL_law_342 : decode cL_law 342 = .ok (.aload_n 2, 1) := by decide +kernel
theorem dL_law_343 : decode cL_law 343 = .ok (.aload_n 0, 1) := by decide +kernel
theorem dL_law_344 : decode cL_law 344 = .ok (.iload_n 3, 1) := by decide +kernel
theorem dL_law_345 : decode cL_law 345 = .ok (.iconst 1, 1) := by decide +kernel
theorem dL_law_346 : decode cL_law 346 = .ok (.iadd, 1) := by decide +kernel
theorem dL_law_347 : decode cL_law 347 = .ok (.iaload, 1) := by decide +kernel
theorem dL_law_348 : decode cL_law 348 = .ok (.invokevirtual 39, 3) := by decide +kernel
theorem dL_law_351 : decode cL_law 351 = .ok (.if_icmp .eq 525, 3) := by decide +kernel
theorem dL_law_354 : decode cL_law 354 = .ok (.iconst 0, 1) := by decide +kernel
theorem dL_law_355 : decode cL_law 355 = .ok (.ireturn, 1) := by decide +kernel
theorem dL_law_356 : decode cL_law 356 = .ok (.aload_n 1, 1) := by decide +kernel
theorem dL_law_357 : decode cL_law 357 = .ok (.aload_n 0, 1) := by decide +kernel
theorem dL_law_358 : decode cL_law 358 = .ok (.iload_n 3, 1) := by decide +kernel
theorem dL_law_359 : decode cL_law 359 = .ok (.iconst 1, 1) := by decide +kernel
theorem dL_law_360 : decode cL_law 360 = .ok (.iadd, 1) := by decide +kernel
theorem dL_law_361 : decode cL_law 361 = .ok (.iaload, 1) := by decide +kernel
theorem dL_law_362 : decode cL_law 362 = .ok (.invokevirtual 40, 3) := by decide +kernel
theorem dL_law_365 : decode cL_law 365 = .ok (.aload_n 2, 1) := by decide +kernel
theorem dL_law_366 : decode cL_law 366 = .ok (.aload_n 0, 1) := by decide +kernel
theorem dL_law_367 : decode cL_law 367 = .ok (.iload_n 3, 1) := by decide +kernel
theorem dL_law_368 : decode cL_law 368 = .ok (.iconst 1, 1) := by decide +kernel
theorem dL_law_369 : decode cL_law 369 = .ok (.iadd, 1) := by decide +kernel
theorem dL_law_370 : decode cL_law 370 = .ok (.iaload, 1) := by decide +kernel
theorem dL_law_371 : decode cL_law 371 = .ok (.invokevirtual 43, 3) := by decide +kernel
theorem dL_law_374 : decode cL_law 374 = .ok (.if_icmp .eq 502, 3) := by decide +kernel
theorem dL_law_377 : decode cL_law 377 = .ok (.iconst 0, 1) := by decide +kernel
theorem dL_law_378 : decode cL_law 378 = .ok (.ireturn, 1) := by decide +kernel
theorem dL_law_379 : decode cL_law 379 = .ok (.aload_n 1, 1) := by decide +kernel
theorem dL_law_380 : decode cL_law 380 = .ok (.aload_n 0, 1) := by decide +kernel
theorem dL_law_381 : decode cL_law 381 = .ok (.iload_n 3, 1) := by decide +kernel
theorem dL_law_382 : decode cL_law 382 = .ok (.iconst 1, 1) := by decide +kernel
theorem dL_law_383 : decode cL_law 383 = .ok (.iadd, 1) := by decide +kernel
theorem dL_law_384 : decode cL_law 384 = .ok (.iaload, 1) := by decide +kernel
theorem dL_law_385 : decode cL_law 385 = .ok (.aload_n 0, 1) := by decide +kernel
theorem dL_law_386 : decode cL_law 386 = .ok (.iload_n 3, 1) := by decide +kernel
theorem dL_law_387 : decode cL_law 387 = .ok (.iconst 2, 1) := by decide +kernel
theorem dL_law_388 : decode cL_law 388 = .ok (.iadd, 1) := by decide +kernel
theorem dL_law_389 : decode cL_law 389 = .ok (.iaload, 1) := by decide +kernel
theorem dL_law_390 : decode cL_law 390 = .ok (.invokevirtual 44, 3) := by decide +kernel
theorem dL_law_393 : decode cL_law 393 = .ok (.aload_n 2, 1) := by decide +kernel
theorem dL_law_394 : decode cL_law 394 = .ok (.aload_n 0, 1) := by decide +kernel
theorem dL_law_395 : decode cL_law 395 = .ok (.iload_n 3, 1) := by decide +kernel
theorem dL_law_396 : decode cL_law 396 = .ok (.iconst 1, 1) := by decide +kernel
theorem dL_law_397 : decode cL_law 397 = .ok (.iadd, 1) := by decide +kernel
theorem dL_law_398 : decode cL_law 398 = .ok (.iaload, 1) := by decide +kernel
theorem dL_law_399 : decode cL_law 399 = .ok (.aload_n 0, 1) := by decide +kernel
theorem dL_law_400 : decode cL_law 400 = .ok (.iload_n 3, 1) := by decide +kernel
theorem dL_law_401 : decode cL_law 401 = .ok (.iconst 2, 1) := by decide +kernel
theorem dL_law_402 : decode cL_law 402 = .ok (.iadd, 1) := by decide +kernel
theorem dL_law_403 : decode cL_law 403 = .ok (.iaload, 1) := by decide +kernel
theorem dL_law_404 : decode cL_law 404 = .ok (.invokevirtual 47, 3) := by decide +kernel
theorem dL_law_407 : decode cL_law 407 = .ok (.if_icmp .eq 469, 3) := by decide +kernel
theorem dL_law_410 : decode cL_law 410 = .ok (.iconst 0, 1) := by decide +kernel
theorem dL_law_411 : decode cL_law 411 = .ok (.ireturn, 1) := by decide +kernel
theorem dL_law_412 : decode cL_law 412 = .ok (.aload_n 1, 1) := by decide +kernel
theorem dL_law_413 : decode cL_law 413 = .ok (.aload_n 0, 1) := by decide +kernel
theorem dL_law_414 : decode cL_law 414 = .ok (.iload_n 3, 1) := by decide +kernel
theorem dL_law_415 : decode cL_law 415 = .ok (.iconst 1, 1) := by decide +kernel
theorem dL_law_416 : decode cL_law 416 = .ok (.iadd, 1) := by decide +kernel
theorem dL_law_417 : decode cL_law 417 = .ok (.iaload, 1) := by decide +kernel
theorem dL_law_418 : decode cL_law 418 = .ok (.aload_n 0, 1) := by decide +kernel
theorem dL_law_419 : decode cL_law 419 = .ok (.iload_n 3, 1) := by decide +kernel
theorem dL_law_420 : decode cL_law 420 = .ok (.iconst 2, 1) := by decide +kernel
theorem dL_law_421 : decode cL_law 421 = .ok (.iadd, 1) := by decide +kernel
theorem dL_law_422 : decode cL_law 422 = .ok (.iaload, 1) := by decide +kernel
theorem dL_law_423 : decode cL_law 423 = .ok (.aload_n 0, 1) := by decide +kernel
theorem dL_law_424 : decode cL_law 424 = .ok (.iload_n 3, 1) := by decide +kernel
theorem dL_law_425 : decode cL_law 425 = .ok (.iconst 3, 1) := by decide +kernel
theorem dL_law_426 : decode cL_law 426 = .ok (.iadd, 1) := by decide +kernel
theorem dL_law_427 : decode cL_law 427 = .ok (.iaload, 1) := by decide +kernel
theorem dL_law_428 : decode cL_law 428 = .ok (.invokevirtual 48, 3) := by decide +kernel
theorem dL_law_431 : decode cL_law 431 = .ok (.aload_n 2, 1) := by decide +kernel
theorem dL_law_432 : decode cL_law 432 = .ok (.aload_n 0, 1) := by decide +kernel
theorem dL_law_433 : decode cL_law 433 = .ok (.iload_n 3, 1) := by decide +kernel
theorem dL_law_434 : decode cL_law 434 = .ok (.iconst 1, 1) := by decide +kernel
theorem dL_law_435 : decode cL_law 435 = .ok (.iadd, 1) := by decide +kernel
theorem dL_law_436 : decode cL_law 436 = .ok (.iaload, 1) := by decide +kernel
theorem dL_law_437 : decode cL_law 437 = .ok (.aload_n 0, 1) := by decide +kernel
theorem dL_law_438 : decode cL_law 438 = .ok (.iload_n 3, 1) := by decide +kernel
theorem dL_law_439 : decode cL_law 439 = .ok (.iconst 2, 1) := by decide +kernel
theorem dL_law_440 : decode cL_law 440 = .ok (.iadd, 1) := by decide +kernel
theorem dL_law_441 : decode cL_law 441 = .ok (.iaload, 1) := by decide +kernel
theorem dL_law_442 : decode cL_law 442 = .ok (.aload_n 0, 1) := by decide +kernel
theorem dL_law_443 : decode cL_law 443 = .ok (.iload_n 3, 1) := by decide +kernel
theorem dL_law_444 : decode cL_law 444 = .ok (.iconst 3, 1) := by decide +kernel
theorem dL_law_445 : decode cL_law 445 = .ok (.iadd, 1) := by decide +kernel
theorem dL_law_446 : decode cL_law 446 = .ok (.iaload, 1) := by decide +kernel
theorem dL_law_447 : decode cL_law 447 = .ok (.invokevirtual 52, 3) := by decide +kernel
theorem dL_law_450 : decode cL_law 450 = .ok (.if_icmp .eq 426, 3) := by decide +kernel
theorem dL_law_453 : decode cL_law 453 = .ok (.iconst 0, 1) := by decide +kernel
theorem dL_law_454 : decode cL_law 454 = .ok (.ireturn, 1) := by decide +kernel
theorem dL_law_455 : decode cL_law 455 = .ok (.aload_n 1, 1) := by decide +kernel
theorem dL_law_456 : decode cL_law 456 = .ok (.aload_n 0, 1) := by decide +kernel
theorem dL_law_457 : decode cL_law 457 = .ok (.iload_n 3, 1) := by decide +kernel
theorem dL_law_458 : decode cL_law 458 = .ok (.iconst 1, 1) := by decide +kernel
theorem dL_law_459 : decode cL_law 459 = .ok (.iadd, 1) := by decide +kernel
theorem dL_law_460 : decode cL_law 460 = .ok (.iaload, 1) := by decide +kernel
theorem dL_law_461 : decode cL_law 461 = .ok (.aload_n 0, 1) := by decide +kernel
theorem dL_law_462 : decode cL_law 462 = .ok (.iload_n 3, 1) := by decide +kernel
theorem dL_law_463 : decode cL_law 463 = .ok (.iconst 2, 1) := by decide +kernel
theorem dL_law_464 : decode cL_law 464 = .ok (.iadd, 1) := by decide +kernel
theorem dL_law_465 : decode cL_law 465 = .ok (.iaload, 1) := by decide +kernel
theorem dL_law_466 : decode cL_law 466 = .ok (.aload_n 0, 1) := by decide +kernel
theorem dL_law_467 : decode cL_law 467 = .ok (.iload_n 3, 1) := by decide +kernel
theorem dL_law_468 : decode cL_law 468 = .ok (.iconst 3, 1) := by decide +kernel
theorem dL_law_469 : decode cL_law 469 = .ok (.iadd, 1) := by decide +kernel
theorem dL_law_470 : decode cL_law 470 = .ok (.iaload, 1) := by decide +kernel
theorem dL_law_471 : decode cL_law 471 = .ok (.invokevirtual 53, 3) := by decide +kernel
theorem dL_law_474 : decode cL_law 474 = .ok (.aload_n 2, 1) := by decide +kernel
theorem dL_law_475 : decode cL_law 475 = .ok (.aload_n 0, 1) := by decide +kernel
theorem dL_law_476 : decode cL_law 476 = .ok (.iload_n 3, 1) := by decide +kernel
theorem dL_law_477 : decode cL_law 477 = .ok (.iconst 1, 1) := by decide +kernel
theorem dL_law_478 : decode cL_law 478 = .ok (.iadd, 1) := by decide +kernel
theorem dL_law_479 : decode cL_law 479 = .ok (.iaload, 1) := by decide +kernel
theorem dL_law_480 : decode cL_law 480 = .ok (.aload_n 0, 1) := by decide +kernel
theorem dL_law_481 : decode cL_law 481 = .ok (.iload_n 3, 1) := by decide +kernel
theorem dL_law_482 : decode cL_law 482 = .ok (.iconst 2, 1) := by decide +kernel
theorem dL_law_483 : decode cL_law 483 = .ok (.iadd, 1) := by decide +kernel
theorem dL_law_484 : decode cL_law 484 = .ok (.iaload, 1) := by decide +kernel
theorem dL_law_485 : decode cL_law 485 = .ok (.aload_n 0, 1) := by decide +kernel
theorem dL_law_486 : decode cL_law 486 = .ok (.iload_n 3, 1) := by decide +kernel
theorem dL_law_487 : decode cL_law 487 = .ok (.iconst 3, 1) := by decide +kernel
theorem dL_law_488 : decode cL_law 488 = .ok (.iadd, 1) := by decide +kernel
theorem dL_law_489 : decode cL_law 489 = .ok (.iaload, 1) := by decide +kernel
theorem dL_law_490 : decode cL_law 490 = .ok (.invokevirtual 56, 3) := by decide +kernel
theorem dL_law_493 : decode cL_law 493 = .ok (.if_icmp .eq 383, 3) := by decide +kernel
theorem dL_law_496 : decode cL_law 496 = .ok (.iconst 0, 1) := by decide +kernel
theorem dL_law_497 : decode cL_law 497 = .ok (.ireturn, 1) := by decide +kernel
theorem dL_law_498 : decode cL_law 498 = .ok (.aload_n 1, 1) := by decide +kernel
theorem dL_law_499 : decode cL_law 499 = .ok (.aload_n 0, 1) := by decide +kernel
theorem dL_law_500 : decode cL_law 500 = .ok (.iload_n 3, 1) := by decide +kernel
theorem dL_law_501 : decode cL_law 501 = .ok (.iconst 1, 1) := by decide +kernel
theorem dL_law_502 : decode cL_law 502 = .ok (.iadd, 1) := by decide +kernel
theorem dL_law_503 : decode cL_law 503 = .ok (.iaload, 1) := by decide +kernel
theorem dL_law_504 : decode cL_law 504 = .ok (.aload_n 0, 1) := by decide +kernel
theorem dL_law_505 : decode cL_law 505 = .ok (.iload_n 3, 1) := by decide +kernel
theorem dL_law_506 : decode cL_law 506 = .ok (.iconst 2, 1) := by decide +kernel
theorem dL_law_507 : decode cL_law 507 = .ok (.iadd, 1) := by decide +kernel
theorem dL_law_508 : decode cL_law 508 = .ok (.iaload, 1) := by decide +kernel
theorem dL_law_509 : decode cL_law 509 = .ok (.ifCond .eq 7, 3) := by decide +kernel
theorem dL_law_512 : decode cL_law 512 = .ok (.iconst 1, 1) := by decide +kernel
theorem dL_law_513 : decode cL_law 513 = .ok (.goto 4, 3) := by decide +kernel
theorem dL_law_516 : decode cL_law 516 = .ok (.iconst 0, 1) := by decide +kernel
theorem dL_law_517 : decode cL_law 517 = .ok (.invokevirtual 57, 3) := by decide +kernel
theorem dL_law_520 : decode cL_law 520 = .ok (.aload_n 2, 1) := by decide +kernel
theorem dL_law_521 : decode cL_law 521 = .ok (.aload_n 0, 1) := by decide +kernel
theorem dL_law_522 : decode cL_law 522 = .ok (.iload_n 3, 1) := by decide +kernel
theorem dL_law_523 : decode cL_law 523 = .ok (.iconst 1, 1) := by decide +kernel
theorem dL_law_524 : decode cL_law 524 = .ok (.iadd, 1) := by decide +kernel
theorem dL_law_525 : decode cL_law 525 = .ok (.iaload, 1) := by decide +kernel
theorem dL_law_526 : decode cL_law 526 = .ok (.aload_n 0, 1) := by decide +kernel
theorem dL_law_527 : decode cL_law 527 = .ok (.iload_n 3, 1) := by decide +kernel
theorem dL_law_528 : decode cL_law 528 = .ok (.iconst 2, 1) := by decide +kernel
theorem dL_law_529 : decode cL_law 529 = .ok (.iadd, 1) := by decide +kernel
theorem dL_law_530 : decode cL_law 530 = .ok (.iaload, 1) := by decide +kernel
theorem dL_law_531 : decode cL_law 531 = .ok (.ifCond .eq 7, 3) := by decide +kernel
theorem dL_law_534 : decode cL_law 534 = .ok (.iconst 1, 1) := by decide +kernel
theorem dL_law_535 : decode cL_law 535 = .ok (.goto 4, 3) := by decide +kernel
theorem dL_law_538 : decode cL_law 538 = .ok (.iconst 0, 1) := by decide +kernel
theorem dL_law_539 : decode cL_law 539 = .ok (.invokevirtual 61, 3) := by decide +kernel
theorem dL_law_542 : decode cL_law 542 = .ok (.if_icmp .eq 334, 3) := by decide +kernel
theorem dL_law_545 : decode cL_law 545 = .ok (.iconst 0, 1) := by decide +kernel
theorem dL_law_546 : decode cL_law 546 = .ok (.ireturn, 1) := by decide +kernel
theorem dL_law_547 : decode cL_law 547 = .ok (.aload_n 1, 1) := by decide +kernel
theorem dL_law_548 : decode cL_law 548 = .ok (.aload_n 0, 1) := by decide +kernel
theorem dL_law_549 : decode cL_law 549 = .ok (.iload_n 3, 1) := by decide +kernel
theorem dL_law_550 : decode cL_law 550 = .ok (.iconst 1, 1) := by decide +kernel
theorem dL_law_551 : decode cL_law 551 = .ok (.iadd, 1) := by decide +kernel
theorem dL_law_552 : decode cL_law 552 = .ok (.iaload, 1) := by decide +kernel
theorem dL_law_553 : decode cL_law 553 = .ok (.aload_n 0, 1) := by decide +kernel
theorem dL_law_554 : decode cL_law 554 = .ok (.iload_n 3, 1) := by decide +kernel
theorem dL_law_555 : decode cL_law 555 = .ok (.iconst 2, 1) := by decide +kernel
theorem dL_law_556 : decode cL_law 556 = .ok (.iadd, 1) := by decide +kernel
theorem dL_law_557 : decode cL_law 557 = .ok (.iaload, 1) := by decide +kernel
theorem dL_law_558 : decode cL_law 558 = .ok (.ifCond .eq 7, 3) := by decide +kernel
theorem dL_law_561 : decode cL_law 561 = .ok (.iconst 1, 1) := by decide +kernel
theorem dL_law_562 : decode cL_law 562 = .ok (.goto 4, 3) := by decide +kernel
theorem dL_law_565 : decode cL_law 565 = .ok (.iconst 0, 1) := by decide +kernel
theorem dL_law_566 : decode cL_law 566 = .ok (.invokevirtual 62, 3) := by decide +kernel
theorem dL_law_569 : decode cL_law 569 = .ok (.aload_n 2, 1) := by decide +kernel
theorem dL_law_570 : decode cL_law 570 = .ok (.aload_n 0, 1) := by decide +kernel
theorem dL_law_571 : decode cL_law 571 = .ok (.iload_n 3, 1) := by decide +kernel
theorem dL_law_572 : decode cL_law 572 = .ok (.iconst 1, 1) := by decide +kernel
theorem dL_law_573 : decode cL_law 573 = .ok (.iadd, 1) := by decide +kernel
theorem dL_law_574 : decode cL_law 574 = .ok (.iaload, 1) := by decide +kernel
theorem dL_law_575 : decode cL_law 575 = .ok (.aload_n 0, 1) := by decide +kernel
theorem dL_law_576 : decode cL_law 576 = .ok (.iload_n 3, 1) := by decide +kernel
theorem dL_law_577 : decode cL_law 577 = .ok (.iconst 2, 1) := by decide +kernel
theorem dL_law_578 : decode cL_law 578 = .ok (.iadd, 1) := by decide +kernel
theorem dL_law_579 : decode cL_law 579 = .ok (.iaload, 1) := by decide +kernel
theorem dL_law_580 : decode cL_law 580 = .ok (.ifCond .eq 7, 3) := by decide +kernel
theorem dL_law_583 : decode cL_law 583 = .ok (.iconst 1, 1) := by decide +kernel
theorem dL_law_584 : decode cL_law 584 = .ok (.goto 4, 3) := by decide +kernel
theorem dL_law_587 : decode cL_law 587 = .ok (.iconst 0, 1) := by decide +kernel
theorem dL_law_588 : decode cL_law 588 = .ok (.invokevirtual 65, 3) := by decide +kernel
theorem dL_law_591 : decode cL_law 591 = .ok (.if_icmp .eq 285, 3) := by decide +kernel
theorem dL_law_594 : decode cL_law 594 = .ok (.iconst 0, 1) := by decide +kernel
theorem dL_law_595 : decode cL_law 595 = .ok (.ireturn, 1) := by decide +kernel
theorem dL_law_596 : decode cL_law 596 = .ok (.aload_n 1, 1) := by decide +kernel
theorem dL_law_597 : decode cL_law 597 = .ok (.aload_n 0, 1) := by decide +kernel
theorem dL_law_598 : decode cL_law 598 = .ok (.iload_n 3, 1) := by decide +kernel
theorem dL_law_599 : decode cL_law 599 = .ok (.iconst 1, 1) := by decide +kernel
theorem dL_law_600 : decode cL_law 600 = .ok (.iadd, 1) := by decide +kernel
theorem dL_law_601 : decode cL_law 601 = .ok (.iaload, 1) := by decide +kernel
theorem dL_law_602 : decode cL_law 602 = .ok (.invokevirtual 66, 3) := by decide +kernel
theorem dL_law_605 : decode cL_law 605 = .ok (.aload_n 2, 1) := by decide +kernel
theorem dL_law_606 : decode cL_law 606 = .ok (.aload_n 0, 1) := by decide +kernel
theorem dL_law_607 : decode cL_law 607 = .ok (.iload_n 3, 1) := by decide +kernel
theorem dL_law_608 : decode cL_law 608 = .ok (.iconst 1, 1) := by decide +kernel
theorem dL_law_609 : decode cL_law 609 = .ok (.iadd, 1) := by decide +kernel
theorem dL_law_610 : decode cL_law 610 = .ok (.iaload, 1) := by decide +kernel
theorem dL_law_611 : decode cL_law 611 = .ok (.invokevirtual 69, 3) := by decide +kernel
theorem dL_law_614 : decode cL_law 614 = .ok (.if_icmp .eq 262, 3) := by decide +kernel
theorem dL_law_617 : decode cL_law 617 = .ok (.iconst 0, 1) := by decide +kernel
theorem dL_law_618 : decode cL_law 618 = .ok (.ireturn, 1) := by decide +kernel
theorem dL_law_619 : decode cL_law 619 = .ok (.aload_n 1, 1) := by decide +kernel
theorem dL_law_620 : decode cL_law 620 = .ok (.aload_n 0, 1) := by decide +kernel
theorem dL_law_621 : decode cL_law 621 = .ok (.iload_n 3, 1) := by decide +kernel
theorem dL_law_622 : decode cL_law 622 = .ok (.iconst 1, 1) := by decide +kernel
theorem dL_law_623 : decode cL_law 623 = .ok (.iadd, 1) := by decide +kernel
theorem dL_law_624 : decode cL_law 624 = .ok (.iaload, 1) := by decide +kernel
theorem dL_law_625 : decode cL_law 625 = .ok (.aload_n 0, 1) := by decide +kernel
theorem dL_law_626 : decode cL_law 626 = .ok (.iload_n 3, 1) := by decide +kernel
theorem dL_law_627 : decode cL_law 627 = .ok (.iconst 2, 1) := by decide +kernel
theorem dL_law_628 : decode cL_law 628 = .ok (.iadd, 1) := by decide +kernel
theorem dL_law_629 : decode cL_law 629 = .ok (.iaload, 1) := by decide +kernel
theorem dL_law_630 : decode cL_law 630 = .ok (.aload_n 0, 1) := by decide +kernel
theorem dL_law_631 : decode cL_law 631 = .ok (.iload_n 3, 1) := by decide +kernel
theorem dL_law_632 : decode cL_law 632 = .ok (.iconst 3, 1) := by decide +kernel
theorem dL_law_633 : decode cL_law 633 = .ok (.iadd, 1) := by decide +kernel
theorem dL_law_634 : decode cL_law 634 = .ok (.iaload, 1) := by decide +kernel
theorem dL_law_635 : decode cL_law 635 = .ok (.aload_n 0, 1) := by decide +kernel
theorem dL_law_636 : decode cL_law 636 = .ok (.iload_n 3, 1) := by decide +kernel
theorem dL_law_637 : decode cL_law 637 = .ok (.iconst 4, 1) := by decide +kernel
theorem dL_law_638 : decode cL_law 638 = .ok (.iadd, 1) := by decide +kernel
theorem dL_law_639 : decode cL_law 639 = .ok (.iaload, 1) := by decide +kernel
theorem dL_law_640 : decode cL_law 640 = .ok (.invokevirtual 70, 3) := by decide +kernel
theorem dL_law_643 : decode cL_law 643 = .ok (.aload_n 2, 1) := by decide +kernel
theorem dL_law_644 : decode cL_law 644 = .ok (.aload_n 0, 1) := by decide +kernel
theorem dL_law_645 : decode cL_law 645 = .ok (.iload_n 3, 1) := by decide +kernel
theorem dL_law_646 : decode cL_law 646 = .ok (.iconst 1, 1) := by decide +kernel
theorem dL_law_647 : decode cL_law 647 = .ok (.iadd, 1) := by decide +kernel
theorem dL_law_648 : decode cL_law 648 = .ok (.iaload, 1) := by decide +kernel
theorem dL_law_649 : decode cL_law 649 = .ok (.aload_n 0, 1) := by decide +kernel
theorem dL_law_650 : decode cL_law 650 = .ok (.iload_n 3, 1) := by decide +kernel
theorem dL_law_651 : decode cL_law 651 = .ok (.iconst 2, 1) := by decide +kernel
theorem dL_law_652 : decode cL_law 652 = .ok (.iadd, 1) := by decide +kernel
theorem dL_law_653 : decode cL_law 653 = .ok (.iaload, 1) := by decide +kernel
theorem dL_law_654 : decode cL_law 654 = .ok (.aload_n 0, 1) := by decide +kernel
theorem dL_law_655 : decode cL_law 655 = .ok (.iload_n 3, 1) := by decide +kernel
theorem dL_law_656 : decode cL_law 656 = .ok (.iconst 3, 1) := by decide +kernel
theorem dL_law_657 : decode cL_law 657 = .ok (.iadd, 1) := by decide +kernel
theorem dL_law_658 : decode cL_law 658 = .ok (.iaload, 1) := by decide +kernel
theorem dL_law_659 : decode cL_law 659 = .ok (.aload_n 0, 1) := by decide +kernel
theorem dL_law_660 : decode cL_law 660 = .ok (.iload_n 3, 1) := by decide +kernel
theorem dL_law_661 : decode cL_law 661 = .ok (.iconst 4, 1) := by decide +kernel
theorem dL_law_662 : decode cL_law 662 = .ok (.iadd, 1) := by decide +kernel
theorem dL_law_663 : decode cL_law 663 = .ok (.iaload, 1) := by decide +kernel
theorem dL_law_664 : decode cL_law 664 = .ok (.invokevirtual 74, 3) := by decide +kernel
theorem dL_law_667 : decode cL_law 667 = .ok (.if_icmp .eq 209, 3) := by decide +kernel
theorem dL_law_670 : decode cL_law 670 = .ok (.iconst 0, 1) := by decide +kernel
theorem dL_law_671 : decode cL_law 671 = .ok (.ireturn, 1) := by decide +kernel
theorem dL_law_672 : decode cL_law 672 = .ok (.aload_n 1, 1) := by decide +kernel
theorem dL_law_673 : decode cL_law 673 = .ok (.aload_n 0, 1) := by decide +kernel
theorem dL_law_674 : decode cL_law 674 = .ok (.iload_n 3, 1) := by decide +kernel
theorem dL_law_675 : decode cL_law 675 = .ok (.iconst 1, 1) := by decide +kernel
theorem dL_law_676 : decode cL_law 676 = .ok (.iadd, 1) := by decide +kernel
theorem dL_law_677 : decode cL_law 677 = .ok (.iaload, 1) := by decide +kernel
theorem dL_law_678 : decode cL_law 678 = .ok (.invokevirtual 75, 3) := by decide +kernel
theorem dL_law_681 : decode cL_law 681 = .ok (.aload_n 2, 1) := by decide +kernel
theorem dL_law_682 : decode cL_law 682 = .ok (.aload_n 0, 1) := by decide +kernel
theorem dL_law_683 : decode cL_law 683 = .ok (.iload_n 3, 1) := by decide +kernel
theorem dL_law_684 : decode cL_law 684 = .ok (.iconst 1, 1) := by decide +kernel
theorem dL_law_685 : decode cL_law 685 = .ok (.iadd, 1) := by decide +kernel
theorem dL_law_686 : decode cL_law 686 = .ok (.iaload, 1) := by decide +kernel
theorem dL_law_687 : decode cL_law 687 = .ok (.invokevirtual 78, 3) := by decide +kernel
theorem dL_law_690 : decode cL_law 690 = .ok (.if_icmp .eq 186, 3) := by decide +kernel
theorem dL_law_693 : decode cL_law 693 = .ok (.iconst 0, 1) := by decide +kernel
theorem dL_law_694 : decode cL_law 694 = .ok (.ireturn, 1) := by decide +kernel
theorem dL_law_695 : decode cL_law 695 = .ok (.aload_n 1, 1) := by decide +kernel
theorem dL_law_696 : decode cL_law 696 = .ok (.aload_n 0, 1) := by decide +kernel
theorem dL_law_697 : decode cL_law 697 = .ok (.iload_n 3, 1) := by decide +kernel
theorem dL_law_698 : decode cL_law 698 = .ok (.iconst 1, 1) := by decide +kernel
theorem dL_law_699 : decode cL_law 699 = .ok (.iadd, 1) := by decide +kernel
theorem dL_law_700 : decode cL_law 700 = .ok (.iaload, 1) := by decide +kernel
theorem dL_law_701 : decode cL_law 701 = .ok (.aload_n 0, 1) := by decide +kernel
theorem dL_law_702 : decode cL_law 702 = .ok (.iload_n 3, 1) := by decide +kernel
theorem dL_law_703 : decode cL_law 703 = .ok (.iconst 2, 1) := by decide +kernel
theorem dL_law_704 : decode cL_law 704 = .ok (.iadd, 1) := by decide +kernel
theorem dL_law_705 : decode cL_law 705 = .ok (.iaload, 1) := by decide +kernel
theorem dL_law_706 : decode cL_law 706 = .ok (.invokevirtual 79, 3) := by decide +kernel
theorem dL_law_709 : decode cL_law 709 = .ok (.aload_n 2, 1) := by decide +kernel
theorem dL_law_710 : decode cL_law 710 = .ok (.aload_n 0, 1) := by decide +kernel
theorem dL_law_711 : decode cL_law 711 = .ok (.iload_n 3, 1) := by decide +kernel
theorem dL_law_712 : decode cL_law 712 = .ok (.iconst 1, 1) := by decide +kernel
theorem dL_law_713 : decode cL_law 713 = .ok (.iadd, 1) := by decide +kernel
theorem dL_law_714 : decode cL_law 714 = .ok (.iaload, 1) := by decide +kernel
theorem dL_law_715 : decode cL_law 715 = .ok (.aload_n 0, 1) := by decide +kernel
theorem dL_law_716 : decode cL_law 716 = .ok (.iload_n 3, 1) := by decide +kernel
theorem dL_law_717 : decode cL_law 717 = .ok (.iconst 2, 1) := by decide +kernel
theorem dL_law_718 : decode cL_law 718 = .ok (.iadd, 1) := by decide +kernel
theorem dL_law_719 : decode cL_law 719 = .ok (.iaload, 1) := by decide +kernel
theorem dL_law_720 : decode cL_law 720 = .ok (.invokevirtual 82, 3) := by decide +kernel
theorem dL_law_723 : decode cL_law 723 = .ok (.if_icmp .eq 153, 3) := by decide +kernel
theorem dL_law_726 : decode cL_law 726 = .ok (.iconst 0, 1) := by decide +kernel
theorem dL_law_727 : decode cL_law 727 = .ok (.ireturn, 1) := by decide +kernel
theorem dL_law_728 : decode cL_law 728 = .ok (.aload_n 1, 1) := by decide +kernel
theorem dL_law_729 : decode cL_law 729 = .ok (.aload_n 0, 1) := by decide +kernel
theorem dL_law_730 : decode cL_law 730 = .ok (.iload_n 3, 1) := by decide +kernel
theorem dL_law_731 : decode cL_law 731 = .ok (.iconst 1, 1) := by decide +kernel
theorem dL_law_732 : decode cL_law 732 = .ok (.iadd, 1) := by decide +kernel
theorem dL_law_733 : decode cL_law 733 = .ok (.iaload, 1) := by decide +kernel
theorem dL_law_734 : decode cL_law 734 = .ok (.invokevirtual 83, 3) := by decide +kernel
theorem dL_law_737 : decode cL_law 737 = .ok (.aload_n 2, 1) := by decide +kernel
theorem dL_law_738 : decode cL_law 738 = .ok (.aload_n 0, 1) := by decide +kernel
theorem dL_law_739 : decode cL_law 739 = .ok (.iload_n 3, 1) := by decide +kernel
theorem dL_law_740 : decode cL_law 740 = .ok (.iconst 1, 1) := by decide +kernel
theorem dL_law_741 : decode cL_law 741 = .ok (.iadd, 1) := by decide +kernel
theorem dL_law_742 : decode cL_law 742 = .ok (.iaload, 1) := by decide +kernel
theorem dL_law_743 : decode cL_law 743 = .ok (.invokevirtual 86, 3) := by decide +kernel
theorem dL_law_746 : decode cL_law 746 = .ok (.if_icmp .eq 130, 3) := by decide +kernel
theorem dL_law_749 : decode cL_law 749 = .ok (.iconst 0, 1) := by decide +kernel
theorem dL_law_750 : decode cL_law 750 = .ok (.ireturn, 1) := by decide +kernel
theorem dL_law_751 : decode cL_law 751 = .ok (.aload_n 1, 1) := by decide +kernel
theorem dL_law_752 : decode cL_law 752 = .ok (.aload_n 0, 1) := by decide +kernel
theorem dL_law_753 : decode cL_law 753 = .ok (.iload_n 3, 1) := by decide +kernel
theorem dL_law_754 : decode cL_law 754 = .ok (.iconst 1, 1) := by decide +kernel
theorem dL_law_755 : decode cL_law 755 = .ok (.iadd, 1) := by decide +kernel
theorem dL_law_756 : decode cL_law 756 = .ok (.iaload, 1) := by decide +kernel
theorem dL_law_757 : decode cL_law 757 = .ok (.aload_n 0, 1) := by decide +kernel
theorem dL_law_758 : decode cL_law 758 = .ok (.iload_n 3, 1) := by decide +kernel
theorem dL_law_759 : decode cL_law 759 = .ok (.iconst 2, 1) := by decide +kernel
theorem dL_law_760 : decode cL_law 760 = .ok (.iadd, 1) := by decide +kernel
theorem dL_law_761 : decode cL_law 761 = .ok (.iaload, 1) := by decide +kernel
theorem dL_law_762 : decode cL_law 762 = .ok (.invokevirtual 87, 3) := by decide +kernel
theorem dL_law_765 : decode cL_law 765 = .ok (.aload_n 2, 1) := by decide +kernel
theorem dL_law_766 : decode cL_law 766 = .ok (.aload_n 0, 1) := by decide +kernel
theorem dL_law_767 : decode cL_law 767 = .ok (.iload_n 3, 1) := by decide +kernel
theorem dL_law_768 : decode cL_law 768 = .ok (.iconst 1, 1) := by decide +kernel
theorem dL_law_769 : decode cL_law 769 = .ok (.iadd, 1) := by decide +kernel
theorem dL_law_770 : decode cL_law 770 = .ok (.iaload, 1) := by decide +kernel
theorem dL_law_771 : decode cL_law 771 = .ok (.aload_n 0, 1) := by decide +kernel
theorem dL_law_772 : decode cL_law 772 = .ok (.iload_n 3, 1) := by decide +kernel
theorem dL_law_773 : decode cL_law 773 = .ok (.iconst 2, 1) := by decide +kernel
theorem dL_law_774 : decode cL_law 774 = .ok (.iadd, 1) := by decide +kernel
theorem dL_law_775 : decode cL_law 775 = .ok (.iaload, 1) := by decide +kernel
theorem dL_law_776 : decode cL_law 776 = .ok (.invokevirtual 90, 3) := by decide +kernel
theorem dL_law_779 : decode cL_law 779 = .ok (.if_icmp .eq 97, 3) := by decide +kernel
theorem dL_law_782 : decode cL_law 782 = .ok (.iconst 0, 1) := by decide +kernel
theorem dL_law_783 : decode cL_law 783 = .ok (.ireturn, 1) := by decide +kernel
theorem dL_law_784 : decode cL_law 784 = .ok (.aload_n 1, 1) := by decide +kernel
theorem dL_law_785 : decode cL_law 785 = .ok (.aload_n 0, 1) := by decide +kernel
theorem dL_law_786 : decode cL_law 786 = .ok (.iload_n 3, 1) := by decide +kernel
theorem dL_law_787 : decode cL_law 787 = .ok (.iconst 1, 1) := by decide +kernel
theorem dL_law_788 : decode cL_law 788 = .ok (.iadd, 1) := by decide +kernel
theorem dL_law_789 : decode cL_law 789 = .ok (.iaload, 1) := by decide +kernel
theorem dL_law_790 : decode cL_law 790 = .ok (.invokevirtual 91, 3) := by decide +kernel
theorem dL_law_793 : decode cL_law 793 = .ok (.aload_n 2, 1) := by decide +kernel
theorem dL_law_794 : decode cL_law 794 = .ok (.aload_n 0, 1) := by decide +kernel
theorem dL_law_795 : decode cL_law 795 = .ok (.iload_n 3, 1) := by decide +kernel
theorem dL_law_796 : decode cL_law 796 = .ok (.iconst 1, 1) := by decide +kernel
theorem dL_law_797 : decode cL_law 797 = .ok (.iadd, 1) := by decide +kernel
theorem dL_law_798 : decode cL_law 798 = .ok (.iaload, 1) := by decide +kernel
theorem dL_law_799 : decode cL_law 799 = .ok (.invokevirtual 94, 3) := by decide +kernel
theorem dL_law_802 : decode cL_law 802 = .ok (.if_icmp .eq 74, 3) := by decide +kernel
theorem dL_law_805 : decode cL_law 805 = .ok (.iconst 0, 1) := by decide +kernel
theorem dL_law_806 : decode cL_law 806 = .ok (.ireturn, 1) := by decide +kernel
theorem dL_law_807 : decode cL_law 807 = .ok (.aload_n 1, 1) := by decide +kernel
theorem dL_law_808 : decode cL_law 808 = .ok (.aload_n 0, 1) := by decide +kernel
theorem dL_law_809 : decode cL_law 809 = .ok (.iload_n 3, 1) := by decide +kernel
theorem dL_law_810 : decode cL_law 810 = .ok (.iconst 1, 1) := by decide +kernel
theorem dL_law_811 : decode cL_law 811 = .ok (.iadd, 1) := by decide +kernel
theorem dL_law_812 : decode cL_law 812 = .ok (.iaload, 1) := by decide +kernel
theorem dL_law_813 : decode cL_law 813 = .ok (.aload_n 0, 1) := by decide +kernel
theorem dL_law_814 : decode cL_law 814 = .ok (.iload_n 3, 1) := by decide +kernel
theorem dL_law_815 : decode cL_law 815 = .ok (.iconst 2, 1) := by decide +kernel
theorem dL_law_816 : decode cL_law 816 = .ok (.iadd, 1) := by decide +kernel
theorem dL_law_817 : decode cL_law 817 = .ok (.iaload, 1) := by decide +kernel
theorem dL_law_818 : decode cL_law 818 = .ok (.invokevirtual 95, 3) := by decide +kernel
theorem dL_law_821 : decode cL_law 821 = .ok (.aload_n 2, 1) := by decide +kernel
theorem dL_law_822 : decode cL_law 822 = .ok (.aload_n 0, 1) := by decide +kernel
theorem dL_law_823 : decode cL_law 823 = .ok (.iload_n 3, 1) := by decide +kernel
theorem dL_law_824 : decode cL_law 824 = .ok (.iconst 1, 1) := by decide +kernel
theorem dL_law_825 : decode cL_law 825 = .ok (.iadd, 1) := by decide +kernel
theorem dL_law_826 : decode cL_law 826 = .ok (.iaload, 1) := by decide +kernel
theorem dL_law_827 : decode cL_law 827 = .ok (.aload_n 0, 1) := by decide +kernel
theorem dL_law_828 : decode cL_law 828 = .ok (.iload_n 3, 1) := by decide +kernel
theorem dL_law_829 : decode cL_law 829 = .ok (.iconst 2, 1) := by decide +kernel
theorem dL_law_830 : decode cL_law 830 = .ok (.iadd, 1) := by decide +kernel
theorem dL_law_831 : decode cL_law 831 = .ok (.iaload, 1) := by decide +kernel
theorem dL_law_832 : decode cL_law 832 = .ok (.invokevirtual 98, 3) := by decide +kernel
theorem dL_law_835 : decode cL_law 835 = .ok (.if_icmp .eq 41, 3) := by decide +kernel
theorem dL_law_838 : decode cL_law 838 = .ok (.iconst 0, 1) := by decide +kernel
theorem dL_law_839 : decode cL_law 839 = .ok (.ireturn, 1) := by decide +kernel
theorem dL_law_840 : decode cL_law 840 = .ok (.aload_n 1, 1) := by decide +kernel
theorem dL_law_841 : decode cL_law 841 = .ok (.invokevirtual 99, 3) := by decide +kernel
theorem dL_law_844 : decode cL_law 844 = .ok (.aload_n 2, 1) := by decide +kernel
theorem dL_law_845 : decode cL_law 845 = .ok (.invokevirtual 103, 3) := by decide +kernel
theorem dL_law_848 : decode cL_law 848 = .ok (.if_icmp .eq 28, 3) := by decide +kernel
theorem dL_law_851 : decode cL_law 851 = .ok (.iconst 0, 1) := by decide +kernel
theorem dL_law_852 : decode cL_law 852 = .ok (.ireturn, 1) := by decide +kernel
theorem dL_law_853 : decode cL_law 853 = .ok (.aload_n 1, 1) := by decide +kernel
theorem dL_law_854 : decode cL_law 854 = .ok (.aload_n 0, 1) := by decide +kernel
theorem dL_law_855 : decode cL_law 855 = .ok (.iload_n 3, 1) := by decide +kernel
theorem dL_law_856 : decode cL_law 856 = .ok (.iconst 1, 1) := by decide +kernel
theorem dL_law_857 : decode cL_law 857 = .ok (.iadd, 1) := by decide +kernel
theorem dL_law_858 : decode cL_law 858 = .ok (.iaload, 1) := by decide +kernel
theorem dL_law_859 : decode cL_law 859 = .ok (.invokevirtual 104, 3) := by decide +kernel
theorem dL_law_862 : decode cL_law 862 = .ok (.aload_n 2, 1) := by decide +kernel
theorem dL_law_863 : decode cL_law 863 = .ok (.aload_n 0, 1) := by decide +kernel
theorem dL_law_864 : decode cL_law 864 = .ok (.iload_n 3, 1) := by decide +kernel
theorem dL_law_865 : decode cL_law 865 = .ok (.iconst 1, 1) := by decide +kernel
theorem dL_law_866 : decode cL_law 866 = .ok (.iadd, 1) := by decide +kernel
theorem dL_law_867 : decode cL_law 867 = .ok (.iaload, 1) := by decide +kernel
theorem dL_law_868 : decode cL_law 868 = .ok (.invokevirtual 107, 3) := by decide +kernel
theorem dL_law_871 : decode cL_law 871 = .ok (.if_icmp .eq 5, 3) := by decide +kernel
theorem dL_law_874 : decode cL_law 874 = .ok (.iconst 0, 1) := by decide +kernel
theorem dL_law_875 : decode cL_law 875 = .ok (.ireturn, 1) := by decide +kernel
theorem dL_law_876 : decode cL_law 876 = .ok (.iinc 3 7, 3) := by decide +kernel
theorem dL_law_879 : decode cL_law 879 = .ok (.goto (-861), 3) := by decide +kernel
theorem dL_law_882 : decode cL_law 882 = .ok (.iconst 1, 1) := by decide +kernel
theorem dL_law_883 : decode cL_law 883 = .ok (.ireturn, 1) := by decide +kernel
end
section
/-! new T[n][m] (the printed row, with the word that it names) -/
def va_AOA (ty : FieldType) (U : State) : Prop := (Cond.arrayOver (.array ty)).before #[] U = true
theorem va_AOA.use {ty : FieldType} {A : Array Value} {U : State} (h : va_AOA ty U) : (Cond.arrayOver (.array ty)).before A U = true := h
section VGM
variable {p : Program} {l : Launch} {e : Env} {R : Room} {s : State} {m : MethodId} {args : Array Value} {below : List Frame} {meth : Method} {c : Code} {H : Heap} {locs : List Loc} {cells slots : Nat} {Q : State → Prop}
variable {cc : ByteArray} {pc : Nat} {ls : Array Slot} {rest : List Value} {D : va_G} {cl : List vw_C} {A : Nat → Prop} {a : Nat} {tys : List (ClassId × FieldType)} {ws : va_W} {H0 : Heap}
theorem va_mna {X : va_W} {L : List Nat} {f : Nat → va_E} {cc : ByteArray} (hexec : p.tables.exec = Jvm.exec) (hb : c.code = cc) {own : String} {index : Nat} {ty : FieldType} {cy : ClassId} (hown : s.vm.findClass own = some m.cls) (hclink : (Cond.classLink own index ("[" ++ (FieldType.array ty).toString)).before args s = true) (hover : va_AOA ty s) (harr : (Cond.arrayClass ty).before args s = true) (hcy : s.vm.findClass (FieldType.array ty).toString = some cy)
    (hK : va_K D cl tys s) (hP : va_P D cl (X ++ va_pl L f) H) (hD : va_D A (X ++ va_pl L f)) (hS : va_S A H0 H locs) (hA : ∀ q, H0.size ≤ q → A q) {n k : Int32} {N' K' : Nat} {z : vp_A} (hn : ¬ n < 0) (hk : ¬ k < 0) (hN : n.toNatClampNeg = N') (hM : k.toNatClampNeg = K')
    (hb1 : N' * 4 ≤ 536870912) (hb2 : K' * componentBytes ty ≤ 536870912) (hb3 : K' ≤ 536870912) (hdf : fits ty (defaultValue ty) = true) (hdd : (defaultValue ty).isDefault = true) (hcells : cells + (1 + N') ≤ R.cells) (hslots : slots + (N' + N' * K') ≤ R.slots) (hz : ∀ c : ClassId, Jvm.Free.Multi.innerC c K' (defaultValue ty) = vp_cell c z) (hdg : decode cc pc = .ok (.multianewarray index 2, 4))
    (kk : ∀ (q : Nat) (r : Nat → Nat) (cA : ClassId) (H1 : Heap), (∀ i j : Nat, i < N' → j < N' → r i = r j → i = j) → (∀ i : Nat, i < N' → r i ∉ L) → va_K D cl (tys ++ [(cA, .array ty)]) s →
      va_P D cl ((X ++ [(q, .inl (cA, N', .inr (.inr (.inr (.inr (fun i => if i < N' then some (r i) else none))))))]) ++ va_pl (L ++ (List.range N').map r) (vr_up f ((List.range N').map r) (.inl (cy, z)))) H1 → va_D A ((X ++ [(q, .inl (cA, N', .inr (.inr (.inr (.inr (fun i => if i < N' then some (r i) else none))))))]) ++ va_pl (L ++ (List.range N').map r) (vr_up f ((List.range N').map r) (.inl (cy, z)))) → va_S A H0 H1 locs →
      W p l e R s m args below meth c H1 locs (cells + 1 + N') (slots + N' + N' * K') Q (F0 m (pc + 4) ls (.ref q :: rest))) : W p l e R s m args below meth c H locs cells slots Q (F0 m pc ls (.int k :: .int n :: rest)) := by
  subst hN
  subst hM
  intro T hT Xs
  obtain ⟨vm₁, cA, comp, -, fA, fC, hO, -, X', step⟩ := Xs.multianewarray2F hexec hown hclink (va_AOA.use hover) harr (g := F0 m pc ls (.int k :: .int n :: rest)) rfl (by rw [hb]; exact hdg) rfl hn hk hb1 hb2 hb3 hdf hdd hcells hslots
  have ec : some cy = some comp := hcy.symm.trans fC
  cases ec
  generalize hF : Jvm.Free.Multi.fill (T.setVm vm₁) cA cy n.toNatClampNeg k.toNatClampNeg (defaultValue ty) n.toNatClampNeg = F at X' step
  have hTh : (T.setVm vm₁).heap = H := hT
  obtain ⟨f1, f2, -, -⟩ := Jvm.Free.Multi.fill_facts (T.setVm vm₁) cA cy n.toNatClampNeg k.toNatClampNeg (defaultValue ty) n.toNatClampNeg
  rw [hF, hTh] at f1 f2
  have hold : ∀ x : Nat, x < H.size → F.heap[x]? = H[x]? := fun x hx => by
    have := Jvm.Free.Multi.fill_old (T.setVm vm₁) cA cy n.toNatClampNeg k.toNatClampNeg (defaultValue ty) (a := x) (by rw [hTh]; exact hx) n.toNatClampNeg
    rw [hF, hTh] at this
    exact this
  have hrow : ∀ j : Nat, j < n.toNatClampNeg → F.heap[H.size + 1 + j]? = some (vp_cell cy z) := fun j hj => by
    have := Jvm.Free.Multi.fill_inner (T.setVm vm₁) cA cy n.toNatClampNeg k.toNatClampNeg (defaultValue ty) n.toNatClampNeg j hj
    rw [hF, hTh, hz] at this
    exact this
  have hout : Jvm.Free.Multi.outerC cA n.toNatClampNeg H.size n.toNatClampNeg = vp_cell cA (n.toNatClampNeg, .inr (.inr (.inr (.inr (fun i => if i < n.toNatClampNeg then some (H.size + 1 + i) else none))))) := by
    rw [vp_cell_q]
    exact vr_outer cA n.toNatClampNeg H.size n.toNatClampNeg
  rw [hout] at f2
  have hlt : ∀ a, a ∈ L → a < H.size := fun a ha => by
    obtain ⟨k9, hk9⟩ := va_pl_get (X := X) (f := f) ha
    exact (hP k9 _ hk9).lt
  have hnl : ∀ i : Nat, i < n.toNatClampNeg → H.size + 1 + i ∉ L := fun i _ h => by
    have := hlt _ h
    omega
  have hnm : ∀ a, a ∈ (List.range n.toNatClampNeg).map (fun i => H.size + 1 + i) → a ∉ L := fun a ha h => by
    obtain ⟨i, -, rfl⟩ := List.mem_map.mp ha
    have := hlt _ h
    omega
  have hP0 : va_P D cl (X ++ va_pl L f) F.heap := hP.kept (fun k9 x hx => hold x.1 ((hP k9 x hx).lt))
  have hP1 : va_P D cl ((X ++ va_pl L f) ++ [(H.size, .inl (cA, n.toNatClampNeg, .inr (.inr (.inr (.inr (fun i => if i < n.toNatClampNeg then some (H.size + 1 + i) else none))))))]) F.heap := hP0.app (fun k9 x hx => by
    have h0 : k9 < 1 := (List.getElem?_eq_some_iff.mp hx).1
    rw [show k9 = 0 by omega] at hx
    cases hx
    exact f2)
  have hP2 : va_P D cl (((X ++ va_pl L f) ++ [(H.size, .inl (cA, n.toNatClampNeg, .inr (.inr (.inr (.inr (fun i => if i < n.toNatClampNeg then some (H.size + 1 + i) else none))))))]) ++ ((List.range n.toNatClampNeg).map (fun i => H.size + 1 + i)).map (fun a => (a, .inl (cy, z)))) F.heap := hP1.app (fun k9 x hx => by
    obtain ⟨a, ha, rfl⟩ := List.mem_map.mp (List.mem_of_getElem? hx)
    obtain ⟨i, hi, rfl⟩ := List.mem_map.mp ha
    exact hrow i (List.mem_range.mp hi))
  have hD2 : va_D A (((X ++ va_pl L f) ++ [(H.size, .inl (cA, n.toNatClampNeg, .inr (.inr (.inr (.inr (fun i => if i < n.toNatClampNeg then some (H.size + 1 + i) else none))))))]) ++ ((List.range n.toNatClampNeg).map (fun i => H.size + 1 + i)).map (fun a => (a, .inl (cy, z)))) := by
    have hD1 := hD.push (e := .inl (cA, n.toNatClampNeg, .inr (.inr (.inr (.inr (fun i => if i < n.toNatClampNeg then some (H.size + 1 + i) else none)))))) hP rfl (hA _ hS.1)
    generalize hW1 : (X ++ va_pl L f) ++ [(H.size, .inl (cA, n.toNatClampNeg, .inr (.inr (.inr (.inr (fun i => if i < n.toNatClampNeg then some (H.size + 1 + i) else none))))))] = W1 at hD1 hP1 ⊢
    have hle : ∀ (k9 : Nat) (x : Nat × va_E), W1[k9]? = some x → x.1 ≤ H.size := fun k9 x hx => by
      rw [← hW1] at hx
      by_cases hl : k9 < (X ++ va_pl L f).length
      · rw [List.getElem?_append_left hl] at hx
        exact Nat.le_of_lt ((hP k9 x hx).lt)
      · rw [List.getElem?_append_right (by omega)] at hx
        have h0 : k9 - (X ++ va_pl L f).length < 1 := (List.getElem?_eq_some_iff.mp hx).1
        rw [show k9 - (X ++ va_pl L f).length = 0 by omega] at hx
        cases hx
        exact Nat.le_refl _
    have hr : ∀ (k9 : Nat) (x : Nat × va_E), (((List.range n.toNatClampNeg).map (fun i => H.size + 1 + i)).map (fun a => ((a, .inl (cy, z)) : Nat × va_E)))[k9]? = some x → x.1 = H.size + 1 + k9 := fun k9 x hx => by
      rw [List.getElem?_map, List.getElem?_map] at hx
      by_cases h9 : k9 < n.toNatClampNeg
      · rw [List.getElem?_range h9] at hx
        cases hx
        rfl
      · have hn0 : (List.range n.toNatClampNeg)[k9]? = none := List.getElem?_eq_none (by rw [List.length_range]; omega)
        rw [hn0] at hx
        cases hx
    refine ⟨fun i j x y hi hj hxy => ?_, fun k9 x hx => ?_⟩
    · by_cases h1 : i < W1.length <;> by_cases h2 : j < W1.length
      · rw [List.getElem?_append_left h1] at hi
        rw [List.getElem?_append_left h2] at hj
        exact hD1.1 i j x y hi hj hxy
      · rw [List.getElem?_append_left h1] at hi
        rw [List.getElem?_append_right (by omega)] at hj
        have := hle _ _ hi
        have := hr _ _ hj
        omega
      · rw [List.getElem?_append_right (by omega)] at hi
        rw [List.getElem?_append_left h2] at hj
        have := hle _ _ hj
        have := hr _ _ hi
        omega
      · rw [List.getElem?_append_right (by omega)] at hi hj
        have := hr _ _ hi
        have := hr _ _ hj
        omega
    · by_cases h1 : k9 < W1.length
      · rw [List.getElem?_append_left h1] at hx
        exact hD1.2 k9 x hx
      · rw [List.getElem?_append_right (by omega)] at hx
        have := hr _ _ hx
        exact hA _ (by have := hS.1; omega)
  have hAr : ArrOfT s cA (.array ty) := fun N9 z9 => by
    obtain ⟨-, k9, hk9, cm9, hkk9⟩ := (hO 0 0 0).1
    exact ⟨(fun q hq => by cases hq), k9, hk9, cm9, hkk9⟩
  have hK2 : va_K D cl (tys ++ [(cA, .array ty)]) s := ⟨hK.1, fun k9 x hx => by
    by_cases hl : k9 < tys.length
    · rw [List.getElem?_append_left hl] at hx
      exact hK.2 k9 x hx
    · rw [List.getElem?_append_right (by omega)] at hx
      have h0 : k9 - tys.length < 1 := (List.getElem?_eq_some_iff.mp hx).1
      rw [show k9 - tys.length = 0 by omega] at hx
      cases hx
      exact ⟨hAr, fA⟩⟩
  obtain ⟨t, a1, b1⟩ := kk H.size (fun i => H.size + 1 + i) cA F.heap (fun i j _ _ h => by have h9 : H.size + 1 + i = H.size + 1 + j := h; omega) hnl hK2 (by rw [← vr_rows hnm]; exact vr_lay hP2) (by rw [← vr_rows hnm]; exact vr_layD hD2) ⟨by rw [f1]; have := hS.1; omega, fun x h1 h2 => (hold x (Nat.lt_of_lt_of_le h1 hS.1)).trans (hS.2.1 x h1 h2), hS.2.2⟩ F rfl X'
  refine ⟨t, step t ?_, b1⟩
  have e : T.heap.size = H.size := by rw [hT]
  rw [e]
  exact a1
end VGM
end
section
/-! THE FRAME: the world by places (class WardCourt: 0 .. 56, model: 57 .. 79), one judgement G for a method's body, one contract Mt for a method -/
abbrev W0 : Type := Nat → Nat → Int32
abbrev En : Type := (Nat → Nat) × Nat × va_G × (ClassId × ClassId × ClassId)
/-- kind and size of a place: 0 an object of class n, 1 an int row of n, 2 a boolean row of n, 3 a row of n references -/
def shL : List (Nat × Nat) := [(0, 6), (0, 2), (0, 5), (0, 4), (0, 1), (0, 3), (0, 0), (1, 8), (3, 8), (1, 5), (1, 5), (1, 5), (1, 5), (1, 5), (1, 5), (1, 5), (1, 5), (1, 6), (1, 6), (1, 6), (1, 6), (1, 6), (1, 10), (1, 10), (1, 60), (1, 60), (2, 60), (1, 60), (2, 60), (2, 60), (2, 60), (1, 10), (1, 10), (1, 10), (1, 10), (3, 10), (1, 6), (1, 6), (1, 6), (1, 6), (1, 6), (1, 6), (1, 6), (1, 6), (1, 6), (1, 6), (3, 10), (1, 6), (1, 6), (1, 6), (1, 6), (1, 6), (1, 6), (1, 6), (1, 6), (1, 6), (1, 6), (0, 7), (1, 8), (1, 40), (1, 6), (1, 6), (1, 10), (1, 10), (2, 60), (1, 60), (1, 60), (1, 60), (2, 60), (2, 60), (1, 10), (1, 10), (1, 10), (1, 10), (1, 60), (1, 3600), (1, 60), (1, 6), (1, 6), (1, 6)]
def sh (k : Nat) : Nat × Nat := shL.getD k (9, 0)
abbrev nP : Nat := 80
def clN : Nat → Nat := fun k => [3, 8, 3, 5, 3, 6, 7, 29].getD k 0
def rfL : List (List (Option Nat)) := [[some 1, some 2, some 3, some 4, some 5, some 6, none], [some 7, some 8, none], [some 17, some 18, some 19, some 20, some 21, none], [some 22, some 23, none], [some 24, some 25, some 26, some 27, some 28, some 29, some 30, none], [some 31, some 32, some 33, some 34, none], [some 35, some 46, none], [], [some 9, some 10, some 11, some 12, some 13, some 14, some 15, some 16], [], [], [], [], [], [], [], [], [], [], [], [], [], [], [], [], [], [], [], [], [], [], [], [], [], [], [some 36, some 37, some 38, some 39, some 40, some 41, some 42, some 43, some 44, some 45], [], [], [], [], [], [], [], [], [], [], [some 47, some 48, some 49, some 50, some 51, some 52, some 53, some 54, some 55, some 56], [], [], [], [], [], [], [], [], [], [], [none, some 58, some 59, none, some 60, some 61, none, some 62, some 63, none, some 64, some 65, some 66, some 67, some 68, some 69, none, some 70, some 71, some 72, some 73, some 74, none, none, some 75, some 76, some 77, some 78, some 79]]
def rfT (p i : Nat) : Option Nat := (rfL.getD p []).getD i none
def fV (E : En) (w : W0) (p i : Nat) : Value := match rfT p i with
  | some q => .ref (E.1 q)
  | none => .int (w p i)
def cE (E : En) (w : W0) (p : Nat) : va_E := match (sh p).1 with
  | 0 => .inr ((sh p).2, (List.range (clN (sh p).2)).map (fV E w p))
  | 1 => .inl (E.2.2.2.1, (sh p).2, .inl (w p))
  | 2 => .inl (E.2.2.2.2.1, (sh p).2, .inl (w p))
  | _ => .inl (E.2.2.2.2.2, (sh p).2, .inr (.inr (.inr (.inr (fun i => (rfT p i).map E.1)))))
def wl (E : En) (w : W0) : va_W := (List.range nP).map (fun k => (E.1 k, cE E w k))
def Aw (E : En) : Nat → Prop := fun q => ∃ k, k < nP ∧ q = E.1 k
def tysE (E : En) : List (ClassId × FieldType) := [(E.2.2.2.1, .int), (E.2.2.2.2.1, .boolean), (E.2.2.2.2.2, .array .int)]
def bef : Nat → Int32 := fun k => [21, 100, 5, 50, 3].getD k 0
def isNest : Cond → Bool
  | .fieldLinkNest .. => true
  | .methodLinkNest .. => true
  | _ => false
def tblG : List Cond := lw_tbl.filter goodWord
def tblN : List Cond := lw_tbl.filter isNest
theorem tblG_in {w : Cond} (i : Nat) (h : lw_tbl[i]? = some w) (hg : goodWord w = true) : w ∈ tblG := List.mem_filter.mpr ⟨List.mem_of_getElem? h, hg⟩
theorem tblN_in {w : Cond} (i : Nat) (h : lw_tbl[i]? = some w) (hg : isNest w = true) : w ∈ tblN := List.mem_filter.mpr ⟨List.mem_of_getElem? h, hg⟩
theorem tblG_self {y : MethodName} {cc : ByteArray} {nL : Nat} {ret : Option FieldType} {ts : List Cond} (hm : Cond.code y cc nL ret ∈ tblG) (hs : ∀ w ∈ tblG, w ∈ ts) : GoodIn ts (Cond.code y cc nL ret :: tblG) := by
  intro w hw
  have h : w ∈ tblG := by
    rcases List.mem_cons.mp hw with h | h
    · rw [h]; exact hm
    · exact h
  exact ⟨hs w h, good_of_word (List.mem_filter.mp h).2⟩
/-- what stays as it is, in a state and a heap -/
def Ws (E : En) (U : State) (H : Heap) : Prop := va_K E.2.2.1 vwCl (tysE E) U ∧ va_Z "WardCourt" "BEFORE_ANY_LAW" "[I" (.ref E.2.1) (Aw E) U H ∧ va_T .int E.2.1 5 (fun j => .int (bef j)) (Aw E) U H ∧ (∀ x ∈ tblN, va_Nw x U) ∧ ∀ i j : Nat, i < nP → j < nP → E.1 i = E.1 j → i = j
def Wd (E : En) (w : W0) (U : State) (H : Heap) : Prop := Ws E U H ∧ va_P E.2.2.1 vwCl (wl E w) H
def QD (E : En) (rv : Option Value) (w1 : W0) : Array Value → State → Outcome → State → Prop := fun _ st oc t => (oc = .returned rv ∧ Wd E w1 t t.heap) ∧ va_F (Aw E) st t
def rmD (d : Nat) : Room := { frames := d, cells := 0, slots := 0, locals := 40 * d }
/-- THE CONTRACT: from the world w with the arguments av the method returns rv (none: void), and the world is w1 -/
def Mt (E : En) (d : Nat) (y : MethodName) (cc : ByteArray) (nL : Nat) (ret : Option FieldType) (av : List Value) (w : W0) (rv : Option Value) (w1 : W0) : Prop := ∀ l : Launch, Met l y (Cond.code y cc nL ret :: tblG) (rmD d) (va_Pc av (fun U => Wd E w U U.heap)) (QD E rv w1) 0 0 (Aw E)
/-- THE JUDGEMENT: the body of the method (own, cc, nL, ret) goes on from pc with locals lv, stack st and world w to its return of rv in the world w1 -/
def G (E : En) (d : Nat) (own : String) (cc : ByteArray) (nL : Nat) (ret : Option FieldType) (rv : Option Value) (w1 : W0) (pc : Nat) (lv : List (Nat × Value)) (st : List Value) (w : W0) : Prop :=
  ∀ (p : Program) (l : Launch) (e : Env) (s : State) (m : MethodId) (args : Array Value) (below : List Frame) (meth : Method) (c : Code) (H : Heap) (locs : List Loc) (ls : Array Slot),
    (p.tables.exec = Jvm.exec ∧ c.code = cc ∧ meth.sig.returnType = ret ∧ meth.locks = false ∧ c.maxLocals = nL ∧ s.vm.findClass own = some m.cls ∧ ∀ x ∈ tblG, x.before args s = true) →
    Ws E s s.heap → va_P E.2.2.1 vwCl (wl E w) H → va_S (Aw E) s.heap H locs → lv_has ls nL lv →
    W p l e (rmD d) s m args below meth c H locs 0 0 (MQ below (QD E rv w1) args s 0 0 (Aw E)) (F0 m pc ls st)
/-! facts of the world -/
theorem wl_len (E : En) (w : W0) : (wl E w).length = nP := by simp [wl]
theorem wl_get (E : En) (w : W0) {k : Nat} (h : k < nP) : (wl E w)[k]? = some (E.1 k, cE E w k) := by
  simp [wl, List.getElem?_map, List.getElem?_range h]
theorem wl_some {E : En} {w : W0} {k : Nat} {q : Nat × va_E} (h : (wl E w)[k]? = some q) : k < nP ∧ q = (E.1 k, cE E w k) := by
  have hk : k < nP := by
    have := (List.getElem?_eq_some_iff.mp h).1
    rw [wl_len] at this
    exact this
  rw [wl_get E w hk] at h
  exact ⟨hk, (Option.some.inj h).symm⟩
theorem wl_D {E : En} (w : W0) (h : ∀ i j : Nat, i < nP → j < nP → E.1 i = E.1 j → i = j) : va_D (Aw E) (wl E w) := by
  refine ⟨fun i j p q hi hj hpq => ?_, fun k q hk => ?_⟩
  · obtain ⟨h1, rfl⟩ := wl_some hi
    obtain ⟨h2, rfl⟩ := wl_some hj
    exact h i j h1 h2 hpq
  · obtain ⟨h1, rfl⟩ := wl_some hk
    exact ⟨k, h1, rfl⟩
def setW (w : W0) (p i : Nat) (v : Int32) : W0 := fun a => if a = p then upd (w p) i v else w a
theorem cE_ne {E : En} {w : W0} {p i k : Nat} {v : Int32} (h : k ≠ p) : cE E (setW w p i v) k = cE E w k := by
  have hw : setW w p i v k = w k := by simp [setW, h]
  have hf : fV E (setW w p i v) k = fV E w k := by
    funext j
    simp [fV, hw]
  simp only [cE, hw, hf]
theorem wl_set {E : En} {w : W0} {p i : Nat} {v : Int32} {e : va_E} (hp : p < nP) (he : e = cE E (setW w p i v) p) : (wl E w).set p (E.1 p, e) = wl E (setW w p i v) := by
  subst he
  apply List.ext_getElem?
  intro k
  by_cases hk : k = p
  · subst hk
    rw [List.getElem?_set_self (by rw [wl_len]; exact hp), wl_get _ _ hp]
  · rw [List.getElem?_set_ne (Ne.symm hk)]
    by_cases h : k < nP
    · rw [wl_get _ _ h, wl_get _ _ h, cE_ne hk]
    · rw [List.getElem?_eq_none (by rw [wl_len]; omega), List.getElem?_eq_none (by rw [wl_len]; omega)]
theorem cE_0 {E : En} {w : W0} {p c : Nat} (h : sh p = (0, c)) : cE E w p = .inr (c, (List.range (clN c)).map (fV E w p)) := by simp [cE, h]
theorem cE_1 {E : En} {w : W0} {p n : Nat} (h : sh p = (1, n)) : cE E w p = .inl (E.2.2.2.1, n, .inl (w p)) := by simp [cE, h]
theorem cE_2 {E : En} {w : W0} {p n : Nat} (h : sh p = (2, n)) : cE E w p = .inl (E.2.2.2.2.1, n, .inl (w p)) := by simp [cE, h]
theorem cE_3 {E : En} {w : W0} {p n : Nat} (h : sh p = (3, n)) : cE E w p = .inl (E.2.2.2.2.2, n, .inr (.inr (.inr (.inr (fun i => (rfT p i).map E.1))))) := by simp [cE, h]
theorem wl_0 {E : En} {w : W0} {p c : Nat} (hp : p < nP) (h : sh p = (0, c)) : (wl E w)[p]? = some (E.1 p, .inr (c, (List.range (clN c)).map (fV E w p))) := by rw [wl_get E w hp, cE_0 h]
theorem wl_1 {E : En} {w : W0} {p n : Nat} (hp : p < nP) (h : sh p = (1, n)) : (wl E w)[p]? = some (E.1 p, .inl (E.2.2.2.1, n, .inl (w p))) := by rw [wl_get E w hp, cE_1 h]
theorem wl_2 {E : En} {w : W0} {p n : Nat} (hp : p < nP) (h : sh p = (2, n)) : (wl E w)[p]? = some (E.1 p, .inl (E.2.2.2.2.1, n, .inl (w p))) := by rw [wl_get E w hp, cE_2 h]
theorem wl_3 {E : En} {w : W0} {p n : Nat} (hp : p < nP) (h : sh p = (3, n)) : (wl E w)[p]? = some (E.1 p, .inl (E.2.2.2.2.2, n, .inr (.inr (.inr (.inr (fun i => (rfT p i).map E.1)))))) := by rw [wl_get E w hp, cE_3 h]
theorem fV_i {E : En} {w : W0} {p i : Nat} (h : rfT p i = none) : fV E w p i = .int (w p i) := by simp [fV, h]
theorem fV_r {E : En} {w : W0} {p i q : Nat} (h : rfT p i = some q) : fV E w p i = .ref (E.1 q) := by simp [fV, h]
theorem setW_ne {w : W0} {p i q : Nat} {v : Int32} (h : q ≠ p) : setW w p i v q = w q := by simp [setW, h]
theorem setW_p (w : W0) (p i : Nat) (v : Int32) : setW w p i v p = upd (w p) i v := by simp [setW]
theorem fs_set {E : En} {w : W0} {p i n : Nat} {v : Int32} (hr : rfT p i = none) : ((List.range n).map (fV E w p)).set i (.int v) = (List.range n).map (fV E (setW w p i v) p) := by
  apply List.ext_getElem?
  intro k
  by_cases hk : k = i
  · subst hk
    by_cases hn : k < n
    · rw [List.getElem?_set_self (by simpa using hn)]
      simp [List.getElem?_map, List.getElem?_range hn, fV, hr, setW, upd]
    · rw [List.getElem?_eq_none (by simp; omega), List.getElem?_eq_none (by simp; omega)]
  · rw [List.getElem?_set_ne (Ne.symm hk)]
    by_cases hn : k < n
    · simp [List.getElem?_map, List.getElem?_range hn, fV, setW, upd, hk]
    · rw [List.getElem?_eq_none (by simp; omega), List.getElem?_eq_none (by simp; omega)]
/-! how the standing facts go along -/
theorem Nw_warm {s U : State} (hW : s.WarmedH U.vm) {x : Cond} (hx : x ∈ tblN) (h : va_Nw x s) : va_Nw x U := by
  have hn := (List.mem_filter.mp hx).2
  cases x <;> first | exact va_Nw.warmF hW h | exact va_Nw.warmM hW h | (simp [isNest] at hn)
theorem Nw_same {u U : State} (hv : u.vm = U.vm) {x : Cond} (hx : x ∈ tblN) (h : va_Nw x u) : va_Nw x U := by
  have hn := (List.mem_filter.mp hx).2
  cases x <;> first | exact va_Nw.same rfl hv h | (simp [isNest] at hn)
theorem Nw_use {s : State} {args : Array Value} {x : Cond} (hx : x ∈ tblN) (h : va_Nw x s) : x.before args s = true := by
  have hn := (List.mem_filter.mp hx).2
  cases x <;> first | exact va_Nw.use rfl h | (simp [isNest] at hn)
theorem Ws.go {E : En} {s U : State} {H : Heap} {locs : List Loc} (h : Ws E s s.heap) (hS : va_S (Aw E) s.heap H locs) (hW : s.WarmedH U.vm) : Ws E U H := by
  obtain ⟨h1, h2, h3, h4, h5⟩ := h
  have hk : ∀ a : Nat, a < s.heap.size → ¬ Aw E a → H[a]? = s.heap[a]? := fun a ha hn => hS.2.1 a ha hn
  exact ⟨va_K.moved hW.alike h1, (va_Z.moved hW.alike h2).kept hk, (va_T.moved hW.alike h3).kept hk, fun x hx => Nw_warm hW hx (h4 x hx), h5⟩
theorem Ws.same {E : En} {u U : State} {H : Heap} (h : Ws E u H) (hv : u.vm = U.vm) : Ws E U H := by
  obtain ⟨h1, h2, h3, h4, h5⟩ := h
  have ha : u.vm.Alike U.vm := by rw [← hv]; exact Vm.Alike.refl _
  exact ⟨va_K.moved ha h1, va_Z.moved ha h2, va_T.moved ha h3, fun x hx => Nw_same hv hx (h4 x hx), h5⟩
theorem Pc_blind {E : En} {av : List Value} {w : W0} : FrameBlind (va_Pc av (fun U => Wd E w U U.heap)) := by
  intro a U g mk h
  exact ⟨h.1, h.2.1.same rfl, h.2.2⟩
/-- a method's contract from its body -/
theorem Mt.of {E : En} {d : Nat} {y : MethodName} {cc : ByteArray} {nL : Nat} {ret : Option FieldType} {av : List Value} {w : W0} {rv : Option Value} {w1 : W0} (hy : plainName y.cls = true) (hn : (lg_sl av).length ≤ nL)
    (h : G E d y.cls cc nL ret rv w1 0 (lv_args 0 av) [] w) : Mt E d y cc nL ret av w rv w1 := by
  intro l
  refine Met.ofW (cc := cc) (maxL := nL) (ret := ret) hy rfl ?_
  intro p e s m args below meth c s₁ B hml hv
  obtain ⟨rfl, hWs, hP⟩ := hv
  have hts := atoms_spec (ws := Cond.code y cc nL ret :: tblG) B.pre
  have hl := lv_entry av (n := nL) hn
  rw [lg_entry_eq]
  generalize (lg_sl av ++ List.replicate (nL - (lg_sl av).length) Slot.unset).toArray = ls at hl ⊢
  exact h p l e s m _ below meth c s.heap [] ls ⟨B.exec, B.bytes, B.returns, B.notSynchronized, hml, findClass_of_methodNamed B.named, fun x hx => hts x (List.mem_cons_of_mem _ hx)⟩ hWs hP va_S.rf hl
end
section
/-! THE RULES of the judgement G, an instruction a rule -/
def bI (p : Prop) [Decidable p] : Int32 := if p then 1 else 0
theorem bI_t {p : Prop} [Decidable p] (h : p) : bI p = 1 := if_pos h
theorem bI_f {p : Prop} [Decidable p] (h : ¬ p) : bI p = 0 := if_neg h
theorem bI_0 {p : Prop} [Decidable p] : bI p = 0 ↔ ¬ p := by
  unfold bI
  by_cases h : p <;> simp [h]
section RULES
variable {E : En} {d : Nat} {own : String} {cc : ByteArray} {nL : Nat} {ret : Option FieldType} {rv : Option Value} {w1 : W0} {pc : Nat} {lv : List (Nat × Value)} {st : List Value} {w : W0}
theorem g_iconst {n : Int} (v : Int32) (hd : decode cc pc = .ok (.iconst n, 1)) (hv : Int32.ofInt n = v) (h : G E d own cc nL ret rv w1 (pc + 1) lv (.int v :: st) w) : G E d own cc nL ret rv w1 pc lv st w :=
  fun p l e s m args below meth c H locs ls C S P F L => lv_iconst C.1 C.2.1 hd hv (h p l e s m args below meth c H locs ls C S P F L)
theorem g_bipush {n : Int} (v : Int32) (hd : decode cc pc = .ok (.bipush n, 2)) (hv : (Int8.ofInt n).toInt32 = v) (h : G E d own cc nL ret rv w1 (pc + 2) lv (.int v :: st) w) : G E d own cc nL ret rv w1 pc lv st w :=
  fun p l e s m args below meth c H locs ls C S P F L => lv_bipush C.1 C.2.1 hd hv (h p l e s m args below meth c H locs ls C S P F L)
theorem g_sipush {n : Int} (v : Int32) (hd : decode cc pc = .ok (.sipush n, 3)) (hv : (Int16.ofInt n).toInt32 = v) (h : G E d own cc nL ret rv w1 (pc + 3) lv (.int v :: st) w) : G E d own cc nL ret rv w1 pc lv st w :=
  fun p l e s m args below meth c H locs ls C S P F L => lv_sipush C.1 C.2.1 hd hv (h p l e s m args below meth c H locs ls C S P F L)
theorem g_lconst {n : Fin 2} (v : Int64) (hd : decode cc pc = .ok (.lconst n, 1)) (hv : Int64.ofNat (n : Nat) = v) (h : G E d own cc nL ret rv w1 (pc + 1) lv (.long v :: st) w) : G E d own cc nL ret rv w1 pc lv st w :=
  fun p l e s m args below meth c H locs ls C S P F L => lv_lconst C.1 C.2.1 hd hv (h p l e s m args below meth c H locs ls C S P F L)
theorem g_ldc {index : Nat} (v : Int32) (hd : decode cc pc = .ok (.ldc index, 2)) (hc : Cond.constant own index v ∈ tblG) (h : G E d own cc nL ret rv w1 (pc + 2) lv (.int v :: st) w) : G E d own cc nL ret rv w1 pc lv st w :=
  fun p l e s m args below meth c H locs ls C S P F L => lv_ldc C.1 C.2.1 C.2.2.2.2.2.1 (C.2.2.2.2.2.2 _ hc) hd (h p l e s m args below meth c H locs ls C S P F L)
theorem g_ldc2 {index : Nat} (v : Int64) (hd : decode cc pc = .ok (.ldc2_w index, 3)) (hc : Cond.constantLong own index v ∈ tblG) (h : G E d own cc nL ret rv w1 (pc + 3) lv (.long v :: st) w) : G E d own cc nL ret rv w1 pc lv st w :=
  fun p l e s m args below meth c H locs ls C S P F L => lv_ldc2 C.1 C.2.1 C.2.2.2.2.2.1 (C.2.2.2.2.2.2 _ hc) hd (h p l e s m args below meth c H locs ls C S P F L)
theorem g_iload_n {k : Fin 4} {i : Nat} {x : Int32} (j : Nat) (hd : decode cc pc = .ok (.iload_n k, 1)) (hl : lv[j]? = some (i, .int x)) (hi : (k : Nat) = i) (h : G E d own cc nL ret rv w1 (pc + 1) lv (.int x :: st) w) : G E d own cc nL ret rv w1 pc lv st w :=
  fun p l e s m args below meth c H locs ls C S P F L => lv_iload_n C.1 C.2.1 hd hi (lv_at L j hl) (h p l e s m args below meth c H locs ls C S P F L)
theorem g_iload {i : Nat} {x : Int32} (j : Nat) (hd : decode cc pc = .ok (.iload i, 2)) (hl : lv[j]? = some (i, .int x)) (h : G E d own cc nL ret rv w1 (pc + 2) lv (.int x :: st) w) : G E d own cc nL ret rv w1 pc lv st w :=
  fun p l e s m args below meth c H locs ls C S P F L => lv_iload C.1 C.2.1 hd (lv_at L j hl) (h p l e s m args below meth c H locs ls C S P F L)
theorem g_lload_n {k : Fin 4} {i : Nat} {x : Int64} (j : Nat) (hd : decode cc pc = .ok (.lload_n k, 1)) (hl : lv[j]? = some (i, .long x)) (hi : (k : Nat) = i) (h : G E d own cc nL ret rv w1 (pc + 1) lv (.long x :: st) w) : G E d own cc nL ret rv w1 pc lv st w :=
  fun p l e s m args below meth c H locs ls C S P F L => lv_lload_n C.1 C.2.1 hd hi (lv_at L j hl) (h p l e s m args below meth c H locs ls C S P F L)
theorem g_lload {i : Nat} {x : Int64} (j : Nat) (hd : decode cc pc = .ok (.lload i, 2)) (hl : lv[j]? = some (i, .long x)) (h : G E d own cc nL ret rv w1 (pc + 2) lv (.long x :: st) w) : G E d own cc nL ret rv w1 pc lv st w :=
  fun p l e s m args below meth c H locs ls C S P F L => lv_lload C.1 C.2.1 hd (lv_at L j hl) (h p l e s m args below meth c H locs ls C S P F L)
theorem g_aload_n {k : Fin 4} {i : Nat} {x : Nat} (j : Nat) (hd : decode cc pc = .ok (.aload_n k, 1)) (hl : lv[j]? = some (i, .ref x)) (hi : (k : Nat) = i) (h : G E d own cc nL ret rv w1 (pc + 1) lv (.ref x :: st) w) : G E d own cc nL ret rv w1 pc lv st w :=
  fun p l e s m args below meth c H locs ls C S P F L => lv_aload_n C.1 C.2.1 hd hi (lv_at L j hl) (h p l e s m args below meth c H locs ls C S P F L)
theorem g_aload {i : Nat} {x : Nat} (j : Nat) (hd : decode cc pc = .ok (.aload i, 2)) (hl : lv[j]? = some (i, .ref x)) (h : G E d own cc nL ret rv w1 (pc + 2) lv (.ref x :: st) w) : G E d own cc nL ret rv w1 pc lv st w :=
  fun p l e s m args below meth c H locs ls C S P F L => lv_aload C.1 C.2.1 hd (lv_at L j hl) (h p l e s m args below meth c H locs ls C S P F L)
theorem g_iadd {x y : Int32} (hd : decode cc pc = .ok (.iadd, 1)) (h : G E d own cc nL ret rv w1 (pc + 1) lv (.int (x + y) :: st) w) : G E d own cc nL ret rv w1 pc lv (.int y :: .int x :: st) w :=
  fun p l e s m args below meth c H locs ls C S P F L => lv_iadd C.1 C.2.1 hd (h p l e s m args below meth c H locs ls C S P F L)
theorem g_isub {x y : Int32} (hd : decode cc pc = .ok (.isub, 1)) (h : G E d own cc nL ret rv w1 (pc + 1) lv (.int (x - y) :: st) w) : G E d own cc nL ret rv w1 pc lv (.int y :: .int x :: st) w :=
  fun p l e s m args below meth c H locs ls C S P F L => lv_isub C.1 C.2.1 hd (h p l e s m args below meth c H locs ls C S P F L)
theorem g_imul {x y : Int32} (hd : decode cc pc = .ok (.imul, 1)) (h : G E d own cc nL ret rv w1 (pc + 1) lv (.int (x * y) :: st) w) : G E d own cc nL ret rv w1 pc lv (.int y :: .int x :: st) w :=
  fun p l e s m args below meth c H locs ls C S P F L => lv_imul C.1 C.2.1 hd (h p l e s m args below meth c H locs ls C S P F L)
theorem g_idiv {x y : Int32} (hd : decode cc pc = .ok (.idiv, 1)) (hy : ¬ y = 0) (h : G E d own cc nL ret rv w1 (pc + 1) lv (.int (x / y) :: st) w) : G E d own cc nL ret rv w1 pc lv (.int y :: .int x :: st) w :=
  fun p l e s m args below meth c H locs ls C S P F L => lv_idiv C.1 C.2.1 hd hy (h p l e s m args below meth c H locs ls C S P F L)
theorem g_irem {x y : Int32} (hd : decode cc pc = .ok (.irem, 1)) (hy : ¬ y = 0) (h : G E d own cc nL ret rv w1 (pc + 1) lv (.int (x - x / y * y) :: st) w) : G E d own cc nL ret rv w1 pc lv (.int y :: .int x :: st) w :=
  fun p l e s m args below meth c H locs ls C S P F L => lv_irem C.1 C.2.1 hd hy (h p l e s m args below meth c H locs ls C S P F L)
theorem g_ineg {x : Int32} (hd : decode cc pc = .ok (.ineg, 1)) (h : G E d own cc nL ret rv w1 (pc + 1) lv (.int (-x) :: st) w) : G E d own cc nL ret rv w1 pc lv (.int x :: st) w :=
  fun p l e s m args below meth c H locs ls C S P F L => lv_ineg C.1 C.2.1 hd (h p l e s m args below meth c H locs ls C S P F L)
theorem g_iand {x y : Int32} (hd : decode cc pc = .ok (.iand, 1)) (h : G E d own cc nL ret rv w1 (pc + 1) lv (.int (x &&& y) :: st) w) : G E d own cc nL ret rv w1 pc lv (.int y :: .int x :: st) w :=
  fun p l e s m args below meth c H locs ls C S P F L => lv_iand C.1 C.2.1 hd (h p l e s m args below meth c H locs ls C S P F L)
theorem g_ior {x y : Int32} (hd : decode cc pc = .ok (.ior, 1)) (h : G E d own cc nL ret rv w1 (pc + 1) lv (.int (x ||| y) :: st) w) : G E d own cc nL ret rv w1 pc lv (.int y :: .int x :: st) w :=
  fun p l e s m args below meth c H locs ls C S P F L => lv_ior C.1 C.2.1 hd (h p l e s m args below meth c H locs ls C S P F L)
theorem g_ishl {x y : Int32} (hd : decode cc pc = .ok (.ishl, 1)) (h : G E d own cc nL ret rv w1 (pc + 1) lv (.int (x <<< (y &&& 31)) :: st) w) : G E d own cc nL ret rv w1 pc lv (.int y :: .int x :: st) w :=
  fun p l e s m args below meth c H locs ls C S P F L => lv_ishl C.1 C.2.1 hd (h p l e s m args below meth c H locs ls C S P F L)
theorem g_ishr {x y : Int32} (hd : decode cc pc = .ok (.ishr, 1)) (h : G E d own cc nL ret rv w1 (pc + 1) lv (.int (x >>> (y &&& 31)) :: st) w) : G E d own cc nL ret rv w1 pc lv (.int y :: .int x :: st) w :=
  fun p l e s m args below meth c H locs ls C S P F L => lv_ishr C.1 C.2.1 hd (h p l e s m args below meth c H locs ls C S P F L)
theorem g_ladd {x y : Int64} (hd : decode cc pc = .ok (.ladd, 1)) (h : G E d own cc nL ret rv w1 (pc + 1) lv (.long (x + y) :: st) w) : G E d own cc nL ret rv w1 pc lv (.long y :: .long x :: st) w :=
  fun p l e s m args below meth c H locs ls C S P F L => lv_ladd C.1 C.2.1 hd (h p l e s m args below meth c H locs ls C S P F L)
theorem g_lmul {x y : Int64} (hd : decode cc pc = .ok (.lmul, 1)) (h : G E d own cc nL ret rv w1 (pc + 1) lv (.long (x * y) :: st) w) : G E d own cc nL ret rv w1 pc lv (.long y :: .long x :: st) w :=
  fun p l e s m args below meth c H locs ls C S P F L => lv_lmul C.1 C.2.1 hd (h p l e s m args below meth c H locs ls C S P F L)
theorem g_ldiv {x y : Int64} (hd : decode cc pc = .ok (.ldiv, 1)) (hy : ¬ y = 0) (h : G E d own cc nL ret rv w1 (pc + 1) lv (.long (x / y) :: st) w) : G E d own cc nL ret rv w1 pc lv (.long y :: .long x :: st) w :=
  fun p l e s m args below meth c H locs ls C S P F L => lv_ldiv C.1 C.2.1 hd hy (h p l e s m args below meth c H locs ls C S P F L)
theorem g_i2l {x : Int32} (hd : decode cc pc = .ok (.i2l, 1)) (h : G E d own cc nL ret rv w1 (pc + 1) lv (.long x.toInt64 :: st) w) : G E d own cc nL ret rv w1 pc lv (.int x :: st) w :=
  fun p l e s m args below meth c H locs ls C S P F L => lv_i2l C.1 C.2.1 hd rfl (h p l e s m args below meth c H locs ls C S P F L)
theorem g_l2i {x : Int64} (hd : decode cc pc = .ok (.l2i, 1)) (h : G E d own cc nL ret rv w1 (pc + 1) lv (.int x.toInt32 :: st) w) : G E d own cc nL ret rv w1 pc lv (.long x :: st) w :=
  fun p l e s m args below meth c H locs ls C S P F L => lv_l2i C.1 C.2.1 hd rfl (h p l e s m args below meth c H locs ls C S P F L)
theorem g_dup {v : Value} (hd : decode cc pc = .ok (.dup, 1)) (hv : v.category = 1) (h : G E d own cc nL ret rv w1 (pc + 1) lv (v :: v :: st) w) : G E d own cc nL ret rv w1 pc lv (v :: st) w :=
  fun p l e s m args below meth c H locs ls C S P F L => lv_dup C.1 C.2.1 hd hv (h p l e s m args below meth c H locs ls C S P F L)
theorem g_dup2 {v u : Value} (hd : decode cc pc = .ok (.dup2, 1)) (hv : v.category = 1) (hu : u.category = 1) (h : G E d own cc nL ret rv w1 (pc + 1) lv (v :: u :: v :: u :: st) w) : G E d own cc nL ret rv w1 pc lv (v :: u :: st) w :=
  fun p l e s m args below meth c H locs ls C S P F L => lv_dup2_11 C.1 C.2.1 hd hv hu (h p l e s m args below meth c H locs ls C S P F L)
theorem g_goto {off : Int} (tgt : Nat) (hd : decode cc pc = .ok (.goto off, 3)) (ht : (pc : Int) + off = (tgt : Int)) (h : G E d own cc nL ret rv w1 tgt lv st w) : G E d own cc nL ret rv w1 pc lv st w :=
  fun p l e s m args below meth c H locs ls C S P F L => lv_goto C.1 C.2.1 hd ht (h p l e s m args below meth c H locs ls C S P F L)
theorem g_icmp_lt {x y : Int32} {off : Int} (tgt : Nat) (X Y : Int) (hd : decode cc pc = .ok (.if_icmp .lt off, 3)) (ht : (pc : Int) + off = (tgt : Int)) (hX : x.toInt = X) (hY : y.toInt = Y) (kt : X < Y → G E d own cc nL ret rv w1 tgt lv st w) (kf : Y ≤ X → G E d own cc nL ret rv w1 (pc + 3) lv st w) : G E d own cc nL ret rv w1 pc lv (.int y :: .int x :: st) w := by
  subst hX; subst hY
  exact fun p l e s m args below meth c H locs ls C S P F L => lv_icmp_lt C.1 C.2.1 hd ht (fun q => kt (Int32.lt_iff_toInt_lt.mp q) p l e s m args below meth c H locs ls C S P F L) (fun q => kf (by have := mt Int32.lt_iff_toInt_lt.mpr q; omega) p l e s m args below meth c H locs ls C S P F L)
theorem g_icmp_ge {x y : Int32} {off : Int} (tgt : Nat) (X Y : Int) (hd : decode cc pc = .ok (.if_icmp .ge off, 3)) (ht : (pc : Int) + off = (tgt : Int)) (hX : x.toInt = X) (hY : y.toInt = Y) (kt : Y ≤ X → G E d own cc nL ret rv w1 tgt lv st w) (kf : X < Y → G E d own cc nL ret rv w1 (pc + 3) lv st w) : G E d own cc nL ret rv w1 pc lv (.int y :: .int x :: st) w := by
  subst hX; subst hY
  exact fun p l e s m args below meth c H locs ls C S P F L => lv_icmp_ge C.1 C.2.1 hd ht (fun q => kt (Int32.le_iff_toInt_le.mp q) p l e s m args below meth c H locs ls C S P F L) (fun q => kf (by have := mt Int32.le_iff_toInt_le.mpr q; omega) p l e s m args below meth c H locs ls C S P F L)
theorem g_icmp_gt {x y : Int32} {off : Int} (tgt : Nat) (X Y : Int) (hd : decode cc pc = .ok (.if_icmp .gt off, 3)) (ht : (pc : Int) + off = (tgt : Int)) (hX : x.toInt = X) (hY : y.toInt = Y) (kt : Y < X → G E d own cc nL ret rv w1 tgt lv st w) (kf : X ≤ Y → G E d own cc nL ret rv w1 (pc + 3) lv st w) : G E d own cc nL ret rv w1 pc lv (.int y :: .int x :: st) w := by
  subst hX; subst hY
  exact fun p l e s m args below meth c H locs ls C S P F L => lv_icmp_gt C.1 C.2.1 hd ht (fun q => kt (Int32.lt_iff_toInt_lt.mp q) p l e s m args below meth c H locs ls C S P F L) (fun q => kf (by have := mt Int32.lt_iff_toInt_lt.mpr q; omega) p l e s m args below meth c H locs ls C S P F L)
theorem g_icmp_le {x y : Int32} {off : Int} (tgt : Nat) (X Y : Int) (hd : decode cc pc = .ok (.if_icmp .le off, 3)) (ht : (pc : Int) + off = (tgt : Int)) (hX : x.toInt = X) (hY : y.toInt = Y) (kt : X ≤ Y → G E d own cc nL ret rv w1 tgt lv st w) (kf : Y < X → G E d own cc nL ret rv w1 (pc + 3) lv st w) : G E d own cc nL ret rv w1 pc lv (.int y :: .int x :: st) w := by
  subst hX; subst hY
  exact fun p l e s m args below meth c H locs ls C S P F L => lv_icmp_le C.1 C.2.1 hd ht (fun q => kt (Int32.le_iff_toInt_le.mp q) p l e s m args below meth c H locs ls C S P F L) (fun q => kf (by have := mt Int32.le_iff_toInt_le.mpr q; omega) p l e s m args below meth c H locs ls C S P F L)
theorem g_icmp_eq {x y : Int32} {off : Int} (tgt : Nat) (hd : decode cc pc = .ok (.if_icmp .eq off, 3)) (ht : (pc : Int) + off = (tgt : Int)) (kt : x = y → G E d own cc nL ret rv w1 tgt lv st w) (kf : ¬ x = y → G E d own cc nL ret rv w1 (pc + 3) lv st w) : G E d own cc nL ret rv w1 pc lv (.int y :: .int x :: st) w :=
  fun p l e s m args below meth c H locs ls C S P F L => lv_icmp_eq C.1 C.2.1 hd ht (fun q => kt q p l e s m args below meth c H locs ls C S P F L) (fun q => kf q p l e s m args below meth c H locs ls C S P F L)
theorem g_icmp_ne {x y : Int32} {off : Int} (tgt : Nat) (hd : decode cc pc = .ok (.if_icmp .ne off, 3)) (ht : (pc : Int) + off = (tgt : Int)) (kt : ¬ x = y → G E d own cc nL ret rv w1 tgt lv st w) (kf : x = y → G E d own cc nL ret rv w1 (pc + 3) lv st w) : G E d own cc nL ret rv w1 pc lv (.int y :: .int x :: st) w :=
  fun p l e s m args below meth c H locs ls C S P F L => lv_icmp_ne C.1 C.2.1 hd ht (fun q => kt q p l e s m args below meth c H locs ls C S P F L) (fun q => kf q p l e s m args below meth c H locs ls C S P F L)
theorem g_if_eq {x : Int32} {off : Int} (tgt : Nat) (hd : decode cc pc = .ok (.ifCond .eq off, 3)) (ht : (pc : Int) + off = (tgt : Int)) (kt : x = 0 → G E d own cc nL ret rv w1 tgt lv st w) (kf : ¬ x = 0 → G E d own cc nL ret rv w1 (pc + 3) lv st w) : G E d own cc nL ret rv w1 pc lv (.int x :: st) w :=
  fun p l e s m args below meth c H locs ls C S P F L => lv_if_eq C.1 C.2.1 hd ht (fun q => kt q p l e s m args below meth c H locs ls C S P F L) (fun q => kf q p l e s m args below meth c H locs ls C S P F L)
theorem g_if_ne {x : Int32} {off : Int} (tgt : Nat) (hd : decode cc pc = .ok (.ifCond .ne off, 3)) (ht : (pc : Int) + off = (tgt : Int)) (kt : ¬ x = 0 → G E d own cc nL ret rv w1 tgt lv st w) (kf : x = 0 → G E d own cc nL ret rv w1 (pc + 3) lv st w) : G E d own cc nL ret rv w1 pc lv (.int x :: st) w :=
  fun p l e s m args below meth c H locs ls C S P F L => lv_if_ne C.1 C.2.1 hd ht (fun q => kt q p l e s m args below meth c H locs ls C S P F L) (fun q => kf q p l e s m args below meth c H locs ls C S P F L)
/-- the same on a truth value -/
theorem g_if_eqb {q : Prop} [Decidable q] {off : Int} (tgt : Nat) (hd : decode cc pc = .ok (.ifCond .eq off, 3)) (ht : (pc : Int) + off = (tgt : Int)) (kt : ¬ q → G E d own cc nL ret rv w1 tgt lv st w) (kf : q → G E d own cc nL ret rv w1 (pc + 3) lv st w) : G E d own cc nL ret rv w1 pc lv (.int (bI q) :: st) w :=
  g_if_eq tgt hd ht (fun h => kt (bI_0.mp h)) (fun h => kf (Decidable.of_not_not (fun z => h (bI_f z))))
theorem g_if_neb {q : Prop} [Decidable q] {off : Int} (tgt : Nat) (hd : decode cc pc = .ok (.ifCond .ne off, 3)) (ht : (pc : Int) + off = (tgt : Int)) (kt : q → G E d own cc nL ret rv w1 tgt lv st w) (kf : ¬ q → G E d own cc nL ret rv w1 (pc + 3) lv st w) : G E d own cc nL ret rv w1 pc lv (.int (bI q) :: st) w :=
  g_if_ne tgt hd ht (fun h => kt (Decidable.of_not_not (fun z => h (bI_f z)))) (fun h => kf (bI_0.mp h))
theorem g_if_lt {x : Int32} {off : Int} (tgt : Nat) (X : Int) (hd : decode cc pc = .ok (.ifCond .lt off, 3)) (ht : (pc : Int) + off = (tgt : Int)) (hX : x.toInt = X) (kt : X < 0 → G E d own cc nL ret rv w1 tgt lv st w) (kf : 0 ≤ X → G E d own cc nL ret rv w1 (pc + 3) lv st w) : G E d own cc nL ret rv w1 pc lv (.int x :: st) w := by
  subst hX
  exact fun p l e s m args below meth c H locs ls C S P F L => lv_if_lt C.1 C.2.1 hd ht (fun q => kt (Int32.lt_iff_toInt_lt.mp q) p l e s m args below meth c H locs ls C S P F L) (fun q => kf (by have h := mt Int32.lt_iff_toInt_lt.mpr q; have h0 : (0 : Int32).toInt = 0 := rfl; omega) p l e s m args below meth c H locs ls C S P F L)
theorem g_if_ge {x : Int32} {off : Int} (tgt : Nat) (X : Int) (hd : decode cc pc = .ok (.ifCond .ge off, 3)) (ht : (pc : Int) + off = (tgt : Int)) (hX : x.toInt = X) (kt : 0 ≤ X → G E d own cc nL ret rv w1 tgt lv st w) (kf : X < 0 → G E d own cc nL ret rv w1 (pc + 3) lv st w) : G E d own cc nL ret rv w1 pc lv (.int x :: st) w := by
  subst hX
  exact fun p l e s m args below meth c H locs ls C S P F L => lv_if_ge C.1 C.2.1 hd ht (fun q => kt (Int32.le_iff_toInt_le.mp q) p l e s m args below meth c H locs ls C S P F L) (fun q => kf (by have h := mt Int32.le_iff_toInt_le.mpr q; have h0 : (0 : Int32).toInt = 0 := rfl; omega) p l e s m args below meth c H locs ls C S P F L)
theorem g_if_le {x : Int32} {off : Int} (tgt : Nat) (X : Int) (hd : decode cc pc = .ok (.ifCond .le off, 3)) (ht : (pc : Int) + off = (tgt : Int)) (hX : x.toInt = X) (kt : X ≤ 0 → G E d own cc nL ret rv w1 tgt lv st w) (kf : 0 < X → G E d own cc nL ret rv w1 (pc + 3) lv st w) : G E d own cc nL ret rv w1 pc lv (.int x :: st) w := by
  subst hX
  exact fun p l e s m args below meth c H locs ls C S P F L => lv_if_le C.1 C.2.1 hd ht (fun q => kt (Int32.le_iff_toInt_le.mp q) p l e s m args below meth c H locs ls C S P F L) (fun q => kf (by have h := mt Int32.le_iff_toInt_le.mpr q; have h0 : (0 : Int32).toInt = 0 := rfl; omega) p l e s m args below meth c H locs ls C S P F L)
theorem g_tableIn {dflt lo hi : Int} {offs : Array Int} {len : Nat} {x : Int32} {off : Int} (tgt : Nat) (hd : decode cc pc = .ok (.tableswitch dflt lo hi offs, len)) (h1 : ¬ x.toInt < lo) (h2 : ¬ hi < x.toInt) (ho : offs[(x.toInt - lo).toNat]? = some off) (ht : (pc : Int) + off = (tgt : Int)) (h : G E d own cc nL ret rv w1 tgt lv st w) : G E d own cc nL ret rv w1 pc lv (.int x :: st) w :=
  fun p l e s m args below meth c H locs ls C S P F L => lv_tableIn C.1 C.2.1 hd h1 h2 ho ht (h p l e s m args below meth c H locs ls C S P F L)
theorem g_tableOut {dflt lo hi : Int} {offs : Array Int} {len : Nat} {x : Int32} (tgt : Nat) (hd : decode cc pc = .ok (.tableswitch dflt lo hi offs, len)) (h1 : x.toInt < lo ∨ hi < x.toInt) (ht : (pc : Int) + dflt = (tgt : Int)) (h : G E d own cc nL ret rv w1 tgt lv st w) : G E d own cc nL ret rv w1 pc lv (.int x :: st) w :=
  fun p l e s m args below meth c H locs ls C S P F L => lv_tableOut C.1 C.2.1 hd h1 ht (h p l e s m args below meth c H locs ls C S P F L)
theorem g_lookup {dflt : Int} {ps : Array (Int × Int)} {len : Nat} {x : Int32} {off : Int} (tgt : Nat) (hd : decode cc pc = .ok (.lookupswitch dflt ps, len)) (hp : (ps.toList.zip (ps.toList.drop 1)).all (fun (a, next) => a.1 < next.1) = true) (ho : Op.lookupswitch.offset ps.toList dflt x.toInt = off) (ht : (pc : Int) + off = (tgt : Int)) (h : G E d own cc nL ret rv w1 tgt lv st w) : G E d own cc nL ret rv w1 pc lv (.int x :: st) w :=
  fun p l e s m args below meth c H locs ls C S P F L => lv_lookup C.1 C.2.1 hd hp ho ht (h p l e s m args below meth c H locs ls C S P F L)
/-! locals -/
theorem g_lv {lv' : List (Nat × Value)} (ks : List Nat) (hk : lv_pick lv ks = lv') (h : G E d own cc nL ret rv w1 pc lv' st w) : G E d own cc nL ret rv w1 pc lv st w :=
  fun p l e s m args below meth c H locs ls C S P F L => h p l e s m args below meth c H locs ls C S P F (lv_sub L ks hk)
def stOk (i : Nat) (l : List (Nat × Value)) : Bool := l.all (fun q => !(q.1 == i) && !(q.1 + 1 == i && q.2.category == 2))
def stOkL (i : Nat) (l : List (Nat × Value)) : Bool := l.all (fun q => !(q.1 == i) && (!(q.1 == i + 1) && !(q.1 + 1 == i && q.2.category == 2)))
theorem lv_back {ls : Array Slot} {i : Nat} {v o : Value} {pre t : List (Nat × Value)} {f : Nat × Value → Bool} (hf : ∀ q ∈ pre ++ t, f q = true) (h : lv_has ls nL ((i, v) :: (pre ++ (i, o) :: t).filter f)) : lv_has ls nL (pre ++ (i, v) :: t) := by
  refine ⟨h.1, h.2.1, fun q hq => h.2.2 q ?_⟩
  rcases List.mem_append.mp hq with h1 | h1
  · exact List.mem_cons_of_mem _ (List.mem_filter.mpr ⟨List.mem_append_left _ h1, hf q (List.mem_append_left _ h1)⟩)
  · rcases List.mem_cons.mp h1 with h2 | h2
    · rw [h2]; exact List.mem_cons_self
    · exact List.mem_cons_of_mem _ (List.mem_filter.mpr ⟨List.mem_append_right _ (List.mem_cons_of_mem _ h2), hf q (List.mem_append_right _ h2)⟩)
theorem g_ist_n {k : Fin 4} {i : Nat} {x : Int32} {o : Value} (pre t : List (Nat × Value)) (hd : decode cc pc = .ok (.istore_n k, 1)) (hi : (k : Nat) = i) (hn : i < nL) (hok : stOk i (pre ++ t) = true) (h : G E d own cc nL ret rv w1 (pc + 1) (pre ++ (i, .int x) :: t) st w) : G E d own cc nL ret rv w1 pc (pre ++ (i, o) :: t) (.int x :: st) w :=
  fun p l e s m args below meth c H locs ls C S P F L => lv_istore_n C.1 C.2.1 hd hi L hn rfl (fun ls hl => h p l e s m args below meth c H locs ls C S P F (lv_back (fun q hq => List.all_eq_true.mp hok q hq) hl))
theorem g_ist {i : Nat} {x : Int32} {o : Value} (pre t : List (Nat × Value)) (hd : decode cc pc = .ok (.istore i, 2)) (hn : i < nL) (hok : stOk i (pre ++ t) = true) (h : G E d own cc nL ret rv w1 (pc + 2) (pre ++ (i, .int x) :: t) st w) : G E d own cc nL ret rv w1 pc (pre ++ (i, o) :: t) (.int x :: st) w :=
  fun p l e s m args below meth c H locs ls C S P F L => lv_istore C.1 C.2.1 hd L hn rfl (fun ls hl => h p l e s m args below meth c H locs ls C S P F (lv_back (fun q hq => List.all_eq_true.mp hok q hq) hl))
theorem g_iinc {i : Nat} {n : Int} {x : Int32} (v : Int32) (pre t : List (Nat × Value)) (hd : decode cc pc = .ok (.iinc i n, 3)) (hv : Int32.ofInt n = v) (hn : i < nL) (hok : stOk i (pre ++ t) = true) (h : G E d own cc nL ret rv w1 (pc + 3) (pre ++ (i, .int (x + v)) :: t) st w) : G E d own cc nL ret rv w1 pc (pre ++ (i, .int x) :: t) st w :=
  fun p l e s m args below meth c H locs ls C S P F L => lv_iinc (k := pre.length) (x := x) C.1 C.2.1 hd L (by simp) (by rw [hv]) hn rfl (fun ls hl => h p l e s m args below meth c H locs ls C S P F (lv_back (fun q hq => List.all_eq_true.mp hok q hq) hl))
theorem g_lst_n {k : Fin 4} {i : Nat} {x : Int64} {o : Value} (pre t : List (Nat × Value)) (hd : decode cc pc = .ok (.lstore_n k, 1)) (hi : (k : Nat) = i) (hn : i + 1 < nL) (hok : stOkL i (pre ++ t) = true) (h : G E d own cc nL ret rv w1 (pc + 1) (pre ++ (i, .long x) :: t) st w) : G E d own cc nL ret rv w1 pc (pre ++ (i, o) :: t) (.long x :: st) w :=
  fun p l e s m args below meth c H locs ls C S P F L => lv_lstore_n C.1 C.2.1 hd hi L hn rfl (fun ls hl => h p l e s m args below meth c H locs ls C S P F (lv_back (fun q hq => List.all_eq_true.mp hok q hq) hl))
theorem g_lst {i : Nat} {x : Int64} {o : Value} (pre t : List (Nat × Value)) (hd : decode cc pc = .ok (.lstore i, 2)) (hn : i + 1 < nL) (hok : stOkL i (pre ++ t) = true) (h : G E d own cc nL ret rv w1 (pc + 2) (pre ++ (i, .long x) :: t) st w) : G E d own cc nL ret rv w1 pc (pre ++ (i, o) :: t) (.long x :: st) w :=
  fun p l e s m args below meth c H locs ls C S P F L => lv_lstore C.1 C.2.1 hd L hn rfl (fun ls hl => h p l e s m args below meth c H locs ls C S P F (lv_back (fun q hq => List.all_eq_true.mp hok q hq) hl))
theorem lv_back0 {ls : Array Slot} {i : Nat} {v : Value} {t : List (Nat × Value)} {f : Nat × Value → Bool} (hf : ∀ q ∈ t, f q = true) (h : lv_has ls nL ((i, v) :: t.filter f)) : lv_has ls nL ((i, v) :: t) :=
  ⟨h.1, h.2.1, fun q hq => h.2.2 q ((List.mem_cons.mp hq).elim (fun e => by rw [e]; exact List.mem_cons_self) (fun h2 => List.mem_cons_of_mem _ (List.mem_filter.mpr ⟨h2, hf q h2⟩)))⟩
theorem g_istN_n {k : Fin 4} {i : Nat} {x : Int32} (hd : decode cc pc = .ok (.istore_n k, 1)) (hi : (k : Nat) = i) (hn : i < nL) (hok : stOk i lv = true) (h : G E d own cc nL ret rv w1 (pc + 1) ((i, .int x) :: lv) st w) : G E d own cc nL ret rv w1 pc lv (.int x :: st) w :=
  fun p l e s m args below meth c H locs ls C S P F L => lv_istore_n C.1 C.2.1 hd hi L hn rfl (fun ls hl => h p l e s m args below meth c H locs ls C S P F (lv_back0 (fun q hq => List.all_eq_true.mp hok q hq) hl))
theorem g_istN {i : Nat} {x : Int32} (hd : decode cc pc = .ok (.istore i, 2)) (hn : i < nL) (hok : stOk i lv = true) (h : G E d own cc nL ret rv w1 (pc + 2) ((i, .int x) :: lv) st w) : G E d own cc nL ret rv w1 pc lv (.int x :: st) w :=
  fun p l e s m args below meth c H locs ls C S P F L => lv_istore C.1 C.2.1 hd L hn rfl (fun ls hl => h p l e s m args below meth c H locs ls C S P F (lv_back0 (fun q hq => List.all_eq_true.mp hok q hq) hl))
theorem g_lstN_n {k : Fin 4} {i : Nat} {x : Int64} (hd : decode cc pc = .ok (.lstore_n k, 1)) (hi : (k : Nat) = i) (hn : i + 1 < nL) (hok : stOkL i lv = true) (h : G E d own cc nL ret rv w1 (pc + 1) ((i, .long x) :: lv) st w) : G E d own cc nL ret rv w1 pc lv (.long x :: st) w :=
  fun p l e s m args below meth c H locs ls C S P F L => lv_lstore_n C.1 C.2.1 hd hi L hn rfl (fun ls hl => h p l e s m args below meth c H locs ls C S P F (lv_back0 (fun q hq => List.all_eq_true.mp hok q hq) hl))
theorem g_lstN {i : Nat} {x : Int64} (hd : decode cc pc = .ok (.lstore i, 2)) (hn : i + 1 < nL) (hok : stOkL i lv = true) (h : G E d own cc nL ret rv w1 (pc + 2) ((i, .long x) :: lv) st w) : G E d own cc nL ret rv w1 pc lv (.long x :: st) w :=
  fun p l e s m args below meth c H locs ls C S P F L => lv_lstore C.1 C.2.1 hd L hn rfl (fun ls hl => h p l e s m args below meth c H locs ls C S P F (lv_back0 (fun q hq => List.all_eq_true.mp hok q hq) hl))
/-! rows of numbers -/
theorem vp_in_of2 {x : Int32} {n : Nat} (h : 0 ≤ x.toInt ∧ x.toInt < n) : vp_in x n := vp_in_iff.mpr h
theorem g_iald {x : Int32} {q n : Nat} (j : Nat) (hd : decode cc pc = .ok (.iaload, 1)) (hq : q < nP) (hs : sh q = (1, n)) (hj : x.toNatClampNeg = j) (hin : 0 ≤ x.toInt ∧ x.toInt < n) (h : G E d own cc nL ret rv w1 (pc + 1) lv (.int (w q j) :: st) w) : G E d own cc nL ret rv w1 pc lv (.int x :: .ref (E.1 q) :: st) w := by
  subst hj
  exact fun p l e s m args below meth c H locs ls C S P F L => va_iald C.1 C.2.1 S.1 P q 0 (wl_1 hq hs) rfl (vp_in_of2 hin) hd (h p l e s m args below meth c H locs ls C S P F L)
theorem g_bald {x : Int32} {q n : Nat} (j : Nat) (hd : decode cc pc = .ok (.baload, 1)) (hq : q < nP) (hs : sh q = (2, n)) (hj : x.toNatClampNeg = j) (hin : 0 ≤ x.toInt ∧ x.toInt < n) (h : G E d own cc nL ret rv w1 (pc + 1) lv (.int (w q j) :: st) w) : G E d own cc nL ret rv w1 pc lv (.int x :: .ref (E.1 q) :: st) w := by
  subst hj
  exact fun p l e s m args below meth c H locs ls C S P F L => va_zald C.1 C.2.1 S.1 P q 1 (wl_2 hq hs) rfl (vp_in_of2 hin) hd (h p l e s m args below meth c H locs ls C S P F L)
theorem g_iast {x v : Int32} {q n : Nat} (j : Nat) (hd : decode cc pc = .ok (.iastore, 1)) (hq : q < nP) (hs : sh q = (1, n)) (hj : x.toNatClampNeg = j) (hin : 0 ≤ x.toInt ∧ x.toInt < n) (h : G E d own cc nL ret rv w1 (pc + 1) lv st (setW w q j v)) : G E d own cc nL ret rv w1 pc lv (.int v :: .int x :: .ref (E.1 q) :: st) w := by
  subst hj
  refine fun p l e s m args below meth c H locs ls C S P F L => va_iast C.1 C.2.1 S.1 P (wl_D w S.2.2.2.2) F q 0 (wl_1 hq hs) rfl (vp_in_of2 hin) hd (fun H1 locs1 P1 _ F1 => h p l e s m args below meth c H1 locs1 ls C S ?_ F1 L)
  rw [wl_set hq (by rw [cE_1 hs, setW_p])] at P1
  exact P1
theorem g_bast {x v : Int32} {q n : Nat} (j : Nat) (hd : decode cc pc = .ok (.bastore, 1)) (hq : q < nP) (hs : sh q = (2, n)) (hj : x.toNatClampNeg = j) (hin : 0 ≤ x.toInt ∧ x.toInt < n) (hv : vp_nar .boolean v = v) (h : G E d own cc nL ret rv w1 (pc + 1) lv st (setW w q j v)) : G E d own cc nL ret rv w1 pc lv (.int v :: .int x :: .ref (E.1 q) :: st) w := by
  subst hj
  refine fun p l e s m args below meth c H locs ls C S P F L => va_zast C.1 C.2.1 S.1 P (wl_D w S.2.2.2.2) F q 1 (wl_2 hq hs) rfl (vp_in_of2 hin) hd (fun H1 locs1 P1 _ F1 => h p l e s m args below meth c H1 locs1 ls C S ?_ F1 L)
  rw [hv, wl_set hq (by rw [cE_2 hs, setW_p])] at P1
  exact P1
theorem g_alen {q n : Nat} (v : Int32) (hd : decode cc pc = .ok (.arraylength, 1)) (hq : q < nP) (hs : sh q = (1, n)) (hv : Int32.ofNat n = v) (h : G E d own cc nL ret rv w1 (pc + 1) lv (.int v :: st) w) : G E d own cc nL ret rv w1 pc lv (.ref (E.1 q) :: st) w :=
  fun p l e s m args below meth c H locs ls C S P F L => va_alen C.1 C.2.1 S.1 P q 0 (wl_1 hq hs) rfl hv hd (h p l e s m args below meth c H locs ls C S P F L)
/-- a row of rows: the rows of the places b, b + 1 .. -/
theorem g_aald {x : Int32} {q n b : Nat} (j : Nat) (hd : decode cc pc = .ok (.aaload, 1)) (hq : q < nP) (hs : sh q = (3, n)) (hb : ∀ i, i < n → rfT q i = some (b + i)) (hj : x.toNatClampNeg = j) (hin : 0 ≤ x.toInt ∧ x.toInt < n) (h : j < n → G E d own cc nL ret rv w1 (pc + 1) lv (.ref (E.1 (b + j)) :: st) w) : G E d own cc nL ret rv w1 pc lv (.int x :: .ref (E.1 q) :: st) w := by
  subst hj
  intro p l e s m args below meth c H locs ls C S P F L
  have hlt : x.toNatClampNeg < n := Nat.not_le.mp fun z => vp_in_of2 hin (Or.inr z)
  refine W.aald (v := .ref (E.1 (b + x.toNatClampNeg))) (ty := .array .int) C.1 C.2.1 (P q _ (wl_3 hq hs)) ((S.1.2 2 _ rfl).1 n (fun j => va_rf ((rfT q j).map E.1))) rfl (fun z => by cases z) ?_ ?_ rfl rfl hd (h hlt p l e s m args below meth c H locs ls C S P F L)
  · show ¬ (x < 0 ∨ (arrV _ _ _).slots.size ≤ _)
    rw [arrV_size]
    exact vp_in_of2 hin
  · show (arrV _ _ _).slots[_]? = _
    rw [arrV_read _ _ hlt]
    show some (va_rf (Option.map E.1 (rfT q x.toNatClampNeg))) = _
    rw [hb _ hlt]
    rfl
/-- the row that nobody writes -/
theorem g_tld {x : Int32} (j : Nat) (hd : decode cc pc = .ok (.iaload, 1)) (hj : x.toNatClampNeg = j) (hin : 0 ≤ x.toInt ∧ x.toInt < 5) (h : G E d own cc nL ret rv w1 (pc + 1) lv (.int (bef j) :: st) w) : G E d own cc nL ret rv w1 pc lv (.int x :: .ref E.2.1 :: st) w := by
  subst hj
  exact fun p l e s m args below meth c H locs ls C S P F L => va_ti C.1 C.2.1 S.2.2.1 F (vp_in_of2 (n := 5) hin) rfl hd (h p l e s m args below meth c H locs ls C S P F L)
theorem g_getsN {index : Nat} {host : String} (hd : decode cc pc = .ok (.getstatic index, 3)) (hl : Cond.fieldLinkNest own index "WardCourt" "BEFORE_ANY_LAW" "[I" host ∈ tblN) (h : G E d own cc nL ret rv w1 (pc + 3) lv (.ref E.2.1 :: st) w) : G E d own cc nL ret rv w1 pc lv st w :=
  fun p l e s m args below meth c H locs ls C S P F L => va_getsN C.1 C.2.1 S.2.1 F C.2.2.2.2.2.1 (Nw_use hl (S.2.2.2.1 _ hl)) (fun _ h9 => h9) hd (h p l e s m args below meth c H locs ls C S P F L)
/-! returns -/
theorem Wd_end {s t : State} {H : Heap} {locs : List Loc} (S : Ws E s s.heap) (P : va_P E.2.2.1 vwCl (wl E w) H) (F : va_S (Aw E) s.heap H locs) (ht : t.heap = H) (hW : s.WarmedH t.vm) : Wd E w t t.heap := by
  rw [ht]
  exact ⟨S.go F hW, P⟩
theorem g_iret {ty : FieldType} {v : Int32} (hd : decode cc pc = .ok (.ireturn, 1)) (hret : ret = some ty) (hn : narrow ty (.int v) = .int v) (hv : rv = some (.int v)) (hw : w1 = w) : G E d own cc nL ret rv w1 pc lv [.int v] w := by
  subst hw
  subst hv
  exact fun p l e s m args below meth c H locs ls C S P F L => W.zret C.1 C.2.1 (by rw [C.2.2.1, hret]) hn (fun t ht hW => ⟨⟨rfl, Wd_end S P F ht hW⟩, F.F ht⟩) F.2.2 hd C.2.2.2.1
theorem g_lret {v : Int64} (hd : decode cc pc = .ok (.lreturn, 1)) (hret : ret = some .long) (hv : rv = some (.long v)) (hw : w1 = w) : G E d own cc nL ret rv w1 pc lv [.long v] w := by
  subst hw
  subst hv
  exact fun p l e s m args below meth c H locs ls C S P F L => W.lret C.1 C.2.1 (by rw [C.2.2.1, hret]) (fun t ht hW => ⟨⟨rfl, Wd_end S P F ht hW⟩, F.F ht⟩) F.2.2 hd C.2.2.2.1
theorem g_vret (hd : decode cc pc = .ok (.return_, 1)) (hret : ret = none) (hv : rv = none) (hw : w1 = w) : G E d own cc nL ret rv w1 pc lv [] w := by
  subst hw
  subst hv
  exact fun p l e s m args below meth c H locs ls C S P F L => W.vret C.1 C.2.1 (by rw [C.2.2.1, hret]) (fun t ht hW => ⟨⟨rfl, Wd_end S P F ht hW⟩, F.F ht⟩) F.2.2 hd C.2.2.2.1
end RULES
theorem sh_9 {j : Nat} (h : j < 8) : sh (9 + j) = (1, 5) := by
  rcases (show j = 0 ∨ j = 1 ∨ j = 2 ∨ j = 3 ∨ j = 4 ∨ j = 5 ∨ j = 6 ∨ j = 7 by omega) with rfl | rfl | rfl | rfl | rfl | rfl | rfl | rfl <;> rfl
theorem sh_36 {j : Nat} (h : j < 10) : sh (36 + j) = (1, 6) := by
  rcases (show j = 0 ∨ j = 1 ∨ j = 2 ∨ j = 3 ∨ j = 4 ∨ j = 5 ∨ j = 6 ∨ j = 7 ∨ j = 8 ∨ j = 9 by omega) with rfl | rfl | rfl | rfl | rfl | rfl | rfl | rfl | rfl | rfl <;> rfl
theorem sh_47 {j : Nat} (h : j < 10) : sh (47 + j) = (1, 6) := by
  rcases (show j = 0 ∨ j = 1 ∨ j = 2 ∨ j = 3 ∨ j = 4 ∨ j = 5 ∨ j = 6 ∨ j = 7 ∨ j = 8 ∨ j = 9 by omega) with rfl | rfl | rfl | rfl | rfl | rfl | rfl | rfl | rfl | rfl <;> rfl
theorem rf_8 : ∀ i, i < 8 → rfT 8 i = some (9 + i) := by decide
theorem rf_35 : ∀ i, i < 10 → rfT 35 i = some (36 + i) := by decide
theorem rf_46 : ∀ i, i < 10 → rfT 46 i = some (47 + i) := by decide
theorem nar_b {p : Prop} [Decidable p] : narrow .boolean (.int (bI p)) = .int (bI p) := by
  unfold bI
  by_cases h : p <;> simp only [h, if_true, if_false] <;> rfl
end
section
/-! THE LINKS: fields, constants and calls of the class and the model, a rule each (own class, pool number) -/
theorem tbl_ws {ws : List Cond} (h : ∀ w ∈ ws, w ∈ lw_tbl) (hg : ws.all goodWord = true) : ∀ w ∈ ws, w ∈ tblG := fun w hw => List.mem_filter.mpr ⟨h w hw, List.all_eq_true.mp hg w hw⟩
theorem igX0 : ∀ w ∈ wsX00, w ∈ tblG := tbl_ws iwX0 (by decide +kernel)
theorem igX1 : ∀ w ∈ wsX10, w ∈ tblG := tbl_ws iwX1 (by decide +kernel)
theorem igX2 : ∀ w ∈ wsX20, w ∈ tblG := tbl_ws iwX2 (by decide +kernel)
theorem igX3 : ∀ w ∈ wsX30, w ∈ tblG := tbl_ws iwX3 (by decide +kernel)
theorem igX4 : ∀ w ∈ wsX40, w ∈ tblG := tbl_ws iwX4 (by decide +kernel)
theorem igX5 : ∀ w ∈ wsX50, w ∈ tblG := tbl_ws iwX5 (by decide +kernel)
theorem igX6 : ∀ w ∈ wsX60, w ∈ tblG := tbl_ws iwX6 (by decide +kernel)
theorem igX7 : ∀ w ∈ wsX70, w ∈ tblG := tbl_ws iwX7 (by decide +kernel)
section LINKS
variable {E : En} {d : Nat} {own : String} {cc : ByteArray} {nL : Nat} {ret : Option FieldType} {rv : Option Value} {w1 : W0} {pc : Nat} {lv : List (Nat × Value)} {st : List Value} {w : W0}
theorem g_gf {C : String} {T : u_T} {N ci q k idx : Nat} {v : Value} (hd : decode cc pc = .ok (.getfield idx, 3)) (hin : ∀ x ∈ u_ws C T N, x ∈ tblG) (hq : q < nP) (hs : sh q = (0, ci)) (hcl : vwCl[ci]? = some (C, T, N)) (hN : clN ci = N) (hk : k < N) (hl : Cond.fieldLink own idx (T k).1 (T k).2.1 (T k).2.2.1 ∈ tblG) (hv : fV E w q k = v) (h : G E d own cc nL ret rv w1 (pc + 3) lv (v :: st) w) : G E d own cc nL ret rv w1 pc lv (.ref (E.1 q) :: st) w := by
  subst hv
  subst hN
  exact fun p l e s m args below meth c H locs ls CC S P F L => va_get (Ts := tblG) CC.1 CC.2.1 CC.2.2.2.2.2.2 hin CC.2.2.2.2.2.1 S.1 P q (wl_0 hq hs) hcl k hk (CC.2.2.2.2.2.2 _ hl) (fun _ h9 => h9) (by rw [List.getElem?_map, List.getElem?_range hk]; rfl) hd (h p l e s m args below meth c H locs ls CC S P F L)
theorem g_gfN {C host : String} {T : u_T} {N ci q k idx : Nat} {v : Value} (hd : decode cc pc = .ok (.getfield idx, 3)) (hin : ∀ x ∈ u_ws C T N, x ∈ tblG) (hq : q < nP) (hs : sh q = (0, ci)) (hcl : vwCl[ci]? = some (C, T, N)) (hN : clN ci = N) (hk : k < N) (hl : Cond.fieldLinkNest own idx (T k).1 (T k).2.1 (T k).2.2.1 host ∈ tblN) (hv : fV E w q k = v) (h : G E d own cc nL ret rv w1 (pc + 3) lv (v :: st) w) : G E d own cc nL ret rv w1 pc lv (.ref (E.1 q) :: st) w := by
  subst hv
  subst hN
  exact fun p l e s m args below meth c H locs ls CC S P F L => va_getN (Ts := tblG) CC.1 CC.2.1 CC.2.2.2.2.2.2 hin CC.2.2.2.2.2.1 S.1 P q (wl_0 hq hs) hcl k hk (Nw_use hl (S.2.2.2.1 _ hl)) (fun _ h9 => h9) (by rw [List.getElem?_map, List.getElem?_range hk]; rfl) hd (h p l e s m args below meth c H locs ls CC S P F L)
theorem g_pf {C : String} {T : u_T} {N ci q k idx : Nat} {v : Int32} (ty : FieldType) (ty0 : Nat → FieldType) (hd : decode cc pc = .ok (.putfield idx, 3)) (hin : ∀ x ∈ u_ws C T N, x ∈ tblG) (hty : ∀ k, k < N → parseFieldDescriptor (T k).2.2.1 = some (ty0 k)) (hnm : ∀ a, a < N → ∀ b, b < N → a ≠ b → (T a).2.1 ≠ (T b).2.1) (hq : q < nP) (hs : sh q = (0, ci)) (hcl : vwCl[ci]? = some (C, T, N)) (hN : clN ci = N) (hk : k < N) (hl : Cond.fieldLink own idx (T k).1 (T k).2.1 (T k).2.2.1 ∈ tblG) (hr : rfT q k = none) (hfin : (T k).2.2.2 = false) (hdd : parseFieldDescriptor (T k).2.2.1 = some ty) (hn : narrow ty (.int v) = .int v) (hfit : fits ty (.int v) = true) (h : G E d own cc nL ret rv w1 (pc + 3) lv st (setW w q k v)) : G E d own cc nL ret rv w1 pc lv (.int v :: .ref (E.1 q) :: st) w := by
  subst hN
  refine fun p l e s m args below meth c H locs ls CC S P F L => va_put (Ts := tblG) (ty := ty) CC.1 CC.2.1 CC.2.2.2.2.2.2 hin ty0 hty hnm CC.2.2.2.2.2.1 S.1 P (wl_D w S.2.2.2.2) F q (wl_0 hq hs) hcl k hk (CC.2.2.2.2.2.2 _ hl) (fun _ h9 => h9) hfin hdd hn hfit (by simpa using hk) hd (fun H1 locs1 P1 _ F1 => h p l e s m args below meth c H1 locs1 ls CC S ?_ F1 L)
  rw [wl_set hq (by rw [cE_0 hs, ← fs_set hr])] at P1
  exact P1
/-- behind a call -/
theorem g_call {p : Program} {l : Launch} {e : Env} {s : State} {m : MethodId} {args : Array Value} {below : List Frame} {meth : Method} {c : Code} {H : Heap} {locs : List Loc} {R : Room} {Q : State → Prop} {ls : Array Slot} {st0 rest : List Value} {rv2 : Option Value} {w2 : W0} {a : Array Value} (hr : va_Run p l e R s m args below meth c H locs 0 0 0 0 (F0 m pc ls st0) rest (QD E rv2 w2 a) (Aw E)) (hS : va_S (Aw E) s.heap H locs)
    (kk : ∀ (H1 : Heap) (locs1 : List Loc), va_P E.2.2.1 vwCl (wl E w2) H1 → va_S (Aw E) s.heap H1 locs1 → W p l e R s m args below meth c H1 locs1 0 0 Q (F0 m (pc + 3) ls (rv2.toList ++ rest))) : W p l e R s m args below meth c H locs 0 0 Q (F0 m pc ls st0) := by
  intro T hT X
  obtain ⟨v, st₀, t, T', L, h0, X', hL, e1, e2, ⟨⟨hv, hw⟩, hz, hk⟩, st⟩ := hr T hT X
  cases hv
  rw [h0] at hz hk
  obtain ⟨t2, a1, b1⟩ := kk T'.heap (locs ++ L) (by rw [e1]; exact hw.2)
    ⟨Nat.le_trans hS.1 (by rw [e1]; exact hz), fun q h1 h2 => by rw [e1, hk q (Nat.lt_of_lt_of_le h1 hS.1) h2]; exact hS.2.1 q h1 h2, fun q hq => by
      rcases List.mem_append.mp hq with h | h
      · exact hS.2.2 q h
      · exact hL q h⟩ T' rfl X'
  exact ⟨t2, st t2 a1, b1⟩
theorem rm_le {d d' nL' : Nat} (hdd : d' + 1 ≤ d) (hnl : nL' ≤ 21) : (rmD d').frames + 1 ≤ (rmD d).frames ∧ 8 + (nL' + 11) + (rmD d').locals ≤ (rmD d).locals := by
  show d' + 1 ≤ d ∧ 8 + (nL' + 11) + 40 * d' ≤ 40 * d
  omega
theorem g_cv {y : MethodName} {cc' : ByteArray} {nL' n q ci idx d' : Nat} {ret' : Option FieldType} {As rest : List Value} {cq : vw_C} {rv2 : Option Value} {w2 : W0} (hd : decode cc pc = .ok (.invokevirtual idx, 3)) (hl : Cond.methodLink own idx y ∈ tblG) (hi : Cond.instanceMethod y ∈ tblG) (hse : Cond.selects y.cls y y ∈ tblG) (hini : Cond.initialized y.cls ∈ tblG) (hc : Cond.code y cc' nL' ret' ∈ tblG) (hy : y.cls ≠ "java/lang/invoke/MethodHandle" ∧ y.cls ≠ "java/lang/invoke/VarHandle" ∧ (parseMethodDescriptor y.desc).map (fun d => d.parameters.length) = some n) (hq : q < nP) (hs : sh q = (0, ci)) (hcl : vwCl[ci]? = some cq) (hcn : cq.1 = y.cls) (hnl : nL' ≤ 21) (hn : As.length = n)
    (hM : Mt E d' y cc' nL' ret' (.ref (E.1 q) :: As) w rv2 w2) (hdd : d' + 1 ≤ d) (hr : (rest.map fun v => v.category).sum ≤ 8) (h : G E d own cc nL ret rv w1 (pc + 3) lv (rv2.toList ++ rest) w2) : G E d own cc nL ret rv w1 pc lv (As.reverse ++ .ref (E.1 q) :: rest) w := by
  intro p l e s m args below meth c H locs ls CC S P F L
  have ts := CC.2.2.2.2.2.2
  have hcw := va_recv S.1 P hcl (wl_0 hq hs)
  rw [hcn] at hcw
  refine g_call (rest := rest) (va_runV (C := y.cls) (n := n) (As := As) (b := E.1 q) (index := idx) (bytes := cc') (maxL := nL') (ret := ret') (Ts := tblG) (own := own) ⟨CC.1, CC.2.1, CC.2.2.2.2.1, CC.2.2.2.2.2.1, ts⟩ (hM l) ⟨callB_of n ts (tblG_self hc (fun _ h => h)) rfl rfl rfl (ts _ hini) (ts _ hl) hy (rm_le hdd hnl), ts _ hi, ts _ hse⟩ ⟨Pc_blind, hcw, fun U hU hW => ⟨rfl, by show Ws E U U.heap; rw [hU]; exact S.go F hW, by show va_P _ _ _ U.heap; rw [hU]; exact P⟩⟩ rfl hn L.1 rfl (lv_room hr) hd ⟨Nat.zero_le _, Nat.zero_le _⟩) F (fun H1 locs1 P1 F1 => h p l e s m args below meth c H1 locs1 ls CC S P1 F1 L)
theorem g_cvN {y : MethodName} {host : String} {cc' : ByteArray} {nL' n q ci idx d' : Nat} {ret' : Option FieldType} {As rest : List Value} {cq : vw_C} {rv2 : Option Value} {w2 : W0} (hd : decode cc pc = .ok (.invokevirtual idx, 3)) (hl : Cond.methodLinkNest own idx y host ∈ tblN) (hi : Cond.instanceMethod y ∈ tblG) (hse : Cond.selects y.cls y y ∈ tblG) (hini : Cond.initialized y.cls ∈ tblG) (hc : Cond.code y cc' nL' ret' ∈ tblG) (hy : y.cls ≠ "java/lang/invoke/MethodHandle" ∧ y.cls ≠ "java/lang/invoke/VarHandle" ∧ (parseMethodDescriptor y.desc).map (fun d => d.parameters.length) = some n) (hq : q < nP) (hs : sh q = (0, ci)) (hcl : vwCl[ci]? = some cq) (hcn : cq.1 = y.cls) (hnl : nL' ≤ 21) (hn : As.length = n)
    (hM : Mt E d' y cc' nL' ret' (.ref (E.1 q) :: As) w rv2 w2) (hdd : d' + 1 ≤ d) (hr : (rest.map fun v => v.category).sum ≤ 8) (h : G E d own cc nL ret rv w1 (pc + 3) lv (rv2.toList ++ rest) w2) : G E d own cc nL ret rv w1 pc lv (As.reverse ++ .ref (E.1 q) :: rest) w := by
  intro p l e s m args below meth c H locs ls CC S P F L
  have ts := CC.2.2.2.2.2.2
  have hcw := va_recv S.1 P hcl (wl_0 hq hs)
  rw [hcn] at hcw
  refine g_call (rest := rest) (va_runVN (C := y.cls) (host := host) (n := n) (As := As) (b := E.1 q) (index := idx) (bytes := cc') (maxL := nL') (ret := ret') (Ts := tblG) (own := own) ⟨CC.1, CC.2.1, CC.2.2.2.2.1, CC.2.2.2.2.2.1, ts⟩ (hM l) ⟨va_cnB n ts (tblG_self hc (fun _ h => h)) rfl rfl rfl (S.2.2.2.1 _ hl) (ts _ hini) hy (rm_le hdd hnl), ts _ hi, ts _ hse⟩ ⟨Pc_blind, hcw, fun U hU hW => ⟨rfl, by show Ws E U U.heap; rw [hU]; exact S.go F hW, by show va_P _ _ _ U.heap; rw [hU]; exact P⟩⟩ rfl hn L.1 rfl (lv_room hr) hd ⟨Nat.zero_le _, Nat.zero_le _⟩) F (fun H1 locs1 P1 F1 => h p l e s m args below meth c H1 locs1 ls CC S P1 F1 L)
theorem g_cs {y : MethodName} {cc' : ByteArray} {nL' n idx d' : Nat} {ret' : Option FieldType} {As rest : List Value} {rv2 : Option Value} {w2 : W0} (hd : decode cc pc = .ok (.invokestatic idx, 3)) (hl : Cond.methodLink own idx y ∈ tblG) (hst : Cond.static y ∈ tblG) (hini : Cond.initialized y.cls ∈ tblG) (hc : Cond.code y cc' nL' ret' ∈ tblG) (hy : y.cls ≠ "java/lang/invoke/MethodHandle" ∧ y.cls ≠ "java/lang/invoke/VarHandle" ∧ (parseMethodDescriptor y.desc).map (fun d => d.parameters.length) = some n) (hnl : nL' ≤ 21) (hn : As.length = n)
    (hM : Mt E d' y cc' nL' ret' As w rv2 w2) (hdd : d' + 1 ≤ d) (hr : (rest.map fun v => v.category).sum ≤ 8) (h : G E d own cc nL ret rv w1 (pc + 3) lv (rv2.toList ++ rest) w2) : G E d own cc nL ret rv w1 pc lv (As.reverse ++ rest) w := by
  intro p l e s m args below meth c H locs ls CC S P F L
  have ts := CC.2.2.2.2.2.2
  refine g_call (rest := rest) (va_runS (n := n) (As := As) (index := idx) (bytes := cc') (maxL := nL') (ret := ret') (Ts := tblG) (own := own) ⟨CC.1, CC.2.1, CC.2.2.2.2.1, CC.2.2.2.2.2.1, ts⟩ (hM l) ⟨callB_of n ts (tblG_self hc (fun _ h => h)) rfl rfl rfl (ts _ hini) (ts _ hl) hy (rm_le hdd hnl), ts _ hst⟩ ⟨Pc_blind, fun U hU hW => ⟨rfl, by show Ws E U U.heap; rw [hU]; exact S.go F hW, by show va_P _ _ _ U.heap; rw [hU]; exact P⟩⟩ rfl hn L.1 rfl (lv_room hr) hd ⟨Nat.zero_le _, Nat.zero_le _⟩) F (fun H1 locs1 P1 F1 => h p l e s m args below meth c H1 locs1 ls CC S P1 F1 L)
theorem g_csN {y : MethodName} {host : String} {cc' : ByteArray} {nL' n idx d' : Nat} {ret' : Option FieldType} {As rest : List Value} {rv2 : Option Value} {w2 : W0} (hd : decode cc pc = .ok (.invokestatic idx, 3)) (hl : Cond.methodLinkNest own idx y host ∈ tblN) (hst : Cond.static y ∈ tblG) (hini : Cond.initialized y.cls ∈ tblG) (hc : Cond.code y cc' nL' ret' ∈ tblG) (hy : y.cls ≠ "java/lang/invoke/MethodHandle" ∧ y.cls ≠ "java/lang/invoke/VarHandle" ∧ (parseMethodDescriptor y.desc).map (fun d => d.parameters.length) = some n) (hnl : nL' ≤ 21) (hn : As.length = n)
    (hM : Mt E d' y cc' nL' ret' As w rv2 w2) (hdd : d' + 1 ≤ d) (hr : (rest.map fun v => v.category).sum ≤ 8) (h : G E d own cc nL ret rv w1 (pc + 3) lv (rv2.toList ++ rest) w2) : G E d own cc nL ret rv w1 pc lv (As.reverse ++ rest) w := by
  intro p l e s m args below meth c H locs ls CC S P F L
  have ts := CC.2.2.2.2.2.2
  refine g_call (rest := rest) (va_runSN (host := host) (n := n) (As := As) (index := idx) (bytes := cc') (maxL := nL') (ret := ret') (Ts := tblG) (own := own) ⟨CC.1, CC.2.1, CC.2.2.2.2.1, CC.2.2.2.2.2.1, ts⟩ (hM l) ⟨va_cnB n ts (tblG_self hc (fun _ h => h)) rfl rfl rfl (S.2.2.2.1 _ hl) (ts _ hini) hy (rm_le hdd hnl), ts _ hst, trivial⟩ ⟨Pc_blind, fun U hU hW => ⟨rfl, by show Ws E U U.heap; rw [hU]; exact S.go F hW, by show va_P _ _ _ U.heap; rw [hU]; exact P⟩⟩ rfl hn L.1 rfl (lv_room hr) hd ⟨Nat.zero_le _, Nat.zero_le _⟩) F (fun H1 locs1 P1 F1 => h p l e s m args below meth c H1 locs1 ls CC S P1 F1 L)
end LINKS
section LINKED
variable {E : En} {d : Nat} {cc : ByteArray} {nL : Nat} {ret : Option FieldType} {rv : Option Value} {w1 : W0} {pc : Nat} {lv : List (Nat × Value)} {st : List Value} {w : W0}
theorem lk_X0_11 : Cond.fieldLink RX0 11 (TX0 0).1 (TX0 0).2.1 (TX0 0).2.2.1 ∈ tblG := tblG_in 209 (by decide +kernel) (by decide +kernel)
theorem gf_X0_11 (hd : decode cc pc = .ok (.getfield 11, 3)) (h : G E d RX0 cc nL ret rv w1 (pc + 3) lv (.ref (E.1 35) :: st) w) : G E d RX0 cc nL ret rv w1 pc lv (.ref (E.1 6) :: st) w := g_gf (C := RX0) (T := TX0) (N := 3) (ci := 0) (k := 0) hd igX0 (by decide) rfl rfl rfl (by decide) lk_X0_11 rfl h
theorem lk_X0_16 : Cond.fieldLink RX0 16 (TX0 1).1 (TX0 1).2.1 (TX0 1).2.2.1 ∈ tblG := tblG_in 210 (by decide +kernel) (by decide +kernel)
theorem gf_X0_16 (hd : decode cc pc = .ok (.getfield 16, 3)) (h : G E d RX0 cc nL ret rv w1 (pc + 3) lv (.ref (E.1 46) :: st) w) : G E d RX0 cc nL ret rv w1 pc lv (.ref (E.1 6) :: st) w := g_gf (C := RX0) (T := TX0) (N := 3) (ci := 0) (k := 1) hd igX0 (by decide) rfl rfl rfl (by decide) lk_X0_16 rfl h
theorem lk_X0_19 : Cond.methodLink RX0 19 yX0_reckonYear ∈ tblG := tblG_in 351 (by decide +kernel) (by decide +kernel)
theorem lc_X0_reckonYear : Cond.code yX0_reckonYear cX0_reckonYear 16 (some .int) ∈ tblG := tblG_in 354 (by decide +kernel) (by decide +kernel)
theorem li_X0 : Cond.initialized RX0 ∈ tblG := tblG_in 72 (by decide +kernel) (by decide +kernel)
theorem ln_X0_reckonYear : Cond.instanceMethod yX0_reckonYear ∈ tblG := tblG_in 353 (by decide +kernel) (by decide +kernel)
theorem lx_X0_reckonYear : Cond.selects RX0 yX0_reckonYear yX0_reckonYear ∈ tblG := tblG_in 19 (by decide +kernel) (by decide +kernel)
theorem ca_X0_19 {a1 a2 a3 a4 a5 : Value} {d' : Nat} {rest : List Value} {v2 : Value} {w2 : W0} (hd : decode cc pc = .ok (.invokevirtual 19, 3)) (hM : Mt E d' yX0_reckonYear cX0_reckonYear 16 (some .int) [.ref (E.1 6), a1, a2, a3, a4, a5] w (some v2) w2) (hdd : d' + 1 ≤ d) (hr : (rest.map fun v => v.category).sum ≤ 8) (h : G E d RX0 cc nL ret rv w1 (pc + 3) lv (v2 :: rest) w2) : G E d RX0 cc nL ret rv w1 pc lv (a5 :: a4 :: a3 :: a2 :: a1 :: .ref (E.1 6) :: rest) w :=
  g_cv (As := [a1, a2, a3, a4, a5]) (n := 5) (ci := 0) (rest := rest) hd lk_X0_19 ln_X0_reckonYear lx_X0_reckonYear li_X0 lc_X0_reckonYear (by decide +kernel) (by decide) rfl rfl rfl (by decide) rfl hM hdd hr h
theorem lk_X0_23 : Cond.methodLinkNest RX0 23 yX1_receivedBetween "WardCourt" ∈ tblN := tblN_in 355 (by decide +kernel) (by decide +kernel)
theorem lc_X1_receivedBetween : Cond.code yX1_receivedBetween cX1_receivedBetween 3 (some .int) ∈ tblG := tblG_in 358 (by decide +kernel) (by decide +kernel)
theorem li_X1 : Cond.initialized RX1 ∈ tblG := tblG_in 70 (by decide +kernel) (by decide +kernel)
theorem ln_X1_receivedBetween : Cond.instanceMethod yX1_receivedBetween ∈ tblG := tblG_in 357 (by decide +kernel) (by decide +kernel)
theorem lx_X1_receivedBetween : Cond.selects RX1 yX1_receivedBetween yX1_receivedBetween ∈ tblG := tblG_in 20 (by decide +kernel) (by decide +kernel)
theorem ca_X0_23 {a1 a2 : Value} {d' : Nat} {rest : List Value} {v2 : Value} {w2 : W0} (hd : decode cc pc = .ok (.invokevirtual 23, 3)) (hM : Mt E d' yX1_receivedBetween cX1_receivedBetween 3 (some .int) [.ref (E.1 4), a1, a2] w (some v2) w2) (hdd : d' + 1 ≤ d) (hr : (rest.map fun v => v.category).sum ≤ 8) (h : G E d RX0 cc nL ret rv w1 (pc + 3) lv (v2 :: rest) w2) : G E d RX0 cc nL ret rv w1 pc lv (a2 :: a1 :: .ref (E.1 4) :: rest) w :=
  g_cvN (As := [a1, a2]) (n := 2) (ci := 1) (rest := rest) hd lk_X0_23 ln_X1_receivedBetween lx_X1_receivedBetween li_X1 lc_X1_receivedBetween (by decide +kernel) (by decide) rfl rfl rfl (by decide) rfl hM hdd hr h
theorem lk_X0_29 : Cond.methodLinkNest RX0 29 yX1_paidBetween "WardCourt" ∈ tblN := tblN_in 364 (by decide +kernel) (by decide +kernel)
theorem lc_X1_paidBetween : Cond.code yX1_paidBetween cX1_paidBetween 3 (some .int) ∈ tblG := tblG_in 367 (by decide +kernel) (by decide +kernel)
theorem ln_X1_paidBetween : Cond.instanceMethod yX1_paidBetween ∈ tblG := tblG_in 366 (by decide +kernel) (by decide +kernel)
theorem lx_X1_paidBetween : Cond.selects RX1 yX1_paidBetween yX1_paidBetween ∈ tblG := tblG_in 22 (by decide +kernel) (by decide +kernel)
theorem ca_X0_29 {a1 a2 : Value} {d' : Nat} {rest : List Value} {v2 : Value} {w2 : W0} (hd : decode cc pc = .ok (.invokevirtual 29, 3)) (hM : Mt E d' yX1_paidBetween cX1_paidBetween 3 (some .int) [.ref (E.1 4), a1, a2] w (some v2) w2) (hdd : d' + 1 ≤ d) (hr : (rest.map fun v => v.category).sum ≤ 8) (h : G E d RX0 cc nL ret rv w1 (pc + 3) lv (v2 :: rest) w2) : G E d RX0 cc nL ret rv w1 pc lv (a2 :: a1 :: .ref (E.1 4) :: rest) w :=
  g_cvN (As := [a1, a2]) (n := 2) (ci := 1) (rest := rest) hd lk_X0_29 ln_X1_paidBetween lx_X1_paidBetween li_X1 lc_X1_paidBetween (by decide +kernel) (by decide) rfl rfl rfl (by decide) rfl hM hdd hr h
theorem lk_X0_32 : Cond.methodLinkNest RX0 32 yX5_giveShares "WardCourt" ∈ tblN := tblN_in 368 (by decide +kernel) (by decide +kernel)
theorem lc_X5_giveShares : Cond.code yX5_giveShares cX5_giveShares 7 (some .int) ∈ tblG := tblG_in 371 (by decide +kernel) (by decide +kernel)
theorem li_X5 : Cond.initialized RX5 ∈ tblG := tblG_in 68 (by decide +kernel) (by decide +kernel)
theorem ln_X5_giveShares : Cond.instanceMethod yX5_giveShares ∈ tblG := tblG_in 370 (by decide +kernel) (by decide +kernel)
theorem lx_X5_giveShares : Cond.selects RX5 yX5_giveShares yX5_giveShares ∈ tblG := tblG_in 23 (by decide +kernel) (by decide +kernel)
theorem ca_X0_32 {a1 a2 : Value} {d' : Nat} {rest : List Value} {v2 : Value} {w2 : W0} (hd : decode cc pc = .ok (.invokevirtual 32, 3)) (hM : Mt E d' yX5_giveShares cX5_giveShares 7 (some .int) [.ref (E.1 2), a1, a2] w (some v2) w2) (hdd : d' + 1 ≤ d) (hr : (rest.map fun v => v.category).sum ≤ 8) (h : G E d RX0 cc nL ret rv w1 (pc + 3) lv (v2 :: rest) w2) : G E d RX0 cc nL ret rv w1 pc lv (a2 :: a1 :: .ref (E.1 2) :: rest) w :=
  g_cvN (As := [a1, a2]) (n := 2) (ci := 5) (rest := rest) hd lk_X0_32 ln_X5_giveShares lx_X5_giveShares li_X5 lc_X5_giveShares (by decide +kernel) (by decide) rfl rfl rfl (by decide) rfl hM hdd hr h
theorem lk_X0_37 : Cond.methodLink RX0 37 yX0_turnAfter ∈ tblG := tblG_in 376 (by decide +kernel) (by decide +kernel)
theorem lc_X0_turnAfter : Cond.code yX0_turnAfter cX0_turnAfter 6 (some .int) ∈ tblG := tblG_in 378 (by decide +kernel) (by decide +kernel)
theorem ls_X0_turnAfter : Cond.static yX0_turnAfter ∈ tblG := tblG_in 377 (by decide +kernel) (by decide +kernel)
theorem ca_X0_37 {a1 a2 a3 a4 a5 : Value} {d' : Nat} {rest : List Value} {v2 : Value} {w2 : W0} (hd : decode cc pc = .ok (.invokestatic 37, 3)) (hM : Mt E d' yX0_turnAfter cX0_turnAfter 6 (some .int) [a1, a2, a3, a4, a5] w (some v2) w2) (hdd : d' + 1 ≤ d) (hr : (rest.map fun v => v.category).sum ≤ 8) (h : G E d RX0 cc nL ret rv w1 (pc + 3) lv (v2 :: rest) w2) : G E d RX0 cc nL ret rv w1 pc lv (a5 :: a4 :: a3 :: a2 :: a1 :: rest) w :=
  g_cs (As := [a1, a2, a3, a4, a5]) (n := 5) (rest := rest) hd lk_X0_37 ls_X0_turnAfter li_X0 lc_X0_turnAfter (by decide +kernel) (by decide) rfl hM hdd hr h
theorem lk_X0_40 : Cond.methodLink RX0 40 yX0_countedADay ∈ tblG := tblG_in 396 (by decide +kernel) (by decide +kernel)
theorem lc_X0_countedADay : Cond.code yX0_countedADay cX0_countedADay 4 (some .long) ∈ tblG := tblG_in 398 (by decide +kernel) (by decide +kernel)
theorem ls_X0_countedADay : Cond.static yX0_countedADay ∈ tblG := tblG_in 397 (by decide +kernel) (by decide +kernel)
theorem ca_X0_40 {a1 a2 a3 : Value} {d' : Nat} {rest : List Value} {v2 : Value} {w2 : W0} (hd : decode cc pc = .ok (.invokestatic 40, 3)) (hM : Mt E d' yX0_countedADay cX0_countedADay 4 (some .long) [a1, a2, a3] w (some v2) w2) (hdd : d' + 1 ≤ d) (hr : (rest.map fun v => v.category).sum ≤ 8) (h : G E d RX0 cc nL ret rv w1 (pc + 3) lv (v2 :: rest) w2) : G E d RX0 cc nL ret rv w1 pc lv (a3 :: a2 :: a1 :: rest) w :=
  g_cs (As := [a1, a2, a3]) (n := 3) (rest := rest) hd lk_X0_40 ls_X0_countedADay li_X0 lc_X0_countedADay (by decide +kernel) (by decide) rfl hM hdd hr h
theorem lk_X0_44 : Cond.constantLong RX0 44 (36000 : Int64) ∈ tblG := tblG_in 400 (by decide +kernel) (by decide +kernel)
theorem lk_X0_46 : Cond.methodLinkNest RX0 46 yX6_isYear "WardCourt" ∈ tblN := tblN_in 401 (by decide +kernel) (by decide +kernel)
theorem lc_X6_isYear : Cond.code yX6_isYear cX6_isYear 1 (some .boolean) ∈ tblG := tblG_in 403 (by decide +kernel) (by decide +kernel)
theorem li_X6 : Cond.initialized RX6 ∈ tblG := tblG_in 66 (by decide +kernel) (by decide +kernel)
theorem ls_X6_isYear : Cond.static yX6_isYear ∈ tblG := tblG_in 402 (by decide +kernel) (by decide +kernel)
theorem ca_X0_46 {a1 : Value} {d' : Nat} {rest : List Value} {v2 : Value} {w2 : W0} (hd : decode cc pc = .ok (.invokestatic 46, 3)) (hM : Mt E d' yX6_isYear cX6_isYear 1 (some .boolean) [a1] w (some v2) w2) (hdd : d' + 1 ≤ d) (hr : (rest.map fun v => v.category).sum ≤ 8) (h : G E d RX0 cc nL ret rv w1 (pc + 3) lv (v2 :: rest) w2) : G E d RX0 cc nL ret rv w1 pc lv (a1 :: rest) w :=
  g_csN (As := [a1]) (n := 1) (rest := rest) hd lk_X0_46 ls_X6_isYear li_X6 lc_X6_isYear (by decide +kernel) (by decide) rfl hM hdd hr h
theorem lk_X0_50 : Cond.methodLinkNest RX0 50 yX2_turnAfter "WardCourt" ∈ tblN := tblN_in 379 (by decide +kernel) (by decide +kernel)
theorem lc_X2_turnAfter : Cond.code yX2_turnAfter cX2_turnAfter 3 (some .int) ∈ tblG := tblG_in 382 (by decide +kernel) (by decide +kernel)
theorem li_X2 : Cond.initialized RX2 ∈ tblG := tblG_in 67 (by decide +kernel) (by decide +kernel)
theorem ln_X2_turnAfter : Cond.instanceMethod yX2_turnAfter ∈ tblG := tblG_in 381 (by decide +kernel) (by decide +kernel)
theorem lx_X2_turnAfter : Cond.selects RX2 yX2_turnAfter yX2_turnAfter ∈ tblG := tblG_in 25 (by decide +kernel) (by decide +kernel)
theorem ca_X0_50 {a1 a2 : Value} {d' : Nat} {rest : List Value} {v2 : Value} {w2 : W0} (hd : decode cc pc = .ok (.invokevirtual 50, 3)) (hM : Mt E d' yX2_turnAfter cX2_turnAfter 3 (some .int) [.ref (E.1 1), a1, a2] w (some v2) w2) (hdd : d' + 1 ≤ d) (hr : (rest.map fun v => v.category).sum ≤ 8) (h : G E d RX0 cc nL ret rv w1 (pc + 3) lv (v2 :: rest) w2) : G E d RX0 cc nL ret rv w1 pc lv (a2 :: a1 :: .ref (E.1 1) :: rest) w :=
  g_cvN (As := [a1, a2]) (n := 2) (ci := 2) (rest := rest) hd lk_X0_50 ln_X2_turnAfter lx_X2_turnAfter li_X2 lc_X2_turnAfter (by decide +kernel) (by decide) rfl rfl rfl (by decide) rfl hM hdd hr h
theorem lk_X0_54 : Cond.methodLinkNest RX0 54 yX5_turnAfter "WardCourt" ∈ tblN := tblN_in 386 (by decide +kernel) (by decide +kernel)
theorem lc_X5_turnAfter : Cond.code yX5_turnAfter cX5_turnAfter 3 (some .int) ∈ tblG := tblG_in 389 (by decide +kernel) (by decide +kernel)
theorem ln_X5_turnAfter : Cond.instanceMethod yX5_turnAfter ∈ tblG := tblG_in 388 (by decide +kernel) (by decide +kernel)
theorem lx_X5_turnAfter : Cond.selects RX5 yX5_turnAfter yX5_turnAfter ∈ tblG := tblG_in 26 (by decide +kernel) (by decide +kernel)
theorem ca_X0_54 {a1 a2 : Value} {d' : Nat} {rest : List Value} {v2 : Value} {w2 : W0} (hd : decode cc pc = .ok (.invokevirtual 54, 3)) (hM : Mt E d' yX5_turnAfter cX5_turnAfter 3 (some .int) [.ref (E.1 2), a1, a2] w (some v2) w2) (hdd : d' + 1 ≤ d) (hr : (rest.map fun v => v.category).sum ≤ 8) (h : G E d RX0 cc nL ret rv w1 (pc + 3) lv (v2 :: rest) w2) : G E d RX0 cc nL ret rv w1 pc lv (a2 :: a1 :: .ref (E.1 2) :: rest) w :=
  g_cvN (As := [a1, a2]) (n := 2) (ci := 5) (rest := rest) hd lk_X0_54 ln_X5_turnAfter lx_X5_turnAfter li_X5 lc_X5_turnAfter (by decide +kernel) (by decide) rfl rfl rfl (by decide) rfl hM hdd hr h
theorem lk_X0_55 : Cond.methodLinkNest RX0 55 yX1_turnAfter "WardCourt" ∈ tblN := tblN_in 391 (by decide +kernel) (by decide +kernel)
theorem lc_X1_turnAfter : Cond.code yX1_turnAfter cX1_turnAfter 3 (some .int) ∈ tblG := tblG_in 394 (by decide +kernel) (by decide +kernel)
theorem ln_X1_turnAfter : Cond.instanceMethod yX1_turnAfter ∈ tblG := tblG_in 393 (by decide +kernel) (by decide +kernel)
theorem lx_X1_turnAfter : Cond.selects RX1 yX1_turnAfter yX1_turnAfter ∈ tblG := tblG_in 27 (by decide +kernel) (by decide +kernel)
theorem ca_X0_55 {a1 a2 : Value} {d' : Nat} {rest : List Value} {v2 : Value} {w2 : W0} (hd : decode cc pc = .ok (.invokevirtual 55, 3)) (hM : Mt E d' yX1_turnAfter cX1_turnAfter 3 (some .int) [.ref (E.1 4), a1, a2] w (some v2) w2) (hdd : d' + 1 ≤ d) (hr : (rest.map fun v => v.category).sum ≤ 8) (h : G E d RX0 cc nL ret rv w1 (pc + 3) lv (v2 :: rest) w2) : G E d RX0 cc nL ret rv w1 pc lv (a2 :: a1 :: .ref (E.1 4) :: rest) w :=
  g_cvN (As := [a1, a2]) (n := 2) (ci := 1) (rest := rest) hd lk_X0_55 ln_X1_turnAfter lx_X1_turnAfter li_X1 lc_X1_turnAfter (by decide +kernel) (by decide) rfl rfl rfl (by decide) rfl hM hdd hr h
theorem lk_X0_56 : Cond.methodLinkNest RX0 56 yX2_inForce "WardCourt" ∈ tblN := tblN_in 399 (by decide +kernel) (by decide +kernel)
theorem lc_X2_inForce : Cond.code yX2_inForce cX2_inForce 5 (some .int) ∈ tblG := tblG_in 263 (by decide +kernel) (by decide +kernel)
theorem ln_X2_inForce : Cond.instanceMethod yX2_inForce ∈ tblG := tblG_in 262 (by decide +kernel) (by decide +kernel)
theorem lx_X2_inForce : Cond.selects RX2 yX2_inForce yX2_inForce ∈ tblG := tblG_in 1 (by decide +kernel) (by decide +kernel)
theorem ca_X0_56 {a1 a2 : Value} {d' : Nat} {rest : List Value} {v2 : Value} {w2 : W0} (hd : decode cc pc = .ok (.invokevirtual 56, 3)) (hM : Mt E d' yX2_inForce cX2_inForce 5 (some .int) [.ref (E.1 1), a1, a2] w (some v2) w2) (hdd : d' + 1 ≤ d) (hr : (rest.map fun v => v.category).sum ≤ 8) (h : G E d RX0 cc nL ret rv w1 (pc + 3) lv (v2 :: rest) w2) : G E d RX0 cc nL ret rv w1 pc lv (a2 :: a1 :: .ref (E.1 1) :: rest) w :=
  g_cvN (As := [a1, a2]) (n := 2) (ci := 2) (rest := rest) hd lk_X0_56 ln_X2_inForce lx_X2_inForce li_X2 lc_X2_inForce (by decide +kernel) (by decide) rfl rfl rfl (by decide) rfl hM hdd hr h
theorem lk_X0_59 : Cond.methodLink RX0 59 yX0_entry ∈ tblG := tblG_in 536 (by decide +kernel) (by decide +kernel)
theorem lc_X0_entry : Cond.code yX0_entry cX0_entry 3 (some .int) ∈ tblG := tblG_in 539 (by decide +kernel) (by decide +kernel)
theorem ln_X0_entry : Cond.instanceMethod yX0_entry ∈ tblG := tblG_in 538 (by decide +kernel) (by decide +kernel)
theorem lx_X0_entry : Cond.selects RX0 yX0_entry yX0_entry ∈ tblG := tblG_in 45 (by decide +kernel) (by decide +kernel)
theorem ca_X0_59 {a1 a2 : Value} {d' : Nat} {rest : List Value} {v2 : Value} {w2 : W0} (hd : decode cc pc = .ok (.invokevirtual 59, 3)) (hM : Mt E d' yX0_entry cX0_entry 3 (some .int) [.ref (E.1 6), a1, a2] w (some v2) w2) (hdd : d' + 1 ≤ d) (hr : (rest.map fun v => v.category).sum ≤ 8) (h : G E d RX0 cc nL ret rv w1 (pc + 3) lv (v2 :: rest) w2) : G E d RX0 cc nL ret rv w1 pc lv (a2 :: a1 :: .ref (E.1 6) :: rest) w :=
  g_cv (As := [a1, a2]) (n := 2) (ci := 0) (rest := rest) hd lk_X0_59 ln_X0_entry lx_X0_entry li_X0 lc_X0_entry (by decide +kernel) (by decide) rfl rfl rfl (by decide) rfl hM hdd hr h
theorem lk_X0_62 : Cond.methodLinkNest RX0 62 yX5_givenBetween "WardCourt" ∈ tblN := tblN_in 541 (by decide +kernel) (by decide +kernel)
theorem lc_X5_givenBetween : Cond.code yX5_givenBetween cX5_givenBetween 5 (some .int) ∈ tblG := tblG_in 544 (by decide +kernel) (by decide +kernel)
theorem ln_X5_givenBetween : Cond.instanceMethod yX5_givenBetween ∈ tblG := tblG_in 543 (by decide +kernel) (by decide +kernel)
theorem lx_X5_givenBetween : Cond.selects RX5 yX5_givenBetween yX5_givenBetween ∈ tblG := tblG_in 46 (by decide +kernel) (by decide +kernel)
theorem ca_X0_62 {a1 a2 : Value} {d' : Nat} {rest : List Value} {v2 : Value} {w2 : W0} (hd : decode cc pc = .ok (.invokevirtual 62, 3)) (hM : Mt E d' yX5_givenBetween cX5_givenBetween 5 (some .int) [.ref (E.1 2), a1, a2] w (some v2) w2) (hdd : d' + 1 ≤ d) (hr : (rest.map fun v => v.category).sum ≤ 8) (h : G E d RX0 cc nL ret rv w1 (pc + 3) lv (v2 :: rest) w2) : G E d RX0 cc nL ret rv w1 pc lv (a2 :: a1 :: .ref (E.1 2) :: rest) w :=
  g_cvN (As := [a1, a2]) (n := 2) (ci := 5) (rest := rest) hd lk_X0_62 ln_X5_givenBetween lx_X5_givenBetween li_X5 lc_X5_givenBetween (by decide +kernel) (by decide) rfl rfl rfl (by decide) rfl hM hdd hr h
theorem lk_X0_65 : Cond.methodLinkNest RX0 65 yX6_within "WardCourt" ∈ tblN := tblN_in 540 (by decide +kernel) (by decide +kernel)
theorem lc_X6_within : Cond.code yX6_within cX6_within 3 (some .boolean) ∈ tblG := tblG_in 251 (by decide +kernel) (by decide +kernel)
theorem ls_X6_within : Cond.static yX6_within ∈ tblG := tblG_in 250 (by decide +kernel) (by decide +kernel)
theorem ca_X0_65 {a1 a2 a3 : Value} {d' : Nat} {rest : List Value} {v2 : Value} {w2 : W0} (hd : decode cc pc = .ok (.invokestatic 65, 3)) (hM : Mt E d' yX6_within cX6_within 3 (some .boolean) [a1, a2, a3] w (some v2) w2) (hdd : d' + 1 ≤ d) (hr : (rest.map fun v => v.category).sum ≤ 8) (h : G E d RX0 cc nL ret rv w1 (pc + 3) lv (v2 :: rest) w2) : G E d RX0 cc nL ret rv w1 pc lv (a3 :: a2 :: a1 :: rest) w :=
  g_csN (As := [a1, a2, a3]) (n := 3) (rest := rest) hd lk_X0_65 ls_X6_within li_X6 lc_X6_within (by decide +kernel) (by decide) rfl hM hdd hr h
theorem lk_X0_69 : Cond.fieldLink RX0 69 (TX0 2).1 (TX0 2).2.1 (TX0 2).2.2.1 ∈ tblG := tblG_in 211 (by decide +kernel) (by decide +kernel)
theorem gf_X0_69 (hd : decode cc pc = .ok (.getfield 69, 3)) (h : G E d RX0 cc nL ret rv w1 (pc + 3) lv (.int (w 6 2) :: st) w) : G E d RX0 cc nL ret rv w1 pc lv (.ref (E.1 6) :: st) w := g_gf (C := RX0) (T := TX0) (N := 3) (ci := 0) (k := 2) hd igX0 (by decide) rfl rfl rfl (by decide) lk_X0_69 rfl h
theorem pf_X0_69 {v : Int32} (hd : decode cc pc = .ok (.putfield 69, 3)) (h : G E d RX0 cc nL ret rv w1 (pc + 3) lv st (setW w 6 2 v)) : G E d RX0 cc nL ret rv w1 pc lv (.int v :: .ref (E.1 6) :: st) w := g_pf (C := RX0) (T := TX0) (N := 3) (ci := 0) (k := 2) .int tyX0 hd igX0 tyX0_ok nmX0 (by decide) rfl rfl rfl (by decide) lk_X0_69 rfl rfl (by decide +kernel) rfl rfl h
theorem lk_X0_73 : Cond.methodLink RX0 73 yX0_wasKept ∈ tblG := tblG_in 581 (by decide +kernel) (by decide +kernel)
theorem lc_X0_wasKept : Cond.code yX0_wasKept cX0_wasKept 2 (some .boolean) ∈ tblG := tblG_in 567 (by decide +kernel) (by decide +kernel)
theorem ln_X0_wasKept : Cond.instanceMethod yX0_wasKept ∈ tblG := tblG_in 566 (by decide +kernel) (by decide +kernel)
theorem lx_X0_wasKept : Cond.selects RX0 yX0_wasKept yX0_wasKept ∈ tblG := tblG_in 48 (by decide +kernel) (by decide +kernel)
theorem ca_X0_73 {a1 : Value} {d' : Nat} {rest : List Value} {v2 : Value} {w2 : W0} (hd : decode cc pc = .ok (.invokevirtual 73, 3)) (hM : Mt E d' yX0_wasKept cX0_wasKept 2 (some .boolean) [.ref (E.1 6), a1] w (some v2) w2) (hdd : d' + 1 ≤ d) (hr : (rest.map fun v => v.category).sum ≤ 8) (h : G E d RX0 cc nL ret rv w1 (pc + 3) lv (v2 :: rest) w2) : G E d RX0 cc nL ret rv w1 pc lv (a1 :: .ref (E.1 6) :: rest) w :=
  g_cv (As := [a1]) (n := 1) (ci := 0) (rest := rest) hd lk_X0_73 ln_X0_wasKept lx_X0_wasKept li_X0 lc_X0_wasKept (by decide +kernel) (by decide) rfl rfl rfl (by decide) rfl hM hdd hr h
theorem lk_X0_76 : Cond.methodLink RX0 76 yX0_hasChanged ∈ tblG := tblG_in 582 (by decide +kernel) (by decide +kernel)
theorem lc_X0_hasChanged : Cond.code yX0_hasChanged cX0_hasChanged 3 (some .boolean) ∈ tblG := tblG_in 585 (by decide +kernel) (by decide +kernel)
theorem ln_X0_hasChanged : Cond.instanceMethod yX0_hasChanged ∈ tblG := tblG_in 584 (by decide +kernel) (by decide +kernel)
theorem lx_X0_hasChanged : Cond.selects RX0 yX0_hasChanged yX0_hasChanged ∈ tblG := tblG_in 51 (by decide +kernel) (by decide +kernel)
theorem ca_X0_76 {a1 : Value} {d' : Nat} {rest : List Value} {v2 : Value} {w2 : W0} (hd : decode cc pc = .ok (.invokevirtual 76, 3)) (hM : Mt E d' yX0_hasChanged cX0_hasChanged 3 (some .boolean) [.ref (E.1 6), a1] w (some v2) w2) (hdd : d' + 1 ≤ d) (hr : (rest.map fun v => v.category).sum ≤ 8) (h : G E d RX0 cc nL ret rv w1 (pc + 3) lv (v2 :: rest) w2) : G E d RX0 cc nL ret rv w1 pc lv (a1 :: .ref (E.1 6) :: rest) w :=
  g_cv (As := [a1]) (n := 1) (ci := 0) (rest := rest) hd lk_X0_76 ln_X0_hasChanged lx_X0_hasChanged li_X0 lc_X0_hasChanged (by decide +kernel) (by decide) rfl rfl rfl (by decide) rfl hM hdd hr h
theorem lk_X0_79 : Cond.methodLink RX0 79 yX0_keptEntry ∈ tblG := tblG_in 586 (by decide +kernel) (by decide +kernel)
theorem lc_X0_keptEntry : Cond.code yX0_keptEntry cX0_keptEntry 3 (some .int) ∈ tblG := tblG_in 572 (by decide +kernel) (by decide +kernel)
theorem ln_X0_keptEntry : Cond.instanceMethod yX0_keptEntry ∈ tblG := tblG_in 571 (by decide +kernel) (by decide +kernel)
theorem lx_X0_keptEntry : Cond.selects RX0 yX0_keptEntry yX0_keptEntry ∈ tblG := tblG_in 49 (by decide +kernel) (by decide +kernel)
theorem ca_X0_79 {a1 a2 : Value} {d' : Nat} {rest : List Value} {v2 : Value} {w2 : W0} (hd : decode cc pc = .ok (.invokevirtual 79, 3)) (hM : Mt E d' yX0_keptEntry cX0_keptEntry 3 (some .int) [.ref (E.1 6), a1, a2] w (some v2) w2) (hdd : d' + 1 ≤ d) (hr : (rest.map fun v => v.category).sum ≤ 8) (h : G E d RX0 cc nL ret rv w1 (pc + 3) lv (v2 :: rest) w2) : G E d RX0 cc nL ret rv w1 pc lv (a2 :: a1 :: .ref (E.1 6) :: rest) w :=
  g_cv (As := [a1, a2]) (n := 2) (ci := 0) (rest := rest) hd lk_X0_79 ln_X0_keptEntry lx_X0_keptEntry li_X0 lc_X0_keptEntry (by decide +kernel) (by decide) rfl rfl rfl (by decide) rfl hM hdd hr h
theorem lk_X1_9 : Cond.fieldLink RX1 9 (TX1 0).1 (TX1 0).2.1 (TX1 0).2.2.1 ∈ tblG := tblG_in 152 (by decide +kernel) (by decide +kernel)
theorem gf_X1_9 (hd : decode cc pc = .ok (.getfield 9, 3)) (h : G E d RX1 cc nL ret rv w1 (pc + 3) lv (.ref (E.1 24) :: st) w) : G E d RX1 cc nL ret rv w1 pc lv (.ref (E.1 4) :: st) w := g_gf (C := RX1) (T := TX1) (N := 8) (ci := 1) (k := 0) hd igX1 (by decide) rfl rfl rfl (by decide) lk_X1_9 rfl h
theorem lk_X1_15 : Cond.fieldLink RX1 15 (TX1 1).1 (TX1 1).2.1 (TX1 1).2.2.1 ∈ tblG := tblG_in 153 (by decide +kernel) (by decide +kernel)
theorem gf_X1_15 (hd : decode cc pc = .ok (.getfield 15, 3)) (h : G E d RX1 cc nL ret rv w1 (pc + 3) lv (.ref (E.1 25) :: st) w) : G E d RX1 cc nL ret rv w1 pc lv (.ref (E.1 4) :: st) w := g_gf (C := RX1) (T := TX1) (N := 8) (ci := 1) (k := 1) hd igX1 (by decide) rfl rfl rfl (by decide) lk_X1_15 rfl h
theorem lk_X1_18 : Cond.fieldLink RX1 18 (TX1 2).1 (TX1 2).2.1 (TX1 2).2.2.1 ∈ tblG := tblG_in 154 (by decide +kernel) (by decide +kernel)
theorem gf_X1_18 (hd : decode cc pc = .ok (.getfield 18, 3)) (h : G E d RX1 cc nL ret rv w1 (pc + 3) lv (.ref (E.1 26) :: st) w) : G E d RX1 cc nL ret rv w1 pc lv (.ref (E.1 4) :: st) w := g_gf (C := RX1) (T := TX1) (N := 8) (ci := 1) (k := 2) hd igX1 (by decide) rfl rfl rfl (by decide) lk_X1_18 rfl h
theorem lk_X1_22 : Cond.fieldLink RX1 22 (TX1 3).1 (TX1 3).2.1 (TX1 3).2.2.1 ∈ tblG := tblG_in 155 (by decide +kernel) (by decide +kernel)
theorem gf_X1_22 (hd : decode cc pc = .ok (.getfield 22, 3)) (h : G E d RX1 cc nL ret rv w1 (pc + 3) lv (.ref (E.1 27) :: st) w) : G E d RX1 cc nL ret rv w1 pc lv (.ref (E.1 4) :: st) w := g_gf (C := RX1) (T := TX1) (N := 8) (ci := 1) (k := 3) hd igX1 (by decide) rfl rfl rfl (by decide) lk_X1_22 rfl h
theorem lk_X1_25 : Cond.fieldLink RX1 25 (TX1 4).1 (TX1 4).2.1 (TX1 4).2.2.1 ∈ tblG := tblG_in 156 (by decide +kernel) (by decide +kernel)
theorem gf_X1_25 (hd : decode cc pc = .ok (.getfield 25, 3)) (h : G E d RX1 cc nL ret rv w1 (pc + 3) lv (.ref (E.1 28) :: st) w) : G E d RX1 cc nL ret rv w1 pc lv (.ref (E.1 4) :: st) w := g_gf (C := RX1) (T := TX1) (N := 8) (ci := 1) (k := 4) hd igX1 (by decide) rfl rfl rfl (by decide) lk_X1_25 rfl h
theorem lk_X1_28 : Cond.fieldLink RX1 28 (TX1 5).1 (TX1 5).2.1 (TX1 5).2.2.1 ∈ tblG := tblG_in 157 (by decide +kernel) (by decide +kernel)
theorem gf_X1_28 (hd : decode cc pc = .ok (.getfield 28, 3)) (h : G E d RX1 cc nL ret rv w1 (pc + 3) lv (.ref (E.1 29) :: st) w) : G E d RX1 cc nL ret rv w1 pc lv (.ref (E.1 4) :: st) w := g_gf (C := RX1) (T := TX1) (N := 8) (ci := 1) (k := 5) hd igX1 (by decide) rfl rfl rfl (by decide) lk_X1_28 rfl h
theorem lk_X1_31 : Cond.fieldLink RX1 31 (TX1 6).1 (TX1 6).2.1 (TX1 6).2.2.1 ∈ tblG := tblG_in 158 (by decide +kernel) (by decide +kernel)
theorem gf_X1_31 (hd : decode cc pc = .ok (.getfield 31, 3)) (h : G E d RX1 cc nL ret rv w1 (pc + 3) lv (.ref (E.1 30) :: st) w) : G E d RX1 cc nL ret rv w1 pc lv (.ref (E.1 4) :: st) w := g_gf (C := RX1) (T := TX1) (N := 8) (ci := 1) (k := 6) hd igX1 (by decide) rfl rfl rfl (by decide) lk_X1_31 rfl h
theorem lk_X1_34 : Cond.fieldLink RX1 34 (TX1 7).1 (TX1 7).2.1 (TX1 7).2.2.1 ∈ tblG := tblG_in 159 (by decide +kernel) (by decide +kernel)
theorem gf_X1_34 (hd : decode cc pc = .ok (.getfield 34, 3)) (h : G E d RX1 cc nL ret rv w1 (pc + 3) lv (.int (w 4 7) :: st) w) : G E d RX1 cc nL ret rv w1 pc lv (.ref (E.1 4) :: st) w := g_gf (C := RX1) (T := TX1) (N := 8) (ci := 1) (k := 7) hd igX1 (by decide) rfl rfl rfl (by decide) lk_X1_34 rfl h
theorem pf_X1_34 {v : Int32} (hd : decode cc pc = .ok (.putfield 34, 3)) (h : G E d RX1 cc nL ret rv w1 (pc + 3) lv st (setW w 4 7 v)) : G E d RX1 cc nL ret rv w1 pc lv (.int v :: .ref (E.1 4) :: st) w := g_pf (C := RX1) (T := TX1) (N := 8) (ci := 1) (k := 7) .int tyX1 hd igX1 tyX1_ok nmX1 (by decide) rfl rfl rfl (by decide) lk_X1_34 rfl rfl (by decide +kernel) rfl rfl h
theorem lk_X1_38 : Cond.methodLink RX1 38 yX1_has ∈ tblG := tblG_in 330 (by decide +kernel) (by decide +kernel)
theorem lc_X1_has : Cond.code yX1_has cX1_has 2 (some .boolean) ∈ tblG := tblG_in 333 (by decide +kernel) (by decide +kernel)
theorem ln_X1_has : Cond.instanceMethod yX1_has ∈ tblG := tblG_in 332 (by decide +kernel) (by decide +kernel)
theorem lx_X1_has : Cond.selects RX1 yX1_has yX1_has ∈ tblG := tblG_in 14 (by decide +kernel) (by decide +kernel)
theorem ca_X1_38 {a1 : Value} {d' : Nat} {rest : List Value} {v2 : Value} {w2 : W0} (hd : decode cc pc = .ok (.invokevirtual 38, 3)) (hM : Mt E d' yX1_has cX1_has 2 (some .boolean) [.ref (E.1 4), a1] w (some v2) w2) (hdd : d' + 1 ≤ d) (hr : (rest.map fun v => v.category).sum ≤ 8) (h : G E d RX1 cc nL ret rv w1 (pc + 3) lv (v2 :: rest) w2) : G E d RX1 cc nL ret rv w1 pc lv (a1 :: .ref (E.1 4) :: rest) w :=
  g_cv (As := [a1]) (n := 1) (ci := 1) (rest := rest) hd lk_X1_38 ln_X1_has lx_X1_has li_X1 lc_X1_has (by decide +kernel) (by decide) rfl rfl rfl (by decide) rfl hM hdd hr h
theorem lk_X1_42 : Cond.methodLinkNest RX1 42 yX2_inForce "WardCourt" ∈ tblN := tblN_in 334 (by decide +kernel) (by decide +kernel)
theorem ca_X1_42 {a1 a2 : Value} {d' : Nat} {rest : List Value} {v2 : Value} {w2 : W0} (hd : decode cc pc = .ok (.invokevirtual 42, 3)) (hM : Mt E d' yX2_inForce cX2_inForce 5 (some .int) [.ref (E.1 1), a1, a2] w (some v2) w2) (hdd : d' + 1 ≤ d) (hr : (rest.map fun v => v.category).sum ≤ 8) (h : G E d RX1 cc nL ret rv w1 (pc + 3) lv (v2 :: rest) w2) : G E d RX1 cc nL ret rv w1 pc lv (a2 :: a1 :: .ref (E.1 1) :: rest) w :=
  g_cvN (As := [a1, a2]) (n := 2) (ci := 2) (rest := rest) hd lk_X1_42 ln_X2_inForce lx_X2_inForce li_X2 lc_X2_inForce (by decide +kernel) (by decide) rfl rfl rfl (by decide) rfl hM hdd hr h
theorem lk_X1_48 : Cond.methodLinkNest RX1 48 yX4_barsOn "WardCourt" ∈ tblN := tblN_in 335 (by decide +kernel) (by decide +kernel)
theorem lc_X4_barsOn : Cond.code yX4_barsOn cX4_barsOn 4 (some .int) ∈ tblG := tblG_in 338 (by decide +kernel) (by decide +kernel)
theorem li_X4 : Cond.initialized RX4 ∈ tblG := tblG_in 69 (by decide +kernel) (by decide +kernel)
theorem ln_X4_barsOn : Cond.instanceMethod yX4_barsOn ∈ tblG := tblG_in 337 (by decide +kernel) (by decide +kernel)
theorem lx_X4_barsOn : Cond.selects RX4 yX4_barsOn yX4_barsOn ∈ tblG := tblG_in 15 (by decide +kernel) (by decide +kernel)
theorem ca_X1_48 {a1 a2 a3 : Value} {d' : Nat} {rest : List Value} {v2 : Value} {w2 : W0} (hd : decode cc pc = .ok (.invokevirtual 48, 3)) (hM : Mt E d' yX4_barsOn cX4_barsOn 4 (some .int) [.ref (E.1 3), a1, a2, a3] w (some v2) w2) (hdd : d' + 1 ≤ d) (hr : (rest.map fun v => v.category).sum ≤ 8) (h : G E d RX1 cc nL ret rv w1 (pc + 3) lv (v2 :: rest) w2) : G E d RX1 cc nL ret rv w1 pc lv (a3 :: a2 :: a1 :: .ref (E.1 3) :: rest) w :=
  g_cvN (As := [a1, a2, a3]) (n := 3) (ci := 4) (rest := rest) hd lk_X1_48 ln_X4_barsOn lx_X4_barsOn li_X4 lc_X4_barsOn (by decide +kernel) (by decide) rfl rfl rfl (by decide) rfl hM hdd hr h
theorem lk_X1_54 : Cond.methodLink RX1 54 yX1_barsOf ∈ tblG := tblG_in 326 (by decide +kernel) (by decide +kernel)
theorem lc_X1_barsOf : Cond.code yX1_barsOf cX1_barsOf 6 (some .int) ∈ tblG := tblG_in 329 (by decide +kernel) (by decide +kernel)
theorem ln_X1_barsOf : Cond.instanceMethod yX1_barsOf ∈ tblG := tblG_in 328 (by decide +kernel) (by decide +kernel)
theorem lx_X1_barsOf : Cond.selects RX1 yX1_barsOf yX1_barsOf ∈ tblG := tblG_in 13 (by decide +kernel) (by decide +kernel)
theorem ca_X1_54 {a1 a2 a3 : Value} {d' : Nat} {rest : List Value} {v2 : Value} {w2 : W0} (hd : decode cc pc = .ok (.invokevirtual 54, 3)) (hM : Mt E d' yX1_barsOf cX1_barsOf 6 (some .int) [.ref (E.1 4), a1, a2, a3] w (some v2) w2) (hdd : d' + 1 ≤ d) (hr : (rest.map fun v => v.category).sum ≤ 8) (h : G E d RX1 cc nL ret rv w1 (pc + 3) lv (v2 :: rest) w2) : G E d RX1 cc nL ret rv w1 pc lv (a3 :: a2 :: a1 :: .ref (E.1 4) :: rest) w :=
  g_cv (As := [a1, a2, a3]) (n := 3) (ci := 1) (rest := rest) hd lk_X1_54 ln_X1_barsOf lx_X1_barsOf li_X1 lc_X1_barsOf (by decide +kernel) (by decide) rfl rfl rfl (by decide) rfl hM hdd hr h
theorem lk_X1_58 : Cond.methodLink RX1 58 yX1_sumBetween ∈ tblG := tblG_in 359 (by decide +kernel) (by decide +kernel)
theorem lc_X1_sumBetween : Cond.code yX1_sumBetween cX1_sumBetween 6 (some .int) ∈ tblG := tblG_in 362 (by decide +kernel) (by decide +kernel)
theorem ln_X1_sumBetween : Cond.instanceMethod yX1_sumBetween ∈ tblG := tblG_in 361 (by decide +kernel) (by decide +kernel)
theorem lx_X1_sumBetween : Cond.selects RX1 yX1_sumBetween yX1_sumBetween ∈ tblG := tblG_in 21 (by decide +kernel) (by decide +kernel)
theorem ca_X1_58 {a1 a2 a3 : Value} {d' : Nat} {rest : List Value} {v2 : Value} {w2 : W0} (hd : decode cc pc = .ok (.invokevirtual 58, 3)) (hM : Mt E d' yX1_sumBetween cX1_sumBetween 6 (some .int) [.ref (E.1 4), a1, a2, a3] w (some v2) w2) (hdd : d' + 1 ≤ d) (hr : (rest.map fun v => v.category).sum ≤ 8) (h : G E d RX1 cc nL ret rv w1 (pc + 3) lv (v2 :: rest) w2) : G E d RX1 cc nL ret rv w1 pc lv (a3 :: a2 :: a1 :: .ref (E.1 4) :: rest) w :=
  g_cv (As := [a1, a2, a3]) (n := 3) (ci := 1) (rest := rest) hd lk_X1_58 ln_X1_sumBetween lx_X1_sumBetween li_X1 lc_X1_sumBetween (by decide +kernel) (by decide) rfl rfl rfl (by decide) rfl hM hdd hr h
theorem lk_X1_62 : Cond.methodLinkNest RX1 62 yX6_within "WardCourt" ∈ tblN := tblN_in 363 (by decide +kernel) (by decide +kernel)
theorem ca_X1_62 {a1 a2 a3 : Value} {d' : Nat} {rest : List Value} {v2 : Value} {w2 : W0} (hd : decode cc pc = .ok (.invokestatic 62, 3)) (hM : Mt E d' yX6_within cX6_within 3 (some .boolean) [a1, a2, a3] w (some v2) w2) (hdd : d' + 1 ≤ d) (hr : (rest.map fun v => v.category).sum ≤ 8) (h : G E d RX1 cc nL ret rv w1 (pc + 3) lv (v2 :: rest) w2) : G E d RX1 cc nL ret rv w1 pc lv (a3 :: a2 :: a1 :: rest) w :=
  g_csN (As := [a1, a2, a3]) (n := 3) (rest := rest) hd lk_X1_62 ls_X6_within li_X6 lc_X6_within (by decide +kernel) (by decide) rfl hM hdd hr h
theorem lk_X1_66 : Cond.methodLinkNest RX1 66 yX6_nextOf "WardCourt" ∈ tblN := tblN_in 395 (by decide +kernel) (by decide +kernel)
theorem lc_X6_nextOf : Cond.code yX6_nextOf cX6_nextOf 6 (some .int) ∈ tblG := tblG_in 385 (by decide +kernel) (by decide +kernel)
theorem ls_X6_nextOf : Cond.static yX6_nextOf ∈ tblG := tblG_in 384 (by decide +kernel) (by decide +kernel)
theorem ca_X1_66 {a1 a2 a3 a4 : Value} {d' : Nat} {rest : List Value} {v2 : Value} {w2 : W0} (hd : decode cc pc = .ok (.invokestatic 66, 3)) (hM : Mt E d' yX6_nextOf cX6_nextOf 6 (some .int) [a1, a2, a3, a4] w (some v2) w2) (hdd : d' + 1 ≤ d) (hr : (rest.map fun v => v.category).sum ≤ 8) (h : G E d RX1 cc nL ret rv w1 (pc + 3) lv (v2 :: rest) w2) : G E d RX1 cc nL ret rv w1 pc lv (a4 :: a3 :: a2 :: a1 :: rest) w :=
  g_csN (As := [a1, a2, a3, a4]) (n := 4) (rest := rest) hd lk_X1_66 ls_X6_nextOf li_X6 lc_X6_nextOf (by decide +kernel) (by decide) rfl hM hdd hr h
theorem lk_X2_9 : Cond.fieldLink RX2 9 (TX2 0).1 (TX2 0).2.1 (TX2 0).2.2.1 ∈ tblG := tblG_in 91 (by decide +kernel) (by decide +kernel)
theorem gf_X2_9 (hd : decode cc pc = .ok (.getfield 9, 3)) (h : G E d RX2 cc nL ret rv w1 (pc + 3) lv (.ref (E.1 7) :: st) w) : G E d RX2 cc nL ret rv w1 pc lv (.ref (E.1 1) :: st) w := g_gf (C := RX2) (T := TX2) (N := 3) (ci := 2) (k := 0) hd igX2 (by decide) rfl rfl rfl (by decide) lk_X2_9 rfl h
theorem lk_X2_17 : Cond.fieldLink RX2 17 (TX2 1).1 (TX2 1).2.1 (TX2 1).2.2.1 ∈ tblG := tblG_in 92 (by decide +kernel) (by decide +kernel)
theorem gf_X2_17 (hd : decode cc pc = .ok (.getfield 17, 3)) (h : G E d RX2 cc nL ret rv w1 (pc + 3) lv (.ref (E.1 8) :: st) w) : G E d RX2 cc nL ret rv w1 pc lv (.ref (E.1 1) :: st) w := g_gf (C := RX2) (T := TX2) (N := 3) (ci := 2) (k := 1) hd igX2 (by decide) rfl rfl rfl (by decide) lk_X2_17 rfl h
theorem lk_X2_20 : Cond.fieldLink RX2 20 (TX2 2).1 (TX2 2).2.1 (TX2 2).2.2.1 ∈ tblG := tblG_in 93 (by decide +kernel) (by decide +kernel)
theorem gf_X2_20 (hd : decode cc pc = .ok (.getfield 20, 3)) (h : G E d RX2 cc nL ret rv w1 (pc + 3) lv (.int (w 1 2) :: st) w) : G E d RX2 cc nL ret rv w1 pc lv (.ref (E.1 1) :: st) w := g_gf (C := RX2) (T := TX2) (N := 3) (ci := 2) (k := 2) hd igX2 (by decide) rfl rfl rfl (by decide) lk_X2_20 rfl h
theorem pf_X2_20 {v : Int32} (hd : decode cc pc = .ok (.putfield 20, 3)) (h : G E d RX2 cc nL ret rv w1 (pc + 3) lv st (setW w 1 2 v)) : G E d RX2 cc nL ret rv w1 pc lv (.int v :: .ref (E.1 1) :: st) w := g_pf (C := RX2) (T := TX2) (N := 3) (ci := 2) (k := 2) .int tyX2 hd igX2 tyX2_ok nmX2 (by decide) rfl rfl rfl (by decide) lk_X2_20 rfl rfl (by decide +kernel) rfl rfl h
theorem lk_X2_24 : Cond.methodLinkNest RX2 24 yX6_within "WardCourt" ∈ tblN := tblN_in 264 (by decide +kernel) (by decide +kernel)
theorem ca_X2_24 {a1 a2 a3 : Value} {d' : Nat} {rest : List Value} {v2 : Value} {w2 : W0} (hd : decode cc pc = .ok (.invokestatic 24, 3)) (hM : Mt E d' yX6_within cX6_within 3 (some .boolean) [a1, a2, a3] w (some v2) w2) (hdd : d' + 1 ≤ d) (hr : (rest.map fun v => v.category).sum ≤ 8) (h : G E d RX2 cc nL ret rv w1 (pc + 3) lv (v2 :: rest) w2) : G E d RX2 cc nL ret rv w1 pc lv (a3 :: a2 :: a1 :: rest) w :=
  g_csN (As := [a1, a2, a3]) (n := 3) (rest := rest) hd lk_X2_24 ls_X6_within li_X6 lc_X6_within (by decide +kernel) (by decide) rfl hM hdd hr h
theorem lk_X2_28 : Cond.fieldLinkNest RX2 28 "WardCourt" "BEFORE_ANY_LAW" "[I" "WardCourt" ∈ tblN := tblN_in 265 (by decide +kernel) (by decide +kernel)
theorem lk_X2_31 : Cond.methodLink RX2 31 yX2_sooner ∈ tblG := tblG_in 313 (by decide +kernel) (by decide +kernel)
theorem lc_X2_sooner : Cond.code yX2_sooner cX2_sooner 4 (some .int) ∈ tblG := tblG_in 316 (by decide +kernel) (by decide +kernel)
theorem ln_X2_sooner : Cond.instanceMethod yX2_sooner ∈ tblG := tblG_in 315 (by decide +kernel) (by decide +kernel)
theorem lx_X2_sooner : Cond.selects RX2 yX2_sooner yX2_sooner ∈ tblG := tblG_in 10 (by decide +kernel) (by decide +kernel)
theorem ca_X2_31 {a1 a2 a3 : Value} {d' : Nat} {rest : List Value} {v2 : Value} {w2 : W0} (hd : decode cc pc = .ok (.invokevirtual 31, 3)) (hM : Mt E d' yX2_sooner cX2_sooner 4 (some .int) [.ref (E.1 1), a1, a2, a3] w (some v2) w2) (hdd : d' + 1 ≤ d) (hr : (rest.map fun v => v.category).sum ≤ 8) (h : G E d RX2 cc nL ret rv w1 (pc + 3) lv (v2 :: rest) w2) : G E d RX2 cc nL ret rv w1 pc lv (a3 :: a2 :: a1 :: .ref (E.1 1) :: rest) w :=
  g_cv (As := [a1, a2, a3]) (n := 3) (ci := 2) (rest := rest) hd lk_X2_31 ln_X2_sooner lx_X2_sooner li_X2 lc_X2_sooner (by decide +kernel) (by decide) rfl rfl rfl (by decide) rfl hM hdd hr h
theorem lk_X2_35 : Cond.methodLink RX2 35 yX2_inForce ∈ tblG := tblG_in 317 (by decide +kernel) (by decide +kernel)
theorem ca_X2_35 {a1 a2 : Value} {d' : Nat} {rest : List Value} {v2 : Value} {w2 : W0} (hd : decode cc pc = .ok (.invokevirtual 35, 3)) (hM : Mt E d' yX2_inForce cX2_inForce 5 (some .int) [.ref (E.1 1), a1, a2] w (some v2) w2) (hdd : d' + 1 ≤ d) (hr : (rest.map fun v => v.category).sum ≤ 8) (h : G E d RX2 cc nL ret rv w1 (pc + 3) lv (v2 :: rest) w2) : G E d RX2 cc nL ret rv w1 pc lv (a2 :: a1 :: .ref (E.1 1) :: rest) w :=
  g_cv (As := [a1, a2]) (n := 2) (ci := 2) (rest := rest) hd lk_X2_35 ln_X2_inForce lx_X2_inForce li_X2 lc_X2_inForce (by decide +kernel) (by decide) rfl rfl rfl (by decide) rfl hM hdd hr h
theorem lk_X2_39 : Cond.methodLinkNest RX2 39 yX6_nextOf "WardCourt" ∈ tblN := tblN_in 383 (by decide +kernel) (by decide +kernel)
theorem ca_X2_39 {a1 a2 a3 a4 : Value} {d' : Nat} {rest : List Value} {v2 : Value} {w2 : W0} (hd : decode cc pc = .ok (.invokestatic 39, 3)) (hM : Mt E d' yX6_nextOf cX6_nextOf 6 (some .int) [a1, a2, a3, a4] w (some v2) w2) (hdd : d' + 1 ≤ d) (hr : (rest.map fun v => v.category).sum ≤ 8) (h : G E d RX2 cc nL ret rv w1 (pc + 3) lv (v2 :: rest) w2) : G E d RX2 cc nL ret rv w1 pc lv (a4 :: a3 :: a2 :: a1 :: rest) w :=
  g_csN (As := [a1, a2, a3, a4]) (n := 4) (rest := rest) hd lk_X2_39 ls_X6_nextOf li_X6 lc_X6_nextOf (by decide +kernel) (by decide) rfl hM hdd hr h
theorem lk_X3_9 : Cond.fieldLink RX3 9 (TX3 0).1 (TX3 0).2.1 (TX3 0).2.2.1 ∈ tblG := tblG_in 185 (by decide +kernel) (by decide +kernel)
theorem gf_X3_9 (hd : decode cc pc = .ok (.getfield 9, 3)) (h : G E d RX3 cc nL ret rv w1 (pc + 3) lv (.ref (E.1 31) :: st) w) : G E d RX3 cc nL ret rv w1 pc lv (.ref (E.1 5) :: st) w := g_gf (C := RX3) (T := TX3) (N := 5) (ci := 3) (k := 0) hd igX3 (by decide) rfl rfl rfl (by decide) lk_X3_9 rfl h
theorem lk_X3_15 : Cond.fieldLink RX3 15 (TX3 1).1 (TX3 1).2.1 (TX3 1).2.2.1 ∈ tblG := tblG_in 186 (by decide +kernel) (by decide +kernel)
theorem gf_X3_15 (hd : decode cc pc = .ok (.getfield 15, 3)) (h : G E d RX3 cc nL ret rv w1 (pc + 3) lv (.ref (E.1 32) :: st) w) : G E d RX3 cc nL ret rv w1 pc lv (.ref (E.1 5) :: st) w := g_gf (C := RX3) (T := TX3) (N := 5) (ci := 3) (k := 1) hd igX3 (by decide) rfl rfl rfl (by decide) lk_X3_15 rfl h
theorem lk_X3_18 : Cond.fieldLink RX3 18 (TX3 2).1 (TX3 2).2.1 (TX3 2).2.2.1 ∈ tblG := tblG_in 187 (by decide +kernel) (by decide +kernel)
theorem gf_X3_18 (hd : decode cc pc = .ok (.getfield 18, 3)) (h : G E d RX3 cc nL ret rv w1 (pc + 3) lv (.ref (E.1 33) :: st) w) : G E d RX3 cc nL ret rv w1 pc lv (.ref (E.1 5) :: st) w := g_gf (C := RX3) (T := TX3) (N := 5) (ci := 3) (k := 2) hd igX3 (by decide) rfl rfl rfl (by decide) lk_X3_18 rfl h
theorem lk_X3_21 : Cond.fieldLink RX3 21 (TX3 3).1 (TX3 3).2.1 (TX3 3).2.2.1 ∈ tblG := tblG_in 188 (by decide +kernel) (by decide +kernel)
theorem gf_X3_21 (hd : decode cc pc = .ok (.getfield 21, 3)) (h : G E d RX3 cc nL ret rv w1 (pc + 3) lv (.ref (E.1 34) :: st) w) : G E d RX3 cc nL ret rv w1 pc lv (.ref (E.1 5) :: st) w := g_gf (C := RX3) (T := TX3) (N := 5) (ci := 3) (k := 3) hd igX3 (by decide) rfl rfl rfl (by decide) lk_X3_21 rfl h
theorem lk_X3_24 : Cond.fieldLink RX3 24 (TX3 4).1 (TX3 4).2.1 (TX3 4).2.2.1 ∈ tblG := tblG_in 189 (by decide +kernel) (by decide +kernel)
theorem gf_X3_24 (hd : decode cc pc = .ok (.getfield 24, 3)) (h : G E d RX3 cc nL ret rv w1 (pc + 3) lv (.int (w 5 4) :: st) w) : G E d RX3 cc nL ret rv w1 pc lv (.ref (E.1 5) :: st) w := g_gf (C := RX3) (T := TX3) (N := 5) (ci := 3) (k := 4) hd igX3 (by decide) rfl rfl rfl (by decide) lk_X3_24 rfl h
theorem pf_X3_24 {v : Int32} (hd : decode cc pc = .ok (.putfield 24, 3)) (h : G E d RX3 cc nL ret rv w1 (pc + 3) lv st (setW w 5 4 v)) : G E d RX3 cc nL ret rv w1 pc lv (.int v :: .ref (E.1 5) :: st) w := g_pf (C := RX3) (T := TX3) (N := 5) (ci := 3) (k := 4) .int tyX3 hd igX3 tyX3_ok nmX3 (by decide) rfl rfl rfl (by decide) lk_X3_24 rfl rfl (by decide +kernel) rfl rfl h
theorem lk_X3_28 : Cond.methodLink RX3 28 yX3_has ∈ tblG := tblG_in 510 (by decide +kernel) (by decide +kernel)
theorem lc_X3_has : Cond.code yX3_has cX3_has 2 (some .boolean) ∈ tblG := tblG_in 450 (by decide +kernel) (by decide +kernel)
theorem li_X3 : Cond.initialized RX3 ∈ tblG := tblG_in 71 (by decide +kernel) (by decide +kernel)
theorem ln_X3_has : Cond.instanceMethod yX3_has ∈ tblG := tblG_in 449 (by decide +kernel) (by decide +kernel)
theorem lx_X3_has : Cond.selects RX3 yX3_has yX3_has ∈ tblG := tblG_in 33 (by decide +kernel) (by decide +kernel)
theorem ca_X3_28 {a1 : Value} {d' : Nat} {rest : List Value} {v2 : Value} {w2 : W0} (hd : decode cc pc = .ok (.invokevirtual 28, 3)) (hM : Mt E d' yX3_has cX3_has 2 (some .boolean) [.ref (E.1 5), a1] w (some v2) w2) (hdd : d' + 1 ≤ d) (hr : (rest.map fun v => v.category).sum ≤ 8) (h : G E d RX3 cc nL ret rv w1 (pc + 3) lv (v2 :: rest) w2) : G E d RX3 cc nL ret rv w1 pc lv (a1 :: .ref (E.1 5) :: rest) w :=
  g_cv (As := [a1]) (n := 1) (ci := 3) (rest := rest) hd lk_X3_28 ln_X3_has lx_X3_has li_X3 lc_X3_has (by decide +kernel) (by decide) rfl rfl rfl (by decide) rfl hM hdd hr h
theorem lk_X3_32 : Cond.methodLinkNest RX3 32 yX2_inForce "WardCourt" ∈ tblN := tblN_in 511 (by decide +kernel) (by decide +kernel)
theorem ca_X3_32 {a1 a2 : Value} {d' : Nat} {rest : List Value} {v2 : Value} {w2 : W0} (hd : decode cc pc = .ok (.invokevirtual 32, 3)) (hM : Mt E d' yX2_inForce cX2_inForce 5 (some .int) [.ref (E.1 1), a1, a2] w (some v2) w2) (hdd : d' + 1 ≤ d) (hr : (rest.map fun v => v.category).sum ≤ 8) (h : G E d RX3 cc nL ret rv w1 (pc + 3) lv (v2 :: rest) w2) : G E d RX3 cc nL ret rv w1 pc lv (a2 :: a1 :: .ref (E.1 1) :: rest) w :=
  g_cvN (As := [a1, a2]) (n := 2) (ci := 2) (rest := rest) hd lk_X3_32 ln_X2_inForce lx_X2_inForce li_X2 lc_X2_inForce (by decide +kernel) (by decide) rfl rfl rfl (by decide) rfl hM hdd hr h
theorem lk_X3_38 : Cond.methodLinkNest RX3 38 yX4_barsOn "WardCourt" ∈ tblN := tblN_in 512 (by decide +kernel) (by decide +kernel)
theorem ca_X3_38 {a1 a2 a3 : Value} {d' : Nat} {rest : List Value} {v2 : Value} {w2 : W0} (hd : decode cc pc = .ok (.invokevirtual 38, 3)) (hM : Mt E d' yX4_barsOn cX4_barsOn 4 (some .int) [.ref (E.1 3), a1, a2, a3] w (some v2) w2) (hdd : d' + 1 ≤ d) (hr : (rest.map fun v => v.category).sum ≤ 8) (h : G E d RX3 cc nL ret rv w1 (pc + 3) lv (v2 :: rest) w2) : G E d RX3 cc nL ret rv w1 pc lv (a3 :: a2 :: a1 :: .ref (E.1 3) :: rest) w :=
  g_cvN (As := [a1, a2, a3]) (n := 3) (ci := 4) (rest := rest) hd lk_X3_38 ln_X4_barsOn lx_X4_barsOn li_X4 lc_X4_barsOn (by decide +kernel) (by decide) rfl rfl rfl (by decide) rfl hM hdd hr h
theorem lk_X4_9 : Cond.fieldLink RX4 9 (TX4 0).1 (TX4 0).2.1 (TX4 0).2.2.1 ∈ tblG := tblG_in 135 (by decide +kernel) (by decide +kernel)
theorem gf_X4_9 (hd : decode cc pc = .ok (.getfield 9, 3)) (h : G E d RX4 cc nL ret rv w1 (pc + 3) lv (.ref (E.1 22) :: st) w) : G E d RX4 cc nL ret rv w1 pc lv (.ref (E.1 3) :: st) w := g_gf (C := RX4) (T := TX4) (N := 3) (ci := 4) (k := 0) hd igX4 (by decide) rfl rfl rfl (by decide) lk_X4_9 rfl h
theorem lk_X4_15 : Cond.fieldLink RX4 15 (TX4 1).1 (TX4 1).2.1 (TX4 1).2.2.1 ∈ tblG := tblG_in 136 (by decide +kernel) (by decide +kernel)
theorem gf_X4_15 (hd : decode cc pc = .ok (.getfield 15, 3)) (h : G E d RX4 cc nL ret rv w1 (pc + 3) lv (.ref (E.1 23) :: st) w) : G E d RX4 cc nL ret rv w1 pc lv (.ref (E.1 3) :: st) w := g_gf (C := RX4) (T := TX4) (N := 3) (ci := 4) (k := 1) hd igX4 (by decide) rfl rfl rfl (by decide) lk_X4_15 rfl h
theorem lk_X4_18 : Cond.fieldLink RX4 18 (TX4 2).1 (TX4 2).2.1 (TX4 2).2.2.1 ∈ tblG := tblG_in 137 (by decide +kernel) (by decide +kernel)
theorem gf_X4_18 (hd : decode cc pc = .ok (.getfield 18, 3)) (h : G E d RX4 cc nL ret rv w1 (pc + 3) lv (.int (w 3 2) :: st) w) : G E d RX4 cc nL ret rv w1 pc lv (.ref (E.1 3) :: st) w := g_gf (C := RX4) (T := TX4) (N := 3) (ci := 4) (k := 2) hd igX4 (by decide) rfl rfl rfl (by decide) lk_X4_18 rfl h
theorem pf_X4_18 {v : Int32} (hd : decode cc pc = .ok (.putfield 18, 3)) (h : G E d RX4 cc nL ret rv w1 (pc + 3) lv st (setW w 3 2 v)) : G E d RX4 cc nL ret rv w1 pc lv (.int v :: .ref (E.1 3) :: st) w := g_pf (C := RX4) (T := TX4) (N := 3) (ci := 4) (k := 2) .int tyX4 hd igX4 tyX4_ok nmX4 (by decide) rfl rfl rfl (by decide) lk_X4_18 rfl rfl (by decide +kernel) rfl rfl h
theorem lk_X4_22 : Cond.methodLink RX4 22 yX4_has ∈ tblG := tblG_in 343 (by decide +kernel) (by decide +kernel)
theorem lc_X4_has : Cond.code yX4_has cX4_has 2 (some .boolean) ∈ tblG := tblG_in 346 (by decide +kernel) (by decide +kernel)
theorem ln_X4_has : Cond.instanceMethod yX4_has ∈ tblG := tblG_in 345 (by decide +kernel) (by decide +kernel)
theorem lx_X4_has : Cond.selects RX4 yX4_has yX4_has ∈ tblG := tblG_in 17 (by decide +kernel) (by decide +kernel)
theorem ca_X4_22 {a1 : Value} {d' : Nat} {rest : List Value} {v2 : Value} {w2 : W0} (hd : decode cc pc = .ok (.invokevirtual 22, 3)) (hM : Mt E d' yX4_has cX4_has 2 (some .boolean) [.ref (E.1 3), a1] w (some v2) w2) (hdd : d' + 1 ≤ d) (hr : (rest.map fun v => v.category).sum ≤ 8) (h : G E d RX4 cc nL ret rv w1 (pc + 3) lv (v2 :: rest) w2) : G E d RX4 cc nL ret rv w1 pc lv (a1 :: .ref (E.1 3) :: rest) w :=
  g_cv (As := [a1]) (n := 1) (ci := 4) (rest := rest) hd lk_X4_22 ln_X4_has lx_X4_has li_X4 lc_X4_has (by decide +kernel) (by decide) rfl rfl rfl (by decide) rfl hM hdd hr h
theorem lk_X4_26 : Cond.methodLink RX4 26 yX4_useOf ∈ tblG := tblG_in 463 (by decide +kernel) (by decide +kernel)
theorem lc_X4_useOf : Cond.code yX4_useOf cX4_useOf 2 (some .int) ∈ tblG := tblG_in 442 (by decide +kernel) (by decide +kernel)
theorem ln_X4_useOf : Cond.instanceMethod yX4_useOf ∈ tblG := tblG_in 441 (by decide +kernel) (by decide +kernel)
theorem lx_X4_useOf : Cond.selects RX4 yX4_useOf yX4_useOf ∈ tblG := tblG_in 32 (by decide +kernel) (by decide +kernel)
theorem ca_X4_26 {a1 : Value} {d' : Nat} {rest : List Value} {v2 : Value} {w2 : W0} (hd : decode cc pc = .ok (.invokevirtual 26, 3)) (hM : Mt E d' yX4_useOf cX4_useOf 2 (some .int) [.ref (E.1 3), a1] w (some v2) w2) (hdd : d' + 1 ≤ d) (hr : (rest.map fun v => v.category).sum ≤ 8) (h : G E d RX4 cc nL ret rv w1 (pc + 3) lv (v2 :: rest) w2) : G E d RX4 cc nL ret rv w1 pc lv (a1 :: .ref (E.1 3) :: rest) w :=
  g_cv (As := [a1]) (n := 1) (ci := 4) (rest := rest) hd lk_X4_26 ln_X4_useOf lx_X4_useOf li_X4 lc_X4_useOf (by decide +kernel) (by decide) rfl rfl rfl (by decide) rfl hM hdd hr h
theorem lk_X4_30 : Cond.methodLink RX4 30 yX4_limitOf ∈ tblG := tblG_in 339 (by decide +kernel) (by decide +kernel)
theorem lc_X4_limitOf : Cond.code yX4_limitOf cX4_limitOf 2 (some .int) ∈ tblG := tblG_in 342 (by decide +kernel) (by decide +kernel)
theorem ln_X4_limitOf : Cond.instanceMethod yX4_limitOf ∈ tblG := tblG_in 341 (by decide +kernel) (by decide +kernel)
theorem lx_X4_limitOf : Cond.selects RX4 yX4_limitOf yX4_limitOf ∈ tblG := tblG_in 16 (by decide +kernel) (by decide +kernel)
theorem ca_X4_30 {a1 : Value} {d' : Nat} {rest : List Value} {v2 : Value} {w2 : W0} (hd : decode cc pc = .ok (.invokevirtual 30, 3)) (hM : Mt E d' yX4_limitOf cX4_limitOf 2 (some .int) [.ref (E.1 3), a1] w (some v2) w2) (hdd : d' + 1 ≤ d) (hr : (rest.map fun v => v.category).sum ≤ 8) (h : G E d RX4 cc nL ret rv w1 (pc + 3) lv (v2 :: rest) w2) : G E d RX4 cc nL ret rv w1 pc lv (a1 :: .ref (E.1 3) :: rest) w :=
  g_cv (As := [a1]) (n := 1) (ci := 4) (rest := rest) hd lk_X4_30 ln_X4_limitOf lx_X4_limitOf li_X4 lc_X4_limitOf (by decide +kernel) (by decide) rfl rfl rfl (by decide) rfl hM hdd hr h
theorem lk_X5_9 : Cond.fieldLink RX5 9 (TX5 0).1 (TX5 0).2.1 (TX5 0).2.2.1 ∈ tblG := tblG_in 109 (by decide +kernel) (by decide +kernel)
theorem gf_X5_9 (hd : decode cc pc = .ok (.getfield 9, 3)) (h : G E d RX5 cc nL ret rv w1 (pc + 3) lv (.ref (E.1 17) :: st) w) : G E d RX5 cc nL ret rv w1 pc lv (.ref (E.1 2) :: st) w := g_gf (C := RX5) (T := TX5) (N := 6) (ci := 5) (k := 0) hd igX5 (by decide) rfl rfl rfl (by decide) lk_X5_9 rfl h
theorem lk_X5_15 : Cond.fieldLink RX5 15 (TX5 1).1 (TX5 1).2.1 (TX5 1).2.2.1 ∈ tblG := tblG_in 110 (by decide +kernel) (by decide +kernel)
theorem gf_X5_15 (hd : decode cc pc = .ok (.getfield 15, 3)) (h : G E d RX5 cc nL ret rv w1 (pc + 3) lv (.ref (E.1 18) :: st) w) : G E d RX5 cc nL ret rv w1 pc lv (.ref (E.1 2) :: st) w := g_gf (C := RX5) (T := TX5) (N := 6) (ci := 5) (k := 1) hd igX5 (by decide) rfl rfl rfl (by decide) lk_X5_15 rfl h
theorem lk_X5_18 : Cond.fieldLink RX5 18 (TX5 2).1 (TX5 2).2.1 (TX5 2).2.2.1 ∈ tblG := tblG_in 111 (by decide +kernel) (by decide +kernel)
theorem gf_X5_18 (hd : decode cc pc = .ok (.getfield 18, 3)) (h : G E d RX5 cc nL ret rv w1 (pc + 3) lv (.ref (E.1 19) :: st) w) : G E d RX5 cc nL ret rv w1 pc lv (.ref (E.1 2) :: st) w := g_gf (C := RX5) (T := TX5) (N := 6) (ci := 5) (k := 2) hd igX5 (by decide) rfl rfl rfl (by decide) lk_X5_18 rfl h
theorem lk_X5_21 : Cond.fieldLink RX5 21 (TX5 3).1 (TX5 3).2.1 (TX5 3).2.2.1 ∈ tblG := tblG_in 112 (by decide +kernel) (by decide +kernel)
theorem gf_X5_21 (hd : decode cc pc = .ok (.getfield 21, 3)) (h : G E d RX5 cc nL ret rv w1 (pc + 3) lv (.ref (E.1 20) :: st) w) : G E d RX5 cc nL ret rv w1 pc lv (.ref (E.1 2) :: st) w := g_gf (C := RX5) (T := TX5) (N := 6) (ci := 5) (k := 3) hd igX5 (by decide) rfl rfl rfl (by decide) lk_X5_21 rfl h
theorem lk_X5_24 : Cond.fieldLink RX5 24 (TX5 4).1 (TX5 4).2.1 (TX5 4).2.2.1 ∈ tblG := tblG_in 113 (by decide +kernel) (by decide +kernel)
theorem gf_X5_24 (hd : decode cc pc = .ok (.getfield 24, 3)) (h : G E d RX5 cc nL ret rv w1 (pc + 3) lv (.ref (E.1 21) :: st) w) : G E d RX5 cc nL ret rv w1 pc lv (.ref (E.1 2) :: st) w := g_gf (C := RX5) (T := TX5) (N := 6) (ci := 5) (k := 4) hd igX5 (by decide) rfl rfl rfl (by decide) lk_X5_24 rfl h
theorem lk_X5_27 : Cond.fieldLink RX5 27 (TX5 5).1 (TX5 5).2.1 (TX5 5).2.2.1 ∈ tblG := tblG_in 114 (by decide +kernel) (by decide +kernel)
theorem gf_X5_27 (hd : decode cc pc = .ok (.getfield 27, 3)) (h : G E d RX5 cc nL ret rv w1 (pc + 3) lv (.int (w 2 5) :: st) w) : G E d RX5 cc nL ret rv w1 pc lv (.ref (E.1 2) :: st) w := g_gf (C := RX5) (T := TX5) (N := 6) (ci := 5) (k := 5) hd igX5 (by decide) rfl rfl rfl (by decide) lk_X5_27 rfl h
theorem pf_X5_27 {v : Int32} (hd : decode cc pc = .ok (.putfield 27, 3)) (h : G E d RX5 cc nL ret rv w1 (pc + 3) lv st (setW w 2 5 v)) : G E d RX5 cc nL ret rv w1 pc lv (.int v :: .ref (E.1 2) :: st) w := g_pf (C := RX5) (T := TX5) (N := 6) (ci := 5) (k := 5) .int tyX5 hd igX5 tyX5_ok nmX5 (by decide) rfl rfl rfl (by decide) lk_X5_27 rfl rfl (by decide +kernel) rfl rfl h
theorem lk_X5_31 : Cond.methodLink RX5 31 yX5_has ∈ tblG := tblG_in 287 (by decide +kernel) (by decide +kernel)
theorem lc_X5_has : Cond.code yX5_has cX5_has 2 (some .boolean) ∈ tblG := tblG_in 282 (by decide +kernel) (by decide +kernel)
theorem ln_X5_has : Cond.instanceMethod yX5_has ∈ tblG := tblG_in 281 (by decide +kernel) (by decide +kernel)
theorem lx_X5_has : Cond.selects RX5 yX5_has yX5_has ∈ tblG := tblG_in 3 (by decide +kernel) (by decide +kernel)
theorem ca_X5_31 {a1 : Value} {d' : Nat} {rest : List Value} {v2 : Value} {w2 : W0} (hd : decode cc pc = .ok (.invokevirtual 31, 3)) (hM : Mt E d' yX5_has cX5_has 2 (some .boolean) [.ref (E.1 2), a1] w (some v2) w2) (hdd : d' + 1 ≤ d) (hr : (rest.map fun v => v.category).sum ≤ 8) (h : G E d RX5 cc nL ret rv w1 (pc + 3) lv (v2 :: rest) w2) : G E d RX5 cc nL ret rv w1 pc lv (a1 :: .ref (E.1 2) :: rest) w :=
  g_cv (As := [a1]) (n := 1) (ci := 5) (rest := rest) hd lk_X5_31 ln_X5_has lx_X5_has li_X5 lc_X5_has (by decide +kernel) (by decide) rfl rfl rfl (by decide) rfl hM hdd hr h
theorem lk_X5_35 : Cond.methodLinkNest RX5 35 yX2_fullAgeDay "WardCourt" ∈ tblN := tblN_in 309 (by decide +kernel) (by decide +kernel)
theorem lc_X2_fullAgeDay : Cond.code yX2_fullAgeDay cX2_fullAgeDay 4 (some .int) ∈ tblG := tblG_in 312 (by decide +kernel) (by decide +kernel)
theorem ln_X2_fullAgeDay : Cond.instanceMethod yX2_fullAgeDay ∈ tblG := tblG_in 311 (by decide +kernel) (by decide +kernel)
theorem lx_X2_fullAgeDay : Cond.selects RX2 yX2_fullAgeDay yX2_fullAgeDay ∈ tblG := tblG_in 9 (by decide +kernel) (by decide +kernel)
theorem ca_X5_35 {a1 : Value} {d' : Nat} {rest : List Value} {v2 : Value} {w2 : W0} (hd : decode cc pc = .ok (.invokevirtual 35, 3)) (hM : Mt E d' yX2_fullAgeDay cX2_fullAgeDay 4 (some .int) [.ref (E.1 1), a1] w (some v2) w2) (hdd : d' + 1 ≤ d) (hr : (rest.map fun v => v.category).sum ≤ 8) (h : G E d RX5 cc nL ret rv w1 (pc + 3) lv (v2 :: rest) w2) : G E d RX5 cc nL ret rv w1 pc lv (a1 :: .ref (E.1 1) :: rest) w :=
  g_cvN (As := [a1]) (n := 1) (ci := 2) (rest := rest) hd lk_X5_35 ln_X2_fullAgeDay lx_X2_fullAgeDay li_X2 lc_X2_fullAgeDay (by decide +kernel) (by decide) rfl rfl rfl (by decide) rfl hM hdd hr h
theorem lk_X5_41 : Cond.methodLink RX5 41 yX5_isAlive ∈ tblG := tblG_in 318 (by decide +kernel) (by decide +kernel)
theorem lc_X5_isAlive : Cond.code yX5_isAlive cX5_isAlive 3 (some .boolean) ∈ tblG := tblG_in 321 (by decide +kernel) (by decide +kernel)
theorem ln_X5_isAlive : Cond.instanceMethod yX5_isAlive ∈ tblG := tblG_in 320 (by decide +kernel) (by decide +kernel)
theorem lx_X5_isAlive : Cond.selects RX5 yX5_isAlive yX5_isAlive ∈ tblG := tblG_in 11 (by decide +kernel) (by decide +kernel)
theorem ca_X5_41 {a1 a2 : Value} {d' : Nat} {rest : List Value} {v2 : Value} {w2 : W0} (hd : decode cc pc = .ok (.invokevirtual 41, 3)) (hM : Mt E d' yX5_isAlive cX5_isAlive 3 (some .boolean) [.ref (E.1 2), a1, a2] w (some v2) w2) (hdd : d' + 1 ≤ d) (hr : (rest.map fun v => v.category).sum ≤ 8) (h : G E d RX5 cc nL ret rv w1 (pc + 3) lv (v2 :: rest) w2) : G E d RX5 cc nL ret rv w1 pc lv (a2 :: a1 :: .ref (E.1 2) :: rest) w :=
  g_cv (As := [a1, a2]) (n := 2) (ci := 5) (rest := rest) hd lk_X5_41 ln_X5_isAlive lx_X5_isAlive li_X5 lc_X5_isAlive (by decide +kernel) (by decide) rfl rfl rfl (by decide) rfl hM hdd hr h
theorem lk_X5_45 : Cond.methodLink RX5 45 yX5_headsOn ∈ tblG := tblG_in 372 (by decide +kernel) (by decide +kernel)
theorem lc_X5_headsOn : Cond.code yX5_headsOn cX5_headsOn 5 (some .int) ∈ tblG := tblG_in 375 (by decide +kernel) (by decide +kernel)
theorem ln_X5_headsOn : Cond.instanceMethod yX5_headsOn ∈ tblG := tblG_in 374 (by decide +kernel) (by decide +kernel)
theorem lx_X5_headsOn : Cond.selects RX5 yX5_headsOn yX5_headsOn ∈ tblG := tblG_in 24 (by decide +kernel) (by decide +kernel)
theorem ca_X5_45 {a1 : Value} {d' : Nat} {rest : List Value} {v2 : Value} {w2 : W0} (hd : decode cc pc = .ok (.invokevirtual 45, 3)) (hM : Mt E d' yX5_headsOn cX5_headsOn 5 (some .int) [.ref (E.1 2), a1] w (some v2) w2) (hdd : d' + 1 ≤ d) (hr : (rest.map fun v => v.category).sum ≤ 8) (h : G E d RX5 cc nL ret rv w1 (pc + 3) lv (v2 :: rest) w2) : G E d RX5 cc nL ret rv w1 pc lv (a1 :: .ref (E.1 2) :: rest) w :=
  g_cv (As := [a1]) (n := 1) (ci := 5) (rest := rest) hd lk_X5_45 ln_X5_headsOn lx_X5_headsOn li_X5 lc_X5_headsOn (by decide +kernel) (by decide) rfl rfl rfl (by decide) rfl hM hdd hr h
theorem lk_X5_48 : Cond.methodLinkNest RX5 48 yX6_within "WardCourt" ∈ tblN := tblN_in 545 (by decide +kernel) (by decide +kernel)
theorem ca_X5_48 {a1 a2 a3 : Value} {d' : Nat} {rest : List Value} {v2 : Value} {w2 : W0} (hd : decode cc pc = .ok (.invokestatic 48, 3)) (hM : Mt E d' yX6_within cX6_within 3 (some .boolean) [a1, a2, a3] w (some v2) w2) (hdd : d' + 1 ≤ d) (hr : (rest.map fun v => v.category).sum ≤ 8) (h : G E d RX5 cc nL ret rv w1 (pc + 3) lv (v2 :: rest) w2) : G E d RX5 cc nL ret rv w1 pc lv (a3 :: a2 :: a1 :: rest) w :=
  g_csN (As := [a1, a2, a3]) (n := 3) (rest := rest) hd lk_X5_48 ls_X6_within li_X6 lc_X6_within (by decide +kernel) (by decide) rfl hM hdd hr h
theorem lk_X5_52 : Cond.methodLinkNest RX5 52 yX6_nextOf "WardCourt" ∈ tblN := tblN_in 390 (by decide +kernel) (by decide +kernel)
theorem ca_X5_52 {a1 a2 a3 a4 : Value} {d' : Nat} {rest : List Value} {v2 : Value} {w2 : W0} (hd : decode cc pc = .ok (.invokestatic 52, 3)) (hM : Mt E d' yX6_nextOf cX6_nextOf 6 (some .int) [a1, a2, a3, a4] w (some v2) w2) (hdd : d' + 1 ≤ d) (hr : (rest.map fun v => v.category).sum ≤ 8) (h : G E d RX5 cc nL ret rv w1 (pc + 3) lv (v2 :: rest) w2) : G E d RX5 cc nL ret rv w1 pc lv (a4 :: a3 :: a2 :: a1 :: rest) w :=
  g_csN (As := [a1, a2, a3, a4]) (n := 4) (rest := rest) hd lk_X5_52 ls_X6_nextOf li_X6 lc_X6_nextOf (by decide +kernel) (by decide) rfl hM hdd hr h
theorem lk_X6_10 : Cond.fieldLink RX6 10 (TX6 0).1 (TX6 0).2.1 (TX6 0).2.2.1 ∈ tblG := tblG_in 220 (by decide +kernel) (by decide +kernel)
theorem gf_X6_10 (hd : decode cc pc = .ok (.getfield 10, 3)) (h : G E d RX6 cc nL ret rv w1 (pc + 3) lv (.ref (E.1 1) :: st) w) : G E d RX6 cc nL ret rv w1 pc lv (.ref (E.1 0) :: st) w := g_gf (C := RX6) (T := TX6) (N := 7) (ci := 6) (k := 0) hd igX6 (by decide) rfl rfl rfl (by decide) lk_X6_10 rfl h
theorem lk_X6_19 : Cond.fieldLink RX6 19 (TX6 1).1 (TX6 1).2.1 (TX6 1).2.2.1 ∈ tblG := tblG_in 221 (by decide +kernel) (by decide +kernel)
theorem gf_X6_19 (hd : decode cc pc = .ok (.getfield 19, 3)) (h : G E d RX6 cc nL ret rv w1 (pc + 3) lv (.ref (E.1 2) :: st) w) : G E d RX6 cc nL ret rv w1 pc lv (.ref (E.1 0) :: st) w := g_gf (C := RX6) (T := TX6) (N := 7) (ci := 6) (k := 1) hd igX6 (by decide) rfl rfl rfl (by decide) lk_X6_19 rfl h
theorem lk_X6_26 : Cond.fieldLink RX6 26 (TX6 2).1 (TX6 2).2.1 (TX6 2).2.2.1 ∈ tblG := tblG_in 222 (by decide +kernel) (by decide +kernel)
theorem gf_X6_26 (hd : decode cc pc = .ok (.getfield 26, 3)) (h : G E d RX6 cc nL ret rv w1 (pc + 3) lv (.ref (E.1 3) :: st) w) : G E d RX6 cc nL ret rv w1 pc lv (.ref (E.1 0) :: st) w := g_gf (C := RX6) (T := TX6) (N := 7) (ci := 6) (k := 2) hd igX6 (by decide) rfl rfl rfl (by decide) lk_X6_26 rfl h
theorem lk_X6_33 : Cond.fieldLink RX6 33 (TX6 3).1 (TX6 3).2.1 (TX6 3).2.2.1 ∈ tblG := tblG_in 223 (by decide +kernel) (by decide +kernel)
theorem gf_X6_33 (hd : decode cc pc = .ok (.getfield 33, 3)) (h : G E d RX6 cc nL ret rv w1 (pc + 3) lv (.ref (E.1 4) :: st) w) : G E d RX6 cc nL ret rv w1 pc lv (.ref (E.1 0) :: st) w := g_gf (C := RX6) (T := TX6) (N := 7) (ci := 6) (k := 3) hd igX6 (by decide) rfl rfl rfl (by decide) lk_X6_33 rfl h
theorem lk_X6_40 : Cond.fieldLink RX6 40 (TX6 4).1 (TX6 4).2.1 (TX6 4).2.2.1 ∈ tblG := tblG_in 224 (by decide +kernel) (by decide +kernel)
theorem gf_X6_40 (hd : decode cc pc = .ok (.getfield 40, 3)) (h : G E d RX6 cc nL ret rv w1 (pc + 3) lv (.ref (E.1 5) :: st) w) : G E d RX6 cc nL ret rv w1 pc lv (.ref (E.1 0) :: st) w := g_gf (C := RX6) (T := TX6) (N := 7) (ci := 6) (k := 4) hd igX6 (by decide) rfl rfl rfl (by decide) lk_X6_40 rfl h
theorem lk_X6_47 : Cond.fieldLink RX6 47 (TX6 5).1 (TX6 5).2.1 (TX6 5).2.2.1 ∈ tblG := tblG_in 225 (by decide +kernel) (by decide +kernel)
theorem gf_X6_47 (hd : decode cc pc = .ok (.getfield 47, 3)) (h : G E d RX6 cc nL ret rv w1 (pc + 3) lv (.ref (E.1 6) :: st) w) : G E d RX6 cc nL ret rv w1 pc lv (.ref (E.1 0) :: st) w := g_gf (C := RX6) (T := TX6) (N := 7) (ci := 6) (k := 5) hd igX6 (by decide) rfl rfl rfl (by decide) lk_X6_47 rfl h
theorem lk_X6_51 : Cond.methodLink RX6 51 yX6_isDay ∈ tblG := tblG_in 246 (by decide +kernel) (by decide +kernel)
theorem lc_X6_isDay : Cond.code yX6_isDay cX6_isDay 1 (some .boolean) ∈ tblG := tblG_in 248 (by decide +kernel) (by decide +kernel)
theorem ls_X6_isDay : Cond.static yX6_isDay ∈ tblG := tblG_in 247 (by decide +kernel) (by decide +kernel)
theorem ca_X6_51 {a1 : Value} {d' : Nat} {rest : List Value} {v2 : Value} {w2 : W0} (hd : decode cc pc = .ok (.invokestatic 51, 3)) (hM : Mt E d' yX6_isDay cX6_isDay 1 (some .boolean) [a1] w (some v2) w2) (hdd : d' + 1 ≤ d) (hr : (rest.map fun v => v.category).sum ≤ 8) (h : G E d RX6 cc nL ret rv w1 (pc + 3) lv (v2 :: rest) w2) : G E d RX6 cc nL ret rv w1 pc lv (a1 :: rest) w :=
  g_cs (As := [a1]) (n := 1) (rest := rest) hd lk_X6_51 ls_X6_isDay li_X6 lc_X6_isDay (by decide +kernel) (by decide) rfl hM hdd hr h
theorem lk_X6_55 : Cond.methodLink RX6 55 yX6_within ∈ tblG := tblG_in 249 (by decide +kernel) (by decide +kernel)
theorem ca_X6_55 {a1 a2 a3 : Value} {d' : Nat} {rest : List Value} {v2 : Value} {w2 : W0} (hd : decode cc pc = .ok (.invokestatic 55, 3)) (hM : Mt E d' yX6_within cX6_within 3 (some .boolean) [a1, a2, a3] w (some v2) w2) (hdd : d' + 1 ≤ d) (hr : (rest.map fun v => v.category).sum ≤ 8) (h : G E d RX6 cc nL ret rv w1 (pc + 3) lv (v2 :: rest) w2) : G E d RX6 cc nL ret rv w1 pc lv (a3 :: a2 :: a1 :: rest) w :=
  g_cs (As := [a1, a2, a3]) (n := 3) (rest := rest) hd lk_X6_55 ls_X6_within li_X6 lc_X6_within (by decide +kernel) (by decide) rfl hM hdd hr h
theorem lk_X6_59 : Cond.fieldLinkNest RX6 59 (TX2 2).1 (TX2 2).2.1 (TX2 2).2.2.1 "WardCourt" ∈ tblN := tblN_in 94 (by decide +kernel) (by decide +kernel)
theorem gf_X6_59 (hd : decode cc pc = .ok (.getfield 59, 3)) (h : G E d RX6 cc nL ret rv w1 (pc + 3) lv (.int (w 1 2) :: st) w) : G E d RX6 cc nL ret rv w1 pc lv (.ref (E.1 1) :: st) w := g_gfN (C := RX2) (T := TX2) (N := 3) (ci := 2) (k := 2) hd igX2 (by decide) rfl rfl rfl (by decide) lk_X6_59 rfl h
theorem lk_X6_63 : Cond.methodLinkNest RX6 63 yX2_add "WardCourt" ∈ tblN := tblN_in 252 (by decide +kernel) (by decide +kernel)
theorem lc_X2_add : Cond.code yX2_add cX2_add 7 (none) ∈ tblG := tblG_in 255 (by decide +kernel) (by decide +kernel)
theorem ln_X2_add : Cond.instanceMethod yX2_add ∈ tblG := tblG_in 254 (by decide +kernel) (by decide +kernel)
theorem lx_X2_add : Cond.selects RX2 yX2_add yX2_add ∈ tblG := tblG_in 0 (by decide +kernel) (by decide +kernel)
theorem ca_X6_63 {a1 a2 a3 a4 a5 a6 : Value} {d' : Nat} {rest : List Value} {w2 : W0} (hd : decode cc pc = .ok (.invokevirtual 63, 3)) (hM : Mt E d' yX2_add cX2_add 7 (none) [.ref (E.1 1), a1, a2, a3, a4, a5, a6] w none w2) (hdd : d' + 1 ≤ d) (hr : (rest.map fun v => v.category).sum ≤ 8) (h : G E d RX6 cc nL ret rv w1 (pc + 3) lv (rest) w2) : G E d RX6 cc nL ret rv w1 pc lv (a6 :: a5 :: a4 :: a3 :: a2 :: a1 :: .ref (E.1 1) :: rest) w :=
  g_cvN (As := [a1, a2, a3, a4, a5, a6]) (n := 6) (ci := 2) (rest := rest) hd lk_X6_63 ln_X2_add lx_X2_add li_X2 lc_X2_add (by decide +kernel) (by decide) rfl rfl rfl (by decide) rfl hM hdd hr h
theorem lk_X6_67 : Cond.fieldLink RX6 67 (TX6 6).1 (TX6 6).2.1 (TX6 6).2.2.1 ∈ tblG := tblG_in 226 (by decide +kernel) (by decide +kernel)
theorem gf_X6_67 (hd : decode cc pc = .ok (.getfield 67, 3)) (h : G E d RX6 cc nL ret rv w1 (pc + 3) lv (.int (w 0 6) :: st) w) : G E d RX6 cc nL ret rv w1 pc lv (.ref (E.1 0) :: st) w := g_gf (C := RX6) (T := TX6) (N := 7) (ci := 6) (k := 6) hd igX6 (by decide) rfl rfl rfl (by decide) lk_X6_67 rfl h
theorem pf_X6_67 {v : Int32} (hd : decode cc pc = .ok (.putfield 67, 3)) (hb : narrow .boolean (.int v) = .int v) (hf : fits .boolean (.int v) = true) (h : G E d RX6 cc nL ret rv w1 (pc + 3) lv st (setW w 0 6 v)) : G E d RX6 cc nL ret rv w1 pc lv (.int v :: .ref (E.1 0) :: st) w := g_pf (C := RX6) (T := TX6) (N := 7) (ci := 6) (k := 6) .boolean tyX6 hd igX6 tyX6_ok nmX6 (by decide) rfl rfl rfl (by decide) lk_X6_67 rfl rfl (by decide +kernel) hb hf h
theorem lk_X6_71 : Cond.methodLinkNest RX6 71 yX2_inForce "WardCourt" ∈ tblN := tblN_in 260 (by decide +kernel) (by decide +kernel)
theorem ca_X6_71 {a1 a2 : Value} {d' : Nat} {rest : List Value} {v2 : Value} {w2 : W0} (hd : decode cc pc = .ok (.invokevirtual 71, 3)) (hM : Mt E d' yX2_inForce cX2_inForce 5 (some .int) [.ref (E.1 1), a1, a2] w (some v2) w2) (hdd : d' + 1 ≤ d) (hr : (rest.map fun v => v.category).sum ≤ 8) (h : G E d RX6 cc nL ret rv w1 (pc + 3) lv (v2 :: rest) w2) : G E d RX6 cc nL ret rv w1 pc lv (a2 :: a1 :: .ref (E.1 1) :: rest) w :=
  g_cvN (As := [a1, a2]) (n := 2) (ci := 2) (rest := rest) hd lk_X6_71 ln_X2_inForce lx_X2_inForce li_X2 lc_X2_inForce (by decide +kernel) (by decide) rfl rfl rfl (by decide) rfl hM hdd hr h
theorem lk_X6_75 : Cond.fieldLinkNest RX6 75 (TX5 5).1 (TX5 5).2.1 (TX5 5).2.2.1 "WardCourt" ∈ tblN := tblN_in 115 (by decide +kernel) (by decide +kernel)
theorem gf_X6_75 (hd : decode cc pc = .ok (.getfield 75, 3)) (h : G E d RX6 cc nL ret rv w1 (pc + 3) lv (.int (w 2 5) :: st) w) : G E d RX6 cc nL ret rv w1 pc lv (.ref (E.1 2) :: st) w := g_gfN (C := RX5) (T := TX5) (N := 6) (ci := 5) (k := 5) hd igX5 (by decide) rfl rfl rfl (by decide) lk_X6_75 rfl h
theorem lk_X6_76 : Cond.methodLinkNest RX6 76 yX5_add "WardCourt" ∈ tblN := tblN_in 271 (by decide +kernel) (by decide +kernel)
theorem lc_X5_add : Cond.code yX5_add cX5_add 2 (none) ∈ tblG := tblG_in 274 (by decide +kernel) (by decide +kernel)
theorem ln_X5_add : Cond.instanceMethod yX5_add ∈ tblG := tblG_in 273 (by decide +kernel) (by decide +kernel)
theorem lx_X5_add : Cond.selects RX5 yX5_add yX5_add ∈ tblG := tblG_in 2 (by decide +kernel) (by decide +kernel)
theorem ca_X6_76 {a1 : Value} {d' : Nat} {rest : List Value} {w2 : W0} (hd : decode cc pc = .ok (.invokevirtual 76, 3)) (hM : Mt E d' yX5_add cX5_add 2 (none) [.ref (E.1 2), a1] w none w2) (hdd : d' + 1 ≤ d) (hr : (rest.map fun v => v.category).sum ≤ 8) (h : G E d RX6 cc nL ret rv w1 (pc + 3) lv (rest) w2) : G E d RX6 cc nL ret rv w1 pc lv (a1 :: .ref (E.1 2) :: rest) w :=
  g_cvN (As := [a1]) (n := 1) (ci := 5) (rest := rest) hd lk_X6_76 ln_X5_add lx_X5_add li_X5 lc_X5_add (by decide +kernel) (by decide) rfl rfl rfl (by decide) rfl hM hdd hr h
theorem lk_X6_79 : Cond.methodLinkNest RX6 79 yX5_has "WardCourt" ∈ tblN := tblN_in 279 (by decide +kernel) (by decide +kernel)
theorem ca_X6_79 {a1 : Value} {d' : Nat} {rest : List Value} {v2 : Value} {w2 : W0} (hd : decode cc pc = .ok (.invokevirtual 79, 3)) (hM : Mt E d' yX5_has cX5_has 2 (some .boolean) [.ref (E.1 2), a1] w (some v2) w2) (hdd : d' + 1 ≤ d) (hr : (rest.map fun v => v.category).sum ≤ 8) (h : G E d RX6 cc nL ret rv w1 (pc + 3) lv (v2 :: rest) w2) : G E d RX6 cc nL ret rv w1 pc lv (a1 :: .ref (E.1 2) :: rest) w :=
  g_cvN (As := [a1]) (n := 1) (ci := 5) (rest := rest) hd lk_X6_79 ln_X5_has lx_X5_has li_X5 lc_X5_has (by decide +kernel) (by decide) rfl rfl rfl (by decide) rfl hM hdd hr h
theorem lk_X6_82 : Cond.methodLinkNest RX6 82 yX5_birthOf "WardCourt" ∈ tblN := tblN_in 283 (by decide +kernel) (by decide +kernel)
theorem lc_X5_birthOf : Cond.code yX5_birthOf cX5_birthOf 2 (some .int) ∈ tblG := tblG_in 286 (by decide +kernel) (by decide +kernel)
theorem ln_X5_birthOf : Cond.instanceMethod yX5_birthOf ∈ tblG := tblG_in 285 (by decide +kernel) (by decide +kernel)
theorem lx_X5_birthOf : Cond.selects RX5 yX5_birthOf yX5_birthOf ∈ tblG := tblG_in 4 (by decide +kernel) (by decide +kernel)
theorem ca_X6_82 {a1 : Value} {d' : Nat} {rest : List Value} {v2 : Value} {w2 : W0} (hd : decode cc pc = .ok (.invokevirtual 82, 3)) (hM : Mt E d' yX5_birthOf cX5_birthOf 2 (some .int) [.ref (E.1 2), a1] w (some v2) w2) (hdd : d' + 1 ≤ d) (hr : (rest.map fun v => v.category).sum ≤ 8) (h : G E d RX6 cc nL ret rv w1 (pc + 3) lv (v2 :: rest) w2) : G E d RX6 cc nL ret rv w1 pc lv (a1 :: .ref (E.1 2) :: rest) w :=
  g_cvN (As := [a1]) (n := 1) (ci := 5) (rest := rest) hd lk_X6_82 ln_X5_birthOf lx_X5_birthOf li_X5 lc_X5_birthOf (by decide +kernel) (by decide) rfl rfl rfl (by decide) rfl hM hdd hr h
theorem lk_X6_86 : Cond.methodLinkNest RX6 86 yX5_deathOf "WardCourt" ∈ tblN := tblN_in 288 (by decide +kernel) (by decide +kernel)
theorem lc_X5_deathOf : Cond.code yX5_deathOf cX5_deathOf 2 (some .int) ∈ tblG := tblG_in 291 (by decide +kernel) (by decide +kernel)
theorem ln_X5_deathOf : Cond.instanceMethod yX5_deathOf ∈ tblG := tblG_in 290 (by decide +kernel) (by decide +kernel)
theorem lx_X5_deathOf : Cond.selects RX5 yX5_deathOf yX5_deathOf ∈ tblG := tblG_in 5 (by decide +kernel) (by decide +kernel)
theorem ca_X6_86 {a1 : Value} {d' : Nat} {rest : List Value} {v2 : Value} {w2 : W0} (hd : decode cc pc = .ok (.invokevirtual 86, 3)) (hM : Mt E d' yX5_deathOf cX5_deathOf 2 (some .int) [.ref (E.1 2), a1] w (some v2) w2) (hdd : d' + 1 ≤ d) (hr : (rest.map fun v => v.category).sum ≤ 8) (h : G E d RX6 cc nL ret rv w1 (pc + 3) lv (v2 :: rest) w2) : G E d RX6 cc nL ret rv w1 pc lv (a1 :: .ref (E.1 2) :: rest) w :=
  g_cvN (As := [a1]) (n := 1) (ci := 5) (rest := rest) hd lk_X6_86 ln_X5_deathOf lx_X5_deathOf li_X5 lc_X5_deathOf (by decide +kernel) (by decide) rfl rfl rfl (by decide) rfl hM hdd hr h
theorem lk_X6_89 : Cond.methodLinkNest RX6 89 yX5_setDeath "WardCourt" ∈ tblN := tblN_in 292 (by decide +kernel) (by decide +kernel)
theorem lc_X5_setDeath : Cond.code yX5_setDeath cX5_setDeath 3 (none) ∈ tblG := tblG_in 295 (by decide +kernel) (by decide +kernel)
theorem ln_X5_setDeath : Cond.instanceMethod yX5_setDeath ∈ tblG := tblG_in 294 (by decide +kernel) (by decide +kernel)
theorem lx_X5_setDeath : Cond.selects RX5 yX5_setDeath yX5_setDeath ∈ tblG := tblG_in 6 (by decide +kernel) (by decide +kernel)
theorem ca_X6_89 {a1 a2 : Value} {d' : Nat} {rest : List Value} {w2 : W0} (hd : decode cc pc = .ok (.invokevirtual 89, 3)) (hM : Mt E d' yX5_setDeath cX5_setDeath 3 (none) [.ref (E.1 2), a1, a2] w none w2) (hdd : d' + 1 ≤ d) (hr : (rest.map fun v => v.category).sum ≤ 8) (h : G E d RX6 cc nL ret rv w1 (pc + 3) lv (rest) w2) : G E d RX6 cc nL ret rv w1 pc lv (a2 :: a1 :: .ref (E.1 2) :: rest) w :=
  g_cvN (As := [a1, a2]) (n := 2) (ci := 5) (rest := rest) hd lk_X6_89 ln_X5_setDeath lx_X5_setDeath li_X5 lc_X5_setDeath (by decide +kernel) (by decide) rfl rfl rfl (by decide) rfl hM hdd hr h
theorem lk_X6_93 : Cond.constant RX6 93 (-100000001 : Int32) ∈ tblG := tblG_in 300 (by decide +kernel) (by decide +kernel)
theorem lk_X6_94 : Cond.methodLink RX6 94 yX6_settle ∈ tblG := tblG_in 301 (by decide +kernel) (by decide +kernel)
theorem lc_X6_settle : Cond.code yX6_settle cX6_settle 1 (none) ∈ tblG := tblG_in 304 (by decide +kernel) (by decide +kernel)
theorem ln_X6_settle : Cond.instanceMethod yX6_settle ∈ tblG := tblG_in 303 (by decide +kernel) (by decide +kernel)
theorem lx_X6_settle : Cond.selects RX6 yX6_settle yX6_settle ∈ tblG := tblG_in 7 (by decide +kernel) (by decide +kernel)
theorem ca_X6_94 {d' : Nat} {rest : List Value} {w2 : W0} (hd : decode cc pc = .ok (.invokevirtual 94, 3)) (hM : Mt E d' yX6_settle cX6_settle 1 (none) [.ref (E.1 0)] w none w2) (hdd : d' + 1 ≤ d) (hr : (rest.map fun v => v.category).sum ≤ 8) (h : G E d RX6 cc nL ret rv w1 (pc + 3) lv (rest) w2) : G E d RX6 cc nL ret rv w1 pc lv (.ref (E.1 0) :: rest) w :=
  g_cv (As := []) (n := 0) (ci := 6) (rest := rest) hd lk_X6_94 ln_X6_settle lx_X6_settle li_X6 lc_X6_settle (by decide +kernel) (by decide) rfl rfl rfl (by decide) rfl hM hdd hr h
theorem lk_X6_97 : Cond.methodLinkNest RX6 97 yX5_fullAgeOf "WardCourt" ∈ tblN := tblN_in 404 (by decide +kernel) (by decide +kernel)
theorem lc_X5_fullAgeOf : Cond.code yX5_fullAgeOf cX5_fullAgeOf 2 (some .int) ∈ tblG := tblG_in 407 (by decide +kernel) (by decide +kernel)
theorem ln_X5_fullAgeOf : Cond.instanceMethod yX5_fullAgeOf ∈ tblG := tblG_in 406 (by decide +kernel) (by decide +kernel)
theorem lx_X5_fullAgeOf : Cond.selects RX5 yX5_fullAgeOf yX5_fullAgeOf ∈ tblG := tblG_in 28 (by decide +kernel) (by decide +kernel)
theorem ca_X6_97 {a1 : Value} {d' : Nat} {rest : List Value} {v2 : Value} {w2 : W0} (hd : decode cc pc = .ok (.invokevirtual 97, 3)) (hM : Mt E d' yX5_fullAgeOf cX5_fullAgeOf 2 (some .int) [.ref (E.1 2), a1] w (some v2) w2) (hdd : d' + 1 ≤ d) (hr : (rest.map fun v => v.category).sum ≤ 8) (h : G E d RX6 cc nL ret rv w1 (pc + 3) lv (v2 :: rest) w2) : G E d RX6 cc nL ret rv w1 pc lv (a1 :: .ref (E.1 2) :: rest) w :=
  g_cvN (As := [a1]) (n := 1) (ci := 5) (rest := rest) hd lk_X6_97 ln_X5_fullAgeOf lx_X5_fullAgeOf li_X5 lc_X5_fullAgeOf (by decide +kernel) (by decide) rfl rfl rfl (by decide) rfl hM hdd hr h
theorem lk_X6_100 : Cond.methodLinkNest RX6 100 yX5_givenOverOf "WardCourt" ∈ tblN := tblN_in 408 (by decide +kernel) (by decide +kernel)
theorem lc_X5_givenOverOf : Cond.code yX5_givenOverOf cX5_givenOverOf 2 (some .int) ∈ tblG := tblG_in 411 (by decide +kernel) (by decide +kernel)
theorem ln_X5_givenOverOf : Cond.instanceMethod yX5_givenOverOf ∈ tblG := tblG_in 410 (by decide +kernel) (by decide +kernel)
theorem lx_X5_givenOverOf : Cond.selects RX5 yX5_givenOverOf yX5_givenOverOf ∈ tblG := tblG_in 29 (by decide +kernel) (by decide +kernel)
theorem ca_X6_100 {a1 : Value} {d' : Nat} {rest : List Value} {v2 : Value} {w2 : W0} (hd : decode cc pc = .ok (.invokevirtual 100, 3)) (hM : Mt E d' yX5_givenOverOf cX5_givenOverOf 2 (some .int) [.ref (E.1 2), a1] w (some v2) w2) (hdd : d' + 1 ≤ d) (hr : (rest.map fun v => v.category).sum ≤ 8) (h : G E d RX6 cc nL ret rv w1 (pc + 3) lv (v2 :: rest) w2) : G E d RX6 cc nL ret rv w1 pc lv (a1 :: .ref (E.1 2) :: rest) w :=
  g_cvN (As := [a1]) (n := 1) (ci := 5) (rest := rest) hd lk_X6_100 ln_X5_givenOverOf lx_X5_givenOverOf li_X5 lc_X5_givenOverOf (by decide +kernel) (by decide) rfl rfl rfl (by decide) rfl hM hdd hr h
theorem lk_X6_103 : Cond.methodLinkNest RX6 103 yX5_shareOf "WardCourt" ∈ tblN := tblN_in 412 (by decide +kernel) (by decide +kernel)
theorem lc_X5_shareOf : Cond.code yX5_shareOf cX5_shareOf 2 (some .int) ∈ tblG := tblG_in 415 (by decide +kernel) (by decide +kernel)
theorem ln_X5_shareOf : Cond.instanceMethod yX5_shareOf ∈ tblG := tblG_in 414 (by decide +kernel) (by decide +kernel)
theorem lx_X5_shareOf : Cond.selects RX5 yX5_shareOf yX5_shareOf ∈ tblG := tblG_in 30 (by decide +kernel) (by decide +kernel)
theorem ca_X6_103 {a1 : Value} {d' : Nat} {rest : List Value} {v2 : Value} {w2 : W0} (hd : decode cc pc = .ok (.invokevirtual 103, 3)) (hM : Mt E d' yX5_shareOf cX5_shareOf 2 (some .int) [.ref (E.1 2), a1] w (some v2) w2) (hdd : d' + 1 ≤ d) (hr : (rest.map fun v => v.category).sum ≤ 8) (h : G E d RX6 cc nL ret rv w1 (pc + 3) lv (v2 :: rest) w2) : G E d RX6 cc nL ret rv w1 pc lv (a1 :: .ref (E.1 2) :: rest) w :=
  g_cvN (As := [a1]) (n := 1) (ci := 5) (rest := rest) hd lk_X6_103 ln_X5_shareOf lx_X5_shareOf li_X5 lc_X5_shareOf (by decide +kernel) (by decide) rfl rfl rfl (by decide) rfl hM hdd hr h
theorem lk_X6_106 : Cond.constant RX6 106 (-100000002 : Int32) ∈ tblG := tblG_in 416 (by decide +kernel) (by decide +kernel)
theorem lk_X6_107 : Cond.methodLinkNest RX6 107 yX5_headsOn "WardCourt" ∈ tblN := tblN_in 421 (by decide +kernel) (by decide +kernel)
theorem ca_X6_107 {a1 : Value} {d' : Nat} {rest : List Value} {v2 : Value} {w2 : W0} (hd : decode cc pc = .ok (.invokevirtual 107, 3)) (hM : Mt E d' yX5_headsOn cX5_headsOn 5 (some .int) [.ref (E.1 2), a1] w (some v2) w2) (hdd : d' + 1 ≤ d) (hr : (rest.map fun v => v.category).sum ≤ 8) (h : G E d RX6 cc nL ret rv w1 (pc + 3) lv (v2 :: rest) w2) : G E d RX6 cc nL ret rv w1 pc lv (a1 :: .ref (E.1 2) :: rest) w :=
  g_cvN (As := [a1]) (n := 1) (ci := 5) (rest := rest) hd lk_X6_107 ln_X5_headsOn lx_X5_headsOn li_X5 lc_X5_headsOn (by decide +kernel) (by decide) rfl rfl rfl (by decide) rfl hM hdd hr h
theorem lk_X6_110 : Cond.methodLink RX6 110 yX6_isCoins ∈ tblG := tblG_in 426 (by decide +kernel) (by decide +kernel)
theorem lc_X6_isCoins : Cond.code yX6_isCoins cX6_isCoins 1 (some .boolean) ∈ tblG := tblG_in 428 (by decide +kernel) (by decide +kernel)
theorem ls_X6_isCoins : Cond.static yX6_isCoins ∈ tblG := tblG_in 427 (by decide +kernel) (by decide +kernel)
theorem ca_X6_110 {a1 : Value} {d' : Nat} {rest : List Value} {v2 : Value} {w2 : W0} (hd : decode cc pc = .ok (.invokestatic 110, 3)) (hM : Mt E d' yX6_isCoins cX6_isCoins 1 (some .boolean) [a1] w (some v2) w2) (hdd : d' + 1 ≤ d) (hr : (rest.map fun v => v.category).sum ≤ 8) (h : G E d RX6 cc nL ret rv w1 (pc + 3) lv (v2 :: rest) w2) : G E d RX6 cc nL ret rv w1 pc lv (a1 :: rest) w :=
  g_cs (As := [a1]) (n := 1) (rest := rest) hd lk_X6_110 ls_X6_isCoins li_X6 lc_X6_isCoins (by decide +kernel) (by decide) rfl hM hdd hr h
theorem lk_X6_113 : Cond.fieldLinkNest RX6 113 (TX4 2).1 (TX4 2).2.1 (TX4 2).2.2.1 "WardCourt" ∈ tblN := tblN_in 138 (by decide +kernel) (by decide +kernel)
theorem gf_X6_113 (hd : decode cc pc = .ok (.getfield 113, 3)) (h : G E d RX6 cc nL ret rv w1 (pc + 3) lv (.int (w 3 2) :: st) w) : G E d RX6 cc nL ret rv w1 pc lv (.ref (E.1 3) :: st) w := g_gfN (C := RX4) (T := TX4) (N := 3) (ci := 4) (k := 2) hd igX4 (by decide) rfl rfl rfl (by decide) lk_X6_113 rfl h
theorem lk_X6_114 : Cond.methodLinkNest RX6 114 yX4_add "WardCourt" ∈ tblN := tblN_in 429 (by decide +kernel) (by decide +kernel)
theorem lc_X4_add : Cond.code yX4_add cX4_add 2 (none) ∈ tblG := tblG_in 432 (by decide +kernel) (by decide +kernel)
theorem ln_X4_add : Cond.instanceMethod yX4_add ∈ tblG := tblG_in 431 (by decide +kernel) (by decide +kernel)
theorem lx_X4_add : Cond.selects RX4 yX4_add yX4_add ∈ tblG := tblG_in 31 (by decide +kernel) (by decide +kernel)
theorem ca_X6_114 {a1 : Value} {d' : Nat} {rest : List Value} {w2 : W0} (hd : decode cc pc = .ok (.invokevirtual 114, 3)) (hM : Mt E d' yX4_add cX4_add 2 (none) [.ref (E.1 3), a1] w none w2) (hdd : d' + 1 ≤ d) (hr : (rest.map fun v => v.category).sum ≤ 8) (h : G E d RX6 cc nL ret rv w1 (pc + 3) lv (rest) w2) : G E d RX6 cc nL ret rv w1 pc lv (a1 :: .ref (E.1 3) :: rest) w :=
  g_cvN (As := [a1]) (n := 1) (ci := 4) (rest := rest) hd lk_X6_114 ln_X4_add lx_X4_add li_X4 lc_X4_add (by decide +kernel) (by decide) rfl rfl rfl (by decide) rfl hM hdd hr h
theorem lk_X6_115 : Cond.methodLinkNest RX6 115 yX4_has "WardCourt" ∈ tblN := tblN_in 437 (by decide +kernel) (by decide +kernel)
theorem ca_X6_115 {a1 : Value} {d' : Nat} {rest : List Value} {v2 : Value} {w2 : W0} (hd : decode cc pc = .ok (.invokevirtual 115, 3)) (hM : Mt E d' yX4_has cX4_has 2 (some .boolean) [.ref (E.1 3), a1] w (some v2) w2) (hdd : d' + 1 ≤ d) (hr : (rest.map fun v => v.category).sum ≤ 8) (h : G E d RX6 cc nL ret rv w1 (pc + 3) lv (v2 :: rest) w2) : G E d RX6 cc nL ret rv w1 pc lv (a1 :: .ref (E.1 3) :: rest) w :=
  g_cvN (As := [a1]) (n := 1) (ci := 4) (rest := rest) hd lk_X6_115 ln_X4_has lx_X4_has li_X4 lc_X4_has (by decide +kernel) (by decide) rfl rfl rfl (by decide) rfl hM hdd hr h
theorem lk_X6_116 : Cond.methodLinkNest RX6 116 yX4_limitOf "WardCourt" ∈ tblN := tblN_in 438 (by decide +kernel) (by decide +kernel)
theorem ca_X6_116 {a1 : Value} {d' : Nat} {rest : List Value} {v2 : Value} {w2 : W0} (hd : decode cc pc = .ok (.invokevirtual 116, 3)) (hM : Mt E d' yX4_limitOf cX4_limitOf 2 (some .int) [.ref (E.1 3), a1] w (some v2) w2) (hdd : d' + 1 ≤ d) (hr : (rest.map fun v => v.category).sum ≤ 8) (h : G E d RX6 cc nL ret rv w1 (pc + 3) lv (v2 :: rest) w2) : G E d RX6 cc nL ret rv w1 pc lv (a1 :: .ref (E.1 3) :: rest) w :=
  g_cvN (As := [a1]) (n := 1) (ci := 4) (rest := rest) hd lk_X6_116 ln_X4_limitOf lx_X4_limitOf li_X4 lc_X4_limitOf (by decide +kernel) (by decide) rfl rfl rfl (by decide) rfl hM hdd hr h
theorem lk_X6_119 : Cond.methodLinkNest RX6 119 yX4_useOf "WardCourt" ∈ tblN := tblN_in 439 (by decide +kernel) (by decide +kernel)
theorem ca_X6_119 {a1 : Value} {d' : Nat} {rest : List Value} {v2 : Value} {w2 : W0} (hd : decode cc pc = .ok (.invokevirtual 119, 3)) (hM : Mt E d' yX4_useOf cX4_useOf 2 (some .int) [.ref (E.1 3), a1] w (some v2) w2) (hdd : d' + 1 ≤ d) (hr : (rest.map fun v => v.category).sum ≤ 8) (h : G E d RX6 cc nL ret rv w1 (pc + 3) lv (v2 :: rest) w2) : G E d RX6 cc nL ret rv w1 pc lv (a1 :: .ref (E.1 3) :: rest) w :=
  g_cvN (As := [a1]) (n := 1) (ci := 4) (rest := rest) hd lk_X6_119 ln_X4_useOf lx_X4_useOf li_X4 lc_X4_useOf (by decide +kernel) (by decide) rfl rfl rfl (by decide) rfl hM hdd hr h
theorem lk_X6_122 : Cond.methodLinkNest RX6 122 yX3_has "WardCourt" ∈ tblN := tblN_in 447 (by decide +kernel) (by decide +kernel)
theorem ca_X6_122 {a1 : Value} {d' : Nat} {rest : List Value} {v2 : Value} {w2 : W0} (hd : decode cc pc = .ok (.invokevirtual 122, 3)) (hM : Mt E d' yX3_has cX3_has 2 (some .boolean) [.ref (E.1 5), a1] w (some v2) w2) (hdd : d' + 1 ≤ d) (hr : (rest.map fun v => v.category).sum ≤ 8) (h : G E d RX6 cc nL ret rv w1 (pc + 3) lv (v2 :: rest) w2) : G E d RX6 cc nL ret rv w1 pc lv (a1 :: .ref (E.1 5) :: rest) w :=
  g_cvN (As := [a1]) (n := 1) (ci := 3) (rest := rest) hd lk_X6_122 ln_X3_has lx_X3_has li_X3 lc_X3_has (by decide +kernel) (by decide) rfl rfl rfl (by decide) rfl hM hdd hr h
theorem lk_X6_123 : Cond.fieldLinkNest RX6 123 (TX1 7).1 (TX1 7).2.1 (TX1 7).2.2.1 "WardCourt" ∈ tblN := tblN_in 160 (by decide +kernel) (by decide +kernel)
theorem gf_X6_123 (hd : decode cc pc = .ok (.getfield 123, 3)) (h : G E d RX6 cc nL ret rv w1 (pc + 3) lv (.int (w 4 7) :: st) w) : G E d RX6 cc nL ret rv w1 pc lv (.ref (E.1 4) :: st) w := g_gfN (C := RX1) (T := TX1) (N := 8) (ci := 1) (k := 7) hd igX1 (by decide) rfl rfl rfl (by decide) lk_X6_123 rfl h
theorem lk_X6_124 : Cond.methodLinkNest RX6 124 yX1_add "WardCourt" ∈ tblN := tblN_in 451 (by decide +kernel) (by decide +kernel)
theorem lc_X1_add : Cond.code yX1_add cX1_add 5 (none) ∈ tblG := tblG_in 454 (by decide +kernel) (by decide +kernel)
theorem ln_X1_add : Cond.instanceMethod yX1_add ∈ tblG := tblG_in 453 (by decide +kernel) (by decide +kernel)
theorem lx_X1_add : Cond.selects RX1 yX1_add yX1_add ∈ tblG := tblG_in 34 (by decide +kernel) (by decide +kernel)
theorem ca_X6_124 {a1 a2 a3 a4 : Value} {d' : Nat} {rest : List Value} {w2 : W0} (hd : decode cc pc = .ok (.invokevirtual 124, 3)) (hM : Mt E d' yX1_add cX1_add 5 (none) [.ref (E.1 4), a1, a2, a3, a4] w none w2) (hdd : d' + 1 ≤ d) (hr : (rest.map fun v => v.category).sum ≤ 8) (h : G E d RX6 cc nL ret rv w1 (pc + 3) lv (rest) w2) : G E d RX6 cc nL ret rv w1 pc lv (a4 :: a3 :: a2 :: a1 :: .ref (E.1 4) :: rest) w :=
  g_cvN (As := [a1, a2, a3, a4]) (n := 4) (ci := 1) (rest := rest) hd lk_X6_124 ln_X1_add lx_X1_add li_X1 lc_X1_add (by decide +kernel) (by decide) rfl rfl rfl (by decide) rfl hM hdd hr h
theorem lk_X6_127 : Cond.methodLinkNest RX6 127 yX4_wasUsed "WardCourt" ∈ tblN := tblN_in 459 (by decide +kernel) (by decide +kernel)
theorem lc_X4_wasUsed : Cond.code yX4_wasUsed cX4_wasUsed 2 (some .boolean) ∈ tblG := tblG_in 462 (by decide +kernel) (by decide +kernel)
theorem ln_X4_wasUsed : Cond.instanceMethod yX4_wasUsed ∈ tblG := tblG_in 461 (by decide +kernel) (by decide +kernel)
theorem lx_X4_wasUsed : Cond.selects RX4 yX4_wasUsed yX4_wasUsed ∈ tblG := tblG_in 35 (by decide +kernel) (by decide +kernel)
theorem ca_X6_127 {a1 : Value} {d' : Nat} {rest : List Value} {v2 : Value} {w2 : W0} (hd : decode cc pc = .ok (.invokevirtual 127, 3)) (hM : Mt E d' yX4_wasUsed cX4_wasUsed 2 (some .boolean) [.ref (E.1 3), a1] w (some v2) w2) (hdd : d' + 1 ≤ d) (hr : (rest.map fun v => v.category).sum ≤ 8) (h : G E d RX6 cc nL ret rv w1 (pc + 3) lv (v2 :: rest) w2) : G E d RX6 cc nL ret rv w1 pc lv (a1 :: .ref (E.1 3) :: rest) w :=
  g_cvN (As := [a1]) (n := 1) (ci := 4) (rest := rest) hd lk_X6_127 ln_X4_wasUsed lx_X4_wasUsed li_X4 lc_X4_wasUsed (by decide +kernel) (by decide) rfl rfl rfl (by decide) rfl hM hdd hr h
theorem lk_X6_130 : Cond.methodLinkNest RX6 130 yX4_use "WardCourt" ∈ tblN := tblN_in 464 (by decide +kernel) (by decide +kernel)
theorem lc_X4_use : Cond.code yX4_use cX4_use 3 (none) ∈ tblG := tblG_in 467 (by decide +kernel) (by decide +kernel)
theorem ln_X4_use : Cond.instanceMethod yX4_use ∈ tblG := tblG_in 466 (by decide +kernel) (by decide +kernel)
theorem lx_X4_use : Cond.selects RX4 yX4_use yX4_use ∈ tblG := tblG_in 36 (by decide +kernel) (by decide +kernel)
theorem ca_X6_130 {a1 a2 : Value} {d' : Nat} {rest : List Value} {w2 : W0} (hd : decode cc pc = .ok (.invokevirtual 130, 3)) (hM : Mt E d' yX4_use cX4_use 3 (none) [.ref (E.1 3), a1, a2] w none w2) (hdd : d' + 1 ≤ d) (hr : (rest.map fun v => v.category).sum ≤ 8) (h : G E d RX6 cc nL ret rv w1 (pc + 3) lv (rest) w2) : G E d RX6 cc nL ret rv w1 pc lv (a2 :: a1 :: .ref (E.1 3) :: rest) w :=
  g_cvN (As := [a1, a2]) (n := 2) (ci := 4) (rest := rest) hd lk_X6_130 ln_X4_use lx_X4_use li_X4 lc_X4_use (by decide +kernel) (by decide) rfl rfl rfl (by decide) rfl hM hdd hr h
theorem lk_X6_133 : Cond.methodLinkNest RX6 133 yX1_has "WardCourt" ∈ tblN := tblN_in 472 (by decide +kernel) (by decide +kernel)
theorem ca_X6_133 {a1 : Value} {d' : Nat} {rest : List Value} {v2 : Value} {w2 : W0} (hd : decode cc pc = .ok (.invokevirtual 133, 3)) (hM : Mt E d' yX1_has cX1_has 2 (some .boolean) [.ref (E.1 4), a1] w (some v2) w2) (hdd : d' + 1 ≤ d) (hr : (rest.map fun v => v.category).sum ≤ 8) (h : G E d RX6 cc nL ret rv w1 (pc + 3) lv (v2 :: rest) w2) : G E d RX6 cc nL ret rv w1 pc lv (a1 :: .ref (E.1 4) :: rest) w :=
  g_cvN (As := [a1]) (n := 1) (ci := 1) (rest := rest) hd lk_X6_133 ln_X1_has lx_X1_has li_X1 lc_X1_has (by decide +kernel) (by decide) rfl rfl rfl (by decide) rfl hM hdd hr h
theorem lk_X6_134 : Cond.methodLinkNest RX6 134 yX1_isReceipt "WardCourt" ∈ tblN := tblN_in 473 (by decide +kernel) (by decide +kernel)
theorem lc_X1_isReceipt : Cond.code yX1_isReceipt cX1_isReceipt 2 (some .boolean) ∈ tblG := tblG_in 476 (by decide +kernel) (by decide +kernel)
theorem ln_X1_isReceipt : Cond.instanceMethod yX1_isReceipt ∈ tblG := tblG_in 475 (by decide +kernel) (by decide +kernel)
theorem lx_X1_isReceipt : Cond.selects RX1 yX1_isReceipt yX1_isReceipt ∈ tblG := tblG_in 37 (by decide +kernel) (by decide +kernel)
theorem ca_X6_134 {a1 : Value} {d' : Nat} {rest : List Value} {v2 : Value} {w2 : W0} (hd : decode cc pc = .ok (.invokevirtual 134, 3)) (hM : Mt E d' yX1_isReceipt cX1_isReceipt 2 (some .boolean) [.ref (E.1 4), a1] w (some v2) w2) (hdd : d' + 1 ≤ d) (hr : (rest.map fun v => v.category).sum ≤ 8) (h : G E d RX6 cc nL ret rv w1 (pc + 3) lv (v2 :: rest) w2) : G E d RX6 cc nL ret rv w1 pc lv (a1 :: .ref (E.1 4) :: rest) w :=
  g_cvN (As := [a1]) (n := 1) (ci := 1) (rest := rest) hd lk_X6_134 ln_X1_isReceipt lx_X1_isReceipt li_X1 lc_X1_isReceipt (by decide +kernel) (by decide) rfl rfl rfl (by decide) rfl hM hdd hr h
theorem lk_X6_137 : Cond.methodLinkNest RX6 137 yX1_setVoucher "WardCourt" ∈ tblN := tblN_in 477 (by decide +kernel) (by decide +kernel)
theorem lc_X1_setVoucher : Cond.code yX1_setVoucher cX1_setVoucher 4 (some .boolean) ∈ tblG := tblG_in 480 (by decide +kernel) (by decide +kernel)
theorem ln_X1_setVoucher : Cond.instanceMethod yX1_setVoucher ∈ tblG := tblG_in 479 (by decide +kernel) (by decide +kernel)
theorem lx_X1_setVoucher : Cond.selects RX1 yX1_setVoucher yX1_setVoucher ∈ tblG := tblG_in 38 (by decide +kernel) (by decide +kernel)
theorem ca_X6_137 {a1 a2 : Value} {d' : Nat} {rest : List Value} {v2 : Value} {w2 : W0} (hd : decode cc pc = .ok (.invokevirtual 137, 3)) (hM : Mt E d' yX1_setVoucher cX1_setVoucher 4 (some .boolean) [.ref (E.1 4), a1, a2] w (some v2) w2) (hdd : d' + 1 ≤ d) (hr : (rest.map fun v => v.category).sum ≤ 8) (h : G E d RX6 cc nL ret rv w1 (pc + 3) lv (v2 :: rest) w2) : G E d RX6 cc nL ret rv w1 pc lv (a2 :: a1 :: .ref (E.1 4) :: rest) w :=
  g_cvN (As := [a1, a2]) (n := 2) (ci := 1) (rest := rest) hd lk_X6_137 ln_X1_setVoucher lx_X1_setVoucher li_X1 lc_X1_setVoucher (by decide +kernel) (by decide) rfl rfl rfl (by decide) rfl hM hdd hr h
theorem lk_X6_141 : Cond.methodLinkNest RX6 141 yX1_setChallenge "WardCourt" ∈ tblN := tblN_in 485 (by decide +kernel) (by decide +kernel)
theorem lc_X1_setChallenge : Cond.code yX1_setChallenge cX1_setChallenge 4 (some .boolean) ∈ tblG := tblG_in 488 (by decide +kernel) (by decide +kernel)
theorem ln_X1_setChallenge : Cond.instanceMethod yX1_setChallenge ∈ tblG := tblG_in 487 (by decide +kernel) (by decide +kernel)
theorem lx_X1_setChallenge : Cond.selects RX1 yX1_setChallenge yX1_setChallenge ∈ tblG := tblG_in 39 (by decide +kernel) (by decide +kernel)
theorem ca_X6_141 {a1 a2 : Value} {d' : Nat} {rest : List Value} {v2 : Value} {w2 : W0} (hd : decode cc pc = .ok (.invokevirtual 141, 3)) (hM : Mt E d' yX1_setChallenge cX1_setChallenge 4 (some .boolean) [.ref (E.1 4), a1, a2] w (some v2) w2) (hdd : d' + 1 ≤ d) (hr : (rest.map fun v => v.category).sum ≤ 8) (h : G E d RX6 cc nL ret rv w1 (pc + 3) lv (v2 :: rest) w2) : G E d RX6 cc nL ret rv w1 pc lv (a2 :: a1 :: .ref (E.1 4) :: rest) w :=
  g_cvN (As := [a1, a2]) (n := 2) (ci := 1) (rest := rest) hd lk_X6_141 ln_X1_setChallenge lx_X1_setChallenge li_X1 lc_X1_setChallenge (by decide +kernel) (by decide) rfl rfl rfl (by decide) rfl hM hdd hr h
theorem lk_X6_144 : Cond.methodLinkNest RX6 144 yX1_barsOf "WardCourt" ∈ tblN := tblN_in 493 (by decide +kernel) (by decide +kernel)
theorem ca_X6_144 {a1 a2 a3 : Value} {d' : Nat} {rest : List Value} {v2 : Value} {w2 : W0} (hd : decode cc pc = .ok (.invokevirtual 144, 3)) (hM : Mt E d' yX1_barsOf cX1_barsOf 6 (some .int) [.ref (E.1 4), a1, a2, a3] w (some v2) w2) (hdd : d' + 1 ≤ d) (hr : (rest.map fun v => v.category).sum ≤ 8) (h : G E d RX6 cc nL ret rv w1 (pc + 3) lv (v2 :: rest) w2) : G E d RX6 cc nL ret rv w1 pc lv (a3 :: a2 :: a1 :: .ref (E.1 4) :: rest) w :=
  g_cvN (As := [a1, a2, a3]) (n := 3) (ci := 1) (rest := rest) hd lk_X6_144 ln_X1_barsOf lx_X1_barsOf li_X1 lc_X1_barsOf (by decide +kernel) (by decide) rfl rfl rfl (by decide) rfl hM hdd hr h
theorem lk_X6_148 : Cond.fieldLinkNest RX6 148 (TX3 4).1 (TX3 4).2.1 (TX3 4).2.2.1 "WardCourt" ∈ tblN := tblN_in 190 (by decide +kernel) (by decide +kernel)
theorem gf_X6_148 (hd : decode cc pc = .ok (.getfield 148, 3)) (h : G E d RX6 cc nL ret rv w1 (pc + 3) lv (.int (w 5 4) :: st) w) : G E d RX6 cc nL ret rv w1 pc lv (.ref (E.1 5) :: st) w := g_gfN (C := RX3) (T := TX3) (N := 5) (ci := 3) (k := 4) hd igX3 (by decide) rfl rfl rfl (by decide) lk_X6_148 rfl h
theorem lk_X6_149 : Cond.methodLinkNest RX6 149 yX3_add "WardCourt" ∈ tblN := tblN_in 498 (by decide +kernel) (by decide +kernel)
theorem lc_X3_add : Cond.code yX3_add cX3_add 5 (none) ∈ tblG := tblG_in 501 (by decide +kernel) (by decide +kernel)
theorem ln_X3_add : Cond.instanceMethod yX3_add ∈ tblG := tblG_in 500 (by decide +kernel) (by decide +kernel)
theorem lx_X3_add : Cond.selects RX3 yX3_add yX3_add ∈ tblG := tblG_in 40 (by decide +kernel) (by decide +kernel)
theorem ca_X6_149 {a1 a2 a3 a4 : Value} {d' : Nat} {rest : List Value} {w2 : W0} (hd : decode cc pc = .ok (.invokevirtual 149, 3)) (hM : Mt E d' yX3_add cX3_add 5 (none) [.ref (E.1 5), a1, a2, a3, a4] w none w2) (hdd : d' + 1 ≤ d) (hr : (rest.map fun v => v.category).sum ≤ 8) (h : G E d RX6 cc nL ret rv w1 (pc + 3) lv (rest) w2) : G E d RX6 cc nL ret rv w1 pc lv (a4 :: a3 :: a2 :: a1 :: .ref (E.1 5) :: rest) w :=
  g_cvN (As := [a1, a2, a3, a4]) (n := 4) (ci := 3) (rest := rest) hd lk_X6_149 ln_X3_add lx_X3_add li_X3 lc_X3_add (by decide +kernel) (by decide) rfl rfl rfl (by decide) rfl hM hdd hr h
theorem lk_X6_152 : Cond.methodLinkNest RX6 152 yX3_flawsOf "WardCourt" ∈ tblN := tblN_in 506 (by decide +kernel) (by decide +kernel)
theorem lc_X3_flawsOf : Cond.code yX3_flawsOf cX3_flawsOf 5 (some .int) ∈ tblG := tblG_in 509 (by decide +kernel) (by decide +kernel)
theorem ln_X3_flawsOf : Cond.instanceMethod yX3_flawsOf ∈ tblG := tblG_in 508 (by decide +kernel) (by decide +kernel)
theorem lx_X3_flawsOf : Cond.selects RX3 yX3_flawsOf yX3_flawsOf ∈ tblG := tblG_in 41 (by decide +kernel) (by decide +kernel)
theorem ca_X6_152 {a1 a2 a3 : Value} {d' : Nat} {rest : List Value} {v2 : Value} {w2 : W0} (hd : decode cc pc = .ok (.invokevirtual 152, 3)) (hM : Mt E d' yX3_flawsOf cX3_flawsOf 5 (some .int) [.ref (E.1 5), a1, a2, a3] w (some v2) w2) (hdd : d' + 1 ≤ d) (hr : (rest.map fun v => v.category).sum ≤ 8) (h : G E d RX6 cc nL ret rv w1 (pc + 3) lv (v2 :: rest) w2) : G E d RX6 cc nL ret rv w1 pc lv (a3 :: a2 :: a1 :: .ref (E.1 5) :: rest) w :=
  g_cvN (As := [a1, a2, a3]) (n := 3) (ci := 3) (rest := rest) hd lk_X6_152 ln_X3_flawsOf lx_X3_flawsOf li_X3 lc_X3_flawsOf (by decide +kernel) (by decide) rfl rfl rfl (by decide) rfl hM hdd hr h
theorem lk_X6_155 : Cond.methodLinkNest RX6 155 yX3_dueBy "WardCourt" ∈ tblN := tblN_in 517 (by decide +kernel) (by decide +kernel)
theorem lc_X3_dueBy : Cond.code yX3_dueBy cX3_dueBy 4 (some .int) ∈ tblG := tblG_in 520 (by decide +kernel) (by decide +kernel)
theorem ln_X3_dueBy : Cond.instanceMethod yX3_dueBy ∈ tblG := tblG_in 519 (by decide +kernel) (by decide +kernel)
theorem lx_X3_dueBy : Cond.selects RX3 yX3_dueBy yX3_dueBy ∈ tblG := tblG_in 42 (by decide +kernel) (by decide +kernel)
theorem ca_X6_155 {a1 a2 : Value} {d' : Nat} {rest : List Value} {v2 : Value} {w2 : W0} (hd : decode cc pc = .ok (.invokevirtual 155, 3)) (hM : Mt E d' yX3_dueBy cX3_dueBy 4 (some .int) [.ref (E.1 5), a1, a2] w (some v2) w2) (hdd : d' + 1 ≤ d) (hr : (rest.map fun v => v.category).sum ≤ 8) (h : G E d RX6 cc nL ret rv w1 (pc + 3) lv (v2 :: rest) w2) : G E d RX6 cc nL ret rv w1 pc lv (a2 :: a1 :: .ref (E.1 5) :: rest) w :=
  g_cvN (As := [a1, a2]) (n := 2) (ci := 3) (rest := rest) hd lk_X6_155 ln_X3_dueBy lx_X3_dueBy li_X3 lc_X3_dueBy (by decide +kernel) (by decide) rfl rfl rfl (by decide) rfl hM hdd hr h
theorem lk_X6_158 : Cond.methodLinkNest RX6 158 yX1_hadOf "WardCourt" ∈ tblN := tblN_in 524 (by decide +kernel) (by decide +kernel)
theorem lc_X1_hadOf : Cond.code yX1_hadOf cX1_hadOf 5 (some .int) ∈ tblG := tblG_in 527 (by decide +kernel) (by decide +kernel)
theorem ln_X1_hadOf : Cond.instanceMethod yX1_hadOf ∈ tblG := tblG_in 526 (by decide +kernel) (by decide +kernel)
theorem lx_X1_hadOf : Cond.selects RX1 yX1_hadOf yX1_hadOf ∈ tblG := tblG_in 43 (by decide +kernel) (by decide +kernel)
theorem ca_X6_158 {a1 a2 : Value} {d' : Nat} {rest : List Value} {v2 : Value} {w2 : W0} (hd : decode cc pc = .ok (.invokevirtual 158, 3)) (hM : Mt E d' yX1_hadOf cX1_hadOf 5 (some .int) [.ref (E.1 4), a1, a2] w (some v2) w2) (hdd : d' + 1 ≤ d) (hr : (rest.map fun v => v.category).sum ≤ 8) (h : G E d RX6 cc nL ret rv w1 (pc + 3) lv (v2 :: rest) w2) : G E d RX6 cc nL ret rv w1 pc lv (a2 :: a1 :: .ref (E.1 4) :: rest) w :=
  g_cvN (As := [a1, a2]) (n := 2) (ci := 1) (rest := rest) hd lk_X6_158 ln_X1_hadOf lx_X1_hadOf li_X1 lc_X1_hadOf (by decide +kernel) (by decide) rfl rfl rfl (by decide) rfl hM hdd hr h
theorem lk_X6_161 : Cond.methodLinkNest RX6 161 yX0_potAfter "WardCourt" ∈ tblN := tblN_in 532 (by decide +kernel) (by decide +kernel)
theorem lc_X0_potAfter : Cond.code yX0_potAfter cX0_potAfter 9 (some .int) ∈ tblG := tblG_in 535 (by decide +kernel) (by decide +kernel)
theorem ln_X0_potAfter : Cond.instanceMethod yX0_potAfter ∈ tblG := tblG_in 534 (by decide +kernel) (by decide +kernel)
theorem lx_X0_potAfter : Cond.selects RX0 yX0_potAfter yX0_potAfter ∈ tblG := tblG_in 44 (by decide +kernel) (by decide +kernel)
theorem ca_X6_161 {a1 a2 a3 : Value} {d' : Nat} {rest : List Value} {v2 : Value} {w2 : W0} (hd : decode cc pc = .ok (.invokevirtual 161, 3)) (hM : Mt E d' yX0_potAfter cX0_potAfter 9 (some .int) [.ref (E.1 6), a1, a2, a3] w (some v2) w2) (hdd : d' + 1 ≤ d) (hr : (rest.map fun v => v.category).sum ≤ 8) (h : G E d RX6 cc nL ret rv w1 (pc + 3) lv (v2 :: rest) w2) : G E d RX6 cc nL ret rv w1 pc lv (a3 :: a2 :: a1 :: .ref (E.1 6) :: rest) w :=
  g_cvN (As := [a1, a2, a3]) (n := 3) (ci := 0) (rest := rest) hd lk_X6_161 ln_X0_potAfter lx_X0_potAfter li_X0 lc_X0_potAfter (by decide +kernel) (by decide) rfl rfl rfl (by decide) rfl hM hdd hr h
theorem lk_X6_165 : Cond.methodLink RX6 165 yX6_isYear ∈ tblG := tblG_in 550 (by decide +kernel) (by decide +kernel)
theorem ca_X6_165 {a1 : Value} {d' : Nat} {rest : List Value} {v2 : Value} {w2 : W0} (hd : decode cc pc = .ok (.invokestatic 165, 3)) (hM : Mt E d' yX6_isYear cX6_isYear 1 (some .boolean) [a1] w (some v2) w2) (hdd : d' + 1 ≤ d) (hr : (rest.map fun v => v.category).sum ≤ 8) (h : G E d RX6 cc nL ret rv w1 (pc + 3) lv (v2 :: rest) w2) : G E d RX6 cc nL ret rv w1 pc lv (a1 :: rest) w :=
  g_cs (As := [a1]) (n := 1) (rest := rest) hd lk_X6_165 ls_X6_isYear li_X6 lc_X6_isYear (by decide +kernel) (by decide) rfl hM hdd hr h
theorem lk_X6_168 : Cond.methodLinkNest RX6 168 yX0_entry "WardCourt" ∈ tblN := tblN_in 551 (by decide +kernel) (by decide +kernel)
theorem ca_X6_168 {a1 a2 : Value} {d' : Nat} {rest : List Value} {v2 : Value} {w2 : W0} (hd : decode cc pc = .ok (.invokevirtual 168, 3)) (hM : Mt E d' yX0_entry cX0_entry 3 (some .int) [.ref (E.1 6), a1, a2] w (some v2) w2) (hdd : d' + 1 ≤ d) (hr : (rest.map fun v => v.category).sum ≤ 8) (h : G E d RX6 cc nL ret rv w1 (pc + 3) lv (v2 :: rest) w2) : G E d RX6 cc nL ret rv w1 pc lv (a2 :: a1 :: .ref (E.1 6) :: rest) w :=
  g_cvN (As := [a1, a2]) (n := 2) (ci := 0) (rest := rest) hd lk_X6_168 ln_X0_entry lx_X0_entry li_X0 lc_X0_entry (by decide +kernel) (by decide) rfl rfl rfl (by decide) rfl hM hdd hr h
theorem lk_X6_171 : Cond.methodLinkNest RX6 171 yX0_keep "WardCourt" ∈ tblN := tblN_in 556 (by decide +kernel) (by decide +kernel)
theorem lc_X0_keep : Cond.code yX0_keep cX0_keep 3 (none) ∈ tblG := tblG_in 559 (by decide +kernel) (by decide +kernel)
theorem ln_X0_keep : Cond.instanceMethod yX0_keep ∈ tblG := tblG_in 558 (by decide +kernel) (by decide +kernel)
theorem lx_X0_keep : Cond.selects RX0 yX0_keep yX0_keep ∈ tblG := tblG_in 47 (by decide +kernel) (by decide +kernel)
theorem ca_X6_171 {a1 : Value} {d' : Nat} {rest : List Value} {w2 : W0} (hd : decode cc pc = .ok (.invokevirtual 171, 3)) (hM : Mt E d' yX0_keep cX0_keep 3 (none) [.ref (E.1 6), a1] w none w2) (hdd : d' + 1 ≤ d) (hr : (rest.map fun v => v.category).sum ≤ 8) (h : G E d RX6 cc nL ret rv w1 (pc + 3) lv (rest) w2) : G E d RX6 cc nL ret rv w1 pc lv (a1 :: .ref (E.1 6) :: rest) w :=
  g_cvN (As := [a1]) (n := 1) (ci := 0) (rest := rest) hd lk_X6_171 ln_X0_keep lx_X0_keep li_X0 lc_X0_keep (by decide +kernel) (by decide) rfl rfl rfl (by decide) rfl hM hdd hr h
theorem lk_X6_174 : Cond.methodLinkNest RX6 174 yX0_wasKept "WardCourt" ∈ tblN := tblN_in 564 (by decide +kernel) (by decide +kernel)
theorem ca_X6_174 {a1 : Value} {d' : Nat} {rest : List Value} {v2 : Value} {w2 : W0} (hd : decode cc pc = .ok (.invokevirtual 174, 3)) (hM : Mt E d' yX0_wasKept cX0_wasKept 2 (some .boolean) [.ref (E.1 6), a1] w (some v2) w2) (hdd : d' + 1 ≤ d) (hr : (rest.map fun v => v.category).sum ≤ 8) (h : G E d RX6 cc nL ret rv w1 (pc + 3) lv (v2 :: rest) w2) : G E d RX6 cc nL ret rv w1 pc lv (a1 :: .ref (E.1 6) :: rest) w :=
  g_cvN (As := [a1]) (n := 1) (ci := 0) (rest := rest) hd lk_X6_174 ln_X0_wasKept lx_X0_wasKept li_X0 lc_X0_wasKept (by decide +kernel) (by decide) rfl rfl rfl (by decide) rfl hM hdd hr h
theorem lk_X6_177 : Cond.constant RX6 177 (-100000003 : Int32) ∈ tblG := tblG_in 568 (by decide +kernel) (by decide +kernel)
theorem lk_X6_178 : Cond.methodLinkNest RX6 178 yX0_keptEntry "WardCourt" ∈ tblN := tblN_in 569 (by decide +kernel) (by decide +kernel)
theorem ca_X6_178 {a1 a2 : Value} {d' : Nat} {rest : List Value} {v2 : Value} {w2 : W0} (hd : decode cc pc = .ok (.invokevirtual 178, 3)) (hM : Mt E d' yX0_keptEntry cX0_keptEntry 3 (some .int) [.ref (E.1 6), a1, a2] w (some v2) w2) (hdd : d' + 1 ≤ d) (hr : (rest.map fun v => v.category).sum ≤ 8) (h : G E d RX6 cc nL ret rv w1 (pc + 3) lv (v2 :: rest) w2) : G E d RX6 cc nL ret rv w1 pc lv (a2 :: a1 :: .ref (E.1 6) :: rest) w :=
  g_cvN (As := [a1, a2]) (n := 2) (ci := 0) (rest := rest) hd lk_X6_178 ln_X0_keptEntry lx_X0_keptEntry li_X0 lc_X0_keptEntry (by decide +kernel) (by decide) rfl rfl rfl (by decide) rfl hM hdd hr h
theorem lk_X6_181 : Cond.methodLinkNest RX6 181 yX0_changedYears "WardCourt" ∈ tblN := tblN_in 577 (by decide +kernel) (by decide +kernel)
theorem lc_X0_changedYears : Cond.code yX0_changedYears cX0_changedYears 3 (some .int) ∈ tblG := tblG_in 580 (by decide +kernel) (by decide +kernel)
theorem ln_X0_changedYears : Cond.instanceMethod yX0_changedYears ∈ tblG := tblG_in 579 (by decide +kernel) (by decide +kernel)
theorem lx_X0_changedYears : Cond.selects RX0 yX0_changedYears yX0_changedYears ∈ tblG := tblG_in 50 (by decide +kernel) (by decide +kernel)
theorem ca_X6_181 {d' : Nat} {rest : List Value} {v2 : Value} {w2 : W0} (hd : decode cc pc = .ok (.invokevirtual 181, 3)) (hM : Mt E d' yX0_changedYears cX0_changedYears 3 (some .int) [.ref (E.1 6)] w (some v2) w2) (hdd : d' + 1 ≤ d) (hr : (rest.map fun v => v.category).sum ≤ 8) (h : G E d RX6 cc nL ret rv w1 (pc + 3) lv (v2 :: rest) w2) : G E d RX6 cc nL ret rv w1 pc lv (.ref (E.1 6) :: rest) w :=
  g_cvN (As := []) (n := 0) (ci := 0) (rest := rest) hd lk_X6_181 ln_X0_changedYears lx_X0_changedYears li_X0 lc_X0_changedYears (by decide +kernel) (by decide) rfl rfl rfl (by decide) rfl hM hdd hr h
theorem lk_X6_185 : Cond.fieldLinkNest RX6 185 (TX0 2).1 (TX0 2).2.1 (TX0 2).2.2.1 "WardCourt" ∈ tblN := tblN_in 212 (by decide +kernel) (by decide +kernel)
theorem gf_X6_185 (hd : decode cc pc = .ok (.getfield 185, 3)) (h : G E d RX6 cc nL ret rv w1 (pc + 3) lv (.int (w 6 2) :: st) w) : G E d RX6 cc nL ret rv w1 pc lv (.ref (E.1 6) :: st) w := g_gfN (C := RX0) (T := TX0) (N := 3) (ci := 0) (k := 2) hd igX0 (by decide) rfl rfl rfl (by decide) lk_X6_185 rfl h
theorem lk_X6_188 : Cond.methodLinkNest RX6 188 yX5_settleDays "WardCourt" ∈ tblN := tblN_in 305 (by decide +kernel) (by decide +kernel)
theorem lc_X5_settleDays : Cond.code yX5_settleDays cX5_settleDays 4 (none) ∈ tblG := tblG_in 308 (by decide +kernel) (by decide +kernel)
theorem ln_X5_settleDays : Cond.instanceMethod yX5_settleDays ∈ tblG := tblG_in 307 (by decide +kernel) (by decide +kernel)
theorem lx_X5_settleDays : Cond.selects RX5 yX5_settleDays yX5_settleDays ∈ tblG := tblG_in 8 (by decide +kernel) (by decide +kernel)
theorem ca_X6_188 {a1 : Value} {d' : Nat} {rest : List Value} {w2 : W0} (hd : decode cc pc = .ok (.invokevirtual 188, 3)) (hM : Mt E d' yX5_settleDays cX5_settleDays 4 (none) [.ref (E.1 2), a1] w none w2) (hdd : d' + 1 ≤ d) (hr : (rest.map fun v => v.category).sum ≤ 8) (h : G E d RX6 cc nL ret rv w1 (pc + 3) lv (rest) w2) : G E d RX6 cc nL ret rv w1 pc lv (a1 :: .ref (E.1 2) :: rest) w :=
  g_cvN (As := [a1]) (n := 1) (ci := 5) (rest := rest) hd lk_X6_188 ln_X5_settleDays lx_X5_settleDays li_X5 lc_X5_settleDays (by decide +kernel) (by decide) rfl rfl rfl (by decide) rfl hM hdd hr h
theorem lk_X6_192 : Cond.methodLinkNest RX6 192 yX1_settleAllowed "WardCourt" ∈ tblN := tblN_in 322 (by decide +kernel) (by decide +kernel)
theorem lc_X1_settleAllowed : Cond.code yX1_settleAllowed cX1_settleAllowed 4 (none) ∈ tblG := tblG_in 325 (by decide +kernel) (by decide +kernel)
theorem ln_X1_settleAllowed : Cond.instanceMethod yX1_settleAllowed ∈ tblG := tblG_in 324 (by decide +kernel) (by decide +kernel)
theorem lx_X1_settleAllowed : Cond.selects RX1 yX1_settleAllowed yX1_settleAllowed ∈ tblG := tblG_in 12 (by decide +kernel) (by decide +kernel)
theorem ca_X6_192 {a1 a2 : Value} {d' : Nat} {rest : List Value} {w2 : W0} (hd : decode cc pc = .ok (.invokevirtual 192, 3)) (hM : Mt E d' yX1_settleAllowed cX1_settleAllowed 4 (none) [.ref (E.1 4), a1, a2] w none w2) (hdd : d' + 1 ≤ d) (hr : (rest.map fun v => v.category).sum ≤ 8) (h : G E d RX6 cc nL ret rv w1 (pc + 3) lv (rest) w2) : G E d RX6 cc nL ret rv w1 pc lv (a2 :: a1 :: .ref (E.1 4) :: rest) w :=
  g_cvN (As := [a1, a2]) (n := 2) (ci := 1) (rest := rest) hd lk_X6_192 ln_X1_settleAllowed lx_X1_settleAllowed li_X1 lc_X1_settleAllowed (by decide +kernel) (by decide) rfl rfl rfl (by decide) rfl hM hdd hr h
theorem lk_X6_196 : Cond.methodLinkNest RX6 196 yX0_reckon "WardCourt" ∈ tblN := tblN_in 347 (by decide +kernel) (by decide +kernel)
theorem lc_X0_reckon : Cond.code yX0_reckon cX0_reckon 6 (none) ∈ tblG := tblG_in 350 (by decide +kernel) (by decide +kernel)
theorem ln_X0_reckon : Cond.instanceMethod yX0_reckon ∈ tblG := tblG_in 349 (by decide +kernel) (by decide +kernel)
theorem lx_X0_reckon : Cond.selects RX0 yX0_reckon yX0_reckon ∈ tblG := tblG_in 18 (by decide +kernel) (by decide +kernel)
theorem ca_X6_196 {a1 a2 a3 : Value} {d' : Nat} {rest : List Value} {w2 : W0} (hd : decode cc pc = .ok (.invokevirtual 196, 3)) (hM : Mt E d' yX0_reckon cX0_reckon 6 (none) [.ref (E.1 6), a1, a2, a3] w none w2) (hdd : d' + 1 ≤ d) (hr : (rest.map fun v => v.category).sum ≤ 8) (h : G E d RX6 cc nL ret rv w1 (pc + 3) lv (rest) w2) : G E d RX6 cc nL ret rv w1 pc lv (a3 :: a2 :: a1 :: .ref (E.1 6) :: rest) w :=
  g_cvN (As := [a1, a2, a3]) (n := 3) (ci := 0) (rest := rest) hd lk_X6_196 ln_X0_reckon lx_X0_reckon li_X0 lc_X0_reckon (by decide +kernel) (by decide) rfl rfl rfl (by decide) rfl hM hdd hr h
theorem lk_X7_7 : Cond.fieldLink RX7 7 (TX7 1).1 (TX7 1).2.1 (TX7 1).2.2.1 ∈ tblG := tblG_in 598 (by decide +kernel) (by decide +kernel)
theorem gf_X7_7 (hd : decode cc pc = .ok (.getfield 7, 3)) (h : G E d RX7 cc nL ret rv w1 (pc + 3) lv (.ref (E.1 58) :: st) w) : G E d RX7 cc nL ret rv w1 pc lv (.ref (E.1 57) :: st) w := g_gf (C := RX7) (T := TX7) (N := 29) (ci := 7) (k := 1) hd igX7 (by decide) rfl rfl rfl (by decide) lk_X7_7 rfl h
theorem lk_X7_13 : Cond.fieldLink RX7 13 (TX7 2).1 (TX7 2).2.1 (TX7 2).2.2.1 ∈ tblG := tblG_in 599 (by decide +kernel) (by decide +kernel)
theorem gf_X7_13 (hd : decode cc pc = .ok (.getfield 13, 3)) (h : G E d RX7 cc nL ret rv w1 (pc + 3) lv (.ref (E.1 59) :: st) w) : G E d RX7 cc nL ret rv w1 pc lv (.ref (E.1 57) :: st) w := g_gf (C := RX7) (T := TX7) (N := 29) (ci := 7) (k := 2) hd igX7 (by decide) rfl rfl rfl (by decide) lk_X7_13 rfl h
theorem lk_X7_16 : Cond.fieldLink RX7 16 (TX7 4).1 (TX7 4).2.1 (TX7 4).2.2.1 ∈ tblG := tblG_in 601 (by decide +kernel) (by decide +kernel)
theorem gf_X7_16 (hd : decode cc pc = .ok (.getfield 16, 3)) (h : G E d RX7 cc nL ret rv w1 (pc + 3) lv (.ref (E.1 60) :: st) w) : G E d RX7 cc nL ret rv w1 pc lv (.ref (E.1 57) :: st) w := g_gf (C := RX7) (T := TX7) (N := 29) (ci := 7) (k := 4) hd igX7 (by decide) rfl rfl rfl (by decide) lk_X7_16 rfl h
theorem lk_X7_19 : Cond.fieldLink RX7 19 (TX7 5).1 (TX7 5).2.1 (TX7 5).2.2.1 ∈ tblG := tblG_in 602 (by decide +kernel) (by decide +kernel)
theorem gf_X7_19 (hd : decode cc pc = .ok (.getfield 19, 3)) (h : G E d RX7 cc nL ret rv w1 (pc + 3) lv (.ref (E.1 61) :: st) w) : G E d RX7 cc nL ret rv w1 pc lv (.ref (E.1 57) :: st) w := g_gf (C := RX7) (T := TX7) (N := 29) (ci := 7) (k := 5) hd igX7 (by decide) rfl rfl rfl (by decide) lk_X7_19 rfl h
theorem lk_X7_22 : Cond.fieldLink RX7 22 (TX7 7).1 (TX7 7).2.1 (TX7 7).2.2.1 ∈ tblG := tblG_in 604 (by decide +kernel) (by decide +kernel)
theorem gf_X7_22 (hd : decode cc pc = .ok (.getfield 22, 3)) (h : G E d RX7 cc nL ret rv w1 (pc + 3) lv (.ref (E.1 62) :: st) w) : G E d RX7 cc nL ret rv w1 pc lv (.ref (E.1 57) :: st) w := g_gf (C := RX7) (T := TX7) (N := 29) (ci := 7) (k := 7) hd igX7 (by decide) rfl rfl rfl (by decide) lk_X7_22 rfl h
theorem lk_X7_25 : Cond.fieldLink RX7 25 (TX7 8).1 (TX7 8).2.1 (TX7 8).2.2.1 ∈ tblG := tblG_in 605 (by decide +kernel) (by decide +kernel)
theorem gf_X7_25 (hd : decode cc pc = .ok (.getfield 25, 3)) (h : G E d RX7 cc nL ret rv w1 (pc + 3) lv (.ref (E.1 63) :: st) w) : G E d RX7 cc nL ret rv w1 pc lv (.ref (E.1 57) :: st) w := g_gf (C := RX7) (T := TX7) (N := 29) (ci := 7) (k := 8) hd igX7 (by decide) rfl rfl rfl (by decide) lk_X7_25 rfl h
theorem lk_X7_28 : Cond.fieldLink RX7 28 (TX7 10).1 (TX7 10).2.1 (TX7 10).2.2.1 ∈ tblG := tblG_in 607 (by decide +kernel) (by decide +kernel)
theorem gf_X7_28 (hd : decode cc pc = .ok (.getfield 28, 3)) (h : G E d RX7 cc nL ret rv w1 (pc + 3) lv (.ref (E.1 64) :: st) w) : G E d RX7 cc nL ret rv w1 pc lv (.ref (E.1 57) :: st) w := g_gf (C := RX7) (T := TX7) (N := 29) (ci := 7) (k := 10) hd igX7 (by decide) rfl rfl rfl (by decide) lk_X7_28 rfl h
theorem lk_X7_32 : Cond.fieldLink RX7 32 (TX7 11).1 (TX7 11).2.1 (TX7 11).2.2.1 ∈ tblG := tblG_in 608 (by decide +kernel) (by decide +kernel)
theorem gf_X7_32 (hd : decode cc pc = .ok (.getfield 32, 3)) (h : G E d RX7 cc nL ret rv w1 (pc + 3) lv (.ref (E.1 65) :: st) w) : G E d RX7 cc nL ret rv w1 pc lv (.ref (E.1 57) :: st) w := g_gf (C := RX7) (T := TX7) (N := 29) (ci := 7) (k := 11) hd igX7 (by decide) rfl rfl rfl (by decide) lk_X7_32 rfl h
theorem lk_X7_35 : Cond.fieldLink RX7 35 (TX7 12).1 (TX7 12).2.1 (TX7 12).2.2.1 ∈ tblG := tblG_in 609 (by decide +kernel) (by decide +kernel)
theorem gf_X7_35 (hd : decode cc pc = .ok (.getfield 35, 3)) (h : G E d RX7 cc nL ret rv w1 (pc + 3) lv (.ref (E.1 66) :: st) w) : G E d RX7 cc nL ret rv w1 pc lv (.ref (E.1 57) :: st) w := g_gf (C := RX7) (T := TX7) (N := 29) (ci := 7) (k := 12) hd igX7 (by decide) rfl rfl rfl (by decide) lk_X7_35 rfl h
theorem lk_X7_38 : Cond.fieldLink RX7 38 (TX7 13).1 (TX7 13).2.1 (TX7 13).2.2.1 ∈ tblG := tblG_in 610 (by decide +kernel) (by decide +kernel)
theorem gf_X7_38 (hd : decode cc pc = .ok (.getfield 38, 3)) (h : G E d RX7 cc nL ret rv w1 (pc + 3) lv (.ref (E.1 67) :: st) w) : G E d RX7 cc nL ret rv w1 pc lv (.ref (E.1 57) :: st) w := g_gf (C := RX7) (T := TX7) (N := 29) (ci := 7) (k := 13) hd igX7 (by decide) rfl rfl rfl (by decide) lk_X7_38 rfl h
theorem lk_X7_41 : Cond.fieldLink RX7 41 (TX7 14).1 (TX7 14).2.1 (TX7 14).2.2.1 ∈ tblG := tblG_in 611 (by decide +kernel) (by decide +kernel)
theorem gf_X7_41 (hd : decode cc pc = .ok (.getfield 41, 3)) (h : G E d RX7 cc nL ret rv w1 (pc + 3) lv (.ref (E.1 68) :: st) w) : G E d RX7 cc nL ret rv w1 pc lv (.ref (E.1 57) :: st) w := g_gf (C := RX7) (T := TX7) (N := 29) (ci := 7) (k := 14) hd igX7 (by decide) rfl rfl rfl (by decide) lk_X7_41 rfl h
theorem lk_X7_44 : Cond.fieldLink RX7 44 (TX7 15).1 (TX7 15).2.1 (TX7 15).2.2.1 ∈ tblG := tblG_in 612 (by decide +kernel) (by decide +kernel)
theorem gf_X7_44 (hd : decode cc pc = .ok (.getfield 44, 3)) (h : G E d RX7 cc nL ret rv w1 (pc + 3) lv (.ref (E.1 69) :: st) w) : G E d RX7 cc nL ret rv w1 pc lv (.ref (E.1 57) :: st) w := g_gf (C := RX7) (T := TX7) (N := 29) (ci := 7) (k := 15) hd igX7 (by decide) rfl rfl rfl (by decide) lk_X7_44 rfl h
theorem lk_X7_47 : Cond.fieldLink RX7 47 (TX7 17).1 (TX7 17).2.1 (TX7 17).2.2.1 ∈ tblG := tblG_in 614 (by decide +kernel) (by decide +kernel)
theorem gf_X7_47 (hd : decode cc pc = .ok (.getfield 47, 3)) (h : G E d RX7 cc nL ret rv w1 (pc + 3) lv (.ref (E.1 70) :: st) w) : G E d RX7 cc nL ret rv w1 pc lv (.ref (E.1 57) :: st) w := g_gf (C := RX7) (T := TX7) (N := 29) (ci := 7) (k := 17) hd igX7 (by decide) rfl rfl rfl (by decide) lk_X7_47 rfl h
theorem lk_X7_50 : Cond.fieldLink RX7 50 (TX7 18).1 (TX7 18).2.1 (TX7 18).2.2.1 ∈ tblG := tblG_in 615 (by decide +kernel) (by decide +kernel)
theorem gf_X7_50 (hd : decode cc pc = .ok (.getfield 50, 3)) (h : G E d RX7 cc nL ret rv w1 (pc + 3) lv (.ref (E.1 71) :: st) w) : G E d RX7 cc nL ret rv w1 pc lv (.ref (E.1 57) :: st) w := g_gf (C := RX7) (T := TX7) (N := 29) (ci := 7) (k := 18) hd igX7 (by decide) rfl rfl rfl (by decide) lk_X7_50 rfl h
theorem lk_X7_53 : Cond.fieldLink RX7 53 (TX7 19).1 (TX7 19).2.1 (TX7 19).2.2.1 ∈ tblG := tblG_in 616 (by decide +kernel) (by decide +kernel)
theorem gf_X7_53 (hd : decode cc pc = .ok (.getfield 53, 3)) (h : G E d RX7 cc nL ret rv w1 (pc + 3) lv (.ref (E.1 72) :: st) w) : G E d RX7 cc nL ret rv w1 pc lv (.ref (E.1 57) :: st) w := g_gf (C := RX7) (T := TX7) (N := 29) (ci := 7) (k := 19) hd igX7 (by decide) rfl rfl rfl (by decide) lk_X7_53 rfl h
theorem lk_X7_56 : Cond.fieldLink RX7 56 (TX7 20).1 (TX7 20).2.1 (TX7 20).2.2.1 ∈ tblG := tblG_in 617 (by decide +kernel) (by decide +kernel)
theorem gf_X7_56 (hd : decode cc pc = .ok (.getfield 56, 3)) (h : G E d RX7 cc nL ret rv w1 (pc + 3) lv (.ref (E.1 73) :: st) w) : G E d RX7 cc nL ret rv w1 pc lv (.ref (E.1 57) :: st) w := g_gf (C := RX7) (T := TX7) (N := 29) (ci := 7) (k := 20) hd igX7 (by decide) rfl rfl rfl (by decide) lk_X7_56 rfl h
theorem lk_X7_59 : Cond.fieldLink RX7 59 (TX7 21).1 (TX7 21).2.1 (TX7 21).2.2.1 ∈ tblG := tblG_in 618 (by decide +kernel) (by decide +kernel)
theorem gf_X7_59 (hd : decode cc pc = .ok (.getfield 59, 3)) (h : G E d RX7 cc nL ret rv w1 (pc + 3) lv (.ref (E.1 74) :: st) w) : G E d RX7 cc nL ret rv w1 pc lv (.ref (E.1 57) :: st) w := g_gf (C := RX7) (T := TX7) (N := 29) (ci := 7) (k := 21) hd igX7 (by decide) rfl rfl rfl (by decide) lk_X7_59 rfl h
theorem lk_X7_62 : Cond.fieldLink RX7 62 (TX7 24).1 (TX7 24).2.1 (TX7 24).2.2.1 ∈ tblG := tblG_in 621 (by decide +kernel) (by decide +kernel)
theorem gf_X7_62 (hd : decode cc pc = .ok (.getfield 62, 3)) (h : G E d RX7 cc nL ret rv w1 (pc + 3) lv (.ref (E.1 75) :: st) w) : G E d RX7 cc nL ret rv w1 pc lv (.ref (E.1 57) :: st) w := g_gf (C := RX7) (T := TX7) (N := 29) (ci := 7) (k := 24) hd igX7 (by decide) rfl rfl rfl (by decide) lk_X7_62 rfl h
theorem lk_X7_65 : Cond.fieldLink RX7 65 (TX7 25).1 (TX7 25).2.1 (TX7 25).2.2.1 ∈ tblG := tblG_in 622 (by decide +kernel) (by decide +kernel)
theorem gf_X7_65 (hd : decode cc pc = .ok (.getfield 65, 3)) (h : G E d RX7 cc nL ret rv w1 (pc + 3) lv (.ref (E.1 76) :: st) w) : G E d RX7 cc nL ret rv w1 pc lv (.ref (E.1 57) :: st) w := g_gf (C := RX7) (T := TX7) (N := 29) (ci := 7) (k := 25) hd igX7 (by decide) rfl rfl rfl (by decide) lk_X7_65 rfl h
theorem lk_X7_68 : Cond.fieldLink RX7 68 (TX7 26).1 (TX7 26).2.1 (TX7 26).2.2.1 ∈ tblG := tblG_in 623 (by decide +kernel) (by decide +kernel)
theorem gf_X7_68 (hd : decode cc pc = .ok (.getfield 68, 3)) (h : G E d RX7 cc nL ret rv w1 (pc + 3) lv (.ref (E.1 77) :: st) w) : G E d RX7 cc nL ret rv w1 pc lv (.ref (E.1 57) :: st) w := g_gf (C := RX7) (T := TX7) (N := 29) (ci := 7) (k := 26) hd igX7 (by decide) rfl rfl rfl (by decide) lk_X7_68 rfl h
theorem lk_X7_71 : Cond.fieldLink RX7 71 (TX7 27).1 (TX7 27).2.1 (TX7 27).2.2.1 ∈ tblG := tblG_in 624 (by decide +kernel) (by decide +kernel)
theorem gf_X7_71 (hd : decode cc pc = .ok (.getfield 71, 3)) (h : G E d RX7 cc nL ret rv w1 (pc + 3) lv (.ref (E.1 78) :: st) w) : G E d RX7 cc nL ret rv w1 pc lv (.ref (E.1 57) :: st) w := g_gf (C := RX7) (T := TX7) (N := 29) (ci := 7) (k := 27) hd igX7 (by decide) rfl rfl rfl (by decide) lk_X7_71 rfl h
theorem lk_X7_74 : Cond.fieldLink RX7 74 (TX7 28).1 (TX7 28).2.1 (TX7 28).2.2.1 ∈ tblG := tblG_in 625 (by decide +kernel) (by decide +kernel)
theorem gf_X7_74 (hd : decode cc pc = .ok (.getfield 74, 3)) (h : G E d RX7 cc nL ret rv w1 (pc + 3) lv (.ref (E.1 79) :: st) w) : G E d RX7 cc nL ret rv w1 pc lv (.ref (E.1 57) :: st) w := g_gf (C := RX7) (T := TX7) (N := 29) (ci := 7) (k := 28) hd igX7 (by decide) rfl rfl rfl (by decide) lk_X7_74 rfl h
theorem lk_X7_77 : Cond.methodLink RX7 77 yX7_in ∈ tblG := tblG_in 692 (by decide +kernel) (by decide +kernel)
theorem lc_X7_in : Cond.code yX7_in cX7_in 3 (some .boolean) ∈ tblG := tblG_in 694 (by decide +kernel) (by decide +kernel)
theorem li_X7 : Cond.initialized RX7 ∈ tblG := tblG_in 73 (by decide +kernel) (by decide +kernel)
theorem ls_X7_in : Cond.static yX7_in ∈ tblG := tblG_in 693 (by decide +kernel) (by decide +kernel)
theorem ca_X7_77 {a1 a2 a3 : Value} {d' : Nat} {rest : List Value} {v2 : Value} {w2 : W0} (hd : decode cc pc = .ok (.invokestatic 77, 3)) (hM : Mt E d' yX7_in cX7_in 3 (some .boolean) [a1, a2, a3] w (some v2) w2) (hdd : d' + 1 ≤ d) (hr : (rest.map fun v => v.category).sum ≤ 8) (h : G E d RX7 cc nL ret rv w1 (pc + 3) lv (v2 :: rest) w2) : G E d RX7 cc nL ret rv w1 pc lv (a3 :: a2 :: a1 :: rest) w :=
  g_cs (As := [a1, a2, a3]) (n := 3) (rest := rest) hd lk_X7_77 ls_X7_in li_X7 lc_X7_in (by decide +kernel) (by decide) rfl hM hdd hr h
theorem lk_X7_81 : Cond.methodLink RX7 81 yX7_isDay ∈ tblG := tblG_in 689 (by decide +kernel) (by decide +kernel)
theorem lc_X7_isDay : Cond.code yX7_isDay cX7_isDay 1 (some .boolean) ∈ tblG := tblG_in 691 (by decide +kernel) (by decide +kernel)
theorem ls_X7_isDay : Cond.static yX7_isDay ∈ tblG := tblG_in 690 (by decide +kernel) (by decide +kernel)
theorem ca_X7_81 {a1 : Value} {d' : Nat} {rest : List Value} {v2 : Value} {w2 : W0} (hd : decode cc pc = .ok (.invokestatic 81, 3)) (hM : Mt E d' yX7_isDay cX7_isDay 1 (some .boolean) [a1] w (some v2) w2) (hdd : d' + 1 ≤ d) (hr : (rest.map fun v => v.category).sum ≤ 8) (h : G E d RX7 cc nL ret rv w1 (pc + 3) lv (v2 :: rest) w2) : G E d RX7 cc nL ret rv w1 pc lv (a1 :: rest) w :=
  g_cs (As := [a1]) (n := 1) (rest := rest) hd lk_X7_81 ls_X7_isDay li_X7 lc_X7_isDay (by decide +kernel) (by decide) rfl hM hdd hr h
theorem lk_X7_85 : Cond.fieldLink RX7 85 (TX7 0).1 (TX7 0).2.1 (TX7 0).2.2.1 ∈ tblG := tblG_in 597 (by decide +kernel) (by decide +kernel)
theorem gf_X7_85 (hd : decode cc pc = .ok (.getfield 85, 3)) (h : G E d RX7 cc nL ret rv w1 (pc + 3) lv (.int (w 57 0) :: st) w) : G E d RX7 cc nL ret rv w1 pc lv (.ref (E.1 57) :: st) w := g_gf (C := RX7) (T := TX7) (N := 29) (ci := 7) (k := 0) hd igX7 (by decide) rfl rfl rfl (by decide) lk_X7_85 rfl h
theorem pf_X7_85 {v : Int32} (hd : decode cc pc = .ok (.putfield 85, 3)) (h : G E d RX7 cc nL ret rv w1 (pc + 3) lv st (setW w 57 0 v)) : G E d RX7 cc nL ret rv w1 pc lv (.int v :: .ref (E.1 57) :: st) w := g_pf (C := RX7) (T := TX7) (N := 29) (ci := 7) (k := 0) .int tyX7 hd igX7 tyX7_ok nmX7 (by decide) rfl rfl rfl (by decide) lk_X7_85 rfl rfl (by decide +kernel) rfl rfl h
theorem lk_X7_89 : Cond.fieldLink RX7 89 (TX7 23).1 (TX7 23).2.1 (TX7 23).2.2.1 ∈ tblG := tblG_in 620 (by decide +kernel) (by decide +kernel)
theorem gf_X7_89 (hd : decode cc pc = .ok (.getfield 89, 3)) (h : G E d RX7 cc nL ret rv w1 (pc + 3) lv (.int (w 57 23) :: st) w) : G E d RX7 cc nL ret rv w1 pc lv (.ref (E.1 57) :: st) w := g_gf (C := RX7) (T := TX7) (N := 29) (ci := 7) (k := 23) hd igX7 (by decide) rfl rfl rfl (by decide) lk_X7_89 rfl h
theorem pf_X7_89 {v : Int32} (hd : decode cc pc = .ok (.putfield 89, 3)) (hb : narrow .boolean (.int v) = .int v) (hf : fits .boolean (.int v) = true) (h : G E d RX7 cc nL ret rv w1 (pc + 3) lv st (setW w 57 23 v)) : G E d RX7 cc nL ret rv w1 pc lv (.int v :: .ref (E.1 57) :: st) w := g_pf (C := RX7) (T := TX7) (N := 29) (ci := 7) (k := 23) .boolean tyX7 hd igX7 tyX7_ok nmX7 (by decide) rfl rfl rfl (by decide) lk_X7_89 rfl rfl (by decide +kernel) hb hf h
theorem lk_X7_93 : Cond.methodLink RX7 93 yX7_lawOn ∈ tblG := tblG_in 703 (by decide +kernel) (by decide +kernel)
theorem lc_X7_lawOn : Cond.code yX7_lawOn cX7_lawOn 4 (some .int) ∈ tblG := tblG_in 706 (by decide +kernel) (by decide +kernel)
theorem ln_X7_lawOn : Cond.instanceMethod yX7_lawOn ∈ tblG := tblG_in 705 (by decide +kernel) (by decide +kernel)
theorem lx_X7_lawOn : Cond.selects RX7 yX7_lawOn yX7_lawOn ∈ tblG := tblG_in 53 (by decide +kernel) (by decide +kernel)
theorem ca_X7_93 {a1 : Value} {d' : Nat} {rest : List Value} {v2 : Value} {w2 : W0} (hd : decode cc pc = .ok (.invokevirtual 93, 3)) (hM : Mt E d' yX7_lawOn cX7_lawOn 4 (some .int) [.ref (E.1 57), a1] w (some v2) w2) (hdd : d' + 1 ≤ d) (hr : (rest.map fun v => v.category).sum ≤ 8) (h : G E d RX7 cc nL ret rv w1 (pc + 3) lv (v2 :: rest) w2) : G E d RX7 cc nL ret rv w1 pc lv (a1 :: .ref (E.1 57) :: rest) w :=
  g_cv (As := [a1]) (n := 1) (ci := 7) (rest := rest) hd lk_X7_93 ln_X7_lawOn lx_X7_lawOn li_X7 lc_X7_lawOn (by decide +kernel) (by decide) rfl rfl rfl (by decide) rfl hM hdd hr h
theorem lk_X7_97 : Cond.methodLink RX7 97 yX7_inForce ∈ tblG := tblG_in 699 (by decide +kernel) (by decide +kernel)
theorem lc_X7_inForce : Cond.code yX7_inForce cX7_inForce 4 (some .int) ∈ tblG := tblG_in 702 (by decide +kernel) (by decide +kernel)
theorem ln_X7_inForce : Cond.instanceMethod yX7_inForce ∈ tblG := tblG_in 701 (by decide +kernel) (by decide +kernel)
theorem lx_X7_inForce : Cond.selects RX7 yX7_inForce yX7_inForce ∈ tblG := tblG_in 52 (by decide +kernel) (by decide +kernel)
theorem ca_X7_97 {a1 a2 : Value} {d' : Nat} {rest : List Value} {v2 : Value} {w2 : W0} (hd : decode cc pc = .ok (.invokevirtual 97, 3)) (hM : Mt E d' yX7_inForce cX7_inForce 4 (some .int) [.ref (E.1 57), a1, a2] w (some v2) w2) (hdd : d' + 1 ≤ d) (hr : (rest.map fun v => v.category).sum ≤ 8) (h : G E d RX7 cc nL ret rv w1 (pc + 3) lv (v2 :: rest) w2) : G E d RX7 cc nL ret rv w1 pc lv (a2 :: a1 :: .ref (E.1 57) :: rest) w :=
  g_cv (As := [a1, a2]) (n := 2) (ci := 7) (rest := rest) hd lk_X7_97 ln_X7_inForce lx_X7_inForce li_X7 lc_X7_inForce (by decide +kernel) (by decide) rfl rfl rfl (by decide) rfl hM hdd hr h
theorem lk_X7_101 : Cond.fieldLink RX7 101 (TX7 3).1 (TX7 3).2.1 (TX7 3).2.2.1 ∈ tblG := tblG_in 600 (by decide +kernel) (by decide +kernel)
theorem gf_X7_101 (hd : decode cc pc = .ok (.getfield 101, 3)) (h : G E d RX7 cc nL ret rv w1 (pc + 3) lv (.int (w 57 3) :: st) w) : G E d RX7 cc nL ret rv w1 pc lv (.ref (E.1 57) :: st) w := g_gf (C := RX7) (T := TX7) (N := 29) (ci := 7) (k := 3) hd igX7 (by decide) rfl rfl rfl (by decide) lk_X7_101 rfl h
theorem pf_X7_101 {v : Int32} (hd : decode cc pc = .ok (.putfield 101, 3)) (h : G E d RX7 cc nL ret rv w1 (pc + 3) lv st (setW w 57 3 v)) : G E d RX7 cc nL ret rv w1 pc lv (.int v :: .ref (E.1 57) :: st) w := g_pf (C := RX7) (T := TX7) (N := 29) (ci := 7) (k := 3) .int tyX7 hd igX7 tyX7_ok nmX7 (by decide) rfl rfl rfl (by decide) lk_X7_101 rfl rfl (by decide +kernel) rfl rfl h
theorem lk_X7_104 : Cond.methodLink RX7 104 yX7_isWard ∈ tblG := tblG_in 715 (by decide +kernel) (by decide +kernel)
theorem lc_X7_isWard : Cond.code yX7_isWard cX7_isWard 2 (some .boolean) ∈ tblG := tblG_in 718 (by decide +kernel) (by decide +kernel)
theorem ln_X7_isWard : Cond.instanceMethod yX7_isWard ∈ tblG := tblG_in 717 (by decide +kernel) (by decide +kernel)
theorem lx_X7_isWard : Cond.selects RX7 yX7_isWard yX7_isWard ∈ tblG := tblG_in 54 (by decide +kernel) (by decide +kernel)
theorem ca_X7_104 {a1 : Value} {d' : Nat} {rest : List Value} {v2 : Value} {w2 : W0} (hd : decode cc pc = .ok (.invokevirtual 104, 3)) (hM : Mt E d' yX7_isWard cX7_isWard 2 (some .boolean) [.ref (E.1 57), a1] w (some v2) w2) (hdd : d' + 1 ≤ d) (hr : (rest.map fun v => v.category).sum ≤ 8) (h : G E d RX7 cc nL ret rv w1 (pc + 3) lv (v2 :: rest) w2) : G E d RX7 cc nL ret rv w1 pc lv (a1 :: .ref (E.1 57) :: rest) w :=
  g_cv (As := [a1]) (n := 1) (ci := 7) (rest := rest) hd lk_X7_104 ln_X7_isWard lx_X7_isWard li_X7 lc_X7_isWard (by decide +kernel) (by decide) rfl rfl rfl (by decide) rfl hM hdd hr h
theorem lk_X7_107 : Cond.methodLink RX7 107 yX7_lives ∈ tblG := tblG_in 736 (by decide +kernel) (by decide +kernel)
theorem lc_X7_lives : Cond.code yX7_lives cX7_lives 3 (some .boolean) ∈ tblG := tblG_in 739 (by decide +kernel) (by decide +kernel)
theorem ln_X7_lives : Cond.instanceMethod yX7_lives ∈ tblG := tblG_in 738 (by decide +kernel) (by decide +kernel)
theorem lx_X7_lives : Cond.selects RX7 yX7_lives yX7_lives ∈ tblG := tblG_in 58 (by decide +kernel) (by decide +kernel)
theorem ca_X7_107 {a1 a2 : Value} {d' : Nat} {rest : List Value} {v2 : Value} {w2 : W0} (hd : decode cc pc = .ok (.invokevirtual 107, 3)) (hM : Mt E d' yX7_lives cX7_lives 3 (some .boolean) [.ref (E.1 57), a1, a2] w (some v2) w2) (hdd : d' + 1 ≤ d) (hr : (rest.map fun v => v.category).sum ≤ 8) (h : G E d RX7 cc nL ret rv w1 (pc + 3) lv (v2 :: rest) w2) : G E d RX7 cc nL ret rv w1 pc lv (a2 :: a1 :: .ref (E.1 57) :: rest) w :=
  g_cv (As := [a1, a2]) (n := 2) (ci := 7) (rest := rest) hd lk_X7_107 ln_X7_lives lx_X7_lives li_X7 lc_X7_lives (by decide +kernel) (by decide) rfl rfl rfl (by decide) rfl hM hdd hr h
theorem lk_X7_111 : Cond.constant RX7 111 (-100000001 : Int32) ∈ tblG := tblG_in 723 (by decide +kernel) (by decide +kernel)
theorem lk_X7_112 : Cond.methodLink RX7 112 yX7_lay ∈ tblG := tblG_in 724 (by decide +kernel) (by decide +kernel)
theorem lc_X7_lay : Cond.code yX7_lay cX7_lay 8 (none) ∈ tblG := tblG_in 727 (by decide +kernel) (by decide +kernel)
theorem ln_X7_lay : Cond.instanceMethod yX7_lay ∈ tblG := tblG_in 726 (by decide +kernel) (by decide +kernel)
theorem lx_X7_lay : Cond.selects RX7 yX7_lay yX7_lay ∈ tblG := tblG_in 55 (by decide +kernel) (by decide +kernel)
theorem ca_X7_112 {d' : Nat} {rest : List Value} {w2 : W0} (hd : decode cc pc = .ok (.invokevirtual 112, 3)) (hM : Mt E d' yX7_lay cX7_lay 8 (none) [.ref (E.1 57)] w none w2) (hdd : d' + 1 ≤ d) (hr : (rest.map fun v => v.category).sum ≤ 8) (h : G E d RX7 cc nL ret rv w1 (pc + 3) lv (rest) w2) : G E d RX7 cc nL ret rv w1 pc lv (.ref (E.1 57) :: rest) w :=
  g_cv (As := []) (n := 0) (ci := 7) (rest := rest) hd lk_X7_112 ln_X7_lay lx_X7_lay li_X7 lc_X7_lay (by decide +kernel) (by decide) rfl rfl rfl (by decide) rfl hM hdd hr h
theorem lk_X7_115 : Cond.constant RX7 115 (-100000002 : Int32) ∈ tblG := tblG_in 745 (by decide +kernel) (by decide +kernel)
theorem lk_X7_116 : Cond.methodLink RX7 116 yX7_headsOn ∈ tblG := tblG_in 740 (by decide +kernel) (by decide +kernel)
theorem lc_X7_headsOn : Cond.code yX7_headsOn cX7_headsOn 6 (some .int) ∈ tblG := tblG_in 743 (by decide +kernel) (by decide +kernel)
theorem ln_X7_headsOn : Cond.instanceMethod yX7_headsOn ∈ tblG := tblG_in 742 (by decide +kernel) (by decide +kernel)
theorem lx_X7_headsOn : Cond.selects RX7 yX7_headsOn yX7_headsOn ∈ tblG := tblG_in 59 (by decide +kernel) (by decide +kernel)
theorem ca_X7_116 {a1 a2 : Value} {d' : Nat} {rest : List Value} {v2 : Value} {w2 : W0} (hd : decode cc pc = .ok (.invokevirtual 116, 3)) (hM : Mt E d' yX7_headsOn cX7_headsOn 6 (some .int) [.ref (E.1 57), a1, a2] w (some v2) w2) (hdd : d' + 1 ≤ d) (hr : (rest.map fun v => v.category).sum ≤ 8) (h : G E d RX7 cc nL ret rv w1 (pc + 3) lv (v2 :: rest) w2) : G E d RX7 cc nL ret rv w1 pc lv (a2 :: a1 :: .ref (E.1 57) :: rest) w :=
  g_cv (As := [a1, a2]) (n := 2) (ci := 7) (rest := rest) hd lk_X7_116 ln_X7_headsOn lx_X7_headsOn li_X7 lc_X7_headsOn (by decide +kernel) (by decide) rfl rfl rfl (by decide) rfl hM hdd hr h
theorem lk_X7_120 : Cond.fieldLink RX7 120 (TX7 6).1 (TX7 6).2.1 (TX7 6).2.2.1 ∈ tblG := tblG_in 603 (by decide +kernel) (by decide +kernel)
theorem gf_X7_120 (hd : decode cc pc = .ok (.getfield 120, 3)) (h : G E d RX7 cc nL ret rv w1 (pc + 3) lv (.int (w 57 6) :: st) w) : G E d RX7 cc nL ret rv w1 pc lv (.ref (E.1 57) :: st) w := g_gf (C := RX7) (T := TX7) (N := 29) (ci := 7) (k := 6) hd igX7 (by decide) rfl rfl rfl (by decide) lk_X7_120 rfl h
theorem pf_X7_120 {v : Int32} (hd : decode cc pc = .ok (.putfield 120, 3)) (h : G E d RX7 cc nL ret rv w1 (pc + 3) lv st (setW w 57 6 v)) : G E d RX7 cc nL ret rv w1 pc lv (.int v :: .ref (E.1 57) :: st) w := g_pf (C := RX7) (T := TX7) (N := 29) (ci := 7) (k := 6) .int tyX7 hd igX7 tyX7_ok nmX7 (by decide) rfl rfl rfl (by decide) lk_X7_120 rfl rfl (by decide +kernel) rfl rfl h
theorem lk_X7_123 : Cond.methodLink RX7 123 yX7_isLeave ∈ tblG := tblG_in 758 (by decide +kernel) (by decide +kernel)
theorem lc_X7_isLeave : Cond.code yX7_isLeave cX7_isLeave 2 (some .boolean) ∈ tblG := tblG_in 761 (by decide +kernel) (by decide +kernel)
theorem ln_X7_isLeave : Cond.instanceMethod yX7_isLeave ∈ tblG := tblG_in 760 (by decide +kernel) (by decide +kernel)
theorem lx_X7_isLeave : Cond.selects RX7 yX7_isLeave yX7_isLeave ∈ tblG := tblG_in 60 (by decide +kernel) (by decide +kernel)
theorem ca_X7_123 {a1 : Value} {d' : Nat} {rest : List Value} {v2 : Value} {w2 : W0} (hd : decode cc pc = .ok (.invokevirtual 123, 3)) (hM : Mt E d' yX7_isLeave cX7_isLeave 2 (some .boolean) [.ref (E.1 57), a1] w (some v2) w2) (hdd : d' + 1 ≤ d) (hr : (rest.map fun v => v.category).sum ≤ 8) (h : G E d RX7 cc nL ret rv w1 (pc + 3) lv (v2 :: rest) w2) : G E d RX7 cc nL ret rv w1 pc lv (a1 :: .ref (E.1 57) :: rest) w :=
  g_cv (As := [a1]) (n := 1) (ci := 7) (rest := rest) hd lk_X7_123 ln_X7_isLeave lx_X7_isLeave li_X7 lc_X7_isLeave (by decide +kernel) (by decide) rfl rfl rfl (by decide) rfl hM hdd hr h
theorem lk_X7_126 : Cond.fieldLink RX7 126 (TX7 16).1 (TX7 16).2.1 (TX7 16).2.2.1 ∈ tblG := tblG_in 613 (by decide +kernel) (by decide +kernel)
theorem gf_X7_126 (hd : decode cc pc = .ok (.getfield 126, 3)) (h : G E d RX7 cc nL ret rv w1 (pc + 3) lv (.int (w 57 16) :: st) w) : G E d RX7 cc nL ret rv w1 pc lv (.ref (E.1 57) :: st) w := g_gf (C := RX7) (T := TX7) (N := 29) (ci := 7) (k := 16) hd igX7 (by decide) rfl rfl rfl (by decide) lk_X7_126 rfl h
theorem pf_X7_126 {v : Int32} (hd : decode cc pc = .ok (.putfield 126, 3)) (h : G E d RX7 cc nL ret rv w1 (pc + 3) lv st (setW w 57 16 v)) : G E d RX7 cc nL ret rv w1 pc lv (.int v :: .ref (E.1 57) :: st) w := g_pf (C := RX7) (T := TX7) (N := 29) (ci := 7) (k := 16) .int tyX7 hd igX7 tyX7_ok nmX7 (by decide) rfl rfl rfl (by decide) lk_X7_126 rfl rfl (by decide +kernel) rfl rfl h
theorem lk_X7_129 : Cond.fieldLink RX7 129 (TX7 9).1 (TX7 9).2.1 (TX7 9).2.2.1 ∈ tblG := tblG_in 606 (by decide +kernel) (by decide +kernel)
theorem gf_X7_129 (hd : decode cc pc = .ok (.getfield 129, 3)) (h : G E d RX7 cc nL ret rv w1 (pc + 3) lv (.int (w 57 9) :: st) w) : G E d RX7 cc nL ret rv w1 pc lv (.ref (E.1 57) :: st) w := g_gf (C := RX7) (T := TX7) (N := 29) (ci := 7) (k := 9) hd igX7 (by decide) rfl rfl rfl (by decide) lk_X7_129 rfl h
theorem pf_X7_129 {v : Int32} (hd : decode cc pc = .ok (.putfield 129, 3)) (h : G E d RX7 cc nL ret rv w1 (pc + 3) lv st (setW w 57 9 v)) : G E d RX7 cc nL ret rv w1 pc lv (.int v :: .ref (E.1 57) :: st) w := g_pf (C := RX7) (T := TX7) (N := 29) (ci := 7) (k := 9) .int tyX7 hd igX7 tyX7_ok nmX7 (by decide) rfl rfl rfl (by decide) lk_X7_129 rfl rfl (by decide +kernel) rfl rfl h
theorem lk_X7_132 : Cond.methodLink RX7 132 yX7_isLease ∈ tblG := tblG_in 766 (by decide +kernel) (by decide +kernel)
theorem lc_X7_isLease : Cond.code yX7_isLease cX7_isLease 2 (some .boolean) ∈ tblG := tblG_in 769 (by decide +kernel) (by decide +kernel)
theorem ln_X7_isLease : Cond.instanceMethod yX7_isLease ∈ tblG := tblG_in 768 (by decide +kernel) (by decide +kernel)
theorem lx_X7_isLease : Cond.selects RX7 yX7_isLease yX7_isLease ∈ tblG := tblG_in 61 (by decide +kernel) (by decide +kernel)
theorem ca_X7_132 {a1 : Value} {d' : Nat} {rest : List Value} {v2 : Value} {w2 : W0} (hd : decode cc pc = .ok (.invokevirtual 132, 3)) (hM : Mt E d' yX7_isLease cX7_isLease 2 (some .boolean) [.ref (E.1 57), a1] w (some v2) w2) (hdd : d' + 1 ≤ d) (hr : (rest.map fun v => v.category).sum ≤ 8) (h : G E d RX7 cc nL ret rv w1 (pc + 3) lv (v2 :: rest) w2) : G E d RX7 cc nL ret rv w1 pc lv (a1 :: .ref (E.1 57) :: rest) w :=
  g_cv (As := [a1]) (n := 1) (ci := 7) (rest := rest) hd lk_X7_132 ln_X7_isLease lx_X7_isLease li_X7 lc_X7_isLease (by decide +kernel) (by decide) rfl rfl rfl (by decide) rfl hM hdd hr h
theorem lk_X7_135 : Cond.methodLink RX7 135 yX7_item ∈ tblG := tblG_in 770 (by decide +kernel) (by decide +kernel)
theorem lc_X7_item : Cond.code yX7_item cX7_item 5 (some .int) ∈ tblG := tblG_in 773 (by decide +kernel) (by decide +kernel)
theorem ln_X7_item : Cond.instanceMethod yX7_item ∈ tblG := tblG_in 772 (by decide +kernel) (by decide +kernel)
theorem lx_X7_item : Cond.selects RX7 yX7_item yX7_item ∈ tblG := tblG_in 62 (by decide +kernel) (by decide +kernel)
theorem ca_X7_135 {a1 a2 a3 a4 : Value} {d' : Nat} {rest : List Value} {v2 : Value} {w2 : W0} (hd : decode cc pc = .ok (.invokevirtual 135, 3)) (hM : Mt E d' yX7_item cX7_item 5 (some .int) [.ref (E.1 57), a1, a2, a3, a4] w (some v2) w2) (hdd : d' + 1 ≤ d) (hr : (rest.map fun v => v.category).sum ≤ 8) (h : G E d RX7 cc nL ret rv w1 (pc + 3) lv (v2 :: rest) w2) : G E d RX7 cc nL ret rv w1 pc lv (a4 :: a3 :: a2 :: a1 :: .ref (E.1 57) :: rest) w :=
  g_cv (As := [a1, a2, a3, a4]) (n := 4) (ci := 7) (rest := rest) hd lk_X7_135 ln_X7_item lx_X7_item li_X7 lc_X7_item (by decide +kernel) (by decide) rfl rfl rfl (by decide) rfl hM hdd hr h
theorem lk_X7_139 : Cond.methodLink RX7 139 yX7_isItem ∈ tblG := tblG_in 782 (by decide +kernel) (by decide +kernel)
theorem lc_X7_isItem : Cond.code yX7_isItem cX7_isItem 2 (some .boolean) ∈ tblG := tblG_in 785 (by decide +kernel) (by decide +kernel)
theorem ln_X7_isItem : Cond.instanceMethod yX7_isItem ∈ tblG := tblG_in 784 (by decide +kernel) (by decide +kernel)
theorem lx_X7_isItem : Cond.selects RX7 yX7_isItem yX7_isItem ∈ tblG := tblG_in 63 (by decide +kernel) (by decide +kernel)
theorem ca_X7_139 {a1 : Value} {d' : Nat} {rest : List Value} {v2 : Value} {w2 : W0} (hd : decode cc pc = .ok (.invokevirtual 139, 3)) (hM : Mt E d' yX7_isItem cX7_isItem 2 (some .boolean) [.ref (E.1 57), a1] w (some v2) w2) (hdd : d' + 1 ≤ d) (hr : (rest.map fun v => v.category).sum ≤ 8) (h : G E d RX7 cc nL ret rv w1 (pc + 3) lv (v2 :: rest) w2) : G E d RX7 cc nL ret rv w1 pc lv (a1 :: .ref (E.1 57) :: rest) w :=
  g_cv (As := [a1]) (n := 1) (ci := 7) (rest := rest) hd lk_X7_139 ln_X7_isItem lx_X7_isItem li_X7 lc_X7_isItem (by decide +kernel) (by decide) rfl rfl rfl (by decide) rfl hM hdd hr h
theorem lk_X7_142 : Cond.methodLink RX7 142 yX7_barredFor ∈ tblG := tblG_in 732 (by decide +kernel) (by decide +kernel)
theorem lc_X7_barredFor : Cond.code yX7_barredFor cX7_barredFor 4 (some .int) ∈ tblG := tblG_in 735 (by decide +kernel) (by decide +kernel)
theorem ln_X7_barredFor : Cond.instanceMethod yX7_barredFor ∈ tblG := tblG_in 734 (by decide +kernel) (by decide +kernel)
theorem lx_X7_barredFor : Cond.selects RX7 yX7_barredFor yX7_barredFor ∈ tblG := tblG_in 57 (by decide +kernel) (by decide +kernel)
theorem ca_X7_142 {a1 : Value} {d' : Nat} {rest : List Value} {v2 : Value} {w2 : W0} (hd : decode cc pc = .ok (.invokevirtual 142, 3)) (hM : Mt E d' yX7_barredFor cX7_barredFor 4 (some .int) [.ref (E.1 57), a1] w (some v2) w2) (hdd : d' + 1 ≤ d) (hr : (rest.map fun v => v.category).sum ≤ 8) (h : G E d RX7 cc nL ret rv w1 (pc + 3) lv (v2 :: rest) w2) : G E d RX7 cc nL ret rv w1 pc lv (a1 :: .ref (E.1 57) :: rest) w :=
  g_cv (As := [a1]) (n := 1) (ci := 7) (rest := rest) hd lk_X7_142 ln_X7_barredFor lx_X7_barredFor li_X7 lc_X7_barredFor (by decide +kernel) (by decide) rfl rfl rfl (by decide) rfl hM hdd hr h
theorem lk_X7_145 : Cond.methodLink RX7 145 yX7_voidFor ∈ tblG := tblG_in 802 (by decide +kernel) (by decide +kernel)
theorem lc_X7_voidFor : Cond.code yX7_voidFor cX7_voidFor 3 (some .int) ∈ tblG := tblG_in 805 (by decide +kernel) (by decide +kernel)
theorem ln_X7_voidFor : Cond.instanceMethod yX7_voidFor ∈ tblG := tblG_in 804 (by decide +kernel) (by decide +kernel)
theorem lx_X7_voidFor : Cond.selects RX7 yX7_voidFor yX7_voidFor ∈ tblG := tblG_in 64 (by decide +kernel) (by decide +kernel)
theorem ca_X7_145 {a1 : Value} {d' : Nat} {rest : List Value} {v2 : Value} {w2 : W0} (hd : decode cc pc = .ok (.invokevirtual 145, 3)) (hM : Mt E d' yX7_voidFor cX7_voidFor 3 (some .int) [.ref (E.1 57), a1] w (some v2) w2) (hdd : d' + 1 ≤ d) (hr : (rest.map fun v => v.category).sum ≤ 8) (h : G E d RX7 cc nL ret rv w1 (pc + 3) lv (v2 :: rest) w2) : G E d RX7 cc nL ret rv w1 pc lv (a1 :: .ref (E.1 57) :: rest) w :=
  g_cv (As := [a1]) (n := 1) (ci := 7) (rest := rest) hd lk_X7_145 ln_X7_voidFor lx_X7_voidFor li_X7 lc_X7_voidFor (by decide +kernel) (by decide) rfl rfl rfl (by decide) rfl hM hdd hr h
theorem lk_X7_148 : Cond.methodLink RX7 148 yX7_layFullDays ∈ tblG := tblG_in 728 (by decide +kernel) (by decide +kernel)
theorem lc_X7_layFullDays : Cond.code yX7_layFullDays cX7_layFullDays 3 (none) ∈ tblG := tblG_in 731 (by decide +kernel) (by decide +kernel)
theorem ln_X7_layFullDays : Cond.instanceMethod yX7_layFullDays ∈ tblG := tblG_in 730 (by decide +kernel) (by decide +kernel)
theorem lx_X7_layFullDays : Cond.selects RX7 yX7_layFullDays yX7_layFullDays ∈ tblG := tblG_in 56 (by decide +kernel) (by decide +kernel)
theorem ca_X7_148 {d' : Nat} {rest : List Value} {w2 : W0} (hd : decode cc pc = .ok (.invokevirtual 148, 3)) (hM : Mt E d' yX7_layFullDays cX7_layFullDays 3 (none) [.ref (E.1 57)] w none w2) (hdd : d' + 1 ≤ d) (hr : (rest.map fun v => v.category).sum ≤ 8) (h : G E d RX7 cc nL ret rv w1 (pc + 3) lv (rest) w2) : G E d RX7 cc nL ret rv w1 pc lv (.ref (E.1 57) :: rest) w :=
  g_cv (As := []) (n := 0) (ci := 7) (rest := rest) hd lk_X7_148 ln_X7_layFullDays lx_X7_layFullDays li_X7 lc_X7_layFullDays (by decide +kernel) (by decide) rfl rfl rfl (by decide) rfl hM hdd hr h
theorem lk_X7_151 : Cond.constantLong RX7 151 (36000 : Int64) ∈ tblG := tblG_in 744 (by decide +kernel) (by decide +kernel)
theorem lk_X7_153 : Cond.methodLink RX7 153 yX7_isYear ∈ tblG := tblG_in 818 (by decide +kernel) (by decide +kernel)
theorem lc_X7_isYear : Cond.code yX7_isYear cX7_isYear 1 (some .boolean) ∈ tblG := tblG_in 820 (by decide +kernel) (by decide +kernel)
theorem ls_X7_isYear : Cond.static yX7_isYear ∈ tblG := tblG_in 819 (by decide +kernel) (by decide +kernel)
theorem ca_X7_153 {a1 : Value} {d' : Nat} {rest : List Value} {v2 : Value} {w2 : W0} (hd : decode cc pc = .ok (.invokestatic 153, 3)) (hM : Mt E d' yX7_isYear cX7_isYear 1 (some .boolean) [a1] w (some v2) w2) (hdd : d' + 1 ≤ d) (hr : (rest.map fun v => v.category).sum ≤ 8) (h : G E d RX7 cc nL ret rv w1 (pc + 3) lv (v2 :: rest) w2) : G E d RX7 cc nL ret rv w1 pc lv (a1 :: rest) w :=
  g_cs (As := [a1]) (n := 1) (rest := rest) hd lk_X7_153 ls_X7_isYear li_X7 lc_X7_isYear (by decide +kernel) (by decide) rfl hM hdd hr h
theorem lk_X7_156 : Cond.fieldLink RX7 156 (TX7 22).1 (TX7 22).2.1 (TX7 22).2.2.1 ∈ tblG := tblG_in 619 (by decide +kernel) (by decide +kernel)
theorem gf_X7_156 (hd : decode cc pc = .ok (.getfield 156, 3)) (h : G E d RX7 cc nL ret rv w1 (pc + 3) lv (.int (w 57 22) :: st) w) : G E d RX7 cc nL ret rv w1 pc lv (.ref (E.1 57) :: st) w := g_gf (C := RX7) (T := TX7) (N := 29) (ci := 7) (k := 22) hd igX7 (by decide) rfl rfl rfl (by decide) lk_X7_156 rfl h
theorem pf_X7_156 {v : Int32} (hd : decode cc pc = .ok (.putfield 156, 3)) (h : G E d RX7 cc nL ret rv w1 (pc + 3) lv st (setW w 57 22 v)) : G E d RX7 cc nL ret rv w1 pc lv (.int v :: .ref (E.1 57) :: st) w := g_pf (C := RX7) (T := TX7) (N := 29) (ci := 7) (k := 22) .int tyX7 hd igX7 tyX7_ok nmX7 (by decide) rfl rfl rfl (by decide) lk_X7_156 rfl rfl (by decide +kernel) rfl rfl h
theorem lk_X7_159 : Cond.constant RX7 159 (-100000003 : Int32) ∈ tblG := tblG_in 829 (by decide +kernel) (by decide +kernel)
end LINKED
end
section
/-! within, isDay, isYear, isCoins; Leaves -/
set_option maxRecDepth 20000 in
theorem t_X6_within {E : En} {w : W0} {a b c : Int32} (B C : Int) (hB : b.toInt = B) (hC : c.toInt = C) : Mt E 0 yX6_within cX6_within 3 (some .boolean) [.int a, .int b, .int c] w (some (.int (bI (B ≤ a.toInt ∧ a.toInt ≤ C)))) w := by
  refine Mt.of (by decide +kernel) (Nat.le_of_ble_eq_true rfl) ?_
  show G E 0 RX6 cX6_within 3 (some .boolean) _ _ 0 [(0, .int a), (1, .int b), (2, .int c)] [] w
  refine g_iload_n 0 dX6_within_0 rfl rfl ?_
  refine g_iload_n 1 dX6_within_1 rfl rfl ?_
  refine g_icmp_lt 14 _ _ dX6_within_2 (by decide) rfl rfl (fun h2 => ?_) (fun h2 => ?_)
  · refine g_iconst 0 dX6_within_14 rfl ?_
    refine g_iret dX6_within_15 rfl rfl ?_ ?_
    · first | (rw [bI_t]; omega) | (rw [bI_f]; omega)
    · rfl
  · refine g_iload_n 0 dX6_within_5 rfl rfl ?_
    refine g_iload_n 2 dX6_within_6 rfl rfl ?_
    refine g_icmp_gt 14 _ _ dX6_within_7 (by decide) rfl rfl (fun h7 => ?_) (fun h7 => ?_)
    · refine g_iconst 0 dX6_within_14 rfl ?_
      refine g_iret dX6_within_15 rfl rfl ?_ ?_
      · first | (rw [bI_t]; omega) | (rw [bI_f]; omega)
      · rfl
    · refine g_iconst 1 dX6_within_10 rfl ?_
      refine g_goto 15 dX6_within_11 (by decide) ?_
      refine g_iret dX6_within_15 rfl rfl ?_ ?_
      · first | (rw [bI_t]; omega) | (rw [bI_f]; omega)
      · rfl
set_option maxRecDepth 20000 in
theorem t_X6_isDay {E : En} {w : W0} {a : Int32} : Mt E 1 yX6_isDay cX6_isDay 1 (some .boolean) [.int a] w (some (.int (bI (0 ≤ a.toInt ∧ a.toInt ≤ 3599)))) w := by
  refine Mt.of (by decide +kernel) (Nat.le_of_ble_eq_true rfl) ?_
  show G E 1 RX6 cX6_isDay 1 (some .boolean) _ _ 0 [(0, .int a)] [] w
  refine g_iload_n 0 dX6_isDay_0 rfl rfl ?_
  refine g_iconst 0 dX6_isDay_1 rfl ?_
  refine g_sipush 3599 dX6_isDay_2 rfl ?_
  refine ca_X6_55 dX6_isDay_5 (t_X6_within 0 3599 rfl rfl) (by decide) (Nat.le_of_ble_eq_true rfl) ?_
  refine g_iret dX6_isDay_8 rfl nar_b ?_ ?_
  · rfl
  · rfl
set_option maxRecDepth 20000 in
theorem t_X6_isYear {E : En} {w : W0} {a : Int32} : Mt E 1 yX6_isYear cX6_isYear 1 (some .boolean) [.int a] w (some (.int (bI (0 ≤ a.toInt ∧ a.toInt ≤ 9)))) w := by
  refine Mt.of (by decide +kernel) (Nat.le_of_ble_eq_true rfl) ?_
  show G E 1 RX6 cX6_isYear 1 (some .boolean) _ _ 0 [(0, .int a)] [] w
  refine g_iload_n 0 dX6_isYear_0 rfl rfl ?_
  refine g_iconst 0 dX6_isYear_1 rfl ?_
  refine g_bipush 9 dX6_isYear_2 rfl ?_
  refine ca_X6_55 dX6_isYear_4 (t_X6_within 0 9 rfl rfl) (by decide) (Nat.le_of_ble_eq_true rfl) ?_
  refine g_iret dX6_isYear_7 rfl nar_b ?_ ?_
  · rfl
  · rfl
set_option maxRecDepth 20000 in
theorem t_X6_isCoins {E : En} {w : W0} {a : Int32} : Mt E 1 yX6_isCoins cX6_isCoins 1 (some .boolean) [.int a] w (some (.int (bI (1 ≤ a.toInt ∧ a.toInt ≤ 10000)))) w := by
  refine Mt.of (by decide +kernel) (Nat.le_of_ble_eq_true rfl) ?_
  show G E 1 RX6 cX6_isCoins 1 (some .boolean) _ _ 0 [(0, .int a)] [] w
  refine g_iload_n 0 dX6_isCoins_0 rfl rfl ?_
  refine g_iconst 1 dX6_isCoins_1 rfl ?_
  refine g_sipush 10000 dX6_isCoins_2 rfl ?_
  refine ca_X6_55 dX6_isCoins_5 (t_X6_within 1 10000 rfl rfl) (by decide) (Nat.le_of_ble_eq_true rfl) ?_
  refine g_iret dX6_isCoins_8 rfl nar_b ?_ ?_
  · rfl
  · rfl
abbrev hasL (w : W0) (i : Int32) : Prop := 0 ≤ i.toInt ∧ i.toInt < (w 3 2).toInt ∧ i.toInt < 10
def limC (w : W0) (i : Int32) : Int32 := if hasL w i then w 22 i.toNatClampNeg else 0
def useC (w : W0) (i : Int32) : Int32 := if hasL w i then w 23 i.toNatClampNeg else -6
set_option maxRecDepth 20000 in
theorem t_X4_has {E : En} {w : W0} {i : Int32} : Mt E 0 yX4_has cX4_has 2 (some .boolean) [.ref (E.1 3), .int i] w (some (.int (bI (hasL w i)))) w := by
  refine Mt.of (by decide +kernel) (Nat.le_of_ble_eq_true rfl) ?_
  show G E 0 RX4 cX4_has 2 (some .boolean) _ _ 0 [(0, .ref (E.1 3)), (1, .int i)] [] w
  refine g_iload_n 1 dX4_has_0 rfl rfl ?_
  refine g_if_lt 22 _ dX4_has_1 (by decide) rfl (fun h1 => ?_) (fun h1 => ?_)
  · refine g_iconst 0 dX4_has_22 rfl ?_
    refine g_iret dX4_has_23 rfl rfl ?_ ?_
    · first | (rw [bI_t]; omega) | (rw [bI_f]; omega)
    · rfl
  · refine g_iload_n 1 dX4_has_4 rfl rfl ?_
    refine g_aload_n 0 dX4_has_5 rfl rfl ?_
    refine gf_X4_18 dX4_has_6 ?_
    refine g_icmp_ge 22 _ _ dX4_has_9 (by decide) rfl rfl (fun h9 => ?_) (fun h9 => ?_)
    · refine g_iconst 0 dX4_has_22 rfl ?_
      refine g_iret dX4_has_23 rfl rfl ?_ ?_
      · first | (rw [bI_t]; omega) | (rw [bI_f]; omega)
      · rfl
    · refine g_iload_n 1 dX4_has_12 rfl rfl ?_
      refine g_bipush 10 dX4_has_13 rfl ?_
      refine g_icmp_ge 22 _ 10 dX4_has_15 (by decide) rfl rfl (fun h15 => ?_) (fun h15 => ?_)
      · refine g_iconst 0 dX4_has_22 rfl ?_
        refine g_iret dX4_has_23 rfl rfl ?_ ?_
        · first | (rw [bI_t]; omega) | (rw [bI_f]; omega)
        · rfl
      · refine g_iconst 1 dX4_has_18 rfl ?_
        refine g_goto 23 dX4_has_19 (by decide) ?_
        refine g_iret dX4_has_23 rfl rfl ?_ ?_
        · first | (rw [bI_t]; omega) | (rw [bI_f]; omega)
        · rfl
set_option maxRecDepth 20000 in
theorem t_X4_limitOf {E : En} {w : W0} {i : Int32} : Mt E 1 yX4_limitOf cX4_limitOf 2 (some .int) [.ref (E.1 3), .int i] w (some (.int (limC w i))) w := by
  refine Mt.of (by decide +kernel) (Nat.le_of_ble_eq_true rfl) ?_
  show G E 1 RX4 cX4_limitOf 2 (some .int) _ _ 0 [(0, .ref (E.1 3)), (1, .int i)] [] w
  refine g_aload_n 0 dX4_limitOf_0 rfl rfl ?_
  refine g_iload_n 1 dX4_limitOf_1 rfl rfl ?_
  refine ca_X4_22 dX4_limitOf_2 (t_X4_has) (by decide) (Nat.le_of_ble_eq_true rfl) ?_
  refine g_if_eqb 17 dX4_limitOf_5 (by decide) (fun h5 => ?_) (fun h5 => ?_)
  · refine g_iconst 0 dX4_limitOf_17 rfl ?_
    refine g_iret dX4_limitOf_18 rfl rfl ?_ ?_
    · unfold limC; first | (rw [if_pos]; omega) | (rw [if_neg]; omega)
    · rfl
  · refine g_aload_n 0 dX4_limitOf_8 rfl rfl ?_
    refine gf_X4_9 dX4_limitOf_9 ?_
    refine g_iload_n 1 dX4_limitOf_12 rfl rfl ?_
    refine g_iald (n := 10) _ dX4_limitOf_13 (by decide) rfl rfl (by omega) ?_
    refine g_goto 18 dX4_limitOf_14 (by decide) ?_
    refine g_iret dX4_limitOf_18 rfl rfl ?_ ?_
    · unfold limC; first | (rw [if_pos]; omega) | (rw [if_neg]; omega)
    · rfl
set_option maxRecDepth 20000 in
theorem t_X4_useOf {E : En} {w : W0} {i : Int32} : Mt E 1 yX4_useOf cX4_useOf 2 (some .int) [.ref (E.1 3), .int i] w (some (.int (useC w i))) w := by
  refine Mt.of (by decide +kernel) (Nat.le_of_ble_eq_true rfl) ?_
  show G E 1 RX4 cX4_useOf 2 (some .int) _ _ 0 [(0, .ref (E.1 3)), (1, .int i)] [] w
  refine g_aload_n 0 dX4_useOf_0 rfl rfl ?_
  refine g_iload_n 1 dX4_useOf_1 rfl rfl ?_
  refine ca_X4_22 dX4_useOf_2 (t_X4_has) (by decide) (Nat.le_of_ble_eq_true rfl) ?_
  refine g_if_eqb 17 dX4_useOf_5 (by decide) (fun h5 => ?_) (fun h5 => ?_)
  · refine g_bipush (-6) dX4_useOf_17 rfl ?_
    refine g_iret dX4_useOf_19 rfl rfl ?_ ?_
    · unfold useC; first | (rw [if_pos]; omega) | (rw [if_neg]; omega)
    · rfl
  · refine g_aload_n 0 dX4_useOf_8 rfl rfl ?_
    refine gf_X4_15 dX4_useOf_9 ?_
    refine g_iload_n 1 dX4_useOf_12 rfl rfl ?_
    refine g_iald (n := 10) _ dX4_useOf_13 (by decide) rfl rfl (by omega) ?_
    refine g_goto 19 dX4_useOf_14 (by decide) ?_
    refine g_iret dX4_useOf_19 rfl rfl ?_ ?_
    · unfold useC; first | (rw [if_pos]; omega) | (rw [if_neg]; omega)
    · rfl
set_option maxRecDepth 20000 in
theorem t_X4_wasUsed {E : En} {w : W0} {i : Int32} : Mt E 2 yX4_wasUsed cX4_wasUsed 2 (some .boolean) [.ref (E.1 3), .int i] w (some (.int (bI (useC w i ≠ -6)))) w := by
  refine Mt.of (by decide +kernel) (Nat.le_of_ble_eq_true rfl) ?_
  show G E 2 RX4 cX4_wasUsed 2 (some .boolean) _ _ 0 [(0, .ref (E.1 3)), (1, .int i)] [] w
  refine g_aload_n 0 dX4_wasUsed_0 rfl rfl ?_
  refine g_iload_n 1 dX4_wasUsed_1 rfl rfl ?_
  refine ca_X4_26 dX4_wasUsed_2 (t_X4_useOf) (by decide) (Nat.le_of_ble_eq_true rfl) ?_
  refine g_bipush (-6) dX4_wasUsed_5 rfl ?_
  refine g_icmp_eq 14 dX4_wasUsed_7 (by decide) (fun h7 => ?_) (fun h7 => ?_)
  · refine g_iconst 0 dX4_wasUsed_14 rfl ?_
    refine g_iret dX4_wasUsed_15 rfl rfl ?_ ?_
    · first | (rw [bI_t]; exact h7) | (rw [bI_f]; exact fun z => z h7)
    · rfl
  · refine g_iconst 1 dX4_wasUsed_10 rfl ?_
    refine g_goto 15 dX4_wasUsed_11 (by decide) ?_
    refine g_iret dX4_wasUsed_15 rfl rfl ?_ ?_
    · first | (rw [bI_t]; exact h7) | (rw [bI_f]; exact fun z => z h7)
    · rfl
def useW (w : W0) (i x : Int32) : W0 := if hasL w i then setW w 23 i.toNatClampNeg x else w
set_option maxRecDepth 20000 in
theorem t_X4_use {E : En} {w : W0} {i x : Int32} : Mt E 1 yX4_use cX4_use 3 (none) [.ref (E.1 3), .int i, .int x] w none (useW w i x) := by
  refine Mt.of (by decide +kernel) (Nat.le_of_ble_eq_true rfl) ?_
  show G E 1 RX4 cX4_use 3 (none) _ _ 0 [(0, .ref (E.1 3)), (1, .int i), (2, .int x)] [] w
  refine g_aload_n 0 dX4_use_0 rfl rfl ?_
  refine g_iload_n 1 dX4_use_1 rfl rfl ?_
  refine ca_X4_22 dX4_use_2 (t_X4_has) (by decide) (Nat.le_of_ble_eq_true rfl) ?_
  refine g_if_eqb 15 dX4_use_5 (by decide) (fun h5 => ?_) (fun h5 => ?_)
  · refine g_vret dX4_use_15 rfl rfl ?_
    · unfold useW; first | (rw [if_pos]; omega) | (rw [if_neg]; omega)
  · refine g_aload_n 0 dX4_use_8 rfl rfl ?_
    refine gf_X4_15 dX4_use_9 ?_
    refine g_iload_n 1 dX4_use_12 rfl rfl ?_
    refine g_iload_n 2 dX4_use_13 rfl rfl ?_
    refine g_iast (n := 10) _ dX4_use_14 (by decide) rfl rfl (by omega) ?_
    refine g_vret dX4_use_15 rfl rfl ?_
    · unfold useW; first | (rw [if_pos]; omega) | (rw [if_neg]; omega)
set_option maxRecDepth 20000 in
theorem t_X4_add {E : En} {w : W0} {x : Int32} {n : Nat} (hc : w 3 2 = nI n) (hn : n < 10) : Mt E 0 yX4_add cX4_add 2 (none) [.ref (E.1 3), .int x] w none (setW (setW (setW w 22 n x) 23 n (-6)) 3 2 (nI (n + 1))) := by
  refine Mt.of (by decide +kernel) (Nat.le_of_ble_eq_true rfl) ?_
  show G E 0 RX4 cX4_add 2 (none) _ _ 0 [(0, .ref (E.1 3)), (1, .int x)] [] w
  have hi : (w 3 2).toInt = (n : Int) := by rw [hc]; exact nI_toInt (by omega)
  have hx : (w 3 2).toNatClampNeg = n := by rw [hc]; exact nI_clamp (by omega)
  refine g_aload_n 0 dX4_add_0 rfl rfl ?_
  refine gf_X4_18 dX4_add_1 ?_
  refine g_bipush 10 dX4_add_4 rfl ?_
  refine g_icmp_lt 10 _ 10 dX4_add_6 (by decide) rfl rfl (fun h6 => ?_) (fun h6 => False.elim (by omega))
  refine g_aload_n 0 dX4_add_10 rfl rfl ?_
  refine gf_X4_9 dX4_add_11 ?_
  refine g_aload_n 0 dX4_add_14 rfl rfl ?_
  refine gf_X4_18 dX4_add_15 ?_
  refine g_iload_n 1 dX4_add_18 rfl rfl ?_
  refine g_iast (n := 10) _ dX4_add_19 (by decide) rfl rfl (by omega) ?_
  refine g_aload_n 0 dX4_add_20 rfl rfl ?_
  refine gf_X4_15 dX4_add_21 ?_
  refine g_aload_n 0 dX4_add_24 rfl rfl ?_
  refine gf_X4_18 dX4_add_25 ?_
  simp (disch := omega) only [setW_ne]
  refine g_bipush (-6) dX4_add_28 rfl ?_
  refine g_iast (n := 10) _ dX4_add_30 (by decide) rfl rfl (by omega) ?_
  refine g_aload_n 0 dX4_add_31 rfl rfl ?_
  refine g_dup dX4_add_32 rfl ?_
  refine gf_X4_18 dX4_add_33 ?_
  simp (disch := omega) only [setW_ne]
  refine g_iconst 1 dX4_add_36 rfl ?_
  refine g_iadd dX4_add_37 ?_
  refine pf_X4_18 dX4_add_38 ?_
  refine g_vret dX4_add_41 rfl rfl ?_
  · rw [hx, hc, nI_1]
/-- what bars so much under a leave, or without one where so much is free -/
def onF (w : W0) (a b c : Int32) : Int32 := if a = -1 then (if c.toInt < b.toInt then 1 else 0) else (if (limC w a).toInt < b.toInt then 4 else 0)
set_option maxRecDepth 20000 in
theorem t_X4_barsOn {E : En} {w : W0} {a b c : Int32} : Mt E 2 yX4_barsOn cX4_barsOn 4 (some .int) [.ref (E.1 3), .int a, .int b, .int c] w (some (.int (onF w a b c))) w := by
  refine Mt.of (by decide +kernel) (Nat.le_of_ble_eq_true rfl) ?_
  show G E 2 RX4 cX4_barsOn 4 (some .int) _ _ 0 [(0, .ref (E.1 3)), (1, .int a), (2, .int b), (3, .int c)] [] w
  refine g_iload_n 1 dX4_barsOn_0 rfl rfl ?_
  refine g_iconst (-1) dX4_barsOn_1 rfl ?_
  refine g_icmp_ne 16 dX4_barsOn_2 (by decide) (fun h2 => ?_) (fun h2 => ?_)
  · refine g_iload_n 2 dX4_barsOn_16 rfl rfl ?_
    refine g_aload_n 0 dX4_barsOn_17 rfl rfl ?_
    refine g_iload_n 1 dX4_barsOn_18 rfl rfl ?_
    refine ca_X4_30 dX4_barsOn_19 (t_X4_limitOf) (by decide) (Nat.le_of_ble_eq_true rfl) ?_
    refine g_icmp_le 29 _ _ dX4_barsOn_22 (by decide) rfl rfl (fun h22 => ?_) (fun h22 => ?_)
    · refine g_iconst 0 dX4_barsOn_29 rfl ?_
      refine g_iret dX4_barsOn_30 rfl rfl ?_ ?_
      · unfold onF; (repeat' split) <;> first | rfl | (exfalso; omega) | (exfalso; contradiction) | (exfalso; simp_all)
      · rfl
    · refine g_iconst 4 dX4_barsOn_25 rfl ?_
      refine g_goto 30 dX4_barsOn_26 (by decide) ?_
      refine g_iret dX4_barsOn_30 rfl rfl ?_ ?_
      · unfold onF; (repeat' split) <;> first | rfl | (exfalso; omega) | (exfalso; contradiction) | (exfalso; simp_all)
      · rfl
  · refine g_iload_n 2 dX4_barsOn_5 rfl rfl ?_
    refine g_iload_n 3 dX4_barsOn_6 rfl rfl ?_
    refine g_icmp_le 14 _ _ dX4_barsOn_7 (by decide) rfl rfl (fun h7 => ?_) (fun h7 => ?_)
    · refine g_iconst 0 dX4_barsOn_14 rfl ?_
      refine g_iret dX4_barsOn_15 rfl rfl ?_ ?_
      · unfold onF; (repeat' split) <;> first | rfl | (exfalso; omega) | (exfalso; contradiction) | (exfalso; simp_all)
      · rfl
    · refine g_iconst 1 dX4_barsOn_10 rfl ?_
      refine g_goto 15 dX4_barsOn_11 (by decide) ?_
      refine g_iret dX4_barsOn_15 rfl rfl ?_ ?_
      · unfold onF; (repeat' split) <;> first | rfl | (exfalso; omega) | (exfalso; contradiction) | (exfalso; simp_all)
      · rfl
end
section
/-! nextOf; Laws -/
def nextF (f : Nat → Int32) (a b : Int32) : Nat → Int32
  | 0 => b
  | k + 1 => if a.toInt < (f k).toInt ∧ (f k).toInt < (nextF f a b k).toInt then f k else nextF f a b k
theorem nextF_s (f : Nat → Int32) (a b : Int32) (k : Nat) : nextF f a b (k + 1) = if a.toInt < (f k).toInt ∧ (f k).toInt < (nextF f a b k).toInt then f k else nextF f a b k := rfl
def bestF (f : Nat → Int32) (day : Int32) : Nat → Int32
  | 0 => -1
  | k + 1 => if (f k).toInt ≤ day.toInt ∧ ((bestF f day k).toInt < 0 ∨ (f (bestF f day k).toNatClampNeg).toInt ≤ (f k).toInt) then nI k else bestF f day k
theorem bestF_s (f : Nat → Int32) (day : Int32) (k : Nat) : bestF f day (k + 1) = if (f k).toInt ≤ day.toInt ∧ ((bestF f day k).toInt < 0 ∨ (f (bestF f day k).toNatClampNeg).toInt ≤ (f k).toInt) then nI k else bestF f day k := rfl
theorem bestF_lt {f : Nat → Int32} {day : Int32} : ∀ (k : Nat), k < 1000 → -1 ≤ (bestF f day k).toInt ∧ (bestF f day k).toInt < k
  | 0, _ => by
    show -1 ≤ (-1 : Int32).toInt ∧ (-1 : Int32).toInt < ((0 : Nat) : Int)
    decide
  | k + 1, h => by
    have h1 := bestF_lt (f := f) (day := day) k (by omega)
    rw [bestF_s]
    split
    · rw [nI_toInt (by omega)]
      omega
    · omega
theorem nat_of_int {x : Int32} {n : Nat} (h : x.toInt = n) : x.toNatClampNeg = n := by
  show x.toInt.toNat = n
  rw [h]
  rfl
theorem nat_lt {x : Int32} {n : Nat} (h0 : 0 ≤ x.toInt) (h : x.toInt < n) : x.toNatClampNeg < n := by
  show x.toInt.toNat < n
  omega
def lpF (w : W0) (j i : Nat) : Int32 := if j < 8 then w (9 + j) i else 0
theorem lpF_in {w : W0} {j i : Nat} (h : j < 8) : lpF w j i = w (9 + j) i := if_pos h
theorem lpF_congr {w w' : W0} (h : ∀ q, 9 ≤ q → q ≤ 16 → w' q = w q) : lpF w' = lpF w := by
  funext j i
  unfold lpF
  split
  · rw [h _ (by omega) (by omega)]
  · rfl
/-- what is in force: the law told last of the greatest day not above, else the rule before any -/
def lawF (f : Nat → Int32) (lp : Nat → Nat → Int32) (nl : Nat) (day : Int32) (p : Nat) : Int32 := if (bestF f day nl).toInt < 0 then bef p else lp (bestF f day nl).toNatClampNeg p
def soonF (f : Nat → Int32) (lp : Nat → Nat → Int32) (nl : Nat) (born day first : Int32) : Int32 := if day.toInt < 0 ∨ first.toInt ≤ day.toInt then first else if (lawF f lp nl day 0 * 360).toInt ≤ (day - born).toInt then day else first
def faF (f : Nat → Int32) (lp : Nat → Nat → Int32) (nl : Nat) (born : Int32) : Nat → Int32
  | 0 => soonF f lp nl born (born + bef 0 * 360) (soonF f lp nl born 0 3600)
  | k + 1 => soonF f lp nl born (born + lp k 0 * 360) (soonF f lp nl born (f k) (faF f lp nl born k))
theorem faF_s (f : Nat → Int32) (lp : Nat → Nat → Int32) (nl : Nat) (born : Int32) (k : Nat) : faF f lp nl born (k + 1) = soonF f lp nl born (born + lp k 0 * 360) (soonF f lp nl born (f k) (faF f lp nl born k)) := rfl
def fullF (f : Nat → Int32) (lp : Nat → Nat → Int32) (nl : Nat) (born : Int32) : Int32 := if (faF f lp nl born nl).toInt < 3600 then faF f lp nl born nl else -6
set_option maxRecDepth 20000 in
theorem l_nextOf {E : En} {w : W0} {q c N : Nat} {a b : Int32} (hq : q < nP) (hs : sh q = (1, N)) (hN : N < 100) (hc : c ≤ N) : ∀ (n : Nat) (k : Nat) (z x : Int32), c + 1 ≤ k + n → k ≤ c → x = nI k → z = nextF (w q) a b k → G E 0 RX6 cX6_nextOf 6 (some .int) (some (.int (nextF (w q) a b c))) w 6 [(0, .ref (E.1 q)), (1, .int (nI c)), (2, .int a), (3, .int b), (4, .int z), (5, .int x)] [] w := by
  intro n
  induction n with
  | zero =>
    intro k z x hfu hk hx hz
    exact absurd hfu (by omega)
  | succ n ih =>
    intro k z x hfu hk hx hz
    have hxi : x.toInt = (k : Int) := by rw [hx]; exact nI_toInt (by omega)
    have hxn : x.toNatClampNeg = k := by rw [hx]; exact nI_clamp (by omega)
    have hcI : (nI c).toInt = (c : Int) := nI_toInt (by omega)
    refine g_iload 5 dX6_nextOf_6 rfl ?_
    refine g_iload_n 1 dX6_nextOf_8 rfl rfl ?_
    refine g_icmp_ge 48 (k : Int) (c : Int) dX6_nextOf_9 (by decide) hxi hcI (fun h9 => ?_) (fun h9 => ?_)
    · refine g_iload 4 dX6_nextOf_48 rfl ?_
      refine g_iret dX6_nextOf_50 rfl rfl ?_ ?_
      · rw [hz, show k = c by omega]
      · rfl
    · refine g_iload 5 dX6_nextOf_12 rfl ?_
      refine g_aload_n 0 dX6_nextOf_14 rfl rfl ?_
      refine g_alen (n := N) (nI N) dX6_nextOf_15 hq hs rfl ?_
      refine g_icmp_ge 48 (k : Int) _ dX6_nextOf_16 (by decide) hxi rfl (fun h16 => False.elim (by have : (nI N).toInt = (N : Int) := nI_toInt (by omega); omega)) (fun h16 => ?_)
      refine g_aload_n 0 dX6_nextOf_19 rfl rfl ?_
      refine g_iload 5 dX6_nextOf_20 rfl ?_
      refine g_iald (n := N) k dX6_nextOf_22 hq hs hxn (by omega) ?_
      refine g_iload_n 2 dX6_nextOf_23 rfl rfl ?_
      refine g_icmp_le 42 _ _ dX6_nextOf_24 (by decide) rfl rfl (fun h24 => ?_) (fun h24 => ?_)
      · refine g_iinc 1 [_, _, _, _, _] _ dX6_nextOf_42 rfl (by decide) rfl ?_
        refine g_goto 6 dX6_nextOf_45 (by decide) ?_
        exact ih (k + 1) _ _ (by omega) (by omega) (by rw [hx, nI_1]) (by rw [nextF_s, ← hz]; split <;> first | rfl | (exfalso; omega))
      · refine g_aload_n 0 dX6_nextOf_27 rfl rfl ?_
        refine g_iload 5 dX6_nextOf_28 rfl ?_
        refine g_iald (n := N) k dX6_nextOf_30 hq hs hxn (by omega) ?_
        refine g_iload 4 dX6_nextOf_31 rfl ?_
        refine g_icmp_ge 42 _ _ dX6_nextOf_33 (by decide) rfl rfl (fun h33 => ?_) (fun h33 => ?_)
        · refine g_iinc 1 [_, _, _, _, _] _ dX6_nextOf_42 rfl (by decide) rfl ?_
          refine g_goto 6 dX6_nextOf_45 (by decide) ?_
          exact ih (k + 1) _ _ (by omega) (by omega) (by rw [hx, nI_1]) (by rw [nextF_s, ← hz]; split <;> first | rfl | (exfalso; omega))
        · refine g_aload_n 0 dX6_nextOf_36 rfl rfl ?_
          refine g_iload 5 dX6_nextOf_37 rfl ?_
          refine g_iald (n := N) k dX6_nextOf_39 hq hs hxn (by omega) ?_
          refine g_ist [_, _, _, _] _ dX6_nextOf_40 (by decide) rfl ?_
          refine g_iinc 1 [_, _, _, _, _] _ dX6_nextOf_42 rfl (by decide) rfl ?_
          refine g_goto 6 dX6_nextOf_45 (by decide) ?_
          exact ih (k + 1) _ _ (by omega) (by omega) (by rw [hx, nI_1]) (by rw [nextF_s, ← hz]; split <;> first | rfl | (exfalso; omega))
set_option maxRecDepth 20000 in
theorem t_X6_nextOf {E : En} {w : W0} {q c N : Nat} {a b : Int32} (hq : q < nP) (hs : sh q = (1, N)) (hN : N < 100) (hc : c ≤ N) : Mt E 0 yX6_nextOf cX6_nextOf 6 (some .int) [.ref (E.1 q), .int (nI c), .int a, .int b] w (some (.int (nextF (w q) a b c))) w := by
  refine Mt.of (by decide +kernel) (Nat.le_of_ble_eq_true rfl) ?_
  show G E 0 RX6 cX6_nextOf 6 (some .int) _ _ 0 [(0, .ref (E.1 q)), (1, .int (nI c)), (2, .int a), (3, .int b)] [] w
  refine g_iload_n 3 dX6_nextOf_0 rfl rfl ?_
  refine g_istN dX6_nextOf_1 (by decide) rfl ?_
  refine g_iconst 0 dX6_nextOf_3 rfl ?_
  refine g_istN dX6_nextOf_4 (by decide) rfl ?_
  refine g_lv [2, 3, 4, 5, 1, 0] rfl ?_
  exact l_nextOf hq hs hN hc (c + 1) 0 _ _ (by omega) (by omega) rfl rfl
set_option maxRecDepth 20000 in
theorem l_inForce {E : En} {w : W0} {nl p : Nat} {day z : Int32} (hc : w 1 2 = nI nl) (hn : nl ≤ 8) (hz : z.toInt = (p : Int)) (hp : p < 5) : ∀ (n : Nat) (k : Nat) (v x : Int32), nl + 1 ≤ k + n → k ≤ nl → x = nI k → v = bestF (w 7) day k → G E 1 RX2 cX2_inForce 5 (some .int) (some (.int (lawF (w 7) (lpF w) nl day p))) w 16 [(0, .ref (E.1 1)), (1, .int day), (2, .int z), (3, .int v), (4, .int x)] [] w := by
  intro n
  induction n with
  | zero =>
    intro k v x hfu hk hx hv
    exact absurd hfu (by omega)
  | succ n ih =>
    intro k v x hfu hk hx hv
    have hxi : x.toInt = (k : Int) := by rw [hx]; exact nI_toInt (by omega)
    have hxn : x.toNatClampNeg = k := by rw [hx]; exact nI_clamp (by omega)
    have hcI : (w 1 2).toInt = (nl : Int) := by rw [hc]; exact nI_toInt (by omega)
    have hv2 := bestF_lt (f := w 7) (day := day) k (by omega)
    rw [← hv] at hv2
    refine g_iload 4 dX2_inForce_16 rfl ?_
    refine g_aload_n 0 dX2_inForce_18 rfl rfl ?_
    refine gf_X2_20 dX2_inForce_19 ?_
    refine g_icmp_ge 72 (k : Int) _ dX2_inForce_22 (by decide) hxi rfl (fun h22 => ?_) (fun h22 => ?_)
    · refine g_iload_n 3 dX2_inForce_72 rfl rfl ?_
      refine g_if_ge 84 _ dX2_inForce_73 (by decide) rfl (fun h73 => ?_) (fun h73 => ?_)
      · refine g_aload_n 0 dX2_inForce_84 rfl rfl ?_
        refine gf_X2_17 dX2_inForce_85 ?_
        refine g_iload_n 3 dX2_inForce_88 rfl rfl ?_
        refine g_aald (n := 8) (b := 9) _ dX2_inForce_89 (by decide) rfl rf_8 rfl (by omega) (fun hj89 => ?_)
        refine g_iload_n 2 dX2_inForce_90 rfl rfl ?_
        refine g_iald (n := 5) p dX2_inForce_91 (by show _ < 80; omega) (sh_9 hj89) (nat_of_int hz) (by omega) ?_
        refine g_iret dX2_inForce_92 rfl rfl ?_ ?_
        · rw [show k = nl by omega] at hv; rw [lawF, ← hv]; split <;> first | rfl | (rw [lpF_in (nat_lt (by omega) (by omega))]) | (exfalso; omega)
        · rfl
      · refine g_getsN dX2_inForce_76 lk_X2_28 ?_
        refine g_iload_n 2 dX2_inForce_79 rfl rfl ?_
        refine g_tld p dX2_inForce_80 (nat_of_int hz) (by omega) ?_
        refine g_goto 92 dX2_inForce_81 (by decide) ?_
        refine g_iret dX2_inForce_92 rfl rfl ?_ ?_
        · rw [show k = nl by omega] at hv; rw [lawF, ← hv]; split <;> first | rfl | (rw [lpF_in (nat_lt (by omega) (by omega))]) | (exfalso; omega)
        · rfl
    · refine g_iload 4 dX2_inForce_25 rfl ?_
      refine g_bipush 8 dX2_inForce_27 rfl ?_
      refine g_icmp_ge 72 (k : Int) 8 dX2_inForce_29 (by decide) hxi rfl (fun h29 => False.elim (by omega)) (fun h29 => ?_)
      refine g_aload_n 0 dX2_inForce_32 rfl rfl ?_
      refine gf_X2_9 dX2_inForce_33 ?_
      refine g_iload 4 dX2_inForce_36 rfl ?_
      refine g_iald (n := 8) k dX2_inForce_38 (by decide) rfl hxn (by omega) ?_
      refine g_iload_n 1 dX2_inForce_39 rfl rfl ?_
      refine g_icmp_gt 66 _ _ dX2_inForce_40 (by decide) rfl rfl (fun h40 => ?_) (fun h40 => ?_)
      · refine g_iinc 1 [_, _, _, _] _ dX2_inForce_66 rfl (by decide) rfl ?_
        refine g_goto 16 dX2_inForce_69 (by decide) ?_
        exact ih (k + 1) _ _ (by omega) (by omega) (by rw [hx, nI_1]) (by rw [bestF_s, ← hv]; split <;> first | rfl | exact hx | (exfalso; omega))
      · refine g_iload_n 3 dX2_inForce_43 rfl rfl ?_
        refine g_if_lt 63 _ dX2_inForce_44 (by decide) rfl (fun h44 => ?_) (fun h44 => ?_)
        · refine g_iload 4 dX2_inForce_63 rfl ?_
          refine g_ist_n [_, _, _] _ dX2_inForce_65 rfl (by decide) rfl ?_
          refine g_iinc 1 [_, _, _, _] _ dX2_inForce_66 rfl (by decide) rfl ?_
          refine g_goto 16 dX2_inForce_69 (by decide) ?_
          exact ih (k + 1) _ _ (by omega) (by omega) (by rw [hx, nI_1]) (by rw [bestF_s, ← hv]; split <;> first | rfl | exact hx | (exfalso; omega))
        · refine g_aload_n 0 dX2_inForce_47 rfl rfl ?_
          refine gf_X2_9 dX2_inForce_48 ?_
          refine g_iload 4 dX2_inForce_51 rfl ?_
          refine g_iald (n := 8) k dX2_inForce_53 (by decide) rfl hxn (by omega) ?_
          refine g_aload_n 0 dX2_inForce_54 rfl rfl ?_
          refine gf_X2_9 dX2_inForce_55 ?_
          refine g_iload_n 3 dX2_inForce_58 rfl rfl ?_
          refine g_iald (n := 8) _ dX2_inForce_59 (by decide) rfl rfl (by omega) ?_
          refine g_icmp_lt 66 _ _ dX2_inForce_60 (by decide) rfl rfl (fun h60 => ?_) (fun h60 => ?_)
          · refine g_iinc 1 [_, _, _, _] _ dX2_inForce_66 rfl (by decide) rfl ?_
            refine g_goto 16 dX2_inForce_69 (by decide) ?_
            exact ih (k + 1) _ _ (by omega) (by omega) (by rw [hx, nI_1]) (by rw [bestF_s, ← hv]; split <;> first | rfl | exact hx | (exfalso; omega))
          · refine g_iload 4 dX2_inForce_63 rfl ?_
            refine g_ist_n [_, _, _] _ dX2_inForce_65 rfl (by decide) rfl ?_
            refine g_iinc 1 [_, _, _, _] _ dX2_inForce_66 rfl (by decide) rfl ?_
            refine g_goto 16 dX2_inForce_69 (by decide) ?_
            exact ih (k + 1) _ _ (by omega) (by omega) (by rw [hx, nI_1]) (by rw [bestF_s, ← hv]; split <;> first | rfl | exact hx | (exfalso; omega))
set_option maxRecDepth 20000 in
theorem t_X2_inForce {E : En} {w : W0} {nl p : Nat} {day z : Int32} (hc : w 1 2 = nI nl) (hn : nl ≤ 8) (hz : z.toInt = (p : Int)) (hp : p < 5) : Mt E 1 yX2_inForce cX2_inForce 5 (some .int) [.ref (E.1 1), .int day, .int z] w (some (.int (lawF (w 7) (lpF w) nl day p))) w := by
  refine Mt.of (by decide +kernel) (Nat.le_of_ble_eq_true rfl) ?_
  show G E 1 RX2 cX2_inForce 5 (some .int) _ _ 0 [(0, .ref (E.1 1)), (1, .int day), (2, .int z)] [] w
  refine g_iload_n 2 dX2_inForce_0 rfl rfl ?_
  refine g_iconst 0 dX2_inForce_1 rfl ?_
  refine g_iconst 4 dX2_inForce_2 rfl ?_
  refine ca_X2_24 dX2_inForce_3 (t_X6_within 0 4 rfl rfl) (by decide) (Nat.le_of_ble_eq_true rfl) ?_
  refine g_if_neb 11 dX2_inForce_6 (by decide) (fun h6 => ?_) (fun h6 => False.elim (by omega))
  refine g_iconst (-1) dX2_inForce_11 rfl ?_
  refine g_istN_n dX2_inForce_12 rfl (by decide) rfl ?_
  refine g_iconst 0 dX2_inForce_13 rfl ?_
  refine g_istN dX2_inForce_14 (by decide) rfl ?_
  refine g_lv [2, 3, 4, 1, 0] rfl ?_
  exact l_inForce hc hn hz hp (nl + 1) 0 _ _ (by omega) (by omega) rfl rfl
set_option maxRecDepth 20000 in
theorem t_X2_sooner {E : En} {w : W0} {nl : Nat} {born day first : Int32} (hc : w 1 2 = nI nl) (hn : nl ≤ 8) : Mt E 2 yX2_sooner cX2_sooner 4 (some .int) [.ref (E.1 1), .int born, .int day, .int first] w (some (.int (soonF (w 7) (lpF w) nl born day first))) w := by
  refine Mt.of (by decide +kernel) (Nat.le_of_ble_eq_true rfl) ?_
  show G E 2 RX2 cX2_sooner 4 (some .int) _ _ 0 [(0, .ref (E.1 1)), (1, .int born), (2, .int day), (3, .int first)] [] w
  refine g_iload_n 2 dX2_sooner_0 rfl rfl ?_
  refine g_if_lt 9 _ dX2_sooner_1 (by decide) rfl (fun h1 => ?_) (fun h1 => ?_)
  · refine g_iload_n 3 dX2_sooner_9 rfl rfl ?_
    refine g_iret dX2_sooner_10 rfl rfl ?_ ?_
    · unfold soonF; (repeat' split) <;> first | rfl | (exfalso; omega)
    · rfl
  · refine g_iload_n 2 dX2_sooner_4 rfl rfl ?_
    refine g_iload_n 3 dX2_sooner_5 rfl rfl ?_
    refine g_icmp_lt 11 _ _ dX2_sooner_6 (by decide) rfl rfl (fun h6 => ?_) (fun h6 => ?_)
    · refine g_iload_n 2 dX2_sooner_11 rfl rfl ?_
      refine g_iload_n 1 dX2_sooner_12 rfl rfl ?_
      refine g_isub dX2_sooner_13 ?_
      refine g_aload_n 0 dX2_sooner_14 rfl rfl ?_
      refine g_iload_n 2 dX2_sooner_15 rfl rfl ?_
      refine g_iconst 0 dX2_sooner_16 rfl ?_
      refine ca_X2_35 dX2_sooner_17 (t_X2_inForce (p := 0) hc hn rfl (by decide)) (by decide) (Nat.le_of_ble_eq_true rfl) ?_
      refine g_sipush 360 dX2_sooner_20 rfl ?_
      refine g_imul dX2_sooner_23 ?_
      refine g_icmp_lt 31 _ _ dX2_sooner_24 (by decide) rfl rfl (fun h24 => ?_) (fun h24 => ?_)
      · refine g_iload_n 3 dX2_sooner_31 rfl rfl ?_
        refine g_iret dX2_sooner_32 rfl rfl ?_ ?_
        · unfold soonF; (repeat' split) <;> first | rfl | (exfalso; omega)
        · rfl
      · refine g_iload_n 2 dX2_sooner_27 rfl rfl ?_
        refine g_goto 32 dX2_sooner_28 (by decide) ?_
        refine g_iret dX2_sooner_32 rfl rfl ?_ ?_
        · unfold soonF; (repeat' split) <;> first | rfl | (exfalso; omega)
        · rfl
    · refine g_iload_n 3 dX2_sooner_9 rfl rfl ?_
      refine g_iret dX2_sooner_10 rfl rfl ?_ ?_
      · unfold soonF; (repeat' split) <;> first | rfl | (exfalso; omega)
      · rfl
set_option maxRecDepth 20000 in
theorem l_fullAgeDay {E : En} {w : W0} {nl : Nat} {born : Int32} (hc : w 1 2 = nI nl) (hn : nl ≤ 8) : ∀ (n : Nat) (k : Nat) (v x : Int32), nl + 1 ≤ k + n → k ≤ nl → x = nI k → v = faF (w 7) (lpF w) nl born k → G E 3 RX2 cX2_fullAgeDay 4 (some .int) (some (.int (fullF (w 7) (lpF w) nl born))) w 30 [(0, .ref (E.1 1)), (1, .int born), (2, .int v), (3, .int x)] [] w := by
  intro n
  induction n with
  | zero =>
    intro k v x hfu hk hx hv
    exact absurd hfu (by omega)
  | succ n ih =>
    intro k v x hfu hk hx hv
    have hxi : x.toInt = (k : Int) := by rw [hx]; exact nI_toInt (by omega)
    have hxn : x.toNatClampNeg = k := by rw [hx]; exact nI_clamp (by omega)
    have hcI : (w 1 2).toInt = (nl : Int) := by rw [hc]; exact nI_toInt (by omega)
    refine g_iload_n 3 dX2_fullAgeDay_30 rfl rfl ?_
    refine g_aload_n 0 dX2_fullAgeDay_31 rfl rfl ?_
    refine gf_X2_20 dX2_fullAgeDay_32 ?_
    refine g_icmp_ge 84 (k : Int) _ dX2_fullAgeDay_35 (by decide) hxi rfl (fun h35 => ?_) (fun h35 => ?_)
    · refine g_iload_n 2 dX2_fullAgeDay_84 rfl rfl ?_
      refine g_sipush 3600 dX2_fullAgeDay_85 rfl ?_
      refine g_icmp_ge 95 _ 3600 dX2_fullAgeDay_88 (by decide) rfl rfl (fun h88 => ?_) (fun h88 => ?_)
      · refine g_bipush (-6) dX2_fullAgeDay_95 rfl ?_
        refine g_iret dX2_fullAgeDay_97 rfl rfl ?_ ?_
        · rw [show k = nl by omega] at hv; rw [fullF, ← hv]; split <;> first | rfl | (exfalso; omega)
        · rfl
      · refine g_iload_n 2 dX2_fullAgeDay_91 rfl rfl ?_
        refine g_goto 97 dX2_fullAgeDay_92 (by decide) ?_
        refine g_iret dX2_fullAgeDay_97 rfl rfl ?_ ?_
        · rw [show k = nl by omega] at hv; rw [fullF, ← hv]; split <;> first | rfl | (exfalso; omega)
        · rfl
    · refine g_iload_n 3 dX2_fullAgeDay_38 rfl rfl ?_
      refine g_bipush 8 dX2_fullAgeDay_39 rfl ?_
      refine g_icmp_ge 84 (k : Int) 8 dX2_fullAgeDay_41 (by decide) hxi rfl (fun h41 => False.elim (by omega)) (fun h41 => ?_)
      refine g_aload_n 0 dX2_fullAgeDay_44 rfl rfl ?_
      refine g_iload_n 1 dX2_fullAgeDay_45 rfl rfl ?_
      refine g_aload_n 0 dX2_fullAgeDay_46 rfl rfl ?_
      refine gf_X2_9 dX2_fullAgeDay_47 ?_
      refine g_iload_n 3 dX2_fullAgeDay_50 rfl rfl ?_
      refine g_iald (n := 8) k dX2_fullAgeDay_51 (by decide) rfl hxn (by omega) ?_
      refine g_iload_n 2 dX2_fullAgeDay_52 rfl rfl ?_
      refine ca_X2_31 dX2_fullAgeDay_53 (t_X2_sooner hc hn) (by decide) (Nat.le_of_ble_eq_true rfl) ?_
      refine g_ist_n [_, _] _ dX2_fullAgeDay_56 rfl (by decide) rfl ?_
      refine g_aload_n 0 dX2_fullAgeDay_57 rfl rfl ?_
      refine g_iload_n 1 dX2_fullAgeDay_58 rfl rfl ?_
      refine g_iload_n 1 dX2_fullAgeDay_59 rfl rfl ?_
      refine g_aload_n 0 dX2_fullAgeDay_60 rfl rfl ?_
      refine gf_X2_17 dX2_fullAgeDay_61 ?_
      refine g_iload_n 3 dX2_fullAgeDay_64 rfl rfl ?_
      refine g_aald (n := 8) (b := 9) k dX2_fullAgeDay_65 (by decide) rfl rf_8 hxn (by omega) (fun hj65 => ?_)
      refine g_iconst 0 dX2_fullAgeDay_66 rfl ?_
      refine g_iald (n := 5) 0 dX2_fullAgeDay_67 (by show _ < 80; omega) (sh_9 hj65) rfl (by decide) ?_
      refine g_sipush 360 dX2_fullAgeDay_68 rfl ?_
      refine g_imul dX2_fullAgeDay_71 ?_
      refine g_iadd dX2_fullAgeDay_72 ?_
      refine g_iload_n 2 dX2_fullAgeDay_73 rfl rfl ?_
      refine ca_X2_31 dX2_fullAgeDay_74 (t_X2_sooner hc hn) (by decide) (Nat.le_of_ble_eq_true rfl) ?_
      refine g_ist_n [_, _] _ dX2_fullAgeDay_77 rfl (by decide) rfl ?_
      refine g_iinc 1 [_, _, _] _ dX2_fullAgeDay_78 rfl (by decide) rfl ?_
      refine g_goto 30 dX2_fullAgeDay_81 (by decide) ?_
      exact ih (k + 1) _ _ (by omega) (by omega) (by rw [hx, nI_1]) (by rw [faF_s, ← hv, lpF_in (by omega)])
set_option maxRecDepth 20000 in
theorem t_X2_fullAgeDay {E : En} {w : W0} {nl : Nat} {born : Int32} (hc : w 1 2 = nI nl) (hn : nl ≤ 8) : Mt E 3 yX2_fullAgeDay cX2_fullAgeDay 4 (some .int) [.ref (E.1 1), .int born] w (some (.int (fullF (w 7) (lpF w) nl born))) w := by
  refine Mt.of (by decide +kernel) (Nat.le_of_ble_eq_true rfl) ?_
  show G E 3 RX2 cX2_fullAgeDay 4 (some .int) _ _ 0 [(0, .ref (E.1 1)), (1, .int born)] [] w
  refine g_aload_n 0 dX2_fullAgeDay_0 rfl rfl ?_
  refine g_iload_n 1 dX2_fullAgeDay_1 rfl rfl ?_
  refine g_iconst 0 dX2_fullAgeDay_2 rfl ?_
  refine g_sipush 3600 dX2_fullAgeDay_3 rfl ?_
  refine ca_X2_31 dX2_fullAgeDay_6 (t_X2_sooner hc hn) (by decide) (Nat.le_of_ble_eq_true rfl) ?_
  refine g_istN_n dX2_fullAgeDay_9 rfl (by decide) rfl ?_
  refine g_aload_n 1 dX2_fullAgeDay_10 rfl rfl ?_
  refine g_iload_n 2 dX2_fullAgeDay_11 rfl rfl ?_
  refine g_iload_n 2 dX2_fullAgeDay_12 rfl rfl ?_
  refine g_getsN dX2_fullAgeDay_13 lk_X2_28 ?_
  refine g_iconst 0 dX2_fullAgeDay_16 rfl ?_
  refine g_tld 0 dX2_fullAgeDay_17 rfl (by decide) ?_
  refine g_sipush 360 dX2_fullAgeDay_18 rfl ?_
  refine g_imul dX2_fullAgeDay_21 ?_
  refine g_iadd dX2_fullAgeDay_22 ?_
  refine g_iload_n 0 dX2_fullAgeDay_23 rfl rfl ?_
  refine ca_X2_31 dX2_fullAgeDay_24 (t_X2_sooner hc hn) (by decide) (Nat.le_of_ble_eq_true rfl) ?_
  refine g_ist_n [] _ dX2_fullAgeDay_27 rfl (by decide) rfl ?_
  refine g_iconst 0 dX2_fullAgeDay_28 rfl ?_
  refine g_istN_n dX2_fullAgeDay_29 rfl (by decide) rfl ?_
  refine g_lv [2, 3, 1, 0] rfl ?_
  exact l_fullAgeDay hc hn (nl + 1) 0 _ _ (by omega) (by omega) rfl rfl
set_option maxRecDepth 20000 in
theorem t_X2_turnAfter {E : En} {w : W0} {nl : Nat} {a b : Int32} (hc : w 1 2 = nI nl) (hn : nl ≤ 8) : Mt E 1 yX2_turnAfter cX2_turnAfter 3 (some .int) [.ref (E.1 1), .int a, .int b] w (some (.int (nextF (w 7) a b nl))) w := by
  refine Mt.of (by decide +kernel) (Nat.le_of_ble_eq_true rfl) ?_
  show G E 1 RX2 cX2_turnAfter 3 (some .int) _ _ 0 [(0, .ref (E.1 1)), (1, .int a), (2, .int b)] [] w
  refine g_aload_n 0 dX2_turnAfter_0 rfl rfl ?_
  refine gf_X2_9 dX2_turnAfter_1 ?_
  refine g_aload_n 0 dX2_turnAfter_4 rfl rfl ?_
  refine gf_X2_20 dX2_turnAfter_5 ?_
  rw [hc]
  refine g_iload_n 1 dX2_turnAfter_8 rfl rfl ?_
  refine g_iload_n 2 dX2_turnAfter_9 rfl rfl ?_
  refine ca_X2_39 dX2_turnAfter_10 (t_X6_nextOf (q := 7) (N := 8) (by decide) rfl (by decide) (by omega)) (by decide) (Nat.le_of_ble_eq_true rfl) ?_
  refine g_iret dX2_turnAfter_13 rfl rfl ?_ ?_
  · rfl
  · rfl
set_option maxRecDepth 20000 in
theorem t_X2_add {E : En} {w : W0} {day a b c e f : Int32} {n : Nat} (hc : w 1 2 = nI n) (hn : n < 8) : Mt E 0 yX2_add cX2_add 7 (none) [.ref (E.1 1), .int day, .int a, .int b, .int c, .int e, .int f] w none (setW (setW (setW (setW (setW (setW (setW w 7 n day) (9 + n) 0 a) (9 + n) 1 b) (9 + n) 2 c) (9 + n) 3 e) (9 + n) 4 f) 1 2 (nI (n + 1))) := by
  refine Mt.of (by decide +kernel) (Nat.le_of_ble_eq_true rfl) ?_
  show G E 0 RX2 cX2_add 7 (none) _ _ 0 [(0, .ref (E.1 1)), (1, .int day), (2, .int a), (3, .int b), (4, .int c), (5, .int e), (6, .int f)] [] w
  have hi : (w 1 2).toInt = (n : Int) := by rw [hc]; exact nI_toInt (by omega)
  have hx : (w 1 2).toNatClampNeg = n := by rw [hc]; exact nI_clamp (by omega)
  refine g_aload_n 0 dX2_add_0 rfl rfl ?_
  refine gf_X2_20 dX2_add_1 ?_
  refine g_bipush 8 dX2_add_4 rfl ?_
  refine g_icmp_lt 10 _ 8 dX2_add_6 (by decide) rfl rfl (fun h6 => ?_) (fun h6 => False.elim (by omega))
  refine g_aload_n 0 dX2_add_10 rfl rfl ?_
  refine gf_X2_9 dX2_add_11 ?_
  refine g_aload_n 0 dX2_add_14 rfl rfl ?_
  refine gf_X2_20 dX2_add_15 ?_
  refine g_iload_n 1 dX2_add_18 rfl rfl ?_
  refine g_iast (n := 8) n dX2_add_19 (by decide) rfl hx (by omega) ?_
  refine g_aload_n 0 dX2_add_20 rfl rfl ?_
  refine gf_X2_17 dX2_add_21 ?_
  refine g_aload_n 0 dX2_add_24 rfl rfl ?_
  refine gf_X2_20 dX2_add_25 ?_
  simp (disch := omega) only [setW_ne]
  refine g_aald (n := 8) (b := 9) n dX2_add_28 (by decide) rfl rf_8 hx (by omega) (fun hj28 => ?_)
  refine g_iconst 0 dX2_add_29 rfl ?_
  refine g_iload_n 2 dX2_add_30 rfl rfl ?_
  refine g_iast (n := 5) 0 dX2_add_31 (by show _ < 80; omega) (sh_9 hj28) rfl (by decide) ?_
  refine g_aload_n 0 dX2_add_32 rfl rfl ?_
  refine gf_X2_17 dX2_add_33 ?_
  refine g_aload_n 0 dX2_add_36 rfl rfl ?_
  refine gf_X2_20 dX2_add_37 ?_
  simp (disch := omega) only [setW_ne]
  refine g_aald (n := 8) (b := 9) n dX2_add_40 (by decide) rfl rf_8 hx (by omega) (fun hj40 => ?_)
  refine g_iconst 1 dX2_add_41 rfl ?_
  refine g_iload_n 3 dX2_add_42 rfl rfl ?_
  refine g_iast (n := 5) 1 dX2_add_43 (by show _ < 80; omega) (sh_9 hj40) rfl (by decide) ?_
  refine g_aload_n 0 dX2_add_44 rfl rfl ?_
  refine gf_X2_17 dX2_add_45 ?_
  refine g_aload_n 0 dX2_add_48 rfl rfl ?_
  refine gf_X2_20 dX2_add_49 ?_
  simp (disch := omega) only [setW_ne]
  refine g_aald (n := 8) (b := 9) n dX2_add_52 (by decide) rfl rf_8 hx (by omega) (fun hj52 => ?_)
  refine g_iconst 2 dX2_add_53 rfl ?_
  refine g_iload 4 dX2_add_54 rfl ?_
  refine g_iast (n := 5) 2 dX2_add_56 (by show _ < 80; omega) (sh_9 hj52) rfl (by decide) ?_
  refine g_aload_n 0 dX2_add_57 rfl rfl ?_
  refine gf_X2_17 dX2_add_58 ?_
  refine g_aload_n 0 dX2_add_61 rfl rfl ?_
  refine gf_X2_20 dX2_add_62 ?_
  simp (disch := omega) only [setW_ne]
  refine g_aald (n := 8) (b := 9) n dX2_add_65 (by decide) rfl rf_8 hx (by omega) (fun hj65 => ?_)
  refine g_iconst 3 dX2_add_66 rfl ?_
  refine g_iload 5 dX2_add_67 rfl ?_
  refine g_iast (n := 5) 3 dX2_add_69 (by show _ < 80; omega) (sh_9 hj65) rfl (by decide) ?_
  refine g_aload_n 0 dX2_add_70 rfl rfl ?_
  refine gf_X2_17 dX2_add_71 ?_
  refine g_aload_n 0 dX2_add_74 rfl rfl ?_
  refine gf_X2_20 dX2_add_75 ?_
  simp (disch := omega) only [setW_ne]
  refine g_aald (n := 8) (b := 9) n dX2_add_78 (by decide) rfl rf_8 hx (by omega) (fun hj78 => ?_)
  refine g_iconst 4 dX2_add_79 rfl ?_
  refine g_iload 6 dX2_add_80 rfl ?_
  refine g_iast (n := 5) 4 dX2_add_82 (by show _ < 80; omega) (sh_9 hj78) rfl (by decide) ?_
  refine g_aload_n 0 dX2_add_83 rfl rfl ?_
  refine g_dup dX2_add_84 rfl ?_
  refine gf_X2_20 dX2_add_85 ?_
  simp (disch := omega) only [setW_ne]
  refine g_iconst 1 dX2_add_88 rfl ?_
  refine g_iadd dX2_add_89 ?_
  refine pf_X2_20 dX2_add_90 ?_
  refine g_vret dX2_add_93 rfl rfl ?_
  · rw [hc, nI_1]
end
section
/-! worlds with a whole row put in -/
def setA (w : W0) (p : Nat) (f : Nat → Int32) : W0 := fun a => if a = p then f else w a
theorem setA_p (w : W0) (p : Nat) (f : Nat → Int32) : setA w p f p = f := by simp [setA]
theorem setA_ne {w : W0} {p q : Nat} {f : Nat → Int32} (h : q ≠ p) : setA w p f q = w q := by simp [setA, h]
theorem setA_self (w : W0) (p : Nat) : setA w p (w p) = w := by
  funext a
  unfold setA
  split
  · next h => rw [h]
  · rfl
theorem setW_A (w : W0) (p i : Nat) (v : Int32) : setW w p i v = setA w p (upd (w p) i v) := rfl
theorem setW_setA (w : W0) (p i : Nat) (v : Int32) (f : Nat → Int32) : setW (setA w p f) p i v = setA w p (upd f i v) := by
  funext a
  unfold setW setA
  by_cases h : a = p <;> simp [h]
theorem setW_setA_ne {w : W0} {p q i : Nat} {v : Int32} {f : Nat → Int32} (h : q ≠ p) : setW (setA w p f) q i v = setA (setW w q i v) p f := by
  funext a
  unfold setW setA
  by_cases h1 : a = p
  · subst h1
    simp [Ne.symm h]
  · by_cases h2 : a = q
    · subst h2
      simp [h1]
    · simp [h1, h2]
theorem upd_self (f : Nat → Int32) (k : Nat) (x : Int32) : upd f k x k = x := by simp [upd]
theorem upd_ne {f : Nat → Int32} {k j : Nat} {x : Int32} (h : j ≠ k) : upd f k x j = f j := by simp [upd, h]
theorem lpF_setA {w : W0} {p : Nat} {f : Nat → Int32} (h : p < 9 ∨ 16 < p) : lpF (setA w p f) = lpF w := lpF_congr (fun q h1 h2 => setA_ne (by omega))
theorem lpF_setW {w : W0} {p i : Nat} {v : Int32} (h : p < 9 ∨ 16 < p) : lpF (setW w p i v) = lpF w := lpF_congr (fun q h1 h2 => setW_ne (by omega))
/-- g, but F below k -/
def fillF (F g : Nat → Int32) (k : Nat) : Nat → Int32 := fun j => if j < k then F j else g j
theorem fillF_0 (F g : Nat → Int32) : fillF F g 0 = g := by
  funext j
  simp [fillF]
theorem fillF_s (F g : Nat → Int32) (k : Nat) : upd (fillF F g k) k (F k) = fillF F g (k + 1) := by
  funext j
  unfold upd fillF
  by_cases h : j = k
  · subst h
    simp
  · rw [if_neg h]
    by_cases h2 : j < k
    · rw [if_pos h2, if_pos (by omega)]
    · rw [if_neg h2, if_neg (by omega)]
theorem fillF_in {F g : Nat → Int32} {k j : Nat} (h : j < k) : fillF F g k j = F j := if_pos h
theorem fillF_out {F g : Nat → Int32} {k j : Nat} (h : k ≤ j) : fillF F g k j = g j := if_neg (by omega)
theorem limC_setA {w : W0} {p : Nat} {f : Nat → Int32} (h : p ≠ 3 ∧ p ≠ 22) : limC (setA w p f) = limC w := by
  funext i
  unfold limC hasL
  rw [setA_ne (Ne.symm h.1), setA_ne (Ne.symm h.2)]
theorem limC_setW {w : W0} {p i : Nat} {v : Int32} (h : p ≠ 3 ∧ p ≠ 22) : limC (setW w p i v) = limC w := by
  funext i
  unfold limC hasL
  rw [setW_ne (Ne.symm h.1), setW_ne (Ne.symm h.2)]
end
section
/-! Wards -/
abbrev hasW (w : W0) (i : Int32) : Prop := 0 ≤ i.toInt ∧ i.toInt < (w 2 5).toInt ∧ i.toInt < 6
abbrev livesF (bo di : Nat → Int32) (k : Nat) (day : Int32) : Prop := (bo k).toInt ≤ day.toInt ∧ (di k = -6 ∨ day.toInt < (di k).toInt)
def headsF (bo di go : Nat → Int32) (day : Int32) : Nat → Int32
  | 0 => 0
  | k + 1 => if ¬ (¬ go k = -6 ∧ (go k).toInt < day.toInt) ∧ livesF bo di k day then headsF bo di go day k + 1 else headsF bo di go day k
theorem headsF_s (bo di go : Nat → Int32) (day : Int32) (k : Nat) : headsF bo di go day (k + 1) = if ¬ (¬ go k = -6 ∧ (go k).toInt < day.toInt) ∧ livesF bo di k day then headsF bo di go day k + 1 else headsF bo di go day k := rfl
def gbF (go sr : Nat → Int32) (a b : Int32) : Nat → Int32
  | 0 => 0
  | k + 1 => if a.toInt ≤ (go k).toInt ∧ (go k).toInt ≤ b.toInt then gbF go sr a b k + sr k else gbF go sr a b k
theorem gbF_s (go sr : Nat → Int32) (a b : Int32) (k : Nat) : gbF go sr a b (k + 1) = if a.toInt ≤ (go k).toInt ∧ (go k).toInt ≤ b.toInt then gbF go sr a b k + sr k else gbF go sr a b k := rfl
/-- what a ward gets that is given over, with h heads left and g given already -/
def shareF (held g h : Int32) : Int32 := if 0 < (held - g).toInt ∧ 0 < h.toInt then (held - g) / h else 0
def gsF (go : Nat → Int32) (day held : Int32) (s0 : Nat → Int32) (h0 : Int32) : Nat → (Nat → Int32) × Int32 × Int32
  | 0 => (s0, 0, h0)
  | k + 1 => if go k = day then (upd (gsF go day held s0 h0 k).1 k (shareF held (gsF go day held s0 h0 k).2.1 (gsF go day held s0 h0 k).2.2), (gsF go day held s0 h0 k).2.1 + shareF held (gsF go day held s0 h0 k).2.1 (gsF go day held s0 h0 k).2.2, (gsF go day held s0 h0 k).2.2 + -1) else gsF go day held s0 h0 k
theorem gsF_s (go : Nat → Int32) (day held : Int32) (s0 : Nat → Int32) (h0 : Int32) (k : Nat) : gsF go day held s0 h0 (k + 1) = if go k = day then (upd (gsF go day held s0 h0 k).1 k (shareF held (gsF go day held s0 h0 k).2.1 (gsF go day held s0 h0 k).2.2), (gsF go day held s0 h0 k).2.1 + shareF held (gsF go day held s0 h0 k).2.1 (gsF go day held s0 h0 k).2.2, (gsF go day held s0 h0 k).2.2 + -1) else gsF go day held s0 h0 k := rfl
def goF (bo di FU : Nat → Int32) (j : Nat) : Int32 := if ¬ FU j = -6 ∧ livesF bo di j (FU j) then FU j else -6
theorem goF_or (bo di FU : Nat → Int32) (j : Nat) : (¬ FU j = -6 ∧ livesF bo di j (FU j) ∧ goF bo di FU j = FU j) ∨ (¬ (¬ FU j = -6 ∧ livesF bo di j (FU j)) ∧ goF bo di FU j = -6) := by
  by_cases h : ¬ FU j = -6 ∧ livesF bo di j (FU j)
  · exact Or.inl ⟨h.1, h.2, if_pos h⟩
  · exact Or.inr ⟨h, if_neg h⟩
set_option maxRecDepth 20000 in
theorem t_X5_has {E : En} {w : W0} {i : Int32} : Mt E 0 yX5_has cX5_has 2 (some .boolean) [.ref (E.1 2), .int i] w (some (.int (bI (hasW w i)))) w := by
  refine Mt.of (by decide +kernel) (Nat.le_of_ble_eq_true rfl) ?_
  show G E 0 RX5 cX5_has 2 (some .boolean) _ _ 0 [(0, .ref (E.1 2)), (1, .int i)] [] w
  refine g_iload_n 1 dX5_has_0 rfl rfl ?_
  refine g_if_lt 22 _ dX5_has_1 (by decide) rfl (fun h1 => ?_) (fun h1 => ?_)
  · refine g_iconst 0 dX5_has_22 rfl ?_
    refine g_iret dX5_has_23 rfl rfl ?_ ?_
    · first | (rw [bI_t]; omega) | (rw [bI_f]; omega)
    · rfl
  · refine g_iload_n 1 dX5_has_4 rfl rfl ?_
    refine g_aload_n 0 dX5_has_5 rfl rfl ?_
    refine gf_X5_27 dX5_has_6 ?_
    refine g_icmp_ge 22 _ _ dX5_has_9 (by decide) rfl rfl (fun h9 => ?_) (fun h9 => ?_)
    · refine g_iconst 0 dX5_has_22 rfl ?_
      refine g_iret dX5_has_23 rfl rfl ?_ ?_
      · first | (rw [bI_t]; omega) | (rw [bI_f]; omega)
      · rfl
    · refine g_iload_n 1 dX5_has_12 rfl rfl ?_
      refine g_bipush 6 dX5_has_13 rfl ?_
      refine g_icmp_ge 22 _ 6 dX5_has_15 (by decide) rfl rfl (fun h15 => ?_) (fun h15 => ?_)
      · refine g_iconst 0 dX5_has_22 rfl ?_
        refine g_iret dX5_has_23 rfl rfl ?_ ?_
        · first | (rw [bI_t]; omega) | (rw [bI_f]; omega)
        · rfl
      · refine g_iconst 1 dX5_has_18 rfl ?_
        refine g_goto 23 dX5_has_19 (by decide) ?_
        refine g_iret dX5_has_23 rfl rfl ?_ ?_
        · first | (rw [bI_t]; omega) | (rw [bI_f]; omega)
        · rfl
set_option maxRecDepth 20000 in
theorem t_X5_birthOf {E : En} {w : W0} {i : Int32} : Mt E 1 yX5_birthOf cX5_birthOf 2 (some .int) [.ref (E.1 2), .int i] w (some (.int (if hasW w i then w 17 i.toNatClampNeg else -6))) w := by
  refine Mt.of (by decide +kernel) (Nat.le_of_ble_eq_true rfl) ?_
  show G E 1 RX5 cX5_birthOf 2 (some .int) _ _ 0 [(0, .ref (E.1 2)), (1, .int i)] [] w
  refine g_aload_n 0 dX5_birthOf_0 rfl rfl ?_
  refine g_iload_n 1 dX5_birthOf_1 rfl rfl ?_
  refine ca_X5_31 dX5_birthOf_2 (t_X5_has) (by decide) (Nat.le_of_ble_eq_true rfl) ?_
  refine g_if_eqb 17 dX5_birthOf_5 (by decide) (fun h5 => ?_) (fun h5 => ?_)
  · refine g_bipush (-6) dX5_birthOf_17 rfl ?_
    refine g_iret dX5_birthOf_19 rfl rfl ?_ ?_
    · first | (rw [if_pos]; omega) | (rw [if_neg]; omega)
    · rfl
  · refine g_aload_n 0 dX5_birthOf_8 rfl rfl ?_
    refine gf_X5_9 dX5_birthOf_9 ?_
    refine g_iload_n 1 dX5_birthOf_12 rfl rfl ?_
    refine g_iald (n := 6) _ dX5_birthOf_13 (by decide) rfl rfl (by omega) ?_
    refine g_goto 19 dX5_birthOf_14 (by decide) ?_
    refine g_iret dX5_birthOf_19 rfl rfl ?_ ?_
    · first | (rw [if_pos]; omega) | (rw [if_neg]; omega)
    · rfl
set_option maxRecDepth 20000 in
theorem t_X5_deathOf {E : En} {w : W0} {i : Int32} : Mt E 1 yX5_deathOf cX5_deathOf 2 (some .int) [.ref (E.1 2), .int i] w (some (.int (if hasW w i then w 18 i.toNatClampNeg else -6))) w := by
  refine Mt.of (by decide +kernel) (Nat.le_of_ble_eq_true rfl) ?_
  show G E 1 RX5 cX5_deathOf 2 (some .int) _ _ 0 [(0, .ref (E.1 2)), (1, .int i)] [] w
  refine g_aload_n 0 dX5_deathOf_0 rfl rfl ?_
  refine g_iload_n 1 dX5_deathOf_1 rfl rfl ?_
  refine ca_X5_31 dX5_deathOf_2 (t_X5_has) (by decide) (Nat.le_of_ble_eq_true rfl) ?_
  refine g_if_eqb 17 dX5_deathOf_5 (by decide) (fun h5 => ?_) (fun h5 => ?_)
  · refine g_bipush (-6) dX5_deathOf_17 rfl ?_
    refine g_iret dX5_deathOf_19 rfl rfl ?_ ?_
    · first | (rw [if_pos]; omega) | (rw [if_neg]; omega)
    · rfl
  · refine g_aload_n 0 dX5_deathOf_8 rfl rfl ?_
    refine gf_X5_15 dX5_deathOf_9 ?_
    refine g_iload_n 1 dX5_deathOf_12 rfl rfl ?_
    refine g_iald (n := 6) _ dX5_deathOf_13 (by decide) rfl rfl (by omega) ?_
    refine g_goto 19 dX5_deathOf_14 (by decide) ?_
    refine g_iret dX5_deathOf_19 rfl rfl ?_ ?_
    · first | (rw [if_pos]; omega) | (rw [if_neg]; omega)
    · rfl
set_option maxRecDepth 20000 in
theorem t_X5_fullAgeOf {E : En} {w : W0} {i : Int32} : Mt E 1 yX5_fullAgeOf cX5_fullAgeOf 2 (some .int) [.ref (E.1 2), .int i] w (some (.int (if hasW w i then w 19 i.toNatClampNeg else -6))) w := by
  refine Mt.of (by decide +kernel) (Nat.le_of_ble_eq_true rfl) ?_
  show G E 1 RX5 cX5_fullAgeOf 2 (some .int) _ _ 0 [(0, .ref (E.1 2)), (1, .int i)] [] w
  refine g_aload_n 0 dX5_fullAgeOf_0 rfl rfl ?_
  refine g_iload_n 1 dX5_fullAgeOf_1 rfl rfl ?_
  refine ca_X5_31 dX5_fullAgeOf_2 (t_X5_has) (by decide) (Nat.le_of_ble_eq_true rfl) ?_
  refine g_if_eqb 17 dX5_fullAgeOf_5 (by decide) (fun h5 => ?_) (fun h5 => ?_)
  · refine g_bipush (-6) dX5_fullAgeOf_17 rfl ?_
    refine g_iret dX5_fullAgeOf_19 rfl rfl ?_ ?_
    · first | (rw [if_pos]; omega) | (rw [if_neg]; omega)
    · rfl
  · refine g_aload_n 0 dX5_fullAgeOf_8 rfl rfl ?_
    refine gf_X5_18 dX5_fullAgeOf_9 ?_
    refine g_iload_n 1 dX5_fullAgeOf_12 rfl rfl ?_
    refine g_iald (n := 6) _ dX5_fullAgeOf_13 (by decide) rfl rfl (by omega) ?_
    refine g_goto 19 dX5_fullAgeOf_14 (by decide) ?_
    refine g_iret dX5_fullAgeOf_19 rfl rfl ?_ ?_
    · first | (rw [if_pos]; omega) | (rw [if_neg]; omega)
    · rfl
set_option maxRecDepth 20000 in
theorem t_X5_givenOverOf {E : En} {w : W0} {i : Int32} : Mt E 1 yX5_givenOverOf cX5_givenOverOf 2 (some .int) [.ref (E.1 2), .int i] w (some (.int (if hasW w i then w 20 i.toNatClampNeg else -6))) w := by
  refine Mt.of (by decide +kernel) (Nat.le_of_ble_eq_true rfl) ?_
  show G E 1 RX5 cX5_givenOverOf 2 (some .int) _ _ 0 [(0, .ref (E.1 2)), (1, .int i)] [] w
  refine g_aload_n 0 dX5_givenOverOf_0 rfl rfl ?_
  refine g_iload_n 1 dX5_givenOverOf_1 rfl rfl ?_
  refine ca_X5_31 dX5_givenOverOf_2 (t_X5_has) (by decide) (Nat.le_of_ble_eq_true rfl) ?_
  refine g_if_eqb 17 dX5_givenOverOf_5 (by decide) (fun h5 => ?_) (fun h5 => ?_)
  · refine g_bipush (-6) dX5_givenOverOf_17 rfl ?_
    refine g_iret dX5_givenOverOf_19 rfl rfl ?_ ?_
    · first | (rw [if_pos]; omega) | (rw [if_neg]; omega)
    · rfl
  · refine g_aload_n 0 dX5_givenOverOf_8 rfl rfl ?_
    refine gf_X5_21 dX5_givenOverOf_9 ?_
    refine g_iload_n 1 dX5_givenOverOf_12 rfl rfl ?_
    refine g_iald (n := 6) _ dX5_givenOverOf_13 (by decide) rfl rfl (by omega) ?_
    refine g_goto 19 dX5_givenOverOf_14 (by decide) ?_
    refine g_iret dX5_givenOverOf_19 rfl rfl ?_ ?_
    · first | (rw [if_pos]; omega) | (rw [if_neg]; omega)
    · rfl
set_option maxRecDepth 20000 in
theorem t_X5_shareOf {E : En} {w : W0} {i : Int32} : Mt E 1 yX5_shareOf cX5_shareOf 2 (some .int) [.ref (E.1 2), .int i] w (some (.int (if hasW w i then w 21 i.toNatClampNeg else 0))) w := by
  refine Mt.of (by decide +kernel) (Nat.le_of_ble_eq_true rfl) ?_
  show G E 1 RX5 cX5_shareOf 2 (some .int) _ _ 0 [(0, .ref (E.1 2)), (1, .int i)] [] w
  refine g_aload_n 0 dX5_shareOf_0 rfl rfl ?_
  refine g_iload_n 1 dX5_shareOf_1 rfl rfl ?_
  refine ca_X5_31 dX5_shareOf_2 (t_X5_has) (by decide) (Nat.le_of_ble_eq_true rfl) ?_
  refine g_if_eqb 17 dX5_shareOf_5 (by decide) (fun h5 => ?_) (fun h5 => ?_)
  · refine g_iconst 0 dX5_shareOf_17 rfl ?_
    refine g_iret dX5_shareOf_18 rfl rfl ?_ ?_
    · first | (rw [if_pos]; omega) | (rw [if_neg]; omega)
    · rfl
  · refine g_aload_n 0 dX5_shareOf_8 rfl rfl ?_
    refine gf_X5_24 dX5_shareOf_9 ?_
    refine g_iload_n 1 dX5_shareOf_12 rfl rfl ?_
    refine g_iald (n := 6) _ dX5_shareOf_13 (by decide) rfl rfl (by omega) ?_
    refine g_goto 18 dX5_shareOf_14 (by decide) ?_
    refine g_iret dX5_shareOf_18 rfl rfl ?_ ?_
    · first | (rw [if_pos]; omega) | (rw [if_neg]; omega)
    · rfl
set_option maxRecDepth 20000 in
theorem t_X5_setDeath {E : En} {w : W0} {i x : Int32} : Mt E 1 yX5_setDeath cX5_setDeath 3 (none) [.ref (E.1 2), .int i, .int x] w none (if hasW w i then setW w 18 i.toNatClampNeg x else w) := by
  refine Mt.of (by decide +kernel) (Nat.le_of_ble_eq_true rfl) ?_
  show G E 1 RX5 cX5_setDeath 3 (none) _ _ 0 [(0, .ref (E.1 2)), (1, .int i), (2, .int x)] [] w
  refine g_aload_n 0 dX5_setDeath_0 rfl rfl ?_
  refine g_iload_n 1 dX5_setDeath_1 rfl rfl ?_
  refine ca_X5_31 dX5_setDeath_2 (t_X5_has) (by decide) (Nat.le_of_ble_eq_true rfl) ?_
  refine g_if_eqb 15 dX5_setDeath_5 (by decide) (fun h5 => ?_) (fun h5 => ?_)
  · refine g_vret dX5_setDeath_15 rfl rfl ?_
    · first | (rw [if_pos]; omega) | (rw [if_neg]; omega)
  · refine g_aload_n 0 dX5_setDeath_8 rfl rfl ?_
    refine gf_X5_15 dX5_setDeath_9 ?_
    refine g_iload_n 1 dX5_setDeath_12 rfl rfl ?_
    refine g_iload_n 2 dX5_setDeath_13 rfl rfl ?_
    refine g_iast (n := 6) _ dX5_setDeath_14 (by decide) rfl rfl (by omega) ?_
    (try simp (disch := omega) only [setW_setA, setW_setA_ne])
    refine g_vret dX5_setDeath_15 rfl rfl ?_
    · first | (rw [if_pos]; omega) | (rw [if_neg]; omega)
set_option maxRecDepth 20000 in
theorem t_X5_add {E : En} {w : W0} {x : Int32} {n : Nat} (hc : w 2 5 = nI n) (hn : n < 6) : Mt E 0 yX5_add cX5_add 2 (none) [.ref (E.1 2), .int x] w none (setW (setW (setW (setW (setW w 17 n x) 18 n (-6)) 19 n (-6)) 20 n (-6)) 2 5 (nI (n + 1))) := by
  refine Mt.of (by decide +kernel) (Nat.le_of_ble_eq_true rfl) ?_
  show G E 0 RX5 cX5_add 2 (none) _ _ 0 [(0, .ref (E.1 2)), (1, .int x)] [] w
  have hi : (w 2 5).toInt = (n : Int) := by rw [hc]; exact nI_toInt (by omega)
  have hx : (w 2 5).toNatClampNeg = n := by rw [hc]; exact nI_clamp (by omega)
  refine g_aload_n 0 dX5_add_0 rfl rfl ?_
  refine gf_X5_27 dX5_add_1 ?_
  refine g_bipush 6 dX5_add_4 rfl ?_
  refine g_icmp_lt 10 _ 6 dX5_add_6 (by decide) rfl rfl (fun h6 => ?_) (fun h6 => False.elim (by omega))
  refine g_aload_n 0 dX5_add_10 rfl rfl ?_
  refine gf_X5_9 dX5_add_11 ?_
  refine g_aload_n 0 dX5_add_14 rfl rfl ?_
  refine gf_X5_27 dX5_add_15 ?_
  refine g_iload_n 1 dX5_add_18 rfl rfl ?_
  refine g_iast (n := 6) n dX5_add_19 (by decide) rfl hx (by omega) ?_
  refine g_aload_n 0 dX5_add_20 rfl rfl ?_
  refine gf_X5_15 dX5_add_21 ?_
  refine g_aload_n 0 dX5_add_24 rfl rfl ?_
  refine gf_X5_27 dX5_add_25 ?_
  simp (disch := omega) only [setW_ne]
  refine g_bipush (-6) dX5_add_28 rfl ?_
  refine g_iast (n := 6) n dX5_add_30 (by decide) rfl hx (by omega) ?_
  refine g_aload_n 0 dX5_add_31 rfl rfl ?_
  refine gf_X5_18 dX5_add_32 ?_
  refine g_aload_n 0 dX5_add_35 rfl rfl ?_
  refine gf_X5_27 dX5_add_36 ?_
  simp (disch := omega) only [setW_ne]
  refine g_bipush (-6) dX5_add_39 rfl ?_
  refine g_iast (n := 6) n dX5_add_41 (by decide) rfl hx (by omega) ?_
  refine g_aload_n 0 dX5_add_42 rfl rfl ?_
  refine gf_X5_21 dX5_add_43 ?_
  refine g_aload_n 0 dX5_add_46 rfl rfl ?_
  refine gf_X5_27 dX5_add_47 ?_
  simp (disch := omega) only [setW_ne]
  refine g_bipush (-6) dX5_add_50 rfl ?_
  refine g_iast (n := 6) n dX5_add_52 (by decide) rfl hx (by omega) ?_
  refine g_aload_n 0 dX5_add_53 rfl rfl ?_
  refine g_dup dX5_add_54 rfl ?_
  refine gf_X5_27 dX5_add_55 ?_
  simp (disch := omega) only [setW_ne]
  refine g_iconst 1 dX5_add_58 rfl ?_
  refine g_iadd dX5_add_59 ?_
  refine pf_X5_27 dX5_add_60 ?_
  refine g_vret dX5_add_63 rfl rfl ?_
  · rw [hc, nI_1]
set_option maxRecDepth 20000 in
theorem t_X5_isAlive {E : En} {w : W0} {nw k : Nat} {x day : Int32} (hc : w 2 5 = nI nw) (hn : nw ≤ 6) (hk : k < nw) (hx : x = nI k) : Mt E 1 yX5_isAlive cX5_isAlive 3 (some .boolean) [.ref (E.1 2), .int x, .int day] w (some (.int (bI (livesF (w 17) (w 18) k day)))) w := by
  refine Mt.of (by decide +kernel) (Nat.le_of_ble_eq_true rfl) ?_
  show G E 1 RX5 cX5_isAlive 3 (some .boolean) _ _ 0 [(0, .ref (E.1 2)), (1, .int x), (2, .int day)] [] w
  have hxi : x.toInt = (k : Int) := by rw [hx]; exact nI_toInt (by omega)
  have hxn : x.toNatClampNeg = k := by rw [hx]; exact nI_clamp (by omega)
  have hcI : (w 2 5).toInt = (nw : Int) := by rw [hc]; exact nI_toInt (by omega)
  refine g_aload_n 0 dX5_isAlive_0 rfl rfl ?_
  refine g_iload_n 1 dX5_isAlive_1 rfl rfl ?_
  refine ca_X5_31 dX5_isAlive_2 (t_X5_has) (by decide) (Nat.le_of_ble_eq_true rfl) ?_
  refine g_if_eqb 43 dX5_isAlive_5 (by decide) (fun h5 => False.elim (by omega)) (fun h5 => ?_)
  refine g_aload_n 0 dX5_isAlive_8 rfl rfl ?_
  refine gf_X5_9 dX5_isAlive_9 ?_
  refine g_iload_n 1 dX5_isAlive_12 rfl rfl ?_
  refine g_iald (n := 6) k dX5_isAlive_13 (by decide) rfl hxn (by omega) ?_
  refine g_iload_n 2 dX5_isAlive_14 rfl rfl ?_
  refine g_icmp_gt 43 _ _ dX5_isAlive_15 (by decide) rfl rfl (fun h15 => ?_) (fun h15 => ?_)
  · refine g_iconst 0 dX5_isAlive_43 rfl ?_
    refine g_iret dX5_isAlive_44 rfl rfl ?_ ?_
    · first | (rw [bI_t]; first | exact ⟨by omega, Or.inl h26⟩ | exact ⟨by omega, Or.inr (by omega)⟩) | (rw [bI_f]; rintro ⟨z1, z2 | z2⟩ <;> first | omega | exact h26 z2)
    · rfl
  · refine g_aload_n 0 dX5_isAlive_18 rfl rfl ?_
    refine gf_X5_15 dX5_isAlive_19 ?_
    refine g_iload_n 1 dX5_isAlive_22 rfl rfl ?_
    refine g_iald (n := 6) k dX5_isAlive_23 (by decide) rfl hxn (by omega) ?_
    refine g_bipush (-6) dX5_isAlive_24 rfl ?_
    refine g_icmp_eq 39 dX5_isAlive_26 (by decide) (fun h26 => ?_) (fun h26 => ?_)
    · refine g_iconst 1 dX5_isAlive_39 rfl ?_
      refine g_goto 44 dX5_isAlive_40 (by decide) ?_
      refine g_iret dX5_isAlive_44 rfl rfl ?_ ?_
      · first | (rw [bI_t]; first | exact ⟨by omega, Or.inl h26⟩ | exact ⟨by omega, Or.inr (by omega)⟩) | (rw [bI_f]; rintro ⟨z1, z2 | z2⟩ <;> first | omega | exact h26 z2)
      · rfl
    · refine g_aload_n 0 dX5_isAlive_29 rfl rfl ?_
      refine gf_X5_15 dX5_isAlive_30 ?_
      refine g_iload_n 1 dX5_isAlive_33 rfl rfl ?_
      refine g_iald (n := 6) k dX5_isAlive_34 (by decide) rfl hxn (by omega) ?_
      refine g_iload_n 2 dX5_isAlive_35 rfl rfl ?_
      refine g_icmp_le 43 _ _ dX5_isAlive_36 (by decide) rfl rfl (fun h36 => ?_) (fun h36 => ?_)
      · refine g_iconst 0 dX5_isAlive_43 rfl ?_
        refine g_iret dX5_isAlive_44 rfl rfl ?_ ?_
        · first | (rw [bI_t]; first | exact ⟨by omega, Or.inl h26⟩ | exact ⟨by omega, Or.inr (by omega)⟩) | (rw [bI_f]; rintro ⟨z1, z2 | z2⟩ <;> first | omega | exact h26 z2)
        · rfl
      · refine g_iconst 1 dX5_isAlive_39 rfl ?_
        refine g_goto 44 dX5_isAlive_40 (by decide) ?_
        refine g_iret dX5_isAlive_44 rfl rfl ?_ ?_
        · first | (rw [bI_t]; first | exact ⟨by omega, Or.inl h26⟩ | exact ⟨by omega, Or.inr (by omega)⟩) | (rw [bI_f]; rintro ⟨z1, z2 | z2⟩ <;> first | omega | exact h26 z2)
        · rfl
set_option maxRecDepth 20000 in
theorem l_headsOn {E : En} {w : W0} {nw : Nat} {day : Int32} (hc : w 2 5 = nI nw) (hn : nw ≤ 6) : ∀ (n : Nat) (k : Nat) (v x : Int32), nw + 1 ≤ k + n → k ≤ nw → x = nI k → v = headsF (w 17) (w 18) (w 20) day k → G E 2 RX5 cX5_headsOn 5 (some .int) (some (.int (headsF (w 17) (w 18) (w 20) day nw))) w 4 [(0, .ref (E.1 2)), (1, .int day), (2, .int v), (3, .int x)] [] w := by
  intro n
  induction n with
  | zero =>
    intro k v x hfu hk hx hv
    exact absurd hfu (by omega)
  | succ n ih =>
    intro k v x hfu hk hx hv
    have hxi : x.toInt = (k : Int) := by rw [hx]; exact nI_toInt (by omega)
    have hxn : x.toNatClampNeg = k := by rw [hx]; exact nI_clamp (by omega)
    have hcI : (w 2 5).toInt = (nw : Int) := by rw [hc]; exact nI_toInt (by omega)
    refine g_iload_n 3 dX5_headsOn_4 rfl rfl ?_
    refine g_aload_n 0 dX5_headsOn_5 rfl rfl ?_
    refine gf_X5_27 dX5_headsOn_6 ?_
    refine g_icmp_ge 69 (k : Int) _ dX5_headsOn_9 (by decide) hxi rfl (fun h9 => ?_) (fun h9 => ?_)
    · refine g_iload_n 2 dX5_headsOn_69 rfl rfl ?_
      refine g_iret dX5_headsOn_70 rfl rfl ?_ ?_
      · rw [hv, show k = nw by omega]
      · rfl
    · refine g_iload_n 3 dX5_headsOn_12 rfl rfl ?_
      refine g_bipush 6 dX5_headsOn_13 rfl ?_
      refine g_icmp_ge 69 (k : Int) 6 dX5_headsOn_15 (by decide) hxi rfl (fun h15 => False.elim (by omega)) (fun h15 => ?_)
      refine g_aload_n 0 dX5_headsOn_18 rfl rfl ?_
      refine gf_X5_21 dX5_headsOn_19 ?_
      refine g_iload_n 3 dX5_headsOn_22 rfl rfl ?_
      refine g_iald (n := 6) k dX5_headsOn_23 (by decide) rfl hxn (by omega) ?_
      refine g_bipush (-6) dX5_headsOn_24 rfl ?_
      refine g_icmp_eq 43 dX5_headsOn_26 (by decide) (fun h26 => ?_) (fun h26 => ?_)
      · refine g_iconst 0 dX5_headsOn_43 rfl ?_
        refine g_istN dX5_headsOn_44 (by decide) rfl ?_
        refine g_iload 0 dX5_headsOn_46 rfl ?_
        refine g_if_ne 63 dX5_headsOn_48 (by decide) (fun h48 => False.elim (by exact absurd h48 (by decide))) (fun h48 => ?_)
        refine g_aload_n 1 dX5_headsOn_51 rfl rfl ?_
        refine g_iload_n 4 dX5_headsOn_52 rfl rfl ?_
        refine g_iload_n 2 dX5_headsOn_53 rfl rfl ?_
        refine ca_X5_41 dX5_headsOn_54 (t_X5_isAlive (k := k) hc hn (by omega) hx) (by decide) (Nat.le_of_ble_eq_true rfl) ?_
        refine g_if_eqb 63 dX5_headsOn_57 (by decide) (fun h57 => ?_) (fun h57 => ?_)
        · refine g_iinc 1 [_, _, _, _] _ dX5_headsOn_63 rfl (by decide) rfl ?_
          refine g_goto 4 dX5_headsOn_66 (by decide) ?_
          refine g_lv [1, 2, 3, 4] rfl ?_
          exact ih (k + 1) _ _ (by omega) (by omega) (by rw [hx, nI_1]) (by clear ih; rw [headsF_s, ← hv]; split <;> first | rfl | (exfalso; simp_all; done) | (exfalso; simp_all; omega))
        · refine g_iinc 1 [_, _, _] _ dX5_headsOn_60 rfl (by decide) rfl ?_
          refine g_iinc 1 [_, _, _, _] _ dX5_headsOn_63 rfl (by decide) rfl ?_
          refine g_goto 4 dX5_headsOn_66 (by decide) ?_
          refine g_lv [1, 2, 3, 4] rfl ?_
          exact ih (k + 1) _ _ (by omega) (by omega) (by rw [hx, nI_1]) (by clear ih; rw [headsF_s, ← hv]; split <;> first | rfl | (exfalso; simp_all; done) | (exfalso; simp_all; omega))
      · refine g_aload_n 0 dX5_headsOn_29 rfl rfl ?_
        refine gf_X5_21 dX5_headsOn_30 ?_
        refine g_iload_n 3 dX5_headsOn_33 rfl rfl ?_
        refine g_iald (n := 6) k dX5_headsOn_34 (by decide) rfl hxn (by omega) ?_
        refine g_iload_n 1 dX5_headsOn_35 rfl rfl ?_
        refine g_icmp_ge 43 _ _ dX5_headsOn_36 (by decide) rfl rfl (fun h36 => ?_) (fun h36 => ?_)
        · refine g_iconst 0 dX5_headsOn_43 rfl ?_
          refine g_istN dX5_headsOn_44 (by decide) rfl ?_
          refine g_iload 0 dX5_headsOn_46 rfl ?_
          refine g_if_ne 63 dX5_headsOn_48 (by decide) (fun h48 => False.elim (by exact absurd h48 (by decide))) (fun h48 => ?_)
          refine g_aload_n 1 dX5_headsOn_51 rfl rfl ?_
          refine g_iload_n 4 dX5_headsOn_52 rfl rfl ?_
          refine g_iload_n 2 dX5_headsOn_53 rfl rfl ?_
          refine ca_X5_41 dX5_headsOn_54 (t_X5_isAlive (k := k) hc hn (by omega) hx) (by decide) (Nat.le_of_ble_eq_true rfl) ?_
          refine g_if_eqb 63 dX5_headsOn_57 (by decide) (fun h57 => ?_) (fun h57 => ?_)
          · refine g_iinc 1 [_, _, _, _] _ dX5_headsOn_63 rfl (by decide) rfl ?_
            refine g_goto 4 dX5_headsOn_66 (by decide) ?_
            refine g_lv [1, 2, 3, 4] rfl ?_
            exact ih (k + 1) _ _ (by omega) (by omega) (by rw [hx, nI_1]) (by clear ih; rw [headsF_s, ← hv]; split <;> first | rfl | (exfalso; simp_all; done) | (exfalso; simp_all; omega))
          · refine g_iinc 1 [_, _, _] _ dX5_headsOn_60 rfl (by decide) rfl ?_
            refine g_iinc 1 [_, _, _, _] _ dX5_headsOn_63 rfl (by decide) rfl ?_
            refine g_goto 4 dX5_headsOn_66 (by decide) ?_
            refine g_lv [1, 2, 3, 4] rfl ?_
            exact ih (k + 1) _ _ (by omega) (by omega) (by rw [hx, nI_1]) (by clear ih; rw [headsF_s, ← hv]; split <;> first | rfl | (exfalso; simp_all; done) | (exfalso; simp_all; omega))
        · refine g_iconst 1 dX5_headsOn_39 rfl ?_
          refine g_goto 44 dX5_headsOn_40 (by decide) ?_
          refine g_istN dX5_headsOn_44 (by decide) rfl ?_
          refine g_iload 0 dX5_headsOn_46 rfl ?_
          refine g_if_ne 63 dX5_headsOn_48 (by decide) (fun h48 => ?_) (fun h48 => False.elim (by exact absurd h48 (by decide)))
          refine g_iinc 1 [_, _, _, _] _ dX5_headsOn_63 rfl (by decide) rfl ?_
          refine g_goto 4 dX5_headsOn_66 (by decide) ?_
          refine g_lv [1, 2, 3, 4] rfl ?_
          exact ih (k + 1) _ _ (by omega) (by omega) (by rw [hx, nI_1]) (by clear ih; rw [headsF_s, ← hv]; split <;> first | rfl | (exfalso; simp_all; done) | (exfalso; simp_all; omega))
set_option maxRecDepth 20000 in
theorem t_X5_headsOn {E : En} {w : W0} {nw : Nat} {day : Int32} (hc : w 2 5 = nI nw) (hn : nw ≤ 6) : Mt E 2 yX5_headsOn cX5_headsOn 5 (some .int) [.ref (E.1 2), .int day] w (some (.int (headsF (w 17) (w 18) (w 20) day nw))) w := by
  refine Mt.of (by decide +kernel) (Nat.le_of_ble_eq_true rfl) ?_
  show G E 2 RX5 cX5_headsOn 5 (some .int) _ _ 0 [(0, .ref (E.1 2)), (1, .int day)] [] w
  refine g_iconst 0 dX5_headsOn_0 rfl ?_
  refine g_istN_n dX5_headsOn_1 rfl (by decide) rfl ?_
  refine g_iconst 0 dX5_headsOn_2 rfl ?_
  refine g_istN_n dX5_headsOn_3 rfl (by decide) rfl ?_
  refine g_lv [2, 3, 1, 0] rfl ?_
  exact l_headsOn hc hn (nw + 1) 0 _ _ (by omega) (by omega) rfl rfl
set_option maxRecDepth 20000 in
theorem l_givenBetween {E : En} {w : W0} {nw : Nat} {a b : Int32} (hc : w 2 5 = nI nw) (hn : nw ≤ 6) : ∀ (n : Nat) (k : Nat) (v x : Int32), nw + 1 ≤ k + n → k ≤ nw → x = nI k → v = gbF (w 20) (w 21) a b k → G E 1 RX5 cX5_givenBetween 5 (some .int) (some (.int (gbF (w 20) (w 21) a b nw))) w 5 [(0, .ref (E.1 2)), (1, .int a), (2, .int b), (3, .int v), (4, .int x)] [] w := by
  intro n
  induction n with
  | zero =>
    intro k v x hfu hk hx hv
    exact absurd hfu (by omega)
  | succ n ih =>
    intro k v x hfu hk hx hv
    have hxi : x.toInt = (k : Int) := by rw [hx]; exact nI_toInt (by omega)
    have hxn : x.toNatClampNeg = k := by rw [hx]; exact nI_clamp (by omega)
    have hcI : (w 2 5).toInt = (nw : Int) := by rw [hc]; exact nI_toInt (by omega)
    refine g_iload 4 dX5_givenBetween_5 rfl ?_
    refine g_aload_n 0 dX5_givenBetween_7 rfl rfl ?_
    refine gf_X5_27 dX5_givenBetween_8 ?_
    refine g_icmp_ge 52 (k : Int) _ dX5_givenBetween_11 (by decide) hxi rfl (fun h11 => ?_) (fun h11 => ?_)
    · refine g_iload_n 3 dX5_givenBetween_52 rfl rfl ?_
      refine g_iret dX5_givenBetween_53 rfl rfl ?_ ?_
      · rw [hv, show k = nw by omega]
      · rfl
    · refine g_iload 4 dX5_givenBetween_14 rfl ?_
      refine g_bipush 6 dX5_givenBetween_16 rfl ?_
      refine g_icmp_ge 52 (k : Int) 6 dX5_givenBetween_18 (by decide) hxi rfl (fun h18 => False.elim (by omega)) (fun h18 => ?_)
      refine g_aload_n 0 dX5_givenBetween_21 rfl rfl ?_
      refine gf_X5_21 dX5_givenBetween_22 ?_
      refine g_iload 4 dX5_givenBetween_25 rfl ?_
      refine g_iald (n := 6) k dX5_givenBetween_27 (by decide) rfl hxn (by omega) ?_
      refine g_iload_n 1 dX5_givenBetween_28 rfl rfl ?_
      refine g_iload_n 2 dX5_givenBetween_29 rfl rfl ?_
      refine ca_X5_48 dX5_givenBetween_30 (t_X6_within _ _ rfl rfl) (by decide) (Nat.le_of_ble_eq_true rfl) ?_
      refine g_if_eqb 46 dX5_givenBetween_33 (by decide) (fun h33 => ?_) (fun h33 => ?_)
      · refine g_iinc 1 [_, _, _, _] _ dX5_givenBetween_46 rfl (by decide) rfl ?_
        refine g_goto 5 dX5_givenBetween_49 (by decide) ?_
        exact ih (k + 1) _ _ (by omega) (by omega) (by rw [hx, nI_1]) (by rw [gbF_s, ← hv]; first | rw [if_pos h33] | rw [if_neg h33])
      · refine g_iload_n 3 dX5_givenBetween_36 rfl rfl ?_
        refine g_aload_n 0 dX5_givenBetween_37 rfl rfl ?_
        refine gf_X5_24 dX5_givenBetween_38 ?_
        refine g_iload 4 dX5_givenBetween_41 rfl ?_
        refine g_iald (n := 6) k dX5_givenBetween_43 (by decide) rfl hxn (by omega) ?_
        refine g_iadd dX5_givenBetween_44 ?_
        refine g_ist_n [_, _, _] _ dX5_givenBetween_45 rfl (by decide) rfl ?_
        refine g_iinc 1 [_, _, _, _] _ dX5_givenBetween_46 rfl (by decide) rfl ?_
        refine g_goto 5 dX5_givenBetween_49 (by decide) ?_
        exact ih (k + 1) _ _ (by omega) (by omega) (by rw [hx, nI_1]) (by rw [gbF_s, ← hv]; first | rw [if_pos h33] | rw [if_neg h33])
set_option maxRecDepth 20000 in
theorem t_X5_givenBetween {E : En} {w : W0} {nw : Nat} {a b : Int32} (hc : w 2 5 = nI nw) (hn : nw ≤ 6) : Mt E 1 yX5_givenBetween cX5_givenBetween 5 (some .int) [.ref (E.1 2), .int a, .int b] w (some (.int (gbF (w 20) (w 21) a b nw))) w := by
  refine Mt.of (by decide +kernel) (Nat.le_of_ble_eq_true rfl) ?_
  show G E 1 RX5 cX5_givenBetween 5 (some .int) _ _ 0 [(0, .ref (E.1 2)), (1, .int a), (2, .int b)] [] w
  refine g_iconst 0 dX5_givenBetween_0 rfl ?_
  refine g_istN_n dX5_givenBetween_1 rfl (by decide) rfl ?_
  refine g_iconst 0 dX5_givenBetween_2 rfl ?_
  refine g_istN dX5_givenBetween_3 (by decide) rfl ?_
  refine g_lv [2, 3, 4, 1, 0] rfl ?_
  exact l_givenBetween hc hn (nw + 1) 0 _ _ (by omega) (by omega) rfl rfl
set_option maxRecDepth 20000 in
theorem l_giveShares {E : En} {w : W0} {nw : Nat} {day held : Int32} (hc : w 2 5 = nI nw) (hn : nw ≤ 6) : ∀ (n : Nat) (k : Nat) (sr : Nat → Int32) (h g x : Int32), nw + 1 ≤ k + n → k ≤ nw → x = nI k → (sr, g, h) = gsF (w 20) day held (w 21) (headsF (w 17) (w 18) (w 20) day nw) k → G E 3 RX5 cX5_giveShares 7 (some .int) (some (.int (gsF (w 20) day held (w 21) (headsF (w 17) (w 18) (w 20) day nw) nw).2.1)) (setA w 21 (gsF (w 20) day held (w 21) (headsF (w 17) (w 18) (w 20) day nw) nw).1) 12 [(0, .ref (E.1 2)), (1, .int day), (2, .int held), (3, .int h), (4, .int g), (5, .int x)] [] (setA w 21 sr) := by
  intro n
  induction n with
  | zero =>
    intro k sr h g x hfu hk hx hv
    exact absurd hfu (by omega)
  | succ n ih =>
    intro k sr h g x hfu hk hx hv
    have hxi : x.toInt = (k : Int) := by rw [hx]; exact nI_toInt (by omega)
    have hxn : x.toNatClampNeg = k := by rw [hx]; exact nI_clamp (by omega)
    have hcI : (w 2 5).toInt = (nw : Int) := by rw [hc]; exact nI_toInt (by omega)
    refine g_iload 5 dX5_giveShares_12 rfl ?_
    refine g_aload_n 0 dX5_giveShares_14 rfl rfl ?_
    refine gf_X5_27 dX5_giveShares_15 ?_
    (try simp (disch := omega) only [setW_ne, setW_p, setA_ne, setA_p, upd_self, lpF_setA, lpF_setW, limC_setA, limC_setW])
    refine g_icmp_ge 90 (k : Int) _ dX5_giveShares_18 (by decide) hxi rfl (fun h18 => ?_) (fun h18 => ?_)
    · refine g_iload 4 dX5_giveShares_90 rfl ?_
      refine g_iret dX5_giveShares_92 rfl rfl ?_ ?_
      · rw [show k = nw by omega] at hv; rw [← hv]
      · rw [show k = nw by omega] at hv; rw [← hv]
    · refine g_iload 5 dX5_giveShares_21 rfl ?_
      refine g_bipush 6 dX5_giveShares_23 rfl ?_
      refine g_icmp_ge 90 (k : Int) 6 dX5_giveShares_25 (by decide) hxi rfl (fun h25 => False.elim (by omega)) (fun h25 => ?_)
      refine g_aload_n 0 dX5_giveShares_28 rfl rfl ?_
      refine gf_X5_21 dX5_giveShares_29 ?_
      refine g_iload 5 dX5_giveShares_32 rfl ?_
      refine g_iald (n := 6) k dX5_giveShares_34 (by decide) rfl hxn (by omega) ?_
      (try simp (disch := omega) only [setW_ne, setW_p, setA_ne, setA_p, upd_self, lpF_setA, lpF_setW, limC_setA, limC_setW])
      refine g_iload_n 1 dX5_giveShares_35 rfl rfl ?_
      refine g_icmp_ne 84 dX5_giveShares_36 (by decide) (fun h36 => ?_) (fun h36 => ?_)
      · refine g_iinc 1 [_, _, _, _, _] _ dX5_giveShares_84 rfl (by decide) rfl ?_
        refine g_goto 12 dX5_giveShares_87 (by decide) ?_
        exact ih (k + 1) _ _ _ _ (by omega) (by omega) (by rw [hx, nI_1]) (by rw [gsF_s, ← hv]; first | (rw [if_neg h36]; done) | (rw [if_pos h36]; simp only [shareF]; first | (rw [if_pos ⟨h53, h57⟩]; done) | (rw [if_neg (by omega)]; done)))
      · refine g_iload_n 2 dX5_giveShares_39 rfl rfl ?_
        refine g_iload 4 dX5_giveShares_40 rfl ?_
        refine g_isub dX5_giveShares_42 ?_
        refine g_istN dX5_giveShares_43 (by decide) rfl ?_
        refine g_aload_n 1 dX5_giveShares_45 rfl rfl ?_
        refine gf_X5_24 dX5_giveShares_46 ?_
        refine g_iload 6 dX5_giveShares_49 rfl ?_
        refine g_iload 0 dX5_giveShares_51 rfl ?_
        refine g_if_le 67 _ dX5_giveShares_53 (by decide) rfl (fun h53 => ?_) (fun h53 => ?_)
        · refine g_iconst 0 dX5_giveShares_67 rfl ?_
          refine g_iast (n := 6) k dX5_giveShares_68 (by decide) rfl hxn (by omega) ?_
          (try simp (disch := omega) only [setW_setA, setW_setA_ne])
          refine g_iload 5 dX5_giveShares_69 rfl ?_
          refine g_aload_n 1 dX5_giveShares_71 rfl rfl ?_
          refine gf_X5_24 dX5_giveShares_72 ?_
          refine g_iload 6 dX5_giveShares_75 rfl ?_
          refine g_iald (n := 6) k dX5_giveShares_77 (by decide) rfl hxn (by omega) ?_
          (try simp (disch := omega) only [setW_ne, setW_p, setA_ne, setA_p, upd_self, lpF_setA, lpF_setW, limC_setA, limC_setW])
          refine g_iadd dX5_giveShares_78 ?_
          refine g_ist [_, _, _, _, _] _ dX5_giveShares_79 (by decide) rfl ?_
          refine g_iinc (-1) [_, _, _, _] _ dX5_giveShares_81 rfl (by decide) rfl ?_
          refine g_iinc 1 [_, _, _, _, _, _] _ dX5_giveShares_84 rfl (by decide) rfl ?_
          refine g_goto 12 dX5_giveShares_87 (by decide) ?_
          refine g_lv [1, 2, 3, 4, 5, 6] rfl ?_
          exact ih (k + 1) _ _ _ _ (by omega) (by omega) (by rw [hx, nI_1]) (by rw [gsF_s, ← hv]; first | (rw [if_neg h36]; done) | (rw [if_pos h36]; simp only [shareF]; first | (rw [if_pos ⟨h53, h57⟩]; done) | (rw [if_neg (by omega)]; done)))
        · refine g_iload_n 4 dX5_giveShares_56 rfl rfl ?_
          refine g_if_le 67 _ dX5_giveShares_57 (by decide) rfl (fun h57 => ?_) (fun h57 => ?_)
          · refine g_iconst 0 dX5_giveShares_67 rfl ?_
            refine g_iast (n := 6) k dX5_giveShares_68 (by decide) rfl hxn (by omega) ?_
            (try simp (disch := omega) only [setW_setA, setW_setA_ne])
            refine g_iload 5 dX5_giveShares_69 rfl ?_
            refine g_aload_n 1 dX5_giveShares_71 rfl rfl ?_
            refine gf_X5_24 dX5_giveShares_72 ?_
            refine g_iload 6 dX5_giveShares_75 rfl ?_
            refine g_iald (n := 6) k dX5_giveShares_77 (by decide) rfl hxn (by omega) ?_
            (try simp (disch := omega) only [setW_ne, setW_p, setA_ne, setA_p, upd_self, lpF_setA, lpF_setW, limC_setA, limC_setW])
            refine g_iadd dX5_giveShares_78 ?_
            refine g_ist [_, _, _, _, _] _ dX5_giveShares_79 (by decide) rfl ?_
            refine g_iinc (-1) [_, _, _, _] _ dX5_giveShares_81 rfl (by decide) rfl ?_
            refine g_iinc 1 [_, _, _, _, _, _] _ dX5_giveShares_84 rfl (by decide) rfl ?_
            refine g_goto 12 dX5_giveShares_87 (by decide) ?_
            refine g_lv [1, 2, 3, 4, 5, 6] rfl ?_
            exact ih (k + 1) _ _ _ _ (by omega) (by omega) (by rw [hx, nI_1]) (by rw [gsF_s, ← hv]; first | (rw [if_neg h36]; done) | (rw [if_pos h36]; simp only [shareF]; first | (rw [if_pos ⟨h53, h57⟩]; done) | (rw [if_neg (by omega)]; done)))
          · refine g_iload 0 dX5_giveShares_60 rfl ?_
            refine g_iload_n 4 dX5_giveShares_62 rfl rfl ?_
            refine g_idiv dX5_giveShares_63 (fun z => by rw [z] at h57; exact absurd h57 (by decide)) ?_
            refine g_goto 68 dX5_giveShares_64 (by decide) ?_
            refine g_iast (n := 6) k dX5_giveShares_68 (by decide) rfl hxn (by omega) ?_
            (try simp (disch := omega) only [setW_setA, setW_setA_ne])
            refine g_iload 5 dX5_giveShares_69 rfl ?_
            refine g_aload_n 1 dX5_giveShares_71 rfl rfl ?_
            refine gf_X5_24 dX5_giveShares_72 ?_
            refine g_iload 6 dX5_giveShares_75 rfl ?_
            refine g_iald (n := 6) k dX5_giveShares_77 (by decide) rfl hxn (by omega) ?_
            (try simp (disch := omega) only [setW_ne, setW_p, setA_ne, setA_p, upd_self, lpF_setA, lpF_setW, limC_setA, limC_setW])
            refine g_iadd dX5_giveShares_78 ?_
            refine g_ist [_, _, _, _, _] _ dX5_giveShares_79 (by decide) rfl ?_
            refine g_iinc (-1) [_, _, _, _] _ dX5_giveShares_81 rfl (by decide) rfl ?_
            refine g_iinc 1 [_, _, _, _, _, _] _ dX5_giveShares_84 rfl (by decide) rfl ?_
            refine g_goto 12 dX5_giveShares_87 (by decide) ?_
            refine g_lv [1, 2, 3, 4, 5, 6] rfl ?_
            exact ih (k + 1) _ _ _ _ (by omega) (by omega) (by rw [hx, nI_1]) (by rw [gsF_s, ← hv]; first | (rw [if_neg h36]; done) | (rw [if_pos h36]; simp only [shareF]; first | (rw [if_pos ⟨h53, h57⟩]; done) | (rw [if_neg (by omega)]; done)))
set_option maxRecDepth 20000 in
theorem t_X5_giveShares {E : En} {w : W0} {nw : Nat} {day held : Int32} (hc : w 2 5 = nI nw) (hn : nw ≤ 6) : Mt E 3 yX5_giveShares cX5_giveShares 7 (some .int) [.ref (E.1 2), .int day, .int held] w (some (.int (gsF (w 20) day held (w 21) (headsF (w 17) (w 18) (w 20) day nw) nw).2.1)) (setA w 21 (gsF (w 20) day held (w 21) (headsF (w 17) (w 18) (w 20) day nw) nw).1) := by
  refine Mt.of (by decide +kernel) (Nat.le_of_ble_eq_true rfl) ?_
  show G E 3 RX5 cX5_giveShares 7 (some .int) _ _ 0 [(0, .ref (E.1 2)), (1, .int day), (2, .int held)] [] w
  refine g_aload_n 0 dX5_giveShares_0 rfl rfl ?_
  refine g_iload_n 1 dX5_giveShares_1 rfl rfl ?_
  refine ca_X5_45 dX5_giveShares_2 (t_X5_headsOn hc hn) (by decide) (Nat.le_of_ble_eq_true rfl) ?_
  refine g_istN_n dX5_giveShares_5 rfl (by decide) rfl ?_
  refine g_iconst 0 dX5_giveShares_6 rfl ?_
  refine g_istN dX5_giveShares_7 (by decide) rfl ?_
  refine g_iconst 0 dX5_giveShares_9 rfl ?_
  refine g_istN dX5_giveShares_10 (by decide) rfl ?_
  refine g_lv [3, 4, 5, 2, 1, 0] rfl ?_
  have hl := l_giveShares (E := E) (day := day) (held := held) hc hn (nw + 1) 0 (w 21) _ _ _ (by omega) (by omega) rfl rfl
  rw [setA_self] at hl
  exact hl
set_option maxRecDepth 20000 in
theorem t_X5_turnAfter {E : En} {w : W0} {nw : Nat} {a b : Int32} (hc : w 2 5 = nI nw) (hn : nw ≤ 6) : Mt E 1 yX5_turnAfter cX5_turnAfter 3 (some .int) [.ref (E.1 2), .int a, .int b] w (some (.int (nextF (w 20) a b nw))) w := by
  refine Mt.of (by decide +kernel) (Nat.le_of_ble_eq_true rfl) ?_
  show G E 1 RX5 cX5_turnAfter 3 (some .int) _ _ 0 [(0, .ref (E.1 2)), (1, .int a), (2, .int b)] [] w
  refine g_aload_n 0 dX5_turnAfter_0 rfl rfl ?_
  refine gf_X5_21 dX5_turnAfter_1 ?_
  refine g_aload_n 0 dX5_turnAfter_4 rfl rfl ?_
  refine gf_X5_27 dX5_turnAfter_5 ?_
  rw [hc]
  refine g_iload_n 1 dX5_turnAfter_8 rfl rfl ?_
  refine g_iload_n 2 dX5_turnAfter_9 rfl rfl ?_
  refine ca_X5_52 dX5_turnAfter_10 (t_X6_nextOf (q := 20) (N := 6) (by decide) rfl (by decide) (by omega)) (by decide) (Nat.le_of_ble_eq_true rfl) ?_
  refine g_iret dX5_turnAfter_13 rfl rfl ?_ ?_
  · rfl
  · rfl
def fuF (w : W0) (nl : Nat) (j : Nat) : Int32 := fullF (w 7) (lpF w) nl (w 17 j)
def daysF (w : W0) (nl nw : Nat) : W0 := setA (setA (setA w 19 (fillF (fuF w nl) (w 19) nw)) 20 (fillF (goF (w 17) (w 18) (fuF w nl)) (w 20) nw)) 21 (fillF (fun _ => 0) (w 21) nw)
set_option maxRecDepth 20000 in
theorem l_settleDays {E : En} {w : W0} {nw nl : Nat} (hc : w 2 5 = nI nw) (hn : nw ≤ 6) (hcl : w 1 2 = nI nl) (hnl : nl ≤ 8) : ∀ (n : Nat) (k : Nat) (x : Int32), nw + 1 ≤ k + n → k ≤ nw → x = nI k → G E 4 RX5 cX5_settleDays 4 (none) none (daysF w nl nw) 2 [(0, .ref (E.1 2)), (1, .ref (E.1 1)), (2, .int x)] [] (daysF w nl k) := by
  intro n
  induction n with
  | zero =>
    intro k x hfu hk hx
    exact absurd hfu (by omega)
  | succ n ih =>
    intro k x hfu hk hx
    have hxi : x.toInt = (k : Int) := by rw [hx]; exact nI_toInt (by omega)
    have hxn : x.toNatClampNeg = k := by rw [hx]; exact nI_clamp (by omega)
    have hcI : (w 2 5).toInt = (nw : Int) := by rw [hc]; exact nI_toInt (by omega)
    unfold daysF
    refine g_iload_n 2 dX5_settleDays_2 rfl rfl ?_
    refine g_aload_n 0 dX5_settleDays_3 rfl rfl ?_
    refine gf_X5_27 dX5_settleDays_4 ?_
    (try simp (disch := omega) only [setW_ne, setW_p, setA_ne, setA_p, upd_self, lpF_setA, lpF_setW, limC_setA, limC_setW])
    refine g_icmp_ge 74 (k : Int) _ dX5_settleDays_7 (by decide) hxi rfl (fun h7 => ?_) (fun h7 => ?_)
    · refine g_vret dX5_settleDays_74 rfl rfl ?_
      · rw [show k = nw by omega]
    · refine g_iload_n 2 dX5_settleDays_10 rfl rfl ?_
      refine g_bipush 6 dX5_settleDays_11 rfl ?_
      refine g_icmp_ge 74 (k : Int) 6 dX5_settleDays_13 (by decide) hxi rfl (fun h13 => False.elim (by omega)) (fun h13 => ?_)
      refine g_aload_n 1 dX5_settleDays_16 rfl rfl ?_
      refine g_aload_n 0 dX5_settleDays_17 rfl rfl ?_
      refine gf_X5_9 dX5_settleDays_18 ?_
      refine g_iload_n 2 dX5_settleDays_21 rfl rfl ?_
      refine g_iald (n := 6) k dX5_settleDays_22 (by decide) rfl hxn (by omega) ?_
      (try simp (disch := omega) only [setW_ne, setW_p, setA_ne, setA_p, upd_self, lpF_setA, lpF_setW, limC_setA, limC_setW])
      refine ca_X5_35 dX5_settleDays_23 (t_X2_fullAgeDay (nl := nl) (by (try simp (disch := omega) only [setW_ne, setA_ne]); exact hcl) hnl) (by decide) (Nat.le_of_ble_eq_true rfl) ?_
      (try simp (disch := omega) only [setW_ne, setW_p, setA_ne, setA_p, upd_self, lpF_setA, lpF_setW, limC_setA, limC_setW])
      refine g_istN_n dX5_settleDays_26 rfl (by decide) rfl ?_
      refine g_aload_n 1 dX5_settleDays_27 rfl rfl ?_
      refine gf_X5_18 dX5_settleDays_28 ?_
      refine g_iload_n 3 dX5_settleDays_31 rfl rfl ?_
      refine g_iload_n 0 dX5_settleDays_32 rfl rfl ?_
      refine g_iast (n := 6) k dX5_settleDays_33 (by decide) rfl hxn (by omega) ?_
      (try simp (disch := omega) only [setW_setA, setW_setA_ne])
      refine g_aload_n 1 dX5_settleDays_34 rfl rfl ?_
      refine gf_X5_21 dX5_settleDays_35 ?_
      refine g_iload_n 3 dX5_settleDays_38 rfl rfl ?_
      refine g_iload_n 0 dX5_settleDays_39 rfl rfl ?_
      refine g_bipush (-6) dX5_settleDays_40 rfl ?_
      refine g_icmp_eq 58 dX5_settleDays_42 (by decide) (fun h42 => ?_) (fun h42 => ?_)
      · refine g_bipush (-6) dX5_settleDays_58 rfl ?_
        refine g_iast (n := 6) k dX5_settleDays_60 (by decide) rfl hxn (by omega) ?_
        (try simp (disch := omega) only [setW_setA, setW_setA_ne])
        refine g_aload_n 1 dX5_settleDays_61 rfl rfl ?_
        refine gf_X5_24 dX5_settleDays_62 ?_
        refine g_iload_n 3 dX5_settleDays_65 rfl rfl ?_
        refine g_iconst 0 dX5_settleDays_66 rfl ?_
        refine g_iast (n := 6) k dX5_settleDays_67 (by decide) rfl hxn (by omega) ?_
        (try simp (disch := omega) only [setW_setA, setW_setA_ne])
        refine g_iinc 1 [_, _, _] _ dX5_settleDays_68 rfl (by decide) rfl ?_
        refine g_goto 2 dX5_settleDays_71 (by decide) ?_
        refine g_lv [1, 2, 3] rfl ?_
        have hh := ih (k + 1) (x + 1) (by omega) (by omega) (by rw [hx, nI_1])
        unfold daysF at hh
        rw [← fillF_s (fuF w nl), ← fillF_s (goF (w 17) (w 18) (fuF w nl)), ← fillF_s (fun _ => (0 : Int32))] at hh
        rcases goF_or (w 17) (w 18) (fuF w nl) k with ⟨z1, z2, e⟩ | ⟨z, e⟩ <;> rw [e] at hh <;> first | exact hh | exact absurd h42 z1 | exact absurd z2 h51 | exact absurd ⟨h42, h51⟩ z
        
      · refine g_aload_n 1 dX5_settleDays_45 rfl rfl ?_
        refine g_iload_n 3 dX5_settleDays_46 rfl rfl ?_
        refine g_iload_n 0 dX5_settleDays_47 rfl rfl ?_
        refine ca_X5_41 dX5_settleDays_48 (t_X5_isAlive (nw := nw) (k := k) (by (try simp (disch := omega) only [setW_ne, setA_ne]); exact hc) hn (by omega) hx) (by decide) (Nat.le_of_ble_eq_true rfl) ?_
        (try simp (disch := omega) only [setW_ne, setW_p, setA_ne, setA_p, upd_self, lpF_setA, lpF_setW, limC_setA, limC_setW])
        refine g_if_eqb 58 dX5_settleDays_51 (by decide) (fun h51 => ?_) (fun h51 => ?_)
        · refine g_bipush (-6) dX5_settleDays_58 rfl ?_
          refine g_iast (n := 6) k dX5_settleDays_60 (by decide) rfl hxn (by omega) ?_
          (try simp (disch := omega) only [setW_setA, setW_setA_ne])
          refine g_aload_n 1 dX5_settleDays_61 rfl rfl ?_
          refine gf_X5_24 dX5_settleDays_62 ?_
          refine g_iload_n 3 dX5_settleDays_65 rfl rfl ?_
          refine g_iconst 0 dX5_settleDays_66 rfl ?_
          refine g_iast (n := 6) k dX5_settleDays_67 (by decide) rfl hxn (by omega) ?_
          (try simp (disch := omega) only [setW_setA, setW_setA_ne])
          refine g_iinc 1 [_, _, _] _ dX5_settleDays_68 rfl (by decide) rfl ?_
          refine g_goto 2 dX5_settleDays_71 (by decide) ?_
          refine g_lv [1, 2, 3] rfl ?_
          have hh := ih (k + 1) (x + 1) (by omega) (by omega) (by rw [hx, nI_1])
          unfold daysF at hh
          rw [← fillF_s (fuF w nl), ← fillF_s (goF (w 17) (w 18) (fuF w nl)), ← fillF_s (fun _ => (0 : Int32))] at hh
          rcases goF_or (w 17) (w 18) (fuF w nl) k with ⟨z1, z2, e⟩ | ⟨z, e⟩ <;> rw [e] at hh <;> first | exact hh | exact absurd h42 z1 | exact absurd z2 h51 | exact absurd ⟨h42, h51⟩ z
          
        · refine g_iload_n 0 dX5_settleDays_54 rfl rfl ?_
          refine g_goto 60 dX5_settleDays_55 (by decide) ?_
          refine g_iast (n := 6) k dX5_settleDays_60 (by decide) rfl hxn (by omega) ?_
          (try simp (disch := omega) only [setW_setA, setW_setA_ne])
          refine g_aload_n 1 dX5_settleDays_61 rfl rfl ?_
          refine gf_X5_24 dX5_settleDays_62 ?_
          refine g_iload_n 3 dX5_settleDays_65 rfl rfl ?_
          refine g_iconst 0 dX5_settleDays_66 rfl ?_
          refine g_iast (n := 6) k dX5_settleDays_67 (by decide) rfl hxn (by omega) ?_
          (try simp (disch := omega) only [setW_setA, setW_setA_ne])
          refine g_iinc 1 [_, _, _] _ dX5_settleDays_68 rfl (by decide) rfl ?_
          refine g_goto 2 dX5_settleDays_71 (by decide) ?_
          refine g_lv [1, 2, 3] rfl ?_
          have hh := ih (k + 1) (x + 1) (by omega) (by omega) (by rw [hx, nI_1])
          unfold daysF at hh
          rw [← fillF_s (fuF w nl), ← fillF_s (goF (w 17) (w 18) (fuF w nl)), ← fillF_s (fun _ => (0 : Int32))] at hh
          rcases goF_or (w 17) (w 18) (fuF w nl) k with ⟨z1, z2, e⟩ | ⟨z, e⟩ <;> rw [e] at hh <;> first | exact hh | exact absurd h42 z1 | exact absurd z2 h51 | exact absurd ⟨h42, h51⟩ z
          
theorem daysF_0 (w : W0) (nl : Nat) : daysF w nl 0 = w := by
  unfold daysF
  rw [fillF_0, fillF_0, fillF_0, setA_self, setA_self, setA_self]
set_option maxRecDepth 20000 in
theorem t_X5_settleDays {E : En} {w : W0} {nw nl : Nat} (hc : w 2 5 = nI nw) (hn : nw ≤ 6) (hcl : w 1 2 = nI nl) (hnl : nl ≤ 8) : Mt E 4 yX5_settleDays cX5_settleDays 4 (none) [.ref (E.1 2), .ref (E.1 1)] w none (daysF w nl nw) := by
  refine Mt.of (by decide +kernel) (Nat.le_of_ble_eq_true rfl) ?_
  show G E 4 RX5 cX5_settleDays 4 (none) _ _ 0 [(0, .ref (E.1 2)), (1, .ref (E.1 1))] [] w
  refine g_iconst 0 dX5_settleDays_0 rfl ?_
  refine g_istN_n dX5_settleDays_1 rfl (by decide) rfl ?_
  refine g_lv [1, 2, 0] rfl ?_
  have hl := l_settleDays (E := E) hc hn hcl hnl (nw + 1) 0 _ (by omega) (by omega) rfl
  rw [daysF_0] at hl
  exact hl
end
section
/-! Items, Leases -/
abbrev hasI (w : W0) (i : Int32) : Prop := 0 ≤ i.toInt ∧ i.toInt < (w 4 7).toInt ∧ i.toInt < 60
abbrev hasE (w : W0) (i : Int32) : Prop := 0 ≤ i.toInt ∧ i.toInt < (w 5 4).toInt ∧ i.toInt < 10
def barsF (w : W0) (nl k : Nat) : Int32 := if ¬ w 26 k = 0 then 0 else if ¬ w 29 k = 0 ∧ w 28 k = 0 then onF w (w 27 k) (w 25 k) (lawF (w 7) (lpF w) nl (w 24 k) 3) + 2 else onF w (w 27 k) (w 25 k) (lawF (w 7) (lpF w) nl (w 24 k) 3)
theorem onF_setA {w : W0} {p : Nat} {f : Nat → Int32} (h : p ≠ 3 ∧ p ≠ 22) : onF (setA w p f) = onF w := by
  funext a b c
  unfold onF
  rw [limC_setA h]
theorem barsF_setA {w : W0} {nl : Nat} {f : Nat → Int32} : barsF (setA w 30 f) nl = barsF w nl := by
  funext k
  unfold barsF
  rw [onF_setA (by decide), lpF_setA (by decide)]
  rfl
def alF (w : W0) (nl k : Nat) : Int32 := if barsF w nl k = 0 then 1 else 0
theorem alF_or (w : W0) (nl k : Nat) : (barsF w nl k = 0 ∧ alF w nl k = 1) ∨ (¬ barsF w nl k = 0 ∧ alF w nl k = 0) := by
  by_cases h : barsF w nl k = 0
  · exact Or.inl ⟨h, if_pos h⟩
  · exact Or.inr ⟨h, if_neg h⟩
def alW (w : W0) (nl n : Nat) : W0 := setA w 30 (fillF (alF w nl) (w 30) n)
theorem alW_0 (w : W0) (nl : Nat) : alW w nl 0 = w := by
  unfold alW
  rw [fillF_0, setA_self]
def sumF (rc al dy co : Nat → Int32) (r a b : Int32) : Nat → Int32
  | 0 => 0
  | k + 1 => if rc k = r ∧ ¬ al k = 0 ∧ a.toInt ≤ (dy k).toInt ∧ (dy k).toInt ≤ b.toInt then sumF rc al dy co r a b k + co k else sumF rc al dy co r a b k
theorem sumF_s (rc al dy co : Nat → Int32) (r a b : Int32) (k : Nat) : sumF rc al dy co r a b (k + 1) = if rc k = r ∧ ¬ al k = 0 ∧ a.toInt ≤ (dy k).toInt ∧ (dy k).toInt ≤ b.toInt then sumF rc al dy co r a b k + co k else sumF rc al dy co r a b k := rfl
def hadF (rc lk dy co : Nat → Int32) (l u : Int32) : Nat → Int32
  | 0 => 0
  | k + 1 => if ¬ rc k = 0 ∧ lk k = l ∧ (dy k).toInt ≤ u.toInt then hadF rc lk dy co l u k + co k else hadF rc lk dy co l u k
theorem hadF_s (rc lk dy co : Nat → Int32) (l u : Int32) (k : Nat) : hadF rc lk dy co l u (k + 1) = if ¬ rc k = 0 ∧ lk k = l ∧ (dy k).toInt ≤ u.toInt then hadF rc lk dy co l u k + co k else hadF rc lk dy co l u k := rfl
theorem nar01 {v : Int32} (h : v = 0 ∨ v = 1) : narrow .boolean (.int v) = .int v := by
  rcases h with h | h <;> rw [h] <;> rfl
theorem vnar01 {v : Int32} (h : v = 0 ∨ v = 1) : vp_nar .boolean v = v := by
  rcases h with h | h <;> rw [h] <;> rfl
theorem lk_min : Cond.methodLink RX3 44 Lib.Math.min.name ∈ tblG := tblG_in 521 (by decide +kernel) (by decide +kernel)
theorem ls_min : Cond.static Lib.Math.min.name ∈ tblG := tblG_in 522 (by decide +kernel) (by decide +kernel)
theorem lc_min : Cond.code Lib.Math.min.name Lib.Math.min.code 2 (some .int) ∈ tblG := tblG_in 523 (by decide +kernel) (by decide +kernel)
theorem li_min : Cond.initialized "java/lang/Math" ∈ tblG := tblG_in 74 (by decide +kernel) (by decide +kernel)
theorem g_mmin {E : En} {d : Nat} {cc : ByteArray} {nL : Nat} {ret : Option FieldType} {rv : Option Value} {w1 : W0} {pc : Nat} {lv : List (Nat × Value)} {st : List Value} {w : W0} {x y : Int32} (hd : decode cc pc = .ok (.invokestatic 44, 3)) (hdd : 1 ≤ d) (hr : (st.map fun v => v.category).sum ≤ 8) (h : G E d RX3 cc nL ret rv w1 (pc + 3) lv (.int (if y < x then y else x) :: st) w) : G E d RX3 cc nL ret rv w1 pc lv (.int y :: .int x :: st) w :=
  fun p l e s m args below meth c H locs ls C S P F L => va_mmin C.1 C.2.1 (C.2.2.2.2.1.trans L.1.symm) C.2.2.2.2.2.1 (C.2.2.2.2.2.2 _ lk_min) (C.2.2.2.2.2.2 _ ls_min) (C.2.2.2.2.2.2 _ li_min) (C.2.2.2.2.2.2 _ lc_min) hdd (by show _ ≤ 40 * d; omega) (Nat.zero_le _) (Nat.zero_le _) hd (h p l e s m args below meth c H locs ls C S P F L)
set_option maxRecDepth 20000 in
theorem t_X1_has {E : En} {w : W0} {i : Int32} : Mt E 0 yX1_has cX1_has 2 (some .boolean) [.ref (E.1 4), .int i] w (some (.int (bI (hasI w i)))) w := by
  refine Mt.of (by decide +kernel) (Nat.le_of_ble_eq_true rfl) ?_
  show G E 0 RX1 cX1_has 2 (some .boolean) _ _ 0 [(0, .ref (E.1 4)), (1, .int i)] [] w
  refine g_iload_n 1 dX1_has_0 rfl rfl ?_
  refine g_if_lt 22 _ dX1_has_1 (by decide) rfl (fun h1 => ?_) (fun h1 => ?_)
  · refine g_iconst 0 dX1_has_22 rfl ?_
    refine g_iret dX1_has_23 rfl rfl ?_ ?_
    · first | (rw [bI_t]; omega) | (rw [bI_f]; omega)
    · rfl
  · refine g_iload_n 1 dX1_has_4 rfl rfl ?_
    refine g_aload_n 0 dX1_has_5 rfl rfl ?_
    refine gf_X1_34 dX1_has_6 ?_
    refine g_icmp_ge 22 _ _ dX1_has_9 (by decide) rfl rfl (fun h9 => ?_) (fun h9 => ?_)
    · refine g_iconst 0 dX1_has_22 rfl ?_
      refine g_iret dX1_has_23 rfl rfl ?_ ?_
      · first | (rw [bI_t]; omega) | (rw [bI_f]; omega)
      · rfl
    · refine g_iload_n 1 dX1_has_12 rfl rfl ?_
      refine g_bipush 60 dX1_has_13 rfl ?_
      refine g_icmp_ge 22 _ 60 dX1_has_15 (by decide) rfl rfl (fun h15 => ?_) (fun h15 => ?_)
      · refine g_iconst 0 dX1_has_22 rfl ?_
        refine g_iret dX1_has_23 rfl rfl ?_ ?_
        · first | (rw [bI_t]; omega) | (rw [bI_f]; omega)
        · rfl
      · refine g_iconst 1 dX1_has_18 rfl ?_
        refine g_goto 23 dX1_has_19 (by decide) ?_
        refine g_iret dX1_has_23 rfl rfl ?_ ?_
        · first | (rw [bI_t]; omega) | (rw [bI_f]; omega)
        · rfl
set_option maxRecDepth 20000 in
theorem t_X1_isReceipt {E : En} {w : W0} {i : Int32} : Mt E 1 yX1_isReceipt cX1_isReceipt 2 (some .boolean) [.ref (E.1 4), .int i] w (some (.int (bI (hasI w i ∧ ¬ w 26 i.toNatClampNeg = 0)))) w := by
  refine Mt.of (by decide +kernel) (Nat.le_of_ble_eq_true rfl) ?_
  show G E 1 RX1 cX1_isReceipt 2 (some .boolean) _ _ 0 [(0, .ref (E.1 4)), (1, .int i)] [] w
  refine g_aload_n 0 dX1_isReceipt_0 rfl rfl ?_
  refine g_iload_n 1 dX1_isReceipt_1 rfl rfl ?_
  refine ca_X1_38 dX1_isReceipt_2 (t_X1_has) (by decide) (Nat.le_of_ble_eq_true rfl) ?_
  refine g_if_eqb 21 dX1_isReceipt_5 (by decide) (fun h5 => ?_) (fun h5 => ?_)
  · refine g_iconst 0 dX1_isReceipt_21 rfl ?_
    refine g_iret dX1_isReceipt_22 rfl rfl ?_ ?_
    · first | (rw [bI_t]; exact ⟨h5, h14⟩) | (rw [bI_f]; exact fun z => z.2 h14) | (rw [bI_f]; exact fun z => h5 z.1)
    · rfl
  · refine g_aload_n 0 dX1_isReceipt_8 rfl rfl ?_
    refine gf_X1_18 dX1_isReceipt_9 ?_
    refine g_iload_n 1 dX1_isReceipt_12 rfl rfl ?_
    refine g_bald (n := 60) _ dX1_isReceipt_13 (by decide) rfl rfl (by omega) ?_
    refine g_if_eq 21 dX1_isReceipt_14 (by decide) (fun h14 => ?_) (fun h14 => ?_)
    · refine g_iconst 0 dX1_isReceipt_21 rfl ?_
      refine g_iret dX1_isReceipt_22 rfl rfl ?_ ?_
      · first | (rw [bI_t]; exact ⟨h5, h14⟩) | (rw [bI_f]; exact fun z => z.2 h14) | (rw [bI_f]; exact fun z => h5 z.1)
      · rfl
    · refine g_iconst 1 dX1_isReceipt_17 rfl ?_
      refine g_goto 22 dX1_isReceipt_18 (by decide) ?_
      refine g_iret dX1_isReceipt_22 rfl rfl ?_ ?_
      · first | (rw [bI_t]; exact ⟨h5, h14⟩) | (rw [bI_f]; exact fun z => z.2 h14) | (rw [bI_f]; exact fun z => h5 z.1)
      · rfl
set_option maxRecDepth 20000 in
theorem t_X1_setVoucher {E : En} {w : W0} {ni k : Nat} {x : Int32} (hc : w 4 7 = nI ni) (hn : ni ≤ 60) (hk : k < ni) (hx : x = nI k) {z : Int32} (hz : z = 0 ∨ z = 1) (hb : w 28 k = 0 ∨ w 28 k = 1) : Mt E 1 yX1_setVoucher cX1_setVoucher 4 (some .boolean) [.ref (E.1 4), .int x, .int z] w (some (.int (w 28 k))) (setW w 28 k z) := by
  refine Mt.of (by decide +kernel) (Nat.le_of_ble_eq_true rfl) ?_
  show G E 1 RX1 cX1_setVoucher 4 (some .boolean) _ _ 0 [(0, .ref (E.1 4)), (1, .int x), (2, .int z)] [] w
  have hxi : x.toInt = (k : Int) := by rw [hx]; exact nI_toInt (by omega)
  have hxn : x.toNatClampNeg = k := by rw [hx]; exact nI_clamp (by omega)
  have hcI : (w 4 7).toInt = (ni : Int) := by rw [hc]; exact nI_toInt (by omega)
  refine g_aload_n 0 dX1_setVoucher_0 rfl rfl ?_
  refine g_iload_n 1 dX1_setVoucher_1 rfl rfl ?_
  refine ca_X1_38 dX1_setVoucher_2 (t_X1_has) (by decide) (Nat.le_of_ble_eq_true rfl) ?_
  refine g_if_neb 10 dX1_setVoucher_5 (by decide) (fun h5 => ?_) (fun h5 => False.elim (by exact h5 (by omega)))
  refine g_aload_n 0 dX1_setVoucher_10 rfl rfl ?_
  refine gf_X1_25 dX1_setVoucher_11 ?_
  refine g_iload_n 1 dX1_setVoucher_14 rfl rfl ?_
  refine g_bald (n := 60) k dX1_setVoucher_15 (by decide) rfl hxn (by omega) ?_
  refine g_istN_n dX1_setVoucher_16 rfl (by decide) rfl ?_
  refine g_aload_n 1 dX1_setVoucher_17 rfl rfl ?_
  refine gf_X1_25 dX1_setVoucher_18 ?_
  refine g_iload_n 2 dX1_setVoucher_21 rfl rfl ?_
  refine g_iload_n 3 dX1_setVoucher_22 rfl rfl ?_
  refine g_bast (n := 60) k dX1_setVoucher_23 (by decide) rfl hxn (by omega) (vnar01 hz) ?_
  (try simp (disch := omega) only [setW_setA, setW_setA_ne])
  refine g_iload_n 0 dX1_setVoucher_24 rfl rfl ?_
  refine g_iret dX1_setVoucher_25 rfl (nar01 hb) ?_ ?_
  · rfl
  · rfl
set_option maxRecDepth 20000 in
theorem t_X1_setChallenge {E : En} {w : W0} {ni k : Nat} {x : Int32} (hc : w 4 7 = nI ni) (hn : ni ≤ 60) (hk : k < ni) (hx : x = nI k) {z : Int32} (hz : z = 0 ∨ z = 1) (hb : w 29 k = 0 ∨ w 29 k = 1) : Mt E 1 yX1_setChallenge cX1_setChallenge 4 (some .boolean) [.ref (E.1 4), .int x, .int z] w (some (.int (w 29 k))) (setW w 29 k z) := by
  refine Mt.of (by decide +kernel) (Nat.le_of_ble_eq_true rfl) ?_
  show G E 1 RX1 cX1_setChallenge 4 (some .boolean) _ _ 0 [(0, .ref (E.1 4)), (1, .int x), (2, .int z)] [] w
  have hxi : x.toInt = (k : Int) := by rw [hx]; exact nI_toInt (by omega)
  have hxn : x.toNatClampNeg = k := by rw [hx]; exact nI_clamp (by omega)
  have hcI : (w 4 7).toInt = (ni : Int) := by rw [hc]; exact nI_toInt (by omega)
  refine g_aload_n 0 dX1_setChallenge_0 rfl rfl ?_
  refine g_iload_n 1 dX1_setChallenge_1 rfl rfl ?_
  refine ca_X1_38 dX1_setChallenge_2 (t_X1_has) (by decide) (Nat.le_of_ble_eq_true rfl) ?_
  refine g_if_neb 10 dX1_setChallenge_5 (by decide) (fun h5 => ?_) (fun h5 => False.elim (by exact h5 (by omega)))
  refine g_aload_n 0 dX1_setChallenge_10 rfl rfl ?_
  refine gf_X1_28 dX1_setChallenge_11 ?_
  refine g_iload_n 1 dX1_setChallenge_14 rfl rfl ?_
  refine g_bald (n := 60) k dX1_setChallenge_15 (by decide) rfl hxn (by omega) ?_
  refine g_istN_n dX1_setChallenge_16 rfl (by decide) rfl ?_
  refine g_aload_n 1 dX1_setChallenge_17 rfl rfl ?_
  refine gf_X1_28 dX1_setChallenge_18 ?_
  refine g_iload_n 2 dX1_setChallenge_21 rfl rfl ?_
  refine g_iload_n 3 dX1_setChallenge_22 rfl rfl ?_
  refine g_bast (n := 60) k dX1_setChallenge_23 (by decide) rfl hxn (by omega) (vnar01 hz) ?_
  (try simp (disch := omega) only [setW_setA, setW_setA_ne])
  refine g_iload_n 0 dX1_setChallenge_24 rfl rfl ?_
  refine g_iret dX1_setChallenge_25 rfl (nar01 hb) ?_ ?_
  · rfl
  · rfl
set_option maxRecDepth 20000 in
theorem t_X1_add {E : En} {w : W0} {d c r l : Int32} {n : Nat} (hc : w 4 7 = nI n) (hn : n < 60) (hr : r = 0 ∨ r = 1) : Mt E 0 yX1_add cX1_add 5 (none) [.ref (E.1 4), .int d, .int c, .int r, .int l] w none (setW (setW (setW (setW (setW w 24 n d) 25 n c) 26 n r) 27 n l) 4 7 (nI (n + 1))) := by
  refine Mt.of (by decide +kernel) (Nat.le_of_ble_eq_true rfl) ?_
  show G E 0 RX1 cX1_add 5 (none) _ _ 0 [(0, .ref (E.1 4)), (1, .int d), (2, .int c), (3, .int r), (4, .int l)] [] w
  have hi : (w 4 7).toInt = (n : Int) := by rw [hc]; exact nI_toInt (by omega)
  have hx : (w 4 7).toNatClampNeg = n := by rw [hc]; exact nI_clamp (by omega)
  refine g_aload_n 0 dX1_add_0 rfl rfl ?_
  refine gf_X1_34 dX1_add_1 ?_
  refine g_bipush 60 dX1_add_4 rfl ?_
  refine g_icmp_lt 10 _ 60 dX1_add_6 (by decide) rfl rfl (fun h6 => ?_) (fun h6 => False.elim (by omega))
  refine g_aload_n 0 dX1_add_10 rfl rfl ?_
  refine gf_X1_9 dX1_add_11 ?_
  refine g_aload_n 0 dX1_add_14 rfl rfl ?_
  refine gf_X1_34 dX1_add_15 ?_
  refine g_iload_n 1 dX1_add_18 rfl rfl ?_
  refine g_iast (n := 60) n dX1_add_19 (by decide) rfl hx (by omega) ?_
  refine g_aload_n 0 dX1_add_20 rfl rfl ?_
  refine gf_X1_15 dX1_add_21 ?_
  refine g_aload_n 0 dX1_add_24 rfl rfl ?_
  refine gf_X1_34 dX1_add_25 ?_
  simp (disch := omega) only [setW_ne]
  refine g_iload_n 2 dX1_add_28 rfl rfl ?_
  refine g_iast (n := 60) n dX1_add_29 (by decide) rfl hx (by omega) ?_
  refine g_aload_n 0 dX1_add_30 rfl rfl ?_
  refine gf_X1_18 dX1_add_31 ?_
  refine g_aload_n 0 dX1_add_34 rfl rfl ?_
  refine gf_X1_34 dX1_add_35 ?_
  simp (disch := omega) only [setW_ne]
  refine g_iload_n 3 dX1_add_38 rfl rfl ?_
  refine g_bast (n := 60) n dX1_add_39 (by decide) rfl hx (by omega) (vnar01 hr) ?_
  refine g_aload_n 0 dX1_add_40 rfl rfl ?_
  refine gf_X1_22 dX1_add_41 ?_
  refine g_aload_n 0 dX1_add_44 rfl rfl ?_
  refine gf_X1_34 dX1_add_45 ?_
  simp (disch := omega) only [setW_ne]
  refine g_iload 4 dX1_add_48 rfl ?_
  refine g_iast (n := 60) n dX1_add_50 (by decide) rfl hx (by omega) ?_
  refine g_aload_n 0 dX1_add_51 rfl rfl ?_
  refine g_dup dX1_add_52 rfl ?_
  refine gf_X1_34 dX1_add_53 ?_
  simp (disch := omega) only [setW_ne]
  refine g_iconst 1 dX1_add_56 rfl ?_
  refine g_iadd dX1_add_57 ?_
  refine pf_X1_34 dX1_add_58 ?_
  refine g_vret dX1_add_61 rfl rfl ?_
  · rw [hc, nI_1]
set_option maxRecDepth 20000 in
theorem t_X1_barsOf {E : En} {w : W0} {ni k : Nat} {x : Int32} (hc : w 4 7 = nI ni) (hn : ni ≤ 60) (hk : k < ni) (hx : x = nI k) {nl : Nat} (hcl : w 1 2 = nI nl) (hnl : nl ≤ 8) : Mt E 3 yX1_barsOf cX1_barsOf 6 (some .int) [.ref (E.1 4), .int x, .ref (E.1 1), .ref (E.1 3)] w (some (.int (barsF w nl k))) w := by
  refine Mt.of (by decide +kernel) (Nat.le_of_ble_eq_true rfl) ?_
  show G E 3 RX1 cX1_barsOf 6 (some .int) _ _ 0 [(0, .ref (E.1 4)), (1, .int x), (2, .ref (E.1 1)), (3, .ref (E.1 3))] [] w
  have hxi : x.toInt = (k : Int) := by rw [hx]; exact nI_toInt (by omega)
  have hxn : x.toNatClampNeg = k := by rw [hx]; exact nI_clamp (by omega)
  have hcI : (w 4 7).toInt = (ni : Int) := by rw [hc]; exact nI_toInt (by omega)
  refine g_aload_n 0 dX1_barsOf_0 rfl rfl ?_
  refine g_iload_n 1 dX1_barsOf_1 rfl rfl ?_
  refine ca_X1_38 dX1_barsOf_2 (t_X1_has) (by decide) (Nat.le_of_ble_eq_true rfl) ?_
  refine g_if_eqb 17 dX1_barsOf_5 (by decide) (fun h5 => False.elim (by exact h5 (by omega))) (fun h5 => ?_)
  refine g_aload_n 0 dX1_barsOf_8 rfl rfl ?_
  refine gf_X1_18 dX1_barsOf_9 ?_
  refine g_iload_n 1 dX1_barsOf_12 rfl rfl ?_
  refine g_bald (n := 60) k dX1_barsOf_13 (by decide) rfl hxn (by omega) ?_
  refine g_if_eq 19 dX1_barsOf_14 (by decide) (fun h14 => ?_) (fun h14 => ?_)
  · refine g_aload_n 2 dX1_barsOf_19 rfl rfl ?_
    refine g_aload_n 0 dX1_barsOf_20 rfl rfl ?_
    refine gf_X1_9 dX1_barsOf_21 ?_
    refine g_iload_n 1 dX1_barsOf_24 rfl rfl ?_
    refine g_iald (n := 60) k dX1_barsOf_25 (by decide) rfl hxn (by omega) ?_
    refine g_iconst 3 dX1_barsOf_26 rfl ?_
    refine ca_X1_42 dX1_barsOf_27 (t_X2_inForce (p := 3) hcl hnl rfl (by decide)) (by decide) (Nat.le_of_ble_eq_true rfl) ?_
    refine g_istN dX1_barsOf_30 (by decide) rfl ?_
    refine g_aload_n 4 dX1_barsOf_32 rfl rfl ?_
    refine g_aload_n 1 dX1_barsOf_33 rfl rfl ?_
    refine gf_X1_22 dX1_barsOf_34 ?_
    refine g_iload_n 2 dX1_barsOf_37 rfl rfl ?_
    refine g_iald (n := 60) k dX1_barsOf_38 (by decide) rfl hxn (by omega) ?_
    refine g_aload_n 1 dX1_barsOf_39 rfl rfl ?_
    refine gf_X1_15 dX1_barsOf_40 ?_
    refine g_iload_n 2 dX1_barsOf_43 rfl rfl ?_
    refine g_iald (n := 60) k dX1_barsOf_44 (by decide) rfl hxn (by omega) ?_
    refine g_iload 0 dX1_barsOf_45 rfl ?_
    refine ca_X1_48 dX1_barsOf_47 (t_X4_barsOn) (by decide) (Nat.le_of_ble_eq_true rfl) ?_
    refine g_istN dX1_barsOf_50 (by decide) rfl ?_
    refine g_aload_n 2 dX1_barsOf_52 rfl rfl ?_
    refine gf_X1_28 dX1_barsOf_53 ?_
    refine g_iload_n 3 dX1_barsOf_56 rfl rfl ?_
    refine g_bald (n := 60) k dX1_barsOf_57 (by decide) rfl hxn (by omega) ?_
    refine g_if_eq 77 dX1_barsOf_58 (by decide) (fun h58 => ?_) (fun h58 => ?_)
    · refine g_iload 0 dX1_barsOf_77 rfl ?_
      refine g_iret dX1_barsOf_79 rfl rfl ?_ ?_
      · unfold barsF; (repeat' split) <;> first | rfl | (exfalso; simp_all; done)
      · rfl
    · refine g_aload_n 2 dX1_barsOf_61 rfl rfl ?_
      refine gf_X1_25 dX1_barsOf_62 ?_
      refine g_iload_n 3 dX1_barsOf_65 rfl rfl ?_
      refine g_bald (n := 60) k dX1_barsOf_66 (by decide) rfl hxn (by omega) ?_
      refine g_if_ne 77 dX1_barsOf_67 (by decide) (fun h67 => ?_) (fun h67 => ?_)
      · refine g_iload 0 dX1_barsOf_77 rfl ?_
        refine g_iret dX1_barsOf_79 rfl rfl ?_ ?_
        · unfold barsF; (repeat' split) <;> first | rfl | (exfalso; simp_all; done)
        · rfl
      · refine g_iload 0 dX1_barsOf_70 rfl ?_
        refine g_iconst 2 dX1_barsOf_72 rfl ?_
        refine g_iadd dX1_barsOf_73 ?_
        refine g_goto 79 dX1_barsOf_74 (by decide) ?_
        refine g_iret dX1_barsOf_79 rfl rfl ?_ ?_
        · unfold barsF; (repeat' split) <;> first | rfl | (exfalso; simp_all; done)
        · rfl
  · refine g_iconst 0 dX1_barsOf_17 rfl ?_
    refine g_iret dX1_barsOf_18 rfl rfl ?_ ?_
    · unfold barsF; (repeat' split) <;> first | rfl | (exfalso; simp_all; done)
    · rfl
set_option maxRecDepth 20000 in
theorem l_settleAllowed {E : En} {w : W0} {ni : Nat} (hc : w 4 7 = nI ni) (hn : ni ≤ 60) {nl : Nat} (hcl : w 1 2 = nI nl) (hnl : nl ≤ 8) : ∀ (n : Nat) (k : Nat) (x : Int32), ni + 1 ≤ k + n → k ≤ ni → x = nI k → G E 4 RX1 cX1_settleAllowed 4 (none) none (alW w nl ni) 2 [(0, .ref (E.1 4)), (1, .ref (E.1 1)), (2, .ref (E.1 3)), (3, .int x)] [] (alW w nl k) := by
  intro n
  induction n with
  | zero =>
    intro k x hfu hk hx
    exact absurd hfu (by omega)
  | succ n ih =>
    intro k x hfu hk hx
    have hxi : x.toInt = (k : Int) := by rw [hx]; exact nI_toInt (by omega)
    have hxn : x.toNatClampNeg = k := by rw [hx]; exact nI_clamp (by omega)
    have hcI : (w 4 7).toInt = (ni : Int) := by rw [hc]; exact nI_toInt (by omega)
    unfold alW
    refine g_iload_n 3 dX1_settleAllowed_2 rfl rfl ?_
    refine g_aload_n 0 dX1_settleAllowed_3 rfl rfl ?_
    refine gf_X1_34 dX1_settleAllowed_4 ?_
    (try simp (disch := omega) only [setW_ne, setW_p, setA_ne, setA_p, upd_self, lpF_setA, lpF_setW, limC_setA, limC_setW, barsF_setA])
    refine g_icmp_ge 43 (k : Int) _ dX1_settleAllowed_7 (by decide) hxi rfl (fun h7 => ?_) (fun h7 => ?_)
    · refine g_vret dX1_settleAllowed_43 rfl rfl ?_
      · rw [show k = ni by omega]
    · refine g_iload_n 3 dX1_settleAllowed_10 rfl rfl ?_
      refine g_bipush 60 dX1_settleAllowed_11 rfl ?_
      refine g_icmp_ge 43 (k : Int) 60 dX1_settleAllowed_13 (by decide) hxi rfl (fun h13 => False.elim (by omega)) (fun h13 => ?_)
      refine g_aload_n 0 dX1_settleAllowed_16 rfl rfl ?_
      refine gf_X1_31 dX1_settleAllowed_17 ?_
      refine g_iload_n 3 dX1_settleAllowed_20 rfl rfl ?_
      refine g_aload_n 0 dX1_settleAllowed_21 rfl rfl ?_
      refine g_iload_n 3 dX1_settleAllowed_22 rfl rfl ?_
      refine g_aload_n 1 dX1_settleAllowed_23 rfl rfl ?_
      refine g_aload_n 2 dX1_settleAllowed_24 rfl rfl ?_
      refine ca_X1_54 dX1_settleAllowed_25 (t_X1_barsOf (ni := ni) (k := k) (nl := nl) (by (try simp (disch := omega) only [setW_ne, setA_ne]); exact hc) hn (by omega) hx (by (try simp (disch := omega) only [setW_ne, setA_ne]); exact hcl) hnl) (by decide) (Nat.le_of_ble_eq_true rfl) ?_
      (try simp (disch := omega) only [setW_ne, setW_p, setA_ne, setA_p, upd_self, lpF_setA, lpF_setW, limC_setA, limC_setW, barsF_setA])
      refine g_if_ne 35 dX1_settleAllowed_28 (by decide) (fun h28 => ?_) (fun h28 => ?_)
      · refine g_iconst 0 dX1_settleAllowed_35 rfl ?_
        refine g_bast (n := 60) k dX1_settleAllowed_36 (by decide) rfl hxn (by omega) rfl ?_
        (try simp (disch := omega) only [setW_setA, setW_setA_ne])
        refine g_iinc 1 [_, _, _] _ dX1_settleAllowed_37 rfl (by decide) rfl ?_
        refine g_goto 2 dX1_settleAllowed_40 (by decide) ?_
        have hh := ih (k + 1) (x + 1) (by omega) (by omega) (by rw [hx, nI_1])
        unfold alW at hh
        rw [← fillF_s] at hh
        rcases alF_or w nl k with ⟨z, e⟩ | ⟨z, e⟩ <;> rw [e] at hh <;> first | exact hh | exact absurd z h28 | exact absurd h28 z
      · refine g_iconst 1 dX1_settleAllowed_31 rfl ?_
        refine g_goto 36 dX1_settleAllowed_32 (by decide) ?_
        refine g_bast (n := 60) k dX1_settleAllowed_36 (by decide) rfl hxn (by omega) rfl ?_
        (try simp (disch := omega) only [setW_setA, setW_setA_ne])
        refine g_iinc 1 [_, _, _] _ dX1_settleAllowed_37 rfl (by decide) rfl ?_
        refine g_goto 2 dX1_settleAllowed_40 (by decide) ?_
        have hh := ih (k + 1) (x + 1) (by omega) (by omega) (by rw [hx, nI_1])
        unfold alW at hh
        rw [← fillF_s] at hh
        rcases alF_or w nl k with ⟨z, e⟩ | ⟨z, e⟩ <;> rw [e] at hh <;> first | exact hh | exact absurd z h28 | exact absurd h28 z
set_option maxRecDepth 20000 in
theorem t_X1_settleAllowed {E : En} {w : W0} {ni : Nat} (hc : w 4 7 = nI ni) (hn : ni ≤ 60) {nl : Nat} (hcl : w 1 2 = nI nl) (hnl : nl ≤ 8) : Mt E 4 yX1_settleAllowed cX1_settleAllowed 4 (none) [.ref (E.1 4), .ref (E.1 1), .ref (E.1 3)] w none (alW w nl ni) := by
  refine Mt.of (by decide +kernel) (Nat.le_of_ble_eq_true rfl) ?_
  show G E 4 RX1 cX1_settleAllowed 4 (none) _ _ 0 [(0, .ref (E.1 4)), (1, .ref (E.1 1)), (2, .ref (E.1 3))] [] w
  refine g_iconst 0 dX1_settleAllowed_0 rfl ?_
  refine g_istN_n dX1_settleAllowed_1 rfl (by decide) rfl ?_
  refine g_lv [1, 2, 3, 0] rfl ?_
  have hl := l_settleAllowed (E := E) hc hn hcl hnl (ni + 1) 0 _ (by omega) (by omega) rfl
  rw [alW_0] at hl
  exact hl
set_option maxRecDepth 20000 in
theorem l_sumBetween {E : En} {w : W0} {ni : Nat} {r a b : Int32} (hc : w 4 7 = nI ni) (hn : ni ≤ 60) : ∀ (n : Nat) (k : Nat) (v x : Int32), ni + 1 ≤ k + n → k ≤ ni → x = nI k → v = sumF (w 26) (w 30) (w 24) (w 25) r a b k → G E 1 RX1 cX1_sumBetween 6 (some .int) (some (.int (sumF (w 26) (w 30) (w 24) (w 25) r a b ni))) w 6 [(0, .ref (E.1 4)), (1, .int r), (2, .int a), (3, .int b), (4, .int v), (5, .int x)] [] w := by
  intro n
  induction n with
  | zero =>
    intro k v x hfu hk hx hv
    exact absurd hfu (by omega)
  | succ n ih =>
    intro k v x hfu hk hx hv
    have hxi : x.toInt = (k : Int) := by rw [hx]; exact nI_toInt (by omega)
    have hxn : x.toNatClampNeg = k := by rw [hx]; exact nI_clamp (by omega)
    have hcI : (w 4 7).toInt = (ni : Int) := by rw [hc]; exact nI_toInt (by omega)
    refine g_iload 5 dX1_sumBetween_6 rfl ?_
    refine g_aload_n 0 dX1_sumBetween_8 rfl rfl ?_
    refine gf_X1_34 dX1_sumBetween_9 ?_
    refine g_icmp_ge 76 (k : Int) _ dX1_sumBetween_12 (by decide) hxi rfl (fun h12 => ?_) (fun h12 => ?_)
    · refine g_iload 4 dX1_sumBetween_76 rfl ?_
      refine g_iret dX1_sumBetween_78 rfl rfl ?_ ?_
      · rw [hv, show k = ni by omega]
      · rfl
    · refine g_iload 5 dX1_sumBetween_15 rfl ?_
      refine g_bipush 60 dX1_sumBetween_17 rfl ?_
      refine g_icmp_ge 76 (k : Int) 60 dX1_sumBetween_19 (by decide) hxi rfl (fun h19 => False.elim (by omega)) (fun h19 => ?_)
      refine g_aload_n 0 dX1_sumBetween_22 rfl rfl ?_
      refine gf_X1_18 dX1_sumBetween_23 ?_
      refine g_iload 5 dX1_sumBetween_26 rfl ?_
      refine g_bald (n := 60) k dX1_sumBetween_28 (by decide) rfl hxn (by omega) ?_
      refine g_iload_n 1 dX1_sumBetween_29 rfl rfl ?_
      refine g_icmp_ne 70 dX1_sumBetween_30 (by decide) (fun h30 => ?_) (fun h30 => ?_)
      · refine g_iinc 1 [_, _, _, _, _] _ dX1_sumBetween_70 rfl (by decide) rfl ?_
        refine g_goto 6 dX1_sumBetween_73 (by decide) ?_
        exact ih (k + 1) _ _ (by omega) (by omega) (by rw [hx, nI_1]) (by clear ih; rw [sumF_s, ← hv]; split <;> first | rfl | (exfalso; simp_all; done) | (exfalso; simp_all; omega))
      · refine g_aload_n 0 dX1_sumBetween_33 rfl rfl ?_
        refine gf_X1_31 dX1_sumBetween_34 ?_
        refine g_iload 5 dX1_sumBetween_37 rfl ?_
        refine g_bald (n := 60) k dX1_sumBetween_39 (by decide) rfl hxn (by omega) ?_
        refine g_if_eq 70 dX1_sumBetween_40 (by decide) (fun h40 => ?_) (fun h40 => ?_)
        · refine g_iinc 1 [_, _, _, _, _] _ dX1_sumBetween_70 rfl (by decide) rfl ?_
          refine g_goto 6 dX1_sumBetween_73 (by decide) ?_
          exact ih (k + 1) _ _ (by omega) (by omega) (by rw [hx, nI_1]) (by clear ih; rw [sumF_s, ← hv]; split <;> first | rfl | (exfalso; simp_all; done) | (exfalso; simp_all; omega))
        · refine g_aload_n 0 dX1_sumBetween_43 rfl rfl ?_
          refine gf_X1_9 dX1_sumBetween_44 ?_
          refine g_iload 5 dX1_sumBetween_47 rfl ?_
          refine g_iald (n := 60) k dX1_sumBetween_49 (by decide) rfl hxn (by omega) ?_
          refine g_iload_n 2 dX1_sumBetween_50 rfl rfl ?_
          refine g_iload_n 3 dX1_sumBetween_51 rfl rfl ?_
          refine ca_X1_62 dX1_sumBetween_52 (t_X6_within _ _ rfl rfl) (by decide) (Nat.le_of_ble_eq_true rfl) ?_
          refine g_if_eqb 70 dX1_sumBetween_55 (by decide) (fun h55 => ?_) (fun h55 => ?_)
          · refine g_iinc 1 [_, _, _, _, _] _ dX1_sumBetween_70 rfl (by decide) rfl ?_
            refine g_goto 6 dX1_sumBetween_73 (by decide) ?_
            exact ih (k + 1) _ _ (by omega) (by omega) (by rw [hx, nI_1]) (by clear ih; rw [sumF_s, ← hv]; split <;> first | rfl | (exfalso; simp_all; done) | (exfalso; simp_all; omega))
          · refine g_iload 4 dX1_sumBetween_58 rfl ?_
            refine g_aload_n 0 dX1_sumBetween_60 rfl rfl ?_
            refine gf_X1_15 dX1_sumBetween_61 ?_
            refine g_iload 5 dX1_sumBetween_64 rfl ?_
            refine g_iald (n := 60) k dX1_sumBetween_66 (by decide) rfl hxn (by omega) ?_
            refine g_iadd dX1_sumBetween_67 ?_
            refine g_ist [_, _, _, _] _ dX1_sumBetween_68 (by decide) rfl ?_
            refine g_iinc 1 [_, _, _, _, _] _ dX1_sumBetween_70 rfl (by decide) rfl ?_
            refine g_goto 6 dX1_sumBetween_73 (by decide) ?_
            exact ih (k + 1) _ _ (by omega) (by omega) (by rw [hx, nI_1]) (by clear ih; rw [sumF_s, ← hv]; split <;> first | rfl | (exfalso; simp_all; done) | (exfalso; simp_all; omega))
set_option maxRecDepth 20000 in
theorem t_X1_sumBetween {E : En} {w : W0} {ni : Nat} {r a b : Int32} (hc : w 4 7 = nI ni) (hn : ni ≤ 60) : Mt E 1 yX1_sumBetween cX1_sumBetween 6 (some .int) [.ref (E.1 4), .int r, .int a, .int b] w (some (.int (sumF (w 26) (w 30) (w 24) (w 25) r a b ni))) w := by
  refine Mt.of (by decide +kernel) (Nat.le_of_ble_eq_true rfl) ?_
  show G E 1 RX1 cX1_sumBetween 6 (some .int) _ _ 0 [(0, .ref (E.1 4)), (1, .int r), (2, .int a), (3, .int b)] [] w
  refine g_iconst 0 dX1_sumBetween_0 rfl ?_
  refine g_istN dX1_sumBetween_1 (by decide) rfl ?_
  refine g_iconst 0 dX1_sumBetween_3 rfl ?_
  refine g_istN dX1_sumBetween_4 (by decide) rfl ?_
  refine g_lv [2, 3, 4, 5, 1, 0] rfl ?_
  exact l_sumBetween hc hn (ni + 1) 0 _ _ (by omega) (by omega) rfl rfl
set_option maxRecDepth 20000 in
theorem t_X1_receivedBetween {E : En} {w : W0} {ni : Nat} {a b : Int32} (hc : w 4 7 = nI ni) (hn : ni ≤ 60) : Mt E 2 yX1_receivedBetween cX1_receivedBetween 3 (some .int) [.ref (E.1 4), .int a, .int b] w (some (.int (sumF (w 26) (w 30) (w 24) (w 25) 1 a b ni))) w := by
  refine Mt.of (by decide +kernel) (Nat.le_of_ble_eq_true rfl) ?_
  show G E 2 RX1 cX1_receivedBetween 3 (some .int) _ _ 0 [(0, .ref (E.1 4)), (1, .int a), (2, .int b)] [] w
  refine g_aload_n 0 dX1_receivedBetween_0 rfl rfl ?_
  refine g_iconst 1 dX1_receivedBetween_1 rfl ?_
  refine g_iload_n 1 dX1_receivedBetween_2 rfl rfl ?_
  refine g_iload_n 2 dX1_receivedBetween_3 rfl rfl ?_
  refine ca_X1_58 dX1_receivedBetween_4 (t_X1_sumBetween hc hn) (by decide) (Nat.le_of_ble_eq_true rfl) ?_
  refine g_iret dX1_receivedBetween_7 rfl rfl ?_ ?_
  · rfl
  · rfl
set_option maxRecDepth 20000 in
theorem t_X1_paidBetween {E : En} {w : W0} {ni : Nat} {a b : Int32} (hc : w 4 7 = nI ni) (hn : ni ≤ 60) : Mt E 2 yX1_paidBetween cX1_paidBetween 3 (some .int) [.ref (E.1 4), .int a, .int b] w (some (.int (sumF (w 26) (w 30) (w 24) (w 25) 0 a b ni))) w := by
  refine Mt.of (by decide +kernel) (Nat.le_of_ble_eq_true rfl) ?_
  show G E 2 RX1 cX1_paidBetween 3 (some .int) _ _ 0 [(0, .ref (E.1 4)), (1, .int a), (2, .int b)] [] w
  refine g_aload_n 0 dX1_paidBetween_0 rfl rfl ?_
  refine g_iconst 0 dX1_paidBetween_1 rfl ?_
  refine g_iload_n 1 dX1_paidBetween_2 rfl rfl ?_
  refine g_iload_n 2 dX1_paidBetween_3 rfl rfl ?_
  refine ca_X1_58 dX1_paidBetween_4 (t_X1_sumBetween hc hn) (by decide) (Nat.le_of_ble_eq_true rfl) ?_
  refine g_iret dX1_paidBetween_7 rfl rfl ?_ ?_
  · rfl
  · rfl
set_option maxRecDepth 20000 in
theorem l_hadOf {E : En} {w : W0} {ni : Nat} {a b : Int32} (hc : w 4 7 = nI ni) (hn : ni ≤ 60) : ∀ (n : Nat) (k : Nat) (v x : Int32), ni + 1 ≤ k + n → k ≤ ni → x = nI k → v = hadF (w 26) (w 27) (w 24) (w 25) a b k → G E 0 RX1 cX1_hadOf 5 (some .int) (some (.int (hadF (w 26) (w 27) (w 24) (w 25) a b ni))) w 5 [(0, .ref (E.1 4)), (1, .int a), (2, .int b), (3, .int v), (4, .int x)] [] w := by
  intro n
  induction n with
  | zero =>
    intro k v x hfu hk hx hv
    exact absurd hfu (by omega)
  | succ n ih =>
    intro k v x hfu hk hx hv
    have hxi : x.toInt = (k : Int) := by rw [hx]; exact nI_toInt (by omega)
    have hxn : x.toNatClampNeg = k := by rw [hx]; exact nI_clamp (by omega)
    have hcI : (w 4 7).toInt = (ni : Int) := by rw [hc]; exact nI_toInt (by omega)
    refine g_iload 4 dX1_hadOf_5 rfl ?_
    refine g_aload_n 0 dX1_hadOf_7 rfl rfl ?_
    refine gf_X1_34 dX1_hadOf_8 ?_
    refine g_icmp_ge 69 (k : Int) _ dX1_hadOf_11 (by decide) hxi rfl (fun h11 => ?_) (fun h11 => ?_)
    · refine g_iload_n 3 dX1_hadOf_69 rfl rfl ?_
      refine g_iret dX1_hadOf_70 rfl rfl ?_ ?_
      · rw [hv, show k = ni by omega]
      · rfl
    · refine g_iload 4 dX1_hadOf_14 rfl ?_
      refine g_bipush 60 dX1_hadOf_16 rfl ?_
      refine g_icmp_ge 69 (k : Int) 60 dX1_hadOf_18 (by decide) hxi rfl (fun h18 => False.elim (by omega)) (fun h18 => ?_)
      refine g_aload_n 0 dX1_hadOf_21 rfl rfl ?_
      refine gf_X1_18 dX1_hadOf_22 ?_
      refine g_iload 4 dX1_hadOf_25 rfl ?_
      refine g_bald (n := 60) k dX1_hadOf_27 (by decide) rfl hxn (by omega) ?_
      refine g_if_eq 63 dX1_hadOf_28 (by decide) (fun h28 => ?_) (fun h28 => ?_)
      · refine g_iinc 1 [_, _, _, _] _ dX1_hadOf_63 rfl (by decide) rfl ?_
        refine g_goto 5 dX1_hadOf_66 (by decide) ?_
        exact ih (k + 1) _ _ (by omega) (by omega) (by rw [hx, nI_1]) (by clear ih; rw [hadF_s, ← hv]; split <;> first | rfl | (exfalso; simp_all; done) | (exfalso; simp_all; omega))
      · refine g_aload_n 0 dX1_hadOf_31 rfl rfl ?_
        refine gf_X1_22 dX1_hadOf_32 ?_
        refine g_iload 4 dX1_hadOf_35 rfl ?_
        refine g_iald (n := 60) k dX1_hadOf_37 (by decide) rfl hxn (by omega) ?_
        refine g_iload_n 1 dX1_hadOf_38 rfl rfl ?_
        refine g_icmp_ne 63 dX1_hadOf_39 (by decide) (fun h39 => ?_) (fun h39 => ?_)
        · refine g_iinc 1 [_, _, _, _] _ dX1_hadOf_63 rfl (by decide) rfl ?_
          refine g_goto 5 dX1_hadOf_66 (by decide) ?_
          exact ih (k + 1) _ _ (by omega) (by omega) (by rw [hx, nI_1]) (by clear ih; rw [hadF_s, ← hv]; split <;> first | rfl | (exfalso; simp_all; done) | (exfalso; simp_all; omega))
        · refine g_aload_n 0 dX1_hadOf_42 rfl rfl ?_
          refine gf_X1_9 dX1_hadOf_43 ?_
          refine g_iload 4 dX1_hadOf_46 rfl ?_
          refine g_iald (n := 60) k dX1_hadOf_48 (by decide) rfl hxn (by omega) ?_
          refine g_iload_n 2 dX1_hadOf_49 rfl rfl ?_
          refine g_icmp_gt 63 _ _ dX1_hadOf_50 (by decide) rfl rfl (fun h50 => ?_) (fun h50 => ?_)
          · refine g_iinc 1 [_, _, _, _] _ dX1_hadOf_63 rfl (by decide) rfl ?_
            refine g_goto 5 dX1_hadOf_66 (by decide) ?_
            exact ih (k + 1) _ _ (by omega) (by omega) (by rw [hx, nI_1]) (by clear ih; rw [hadF_s, ← hv]; split <;> first | rfl | (exfalso; simp_all; done) | (exfalso; simp_all; omega))
          · refine g_iload_n 3 dX1_hadOf_53 rfl rfl ?_
            refine g_aload_n 0 dX1_hadOf_54 rfl rfl ?_
            refine gf_X1_15 dX1_hadOf_55 ?_
            refine g_iload 4 dX1_hadOf_58 rfl ?_
            refine g_iald (n := 60) k dX1_hadOf_60 (by decide) rfl hxn (by omega) ?_
            refine g_iadd dX1_hadOf_61 ?_
            refine g_ist_n [_, _, _] _ dX1_hadOf_62 rfl (by decide) rfl ?_
            refine g_iinc 1 [_, _, _, _] _ dX1_hadOf_63 rfl (by decide) rfl ?_
            refine g_goto 5 dX1_hadOf_66 (by decide) ?_
            exact ih (k + 1) _ _ (by omega) (by omega) (by rw [hx, nI_1]) (by clear ih; rw [hadF_s, ← hv]; split <;> first | rfl | (exfalso; simp_all; done) | (exfalso; simp_all; omega))
set_option maxRecDepth 20000 in
theorem t_X1_hadOf {E : En} {w : W0} {ni : Nat} {a b : Int32} (hc : w 4 7 = nI ni) (hn : ni ≤ 60) : Mt E 0 yX1_hadOf cX1_hadOf 5 (some .int) [.ref (E.1 4), .int a, .int b] w (some (.int (hadF (w 26) (w 27) (w 24) (w 25) a b ni))) w := by
  refine Mt.of (by decide +kernel) (Nat.le_of_ble_eq_true rfl) ?_
  show G E 0 RX1 cX1_hadOf 5 (some .int) _ _ 0 [(0, .ref (E.1 4)), (1, .int a), (2, .int b)] [] w
  refine g_iconst 0 dX1_hadOf_0 rfl ?_
  refine g_istN_n dX1_hadOf_1 rfl (by decide) rfl ?_
  refine g_iconst 0 dX1_hadOf_2 rfl ?_
  refine g_istN dX1_hadOf_3 (by decide) rfl ?_
  refine g_lv [2, 3, 4, 1, 0] rfl ?_
  exact l_hadOf hc hn (ni + 1) 0 _ _ (by omega) (by omega) rfl rfl
set_option maxRecDepth 20000 in
theorem t_X1_turnAfter {E : En} {w : W0} {ni : Nat} {a b : Int32} (hc : w 4 7 = nI ni) (hn : ni ≤ 60) : Mt E 1 yX1_turnAfter cX1_turnAfter 3 (some .int) [.ref (E.1 4), .int a, .int b] w (some (.int (nextF (w 24) a b ni))) w := by
  refine Mt.of (by decide +kernel) (Nat.le_of_ble_eq_true rfl) ?_
  show G E 1 RX1 cX1_turnAfter 3 (some .int) _ _ 0 [(0, .ref (E.1 4)), (1, .int a), (2, .int b)] [] w
  refine g_aload_n 0 dX1_turnAfter_0 rfl rfl ?_
  refine gf_X1_9 dX1_turnAfter_1 ?_
  refine g_aload_n 0 dX1_turnAfter_4 rfl rfl ?_
  refine gf_X1_34 dX1_turnAfter_5 ?_
  rw [hc]
  refine g_iload_n 1 dX1_turnAfter_8 rfl rfl ?_
  refine g_iload_n 2 dX1_turnAfter_9 rfl rfl ?_
  refine ca_X1_66 dX1_turnAfter_10 (t_X6_nextOf (q := 24) (N := 60) (by decide) rfl (by decide) (by omega)) (by decide) (Nat.le_of_ble_eq_true rfl) ?_
  refine g_iret dX1_turnAfter_13 rfl rfl ?_ ?_
  · rfl
  · rfl
set_option maxRecDepth 20000 in
theorem t_X3_has {E : En} {w : W0} {i : Int32} : Mt E 0 yX3_has cX3_has 2 (some .boolean) [.ref (E.1 5), .int i] w (some (.int (bI (hasE w i)))) w := by
  refine Mt.of (by decide +kernel) (Nat.le_of_ble_eq_true rfl) ?_
  show G E 0 RX3 cX3_has 2 (some .boolean) _ _ 0 [(0, .ref (E.1 5)), (1, .int i)] [] w
  refine g_iload_n 1 dX3_has_0 rfl rfl ?_
  refine g_if_lt 22 _ dX3_has_1 (by decide) rfl (fun h1 => ?_) (fun h1 => ?_)
  · refine g_iconst 0 dX3_has_22 rfl ?_
    refine g_iret dX3_has_23 rfl rfl ?_ ?_
    · first | (rw [bI_t]; omega) | (rw [bI_f]; omega)
    · rfl
  · refine g_iload_n 1 dX3_has_4 rfl rfl ?_
    refine g_aload_n 0 dX3_has_5 rfl rfl ?_
    refine gf_X3_24 dX3_has_6 ?_
    refine g_icmp_ge 22 _ _ dX3_has_9 (by decide) rfl rfl (fun h9 => ?_) (fun h9 => ?_)
    · refine g_iconst 0 dX3_has_22 rfl ?_
      refine g_iret dX3_has_23 rfl rfl ?_ ?_
      · first | (rw [bI_t]; omega) | (rw [bI_f]; omega)
      · rfl
    · refine g_iload_n 1 dX3_has_12 rfl rfl ?_
      refine g_bipush 10 dX3_has_13 rfl ?_
      refine g_icmp_ge 22 _ 10 dX3_has_15 (by decide) rfl rfl (fun h15 => ?_) (fun h15 => ?_)
      · refine g_iconst 0 dX3_has_22 rfl ?_
        refine g_iret dX3_has_23 rfl rfl ?_ ?_
        · first | (rw [bI_t]; omega) | (rw [bI_f]; omega)
        · rfl
      · refine g_iconst 1 dX3_has_18 rfl ?_
        refine g_goto 23 dX3_has_19 (by decide) ?_
        refine g_iret dX3_has_23 rfl rfl ?_ ?_
        · first | (rw [bI_t]; omega) | (rw [bI_f]; omega)
        · rfl
set_option maxRecDepth 20000 in
theorem t_X3_add {E : En} {w : W0} {d y r l : Int32} {n : Nat} (hc : w 5 4 = nI n) (hn : n < 10) : Mt E 0 yX3_add cX3_add 5 (none) [.ref (E.1 5), .int d, .int y, .int r, .int l] w none (setW (setW (setW (setW (setW w 31 n d) 32 n y) 33 n r) 34 n l) 5 4 (nI (n + 1))) := by
  refine Mt.of (by decide +kernel) (Nat.le_of_ble_eq_true rfl) ?_
  show G E 0 RX3 cX3_add 5 (none) _ _ 0 [(0, .ref (E.1 5)), (1, .int d), (2, .int y), (3, .int r), (4, .int l)] [] w
  have hi : (w 5 4).toInt = (n : Int) := by rw [hc]; exact nI_toInt (by omega)
  have hx : (w 5 4).toNatClampNeg = n := by rw [hc]; exact nI_clamp (by omega)
  refine g_aload_n 0 dX3_add_0 rfl rfl ?_
  refine gf_X3_24 dX3_add_1 ?_
  refine g_bipush 10 dX3_add_4 rfl ?_
  refine g_icmp_lt 10 _ 10 dX3_add_6 (by decide) rfl rfl (fun h6 => ?_) (fun h6 => False.elim (by omega))
  refine g_aload_n 0 dX3_add_10 rfl rfl ?_
  refine gf_X3_9 dX3_add_11 ?_
  refine g_aload_n 0 dX3_add_14 rfl rfl ?_
  refine gf_X3_24 dX3_add_15 ?_
  refine g_iload_n 1 dX3_add_18 rfl rfl ?_
  refine g_iast (n := 10) n dX3_add_19 (by decide) rfl hx (by omega) ?_
  refine g_aload_n 0 dX3_add_20 rfl rfl ?_
  refine gf_X3_15 dX3_add_21 ?_
  refine g_aload_n 0 dX3_add_24 rfl rfl ?_
  refine gf_X3_24 dX3_add_25 ?_
  simp (disch := omega) only [setW_ne]
  refine g_iload_n 2 dX3_add_28 rfl rfl ?_
  refine g_iast (n := 10) n dX3_add_29 (by decide) rfl hx (by omega) ?_
  refine g_aload_n 0 dX3_add_30 rfl rfl ?_
  refine gf_X3_18 dX3_add_31 ?_
  refine g_aload_n 0 dX3_add_34 rfl rfl ?_
  refine gf_X3_24 dX3_add_35 ?_
  simp (disch := omega) only [setW_ne]
  refine g_iload_n 3 dX3_add_38 rfl rfl ?_
  refine g_iast (n := 10) n dX3_add_39 (by decide) rfl hx (by omega) ?_
  refine g_aload_n 0 dX3_add_40 rfl rfl ?_
  refine gf_X3_21 dX3_add_41 ?_
  refine g_aload_n 0 dX3_add_44 rfl rfl ?_
  refine gf_X3_24 dX3_add_45 ?_
  simp (disch := omega) only [setW_ne]
  refine g_iload 4 dX3_add_48 rfl ?_
  refine g_iast (n := 10) n dX3_add_50 (by decide) rfl hx (by omega) ?_
  refine g_aload_n 0 dX3_add_51 rfl rfl ?_
  refine g_dup dX3_add_52 rfl ?_
  refine gf_X3_24 dX3_add_53 ?_
  simp (disch := omega) only [setW_ne]
  refine g_iconst 1 dX3_add_56 rfl ?_
  refine g_iadd dX3_add_57 ?_
  refine pf_X3_24 dX3_add_58 ?_
  refine g_vret dX3_add_61 rfl rfl ?_
  · rw [hc, nI_1]
def flawF (w : W0) (nl k : Nat) : Int32 := onF w (w 34 k) (w 32 k) (lawF (w 7) (lpF w) nl (w 31 k) 4)
def dueF (w : W0) (k : Nat) (day : Int32) : Int32 := if day.toInt < (w 31 k).toInt then 0 else w 33 k * (if w 32 k < (day - w 31 k) / 360 + 1 then w 32 k else (day - w 31 k) / 360 + 1)
set_option maxRecDepth 20000 in
theorem t_X3_flawsOf {E : En} {w : W0} {ne k : Nat} {x : Int32} (hc : w 5 4 = nI ne) (hn : ne ≤ 10) (hk : k < ne) (hx : x = nI k) {nl : Nat} (hcl : w 1 2 = nI nl) (hnl : nl ≤ 8) : Mt E 3 yX3_flawsOf cX3_flawsOf 5 (some .int) [.ref (E.1 5), .int x, .ref (E.1 1), .ref (E.1 3)] w (some (.int (flawF w nl k))) w := by
  refine Mt.of (by decide +kernel) (Nat.le_of_ble_eq_true rfl) ?_
  show G E 3 RX3 cX3_flawsOf 5 (some .int) _ _ 0 [(0, .ref (E.1 5)), (1, .int x), (2, .ref (E.1 1)), (3, .ref (E.1 3))] [] w
  have hxi : x.toInt = (k : Int) := by rw [hx]; exact nI_toInt (by omega)
  have hxn : x.toNatClampNeg = k := by rw [hx]; exact nI_clamp (by omega)
  have hcI : (w 5 4).toInt = (ne : Int) := by rw [hc]; exact nI_toInt (by omega)
  refine g_aload_n 0 dX3_flawsOf_0 rfl rfl ?_
  refine g_iload_n 1 dX3_flawsOf_1 rfl rfl ?_
  refine ca_X3_28 dX3_flawsOf_2 (t_X3_has) (by decide) (Nat.le_of_ble_eq_true rfl) ?_
  refine g_if_neb 10 dX3_flawsOf_5 (by decide) (fun h5 => ?_) (fun h5 => False.elim (by exact h5 (by omega)))
  refine g_aload_n 2 dX3_flawsOf_10 rfl rfl ?_
  refine g_aload_n 0 dX3_flawsOf_11 rfl rfl ?_
  refine gf_X3_9 dX3_flawsOf_12 ?_
  refine g_iload_n 1 dX3_flawsOf_15 rfl rfl ?_
  refine g_iald (n := 10) k dX3_flawsOf_16 (by decide) rfl hxn (by omega) ?_
  refine g_iconst 4 dX3_flawsOf_17 rfl ?_
  refine ca_X3_32 dX3_flawsOf_18 (t_X2_inForce (p := 4) hcl hnl rfl (by decide)) (by decide) (Nat.le_of_ble_eq_true rfl) ?_
  refine g_istN dX3_flawsOf_21 (by decide) rfl ?_
  refine g_aload_n 4 dX3_flawsOf_23 rfl rfl ?_
  refine g_aload_n 1 dX3_flawsOf_24 rfl rfl ?_
  refine gf_X3_21 dX3_flawsOf_25 ?_
  refine g_iload_n 2 dX3_flawsOf_28 rfl rfl ?_
  refine g_iald (n := 10) k dX3_flawsOf_29 (by decide) rfl hxn (by omega) ?_
  refine g_aload_n 1 dX3_flawsOf_30 rfl rfl ?_
  refine gf_X3_15 dX3_flawsOf_31 ?_
  refine g_iload_n 2 dX3_flawsOf_34 rfl rfl ?_
  refine g_iald (n := 10) k dX3_flawsOf_35 (by decide) rfl hxn (by omega) ?_
  refine g_iload 0 dX3_flawsOf_36 rfl ?_
  refine ca_X3_38 dX3_flawsOf_38 (t_X4_barsOn) (by decide) (Nat.le_of_ble_eq_true rfl) ?_
  refine g_iret dX3_flawsOf_41 rfl rfl ?_ ?_
  · rfl
  · rfl
set_option maxRecDepth 20000 in
theorem t_X3_dueBy {E : En} {w : W0} {ne k : Nat} {x : Int32} (hc : w 5 4 = nI ne) (hn : ne ≤ 10) (hk : k < ne) (hx : x = nI k) {day : Int32} : Mt E 1 yX3_dueBy cX3_dueBy 4 (some .int) [.ref (E.1 5), .int x, .int day] w (some (.int (dueF w k day))) w := by
  refine Mt.of (by decide +kernel) (Nat.le_of_ble_eq_true rfl) ?_
  show G E 1 RX3 cX3_dueBy 4 (some .int) _ _ 0 [(0, .ref (E.1 5)), (1, .int x), (2, .int day)] [] w
  have hxi : x.toInt = (k : Int) := by rw [hx]; exact nI_toInt (by omega)
  have hxn : x.toNatClampNeg = k := by rw [hx]; exact nI_clamp (by omega)
  have hcI : (w 5 4).toInt = (ne : Int) := by rw [hc]; exact nI_toInt (by omega)
  refine g_aload_n 0 dX3_dueBy_0 rfl rfl ?_
  refine g_iload_n 1 dX3_dueBy_1 rfl rfl ?_
  refine ca_X3_28 dX3_dueBy_2 (t_X3_has) (by decide) (Nat.le_of_ble_eq_true rfl) ?_
  refine g_if_eqb 18 dX3_dueBy_5 (by decide) (fun h5 => False.elim (by exact h5 (by omega))) (fun h5 => ?_)
  refine g_iload_n 2 dX3_dueBy_8 rfl rfl ?_
  refine g_aload_n 0 dX3_dueBy_9 rfl rfl ?_
  refine gf_X3_9 dX3_dueBy_10 ?_
  refine g_iload_n 1 dX3_dueBy_13 rfl rfl ?_
  refine g_iald (n := 10) k dX3_dueBy_14 (by decide) rfl hxn (by omega) ?_
  refine g_icmp_ge 20 _ _ dX3_dueBy_15 (by decide) rfl rfl (fun h15 => ?_) (fun h15 => ?_)
  · refine g_iload_n 2 dX3_dueBy_20 rfl rfl ?_
    refine g_aload_n 0 dX3_dueBy_21 rfl rfl ?_
    refine gf_X3_9 dX3_dueBy_22 ?_
    refine g_iload_n 1 dX3_dueBy_25 rfl rfl ?_
    refine g_iald (n := 10) k dX3_dueBy_26 (by decide) rfl hxn (by omega) ?_
    refine g_isub dX3_dueBy_27 ?_
    refine g_sipush 360 dX3_dueBy_28 rfl ?_
    refine g_idiv dX3_dueBy_31 (by decide) ?_
    refine g_iconst 1 dX3_dueBy_32 rfl ?_
    refine g_iadd dX3_dueBy_33 ?_
    refine g_istN_n dX3_dueBy_34 rfl (by decide) rfl ?_
    refine g_aload_n 1 dX3_dueBy_35 rfl rfl ?_
    refine gf_X3_18 dX3_dueBy_36 ?_
    refine g_iload_n 2 dX3_dueBy_39 rfl rfl ?_
    refine g_iald (n := 10) k dX3_dueBy_40 (by decide) rfl hxn (by omega) ?_
    refine g_iload_n 0 dX3_dueBy_41 rfl rfl ?_
    refine g_aload_n 1 dX3_dueBy_42 rfl rfl ?_
    refine gf_X3_15 dX3_dueBy_43 ?_
    refine g_iload_n 2 dX3_dueBy_46 rfl rfl ?_
    refine g_iald (n := 10) k dX3_dueBy_47 (by decide) rfl hxn (by omega) ?_
    refine g_mmin dX3_dueBy_48 (by decide) (Nat.le_of_ble_eq_true rfl) ?_
    refine g_imul dX3_dueBy_51 ?_
    refine g_iret dX3_dueBy_52 rfl rfl ?_ ?_
    · unfold dueF; first | (rw [if_pos h15]; done) | (rw [if_neg (by omega)]; done)
    · rfl
  · refine g_iconst 0 dX3_dueBy_18 rfl ?_
    refine g_iret dX3_dueBy_19 rfl rfl ?_ ?_
    · unfold dueF; first | (rw [if_pos h15]; done) | (rw [if_neg (by omega)]; done)
    · rfl
end
section
/-! Books -/
def turnF (w : W0) (nl nw ni : Nat) (day fin : Int32) : Int32 := nextF (w 24) day (nextF (w 20) day (nextF (w 7) day fin nl) nw) ni
def cntF (f : Nat → Int32) (lp : Nat → Nat → Int32) (nl : Nat) (held day : Int32) : Int64 := if 0 < (held - lawF f lp nl day 1).toInt then (held - lawF f lp nl day 1).toInt64 * (lawF f lp nl day 2).toInt64 else 0
theorem lpF_row {w : W0} {p i j : Nat} {v : Int32} : lpF (setW w (36 + j) i v) = lpF w := lpF_setW (by omega)
theorem lpF_row2 {w : W0} {p i j : Nat} {v : Int32} : lpF (setW w (47 + j) i v) = lpF w := lpF_setW (by omega)
abbrev YS : Type := (Nat → Int32) × Int32 × Int32 × Int64 × Int32
abbrev movF (w : W0) (ni : Nat) (day : Int32) : Int32 := sumF (w 26) (w 30) (w 24) (w 25) 1 day day ni - sumF (w 26) (w 30) (w 24) (w 25) 0 day day ni
abbrev gvF (w : W0) (nw : Nat) (sr : Nat → Int32) (day held : Int32) : (Nat → Int32) × Int32 × Int32 := gsF (w 20) day held sr (headsF (w 17) (w 18) (w 20) day nw) nw
/-- one turn of a year: shares, pot, given, counted, day -/
def turnS (w : W0) (nl nw ni : Nat) (fin : Int32) (s : YS) : YS :=
  ((gvF w nw s.1 s.2.2.2.2 (s.2.1 + movF w ni s.2.2.2.2)).1,
   s.2.1 + movF w ni s.2.2.2.2 - (gvF w nw s.1 s.2.2.2.2 (s.2.1 + movF w ni s.2.2.2.2)).2.1,
   s.2.2.1 + (gvF w nw s.1 s.2.2.2.2 (s.2.1 + movF w ni s.2.2.2.2)).2.1,
   s.2.2.2.1 + cntF (w 7) (lpF w) nl (s.2.1 + movF w ni s.2.2.2.2 - (gvF w nw s.1 s.2.2.2.2 (s.2.1 + movF w ni s.2.2.2.2)).2.1) s.2.2.2.2 * (turnF w nl nw ni s.2.2.2.2 fin - s.2.2.2.2).toInt64,
   turnF w nl nw ni s.2.2.2.2 fin)
def yrF (w : W0) (nl nw ni : Nat) (fin : Int32) : Nat → YS → YS
  | 0, s => s
  | m + 1, s => if s.2.2.2.2.toInt < fin.toInt then yrF w nl nw ni fin m (turnS w nl nw ni fin s) else s
theorem yrF_0 {w : W0} {nl nw ni : Nat} {fin : Int32} {s : YS} {t : Nat} (h : 360 ≤ t) : yrF w nl nw ni fin (360 - t) s = s := by
  rw [show 360 - t = 0 by omega]
  rfl
theorem yrF_x {w : W0} {nl nw ni : Nat} {fin : Int32} {s : YS} {m : Nat} (h : fin.toInt ≤ s.2.2.2.2.toInt) : yrF w nl nw ni fin m s = s := by
  cases m with
  | zero => rfl
  | succ m => exact if_neg (by omega)
theorem yrF_s {w : W0} {nl nw ni : Nat} {fin : Int32} {s : YS} {t : Nat} (ht : t < 360) (h : s.2.2.2.2.toInt < fin.toInt) : yrF w nl nw ni fin (360 - t) s = yrF w nl nw ni fin (360 - (t + 1)) (turnS w nl nw ni fin s) := by
  rw [show 360 - t = (360 - (t + 1)) + 1 by omega]
  exact if_pos h
/-- the year from its day 'first' on, with the pot 'begins' -/
abbrev finS (w : W0) (nl nw ni : Nat) (first begins : Int32) : YS := yrF w nl nw ni (first + 360) 360 (w 21, begins, 0, 0, first)
abbrev intF (s : YS) : Int32 := (s.2.2.2.1 / 36000).toInt32
def yearW (w : W0) (nl nw ni y : Nat) (first begins : Int32) : W0 := setA (setW (setW (setW (setW (setW (setW w (36 + y) 0 begins) (36 + y) 1 (sumF (w 26) (w 30) (w 24) (w 25) 1 first (first + 360 - 1) ni)) (36 + y) 2 (sumF (w 26) (w 30) (w 24) (w 25) 0 first (first + 360 - 1) ni)) (36 + y) 3 (finS w nl nw ni first begins).2.2.1) (36 + y) 4 (intF (finS w nl nw ni first begins))) (36 + y) 5 ((finS w nl nw ni first begins).2.1 + intF (finS w nl nw ni first begins))) 21 (finS w nl nw ni first begins).1
theorem yearW_ne {w : W0} {nl nw ni y q : Nat} {first begins : Int32} (h1 : q ≠ 21) (h2 : q ≠ 36 + y) : yearW w nl nw ni y first begins q = w q := by
  unfold yearW
  rw [setA_ne h1, setW_ne h2, setW_ne h2, setW_ne h2, setW_ne h2, setW_ne h2, setW_ne h2]
set_option maxRecDepth 20000 in
theorem t_X0_turnAfter {E : En} {w : W0} {nl nw ni : Nat} {day fin : Int32} (hcl : w 1 2 = nI nl) (hnl : nl ≤ 8) (hcw : w 2 5 = nI nw) (hnw : nw ≤ 6) (hci : w 4 7 = nI ni) (hni : ni ≤ 60) : Mt E 2 yX0_turnAfter cX0_turnAfter 6 (some .int) [.int day, .int fin, .ref (E.1 1), .ref (E.1 2), .ref (E.1 4)] w (some (.int (turnF w nl nw ni day fin))) w := by
  refine Mt.of (by decide +kernel) (Nat.le_of_ble_eq_true rfl) ?_
  show G E 2 RX0 cX0_turnAfter 6 (some .int) _ _ 0 [(0, .int day), (1, .int fin), (2, .ref (E.1 1)), (3, .ref (E.1 2)), (4, .ref (E.1 4))] [] w
  refine g_aload_n 2 dX0_turnAfter_0 rfl rfl ?_
  refine g_iload_n 0 dX0_turnAfter_1 rfl rfl ?_
  refine g_iload_n 1 dX0_turnAfter_2 rfl rfl ?_
  refine ca_X0_50 dX0_turnAfter_3 (t_X2_turnAfter hcl hnl) (by decide) (Nat.le_of_ble_eq_true rfl) ?_
  refine g_istN dX0_turnAfter_6 (by decide) rfl ?_
  refine g_aload_n 4 dX0_turnAfter_8 rfl rfl ?_
  refine g_iload_n 1 dX0_turnAfter_9 rfl rfl ?_
  refine g_iload 0 dX0_turnAfter_10 rfl ?_
  refine ca_X0_54 dX0_turnAfter_12 (t_X5_turnAfter hcw hnw) (by decide) (Nat.le_of_ble_eq_true rfl) ?_
  refine g_ist [] _ dX0_turnAfter_15 (by decide) rfl ?_
  refine g_aload 5 dX0_turnAfter_17 rfl ?_
  refine g_iload_n 1 dX0_turnAfter_19 rfl rfl ?_
  refine g_iload 0 dX0_turnAfter_20 rfl ?_
  refine ca_X0_55 dX0_turnAfter_22 (t_X1_turnAfter hci hni) (by decide) (Nat.le_of_ble_eq_true rfl) ?_
  refine g_iret dX0_turnAfter_25 rfl rfl ?_ ?_
  · rfl
  · rfl
set_option maxRecDepth 20000 in
theorem t_X0_countedADay {E : En} {w : W0} {nl : Nat} {held day : Int32} (hcl : w 1 2 = nI nl) (hnl : nl ≤ 8) : Mt E 2 yX0_countedADay cX0_countedADay 4 (some .long) [.int held, .int day, .ref (E.1 1)] w (some (.long (cntF (w 7) (lpF w) nl held day))) w := by
  refine Mt.of (by decide +kernel) (Nat.le_of_ble_eq_true rfl) ?_
  show G E 2 RX0 cX0_countedADay 4 (some .long) _ _ 0 [(0, .int held), (1, .int day), (2, .ref (E.1 1))] [] w
  refine g_iload_n 0 dX0_countedADay_0 rfl rfl ?_
  refine g_aload_n 2 dX0_countedADay_1 rfl rfl ?_
  refine g_iload_n 1 dX0_countedADay_2 rfl rfl ?_
  refine g_iconst 1 dX0_countedADay_3 rfl ?_
  refine ca_X0_56 dX0_countedADay_4 (t_X2_inForce (p := 1) hcl hnl rfl (by decide)) (by decide) (Nat.le_of_ble_eq_true rfl) ?_
  refine g_isub dX0_countedADay_7 ?_
  refine g_istN_n dX0_countedADay_8 rfl (by decide) rfl ?_
  refine g_iload_n 0 dX0_countedADay_9 rfl rfl ?_
  refine g_if_le 26 _ dX0_countedADay_10 (by decide) rfl (fun h10 => ?_) (fun h10 => ?_)
  · refine g_lconst 0 dX0_countedADay_26 rfl ?_
    refine g_lret dX0_countedADay_27 rfl ?_ ?_
    · unfold cntF; first | (rw [if_pos h10]; done) | (rw [if_neg (by omega)]; done)
    · rfl
  · refine g_iload_n 0 dX0_countedADay_13 rfl rfl ?_
    refine g_i2l dX0_countedADay_14 ?_
    refine g_aload_n 3 dX0_countedADay_15 rfl rfl ?_
    refine g_iload_n 2 dX0_countedADay_16 rfl rfl ?_
    refine g_iconst 2 dX0_countedADay_17 rfl ?_
    refine ca_X0_56 dX0_countedADay_18 (t_X2_inForce (p := 2) hcl hnl rfl (by decide)) (by decide) (Nat.le_of_ble_eq_true rfl) ?_
    refine g_i2l dX0_countedADay_21 ?_
    refine g_lmul dX0_countedADay_22 ?_
    refine g_goto 27 dX0_countedADay_23 (by decide) ?_
    refine g_lret dX0_countedADay_27 rfl ?_ ?_
    · unfold cntF; first | (rw [if_pos h10]; done) | (rw [if_neg (by omega)]; done)
    · rfl
theorem turnF_setA {w : W0} {nl nw ni : Nat} {f : Nat → Int32} : turnF (setA w 21 f) nl nw ni = turnF w nl nw ni := rfl
set_option maxRecDepth 20000 in
theorem l_reckonYear {E : En} {w : W0} {nl nw ni y : Nat} {year begins : Int32} (hcl : w 1 2 = nI nl) (hnl : nl ≤ 8) (hcw : w 2 5 = nI nw) (hnw : nw ≤ 6) (hci : w 4 7 = nI ni) (hni : ni ≤ 60) (hy : y < 10) (hyr : year = nI y) : ∀ (n : Nat) (k : Nat) (sr : Nat → Int32) (held shs dy x : Int32) (ct : Int64), 360 + 1 ≤ k + n → k ≤ 360 → x = nI k → yrF w nl nw ni (year * 360 + 360) (360 - k) (sr, held, shs, ct, dy) = (finS w nl nw ni (year * 360) begins) → G E 4 RX0 cX0_reckonYear 16 (some .int) (some (.int ((finS w nl nw ni (year * 360) begins).2.1 + intF (finS w nl nw ni (year * 360) begins)))) (yearW w nl nw ni y (year * 360) begins) 31 [(0, .ref (E.1 6)), (1, .int year), (2, .int begins), (3, .ref (E.1 1)), (4, .ref (E.1 2)), (5, .ref (E.1 4)), (6, .int (year * 360)), (7, .int (year * 360 + 360)), (8, .int held), (9, .int shs), (10, .long ct), (12, .int dy), (13, .int x)] [] (setA w 21 sr) := by
  intro n
  induction n with
  | zero =>
    intro k sr held shs dy x ct hfu hk hx hv
    exact absurd hfu (by omega)
  | succ n ih =>
    intro k sr held shs dy x ct hfu hk hx hv
    have hxi : x.toInt = (k : Int) := by rw [hx]; exact nI_toInt (by omega)
    have hxn : x.toNatClampNeg = k := by rw [hx]; exact nI_clamp (by omega)
    have hyi : year.toInt = (y : Int) := by rw [hyr]; exact nI_toInt (by omega)
    have hyn : year.toNatClampNeg = y := by rw [hyr]; exact nI_clamp (by omega)
    refine g_iload 12 dX0_reckonYear_31 rfl ?_
    refine g_sipush 360 dX0_reckonYear_33 rfl ?_
    refine g_icmp_ge 139 (k : Int) 360 dX0_reckonYear_36 (by decide) hxi rfl (fun h36 => ?_) (fun h36 => ?_)
    · first | rw [yrF_0 (by omega)] at hv | rw [yrF_x (by omega)] at hv
      refine g_lload 10 dX0_reckonYear_139 rfl ?_
      refine g_ldc2 36000 dX0_reckonYear_141 lk_X0_44 ?_
      refine g_ldiv dX0_reckonYear_144 (by decide) ?_
      refine g_l2i dX0_reckonYear_145 ?_
      refine g_ist [_, _, _, _, _, _, _, _, _, _, _, _] _ dX0_reckonYear_146 (by decide) rfl ?_
      refine g_iload 8 dX0_reckonYear_148 rfl ?_
      refine g_iload 12 dX0_reckonYear_150 rfl ?_
      refine g_iadd dX0_reckonYear_152 ?_
      refine g_ist [_, _, _, _, _, _, _, _] _ dX0_reckonYear_153 (by decide) rfl ?_
      refine g_iload_n 1 dX0_reckonYear_155 rfl rfl ?_
      refine ca_X0_46 dX0_reckonYear_156 (t_X6_isYear) (by decide) (Nat.le_of_ble_eq_true rfl) ?_
      (try simp (disch := omega) only [setW_ne, setW_p, setA_ne, setA_p, upd_self, lpF_setA, lpF_setW, lpF_row, lpF_row2, limC_setA, limC_setW])
      refine g_if_eqb 239 dX0_reckonYear_159 (by decide) (fun h159 => False.elim (by exact h159 (by omega))) (fun h159 => ?_)
      refine g_aload_n 0 dX0_reckonYear_162 rfl rfl ?_
      refine gf_X0_11 dX0_reckonYear_163 ?_
      refine g_iload_n 1 dX0_reckonYear_166 rfl rfl ?_
      refine g_aald (n := 10) (b := 36) y dX0_reckonYear_167 (by decide) rfl rf_35 hyn (by omega) (fun hj167 => ?_)
      refine g_iconst 0 dX0_reckonYear_168 rfl ?_
      refine g_iload_n 2 dX0_reckonYear_169 rfl rfl ?_
      refine g_iast (n := 6) 0 dX0_reckonYear_170 (by show _ < 80; omega) (sh_36 hj167) rfl (by decide) ?_
      (try simp (disch := omega) only [setW_setA, setW_setA_ne])
      refine g_aload_n 0 dX0_reckonYear_171 rfl rfl ?_
      refine gf_X0_11 dX0_reckonYear_172 ?_
      refine g_iload_n 1 dX0_reckonYear_175 rfl rfl ?_
      refine g_aald (n := 10) (b := 36) y dX0_reckonYear_176 (by decide) rfl rf_35 hyn (by omega) (fun hj176 => ?_)
      refine g_iconst 1 dX0_reckonYear_177 rfl ?_
      refine g_aload 5 dX0_reckonYear_178 rfl ?_
      refine g_iload 6 dX0_reckonYear_180 rfl ?_
      refine g_iload 7 dX0_reckonYear_182 rfl ?_
      refine g_iconst 1 dX0_reckonYear_184 rfl ?_
      refine g_isub dX0_reckonYear_185 ?_
      refine ca_X0_23 dX0_reckonYear_186 (t_X1_receivedBetween (ni := ni) (by (try simp (disch := omega) only [setW_ne, setA_ne]); exact hci) hni) (by decide) (Nat.le_of_ble_eq_true rfl) ?_
      (try simp (disch := omega) only [setW_ne, setW_p, setA_ne, setA_p, upd_self, lpF_setA, lpF_setW, lpF_row, lpF_row2, limC_setA, limC_setW])
      refine g_iast (n := 6) 1 dX0_reckonYear_189 (by show _ < 80; omega) (sh_36 hj176) rfl (by decide) ?_
      (try simp (disch := omega) only [setW_setA, setW_setA_ne])
      refine g_aload_n 0 dX0_reckonYear_190 rfl rfl ?_
      refine gf_X0_11 dX0_reckonYear_191 ?_
      refine g_iload_n 1 dX0_reckonYear_194 rfl rfl ?_
      refine g_aald (n := 10) (b := 36) y dX0_reckonYear_195 (by decide) rfl rf_35 hyn (by omega) (fun hj195 => ?_)
      refine g_iconst 2 dX0_reckonYear_196 rfl ?_
      refine g_aload 5 dX0_reckonYear_197 rfl ?_
      refine g_iload 6 dX0_reckonYear_199 rfl ?_
      refine g_iload 7 dX0_reckonYear_201 rfl ?_
      refine g_iconst 1 dX0_reckonYear_203 rfl ?_
      refine g_isub dX0_reckonYear_204 ?_
      refine ca_X0_29 dX0_reckonYear_205 (t_X1_paidBetween (ni := ni) (by (try simp (disch := omega) only [setW_ne, setA_ne]); exact hci) hni) (by decide) (Nat.le_of_ble_eq_true rfl) ?_
      (try simp (disch := omega) only [setW_ne, setW_p, setA_ne, setA_p, upd_self, lpF_setA, lpF_setW, lpF_row, lpF_row2, limC_setA, limC_setW])
      refine g_iast (n := 6) 2 dX0_reckonYear_208 (by show _ < 80; omega) (sh_36 hj195) rfl (by decide) ?_
      (try simp (disch := omega) only [setW_setA, setW_setA_ne])
      refine g_aload_n 0 dX0_reckonYear_209 rfl rfl ?_
      refine gf_X0_11 dX0_reckonYear_210 ?_
      refine g_iload_n 1 dX0_reckonYear_213 rfl rfl ?_
      refine g_aald (n := 10) (b := 36) y dX0_reckonYear_214 (by decide) rfl rf_35 hyn (by omega) (fun hj214 => ?_)
      refine g_iconst 3 dX0_reckonYear_215 rfl ?_
      refine g_iload 9 dX0_reckonYear_216 rfl ?_
      refine g_iast (n := 6) 3 dX0_reckonYear_218 (by show _ < 80; omega) (sh_36 hj214) rfl (by decide) ?_
      (try simp (disch := omega) only [setW_setA, setW_setA_ne])
      refine g_aload_n 0 dX0_reckonYear_219 rfl rfl ?_
      refine gf_X0_11 dX0_reckonYear_220 ?_
      refine g_iload_n 1 dX0_reckonYear_223 rfl rfl ?_
      refine g_aald (n := 10) (b := 36) y dX0_reckonYear_224 (by decide) rfl rf_35 hyn (by omega) (fun hj224 => ?_)
      refine g_iconst 4 dX0_reckonYear_225 rfl ?_
      refine g_iload 12 dX0_reckonYear_226 rfl ?_
      refine g_iast (n := 6) 4 dX0_reckonYear_228 (by show _ < 80; omega) (sh_36 hj224) rfl (by decide) ?_
      (try simp (disch := omega) only [setW_setA, setW_setA_ne])
      refine g_aload_n 0 dX0_reckonYear_229 rfl rfl ?_
      refine gf_X0_11 dX0_reckonYear_230 ?_
      refine g_iload_n 1 dX0_reckonYear_233 rfl rfl ?_
      refine g_aald (n := 10) (b := 36) y dX0_reckonYear_234 (by decide) rfl rf_35 hyn (by omega) (fun hj234 => ?_)
      refine g_iconst 5 dX0_reckonYear_235 rfl ?_
      refine g_iload 8 dX0_reckonYear_236 rfl ?_
      refine g_iast (n := 6) 5 dX0_reckonYear_238 (by show _ < 80; omega) (sh_36 hj234) rfl (by decide) ?_
      (try simp (disch := omega) only [setW_setA, setW_setA_ne])
      refine g_iload 8 dX0_reckonYear_239 rfl ?_
      refine g_iret dX0_reckonYear_241 rfl rfl ?_ ?_
      · rw [← hv]
      · unfold yearW; rw [← hv]
    · refine g_iload 11 dX0_reckonYear_39 rfl ?_
      refine g_iload 7 dX0_reckonYear_41 rfl ?_
      refine g_icmp_ge 139 _ _ dX0_reckonYear_43 (by decide) rfl rfl (fun h43 => ?_) (fun h43 => ?_)
      · first | rw [yrF_0 (by omega)] at hv | rw [yrF_x (by omega)] at hv
        refine g_lload 10 dX0_reckonYear_139 rfl ?_
        refine g_ldc2 36000 dX0_reckonYear_141 lk_X0_44 ?_
        refine g_ldiv dX0_reckonYear_144 (by decide) ?_
        refine g_l2i dX0_reckonYear_145 ?_
        refine g_ist [_, _, _, _, _, _, _, _, _, _, _, _] _ dX0_reckonYear_146 (by decide) rfl ?_
        refine g_iload 8 dX0_reckonYear_148 rfl ?_
        refine g_iload 12 dX0_reckonYear_150 rfl ?_
        refine g_iadd dX0_reckonYear_152 ?_
        refine g_ist [_, _, _, _, _, _, _, _] _ dX0_reckonYear_153 (by decide) rfl ?_
        refine g_iload_n 1 dX0_reckonYear_155 rfl rfl ?_
        refine ca_X0_46 dX0_reckonYear_156 (t_X6_isYear) (by decide) (Nat.le_of_ble_eq_true rfl) ?_
        (try simp (disch := omega) only [setW_ne, setW_p, setA_ne, setA_p, upd_self, lpF_setA, lpF_setW, lpF_row, lpF_row2, limC_setA, limC_setW])
        refine g_if_eqb 239 dX0_reckonYear_159 (by decide) (fun h159 => False.elim (by exact h159 (by omega))) (fun h159 => ?_)
        refine g_aload_n 0 dX0_reckonYear_162 rfl rfl ?_
        refine gf_X0_11 dX0_reckonYear_163 ?_
        refine g_iload_n 1 dX0_reckonYear_166 rfl rfl ?_
        refine g_aald (n := 10) (b := 36) y dX0_reckonYear_167 (by decide) rfl rf_35 hyn (by omega) (fun hj167 => ?_)
        refine g_iconst 0 dX0_reckonYear_168 rfl ?_
        refine g_iload_n 2 dX0_reckonYear_169 rfl rfl ?_
        refine g_iast (n := 6) 0 dX0_reckonYear_170 (by show _ < 80; omega) (sh_36 hj167) rfl (by decide) ?_
        (try simp (disch := omega) only [setW_setA, setW_setA_ne])
        refine g_aload_n 0 dX0_reckonYear_171 rfl rfl ?_
        refine gf_X0_11 dX0_reckonYear_172 ?_
        refine g_iload_n 1 dX0_reckonYear_175 rfl rfl ?_
        refine g_aald (n := 10) (b := 36) y dX0_reckonYear_176 (by decide) rfl rf_35 hyn (by omega) (fun hj176 => ?_)
        refine g_iconst 1 dX0_reckonYear_177 rfl ?_
        refine g_aload 5 dX0_reckonYear_178 rfl ?_
        refine g_iload 6 dX0_reckonYear_180 rfl ?_
        refine g_iload 7 dX0_reckonYear_182 rfl ?_
        refine g_iconst 1 dX0_reckonYear_184 rfl ?_
        refine g_isub dX0_reckonYear_185 ?_
        refine ca_X0_23 dX0_reckonYear_186 (t_X1_receivedBetween (ni := ni) (by (try simp (disch := omega) only [setW_ne, setA_ne]); exact hci) hni) (by decide) (Nat.le_of_ble_eq_true rfl) ?_
        (try simp (disch := omega) only [setW_ne, setW_p, setA_ne, setA_p, upd_self, lpF_setA, lpF_setW, lpF_row, lpF_row2, limC_setA, limC_setW])
        refine g_iast (n := 6) 1 dX0_reckonYear_189 (by show _ < 80; omega) (sh_36 hj176) rfl (by decide) ?_
        (try simp (disch := omega) only [setW_setA, setW_setA_ne])
        refine g_aload_n 0 dX0_reckonYear_190 rfl rfl ?_
        refine gf_X0_11 dX0_reckonYear_191 ?_
        refine g_iload_n 1 dX0_reckonYear_194 rfl rfl ?_
        refine g_aald (n := 10) (b := 36) y dX0_reckonYear_195 (by decide) rfl rf_35 hyn (by omega) (fun hj195 => ?_)
        refine g_iconst 2 dX0_reckonYear_196 rfl ?_
        refine g_aload 5 dX0_reckonYear_197 rfl ?_
        refine g_iload 6 dX0_reckonYear_199 rfl ?_
        refine g_iload 7 dX0_reckonYear_201 rfl ?_
        refine g_iconst 1 dX0_reckonYear_203 rfl ?_
        refine g_isub dX0_reckonYear_204 ?_
        refine ca_X0_29 dX0_reckonYear_205 (t_X1_paidBetween (ni := ni) (by (try simp (disch := omega) only [setW_ne, setA_ne]); exact hci) hni) (by decide) (Nat.le_of_ble_eq_true rfl) ?_
        (try simp (disch := omega) only [setW_ne, setW_p, setA_ne, setA_p, upd_self, lpF_setA, lpF_setW, lpF_row, lpF_row2, limC_setA, limC_setW])
        refine g_iast (n := 6) 2 dX0_reckonYear_208 (by show _ < 80; omega) (sh_36 hj195) rfl (by decide) ?_
        (try simp (disch := omega) only [setW_setA, setW_setA_ne])
        refine g_aload_n 0 dX0_reckonYear_209 rfl rfl ?_
        refine gf_X0_11 dX0_reckonYear_210 ?_
        refine g_iload_n 1 dX0_reckonYear_213 rfl rfl ?_
        refine g_aald (n := 10) (b := 36) y dX0_reckonYear_214 (by decide) rfl rf_35 hyn (by omega) (fun hj214 => ?_)
        refine g_iconst 3 dX0_reckonYear_215 rfl ?_
        refine g_iload 9 dX0_reckonYear_216 rfl ?_
        refine g_iast (n := 6) 3 dX0_reckonYear_218 (by show _ < 80; omega) (sh_36 hj214) rfl (by decide) ?_
        (try simp (disch := omega) only [setW_setA, setW_setA_ne])
        refine g_aload_n 0 dX0_reckonYear_219 rfl rfl ?_
        refine gf_X0_11 dX0_reckonYear_220 ?_
        refine g_iload_n 1 dX0_reckonYear_223 rfl rfl ?_
        refine g_aald (n := 10) (b := 36) y dX0_reckonYear_224 (by decide) rfl rf_35 hyn (by omega) (fun hj224 => ?_)
        refine g_iconst 4 dX0_reckonYear_225 rfl ?_
        refine g_iload 12 dX0_reckonYear_226 rfl ?_
        refine g_iast (n := 6) 4 dX0_reckonYear_228 (by show _ < 80; omega) (sh_36 hj224) rfl (by decide) ?_
        (try simp (disch := omega) only [setW_setA, setW_setA_ne])
        refine g_aload_n 0 dX0_reckonYear_229 rfl rfl ?_
        refine gf_X0_11 dX0_reckonYear_230 ?_
        refine g_iload_n 1 dX0_reckonYear_233 rfl rfl ?_
        refine g_aald (n := 10) (b := 36) y dX0_reckonYear_234 (by decide) rfl rf_35 hyn (by omega) (fun hj234 => ?_)
        refine g_iconst 5 dX0_reckonYear_235 rfl ?_
        refine g_iload 8 dX0_reckonYear_236 rfl ?_
        refine g_iast (n := 6) 5 dX0_reckonYear_238 (by show _ < 80; omega) (sh_36 hj234) rfl (by decide) ?_
        (try simp (disch := omega) only [setW_setA, setW_setA_ne])
        refine g_iload 8 dX0_reckonYear_239 rfl ?_
        refine g_iret dX0_reckonYear_241 rfl rfl ?_ ?_
        · rw [← hv]
        · unfold yearW; rw [← hv]
      · refine g_iload 8 dX0_reckonYear_46 rfl ?_
        refine g_aload 5 dX0_reckonYear_48 rfl ?_
        refine g_iload 11 dX0_reckonYear_50 rfl ?_
        refine g_iload 11 dX0_reckonYear_52 rfl ?_
        refine ca_X0_23 dX0_reckonYear_54 (t_X1_receivedBetween (ni := ni) (by (try simp (disch := omega) only [setW_ne, setA_ne]); exact hci) hni) (by decide) (Nat.le_of_ble_eq_true rfl) ?_
        (try simp (disch := omega) only [setW_ne, setW_p, setA_ne, setA_p, upd_self, lpF_setA, lpF_setW, lpF_row, lpF_row2, limC_setA, limC_setW])
        refine g_aload 5 dX0_reckonYear_57 rfl ?_
        refine g_iload 11 dX0_reckonYear_59 rfl ?_
        refine g_iload 11 dX0_reckonYear_61 rfl ?_
        refine ca_X0_29 dX0_reckonYear_63 (t_X1_paidBetween (ni := ni) (by (try simp (disch := omega) only [setW_ne, setA_ne]); exact hci) hni) (by decide) (Nat.le_of_ble_eq_true rfl) ?_
        (try simp (disch := omega) only [setW_ne, setW_p, setA_ne, setA_p, upd_self, lpF_setA, lpF_setW, lpF_row, lpF_row2, limC_setA, limC_setW])
        refine g_isub dX0_reckonYear_66 ?_
        refine g_iadd dX0_reckonYear_67 ?_
        refine g_ist [_, _, _, _, _, _, _, _] _ dX0_reckonYear_68 (by decide) rfl ?_
        refine g_aload 4 dX0_reckonYear_70 rfl ?_
        refine g_iload 11 dX0_reckonYear_72 rfl ?_
        refine g_iload 8 dX0_reckonYear_74 rfl ?_
        refine ca_X0_32 dX0_reckonYear_76 (t_X5_giveShares (nw := nw) (by (try simp (disch := omega) only [setW_ne, setA_ne]); exact hcw) hnw) (by decide) (Nat.le_of_ble_eq_true rfl) ?_
        (try simp (disch := omega) only [setW_ne, setW_p, setA_ne, setA_p, upd_self, lpF_setA, lpF_setW, lpF_row, lpF_row2, limC_setA, limC_setW])
        refine g_istN dX0_reckonYear_79 (by decide) rfl ?_
        refine g_iload 9 dX0_reckonYear_81 rfl ?_
        refine g_iload 0 dX0_reckonYear_83 rfl ?_
        refine g_isub dX0_reckonYear_85 ?_
        refine g_ist [_, _, _, _, _, _, _, _, _] _ dX0_reckonYear_86 (by decide) rfl ?_
        refine g_iload 10 dX0_reckonYear_88 rfl ?_
        refine g_iload 0 dX0_reckonYear_90 rfl ?_
        refine g_iadd dX0_reckonYear_92 ?_
        refine g_ist [_, _, _, _, _, _, _, _, _, _] _ dX0_reckonYear_93 (by decide) rfl ?_
        refine g_iload 12 dX0_reckonYear_95 rfl ?_
        refine g_iload 8 dX0_reckonYear_97 rfl ?_
        refine g_aload_n 4 dX0_reckonYear_99 rfl rfl ?_
        refine g_aload 5 dX0_reckonYear_100 rfl ?_
        refine g_aload 6 dX0_reckonYear_102 rfl ?_
        refine ca_X0_37 dX0_reckonYear_104 (t_X0_turnAfter (nl := nl) (nw := nw) (ni := ni) (by (try simp (disch := omega) only [setW_ne, setA_ne]); exact hcl) hnl (by (try simp (disch := omega) only [setW_ne, setA_ne]); exact hcw) hnw (by (try simp (disch := omega) only [setW_ne, setA_ne]); exact hci) hni) (by decide) (Nat.le_of_ble_eq_true rfl) ?_
        (try simp (disch := omega) only [setW_ne, setW_p, setA_ne, setA_p, upd_self, lpF_setA, lpF_setW, lpF_row, lpF_row2, limC_setA, limC_setW])
        refine g_istN dX0_reckonYear_107 (by decide) rfl ?_
        refine g_lload 12 dX0_reckonYear_109 rfl ?_
        refine g_iload 10 dX0_reckonYear_111 rfl ?_
        refine g_iload 13 dX0_reckonYear_113 rfl ?_
        refine g_aload_n 5 dX0_reckonYear_115 rfl rfl ?_
        refine ca_X0_40 dX0_reckonYear_116 (t_X0_countedADay (nl := nl) (by (try simp (disch := omega) only [setW_ne, setA_ne]); exact hcl) hnl) (by decide) (Nat.le_of_ble_eq_true rfl) ?_
        (try simp (disch := omega) only [setW_ne, setW_p, setA_ne, setA_p, upd_self, lpF_setA, lpF_setW, lpF_row, lpF_row2, limC_setA, limC_setW])
        refine g_iload 0 dX0_reckonYear_119 rfl ?_
        refine g_iload 13 dX0_reckonYear_121 rfl ?_
        refine g_isub dX0_reckonYear_123 ?_
        refine g_i2l dX0_reckonYear_124 ?_
        refine g_lmul dX0_reckonYear_125 ?_
        refine g_ladd dX0_reckonYear_126 ?_
        refine g_lst [_, _, _, _, _, _, _, _, _, _, _, _] _ dX0_reckonYear_127 (by decide) rfl ?_
        refine g_iload 0 dX0_reckonYear_129 rfl ?_
        refine g_ist [_, _, _, _, _, _, _, _, _, _, _, _, _] _ dX0_reckonYear_131 (by decide) rfl ?_
        refine g_iinc 1 [_, _, _, _, _, _, _, _, _, _, _, _, _, _] _ dX0_reckonYear_133 rfl (by decide) rfl ?_
        refine g_goto 31 dX0_reckonYear_136 (by decide) ?_
        refine g_lv [2, 3, 4, 5, 6, 7, 8, 9, 10, 11, 12, 13, 14] rfl ?_
        exact ih (k + 1) _ _ _ _ (x + 1) _ (by omega) (by omega) (by rw [hx, nI_1]) (by rw [yrF_s (by omega) h43] at hv; exact hv)
set_option maxRecDepth 20000 in
theorem t_X0_reckonYear {E : En} {w : W0} {nl nw ni y : Nat} {year begins : Int32} (hcl : w 1 2 = nI nl) (hnl : nl ≤ 8) (hcw : w 2 5 = nI nw) (hnw : nw ≤ 6) (hci : w 4 7 = nI ni) (hni : ni ≤ 60) (hy : y < 10) (hyr : year = nI y) : Mt E 4 yX0_reckonYear cX0_reckonYear 16 (some .int) [.ref (E.1 6), .int year, .int begins, .ref (E.1 1), .ref (E.1 2), .ref (E.1 4)] w (some (.int ((finS w nl nw ni (year * 360) begins).2.1 + intF (finS w nl nw ni (year * 360) begins)))) (yearW w nl nw ni y (year * 360) begins) := by
  refine Mt.of (by decide +kernel) (Nat.le_of_ble_eq_true rfl) ?_
  show G E 4 RX0 cX0_reckonYear 16 (some .int) _ _ 0 [(0, .ref (E.1 6)), (1, .int year), (2, .int begins), (3, .ref (E.1 1)), (4, .ref (E.1 2)), (5, .ref (E.1 4))] [] w
  refine g_iload_n 1 dX0_reckonYear_0 rfl rfl ?_
  refine g_sipush 360 dX0_reckonYear_1 rfl ?_
  refine g_imul dX0_reckonYear_4 ?_
  refine g_istN dX0_reckonYear_5 (by decide) rfl ?_
  refine g_iload 0 dX0_reckonYear_7 rfl ?_
  refine g_sipush 360 dX0_reckonYear_9 rfl ?_
  refine g_iadd dX0_reckonYear_12 ?_
  refine g_istN dX0_reckonYear_13 (by decide) rfl ?_
  refine g_iload_n 4 dX0_reckonYear_15 rfl rfl ?_
  refine g_istN dX0_reckonYear_16 (by decide) rfl ?_
  refine g_iconst 0 dX0_reckonYear_18 rfl ?_
  refine g_istN dX0_reckonYear_19 (by decide) rfl ?_
  refine g_lconst 0 dX0_reckonYear_21 rfl ?_
  refine g_lstN dX0_reckonYear_22 (by decide) rfl ?_
  refine g_iload 4 dX0_reckonYear_24 rfl ?_
  refine g_istN dX0_reckonYear_26 (by decide) rfl ?_
  refine g_iconst 0 dX0_reckonYear_28 rfl ?_
  refine g_istN dX0_reckonYear_29 (by decide) rfl ?_
  refine g_lv [7, 8, 9, 10, 11, 12, 6, 5, 4, 3, 2, 1, 0] rfl ?_
  have hl := l_reckonYear (E := E) (begins := begins) hcl hnl hcw hnw hci hni hy hyr 361 0 (w 21) _ _ _ _ _ (by omega) (by omega) rfl rfl
  rw [setA_self] at hl
  exact hl
/-- the years before the y-th, one behind the other: the world, and the pot -/
def rkF (w : W0) (nl nw ni : Nat) : Nat → W0 × Int32
  | 0 => (w, 0)
  | y + 1 => (yearW (rkF w nl nw ni y).1 nl nw ni y (nI y * 360) (rkF w nl nw ni y).2, (finS (rkF w nl nw ni y).1 nl nw ni (nI y * 360) (rkF w nl nw ni y).2).2.1 + intF (finS (rkF w nl nw ni y).1 nl nw ni (nI y * 360) (rkF w nl nw ni y).2))
theorem rkF_s (w : W0) (nl nw ni y : Nat) : rkF w nl nw ni (y + 1) = (yearW (rkF w nl nw ni y).1 nl nw ni y (nI y * 360) (rkF w nl nw ni y).2, (finS (rkF w nl nw ni y).1 nl nw ni (nI y * 360) (rkF w nl nw ni y).2).2.1 + intF (finS (rkF w nl nw ni y).1 nl nw ni (nI y * 360) (rkF w nl nw ni y).2)) := rfl
theorem rkF_ne {w : W0} {nl nw ni q : Nat} (h1 : q ≠ 21) : ∀ y, (q < 36 ∨ 36 + y ≤ q) → (rkF w nl nw ni y).1 q = w q
  | 0, _ => rfl
  | y + 1, h => by
    rw [rkF_s]
    show yearW _ _ _ _ _ _ _ q = _
    rw [yearW_ne h1 (by omega), rkF_ne h1 y (by omega)]
set_option maxRecDepth 20000 in
theorem l_reckon {E : En} {w : W0} {nl nw ni : Nat} (hcl : w 1 2 = nI nl) (hnl : nl ≤ 8) (hcw : w 2 5 = nI nw) (hnw : nw ≤ 6) (hci : w 4 7 = nI ni) (hni : ni ≤ 60) : ∀ (n : Nat) (k : Nat) (u x : Int32), 10 + 1 ≤ k + n → k ≤ 10 → x = nI k → u = (rkF w nl nw ni k).2 → G E 5 RX0 cX0_reckon 6 (none) none (rkF w nl nw ni 10).1 6 [(0, .ref (E.1 6)), (1, .ref (E.1 1)), (2, .ref (E.1 2)), (3, .ref (E.1 4)), (4, .int u), (5, .int x)] [] (rkF w nl nw ni k).1 := by
  intro n
  induction n with
  | zero =>
    intro k u x hfu hk hx hv
    exact absurd hfu (by omega)
  | succ n ih =>
    intro k u x hfu hk hx hv
    have hxi : x.toInt = (k : Int) := by rw [hx]; exact nI_toInt (by omega)
    have hxn : x.toNatClampNeg = k := by rw [hx]; exact nI_clamp (by omega)
    refine g_iload 5 dX0_reckon_6 rfl ?_
    refine g_bipush 10 dX0_reckon_8 rfl ?_
    refine g_icmp_ge 32 (k : Int) 10 dX0_reckon_10 (by decide) hxi rfl (fun h10 => ?_) (fun h10 => ?_)
    · refine g_vret dX0_reckon_32 rfl rfl ?_
      · rw [show k = 10 by omega]
    · refine g_aload_n 0 dX0_reckon_13 rfl rfl ?_
      refine g_iload 5 dX0_reckon_14 rfl ?_
      refine g_iload 4 dX0_reckon_16 rfl ?_
      refine g_aload_n 1 dX0_reckon_18 rfl rfl ?_
      refine g_aload_n 2 dX0_reckon_19 rfl rfl ?_
      refine g_aload_n 3 dX0_reckon_20 rfl rfl ?_
      refine ca_X0_19 dX0_reckon_21 (t_X0_reckonYear (nl := nl) (nw := nw) (ni := ni) (y := k) (by rw [rkF_ne (by decide) k (by omega)]; exact hcl) hnl (by rw [rkF_ne (by decide) k (by omega)]; exact hcw) hnw (by rw [rkF_ne (by decide) k (by omega)]; exact hci) hni (by omega) hx) (by decide) (Nat.le_of_ble_eq_true rfl) ?_
      rw [hv, hx]
      rw [show yearW (rkF w nl nw ni k).1 nl nw ni k (nI k * 360) (rkF w nl nw ni k).2 = (rkF w nl nw ni (k + 1)).1 from rfl]
      refine g_ist [_, _, _, _] _ dX0_reckon_24 (by decide) rfl ?_
      refine g_iinc 1 [_, _, _, _, _] _ dX0_reckon_26 rfl (by decide) rfl ?_
      refine g_goto 6 dX0_reckon_29 (by decide) ?_
      exact ih (k + 1) (rkF w nl nw ni (k + 1)).2 (nI k + 1) (by omega) (by omega) (nI_1 k) rfl
set_option maxRecDepth 20000 in
theorem t_X0_reckon {E : En} {w : W0} {nl nw ni : Nat} (hcl : w 1 2 = nI nl) (hnl : nl ≤ 8) (hcw : w 2 5 = nI nw) (hnw : nw ≤ 6) (hci : w 4 7 = nI ni) (hni : ni ≤ 60) : Mt E 5 yX0_reckon cX0_reckon 6 (none) [.ref (E.1 6), .ref (E.1 1), .ref (E.1 2), .ref (E.1 4)] w none (rkF w nl nw ni 10).1 := by
  refine Mt.of (by decide +kernel) (Nat.le_of_ble_eq_true rfl) ?_
  show G E 5 RX0 cX0_reckon 6 (none) _ _ 0 [(0, .ref (E.1 6)), (1, .ref (E.1 1)), (2, .ref (E.1 2)), (3, .ref (E.1 4))] [] w
  refine g_iconst 0 dX0_reckon_0 rfl ?_
  refine g_istN dX0_reckon_1 (by decide) rfl ?_
  refine g_iconst 0 dX0_reckon_3 rfl ?_
  refine g_istN dX0_reckon_4 (by decide) rfl ?_
  refine g_lv [2, 3, 4, 5, 1, 0] rfl ?_
  exact l_reckon hcl hnl hcw hnw hci hni 11 0 _ _ (by omega) (by omega) rfl rfl
set_option maxRecDepth 20000 in
theorem t_X0_entry {E : En} {w : W0} {y p : Nat} {year z : Int32} (hy : y < 10) (hyr : year = nI y) (hz : z.toInt = (p : Int)) (hp : p < 6) : Mt E 2 yX0_entry cX0_entry 3 (some .int) [.ref (E.1 6), .int year, .int z] w (some (.int (w (36 + y) p))) w := by
  refine Mt.of (by decide +kernel) (Nat.le_of_ble_eq_true rfl) ?_
  show G E 2 RX0 cX0_entry 3 (some .int) _ _ 0 [(0, .ref (E.1 6)), (1, .int year), (2, .int z)] [] w
  have hyi : year.toInt = (y : Int) := by rw [hyr]; exact nI_toInt (by omega)
  have hyn : year.toNatClampNeg = y := by rw [hyr]; exact nI_clamp (by omega)
  refine g_iload_n 1 dX0_entry_0 rfl rfl ?_
  refine ca_X0_46 dX0_entry_1 (t_X6_isYear) (by decide) (Nat.le_of_ble_eq_true rfl) ?_
  refine g_if_eqb 27 dX0_entry_4 (by decide) (fun h4 => False.elim (by exact h4 (by omega))) (fun h4 => ?_)
  refine g_iload_n 2 dX0_entry_7 rfl rfl ?_
  refine g_iconst 0 dX0_entry_8 rfl ?_
  refine g_iconst 5 dX0_entry_9 rfl ?_
  refine ca_X0_65 dX0_entry_10 (t_X6_within 0 5 rfl rfl) (by decide) (Nat.le_of_ble_eq_true rfl) ?_
  refine g_if_eqb 27 dX0_entry_13 (by decide) (fun h13 => False.elim (by exact h13 (by omega))) (fun h13 => ?_)
  refine g_aload_n 0 dX0_entry_16 rfl rfl ?_
  refine gf_X0_11 dX0_entry_17 ?_
  refine g_iload_n 1 dX0_entry_20 rfl rfl ?_
  refine g_aald (n := 10) (b := 36) y dX0_entry_21 (by decide) rfl rf_35 hyn (by omega) (fun hj21 => ?_)
  refine g_iload_n 2 dX0_entry_22 rfl rfl ?_
  refine g_iald (n := 6) p dX0_entry_23 (by show _ < 80; omega) (sh_36 hj21) (nat_of_int hz) (by omega) ?_
  refine g_goto 28 dX0_entry_24 (by decide) ?_
  refine g_iret dX0_entry_28 rfl rfl ?_ ?_
  · rfl
  · rfl
set_option maxRecDepth 20000 in
theorem t_X0_keptEntry {E : En} {w : W0} {y p : Nat} {year z : Int32} (hy : y < 10) (hyr : year = nI y) (hz : z.toInt = (p : Int)) (hp : p < 6) : Mt E 2 yX0_keptEntry cX0_keptEntry 3 (some .int) [.ref (E.1 6), .int year, .int z] w (some (.int (w (47 + y) p))) w := by
  refine Mt.of (by decide +kernel) (Nat.le_of_ble_eq_true rfl) ?_
  show G E 2 RX0 cX0_keptEntry 3 (some .int) _ _ 0 [(0, .ref (E.1 6)), (1, .int year), (2, .int z)] [] w
  have hyi : year.toInt = (y : Int) := by rw [hyr]; exact nI_toInt (by omega)
  have hyn : year.toNatClampNeg = y := by rw [hyr]; exact nI_clamp (by omega)
  refine g_iload_n 1 dX0_keptEntry_0 rfl rfl ?_
  refine ca_X0_46 dX0_keptEntry_1 (t_X6_isYear) (by decide) (Nat.le_of_ble_eq_true rfl) ?_
  refine g_if_eqb 27 dX0_keptEntry_4 (by decide) (fun h4 => False.elim (by exact h4 (by omega))) (fun h4 => ?_)
  refine g_iload_n 2 dX0_keptEntry_7 rfl rfl ?_
  refine g_iconst 0 dX0_keptEntry_8 rfl ?_
  refine g_iconst 5 dX0_keptEntry_9 rfl ?_
  refine ca_X0_65 dX0_keptEntry_10 (t_X6_within 0 5 rfl rfl) (by decide) (Nat.le_of_ble_eq_true rfl) ?_
  refine g_if_eqb 27 dX0_keptEntry_13 (by decide) (fun h13 => False.elim (by exact h13 (by omega))) (fun h13 => ?_)
  refine g_aload_n 0 dX0_keptEntry_16 rfl rfl ?_
  refine gf_X0_16 dX0_keptEntry_17 ?_
  refine g_iload_n 1 dX0_keptEntry_20 rfl rfl ?_
  refine g_aald (n := 10) (b := 47) y dX0_keptEntry_21 (by decide) rfl rf_46 hyn (by omega) (fun hj21 => ?_)
  refine g_iload_n 2 dX0_keptEntry_22 rfl rfl ?_
  refine g_iald (n := 6) p dX0_keptEntry_23 (by show _ < 80; omega) (sh_47 hj21) (nat_of_int hz) (by omega) ?_
  refine g_goto 28 dX0_keptEntry_24 (by decide) ?_
  refine g_iret dX0_keptEntry_28 rfl rfl ?_ ?_
  · rfl
  · rfl
set_option maxRecDepth 20000 in
theorem t_X0_wasKept {E : En} {w : W0} {y : Nat} {year : Int32} (hy : y < 10) (hyr : year = nI y) : Mt E 2 yX0_wasKept cX0_wasKept 2 (some .boolean) [.ref (E.1 6), .int year] w (some (.int (bI (¬ (w 6 2 >>> (year &&& 31)) &&& 1 = 0)))) w := by
  refine Mt.of (by decide +kernel) (Nat.le_of_ble_eq_true rfl) ?_
  show G E 2 RX0 cX0_wasKept 2 (some .boolean) _ _ 0 [(0, .ref (E.1 6)), (1, .int year)] [] w
  have hyi : year.toInt = (y : Int) := by rw [hyr]; exact nI_toInt (by omega)
  refine g_iload_n 1 dX0_wasKept_0 rfl rfl ?_
  refine ca_X0_46 dX0_wasKept_1 (t_X6_isYear) (by decide) (Nat.le_of_ble_eq_true rfl) ?_
  refine g_if_eqb 22 dX0_wasKept_4 (by decide) (fun h4 => False.elim (by exact h4 (by omega))) (fun h4 => ?_)
  refine g_aload_n 0 dX0_wasKept_7 rfl rfl ?_
  refine gf_X0_69 dX0_wasKept_8 ?_
  refine g_iload_n 1 dX0_wasKept_11 rfl rfl ?_
  refine g_ishr dX0_wasKept_12 ?_
  refine g_iconst 1 dX0_wasKept_13 rfl ?_
  refine g_iand dX0_wasKept_14 ?_
  refine g_if_eq 22 dX0_wasKept_15 (by decide) (fun h15 => ?_) (fun h15 => ?_)
  · refine g_iconst 0 dX0_wasKept_22 rfl ?_
    refine g_iret dX0_wasKept_23 rfl rfl ?_ ?_
    · first | (rw [bI_t]; exact h15) | (rw [bI_f]; exact fun z => z h15)
    · rfl
  · refine g_iconst 1 dX0_wasKept_18 rfl ?_
    refine g_goto 23 dX0_wasKept_19 (by decide) ?_
    refine g_iret dX0_wasKept_23 rfl rfl ?_ ?_
    · first | (rw [bI_t]; exact h15) | (rw [bI_f]; exact fun z => z h15)
    · rfl
abbrev chP (a b : Nat → Int32) : Prop := ¬ (a 1 = b 1 ∧ a 2 = b 2 ∧ a 3 = b 3 ∧ a 4 = b 4)
set_option maxRecDepth 20000 in
theorem t_X0_hasChanged {E : En} {w : W0} {y : Nat} {year : Int32} (hy : y < 10) (hyr : year = nI y) : Mt E 3 yX0_hasChanged cX0_hasChanged 3 (some .boolean) [.ref (E.1 6), .int year] w (some (.int (bI (chP (w (36 + y)) (w (47 + y)))))) w := by
  refine Mt.of (by decide +kernel) (Nat.le_of_ble_eq_true rfl) ?_
  show G E 3 RX0 cX0_hasChanged 3 (some .boolean) _ _ 0 [(0, .ref (E.1 6)), (1, .int year)] [] w
  refine g_iconst 1 dX0_hasChanged_0 rfl ?_
  refine g_istN_n dX0_hasChanged_1 rfl (by decide) rfl ?_
  refine g_iload_n 0 dX0_hasChanged_2 rfl rfl ?_
  refine g_iconst 4 dX0_hasChanged_3 rfl ?_
  refine g_icmp_gt 30 1 4 dX0_hasChanged_4 (by decide) rfl rfl (fun h4 => False.elim (by omega)) (fun h4 => ?_)
  refine g_aload_n 1 dX0_hasChanged_7 rfl rfl ?_
  refine g_iload_n 2 dX0_hasChanged_8 rfl rfl ?_
  refine g_iload_n 0 dX0_hasChanged_9 rfl rfl ?_
  refine ca_X0_59 dX0_hasChanged_10 (t_X0_entry (p := 1) hy hyr rfl (by decide)) (by decide) (Nat.le_of_ble_eq_true rfl) ?_
  refine g_aload_n 1 dX0_hasChanged_13 rfl rfl ?_
  refine g_iload_n 2 dX0_hasChanged_14 rfl rfl ?_
  refine g_iload_n 0 dX0_hasChanged_15 rfl rfl ?_
  refine ca_X0_79 dX0_hasChanged_16 (t_X0_keptEntry (p := 1) hy hyr rfl (by decide)) (by decide) (Nat.le_of_ble_eq_true rfl) ?_
  refine g_icmp_eq 24 dX0_hasChanged_19 (by decide) (fun h19 => ?_) (fun h19 => ?_)
  · refine g_iinc 1 [] _ dX0_hasChanged_24 rfl (by decide) rfl ?_
    refine g_goto 2 dX0_hasChanged_27 (by decide) ?_
    refine g_iload_n 0 dX0_hasChanged_2 rfl rfl ?_
    refine g_iconst 4 dX0_hasChanged_3 rfl ?_
    refine g_icmp_gt 30 2 4 dX0_hasChanged_4 (by decide) rfl rfl (fun h4 => False.elim (by omega)) (fun h4 => ?_)
    refine g_aload_n 1 dX0_hasChanged_7 rfl rfl ?_
    refine g_iload_n 2 dX0_hasChanged_8 rfl rfl ?_
    refine g_iload_n 0 dX0_hasChanged_9 rfl rfl ?_
    refine ca_X0_59 dX0_hasChanged_10 (t_X0_entry (p := 2) hy hyr rfl (by decide)) (by decide) (Nat.le_of_ble_eq_true rfl) ?_
    refine g_aload_n 1 dX0_hasChanged_13 rfl rfl ?_
    refine g_iload_n 2 dX0_hasChanged_14 rfl rfl ?_
    refine g_iload_n 0 dX0_hasChanged_15 rfl rfl ?_
    refine ca_X0_79 dX0_hasChanged_16 (t_X0_keptEntry (p := 2) hy hyr rfl (by decide)) (by decide) (Nat.le_of_ble_eq_true rfl) ?_
    refine g_icmp_eq 24 dX0_hasChanged_19 (by decide) (fun h19 => ?_) (fun h19 => ?_)
    · refine g_iinc 1 [] _ dX0_hasChanged_24 rfl (by decide) rfl ?_
      refine g_goto 2 dX0_hasChanged_27 (by decide) ?_
      refine g_iload_n 0 dX0_hasChanged_2 rfl rfl ?_
      refine g_iconst 4 dX0_hasChanged_3 rfl ?_
      refine g_icmp_gt 30 3 4 dX0_hasChanged_4 (by decide) rfl rfl (fun h4 => False.elim (by omega)) (fun h4 => ?_)
      refine g_aload_n 1 dX0_hasChanged_7 rfl rfl ?_
      refine g_iload_n 2 dX0_hasChanged_8 rfl rfl ?_
      refine g_iload_n 0 dX0_hasChanged_9 rfl rfl ?_
      refine ca_X0_59 dX0_hasChanged_10 (t_X0_entry (p := 3) hy hyr rfl (by decide)) (by decide) (Nat.le_of_ble_eq_true rfl) ?_
      refine g_aload_n 1 dX0_hasChanged_13 rfl rfl ?_
      refine g_iload_n 2 dX0_hasChanged_14 rfl rfl ?_
      refine g_iload_n 0 dX0_hasChanged_15 rfl rfl ?_
      refine ca_X0_79 dX0_hasChanged_16 (t_X0_keptEntry (p := 3) hy hyr rfl (by decide)) (by decide) (Nat.le_of_ble_eq_true rfl) ?_
      refine g_icmp_eq 24 dX0_hasChanged_19 (by decide) (fun h19 => ?_) (fun h19 => ?_)
      · refine g_iinc 1 [] _ dX0_hasChanged_24 rfl (by decide) rfl ?_
        refine g_goto 2 dX0_hasChanged_27 (by decide) ?_
        refine g_iload_n 0 dX0_hasChanged_2 rfl rfl ?_
        refine g_iconst 4 dX0_hasChanged_3 rfl ?_
        refine g_icmp_gt 30 4 4 dX0_hasChanged_4 (by decide) rfl rfl (fun h4 => False.elim (by omega)) (fun h4 => ?_)
        refine g_aload_n 1 dX0_hasChanged_7 rfl rfl ?_
        refine g_iload_n 2 dX0_hasChanged_8 rfl rfl ?_
        refine g_iload_n 0 dX0_hasChanged_9 rfl rfl ?_
        refine ca_X0_59 dX0_hasChanged_10 (t_X0_entry (p := 4) hy hyr rfl (by decide)) (by decide) (Nat.le_of_ble_eq_true rfl) ?_
        refine g_aload_n 1 dX0_hasChanged_13 rfl rfl ?_
        refine g_iload_n 2 dX0_hasChanged_14 rfl rfl ?_
        refine g_iload_n 0 dX0_hasChanged_15 rfl rfl ?_
        refine ca_X0_79 dX0_hasChanged_16 (t_X0_keptEntry (p := 4) hy hyr rfl (by decide)) (by decide) (Nat.le_of_ble_eq_true rfl) ?_
        refine g_icmp_eq 24 dX0_hasChanged_19 (by decide) (fun h19 => ?_) (fun h19 => ?_)
        · refine g_iinc 1 [] _ dX0_hasChanged_24 rfl (by decide) rfl ?_
          refine g_goto 2 dX0_hasChanged_27 (by decide) ?_
          refine g_iload_n 0 dX0_hasChanged_2 rfl rfl ?_
          refine g_iconst 4 dX0_hasChanged_3 rfl ?_
          refine g_icmp_gt 30 5 4 dX0_hasChanged_4 (by decide) rfl rfl (fun h4 => ?_) (fun h4 => False.elim (by omega))
          refine g_iconst 0 dX0_hasChanged_30 rfl ?_
          refine g_iret dX0_hasChanged_31 rfl rfl ?_ ?_
          · first | (rw [bI_t]; simp_all; done) | (rw [bI_f]; simp_all; done)
          · rfl
        · refine g_iconst 1 dX0_hasChanged_22 rfl ?_
          refine g_iret dX0_hasChanged_23 rfl rfl ?_ ?_
          · first | (rw [bI_t]; simp_all; done) | (rw [bI_f]; simp_all; done)
          · rfl
      · refine g_iconst 1 dX0_hasChanged_22 rfl ?_
        refine g_iret dX0_hasChanged_23 rfl rfl ?_ ?_
        · first | (rw [bI_t]; simp_all; done) | (rw [bI_f]; simp_all; done)
        · rfl
    · refine g_iconst 1 dX0_hasChanged_22 rfl ?_
      refine g_iret dX0_hasChanged_23 rfl rfl ?_ ?_
      · first | (rw [bI_t]; simp_all; done) | (rw [bI_f]; simp_all; done)
      · rfl
  · refine g_iconst 1 dX0_hasChanged_22 rfl ?_
    refine g_iret dX0_hasChanged_23 rfl rfl ?_ ?_
    · first | (rw [bI_t]; simp_all; done) | (rw [bI_f]; simp_all; done)
    · rfl
def cyF (w : W0) : Nat → Int32
  | 0 => 0
  | k + 1 => if ¬ (w 6 2 >>> (nI k &&& 31)) &&& 1 = 0 ∧ chP (w (36 + k)) (w (47 + k)) then cyF w k ||| (1 <<< (nI k &&& 31)) else cyF w k
theorem cyF_s (w : W0) (k : Nat) : cyF w (k + 1) = if ¬ (w 6 2 >>> (nI k &&& 31)) &&& 1 = 0 ∧ chP (w (36 + k)) (w (47 + k)) then cyF w k ||| (1 <<< (nI k &&& 31)) else cyF w k := rfl
theorem cyF_or (w : W0) (k : Nat) : (¬ (w 6 2 >>> (nI k &&& 31)) &&& 1 = 0 ∧ chP (w (36 + k)) (w (47 + k)) ∧ cyF w (k + 1) = cyF w k ||| (1 <<< (nI k &&& 31))) ∨ (¬ (¬ (w 6 2 >>> (nI k &&& 31)) &&& 1 = 0 ∧ chP (w (36 + k)) (w (47 + k))) ∧ cyF w (k + 1) = cyF w k) := by
  by_cases h : ¬ (w 6 2 >>> (nI k &&& 31)) &&& 1 = 0 ∧ chP (w (36 + k)) (w (47 + k))
  · exact Or.inl ⟨h.1, h.2, if_pos h⟩
  · exact Or.inr ⟨h, if_neg h⟩
set_option maxRecDepth 20000 in
theorem l_changedYears {E : En} {w : W0} : ∀ (n : Nat) (k : Nat) (v x : Int32), 10 + 1 ≤ k + n → k ≤ 10 → x = nI k → v = cyF w k → G E 4 RX0 cX0_changedYears 3 (some .int) (some (.int (cyF w 10))) w 4 [(0, .ref (E.1 6)), (1, .int v), (2, .int x)] [] w := by
  intro n
  induction n with
  | zero =>
    intro k v x hfu hk hx hv
    exact absurd hfu (by omega)
  | succ n ih =>
    intro k v x hfu hk hx hv
    have hxi : x.toInt = (k : Int) := by rw [hx]; exact nI_toInt (by omega)
    have hxn : x.toNatClampNeg = k := by rw [hx]; exact nI_clamp (by omega)
    refine g_iload_n 2 dX0_changedYears_4 rfl rfl ?_
    refine g_bipush 10 dX0_changedYears_5 rfl ?_
    refine g_icmp_ge 38 (k : Int) 10 dX0_changedYears_7 (by decide) hxi rfl (fun h7 => ?_) (fun h7 => ?_)
    · refine g_iload_n 1 dX0_changedYears_38 rfl rfl ?_
      refine g_iret dX0_changedYears_39 rfl rfl ?_ ?_
      · rw [hv, show k = 10 by omega]
      · rfl
    · refine g_aload_n 0 dX0_changedYears_10 rfl rfl ?_
      refine g_iload_n 2 dX0_changedYears_11 rfl rfl ?_
      refine ca_X0_73 dX0_changedYears_12 (t_X0_wasKept (y := k) (by omega) hx) (by decide) (Nat.le_of_ble_eq_true rfl) ?_
      refine g_if_eqb 32 dX0_changedYears_15 (by decide) (fun h15 => ?_) (fun h15 => ?_)
      · refine g_iinc 1 [_, _] _ dX0_changedYears_32 rfl (by decide) rfl ?_
        refine g_goto 4 dX0_changedYears_35 (by decide) ?_
        refine ih (k + 1) _ _ (by omega) (by omega) (by rw [hx, nI_1]) ?_
        clear ih
        rcases cyF_or w k with ⟨z1, z2, e⟩ | ⟨z, e⟩ <;> rw [e, hv] <;> first | rfl | (rw [hx]; done) | (exfalso; rw [hx] at h15; exact h15 z1) | (exfalso; exact h23 z2) | (exfalso; rw [hx] at h15; exact z ⟨h15, h23⟩)
      · refine g_aload_n 0 dX0_changedYears_18 rfl rfl ?_
        refine g_iload_n 2 dX0_changedYears_19 rfl rfl ?_
        refine ca_X0_76 dX0_changedYears_20 (t_X0_hasChanged (y := k) (by omega) hx) (by decide) (Nat.le_of_ble_eq_true rfl) ?_
        refine g_if_eqb 32 dX0_changedYears_23 (by decide) (fun h23 => ?_) (fun h23 => ?_)
        · refine g_iinc 1 [_, _] _ dX0_changedYears_32 rfl (by decide) rfl ?_
          refine g_goto 4 dX0_changedYears_35 (by decide) ?_
          refine ih (k + 1) _ _ (by omega) (by omega) (by rw [hx, nI_1]) ?_
          clear ih
          rcases cyF_or w k with ⟨z1, z2, e⟩ | ⟨z, e⟩ <;> rw [e, hv] <;> first | rfl | (rw [hx]; done) | (exfalso; rw [hx] at h15; exact h15 z1) | (exfalso; exact h23 z2) | (exfalso; rw [hx] at h15; exact z ⟨h15, h23⟩)
        · refine g_iload_n 1 dX0_changedYears_26 rfl rfl ?_
          refine g_iconst 1 dX0_changedYears_27 rfl ?_
          refine g_iload_n 2 dX0_changedYears_28 rfl rfl ?_
          refine g_ishl dX0_changedYears_29 ?_
          refine g_ior dX0_changedYears_30 ?_
          refine g_ist_n [_] _ dX0_changedYears_31 rfl (by decide) rfl ?_
          refine g_iinc 1 [_, _] _ dX0_changedYears_32 rfl (by decide) rfl ?_
          refine g_goto 4 dX0_changedYears_35 (by decide) ?_
          refine ih (k + 1) _ _ (by omega) (by omega) (by rw [hx, nI_1]) ?_
          clear ih
          rcases cyF_or w k with ⟨z1, z2, e⟩ | ⟨z, e⟩ <;> rw [e, hv] <;> first | rfl | (rw [hx]; done) | (exfalso; rw [hx] at h15; exact h15 z1) | (exfalso; exact h23 z2) | (exfalso; rw [hx] at h15; exact z ⟨h15, h23⟩)
set_option maxRecDepth 20000 in
theorem t_X0_changedYears {E : En} {w : W0} : Mt E 4 yX0_changedYears cX0_changedYears 3 (some .int) [.ref (E.1 6)] w (some (.int (cyF w 10))) w := by
  refine Mt.of (by decide +kernel) (Nat.le_of_ble_eq_true rfl) ?_
  show G E 4 RX0 cX0_changedYears 3 (some .int) _ _ 0 [(0, .ref (E.1 6))] [] w
  refine g_iconst 0 dX0_changedYears_0 rfl ?_
  refine g_istN_n dX0_changedYears_1 rfl (by decide) rfl ?_
  refine g_iconst 0 dX0_changedYears_2 rfl ?_
  refine g_istN_n dX0_changedYears_3 rfl (by decide) rfl ?_
  refine g_lv [2, 1, 0] rfl ?_
  exact l_changedYears 11 0 _ _ (by omega) (by omega) rfl rfl
def keptW (w : W0) (y k : Nat) : W0 := setA w (47 + y) (fillF (w (36 + y)) (w (47 + y)) k)
theorem keptW_0 (w : W0) (y : Nat) : keptW w y 0 = w := by
  unfold keptW
  rw [fillF_0, setA_self]
def keepW (w : W0) (y : Nat) : W0 := setW (keptW w y 6) 6 2 (w 6 2 ||| (1 <<< (nI y &&& 31)))
set_option maxRecDepth 20000 in
theorem l_keep {E : En} {w : W0} {y : Nat} {year : Int32} (hy : y < 10) (hyr : year = nI y) : ∀ (n : Nat) (k : Nat) (x : Int32), 6 + 1 ≤ k + n → k ≤ 6 → x = nI k → G E 2 RX0 cX0_keep 3 (none) none (keepW w y) 10 [(0, .ref (E.1 6)), (1, .int year), (2, .int x)] [] (keptW w y k) := by
  intro n
  induction n with
  | zero =>
    intro k x hfu hk hx
    exact absurd hfu (by omega)
  | succ n ih =>
    intro k x hfu hk hx
    have hxi : x.toInt = (k : Int) := by rw [hx]; exact nI_toInt (by omega)
    have hxn : x.toNatClampNeg = k := by rw [hx]; exact nI_clamp (by omega)
    have hyi : year.toInt = (y : Int) := by rw [hyr]; exact nI_toInt (by omega)
    have hyn : year.toNatClampNeg = y := by rw [hyr]; exact nI_clamp (by omega)
    unfold keptW
    refine g_iload_n 2 dX0_keep_10 rfl rfl ?_
    refine g_bipush 6 dX0_keep_11 rfl ?_
    refine g_icmp_ge 38 (k : Int) 6 dX0_keep_13 (by decide) hxi rfl (fun h13 => ?_) (fun h13 => ?_)
    · refine g_aload_n 0 dX0_keep_38 rfl rfl ?_
      refine g_dup dX0_keep_39 rfl ?_
      refine gf_X0_69 dX0_keep_40 ?_
      (try simp (disch := omega) only [setW_ne, setW_p, setA_ne, setA_p, upd_self, lpF_setA, lpF_setW, lpF_row, lpF_row2, limC_setA, limC_setW])
      refine g_iconst 1 dX0_keep_43 rfl ?_
      refine g_iload_n 1 dX0_keep_44 rfl rfl ?_
      refine g_ishl dX0_keep_45 ?_
      refine g_ior dX0_keep_46 ?_
      refine pf_X0_69 dX0_keep_47 ?_
      (try simp (disch := omega) only [setW_setA, setW_setA_ne])
      refine g_vret dX0_keep_50 rfl rfl ?_
      · unfold keepW keptW; rw [show k = 6 by omega, hyr]; try simp (disch := omega) only [setW_setA, setW_setA_ne]
    · refine g_aload_n 0 dX0_keep_16 rfl rfl ?_
      refine gf_X0_16 dX0_keep_17 ?_
      refine g_iload_n 1 dX0_keep_20 rfl rfl ?_
      refine g_aald (n := 10) (b := 47) y dX0_keep_21 (by decide) rfl rf_46 hyn (by omega) (fun hj21 => ?_)
      refine g_iload_n 2 dX0_keep_22 rfl rfl ?_
      refine g_aload_n 0 dX0_keep_23 rfl rfl ?_
      refine gf_X0_11 dX0_keep_24 ?_
      refine g_iload_n 1 dX0_keep_27 rfl rfl ?_
      refine g_aald (n := 10) (b := 36) y dX0_keep_28 (by decide) rfl rf_35 hyn (by omega) (fun hj28 => ?_)
      refine g_iload_n 2 dX0_keep_29 rfl rfl ?_
      refine g_iald (n := 6) k dX0_keep_30 (by show _ < 80; omega) (sh_36 hj28) hxn (by omega) ?_
      (try simp (disch := omega) only [setW_ne, setW_p, setA_ne, setA_p, upd_self, lpF_setA, lpF_setW, lpF_row, lpF_row2, limC_setA, limC_setW])
      refine g_iast (n := 6) k dX0_keep_31 (by show _ < 80; omega) (sh_47 hj21) hxn (by omega) ?_
      (try simp (disch := omega) only [setW_setA, setW_setA_ne])
      refine g_iinc 1 [_, _] _ dX0_keep_32 rfl (by decide) rfl ?_
      refine g_goto 10 dX0_keep_35 (by decide) ?_
      have hh := ih (k + 1) (x + 1) (by omega) (by omega) (by rw [hx, nI_1])
      unfold keptW at hh
      rw [← fillF_s] at hh
      exact hh
set_option maxRecDepth 20000 in
theorem t_X0_keep {E : En} {w : W0} {y : Nat} {year : Int32} (hy : y < 10) (hyr : year = nI y) : Mt E 2 yX0_keep cX0_keep 3 (none) [.ref (E.1 6), .int year] w none (keepW w y) := by
  refine Mt.of (by decide +kernel) (Nat.le_of_ble_eq_true rfl) ?_
  show G E 2 RX0 cX0_keep 3 (none) _ _ 0 [(0, .ref (E.1 6)), (1, .int year)] [] w
  have hyi : year.toInt = (y : Int) := by rw [hyr]; exact nI_toInt (by omega)
  have hyn : year.toNatClampNeg = y := by rw [hyr]; exact nI_clamp (by omega)
  refine g_iload_n 1 dX0_keep_0 rfl rfl ?_
  refine ca_X0_46 dX0_keep_1 (t_X6_isYear) (by decide) (Nat.le_of_ble_eq_true rfl) ?_
  refine g_if_neb 8 dX0_keep_4 (by decide) (fun h4 => ?_) (fun h4 => False.elim (by exact h4 (by omega)))
  refine g_iconst 0 dX0_keep_8 rfl ?_
  refine g_istN_n dX0_keep_9 rfl (by decide) rfl ?_
  refine g_lv [1, 2, 0] rfl ?_
  have hl := l_keep (E := E) (w := w) hy hyr 7 0 _ (by omega) (by omega) rfl
  rw [keptW_0] at hl
  exact hl
def potF (w : W0) (nw ni D : Nat) : Int32 := w (36 + D / 360) 0 + (sumF (w 26) (w 30) (w 24) (w 25) 1 (nI (D / 360 * 360)) (nI D) ni - sumF (w 26) (w 30) (w 24) (w 25) 0 (nI (D / 360 * 360)) (nI D) ni) - gbF (w 20) (w 21) (nI (D / 360 * 360)) (nI D) nw + (if D % 360 = 359 then w (36 + D / 360) 4 else 0)
set_option maxRecDepth 20000 in
theorem t_X0_potAfter {E : En} {w : W0} {nw ni D : Nat} {day : Int32} (hcw : w 2 5 = nI nw) (hnw : nw ≤ 6) (hci : w 4 7 = nI ni) (hni : ni ≤ 60) (hD : D < 3600) (hday : day = nI D) : Mt E 3 yX0_potAfter cX0_potAfter 9 (some .int) [.ref (E.1 6), .int day, .ref (E.1 2), .ref (E.1 4)] w (some (.int (potF w nw ni D))) w := by
  refine Mt.of (by decide +kernel) (Nat.le_of_ble_eq_true rfl) ?_
  show G E 3 RX0 cX0_potAfter 9 (some .int) _ _ 0 [(0, .ref (E.1 6)), (1, .int day), (2, .ref (E.1 2)), (3, .ref (E.1 4))] [] w
  subst hday
  refine g_iload_n 1 dX0_potAfter_0 rfl rfl ?_
  refine g_sipush 360 dX0_potAfter_1 rfl ?_
  refine g_idiv dX0_potAfter_4 (by decide) ?_
  rw [show nI D / 360 = nI (D / 360) from pk_div (a := D) (d := 360) (by omega) (by omega) (by omega)]
  refine g_istN dX0_potAfter_5 (by decide) rfl ?_
  refine g_iload 0 dX0_potAfter_7 rfl ?_
  refine g_sipush 360 dX0_potAfter_9 rfl ?_
  refine g_imul dX0_potAfter_12 ?_
  rw [show nI (D / 360) * 360 = nI (D / 360 * 360) from pk_mul _ 360]
  refine g_istN dX0_potAfter_13 (by decide) rfl ?_
  refine g_aload_n 5 dX0_potAfter_15 rfl rfl ?_
  refine g_iload 0 dX0_potAfter_16 rfl ?_
  refine g_iload_n 3 dX0_potAfter_18 rfl rfl ?_
  refine ca_X0_23 dX0_potAfter_19 (t_X1_receivedBetween hci hni) (by decide) (Nat.le_of_ble_eq_true rfl) ?_
  refine g_aload_n 5 dX0_potAfter_22 rfl rfl ?_
  refine g_iload 0 dX0_potAfter_23 rfl ?_
  refine g_iload_n 3 dX0_potAfter_25 rfl rfl ?_
  refine ca_X0_29 dX0_potAfter_26 (t_X1_paidBetween hci hni) (by decide) (Nat.le_of_ble_eq_true rfl) ?_
  refine g_isub dX0_potAfter_29 ?_
  refine g_istN dX0_potAfter_30 (by decide) rfl ?_
  refine g_aload_n 3 dX0_potAfter_32 rfl rfl ?_
  refine g_iload 2 dX0_potAfter_33 rfl ?_
  refine g_iconst 0 dX0_potAfter_35 rfl ?_
  refine ca_X0_59 dX0_potAfter_36 (t_X0_entry (p := 0) (by omega) rfl rfl (by decide)) (by decide) (Nat.le_of_ble_eq_true rfl) ?_
  refine g_iload 0 dX0_potAfter_39 rfl ?_
  refine g_iadd dX0_potAfter_41 ?_
  refine g_aload_n 5 dX0_potAfter_42 rfl rfl ?_
  refine g_iload 1 dX0_potAfter_43 rfl ?_
  refine g_iload_n 4 dX0_potAfter_45 rfl rfl ?_
  refine ca_X0_62 dX0_potAfter_46 (t_X5_givenBetween hcw hnw) (by decide) (Nat.le_of_ble_eq_true rfl) ?_
  refine g_isub dX0_potAfter_49 ?_
  refine g_istN dX0_potAfter_50 (by decide) rfl ?_
  refine g_iload_n 5 dX0_potAfter_52 rfl rfl ?_
  refine g_iload 2 dX0_potAfter_53 rfl ?_
  refine g_sipush 360 dX0_potAfter_55 rfl ?_
  refine g_iadd dX0_potAfter_58 ?_
  refine g_iconst 1 dX0_potAfter_59 rfl ?_
  refine g_isub dX0_potAfter_60 ?_
  refine g_icmp_ne 68 dX0_potAfter_61 (by decide) (fun h61 => ?_) (fun h61 => ?_)
  · refine g_iconst 0 dX0_potAfter_68 rfl ?_
    refine g_istN dX0_potAfter_69 (by decide) rfl ?_
    refine g_iload 0 dX0_potAfter_71 rfl ?_
    refine g_if_eq 89 dX0_potAfter_73 (by decide) (fun h73 => ?_) (fun h73 => False.elim (by exact absurd h73 (by decide)))
    refine g_iload 1 dX0_potAfter_89 rfl ?_
    refine g_iret dX0_potAfter_91 rfl rfl ?_ ?_
    · rw [show nI (D / 360 * 360) + 360 - 1 = nI (D / 360 * 360 + 359) by rw [show (360 : Int32) = nI 360 from rfl, nI_add, show D / 360 * 360 + 360 = (D / 360 * 360 + 359) + 1 by omega]; exact nI_pred _, nI_eq (by omega) (by omega)] at h61; unfold potF; first | (rw [if_pos (by omega)]; done) | (rw [if_neg (by omega), Int32.add_zero]; done)
    · rfl
  · refine g_iconst 1 dX0_potAfter_64 rfl ?_
    refine g_goto 69 dX0_potAfter_65 (by decide) ?_
    refine g_istN dX0_potAfter_69 (by decide) rfl ?_
    refine g_iload 0 dX0_potAfter_71 rfl ?_
    refine g_if_eq 89 dX0_potAfter_73 (by decide) (fun h73 => False.elim (by exact absurd h73 (by decide))) (fun h73 => ?_)
    refine g_iload 1 dX0_potAfter_76 rfl ?_
    refine g_aload_n 5 dX0_potAfter_78 rfl rfl ?_
    refine g_iload 4 dX0_potAfter_79 rfl ?_
    refine g_iconst 4 dX0_potAfter_81 rfl ?_
    refine ca_X0_59 dX0_potAfter_82 (t_X0_entry (p := 4) (by omega) rfl rfl (by decide)) (by decide) (Nat.le_of_ble_eq_true rfl) ?_
    refine g_iadd dX0_potAfter_85 ?_
    refine g_goto 91 dX0_potAfter_86 (by decide) ?_
    refine g_iret dX0_potAfter_91 rfl rfl ?_ ?_
    · rw [show nI (D / 360 * 360) + 360 - 1 = nI (D / 360 * 360 + 359) by rw [show (360 : Int32) = nI 360 from rfl, nI_add, show D / 360 * 360 + 360 = (D / 360 * 360 + 359) + 1 by omega]; exact nI_pred _, nI_eq (by omega) (by omega)] at h61; unfold potF; first | (rw [if_pos (by omega)]; done) | (rw [if_neg (by omega), Int32.add_zero]; done)
    · rfl
end
section
/-! WardCourt -/
abbrev dayP (a : Int32) : Prop := 0 ≤ a.toInt ∧ a.toInt ≤ 3599
abbrev coinP (a : Int32) : Prop := 1 ≤ a.toInt ∧ a.toInt ≤ 10000
abbrev yearP (a : Int32) : Prop := 0 ≤ a.toInt ∧ a.toInt ≤ 9
theorem nI_back {x : Int32} (h : 0 ≤ x.toInt) : x = nI x.toNatClampNeg := by
  apply Int32.toInt_inj.mp
  have h2 : x.toInt < 2 ^ 31 := Int32.toInt_lt x
  rw [nI_toInt (by show x.toInt.toNat < 2 ^ 31; omega)]
  show x.toInt = (x.toInt.toNat : Int)
  omega
theorem toNat_back {x : Int32} (h : 0 ≤ x.toInt) : x.toInt = (x.toNatClampNeg : Int) := by
  show x.toInt = (x.toInt.toNat : Int)
  omega
theorem daysF_ne {w : W0} {nl nw q : Nat} (h1 : q ≠ 19) (h2 : q ≠ 20) (h3 : q ≠ 21) : daysF w nl nw q = w q := by
  unfold daysF
  rw [setA_ne h3, setA_ne h2, setA_ne h1]
theorem alW_ne {w : W0} {nl n q : Nat} (h : q ≠ 30) : alW w nl n q = w q := setA_ne h
/-- what follows from what was told, laid out -/
def layC (w : W0) (nl nw ni : Nat) : W0 := (rkF (alW (daysF w nl nw) nl ni) nl nw ni 10).1
theorem layC_ne {w : W0} {nl nw ni q : Nat} (h : q < 19 ∨ (21 < q ∧ q < 30) ∨ (30 < q ∧ q < 36) ∨ 45 < q) : layC w nl nw ni q = w q := by
  unfold layC
  rw [rkF_ne (by omega) 10 (by omega), alW_ne (by omega), daysF_ne (by omega) (by omega) (by omega)]
def setlW (w : W0) (nl nw ni : Nat) : W0 := if w 0 6 = 0 then w else setW (layC w nl nw ni) 0 6 0
theorem setlW_ne {w : W0} {nl nw ni q : Nat} (h : (0 < q ∧ q < 19) ∨ (21 < q ∧ q < 30) ∨ (30 < q ∧ q < 36) ∨ 45 < q) : setlW w nl nw ni q = w q := by
  unfold setlW
  split
  · rfl
  · rw [setW_ne (by omega), layC_ne (by omega)]
theorem sw4 (x : Int32) : x.toInt = 0 ∨ x.toInt = 1 ∨ x.toInt = 2 ∨ x.toInt = 3 ∨ x.toInt = 4 ∨ (x.toInt < 0 ∨ 4 < x.toInt) := by omega
theorem sw5 (x : Int32) : x.toInt = 0 ∨ x.toInt = 1 ∨ x.toInt = 2 ∨ x.toInt = 3 ∨ x.toInt = 4 ∨ x.toInt = 5 ∨ (x.toInt < 0 ∨ 5 < x.toInt) := by omega
theorem sw1 (x : Int32) : x.toInt = 0 ∨ x.toInt = 1 ∨ (¬ x.toInt = 0 ∧ ¬ x.toInt = 1) := by omega
theorem v_X5_birthOf {E : En} {w : W0} {i : Int32} (h : hasW w i) : Mt E 1 yX5_birthOf cX5_birthOf 2 (some .int) [.ref (E.1 2), .int i] w (some (.int (w 17 i.toNatClampNeg))) w := by
  have z := t_X5_birthOf (E := E) (w := w) (i := i)
  rw [if_pos h] at z
  exact z
theorem v_X5_deathOf {E : En} {w : W0} {i : Int32} (h : hasW w i) : Mt E 1 yX5_deathOf cX5_deathOf 2 (some .int) [.ref (E.1 2), .int i] w (some (.int (w 18 i.toNatClampNeg))) w := by
  have z := t_X5_deathOf (E := E) (w := w) (i := i)
  rw [if_pos h] at z
  exact z
theorem v_X5_fullAgeOf {E : En} {w : W0} {i : Int32} (h : hasW w i) : Mt E 1 yX5_fullAgeOf cX5_fullAgeOf 2 (some .int) [.ref (E.1 2), .int i] w (some (.int (w 19 i.toNatClampNeg))) w := by
  have z := t_X5_fullAgeOf (E := E) (w := w) (i := i)
  rw [if_pos h] at z
  exact z
theorem v_X5_givenOverOf {E : En} {w : W0} {i : Int32} (h : hasW w i) : Mt E 1 yX5_givenOverOf cX5_givenOverOf 2 (some .int) [.ref (E.1 2), .int i] w (some (.int (w 20 i.toNatClampNeg))) w := by
  have z := t_X5_givenOverOf (E := E) (w := w) (i := i)
  rw [if_pos h] at z
  exact z
theorem v_X5_shareOf {E : En} {w : W0} {i : Int32} (h : hasW w i) : Mt E 1 yX5_shareOf cX5_shareOf 2 (some .int) [.ref (E.1 2), .int i] w (some (.int (w 21 i.toNatClampNeg))) w := by
  have z := t_X5_shareOf (E := E) (w := w) (i := i)
  rw [if_pos h] at z
  exact z
theorem v_X5_setDeath {E : En} {w : W0} {i x : Int32} (h : hasW w i) : Mt E 1 yX5_setDeath cX5_setDeath 3 none [.ref (E.1 2), .int i, .int x] w none (setW w 18 i.toNatClampNeg x) := by
  have z := t_X5_setDeath (E := E) (w := w) (i := i) (x := x)
  rw [if_pos h] at z
  exact z
set_option maxRecDepth 20000 in
theorem t_X6_settle {E : En} {w : W0} {nl nw ni : Nat} (hcl : w 1 2 = nI nl) (hnl : nl ≤ 8) (hcw : w 2 5 = nI nw) (hnw : nw ≤ 6) (hci : w 4 7 = nI ni) (hni : ni ≤ 60) : Mt E 6 yX6_settle cX6_settle 1 (none) [.ref (E.1 0)] w none (setlW w nl nw ni) := by
  refine Mt.of (by decide +kernel) (Nat.le_of_ble_eq_true rfl) ?_
  show G E 6 RX6 cX6_settle 1 (none) _ _ 0 [(0, .ref (E.1 0))] [] w
  refine g_aload_n 0 dX6_settle_0 rfl rfl ?_
  refine gf_X6_67 dX6_settle_1 ?_
  refine g_if_ne 8 dX6_settle_4 (by decide) (fun h4 => ?_) (fun h4 => ?_)
  · refine g_aload_n 0 dX6_settle_8 rfl rfl ?_
    refine gf_X6_19 dX6_settle_9 ?_
    refine g_aload_n 0 dX6_settle_12 rfl rfl ?_
    refine gf_X6_10 dX6_settle_13 ?_
    refine ca_X6_188 dX6_settle_16 (t_X5_settleDays hcw hnw hcl hnl) (by decide) (Nat.le_of_ble_eq_true rfl) ?_
    refine g_aload_n 0 dX6_settle_19 rfl rfl ?_
    refine gf_X6_33 dX6_settle_20 ?_
    refine g_aload_n 0 dX6_settle_23 rfl rfl ?_
    refine gf_X6_10 dX6_settle_24 ?_
    refine g_aload_n 0 dX6_settle_27 rfl rfl ?_
    refine gf_X6_26 dX6_settle_28 ?_
    refine ca_X6_192 dX6_settle_31 (t_X1_settleAllowed (ni := ni) (nl := nl) (by rw [daysF_ne (by decide) (by decide) (by decide)]; exact hci) hni (by rw [daysF_ne (by decide) (by decide) (by decide)]; exact hcl) hnl) (by decide) (Nat.le_of_ble_eq_true rfl) ?_
    refine g_aload_n 0 dX6_settle_34 rfl rfl ?_
    refine gf_X6_47 dX6_settle_35 ?_
    refine g_aload_n 0 dX6_settle_38 rfl rfl ?_
    refine gf_X6_10 dX6_settle_39 ?_
    refine g_aload_n 0 dX6_settle_42 rfl rfl ?_
    refine gf_X6_19 dX6_settle_43 ?_
    refine g_aload_n 0 dX6_settle_46 rfl rfl ?_
    refine gf_X6_33 dX6_settle_47 ?_
    refine ca_X6_196 dX6_settle_50 (t_X0_reckon (nl := nl) (nw := nw) (ni := ni) (by rw [alW_ne (by decide), daysF_ne (by decide) (by decide) (by decide)]; exact hcl) hnl (by rw [alW_ne (by decide), daysF_ne (by decide) (by decide) (by decide)]; exact hcw) hnw (by rw [alW_ne (by decide), daysF_ne (by decide) (by decide) (by decide)]; exact hci) hni) (by decide) (Nat.le_of_ble_eq_true rfl) ?_
    refine g_aload_n 0 dX6_settle_53 rfl rfl ?_
    refine g_iconst 0 dX6_settle_54 rfl ?_
    refine pf_X6_67 dX6_settle_55 rfl rfl ?_
    refine g_vret dX6_settle_58 rfl rfl ?_
    · unfold setlW; first | (rw [if_pos h4]; done) | (rw [if_neg h4]; rfl)
  · refine g_vret dX6_settle_7 rfl rfl ?_
    · unfold setlW; first | (rw [if_pos h4]; done) | (rw [if_neg h4]; rfl)
abbrev lawP (day age idle rate free term : Int32) : Prop := dayP day ∧ (10 ≤ age.toInt ∧ age.toInt ≤ 30) ∧ (0 ≤ idle.toInt ∧ idle.toInt ≤ 10000) ∧ (0 ≤ rate.toInt ∧ rate.toInt ≤ 100) ∧ (0 ≤ free.toInt ∧ free.toInt ≤ 10000) ∧ (0 ≤ term.toInt ∧ term.toInt ≤ 10)
def lawW (w : W0) (n : Nat) (day a b c e f : Int32) : W0 := setW (setW (setW (setW (setW (setW (setW (setW w 7 n day) (9 + n) 0 a) (9 + n) 1 b) (9 + n) 2 c) (9 + n) 3 e) (9 + n) 4 f) 1 2 (nI (n + 1))) 0 6 1
set_option maxRecDepth 20000 in
theorem t_X6_law {E : En} {w : W0} {nl : Nat} {day a b c e f : Int32} (hcl : w 1 2 = nI nl) (hnl : nl ≤ 8) : Mt E 2 yX6_law cX6_law 7 (some .int) [.ref (E.1 0), .int day, .int a, .int b, .int c, .int e, .int f] w (some (.int (if lawP day a b c e f then (if 8 ≤ nl then -4 else nI (nl + 1)) else -2))) (if lawP day a b c e f ∧ ¬ 8 ≤ nl then lawW w nl day a b c e f else w) := by
  refine Mt.of (by decide +kernel) (Nat.le_of_ble_eq_true rfl) ?_
  show G E 2 RX6 cX6_law 7 (some .int) _ _ 0 [(0, .ref (E.1 0)), (1, .int day), (2, .int a), (3, .int b), (4, .int c), (5, .int e), (6, .int f)] [] w
  have hclI : (w 1 2).toInt = (nl : Int) := by rw [hcl]; exact nI_toInt (by omega)
  refine g_iload_n 1 dX6_law_0 rfl rfl ?_
  refine ca_X6_51 dX6_law_1 (t_X6_isDay) (by decide) (Nat.le_of_ble_eq_true rfl) ?_
  refine g_if_eqb 63 dX6_law_4 (by decide) (fun h4 => ?_) (fun h4 => ?_)
  · refine g_bipush (-2) dX6_law_63 rfl ?_
    refine g_iret dX6_law_65 rfl rfl ?_ ?_
    · (repeat' split) <;> first | rfl | (exfalso; omega) | (exfalso; simp_all; done) | (exfalso; simp_all; omega)
    · (repeat' split) <;> first | rfl | (exfalso; omega) | (exfalso; simp_all; done) | (exfalso; simp_all; omega)
  · refine g_iload_n 2 dX6_law_7 rfl rfl ?_
    refine g_bipush 10 dX6_law_8 rfl ?_
    refine g_bipush 30 dX6_law_10 rfl ?_
    refine ca_X6_55 dX6_law_12 (t_X6_within 10 30 rfl rfl) (by decide) (Nat.le_of_ble_eq_true rfl) ?_
    refine g_if_eqb 63 dX6_law_15 (by decide) (fun h15 => ?_) (fun h15 => ?_)
    · refine g_bipush (-2) dX6_law_63 rfl ?_
      refine g_iret dX6_law_65 rfl rfl ?_ ?_
      · (repeat' split) <;> first | rfl | (exfalso; omega) | (exfalso; simp_all; done) | (exfalso; simp_all; omega)
      · (repeat' split) <;> first | rfl | (exfalso; omega) | (exfalso; simp_all; done) | (exfalso; simp_all; omega)
    · refine g_iload_n 3 dX6_law_18 rfl rfl ?_
      refine g_iconst 0 dX6_law_19 rfl ?_
      refine g_sipush 10000 dX6_law_20 rfl ?_
      refine ca_X6_55 dX6_law_23 (t_X6_within 0 10000 rfl rfl) (by decide) (Nat.le_of_ble_eq_true rfl) ?_
      refine g_if_eqb 63 dX6_law_26 (by decide) (fun h26 => ?_) (fun h26 => ?_)
      · refine g_bipush (-2) dX6_law_63 rfl ?_
        refine g_iret dX6_law_65 rfl rfl ?_ ?_
        · (repeat' split) <;> first | rfl | (exfalso; omega) | (exfalso; simp_all; done) | (exfalso; simp_all; omega)
        · (repeat' split) <;> first | rfl | (exfalso; omega) | (exfalso; simp_all; done) | (exfalso; simp_all; omega)
      · refine g_iload 4 dX6_law_29 rfl ?_
        refine g_iconst 0 dX6_law_31 rfl ?_
        refine g_bipush 100 dX6_law_32 rfl ?_
        refine ca_X6_55 dX6_law_34 (t_X6_within 0 100 rfl rfl) (by decide) (Nat.le_of_ble_eq_true rfl) ?_
        refine g_if_eqb 63 dX6_law_37 (by decide) (fun h37 => ?_) (fun h37 => ?_)
        · refine g_bipush (-2) dX6_law_63 rfl ?_
          refine g_iret dX6_law_65 rfl rfl ?_ ?_
          · (repeat' split) <;> first | rfl | (exfalso; omega) | (exfalso; simp_all; done) | (exfalso; simp_all; omega)
          · (repeat' split) <;> first | rfl | (exfalso; omega) | (exfalso; simp_all; done) | (exfalso; simp_all; omega)
        · refine g_iload 5 dX6_law_40 rfl ?_
          refine g_iconst 0 dX6_law_42 rfl ?_
          refine g_sipush 10000 dX6_law_43 rfl ?_
          refine ca_X6_55 dX6_law_46 (t_X6_within 0 10000 rfl rfl) (by decide) (Nat.le_of_ble_eq_true rfl) ?_
          refine g_if_eqb 63 dX6_law_49 (by decide) (fun h49 => ?_) (fun h49 => ?_)
          · refine g_bipush (-2) dX6_law_63 rfl ?_
            refine g_iret dX6_law_65 rfl rfl ?_ ?_
            · (repeat' split) <;> first | rfl | (exfalso; omega) | (exfalso; simp_all; done) | (exfalso; simp_all; omega)
            · (repeat' split) <;> first | rfl | (exfalso; omega) | (exfalso; simp_all; done) | (exfalso; simp_all; omega)
          · refine g_iload 6 dX6_law_52 rfl ?_
            refine g_iconst 0 dX6_law_54 rfl ?_
            refine g_bipush 10 dX6_law_55 rfl ?_
            refine ca_X6_55 dX6_law_57 (t_X6_within 0 10 rfl rfl) (by decide) (Nat.le_of_ble_eq_true rfl) ?_
            refine g_if_neb 66 dX6_law_60 (by decide) (fun h60 => ?_) (fun h60 => ?_)
            · refine g_aload_n 0 dX6_law_66 rfl rfl ?_
              refine gf_X6_10 dX6_law_67 ?_
              refine gf_X6_59 dX6_law_70 ?_
              refine g_bipush 8 dX6_law_73 rfl ?_
              refine g_icmp_lt 81 _ 8 dX6_law_75 (by decide) rfl rfl (fun h75 => ?_) (fun h75 => ?_)
              · refine g_aload_n 0 dX6_law_81 rfl rfl ?_
                refine gf_X6_10 dX6_law_82 ?_
                refine g_iload_n 1 dX6_law_85 rfl rfl ?_
                refine g_iload_n 2 dX6_law_86 rfl rfl ?_
                refine g_iload_n 3 dX6_law_87 rfl rfl ?_
                refine g_iload 4 dX6_law_88 rfl ?_
                refine g_iload 5 dX6_law_90 rfl ?_
                refine g_iload 6 dX6_law_92 rfl ?_
                refine ca_X6_63 dX6_law_94 (t_X2_add hcl (by omega)) (by decide) (Nat.le_of_ble_eq_true rfl) ?_
                (try simp (disch := omega) only [setW_ne, setW_p, setA_ne, setA_p, upd_self, lpF_setA, lpF_setW, limC_setA, limC_setW])
                refine g_aload_n 0 dX6_law_97 rfl rfl ?_
                refine g_iconst 1 dX6_law_98 rfl ?_
                refine pf_X6_67 dX6_law_99 rfl rfl ?_
                (try simp (disch := omega) only [setW_setA, setW_setA_ne])
                refine g_aload_n 0 dX6_law_102 rfl rfl ?_
                refine gf_X6_10 dX6_law_103 ?_
                refine gf_X6_59 dX6_law_106 ?_
                (try simp (disch := omega) only [setW_ne, setW_p, setA_ne, setA_p, upd_self, lpF_setA, lpF_setW, limC_setA, limC_setW])
                refine g_iret dX6_law_109 rfl rfl ?_ ?_
                · (repeat' split) <;> first | rfl | (exfalso; omega) | (exfalso; simp_all; done) | (exfalso; simp_all; omega)
                · (repeat' split) <;> first | rfl | (exfalso; omega) | (exfalso; simp_all; done) | (exfalso; simp_all; omega)
              · refine g_bipush (-4) dX6_law_78 rfl ?_
                refine g_iret dX6_law_80 rfl rfl ?_ ?_
                · (repeat' split) <;> first | rfl | (exfalso; omega) | (exfalso; simp_all; done) | (exfalso; simp_all; omega)
                · (repeat' split) <;> first | rfl | (exfalso; omega) | (exfalso; simp_all; done) | (exfalso; simp_all; omega)
            · refine g_bipush (-2) dX6_law_63 rfl ?_
              refine g_iret dX6_law_65 rfl rfl ?_ ?_
              · (repeat' split) <;> first | rfl | (exfalso; omega) | (exfalso; simp_all; done) | (exfalso; simp_all; omega)
              · (repeat' split) <;> first | rfl | (exfalso; omega) | (exfalso; simp_all; done) | (exfalso; simp_all; omega)
set_option maxRecDepth 20000 in
theorem t_X6_force {E : En} {w : W0} {nl : Nat} {day z : Int32} (hcl : w 1 2 = nI nl) (hnl : nl ≤ 8) : Mt E 2 yX6_force cX6_force 3 (some .int) [.ref (E.1 0), .int day, .int z] w (some (.int (if dayP day ∧ (0 ≤ z.toInt ∧ z.toInt ≤ 4) then lawF (w 7) (lpF w) nl day z.toNatClampNeg else -2))) w := by
  refine Mt.of (by decide +kernel) (Nat.le_of_ble_eq_true rfl) ?_
  show G E 2 RX6 cX6_force 3 (some .int) _ _ 0 [(0, .ref (E.1 0)), (1, .int day), (2, .int z)] [] w
  have hclI : (w 1 2).toInt = (nl : Int) := by rw [hcl]; exact nI_toInt (by omega)
  refine g_iload_n 1 dX6_force_0 rfl rfl ?_
  refine ca_X6_51 dX6_force_1 (t_X6_isDay) (by decide) (Nat.le_of_ble_eq_true rfl) ?_
  refine g_if_eqb 16 dX6_force_4 (by decide) (fun h4 => ?_) (fun h4 => ?_)
  · refine g_bipush (-2) dX6_force_16 rfl ?_
    refine g_iret dX6_force_18 rfl rfl ?_ ?_
    · (repeat' split) <;> first | rfl | (exfalso; omega) | (exfalso; simp_all; done) | (exfalso; simp_all; omega)
    · (repeat' split) <;> first | rfl | (exfalso; omega) | (exfalso; simp_all; done) | (exfalso; simp_all; omega)
  · refine g_iload_n 2 dX6_force_7 rfl rfl ?_
    refine g_iconst 0 dX6_force_8 rfl ?_
    refine g_iconst 4 dX6_force_9 rfl ?_
    refine ca_X6_55 dX6_force_10 (t_X6_within 0 4 rfl rfl) (by decide) (Nat.le_of_ble_eq_true rfl) ?_
    refine g_if_neb 19 dX6_force_13 (by decide) (fun h13 => ?_) (fun h13 => ?_)
    · refine g_aload_n 0 dX6_force_19 rfl rfl ?_
      refine gf_X6_10 dX6_force_20 ?_
      refine g_iload_n 1 dX6_force_23 rfl rfl ?_
      refine g_iload_n 2 dX6_force_24 rfl rfl ?_
      refine ca_X6_71 dX6_force_25 (t_X2_inForce hcl hnl (toNat_back (by omega)) (nat_lt (by omega) (by omega))) (by decide) (Nat.le_of_ble_eq_true rfl) ?_
      refine g_iret dX6_force_28 rfl rfl ?_ ?_
      · (repeat' split) <;> first | rfl | (exfalso; omega) | (exfalso; simp_all; done) | (exfalso; simp_all; omega)
      · (repeat' split) <;> first | rfl | (exfalso; omega) | (exfalso; simp_all; done) | (exfalso; simp_all; omega)
    · refine g_bipush (-2) dX6_force_16 rfl ?_
      refine g_iret dX6_force_18 rfl rfl ?_ ?_
      · (repeat' split) <;> first | rfl | (exfalso; omega) | (exfalso; simp_all; done) | (exfalso; simp_all; omega)
      · (repeat' split) <;> first | rfl | (exfalso; omega) | (exfalso; simp_all; done) | (exfalso; simp_all; omega)
def wardW (w : W0) (n : Nat) (x : Int32) : W0 := setW (setW (setW (setW (setW (setW w 17 n x) 18 n (-6)) 19 n (-6)) 20 n (-6)) 2 5 (nI (n + 1))) 0 6 1
abbrev bornP (x : Int32) : Prop := -10800 ≤ x.toInt ∧ x.toInt ≤ 3599
set_option maxRecDepth 20000 in
theorem t_X6_ward {E : En} {w : W0} {nw : Nat} {x : Int32} (hcw : w 2 5 = nI nw) (hnw : nw ≤ 6) : Mt E 2 yX6_ward cX6_ward 2 (some .int) [.ref (E.1 0), .int x] w (some (.int (if bornP x then (if 6 ≤ nw then -4 else nI nw) else -2))) (if bornP x ∧ ¬ 6 ≤ nw then wardW w nw x else w) := by
  refine Mt.of (by decide +kernel) (Nat.le_of_ble_eq_true rfl) ?_
  show G E 2 RX6 cX6_ward 2 (some .int) _ _ 0 [(0, .ref (E.1 0)), (1, .int x)] [] w
  have hcwI : (w 2 5).toInt = (nw : Int) := by rw [hcw]; exact nI_toInt (by omega)
  refine g_iload_n 1 dX6_ward_0 rfl rfl ?_
  refine g_sipush (-10800) dX6_ward_1 rfl ?_
  refine g_sipush 3599 dX6_ward_4 rfl ?_
  refine ca_X6_55 dX6_ward_7 (t_X6_within (-10800) 3599 rfl rfl) (by decide) (Nat.le_of_ble_eq_true rfl) ?_
  refine g_if_neb 16 dX6_ward_10 (by decide) (fun h10 => ?_) (fun h10 => ?_)
  · refine g_aload_n 0 dX6_ward_16 rfl rfl ?_
    refine gf_X6_19 dX6_ward_17 ?_
    refine gf_X6_75 dX6_ward_20 ?_
    refine g_bipush 6 dX6_ward_23 rfl ?_
    refine g_icmp_lt 31 _ 6 dX6_ward_25 (by decide) rfl rfl (fun h25 => ?_) (fun h25 => ?_)
    · refine g_aload_n 0 dX6_ward_31 rfl rfl ?_
      refine gf_X6_19 dX6_ward_32 ?_
      refine g_iload_n 1 dX6_ward_35 rfl rfl ?_
      refine ca_X6_76 dX6_ward_36 (t_X5_add hcw (by omega)) (by decide) (Nat.le_of_ble_eq_true rfl) ?_
      (try simp (disch := omega) only [setW_ne, setW_p, setA_ne, setA_p, upd_self, lpF_setA, lpF_setW, limC_setA, limC_setW])
      refine g_aload_n 0 dX6_ward_39 rfl rfl ?_
      refine g_iconst 1 dX6_ward_40 rfl ?_
      refine pf_X6_67 dX6_ward_41 rfl rfl ?_
      (try simp (disch := omega) only [setW_setA, setW_setA_ne])
      refine g_aload_n 0 dX6_ward_44 rfl rfl ?_
      refine gf_X6_19 dX6_ward_45 ?_
      refine gf_X6_75 dX6_ward_48 ?_
      (try simp (disch := omega) only [setW_ne, setW_p, setA_ne, setA_p, upd_self, lpF_setA, lpF_setW, limC_setA, limC_setW])
      refine g_iconst 1 dX6_ward_51 rfl ?_
      refine g_isub dX6_ward_52 ?_
      rw [nI_pred]
      refine g_iret dX6_ward_53 rfl rfl ?_ ?_
      · (repeat' split) <;> first | rfl | (exfalso; omega) | (exfalso; simp_all; done) | (exfalso; simp_all; omega)
      · (repeat' split) <;> first | rfl | (exfalso; omega) | (exfalso; simp_all; done) | (exfalso; simp_all; omega)
    · refine g_bipush (-4) dX6_ward_28 rfl ?_
      refine g_iret dX6_ward_30 rfl rfl ?_ ?_
      · (repeat' split) <;> first | rfl | (exfalso; omega) | (exfalso; simp_all; done) | (exfalso; simp_all; omega)
      · (repeat' split) <;> first | rfl | (exfalso; omega) | (exfalso; simp_all; done) | (exfalso; simp_all; omega)
  · refine g_bipush (-2) dX6_ward_13 rfl ?_
    refine g_iret dX6_ward_15 rfl rfl ?_ ?_
    · (repeat' split) <;> first | rfl | (exfalso; omega) | (exfalso; simp_all; done) | (exfalso; simp_all; omega)
    · (repeat' split) <;> first | rfl | (exfalso; omega) | (exfalso; simp_all; done) | (exfalso; simp_all; omega)
abbrev badD (w : W0) (i day : Int32) : Prop := ¬ day = -1 ∧ (¬ dayP day ∨ day.toInt < (w 17 i.toNatClampNeg).toInt)
def diesW (w : W0) (i day : Int32) : W0 := setW (setW w 18 i.toNatClampNeg (if day = -1 then -6 else day)) 0 6 1
set_option maxRecDepth 20000 in
theorem t_X6_dies {E : En} {w : W0} {i day : Int32} : Mt E 2 yX6_dies cX6_dies 4 (some .int) [.ref (E.1 0), .int i, .int day] w (some (.int (if hasW w i then (if badD w i day then -2 else w 18 i.toNatClampNeg) else -1))) (if hasW w i ∧ ¬ badD w i day then diesW w i day else w) := by
  refine Mt.of (by decide +kernel) (Nat.le_of_ble_eq_true rfl) ?_
  show G E 2 RX6 cX6_dies 4 (some .int) _ _ 0 [(0, .ref (E.1 0)), (1, .int i), (2, .int day)] [] w
  refine g_aload_n 0 dX6_dies_0 rfl rfl ?_
  refine gf_X6_19 dX6_dies_1 ?_
  refine g_iload_n 1 dX6_dies_4 rfl rfl ?_
  refine ca_X6_79 dX6_dies_5 (t_X5_has) (by decide) (Nat.le_of_ble_eq_true rfl) ?_
  refine g_if_neb 13 dX6_dies_8 (by decide) (fun h8 => ?_) (fun h8 => ?_)
  · refine g_iload_n 2 dX6_dies_13 rfl rfl ?_
    refine g_iconst (-1) dX6_dies_14 rfl ?_
    refine g_icmp_eq 40 dX6_dies_15 (by decide) (fun h15 => ?_) (fun h15 => ?_)
    · refine g_aload_n 0 dX6_dies_40 rfl rfl ?_
      refine gf_X6_19 dX6_dies_41 ?_
      refine g_iload_n 1 dX6_dies_44 rfl rfl ?_
      refine ca_X6_86 dX6_dies_45 (v_X5_deathOf h8) (by decide) (Nat.le_of_ble_eq_true rfl) ?_
      refine g_istN_n dX6_dies_48 rfl (by decide) rfl ?_
      refine g_aload_n 1 dX6_dies_49 rfl rfl ?_
      refine gf_X6_19 dX6_dies_50 ?_
      refine g_iload_n 2 dX6_dies_53 rfl rfl ?_
      refine g_iload_n 3 dX6_dies_54 rfl rfl ?_
      refine g_iconst (-1) dX6_dies_55 rfl ?_
      refine g_icmp_ne 64 dX6_dies_56 (by decide) (fun h56 => ?_) (fun h56 => ?_)
      · refine g_iload_n 3 dX6_dies_64 rfl rfl ?_
        refine ca_X6_89 dX6_dies_65 (v_X5_setDeath h8) (by decide) (Nat.le_of_ble_eq_true rfl) ?_
        (try simp (disch := omega) only [setW_ne, setW_p, setA_ne, setA_p, upd_self, lpF_setA, lpF_setW, limC_setA, limC_setW])
        refine g_aload_n 1 dX6_dies_68 rfl rfl ?_
        refine g_iconst 1 dX6_dies_69 rfl ?_
        refine pf_X6_67 dX6_dies_70 rfl rfl ?_
        (try simp (disch := omega) only [setW_setA, setW_setA_ne])
        refine g_iload_n 0 dX6_dies_73 rfl rfl ?_
        refine g_iret dX6_dies_74 rfl rfl ?_ ?_
        · (repeat' split) <;> first | rfl | (exfalso; omega) | (exfalso; simp_all; done) | (exfalso; simp_all; omega)
        · (try unfold diesW); (repeat' split) <;> first | rfl | (exfalso; omega) | (exfalso; simp_all; done) | (exfalso; simp_all; omega)
      · refine g_bipush (-6) dX6_dies_59 rfl ?_
        refine g_goto 65 dX6_dies_61 (by decide) ?_
        refine ca_X6_89 dX6_dies_65 (v_X5_setDeath h8) (by decide) (Nat.le_of_ble_eq_true rfl) ?_
        (try simp (disch := omega) only [setW_ne, setW_p, setA_ne, setA_p, upd_self, lpF_setA, lpF_setW, limC_setA, limC_setW])
        refine g_aload_n 1 dX6_dies_68 rfl rfl ?_
        refine g_iconst 1 dX6_dies_69 rfl ?_
        refine pf_X6_67 dX6_dies_70 rfl rfl ?_
        (try simp (disch := omega) only [setW_setA, setW_setA_ne])
        refine g_iload_n 0 dX6_dies_73 rfl rfl ?_
        refine g_iret dX6_dies_74 rfl rfl ?_ ?_
        · (repeat' split) <;> first | rfl | (exfalso; omega) | (exfalso; simp_all; done) | (exfalso; simp_all; omega)
        · (try unfold diesW); (repeat' split) <;> first | rfl | (exfalso; omega) | (exfalso; simp_all; done) | (exfalso; simp_all; omega)
    · refine g_iload_n 2 dX6_dies_18 rfl rfl ?_
      refine ca_X6_51 dX6_dies_19 (t_X6_isDay) (by decide) (Nat.le_of_ble_eq_true rfl) ?_
      refine g_if_eqb 37 dX6_dies_22 (by decide) (fun h22 => ?_) (fun h22 => ?_)
      · refine g_bipush (-2) dX6_dies_37 rfl ?_
        refine g_iret dX6_dies_39 rfl rfl ?_ ?_
        · (repeat' split) <;> first | rfl | (exfalso; omega) | (exfalso; simp_all; done) | (exfalso; simp_all; omega)
        · (try unfold diesW); (repeat' split) <;> first | rfl | (exfalso; omega) | (exfalso; simp_all; done) | (exfalso; simp_all; omega)
      · refine g_iload_n 2 dX6_dies_25 rfl rfl ?_
        refine g_aload_n 0 dX6_dies_26 rfl rfl ?_
        refine gf_X6_19 dX6_dies_27 ?_
        refine g_iload_n 1 dX6_dies_30 rfl rfl ?_
        refine ca_X6_82 dX6_dies_31 (v_X5_birthOf h8) (by decide) (Nat.le_of_ble_eq_true rfl) ?_
        refine g_icmp_ge 40 _ _ dX6_dies_34 (by decide) rfl rfl (fun h34 => ?_) (fun h34 => ?_)
        · refine g_aload_n 0 dX6_dies_40 rfl rfl ?_
          refine gf_X6_19 dX6_dies_41 ?_
          refine g_iload_n 1 dX6_dies_44 rfl rfl ?_
          refine ca_X6_86 dX6_dies_45 (v_X5_deathOf h8) (by decide) (Nat.le_of_ble_eq_true rfl) ?_
          refine g_istN_n dX6_dies_48 rfl (by decide) rfl ?_
          refine g_aload_n 1 dX6_dies_49 rfl rfl ?_
          refine gf_X6_19 dX6_dies_50 ?_
          refine g_iload_n 2 dX6_dies_53 rfl rfl ?_
          refine g_iload_n 3 dX6_dies_54 rfl rfl ?_
          refine g_iconst (-1) dX6_dies_55 rfl ?_
          refine g_icmp_ne 64 dX6_dies_56 (by decide) (fun h56 => ?_) (fun h56 => ?_)
          · refine g_iload_n 3 dX6_dies_64 rfl rfl ?_
            refine ca_X6_89 dX6_dies_65 (v_X5_setDeath h8) (by decide) (Nat.le_of_ble_eq_true rfl) ?_
            (try simp (disch := omega) only [setW_ne, setW_p, setA_ne, setA_p, upd_self, lpF_setA, lpF_setW, limC_setA, limC_setW])
            refine g_aload_n 1 dX6_dies_68 rfl rfl ?_
            refine g_iconst 1 dX6_dies_69 rfl ?_
            refine pf_X6_67 dX6_dies_70 rfl rfl ?_
            (try simp (disch := omega) only [setW_setA, setW_setA_ne])
            refine g_iload_n 0 dX6_dies_73 rfl rfl ?_
            refine g_iret dX6_dies_74 rfl rfl ?_ ?_
            · (repeat' split) <;> first | rfl | (exfalso; omega) | (exfalso; simp_all; done) | (exfalso; simp_all; omega)
            · (try unfold diesW); (repeat' split) <;> first | rfl | (exfalso; omega) | (exfalso; simp_all; done) | (exfalso; simp_all; omega)
          · refine g_bipush (-6) dX6_dies_59 rfl ?_
            refine g_goto 65 dX6_dies_61 (by decide) ?_
            refine ca_X6_89 dX6_dies_65 (v_X5_setDeath h8) (by decide) (Nat.le_of_ble_eq_true rfl) ?_
            (try simp (disch := omega) only [setW_ne, setW_p, setA_ne, setA_p, upd_self, lpF_setA, lpF_setW, limC_setA, limC_setW])
            refine g_aload_n 1 dX6_dies_68 rfl rfl ?_
            refine g_iconst 1 dX6_dies_69 rfl ?_
            refine pf_X6_67 dX6_dies_70 rfl rfl ?_
            (try simp (disch := omega) only [setW_setA, setW_setA_ne])
            refine g_iload_n 0 dX6_dies_73 rfl rfl ?_
            refine g_iret dX6_dies_74 rfl rfl ?_ ?_
            · (repeat' split) <;> first | rfl | (exfalso; omega) | (exfalso; simp_all; done) | (exfalso; simp_all; omega)
            · (try unfold diesW); (repeat' split) <;> first | rfl | (exfalso; omega) | (exfalso; simp_all; done) | (exfalso; simp_all; omega)
        · refine g_bipush (-2) dX6_dies_37 rfl ?_
          refine g_iret dX6_dies_39 rfl rfl ?_ ?_
          · (repeat' split) <;> first | rfl | (exfalso; omega) | (exfalso; simp_all; done) | (exfalso; simp_all; omega)
          · (try unfold diesW); (repeat' split) <;> first | rfl | (exfalso; omega) | (exfalso; simp_all; done) | (exfalso; simp_all; omega)
  · refine g_iconst (-1) dX6_dies_11 rfl ?_
    refine g_iret dX6_dies_12 rfl rfl ?_ ?_
    · (repeat' split) <;> first | rfl | (exfalso; omega) | (exfalso; simp_all; done) | (exfalso; simp_all; omega)
    · (try unfold diesW); (repeat' split) <;> first | rfl | (exfalso; omega) | (exfalso; simp_all; done) | (exfalso; simp_all; omega)
def aboutF (w : W0) (i what : Int32) : Int32 := if what.toInt = 0 then w 17 i.toNatClampNeg else if what.toInt = 1 then w 18 i.toNatClampNeg else if what.toInt = 2 then w 19 i.toNatClampNeg else if what.toInt = 3 then w 20 i.toNatClampNeg else if what.toInt = 4 then w 21 i.toNatClampNeg else -100000002
set_option maxRecDepth 20000 in
theorem t_X6_about {E : En} {w : W0} {nl nw ni : Nat} (hcl : w 1 2 = nI nl) (hnl : nl ≤ 8) (hcw : w 2 5 = nI nw) (hnw : nw ≤ 6) (hci : w 4 7 = nI ni) (hni : ni ≤ 60) {i what : Int32} : Mt E 7 yX6_about cX6_about 3 (some .int) [.ref (E.1 0), .int i, .int what] w (some (.int (if hasW w i then aboutF (setlW w nl nw ni) i what else -100000001))) (if hasW w i then setlW w nl nw ni else w) := by
  refine Mt.of (by decide +kernel) (Nat.le_of_ble_eq_true rfl) ?_
  show G E 7 RX6 cX6_about 3 (some .int) _ _ 0 [(0, .ref (E.1 0)), (1, .int i), (2, .int what)] [] w
  refine g_aload_n 0 dX6_about_0 rfl rfl ?_
  refine gf_X6_19 dX6_about_1 ?_
  refine g_iload_n 1 dX6_about_4 rfl rfl ?_
  refine ca_X6_79 dX6_about_5 (t_X5_has) (by decide) (Nat.le_of_ble_eq_true rfl) ?_
  refine g_if_neb 14 dX6_about_8 (by decide) (fun h8 => ?_) (fun h8 => ?_)
  · refine g_aload_n 0 dX6_about_14 rfl rfl ?_
    refine ca_X6_94 dX6_about_15 (t_X6_settle hcl hnl hcw hnw hci hni) (by decide) (Nat.le_of_ble_eq_true rfl) ?_
    refine g_iload_n 2 dX6_about_18 rfl rfl ?_
    rcases sw4 what with hsw | hsw | hsw | hsw | hsw | hsw
    · refine g_tableIn (off := 33) 52 dX6_about_19 (by rw [hsw]; decide) (by rw [hsw]; decide) (by rw [hsw]; rfl) (by decide) ?_
      refine g_aload_n 0 dX6_about_52 rfl rfl ?_
      refine gf_X6_19 dX6_about_53 ?_
      refine g_iload_n 1 dX6_about_56 rfl rfl ?_
      refine ca_X6_82 dX6_about_57 (v_X5_birthOf (show hasW (setlW w nl nw ni) i by unfold hasW; rw [setlW_ne (by decide)]; exact h8)) (by decide) (Nat.le_of_ble_eq_true rfl) ?_
      refine g_iret dX6_about_60 rfl rfl ?_ ?_
      · unfold aboutF; (repeat' split) <;> first | rfl | (exfalso; omega) | (exfalso; simp_all; done) | (exfalso; simp_all; omega)
      · (repeat' split) <;> first | rfl | (exfalso; omega) | (exfalso; simp_all; done) | (exfalso; simp_all; omega)
    · refine g_tableIn (off := 42) 61 dX6_about_19 (by rw [hsw]; decide) (by rw [hsw]; decide) (by rw [hsw]; rfl) (by decide) ?_
      refine g_aload_n 0 dX6_about_61 rfl rfl ?_
      refine gf_X6_19 dX6_about_62 ?_
      refine g_iload_n 1 dX6_about_65 rfl rfl ?_
      refine ca_X6_86 dX6_about_66 (v_X5_deathOf (show hasW (setlW w nl nw ni) i by unfold hasW; rw [setlW_ne (by decide)]; exact h8)) (by decide) (Nat.le_of_ble_eq_true rfl) ?_
      refine g_iret dX6_about_69 rfl rfl ?_ ?_
      · unfold aboutF; (repeat' split) <;> first | rfl | (exfalso; omega) | (exfalso; simp_all; done) | (exfalso; simp_all; omega)
      · (repeat' split) <;> first | rfl | (exfalso; omega) | (exfalso; simp_all; done) | (exfalso; simp_all; omega)
    · refine g_tableIn (off := 51) 70 dX6_about_19 (by rw [hsw]; decide) (by rw [hsw]; decide) (by rw [hsw]; rfl) (by decide) ?_
      refine g_aload_n 0 dX6_about_70 rfl rfl ?_
      refine gf_X6_19 dX6_about_71 ?_
      refine g_iload_n 1 dX6_about_74 rfl rfl ?_
      refine ca_X6_97 dX6_about_75 (v_X5_fullAgeOf (show hasW (setlW w nl nw ni) i by unfold hasW; rw [setlW_ne (by decide)]; exact h8)) (by decide) (Nat.le_of_ble_eq_true rfl) ?_
      refine g_iret dX6_about_78 rfl rfl ?_ ?_
      · unfold aboutF; (repeat' split) <;> first | rfl | (exfalso; omega) | (exfalso; simp_all; done) | (exfalso; simp_all; omega)
      · (repeat' split) <;> first | rfl | (exfalso; omega) | (exfalso; simp_all; done) | (exfalso; simp_all; omega)
    · refine g_tableIn (off := 60) 79 dX6_about_19 (by rw [hsw]; decide) (by rw [hsw]; decide) (by rw [hsw]; rfl) (by decide) ?_
      refine g_aload_n 0 dX6_about_79 rfl rfl ?_
      refine gf_X6_19 dX6_about_80 ?_
      refine g_iload_n 1 dX6_about_83 rfl rfl ?_
      refine ca_X6_100 dX6_about_84 (v_X5_givenOverOf (show hasW (setlW w nl nw ni) i by unfold hasW; rw [setlW_ne (by decide)]; exact h8)) (by decide) (Nat.le_of_ble_eq_true rfl) ?_
      refine g_iret dX6_about_87 rfl rfl ?_ ?_
      · unfold aboutF; (repeat' split) <;> first | rfl | (exfalso; omega) | (exfalso; simp_all; done) | (exfalso; simp_all; omega)
      · (repeat' split) <;> first | rfl | (exfalso; omega) | (exfalso; simp_all; done) | (exfalso; simp_all; omega)
    · refine g_tableIn (off := 69) 88 dX6_about_19 (by rw [hsw]; decide) (by rw [hsw]; decide) (by rw [hsw]; rfl) (by decide) ?_
      refine g_aload_n 0 dX6_about_88 rfl rfl ?_
      refine gf_X6_19 dX6_about_89 ?_
      refine g_iload_n 1 dX6_about_92 rfl rfl ?_
      refine ca_X6_103 dX6_about_93 (v_X5_shareOf (show hasW (setlW w nl nw ni) i by unfold hasW; rw [setlW_ne (by decide)]; exact h8)) (by decide) (Nat.le_of_ble_eq_true rfl) ?_
      refine g_iret dX6_about_96 rfl rfl ?_ ?_
      · unfold aboutF; (repeat' split) <;> first | rfl | (exfalso; omega) | (exfalso; simp_all; done) | (exfalso; simp_all; omega)
      · (repeat' split) <;> first | rfl | (exfalso; omega) | (exfalso; simp_all; done) | (exfalso; simp_all; omega)
    · refine g_tableOut 97 dX6_about_19 (by omega) (by decide) ?_
      refine g_ldc (-100000002) dX6_about_97 lk_X6_106 ?_
      refine g_iret dX6_about_99 rfl rfl ?_ ?_
      · unfold aboutF; (repeat' split) <;> first | rfl | (exfalso; omega) | (exfalso; simp_all; done) | (exfalso; simp_all; omega)
      · (repeat' split) <;> first | rfl | (exfalso; omega) | (exfalso; simp_all; done) | (exfalso; simp_all; omega)
  · refine g_ldc (-100000001) dX6_about_11 lk_X6_93 ?_
    refine g_iret dX6_about_13 rfl rfl ?_ ?_
    · unfold aboutF; (repeat' split) <;> first | rfl | (exfalso; omega) | (exfalso; simp_all; done) | (exfalso; simp_all; omega)
    · (repeat' split) <;> first | rfl | (exfalso; omega) | (exfalso; simp_all; done) | (exfalso; simp_all; omega)
set_option maxRecDepth 20000 in
theorem t_X6_heads {E : En} {w : W0} {nl nw ni : Nat} (hcl : w 1 2 = nI nl) (hnl : nl ≤ 8) (hcw : w 2 5 = nI nw) (hnw : nw ≤ 6) (hci : w 4 7 = nI ni) (hni : ni ≤ 60) {day : Int32} : Mt E 7 yX6_heads cX6_heads 2 (some .int) [.ref (E.1 0), .int day] w (some (.int (if dayP day then headsF (setlW w nl nw ni 17) (setlW w nl nw ni 18) (setlW w nl nw ni 20) day nw else -2))) (if dayP day then setlW w nl nw ni else w) := by
  refine Mt.of (by decide +kernel) (Nat.le_of_ble_eq_true rfl) ?_
  show G E 7 RX6 cX6_heads 2 (some .int) _ _ 0 [(0, .ref (E.1 0)), (1, .int day)] [] w
  refine g_iload_n 1 dX6_heads_0 rfl rfl ?_
  refine ca_X6_51 dX6_heads_1 (t_X6_isDay) (by decide) (Nat.le_of_ble_eq_true rfl) ?_
  refine g_if_neb 10 dX6_heads_4 (by decide) (fun h4 => ?_) (fun h4 => ?_)
  · refine g_aload_n 0 dX6_heads_10 rfl rfl ?_
    refine ca_X6_94 dX6_heads_11 (t_X6_settle hcl hnl hcw hnw hci hni) (by decide) (Nat.le_of_ble_eq_true rfl) ?_
    refine g_aload_n 0 dX6_heads_14 rfl rfl ?_
    refine gf_X6_19 dX6_heads_15 ?_
    refine g_iload_n 1 dX6_heads_18 rfl rfl ?_
    refine ca_X6_107 dX6_heads_19 (t_X5_headsOn (by rw [setlW_ne (by decide)]; exact hcw) hnw) (by decide) (Nat.le_of_ble_eq_true rfl) ?_
    refine g_iret dX6_heads_22 rfl rfl ?_ ?_
    · (repeat' split) <;> first | rfl | (exfalso; omega) | (exfalso; simp_all; done) | (exfalso; simp_all; omega)
    · (repeat' split) <;> first | rfl | (exfalso; omega) | (exfalso; simp_all; done) | (exfalso; simp_all; omega)
  · refine g_bipush (-2) dX6_heads_7 rfl ?_
    refine g_iret dX6_heads_9 rfl rfl ?_ ?_
    · (repeat' split) <;> first | rfl | (exfalso; omega) | (exfalso; simp_all; done) | (exfalso; simp_all; omega)
    · (repeat' split) <;> first | rfl | (exfalso; omega) | (exfalso; simp_all; done) | (exfalso; simp_all; omega)
def leaveW (w : W0) (n : Nat) (x : Int32) : W0 := setW (setW (setW w 22 n x) 23 n (-6)) 3 2 (nI (n + 1))
set_option maxRecDepth 20000 in
theorem t_X6_leave {E : En} {w : W0} {nv : Nat} {x : Int32} (hcv : w 3 2 = nI nv) (hnv : nv ≤ 10) : Mt E 2 yX6_leave cX6_leave 2 (some .int) [.ref (E.1 0), .int x] w (some (.int (if coinP x then (if 10 ≤ nv then -4 else nI nv) else -2))) (if coinP x ∧ ¬ 10 ≤ nv then leaveW w nv x else w) := by
  refine Mt.of (by decide +kernel) (Nat.le_of_ble_eq_true rfl) ?_
  show G E 2 RX6 cX6_leave 2 (some .int) _ _ 0 [(0, .ref (E.1 0)), (1, .int x)] [] w
  have hcvI : (w 3 2).toInt = (nv : Int) := by rw [hcv]; exact nI_toInt (by omega)
  refine g_iload_n 1 dX6_leave_0 rfl rfl ?_
  refine ca_X6_110 dX6_leave_1 (t_X6_isCoins) (by decide) (Nat.le_of_ble_eq_true rfl) ?_
  refine g_if_neb 10 dX6_leave_4 (by decide) (fun h4 => ?_) (fun h4 => ?_)
  · refine g_aload_n 0 dX6_leave_10 rfl rfl ?_
    refine gf_X6_26 dX6_leave_11 ?_
    refine gf_X6_113 dX6_leave_14 ?_
    refine g_bipush 10 dX6_leave_17 rfl ?_
    refine g_icmp_lt 25 _ 10 dX6_leave_19 (by decide) rfl rfl (fun h19 => ?_) (fun h19 => ?_)
    · refine g_aload_n 0 dX6_leave_25 rfl rfl ?_
      refine gf_X6_26 dX6_leave_26 ?_
      refine g_iload_n 1 dX6_leave_29 rfl rfl ?_
      refine ca_X6_114 dX6_leave_30 (t_X4_add hcv (by omega)) (by decide) (Nat.le_of_ble_eq_true rfl) ?_
      (try simp (disch := omega) only [setW_ne, setW_p, setA_ne, setA_p, upd_self, lpF_setA, lpF_setW, limC_setA, limC_setW])
      refine g_aload_n 0 dX6_leave_33 rfl rfl ?_
      refine gf_X6_26 dX6_leave_34 ?_
      refine gf_X6_113 dX6_leave_37 ?_
      (try simp (disch := omega) only [setW_ne, setW_p, setA_ne, setA_p, upd_self, lpF_setA, lpF_setW, limC_setA, limC_setW])
      refine g_iconst 1 dX6_leave_40 rfl ?_
      refine g_isub dX6_leave_41 ?_
      rw [nI_pred]
      refine g_iret dX6_leave_42 rfl rfl ?_ ?_
      · (repeat' split) <;> first | rfl | (exfalso; omega) | (exfalso; simp_all; done) | (exfalso; simp_all; omega)
      · (repeat' split) <;> first | rfl | (exfalso; omega) | (exfalso; simp_all; done) | (exfalso; simp_all; omega)
    · refine g_bipush (-4) dX6_leave_22 rfl ?_
      refine g_iret dX6_leave_24 rfl rfl ?_ ?_
      · (repeat' split) <;> first | rfl | (exfalso; omega) | (exfalso; simp_all; done) | (exfalso; simp_all; omega)
      · (repeat' split) <;> first | rfl | (exfalso; omega) | (exfalso; simp_all; done) | (exfalso; simp_all; omega)
  · refine g_bipush (-2) dX6_leave_7 rfl ?_
    refine g_iret dX6_leave_9 rfl rfl ?_ ?_
    · (repeat' split) <;> first | rfl | (exfalso; omega) | (exfalso; simp_all; done) | (exfalso; simp_all; omega)
    · (repeat' split) <;> first | rfl | (exfalso; omega) | (exfalso; simp_all; done) | (exfalso; simp_all; omega)
set_option maxRecDepth 20000 in
theorem t_X6_ofLeave {E : En} {w : W0} {i what : Int32} : Mt E 2 yX6_ofLeave cX6_ofLeave 3 (some .int) [.ref (E.1 0), .int i, .int what] w (some (.int (if hasL w i then (if what.toInt = 0 then limC w i else if what.toInt = 1 then useC w i else -2) else -1))) w := by
  refine Mt.of (by decide +kernel) (Nat.le_of_ble_eq_true rfl) ?_
  show G E 2 RX6 cX6_ofLeave 3 (some .int) _ _ 0 [(0, .ref (E.1 0)), (1, .int i), (2, .int what)] [] w
  refine g_aload_n 0 dX6_ofLeave_0 rfl rfl ?_
  refine gf_X6_26 dX6_ofLeave_1 ?_
  refine g_iload_n 1 dX6_ofLeave_4 rfl rfl ?_
  refine ca_X6_115 dX6_ofLeave_5 (t_X4_has) (by decide) (Nat.le_of_ble_eq_true rfl) ?_
  refine g_if_neb 13 dX6_ofLeave_8 (by decide) (fun h8 => ?_) (fun h8 => ?_)
  · refine g_iload_n 2 dX6_ofLeave_13 rfl rfl ?_
    rcases sw1 what with hsw | hsw | hsw
    · refine g_lookup (off := 26) 40 dX6_ofLeave_14 (by decide) (by rw [hsw]; rfl) (by decide) ?_
      refine g_aload_n 0 dX6_ofLeave_40 rfl rfl ?_
      refine gf_X6_26 dX6_ofLeave_41 ?_
      refine g_iload_n 1 dX6_ofLeave_44 rfl rfl ?_
      refine ca_X6_116 dX6_ofLeave_45 (t_X4_limitOf) (by decide) (Nat.le_of_ble_eq_true rfl) ?_
      refine g_iret dX6_ofLeave_48 rfl rfl ?_ ?_
      · (repeat' split) <;> first | rfl | (exfalso; omega) | (exfalso; simp_all; done) | (exfalso; simp_all; omega)
      · (repeat' split) <;> first | rfl | (exfalso; omega) | (exfalso; simp_all; done) | (exfalso; simp_all; omega)
    · refine g_lookup (off := 35) 49 dX6_ofLeave_14 (by decide) (by rw [hsw]; rfl) (by decide) ?_
      refine g_aload_n 0 dX6_ofLeave_49 rfl rfl ?_
      refine gf_X6_26 dX6_ofLeave_50 ?_
      refine g_iload_n 1 dX6_ofLeave_53 rfl rfl ?_
      refine ca_X6_119 dX6_ofLeave_54 (t_X4_useOf) (by decide) (Nat.le_of_ble_eq_true rfl) ?_
      refine g_iret dX6_ofLeave_57 rfl rfl ?_ ?_
      · (repeat' split) <;> first | rfl | (exfalso; omega) | (exfalso; simp_all; done) | (exfalso; simp_all; omega)
      · (repeat' split) <;> first | rfl | (exfalso; omega) | (exfalso; simp_all; done) | (exfalso; simp_all; omega)
    · refine g_lookup (off := 44) 58 dX6_ofLeave_14 (by decide) (by have e1 := Ne.symm hsw.1; have e2 := Ne.symm hsw.2; simp [Op.lookupswitch.offset, e1, e2]) (by decide) ?_
      refine g_bipush (-2) dX6_ofLeave_58 rfl ?_
      refine g_iret dX6_ofLeave_60 rfl rfl ?_ ?_
      · (repeat' split) <;> first | rfl | (exfalso; omega) | (exfalso; simp_all; done) | (exfalso; simp_all; omega)
      · (repeat' split) <;> first | rfl | (exfalso; omega) | (exfalso; simp_all; done) | (exfalso; simp_all; omega)
  · refine g_iconst (-1) dX6_ofLeave_11 rfl ?_
    refine g_iret dX6_ofLeave_12 rfl rfl ?_ ?_
    · (repeat' split) <;> first | rfl | (exfalso; omega) | (exfalso; simp_all; done) | (exfalso; simp_all; omega)
    · (repeat' split) <;> first | rfl | (exfalso; omega) | (exfalso; simp_all; done) | (exfalso; simp_all; omega)
def itemW (w : W0) (n : Nat) (d c r l : Int32) : W0 := setW (setW (setW (setW (setW w 24 n d) 25 n c) 26 n r) 27 n l) 4 7 (nI (n + 1))
set_option maxRecDepth 20000 in
theorem t_X6_receive {E : En} {w : W0} {ni : Nat} {d c l : Int32} (hci : w 4 7 = nI ni) (hni : ni ≤ 60) : Mt E 2 yX6_receive cX6_receive 4 (some .int) [.ref (E.1 0), .int d, .int c, .int l] w (some (.int (if ¬ l = -1 ∧ ¬ hasE w l then -1 else if ¬ (dayP d ∧ coinP c) then -2 else if 60 ≤ ni then -4 else nI ni))) (if ¬ (¬ l = -1 ∧ ¬ hasE w l) ∧ (dayP d ∧ coinP c) ∧ ¬ 60 ≤ ni then setW (itemW w ni d c 1 l) 0 6 1 else w) := by
  refine Mt.of (by decide +kernel) (Nat.le_of_ble_eq_true rfl) ?_
  show G E 2 RX6 cX6_receive 4 (some .int) _ _ 0 [(0, .ref (E.1 0)), (1, .int d), (2, .int c), (3, .int l)] [] w
  have hciI : (w 4 7).toInt = (ni : Int) := by rw [hci]; exact nI_toInt (by omega)
  refine g_iload_n 3 dX6_receive_0 rfl rfl ?_
  refine g_iconst (-1) dX6_receive_1 rfl ?_
  refine g_icmp_eq 18 dX6_receive_2 (by decide) (fun h2 => ?_) (fun h2 => ?_)
  · refine g_iload_n 1 dX6_receive_18 rfl rfl ?_
    refine ca_X6_51 dX6_receive_19 (t_X6_isDay) (by decide) (Nat.le_of_ble_eq_true rfl) ?_
    refine g_if_eqb 32 dX6_receive_22 (by decide) (fun h22 => ?_) (fun h22 => ?_)
    · refine g_bipush (-2) dX6_receive_32 rfl ?_
      refine g_iret dX6_receive_34 rfl rfl ?_ ?_
      · (repeat' split) <;> first | rfl | (exfalso; omega) | (exfalso; simp_all; done) | (exfalso; simp_all; omega)
      · (repeat' split) <;> first | rfl | (exfalso; omega) | (exfalso; simp_all; done) | (exfalso; simp_all; omega)
    · refine g_iload_n 2 dX6_receive_25 rfl rfl ?_
      refine ca_X6_110 dX6_receive_26 (t_X6_isCoins) (by decide) (Nat.le_of_ble_eq_true rfl) ?_
      refine g_if_neb 35 dX6_receive_29 (by decide) (fun h29 => ?_) (fun h29 => ?_)
      · refine g_aload_n 0 dX6_receive_35 rfl rfl ?_
        refine gf_X6_33 dX6_receive_36 ?_
        refine gf_X6_123 dX6_receive_39 ?_
        refine g_bipush 60 dX6_receive_42 rfl ?_
        refine g_icmp_lt 50 _ 60 dX6_receive_44 (by decide) rfl rfl (fun h44 => ?_) (fun h44 => ?_)
        · refine g_aload_n 0 dX6_receive_50 rfl rfl ?_
          refine gf_X6_33 dX6_receive_51 ?_
          refine g_iload_n 1 dX6_receive_54 rfl rfl ?_
          refine g_iload_n 2 dX6_receive_55 rfl rfl ?_
          refine g_iconst 1 dX6_receive_56 rfl ?_
          refine g_iload_n 3 dX6_receive_57 rfl rfl ?_
          refine ca_X6_124 dX6_receive_58 (t_X1_add hci (by omega) (Or.inr rfl)) (by decide) (Nat.le_of_ble_eq_true rfl) ?_
          (try simp (disch := omega) only [setW_ne, setW_p, setA_ne, setA_p, upd_self, lpF_setA, lpF_setW, limC_setA, limC_setW])
          refine g_aload_n 0 dX6_receive_61 rfl rfl ?_
          refine g_iconst 1 dX6_receive_62 rfl ?_
          refine pf_X6_67 dX6_receive_63 rfl rfl ?_
          (try simp (disch := omega) only [setW_setA, setW_setA_ne])
          refine g_aload_n 0 dX6_receive_66 rfl rfl ?_
          refine gf_X6_33 dX6_receive_67 ?_
          refine gf_X6_123 dX6_receive_70 ?_
          (try simp (disch := omega) only [setW_ne, setW_p, setA_ne, setA_p, upd_self, lpF_setA, lpF_setW, limC_setA, limC_setW])
          refine g_iconst 1 dX6_receive_73 rfl ?_
          refine g_isub dX6_receive_74 ?_
          rw [nI_pred]
          refine g_iret dX6_receive_75 rfl rfl ?_ ?_
          · (repeat' split) <;> first | rfl | (exfalso; omega) | (exfalso; simp_all; done) | (exfalso; simp_all; omega)
          · (repeat' split) <;> first | rfl | (exfalso; omega) | (exfalso; simp_all; done) | (exfalso; simp_all; omega)
        · refine g_bipush (-4) dX6_receive_47 rfl ?_
          refine g_iret dX6_receive_49 rfl rfl ?_ ?_
          · (repeat' split) <;> first | rfl | (exfalso; omega) | (exfalso; simp_all; done) | (exfalso; simp_all; omega)
          · (repeat' split) <;> first | rfl | (exfalso; omega) | (exfalso; simp_all; done) | (exfalso; simp_all; omega)
      · refine g_bipush (-2) dX6_receive_32 rfl ?_
        refine g_iret dX6_receive_34 rfl rfl ?_ ?_
        · (repeat' split) <;> first | rfl | (exfalso; omega) | (exfalso; simp_all; done) | (exfalso; simp_all; omega)
        · (repeat' split) <;> first | rfl | (exfalso; omega) | (exfalso; simp_all; done) | (exfalso; simp_all; omega)
  · refine g_aload_n 0 dX6_receive_5 rfl rfl ?_
    refine gf_X6_40 dX6_receive_6 ?_
    refine g_iload_n 3 dX6_receive_9 rfl rfl ?_
    refine ca_X6_122 dX6_receive_10 (t_X3_has) (by decide) (Nat.le_of_ble_eq_true rfl) ?_
    refine g_if_neb 18 dX6_receive_13 (by decide) (fun h13 => ?_) (fun h13 => ?_)
    · refine g_iload_n 1 dX6_receive_18 rfl rfl ?_
      refine ca_X6_51 dX6_receive_19 (t_X6_isDay) (by decide) (Nat.le_of_ble_eq_true rfl) ?_
      refine g_if_eqb 32 dX6_receive_22 (by decide) (fun h22 => ?_) (fun h22 => ?_)
      · refine g_bipush (-2) dX6_receive_32 rfl ?_
        refine g_iret dX6_receive_34 rfl rfl ?_ ?_
        · (repeat' split) <;> first | rfl | (exfalso; omega) | (exfalso; simp_all; done) | (exfalso; simp_all; omega)
        · (repeat' split) <;> first | rfl | (exfalso; omega) | (exfalso; simp_all; done) | (exfalso; simp_all; omega)
      · refine g_iload_n 2 dX6_receive_25 rfl rfl ?_
        refine ca_X6_110 dX6_receive_26 (t_X6_isCoins) (by decide) (Nat.le_of_ble_eq_true rfl) ?_
        refine g_if_neb 35 dX6_receive_29 (by decide) (fun h29 => ?_) (fun h29 => ?_)
        · refine g_aload_n 0 dX6_receive_35 rfl rfl ?_
          refine gf_X6_33 dX6_receive_36 ?_
          refine gf_X6_123 dX6_receive_39 ?_
          refine g_bipush 60 dX6_receive_42 rfl ?_
          refine g_icmp_lt 50 _ 60 dX6_receive_44 (by decide) rfl rfl (fun h44 => ?_) (fun h44 => ?_)
          · refine g_aload_n 0 dX6_receive_50 rfl rfl ?_
            refine gf_X6_33 dX6_receive_51 ?_
            refine g_iload_n 1 dX6_receive_54 rfl rfl ?_
            refine g_iload_n 2 dX6_receive_55 rfl rfl ?_
            refine g_iconst 1 dX6_receive_56 rfl ?_
            refine g_iload_n 3 dX6_receive_57 rfl rfl ?_
            refine ca_X6_124 dX6_receive_58 (t_X1_add hci (by omega) (Or.inr rfl)) (by decide) (Nat.le_of_ble_eq_true rfl) ?_
            (try simp (disch := omega) only [setW_ne, setW_p, setA_ne, setA_p, upd_self, lpF_setA, lpF_setW, limC_setA, limC_setW])
            refine g_aload_n 0 dX6_receive_61 rfl rfl ?_
            refine g_iconst 1 dX6_receive_62 rfl ?_
            refine pf_X6_67 dX6_receive_63 rfl rfl ?_
            (try simp (disch := omega) only [setW_setA, setW_setA_ne])
            refine g_aload_n 0 dX6_receive_66 rfl rfl ?_
            refine gf_X6_33 dX6_receive_67 ?_
            refine gf_X6_123 dX6_receive_70 ?_
            (try simp (disch := omega) only [setW_ne, setW_p, setA_ne, setA_p, upd_self, lpF_setA, lpF_setW, limC_setA, limC_setW])
            refine g_iconst 1 dX6_receive_73 rfl ?_
            refine g_isub dX6_receive_74 ?_
            rw [nI_pred]
            refine g_iret dX6_receive_75 rfl rfl ?_ ?_
            · (repeat' split) <;> first | rfl | (exfalso; omega) | (exfalso; simp_all; done) | (exfalso; simp_all; omega)
            · (repeat' split) <;> first | rfl | (exfalso; omega) | (exfalso; simp_all; done) | (exfalso; simp_all; omega)
          · refine g_bipush (-4) dX6_receive_47 rfl ?_
            refine g_iret dX6_receive_49 rfl rfl ?_ ?_
            · (repeat' split) <;> first | rfl | (exfalso; omega) | (exfalso; simp_all; done) | (exfalso; simp_all; omega)
            · (repeat' split) <;> first | rfl | (exfalso; omega) | (exfalso; simp_all; done) | (exfalso; simp_all; omega)
        · refine g_bipush (-2) dX6_receive_32 rfl ?_
          refine g_iret dX6_receive_34 rfl rfl ?_ ?_
          · (repeat' split) <;> first | rfl | (exfalso; omega) | (exfalso; simp_all; done) | (exfalso; simp_all; omega)
          · (repeat' split) <;> first | rfl | (exfalso; omega) | (exfalso; simp_all; done) | (exfalso; simp_all; omega)
    · refine g_iconst (-1) dX6_receive_16 rfl ?_
      refine g_iret dX6_receive_17 rfl rfl ?_ ?_
      · (repeat' split) <;> first | rfl | (exfalso; omega) | (exfalso; simp_all; done) | (exfalso; simp_all; omega)
      · (repeat' split) <;> first | rfl | (exfalso; omega) | (exfalso; simp_all; done) | (exfalso; simp_all; omega)
set_option maxRecDepth 20000 in
theorem t_X6_pay {E : En} {w : W0} {ni : Nat} {d c l : Int32} (hci : w 4 7 = nI ni) (hni : ni ≤ 60) : Mt E 3 yX6_pay cX6_pay 5 (some .int) [.ref (E.1 0), .int d, .int c, .int l] w (some (.int (if ¬ l = -1 ∧ ¬ hasL w l then -1 else if ¬ (dayP d ∧ coinP c) then -2 else if 60 ≤ ni then -4 else if useC w l ≠ -6 then -5 else nI ni))) (if ¬ (¬ l = -1 ∧ ¬ hasL w l) ∧ (dayP d ∧ coinP c) ∧ ¬ 60 ≤ ni ∧ ¬ useC w l ≠ -6 then setW (useW (itemW w ni d c 0 l) l (nI ni)) 0 6 1 else w) := by
  refine Mt.of (by decide +kernel) (Nat.le_of_ble_eq_true rfl) ?_
  show G E 3 RX6 cX6_pay 5 (some .int) _ _ 0 [(0, .ref (E.1 0)), (1, .int d), (2, .int c), (3, .int l)] [] w
  have hciI : (w 4 7).toInt = (ni : Int) := by rw [hci]; exact nI_toInt (by omega)
  refine g_iload_n 3 dX6_pay_0 rfl rfl ?_
  refine g_iconst (-1) dX6_pay_1 rfl ?_
  refine g_icmp_eq 18 dX6_pay_2 (by decide) (fun h2 => ?_) (fun h2 => ?_)
  · refine g_iload_n 1 dX6_pay_18 rfl rfl ?_
    refine ca_X6_51 dX6_pay_19 (t_X6_isDay) (by decide) (Nat.le_of_ble_eq_true rfl) ?_
    refine g_if_eqb 32 dX6_pay_22 (by decide) (fun h22 => ?_) (fun h22 => ?_)
    · refine g_bipush (-2) dX6_pay_32 rfl ?_
      refine g_iret dX6_pay_34 rfl rfl ?_ ?_
      · (repeat' split) <;> first | rfl | (exfalso; omega) | (exfalso; simp_all; done) | (exfalso; simp_all; omega)
      · (repeat' split) <;> first | rfl | (exfalso; omega) | (exfalso; simp_all; done) | (exfalso; simp_all; omega)
    · refine g_iload_n 2 dX6_pay_25 rfl rfl ?_
      refine ca_X6_110 dX6_pay_26 (t_X6_isCoins) (by decide) (Nat.le_of_ble_eq_true rfl) ?_
      refine g_if_neb 35 dX6_pay_29 (by decide) (fun h29 => ?_) (fun h29 => ?_)
      · refine g_aload_n 0 dX6_pay_35 rfl rfl ?_
        refine gf_X6_33 dX6_pay_36 ?_
        refine gf_X6_123 dX6_pay_39 ?_
        refine g_bipush 60 dX6_pay_42 rfl ?_
        refine g_icmp_lt 50 _ 60 dX6_pay_44 (by decide) rfl rfl (fun h44 => ?_) (fun h44 => ?_)
        · refine g_aload_n 0 dX6_pay_50 rfl rfl ?_
          refine gf_X6_26 dX6_pay_51 ?_
          refine g_iload_n 3 dX6_pay_54 rfl rfl ?_
          refine ca_X6_127 dX6_pay_55 (t_X4_wasUsed) (by decide) (Nat.le_of_ble_eq_true rfl) ?_
          refine g_if_eqb 64 dX6_pay_58 (by decide) (fun h58 => ?_) (fun h58 => ?_)
          · refine g_aload_n 0 dX6_pay_64 rfl rfl ?_
            refine gf_X6_33 dX6_pay_65 ?_
            refine gf_X6_123 dX6_pay_68 ?_
            rw [hci]
            refine g_istN dX6_pay_71 (by decide) rfl ?_
            refine g_aload_n 1 dX6_pay_73 rfl rfl ?_
            refine gf_X6_33 dX6_pay_74 ?_
            refine g_iload_n 2 dX6_pay_77 rfl rfl ?_
            refine g_iload_n 3 dX6_pay_78 rfl rfl ?_
            refine g_iconst 0 dX6_pay_79 rfl ?_
            refine g_iload_n 4 dX6_pay_80 rfl rfl ?_
            refine ca_X6_124 dX6_pay_81 (t_X1_add hci (by omega) (Or.inl rfl)) (by decide) (Nat.le_of_ble_eq_true rfl) ?_
            refine g_aload_n 1 dX6_pay_84 rfl rfl ?_
            refine gf_X6_26 dX6_pay_85 ?_
            refine g_iload_n 4 dX6_pay_88 rfl rfl ?_
            refine g_iload 0 dX6_pay_89 rfl ?_
            refine ca_X6_130 dX6_pay_91 (t_X4_use) (by decide) (Nat.le_of_ble_eq_true rfl) ?_
            refine g_aload_n 1 dX6_pay_94 rfl rfl ?_
            refine g_iconst 1 dX6_pay_95 rfl ?_
            refine pf_X6_67 dX6_pay_96 rfl rfl ?_
            refine g_iload 0 dX6_pay_99 rfl ?_
            refine g_iret dX6_pay_101 rfl rfl ?_ ?_
            · (repeat' split) <;> first | rfl | (exfalso; omega) | (exfalso; simp_all; done) | (exfalso; simp_all; omega)
            · (repeat' split) <;> first | rfl | (exfalso; omega) | (exfalso; simp_all; done) | (exfalso; simp_all; omega)
          · refine g_bipush (-5) dX6_pay_61 rfl ?_
            refine g_iret dX6_pay_63 rfl rfl ?_ ?_
            · (repeat' split) <;> first | rfl | (exfalso; omega) | (exfalso; simp_all; done) | (exfalso; simp_all; omega)
            · (repeat' split) <;> first | rfl | (exfalso; omega) | (exfalso; simp_all; done) | (exfalso; simp_all; omega)
        · refine g_bipush (-4) dX6_pay_47 rfl ?_
          refine g_iret dX6_pay_49 rfl rfl ?_ ?_
          · (repeat' split) <;> first | rfl | (exfalso; omega) | (exfalso; simp_all; done) | (exfalso; simp_all; omega)
          · (repeat' split) <;> first | rfl | (exfalso; omega) | (exfalso; simp_all; done) | (exfalso; simp_all; omega)
      · refine g_bipush (-2) dX6_pay_32 rfl ?_
        refine g_iret dX6_pay_34 rfl rfl ?_ ?_
        · (repeat' split) <;> first | rfl | (exfalso; omega) | (exfalso; simp_all; done) | (exfalso; simp_all; omega)
        · (repeat' split) <;> first | rfl | (exfalso; omega) | (exfalso; simp_all; done) | (exfalso; simp_all; omega)
  · refine g_aload_n 0 dX6_pay_5 rfl rfl ?_
    refine gf_X6_26 dX6_pay_6 ?_
    refine g_iload_n 3 dX6_pay_9 rfl rfl ?_
    refine ca_X6_115 dX6_pay_10 (t_X4_has) (by decide) (Nat.le_of_ble_eq_true rfl) ?_
    refine g_if_neb 18 dX6_pay_13 (by decide) (fun h13 => ?_) (fun h13 => ?_)
    · refine g_iload_n 1 dX6_pay_18 rfl rfl ?_
      refine ca_X6_51 dX6_pay_19 (t_X6_isDay) (by decide) (Nat.le_of_ble_eq_true rfl) ?_
      refine g_if_eqb 32 dX6_pay_22 (by decide) (fun h22 => ?_) (fun h22 => ?_)
      · refine g_bipush (-2) dX6_pay_32 rfl ?_
        refine g_iret dX6_pay_34 rfl rfl ?_ ?_
        · (repeat' split) <;> first | rfl | (exfalso; omega) | (exfalso; simp_all; done) | (exfalso; simp_all; omega)
        · (repeat' split) <;> first | rfl | (exfalso; omega) | (exfalso; simp_all; done) | (exfalso; simp_all; omega)
      · refine g_iload_n 2 dX6_pay_25 rfl rfl ?_
        refine ca_X6_110 dX6_pay_26 (t_X6_isCoins) (by decide) (Nat.le_of_ble_eq_true rfl) ?_
        refine g_if_neb 35 dX6_pay_29 (by decide) (fun h29 => ?_) (fun h29 => ?_)
        · refine g_aload_n 0 dX6_pay_35 rfl rfl ?_
          refine gf_X6_33 dX6_pay_36 ?_
          refine gf_X6_123 dX6_pay_39 ?_
          refine g_bipush 60 dX6_pay_42 rfl ?_
          refine g_icmp_lt 50 _ 60 dX6_pay_44 (by decide) rfl rfl (fun h44 => ?_) (fun h44 => ?_)
          · refine g_aload_n 0 dX6_pay_50 rfl rfl ?_
            refine gf_X6_26 dX6_pay_51 ?_
            refine g_iload_n 3 dX6_pay_54 rfl rfl ?_
            refine ca_X6_127 dX6_pay_55 (t_X4_wasUsed) (by decide) (Nat.le_of_ble_eq_true rfl) ?_
            refine g_if_eqb 64 dX6_pay_58 (by decide) (fun h58 => ?_) (fun h58 => ?_)
            · refine g_aload_n 0 dX6_pay_64 rfl rfl ?_
              refine gf_X6_33 dX6_pay_65 ?_
              refine gf_X6_123 dX6_pay_68 ?_
              rw [hci]
              refine g_istN dX6_pay_71 (by decide) rfl ?_
              refine g_aload_n 1 dX6_pay_73 rfl rfl ?_
              refine gf_X6_33 dX6_pay_74 ?_
              refine g_iload_n 2 dX6_pay_77 rfl rfl ?_
              refine g_iload_n 3 dX6_pay_78 rfl rfl ?_
              refine g_iconst 0 dX6_pay_79 rfl ?_
              refine g_iload_n 4 dX6_pay_80 rfl rfl ?_
              refine ca_X6_124 dX6_pay_81 (t_X1_add hci (by omega) (Or.inl rfl)) (by decide) (Nat.le_of_ble_eq_true rfl) ?_
              refine g_aload_n 1 dX6_pay_84 rfl rfl ?_
              refine gf_X6_26 dX6_pay_85 ?_
              refine g_iload_n 4 dX6_pay_88 rfl rfl ?_
              refine g_iload 0 dX6_pay_89 rfl ?_
              refine ca_X6_130 dX6_pay_91 (t_X4_use) (by decide) (Nat.le_of_ble_eq_true rfl) ?_
              refine g_aload_n 1 dX6_pay_94 rfl rfl ?_
              refine g_iconst 1 dX6_pay_95 rfl ?_
              refine pf_X6_67 dX6_pay_96 rfl rfl ?_
              refine g_iload 0 dX6_pay_99 rfl ?_
              refine g_iret dX6_pay_101 rfl rfl ?_ ?_
              · (repeat' split) <;> first | rfl | (exfalso; omega) | (exfalso; simp_all; done) | (exfalso; simp_all; omega)
              · (repeat' split) <;> first | rfl | (exfalso; omega) | (exfalso; simp_all; done) | (exfalso; simp_all; omega)
            · refine g_bipush (-5) dX6_pay_61 rfl ?_
              refine g_iret dX6_pay_63 rfl rfl ?_ ?_
              · (repeat' split) <;> first | rfl | (exfalso; omega) | (exfalso; simp_all; done) | (exfalso; simp_all; omega)
              · (repeat' split) <;> first | rfl | (exfalso; omega) | (exfalso; simp_all; done) | (exfalso; simp_all; omega)
          · refine g_bipush (-4) dX6_pay_47 rfl ?_
            refine g_iret dX6_pay_49 rfl rfl ?_ ?_
            · (repeat' split) <;> first | rfl | (exfalso; omega) | (exfalso; simp_all; done) | (exfalso; simp_all; omega)
            · (repeat' split) <;> first | rfl | (exfalso; omega) | (exfalso; simp_all; done) | (exfalso; simp_all; omega)
        · refine g_bipush (-2) dX6_pay_32 rfl ?_
          refine g_iret dX6_pay_34 rfl rfl ?_ ?_
          · (repeat' split) <;> first | rfl | (exfalso; omega) | (exfalso; simp_all; done) | (exfalso; simp_all; omega)
          · (repeat' split) <;> first | rfl | (exfalso; omega) | (exfalso; simp_all; done) | (exfalso; simp_all; omega)
    · refine g_iconst (-1) dX6_pay_16 rfl ?_
      refine g_iret dX6_pay_17 rfl rfl ?_ ?_
      · (repeat' split) <;> first | rfl | (exfalso; omega) | (exfalso; simp_all; done) | (exfalso; simp_all; omega)
      · (repeat' split) <;> first | rfl | (exfalso; omega) | (exfalso; simp_all; done) | (exfalso; simp_all; omega)
set_option maxRecDepth 20000 in
theorem t_X6_vouch {E : En} {w : W0} {ni : Nat} {i z : Int32} (hci : w 4 7 = nI ni) (hni : ni ≤ 60) (hz : z = 0 ∨ z = 1) (hb : hasI w i → w 28 i.toNatClampNeg = 0 ∨ w 28 i.toNatClampNeg = 1) : Mt E 2 yX6_vouch cX6_vouch 4 (some .int) [.ref (E.1 0), .int i, .int z] w (some (.int (if hasI w i then (if ¬ w 26 i.toNatClampNeg = 0 then -3 else w 28 i.toNatClampNeg) else -1))) (if hasI w i ∧ ¬ ¬ w 26 i.toNatClampNeg = 0 then setW (setW w 28 i.toNatClampNeg z) 0 6 1 else w) := by
  refine Mt.of (by decide +kernel) (Nat.le_of_ble_eq_true rfl) ?_
  show G E 2 RX6 cX6_vouch 4 (some .int) _ _ 0 [(0, .ref (E.1 0)), (1, .int i), (2, .int z)] [] w
  have hciI : (w 4 7).toInt = (ni : Int) := by rw [hci]; exact nI_toInt (by omega)
  refine g_aload_n 0 dX6_vouch_0 rfl rfl ?_
  refine gf_X6_33 dX6_vouch_1 ?_
  refine g_iload_n 1 dX6_vouch_4 rfl rfl ?_
  refine ca_X6_133 dX6_vouch_5 (t_X1_has) (by decide) (Nat.le_of_ble_eq_true rfl) ?_
  refine g_if_neb 13 dX6_vouch_8 (by decide) (fun h8 => ?_) (fun h8 => ?_)
  · refine g_aload_n 0 dX6_vouch_13 rfl rfl ?_
    refine gf_X6_33 dX6_vouch_14 ?_
    refine g_iload_n 1 dX6_vouch_17 rfl rfl ?_
    refine ca_X6_134 dX6_vouch_18 (t_X1_isReceipt) (by decide) (Nat.le_of_ble_eq_true rfl) ?_
    refine g_if_eqb 27 dX6_vouch_21 (by decide) (fun h21 => ?_) (fun h21 => ?_)
    · have h26 : w 26 i.toNatClampNeg = 0 := Decidable.of_not_not (fun z => h21 ⟨h8, z⟩)
      clear h21
      refine g_aload_n 0 dX6_vouch_27 rfl rfl ?_
      refine gf_X6_33 dX6_vouch_28 ?_
      refine g_iload_n 1 dX6_vouch_31 rfl rfl ?_
      refine g_iload_n 2 dX6_vouch_32 rfl rfl ?_
      refine ca_X6_137 dX6_vouch_33 (t_X1_setVoucher hci hni (nat_lt (by omega) (by omega)) (nI_back (by omega)) hz (hb h8)) (by decide) (Nat.le_of_ble_eq_true rfl) ?_
      refine g_istN_n dX6_vouch_36 rfl (by decide) rfl ?_
      refine g_aload_n 1 dX6_vouch_37 rfl rfl ?_
      refine g_iconst 1 dX6_vouch_38 rfl ?_
      refine pf_X6_67 dX6_vouch_39 rfl rfl ?_
      refine g_iload_n 0 dX6_vouch_42 rfl rfl ?_
      refine g_if_eq 50 dX6_vouch_43 (by decide) (fun h43 => ?_) (fun h43 => ?_)
      · refine g_iconst 0 dX6_vouch_50 rfl ?_
        refine g_iret dX6_vouch_51 rfl rfl ?_ ?_
        · rw [if_pos h8, if_neg (fun z => z h26)]; rcases hb h8 with hb1 | hb1 <;> first | (rw [hb1]; done) | exact absurd hb1 h43 | (rw [hb1] at h43; exact absurd h43 (by decide))
        · rw [if_pos ⟨h8, fun z => z h26⟩]
      · refine g_iconst 1 dX6_vouch_46 rfl ?_
        refine g_goto 51 dX6_vouch_47 (by decide) ?_
        refine g_iret dX6_vouch_51 rfl rfl ?_ ?_
        · rw [if_pos h8, if_neg (fun z => z h26)]; rcases hb h8 with hb1 | hb1 <;> first | (rw [hb1]; done) | exact absurd hb1 h43 | (rw [hb1] at h43; exact absurd h43 (by decide))
        · rw [if_pos ⟨h8, fun z => z h26⟩]
    · refine g_bipush (-3) dX6_vouch_24 rfl ?_
      refine g_iret dX6_vouch_26 rfl rfl ?_ ?_
      · (repeat' split) <;> first | rfl | (exfalso; omega) | (exfalso; simp_all; done) | (exfalso; simp_all; omega)
      · (repeat' split) <;> first | rfl | (exfalso; omega) | (exfalso; simp_all; done) | (exfalso; simp_all; omega)
  · refine g_iconst (-1) dX6_vouch_11 rfl ?_
    refine g_iret dX6_vouch_12 rfl rfl ?_ ?_
    · (repeat' split) <;> first | rfl | (exfalso; omega) | (exfalso; simp_all; done) | (exfalso; simp_all; omega)
    · (repeat' split) <;> first | rfl | (exfalso; omega) | (exfalso; simp_all; done) | (exfalso; simp_all; omega)
set_option maxRecDepth 20000 in
theorem t_X6_challenge {E : En} {w : W0} {ni : Nat} {i z : Int32} (hci : w 4 7 = nI ni) (hni : ni ≤ 60) (hz : z = 0 ∨ z = 1) (hb : hasI w i → w 29 i.toNatClampNeg = 0 ∨ w 29 i.toNatClampNeg = 1) : Mt E 2 yX6_challenge cX6_challenge 4 (some .int) [.ref (E.1 0), .int i, .int z] w (some (.int (if hasI w i then (if ¬ w 26 i.toNatClampNeg = 0 then -3 else w 29 i.toNatClampNeg) else -1))) (if hasI w i ∧ ¬ ¬ w 26 i.toNatClampNeg = 0 then setW (setW w 29 i.toNatClampNeg z) 0 6 1 else w) := by
  refine Mt.of (by decide +kernel) (Nat.le_of_ble_eq_true rfl) ?_
  show G E 2 RX6 cX6_challenge 4 (some .int) _ _ 0 [(0, .ref (E.1 0)), (1, .int i), (2, .int z)] [] w
  have hciI : (w 4 7).toInt = (ni : Int) := by rw [hci]; exact nI_toInt (by omega)
  refine g_aload_n 0 dX6_challenge_0 rfl rfl ?_
  refine gf_X6_33 dX6_challenge_1 ?_
  refine g_iload_n 1 dX6_challenge_4 rfl rfl ?_
  refine ca_X6_133 dX6_challenge_5 (t_X1_has) (by decide) (Nat.le_of_ble_eq_true rfl) ?_
  refine g_if_neb 13 dX6_challenge_8 (by decide) (fun h8 => ?_) (fun h8 => ?_)
  · refine g_aload_n 0 dX6_challenge_13 rfl rfl ?_
    refine gf_X6_33 dX6_challenge_14 ?_
    refine g_iload_n 1 dX6_challenge_17 rfl rfl ?_
    refine ca_X6_134 dX6_challenge_18 (t_X1_isReceipt) (by decide) (Nat.le_of_ble_eq_true rfl) ?_
    refine g_if_eqb 27 dX6_challenge_21 (by decide) (fun h21 => ?_) (fun h21 => ?_)
    · have h26 : w 26 i.toNatClampNeg = 0 := Decidable.of_not_not (fun z => h21 ⟨h8, z⟩)
      clear h21
      refine g_aload_n 0 dX6_challenge_27 rfl rfl ?_
      refine gf_X6_33 dX6_challenge_28 ?_
      refine g_iload_n 1 dX6_challenge_31 rfl rfl ?_
      refine g_iload_n 2 dX6_challenge_32 rfl rfl ?_
      refine ca_X6_141 dX6_challenge_33 (t_X1_setChallenge hci hni (nat_lt (by omega) (by omega)) (nI_back (by omega)) hz (hb h8)) (by decide) (Nat.le_of_ble_eq_true rfl) ?_
      refine g_istN_n dX6_challenge_36 rfl (by decide) rfl ?_
      refine g_aload_n 1 dX6_challenge_37 rfl rfl ?_
      refine g_iconst 1 dX6_challenge_38 rfl ?_
      refine pf_X6_67 dX6_challenge_39 rfl rfl ?_
      refine g_iload_n 0 dX6_challenge_42 rfl rfl ?_
      refine g_if_eq 50 dX6_challenge_43 (by decide) (fun h43 => ?_) (fun h43 => ?_)
      · refine g_iconst 0 dX6_challenge_50 rfl ?_
        refine g_iret dX6_challenge_51 rfl rfl ?_ ?_
        · rw [if_pos h8, if_neg (fun z => z h26)]; rcases hb h8 with hb1 | hb1 <;> first | (rw [hb1]; done) | exact absurd hb1 h43 | (rw [hb1] at h43; exact absurd h43 (by decide))
        · rw [if_pos ⟨h8, fun z => z h26⟩]
      · refine g_iconst 1 dX6_challenge_46 rfl ?_
        refine g_goto 51 dX6_challenge_47 (by decide) ?_
        refine g_iret dX6_challenge_51 rfl rfl ?_ ?_
        · rw [if_pos h8, if_neg (fun z => z h26)]; rcases hb h8 with hb1 | hb1 <;> first | (rw [hb1]; done) | exact absurd hb1 h43 | (rw [hb1] at h43; exact absurd h43 (by decide))
        · rw [if_pos ⟨h8, fun z => z h26⟩]
    · refine g_bipush (-3) dX6_challenge_24 rfl ?_
      refine g_iret dX6_challenge_26 rfl rfl ?_ ?_
      · (repeat' split) <;> first | rfl | (exfalso; omega) | (exfalso; simp_all; done) | (exfalso; simp_all; omega)
      · (repeat' split) <;> first | rfl | (exfalso; omega) | (exfalso; simp_all; done) | (exfalso; simp_all; omega)
  · refine g_iconst (-1) dX6_challenge_11 rfl ?_
    refine g_iret dX6_challenge_12 rfl rfl ?_ ?_
    · (repeat' split) <;> first | rfl | (exfalso; omega) | (exfalso; simp_all; done) | (exfalso; simp_all; omega)
    · (repeat' split) <;> first | rfl | (exfalso; omega) | (exfalso; simp_all; done) | (exfalso; simp_all; omega)
set_option maxRecDepth 20000 in
theorem t_X6_barred {E : En} {w : W0} {ni nl : Nat} {i : Int32} (hci : w 4 7 = nI ni) (hni : ni ≤ 60) (hcl : w 1 2 = nI nl) (hnl : nl ≤ 8) : Mt E 4 yX6_barred cX6_barred 2 (some .int) [.ref (E.1 0), .int i] w (some (.int (if hasI w i then barsF w nl i.toNatClampNeg else -1))) w := by
  refine Mt.of (by decide +kernel) (Nat.le_of_ble_eq_true rfl) ?_
  show G E 4 RX6 cX6_barred 2 (some .int) _ _ 0 [(0, .ref (E.1 0)), (1, .int i)] [] w
  have hciI : (w 4 7).toInt = (ni : Int) := by rw [hci]; exact nI_toInt (by omega)
  refine g_aload_n 0 dX6_barred_0 rfl rfl ?_
  refine gf_X6_33 dX6_barred_1 ?_
  refine g_iload_n 1 dX6_barred_4 rfl rfl ?_
  refine ca_X6_133 dX6_barred_5 (t_X1_has) (by decide) (Nat.le_of_ble_eq_true rfl) ?_
  refine g_if_neb 13 dX6_barred_8 (by decide) (fun h8 => ?_) (fun h8 => ?_)
  · refine g_aload_n 0 dX6_barred_13 rfl rfl ?_
    refine gf_X6_33 dX6_barred_14 ?_
    refine g_iload_n 1 dX6_barred_17 rfl rfl ?_
    refine g_aload_n 0 dX6_barred_18 rfl rfl ?_
    refine gf_X6_10 dX6_barred_19 ?_
    refine g_aload_n 0 dX6_barred_22 rfl rfl ?_
    refine gf_X6_26 dX6_barred_23 ?_
    refine ca_X6_144 dX6_barred_26 (t_X1_barsOf hci hni (nat_lt (by omega) (by omega)) (nI_back (by omega)) hcl hnl) (by decide) (Nat.le_of_ble_eq_true rfl) ?_
    refine g_iret dX6_barred_29 rfl rfl ?_ ?_
    · (repeat' split) <;> first | rfl | (exfalso; omega) | (exfalso; simp_all; done) | (exfalso; simp_all; omega)
    · (repeat' split) <;> first | rfl | (exfalso; omega) | (exfalso; simp_all; done) | (exfalso; simp_all; omega)
  · refine g_iconst (-1) dX6_barred_11 rfl ?_
    refine g_iret dX6_barred_12 rfl rfl ?_ ?_
    · (repeat' split) <;> first | rfl | (exfalso; omega) | (exfalso; simp_all; done) | (exfalso; simp_all; omega)
    · (repeat' split) <;> first | rfl | (exfalso; omega) | (exfalso; simp_all; done) | (exfalso; simp_all; omega)
def leaseW (w : W0) (n : Nat) (d y r l : Int32) : W0 := setW (setW (setW (setW (setW w 31 n d) 32 n y) 33 n r) 34 n l) 5 4 (nI (n + 1))
abbrev letP (d y r : Int32) : Prop := dayP d ∧ (1 ≤ y.toInt ∧ y.toInt ≤ 30) ∧ (1 ≤ r.toInt ∧ r.toInt ≤ 1000)
set_option maxRecDepth 20000 in
theorem t_X6_let {E : En} {w : W0} {ne : Nat} {d y r l : Int32} (hce : w 5 4 = nI ne) (hne : ne ≤ 10) : Mt E 3 yX6_let cX6_let 6 (some .int) [.ref (E.1 0), .int d, .int y, .int r, .int l] w (some (.int (if ¬ l = -1 ∧ ¬ hasL w l then -1 else if ¬ letP d y r then -2 else if 10 ≤ ne then -4 else if useC w l ≠ -6 then -5 else nI ne))) (if ¬ (¬ l = -1 ∧ ¬ hasL w l) ∧ letP d y r ∧ ¬ 10 ≤ ne ∧ ¬ useC w l ≠ -6 then useW (leaseW w ne d y r l) l (nI (100 + ne)) else w) := by
  refine Mt.of (by decide +kernel) (Nat.le_of_ble_eq_true rfl) ?_
  show G E 3 RX6 cX6_let 6 (some .int) _ _ 0 [(0, .ref (E.1 0)), (1, .int d), (2, .int y), (3, .int r), (4, .int l)] [] w
  have hceI : (w 5 4).toInt = (ne : Int) := by rw [hce]; exact nI_toInt (by omega)
  refine g_iload 4 dX6_let_0 rfl ?_
  refine g_iconst (-1) dX6_let_2 rfl ?_
  refine g_icmp_eq 20 dX6_let_3 (by decide) (fun h3 => ?_) (fun h3 => ?_)
  · refine g_iload_n 1 dX6_let_20 rfl rfl ?_
    refine ca_X6_51 dX6_let_21 (t_X6_isDay) (by decide) (Nat.le_of_ble_eq_true rfl) ?_
    refine g_if_eqb 48 dX6_let_24 (by decide) (fun h24 => ?_) (fun h24 => ?_)
    · refine g_bipush (-2) dX6_let_48 rfl ?_
      refine g_iret dX6_let_50 rfl rfl ?_ ?_
      · (repeat' split) <;> first | rfl | (exfalso; omega) | (exfalso; simp_all; done) | (exfalso; simp_all; omega)
      · (repeat' split) <;> first | rfl | (exfalso; omega) | (exfalso; simp_all; done) | (exfalso; simp_all; omega)
    · refine g_iload_n 2 dX6_let_27 rfl rfl ?_
      refine g_iconst 1 dX6_let_28 rfl ?_
      refine g_bipush 30 dX6_let_29 rfl ?_
      refine ca_X6_55 dX6_let_31 (t_X6_within 1 30 rfl rfl) (by decide) (Nat.le_of_ble_eq_true rfl) ?_
      refine g_if_eqb 48 dX6_let_34 (by decide) (fun h34 => ?_) (fun h34 => ?_)
      · refine g_bipush (-2) dX6_let_48 rfl ?_
        refine g_iret dX6_let_50 rfl rfl ?_ ?_
        · (repeat' split) <;> first | rfl | (exfalso; omega) | (exfalso; simp_all; done) | (exfalso; simp_all; omega)
        · (repeat' split) <;> first | rfl | (exfalso; omega) | (exfalso; simp_all; done) | (exfalso; simp_all; omega)
      · refine g_iload_n 3 dX6_let_37 rfl rfl ?_
        refine g_iconst 1 dX6_let_38 rfl ?_
        refine g_sipush 1000 dX6_let_39 rfl ?_
        refine ca_X6_55 dX6_let_42 (t_X6_within 1 1000 rfl rfl) (by decide) (Nat.le_of_ble_eq_true rfl) ?_
        refine g_if_neb 51 dX6_let_45 (by decide) (fun h45 => ?_) (fun h45 => ?_)
        · refine g_aload_n 0 dX6_let_51 rfl rfl ?_
          refine gf_X6_40 dX6_let_52 ?_
          refine gf_X6_148 dX6_let_55 ?_
          refine g_bipush 10 dX6_let_58 rfl ?_
          refine g_icmp_lt 66 _ 10 dX6_let_60 (by decide) rfl rfl (fun h60 => ?_) (fun h60 => ?_)
          · refine g_aload_n 0 dX6_let_66 rfl rfl ?_
            refine gf_X6_26 dX6_let_67 ?_
            refine g_iload 4 dX6_let_70 rfl ?_
            refine ca_X6_127 dX6_let_72 (t_X4_wasUsed) (by decide) (Nat.le_of_ble_eq_true rfl) ?_
            refine g_if_eqb 81 dX6_let_75 (by decide) (fun h75 => ?_) (fun h75 => ?_)
            · refine g_aload_n 0 dX6_let_81 rfl rfl ?_
              refine gf_X6_40 dX6_let_82 ?_
              refine gf_X6_148 dX6_let_85 ?_
              rw [hce]
              refine g_istN dX6_let_88 (by decide) rfl ?_
              refine g_aload_n 1 dX6_let_90 rfl rfl ?_
              refine gf_X6_40 dX6_let_91 ?_
              refine g_iload_n 2 dX6_let_94 rfl rfl ?_
              refine g_iload_n 3 dX6_let_95 rfl rfl ?_
              refine g_iload_n 4 dX6_let_96 rfl rfl ?_
              refine g_iload 5 dX6_let_97 rfl ?_
              refine ca_X6_149 dX6_let_99 (t_X3_add hce (by omega)) (by decide) (Nat.le_of_ble_eq_true rfl) ?_
              refine g_aload_n 1 dX6_let_102 rfl rfl ?_
              refine gf_X6_26 dX6_let_103 ?_
              refine g_iload 5 dX6_let_106 rfl ?_
              refine g_bipush 100 dX6_let_108 rfl ?_
              refine g_iload 0 dX6_let_110 rfl ?_
              refine g_iadd dX6_let_112 ?_
              rw [show (100 : Int32) + nI ne = nI (100 + ne) from nI_add 100 ne]
              refine ca_X6_130 dX6_let_113 (t_X4_use) (by decide) (Nat.le_of_ble_eq_true rfl) ?_
              refine g_iload 0 dX6_let_116 rfl ?_
              refine g_iret dX6_let_118 rfl rfl ?_ ?_
              · (repeat' split) <;> first | rfl | (exfalso; omega) | (exfalso; simp_all; done) | (exfalso; simp_all; omega)
              · (repeat' split) <;> first | rfl | (exfalso; omega) | (exfalso; simp_all; done) | (exfalso; simp_all; omega)
            · refine g_bipush (-5) dX6_let_78 rfl ?_
              refine g_iret dX6_let_80 rfl rfl ?_ ?_
              · (repeat' split) <;> first | rfl | (exfalso; omega) | (exfalso; simp_all; done) | (exfalso; simp_all; omega)
              · (repeat' split) <;> first | rfl | (exfalso; omega) | (exfalso; simp_all; done) | (exfalso; simp_all; omega)
          · refine g_bipush (-4) dX6_let_63 rfl ?_
            refine g_iret dX6_let_65 rfl rfl ?_ ?_
            · (repeat' split) <;> first | rfl | (exfalso; omega) | (exfalso; simp_all; done) | (exfalso; simp_all; omega)
            · (repeat' split) <;> first | rfl | (exfalso; omega) | (exfalso; simp_all; done) | (exfalso; simp_all; omega)
        · refine g_bipush (-2) dX6_let_48 rfl ?_
          refine g_iret dX6_let_50 rfl rfl ?_ ?_
          · (repeat' split) <;> first | rfl | (exfalso; omega) | (exfalso; simp_all; done) | (exfalso; simp_all; omega)
          · (repeat' split) <;> first | rfl | (exfalso; omega) | (exfalso; simp_all; done) | (exfalso; simp_all; omega)
  · refine g_aload_n 0 dX6_let_6 rfl rfl ?_
    refine gf_X6_26 dX6_let_7 ?_
    refine g_iload 4 dX6_let_10 rfl ?_
    refine ca_X6_115 dX6_let_12 (t_X4_has) (by decide) (Nat.le_of_ble_eq_true rfl) ?_
    refine g_if_neb 20 dX6_let_15 (by decide) (fun h15 => ?_) (fun h15 => ?_)
    · refine g_iload_n 1 dX6_let_20 rfl rfl ?_
      refine ca_X6_51 dX6_let_21 (t_X6_isDay) (by decide) (Nat.le_of_ble_eq_true rfl) ?_
      refine g_if_eqb 48 dX6_let_24 (by decide) (fun h24 => ?_) (fun h24 => ?_)
      · refine g_bipush (-2) dX6_let_48 rfl ?_
        refine g_iret dX6_let_50 rfl rfl ?_ ?_
        · (repeat' split) <;> first | rfl | (exfalso; omega) | (exfalso; simp_all; done) | (exfalso; simp_all; omega)
        · (repeat' split) <;> first | rfl | (exfalso; omega) | (exfalso; simp_all; done) | (exfalso; simp_all; omega)
      · refine g_iload_n 2 dX6_let_27 rfl rfl ?_
        refine g_iconst 1 dX6_let_28 rfl ?_
        refine g_bipush 30 dX6_let_29 rfl ?_
        refine ca_X6_55 dX6_let_31 (t_X6_within 1 30 rfl rfl) (by decide) (Nat.le_of_ble_eq_true rfl) ?_
        refine g_if_eqb 48 dX6_let_34 (by decide) (fun h34 => ?_) (fun h34 => ?_)
        · refine g_bipush (-2) dX6_let_48 rfl ?_
          refine g_iret dX6_let_50 rfl rfl ?_ ?_
          · (repeat' split) <;> first | rfl | (exfalso; omega) | (exfalso; simp_all; done) | (exfalso; simp_all; omega)
          · (repeat' split) <;> first | rfl | (exfalso; omega) | (exfalso; simp_all; done) | (exfalso; simp_all; omega)
        · refine g_iload_n 3 dX6_let_37 rfl rfl ?_
          refine g_iconst 1 dX6_let_38 rfl ?_
          refine g_sipush 1000 dX6_let_39 rfl ?_
          refine ca_X6_55 dX6_let_42 (t_X6_within 1 1000 rfl rfl) (by decide) (Nat.le_of_ble_eq_true rfl) ?_
          refine g_if_neb 51 dX6_let_45 (by decide) (fun h45 => ?_) (fun h45 => ?_)
          · refine g_aload_n 0 dX6_let_51 rfl rfl ?_
            refine gf_X6_40 dX6_let_52 ?_
            refine gf_X6_148 dX6_let_55 ?_
            refine g_bipush 10 dX6_let_58 rfl ?_
            refine g_icmp_lt 66 _ 10 dX6_let_60 (by decide) rfl rfl (fun h60 => ?_) (fun h60 => ?_)
            · refine g_aload_n 0 dX6_let_66 rfl rfl ?_
              refine gf_X6_26 dX6_let_67 ?_
              refine g_iload 4 dX6_let_70 rfl ?_
              refine ca_X6_127 dX6_let_72 (t_X4_wasUsed) (by decide) (Nat.le_of_ble_eq_true rfl) ?_
              refine g_if_eqb 81 dX6_let_75 (by decide) (fun h75 => ?_) (fun h75 => ?_)
              · refine g_aload_n 0 dX6_let_81 rfl rfl ?_
                refine gf_X6_40 dX6_let_82 ?_
                refine gf_X6_148 dX6_let_85 ?_
                rw [hce]
                refine g_istN dX6_let_88 (by decide) rfl ?_
                refine g_aload_n 1 dX6_let_90 rfl rfl ?_
                refine gf_X6_40 dX6_let_91 ?_
                refine g_iload_n 2 dX6_let_94 rfl rfl ?_
                refine g_iload_n 3 dX6_let_95 rfl rfl ?_
                refine g_iload_n 4 dX6_let_96 rfl rfl ?_
                refine g_iload 5 dX6_let_97 rfl ?_
                refine ca_X6_149 dX6_let_99 (t_X3_add hce (by omega)) (by decide) (Nat.le_of_ble_eq_true rfl) ?_
                refine g_aload_n 1 dX6_let_102 rfl rfl ?_
                refine gf_X6_26 dX6_let_103 ?_
                refine g_iload 5 dX6_let_106 rfl ?_
                refine g_bipush 100 dX6_let_108 rfl ?_
                refine g_iload 0 dX6_let_110 rfl ?_
                refine g_iadd dX6_let_112 ?_
                rw [show (100 : Int32) + nI ne = nI (100 + ne) from nI_add 100 ne]
                refine ca_X6_130 dX6_let_113 (t_X4_use) (by decide) (Nat.le_of_ble_eq_true rfl) ?_
                refine g_iload 0 dX6_let_116 rfl ?_
                refine g_iret dX6_let_118 rfl rfl ?_ ?_
                · (repeat' split) <;> first | rfl | (exfalso; omega) | (exfalso; simp_all; done) | (exfalso; simp_all; omega)
                · (repeat' split) <;> first | rfl | (exfalso; omega) | (exfalso; simp_all; done) | (exfalso; simp_all; omega)
              · refine g_bipush (-5) dX6_let_78 rfl ?_
                refine g_iret dX6_let_80 rfl rfl ?_ ?_
                · (repeat' split) <;> first | rfl | (exfalso; omega) | (exfalso; simp_all; done) | (exfalso; simp_all; omega)
                · (repeat' split) <;> first | rfl | (exfalso; omega) | (exfalso; simp_all; done) | (exfalso; simp_all; omega)
            · refine g_bipush (-4) dX6_let_63 rfl ?_
              refine g_iret dX6_let_65 rfl rfl ?_ ?_
              · (repeat' split) <;> first | rfl | (exfalso; omega) | (exfalso; simp_all; done) | (exfalso; simp_all; omega)
              · (repeat' split) <;> first | rfl | (exfalso; omega) | (exfalso; simp_all; done) | (exfalso; simp_all; omega)
          · refine g_bipush (-2) dX6_let_48 rfl ?_
            refine g_iret dX6_let_50 rfl rfl ?_ ?_
            · (repeat' split) <;> first | rfl | (exfalso; omega) | (exfalso; simp_all; done) | (exfalso; simp_all; omega)
            · (repeat' split) <;> first | rfl | (exfalso; omega) | (exfalso; simp_all; done) | (exfalso; simp_all; omega)
    · refine g_iconst (-1) dX6_let_18 rfl ?_
      refine g_iret dX6_let_19 rfl rfl ?_ ?_
      · (repeat' split) <;> first | rfl | (exfalso; omega) | (exfalso; simp_all; done) | (exfalso; simp_all; omega)
      · (repeat' split) <;> first | rfl | (exfalso; omega) | (exfalso; simp_all; done) | (exfalso; simp_all; omega)
set_option maxRecDepth 20000 in
theorem t_X6_isVoid {E : En} {w : W0} {ne nl : Nat} {i : Int32} (hce : w 5 4 = nI ne) (hne : ne ≤ 10) (hcl : w 1 2 = nI nl) (hnl : nl ≤ 8) : Mt E 4 yX6_isVoid cX6_isVoid 2 (some .int) [.ref (E.1 0), .int i] w (some (.int (if hasE w i then flawF w nl i.toNatClampNeg else -1))) w := by
  refine Mt.of (by decide +kernel) (Nat.le_of_ble_eq_true rfl) ?_
  show G E 4 RX6 cX6_isVoid 2 (some .int) _ _ 0 [(0, .ref (E.1 0)), (1, .int i)] [] w
  have hceI : (w 5 4).toInt = (ne : Int) := by rw [hce]; exact nI_toInt (by omega)
  refine g_aload_n 0 dX6_isVoid_0 rfl rfl ?_
  refine gf_X6_40 dX6_isVoid_1 ?_
  refine g_iload_n 1 dX6_isVoid_4 rfl rfl ?_
  refine ca_X6_122 dX6_isVoid_5 (t_X3_has) (by decide) (Nat.le_of_ble_eq_true rfl) ?_
  refine g_if_neb 13 dX6_isVoid_8 (by decide) (fun h8 => ?_) (fun h8 => ?_)
  · refine g_aload_n 0 dX6_isVoid_13 rfl rfl ?_
    refine gf_X6_40 dX6_isVoid_14 ?_
    refine g_iload_n 1 dX6_isVoid_17 rfl rfl ?_
    refine g_aload_n 0 dX6_isVoid_18 rfl rfl ?_
    refine gf_X6_10 dX6_isVoid_19 ?_
    refine g_aload_n 0 dX6_isVoid_22 rfl rfl ?_
    refine gf_X6_26 dX6_isVoid_23 ?_
    refine ca_X6_152 dX6_isVoid_26 (t_X3_flawsOf hce hne (nat_lt (by omega) (by omega)) (nI_back (by omega)) hcl hnl) (by decide) (Nat.le_of_ble_eq_true rfl) ?_
    refine g_iret dX6_isVoid_29 rfl rfl ?_ ?_
    · (repeat' split) <;> first | rfl | (exfalso; omega) | (exfalso; simp_all; done) | (exfalso; simp_all; omega)
    · (repeat' split) <;> first | rfl | (exfalso; omega) | (exfalso; simp_all; done) | (exfalso; simp_all; omega)
  · refine g_iconst (-1) dX6_isVoid_11 rfl ?_
    refine g_iret dX6_isVoid_12 rfl rfl ?_ ?_
    · (repeat' split) <;> first | rfl | (exfalso; omega) | (exfalso; simp_all; done) | (exfalso; simp_all; omega)
    · (repeat' split) <;> first | rfl | (exfalso; omega) | (exfalso; simp_all; done) | (exfalso; simp_all; omega)
set_option maxRecDepth 20000 in
theorem t_X6_arrears {E : En} {w : W0} {ne nl ni : Nat} {i day : Int32} (hce : w 5 4 = nI ne) (hne : ne ≤ 10) (hcl : w 1 2 = nI nl) (hnl : nl ≤ 8) (hci : w 4 7 = nI ni) (hni : ni ≤ 60) : Mt E 4 yX6_arrears cX6_arrears 5 (some .int) [.ref (E.1 0), .int i, .int day] w (some (.int (if hasE w i then (if dayP day then (if flawF w nl i.toNatClampNeg = 0 then dueF w i.toNatClampNeg day else 0) - hadF (w 26) (w 27) (w 24) (w 25) i day ni else -100000002) else -100000001))) w := by
  refine Mt.of (by decide +kernel) (Nat.le_of_ble_eq_true rfl) ?_
  show G E 4 RX6 cX6_arrears 5 (some .int) _ _ 0 [(0, .ref (E.1 0)), (1, .int i), (2, .int day)] [] w
  have hceI : (w 5 4).toInt = (ne : Int) := by rw [hce]; exact nI_toInt (by omega)
  refine g_aload_n 0 dX6_arrears_0 rfl rfl ?_
  refine gf_X6_40 dX6_arrears_1 ?_
  refine g_iload_n 1 dX6_arrears_4 rfl rfl ?_
  refine ca_X6_122 dX6_arrears_5 (t_X3_has) (by decide) (Nat.le_of_ble_eq_true rfl) ?_
  refine g_if_neb 14 dX6_arrears_8 (by decide) (fun h8 => ?_) (fun h8 => ?_)
  · refine g_iload_n 2 dX6_arrears_14 rfl rfl ?_
    refine ca_X6_51 dX6_arrears_15 (t_X6_isDay) (by decide) (Nat.le_of_ble_eq_true rfl) ?_
    refine g_if_neb 24 dX6_arrears_18 (by decide) (fun h18 => ?_) (fun h18 => ?_)
    · refine g_aload_n 0 dX6_arrears_24 rfl rfl ?_
      refine gf_X6_40 dX6_arrears_25 ?_
      refine g_iload_n 1 dX6_arrears_28 rfl rfl ?_
      refine g_aload_n 0 dX6_arrears_29 rfl rfl ?_
      refine gf_X6_10 dX6_arrears_30 ?_
      refine g_aload_n 0 dX6_arrears_33 rfl rfl ?_
      refine gf_X6_26 dX6_arrears_34 ?_
      refine ca_X6_152 dX6_arrears_37 (t_X3_flawsOf hce hne (nat_lt (by omega) (by omega)) (nI_back (by omega)) hcl hnl) (by decide) (Nat.le_of_ble_eq_true rfl) ?_
      refine g_if_ne 47 dX6_arrears_40 (by decide) (fun h40 => ?_) (fun h40 => ?_)
      · refine g_iconst 0 dX6_arrears_47 rfl ?_
        refine g_istN_n dX6_arrears_48 rfl (by decide) rfl ?_
        refine g_iload_n 0 dX6_arrears_49 rfl rfl ?_
        refine g_if_eq 65 dX6_arrears_50 (by decide) (fun h50 => ?_) (fun h50 => False.elim (by exact absurd h50 (by decide)))
        refine g_iconst 0 dX6_arrears_65 rfl ?_
        refine g_istN dX6_arrears_66 (by decide) rfl ?_
        refine g_iload 0 dX6_arrears_68 rfl ?_
        refine g_aload_n 2 dX6_arrears_70 rfl rfl ?_
        refine gf_X6_33 dX6_arrears_71 ?_
        refine g_iload_n 3 dX6_arrears_74 rfl rfl ?_
        refine g_iload_n 4 dX6_arrears_75 rfl rfl ?_
        refine ca_X6_158 dX6_arrears_76 (t_X1_hadOf hci hni) (by decide) (Nat.le_of_ble_eq_true rfl) ?_
        refine g_isub dX6_arrears_79 ?_
        refine g_iret dX6_arrears_80 rfl rfl ?_ ?_
        · (repeat' split) <;> first | rfl | (exfalso; omega) | (exfalso; simp_all; done) | (exfalso; simp_all; omega)
        · (repeat' split) <;> first | rfl | (exfalso; omega) | (exfalso; simp_all; done) | (exfalso; simp_all; omega)
      · refine g_iconst 1 dX6_arrears_43 rfl ?_
        refine g_goto 48 dX6_arrears_44 (by decide) ?_
        refine g_istN_n dX6_arrears_48 rfl (by decide) rfl ?_
        refine g_iload_n 0 dX6_arrears_49 rfl rfl ?_
        refine g_if_eq 65 dX6_arrears_50 (by decide) (fun h50 => False.elim (by exact absurd h50 (by decide))) (fun h50 => ?_)
        refine g_aload_n 1 dX6_arrears_53 rfl rfl ?_
        refine gf_X6_40 dX6_arrears_54 ?_
        refine g_iload_n 2 dX6_arrears_57 rfl rfl ?_
        refine g_iload_n 3 dX6_arrears_58 rfl rfl ?_
        refine ca_X6_155 dX6_arrears_59 (t_X3_dueBy hce hne (nat_lt (by omega) (by omega)) (nI_back (by omega))) (by decide) (Nat.le_of_ble_eq_true rfl) ?_
        refine g_goto 66 dX6_arrears_62 (by decide) ?_
        refine g_istN dX6_arrears_66 (by decide) rfl ?_
        refine g_iload 0 dX6_arrears_68 rfl ?_
        refine g_aload_n 2 dX6_arrears_70 rfl rfl ?_
        refine gf_X6_33 dX6_arrears_71 ?_
        refine g_iload_n 3 dX6_arrears_74 rfl rfl ?_
        refine g_iload_n 4 dX6_arrears_75 rfl rfl ?_
        refine ca_X6_158 dX6_arrears_76 (t_X1_hadOf hci hni) (by decide) (Nat.le_of_ble_eq_true rfl) ?_
        refine g_isub dX6_arrears_79 ?_
        refine g_iret dX6_arrears_80 rfl rfl ?_ ?_
        · (repeat' split) <;> first | rfl | (exfalso; omega) | (exfalso; simp_all; done) | (exfalso; simp_all; omega)
        · (repeat' split) <;> first | rfl | (exfalso; omega) | (exfalso; simp_all; done) | (exfalso; simp_all; omega)
    · refine g_ldc (-100000002) dX6_arrears_21 lk_X6_106 ?_
      refine g_iret dX6_arrears_23 rfl rfl ?_ ?_
      · (repeat' split) <;> first | rfl | (exfalso; omega) | (exfalso; simp_all; done) | (exfalso; simp_all; omega)
      · (repeat' split) <;> first | rfl | (exfalso; omega) | (exfalso; simp_all; done) | (exfalso; simp_all; omega)
  · refine g_ldc (-100000001) dX6_arrears_11 lk_X6_93 ?_
    refine g_iret dX6_arrears_13 rfl rfl ?_ ?_
    · (repeat' split) <;> first | rfl | (exfalso; omega) | (exfalso; simp_all; done) | (exfalso; simp_all; omega)
    · (repeat' split) <;> first | rfl | (exfalso; omega) | (exfalso; simp_all; done) | (exfalso; simp_all; omega)
set_option maxRecDepth 20000 in
theorem t_X6_pot {E : En} {w : W0} {nl nw ni : Nat} (hcl : w 1 2 = nI nl) (hnl : nl ≤ 8) (hcw : w 2 5 = nI nw) (hnw : nw ≤ 6) (hci : w 4 7 = nI ni) (hni : ni ≤ 60) {day : Int32} : Mt E 7 yX6_pot cX6_pot 2 (some .int) [.ref (E.1 0), .int day] w (some (.int (if dayP day then potF (setlW w nl nw ni) nw ni day.toNatClampNeg else -100000002))) (if dayP day then setlW w nl nw ni else w) := by
  refine Mt.of (by decide +kernel) (Nat.le_of_ble_eq_true rfl) ?_
  show G E 7 RX6 cX6_pot 2 (some .int) _ _ 0 [(0, .ref (E.1 0)), (1, .int day)] [] w
  refine g_iload_n 1 dX6_pot_0 rfl rfl ?_
  refine ca_X6_51 dX6_pot_1 (t_X6_isDay) (by decide) (Nat.le_of_ble_eq_true rfl) ?_
  refine g_if_neb 10 dX6_pot_4 (by decide) (fun h4 => ?_) (fun h4 => ?_)
  · refine g_aload_n 0 dX6_pot_10 rfl rfl ?_
    refine ca_X6_94 dX6_pot_11 (t_X6_settle hcl hnl hcw hnw hci hni) (by decide) (Nat.le_of_ble_eq_true rfl) ?_
    refine g_aload_n 0 dX6_pot_14 rfl rfl ?_
    refine gf_X6_47 dX6_pot_15 ?_
    refine g_iload_n 1 dX6_pot_18 rfl rfl ?_
    refine g_aload_n 0 dX6_pot_19 rfl rfl ?_
    refine gf_X6_19 dX6_pot_20 ?_
    refine g_aload_n 0 dX6_pot_23 rfl rfl ?_
    refine gf_X6_33 dX6_pot_24 ?_
    refine ca_X6_161 dX6_pot_27 (t_X0_potAfter (by rw [setlW_ne (by decide)]; exact hcw) hnw (by rw [setlW_ne (by decide)]; exact hci) hni (nat_lt (by omega) (by omega)) (nI_back (by omega))) (by decide) (Nat.le_of_ble_eq_true rfl) ?_
    refine g_iret dX6_pot_30 rfl rfl ?_ ?_
    · (repeat' split) <;> first | rfl | (exfalso; omega) | (exfalso; simp_all; done) | (exfalso; simp_all; omega)
    · (repeat' split) <;> first | rfl | (exfalso; omega) | (exfalso; simp_all; done) | (exfalso; simp_all; omega)
  · refine g_ldc (-100000002) dX6_pot_7 lk_X6_106 ?_
    refine g_iret dX6_pot_9 rfl rfl ?_ ?_
    · (repeat' split) <;> first | rfl | (exfalso; omega) | (exfalso; simp_all; done) | (exfalso; simp_all; omega)
    · (repeat' split) <;> first | rfl | (exfalso; omega) | (exfalso; simp_all; done) | (exfalso; simp_all; omega)
set_option maxRecDepth 20000 in
theorem t_X6_account {E : En} {w : W0} {nl nw ni : Nat} (hcl : w 1 2 = nI nl) (hnl : nl ≤ 8) (hcw : w 2 5 = nI nw) (hnw : nw ≤ 6) (hci : w 4 7 = nI ni) (hni : ni ≤ 60) {y z : Int32} : Mt E 7 yX6_account cX6_account 3 (some .int) [.ref (E.1 0), .int y, .int z] w (some (.int (if yearP y then (if 0 ≤ z.toInt ∧ z.toInt ≤ 5 then setlW w nl nw ni (36 + y.toNatClampNeg) z.toNatClampNeg else -100000002) else -100000001))) (if yearP y ∧ (0 ≤ z.toInt ∧ z.toInt ≤ 5) then setlW w nl nw ni else w) := by
  refine Mt.of (by decide +kernel) (Nat.le_of_ble_eq_true rfl) ?_
  show G E 7 RX6 cX6_account 3 (some .int) _ _ 0 [(0, .ref (E.1 0)), (1, .int y), (2, .int z)] [] w
  refine g_iload_n 1 dX6_account_0 rfl rfl ?_
  refine ca_X6_165 dX6_account_1 (t_X6_isYear) (by decide) (Nat.le_of_ble_eq_true rfl) ?_
  refine g_if_neb 10 dX6_account_4 (by decide) (fun h4 => ?_) (fun h4 => ?_)
  · refine g_iload_n 2 dX6_account_10 rfl rfl ?_
    refine g_iconst 0 dX6_account_11 rfl ?_
    refine g_iconst 5 dX6_account_12 rfl ?_
    refine ca_X6_55 dX6_account_13 (t_X6_within 0 5 rfl rfl) (by decide) (Nat.le_of_ble_eq_true rfl) ?_
    refine g_if_neb 22 dX6_account_16 (by decide) (fun h16 => ?_) (fun h16 => ?_)
    · refine g_aload_n 0 dX6_account_22 rfl rfl ?_
      refine ca_X6_94 dX6_account_23 (t_X6_settle hcl hnl hcw hnw hci hni) (by decide) (Nat.le_of_ble_eq_true rfl) ?_
      refine g_aload_n 0 dX6_account_26 rfl rfl ?_
      refine gf_X6_47 dX6_account_27 ?_
      refine g_iload_n 1 dX6_account_30 rfl rfl ?_
      refine g_iload_n 2 dX6_account_31 rfl rfl ?_
      refine ca_X6_168 dX6_account_32 (t_X0_entry (nat_lt (by omega) (by omega)) (nI_back (by omega)) (toNat_back (by omega)) (nat_lt (by omega) (by omega))) (by decide) (Nat.le_of_ble_eq_true rfl) ?_
      refine g_iret dX6_account_35 rfl rfl ?_ ?_
      · (repeat' split) <;> first | rfl | (exfalso; omega) | (exfalso; simp_all; done) | (exfalso; simp_all; omega)
      · (repeat' split) <;> first | rfl | (exfalso; omega) | (exfalso; simp_all; done) | (exfalso; simp_all; omega)
    · refine g_ldc (-100000002) dX6_account_19 lk_X6_106 ?_
      refine g_iret dX6_account_21 rfl rfl ?_ ?_
      · (repeat' split) <;> first | rfl | (exfalso; omega) | (exfalso; simp_all; done) | (exfalso; simp_all; omega)
      · (repeat' split) <;> first | rfl | (exfalso; omega) | (exfalso; simp_all; done) | (exfalso; simp_all; omega)
  · refine g_ldc (-100000001) dX6_account_7 lk_X6_93 ?_
    refine g_iret dX6_account_9 rfl rfl ?_ ?_
    · (repeat' split) <;> first | rfl | (exfalso; omega) | (exfalso; simp_all; done) | (exfalso; simp_all; omega)
    · (repeat' split) <;> first | rfl | (exfalso; omega) | (exfalso; simp_all; done) | (exfalso; simp_all; omega)
theorem keepW_row {w : W0} {y p : Nat} (hy : y < 10) : keepW w y (36 + y) p = w (36 + y) p := by
  unfold keepW keptW
  rw [setW_ne (by omega), setA_ne (by omega)]
set_option maxRecDepth 20000 in
theorem t_X6_pass {E : En} {w : W0} {nl nw ni : Nat} (hcl : w 1 2 = nI nl) (hnl : nl ≤ 8) (hcw : w 2 5 = nI nw) (hnw : nw ≤ 6) (hci : w 4 7 = nI ni) (hni : ni ≤ 60) {y : Int32} : Mt E 7 yX6_pass cX6_pass 2 (some .int) [.ref (E.1 0), .int y] w (some (.int (if yearP y then setlW w nl nw ni (36 + y.toNatClampNeg) 5 else -100000001))) (if yearP y then keepW (setlW w nl nw ni) y.toNatClampNeg else w) := by
  refine Mt.of (by decide +kernel) (Nat.le_of_ble_eq_true rfl) ?_
  show G E 7 RX6 cX6_pass 2 (some .int) _ _ 0 [(0, .ref (E.1 0)), (1, .int y)] [] w
  refine g_iload_n 1 dX6_pass_0 rfl rfl ?_
  refine ca_X6_165 dX6_pass_1 (t_X6_isYear) (by decide) (Nat.le_of_ble_eq_true rfl) ?_
  refine g_if_neb 10 dX6_pass_4 (by decide) (fun h4 => ?_) (fun h4 => ?_)
  · refine g_aload_n 0 dX6_pass_10 rfl rfl ?_
    refine ca_X6_94 dX6_pass_11 (t_X6_settle hcl hnl hcw hnw hci hni) (by decide) (Nat.le_of_ble_eq_true rfl) ?_
    refine g_aload_n 0 dX6_pass_14 rfl rfl ?_
    refine gf_X6_47 dX6_pass_15 ?_
    refine g_iload_n 1 dX6_pass_18 rfl rfl ?_
    refine ca_X6_171 dX6_pass_19 (t_X0_keep (nat_lt (by omega) (by omega)) (nI_back (by omega))) (by decide) (Nat.le_of_ble_eq_true rfl) ?_
    refine g_aload_n 0 dX6_pass_22 rfl rfl ?_
    refine gf_X6_47 dX6_pass_23 ?_
    refine g_iload_n 1 dX6_pass_26 rfl rfl ?_
    refine g_iconst 5 dX6_pass_27 rfl ?_
    refine ca_X6_168 dX6_pass_28 (t_X0_entry (p := 5) (nat_lt (by omega) (by omega)) (nI_back (by omega)) rfl (by decide)) (by decide) (Nat.le_of_ble_eq_true rfl) ?_
    refine g_iret dX6_pass_31 rfl rfl ?_ ?_
    · (try rw [keepW_row (nat_lt (n := 10) (by omega) (by omega))]); (repeat' split) <;> first | rfl | (exfalso; omega) | (exfalso; simp_all; done) | (exfalso; simp_all; omega)
    · (repeat' split) <;> first | rfl | (exfalso; omega) | (exfalso; simp_all; done) | (exfalso; simp_all; omega)
  · refine g_ldc (-100000001) dX6_pass_7 lk_X6_93 ?_
    refine g_iret dX6_pass_9 rfl rfl ?_ ?_
    · (try rw [keepW_row (nat_lt (n := 10) (by omega) (by omega))]); (repeat' split) <;> first | rfl | (exfalso; omega) | (exfalso; simp_all; done) | (exfalso; simp_all; omega)
    · (repeat' split) <;> first | rfl | (exfalso; omega) | (exfalso; simp_all; done) | (exfalso; simp_all; omega)
set_option maxRecDepth 20000 in
theorem t_X6_passed {E : En} {w : W0} {y z : Int32} : Mt E 3 yX6_passed cX6_passed 3 (some .int) [.ref (E.1 0), .int y, .int z] w (some (.int (if yearP y then (if 0 ≤ z.toInt ∧ z.toInt ≤ 5 then (if ¬ (w 6 2 >>> (y &&& 31)) &&& 1 = 0 then w (47 + y.toNatClampNeg) z.toNatClampNeg else -100000003) else -100000002) else -100000001))) w := by
  refine Mt.of (by decide +kernel) (Nat.le_of_ble_eq_true rfl) ?_
  show G E 3 RX6 cX6_passed 3 (some .int) _ _ 0 [(0, .ref (E.1 0)), (1, .int y), (2, .int z)] [] w
  refine g_iload_n 1 dX6_passed_0 rfl rfl ?_
  refine ca_X6_165 dX6_passed_1 (t_X6_isYear) (by decide) (Nat.le_of_ble_eq_true rfl) ?_
  refine g_if_neb 10 dX6_passed_4 (by decide) (fun h4 => ?_) (fun h4 => ?_)
  · refine g_iload_n 2 dX6_passed_10 rfl rfl ?_
    refine g_iconst 0 dX6_passed_11 rfl ?_
    refine g_iconst 5 dX6_passed_12 rfl ?_
    refine ca_X6_55 dX6_passed_13 (t_X6_within 0 5 rfl rfl) (by decide) (Nat.le_of_ble_eq_true rfl) ?_
    refine g_if_neb 22 dX6_passed_16 (by decide) (fun h16 => ?_) (fun h16 => ?_)
    · refine g_aload_n 0 dX6_passed_22 rfl rfl ?_
      refine gf_X6_47 dX6_passed_23 ?_
      refine g_iload_n 1 dX6_passed_26 rfl rfl ?_
      refine ca_X6_174 dX6_passed_27 (t_X0_wasKept (nat_lt (by omega) (by omega)) (nI_back (by omega))) (by decide) (Nat.le_of_ble_eq_true rfl) ?_
      refine g_if_neb 36 dX6_passed_30 (by decide) (fun h30 => ?_) (fun h30 => ?_)
      · refine g_aload_n 0 dX6_passed_36 rfl rfl ?_
        refine gf_X6_47 dX6_passed_37 ?_
        refine g_iload_n 1 dX6_passed_40 rfl rfl ?_
        refine g_iload_n 2 dX6_passed_41 rfl rfl ?_
        refine ca_X6_178 dX6_passed_42 (t_X0_keptEntry (nat_lt (by omega) (by omega)) (nI_back (by omega)) (toNat_back (by omega)) (nat_lt (by omega) (by omega))) (by decide) (Nat.le_of_ble_eq_true rfl) ?_
        refine g_iret dX6_passed_45 rfl rfl ?_ ?_
        · (repeat' split) <;> first | rfl | (exfalso; omega) | (exfalso; simp_all; done) | (exfalso; simp_all; omega)
        · (repeat' split) <;> first | rfl | (exfalso; omega) | (exfalso; simp_all; done) | (exfalso; simp_all; omega)
      · refine g_ldc (-100000003) dX6_passed_33 lk_X6_177 ?_
        refine g_iret dX6_passed_35 rfl rfl ?_ ?_
        · (repeat' split) <;> first | rfl | (exfalso; omega) | (exfalso; simp_all; done) | (exfalso; simp_all; omega)
        · (repeat' split) <;> first | rfl | (exfalso; omega) | (exfalso; simp_all; done) | (exfalso; simp_all; omega)
    · refine g_ldc (-100000002) dX6_passed_19 lk_X6_106 ?_
      refine g_iret dX6_passed_21 rfl rfl ?_ ?_
      · (repeat' split) <;> first | rfl | (exfalso; omega) | (exfalso; simp_all; done) | (exfalso; simp_all; omega)
      · (repeat' split) <;> first | rfl | (exfalso; omega) | (exfalso; simp_all; done) | (exfalso; simp_all; omega)
  · refine g_ldc (-100000001) dX6_passed_7 lk_X6_93 ?_
    refine g_iret dX6_passed_9 rfl rfl ?_ ?_
    · (repeat' split) <;> first | rfl | (exfalso; omega) | (exfalso; simp_all; done) | (exfalso; simp_all; omega)
    · (repeat' split) <;> first | rfl | (exfalso; omega) | (exfalso; simp_all; done) | (exfalso; simp_all; omega)
set_option maxRecDepth 20000 in
theorem t_X6_open {E : En} {w : W0} {nl nw ni : Nat} (hcl : w 1 2 = nI nl) (hnl : nl ≤ 8) (hcw : w 2 5 = nI nw) (hnw : nw ≤ 6) (hci : w 4 7 = nI ni) (hni : ni ≤ 60) : Mt E 7 yX6_open cX6_open 1 (some .int) [.ref (E.1 0)] w (some (.int (cyF (setlW w nl nw ni) 10))) (setlW w nl nw ni) := by
  refine Mt.of (by decide +kernel) (Nat.le_of_ble_eq_true rfl) ?_
  show G E 7 RX6 cX6_open 1 (some .int) _ _ 0 [(0, .ref (E.1 0))] [] w
  refine g_aload_n 0 dX6_open_0 rfl rfl ?_
  refine ca_X6_94 dX6_open_1 (t_X6_settle hcl hnl hcw hnw hci hni) (by decide) (Nat.le_of_ble_eq_true rfl) ?_
  refine g_aload_n 0 dX6_open_4 rfl rfl ?_
  refine gf_X6_47 dX6_open_5 ?_
  refine ca_X6_181 dX6_open_8 (t_X0_changedYears) (by decide) (Nat.le_of_ble_eq_true rfl) ?_
  refine g_iret dX6_open_11 rfl rfl ?_ ?_
  · rfl
  · rfl
set_option maxRecDepth 20000 in
theorem t_X6_told {E : En} {w : W0} {what : Int32} : Mt E 1 yX6_told cX6_told 2 (some .int) [.ref (E.1 0), .int what] w (some (.int (if what.toInt = 0 then w 1 2 else if what.toInt = 1 then w 2 5 else if what.toInt = 2 then w 3 2 else if what.toInt = 3 then w 4 7 else if what.toInt = 4 then w 5 4 else if what.toInt = 5 then w 6 2 else -2))) w := by
  refine Mt.of (by decide +kernel) (Nat.le_of_ble_eq_true rfl) ?_
  show G E 1 RX6 cX6_told 2 (some .int) _ _ 0 [(0, .ref (E.1 0)), (1, .int what)] [] w
  refine g_iload_n 1 dX6_told_0 rfl rfl ?_
  rcases sw5 what with hsw | hsw | hsw | hsw | hsw | hsw | hsw
  · refine g_tableIn (off := 39) 40 dX6_told_1 (by rw [hsw]; decide) (by rw [hsw]; decide) (by rw [hsw]; rfl) (by decide) ?_
    refine g_aload_n 0 dX6_told_40 rfl rfl ?_
    refine gf_X6_10 dX6_told_41 ?_
    refine gf_X6_59 dX6_told_44 ?_
    refine g_iret dX6_told_47 rfl rfl ?_ ?_
    · (repeat' split) <;> first | rfl | (exfalso; omega) | (exfalso; simp_all; done) | (exfalso; simp_all; omega)
    · (repeat' split) <;> first | rfl | (exfalso; omega) | (exfalso; simp_all; done) | (exfalso; simp_all; omega)
  · refine g_tableIn (off := 47) 48 dX6_told_1 (by rw [hsw]; decide) (by rw [hsw]; decide) (by rw [hsw]; rfl) (by decide) ?_
    refine g_aload_n 0 dX6_told_48 rfl rfl ?_
    refine gf_X6_19 dX6_told_49 ?_
    refine gf_X6_75 dX6_told_52 ?_
    refine g_iret dX6_told_55 rfl rfl ?_ ?_
    · (repeat' split) <;> first | rfl | (exfalso; omega) | (exfalso; simp_all; done) | (exfalso; simp_all; omega)
    · (repeat' split) <;> first | rfl | (exfalso; omega) | (exfalso; simp_all; done) | (exfalso; simp_all; omega)
  · refine g_tableIn (off := 55) 56 dX6_told_1 (by rw [hsw]; decide) (by rw [hsw]; decide) (by rw [hsw]; rfl) (by decide) ?_
    refine g_aload_n 0 dX6_told_56 rfl rfl ?_
    refine gf_X6_26 dX6_told_57 ?_
    refine gf_X6_113 dX6_told_60 ?_
    refine g_iret dX6_told_63 rfl rfl ?_ ?_
    · (repeat' split) <;> first | rfl | (exfalso; omega) | (exfalso; simp_all; done) | (exfalso; simp_all; omega)
    · (repeat' split) <;> first | rfl | (exfalso; omega) | (exfalso; simp_all; done) | (exfalso; simp_all; omega)
  · refine g_tableIn (off := 63) 64 dX6_told_1 (by rw [hsw]; decide) (by rw [hsw]; decide) (by rw [hsw]; rfl) (by decide) ?_
    refine g_aload_n 0 dX6_told_64 rfl rfl ?_
    refine gf_X6_33 dX6_told_65 ?_
    refine gf_X6_123 dX6_told_68 ?_
    refine g_iret dX6_told_71 rfl rfl ?_ ?_
    · (repeat' split) <;> first | rfl | (exfalso; omega) | (exfalso; simp_all; done) | (exfalso; simp_all; omega)
    · (repeat' split) <;> first | rfl | (exfalso; omega) | (exfalso; simp_all; done) | (exfalso; simp_all; omega)
  · refine g_tableIn (off := 71) 72 dX6_told_1 (by rw [hsw]; decide) (by rw [hsw]; decide) (by rw [hsw]; rfl) (by decide) ?_
    refine g_aload_n 0 dX6_told_72 rfl rfl ?_
    refine gf_X6_40 dX6_told_73 ?_
    refine gf_X6_148 dX6_told_76 ?_
    refine g_iret dX6_told_79 rfl rfl ?_ ?_
    · (repeat' split) <;> first | rfl | (exfalso; omega) | (exfalso; simp_all; done) | (exfalso; simp_all; omega)
    · (repeat' split) <;> first | rfl | (exfalso; omega) | (exfalso; simp_all; done) | (exfalso; simp_all; omega)
  · refine g_tableIn (off := 79) 80 dX6_told_1 (by rw [hsw]; decide) (by rw [hsw]; decide) (by rw [hsw]; rfl) (by decide) ?_
    refine g_aload_n 0 dX6_told_80 rfl rfl ?_
    refine gf_X6_47 dX6_told_81 ?_
    refine gf_X6_185 dX6_told_84 ?_
    refine g_iret dX6_told_87 rfl rfl ?_ ?_
    · (repeat' split) <;> first | rfl | (exfalso; omega) | (exfalso; simp_all; done) | (exfalso; simp_all; omega)
    · (repeat' split) <;> first | rfl | (exfalso; omega) | (exfalso; simp_all; done) | (exfalso; simp_all; omega)
  · refine g_tableOut 88 dX6_told_1 (by omega) (by decide) ?_
    refine g_bipush (-2) dX6_told_88 rfl ?_
    refine g_iret dX6_told_90 rfl rfl ?_ ?_
    · (repeat' split) <;> first | rfl | (exfalso; omega) | (exfalso; simp_all; done) | (exfalso; simp_all; omega)
    · (repeat' split) <;> first | rfl | (exfalso; omega) | (exfalso; simp_all; done) | (exfalso; simp_all; omega)
end
